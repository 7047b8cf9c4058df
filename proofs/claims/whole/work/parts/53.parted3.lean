def ptD (al : Nat → Bool) (c : Nat) (w z : Int) : Prop := (∃ p, bst al c p ∧ z = if w = 0 then (di c p : Int) else (fg c p : Int)) ∨ z = -4 ∧ ∀ p, p < 26 → al p = true
theorem bst_cg {al al' : Nat → Bool} {c p : Nat} (h : ∀ q, q < 26 → al q = al' q) (hb : bst al c p) : bst al' c p := ⟨hb.1, by rw [← h p hb.1]; exact hb.2.1, fun q q1 q2 => hb.2.2 q q1 (by rw [h q q1]; exact q2)⟩
theorem ptD_cg {al al' : Nat → Bool} {c : Nat} {w z : Int} (h : ∀ q, q < 26 → al q = al' q) (hb : ptD al c w z) : ptD al' c w z := by
  rcases hb with ⟨p, h1, h2⟩ | ⟨h1, h2⟩
  · exact Or.inl ⟨p, bst_cg h h1, h2⟩
  · exact Or.inr ⟨h1, fun p hp => by rw [← h p hp]; exact h2 p hp⟩
theorem ptD_u {al : Nat → Bool} {c : Nat} {w z z' : Int} (hc : c < 26) (h : ptD al c w z) (h' : ptD al c w z') : z = z' := by
  rcases h with ⟨p, h1, h2⟩ | ⟨h1, h2⟩
  · rcases h' with ⟨q, k1, k2⟩ | ⟨k1, k2⟩
    · rw [h2, k2, bst_eq hc h1 k1]
    · have := k2 p h1.1
      rw [h1.2.1] at this
      exact absurd this (by decide)
  · rcases h' with ⟨q, k1, k2⟩ | ⟨k1, k2⟩
    · have := h2 q k1.1
      rw [k1.2.1] at this
      exact absurd this (by decide)
    · rw [h1, k1]
/-- the class's way is this one -/
theorem waC_pa {M : Mem} {a b w z : Int} (hc : (M 0 12).toNat < 26) (h : waC M a b w z) : ptD (fun q : Nat => alC M a b (q : Int)) (M 0 12).toNat w z := by
  rcases h with ⟨i, h1, h2, h3, h4⟩ | ⟨h1, h2⟩
  · obtain ⟨a1, a2⟩ := rk_vq _ hc i h1
    have a3 := (vq_rk _ hc _ a1).2
    rw [a2] at a3
    refine Or.inl ⟨(vq (M 0 12).toNat i).1, ⟨a1, by simpa using h3, fun q q1 q2 => ?_⟩, ?_⟩
    · rw [a2]
      refine Nat.le_of_not_lt fun h7 => ?_
      have h8 := h2 _ h7
      rw [(vq_rk _ hc q q1).2] at h8
      rw [show alC M a b (q : Int) = false from q2] at h8
      exact absurd h8 (by decide)
    · rw [h4]
      have e1 : (vq (M 0 12).toNat i).2.1 = di (M 0 12).toNat (vq (M 0 12).toNat i).1 := congrArg (fun q => q.2.1) a3
      have e2 : (vq (M 0 12).toNat i).2.2 = fg (M 0 12).toNat (vq (M 0 12).toNat i).1 := congrArg (fun q => q.2.2) a3
      rw [← e1, ← e2]
  · refine Or.inr ⟨h1, fun p hp => ?_⟩
    have h8 := h2 _ (vq_rk _ hc p hp).1
    rw [(vq_rk _ hc p hp).2] at h8
    exact h8
abbrev rm_X8_parted : Room := { frames := 5, cells := 0, slots := 0, locals := 126 }
theorem cs_X8_parted : Cv yX8_parted cX8_parted 8 (some .int) 3 := ⟨kw_1112, ⟨kw_1110, kw_1111⟩, kw_67, by decide, by decide, by decide +kernel⟩
set_option maxHeartbeats 4000000 in
set_option maxRecDepth 100000 in
theorem c_X8_parted (l : Launch) (E : Ev) (M : Mem) (a b w : Int) (g1 : -2147483648 ≤ a) (g2 : a < 2147483648) (g3 : -2147483648 ≤ b) (g4 : b < 2147483648) (g5 : -2147483648 ≤ w) (g6 : w < 2147483648) : Ct l yX8_parted cX8_parted 8 (some .int) rm_X8_parted E M [.ref (E.1 (71)), .int (iI (a)), .int (iI (b)), .int (iI (w))] (pI (fun z M' => z = -1 ∧ M' = M ∧ ¬ (0 ≤ a ∧ a < 6 ∧ 0 ≤ b ∧ b < 6 ∧ 0 ≤ w ∧ w < 3) ∨ (0 ≤ a ∧ a < 6 ∧ 0 ≤ b ∧ b < 6 ∧ 0 ≤ w ∧ w < 3) ∧ ofS [81, 82, 83, 84, 87, 88] M M' ∧ (w = 2 ∧ z = ((bK (fun q : Nat => alM M a b (q : Int)) 26 : Nat) : Int) ∨ ¬ w = 2 ∧ ptD (fun q : Nat => alM M a b (q : Int)) (M 71 19).toNat w z))) := by
  refine Ct_of (lv := [(0, .ref (E.1 (71))), (1, .int (iI (a))), (2, .int (iI (b))), (3, .int (iI (w)))]) (by decide) ⟨rfl, rfl⟩ (Nat.le_of_ble_eq_true rfl) rfl (fun x _ B R => ?_)
  refine x_iload_n B dX8_parted_0 1 rfl rfl ?_
  refine x_callS B (st := []) (av := [.int (iI (a))]) dX8_parted_1 cs_X8_isScene kw_1006 ⟨rfl, rfl, Nat.le_of_ble_eq_true rfl, Nat.le_of_ble_eq_true rfl⟩ rfl rfl (Nat.le_of_ble_eq_true rfl) (c_X8_isScene _ E _ a (by omega) (by omega)) (k_i (fun z1 Mq hz1 => ?_))
  obtain ⟨rfl, hz1⟩ := hz1
  refine x_if_eq B (tgt := 26) dX8_parted_4 (by decide) ⟨by omega, by omega⟩ (fun c4 => ?_) (fun c4 => ?_)
  · show Vx x E M 26 [(0, .ref (E.1 (71))), (1, .int (iI (a))), (2, .int (iI (b))), (3, .int (iI (w)))] []
    refine x_iconst B dX8_parted_26 ?_
    exact r_i B R dX8_parted_27 (Or.inl ⟨rfl, rfl, by omega⟩)
  · show Vx x E M 7 [(0, .ref (E.1 (71))), (1, .int (iI (a))), (2, .int (iI (b))), (3, .int (iI (w)))] []
    refine x_iload_n B dX8_parted_7 2 rfl rfl ?_
    refine x_callS B (st := []) (av := [.int (iI (b))]) dX8_parted_8 cs_X8_isScene kw_1006 ⟨rfl, rfl, Nat.le_of_ble_eq_true rfl, Nat.le_of_ble_eq_true rfl⟩ rfl rfl (Nat.le_of_ble_eq_true rfl) (c_X8_isScene _ E _ b (by omega) (by omega)) (k_i (fun z8 Mq hz8 => ?_))
    obtain ⟨rfl, hz8⟩ := hz8
    refine x_if_eq B (tgt := 26) dX8_parted_11 (by decide) ⟨by omega, by omega⟩ (fun c11 => ?_) (fun c11 => ?_)
    · show Vx x E M 26 [(0, .ref (E.1 (71))), (1, .int (iI (a))), (2, .int (iI (b))), (3, .int (iI (w)))] []
      refine x_iconst B dX8_parted_26 ?_
      exact r_i B R dX8_parted_27 (Or.inl ⟨rfl, rfl, by omega⟩)
    · show Vx x E M 14 [(0, .ref (E.1 (71))), (1, .int (iI (a))), (2, .int (iI (b))), (3, .int (iI (w)))] []
      refine x_iload_n B dX8_parted_14 3 rfl rfl ?_
      refine x_i2l B dX8_parted_15 ⟨by omega, by omega⟩ ?_
      refine x_lconst B (z := 0) dX8_parted_16 rfl ?_
      refine x_ldc2 B (z := 2) dX8_parted_17 kw_1076 rfl ?_
      refine x_callS B (st := []) (av := [.long (iL (w)), .long (iL (0)), .long (iL (2))]) dX8_parted_20 cs_X8_in kw_952 ⟨rfl, rfl, Nat.le_of_ble_eq_true rfl, Nat.le_of_ble_eq_true rfl⟩ rfl rfl (Nat.le_of_ble_eq_true rfl) (c_X8_in _ E _ w 0 2 (by omega) (by omega) (by omega) (by omega) (by omega) (by omega)) (k_i (fun z20 Mq hz20 => ?_))
      obtain ⟨rfl, hz20⟩ := hz20
      refine x_if_ne B (tgt := 28) dX8_parted_23 (by decide) ⟨by omega, by omega⟩ (fun c23 => ?_) (fun c23 => ?_)
      · show Vx x E M 28 [(0, .ref (E.1 (71))), (1, .int (iI (a))), (2, .int (iI (b))), (3, .int (iI (w)))] []
        refine x_iconst B dX8_parted_28 ?_
        refine x_istore B dX8_parted_29 [1, 2, 3, 4, 0] (by decide) (lv' := [(0, .ref (E.1 (71))), (1, .int (iI (a))), (2, .int (iI (b))), (3, .int (iI (w))), (4, .int (iI (0)))]) rfl ?_
        refine x_iconst B dX8_parted_31 ?_
        refine x_istore B dX8_parted_32 [1, 2, 3, 4, 5, 0] (by decide) (lv' := [(0, .ref (E.1 (71))), (1, .int (iI (a))), (2, .int (iI (b))), (3, .int (iI (w))), (4, .int (iI (0))), (5, .int (iI (0)))]) rfl ?_
        have L34 : ∀ (v : Int) (k : Int) (M1 : Mem), (0 ≤ k ∧ k ≤ 26 ∧ ofS [81, 82, 83, 84, 87, 88] M M1 ∧ Is v ((bK (fun q : Nat => alM M a b (q : Int)) k.toNat : Nat) : Int) ∧ 0 ≤ v) → Vx x E M1 34 [(0, .ref (E.1 (71))), (1, .int (iI (a))), (2, .int (iI (b))), (3, .int (iI (w))), (4, .int (iI (v))), (5, .int (iI (k)))] [] := by
          refine lo3 _ _ (fun v k M1 => (26 - k).toNat) ?_
          intro v k M1 hI ih34
          obtain ⟨i1, i2, i3, i4, i5⟩ := hI
          refine x_iload B dX8_parted_34 5 rfl ?_
          refine x_bipush B dX8_parted_36 rfl ?_
          refine x_icmp_ge B (tgt := 71) dX8_parted_38 (by decide) ⟨by omega, by omega⟩ ⟨by omega, by omega⟩ (fun c38 => ?_) (fun c38 => ?_)
          · show Vx x E M1 71 [(0, .ref (E.1 (71))), (1, .int (iI (a))), (2, .int (iI (b))), (3, .int (iI (w))), (4, .int (iI (v))), (5, .int (iI (k)))] []
            refine x_iload_n B dX8_parted_71 3 rfl rfl ?_
            refine x_iconst B dX8_parted_72 ?_
            refine x_icmp_ne B (tgt := 79) dX8_parted_73 (by decide) ⟨by omega, by omega⟩ ⟨by omega, by omega⟩ (fun c73 => ?_) (fun c73 => ?_)
            · show Vx x E M1 79 [(0, .ref (E.1 (71))), (1, .int (iI (a))), (2, .int (iI (b))), (3, .int (iI (w))), (4, .int (iI (v))), (5, .int (iI (k)))] []
              have hv26 : v ≤ 67108863 := by
                rw [Is_e i4, show k.toNat = 26 by omega]
                exact (bK_le26 _).2
              have hal : ∀ q, q < 26 → v.toNat.testBit q = alM M a b (q : Int) := fun q hq => by
                rw [Is_e i4, Int.toNat_natCast, bK_bit, decide_eq_true (show q < k.toNat by omega), Bool.true_and]
              refine x_aload_n B dX8_parted_79 0 rfl rfl ?_
              refine x_iload B dX8_parted_80 4 rfl ?_
              refine x_callV B (st := []) (av := [.int (iI (v))]) dX8_parted_82 cs_X8_layFar kw_1113 ⟨rfl, rfl, Nat.le_of_ble_eq_true rfl, Nat.le_of_ble_eq_true rfl⟩ rfl rfl (Nat.le_of_ble_eq_true rfl) (rc_obj B (ci := 8) rfl rfl rfl) (c_X8_layFar _ E _ v (by omega) hv26) (k_v (fun M82 hz82 => ?_))
              have o8 : ofS [81, 82, 83, 84, 87, 88] M M82 := ofS_offC i3 hz82.1 (by decide)
              refine x_aload_n B dX8_parted_85 0 rfl rfl ?_
              refine x_getR B (ci := 8) (k := 31) dX8_parted_86 rfl rfl rfl (by decide) inGX8 kw_836 ?_
              refine x_aload_n B dX8_parted_89 0 rfl rfl ?_
              refine x_getI B (ci := 8) (k := 19) (lo := 0) (hi := 25) dX8_parted_90 rfl rfl rfl (by decide) inGX8 kw_824 rfl (fun z90 ez90 lz90 uz90 => ?_)
              have e90 : z90 = M 71 19 := by rw [Is_e ez90, offC_f hz82.1 (by omega), ofS_o i3 (by decide) (by decide)]
              refine x_iald B (lo := 0) (hi := 100) dX8_parted_93 rfl (by omega) (by omega) rfl (fun z93 ez93 lz93 uz93 => ?_)
              have e93 : z93 = M82 88 (M 71 19).toNat := by rw [Is_e ez93, e90]
              have hc26 : (M 71 19).toNat < 26 := by rw [← e90]; omega
              refine x_bipush B dX8_parted_94 rfl ?_
              refine x_icmp_lt B (tgt := 102) dX8_parted_96 (by decide) ⟨by omega, by omega⟩ ⟨by omega, by omega⟩ (fun c96 => ?_) (fun c96 => ?_)
              · show Vx x E M82 102 [(0, .ref (E.1 (71))), (1, .int (iI (a))), (2, .int (iI (b))), (3, .int (iI (w))), (4, .int (iI (v))), (5, .int (iI (k)))] []
                have hex : ∃ p, bst (fun p => v.toNat.testBit p) (M 71 19).toNat p := by
                  rcases hz82.2 (M 71 19).toNat hc26 with ⟨h1, h2⟩ | ⟨p, p1, p2, p3, p4⟩
                  · exfalso
                    omega
                  · exact bst_ex _ p rfl p1 p2
                obtain ⟨p, hp⟩ := hex
                refine x_iconst B dX8_parted_102 ?_
                refine x_istore B dX8_parted_103 [1, 2, 3, 4, 5, 0] (by decide) (lv' := [(0, .ref (E.1 (71))), (1, .int (iI (a))), (2, .int (iI (b))), (3, .int (iI (w))), (4, .int (iI (v))), (5, .int (iI (1)))]) rfl ?_
                refine x_aload_n B dX8_parted_105 0 rfl rfl ?_
                refine x_getI B (ci := 8) (k := 19) (lo := 0) (hi := 25) dX8_parted_106 rfl rfl rfl (by decide) inGX8 kw_824 rfl (fun z106 ez106 lz106 uz106 => ?_)
                have e106 : z106 = M 71 19 := by rw [Is_e ez106, offC_f hz82.1 (by omega), ofS_o i3 (by decide) (by decide)]
                refine x_istore B dX8_parted_109 [1, 2, 3, 4, 5, 6, 0] (by decide) (lv' := [(0, .ref (E.1 (71))), (1, .int (iI (a))), (2, .int (iI (b))), (3, .int (iI (w))), (4, .int (iI (v))), (5, .int (iI (1))), (6, .int (iI (z106)))]) rfl ?_
                have L111 : ∀ (f : Int) (t : Int), (0 ≤ t ∧ t < 26 ∧ bst (fun p => v.toNat.testBit p) t.toNat p ∧ Is (f * ((6 ^ di t.toNat p : Nat) : Int) + (fg t.toNat p : Int) - ((6 ^ di t.toNat p : Nat) : Int)) (fg (M 71 19).toNat p : Int)) → Vx x E M82 111 [(0, .ref (E.1 (71))), (1, .int (iI (a))), (2, .int (iI (b))), (3, .int (iI (w))), (4, .int (iI (v))), (5, .int (iI (f))), (6, .int (iI (t)))] [] := by
                  refine lo2 _ _ (fun f t => di t.toNat p) ?_
                  intro f t hI ih111
                  obtain ⟨n1, n2, n3, n4⟩ := hI
                  refine x_aload_n B dX8_parted_111 0 rfl rfl ?_
                  refine x_getR B (ci := 8) (k := 31) dX8_parted_112 rfl rfl rfl (by decide) inGX8 kw_836 ?_
                  refine x_iload B dX8_parted_115 6 rfl ?_
                  refine x_iald B (lo := 0) (hi := 100) dX8_parted_117 rfl (by omega) (by omega) rfl (fun z117 ez117 lz117 uz117 => ?_)
                  have e117 : z117 = (di t.toNat p : Int) := by rw [Is_e ez117]; exact bst_far (by omega) hz82.2 n3
                  refine x_if_le B (tgt := 176) dX8_parted_118 (by decide) ⟨by omega, by omega⟩ (fun c118 => ?_) (fun c118 => ?_)
                  · show Vx x E M82 176 [(0, .ref (E.1 (71))), (1, .int (iI (a))), (2, .int (iI (b))), (3, .int (iI (w))), (4, .int (iI (v))), (5, .int (iI (f))), (6, .int (iI (t)))] []
                    refine x_iload_n B dX8_parted_176 3 rfl rfl ?_
                    refine x_if_ne B (tgt := 192) dX8_parted_177 (by decide) ⟨by omega, by omega⟩ (fun c177 => ?_) (fun c177 => ?_)
                    · show Vx x E M82 192 [(0, .ref (E.1 (71))), (1, .int (iI (a))), (2, .int (iI (b))), (3, .int (iI (w))), (4, .int (iI (v))), (5, .int (iI (f))), (6, .int (iI (t)))] []
                      refine x_iload B dX8_parted_192 5 rfl ?_
                      exact r_i B R dX8_parted_194 (Or.inr ⟨by omega, o8, Or.inr ⟨by omega, ptD_cg hal (Or.inl ⟨p, hp, by rw [if_neg c177, ← Is_e n4]; have hpt : p = t.toNat := Classical.byContradiction (fun h => by have := di_p t.toNat (by omega) p hp.1 h; omega); rw [hpt, (di_0 _ (show t.toNat < 26 by omega)).1, (di_0 _ (show t.toNat < 26 by omega)).2]; show _ = _ * ((1 : Nat) : Int) + ((1 : Nat) : Int) - ((1 : Nat) : Int); omega⟩)⟩⟩)
                    · show Vx x E M82 180 [(0, .ref (E.1 (71))), (1, .int (iI (a))), (2, .int (iI (b))), (3, .int (iI (w))), (4, .int (iI (v))), (5, .int (iI (f))), (6, .int (iI (t)))] []
                      refine x_aload_n B dX8_parted_180 0 rfl rfl ?_
                      refine x_getR B (ci := 8) (k := 31) dX8_parted_181 rfl rfl rfl (by decide) inGX8 kw_836 ?_
                      refine x_aload_n B dX8_parted_184 0 rfl rfl ?_
                      refine x_getI B (ci := 8) (k := 19) (lo := 0) (hi := 25) dX8_parted_185 rfl rfl rfl (by decide) inGX8 kw_824 rfl (fun z185 ez185 lz185 uz185 => ?_)
                      have e185 : z185 = M 71 19 := by rw [Is_e ez185, offC_f hz82.1 (by omega), ofS_o i3 (by decide) (by decide)]
                      refine x_iald B (lo := 0) (hi := 100) dX8_parted_188 rfl (by omega) (by omega) rfl (fun z188 ez188 lz188 uz188 => ?_)
                      refine x_goto B (tgt := 194) dX8_parted_189 (by decide) ?_
                      exact r_i B R dX8_parted_194 (Or.inr ⟨by omega, o8, Or.inr ⟨by omega, ptD_cg hal (Or.inl ⟨p, hp, by rw [if_pos c177, Is_e ez188, e185]; exact bst_far hc26 hz82.2 hp⟩)⟩⟩)
                  · show Vx x E M82 121 [(0, .ref (E.1 (71))), (1, .int (iI (a))), (2, .int (iI (b))), (3, .int (iI (w))), (4, .int (iI (v))), (5, .int (iI (f))), (6, .int (iI (t)))] []
                    have hne : p ≠ t.toNat := fun h => by rw [h, (di_0 _ (show t.toNat < 26 by omega)).1] at e117; omega
                    have hf6 := di_fm t.toNat (by omega) p hp.1 hne
                    have hyes : M82 88 (mt t.toNat (fm t.toNat p)) + 1 = M82 88 t.toNat := by
                      rw [bst_far (by omega) hz82.2 n3, bst_far (mt_ok _ (by omega) _ hf6.1).2 hz82.2 (bst_mv (by omega) n3 hne)]
                      omega
                    refine x_iconst B dX8_parted_121 ?_
                    refine x_istore B dX8_parted_122 [1, 2, 3, 4, 5, 6, 7, 0] (by decide) (lv' := [(0, .ref (E.1 (71))), (1, .int (iI (a))), (2, .int (iI (b))), (3, .int (iI (w))), (4, .int (iI (v))), (5, .int (iI (f))), (6, .int (iI (t))), (7, .int (iI (0)))]) rfl ?_
                    have L124 : ∀ (m : Int), (0 ≤ m ∧ m.toNat ≤ fm t.toNat p) → Vx x E M82 124 [(0, .ref (E.1 (71))), (1, .int (iI (a))), (2, .int (iI (b))), (3, .int (iI (w))), (4, .int (iI (v))), (5, .int (iI (f))), (6, .int (iI (t))), (7, .int (iI (m)))] [] := by
                      refine lo1 _ _ (fun m => (6 - m).toNat) ?_
                      intro m hI ih124
                      obtain ⟨s1, s2⟩ := hI
                      refine x_aload_n B dX8_parted_124 0 rfl rfl ?_
                      refine x_getR B (ci := 8) (k := 31) dX8_parted_125 rfl rfl rfl (by decide) inGX8 kw_836 ?_
                      refine x_iload B dX8_parted_128 6 rfl ?_
                      refine x_iload B dX8_parted_130 7 rfl ?_
                      refine x_callS B (st := [.ref (E.1 (88))]) (av := [.int (iI (t)), .int (iI (m))]) dX8_parted_132 cs_X8_ledTo kw_1030 ⟨rfl, rfl, Nat.le_of_ble_eq_true rfl, Nat.le_of_ble_eq_true rfl⟩ rfl rfl (Nat.le_of_ble_eq_true rfl) (c_X8_ledTo _ E _ t m (by omega) (by omega) (by omega) (by omega)) (k_i (fun z132 Mq hz132 => ?_))
                      obtain ⟨rfl, hz132⟩ := hz132
                      have hmt := mt_i (c := t) (m := m) (by omega) (by omega) (by omega) (by omega)
                      have hl132 : 0 ≤ z132 ∧ z132 < 26 := by rw [hz132, hmt.1]; omega
                      refine x_iald B (lo := 0) (hi := 100) dX8_parted_135 rfl (by omega) (by omega) rfl (fun z135 ez135 lz135 uz135 => ?_)
                      refine x_iconst B dX8_parted_136 ?_
                      refine x_iadd B dX8_parted_137 ?_
                      refine x_aload_n B dX8_parted_138 0 rfl rfl ?_
                      refine x_getR B (ci := 8) (k := 31) dX8_parted_139 rfl rfl rfl (by decide) inGX8 kw_836 ?_
                      refine x_iload B dX8_parted_142 6 rfl ?_
                      refine x_iald B (lo := 0) (hi := 100) dX8_parted_144 rfl (by omega) (by omega) rfl (fun z144 ez144 lz144 uz144 => ?_)
                      have e135 : z135 = M82 88 (mt t.toNat m.toNat) := by rw [Is_e ez135, hz132, hmt.1, Int.toNat_natCast]
                      have e144 : z144 = M82 88 t.toNat := Is_e ez144
                      refine x_icmp_eq B (tgt := 154) dX8_parted_145 (by decide) ⟨by omega, by omega⟩ ⟨by omega, by omega⟩ (fun c145 => ?_) (fun c145 => ?_)
                      · show Vx x E M82 154 [(0, .ref (E.1 (71))), (1, .int (iI (a))), (2, .int (iI (b))), (3, .int (iI (w))), (4, .int (iI (v))), (5, .int (iI (f))), (6, .int (iI (t))), (7, .int (iI (m)))] []
                        have hm : fm t.toNat p = m.toNat := by
                          rcases (show m.toNat < fm t.toNat p ∨ m.toNat = fm t.toNat p by omega) with h7 | h7
                          · exact absurd (by rw [← e135, ← e144]; exact c145) (far_no (by omega) hz82.2 n3 h7 hf6.1)
                          · exact h7.symm
                        refine x_bipush B dX8_parted_154 rfl ?_
                        refine x_iload B dX8_parted_156 5 rfl ?_
                        refine x_imul B dX8_parted_158 ?_
                        refine x_iload B dX8_parted_159 7 rfl ?_
                        refine x_iadd B dX8_parted_161 ?_
                        refine x_istore B dX8_parted_162 [1, 2, 3, 4, 5, 0, 6, 7] (by decide) (lv' := [(0, .ref (E.1 (71))), (1, .int (iI (a))), (2, .int (iI (b))), (3, .int (iI (w))), (4, .int (iI (v))), (5, .int (iI ((6 * f) + m))), (6, .int (iI (t))), (7, .int (iI (m)))]) rfl ?_
                        refine x_iload B dX8_parted_164 6 rfl ?_
                        refine x_iload B dX8_parted_166 7 rfl ?_
                        refine x_callS B (st := []) (av := [.int (iI (t)), .int (iI (m))]) dX8_parted_168 cs_X8_ledTo kw_1030 ⟨rfl, rfl, Nat.le_of_ble_eq_true rfl, Nat.le_of_ble_eq_true rfl⟩ rfl rfl (Nat.le_of_ble_eq_true rfl) (c_X8_ledTo _ E _ t m (by omega) (by omega) (by omega) (by omega)) (k_i (fun z168 Mq hz168 => ?_))
                        obtain ⟨rfl, hz168⟩ := hz168
                        have hmt2 := mt_i (c := t) (m := m) (by omega) (by omega) (by omega) (by omega)
                        refine x_istore B dX8_parted_171 [1, 2, 3, 4, 5, 6, 0, 7] (by decide) (lv' := [(0, .ref (E.1 (71))), (1, .int (iI (a))), (2, .int (iI (b))), (3, .int (iI (w))), (4, .int (iI (v))), (5, .int (iI ((6 * f) + m))), (6, .int (iI (z168))), (7, .int (iI (m)))]) rfl ?_
                        refine x_goto B (tgt := 111) dX8_parted_173 (by decide) ?_
                        refine x_lv [0, 1, 2, 3, 4, 5, 6] (lv' := [(0, .ref (E.1 (71))), (1, .int (iI (a))), (2, .int (iI (b))), (3, .int (iI (w))), (4, .int (iI (v))), (5, .int (iI ((6 * f) + m))), (6, .int (iI (z168)))]) rfl ?_
                        exact ih111 ((6 * f) + m) z168 (⟨by rw [hz168, hmt2.1]; omega, by rw [hz168, hmt2.1]; omega, by rw [hz168, hmt2.1, Int.toNat_natCast, ← hm]; exact bst_mv (by omega) n3 hne, by show _ = _; rw [hz168, hmt2.1, Int.toNat_natCast, ← Is_e n4, fg_mv (by omega) hp.1 hne, hm, Int.toNat_of_nonneg s1]⟩) (by rw [hz168, hmt2.1, Int.toNat_natCast]; have h := (di_fm _ (by omega) p hp.1 hne).2.1; rw [hm] at h; omega)
                      · show Vx x E M82 148 [(0, .ref (E.1 (71))), (1, .int (iI (a))), (2, .int (iI (b))), (3, .int (iI (w))), (4, .int (iI (v))), (5, .int (iI (f))), (6, .int (iI (t))), (7, .int (iI (m)))] []
                        refine x_iinc B (q := 7) dX8_parted_148 rfl [1, 2, 3, 4, 5, 6, 7, 0] (by decide) (lv' := [(0, .ref (E.1 (71))), (1, .int (iI (a))), (2, .int (iI (b))), (3, .int (iI (w))), (4, .int (iI (v))), (5, .int (iI (f))), (6, .int (iI (t))), (7, .int (iI (m + 1)))]) rfl ?_
                        refine x_goto B (tgt := 124) dX8_parted_151 (by decide) ?_
                        exact ih124 (m + 1) (⟨by omega, by rcases (show m.toNat < fm t.toNat p ∨ m.toNat = fm t.toNat p by omega) with h7 | h7; (omega); (exact absurd (by rw [e135, e144, h7]; exact hyes) c145)⟩) (by omega)
                    exact L124 0 (⟨by omega, by show 0 ≤ _; omega⟩)
                exact L111 1 z106 (⟨by omega, by omega, by rw [e106]; exact hp, by show _ = _; rw [e106]; omega⟩)
              · show Vx x E M82 99 [(0, .ref (E.1 (71))), (1, .int (iI (a))), (2, .int (iI (b))), (3, .int (iI (w))), (4, .int (iI (v))), (5, .int (iI (k)))] []
                refine x_bipush B dX8_parted_99 rfl ?_
                exact r_i B R dX8_parted_101 (Or.inr ⟨by omega, o8, Or.inr ⟨by omega, ptD_cg hal (Or.inr ⟨rfl, by rcases hz82.2 (M 71 19).toNat hc26 with ⟨h1, h2⟩ | ⟨p, p1, p2, p3, p4⟩; (exact h2); (exfalso; have := di_8 _ hc26 p p1; omega)⟩)⟩⟩)
            · show Vx x E M1 76 [(0, .ref (E.1 (71))), (1, .int (iI (a))), (2, .int (iI (b))), (3, .int (iI (w))), (4, .int (iI (v))), (5, .int (iI (k)))] []
              refine x_iload B dX8_parted_76 4 rfl ?_
              exact r_i B R dX8_parted_78 (Or.inr ⟨by omega, i3, Or.inl ⟨c73, by rw [Is_e i4, show k.toNat = 26 by omega]⟩⟩)
          · show Vx x E M1 41 [(0, .ref (E.1 (71))), (1, .int (iI (a))), (2, .int (iI (b))), (3, .int (iI (w))), (4, .int (iI (v))), (5, .int (iI (k)))] []
            refine x_iload B dX8_parted_41 4 rfl ?_
            refine x_aload_n B dX8_parted_43 0 rfl rfl ?_
            refine x_iload_n B dX8_parted_44 1 rfl rfl ?_
            refine x_iload_n B dX8_parted_45 2 rfl rfl ?_
            refine x_iload B dX8_parted_46 5 rfl ?_
            refine x_callV B (st := [.int (iI (v))]) (av := [.int (iI (a)), .int (iI (b)), .int (iI (k))]) dX8_parted_48 cs_X8_areAlike kw_1105 ⟨rfl, rfl, Nat.le_of_ble_eq_true rfl, Nat.le_of_ble_eq_true rfl⟩ rfl rfl (Nat.le_of_ble_eq_true rfl) (rc_obj B (ci := 8) rfl rfl rfl) (c_X8_areAlike _ E _ a b k (by omega) (by omega) (by omega) (by omega) (by omega) (by omega)) (k_i (fun z48 M48 hz48 => ?_))
            refine x_if_eq B (tgt := 61) dX8_parted_51 (by decide) ⟨by omega, by omega⟩ (fun c51 => ?_) (fun c51 => ?_)
            · show Vx x E M48 61 [(0, .ref (E.1 (71))), (1, .int (iI (a))), (2, .int (iI (b))), (3, .int (iI (w))), (4, .int (iI (v))), (5, .int (iI (k)))] [.int (iI (v))]
              refine x_iconst B dX8_parted_61 ?_
              refine x_ior B dX8_parted_62 (by omega) (by first | omega | exact Int.natCast_nonneg _) ?_
              refine x_istore B dX8_parted_63 [1, 2, 3, 4, 0, 5] (by decide) (lv' := [(0, .ref (E.1 (71))), (1, .int (iI (a))), (2, .int (iI (b))), (3, .int (iI (w))), (4, .int (iI ((((v).toNat ||| (0 : Int).toNat : Nat) : Int)))), (5, .int (iI (k)))]) rfl ?_
              refine x_iinc B (q := 5) dX8_parted_65 rfl [1, 2, 3, 4, 5, 0] (by decide) (lv' := [(0, .ref (E.1 (71))), (1, .int (iI (a))), (2, .int (iI (b))), (3, .int (iI (w))), (4, .int (iI ((((v).toNat ||| (0 : Int).toNat : Nat) : Int)))), (5, .int (iI (k + 1)))]) rfl ?_
              refine x_goto B (tgt := 34) dX8_parted_68 (by decide) ?_
              exact ih34 (((v).toNat ||| (0 : Int).toNat : Nat) : Int) (k + 1) M48 (⟨by omega, by omega, ofS_tr i3 (ofS_w hz48.1 (by decide)), bK_f0 i1 (by show ¬ alM M a b ((k.toNat : Nat) : Int) = true; rw [Int.toNat_of_nonneg i1, ← alM_of i3 (by decide) (by decide) (by decide) (by decide)]; exact alM_f hz48.2 c51) i4, Int.natCast_nonneg _⟩) (by omega)
            · show Vx x E M48 54 [(0, .ref (E.1 (71))), (1, .int (iI (a))), (2, .int (iI (b))), (3, .int (iI (w))), (4, .int (iI (v))), (5, .int (iI (k)))] [.int (iI (v))]
              refine x_iconst B dX8_parted_54 ?_
              refine x_iload B dX8_parted_55 5 rfl ?_
              refine x_shl1 B dX8_parted_57 (by omega) (by omega) ?_
              refine x_goto B (tgt := 62) dX8_parted_58 (by decide) ?_
              refine x_ior B dX8_parted_62 (by omega) (by first | omega | exact Int.natCast_nonneg _) ?_
              refine x_istore B dX8_parted_63 [1, 2, 3, 4, 0, 5] (by decide) (lv' := [(0, .ref (E.1 (71))), (1, .int (iI (a))), (2, .int (iI (b))), (3, .int (iI (w))), (4, .int (iI ((((v).toNat ||| (((2 ^ (k).toNat : Nat) : Int)).toNat : Nat) : Int)))), (5, .int (iI (k)))]) rfl ?_
              refine x_iinc B (q := 5) dX8_parted_65 rfl [1, 2, 3, 4, 5, 0] (by decide) (lv' := [(0, .ref (E.1 (71))), (1, .int (iI (a))), (2, .int (iI (b))), (3, .int (iI (w))), (4, .int (iI ((((v).toNat ||| (((2 ^ (k).toNat : Nat) : Int)).toNat : Nat) : Int)))), (5, .int (iI (k + 1)))]) rfl ?_
              refine x_goto B (tgt := 34) dX8_parted_68 (by decide) ?_
              exact ih34 (((v).toNat ||| (((2 ^ (k).toNat : Nat) : Int)).toNat : Nat) : Int) (k + 1) M48 (⟨by omega, by omega, ofS_tr i3 (ofS_w hz48.1 (by decide)), bK_t i1 (by show alM M a b ((k.toNat : Nat) : Int) = true; rw [Int.toNat_of_nonneg i1, ← alM_of i3 (by decide) (by decide) (by decide) (by decide)]; exact alM_t hz48.2 c51) i4, Int.natCast_nonneg _⟩) (by omega)
        exact L34 0 0 M (⟨by omega, by omega, ofS_rf, rfl, by omega⟩)
      · show Vx x E M 26 [(0, .ref (E.1 (71))), (1, .int (iI (a))), (2, .int (iI (b))), (3, .int (iI (w)))] []
        refine x_iconst B dX8_parted_26 ?_
        exact r_i B R dX8_parted_27 (Or.inl ⟨rfl, rfl, by omega⟩)
