theorem ofS_s2 {S : List Nat} {M M' : Mem} {i j : Nat} {v : Int} (h : ofS S M M') : ofS S (sto M i j v) (sto M' i j v) := fun i' j' a b => by
  unfold sto
  by_cases c : i' = i ∧ j' = j
  · rw [if_pos c, if_pos c]
  · rw [if_neg c, if_neg c]
    exact h i' j' a b
theorem feM_of {S : List Nat} {M M' : Mem} (h : ofS S M M') (h1 : 71 ∉ S) (h2 : 78 ∉ S) (h3 : 80 ∉ S) (h4 : 85 ∉ S) : feM M' = feM M := by
  funext sc pl
  unfold feM
  rw [mV_of h h1 h2, mL_of h h2, mD_of h h1 h4, ofS_f h h3 (by decide)]
theorem shN_of {S : List Nat} {M M' : Mem} (h : ofS S M M') (h1 : 71 ∉ S) (h2 : 78 ∉ S) (h3 : 80 ∉ S) : shN M' = shN M := by
  funext sc pl
  unfold shN
  rw [mV_of h h1 h2, ofS_f h h3 (by decide)]
theorem ofS_offC {S : List Nat} {M M1 M2 : Mem} {c : Nat} (h : ofS S M M1) (h2 : offC M1 M2 c (c + 1)) (hc : c ∈ S) : ofS S M M2 := fun i j a b => by
  have e : i ≠ c := fun q => a (by rw [q]; exact hc)
  rw [h2 i j (by omega)]
  exact h i j a b
theorem tnM_step {M M1 M3 M5 : Mem} {sc k : Int} (k0 : 0 ≤ k) (hr : Is (M 71 26) 0) (hS : ofS [81, 82, 83, 84, 85] M M1) (hT : eqF (M1 85) (tnM M sc k.toNat)) (h3 : ofS [81, 82, 83, 84] M1 M3) (h4 : eqF (M3 84) (picF (M1 80) (mV M1) (mL M1) (mD M1) (64 * sc) (M1 71 19))) (h5 : offC M3 M5 85 86) (h6 : eqF (M5 85) (fun q => tiS (M3 84 q) (M3 85 q))) : ofS [81, 82, 83, 84, 85] M M5 ∧ eqF (M5 85) (tnM M sc (k + 1).toNat) := by
  have hd : mD M1 = M1 85 := by
    funext q
    unfold mD
    rw [ofS_o hS (by decide) (by decide), Is_e hr]
    exact if_neg (by decide)
  refine ⟨ofS_offC (ofS_tr hS (ofS_w h3 (by decide))) h5 (by decide), fun q hq => ?_⟩
  rw [h6 q hq]
  unfold tnM
  rw [tnF_s k0]
  have e1 : M3 84 q = picF (M 80) (mV M) (mL M) (tnM M sc k.toNat) (64 * sc) (M 71 19) q := by
    rw [h4 q hq, hd, mV_of hS (by decide) (by decide), mL_of hS (by decide), ofS_f hS (i := 80) (by decide) (by decide), ofS_o hS (by decide) (by decide)]
    exact picF_td hT q hq
  have e2 : M3 85 q = tnM M sc k.toNat q := by
    rw [ofS_f h3 (i := 85) (by decide) (by decide)]
    exact hT q hq
  show tiS _ _ = tiS _ _
  rw [e1, e2]
  rfl
abbrev rm_X8_shift : Room := { frames := 2, cells := 0, slots := 0, locals := 45 }
theorem cs_X8_shift : Cv yX8_shift cX8_shift 7 (some .int) 3 := ⟨kw_1019, ⟨kw_1017, kw_1018⟩, kw_67, by decide, by decide, by decide +kernel⟩
set_option maxHeartbeats 4000000 in
set_option maxRecDepth 100000 in
theorem c_X8_shift (l : Launch) (E : Ev) (M : Mem) (fr to bb : Int) (g1 : -2147483648 ≤ fr) (g2 : fr < 2147483648) (g3 : -2147483648 ≤ to) (g4 : to < 2147483648) (g5 : -2147483648 ≤ bb) (g6 : bb < 2147483648) : Ct l yX8_shift cX8_shift 7 (some .int) rm_X8_shift E M [.ref (E.1 (71)), .int (iI (fr)), .int (iI (to)), .int (iI (bb))] (pI (fun z M' => z = -1 ∧ M' = M ∧ ¬ (0 ≤ fr ∧ fr < 6 ∧ 0 ≤ to ∧ to < 6 ∧ 0 ≤ bb ∧ bb < 8) ∨ (0 ≤ fr ∧ fr < 6 ∧ 0 ≤ to ∧ to < 6 ∧ 0 ≤ bb ∧ bb < 8) ∧ z = (shK fr to bb (M 80) 64).2 ∧ offC M M' 80 81 ∧ M' 80 = (shK fr to bb (M 80) 64).1)) := by
  refine Ct_of (lv := [(0, .ref (E.1 (71))), (1, .int (iI (fr))), (2, .int (iI (to))), (3, .int (iI (bb)))]) (by decide) ⟨rfl, rfl⟩ (Nat.le_of_ble_eq_true rfl) rfl (fun x _ B R => ?_)
  refine x_iload_n B dX8_shift_0 1 rfl rfl ?_
  refine x_callS B (st := []) (av := [.int (iI (fr))]) dX8_shift_1 cs_X8_isScene kw_1006 ⟨rfl, rfl, Nat.le_of_ble_eq_true rfl, Nat.le_of_ble_eq_true rfl⟩ rfl rfl (Nat.le_of_ble_eq_true rfl) (c_X8_isScene _ E _ fr (by omega) (by omega)) (k_i (fun z1 Mq hz1 => ?_))
  obtain ⟨rfl, hz1⟩ := hz1
  refine x_if_eq B (tgt := 26) dX8_shift_4 (by decide) ⟨by omega, by omega⟩ (fun c4 => ?_) (fun c4 => ?_)
  · show Vx x E M 26 [(0, .ref (E.1 (71))), (1, .int (iI (fr))), (2, .int (iI (to))), (3, .int (iI (bb)))] []
    refine x_iconst B dX8_shift_26 ?_
    exact r_i B R dX8_shift_27 (Or.inl ⟨rfl, rfl, by omega⟩)
  · show Vx x E M 7 [(0, .ref (E.1 (71))), (1, .int (iI (fr))), (2, .int (iI (to))), (3, .int (iI (bb)))] []
    refine x_iload_n B dX8_shift_7 2 rfl rfl ?_
    refine x_callS B (st := []) (av := [.int (iI (to))]) dX8_shift_8 cs_X8_isScene kw_1006 ⟨rfl, rfl, Nat.le_of_ble_eq_true rfl, Nat.le_of_ble_eq_true rfl⟩ rfl rfl (Nat.le_of_ble_eq_true rfl) (c_X8_isScene _ E _ to (by omega) (by omega)) (k_i (fun z8 Mq hz8 => ?_))
    obtain ⟨rfl, hz8⟩ := hz8
    refine x_if_eq B (tgt := 26) dX8_shift_11 (by decide) ⟨by omega, by omega⟩ (fun c11 => ?_) (fun c11 => ?_)
    · show Vx x E M 26 [(0, .ref (E.1 (71))), (1, .int (iI (fr))), (2, .int (iI (to))), (3, .int (iI (bb)))] []
      refine x_iconst B dX8_shift_26 ?_
      exact r_i B R dX8_shift_27 (Or.inl ⟨rfl, rfl, by omega⟩)
    · show Vx x E M 14 [(0, .ref (E.1 (71))), (1, .int (iI (fr))), (2, .int (iI (to))), (3, .int (iI (bb)))] []
      refine x_iload_n B dX8_shift_14 3 rfl rfl ?_
      refine x_i2l B dX8_shift_15 ⟨by omega, by omega⟩ ?_
      refine x_lconst B (z := 0) dX8_shift_16 rfl ?_
      refine x_ldc2 B (z := 7) dX8_shift_17 kw_1020 rfl ?_
      refine x_callS B (st := []) (av := [.long (iL (bb)), .long (iL (0)), .long (iL (7))]) dX8_shift_20 cs_X8_in kw_952 ⟨rfl, rfl, Nat.le_of_ble_eq_true rfl, Nat.le_of_ble_eq_true rfl⟩ rfl rfl (Nat.le_of_ble_eq_true rfl) (c_X8_in _ E _ bb 0 7 (by omega) (by omega) (by omega) (by omega) (by omega) (by omega)) (k_i (fun z20 Mq hz20 => ?_))
      obtain ⟨rfl, hz20⟩ := hz20
      refine x_if_ne B (tgt := 28) dX8_shift_23 (by decide) ⟨by omega, by omega⟩ (fun c23 => ?_) (fun c23 => ?_)
      · show Vx x E M 28 [(0, .ref (E.1 (71))), (1, .int (iI (fr))), (2, .int (iI (to))), (3, .int (iI (bb)))] []
        refine x_iconst B dX8_shift_28 ?_
        refine x_istore B dX8_shift_29 [1, 2, 3, 4, 0] (by decide) (lv' := [(0, .ref (E.1 (71))), (1, .int (iI (fr))), (2, .int (iI (to))), (3, .int (iI (bb))), (4, .int (iI (0)))]) rfl ?_
        refine x_bipush B dX8_shift_31 rfl ?_
        refine x_istore B dX8_shift_33 [1, 2, 3, 4, 5, 0] (by decide) (lv' := [(0, .ref (E.1 (71))), (1, .int (iI (fr))), (2, .int (iI (to))), (3, .int (iI (bb))), (4, .int (iI (0))), (5, .int (iI (63)))]) rfl ?_
        have L35 : ∀ (o : Int) (ce : Int) (M1 : Mem), (-1 ≤ ce ∧ ce ≤ 63 ∧ offC M M1 80 81 ∧ M1 80 = (shK fr to bb (M 80) (63 - ce).toNat).1 ∧ Is o (shK fr to bb (M 80) (63 - ce).toNat).2 ∧ 0 ≤ o ∧ o ≤ 63 - ce) → Vx x E M1 35 [(0, .ref (E.1 (71))), (1, .int (iI (fr))), (2, .int (iI (to))), (3, .int (iI (bb))), (4, .int (iI (o))), (5, .int (iI (ce)))] [] := by
          refine lo3 _ _ (fun o ce M1 => (ce + 1).toNat) ?_
          intro o ce M1 hI ih35
          obtain ⟨i1, i2, i3, i4, i5, i6, i7⟩ := hI
          refine x_iload B dX8_shift_35 5 rfl ?_
          refine x_if_lt B (tgt := 116) dX8_shift_37 (by decide) ⟨by omega, by omega⟩ (fun c37 => ?_) (fun c37 => ?_)
          · show Vx x E M1 116 [(0, .ref (E.1 (71))), (1, .int (iI (fr))), (2, .int (iI (to))), (3, .int (iI (bb))), (4, .int (iI (o))), (5, .int (iI (ce)))] []
            refine x_iload B dX8_shift_116 4 rfl ?_
            exact r_i B R dX8_shift_118 (Or.inr ⟨by omega, by rw [Is_e i5, show (63 - ce).toNat = 64 by omega], i3, by rw [i4, show (63 - ce).toNat = 64 by omega]⟩)
          · show Vx x E M1 40 [(0, .ref (E.1 (71))), (1, .int (iI (fr))), (2, .int (iI (to))), (3, .int (iI (bb))), (4, .int (iI (o))), (5, .int (iI (ce)))] []
            refine x_iload B dX8_shift_40 5 rfl ?_
            refine x_bipush B dX8_shift_42 rfl ?_
            refine x_irem B dX8_shift_44 ⟨by omega, by omega⟩ (by omega) ⟨by omega, by omega⟩ (by omega) ?_
            refine x_iload_n B dX8_shift_45 3 rfl rfl ?_
            have J67 : ∀ (j : Int), (j = shV fr bb (M1 80) ce ∧ 0 ≤ j ∧ j ≤ 9) → Vx x E M1 67 [(0, .ref (E.1 (71))), (1, .int (iI (fr))), (2, .int (iI (to))), (3, .int (iI (bb))), (4, .int (iI (o))), (5, .int (iI (ce)))] [.int (iI (j))] := by
              intro j hJ
              obtain ⟨j1, j2, j3⟩ := hJ
              refine x_istore B dX8_shift_67 [1, 2, 3, 4, 5, 6, 0] (by decide) (lv' := [(0, .ref (E.1 (71))), (1, .int (iI (fr))), (2, .int (iI (to))), (3, .int (iI (bb))), (4, .int (iI (o))), (5, .int (iI (ce))), (6, .int (iI (j)))]) rfl ?_
              refine x_iload B dX8_shift_69 4 rfl ?_
              refine x_aload_n B dX8_shift_71 0 rfl rfl ?_
              refine x_getR B (ci := 8) (k := 18) dX8_shift_72 rfl rfl rfl (by decide) inGX8 kw_823 ?_
              refine x_bipush B dX8_shift_75 rfl ?_
              refine x_iload_n B dX8_shift_77 2 rfl rfl ?_
              refine x_imul B dX8_shift_78 ?_
              refine x_iload B dX8_shift_79 5 rfl ?_
              refine x_iadd B dX8_shift_81 ?_
              refine x_top (to * 64 + ce) (by omega) ?_
              refine x_iald B (lo := 0) (hi := 9) dX8_shift_82 rfl (by omega) (by omega) rfl (fun z82 ez82 lz82 uz82 => ?_)
              refine x_iload B dX8_shift_83 6 rfl ?_
              refine x_icmp_eq B (tgt := 92) dX8_shift_85 (by decide) ⟨by omega, by omega⟩ ⟨by omega, by omega⟩ (fun c85 => ?_) (fun c85 => ?_)
              · show Vx x E M1 92 [(0, .ref (E.1 (71))), (1, .int (iI (fr))), (2, .int (iI (to))), (3, .int (iI (bb))), (4, .int (iI (o))), (5, .int (iI (ce))), (6, .int (iI (j)))] [.int (iI (o))]
                refine x_iconst B dX8_shift_92 ?_
                refine x_iadd B dX8_shift_93 ?_
                refine x_istore B dX8_shift_94 [1, 2, 3, 4, 0, 5, 6] (by decide) (lv' := [(0, .ref (E.1 (71))), (1, .int (iI (fr))), (2, .int (iI (to))), (3, .int (iI (bb))), (4, .int (iI (o + 0))), (5, .int (iI (ce))), (6, .int (iI (j)))]) rfl ?_
                refine x_aload_n B dX8_shift_96 0 rfl rfl ?_
                refine x_getR B (ci := 8) (k := 18) dX8_shift_97 rfl rfl rfl (by decide) inGX8 kw_823 ?_
                refine x_bipush B dX8_shift_100 rfl ?_
                refine x_iload_n B dX8_shift_102 2 rfl rfl ?_
                refine x_imul B dX8_shift_103 ?_
                refine x_iload B dX8_shift_104 5 rfl ?_
                refine x_iadd B dX8_shift_106 ?_
                refine x_top (to * 64 + ce) (by omega) ?_
                refine x_iload B dX8_shift_107 6 rfl ?_
                refine x_iast B (lo := 0) (hi := 9) dX8_shift_109 rfl (by omega) (by omega) rfl (by omega) (by omega) ?_
                refine x_iinc B (q := 5) dX8_shift_110 rfl [1, 2, 3, 4, 5, 0, 6] (by decide) (lv' := [(0, .ref (E.1 (71))), (1, .int (iI (fr))), (2, .int (iI (to))), (3, .int (iI (bb))), (4, .int (iI (o + 0))), (5, .int (iI (ce + -1))), (6, .int (iI (j)))]) rfl ?_
                refine x_goto B (tgt := 35) dX8_shift_113 (by decide) ?_
                refine x_lv [0, 1, 2, 3, 4, 5] (lv' := [(0, .ref (E.1 (71))), (1, .int (iI (fr))), (2, .int (iI (to))), (3, .int (iI (bb))), (4, .int (iI (o + 0))), (5, .int (iI (ce + -1)))]) rfl ?_
                exact ih35 (o + 0) (ce + -1) (sto M1 80 (to * 64 + ce).toNat j) (⟨by omega, by omega, offC_sto i3 (by omega), by rw [shK_s (by omega) (by omega), sto_row, ← i4, j1], by show _ = _; rw [shK_s (by omega) (by omega), ← i4, ← Is_e i5, if_pos (by rw [← j1, ← c85]; exact (Is_e ez82).symm)], by omega, by omega⟩) (by omega)
              · show Vx x E M1 88 [(0, .ref (E.1 (71))), (1, .int (iI (fr))), (2, .int (iI (to))), (3, .int (iI (bb))), (4, .int (iI (o))), (5, .int (iI (ce))), (6, .int (iI (j)))] [.int (iI (o))]
                refine x_iconst B dX8_shift_88 ?_
                refine x_goto B (tgt := 93) dX8_shift_89 (by decide) ?_
                refine x_iadd B dX8_shift_93 ?_
                refine x_istore B dX8_shift_94 [1, 2, 3, 4, 0, 5, 6] (by decide) (lv' := [(0, .ref (E.1 (71))), (1, .int (iI (fr))), (2, .int (iI (to))), (3, .int (iI (bb))), (4, .int (iI (o + 1))), (5, .int (iI (ce))), (6, .int (iI (j)))]) rfl ?_
                refine x_aload_n B dX8_shift_96 0 rfl rfl ?_
                refine x_getR B (ci := 8) (k := 18) dX8_shift_97 rfl rfl rfl (by decide) inGX8 kw_823 ?_
                refine x_bipush B dX8_shift_100 rfl ?_
                refine x_iload_n B dX8_shift_102 2 rfl rfl ?_
                refine x_imul B dX8_shift_103 ?_
                refine x_iload B dX8_shift_104 5 rfl ?_
                refine x_iadd B dX8_shift_106 ?_
                refine x_top (to * 64 + ce) (by omega) ?_
                refine x_iload B dX8_shift_107 6 rfl ?_
                refine x_iast B (lo := 0) (hi := 9) dX8_shift_109 rfl (by omega) (by omega) rfl (by omega) (by omega) ?_
                refine x_iinc B (q := 5) dX8_shift_110 rfl [1, 2, 3, 4, 5, 0, 6] (by decide) (lv' := [(0, .ref (E.1 (71))), (1, .int (iI (fr))), (2, .int (iI (to))), (3, .int (iI (bb))), (4, .int (iI (o + 1))), (5, .int (iI (ce + -1))), (6, .int (iI (j)))]) rfl ?_
                refine x_goto B (tgt := 35) dX8_shift_113 (by decide) ?_
                refine x_lv [0, 1, 2, 3, 4, 5] (lv' := [(0, .ref (E.1 (71))), (1, .int (iI (fr))), (2, .int (iI (to))), (3, .int (iI (bb))), (4, .int (iI (o + 1))), (5, .int (iI (ce + -1)))]) rfl ?_
                exact ih35 (o + 1) (ce + -1) (sto M1 80 (to * 64 + ce).toNat j) (⟨by omega, by omega, offC_sto i3 (by omega), by rw [shK_s (by omega) (by omega), sto_row, ← i4, j1], by show _ = _; rw [shK_s (by omega) (by omega), ← i4, ← Is_e i5, if_neg (by rw [← j1, ← Is_e ez82]; exact c85)], by omega, by omega⟩) (by omega)
            refine x_icmp_ge B (tgt := 53) dX8_shift_46 (by decide) ⟨by omega, by omega⟩ ⟨by omega, by omega⟩ (fun c46 => ?_) (fun c46 => ?_)
            · show Vx x E M1 53 [(0, .ref (E.1 (71))), (1, .int (iI (fr))), (2, .int (iI (to))), (3, .int (iI (bb))), (4, .int (iI (o))), (5, .int (iI (ce)))] []
              refine x_aload_n B dX8_shift_53 0 rfl rfl ?_
              refine x_getR B (ci := 8) (k := 18) dX8_shift_54 rfl rfl rfl (by decide) inGX8 kw_823 ?_
              refine x_bipush B dX8_shift_57 rfl ?_
              refine x_iload_n B dX8_shift_59 1 rfl rfl ?_
              refine x_imul B dX8_shift_60 ?_
              refine x_iload B dX8_shift_61 5 rfl ?_
              refine x_iadd B dX8_shift_63 ?_
              refine x_iload_n B dX8_shift_64 3 rfl rfl ?_
              refine x_isub B dX8_shift_65 ?_
              refine x_top (fr * 64 + ce - bb) (by omega) ?_
              refine x_iald B (lo := 0) (hi := 9) dX8_shift_66 rfl (by omega) (by omega) rfl (fun z66 ez66 lz66 uz66 => ?_)
              exact J67 z66 (⟨by unfold shV; rw [if_neg (by omega)]; exact Is_e ez66, by omega, by omega⟩)
            · show Vx x E M1 49 [(0, .ref (E.1 (71))), (1, .int (iI (fr))), (2, .int (iI (to))), (3, .int (iI (bb))), (4, .int (iI (o))), (5, .int (iI (ce)))] []
              refine x_iconst B dX8_shift_49 ?_
              refine x_goto B (tgt := 67) dX8_shift_50 (by decide) ?_
              exact J67 0 (⟨by unfold shV; rw [if_pos (by omega)], by omega, by omega⟩)
        exact L35 0 63 M (⟨by omega, by omega, offC_rf, rfl, rfl, by omega, by omega⟩)
      · show Vx x E M 26 [(0, .ref (E.1 (71))), (1, .int (iI (fr))), (2, .int (iI (to))), (3, .int (iI (bb)))] []
        refine x_iconst B dX8_shift_26 ?_
        exact r_i B R dX8_shift_27 (Or.inl ⟨rfl, rfl, by omega⟩)
abbrev rm_X8_tenths : Room := { frames := 4, cells := 0, slots := 0, locals := 101 }
theorem cs_X8_tenths : Cv yX8_tenths cX8_tenths 6 (some .int) 2 := ⟨kw_1084, ⟨kw_1082, kw_1083⟩, kw_67, by decide, by decide, by decide +kernel⟩
set_option maxHeartbeats 4000000 in
set_option maxRecDepth 100000 in
theorem c_X8_tenths (l : Launch) (E : Ev) (M : Mem) (sc n : Int) (g1 : -2147483648 ≤ sc) (g2 : sc < 2147483648) (g3 : -2147483648 ≤ n) (g4 : n < 2147483648) (g5 : Is (M 71 26) 0) : Ct l yX8_tenths cX8_tenths 6 (some .int) rm_X8_tenths E M [.ref (E.1 (71)), .int (iI (sc)), .int (iI (n))] (pI (fun z M' => z = -1 ∧ M' = M ∧ ¬ (0 ≤ sc ∧ sc < 6 ∧ 1 ≤ n ∧ n ≤ 20) ∨ (0 ≤ sc ∧ sc < 6 ∧ 1 ≤ n ∧ n ≤ 20) ∧ z = ((bK (poB (tnM M sc n.toNat)) 16 : Nat) : Int) ∧ M' 71 28 = min 999 (M 71 28 + n * M 78 9) ∧ eqF (M' 85) (tnM M sc n.toNat) ∧ ofS [81, 82, 83, 84, 85] M (sto M' 71 28 (M 71 28)))) := by
  refine Ct_of (lv := [(0, .ref (E.1 (71))), (1, .int (iI (sc))), (2, .int (iI (n)))]) (by decide) ⟨rfl, rfl⟩ (Nat.le_of_ble_eq_true rfl) rfl (fun x _ B R => ?_)
  refine x_iload_n B dX8_tenths_0 1 rfl rfl ?_
  refine x_callS B (st := []) (av := [.int (iI (sc))]) dX8_tenths_1 cs_X8_isScene kw_1006 ⟨rfl, rfl, Nat.le_of_ble_eq_true rfl, Nat.le_of_ble_eq_true rfl⟩ rfl rfl (Nat.le_of_ble_eq_true rfl) (c_X8_isScene _ E _ sc (by omega) (by omega)) (k_i (fun z1 Mq hz1 => ?_))
  obtain ⟨rfl, hz1⟩ := hz1
  refine x_if_eq B (tgt := 19) dX8_tenths_4 (by decide) ⟨by omega, by omega⟩ (fun c4 => ?_) (fun c4 => ?_)
  · show Vx x E M 19 [(0, .ref (E.1 (71))), (1, .int (iI (sc))), (2, .int (iI (n)))] []
    refine x_iconst B dX8_tenths_19 ?_
    exact r_i B R dX8_tenths_20 (Or.inl ⟨rfl, rfl, by omega⟩)
  · show Vx x E M 7 [(0, .ref (E.1 (71))), (1, .int (iI (sc))), (2, .int (iI (n)))] []
    refine x_iload_n B dX8_tenths_7 2 rfl rfl ?_
    refine x_i2l B dX8_tenths_8 ⟨by omega, by omega⟩ ?_
    refine x_lconst B (z := 1) dX8_tenths_9 rfl ?_
    refine x_ldc2 B (z := 20) dX8_tenths_10 kw_1000 rfl ?_
    refine x_callS B (st := []) (av := [.long (iL (n)), .long (iL (1)), .long (iL (20))]) dX8_tenths_13 cs_X8_in kw_952 ⟨rfl, rfl, Nat.le_of_ble_eq_true rfl, Nat.le_of_ble_eq_true rfl⟩ rfl rfl (Nat.le_of_ble_eq_true rfl) (c_X8_in _ E _ n 1 20 (by omega) (by omega) (by omega) (by omega) (by omega) (by omega)) (k_i (fun z13 Mq hz13 => ?_))
    obtain ⟨rfl, hz13⟩ := hz13
    refine x_if_ne B (tgt := 21) dX8_tenths_16 (by decide) ⟨by omega, by omega⟩ (fun c16 => ?_) (fun c16 => ?_)
    · show Vx x E M 21 [(0, .ref (E.1 (71))), (1, .int (iI (sc))), (2, .int (iI (n)))] []
      refine x_iconst B dX8_tenths_21 ?_
      refine x_istore_n B dX8_tenths_22 [1, 2, 3, 0] rfl (by decide) (lv' := [(0, .ref (E.1 (71))), (1, .int (iI (sc))), (2, .int (iI (n))), (3, .int (iI (0)))]) rfl ?_
      have L23 : ∀ (k : Int) (M1 : Mem), (0 ≤ k ∧ k ≤ n ∧ ofS [81, 82, 83, 84, 85] M M1 ∧ eqF (M1 85) (tnM M sc k.toNat)) → Vx x E M1 23 [(0, .ref (E.1 (71))), (1, .int (iI (sc))), (2, .int (iI (n))), (3, .int (iI (k)))] [] := by
        refine lo2 _ _ (fun k M1 => (n - k).toNat) ?_
        intro k M1 hI ih23
        obtain ⟨i1, i2, i3, i4⟩ := hI
        refine x_iload_n B dX8_tenths_23 3 rfl rfl ?_
        refine x_iload_n B dX8_tenths_24 2 rfl rfl ?_
        refine x_icmp_ge B (tgt := 114) dX8_tenths_25 (by decide) ⟨by omega, by omega⟩ ⟨by omega, by omega⟩ (fun c25 => ?_) (fun c25 => ?_)
        · show Vx x E M1 114 [(0, .ref (E.1 (71))), (1, .int (iI (sc))), (2, .int (iI (n))), (3, .int (iI (k)))] []
          refine x_aload_n B dX8_tenths_114 0 rfl rfl ?_
          refine x_iload_n B dX8_tenths_115 2 rfl rfl ?_
          refine x_aload_n B dX8_tenths_116 0 rfl rfl ?_
          refine x_getR B (ci := 8) (k := 14) dX8_tenths_117 rfl rfl rfl (by decide) inGX8 kw_819 ?_
          refine x_bipush B dX8_tenths_120 rfl ?_
          refine x_iald B (lo := 0) (hi := 20) dX8_tenths_122 rfl (by omega) (by omega) rfl (fun z122 ez122 lz122 uz122 => ?_)
          have ez122 : Is z122 (M1 78 9) := ez122
          have m60 := mulb (a := n) (b := z122) (A := 20) (B := 20) (by omega) (by omega) (by omega) (by omega)
          refine x_imul B dX8_tenths_123 ?_
          refine x_callV B (st := []) (av := [.int (iI (n * z122))]) dX8_tenths_124 cs_X8_learns kw_1085 ⟨rfl, rfl, Nat.le_of_ble_eq_true rfl, Nat.le_of_ble_eq_true rfl⟩ rfl rfl (Nat.le_of_ble_eq_true rfl) (rc_obj B (ci := 8) rfl rfl rfl) (c_X8_learns _ E _ (n * z122) (by omega) (by omega)) (k_v (fun M124 hz124 => ?_))
          have e122 := Is_e ez122
          rw [ofS_f i3 (i := 78) (by decide) (by decide)] at e122
          have hnk : k.toNat = n.toNat := by omega
          refine x_aload_n B dX8_tenths_127 0 rfl rfl ?_
          refine x_callV B (st := []) (av := []) dX8_tenths_128 cs_X8_tiredSome kw_1089 ⟨rfl, rfl, Nat.le_of_ble_eq_true rfl, Nat.le_of_ble_eq_true rfl⟩ rfl rfl (Nat.le_of_ble_eq_true rfl) (rc_obj B (ci := 8) rfl rfl rfl) (c_X8_tiredSome _ E _ ) (k_i (fun z128 Mq hz128 => ?_))
          obtain ⟨rfl, hz128⟩ := hz128
          exact r_i B R dX8_tenths_131 (Or.inr ⟨by omega, by rw [hz128.1, hz124, sto_f _ _ _ _ (by decide), ← hnk]; exact congrArg _ (poB_cg i4), by rw [hz124, sto_eq, ofS_o i3 (by decide) (by decide), e122], by rw [hz124, sto_f _ _ _ _ (by decide), ← hnk]; exact i4, by rw [hz124]; intro a b h1 h2; unfold sto; by_cases c : a = 71 ∧ b = 28; (rw [if_pos c, c.1, c.2]); (rw [if_neg c, if_neg c]; exact i3 a b h1 h2)⟩)
        · show Vx x E M1 28 [(0, .ref (E.1 (71))), (1, .int (iI (sc))), (2, .int (iI (n))), (3, .int (iI (k)))] []
          refine x_aload_n B dX8_tenths_28 0 rfl rfl ?_
          refine x_iload_n B dX8_tenths_29 1 rfl rfl ?_
          refine x_aload_n B dX8_tenths_30 0 rfl rfl ?_
          refine x_getI B (ci := 8) (k := 19) (lo := 0) (hi := 25) dX8_tenths_31 rfl rfl rfl (by decide) inGX8 kw_824 rfl (fun z31 ez31 lz31 uz31 => ?_)
          refine x_callV B (st := []) (av := [.int (iI (sc)), .int (iI (z31))]) dX8_tenths_34 cs_X8_layFelt kw_1042 ⟨rfl, rfl, Nat.le_of_ble_eq_true rfl, Nat.le_of_ble_eq_true rfl⟩ rfl rfl (Nat.le_of_ble_eq_true rfl) (rc_obj B (ci := 8) rfl rfl rfl) (c_X8_layFelt _ E _ sc z31 (by omega) (by omega) (by omega) (by omega)) (k_v (fun M34 hz34 => ?_))
          refine x_iconst B dX8_tenths_37 ?_
          refine x_istore B dX8_tenths_38 [1, 2, 3, 4, 0] (by decide) (lv' := [(0, .ref (E.1 (71))), (1, .int (iI (sc))), (2, .int (iI (n))), (3, .int (iI (k))), (4, .int (iI (0)))]) rfl ?_
          have L40 : ∀ (p : Int) (M2 : Mem), (0 ≤ p ∧ p ≤ 16 ∧ offC M34 M2 85 86 ∧ ltF (M2 85) (fun q => tiS (M34 84 q) (M34 85 q)) p ∧ ∀ q : Nat, p ≤ (q : Int) → M2 85 q = M34 85 q) → Vx x E M2 40 [(0, .ref (E.1 (71))), (1, .int (iI (sc))), (2, .int (iI (n))), (3, .int (iI (k))), (4, .int (iI (p)))] [] := by
            refine lo2 _ _ (fun p M2 => (16 - p).toNat) ?_
            intro p M2 hI ih40
            obtain ⟨n1, n2, n3, n4, n5⟩ := hI
            refine x_iload B dX8_tenths_40 4 rfl ?_
            refine x_bipush B dX8_tenths_42 rfl ?_
            refine x_icmp_ge B (tgt := 108) dX8_tenths_44 (by decide) ⟨by omega, by omega⟩ ⟨by omega, by omega⟩ (fun c44 => ?_) (fun c44 => ?_)
            · show Vx x E M2 108 [(0, .ref (E.1 (71))), (1, .int (iI (sc))), (2, .int (iI (n))), (3, .int (iI (k))), (4, .int (iI (p)))] []
              refine x_iinc B (q := 3) dX8_tenths_108 rfl [1, 2, 3, 0, 4] (by decide) (lv' := [(0, .ref (E.1 (71))), (1, .int (iI (sc))), (2, .int (iI (n))), (3, .int (iI (k + 1))), (4, .int (iI (p)))]) rfl ?_
              refine x_goto B (tgt := 23) dX8_tenths_111 (by decide) ?_
              refine x_lv [0, 1, 2, 3] (lv' := [(0, .ref (E.1 (71))), (1, .int (iI (sc))), (2, .int (iI (n))), (3, .int (iI (k + 1)))]) rfl ?_
              exact ih23 (k + 1) M2 (by rw [Is_e ez31] at hz34; have h := tnM_step i1 g5 i3 i4 hz34.1 hz34.2.2.2.1 n3 (ltF_16 n4 (by omega)); exact ⟨by omega, by omega, h.1, h.2⟩) (by omega)
            · show Vx x E M2 47 [(0, .ref (E.1 (71))), (1, .int (iI (sc))), (2, .int (iI (n))), (3, .int (iI (k))), (4, .int (iI (p)))] []
              refine x_aload_n B dX8_tenths_47 0 rfl rfl ?_
              refine x_getR B (ci := 8) (k := 25) dX8_tenths_48 rfl rfl rfl (by decide) inGX8 kw_830 ?_
              refine x_iload B dX8_tenths_51 4 rfl ?_
              refine x_iald B (lo := 0) (hi := 9) dX8_tenths_53 rfl (by omega) (by omega) rfl (fun z53 ez53 lz53 uz53 => ?_)
              refine x_aload_n B dX8_tenths_54 0 rfl rfl ?_
              refine x_getR B (ci := 8) (k := 23) dX8_tenths_55 rfl rfl rfl (by decide) inGX8 kw_828 ?_
              refine x_iload B dX8_tenths_58 4 rfl ?_
              refine x_iald B (lo := 0) (hi := 9) dX8_tenths_60 rfl (by omega) (by omega) rfl (fun z60 ez60 lz60 uz60 => ?_)
              have J69 : ∀ (d : Int), (0 < z60 ∧ d = 1 ∨ z60 ≤ 0 ∧ d = -1) → Vx x E M2 69 [(0, .ref (E.1 (71))), (1, .int (iI (sc))), (2, .int (iI (n))), (3, .int (iI (k))), (4, .int (iI (p)))] [.int (iI (d)), .int (iI (z53))] := by
                intro d hJ
                obtain hJ := hJ
                refine x_iadd B dX8_tenths_69 ?_
                refine x_istore B dX8_tenths_70 [1, 2, 3, 4, 5, 0] (by decide) (lv' := [(0, .ref (E.1 (71))), (1, .int (iI (sc))), (2, .int (iI (n))), (3, .int (iI (k))), (4, .int (iI (p))), (5, .int (iI (z53 + d)))]) rfl ?_
                refine x_aload_n B dX8_tenths_72 0 rfl rfl ?_
                refine x_getR B (ci := 8) (k := 25) dX8_tenths_73 rfl rfl rfl (by decide) inGX8 kw_830 ?_
                refine x_iload B dX8_tenths_76 4 rfl ?_
                refine x_iload B dX8_tenths_78 5 rfl ?_
                have J101 : ∀ (u : Int), (u = tiS z60 z53 ∧ 0 ≤ u ∧ u ≤ 9) → Vx x E M2 101 [(0, .ref (E.1 (71))), (1, .int (iI (sc))), (2, .int (iI (n))), (3, .int (iI (k))), (4, .int (iI (p))), (5, .int (iI (z53 + d)))] [.int (iI (u)), .int (iI (p)), .ref (E.1 (85))] := by
                  intro u hJ
                  obtain ⟨u1, u2, u3⟩ := hJ
                  refine x_iast B (lo := 0) (hi := 9) dX8_tenths_101 rfl (by omega) (by omega) rfl (by omega) (by omega) ?_
                  refine x_iinc B (q := 4) dX8_tenths_102 rfl [1, 2, 3, 4, 0, 5] (by decide) (lv' := [(0, .ref (E.1 (71))), (1, .int (iI (sc))), (2, .int (iI (n))), (3, .int (iI (k))), (4, .int (iI (p + 1))), (5, .int (iI (z53 + d)))]) rfl ?_
                  refine x_goto B (tgt := 40) dX8_tenths_105 (by decide) ?_
                  refine x_lv [0, 1, 2, 3, 4] (lv' := [(0, .ref (E.1 (71))), (1, .int (iI (sc))), (2, .int (iI (n))), (3, .int (iI (k))), (4, .int (iI (p + 1)))]) rfl ?_
                  exact ih40 (p + 1) (sto M2 85 (p).toNat u) (⟨by omega, by omega, offC_sto n3 (by omega), ltF_s n4 n1 (by rw [u1, Is_e ez53, Is_e ez60, n5 p.toNat (by omega), offC_f n3 (i := 84) (by omega)]), fun q hq => by rw [sto_nj _ _ _ _ (by omega)]; exact n5 q (by omega)⟩) (by omega)
                refine x_if_ge B (tgt := 87) dX8_tenths_80 (by decide) ⟨by omega, by omega⟩ (fun c80 => ?_) (fun c80 => ?_)
                · show Vx x E M2 87 [(0, .ref (E.1 (71))), (1, .int (iI (sc))), (2, .int (iI (n))), (3, .int (iI (k))), (4, .int (iI (p))), (5, .int (iI (z53 + d)))] [.int (iI (p)), .ref (E.1 (85))]
                  refine x_iload B dX8_tenths_87 5 rfl ?_
                  refine x_bipush B dX8_tenths_89 rfl ?_
                  refine x_icmp_le B (tgt := 99) dX8_tenths_91 (by decide) ⟨by omega, by omega⟩ ⟨by omega, by omega⟩ (fun c91 => ?_) (fun c91 => ?_)
                  · show Vx x E M2 99 [(0, .ref (E.1 (71))), (1, .int (iI (sc))), (2, .int (iI (n))), (3, .int (iI (k))), (4, .int (iI (p))), (5, .int (iI (z53 + d)))] [.int (iI (p)), .ref (E.1 (85))]
                    refine x_iload B dX8_tenths_99 5 rfl ?_
                    exact J101 (z53 + d) (by unfold tiS; rcases hJ with h | h; (rw [if_pos h.1]; omega); (rw [if_neg (by omega)]; omega))
                  · show Vx x E M2 94 [(0, .ref (E.1 (71))), (1, .int (iI (sc))), (2, .int (iI (n))), (3, .int (iI (k))), (4, .int (iI (p))), (5, .int (iI (z53 + d)))] [.int (iI (p)), .ref (E.1 (85))]
                    refine x_bipush B dX8_tenths_94 rfl ?_
                    refine x_goto B (tgt := 101) dX8_tenths_96 (by decide) ?_
                    exact J101 9 (by unfold tiS; rcases hJ with h | h; (rw [if_pos h.1]; omega); (rw [if_neg (by omega)]; omega))
                · show Vx x E M2 83 [(0, .ref (E.1 (71))), (1, .int (iI (sc))), (2, .int (iI (n))), (3, .int (iI (k))), (4, .int (iI (p))), (5, .int (iI (z53 + d)))] [.int (iI (p)), .ref (E.1 (85))]
                  refine x_iconst B dX8_tenths_83 ?_
                  refine x_goto B (tgt := 101) dX8_tenths_84 (by decide) ?_
                  exact J101 0 (by unfold tiS; rcases hJ with h | h; (rw [if_pos h.1]; omega); (rw [if_neg (by omega)]; omega))
              refine x_if_le B (tgt := 68) dX8_tenths_61 (by decide) ⟨by omega, by omega⟩ (fun c61 => ?_) (fun c61 => ?_)
              · show Vx x E M2 68 [(0, .ref (E.1 (71))), (1, .int (iI (sc))), (2, .int (iI (n))), (3, .int (iI (k))), (4, .int (iI (p)))] [.int (iI (z53))]
                refine x_iconst B dX8_tenths_68 ?_
                exact J69 (-1) (by omega)
              · show Vx x E M2 64 [(0, .ref (E.1 (71))), (1, .int (iI (sc))), (2, .int (iI (n))), (3, .int (iI (k))), (4, .int (iI (p)))] [.int (iI (z53))]
                refine x_iconst B dX8_tenths_64 ?_
                refine x_goto B (tgt := 69) dX8_tenths_65 (by decide) ?_
                exact J69 1 (by omega)
          exact L40 0 M34 (⟨by omega, by omega, offC_rf, ltF_0, fun _ _ => rfl⟩)
      exact L23 0 M (⟨by omega, by omega, ofS_rf, eqF_rf⟩)
    · show Vx x E M 19 [(0, .ref (E.1 (71))), (1, .int (iI (sc))), (2, .int (iI (n)))] []
      refine x_iconst B dX8_tenths_19 ?_
      exact r_i B R dX8_tenths_20 (Or.inl ⟨rfl, rfl, by omega⟩)
abbrev rm_X8_areAlike : Room := { frames := 4, cells := 0, slots := 0, locals := 101 }
theorem cs_X8_areAlike : Cv yX8_areAlike cX8_areAlike 6 (some .boolean) 3 := ⟨kw_1108, ⟨kw_1107, kw_46⟩, kw_67, by decide, by decide, by decide +kernel⟩
set_option maxHeartbeats 4000000 in
set_option maxRecDepth 100000 in
theorem c_X8_areAlike (l : Launch) (E : Ev) (M : Mem) (a b pl : Int) (g1 : 0 ≤ a) (g2 : a < 6) (g3 : 0 ≤ b) (g4 : b < 6) (g5 : 0 ≤ pl) (g6 : pl ≤ 25) : Ct l yX8_areAlike cX8_areAlike 6 (some .boolean) rm_X8_areAlike E M [.ref (E.1 (71)), .int (iI (a)), .int (iI (b)), .int (iI (pl))] (pI (fun z M' => ofS [81, 82, 83, 84, 87] M M' ∧ (z = 1 ∧ eqF (feM M a pl) (feM M b pl) ∨ z = 0 ∧ ¬ eqF (feM M a pl) (feM M b pl)))) := by
  refine Ct_of (lv := [(0, .ref (E.1 (71))), (1, .int (iI (a))), (2, .int (iI (b))), (3, .int (iI (pl)))]) (by decide) ⟨rfl, rfl⟩ (Nat.le_of_ble_eq_true rfl) rfl (fun x _ B R => ?_)
  refine x_aload_n B dX8_areAlike_0 0 rfl rfl ?_
  refine x_iload_n B dX8_areAlike_1 1 rfl rfl ?_
  refine x_iload_n B dX8_areAlike_2 3 rfl rfl ?_
  refine x_callV B (st := []) (av := [.int (iI (a)), .int (iI (pl))]) dX8_areAlike_3 cs_X8_layFelt kw_1042 ⟨rfl, rfl, Nat.le_of_ble_eq_true rfl, Nat.le_of_ble_eq_true rfl⟩ rfl rfl (Nat.le_of_ble_eq_true rfl) (rc_obj B (ci := 8) rfl rfl rfl) (c_X8_layFelt _ E _ a pl (by omega) (by omega) (by omega) (by omega)) (k_v (fun M3 hz3 => ?_))
  refine x_iconst B dX8_areAlike_6 ?_
  refine x_istore B dX8_areAlike_7 [1, 2, 3, 4, 0] (by decide) (lv' := [(0, .ref (E.1 (71))), (1, .int (iI (a))), (2, .int (iI (b))), (3, .int (iI (pl))), (4, .int (iI (0)))]) rfl ?_
  have L9 : ∀ (k : Int) (M1 : Mem), (0 ≤ k ∧ k ≤ 16 ∧ offC M3 M1 87 88 ∧ ltF (M1 87) (M3 84) k) → Vx x E M1 9 [(0, .ref (E.1 (71))), (1, .int (iI (a))), (2, .int (iI (b))), (3, .int (iI (pl))), (4, .int (iI (k)))] [] := by
    refine lo2 _ _ (fun k M1 => (16 - k).toNat) ?_
    intro k M1 hI ih9
    obtain ⟨i1, i2, i3, i4⟩ := hI
    refine x_iload B dX8_areAlike_9 4 rfl ?_
    refine x_bipush B dX8_areAlike_11 rfl ?_
    refine x_icmp_ge B (tgt := 36) dX8_areAlike_13 (by decide) ⟨by omega, by omega⟩ ⟨by omega, by omega⟩ (fun c13 => ?_) (fun c13 => ?_)
    · show Vx x E M1 36 [(0, .ref (E.1 (71))), (1, .int (iI (a))), (2, .int (iI (b))), (3, .int (iI (pl))), (4, .int (iI (k)))] []
      refine x_aload_n B dX8_areAlike_36 0 rfl rfl ?_
      refine x_iload_n B dX8_areAlike_37 2 rfl rfl ?_
      refine x_iload_n B dX8_areAlike_38 3 rfl rfl ?_
      refine x_callV B (st := []) (av := [.int (iI (b)), .int (iI (pl))]) dX8_areAlike_39 cs_X8_layFelt kw_1042 ⟨rfl, rfl, Nat.le_of_ble_eq_true rfl, Nat.le_of_ble_eq_true rfl⟩ rfl rfl (Nat.le_of_ble_eq_true rfl) (rc_obj B (ci := 8) rfl rfl rfl) (c_X8_layFelt _ E _ b pl (by omega) (by omega) (by omega) (by omega)) (k_v (fun M39 hz39 => ?_))
      have o1 : ofS [81, 82, 83, 84, 87] M M1 := ofS_offC (ofS_w hz3.1 (by decide)) i3 (by decide)
      have f1 : eqF (M39 87) (feM M a pl) := fun q hq => by
        rw [ofS_f hz39.1 (i := 87) (by decide) (by decide), i4 q (by omega)]
        exact hz3.2.2.2.1 q hq
      have f2 : eqF (M39 84) (feM M b pl) := by
        rw [← feM_of o1 (by decide) (by decide) (by decide) (by decide)]
        exact hz39.2.2.2.1
      have o2 : ofS [81, 82, 83, 84, 87] M M39 := ofS_tr o1 (ofS_w hz39.1 (by decide))
      refine x_iconst B dX8_areAlike_42 ?_
      refine x_istore B dX8_areAlike_43 [1, 2, 3, 4, 0] (by decide) (lv' := [(0, .ref (E.1 (71))), (1, .int (iI (a))), (2, .int (iI (b))), (3, .int (iI (pl))), (4, .int (iI (1)))]) rfl ?_
      refine x_iconst B dX8_areAlike_45 ?_
      refine x_istore B dX8_areAlike_46 [1, 2, 3, 4, 5, 0] (by decide) (lv' := [(0, .ref (E.1 (71))), (1, .int (iI (a))), (2, .int (iI (b))), (3, .int (iI (pl))), (4, .int (iI (1))), (5, .int (iI (0)))]) rfl ?_
      have L48 : ∀ (r : Int) (k2 : Int), (0 ≤ k2 ∧ k2 ≤ 16 ∧ 0 ≤ r ∧ r ≤ 1 ∧ (r = 1 ∧ ltF (M39 87) (M39 84) k2 ∨ r = 0 ∧ ¬ eqF (M39 87) (M39 84))) → Vx x E M39 48 [(0, .ref (E.1 (71))), (1, .int (iI (a))), (2, .int (iI (b))), (3, .int (iI (pl))), (4, .int (iI (r))), (5, .int (iI (k2)))] [] := by
        refine lo2 _ _ (fun r k2 => (16 - k2).toNat) ?_
        intro r k2 hI ih48
        obtain ⟨n1, n2, n3, n4, n5⟩ := hI
        refine x_iload B dX8_areAlike_48 5 rfl ?_
        refine x_bipush B dX8_areAlike_50 rfl ?_
        refine x_icmp_ge B (tgt := 90) dX8_areAlike_52 (by decide) ⟨by omega, by omega⟩ ⟨by omega, by omega⟩ (fun c52 => ?_) (fun c52 => ?_)
        · show Vx x E M39 90 [(0, .ref (E.1 (71))), (1, .int (iI (a))), (2, .int (iI (b))), (3, .int (iI (pl))), (4, .int (iI (r))), (5, .int (iI (k2)))] []
          refine x_iload B dX8_areAlike_90 4 rfl ?_
          exact r_z B R dX8_areAlike_92 (by omega) (by omega) (⟨o2, by rcases n5 with ⟨h1, h2⟩ | ⟨h1, h2⟩; (exact Or.inl ⟨h1, eqF_tr (eqF_sy f1) (eqF_tr (ltF_16 h2 (by omega)) f2)⟩); (exact Or.inr ⟨h1, fun h => h2 (eqF_tr f1 (eqF_tr h (eqF_sy f2)))⟩)⟩)
        · show Vx x E M39 55 [(0, .ref (E.1 (71))), (1, .int (iI (a))), (2, .int (iI (b))), (3, .int (iI (pl))), (4, .int (iI (r))), (5, .int (iI (k2)))] []
          refine x_iload B dX8_areAlike_55 4 rfl ?_
          refine x_if_eq B (tgt := 81) dX8_areAlike_57 (by decide) ⟨by omega, by omega⟩ (fun c57 => ?_) (fun c57 => ?_)
          · show Vx x E M39 81 [(0, .ref (E.1 (71))), (1, .int (iI (a))), (2, .int (iI (b))), (3, .int (iI (pl))), (4, .int (iI (r))), (5, .int (iI (k2)))] []
            refine x_iconst B dX8_areAlike_81 ?_
            refine x_istore B dX8_areAlike_82 [1, 2, 3, 4, 0, 5] (by decide) (lv' := [(0, .ref (E.1 (71))), (1, .int (iI (a))), (2, .int (iI (b))), (3, .int (iI (pl))), (4, .int (iI (0))), (5, .int (iI (k2)))]) rfl ?_
            refine x_iinc B (q := 5) dX8_areAlike_84 rfl [1, 2, 3, 4, 5, 0] (by decide) (lv' := [(0, .ref (E.1 (71))), (1, .int (iI (a))), (2, .int (iI (b))), (3, .int (iI (pl))), (4, .int (iI (0))), (5, .int (iI (k2 + 1)))]) rfl ?_
            refine x_goto B (tgt := 48) dX8_areAlike_87 (by decide) ?_
            exact ih48 0 (k2 + 1) (⟨by omega, by omega, by omega, by omega, Or.inr ⟨rfl, (n5.resolve_left (fun h => by omega)).2⟩⟩) (by omega)
          · show Vx x E M39 60 [(0, .ref (E.1 (71))), (1, .int (iI (a))), (2, .int (iI (b))), (3, .int (iI (pl))), (4, .int (iI (r))), (5, .int (iI (k2)))] []
            refine x_aload_n B dX8_areAlike_60 0 rfl rfl ?_
            refine x_getR B (ci := 8) (k := 30) dX8_areAlike_61 rfl rfl rfl (by decide) inGX8 kw_835 ?_
            refine x_iload B dX8_areAlike_64 5 rfl ?_
            refine x_iald B (lo := 0) (hi := 9) dX8_areAlike_66 rfl (by omega) (by omega) rfl (fun z66 ez66 lz66 uz66 => ?_)
            refine x_aload_n B dX8_areAlike_67 0 rfl rfl ?_
            refine x_getR B (ci := 8) (k := 23) dX8_areAlike_68 rfl rfl rfl (by decide) inGX8 kw_828 ?_
            refine x_iload B dX8_areAlike_71 5 rfl ?_
            refine x_iald B (lo := 0) (hi := 9) dX8_areAlike_73 rfl (by omega) (by omega) rfl (fun z73 ez73 lz73 uz73 => ?_)
            refine x_icmp_ne B (tgt := 81) dX8_areAlike_74 (by decide) ⟨by omega, by omega⟩ ⟨by omega, by omega⟩ (fun c74 => ?_) (fun c74 => ?_)
            · show Vx x E M39 81 [(0, .ref (E.1 (71))), (1, .int (iI (a))), (2, .int (iI (b))), (3, .int (iI (pl))), (4, .int (iI (r))), (5, .int (iI (k2)))] []
              refine x_iconst B dX8_areAlike_81 ?_
              refine x_istore B dX8_areAlike_82 [1, 2, 3, 4, 0, 5] (by decide) (lv' := [(0, .ref (E.1 (71))), (1, .int (iI (a))), (2, .int (iI (b))), (3, .int (iI (pl))), (4, .int (iI (0))), (5, .int (iI (k2)))]) rfl ?_
              refine x_iinc B (q := 5) dX8_areAlike_84 rfl [1, 2, 3, 4, 5, 0] (by decide) (lv' := [(0, .ref (E.1 (71))), (1, .int (iI (a))), (2, .int (iI (b))), (3, .int (iI (pl))), (4, .int (iI (0))), (5, .int (iI (k2 + 1)))]) rfl ?_
              refine x_goto B (tgt := 48) dX8_areAlike_87 (by decide) ?_
              exact ih48 0 (k2 + 1) (⟨by omega, by omega, by omega, by omega, Or.inr ⟨rfl, fun h => c74 (by rw [Is_e ez66, Is_e ez73]; exact h _ (by omega))⟩⟩) (by omega)
            · show Vx x E M39 77 [(0, .ref (E.1 (71))), (1, .int (iI (a))), (2, .int (iI (b))), (3, .int (iI (pl))), (4, .int (iI (r))), (5, .int (iI (k2)))] []
              refine x_iconst B dX8_areAlike_77 ?_
              refine x_goto B (tgt := 82) dX8_areAlike_78 (by decide) ?_
              refine x_istore B dX8_areAlike_82 [1, 2, 3, 4, 0, 5] (by decide) (lv' := [(0, .ref (E.1 (71))), (1, .int (iI (a))), (2, .int (iI (b))), (3, .int (iI (pl))), (4, .int (iI (1))), (5, .int (iI (k2)))]) rfl ?_
              refine x_iinc B (q := 5) dX8_areAlike_84 rfl [1, 2, 3, 4, 5, 0] (by decide) (lv' := [(0, .ref (E.1 (71))), (1, .int (iI (a))), (2, .int (iI (b))), (3, .int (iI (pl))), (4, .int (iI (1))), (5, .int (iI (k2 + 1)))]) rfl ?_
              refine x_goto B (tgt := 48) dX8_areAlike_87 (by decide) ?_
              exact ih48 1 (k2 + 1) (⟨by omega, by omega, by omega, by omega, Or.inl ⟨rfl, fun q hq => by rcases (show (q : Int) < k2 ∨ q = k2.toNat by omega) with h7 | h7; (exact (n5.resolve_right (fun h => by omega)).2 q h7); (rw [h7, ← Is_e ez66, ← Is_e ez73]; exact c74)⟩⟩) (by omega)
      exact L48 1 0 (⟨by omega, by omega, by omega, by omega, Or.inl ⟨rfl, ltF_0⟩⟩)
    · show Vx x E M1 16 [(0, .ref (E.1 (71))), (1, .int (iI (a))), (2, .int (iI (b))), (3, .int (iI (pl))), (4, .int (iI (k)))] []
      refine x_aload_n B dX8_areAlike_16 0 rfl rfl ?_
      refine x_getR B (ci := 8) (k := 30) dX8_areAlike_17 rfl rfl rfl (by decide) inGX8 kw_835 ?_
      refine x_iload B dX8_areAlike_20 4 rfl ?_
      refine x_aload_n B dX8_areAlike_22 0 rfl rfl ?_
      refine x_getR B (ci := 8) (k := 23) dX8_areAlike_23 rfl rfl rfl (by decide) inGX8 kw_828 ?_
      refine x_iload B dX8_areAlike_26 4 rfl ?_
      refine x_iald B (lo := 0) (hi := 9) dX8_areAlike_28 rfl (by omega) (by omega) rfl (fun z28 ez28 lz28 uz28 => ?_)
      refine x_iast B (lo := 0) (hi := 9) dX8_areAlike_29 rfl (by omega) (by omega) rfl (by omega) (by omega) ?_
      refine x_iinc B (q := 4) dX8_areAlike_30 rfl [1, 2, 3, 4, 0] (by decide) (lv' := [(0, .ref (E.1 (71))), (1, .int (iI (a))), (2, .int (iI (b))), (3, .int (iI (pl))), (4, .int (iI (k + 1)))]) rfl ?_
      refine x_goto B (tgt := 9) dX8_areAlike_33 (by decide) ?_
      exact ih9 (k + 1) (sto M1 87 (k).toNat z28) (⟨by omega, by omega, offC_sto i3 (by omega), ltF_s i4 i1 (by rw [Is_e ez28, offC_f i3 (by omega)])⟩) (by omega)
  exact L9 0 M3 (⟨by omega, by omega, offC_rf, ltF_0⟩)
def alM (M : Mem) (a b pl : Int) : Bool := eqB (feM M a pl) (feM M b pl)
theorem alM_of {S : List Nat} {M M' : Mem} (h : ofS S M M') (h1 : 71 ∉ S) (h2 : 78 ∉ S) (h3 : 80 ∉ S) (h4 : 85 ∉ S) : alM M' = alM M := by
  funext a b pl
  unfold alM
  rw [feM_of h h1 h2 h3 h4]
theorem alM_t {M : Mem} {a b pl z : Int} (h : z = 1 ∧ eqF (feM M a pl) (feM M b pl) ∨ z = 0 ∧ ¬ eqF (feM M a pl) (feM M b pl)) (c : ¬ z = 0) : alM M a b pl = true := eqB_iff.mpr (by rcases h with h | h; (exact h.2); (exact absurd h.1 c))
theorem alM_f {M : Mem} {a b pl z : Int} (h : z = 1 ∧ eqF (feM M a pl) (feM M b pl) ∨ z = 0 ∧ ¬ eqF (feM M a pl) (feM M b pl)) (c : z = 0) : ¬ alM M a b pl = true := eqB_no (by rcases h with h | h; (exact absurd (h.1.symm.trans c) (by decide)); (exact h.2))
abbrev rm_X8_alike : Room := { frames := 5, cells := 0, slots := 0, locals := 126 }
theorem cs_X8_alike : Cv yX8_alike cX8_alike 3 (some .int) 2 := ⟨kw_1104, ⟨kw_1102, kw_1103⟩, kw_67, by decide, by decide, by decide +kernel⟩
set_option maxHeartbeats 4000000 in
set_option maxRecDepth 100000 in
theorem c_X8_alike (l : Launch) (E : Ev) (M : Mem) (a b : Int) (g1 : -2147483648 ≤ a) (g2 : a < 2147483648) (g3 : -2147483648 ≤ b) (g4 : b < 2147483648) : Ct l yX8_alike cX8_alike 3 (some .int) rm_X8_alike E M [.ref (E.1 (71)), .int (iI (a)), .int (iI (b))] (pI (fun z M' => z = -1 ∧ M' = M ∧ ¬ (0 ≤ a ∧ a < 6 ∧ 0 ≤ b ∧ b < 6) ∨ (0 ≤ a ∧ a < 6 ∧ 0 ≤ b ∧ b < 6) ∧ z = (if alM M a b (M 71 19) = true then 1 else 0) ∧ ofS [81, 82, 83, 84, 87] M M')) := by
  refine Ct_of (lv := [(0, .ref (E.1 (71))), (1, .int (iI (a))), (2, .int (iI (b)))]) (by decide) ⟨rfl, rfl⟩ (Nat.le_of_ble_eq_true rfl) rfl (fun x _ B R => ?_)
  refine x_iload_n B dX8_alike_0 1 rfl rfl ?_
  refine x_callS B (st := []) (av := [.int (iI (a))]) dX8_alike_1 cs_X8_isScene kw_1006 ⟨rfl, rfl, Nat.le_of_ble_eq_true rfl, Nat.le_of_ble_eq_true rfl⟩ rfl rfl (Nat.le_of_ble_eq_true rfl) (c_X8_isScene _ E _ a (by omega) (by omega)) (k_i (fun z1 Mq hz1 => ?_))
  obtain ⟨rfl, hz1⟩ := hz1
  refine x_if_eq B (tgt := 35) dX8_alike_4 (by decide) ⟨by omega, by omega⟩ (fun c4 => ?_) (fun c4 => ?_)
  · show Vx x E M 35 [(0, .ref (E.1 (71))), (1, .int (iI (a))), (2, .int (iI (b)))] []
    refine x_iconst B dX8_alike_35 ?_
    exact r_i B R dX8_alike_36 (Or.inl ⟨rfl, rfl, by omega⟩)
  · show Vx x E M 7 [(0, .ref (E.1 (71))), (1, .int (iI (a))), (2, .int (iI (b)))] []
    refine x_iload_n B dX8_alike_7 2 rfl rfl ?_
    refine x_callS B (st := []) (av := [.int (iI (b))]) dX8_alike_8 cs_X8_isScene kw_1006 ⟨rfl, rfl, Nat.le_of_ble_eq_true rfl, Nat.le_of_ble_eq_true rfl⟩ rfl rfl (Nat.le_of_ble_eq_true rfl) (c_X8_isScene _ E _ b (by omega) (by omega)) (k_i (fun z8 Mq hz8 => ?_))
    obtain ⟨rfl, hz8⟩ := hz8
    refine x_if_eq B (tgt := 35) dX8_alike_11 (by decide) ⟨by omega, by omega⟩ (fun c11 => ?_) (fun c11 => ?_)
    · show Vx x E M 35 [(0, .ref (E.1 (71))), (1, .int (iI (a))), (2, .int (iI (b)))] []
      refine x_iconst B dX8_alike_35 ?_
      exact r_i B R dX8_alike_36 (Or.inl ⟨rfl, rfl, by omega⟩)
    · show Vx x E M 14 [(0, .ref (E.1 (71))), (1, .int (iI (a))), (2, .int (iI (b)))] []
      refine x_aload_n B dX8_alike_14 0 rfl rfl ?_
      refine x_iload_n B dX8_alike_15 1 rfl rfl ?_
      refine x_iload_n B dX8_alike_16 2 rfl rfl ?_
      refine x_aload_n B dX8_alike_17 0 rfl rfl ?_
      refine x_getI B (ci := 8) (k := 19) (lo := 0) (hi := 25) dX8_alike_18 rfl rfl rfl (by decide) inGX8 kw_824 rfl (fun z18 ez18 lz18 uz18 => ?_)
      refine x_callV B (st := []) (av := [.int (iI (a)), .int (iI (b)), .int (iI (z18))]) dX8_alike_21 cs_X8_areAlike kw_1105 ⟨rfl, rfl, Nat.le_of_ble_eq_true rfl, Nat.le_of_ble_eq_true rfl⟩ rfl rfl (Nat.le_of_ble_eq_true rfl) (rc_obj B (ci := 8) rfl rfl rfl) (c_X8_areAlike _ E _ a b z18 (by omega) (by omega) (by omega) (by omega) (by omega) (by omega)) (k_i (fun z21 M21 hz21 => ?_))
      rw [Is_e ez18] at hz21
      refine x_if_eq B (tgt := 31) dX8_alike_24 (by decide) ⟨by omega, by omega⟩ (fun c24 => ?_) (fun c24 => ?_)
      · show Vx x E M21 31 [(0, .ref (E.1 (71))), (1, .int (iI (a))), (2, .int (iI (b)))] []
        refine x_iconst B dX8_alike_31 ?_
        refine x_goto B (tgt := 36) dX8_alike_32 (by decide) ?_
        exact r_i B R dX8_alike_36 (Or.inr ⟨by omega, by rw [if_neg (alM_f hz21.2 c24)], hz21.1⟩)
      · show Vx x E M21 27 [(0, .ref (E.1 (71))), (1, .int (iI (a))), (2, .int (iI (b)))] []
        refine x_iconst B dX8_alike_27 ?_
        refine x_goto B (tgt := 36) dX8_alike_28 (by decide) ?_
        exact r_i B R dX8_alike_36 (Or.inr ⟨by omega, by rw [if_pos (alM_t hz21.2 c24)], hz21.1⟩)
abbrev rm_X8_layChange : Room := { frames := 4, cells := 0, slots := 0, locals := 101 }
theorem cs_X8_layChange : Cv yX8_layChange cX8_layChange 4 none 2 := ⟨kw_1150, ⟨kw_1149, kw_51⟩, kw_67, by decide, by decide, by decide +kernel⟩
set_option maxHeartbeats 4000000 in
set_option maxRecDepth 100000 in
theorem c_X8_layChange (l : Launch) (E : Ev) (M : Mem) (sc pl : Int) (g1 : 0 ≤ sc) (g2 : sc ≤ 5) (g3 : 0 ≤ pl) (g4 : pl ≤ 25) : Ct l yX8_layChange cX8_layChange 4 none rm_X8_layChange E M [.ref (E.1 (71)), .int (iI (sc)), .int (iI (pl))] (pV (fun M' => ofS [81, 82, 83, 84, 87] M M' ∧ Is (M' 71 33) ((upS (feM M sc (M 71 19)) (feM M sc pl) : Nat) : Int) ∧ Is (M' 71 34) ((upS (feM M sc pl) (feM M sc (M 71 19)) : Nat) : Int))) := by
  refine Ct_of (lv := [(0, .ref (E.1 (71))), (1, .int (iI (sc))), (2, .int (iI (pl)))]) (by decide) ⟨rfl, rfl⟩ (Nat.le_of_ble_eq_true rfl) rfl (fun x _ B R => ?_)
  refine x_aload_n B dX8_layChange_0 0 rfl rfl ?_
  refine x_iload_n B dX8_layChange_1 1 rfl rfl ?_
  refine x_aload_n B dX8_layChange_2 0 rfl rfl ?_
  refine x_getI B (ci := 8) (k := 19) (lo := 0) (hi := 25) dX8_layChange_3 rfl rfl rfl (by decide) inGX8 kw_824 rfl (fun z3 ez3 lz3 uz3 => ?_)
  refine x_callV B (st := []) (av := [.int (iI (sc)), .int (iI (z3))]) dX8_layChange_6 cs_X8_layFelt kw_1042 ⟨rfl, rfl, Nat.le_of_ble_eq_true rfl, Nat.le_of_ble_eq_true rfl⟩ rfl rfl (Nat.le_of_ble_eq_true rfl) (rc_obj B (ci := 8) rfl rfl rfl) (c_X8_layFelt _ E _ sc z3 (by omega) (by omega) (by omega) (by omega)) (k_v (fun M6 hz6 => ?_))
  refine x_iconst B dX8_layChange_9 ?_
  refine x_istore_n B dX8_layChange_10 [1, 2, 3, 0] rfl (by decide) (lv' := [(0, .ref (E.1 (71))), (1, .int (iI (sc))), (2, .int (iI (pl))), (3, .int (iI (0)))]) rfl ?_
  have L11 : ∀ (k : Int) (M1 : Mem), (0 ≤ k ∧ k ≤ 16 ∧ offC M6 M1 87 88 ∧ ltF (M1 87) (M6 84) k) → Vx x E M1 11 [(0, .ref (E.1 (71))), (1, .int (iI (sc))), (2, .int (iI (pl))), (3, .int (iI (k)))] [] := by
    refine lo2 _ _ (fun k M1 => (16 - k).toNat) ?_
    intro k M1 hI ih11
    obtain ⟨i1, i2, i3, i4⟩ := hI
    refine x_iload_n B dX8_layChange_11 3 rfl rfl ?_
    refine x_bipush B dX8_layChange_12 rfl ?_
    refine x_icmp_ge B (tgt := 35) dX8_layChange_14 (by decide) ⟨by omega, by omega⟩ ⟨by omega, by omega⟩ (fun c14 => ?_) (fun c14 => ?_)
    · show Vx x E M1 35 [(0, .ref (E.1 (71))), (1, .int (iI (sc))), (2, .int (iI (pl))), (3, .int (iI (k)))] []
      refine x_aload_n B dX8_layChange_35 0 rfl rfl ?_
      refine x_iload_n B dX8_layChange_36 1 rfl rfl ?_
      refine x_iload_n B dX8_layChange_37 2 rfl rfl ?_
      refine x_callV B (st := []) (av := [.int (iI (sc)), .int (iI (pl))]) dX8_layChange_38 cs_X8_layFelt kw_1042 ⟨rfl, rfl, Nat.le_of_ble_eq_true rfl, Nat.le_of_ble_eq_true rfl⟩ rfl rfl (Nat.le_of_ble_eq_true rfl) (rc_obj B (ci := 8) rfl rfl rfl) (c_X8_layFelt _ E _ sc pl (by omega) (by omega) (by omega) (by omega)) (k_v (fun M38 hz38 => ?_))
      have o1 : ofS [81, 82, 83, 84, 87] M M1 := ofS_offC (ofS_w hz6.1 (by decide)) i3 (by decide)
      have f1 : eqF (M38 87) (feM M sc (M 71 19)) := fun q hq => by
        rw [ofS_f hz38.1 (i := 87) (by decide) (by decide), i4 q (by omega)]
        have h := hz6.2.2.2.1 q hq
        rw [Is_e ez3] at h
        exact h
      have f2 : eqF (M38 84) (feM M sc pl) := by
        rw [← feM_of o1 (by decide) (by decide) (by decide) (by decide)]
        exact hz38.2.2.2.1
      have o2 : ofS [81, 82, 83, 84, 87] M M38 := ofS_tr o1 (ofS_w hz38.1 (by decide))
      refine x_aload_n B dX8_layChange_41 0 rfl rfl ?_
      refine x_iconst B dX8_layChange_42 ?_
      refine x_put B (ci := 8) (k := 33) (lo := 0) (hi := 65535) (ty := .int) dX8_layChange_43 rfl rfl rfl (by decide) inGX8 tyX8_ok nmX8 kw_838 rfl (by decide +kernel) (nar_i _) (fit_i _) rfl (by omega) (by omega) ?_
      refine x_aload_n B dX8_layChange_46 0 rfl rfl ?_
      refine x_iconst B dX8_layChange_47 ?_
      refine x_put B (ci := 8) (k := 34) (lo := 0) (hi := 65535) (ty := .int) dX8_layChange_48 rfl rfl rfl (by decide) inGX8 tyX8_ok nmX8 kw_839 rfl (by decide +kernel) (nar_i _) (fit_i _) rfl (by omega) (by omega) ?_
      refine x_iconst B dX8_layChange_51 ?_
      refine x_istore_n B dX8_layChange_52 [1, 2, 3, 0] rfl (by decide) (lv' := [(0, .ref (E.1 (71))), (1, .int (iI (sc))), (2, .int (iI (pl))), (3, .int (iI (0)))]) rfl ?_
      have L53 : ∀ (k2 : Int) (M2 : Mem), (0 ≤ k2 ∧ k2 ≤ 16 ∧ ofS [] M38 M2 ∧ Is (M2 71 33) ((bK (gtB (M38 84) (M38 87)) k2.toNat : Nat) : Int) ∧ Is (M2 71 34) ((bK (gtB (M38 87) (M38 84)) k2.toNat : Nat) : Int)) → Vx x E M2 53 [(0, .ref (E.1 (71))), (1, .int (iI (sc))), (2, .int (iI (pl))), (3, .int (iI (k2)))] [] := by
        refine lo2 _ _ (fun k2 M2 => (16 - k2).toNat) ?_
        intro k2 M2 hI ih53
        obtain ⟨n1, n2, n3, n4, n5⟩ := hI
        refine x_iload_n B dX8_layChange_53 3 rfl rfl ?_
        refine x_bipush B dX8_layChange_54 rfl ?_
        refine x_icmp_ge B (tgt := 127) dX8_layChange_56 (by decide) ⟨by omega, by omega⟩ ⟨by omega, by omega⟩ (fun c56 => ?_) (fun c56 => ?_)
        · show Vx x E M2 127 [(0, .ref (E.1 (71))), (1, .int (iI (sc))), (2, .int (iI (pl))), (3, .int (iI (k2)))] []
          exact r_v B R dX8_layChange_127 (⟨ofS_tr o2 (ofS_w n3 (by decide)), by show _ = _; rw [Is_e n4, show k2 = 16 by omega]; exact congrArg _ (gtB_cg f2 f1), by show _ = _; rw [Is_e n5, show k2 = 16 by omega]; exact congrArg _ (gtB_cg f1 f2)⟩)
        · show Vx x E M2 59 [(0, .ref (E.1 (71))), (1, .int (iI (sc))), (2, .int (iI (pl))), (3, .int (iI (k2)))] []
          refine x_aload_n B dX8_layChange_59 0 rfl rfl ?_
          refine x_dup B dX8_layChange_60 rfl ?_
          refine x_getI B (ci := 8) (k := 33) (lo := 0) (hi := 65535) dX8_layChange_61 rfl rfl rfl (by decide) inGX8 kw_838 rfl (fun z61 ez61 lz61 uz61 => ?_)
          refine x_aload_n B dX8_layChange_64 0 rfl rfl ?_
          refine x_getR B (ci := 8) (k := 23) dX8_layChange_65 rfl rfl rfl (by decide) inGX8 kw_828 ?_
          refine x_iload_n B dX8_layChange_68 3 rfl rfl ?_
          refine x_iald B (lo := 0) (hi := 9) dX8_layChange_69 rfl (by omega) (by omega) rfl (fun z69 ez69 lz69 uz69 => ?_)
          refine x_aload_n B dX8_layChange_70 0 rfl rfl ?_
          refine x_getR B (ci := 8) (k := 30) dX8_layChange_71 rfl rfl rfl (by decide) inGX8 kw_835 ?_
          refine x_iload_n B dX8_layChange_74 3 rfl rfl ?_
          refine x_iald B (lo := 0) (hi := 9) dX8_layChange_75 rfl (by omega) (by omega) rfl (fun z75 ez75 lz75 uz75 => ?_)
          have e61 : Is z61 ((bK (gtB (M38 84) (M38 87)) k2.toNat : Nat) : Int) := (Is_e ez61).trans (Is_e n4)
          have e69 : z69 = M38 84 k2.toNat := by rw [Is_e ez69, ofS_f n3 (by decide) (by decide)]
          have e75 : z75 = M38 87 k2.toNat := by rw [Is_e ez75, ofS_f n3 (by decide) (by decide)]
          have J86 : ∀ (b : Int), (0 ≤ b ∧ b ≤ 65535 ∧ Is ((z61.toNat ||| b.toNat : Nat) : Int) ((bK (gtB (M38 84) (M38 87)) (k2 + 1).toNat : Nat) : Int)) → Vx x E M2 86 [(0, .ref (E.1 (71))), (1, .int (iI (sc))), (2, .int (iI (pl))), (3, .int (iI (k2)))] [.int (iI (b)), .int (iI (z61)), .ref (E.1 (71))] := by
            intro b hJ
            obtain ⟨b1, b2, b3⟩ := hJ
            refine x_ior B dX8_layChange_86 (by omega) (by omega) ?_
            refine x_put B (ci := 8) (k := 33) (lo := 0) (hi := 65535) (ty := .int) dX8_layChange_87 rfl rfl rfl (by decide) inGX8 tyX8_ok nmX8 kw_838 rfl (by decide +kernel) (nar_i _) (fit_i _) rfl (or16b (a := z61) (b := b) (by omega) (by omega)).1 (or16b (a := z61) (b := b) (by omega) (by omega)).2 ?_
            refine x_aload_n B dX8_layChange_90 0 rfl rfl ?_
            refine x_dup B dX8_layChange_91 rfl ?_
            refine x_getI B (ci := 8) (k := 34) (lo := 0) (hi := 65535) dX8_layChange_92 rfl rfl rfl (by decide) inGX8 kw_839 rfl (fun z92 ez92 lz92 uz92 => ?_)
            refine x_aload_n B dX8_layChange_95 0 rfl rfl ?_
            refine x_getR B (ci := 8) (k := 23) dX8_layChange_96 rfl rfl rfl (by decide) inGX8 kw_828 ?_
            refine x_iload_n B dX8_layChange_99 3 rfl rfl ?_
            refine x_iald B (lo := 0) (hi := 9) dX8_layChange_100 rfl (by omega) (by omega) rfl (fun z100 ez100 lz100 uz100 => ?_)
            refine x_aload_n B dX8_layChange_101 0 rfl rfl ?_
            refine x_getR B (ci := 8) (k := 30) dX8_layChange_102 rfl rfl rfl (by decide) inGX8 kw_835 ?_
            refine x_iload_n B dX8_layChange_105 3 rfl rfl ?_
            refine x_iald B (lo := 0) (hi := 9) dX8_layChange_106 rfl (by omega) (by omega) rfl (fun z106 ez106 lz106 uz106 => ?_)
            have e92 : Is z92 ((bK (gtB (M38 87) (M38 84)) k2.toNat : Nat) : Int) := by
              show _ = _
              rw [Is_e ez92, sto_nj _ _ _ _ (by decide)]
              exact Is_e n5
            have e100 : z100 = M38 84 k2.toNat := by rw [Is_e ez100, sto_ni _ _ _ _ (by decide), ofS_f n3 (by decide) (by decide)]
            have e106 : z106 = M38 87 k2.toNat := by rw [Is_e ez106, sto_ni _ _ _ _ (by decide), ofS_f n3 (by decide) (by decide)]
            have J117 : ∀ (d : Int), (0 ≤ d ∧ d ≤ 65535 ∧ Is ((z92.toNat ||| d.toNat : Nat) : Int) ((bK (gtB (M38 87) (M38 84)) (k2 + 1).toNat : Nat) : Int)) → Vx x E (sto M2 71 33 (((z61).toNat ||| (b).toNat : Nat) : Int)) 117 [(0, .ref (E.1 (71))), (1, .int (iI (sc))), (2, .int (iI (pl))), (3, .int (iI (k2)))] [.int (iI (d)), .int (iI (z92)), .ref (E.1 (71))] := by
              intro d hJ
              obtain ⟨d1, d2, d3⟩ := hJ
              refine x_ior B dX8_layChange_117 (by omega) (by omega) ?_
              refine x_put B (ci := 8) (k := 34) (lo := 0) (hi := 65535) (ty := .int) dX8_layChange_118 rfl rfl rfl (by decide) inGX8 tyX8_ok nmX8 kw_839 rfl (by decide +kernel) (nar_i _) (fit_i _) rfl (or16b (a := z92) (b := d) (by omega) (by omega)).1 (or16b (a := z92) (b := d) (by omega) (by omega)).2 ?_
              refine x_iinc B (q := 3) dX8_layChange_121 rfl [1, 2, 3, 0] (by decide) (lv' := [(0, .ref (E.1 (71))), (1, .int (iI (sc))), (2, .int (iI (pl))), (3, .int (iI (k2 + 1)))]) rfl ?_
              refine x_goto B (tgt := 53) dX8_layChange_124 (by decide) ?_
              exact ih53 (k2 + 1) (sto (sto M2 71 33 (((z61).toNat ||| (b).toNat : Nat) : Int)) 71 34 (((z92).toNat ||| (d).toNat : Nat) : Int)) (⟨by omega, by omega, ofS_put (ofS_put n3 (by decide)) (by decide), by show _ = _; rw [sto_nj _ _ _ _ (by decide), sto_eq]; exact Is_e b3, by show _ = _; rw [sto_eq]; exact Is_e d3⟩) (by omega)
            refine x_icmp_ge B (tgt := 116) dX8_layChange_107 (by decide) ⟨by omega, by omega⟩ ⟨by omega, by omega⟩ (fun c107 => ?_) (fun c107 => ?_)
            · show Vx x E (sto M2 71 33 (((z61).toNat ||| (b).toNat : Nat) : Int)) 116 [(0, .ref (E.1 (71))), (1, .int (iI (sc))), (2, .int (iI (pl))), (3, .int (iI (k2)))] [.int (iI (z92)), .ref (E.1 (71))]
              refine x_iconst B dX8_layChange_116 ?_
              exact J117 0 (⟨by omega, by omega, bK_f0 n1 (by unfold gtB; rw [decide_eq_true_eq, ← e100, ← e106]; omega) e92⟩)
            · show Vx x E (sto M2 71 33 (((z61).toNat ||| (b).toNat : Nat) : Int)) 110 [(0, .ref (E.1 (71))), (1, .int (iI (sc))), (2, .int (iI (pl))), (3, .int (iI (k2)))] [.int (iI (z92)), .ref (E.1 (71))]
              refine x_iconst B dX8_layChange_110 ?_
              refine x_iload_n B dX8_layChange_111 3 rfl rfl ?_
              refine x_shl1 B dX8_layChange_112 (by omega) (by omega) ?_
              refine x_goto B (tgt := 117) dX8_layChange_113 (by decide) ?_
              exact J117 ((2 ^ (k2).toNat : Nat) : Int) (⟨(pow16 (k := k2) (by omega)).1, (pow16 (k := k2) (by omega)).2, bK_t n1 (by unfold gtB; rw [decide_eq_true_eq, ← e100, ← e106]; omega) e92⟩)
          refine x_icmp_le B (tgt := 85) dX8_layChange_76 (by decide) ⟨by omega, by omega⟩ ⟨by omega, by omega⟩ (fun c76 => ?_) (fun c76 => ?_)
          · show Vx x E M2 85 [(0, .ref (E.1 (71))), (1, .int (iI (sc))), (2, .int (iI (pl))), (3, .int (iI (k2)))] [.int (iI (z61)), .ref (E.1 (71))]
            refine x_iconst B dX8_layChange_85 ?_
            exact J86 0 (⟨by omega, by omega, bK_f0 n1 (by unfold gtB; rw [decide_eq_true_eq, ← e69, ← e75]; omega) e61⟩)
          · show Vx x E M2 79 [(0, .ref (E.1 (71))), (1, .int (iI (sc))), (2, .int (iI (pl))), (3, .int (iI (k2)))] [.int (iI (z61)), .ref (E.1 (71))]
            refine x_iconst B dX8_layChange_79 ?_
            refine x_iload_n B dX8_layChange_80 3 rfl rfl ?_
            refine x_shl1 B dX8_layChange_81 (by omega) (by omega) ?_
            refine x_goto B (tgt := 86) dX8_layChange_82 (by decide) ?_
            exact J86 ((2 ^ (k2).toNat : Nat) : Int) (⟨(pow16 (k := k2) (by omega)).1, (pow16 (k := k2) (by omega)).2, bK_t n1 (by unfold gtB; rw [decide_eq_true_eq, ← e69, ← e75]; omega) e61⟩)
      exact L53 0 (sto (sto M38 71 33 0) 71 34 0) (⟨by omega, by omega, ofS_put (ofS_put ofS_rf (by decide)) (by decide), by show _ = _; rw [sto_nj _ _ _ _ (by decide)]; exact sto_eq _ _ _ _, sto_eq _ _ _ _⟩)
    · show Vx x E M1 17 [(0, .ref (E.1 (71))), (1, .int (iI (sc))), (2, .int (iI (pl))), (3, .int (iI (k)))] []
      refine x_aload_n B dX8_layChange_17 0 rfl rfl ?_
      refine x_getR B (ci := 8) (k := 30) dX8_layChange_18 rfl rfl rfl (by decide) inGX8 kw_835 ?_
      refine x_iload_n B dX8_layChange_21 3 rfl rfl ?_
      refine x_aload_n B dX8_layChange_22 0 rfl rfl ?_
      refine x_getR B (ci := 8) (k := 23) dX8_layChange_23 rfl rfl rfl (by decide) inGX8 kw_828 ?_
      refine x_iload_n B dX8_layChange_26 3 rfl rfl ?_
      refine x_iald B (lo := 0) (hi := 9) dX8_layChange_27 rfl (by omega) (by omega) rfl (fun z27 ez27 lz27 uz27 => ?_)
      refine x_iast B (lo := 0) (hi := 9) dX8_layChange_28 rfl (by omega) (by omega) rfl (by omega) (by omega) ?_
      refine x_iinc B (q := 3) dX8_layChange_29 rfl [1, 2, 3, 0] (by decide) (lv' := [(0, .ref (E.1 (71))), (1, .int (iI (sc))), (2, .int (iI (pl))), (3, .int (iI (k + 1)))]) rfl ?_
      refine x_goto B (tgt := 11) dX8_layChange_32 (by decide) ?_
      exact ih11 (k + 1) (sto M1 87 (k).toNat z27) (⟨by omega, by omega, offC_sto i3 (by omega), ltF_s i4 i1 (by rw [Is_e ez27, offC_f i3 (by omega)])⟩) (by omega)
  exact L11 0 M6 (⟨by omega, by omega, offC_rf, ltF_0⟩)
abbrev rm_X8_move : Room := { frames := 5, cells := 0, slots := 0, locals := 124 }
theorem cs_X8_move : Cv yX8_move cX8_move 6 (some .int) 3 := ⟨kw_1146, ⟨kw_1144, kw_1145⟩, kw_67, by decide, by decide, by decide +kernel⟩
set_option maxHeartbeats 4000000 in
set_option maxRecDepth 100000 in
theorem c_X8_move (l : Launch) (E : Ev) (M : Mem) (sc m o : Int) (g1 : -2147483648 ≤ sc) (g2 : sc < 2147483648) (g3 : -2147483648 ≤ m) (g4 : m < 2147483648) (g5 : 0 ≤ o) (g6 : o ≤ 1) : Ct l yX8_move cX8_move 6 (some .int) rm_X8_move E M [.ref (E.1 (71)), .int (iI (sc)), .int (iI (m)), .int (iI (o))] (pI (fun z M' => z = -1 ∧ M' = M ∧ ¬ (0 ≤ sc ∧ sc < 6 ∧ 0 ≤ m ∧ m < 6) ∨ (0 ≤ sc ∧ sc < 6 ∧ 0 ≤ m ∧ m < 6) ∧ z = ((upS (feM M sc (M 71 19)) (feM M sc (mvT (M 71 19) m)) ||| upS (feM M sc (mvT (M 71 19) m)) (feM M sc (M 71 19)) : Nat) : Int) ∧ ofS [81, 82, 83, 84, 87] (sto (sto M 71 19 (mvT (M 71 19) m)) 71 28 (min 999 (M 71 28 + (if o = 1 ∧ ¬ ((upS (feM M sc (M 71 19)) (feM M sc (mvT (M 71 19) m)) ||| upS (feM M sc (mvT (M 71 19) m)) (feM M sc (M 71 19)) : Nat) : Int) = 0 then M 78 7 else M 78 8)))) M')) := by
  refine Ct_of (lv := [(0, .ref (E.1 (71))), (1, .int (iI (sc))), (2, .int (iI (m))), (3, .int (iI (o)))]) (by decide) ⟨rfl, rfl⟩ (Nat.le_of_ble_eq_true rfl) rfl (fun x _ B R => ?_)
  refine x_iload_n B dX8_move_0 1 rfl rfl ?_
  refine x_callS B (st := []) (av := [.int (iI (sc))]) dX8_move_1 cs_X8_isScene kw_1006 ⟨rfl, rfl, Nat.le_of_ble_eq_true rfl, Nat.le_of_ble_eq_true rfl⟩ rfl rfl (Nat.le_of_ble_eq_true rfl) (c_X8_isScene _ E _ sc (by omega) (by omega)) (k_i (fun z1 Mq hz1 => ?_))
  obtain ⟨rfl, hz1⟩ := hz1
  refine x_if_eq B (tgt := 19) dX8_move_4 (by decide) ⟨by omega, by omega⟩ (fun c4 => ?_) (fun c4 => ?_)
  · show Vx x E M 19 [(0, .ref (E.1 (71))), (1, .int (iI (sc))), (2, .int (iI (m))), (3, .int (iI (o)))] []
    refine x_iconst B dX8_move_19 ?_
    exact r_i B R dX8_move_20 (Or.inl ⟨rfl, rfl, by omega⟩)
  · show Vx x E M 7 [(0, .ref (E.1 (71))), (1, .int (iI (sc))), (2, .int (iI (m))), (3, .int (iI (o)))] []
    refine x_iload_n B dX8_move_7 2 rfl rfl ?_
    refine x_i2l B dX8_move_8 ⟨by omega, by omega⟩ ?_
    refine x_lconst B (z := 0) dX8_move_9 rfl ?_
    refine x_ldc2 B (z := 5) dX8_move_10 kw_1009 rfl ?_
    refine x_callS B (st := []) (av := [.long (iL (m)), .long (iL (0)), .long (iL (5))]) dX8_move_13 cs_X8_in kw_952 ⟨rfl, rfl, Nat.le_of_ble_eq_true rfl, Nat.le_of_ble_eq_true rfl⟩ rfl rfl (Nat.le_of_ble_eq_true rfl) (c_X8_in _ E _ m 0 5 (by omega) (by omega) (by omega) (by omega) (by omega) (by omega)) (k_i (fun z13 Mq hz13 => ?_))
    obtain ⟨rfl, hz13⟩ := hz13
    refine x_if_ne B (tgt := 21) dX8_move_16 (by decide) ⟨by omega, by omega⟩ (fun c16 => ?_) (fun c16 => ?_)
    · show Vx x E M 21 [(0, .ref (E.1 (71))), (1, .int (iI (sc))), (2, .int (iI (m))), (3, .int (iI (o)))] []
      refine x_aload_n B dX8_move_21 0 rfl rfl ?_
      refine x_getI B (ci := 8) (k := 19) (lo := 0) (hi := 25) dX8_move_22 rfl rfl rfl (by decide) inGX8 kw_824 rfl (fun z22 ez22 lz22 uz22 => ?_)
      refine x_iload_n B dX8_move_25 2 rfl rfl ?_
      refine x_callS B (st := []) (av := [.int (iI (z22)), .int (iI (m))]) dX8_move_26 cs_X8_ledTo kw_1030 ⟨rfl, rfl, Nat.le_of_ble_eq_true rfl, Nat.le_of_ble_eq_true rfl⟩ rfl rfl (Nat.le_of_ble_eq_true rfl) (c_X8_ledTo _ E _ z22 m (by omega) (by omega) (by omega) (by omega)) (k_i (fun z26 Mq hz26 => ?_))
      obtain ⟨rfl, hz26⟩ := hz26
      have mv26 := mvT_in (p := z22) (m := m) (by omega) (by omega)
      have e26 : z26 = mvT (M 71 19) m := by rw [hz26, Is_e ez22]
      refine x_istore B dX8_move_29 [1, 2, 3, 4, 0] (by decide) (lv' := [(0, .ref (E.1 (71))), (1, .int (iI (sc))), (2, .int (iI (m))), (3, .int (iI (o))), (4, .int (iI (z26)))]) rfl ?_
      refine x_aload_n B dX8_move_31 0 rfl rfl ?_
      refine x_iload_n B dX8_move_32 1 rfl rfl ?_
      refine x_iload B dX8_move_33 4 rfl ?_
      refine x_callV B (st := []) (av := [.int (iI (sc)), .int (iI (z26))]) dX8_move_35 cs_X8_layChange kw_1147 ⟨rfl, rfl, Nat.le_of_ble_eq_true rfl, Nat.le_of_ble_eq_true rfl⟩ rfl rfl (Nat.le_of_ble_eq_true rfl) (rc_obj B (ci := 8) rfl rfl rfl) (c_X8_layChange _ E _ sc z26 (by omega) (by omega) (by omega) (by omega)) (k_v (fun M35 hz35 => ?_))
      refine x_aload_n B dX8_move_38 0 rfl rfl ?_
      refine x_iload B dX8_move_39 4 rfl ?_
      refine x_put B (ci := 8) (k := 19) (lo := 0) (hi := 25) (ty := .int) dX8_move_41 rfl rfl rfl (by decide) inGX8 tyX8_ok nmX8 kw_824 rfl (by decide +kernel) (nar_i _) (fit_i _) rfl (by omega) (by omega) ?_
      refine x_aload_n B dX8_move_44 0 rfl rfl ?_
      refine x_getI B (ci := 8) (k := 33) (lo := 0) (hi := 65535) dX8_move_45 rfl rfl rfl (by decide) inGX8 kw_838 rfl (fun z45 ez45 lz45 uz45 => ?_)
      refine x_aload_n B dX8_move_48 0 rfl rfl ?_
      refine x_getI B (ci := 8) (k := 34) (lo := 0) (hi := 65535) dX8_move_49 rfl rfl rfl (by decide) inGX8 kw_839 rfl (fun z49 ez49 lz49 uz49 => ?_)
      refine x_ior B dX8_move_52 (by omega) (by omega) ?_
      have hor : (((z45).toNat ||| (z49).toNat : Nat) : Int) = ((upS (feM M sc (M 71 19)) (feM M sc (mvT (M 71 19) m)) ||| upS (feM M sc (mvT (M 71 19) m)) (feM M sc (M 71 19)) : Nat) : Int) := by
        rw [Is_e ez45, Is_e ez49, sto_nj _ _ _ _ (by decide), sto_nj _ _ _ _ (by decide), Is_e hz35.2.1, Is_e hz35.2.2, Int.toNat_natCast, Int.toNat_natCast, e26]
      have h16 := or16b (a := z45) (b := z49) (by omega) (by omega)
      generalize hy : (((z45).toNat ||| (z49).toNat : Nat) : Int) = y at hor h16 ⊢
      refine x_istore B dX8_move_53 [1, 2, 3, 4, 5, 0] (by decide) (lv' := [(0, .ref (E.1 (71))), (1, .int (iI (sc))), (2, .int (iI (m))), (3, .int (iI (o))), (4, .int (iI (z26))), (5, .int (iI (y)))]) rfl ?_
      refine x_aload_n B dX8_move_55 0 rfl rfl ?_
      refine x_iload_n B dX8_move_56 3 rfl rfl ?_
      have J82 : ∀ (jn : Int), (Is jn (if o = 1 ∧ ¬ ((upS (feM M sc (M 71 19)) (feM M sc (mvT (M 71 19) m)) ||| upS (feM M sc (mvT (M 71 19) m)) (feM M sc (M 71 19)) : Nat) : Int) = 0 then M 78 7 else M 78 8) ∧ 0 ≤ jn ∧ jn ≤ 20) → Vx x E (sto M35 71 19 z26) 82 [(0, .ref (E.1 (71))), (1, .int (iI (sc))), (2, .int (iI (m))), (3, .int (iI (o))), (4, .int (iI (z26))), (5, .int (iI (y)))] [.int (iI (jn)), .ref (E.1 (71))] := by
        intro jn hJ
        obtain ⟨j1, j2, j3⟩ := hJ
        refine x_callV B (st := []) (av := [.int (iI (jn))]) dX8_move_82 cs_X8_learns kw_1085 ⟨rfl, rfl, Nat.le_of_ble_eq_true rfl, Nat.le_of_ble_eq_true rfl⟩ rfl rfl (Nat.le_of_ble_eq_true rfl) (rc_obj B (ci := 8) rfl rfl rfl) (c_X8_learns _ E _ jn (by omega) (by omega)) (k_v (fun M82 hz82 => ?_))
        have e82 : M82 = sto (sto M35 71 19 z26) 71 28 (min 999 (M 71 28 + jn)) := by rw [hz82, sto_nj _ _ _ _ (by decide), ofS_o hz35.1 (by decide) (by decide)]
        refine x_iload B dX8_move_85 5 rfl ?_
        exact r_i B R dX8_move_87 (Or.inr ⟨by omega, hor, by rw [e82, e26, Is_e j1]; exact ofS_s2 (ofS_s2 hz35.1)⟩)
      refine x_if_eq B (tgt := 75) dX8_move_57 (by decide) ⟨by omega, by omega⟩ (fun c57 => ?_) (fun c57 => ?_)
      · show Vx x E (sto M35 71 19 z26) 75 [(0, .ref (E.1 (71))), (1, .int (iI (sc))), (2, .int (iI (m))), (3, .int (iI (o))), (4, .int (iI (z26))), (5, .int (iI (y)))] [.ref (E.1 (71))]
        refine x_aload_n B dX8_move_75 0 rfl rfl ?_
        refine x_getR B (ci := 8) (k := 14) dX8_move_76 rfl rfl rfl (by decide) inGX8 kw_819 ?_
        refine x_bipush B dX8_move_79 rfl ?_
        refine x_iald B (lo := 0) (hi := 20) dX8_move_81 rfl (by omega) (by omega) rfl (fun z81 ez81 lz81 uz81 => ?_)
        have ez81 : Is z81 ((sto M35 71 19 z26) 78 8) := ez81
        exact J82 z81 (⟨by show _ = _; rw [if_neg (fun h => by have := h.1; omega), Is_e ez81, sto_ni _ _ _ _ (by decide), ofS_f hz35.1 (i := 78) (by decide) (by decide)], by omega, by omega⟩)
      · show Vx x E (sto M35 71 19 z26) 60 [(0, .ref (E.1 (71))), (1, .int (iI (sc))), (2, .int (iI (m))), (3, .int (iI (o))), (4, .int (iI (z26))), (5, .int (iI (y)))] [.ref (E.1 (71))]
        refine x_iload B dX8_move_60 5 rfl ?_
        refine x_if_eq B (tgt := 75) dX8_move_62 (by decide) ⟨by omega, by omega⟩ (fun c62 => ?_) (fun c62 => ?_)
        · show Vx x E (sto M35 71 19 z26) 75 [(0, .ref (E.1 (71))), (1, .int (iI (sc))), (2, .int (iI (m))), (3, .int (iI (o))), (4, .int (iI (z26))), (5, .int (iI (y)))] [.ref (E.1 (71))]
          refine x_aload_n B dX8_move_75 0 rfl rfl ?_
          refine x_getR B (ci := 8) (k := 14) dX8_move_76 rfl rfl rfl (by decide) inGX8 kw_819 ?_
          refine x_bipush B dX8_move_79 rfl ?_
          refine x_iald B (lo := 0) (hi := 20) dX8_move_81 rfl (by omega) (by omega) rfl (fun z81 ez81 lz81 uz81 => ?_)
          have ez81 : Is z81 ((sto M35 71 19 z26) 78 8) := ez81
          exact J82 z81 (⟨by show _ = _; rw [if_neg (fun h => h.2 (by rw [← hor]; exact c62)), Is_e ez81, sto_ni _ _ _ _ (by decide), ofS_f hz35.1 (i := 78) (by decide) (by decide)], by omega, by omega⟩)
        · show Vx x E (sto M35 71 19 z26) 65 [(0, .ref (E.1 (71))), (1, .int (iI (sc))), (2, .int (iI (m))), (3, .int (iI (o))), (4, .int (iI (z26))), (5, .int (iI (y)))] [.ref (E.1 (71))]
          refine x_aload_n B dX8_move_65 0 rfl rfl ?_
          refine x_getR B (ci := 8) (k := 14) dX8_move_66 rfl rfl rfl (by decide) inGX8 kw_819 ?_
          refine x_bipush B dX8_move_69 rfl ?_
          refine x_iald B (lo := 0) (hi := 20) dX8_move_71 rfl (by omega) (by omega) rfl (fun z71 ez71 lz71 uz71 => ?_)
          have ez71 : Is z71 ((sto M35 71 19 z26) 78 7) := ez71
          refine x_goto B (tgt := 82) dX8_move_72 (by decide) ?_
          exact J82 z71 (⟨by show _ = _; rw [if_pos ⟨by omega, by rw [← hor]; exact c62⟩, Is_e ez71, sto_ni _ _ _ _ (by decide), ofS_f hz35.1 (i := 78) (by decide) (by decide)], by omega, by omega⟩)
    · show Vx x E M 19 [(0, .ref (E.1 (71))), (1, .int (iI (sc))), (2, .int (iI (m))), (3, .int (iI (o)))] []
      refine x_iconst B dX8_move_19 ?_
      exact r_i B R dX8_move_20 (Or.inl ⟨rfl, rfl, by omega⟩)
abbrev rm_X8_foretell : Room := { frames := 5, cells := 0, slots := 0, locals := 124 }
theorem cs_X8_foretell : Cv yX8_foretell cX8_foretell 4 (some .int) 3 := ⟨kw_1154, ⟨kw_1152, kw_1153⟩, kw_67, by decide, by decide, by decide +kernel⟩
set_option maxHeartbeats 4000000 in
set_option maxRecDepth 100000 in
theorem c_X8_foretell (l : Launch) (E : Ev) (M : Mem) (sc m w : Int) (g1 : -2147483648 ≤ sc) (g2 : sc < 2147483648) (g3 : -2147483648 ≤ m) (g4 : m < 2147483648) (g5 : -2147483648 ≤ w) (g6 : w < 2147483648) : Ct l yX8_foretell cX8_foretell 4 (some .int) rm_X8_foretell E M [.ref (E.1 (71)), .int (iI (sc)), .int (iI (m)), .int (iI (w))] (pI (fun z M' => z = -1 ∧ M' = M ∧ ¬ (0 ≤ sc ∧ sc < 6 ∧ 0 ≤ m ∧ m < 6 ∧ 0 ≤ w ∧ w < 2) ∨ (0 ≤ sc ∧ sc < 6 ∧ 0 ≤ m ∧ m < 6 ∧ 0 ≤ w ∧ w < 2) ∧ z = (if w = 0 then ((upS (feM M sc (M 71 19)) (feM M sc (mvT (M 71 19) m)) : Nat) : Int) else ((upS (feM M sc (mvT (M 71 19) m)) (feM M sc (M 71 19)) : Nat) : Int)) ∧ ofS [81, 82, 83, 84, 87] M M')) := by
  refine Ct_of (lv := [(0, .ref (E.1 (71))), (1, .int (iI (sc))), (2, .int (iI (m))), (3, .int (iI (w)))]) (by decide) ⟨rfl, rfl⟩ (Nat.le_of_ble_eq_true rfl) rfl (fun x _ B R => ?_)
  refine x_iload_n B dX8_foretell_0 1 rfl rfl ?_
  refine x_callS B (st := []) (av := [.int (iI (sc))]) dX8_foretell_1 cs_X8_isScene kw_1006 ⟨rfl, rfl, Nat.le_of_ble_eq_true rfl, Nat.le_of_ble_eq_true rfl⟩ rfl rfl (Nat.le_of_ble_eq_true rfl) (c_X8_isScene _ E _ sc (by omega) (by omega)) (k_i (fun z1 Mq hz1 => ?_))
  obtain ⟨rfl, hz1⟩ := hz1
  refine x_if_eq B (tgt := 29) dX8_foretell_4 (by decide) ⟨by omega, by omega⟩ (fun c4 => ?_) (fun c4 => ?_)
  · show Vx x E M 29 [(0, .ref (E.1 (71))), (1, .int (iI (sc))), (2, .int (iI (m))), (3, .int (iI (w)))] []
    refine x_iconst B dX8_foretell_29 ?_
    exact r_i B R dX8_foretell_30 (Or.inl ⟨rfl, rfl, by omega⟩)
  · show Vx x E M 7 [(0, .ref (E.1 (71))), (1, .int (iI (sc))), (2, .int (iI (m))), (3, .int (iI (w)))] []
    refine x_iload_n B dX8_foretell_7 2 rfl rfl ?_
    refine x_i2l B dX8_foretell_8 ⟨by omega, by omega⟩ ?_
    refine x_lconst B (z := 0) dX8_foretell_9 rfl ?_
    refine x_ldc2 B (z := 5) dX8_foretell_10 kw_1009 rfl ?_
    refine x_callS B (st := []) (av := [.long (iL (m)), .long (iL (0)), .long (iL (5))]) dX8_foretell_13 cs_X8_in kw_952 ⟨rfl, rfl, Nat.le_of_ble_eq_true rfl, Nat.le_of_ble_eq_true rfl⟩ rfl rfl (Nat.le_of_ble_eq_true rfl) (c_X8_in _ E _ m 0 5 (by omega) (by omega) (by omega) (by omega) (by omega) (by omega)) (k_i (fun z13 Mq hz13 => ?_))
    obtain ⟨rfl, hz13⟩ := hz13
    refine x_if_eq B (tgt := 29) dX8_foretell_16 (by decide) ⟨by omega, by omega⟩ (fun c16 => ?_) (fun c16 => ?_)
    · show Vx x E M 29 [(0, .ref (E.1 (71))), (1, .int (iI (sc))), (2, .int (iI (m))), (3, .int (iI (w)))] []
      refine x_iconst B dX8_foretell_29 ?_
      exact r_i B R dX8_foretell_30 (Or.inl ⟨rfl, rfl, by omega⟩)
    · show Vx x E M 19 [(0, .ref (E.1 (71))), (1, .int (iI (sc))), (2, .int (iI (m))), (3, .int (iI (w)))] []
      refine x_iload_n B dX8_foretell_19 3 rfl rfl ?_
      refine x_i2l B dX8_foretell_20 ⟨by omega, by omega⟩ ?_
      refine x_lconst B (z := 0) dX8_foretell_21 rfl ?_
      refine x_lconst B (z := 1) dX8_foretell_22 rfl ?_
      refine x_callS B (st := []) (av := [.long (iL (w)), .long (iL (0)), .long (iL (1))]) dX8_foretell_23 cs_X8_in kw_952 ⟨rfl, rfl, Nat.le_of_ble_eq_true rfl, Nat.le_of_ble_eq_true rfl⟩ rfl rfl (Nat.le_of_ble_eq_true rfl) (c_X8_in _ E _ w 0 1 (by omega) (by omega) (by omega) (by omega) (by omega) (by omega)) (k_i (fun z23 Mq hz23 => ?_))
      obtain ⟨rfl, hz23⟩ := hz23
      refine x_if_ne B (tgt := 31) dX8_foretell_26 (by decide) ⟨by omega, by omega⟩ (fun c26 => ?_) (fun c26 => ?_)
      · show Vx x E M 31 [(0, .ref (E.1 (71))), (1, .int (iI (sc))), (2, .int (iI (m))), (3, .int (iI (w)))] []
        refine x_aload_n B dX8_foretell_31 0 rfl rfl ?_
        refine x_iload_n B dX8_foretell_32 1 rfl rfl ?_
        refine x_aload_n B dX8_foretell_33 0 rfl rfl ?_
        refine x_getI B (ci := 8) (k := 19) (lo := 0) (hi := 25) dX8_foretell_34 rfl rfl rfl (by decide) inGX8 kw_824 rfl (fun z34 ez34 lz34 uz34 => ?_)
        refine x_iload_n B dX8_foretell_37 2 rfl rfl ?_
        refine x_callS B (st := [.int (iI (sc)), .ref (E.1 (71))]) (av := [.int (iI (z34)), .int (iI (m))]) dX8_foretell_38 cs_X8_ledTo kw_1030 ⟨rfl, rfl, Nat.le_of_ble_eq_true rfl, Nat.le_of_ble_eq_true rfl⟩ rfl rfl (Nat.le_of_ble_eq_true rfl) (c_X8_ledTo _ E _ z34 m (by omega) (by omega) (by omega) (by omega)) (k_i (fun z38 Mq hz38 => ?_))
        obtain ⟨rfl, hz38⟩ := hz38
        have mv26 := mvT_in (p := z34) (m := m) (by omega) (by omega)
        have e38 : z38 = mvT (M 71 19) m := by rw [hz38, Is_e ez34]
        refine x_callV B (st := []) (av := [.int (iI (sc)), .int (iI (z38))]) dX8_foretell_41 cs_X8_layChange kw_1147 ⟨rfl, rfl, Nat.le_of_ble_eq_true rfl, Nat.le_of_ble_eq_true rfl⟩ rfl rfl (Nat.le_of_ble_eq_true rfl) (rc_obj B (ci := 8) rfl rfl rfl) (c_X8_layChange _ E _ sc z38 (by omega) (by omega) (by omega) (by omega)) (k_v (fun M41 hz41 => ?_))
        rw [e38] at hz41
        refine x_iload_n B dX8_foretell_44 3 rfl rfl ?_
        refine x_if_ne B (tgt := 55) dX8_foretell_45 (by decide) ⟨by omega, by omega⟩ (fun c45 => ?_) (fun c45 => ?_)
        · show Vx x E M41 55 [(0, .ref (E.1 (71))), (1, .int (iI (sc))), (2, .int (iI (m))), (3, .int (iI (w)))] []
          refine x_aload_n B dX8_foretell_55 0 rfl rfl ?_
          refine x_getI B (ci := 8) (k := 34) (lo := 0) (hi := 65535) dX8_foretell_56 rfl rfl rfl (by decide) inGX8 kw_839 rfl (fun z56 ez56 lz56 uz56 => ?_)
          exact r_i B R dX8_foretell_59 (Or.inr ⟨by omega, by rw [if_neg c45, Is_e ez56, Is_e hz41.2.2], hz41.1⟩)
        · show Vx x E M41 48 [(0, .ref (E.1 (71))), (1, .int (iI (sc))), (2, .int (iI (m))), (3, .int (iI (w)))] []
          refine x_aload_n B dX8_foretell_48 0 rfl rfl ?_
          refine x_getI B (ci := 8) (k := 33) (lo := 0) (hi := 65535) dX8_foretell_49 rfl rfl rfl (by decide) inGX8 kw_838 rfl (fun z49 ez49 lz49 uz49 => ?_)
          refine x_goto B (tgt := 59) dX8_foretell_52 (by decide) ?_
          exact r_i B R dX8_foretell_59 (Or.inr ⟨by omega, by rw [if_pos c45, Is_e ez49, Is_e hz41.2.1], hz41.1⟩)
      · show Vx x E M 29 [(0, .ref (E.1 (71))), (1, .int (iI (sc))), (2, .int (iI (m))), (3, .int (iI (w)))] []
        refine x_iconst B dX8_foretell_29 ?_
        exact r_i B R dX8_foretell_30 (Or.inl ⟨rfl, rfl, by omega⟩)
theorem nbT_2 {p : Int} : nbT p 2 = if 4 ≤ p then p - 4 else -1 := rfl
abbrev rm_X8_loud : Room := { frames := 0, cells := 0, slots := 0, locals := 0 }
theorem cs_X8_loud : Cv yX8_loud cX8_loud 4 (some .int) 1 := ⟨kw_1186, ⟨kw_1185, kw_54⟩, kw_67, by decide, by decide, by decide +kernel⟩
set_option maxHeartbeats 4000000 in
set_option maxRecDepth 100000 in
theorem c_X8_loud (l : Launch) (E : Ev) (M : Mem) (p : Int) (g1 : 0 ≤ p) (g2 : p < 16) : Ct l yX8_loud cX8_loud 4 (some .int) rm_X8_loud E M [.ref (E.1 (71)), .int (iI (p))] (pI (fun z M' => M = M' ∧ (z = loS (M 83) (M 78 6) p ∧ 0 ≤ z ∧ z ≤ 9))) := by
  refine Ct_of (lv := [(0, .ref (E.1 (71))), (1, .int (iI (p)))]) (by decide) ⟨rfl, rfl⟩ (Nat.le_of_ble_eq_true rfl) rfl (fun x _ B R => ?_)
  refine x_iload_n B dX8_loud_0 1 rfl rfl ?_
  refine x_iconst B dX8_loud_1 ?_
  have J35 : ∀ (a : Int), (0 ≤ a ∧ a ≤ 1 ∧ (a = 1 ∧ hiS (M 83) (M 78 6) p 2 ∨ a = 0 ∧ ¬ hiS (M 83) (M 78 6) p 2)) → Vx x E M 35 [(0, .ref (E.1 (71))), (1, .int (iI (p)))] [.int (iI (a))] := by
    intro a hJ
    obtain ⟨a1, a2, a3⟩ := hJ
    refine x_istore_n B dX8_loud_35 [1, 2, 0] rfl (by decide) (lv' := [(0, .ref (E.1 (71))), (1, .int (iI (p))), (2, .int (iI (a)))]) rfl ?_
    refine x_iload_n B dX8_loud_36 1 rfl rfl ?_
    refine x_bipush B dX8_loud_37 rfl ?_
    have J72 : ∀ (b : Int), (0 ≤ b ∧ b ≤ 1 ∧ (b = 1 ∧ hiS (M 83) (M 78 6) p 3 ∨ b = 0 ∧ ¬ hiS (M 83) (M 78 6) p 3)) → Vx x E M 72 [(0, .ref (E.1 (71))), (1, .int (iI (p))), (2, .int (iI (a)))] [.int (iI (b))] := by
      intro b hJ
      obtain ⟨b1, b2, b3⟩ := hJ
      refine x_istore_n B dX8_loud_72 [1, 2, 3, 0] rfl (by decide) (lv' := [(0, .ref (E.1 (71))), (1, .int (iI (p))), (2, .int (iI (a))), (3, .int (iI (b)))]) rfl ?_
      refine x_iload_n B dX8_loud_73 2 rfl rfl ?_
      refine x_if_ne B (tgt := 81) dX8_loud_74 (by decide) ⟨by omega, by omega⟩ (fun c74 => ?_) (fun c74 => ?_)
      · show Vx x E M 81 [(0, .ref (E.1 (71))), (1, .int (iI (p))), (2, .int (iI (a))), (3, .int (iI (b)))] []
        refine x_iconst B dX8_loud_81 ?_
        refine x_goto B (tgt := 91) dX8_loud_82 (by decide) ?_
        exact r_i B R dX8_loud_91 (⟨rfl, (loS_0 (k := 2) (by omega) (by omega) (a3.resolve_right (fun h => c74 h.1)).2).symm, by omega, by omega⟩)
      · show Vx x E M 77 [(0, .ref (E.1 (71))), (1, .int (iI (p))), (2, .int (iI (a))), (3, .int (iI (b)))] []
        refine x_iload_n B dX8_loud_77 3 rfl rfl ?_
        refine x_if_eq B (tgt := 85) dX8_loud_78 (by decide) ⟨by omega, by omega⟩ (fun c78 => ?_) (fun c78 => ?_)
        · show Vx x E M 85 [(0, .ref (E.1 (71))), (1, .int (iI (p))), (2, .int (iI (a))), (3, .int (iI (b)))] []
          refine x_aload_n B dX8_loud_85 0 rfl rfl ?_
          refine x_getR B (ci := 8) (k := 22) dX8_loud_86 rfl rfl rfl (by decide) inGX8 kw_827 ?_
          refine x_iload_n B dX8_loud_89 1 rfl rfl ?_
          refine x_iald B (lo := 0) (hi := 9) dX8_loud_90 rfl (by omega) (by omega) rfl (fun z90 ez90 lz90 uz90 => ?_)
          exact r_i B R dX8_loud_91 (⟨rfl, by rw [loS_s (fun w h0 h1 => by rcases (show w = 2 ∨ w = 3 by omega) with h7 | h7; (rw [h7]; exact (a3.resolve_left (fun h => by omega)).2); (rw [h7]; exact (b3.resolve_left (fun h => by omega)).2))]; exact Is_e ez90, by omega, by omega⟩)
        · show Vx x E M 81 [(0, .ref (E.1 (71))), (1, .int (iI (p))), (2, .int (iI (a))), (3, .int (iI (b)))] []
          refine x_iconst B dX8_loud_81 ?_
          refine x_goto B (tgt := 91) dX8_loud_82 (by decide) ?_
          exact r_i B R dX8_loud_91 (⟨rfl, (loS_0 (k := 3) (by omega) (by omega) (b3.resolve_right (fun h => c78 h.1)).2).symm, by omega, by omega⟩)
    refine x_icmp_ge B (tgt := 71) dX8_loud_39 (by decide) ⟨by omega, by omega⟩ ⟨by omega, by omega⟩ (fun c39 => ?_) (fun c39 => ?_)
    · show Vx x E M 71 [(0, .ref (E.1 (71))), (1, .int (iI (p))), (2, .int (iI (a)))] []
      refine x_iconst B dX8_loud_71 ?_
      exact J72 0 (⟨by omega, by omega, Or.inr ⟨rfl, fun h => by have h1 := h.1; rw [nbT_3, if_neg (by omega)] at h1; omega⟩⟩)
    · show Vx x E M 42 [(0, .ref (E.1 (71))), (1, .int (iI (p))), (2, .int (iI (a)))] []
      refine x_aload_n B dX8_loud_42 0 rfl rfl ?_
      refine x_getR B (ci := 8) (k := 22) dX8_loud_43 rfl rfl rfl (by decide) inGX8 kw_827 ?_
      refine x_iload_n B dX8_loud_46 1 rfl rfl ?_
      refine x_iconst B dX8_loud_47 ?_
      refine x_iadd B dX8_loud_48 ?_
      refine x_iald B (lo := 0) (hi := 9) dX8_loud_49 rfl (by omega) (by omega) rfl (fun z49 ez49 lz49 uz49 => ?_)
      refine x_aload_n B dX8_loud_50 0 rfl rfl ?_
      refine x_getR B (ci := 8) (k := 22) dX8_loud_51 rfl rfl rfl (by decide) inGX8 kw_827 ?_
      refine x_iload_n B dX8_loud_54 1 rfl rfl ?_
      refine x_iald B (lo := 0) (hi := 9) dX8_loud_55 rfl (by omega) (by omega) rfl (fun z55 ez55 lz55 uz55 => ?_)
      refine x_isub B dX8_loud_56 ?_
      refine x_aload_n B dX8_loud_57 0 rfl rfl ?_
      refine x_getR B (ci := 8) (k := 14) dX8_loud_58 rfl rfl rfl (by decide) inGX8 kw_819 ?_
      refine x_bipush B dX8_loud_61 rfl ?_
      refine x_iald B (lo := 1) (hi := 9) dX8_loud_63 rfl (by omega) (by omega) rfl (fun z63 ez63 lz63 uz63 => ?_)
      have ez63 : Is z63 (M 78 6) := ez63
      refine x_icmp_lt B (tgt := 71) dX8_loud_64 (by decide) ⟨by omega, by omega⟩ ⟨by omega, by omega⟩ (fun c64 => ?_) (fun c64 => ?_)
      · show Vx x E M 71 [(0, .ref (E.1 (71))), (1, .int (iI (p))), (2, .int (iI (a)))] []
        refine x_iconst B dX8_loud_71 ?_
        exact J72 0 (⟨by omega, by omega, Or.inr ⟨rfl, fun h => by have h1 := h.2; rw [nbT_3, if_pos (by omega), ← Is_e ez49, ← Is_e ez55, ← Is_e ez63] at h1; omega⟩⟩)
      · show Vx x E M 67 [(0, .ref (E.1 (71))), (1, .int (iI (p))), (2, .int (iI (a)))] []
        refine x_iconst B dX8_loud_67 ?_
        refine x_goto B (tgt := 72) dX8_loud_68 (by decide) ?_
        exact J72 1 (⟨by omega, by omega, Or.inl ⟨rfl, by rw [nbT_3, if_pos (by omega)]; omega, by rw [nbT_3, if_pos (by omega), ← Is_e ez49, ← Is_e ez55, ← Is_e ez63]; omega⟩⟩)
  refine x_icmp_lt B (tgt := 34) dX8_loud_2 (by decide) ⟨by omega, by omega⟩ ⟨by omega, by omega⟩ (fun c2 => ?_) (fun c2 => ?_)
  · show Vx x E M 34 [(0, .ref (E.1 (71))), (1, .int (iI (p)))] []
    refine x_iconst B dX8_loud_34 ?_
    exact J35 0 (⟨by omega, by omega, Or.inr ⟨rfl, fun h => by have h1 := h.1; rw [nbT_2, if_neg (by omega)] at h1; omega⟩⟩)
  · show Vx x E M 5 [(0, .ref (E.1 (71))), (1, .int (iI (p)))] []
    refine x_aload_n B dX8_loud_5 0 rfl rfl ?_
    refine x_getR B (ci := 8) (k := 22) dX8_loud_6 rfl rfl rfl (by decide) inGX8 kw_827 ?_
    refine x_iload_n B dX8_loud_9 1 rfl rfl ?_
    refine x_iconst B dX8_loud_10 ?_
    refine x_isub B dX8_loud_11 ?_
    refine x_iald B (lo := 0) (hi := 9) dX8_loud_12 rfl (by omega) (by omega) rfl (fun z12 ez12 lz12 uz12 => ?_)
    refine x_aload_n B dX8_loud_13 0 rfl rfl ?_
    refine x_getR B (ci := 8) (k := 22) dX8_loud_14 rfl rfl rfl (by decide) inGX8 kw_827 ?_
    refine x_iload_n B dX8_loud_17 1 rfl rfl ?_
    refine x_iald B (lo := 0) (hi := 9) dX8_loud_18 rfl (by omega) (by omega) rfl (fun z18 ez18 lz18 uz18 => ?_)
    refine x_isub B dX8_loud_19 ?_
    refine x_aload_n B dX8_loud_20 0 rfl rfl ?_
    refine x_getR B (ci := 8) (k := 14) dX8_loud_21 rfl rfl rfl (by decide) inGX8 kw_819 ?_
    refine x_bipush B dX8_loud_24 rfl ?_
    refine x_iald B (lo := 1) (hi := 9) dX8_loud_26 rfl (by omega) (by omega) rfl (fun z26 ez26 lz26 uz26 => ?_)
    have ez26 : Is z26 (M 78 6) := ez26
    refine x_icmp_lt B (tgt := 34) dX8_loud_27 (by decide) ⟨by omega, by omega⟩ ⟨by omega, by omega⟩ (fun c27 => ?_) (fun c27 => ?_)
    · show Vx x E M 34 [(0, .ref (E.1 (71))), (1, .int (iI (p)))] []
      refine x_iconst B dX8_loud_34 ?_
      exact J35 0 (⟨by omega, by omega, Or.inr ⟨rfl, fun h => by have h1 := h.2; rw [nbT_2, if_pos (by omega), ← Is_e ez12, ← Is_e ez18, ← Is_e ez26] at h1; omega⟩⟩)
    · show Vx x E M 30 [(0, .ref (E.1 (71))), (1, .int (iI (p)))] []
      refine x_iconst B dX8_loud_30 ?_
      refine x_goto B (tgt := 35) dX8_loud_31 (by decide) ?_
      exact J35 1 (⟨by omega, by omega, Or.inl ⟨rfl, by rw [nbT_2, if_pos (by omega)]; omega, by rw [nbT_2, if_pos (by omega), ← Is_e ez12, ← Is_e ez18, ← Is_e ez26]; omega⟩⟩)
abbrev rm_X8_heard : Room := { frames := 3, cells := 0, slots := 0, locals := 75 }
theorem cs_X8_heard : Cv yX8_heard cX8_heard 4 (some .int) 3 := ⟨kw_1182, ⟨kw_1180, kw_1181⟩, kw_67, by decide, by decide, by decide +kernel⟩
set_option maxHeartbeats 4000000 in
set_option maxRecDepth 100000 in
theorem c_X8_heard (l : Launch) (E : Ev) (M : Mem) (sc co ro : Int) (g1 : -2147483648 ≤ sc) (g2 : sc < 2147483648) (g3 : -2147483648 ≤ co) (g4 : co < 2147483648) (g5 : -2147483648 ≤ ro) (g6 : ro < 2147483648) : Ct l yX8_heard cX8_heard 4 (some .int) rm_X8_heard E M [.ref (E.1 (71)), .int (iI (sc)), .int (iI (co)), .int (iI (ro))] (pI (fun z M' => z = -1 ∧ M' = M ∧ ¬ (0 ≤ sc ∧ sc < 6 ∧ 0 ≤ co ∧ co < 4 ∧ 0 ≤ ro ∧ ro < 4) ∨ (0 ≤ sc ∧ sc < 6 ∧ 0 ≤ co ∧ co < 4 ∧ 0 ≤ ro ∧ ro < 4) ∧ z = loS (shN M sc (M 71 19)) (M 78 6) (4 * ro + co) ∧ ofS [81, 82, 83] M M')) := by
  refine Ct_of (lv := [(0, .ref (E.1 (71))), (1, .int (iI (sc))), (2, .int (iI (co))), (3, .int (iI (ro)))]) (by decide) ⟨rfl, rfl⟩ (Nat.le_of_ble_eq_true rfl) rfl (fun x _ B R => ?_)
  refine x_iload_n B dX8_heard_0 1 rfl rfl ?_
  refine x_callS B (st := []) (av := [.int (iI (sc))]) dX8_heard_1 cs_X8_isScene kw_1006 ⟨rfl, rfl, Nat.le_of_ble_eq_true rfl, Nat.le_of_ble_eq_true rfl⟩ rfl rfl (Nat.le_of_ble_eq_true rfl) (c_X8_isScene _ E _ sc (by omega) (by omega)) (k_i (fun z1 Mq hz1 => ?_))
  obtain ⟨rfl, hz1⟩ := hz1
  refine x_if_eq B (tgt := 31) dX8_heard_4 (by decide) ⟨by omega, by omega⟩ (fun c4 => ?_) (fun c4 => ?_)
  · show Vx x E M 31 [(0, .ref (E.1 (71))), (1, .int (iI (sc))), (2, .int (iI (co))), (3, .int (iI (ro)))] []
    refine x_iconst B dX8_heard_31 ?_
    exact r_i B R dX8_heard_32 (Or.inl ⟨rfl, rfl, by omega⟩)
  · show Vx x E M 7 [(0, .ref (E.1 (71))), (1, .int (iI (sc))), (2, .int (iI (co))), (3, .int (iI (ro)))] []
    refine x_iload_n B dX8_heard_7 2 rfl rfl ?_
    refine x_i2l B dX8_heard_8 ⟨by omega, by omega⟩ ?_
    refine x_lconst B (z := 0) dX8_heard_9 rfl ?_
    refine x_ldc2 B (z := 3) dX8_heard_10 kw_1041 rfl ?_
    refine x_callS B (st := []) (av := [.long (iL (co)), .long (iL (0)), .long (iL (3))]) dX8_heard_13 cs_X8_in kw_952 ⟨rfl, rfl, Nat.le_of_ble_eq_true rfl, Nat.le_of_ble_eq_true rfl⟩ rfl rfl (Nat.le_of_ble_eq_true rfl) (c_X8_in _ E _ co 0 3 (by omega) (by omega) (by omega) (by omega) (by omega) (by omega)) (k_i (fun z13 Mq hz13 => ?_))
    obtain ⟨rfl, hz13⟩ := hz13
    refine x_if_eq B (tgt := 31) dX8_heard_16 (by decide) ⟨by omega, by omega⟩ (fun c16 => ?_) (fun c16 => ?_)
    · show Vx x E M 31 [(0, .ref (E.1 (71))), (1, .int (iI (sc))), (2, .int (iI (co))), (3, .int (iI (ro)))] []
      refine x_iconst B dX8_heard_31 ?_
      exact r_i B R dX8_heard_32 (Or.inl ⟨rfl, rfl, by omega⟩)
    · show Vx x E M 19 [(0, .ref (E.1 (71))), (1, .int (iI (sc))), (2, .int (iI (co))), (3, .int (iI (ro)))] []
      refine x_iload_n B dX8_heard_19 3 rfl rfl ?_
      refine x_i2l B dX8_heard_20 ⟨by omega, by omega⟩ ?_
      refine x_lconst B (z := 0) dX8_heard_21 rfl ?_
      refine x_ldc2 B (z := 3) dX8_heard_22 kw_1041 rfl ?_
      refine x_callS B (st := []) (av := [.long (iL (ro)), .long (iL (0)), .long (iL (3))]) dX8_heard_25 cs_X8_in kw_952 ⟨rfl, rfl, Nat.le_of_ble_eq_true rfl, Nat.le_of_ble_eq_true rfl⟩ rfl rfl (Nat.le_of_ble_eq_true rfl) (c_X8_in _ E _ ro 0 3 (by omega) (by omega) (by omega) (by omega) (by omega) (by omega)) (k_i (fun z25 Mq hz25 => ?_))
      obtain ⟨rfl, hz25⟩ := hz25
      refine x_if_ne B (tgt := 33) dX8_heard_28 (by decide) ⟨by omega, by omega⟩ (fun c28 => ?_) (fun c28 => ?_)
      · show Vx x E M 33 [(0, .ref (E.1 (71))), (1, .int (iI (sc))), (2, .int (iI (co))), (3, .int (iI (ro)))] []
        refine x_aload_n B dX8_heard_33 0 rfl rfl ?_
        refine x_iload_n B dX8_heard_34 1 rfl rfl ?_
        refine x_aload_n B dX8_heard_35 0 rfl rfl ?_
        refine x_getI B (ci := 8) (k := 19) (lo := 0) (hi := 25) dX8_heard_36 rfl rfl rfl (by decide) inGX8 kw_824 rfl (fun z36 ez36 lz36 uz36 => ?_)
        refine x_callV B (st := []) (av := [.int (iI (sc)), .int (iI (z36))]) dX8_heard_39 cs_X8_layShown kw_1046 ⟨rfl, rfl, Nat.le_of_ble_eq_true rfl, Nat.le_of_ble_eq_true rfl⟩ rfl rfl (Nat.le_of_ble_eq_true rfl) (rc_obj B (ci := 8) rfl rfl rfl) (c_X8_layShown _ E _ sc z36 (by omega) (by omega) (by omega) (by omega)) (k_v (fun M39 hz39 => ?_))
        rw [Is_e ez36] at hz39
        refine x_aload_n B dX8_heard_42 0 rfl rfl ?_
        refine x_iconst B dX8_heard_43 ?_
        refine x_iload_n B dX8_heard_44 3 rfl rfl ?_
        refine x_imul B dX8_heard_45 ?_
        refine x_iload_n B dX8_heard_46 2 rfl rfl ?_
        refine x_iadd B dX8_heard_47 ?_
        refine x_callV B (st := []) (av := [.int (iI ((4 * ro) + co))]) dX8_heard_48 cs_X8_loud kw_1183 ⟨rfl, rfl, Nat.le_of_ble_eq_true rfl, Nat.le_of_ble_eq_true rfl⟩ rfl rfl (Nat.le_of_ble_eq_true rfl) (rc_obj B (ci := 8) rfl rfl rfl) (c_X8_loud _ E _ ((4 * ro) + co) (by omega) (by omega)) (k_i (fun z48 Mq hz48 => ?_))
        obtain ⟨rfl, hz48⟩ := hz48
        exact r_i B R dX8_heard_51 (Or.inr ⟨by omega, by rw [hz48.1, ofS_f hz39.1 (i := 78) (by decide) (by decide)]; exact loS_cg (by omega) (by omega) hz39.2.2, hz39.1⟩)
      · show Vx x E M 31 [(0, .ref (E.1 (71))), (1, .int (iI (sc))), (2, .int (iI (co))), (3, .int (iI (ro)))] []
        refine x_iconst B dX8_heard_31 ?_
        exact r_i B R dX8_heard_32 (Or.inl ⟨rfl, rfl, by omega⟩)
abbrev rm_X8_soundAlike : Room := { frames := 3, cells := 0, slots := 0, locals := 75 }
theorem cs_X8_soundAlike : Cv yX8_soundAlike cX8_soundAlike 5 (some .boolean) 2 := ⟨kw_1194, ⟨kw_1193, kw_55⟩, kw_67, by decide, by decide, by decide +kernel⟩
set_option maxHeartbeats 4000000 in
set_option maxRecDepth 100000 in
theorem c_X8_soundAlike (l : Launch) (E : Ev) (M : Mem) (a b : Int) (g1 : 0 ≤ a) (g2 : a < 6) (g3 : 0 ≤ b) (g4 : b < 6) : Ct l yX8_soundAlike cX8_soundAlike 5 (some .boolean) rm_X8_soundAlike E M [.ref (E.1 (71)), .int (iI (a)), .int (iI (b))] (pI (fun z M' => ofS [81, 82, 83, 87] M M' ∧ (z = 1 ∧ soE (shN M a (M 71 19)) (shN M b (M 71 19)) (M 78 6) ∨ z = 0 ∧ ¬ soE (shN M a (M 71 19)) (shN M b (M 71 19)) (M 78 6)))) := by
  refine Ct_of (lv := [(0, .ref (E.1 (71))), (1, .int (iI (a))), (2, .int (iI (b)))]) (by decide) ⟨rfl, rfl⟩ (Nat.le_of_ble_eq_true rfl) rfl (fun x _ B R => ?_)
  refine x_aload_n B dX8_soundAlike_0 0 rfl rfl ?_
  refine x_iload_n B dX8_soundAlike_1 1 rfl rfl ?_
  refine x_aload_n B dX8_soundAlike_2 0 rfl rfl ?_
  refine x_getI B (ci := 8) (k := 19) (lo := 0) (hi := 25) dX8_soundAlike_3 rfl rfl rfl (by decide) inGX8 kw_824 rfl (fun z3 ez3 lz3 uz3 => ?_)
  refine x_callV B (st := []) (av := [.int (iI (a)), .int (iI (z3))]) dX8_soundAlike_6 cs_X8_layShown kw_1046 ⟨rfl, rfl, Nat.le_of_ble_eq_true rfl, Nat.le_of_ble_eq_true rfl⟩ rfl rfl (Nat.le_of_ble_eq_true rfl) (rc_obj B (ci := 8) rfl rfl rfl) (c_X8_layShown _ E _ a z3 (by omega) (by omega) (by omega) (by omega)) (k_v (fun M6 hz6 => ?_))
  refine x_iconst B dX8_soundAlike_9 ?_
  refine x_istore_n B dX8_soundAlike_10 [1, 2, 3, 0] rfl (by decide) (lv' := [(0, .ref (E.1 (71))), (1, .int (iI (a))), (2, .int (iI (b))), (3, .int (iI (0)))]) rfl ?_
  have L11 : ∀ (k : Int) (M1 : Mem), (0 ≤ k ∧ k ≤ 16 ∧ offC M6 M1 87 88 ∧ ltF (M1 87) (fun q => loS (M6 83) (M6 78 6) (q : Int)) k) → Vx x E M1 11 [(0, .ref (E.1 (71))), (1, .int (iI (a))), (2, .int (iI (b))), (3, .int (iI (k)))] [] := by
    refine lo2 _ _ (fun k M1 => (16 - k).toNat) ?_
    intro k M1 hI ih11
    obtain ⟨i1, i2, i3, i4⟩ := hI
    refine x_iload_n B dX8_soundAlike_11 3 rfl rfl ?_
    refine x_bipush B dX8_soundAlike_12 rfl ?_
    refine x_icmp_ge B (tgt := 34) dX8_soundAlike_14 (by decide) ⟨by omega, by omega⟩ ⟨by omega, by omega⟩ (fun c14 => ?_) (fun c14 => ?_)
    · show Vx x E M1 34 [(0, .ref (E.1 (71))), (1, .int (iI (a))), (2, .int (iI (b))), (3, .int (iI (k)))] []
      refine x_aload_n B dX8_soundAlike_34 0 rfl rfl ?_
      refine x_iload_n B dX8_soundAlike_35 2 rfl rfl ?_
      refine x_aload_n B dX8_soundAlike_36 0 rfl rfl ?_
      refine x_getI B (ci := 8) (k := 19) (lo := 0) (hi := 25) dX8_soundAlike_37 rfl rfl rfl (by decide) inGX8 kw_824 rfl (fun z37 ez37 lz37 uz37 => ?_)
      refine x_callV B (st := []) (av := [.int (iI (b)), .int (iI (z37))]) dX8_soundAlike_40 cs_X8_layShown kw_1046 ⟨rfl, rfl, Nat.le_of_ble_eq_true rfl, Nat.le_of_ble_eq_true rfl⟩ rfl rfl (Nat.le_of_ble_eq_true rfl) (rc_obj B (ci := 8) rfl rfl rfl) (c_X8_layShown _ E _ b z37 (by omega) (by omega) (by omega) (by omega)) (k_v (fun M40 hz40 => ?_))
      have o1 : ofS [81, 82, 83, 87] M M1 := ofS_offC (ofS_w hz6.1 (by decide)) i3 (by decide)
      have e37 : z37 = M 71 19 := by rw [Is_e ez37, ofS_o o1 (by decide) (by decide)]
      have o2 : ofS [81, 82, 83, 87] M M40 := ofS_tr o1 (ofS_w hz40.1 (by decide))
      have f1 : ∀ q : Int, 0 ≤ q → q < 16 → M40 87 q.toNat = loS (shN M a (M 71 19)) (M 78 6) q := fun q h0 h1 => by
        rw [ofS_f hz40.1 (i := 87) (by decide) (by decide), i4 q.toNat (by omega)]
        show loS _ _ ((q.toNat : Nat) : Int) = _
        rw [Int.toNat_of_nonneg h0, ofS_f hz6.1 (i := 78) (by decide) (by decide)]
        refine loS_cg h0 h1 ?_
        have h := hz6.2.2
        rw [Is_e ez3] at h
        exact h
      have f2 : ∀ q : Int, 0 ≤ q → q < 16 → loS (M40 83) (M40 78 6) q = loS (shN M b (M 71 19)) (M 78 6) q := fun q h0 h1 => by
        rw [ofS_f o2 (i := 78) (by decide) (by decide)]
        refine loS_cg h0 h1 ?_
        have h := hz40.2.2
        rw [e37] at h
        rw [← shN_of o1 (by decide) (by decide) (by decide)]
        exact h
      refine x_iconst B dX8_soundAlike_43 ?_
      refine x_istore_n B dX8_soundAlike_44 [1, 2, 3, 0] rfl (by decide) (lv' := [(0, .ref (E.1 (71))), (1, .int (iI (a))), (2, .int (iI (b))), (3, .int (iI (1)))]) rfl ?_
      refine x_iconst B dX8_soundAlike_45 ?_
      refine x_istore B dX8_soundAlike_46 [1, 2, 3, 4, 0] (by decide) (lv' := [(0, .ref (E.1 (71))), (1, .int (iI (a))), (2, .int (iI (b))), (3, .int (iI (1))), (4, .int (iI (0)))]) rfl ?_
      have L48 : ∀ (r : Int) (k2 : Int), (0 ≤ k2 ∧ k2 ≤ 16 ∧ 0 ≤ r ∧ r ≤ 1 ∧ (r = 1 ∧ (∀ q : Int, 0 ≤ q → q < k2 → M40 87 q.toNat = loS (M40 83) (M40 78 6) q) ∨ r = 0 ∧ ∃ q : Int, 0 ≤ q ∧ q < 16 ∧ ¬ M40 87 q.toNat = loS (M40 83) (M40 78 6) q)) → Vx x E M40 48 [(0, .ref (E.1 (71))), (1, .int (iI (a))), (2, .int (iI (b))), (3, .int (iI (r))), (4, .int (iI (k2)))] [] := by
        refine lo2 _ _ (fun r k2 => (16 - k2).toNat) ?_
        intro r k2 hI ih48
        obtain ⟨n1, n2, n3, n4, n5⟩ := hI
        refine x_iload B dX8_soundAlike_48 4 rfl ?_
        refine x_bipush B dX8_soundAlike_50 rfl ?_
        refine x_icmp_ge B (tgt := 87) dX8_soundAlike_52 (by decide) ⟨by omega, by omega⟩ ⟨by omega, by omega⟩ (fun c52 => ?_) (fun c52 => ?_)
        · show Vx x E M40 87 [(0, .ref (E.1 (71))), (1, .int (iI (a))), (2, .int (iI (b))), (3, .int (iI (r))), (4, .int (iI (k2)))] []
          refine x_iload_n B dX8_soundAlike_87 3 rfl rfl ?_
          exact r_z B R dX8_soundAlike_88 (by omega) (by omega) (⟨o2, by rcases n5 with ⟨h1, h2⟩ | ⟨h1, q, h2, h3, h4⟩; (exact Or.inl ⟨h1, fun q q0 q1 => by rw [← f1 q q0 q1, ← f2 q q0 q1]; exact h2 q q0 (by omega)⟩); (exact Or.inr ⟨h1, fun h => h4 (by rw [f1 q h2 h3, f2 q h2 h3]; exact h q h2 h3)⟩)⟩)
        · show Vx x E M40 55 [(0, .ref (E.1 (71))), (1, .int (iI (a))), (2, .int (iI (b))), (3, .int (iI (r))), (4, .int (iI (k2)))] []
          refine x_iload_n B dX8_soundAlike_55 3 rfl rfl ?_
          refine x_if_eq B (tgt := 79) dX8_soundAlike_56 (by decide) ⟨by omega, by omega⟩ (fun c56 => ?_) (fun c56 => ?_)
          · show Vx x E M40 79 [(0, .ref (E.1 (71))), (1, .int (iI (a))), (2, .int (iI (b))), (3, .int (iI (r))), (4, .int (iI (k2)))] []
            refine x_iconst B dX8_soundAlike_79 ?_
            refine x_istore_n B dX8_soundAlike_80 [1, 2, 3, 0, 4] rfl (by decide) (lv' := [(0, .ref (E.1 (71))), (1, .int (iI (a))), (2, .int (iI (b))), (3, .int (iI (0))), (4, .int (iI (k2)))]) rfl ?_
            refine x_iinc B (q := 4) dX8_soundAlike_81 rfl [1, 2, 3, 4, 0] (by decide) (lv' := [(0, .ref (E.1 (71))), (1, .int (iI (a))), (2, .int (iI (b))), (3, .int (iI (0))), (4, .int (iI (k2 + 1)))]) rfl ?_
            refine x_goto B (tgt := 48) dX8_soundAlike_84 (by decide) ?_
            exact ih48 0 (k2 + 1) (⟨by omega, by omega, by omega, by omega, Or.inr ⟨rfl, (n5.resolve_left (fun h => by omega)).2⟩⟩) (by omega)
          · show Vx x E M40 59 [(0, .ref (E.1 (71))), (1, .int (iI (a))), (2, .int (iI (b))), (3, .int (iI (r))), (4, .int (iI (k2)))] []
            refine x_aload_n B dX8_soundAlike_59 0 rfl rfl ?_
            refine x_getR B (ci := 8) (k := 30) dX8_soundAlike_60 rfl rfl rfl (by decide) inGX8 kw_835 ?_
            refine x_iload B dX8_soundAlike_63 4 rfl ?_
            refine x_iald B (lo := 0) (hi := 9) dX8_soundAlike_65 rfl (by omega) (by omega) rfl (fun z65 ez65 lz65 uz65 => ?_)
            refine x_aload_n B dX8_soundAlike_66 0 rfl rfl ?_
            refine x_iload B dX8_soundAlike_67 4 rfl ?_
            refine x_callV B (st := [.int (iI (z65))]) (av := [.int (iI (k2))]) dX8_soundAlike_69 cs_X8_loud kw_1183 ⟨rfl, rfl, Nat.le_of_ble_eq_true rfl, Nat.le_of_ble_eq_true rfl⟩ rfl rfl (Nat.le_of_ble_eq_true rfl) (rc_obj B (ci := 8) rfl rfl rfl) (c_X8_loud _ E _ k2 (by omega) (by omega)) (k_i (fun z69 Mq hz69 => ?_))
            obtain ⟨rfl, hz69⟩ := hz69
            refine x_icmp_ne B (tgt := 79) dX8_soundAlike_72 (by decide) ⟨by omega, by omega⟩ ⟨by omega, by omega⟩ (fun c72 => ?_) (fun c72 => ?_)
            · show Vx x E M40 79 [(0, .ref (E.1 (71))), (1, .int (iI (a))), (2, .int (iI (b))), (3, .int (iI (r))), (4, .int (iI (k2)))] []
              refine x_iconst B dX8_soundAlike_79 ?_
              refine x_istore_n B dX8_soundAlike_80 [1, 2, 3, 0, 4] rfl (by decide) (lv' := [(0, .ref (E.1 (71))), (1, .int (iI (a))), (2, .int (iI (b))), (3, .int (iI (0))), (4, .int (iI (k2)))]) rfl ?_
              refine x_iinc B (q := 4) dX8_soundAlike_81 rfl [1, 2, 3, 4, 0] (by decide) (lv' := [(0, .ref (E.1 (71))), (1, .int (iI (a))), (2, .int (iI (b))), (3, .int (iI (0))), (4, .int (iI (k2 + 1)))]) rfl ?_
              refine x_goto B (tgt := 48) dX8_soundAlike_84 (by decide) ?_
              exact ih48 0 (k2 + 1) (⟨by omega, by omega, by omega, by omega, Or.inr ⟨rfl, k2, by omega, by omega, fun h => c72 (by rw [Is_e ez65, hz69.1]; exact h)⟩⟩) (by omega)
            · show Vx x E M40 75 [(0, .ref (E.1 (71))), (1, .int (iI (a))), (2, .int (iI (b))), (3, .int (iI (r))), (4, .int (iI (k2)))] []
              refine x_iconst B dX8_soundAlike_75 ?_
              refine x_goto B (tgt := 80) dX8_soundAlike_76 (by decide) ?_
              refine x_istore_n B dX8_soundAlike_80 [1, 2, 3, 0, 4] rfl (by decide) (lv' := [(0, .ref (E.1 (71))), (1, .int (iI (a))), (2, .int (iI (b))), (3, .int (iI (1))), (4, .int (iI (k2)))]) rfl ?_
              refine x_iinc B (q := 4) dX8_soundAlike_81 rfl [1, 2, 3, 4, 0] (by decide) (lv' := [(0, .ref (E.1 (71))), (1, .int (iI (a))), (2, .int (iI (b))), (3, .int (iI (1))), (4, .int (iI (k2 + 1)))]) rfl ?_
              refine x_goto B (tgt := 48) dX8_soundAlike_84 (by decide) ?_
              exact ih48 1 (k2 + 1) (⟨by omega, by omega, by omega, by omega, Or.inl ⟨rfl, fun q h0 h1 => by rcases (show q < k2 ∨ q = k2 by omega) with h7 | h7; (exact (n5.resolve_right (fun h => by omega)).2 q h0 h7); (rw [h7, ← Is_e ez65, ← hz69.1]; exact c72)⟩⟩) (by omega)
      exact L48 1 0 (⟨by omega, by omega, by omega, by omega, Or.inl ⟨rfl, fun q h0 h1 => by omega⟩⟩)
    · show Vx x E M1 17 [(0, .ref (E.1 (71))), (1, .int (iI (a))), (2, .int (iI (b))), (3, .int (iI (k)))] []
      refine x_aload_n B dX8_soundAlike_17 0 rfl rfl ?_
      refine x_getR B (ci := 8) (k := 30) dX8_soundAlike_18 rfl rfl rfl (by decide) inGX8 kw_835 ?_
      refine x_iload_n B dX8_soundAlike_21 3 rfl rfl ?_
      refine x_aload_n B dX8_soundAlike_22 0 rfl rfl ?_
      refine x_iload_n B dX8_soundAlike_23 3 rfl rfl ?_
      refine x_callV B (st := [.int (iI (k)), .ref (E.1 (87))]) (av := [.int (iI (k))]) dX8_soundAlike_24 cs_X8_loud kw_1183 ⟨rfl, rfl, Nat.le_of_ble_eq_true rfl, Nat.le_of_ble_eq_true rfl⟩ rfl rfl (Nat.le_of_ble_eq_true rfl) (rc_obj B (ci := 8) rfl rfl rfl) (c_X8_loud _ E _ k (by omega) (by omega)) (k_i (fun z24 Mq hz24 => ?_))
      obtain ⟨rfl, hz24⟩ := hz24
      refine x_iast B (lo := 0) (hi := 9) dX8_soundAlike_27 rfl (by omega) (by omega) rfl (by omega) (by omega) ?_
      refine x_iinc B (q := 3) dX8_soundAlike_28 rfl [1, 2, 3, 0] (by decide) (lv' := [(0, .ref (E.1 (71))), (1, .int (iI (a))), (2, .int (iI (b))), (3, .int (iI (k + 1)))]) rfl ?_
      refine x_goto B (tgt := 11) dX8_soundAlike_31 (by decide) ?_
      exact ih11 (k + 1) (sto M1 87 (k).toNat z24) (⟨by omega, by omega, offC_sto i3 (by omega), ltF_s i4 i1 (by rw [hz24.1, offC_f i3 (by omega), offC_f i3 (by omega)]; show _ = loS _ _ ((k.toNat : Nat) : Int); rw [Int.toNat_of_nonneg i1])⟩) (by omega)
  exact L11 0 M6 (⟨by omega, by omega, offC_rf, ltF_0⟩)
abbrev rm_X8_sounds : Room := { frames := 4, cells := 0, slots := 0, locals := 99 }
theorem cs_X8_sounds : Cv yX8_sounds cX8_sounds 3 (some .int) 2 := ⟨kw_1190, ⟨kw_1188, kw_1189⟩, kw_67, by decide, by decide, by decide +kernel⟩
set_option maxHeartbeats 4000000 in
set_option maxRecDepth 100000 in
theorem c_X8_sounds (l : Launch) (E : Ev) (M : Mem) (a b : Int) (g1 : -2147483648 ≤ a) (g2 : a < 2147483648) (g3 : -2147483648 ≤ b) (g4 : b < 2147483648) : Ct l yX8_sounds cX8_sounds 3 (some .int) rm_X8_sounds E M [.ref (E.1 (71)), .int (iI (a)), .int (iI (b))] (pI (fun z M' => z = -1 ∧ M' = M ∧ ¬ (0 ≤ a ∧ a < 6 ∧ 0 ≤ b ∧ b < 6) ∨ (0 ≤ a ∧ a < 6 ∧ 0 ≤ b ∧ b < 6) ∧ (z = 1 ∧ soE (shN M a (M 71 19)) (shN M b (M 71 19)) (M 78 6) ∨ z = 0 ∧ ¬ soE (shN M a (M 71 19)) (shN M b (M 71 19)) (M 78 6)) ∧ ofS [81, 82, 83, 87] M M')) := by
  refine Ct_of (lv := [(0, .ref (E.1 (71))), (1, .int (iI (a))), (2, .int (iI (b)))]) (by decide) ⟨rfl, rfl⟩ (Nat.le_of_ble_eq_true rfl) rfl (fun x _ B R => ?_)
  refine x_iload_n B dX8_sounds_0 1 rfl rfl ?_
  refine x_callS B (st := []) (av := [.int (iI (a))]) dX8_sounds_1 cs_X8_isScene kw_1006 ⟨rfl, rfl, Nat.le_of_ble_eq_true rfl, Nat.le_of_ble_eq_true rfl⟩ rfl rfl (Nat.le_of_ble_eq_true rfl) (c_X8_isScene _ E _ a (by omega) (by omega)) (k_i (fun z1 Mq hz1 => ?_))
  obtain ⟨rfl, hz1⟩ := hz1
  refine x_if_eq B (tgt := 31) dX8_sounds_4 (by decide) ⟨by omega, by omega⟩ (fun c4 => ?_) (fun c4 => ?_)
  · show Vx x E M 31 [(0, .ref (E.1 (71))), (1, .int (iI (a))), (2, .int (iI (b)))] []
    refine x_iconst B dX8_sounds_31 ?_
    exact r_i B R dX8_sounds_32 (Or.inl ⟨rfl, rfl, by omega⟩)
  · show Vx x E M 7 [(0, .ref (E.1 (71))), (1, .int (iI (a))), (2, .int (iI (b)))] []
    refine x_iload_n B dX8_sounds_7 2 rfl rfl ?_
    refine x_callS B (st := []) (av := [.int (iI (b))]) dX8_sounds_8 cs_X8_isScene kw_1006 ⟨rfl, rfl, Nat.le_of_ble_eq_true rfl, Nat.le_of_ble_eq_true rfl⟩ rfl rfl (Nat.le_of_ble_eq_true rfl) (c_X8_isScene _ E _ b (by omega) (by omega)) (k_i (fun z8 Mq hz8 => ?_))
    obtain ⟨rfl, hz8⟩ := hz8
    refine x_if_eq B (tgt := 31) dX8_sounds_11 (by decide) ⟨by omega, by omega⟩ (fun c11 => ?_) (fun c11 => ?_)
    · show Vx x E M 31 [(0, .ref (E.1 (71))), (1, .int (iI (a))), (2, .int (iI (b)))] []
      refine x_iconst B dX8_sounds_31 ?_
      exact r_i B R dX8_sounds_32 (Or.inl ⟨rfl, rfl, by omega⟩)
    · show Vx x E M 14 [(0, .ref (E.1 (71))), (1, .int (iI (a))), (2, .int (iI (b)))] []
      refine x_aload_n B dX8_sounds_14 0 rfl rfl ?_
      refine x_iload_n B dX8_sounds_15 1 rfl rfl ?_
      refine x_iload_n B dX8_sounds_16 2 rfl rfl ?_
      refine x_callV B (st := []) (av := [.int (iI (a)), .int (iI (b))]) dX8_sounds_17 cs_X8_soundAlike kw_1191 ⟨rfl, rfl, Nat.le_of_ble_eq_true rfl, Nat.le_of_ble_eq_true rfl⟩ rfl rfl (Nat.le_of_ble_eq_true rfl) (rc_obj B (ci := 8) rfl rfl rfl) (c_X8_soundAlike _ E _ a b (by omega) (by omega) (by omega) (by omega)) (k_i (fun z17 M17 hz17 => ?_))
      refine x_if_eq B (tgt := 27) dX8_sounds_20 (by decide) ⟨by omega, by omega⟩ (fun c20 => ?_) (fun c20 => ?_)
      · show Vx x E M17 27 [(0, .ref (E.1 (71))), (1, .int (iI (a))), (2, .int (iI (b)))] []
        refine x_iconst B dX8_sounds_27 ?_
        refine x_goto B (tgt := 32) dX8_sounds_28 (by decide) ?_
        exact r_i B R dX8_sounds_32 (Or.inr ⟨by omega, Or.inr ⟨rfl, by rcases hz17.2 with h | h; (exact absurd (h.1.symm.trans c20) (by decide)); (exact h.2)⟩, hz17.1⟩)
      · show Vx x E M17 23 [(0, .ref (E.1 (71))), (1, .int (iI (a))), (2, .int (iI (b)))] []
        refine x_iconst B dX8_sounds_23 ?_
        refine x_goto B (tgt := 32) dX8_sounds_24 (by decide) ?_
        exact r_i B R dX8_sounds_32 (Or.inr ⟨by omega, Or.inl ⟨rfl, by rcases hz17.2 with h | h; (exact h.2); (exact absurd h.1 c20)⟩, hz17.1⟩)
