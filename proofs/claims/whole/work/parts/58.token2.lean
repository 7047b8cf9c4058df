def byP (B : Nat → Int) (len k z : Int) : Prop := k < len ∧ z = B k.toNat ∧ 0 ≤ z ∧ z ≤ 255 ∨ len ≤ k ∧ z = -4
def cutT : List Int := [0, 3, 9, 13, 17, 21, 26, 30, 33, 36, 41, 46, 50, 55, 60, 64, 69]
theorem cut_r : ∀ n, n < 17 → rngT 73 n = (cutT.getD n 0, cutT.getD n 0) := by decide +kernel
theorem cut_v {M : Mem} (hw : wf M) {n : Nat} (h : n < 17) : M 73 n = cutT.getD n 0 := by
  have a := hw 73 n
  rw [cut_r n h] at a
  exact Int.le_antisymm a.2 a.1
theorem r73 : ∀ n, n < 17 → 0 ≤ (rngT 73 n).1 ∧ (rngT 73 n).2 ≤ 69 := by decide +kernel
theorem r74 : ∀ n, n < 69 → 97 ≤ (rngT 74 n).1 ∧ (rngT 74 n).2 ≤ 122 := by decide +kernel
theorem cut_w : ∀ n : Nat, n < 16 → cutT.getD (n + 1) 0 - cutT.getD n 0 = ((wLen.getD n 0 : Nat) : Int) ∧ 0 ≤ cutT.getD n 0 ∧ cutT.getD (n + 1) 0 ≤ 69 := by decide +kernel
theorem let_r : ∀ n, n < 16 → ∀ k, k < wLen.getD n 0 → rngT 74 ((cutT.getD n 0).toNat + k) = ((wBy.getD n []).getD k 0, (wBy.getD n []).getD k 0) := by decide +kernel
theorem let_v {M : Mem} (hw : wf M) {n k : Nat} (h : n < 16) (hk : k < wLen.getD n 0) : M 74 ((cutT.getD n 0).toNat + k) = (wBy.getD n []).getD k 0 := by
  have a := hw 74 ((cutT.getD n 0).toNat + k)
  rw [let_r n h k hk] at a
  exact Int.le_antisymm a.2 a.1
theorem fails_eq {M : Mem} {c w : Int} (hw : w = M 71 6) : sto (sto M 71 3 c) 71 4 w = nkM M (M 71 5) (M 71 6) (M 71 7) (M 71 8) c (M 71 6) := by
  have h : M = nkM M (M 71 5) (M 71 6) (M 71 7) (M 71 8) (M 71 3) (M 71 4) := nk_id rfl rfl rfl rfl rfl rfl
  have h2 : sto (sto M 71 3 c) 71 4 w = sto (sto (nkM M (M 71 5) (M 71 6) (M 71 7) (M 71 8) (M 71 3) (M 71 4)) 71 3 c) 71 4 w := congrArg (fun q => sto (sto q 71 3 c) 71 4 w) h
  rw [h2, nk3, nk4, hw]
abbrev rm_X8_byteAt : Room := { frames := 0, cells := 0, slots := 0, locals := 0 }
theorem cs_X8_byteAt : Cv yX8_byteAt cX8_byteAt 2 (some .int) 1 := ⟨kw_966, ⟨kw_965, kw_31⟩, kw_67, by decide, by decide, by decide +kernel⟩
set_option maxHeartbeats 4000000 in
set_option maxRecDepth 100000 in
theorem c_X8_byteAt (l : Launch) (E : Ev) (M : Mem) (k : Int) (g1 : 0 ≤ k) (g2 : k ≤ 200) : Ct l yX8_byteAt cX8_byteAt 2 (some .int) rm_X8_byteAt E M [.ref (E.1 (71)), .int (iI (k))] (pI (fun z M' => M = M' ∧ (byP (M 72) (M 71 1) k z ∧ -4 ≤ z ∧ z ≤ 255))) := by
  refine Ct_of (lv := [(0, .ref (E.1 (71))), (1, .int (iI (k)))]) (by decide) ⟨rfl, rfl⟩ (Nat.le_of_ble_eq_true rfl) rfl (fun x _ B R => ?_)
  refine x_iload_n B dX8_byteAt_0 1 rfl rfl ?_
  refine x_aload_n B dX8_byteAt_1 0 rfl rfl ?_
  refine x_getI B (ci := 8) (k := 1) (lo := 0) (hi := 200) dX8_byteAt_2 rfl rfl rfl (by decide) inGX8 kw_806 rfl (fun z2 ez2 lz2 uz2 => ?_)
  refine x_icmp_ge B (tgt := 17) dX8_byteAt_5 (by decide) ⟨by omega, by omega⟩ ⟨by omega, by omega⟩ (fun c5 => ?_) (fun c5 => ?_)
  · show Vx x E M 17 [(0, .ref (E.1 (71))), (1, .int (iI (k)))] []
    refine x_bipush B dX8_byteAt_17 rfl ?_
    exact r_i B R dX8_byteAt_19 (⟨rfl, Or.inr ⟨by rw [← Is_e ez2]; omega, rfl⟩, by omega, by omega⟩)
  · show Vx x E M 8 [(0, .ref (E.1 (71))), (1, .int (iI (k)))] []
    refine x_aload_n B dX8_byteAt_8 0 rfl rfl ?_
    refine x_getR B (ci := 8) (k := 0) dX8_byteAt_9 rfl rfl rfl (by decide) inGX8 kw_805 ?_
    refine x_iload_n B dX8_byteAt_12 1 rfl rfl ?_
    refine x_iald B (lo := 0) (hi := 255) dX8_byteAt_13 rfl (by omega) (by omega) rfl (fun z13 ez13 lz13 uz13 => ?_)
    refine x_goto B (tgt := 19) dX8_byteAt_14 (by decide) ?_
    exact r_i B R dX8_byteAt_19 (⟨rfl, Or.inl ⟨by rw [← Is_e ez2]; omega, Is_e ez13, by omega, by omega⟩, by omega, by omega⟩)
abbrev rm_X8_fails : Room := { frames := 0, cells := 0, slots := 0, locals := 0 }
theorem cs_X8_fails : Cv yX8_fails cX8_fails 2 none 1 := ⟨kw_976, ⟨kw_975, kw_33⟩, kw_67, by decide, by decide, by decide +kernel⟩
set_option maxHeartbeats 4000000 in
set_option maxRecDepth 100000 in
theorem c_X8_fails (l : Launch) (E : Ev) (M : Mem) (c : Int) (g1 : 1 ≤ c) (g2 : c ≤ 4) : Ct l yX8_fails cX8_fails 2 none rm_X8_fails E M [.ref (E.1 (71)), .int (iI (c))] (pV (fun M' => M 71 3 = 0 ∧ M' = nkM M (M 71 5) (M 71 6) (M 71 7) (M 71 8) c (M 71 6) ∨ ¬ M 71 3 = 0 ∧ M' = M)) := by
  refine Ct_of (lv := [(0, .ref (E.1 (71))), (1, .int (iI (c)))]) (by decide) ⟨rfl, rfl⟩ (Nat.le_of_ble_eq_true rfl) rfl (fun x _ B R => ?_)
  refine x_aload_n B dX8_fails_0 0 rfl rfl ?_
  refine x_getI B (ci := 8) (k := 3) (lo := 0) (hi := 4) dX8_fails_1 rfl rfl rfl (by decide) inGX8 kw_808 rfl (fun z1 ez1 lz1 uz1 => ?_)
  refine x_if_ne B (tgt := 20) dX8_fails_4 (by decide) ⟨by omega, by omega⟩ (fun c4 => ?_) (fun c4 => ?_)
  · show Vx x E M 20 [(0, .ref (E.1 (71))), (1, .int (iI (c)))] []
    exact r_v B R dX8_fails_20 (Or.inr ⟨by rw [← Is_e ez1]; exact c4, rfl⟩)
  · show Vx x E M 7 [(0, .ref (E.1 (71))), (1, .int (iI (c)))] []
    refine x_aload_n B dX8_fails_7 0 rfl rfl ?_
    refine x_iload_n B dX8_fails_8 1 rfl rfl ?_
    refine x_put B (ci := 8) (k := 3) (lo := 0) (hi := 4) (ty := .int) dX8_fails_9 rfl rfl rfl (by decide) inGX8 tyX8_ok nmX8 kw_808 rfl (by decide +kernel) (nar_i _) (fit_i _) rfl (by omega) (by omega) ?_
    refine x_aload_n B dX8_fails_12 0 rfl rfl ?_
    refine x_aload_n B dX8_fails_13 0 rfl rfl ?_
    refine x_getI B (ci := 8) (k := 6) (lo := 0) (hi := 200) dX8_fails_14 rfl rfl rfl (by decide) inGX8 kw_811 rfl (fun z14 ez14 lz14 uz14 => ?_)
    refine x_put B (ci := 8) (k := 4) (lo := 0) (hi := 200) (ty := .int) dX8_fails_17 rfl rfl rfl (by decide) inGX8 tyX8_ok nmX8 kw_809 rfl (by decide +kernel) (nar_i _) (fit_i _) rfl (by omega) (by omega) ?_
    exact r_v B R dX8_fails_20 (Or.inl ⟨by rw [← Is_e ez1]; exact c4, fails_eq (by rw [Is_e ez14, sto_nj _ _ _ _ (by decide)])⟩)
abbrev rm_X8_nameAt : Room := { frames := 1, cells := 0, slots := 0, locals := 21 }
theorem cs_X8_nameAt : Cv yX8_nameAt cX8_nameAt 6 (some .int) 2 := ⟨kw_972, ⟨kw_971, kw_32⟩, kw_67, by decide, by decide, by decide +kernel⟩
set_option maxHeartbeats 4000000 in
set_option maxRecDepth 100000 in
theorem c_X8_nameAt (l : Launch) (E : Ev) (M : Mem) (s e : Int) (g1 : 0 ≤ s) (g2 : s ≤ e) (g3 : e ≤ 200) (g4 : e ≤ M 71 1) : Ct l yX8_nameAt cX8_nameAt 6 (some .int) rm_X8_nameAt E M [.ref (E.1 (71)), .int (iI (s)), .int (iI (e))] (pI (fun z M' => M = M' ∧ ((0 ≤ z ∧ z ≤ 15 ∧ wdR (M 72) s e z ∨ z = -4 ∧ wdR (M 72) s e 16)))) := by
  refine Ct_of (lv := [(0, .ref (E.1 (71))), (1, .int (iI (s))), (2, .int (iI (e)))]) (by decide) ⟨rfl, rfl⟩ (Nat.le_of_ble_eq_true rfl) rfl (fun x _ B R => ?_)
  refine x_wf (fun hwf => ?_)
  refine x_iconst B dX8_nameAt_0 ?_
  refine x_istore_n B dX8_nameAt_1 [1, 2, 3, 0] rfl (by decide) (lv' := [(0, .ref (E.1 (71))), (1, .int (iI (s))), (2, .int (iI (e))), (3, .int (iI (0)))]) rfl ?_
  have L2 : ∀ (n : Int), (0 ≤ n ∧ n ≤ 16 ∧ ∀ j : Int, 0 ≤ j → j < n → ¬ stW (M 72) s e j.toNat) → Vx x E M 2 [(0, .ref (E.1 (71))), (1, .int (iI (s))), (2, .int (iI (e))), (3, .int (iI (n)))] [] := by
    refine lo1 _ _ (fun n => (16 - n).toNat) ?_
    intro n hI ih2
    obtain ⟨i1, i2, i3⟩ := hI
    refine x_iload_n B dX8_nameAt_2 3 rfl rfl ?_
    refine x_bipush B dX8_nameAt_3 rfl ?_
    refine x_icmp_ge B (tgt := 103) dX8_nameAt_5 (by decide) ⟨by omega, by omega⟩ ⟨by omega, by omega⟩ (fun c5 => ?_) (fun c5 => ?_)
    · show Vx x E M 103 [(0, .ref (E.1 (71))), (1, .int (iI (s))), (2, .int (iI (e))), (3, .int (iI (n)))] []
      refine x_bipush B dX8_nameAt_103 rfl ?_
      exact r_i B R dX8_nameAt_105 (⟨rfl, Or.inr ⟨rfl, by omega, by omega, fun j a b => i3 j a (by omega), Or.inl rfl⟩⟩)
    · show Vx x E M 8 [(0, .ref (E.1 (71))), (1, .int (iI (s))), (2, .int (iI (e))), (3, .int (iI (n)))] []
      refine x_iload_n B dX8_nameAt_8 2 rfl rfl ?_
      refine x_iload_n B dX8_nameAt_9 1 rfl rfl ?_
      refine x_isub B dX8_nameAt_10 ?_
      refine x_aload_n B dX8_nameAt_11 0 rfl rfl ?_
      refine x_getR B (ci := 8) (k := 9) dX8_nameAt_12 rfl rfl rfl (by decide) inGX8 kw_814 ?_
      refine x_iload_n B dX8_nameAt_15 3 rfl rfl ?_
      refine x_iconst B dX8_nameAt_16 ?_
      refine x_iadd B dX8_nameAt_17 ?_
      refine x_ialdW B (lo := 0) (hi := 69) dX8_nameAt_18 rfl (by omega) (by omega) (r73 _ (by omega)) (fun z18 ez18 lz18 uz18 => ?_)
      refine x_aload_n B dX8_nameAt_19 0 rfl rfl ?_
      refine x_getR B (ci := 8) (k := 9) dX8_nameAt_20 rfl rfl rfl (by decide) inGX8 kw_814 ?_
      refine x_iload_n B dX8_nameAt_23 3 rfl rfl ?_
      refine x_ialdW B (lo := 0) (hi := 69) dX8_nameAt_24 rfl (by omega) (by omega) (r73 _ (by omega)) (fun z24 ez24 lz24 uz24 => ?_)
      refine x_isub B dX8_nameAt_25 ?_
      have e18 : z18 = cutT.getD (n.toNat + 1) 0 := by rw [Is_e ez18, show (n + 1).toNat = n.toNat + 1 by omega]; exact cut_v hwf (by omega)
      have e24 : z24 = cutT.getD n.toNat 0 := by rw [Is_e ez24]; exact cut_v hwf (by omega)
      have hcw := cut_w n.toNat (by omega)
      rw [← e18, ← e24] at hcw
      have J34 : ∀ (s0 : Int), (0 ≤ s0 ∧ s0 ≤ 1 ∧ (s0 = 1 ∧ e - s = ((wLen.getD n.toNat 0 : Nat) : Int) ∧ 0 ≤ e - s ∧ (∀ j : Int, 0 ≤ j → j < 0 → M 72 (s + j).toNat = (wBy.getD n.toNat []).getD j.toNat 0) ∨ s0 = 0 ∧ ¬ stW (M 72) s e n.toNat)) → Vx x E M 34 [(0, .ref (E.1 (71))), (1, .int (iI (s))), (2, .int (iI (e))), (3, .int (iI (n)))] [.int (iI (s0))] := by
        intro s0 hJ
        obtain hJ := hJ
        refine x_istore B dX8_nameAt_34 [1, 2, 3, 4, 0] (by decide) (lv' := [(0, .ref (E.1 (71))), (1, .int (iI (s))), (2, .int (iI (e))), (3, .int (iI (n))), (4, .int (iI (s0)))]) rfl ?_
        refine x_iconst B dX8_nameAt_36 ?_
        refine x_istore B dX8_nameAt_37 [1, 2, 3, 4, 5, 0] (by decide) (lv' := [(0, .ref (E.1 (71))), (1, .int (iI (s))), (2, .int (iI (e))), (3, .int (iI (n))), (4, .int (iI (s0))), (5, .int (iI (0)))]) rfl ?_
        have L39 : ∀ (sm : Int) (k : Int), (0 ≤ k ∧ 0 ≤ sm ∧ sm ≤ 1 ∧ (sm = 1 ∧ e - s = ((wLen.getD n.toNat 0 : Nat) : Int) ∧ k ≤ e - s ∧ (∀ j : Int, 0 ≤ j → j < k → M 72 (s + j).toNat = (wBy.getD n.toNat []).getD j.toNat 0) ∨ sm = 0 ∧ ¬ stW (M 72) s e n.toNat)) → Vx x E M 39 [(0, .ref (E.1 (71))), (1, .int (iI (s))), (2, .int (iI (e))), (3, .int (iI (n))), (4, .int (iI (sm))), (5, .int (iI (k)))] [] := by
          refine lo2 _ _ (fun sm k => (e - s + 1 - k).toNat) ?_
          intro sm k hI ih39
          obtain ⟨q1, q2, q3, q5⟩ := hI
          refine x_iload B dX8_nameAt_39 4 rfl ?_
          refine x_if_eq B (tgt := 90) dX8_nameAt_41 (by decide) ⟨by omega, by omega⟩ (fun c41 => ?_) (fun c41 => ?_)
          · show Vx x E M 90 [(0, .ref (E.1 (71))), (1, .int (iI (s))), (2, .int (iI (e))), (3, .int (iI (n))), (4, .int (iI (sm))), (5, .int (iI (k)))] []
            refine x_iload B dX8_nameAt_90 4 rfl ?_
            refine x_if_eq B (tgt := 97) dX8_nameAt_92 (by decide) ⟨by omega, by omega⟩ (fun c92 => ?_) (fun c92 => ?_)
            · show Vx x E M 97 [(0, .ref (E.1 (71))), (1, .int (iI (s))), (2, .int (iI (e))), (3, .int (iI (n))), (4, .int (iI (sm))), (5, .int (iI (k)))] []
              refine x_iinc B (q := 3) dX8_nameAt_97 rfl [1, 2, 3, 0, 4, 5] (by decide) (lv' := [(0, .ref (E.1 (71))), (1, .int (iI (s))), (2, .int (iI (e))), (3, .int (iI (n + 1))), (4, .int (iI (sm))), (5, .int (iI (k)))]) rfl ?_
              refine x_goto B (tgt := 2) dX8_nameAt_100 (by decide) ?_
              refine x_lv [0, 1, 2, 3] (lv' := [(0, .ref (E.1 (71))), (1, .int (iI (s))), (2, .int (iI (e))), (3, .int (iI (n + 1)))]) rfl ?_
              exact ih2 (n + 1) (⟨by omega, by omega, fun j a b => by rcases (show j < n ∨ j = n by omega) with h7 | h7; (exact i3 j a h7); (rw [h7]; rcases q5 with q6 | q6; (exact absurd q6.1 (by omega)); (exact q6.2))⟩) (by omega)
            · show Vx x E M 95 [(0, .ref (E.1 (71))), (1, .int (iI (s))), (2, .int (iI (e))), (3, .int (iI (n))), (4, .int (iI (sm))), (5, .int (iI (k)))] []
              refine x_iload_n B dX8_nameAt_95 3 rfl rfl ?_
              exact r_i B R dX8_nameAt_96 (⟨rfl, Or.inl ⟨by omega, by omega, by omega, by omega, i3, Or.inr (by have q7 := q5.resolve_right (fun h => c92 h.1); exact ⟨q7.2.1, fun j a b => q7.2.2.2 j a (by omega)⟩)⟩⟩)
          · show Vx x E M 44 [(0, .ref (E.1 (71))), (1, .int (iI (s))), (2, .int (iI (e))), (3, .int (iI (n))), (4, .int (iI (sm))), (5, .int (iI (k)))] []
            refine x_iload B dX8_nameAt_44 5 rfl ?_
            refine x_iload_n B dX8_nameAt_46 2 rfl rfl ?_
            refine x_iload_n B dX8_nameAt_47 1 rfl rfl ?_
            refine x_isub B dX8_nameAt_48 ?_
            refine x_icmp_ge B (tgt := 90) dX8_nameAt_49 (by decide) ⟨by omega, by omega⟩ ⟨by omega, by omega⟩ (fun c49 => ?_) (fun c49 => ?_)
            · show Vx x E M 90 [(0, .ref (E.1 (71))), (1, .int (iI (s))), (2, .int (iI (e))), (3, .int (iI (n))), (4, .int (iI (sm))), (5, .int (iI (k)))] []
              refine x_iload B dX8_nameAt_90 4 rfl ?_
              refine x_if_eq B (tgt := 97) dX8_nameAt_92 (by decide) ⟨by omega, by omega⟩ (fun c92 => ?_) (fun c92 => ?_)
              · show Vx x E M 97 [(0, .ref (E.1 (71))), (1, .int (iI (s))), (2, .int (iI (e))), (3, .int (iI (n))), (4, .int (iI (sm))), (5, .int (iI (k)))] []
                refine x_iinc B (q := 3) dX8_nameAt_97 rfl [1, 2, 3, 0, 4, 5] (by decide) (lv' := [(0, .ref (E.1 (71))), (1, .int (iI (s))), (2, .int (iI (e))), (3, .int (iI (n + 1))), (4, .int (iI (sm))), (5, .int (iI (k)))]) rfl ?_
                refine x_goto B (tgt := 2) dX8_nameAt_100 (by decide) ?_
                refine x_lv [0, 1, 2, 3] (lv' := [(0, .ref (E.1 (71))), (1, .int (iI (s))), (2, .int (iI (e))), (3, .int (iI (n + 1)))]) rfl ?_
                exact ih2 (n + 1) (⟨by omega, by omega, fun j a b => by rcases (show j < n ∨ j = n by omega) with h7 | h7; (exact i3 j a h7); (rw [h7]; rcases q5 with q6 | q6; (exact absurd q6.1 (by omega)); (exact q6.2))⟩) (by omega)
              · show Vx x E M 95 [(0, .ref (E.1 (71))), (1, .int (iI (s))), (2, .int (iI (e))), (3, .int (iI (n))), (4, .int (iI (sm))), (5, .int (iI (k)))] []
                refine x_iload_n B dX8_nameAt_95 3 rfl rfl ?_
                exact r_i B R dX8_nameAt_96 (⟨rfl, Or.inl ⟨by omega, by omega, by omega, by omega, i3, Or.inr (by have q7 := q5.resolve_right (fun h => c92 h.1); exact ⟨q7.2.1, fun j a b => q7.2.2.2 j a (by omega)⟩)⟩⟩)
            · show Vx x E M 52 [(0, .ref (E.1 (71))), (1, .int (iI (s))), (2, .int (iI (e))), (3, .int (iI (n))), (4, .int (iI (sm))), (5, .int (iI (k)))] []
              have q7 := q5.resolve_right (fun h => by omega)
              have q8 := q7.2.1
              refine x_aload_n B dX8_nameAt_52 0 rfl rfl ?_
              refine x_iload_n B dX8_nameAt_53 1 rfl rfl ?_
              refine x_iload B dX8_nameAt_54 5 rfl ?_
              refine x_iadd B dX8_nameAt_56 ?_
              refine x_callV B (st := []) (av := [.int (iI (s + k))]) dX8_nameAt_57 cs_X8_byteAt kw_963 ⟨rfl, rfl, Nat.le_of_ble_eq_true rfl, Nat.le_of_ble_eq_true rfl⟩ rfl rfl (Nat.le_of_ble_eq_true rfl) (rc_obj B (ci := 8) rfl rfl rfl) (c_X8_byteAt _ E _ (s + k) (by omega) (by omega)) (k_i (fun z57 Mq hz57 => ?_))
              obtain ⟨rfl, hz57⟩ := hz57
              refine x_aload_n B dX8_nameAt_60 0 rfl rfl ?_
              refine x_getR B (ci := 8) (k := 10) dX8_nameAt_61 rfl rfl rfl (by decide) inGX8 kw_815 ?_
              refine x_aload_n B dX8_nameAt_64 0 rfl rfl ?_
              refine x_getR B (ci := 8) (k := 9) dX8_nameAt_65 rfl rfl rfl (by decide) inGX8 kw_814 ?_
              refine x_iload_n B dX8_nameAt_68 3 rfl rfl ?_
              refine x_ialdW B (lo := 0) (hi := 69) dX8_nameAt_69 rfl (by omega) (by omega) (r73 _ (by omega)) (fun z69 ez69 lz69 uz69 => ?_)
              have e69 : z69 = z24 := by rw [Is_e ez69]; exact (Is_e ez24).symm
              refine x_iload B dX8_nameAt_70 5 rfl ?_
              refine x_iadd B dX8_nameAt_72 ?_
              refine x_ialdW B (lo := 97) (hi := 122) dX8_nameAt_73 rfl (by omega) (by omega) (r74 _ (by omega)) (fun z73 ez73 lz73 uz73 => ?_)
              have e57 : z57 = M 72 (s + k).toNat := by rcases hz57.1 with h | h; (exact h.2.1); (have h1 := h.1; omega)
              have e73 : z73 = (wBy.getD n.toNat []).getD k.toNat 0 := by
                rw [Is_e ez73, show (z69 + k).toNat = (cutT.getD n.toNat 0).toNat + k.toNat by omega]
                exact let_v hwf (by omega) (by omega)
              refine x_icmp_ne B (tgt := 81) dX8_nameAt_74 (by decide) ⟨by omega, by omega⟩ ⟨by omega, by omega⟩ (fun c74 => ?_) (fun c74 => ?_)
              · show Vx x E M 81 [(0, .ref (E.1 (71))), (1, .int (iI (s))), (2, .int (iI (e))), (3, .int (iI (n))), (4, .int (iI (sm))), (5, .int (iI (k)))] []
                refine x_iconst B dX8_nameAt_81 ?_
                refine x_istore B dX8_nameAt_82 [1, 2, 3, 4, 0, 5] (by decide) (lv' := [(0, .ref (E.1 (71))), (1, .int (iI (s))), (2, .int (iI (e))), (3, .int (iI (n))), (4, .int (iI (0))), (5, .int (iI (k)))]) rfl ?_
                refine x_iinc B (q := 5) dX8_nameAt_84 rfl [1, 2, 3, 4, 5, 0] (by decide) (lv' := [(0, .ref (E.1 (71))), (1, .int (iI (s))), (2, .int (iI (e))), (3, .int (iI (n))), (4, .int (iI (0))), (5, .int (iI (k + 1)))]) rfl ?_
                refine x_goto B (tgt := 39) dX8_nameAt_87 (by decide) ?_
                exact ih39 0 (k + 1) (⟨by omega, by omega, by omega, Or.inr ⟨rfl, fun h => c74 (by rw [e57, e73]; exact h.2 k q1 (by omega))⟩⟩) (by omega)
              · show Vx x E M 77 [(0, .ref (E.1 (71))), (1, .int (iI (s))), (2, .int (iI (e))), (3, .int (iI (n))), (4, .int (iI (sm))), (5, .int (iI (k)))] []
                refine x_iconst B dX8_nameAt_77 ?_
                refine x_goto B (tgt := 82) dX8_nameAt_78 (by decide) ?_
                refine x_istore B dX8_nameAt_82 [1, 2, 3, 4, 0, 5] (by decide) (lv' := [(0, .ref (E.1 (71))), (1, .int (iI (s))), (2, .int (iI (e))), (3, .int (iI (n))), (4, .int (iI (1))), (5, .int (iI (k)))]) rfl ?_
                refine x_iinc B (q := 5) dX8_nameAt_84 rfl [1, 2, 3, 4, 5, 0] (by decide) (lv' := [(0, .ref (E.1 (71))), (1, .int (iI (s))), (2, .int (iI (e))), (3, .int (iI (n))), (4, .int (iI (1))), (5, .int (iI (k + 1)))]) rfl ?_
                refine x_goto B (tgt := 39) dX8_nameAt_87 (by decide) ?_
                exact ih39 1 (k + 1) (⟨by omega, by omega, by omega, Or.inl ⟨rfl, q7.2.1, by omega, fun j a b => by rcases (show j < k ∨ j = k by omega) with h7 | h7; (exact q7.2.2.2 j a h7); (rw [h7, ← e57, ← e73]; exact c74)⟩⟩) (by omega)
        exact L39 s0 0 (⟨by omega, by omega, by omega, hJ.2.2⟩)
      refine x_icmp_ne B (tgt := 33) dX8_nameAt_26 (by decide) ⟨by omega, by omega⟩ ⟨by omega, by omega⟩ (fun c26 => ?_) (fun c26 => ?_)
      · show Vx x E M 33 [(0, .ref (E.1 (71))), (1, .int (iI (s))), (2, .int (iI (e))), (3, .int (iI (n)))] []
        refine x_iconst B dX8_nameAt_33 ?_
        exact J34 0 (⟨by omega, by omega, Or.inr ⟨rfl, fun h => by have := h.1; omega⟩⟩)
      · show Vx x E M 29 [(0, .ref (E.1 (71))), (1, .int (iI (s))), (2, .int (iI (e))), (3, .int (iI (n)))] []
        refine x_iconst B dX8_nameAt_29 ?_
        refine x_goto B (tgt := 34) dX8_nameAt_30 (by decide) ?_
        exact J34 1 (⟨by omega, by omega, Or.inl ⟨rfl, by omega, by omega, fun j a b => by omega⟩⟩)
  exact L2 0 (⟨by omega, by omega, fun j a b => by omega⟩)
