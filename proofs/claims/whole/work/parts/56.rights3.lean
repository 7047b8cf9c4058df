abbrev rm_X8_right : Room := { frames := 7, cells := 0, slots := 0, locals := 177 }
theorem cs_X8_right : Cv yX8_right cX8_right 7 (some .int) 3 := ⟨kw_1120, ⟨kw_1118, kw_1119⟩, kw_67, by decide, by decide, by decide +kernel⟩
set_option maxHeartbeats 4000000 in
set_option maxRecDepth 100000 in
theorem c_X8_right (l : Launch) (E : Ev) (M : Mem) (v m w : Int) (g1 : -2147483648 ≤ v) (g2 : v < 2147483648) (g3 : -2147483648 ≤ m) (g4 : m < 2147483648) (g5 : -2147483648 ≤ w) (g6 : w < 2147483648) : Ct l yX8_right cX8_right 7 (some .int) rm_X8_right E M [.ref (E.1 (71)), .int (iI (v)), .int (iI (m)), .int (iI (w))] (pI (fun z M' => z = -1 ∧ M' = M ∧ ¬ (0 < v ∧ v < 64 ∧ 0 ≤ m ∧ m ≤ 3 ∧ 0 ≤ w ∧ w < 2) ∨ (0 < v ∧ v < 64 ∧ 0 ≤ m ∧ m ≤ 3 ∧ 0 ≤ w ∧ w < 2) ∧ ofS [81, 82, 83, 84, 86, 87, 89] M M' ∧ (w = 0 ∧ z = rgR (lkN M) m.toNat v.toNat (M 71 19) ∨ w = 1 ∧ m = 0 ∧ z = -4 ∨ w = 1 ∧ 0 < m ∧ ∃ le : Int, (0 ≤ le ∧ le ≤ 5 ∧ (∀ j : Int, 0 ≤ j → j < le → v.toNat.testBit j.toNat = false) ∧ v.toNat.testBit le.toNat = true) ∧ 0 ≤ z ∧ z < 6 ∧ rgR (lkN M) (m - 1).toNat (v.toNat &&& lkN M le (M 71 19)) (mvT (M 71 19) z) = rgF (lkN M) m.toNat (v.toNat &&& lkN M le (M 71 19)) (M 71 19) ∧ ∀ q : Int, 0 ≤ q → q < z → ¬ rgR (lkN M) (m - 1).toNat (v.toNat &&& lkN M le (M 71 19)) (mvT (M 71 19) q) = rgF (lkN M) m.toNat (v.toNat &&& lkN M le (M 71 19)) (M 71 19)))) := by
  refine Ct_of (lv := [(0, .ref (E.1 (71))), (1, .int (iI (v))), (2, .int (iI (m))), (3, .int (iI (w)))]) (by decide) ⟨rfl, rfl⟩ (Nat.le_of_ble_eq_true rfl) rfl (fun x _ B R => ?_)
  refine x_iload_n B dX8_right_0 1 rfl rfl ?_
  refine x_callS B (st := []) (av := [.int (iI (v))]) dX8_right_1 cs_X8_isSet kw_1121 ⟨rfl, rfl, Nat.le_of_ble_eq_true rfl, Nat.le_of_ble_eq_true rfl⟩ rfl rfl (Nat.le_of_ble_eq_true rfl) (c_X8_isSet _ E _ v (by omega) (by omega)) (k_i (fun z1 Mq hz1 => ?_))
  obtain ⟨rfl, hz1⟩ := hz1
  refine x_if_eq B (tgt := 29) dX8_right_4 (by decide) ⟨by omega, by omega⟩ (fun c4 => ?_) (fun c4 => ?_)
  · show Vx x E M 29 [(0, .ref (E.1 (71))), (1, .int (iI (v))), (2, .int (iI (m))), (3, .int (iI (w)))] []
    refine x_iconst B dX8_right_29 ?_
    exact r_i B R dX8_right_30 (Or.inl ⟨rfl, rfl, by omega⟩)
  · show Vx x E M 7 [(0, .ref (E.1 (71))), (1, .int (iI (v))), (2, .int (iI (m))), (3, .int (iI (w)))] []
    refine x_iload_n B dX8_right_7 2 rfl rfl ?_
    refine x_i2l B dX8_right_8 ⟨by omega, by omega⟩ ?_
    refine x_lconst B (z := 0) dX8_right_9 rfl ?_
    refine x_ldc2 B (z := 3) dX8_right_10 kw_1041 rfl ?_
    refine x_callS B (st := []) (av := [.long (iL (m)), .long (iL (0)), .long (iL (3))]) dX8_right_13 cs_X8_in kw_952 ⟨rfl, rfl, Nat.le_of_ble_eq_true rfl, Nat.le_of_ble_eq_true rfl⟩ rfl rfl (Nat.le_of_ble_eq_true rfl) (c_X8_in _ E _ m 0 3 (by omega) (by omega) (by omega) (by omega) (by omega) (by omega)) (k_i (fun z13 Mq hz13 => ?_))
    obtain ⟨rfl, hz13⟩ := hz13
    refine x_if_eq B (tgt := 29) dX8_right_16 (by decide) ⟨by omega, by omega⟩ (fun c16 => ?_) (fun c16 => ?_)
    · show Vx x E M 29 [(0, .ref (E.1 (71))), (1, .int (iI (v))), (2, .int (iI (m))), (3, .int (iI (w)))] []
      refine x_iconst B dX8_right_29 ?_
      exact r_i B R dX8_right_30 (Or.inl ⟨rfl, rfl, by omega⟩)
    · show Vx x E M 19 [(0, .ref (E.1 (71))), (1, .int (iI (v))), (2, .int (iI (m))), (3, .int (iI (w)))] []
      refine x_iload_n B dX8_right_19 3 rfl rfl ?_
      refine x_i2l B dX8_right_20 ⟨by omega, by omega⟩ ?_
      refine x_lconst B (z := 0) dX8_right_21 rfl ?_
      refine x_lconst B (z := 1) dX8_right_22 rfl ?_
      refine x_callS B (st := []) (av := [.long (iL (w)), .long (iL (0)), .long (iL (1))]) dX8_right_23 cs_X8_in kw_952 ⟨rfl, rfl, Nat.le_of_ble_eq_true rfl, Nat.le_of_ble_eq_true rfl⟩ rfl rfl (Nat.le_of_ble_eq_true rfl) (c_X8_in _ E _ w 0 1 (by omega) (by omega) (by omega) (by omega) (by omega) (by omega)) (k_i (fun z23 Mq hz23 => ?_))
      obtain ⟨rfl, hz23⟩ := hz23
      refine x_if_ne B (tgt := 31) dX8_right_26 (by decide) ⟨by omega, by omega⟩ (fun c26 => ?_) (fun c26 => ?_)
      · show Vx x E M 31 [(0, .ref (E.1 (71))), (1, .int (iI (v))), (2, .int (iI (m))), (3, .int (iI (w)))] []
        refine x_aload_n B dX8_right_31 0 rfl rfl ?_
        refine x_iload_n B dX8_right_32 2 rfl rfl ?_
        refine x_callV B (st := []) (av := [.int (iI (m))]) dX8_right_33 cs_X8_layRights kw_1124 ⟨rfl, rfl, Nat.le_of_ble_eq_true rfl, Nat.le_of_ble_eq_true rfl⟩ rfl rfl (Nat.le_of_ble_eq_true rfl) (rc_obj B (ci := 8) rfl rfl rfl) (c_X8_layRights _ E _ m (by omega) (by omega)) (k_v (fun M33 hz33 => ?_))
        refine x_iload_n B dX8_right_36 3 rfl rfl ?_
        refine x_if_ne B (tgt := 51) dX8_right_37 (by decide) ⟨by omega, by omega⟩ (fun c37 => ?_) (fun c37 => ?_)
        · show Vx x E M33 51 [(0, .ref (E.1 (71))), (1, .int (iI (v))), (2, .int (iI (m))), (3, .int (iI (w)))] []
          refine x_iload_n B dX8_right_51 2 rfl rfl ?_
          refine x_if_ne B (tgt := 58) dX8_right_52 (by decide) ⟨by omega, by omega⟩ (fun c52 => ?_) (fun c52 => ?_)
          · show Vx x E M33 58 [(0, .ref (E.1 (71))), (1, .int (iI (v))), (2, .int (iI (m))), (3, .int (iI (w)))] []
            refine x_iconst B dX8_right_58 ?_
            refine x_istore B dX8_right_59 [1, 2, 3, 4, 0] (by decide) (lv' := [(0, .ref (E.1 (71))), (1, .int (iI (v))), (2, .int (iI (m))), (3, .int (iI (w))), (4, .int (iI (0)))]) rfl ?_
            have L61 : ∀ (le : Int), (0 ≤ le ∧ le ≤ 5 ∧ ∀ j : Int, 0 ≤ j → j < le → v.toNat.testBit j.toNat = false) → Vx x E M33 61 [(0, .ref (E.1 (71))), (1, .int (iI (v))), (2, .int (iI (m))), (3, .int (iI (w))), (4, .int (iI (le)))] [] := by
              refine lo1 _ _ (fun le => (6 - le).toNat) ?_
              intro le hI ih61
              obtain ⟨i1, i2, i3⟩ := hI
              refine x_iload_n B dX8_right_61 1 rfl rfl ?_
              refine x_iload B dX8_right_62 4 rfl ?_
              refine x_ishr B dX8_right_64 (by omega) ⟨by omega, by omega⟩ (by omega) (by omega) ?_
              refine x_iconst B dX8_right_65 ?_
              refine x_iand B dX8_right_66 (Int.natCast_nonneg _) (by omega) ?_
              have b67 := bit_v v.toNat le.toNat
              have hb67 : Rg ((((((v).toNat >>> (le).toNat : Nat) : Int)).toNat &&& (1 : Int).toNat : Nat) : Int) := by rcases b67 with ⟨h5, h6⟩ | ⟨h5, h6⟩ <;> (rw [h5]; exact ⟨by omega, by omega⟩)
              refine x_if_ne B (tgt := 76) dX8_right_67 (by decide) hb67 (fun c67 => ?_) (fun c67 => ?_)
              · show Vx x E M33 76 [(0, .ref (E.1 (71))), (1, .int (iI (v))), (2, .int (iI (m))), (3, .int (iI (w))), (4, .int (iI (le)))] []
                have hbit : v.toNat.testBit le.toNat = true := by
                  rcases b67 with ⟨h5, h6⟩ | ⟨h5, h6⟩
                  · exact h6
                  · exact absurd h5 c67
                refine x_iload_n B dX8_right_76 1 rfl rfl ?_
                refine x_aload_n B dX8_right_77 0 rfl rfl ?_
                refine x_getR B (ci := 8) (k := 29) dX8_right_78 rfl rfl rfl (by decide) inGX8 kw_834 ?_
                refine x_bipush B dX8_right_81 rfl ?_
                refine x_aload_n B dX8_right_83 0 rfl rfl ?_
                refine x_getI B (ci := 8) (k := 19) (lo := 0) (hi := 25) dX8_right_84 rfl rfl rfl (by decide) inGX8 kw_824 rfl (fun z84 ez84 lz84 uz84 => ?_)
                have e84 : z84 = M 71 19 := by rw [Is_e ez84, ofS_o hz33.1 (by decide) (by decide)]
                refine x_imul B dX8_right_87 ?_
                refine x_iload B dX8_right_88 4 rfl ?_
                refine x_iadd B dX8_right_90 ?_
                refine x_iald B (lo := 0) (hi := 63) dX8_right_91 rfl (by omega) (by omega) rfl (fun z91 ez91 lz91 uz91 => ?_)
                have e91 : z91 = ((lkN M le (M 71 19) : Nat) : Int) := by
                  rw [Is_e ez91]
                  have h := hz33.2.1 z84 le (by omega) (by omega) i1 (by omega) (by omega)
                  rw [h, e84]
                have ha64 := and64 (a := v.toNat) (b := z91.toNat) (by omega)
                have hHP : (((v.toNat &&& z91.toNat : Nat) : Int)).toNat = (v.toNat &&& lkN M le (M 71 19)) := by rw [Int.toNat_natCast, e91, Int.toNat_natCast]
                have hh64 : (v.toNat &&& lkN M le (M 71 19)) < 64 := by rw [← hHP]; omega
                have hsome : (∀ j : Int, 0 ≤ j → j < 6 → ¬ rgR (lkN M) (m - 1).toNat (v.toNat &&& lkN M le (M 71 19)) (mvT (M 71 19) j) = rgF (lkN M) m.toNat (v.toNat &&& lkN M le (M 71 19)) (M 71 19)) → False := fun hn => by
                  obtain ⟨k, k1, k2⟩ := mxK_at (r := fun q => rgR (lkN M) (m - 1).toNat (v.toNat &&& lkN M le (M 71 19)) (mvT (M 71 19) q)) 6 (by omega) (fun k _ => (rgR_in hh64).1)
                  refine hn (k : Int) (by omega) (by omega) (Eq.trans k2 ?_)
                  rw [show m.toNat = (m - 1).toNat + 1 by omega]
                  rfl
                refine x_iand B dX8_right_92 (by omega) (by omega) ?_
                refine x_istore B dX8_right_93 [1, 2, 3, 4, 5, 0] (by decide) (lv' := [(0, .ref (E.1 (71))), (1, .int (iI (v))), (2, .int (iI (m))), (3, .int (iI (w))), (4, .int (iI (le))), (5, .int (iI ((((v).toNat &&& (z91).toNat : Nat) : Int))))]) rfl ?_
                refine x_iconst B dX8_right_95 ?_
                refine x_istore B dX8_right_96 [1, 2, 3, 4, 5, 6, 0] (by decide) (lv' := [(0, .ref (E.1 (71))), (1, .int (iI (v))), (2, .int (iI (m))), (3, .int (iI (w))), (4, .int (iI (le))), (5, .int (iI ((((v).toNat &&& (z91).toNat : Nat) : Int)))), (6, .int (iI (0)))]) rfl ?_
                have L98 : ∀ (q : Int), (0 ≤ q ∧ q ≤ 5 ∧ ∀ j : Int, 0 ≤ j → j < q → ¬ rgR (lkN M) (m - 1).toNat (v.toNat &&& lkN M le (M 71 19)) (mvT (M 71 19) j) = rgF (lkN M) m.toNat (v.toNat &&& lkN M le (M 71 19)) (M 71 19)) → Vx x E M33 98 [(0, .ref (E.1 (71))), (1, .int (iI (v))), (2, .int (iI (m))), (3, .int (iI (w))), (4, .int (iI (le))), (5, .int (iI ((((v).toNat &&& (z91).toNat : Nat) : Int)))), (6, .int (iI (q)))] [] := by
                  refine lo1 _ _ (fun q => (6 - q).toNat) ?_
                  intro q hI ih98
                  obtain ⟨s1, s2, s3⟩ := hI
                  refine x_aload_n B dX8_right_98 0 rfl rfl ?_
                  refine x_iload_n B dX8_right_99 2 rfl rfl ?_
                  refine x_iconst B dX8_right_100 ?_
                  refine x_isub B dX8_right_101 ?_
                  refine x_aload_n B dX8_right_102 0 rfl rfl ?_
                  refine x_getI B (ci := 8) (k := 19) (lo := 0) (hi := 25) dX8_right_103 rfl rfl rfl (by decide) inGX8 kw_824 rfl (fun z103 ez103 lz103 uz103 => ?_)
                  have e103 : z103 = M 71 19 := by rw [Is_e ez103, ofS_o hz33.1 (by decide) (by decide)]
                  refine x_iload B dX8_right_106 6 rfl ?_
                  refine x_callS B (st := [.int (iI (m - 1)), .ref (E.1 (71))]) (av := [.int (iI (z103)), .int (iI (q))]) dX8_right_108 cs_X8_ledTo kw_1030 ⟨rfl, rfl, Nat.le_of_ble_eq_true rfl, Nat.le_of_ble_eq_true rfl⟩ rfl rfl (Nat.le_of_ble_eq_true rfl) (c_X8_ledTo _ E _ z103 q (by omega) (by omega) (by omega) (by omega)) (k_i (fun z108 Mq hz108 => ?_))
                  obtain ⟨rfl, hz108⟩ := hz108
                  have mv108 := mvT_in (p := z103) (m := q) (by omega) (by omega)
                  refine x_iload B dX8_right_111 5 rfl ?_
                  refine x_callV B (st := []) (av := [.int (iI (m - 1)), .int (iI (z108)), .int (iI ((((v).toNat &&& (z91).toNat : Nat) : Int)))]) dX8_right_113 cs_X8_rightOf kw_1132 ⟨rfl, rfl, Nat.le_of_ble_eq_true rfl, Nat.le_of_ble_eq_true rfl⟩ rfl rfl (Nat.le_of_ble_eq_true rfl) (rc_obj B (ci := 8) rfl rfl rfl) (c_X8_rightOf _ E _ (m - 1) z108 (((v).toNat &&& (z91).toNat : Nat) : Int) (lkN M) (fun h => rgF (lkN M) (m - 1).toNat h z108) (by omega) (by omega) (by omega) (by omega) (Int.natCast_nonneg _) (by omega) (tw_A hz33.2.1 (by omega) (by omega)) (rd_A hz33.2.2 (by omega) (by omega) (by omega) (by omega) (by omega))) (k_i (fun z113 Mq hz113 => ?_))
                  obtain ⟨rfl, hz113⟩ := hz113
                  refine x_aload_n B dX8_right_116 0 rfl rfl ?_
                  refine x_getR B (ci := 8) (k := 32) dX8_right_117 rfl rfl rfl (by decide) inGX8 kw_837 ?_
                  refine x_sipush B dX8_right_120 rfl ?_
                  refine x_iload_n B dX8_right_123 2 rfl rfl ?_
                  refine x_imul B dX8_right_124 ?_
                  refine x_bipush B dX8_right_125 rfl ?_
                  refine x_aload_n B dX8_right_127 0 rfl rfl ?_
                  refine x_getI B (ci := 8) (k := 19) (lo := 0) (hi := 25) dX8_right_128 rfl rfl rfl (by decide) inGX8 kw_824 rfl (fun z128 ez128 lz128 uz128 => ?_)
                  have e128 : z128 = M 71 19 := by rw [Is_e ez128, ofS_o hz33.1 (by decide) (by decide)]
                  refine x_imul B dX8_right_131 ?_
                  refine x_iadd B dX8_right_132 ?_
                  refine x_iload B dX8_right_133 5 rfl ?_
                  refine x_iadd B dX8_right_135 ?_
                  refine x_iald B (lo := 0) (hi := 6) dX8_right_136 rfl (by omega) (by omega) rfl (fun z136 ez136 lz136 uz136 => ?_)
                  have e113 : z113 = rgR (lkN M) (m - 1).toNat (v.toNat &&& lkN M le (M 71 19)) (mvT (M 71 19) q) := by
                    rw [hz113.1, hHP, hz108, e103]
                    rfl
                  have e136 : z136 = rgF (lkN M) m.toNat (v.toNat &&& lkN M le (M 71 19)) (M 71 19) := by
                    rw [Is_e ez136]
                    have h := hz33.2.2 m z128 (((v.toNat &&& z91.toNat : Nat) : Int)) (by omega) (by omega) (by omega) (by omega) (Int.natCast_nonneg _) (by omega) (by omega)
                    rw [hHP, e128] at h
                    rw [e128]
                    exact h
                  refine x_icmp_eq B (tgt := 146) dX8_right_137 (by decide) ⟨by omega, by omega⟩ ⟨by omega, by omega⟩ (fun c137 => ?_) (fun c137 => ?_)
                  · show Vx x E M33 146 [(0, .ref (E.1 (71))), (1, .int (iI (v))), (2, .int (iI (m))), (3, .int (iI (w))), (4, .int (iI (le))), (5, .int (iI ((((v).toNat &&& (z91).toNat : Nat) : Int)))), (6, .int (iI (q)))] []
                    refine x_iload B dX8_right_146 6 rfl ?_
                    exact r_i B R dX8_right_148 (Or.inr ⟨by omega, hz33.1, Or.inr (Or.inr ⟨by omega, by omega, le, ⟨i1, i2, i3, hbit⟩, s1, by omega, by rw [← e113, ← e136]; exact c137, s3⟩)⟩)
                  · show Vx x E M33 140 [(0, .ref (E.1 (71))), (1, .int (iI (v))), (2, .int (iI (m))), (3, .int (iI (w))), (4, .int (iI (le))), (5, .int (iI ((((v).toNat &&& (z91).toNat : Nat) : Int)))), (6, .int (iI (q)))] []
                    have hnx2 : ∀ j : Int, 0 ≤ j → j < q + 1 → ¬ rgR (lkN M) (m - 1).toNat (v.toNat &&& lkN M le (M 71 19)) (mvT (M 71 19) j) = rgF (lkN M) m.toNat (v.toNat &&& lkN M le (M 71 19)) (M 71 19) := fun j j0 j1 => by
                      rcases (show j < q ∨ j = q by omega) with h7 | h7
                      · exact s3 j j0 h7
                      · rw [h7, ← e113, ← e136]
                        exact c137
                    refine x_iinc B (q := 6) dX8_right_140 rfl [1, 2, 3, 4, 5, 6, 0] (by decide) (lv' := [(0, .ref (E.1 (71))), (1, .int (iI (v))), (2, .int (iI (m))), (3, .int (iI (w))), (4, .int (iI (le))), (5, .int (iI ((((v).toNat &&& (z91).toNat : Nat) : Int)))), (6, .int (iI (q + 1)))]) rfl ?_
                    refine x_goto B (tgt := 98) dX8_right_143 (by decide) ?_
                    exact ih98 (q + 1) (⟨by omega, by rcases (show q < 5 ∨ q = 5 by omega) with h7 | h7; (omega); (exact absurd (hsome (fun j j0 j1 => hnx2 j j0 (by omega))) id), hnx2⟩) (by omega)
                exact L98 0 (⟨by omega, by omega, fun j a b => by omega⟩)
              · show Vx x E M33 70 [(0, .ref (E.1 (71))), (1, .int (iI (v))), (2, .int (iI (m))), (3, .int (iI (w))), (4, .int (iI (le)))] []
                have hnx : ∀ j : Int, 0 ≤ j → j < le + 1 → v.toNat.testBit j.toNat = false := fun j j0 j1 => by
                  rcases (show j < le ∨ j = le by omega) with h7 | h7
                  · exact i3 j j0 h7
                  · rw [h7]
                    rcases b67 with ⟨h5, h6⟩ | ⟨h5, h6⟩
                    · rw [h5] at c67
                      exact absurd c67 (by decide)
                    · exact h6
                refine x_iinc B (q := 4) dX8_right_70 rfl [1, 2, 3, 4, 0] (by decide) (lv' := [(0, .ref (E.1 (71))), (1, .int (iI (v))), (2, .int (iI (m))), (3, .int (iI (w))), (4, .int (iI (le + 1)))]) rfl ?_
                refine x_goto B (tgt := 61) dX8_right_73 (by decide) ?_
                exact ih61 (le + 1) (⟨by omega, by rcases (show le < 5 ∨ le = 5 by omega) with h7 | h7; (omega); (exact absurd (nobits (by omega) (by omega) (fun j j0 j1 => hnx j j0 (by omega))) id), hnx⟩) (by omega)
            exact L61 0 (⟨by omega, by omega, fun j a b => by omega⟩)
          · show Vx x E M33 55 [(0, .ref (E.1 (71))), (1, .int (iI (v))), (2, .int (iI (m))), (3, .int (iI (w)))] []
            refine x_bipush B dX8_right_55 rfl ?_
            exact r_i B R dX8_right_57 (Or.inr ⟨by omega, hz33.1, Or.inr (Or.inl ⟨by omega, c52, rfl⟩)⟩)
        · show Vx x E M33 40 [(0, .ref (E.1 (71))), (1, .int (iI (v))), (2, .int (iI (m))), (3, .int (iI (w)))] []
          refine x_aload_n B dX8_right_40 0 rfl rfl ?_
          refine x_iload_n B dX8_right_41 2 rfl rfl ?_
          refine x_aload_n B dX8_right_42 0 rfl rfl ?_
          refine x_getI B (ci := 8) (k := 19) (lo := 0) (hi := 25) dX8_right_43 rfl rfl rfl (by decide) inGX8 kw_824 rfl (fun z43 ez43 lz43 uz43 => ?_)
          have e43 : z43 = M 71 19 := by rw [Is_e ez43, ofS_o hz33.1 (by decide) (by decide)]
          refine x_iload_n B dX8_right_46 1 rfl rfl ?_
          refine x_callV B (st := []) (av := [.int (iI (m)), .int (iI (z43)), .int (iI (v))]) dX8_right_47 cs_X8_rightOf kw_1132 ⟨rfl, rfl, Nat.le_of_ble_eq_true rfl, Nat.le_of_ble_eq_true rfl⟩ rfl rfl (Nat.le_of_ble_eq_true rfl) (rc_obj B (ci := 8) rfl rfl rfl) (c_X8_rightOf _ E _ m z43 v (lkN M) (fun h => rgF (lkN M) m.toNat h z43) (by omega) (by omega) (by omega) (by omega) (by omega) (by omega) (tw_A hz33.2.1 (by omega) (by omega)) (rd_A hz33.2.2 (by omega) (by omega) (by omega) (by omega) (by omega))) (k_i (fun z47 Mq hz47 => ?_))
          obtain ⟨rfl, hz47⟩ := hz47
          exact r_i B R dX8_right_50 (Or.inr ⟨by omega, hz33.1, Or.inl ⟨c37, by rw [hz47.1, e43]; rfl⟩⟩)
      · show Vx x E M 29 [(0, .ref (E.1 (71))), (1, .int (iI (v))), (2, .int (iI (m))), (3, .int (iI (w)))] []
        refine x_iconst B dX8_right_29 ?_
        exact r_i B R dX8_right_30 (Or.inl ⟨rfl, rfl, by omega⟩)
abbrev rm_X8_needs : Room := { frames := 7, cells := 0, slots := 0, locals := 177 }
theorem cs_X8_needs : Cv yX8_needs cX8_needs 3 (some .int) 1 := ⟨kw_1139, ⟨kw_1137, kw_1138⟩, kw_67, by decide, by decide, by decide +kernel⟩
set_option maxHeartbeats 4000000 in
set_option maxRecDepth 100000 in
theorem c_X8_needs (l : Launch) (E : Ev) (M : Mem) (v : Int) (g1 : -2147483648 ≤ v) (g2 : v < 2147483648) : Ct l yX8_needs cX8_needs 3 (some .int) rm_X8_needs E M [.ref (E.1 (71)), .int (iI (v))] (pI (fun z M' => z = -1 ∧ M' = M ∧ ¬ (0 < v ∧ v < 64) ∨ (0 < v ∧ v < 64) ∧ ofS [81, 82, 83, 84, 86, 87, 89] M M' ∧ (0 ≤ z ∧ z ≤ 3 ∧ rgR (lkN M) (z).toNat v.toNat (M 71 19) = ((popN v.toNat 16 : Nat) : Int) ∧ (∀ q : Int, 0 ≤ q → q < z → ¬ rgR (lkN M) (q).toNat v.toNat (M 71 19) = ((popN v.toNat 16 : Nat) : Int)) ∨ z = -4 ∧ ∀ q : Int, 0 ≤ q → q < 4 → ¬ rgR (lkN M) (q).toNat v.toNat (M 71 19) = ((popN v.toNat 16 : Nat) : Int)))) := by
  refine Ct_of (lv := [(0, .ref (E.1 (71))), (1, .int (iI (v)))]) (by decide) ⟨rfl, rfl⟩ (Nat.le_of_ble_eq_true rfl) rfl (fun x _ B R => ?_)
  refine x_iload_n B dX8_needs_0 1 rfl rfl ?_
  refine x_callS B (st := []) (av := [.int (iI (v))]) dX8_needs_1 cs_X8_isSet kw_1121 ⟨rfl, rfl, Nat.le_of_ble_eq_true rfl, Nat.le_of_ble_eq_true rfl⟩ rfl rfl (Nat.le_of_ble_eq_true rfl) (c_X8_isSet _ E _ v (by omega) (by omega)) (k_i (fun z1 Mq hz1 => ?_))
  obtain ⟨rfl, hz1⟩ := hz1
  refine x_if_ne B (tgt := 9) dX8_needs_4 (by decide) ⟨by omega, by omega⟩ (fun c4 => ?_) (fun c4 => ?_)
  · show Vx x E M 9 [(0, .ref (E.1 (71))), (1, .int (iI (v)))] []
    refine x_aload_n B dX8_needs_9 0 rfl rfl ?_
    refine x_iconst B dX8_needs_10 ?_
    refine x_callV B (st := []) (av := [.int (iI (3))]) dX8_needs_11 cs_X8_layRights kw_1124 ⟨rfl, rfl, Nat.le_of_ble_eq_true rfl, Nat.le_of_ble_eq_true rfl⟩ rfl rfl (Nat.le_of_ble_eq_true rfl) (rc_obj B (ci := 8) rfl rfl rfl) (c_X8_layRights _ E _ 3 (by omega) (by omega)) (k_v (fun M11 hz11 => ?_))
    refine x_iconst B dX8_needs_14 ?_
    refine x_istore_n B dX8_needs_15 [1, 2, 0] rfl (by decide) (lv' := [(0, .ref (E.1 (71))), (1, .int (iI (v))), (2, .int (iI (0)))]) rfl ?_
    have L16 : ∀ (m : Int), (0 ≤ m ∧ m ≤ 4 ∧ ∀ q : Int, 0 ≤ q → q < m → ¬ rgR (lkN M) (q).toNat v.toNat (M 71 19) = ((popN v.toNat 16 : Nat) : Int)) → Vx x E M11 16 [(0, .ref (E.1 (71))), (1, .int (iI (v))), (2, .int (iI (m)))] [] := by
      refine lo1 _ _ (fun m => (4 - m).toNat) ?_
      intro m hI ih16
      obtain ⟨i1, i2, i3⟩ := hI
      refine x_iload_n B dX8_needs_16 2 rfl rfl ?_
      refine x_iconst B dX8_needs_17 ?_
      refine x_icmp_ge B (tgt := 46) dX8_needs_18 (by decide) ⟨by omega, by omega⟩ ⟨by omega, by omega⟩ (fun c18 => ?_) (fun c18 => ?_)
      · show Vx x E M11 46 [(0, .ref (E.1 (71))), (1, .int (iI (v))), (2, .int (iI (m)))] []
        refine x_bipush B dX8_needs_46 rfl ?_
        exact r_i B R dX8_needs_48 (Or.inr ⟨by omega, hz11.1, Or.inr ⟨rfl, fun q h0 h1 => i3 q h0 (by omega)⟩⟩)
      · show Vx x E M11 21 [(0, .ref (E.1 (71))), (1, .int (iI (v))), (2, .int (iI (m)))] []
        refine x_aload_n B dX8_needs_21 0 rfl rfl ?_
        refine x_iload_n B dX8_needs_22 2 rfl rfl ?_
        refine x_aload_n B dX8_needs_23 0 rfl rfl ?_
        refine x_getI B (ci := 8) (k := 19) (lo := 0) (hi := 25) dX8_needs_24 rfl rfl rfl (by decide) inGX8 kw_824 rfl (fun z24 ez24 lz24 uz24 => ?_)
        refine x_iload_n B dX8_needs_27 1 rfl rfl ?_
        refine x_callV B (st := []) (av := [.int (iI (m)), .int (iI (z24)), .int (iI (v))]) dX8_needs_28 cs_X8_rightOf kw_1132 ⟨rfl, rfl, Nat.le_of_ble_eq_true rfl, Nat.le_of_ble_eq_true rfl⟩ rfl rfl (Nat.le_of_ble_eq_true rfl) (rc_obj B (ci := 8) rfl rfl rfl) (c_X8_rightOf _ E _ m z24 v (lkN M) (fun h => rgF (lkN M) m.toNat h z24) (by omega) (by omega) (by omega) (by omega) (by omega) (by omega) (tw_A hz11.2.1 (by omega) (by omega)) (rd_A hz11.2.2 (by omega) (by omega) (by omega) (by omega) (by omega))) (k_i (fun z28 Mq hz28 => ?_))
        obtain ⟨rfl, hz28⟩ := hz28
        have hr : z28 = rgR (lkN M) (m).toNat v.toNat (M 71 19) := by
          rw [hz28.1, Is_e ez24, ofS_o hz11.1 (by decide) (by decide)]
          rfl
        refine x_iload_n B dX8_needs_31 1 rfl rfl ?_
        refine x_callS B (st := [.int (iI (z28))]) (av := [.int (iI (v))]) dX8_needs_32 cs_X8_countOf kw_1140 ⟨rfl, rfl, Nat.le_of_ble_eq_true rfl, Nat.le_of_ble_eq_true rfl⟩ rfl rfl (Nat.le_of_ble_eq_true rfl) (c_X8_countOf _ E _ v (by omega) (by omega)) (k_i (fun z32 Mq hz32 => ?_))
        obtain ⟨rfl, hz32⟩ := hz32
        refine x_icmp_ne B (tgt := 40) dX8_needs_35 (by decide) ⟨by omega, by omega⟩ ⟨by omega, by omega⟩ (fun c35 => ?_) (fun c35 => ?_)
        · show Vx x E M11 40 [(0, .ref (E.1 (71))), (1, .int (iI (v))), (2, .int (iI (m)))] []
          refine x_iinc B (q := 2) dX8_needs_40 rfl [1, 2, 0] (by decide) (lv' := [(0, .ref (E.1 (71))), (1, .int (iI (v))), (2, .int (iI (m + 1)))]) rfl ?_
          refine x_goto B (tgt := 16) dX8_needs_43 (by decide) ?_
          exact ih16 (m + 1) (⟨by omega, by omega, fun q h0 h1 => by rcases (show q < m ∨ q = m by omega) with h7 | h7; (exact i3 q h0 h7); (rw [h7, ← hr, ← hz32.1]; exact c35)⟩) (by omega)
        · show Vx x E M11 38 [(0, .ref (E.1 (71))), (1, .int (iI (v))), (2, .int (iI (m)))] []
          refine x_iload_n B dX8_needs_38 2 rfl rfl ?_
          exact r_i B R dX8_needs_39 (Or.inr ⟨by omega, hz11.1, Or.inl ⟨by omega, by omega, by rw [← hr, ← hz32.1]; exact c35, i3⟩⟩)
    exact L16 0 (⟨by omega, by omega, fun q a b => by omega⟩)
  · show Vx x E M 7 [(0, .ref (E.1 (71))), (1, .int (iI (v)))] []
    refine x_iconst B dX8_needs_7 ?_
    exact r_i B R dX8_needs_8 (Or.inl ⟨rfl, rfl, by omega⟩)
