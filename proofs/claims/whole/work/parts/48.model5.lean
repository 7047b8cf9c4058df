theorem be_r {fe sh : Int → Nat → Int} {m w a b t e r : Int} (ht : t = if eqB (fe a) (fe b) = true then 1 else 0) (he : e = if soB (sh a) (sh b) m = true then 1 else 0) (hr : w = 0 ∧ (r = 1 ∧ ¬ t = 0 ∨ r = 0 ∧ t = 0) ∨ w = 1 ∧ (r = 1 ∧ ¬ e = 0 ∨ r = 0 ∧ e = 0) ∨ w = 2 ∧ (r = 1 ∧ ¬ t = 0 ∧ ¬ e = 0 ∨ r = 0 ∧ (t = 0 ∨ e = 0))) : Is r (beB fe sh m w a b) := by
  show r = _
  unfold beB pwB
  revert ht he
  generalize eqB (fe a) (fe b) = T
  generalize soB (sh a) (sh b) m = S
  intro ht he
  rcases hr with ⟨hw, h⟩ | ⟨hw, h⟩ | ⟨hw, h⟩ <;> subst hw <;> cases T <;> cases S <;> simp at ht he ⊢ <;> omega
abbrev rm_X8_beside : Room := { frames := 5, cells := 0, slots := 0, locals := 126 }
theorem cs_X8_beside : Cv yX8_beside cX8_beside 7 (some .int) 1 := ⟨kw_1198, ⟨kw_1196, kw_1197⟩, kw_67, by decide, by decide, by decide +kernel⟩
set_option maxHeartbeats 4000000 in
set_option maxRecDepth 100000 in
theorem c_X8_beside (l : Launch) (E : Ev) (M : Mem) (w : Int) (g1 : -2147483648 ≤ w) (g2 : w < 2147483648) : Ct l yX8_beside cX8_beside 7 (some .int) rm_X8_beside E M [.ref (E.1 (71)), .int (iI (w))] (pI (fun z M' => z = -1 ∧ M' = M ∧ ¬ (0 ≤ w ∧ w < 3) ∨ (0 ≤ w ∧ w < 3) ∧ z = beO (fun s => feM M s (M 71 19)) (fun s => shN M s (M 71 19)) (M 78 6) w 6 ∧ ofS [81, 82, 83, 84, 87] M M')) := by
  refine Ct_of (lv := [(0, .ref (E.1 (71))), (1, .int (iI (w)))]) (by decide) ⟨rfl, rfl⟩ (Nat.le_of_ble_eq_true rfl) rfl (fun x _ B R => ?_)
  refine x_iload_n B dX8_beside_0 1 rfl rfl ?_
  refine x_i2l B dX8_beside_1 ⟨by omega, by omega⟩ ?_
  refine x_lconst B (z := 0) dX8_beside_2 rfl ?_
  refine x_ldc2 B (z := 2) dX8_beside_3 kw_1076 rfl ?_
  refine x_callS B (st := []) (av := [.long (iL (w)), .long (iL (0)), .long (iL (2))]) dX8_beside_6 cs_X8_in kw_952 ⟨rfl, rfl, Nat.le_of_ble_eq_true rfl, Nat.le_of_ble_eq_true rfl⟩ rfl rfl (Nat.le_of_ble_eq_true rfl) (c_X8_in _ E _ w 0 2 (by omega) (by omega) (by omega) (by omega) (by omega) (by omega)) (k_i (fun z6 Mq hz6 => ?_))
  obtain ⟨rfl, hz6⟩ := hz6
  refine x_if_ne B (tgt := 14) dX8_beside_9 (by decide) ⟨by omega, by omega⟩ (fun c9 => ?_) (fun c9 => ?_)
  · show Vx x E M 14 [(0, .ref (E.1 (71))), (1, .int (iI (w)))] []
    refine x_iconst B dX8_beside_14 ?_
    refine x_istore_n B dX8_beside_15 [1, 2, 0] rfl (by decide) (lv' := [(0, .ref (E.1 (71))), (1, .int (iI (w))), (2, .int (iI (0)))]) rfl ?_
    refine x_iconst B dX8_beside_16 ?_
    refine x_istore_n B dX8_beside_17 [1, 2, 3, 0] rfl (by decide) (lv' := [(0, .ref (E.1 (71))), (1, .int (iI (w))), (2, .int (iI (0))), (3, .int (iI (0)))]) rfl ?_
    have L18 : ∀ (n : Int) (a : Int) (M1 : Mem), (0 ≤ a ∧ a ≤ 6 ∧ 0 ≤ n ∧ n ≤ 6 * a ∧ n = beO (fun s => feM M s (M 71 19)) (fun s => shN M s (M 71 19)) (M 78 6) w a.toNat ∧ ofS [81, 82, 83, 84, 87] M M1) → Vx x E M1 18 [(0, .ref (E.1 (71))), (1, .int (iI (w))), (2, .int (iI (n))), (3, .int (iI (a)))] [] := by
      refine lo3 _ _ (fun n a M1 => (6 - a).toNat) ?_
      intro n a M1 hI ih18
      obtain ⟨i1, i2, i3, i4, i5, i6⟩ := hI
      refine x_iload_n B dX8_beside_18 3 rfl rfl ?_
      refine x_bipush B dX8_beside_19 rfl ?_
      refine x_icmp_ge B (tgt := 113) dX8_beside_21 (by decide) ⟨by omega, by omega⟩ ⟨by omega, by omega⟩ (fun c21 => ?_) (fun c21 => ?_)
      · show Vx x E M1 113 [(0, .ref (E.1 (71))), (1, .int (iI (w))), (2, .int (iI (n))), (3, .int (iI (a)))] []
        refine x_iload_n B dX8_beside_113 2 rfl rfl ?_
        exact r_i B R dX8_beside_114 (Or.inr ⟨by omega, by rw [i5, show a.toNat = 6 by omega], i6⟩)
      · show Vx x E M1 24 [(0, .ref (E.1 (71))), (1, .int (iI (w))), (2, .int (iI (n))), (3, .int (iI (a)))] []
        refine x_iload_n B dX8_beside_24 3 rfl rfl ?_
        refine x_iconst B dX8_beside_25 ?_
        refine x_iadd B dX8_beside_26 ?_
        refine x_istore B dX8_beside_27 [1, 2, 3, 4, 0] (by decide) (lv' := [(0, .ref (E.1 (71))), (1, .int (iI (w))), (2, .int (iI (n))), (3, .int (iI (a))), (4, .int (iI (a + 1)))]) rfl ?_
        have L29 : ∀ (n2 : Int) (b : Int) (M2 : Mem), (a + 1 ≤ b ∧ b ≤ 6 ∧ 0 ≤ n2 ∧ n2 ≤ 6 * a + (b - a - 1) ∧ n2 = beO (fun s => feM M s (M 71 19)) (fun s => shN M s (M 71 19)) (M 78 6) w a.toNat + beI (fun s => feM M s (M 71 19)) (fun s => shN M s (M 71 19)) (M 78 6) w a (b - a - 1).toNat ∧ ofS [81, 82, 83, 84, 87] M M2) → Vx x E M2 29 [(0, .ref (E.1 (71))), (1, .int (iI (w))), (2, .int (iI (n2))), (3, .int (iI (a))), (4, .int (iI (b)))] [] := by
          refine lo3 _ _ (fun n2 b M2 => (6 - b).toNat) ?_
          intro n2 b M2 hI ih29
          obtain ⟨n1, n2a, n3, n4, n5, n6⟩ := hI
          refine x_iload B dX8_beside_29 4 rfl ?_
          refine x_bipush B dX8_beside_31 rfl ?_
          refine x_icmp_ge B (tgt := 107) dX8_beside_33 (by decide) ⟨by omega, by omega⟩ ⟨by omega, by omega⟩ (fun c33 => ?_) (fun c33 => ?_)
          · show Vx x E M2 107 [(0, .ref (E.1 (71))), (1, .int (iI (w))), (2, .int (iI (n2))), (3, .int (iI (a))), (4, .int (iI (b)))] []
            refine x_iinc B (q := 3) dX8_beside_107 rfl [1, 2, 3, 0, 4] (by decide) (lv' := [(0, .ref (E.1 (71))), (1, .int (iI (w))), (2, .int (iI (n2))), (3, .int (iI (a + 1))), (4, .int (iI (b)))]) rfl ?_
            refine x_goto B (tgt := 18) dX8_beside_110 (by decide) ?_
            refine x_lv [0, 1, 2, 3] (lv' := [(0, .ref (E.1 (71))), (1, .int (iI (w))), (2, .int (iI (n2))), (3, .int (iI (a + 1)))]) rfl ?_
            exact ih18 n2 (a + 1) M2 (⟨by omega, by omega, by omega, by omega, by rw [n5, beO_s (b := b) i1 (by omega)], n6⟩) (by omega)
          · show Vx x E M2 36 [(0, .ref (E.1 (71))), (1, .int (iI (w))), (2, .int (iI (n2))), (3, .int (iI (a))), (4, .int (iI (b)))] []
            refine x_aload_n B dX8_beside_36 0 rfl rfl ?_
            refine x_iload_n B dX8_beside_37 3 rfl rfl ?_
            refine x_iload B dX8_beside_38 4 rfl ?_
            refine x_aload_n B dX8_beside_40 0 rfl rfl ?_
            refine x_getI B (ci := 8) (k := 19) (lo := 0) (hi := 25) dX8_beside_41 rfl rfl rfl (by decide) inGX8 kw_824 rfl (fun z41 ez41 lz41 uz41 => ?_)
            refine x_callV B (st := []) (av := [.int (iI (a)), .int (iI (b)), .int (iI (z41))]) dX8_beside_44 cs_X8_areAlike kw_1105 ⟨rfl, rfl, Nat.le_of_ble_eq_true rfl, Nat.le_of_ble_eq_true rfl⟩ rfl rfl (Nat.le_of_ble_eq_true rfl) (rc_obj B (ci := 8) rfl rfl rfl) (c_X8_areAlike _ E _ a b z41 (by omega) (by omega) (by omega) (by omega) (by omega) (by omega)) (k_i (fun z44 M44 hz44 => ?_))
            have e41 : z41 = M 71 19 := by rw [Is_e ez41, ofS_o n6 (by decide) (by decide)]
            have o4 : ofS [81, 82, 83, 84, 87] M M44 := ofS_tr n6 hz44.1
            have ht : z44 = (if eqB (feM M a (M 71 19)) (feM M b (M 71 19)) = true then 1 else 0) := by
              have h := hz44.2
              rw [feM_of n6 (by decide) (by decide) (by decide) (by decide), e41] at h
              rcases h with ⟨h5, h6⟩ | ⟨h5, h6⟩
              · rw [if_pos (eqB_iff.mpr h6)]
                exact h5
              · rw [if_neg (eqB_no h6)]
                exact h5
            refine x_istore B dX8_beside_47 [1, 2, 3, 4, 5, 0] (by decide) (lv' := [(0, .ref (E.1 (71))), (1, .int (iI (w))), (2, .int (iI (n2))), (3, .int (iI (a))), (4, .int (iI (b))), (5, .int (iI (z44)))]) rfl ?_
            refine x_aload_n B dX8_beside_49 0 rfl rfl ?_
            refine x_iload_n B dX8_beside_50 3 rfl rfl ?_
            refine x_iload B dX8_beside_51 4 rfl ?_
            refine x_callV B (st := []) (av := [.int (iI (a)), .int (iI (b))]) dX8_beside_53 cs_X8_soundAlike kw_1191 ⟨rfl, rfl, Nat.le_of_ble_eq_true rfl, Nat.le_of_ble_eq_true rfl⟩ rfl rfl (Nat.le_of_ble_eq_true rfl) (rc_obj B (ci := 8) rfl rfl rfl) (c_X8_soundAlike _ E _ a b (by omega) (by omega) (by omega) (by omega)) (k_i (fun z53 M53 hz53 => ?_))
            have he : z53 = (if soB (shN M a (M 71 19)) (shN M b (M 71 19)) (M 78 6) = true then 1 else 0) := by
              have h := hz53.2
              rw [shN_of o4 (by decide) (by decide) (by decide), ofS_o o4 (by decide) (by decide), ofS_f o4 (i := 78) (by decide) (by decide)] at h
              rcases h with ⟨h5, h6⟩ | ⟨h5, h6⟩
              · rw [if_pos (soB_iff.mpr h6)]
                exact h5
              · rw [if_neg (fun q => h6 (soB_iff.mp q))]
                exact h5
            refine x_istore B dX8_beside_56 [1, 2, 3, 4, 5, 6, 0] (by decide) (lv' := [(0, .ref (E.1 (71))), (1, .int (iI (w))), (2, .int (iI (n2))), (3, .int (iI (a))), (4, .int (iI (b))), (5, .int (iI (z44))), (6, .int (iI (z53)))]) rfl ?_
            refine x_iload_n B dX8_beside_58 2 rfl rfl ?_
            refine x_iload_n B dX8_beside_59 1 rfl rfl ?_
            have J99 : ∀ (r : Int), (Is r (beB (fun s => feM M s (M 71 19)) (fun s => shN M s (M 71 19)) (M 78 6) w a b) ∧ 0 ≤ r ∧ r ≤ 1) → Vx x E M53 99 [(0, .ref (E.1 (71))), (1, .int (iI (w))), (2, .int (iI (n2))), (3, .int (iI (a))), (4, .int (iI (b))), (5, .int (iI (z44))), (6, .int (iI (z53)))] [.int (iI (r)), .int (iI (n2))] := by
              intro r hJ
              obtain ⟨k1, k2, k3⟩ := hJ
              refine x_iadd B dX8_beside_99 ?_
              refine x_istore_n B dX8_beside_100 [1, 2, 0, 3, 4, 5, 6] rfl (by decide) (lv' := [(0, .ref (E.1 (71))), (1, .int (iI (w))), (2, .int (iI (n2 + r))), (3, .int (iI (a))), (4, .int (iI (b))), (5, .int (iI (z44))), (6, .int (iI (z53)))]) rfl ?_
              refine x_iinc B (q := 4) dX8_beside_101 rfl [1, 2, 3, 4, 0, 5, 6] (by decide) (lv' := [(0, .ref (E.1 (71))), (1, .int (iI (w))), (2, .int (iI (n2 + r))), (3, .int (iI (a))), (4, .int (iI (b + 1))), (5, .int (iI (z44))), (6, .int (iI (z53)))]) rfl ?_
              refine x_goto B (tgt := 29) dX8_beside_104 (by decide) ?_
              refine x_lv [0, 1, 2, 3, 4] (lv' := [(0, .ref (E.1 (71))), (1, .int (iI (w))), (2, .int (iI (n2 + r))), (3, .int (iI (a))), (4, .int (iI (b + 1)))]) rfl ?_
              exact ih29 (n2 + r) (b + 1) M53 (⟨by omega, by omega, by omega, by omega, by rw [beI_s (by omega), ← Int.add_assoc, ← n5, ← Is_e k1], ofS_tr o4 (ofS_w hz53.1 (by decide))⟩) (by omega)
            refine x_if_ne B (tgt := 71) dX8_beside_60 (by decide) ⟨by omega, by omega⟩ (fun c60 => ?_) (fun c60 => ?_)
            · show Vx x E M53 71 [(0, .ref (E.1 (71))), (1, .int (iI (w))), (2, .int (iI (n2))), (3, .int (iI (a))), (4, .int (iI (b))), (5, .int (iI (z44))), (6, .int (iI (z53)))] [.int (iI (n2))]
              refine x_iload_n B dX8_beside_71 1 rfl rfl ?_
              refine x_iconst B dX8_beside_72 ?_
              refine x_icmp_ne B (tgt := 84) dX8_beside_73 (by decide) ⟨by omega, by omega⟩ ⟨by omega, by omega⟩ (fun c73 => ?_) (fun c73 => ?_)
              · show Vx x E M53 84 [(0, .ref (E.1 (71))), (1, .int (iI (w))), (2, .int (iI (n2))), (3, .int (iI (a))), (4, .int (iI (b))), (5, .int (iI (z44))), (6, .int (iI (z53)))] [.int (iI (n2))]
                refine x_iload B dX8_beside_84 5 rfl ?_
                refine x_if_eq B (tgt := 98) dX8_beside_86 (by decide) ⟨by omega, by omega⟩ (fun c86 => ?_) (fun c86 => ?_)
                · show Vx x E M53 98 [(0, .ref (E.1 (71))), (1, .int (iI (w))), (2, .int (iI (n2))), (3, .int (iI (a))), (4, .int (iI (b))), (5, .int (iI (z44))), (6, .int (iI (z53)))] [.int (iI (n2))]
                  refine x_iconst B dX8_beside_98 ?_
                  exact J99 0 (⟨be_r ht he (by omega), by omega, by omega⟩)
                · show Vx x E M53 89 [(0, .ref (E.1 (71))), (1, .int (iI (w))), (2, .int (iI (n2))), (3, .int (iI (a))), (4, .int (iI (b))), (5, .int (iI (z44))), (6, .int (iI (z53)))] [.int (iI (n2))]
                  refine x_iload B dX8_beside_89 6 rfl ?_
                  refine x_if_eq B (tgt := 98) dX8_beside_91 (by decide) ⟨by omega, by omega⟩ (fun c91 => ?_) (fun c91 => ?_)
                  · show Vx x E M53 98 [(0, .ref (E.1 (71))), (1, .int (iI (w))), (2, .int (iI (n2))), (3, .int (iI (a))), (4, .int (iI (b))), (5, .int (iI (z44))), (6, .int (iI (z53)))] [.int (iI (n2))]
                    refine x_iconst B dX8_beside_98 ?_
                    exact J99 0 (⟨be_r ht he (by omega), by omega, by omega⟩)
                  · show Vx x E M53 94 [(0, .ref (E.1 (71))), (1, .int (iI (w))), (2, .int (iI (n2))), (3, .int (iI (a))), (4, .int (iI (b))), (5, .int (iI (z44))), (6, .int (iI (z53)))] [.int (iI (n2))]
                    refine x_iconst B dX8_beside_94 ?_
                    refine x_goto B (tgt := 99) dX8_beside_95 (by decide) ?_
                    exact J99 1 (⟨be_r ht he (by omega), by omega, by omega⟩)
              · show Vx x E M53 76 [(0, .ref (E.1 (71))), (1, .int (iI (w))), (2, .int (iI (n2))), (3, .int (iI (a))), (4, .int (iI (b))), (5, .int (iI (z44))), (6, .int (iI (z53)))] [.int (iI (n2))]
                refine x_iload B dX8_beside_76 6 rfl ?_
                refine x_if_eq B (tgt := 98) dX8_beside_78 (by decide) ⟨by omega, by omega⟩ (fun c78 => ?_) (fun c78 => ?_)
                · show Vx x E M53 98 [(0, .ref (E.1 (71))), (1, .int (iI (w))), (2, .int (iI (n2))), (3, .int (iI (a))), (4, .int (iI (b))), (5, .int (iI (z44))), (6, .int (iI (z53)))] [.int (iI (n2))]
                  refine x_iconst B dX8_beside_98 ?_
                  exact J99 0 (⟨be_r ht he (by omega), by omega, by omega⟩)
                · show Vx x E M53 81 [(0, .ref (E.1 (71))), (1, .int (iI (w))), (2, .int (iI (n2))), (3, .int (iI (a))), (4, .int (iI (b))), (5, .int (iI (z44))), (6, .int (iI (z53)))] [.int (iI (n2))]
                  refine x_goto B (tgt := 94) dX8_beside_81 (by decide) ?_
                  refine x_iconst B dX8_beside_94 ?_
                  refine x_goto B (tgt := 99) dX8_beside_95 (by decide) ?_
                  exact J99 1 (⟨be_r ht he (by omega), by omega, by omega⟩)
            · show Vx x E M53 63 [(0, .ref (E.1 (71))), (1, .int (iI (w))), (2, .int (iI (n2))), (3, .int (iI (a))), (4, .int (iI (b))), (5, .int (iI (z44))), (6, .int (iI (z53)))] [.int (iI (n2))]
              refine x_iload B dX8_beside_63 5 rfl ?_
              refine x_if_eq B (tgt := 98) dX8_beside_65 (by decide) ⟨by omega, by omega⟩ (fun c65 => ?_) (fun c65 => ?_)
              · show Vx x E M53 98 [(0, .ref (E.1 (71))), (1, .int (iI (w))), (2, .int (iI (n2))), (3, .int (iI (a))), (4, .int (iI (b))), (5, .int (iI (z44))), (6, .int (iI (z53)))] [.int (iI (n2))]
                refine x_iconst B dX8_beside_98 ?_
                exact J99 0 (⟨be_r ht he (by omega), by omega, by omega⟩)
              · show Vx x E M53 68 [(0, .ref (E.1 (71))), (1, .int (iI (w))), (2, .int (iI (n2))), (3, .int (iI (a))), (4, .int (iI (b))), (5, .int (iI (z44))), (6, .int (iI (z53)))] [.int (iI (n2))]
                refine x_goto B (tgt := 94) dX8_beside_68 (by decide) ?_
                refine x_iconst B dX8_beside_94 ?_
                refine x_goto B (tgt := 99) dX8_beside_95 (by decide) ?_
                exact J99 1 (⟨be_r ht he (by omega), by omega, by omega⟩)
        exact L29 n (a + 1) M1 (⟨by omega, by omega, by omega, by omega, by rw [show (a + 1 - a - 1).toNat = 0 by omega]; show _ = _ + 0; omega, i6⟩)
    exact L18 0 0 M (⟨by omega, by omega, by omega, by omega, rfl, ofS_rf⟩)
  · show Vx x E M 12 [(0, .ref (E.1 (71))), (1, .int (iI (w)))] []
    refine x_iconst B dX8_beside_12 ?_
    exact r_i B R dX8_beside_13 (Or.inl ⟨rfl, rfl, by omega⟩)
/-- nothing dead, nothing tired, nothing goes round -/
def dmM (M : Mem) : Mem := sto (sto (sto M 78 5 0) 71 27 1) 71 26 1
theorem dmM_f {M : Mem} {i : Nat} (h1 : i ≠ 71) (h2 : i ≠ 78) : dmM M i = M i := by
  unfold dmM
  rw [sto_f _ _ _ _ h1, sto_f _ _ _ _ h1, sto_f _ _ _ _ h2]
theorem dmM_o {M : Mem} {j : Nat} (h1 : j ≠ 26) (h2 : j ≠ 27) : dmM M 71 j = M 71 j := by
  unfold dmM
  rw [sto_nj _ _ _ _ h1, sto_nj _ _ _ _ h2, sto_ni _ _ _ _ (by decide)]
def dnl (M : Mem) : Nat → Nat
  | 0 => 0
  | k + 1 => if M 95 k = 0 then dnl M k else dnl M k ||| 2 ^ (M 94 k).toNat
def dnP (M : Mem) (k : Nat) : Int := feM (dmM M) (M 92 k) (M 93 k) (M 94 k).toNat
def dnm (M : Mem) : Nat → Nat
  | 0 => 0
  | k + 1 => if M 95 k = 0 ∧ 0 < dnP M k then dnm M k ||| 2 ^ (M 94 k).toNat else dnm M k
theorem dnl_s {M : Mem} {k : Int} (h : 0 ≤ k) : dnl M (k + 1).toNat = if M 95 k.toNat = 0 then dnl M k.toNat else dnl M k.toNat ||| 2 ^ (M 94 k.toNat).toNat := by
  rw [show (k + 1).toNat = k.toNat + 1 by omega]
  rfl
theorem dnm_s {M : Mem} {k : Int} (h : 0 ≤ k) : dnm M (k + 1).toNat = if M 95 k.toNat = 0 ∧ 0 < dnP M k.toNat then dnm M k.toNat ||| 2 ^ (M 94 k.toNat).toNat else dnm M k.toNat := by
  rw [show (k + 1).toNat = k.toNat + 1 by omega]
  rfl
theorem or0 {a : Int} (h : 0 ≤ a) : ((a.toNat ||| (0 : Int).toNat : Nat) : Int) = a := by
  show ((_ ||| 0 : Nat) : Int) = _
  rw [Nat.or_zero]
  omega
theorem dm_back {M M1 : Mem} {z : Int} (h : ofS [81, 82, 83, 84] (dmM M) M1) (h26 : Is (M 71 26) 0) (h27 : Is (M 71 27) 0) (hz : z = M 78 5) : ofS [81, 82, 83, 84] M (sto (sto (sto M1 71 27 0) 71 26 0) 78 5 z) := by
  intro i j a b
  unfold sto
  by_cases c1 : i = 78 ∧ j = 5
  · rw [if_pos c1, hz, c1.1, c1.2]
  · rw [if_neg c1]
    by_cases c2 : i = 71 ∧ j = 26
    · rw [if_pos c2, c2.1, c2.2, Is_e h26]
    · rw [if_neg c2]
      by_cases c3 : i = 71 ∧ j = 27
      · rw [if_pos c3, c3.1, c3.2, Is_e h27]
      · rw [if_neg c3, h i j a b]
        unfold dmM sto
        rw [if_neg c2, if_neg c3, if_neg c1]
abbrev rm_X8_dead : Room := { frames := 4, cells := 0, slots := 0, locals := 101 }
theorem cs_X8_dead : Cv yX8_dead cX8_dead 6 (some .int) 0 := ⟨kw_1206, ⟨kw_1204, kw_1205⟩, kw_67, by decide, by decide, by decide +kernel⟩
set_option maxHeartbeats 4000000 in
set_option maxRecDepth 100000 in
theorem c_X8_dead (l : Launch) (E : Ev) (M : Mem)  (g1 : Is (M 71 26) 0) (g2 : Is (M 71 27) 0) : Ct l yX8_dead cX8_dead 6 (some .int) rm_X8_dead E M [.ref (E.1 (71))] (pI (fun z M' => z = ((ndf (dnm M (M 71 37).toNat) (dnl M (M 71 37).toNat) : Nat) : Int) ∧ ofS [81, 82, 83, 84] M M')) := by
  refine Ct_of (lv := [(0, .ref (E.1 (71)))]) (by decide) ⟨rfl, rfl⟩ (Nat.le_of_ble_eq_true rfl) rfl (fun x _ B R => ?_)
  refine x_wf (fun hwf0 => ?_)
  refine x_iconst B dX8_dead_0 ?_
  refine x_istore_n B dX8_dead_1 [1, 0] rfl (by decide) (lv' := [(0, .ref (E.1 (71))), (1, .int (iI (0)))]) rfl ?_
  refine x_iconst B dX8_dead_2 ?_
  refine x_istore_n B dX8_dead_3 [1, 2, 0] rfl (by decide) (lv' := [(0, .ref (E.1 (71))), (1, .int (iI (0))), (2, .int (iI (0)))]) rfl ?_
  refine x_aload_n B dX8_dead_4 0 rfl rfl ?_
  refine x_getR B (ci := 8) (k := 14) dX8_dead_5 rfl rfl rfl (by decide) inGX8 kw_819 ?_
  refine x_iconst B dX8_dead_8 ?_
  refine x_iald B (lo := 0) (hi := 1) dX8_dead_9 rfl (by omega) (by omega) rfl (fun z9 ez9 lz9 uz9 => ?_)
  have ez9 : Is z9 (M 78 5) := ez9
  refine x_istore_n B dX8_dead_10 [1, 2, 3, 0] rfl (by decide) (lv' := [(0, .ref (E.1 (71))), (1, .int (iI (0))), (2, .int (iI (0))), (3, .int (iI (z9)))]) rfl ?_
  have e9 := Is_e ez9
  refine x_aload_n B dX8_dead_11 0 rfl rfl ?_
  refine x_getR B (ci := 8) (k := 14) dX8_dead_12 rfl rfl rfl (by decide) inGX8 kw_819 ?_
  refine x_iconst B dX8_dead_15 ?_
  refine x_iconst B dX8_dead_16 ?_
  refine x_iast B (lo := 0) (hi := 1) dX8_dead_17 rfl (by omega) (by omega) rfl (by omega) (by omega) ?_
  refine x_aload_n B dX8_dead_18 0 rfl rfl ?_
  refine x_iconst B dX8_dead_19 ?_
  refine x_put B (ci := 8) (k := 27) (lo := 0) (hi := 1) (ty := .boolean) dX8_dead_20 rfl rfl rfl (by decide) inGX8 tyX8_ok nmX8 kw_832 rfl (by decide +kernel) (nar_z (by omega) (by omega)) (fit_z (by omega) (by omega)) rfl (by omega) (by omega) ?_
  refine x_aload_n B dX8_dead_23 0 rfl rfl ?_
  refine x_iconst B dX8_dead_24 ?_
  refine x_put B (ci := 8) (k := 26) (lo := 0) (hi := 1) (ty := .boolean) dX8_dead_25 rfl rfl rfl (by decide) inGX8 tyX8_ok nmX8 kw_831 rfl (by decide +kernel) (nar_z (by omega) (by omega)) (fit_z (by omega) (by omega)) rfl (by omega) (by omega) ?_
  show Vx x E (dmM M) _ _ _
  refine x_iconst B dX8_dead_28 ?_
  refine x_istore B dX8_dead_29 [1, 2, 3, 4, 0] (by decide) (lv' := [(0, .ref (E.1 (71))), (1, .int (iI (0))), (2, .int (iI (0))), (3, .int (iI (z9))), (4, .int (iI (0)))]) rfl ?_
  have L31 : ∀ (mb : Int) (nt : Int) (k : Int) (M1 : Mem), (0 ≤ k ∧ k ≤ M 71 37 ∧ ofS [81, 82, 83, 84] (dmM M) M1 ∧ 0 ≤ nt ∧ nt ≤ 65535 ∧ 0 ≤ mb ∧ mb ≤ 65535 ∧ Is nt ((dnl M k.toNat : Nat) : Int) ∧ Is mb ((dnm M k.toNat : Nat) : Int)) → Vx x E M1 31 [(0, .ref (E.1 (71))), (1, .int (iI (mb))), (2, .int (iI (nt))), (3, .int (iI (z9))), (4, .int (iI (k)))] [] := by
    refine lo4 _ _ (fun mb nt k M1 => (M 71 37 - k).toNat) ?_
    intro mb nt k M1 hI ih31
    obtain ⟨i1, i2, i3, i4, i5, i6, i7, i8, i9⟩ := hI
    refine x_iload B dX8_dead_31 4 rfl ?_
    refine x_aload_n B dX8_dead_33 0 rfl rfl ?_
    refine x_getI B (ci := 8) (k := 37) (lo := 0) (hi := 12) dX8_dead_34 rfl rfl rfl (by decide) inGX8 kw_842 rfl (fun z34 ez34 lz34 uz34 => ?_)
    have e34 : z34 = M 71 37 := by rw [Is_e ez34, ofS_o i3 (by decide) (by decide), dmM_o (by decide) (by decide)]
    refine x_icmp_ge B (tgt := 128) dX8_dead_37 (by decide) ⟨by omega, by omega⟩ ⟨by omega, by omega⟩ (fun c37 => ?_) (fun c37 => ?_)
    · show Vx x E M1 128 [(0, .ref (E.1 (71))), (1, .int (iI (mb))), (2, .int (iI (nt))), (3, .int (iI (z9))), (4, .int (iI (k)))] []
      refine x_aload_n B dX8_dead_128 0 rfl rfl ?_
      refine x_iconst B dX8_dead_129 ?_
      refine x_put B (ci := 8) (k := 27) (lo := 0) (hi := 1) (ty := .boolean) dX8_dead_130 rfl rfl rfl (by decide) inGX8 tyX8_ok nmX8 kw_832 rfl (by decide +kernel) (nar_z (by omega) (by omega)) (fit_z (by omega) (by omega)) rfl (by omega) (by omega) ?_
      refine x_aload_n B dX8_dead_133 0 rfl rfl ?_
      refine x_iconst B dX8_dead_134 ?_
      refine x_put B (ci := 8) (k := 26) (lo := 0) (hi := 1) (ty := .boolean) dX8_dead_135 rfl rfl rfl (by decide) inGX8 tyX8_ok nmX8 kw_831 rfl (by decide +kernel) (nar_z (by omega) (by omega)) (fit_z (by omega) (by omega)) rfl (by omega) (by omega) ?_
      refine x_aload_n B dX8_dead_138 0 rfl rfl ?_
      refine x_getR B (ci := 8) (k := 14) dX8_dead_139 rfl rfl rfl (by decide) inGX8 kw_819 ?_
      refine x_iconst B dX8_dead_142 ?_
      refine x_iload_n B dX8_dead_143 3 rfl rfl ?_
      refine x_iast B (lo := 0) (hi := 1) dX8_dead_144 rfl (by omega) (by omega) rfl (by omega) (by omega) ?_
      refine x_iload_n B dX8_dead_145 1 rfl rfl ?_
      refine x_iload_n B dX8_dead_146 2 rfl rfl ?_
      refine x_iconst B dX8_dead_147 ?_
      refine x_inot B dX8_dead_148 ?_
      refine x_iandn B dX8_dead_149 (by omega) (by omega) ?_
      exact r_i B R dX8_dead_150 (⟨by rw [Is_e i8, Is_e i9, Int.toNat_natCast, Int.toNat_natCast, show k.toNat = (M 71 37).toNat by omega], dm_back i3 g1 g2 e9⟩)
    · show Vx x E M1 40 [(0, .ref (E.1 (71))), (1, .int (iI (mb))), (2, .int (iI (nt))), (3, .int (iI (z9))), (4, .int (iI (k)))] []
      refine x_iconst B dX8_dead_40 ?_
      refine x_aload_n B dX8_dead_41 0 rfl rfl ?_
      refine x_getR B (ci := 8) (k := 40) dX8_dead_42 rfl rfl rfl (by decide) inGX8 kw_845 ?_
      refine x_iload B dX8_dead_45 4 rfl ?_
      refine x_iald B (lo := 0) (hi := 15) dX8_dead_47 rfl (by omega) (by omega) rfl (fun z47 ez47 lz47 uz47 => ?_)
      have e47 : z47 = M 94 k.toNat := by rw [Is_e ez47, ofS_f i3 (i := 94) (by decide) (by decide), dmM_f (by decide) (by decide)]
      refine x_shl1 B dX8_dead_48 (by omega) (by omega) ?_
      refine x_istore B dX8_dead_49 [1, 2, 3, 4, 5, 0] (by decide) (lv' := [(0, .ref (E.1 (71))), (1, .int (iI (mb))), (2, .int (iI (nt))), (3, .int (iI (z9))), (4, .int (iI (k))), (5, .int (iI (((2 ^ (z47).toNat : Nat) : Int))))]) rfl ?_
      refine x_aload_n B dX8_dead_51 0 rfl rfl ?_
      refine x_aload_n B dX8_dead_52 0 rfl rfl ?_
      refine x_getR B (ci := 8) (k := 38) dX8_dead_53 rfl rfl rfl (by decide) inGX8 kw_843 ?_
      refine x_iload B dX8_dead_56 4 rfl ?_
      refine x_iald B (lo := 0) (hi := 5) dX8_dead_58 rfl (by omega) (by omega) rfl (fun z58 ez58 lz58 uz58 => ?_)
      have e58 : z58 = M 92 k.toNat := by rw [Is_e ez58, ofS_f i3 (i := 92) (by decide) (by decide), dmM_f (by decide) (by decide)]
      refine x_aload_n B dX8_dead_59 0 rfl rfl ?_
      refine x_getR B (ci := 8) (k := 39) dX8_dead_60 rfl rfl rfl (by decide) inGX8 kw_844 ?_
      refine x_iload B dX8_dead_63 4 rfl ?_
      refine x_iald B (lo := 0) (hi := 25) dX8_dead_65 rfl (by omega) (by omega) rfl (fun z65 ez65 lz65 uz65 => ?_)
      have e65 : z65 = M 93 k.toNat := by rw [Is_e ez65, ofS_f i3 (i := 93) (by decide) (by decide), dmM_f (by decide) (by decide)]
      refine x_callV B (st := []) (av := [.int (iI (z58)), .int (iI (z65))]) dX8_dead_66 cs_X8_layFelt kw_1042 ⟨rfl, rfl, Nat.le_of_ble_eq_true rfl, Nat.le_of_ble_eq_true rfl⟩ rfl rfl (Nat.le_of_ble_eq_true rfl) (rc_obj B (ci := 8) rfl rfl rfl) (c_X8_layFelt _ E _ z58 z65 (by omega) (by omega) (by omega) (by omega)) (k_v (fun M66 hz66 => ?_))
      refine x_iload_n B dX8_dead_69 2 rfl rfl ?_
      refine x_aload_n B dX8_dead_70 0 rfl rfl ?_
      refine x_getR B (ci := 8) (k := 41) dX8_dead_71 rfl rfl rfl (by decide) inGX8 kw_846 ?_
      refine x_iload B dX8_dead_74 4 rfl ?_
      refine x_zald B (lo := 0) (hi := 1) dX8_dead_76 rfl (by omega) (by omega) rfl (fun z76 ez76 lz76 uz76 => ?_)
      have e76 : z76 = M 95 k.toNat := by rw [Is_e ez76, ofS_f hz66.1 (i := 95) (by decide) (by decide), ofS_f i3 (i := 95) (by decide) (by decide), dmM_f (by decide) (by decide)]
      have J86 : ∀ (b : Int), (0 ≤ b ∧ b ≤ 65535 ∧ Is ((nt.toNat ||| b.toNat : Nat) : Int) ((dnl M (k + 1).toNat : Nat) : Int)) → Vx x E M66 86 [(0, .ref (E.1 (71))), (1, .int (iI (mb))), (2, .int (iI (nt))), (3, .int (iI (z9))), (4, .int (iI (k))), (5, .int (iI (((2 ^ (z47).toNat : Nat) : Int))))] [.int (iI (b)), .int (iI (nt))] := by
        intro b hJ
        obtain ⟨b1, b2, b3⟩ := hJ
        refine x_ior B dX8_dead_86 (by omega) (by omega) ?_
        refine x_istore_n B dX8_dead_87 [1, 2, 0, 3, 4, 5] rfl (by decide) (lv' := [(0, .ref (E.1 (71))), (1, .int (iI (mb))), (2, .int (iI ((((nt).toNat ||| (b).toNat : Nat) : Int)))), (3, .int (iI (z9))), (4, .int (iI (k))), (5, .int (iI (((2 ^ (z47).toNat : Nat) : Int))))]) rfl ?_
        refine x_iload_n B dX8_dead_88 1 rfl rfl ?_
        refine x_aload_n B dX8_dead_89 0 rfl rfl ?_
        refine x_getR B (ci := 8) (k := 41) dX8_dead_90 rfl rfl rfl (by decide) inGX8 kw_846 ?_
        refine x_iload B dX8_dead_93 4 rfl ?_
        refine x_zald B (lo := 0) (hi := 1) dX8_dead_95 rfl (by omega) (by omega) rfl (fun z95 ez95 lz95 uz95 => ?_)
        have e95 : z95 = M 95 k.toNat := by rw [Is_e ez95, ofS_f hz66.1 (i := 95) (by decide) (by decide), ofS_f i3 (i := 95) (by decide) (by decide), dmM_f (by decide) (by decide)]
        have J120 : ∀ (d : Int), (0 ≤ d ∧ d ≤ 65535 ∧ Is ((mb.toNat ||| d.toNat : Nat) : Int) ((dnm M (k + 1).toNat : Nat) : Int)) → Vx x E M66 120 [(0, .ref (E.1 (71))), (1, .int (iI (mb))), (2, .int (iI ((((nt).toNat ||| (b).toNat : Nat) : Int)))), (3, .int (iI (z9))), (4, .int (iI (k))), (5, .int (iI (((2 ^ (z47).toNat : Nat) : Int))))] [.int (iI (d)), .int (iI (mb))] := by
          intro d hJ
          obtain ⟨d1, d2, d3⟩ := hJ
          refine x_ior B dX8_dead_120 (by omega) (by omega) ?_
          refine x_istore_n B dX8_dead_121 [1, 0, 2, 3, 4, 5] rfl (by decide) (lv' := [(0, .ref (E.1 (71))), (1, .int (iI ((((mb).toNat ||| (d).toNat : Nat) : Int)))), (2, .int (iI ((((nt).toNat ||| (b).toNat : Nat) : Int)))), (3, .int (iI (z9))), (4, .int (iI (k))), (5, .int (iI (((2 ^ (z47).toNat : Nat) : Int))))]) rfl ?_
          refine x_iinc B (q := 4) dX8_dead_122 rfl [1, 2, 3, 4, 0, 5] (by decide) (lv' := [(0, .ref (E.1 (71))), (1, .int (iI ((((mb).toNat ||| (d).toNat : Nat) : Int)))), (2, .int (iI ((((nt).toNat ||| (b).toNat : Nat) : Int)))), (3, .int (iI (z9))), (4, .int (iI (k + 1))), (5, .int (iI (((2 ^ (z47).toNat : Nat) : Int))))]) rfl ?_
          refine x_goto B (tgt := 31) dX8_dead_125 (by decide) ?_
          refine x_lv [0, 1, 2, 3, 4] (lv' := [(0, .ref (E.1 (71))), (1, .int (iI ((((mb).toNat ||| (d).toNat : Nat) : Int)))), (2, .int (iI ((((nt).toNat ||| (b).toNat : Nat) : Int)))), (3, .int (iI (z9))), (4, .int (iI (k + 1)))]) rfl ?_
          exact ih31 (((mb).toNat ||| (d).toNat : Nat) : Int) (((nt).toNat ||| (b).toNat : Nat) : Int) (k + 1) M66 (⟨by omega, by omega, ofS_tr i3 hz66.1, (or16b (a := nt) (b := b) (by omega) (by omega)).1, (or16b (a := nt) (b := b) (by omega) (by omega)).2, (or16b (a := mb) (b := d) (by omega) (by omega)).1, (or16b (a := mb) (b := d) (by omega) (by omega)).2, b3, d3⟩) (by omega)
        refine x_if_ne B (tgt := 119) dX8_dead_96 (by decide) ⟨by omega, by omega⟩ (fun c96 => ?_) (fun c96 => ?_)
        · show Vx x E M66 119 [(0, .ref (E.1 (71))), (1, .int (iI (mb))), (2, .int (iI ((((nt).toNat ||| (b).toNat : Nat) : Int)))), (3, .int (iI (z9))), (4, .int (iI (k))), (5, .int (iI (((2 ^ (z47).toNat : Nat) : Int))))] [.int (iI (mb))]
          refine x_iconst B dX8_dead_119 ?_
          exact J120 0 (⟨by omega, by omega, by show _ = _; rw [dnm_s i1, if_neg (fun h => c96 (by rw [e95]; exact h.1)), or0 i6]; exact Is_e i9⟩)
        · show Vx x E M66 99 [(0, .ref (E.1 (71))), (1, .int (iI (mb))), (2, .int (iI ((((nt).toNat ||| (b).toNat : Nat) : Int)))), (3, .int (iI (z9))), (4, .int (iI (k))), (5, .int (iI (((2 ^ (z47).toNat : Nat) : Int))))] [.int (iI (mb))]
          refine x_aload_n B dX8_dead_99 0 rfl rfl ?_
          refine x_getR B (ci := 8) (k := 23) dX8_dead_100 rfl rfl rfl (by decide) inGX8 kw_828 ?_
          refine x_aload_n B dX8_dead_103 0 rfl rfl ?_
          refine x_getR B (ci := 8) (k := 40) dX8_dead_104 rfl rfl rfl (by decide) inGX8 kw_845 ?_
          refine x_iload B dX8_dead_107 4 rfl ?_
          refine x_iald B (lo := 0) (hi := 15) dX8_dead_109 rfl (by omega) (by omega) rfl (fun z109 ez109 lz109 uz109 => ?_)
          have e109 : z109 = M 94 k.toNat := by rw [Is_e ez109, ofS_f hz66.1 (i := 94) (by decide) (by decide), ofS_f i3 (i := 94) (by decide) (by decide), dmM_f (by decide) (by decide)]
          refine x_iald B (lo := 0) (hi := 9) dX8_dead_110 rfl (by omega) (by omega) rfl (fun z110 ez110 lz110 uz110 => ?_)
          have e110 : z110 = dnP M k.toNat := by
            rw [Is_e ez110, hz66.2.2.2.1 _ (by omega), e109, e58, e65]
            show feM M1 _ _ _ = _
            rw [feM_of i3 (by decide) (by decide) (by decide) (by decide)]
            rfl
          refine x_if_le B (tgt := 119) dX8_dead_111 (by decide) ⟨by omega, by omega⟩ (fun c111 => ?_) (fun c111 => ?_)
          · show Vx x E M66 119 [(0, .ref (E.1 (71))), (1, .int (iI (mb))), (2, .int (iI ((((nt).toNat ||| (b).toNat : Nat) : Int)))), (3, .int (iI (z9))), (4, .int (iI (k))), (5, .int (iI (((2 ^ (z47).toNat : Nat) : Int))))] [.int (iI (mb))]
            refine x_iconst B dX8_dead_119 ?_
            exact J120 0 (⟨by omega, by omega, by show _ = _; rw [dnm_s i1, if_neg (fun h => by have h2 := h.2; rw [← e110] at h2; omega), or0 i6]; exact Is_e i9⟩)
          · show Vx x E M66 114 [(0, .ref (E.1 (71))), (1, .int (iI (mb))), (2, .int (iI ((((nt).toNat ||| (b).toNat : Nat) : Int)))), (3, .int (iI (z9))), (4, .int (iI (k))), (5, .int (iI (((2 ^ (z47).toNat : Nat) : Int))))] [.int (iI (mb))]
            refine x_iload B dX8_dead_114 5 rfl ?_
            refine x_goto B (tgt := 120) dX8_dead_116 (by decide) ?_
            exact J120 ((2 ^ (z47).toNat : Nat) : Int) (⟨(pow16 (k := z47) (by omega)).1, (pow16 (k := z47) (by omega)).2, by show _ = _; rw [dnm_s i1, if_pos ⟨by rw [← e95]; omega, by rw [← e110]; omega⟩, Is_e i9, Int.toNat_natCast, Int.toNat_natCast, e47]⟩)
      refine x_if_eq B (tgt := 85) dX8_dead_77 (by decide) ⟨by omega, by omega⟩ (fun c77 => ?_) (fun c77 => ?_)
      · show Vx x E M66 85 [(0, .ref (E.1 (71))), (1, .int (iI (mb))), (2, .int (iI (nt))), (3, .int (iI (z9))), (4, .int (iI (k))), (5, .int (iI (((2 ^ (z47).toNat : Nat) : Int))))] [.int (iI (nt))]
        refine x_iconst B dX8_dead_85 ?_
        exact J86 0 (⟨by omega, by omega, by show _ = _; rw [dnl_s i1, if_pos (by rw [← e76]; exact c77), or0 i4]; exact Is_e i8⟩)
      · show Vx x E M66 80 [(0, .ref (E.1 (71))), (1, .int (iI (mb))), (2, .int (iI (nt))), (3, .int (iI (z9))), (4, .int (iI (k))), (5, .int (iI (((2 ^ (z47).toNat : Nat) : Int))))] [.int (iI (nt))]
        refine x_iload B dX8_dead_80 5 rfl ?_
        refine x_goto B (tgt := 86) dX8_dead_82 (by decide) ?_
        exact J86 ((2 ^ (z47).toNat : Nat) : Int) (⟨(pow16 (k := z47) (by omega)).1, (pow16 (k := z47) (by omega)).2, by show _ = _; rw [dnl_s i1, if_neg (by rw [← e76]; exact c77), Is_e i8, Int.toNat_natCast, Int.toNat_natCast, e47]⟩)
  exact L31 0 0 0 (dmM M) (⟨by omega, by have h := (hwf0 71 37).1; exact h, ofS_rf, by omega, by omega, by omega, by omega, rfl, rfl⟩)
abbrev rm_X8_asks : Room := { frames := 2, cells := 0, slots := 0, locals := 45 }
theorem cs_X8_asks : Cv yX8_asks cX8_asks 7 (some .int) 2 := ⟨kw_1178, ⟨kw_1176, kw_1177⟩, kw_67, by decide, by decide, by decide +kernel⟩
set_option maxHeartbeats 4000000 in
set_option maxRecDepth 100000 in
theorem c_X8_asks (l : Launch) (E : Ev) (M : Mem) (p n : Int) (g1 : -2147483648 ≤ p) (g2 : p < 2147483648) (g3 : -2147483648 ≤ n) (g4 : n < 2147483648) : Ct l yX8_asks cX8_asks 7 (some .int) rm_X8_asks E M [.ref (E.1 (71)), .int (iI (p)), .int (iI (n))] (pI (fun z M' => M = M' ∧ (z = -1 ∧ ¬ (0 ≤ p ∧ p < 16 ∧ 2 ≤ n ∧ n ≤ 9 ∧ mL M p.toNat ≤ n) ∨ (0 ≤ p ∧ p < 16 ∧ 2 ≤ n ∧ n ≤ 9 ∧ mL M p.toNat ≤ n) ∧ z = asF (mL M p.toNat) 9 1 n))) := by
  refine Ct_of (lv := [(0, .ref (E.1 (71))), (1, .int (iI (p))), (2, .int (iI (n)))]) (by decide) ⟨rfl, rfl⟩ (Nat.le_of_ble_eq_true rfl) rfl (fun x _ B R => ?_)
  refine x_iload_n B dX8_asks_0 1 rfl rfl ?_
  refine x_callS B (st := []) (av := [.int (iI (p))]) dX8_asks_1 cs_X8_isPoint kw_1037 ⟨rfl, rfl, Nat.le_of_ble_eq_true rfl, Nat.le_of_ble_eq_true rfl⟩ rfl rfl (Nat.le_of_ble_eq_true rfl) (c_X8_isPoint _ E _ p (by omega) (by omega)) (k_i (fun z1 Mq hz1 => ?_))
  obtain ⟨rfl, hz1⟩ := hz1
  refine x_if_eq B (tgt := 34) dX8_asks_4 (by decide) ⟨by omega, by omega⟩ (fun c4 => ?_) (fun c4 => ?_)
  · show Vx x E M 34 [(0, .ref (E.1 (71))), (1, .int (iI (p))), (2, .int (iI (n)))] []
    refine x_iconst B dX8_asks_34 ?_
    exact r_i B R dX8_asks_35 (⟨rfl, Or.inl ⟨rfl, by omega⟩⟩)
  · show Vx x E M 7 [(0, .ref (E.1 (71))), (1, .int (iI (p))), (2, .int (iI (n)))] []
    refine x_iload_n B dX8_asks_7 2 rfl rfl ?_
    refine x_i2l B dX8_asks_8 ⟨by omega, by omega⟩ ?_
    refine x_ldc2 B (z := 2) dX8_asks_9 kw_1076 rfl ?_
    refine x_ldc2 B (z := 9) dX8_asks_12 kw_1011 rfl ?_
    refine x_callS B (st := []) (av := [.long (iL (n)), .long (iL (2)), .long (iL (9))]) dX8_asks_15 cs_X8_in kw_952 ⟨rfl, rfl, Nat.le_of_ble_eq_true rfl, Nat.le_of_ble_eq_true rfl⟩ rfl rfl (Nat.le_of_ble_eq_true rfl) (c_X8_in _ E _ n 2 9 (by omega) (by omega) (by omega) (by omega) (by omega) (by omega)) (k_i (fun z15 Mq hz15 => ?_))
    obtain ⟨rfl, hz15⟩ := hz15
    refine x_if_eq B (tgt := 34) dX8_asks_18 (by decide) ⟨by omega, by omega⟩ (fun c18 => ?_) (fun c18 => ?_)
    · show Vx x E M 34 [(0, .ref (E.1 (71))), (1, .int (iI (p))), (2, .int (iI (n)))] []
      refine x_iconst B dX8_asks_34 ?_
      exact r_i B R dX8_asks_35 (⟨rfl, Or.inl ⟨rfl, by omega⟩⟩)
    · show Vx x E M 21 [(0, .ref (E.1 (71))), (1, .int (iI (p))), (2, .int (iI (n)))] []
      refine x_aload_n B dX8_asks_21 0 rfl rfl ?_
      refine x_getR B (ci := 8) (k := 14) dX8_asks_22 rfl rfl rfl (by decide) inGX8 kw_819 ?_
      refine x_bipush B dX8_asks_25 rfl ?_
      refine x_iload_n B dX8_asks_27 1 rfl rfl ?_
      refine x_iadd B dX8_asks_28 ?_
      refine x_iald B (lo := 1) (hi := 9) dX8_asks_29 rfl (by omega) (by omega) (rH_l (by omega) (by omega)) (fun z29 ez29 lz29 uz29 => ?_)
      have e29 : Is z29 (mL M p.toNat) := by
        show _ = M 78 (12 + p.toNat)
        rw [Is_e ez29, show (12 + p).toNat = 12 + p.toNat by omega]
      refine x_iload_n B dX8_asks_30 2 rfl rfl ?_
      refine x_icmp_le B (tgt := 36) dX8_asks_31 (by decide) ⟨by omega, by omega⟩ ⟨by omega, by omega⟩ (fun c31 => ?_) (fun c31 => ?_)
      · show Vx x E M 36 [(0, .ref (E.1 (71))), (1, .int (iI (p))), (2, .int (iI (n)))] []
        refine x_iconst B dX8_asks_36 ?_
        refine x_istore_n B dX8_asks_37 [1, 2, 3, 0] rfl (by decide) (lv' := [(0, .ref (E.1 (71))), (1, .int (iI (p))), (2, .int (iI (n))), (3, .int (iI (1)))]) rfl ?_
        refine x_iload_n B dX8_asks_38 2 rfl rfl ?_
        refine x_istore B dX8_asks_39 [1, 2, 3, 4, 0] (by decide) (lv' := [(0, .ref (E.1 (71))), (1, .int (iI (p))), (2, .int (iI (n))), (3, .int (iI (1))), (4, .int (iI (n)))]) rfl ?_
        refine x_iconst B dX8_asks_41 ?_
        refine x_istore B dX8_asks_42 [1, 2, 3, 4, 5, 0] (by decide) (lv' := [(0, .ref (E.1 (71))), (1, .int (iI (p))), (2, .int (iI (n))), (3, .int (iI (1))), (4, .int (iI (n))), (5, .int (iI (0)))]) rfl ?_
        have L44 : ∀ (lo : Int) (hi : Int) (q : Int), (1 ≤ lo ∧ lo ≤ hi ∧ hi ≤ 9 ∧ 0 ≤ q ∧ q + (hi - lo) ≤ 8 ∧ Is (q + asF (mL M p.toNat) 9 lo hi) (asF (mL M p.toNat) 9 1 n)) → Vx x E M 44 [(0, .ref (E.1 (71))), (1, .int (iI (p))), (2, .int (iI (n))), (3, .int (iI (lo))), (4, .int (iI (hi))), (5, .int (iI (q)))] [] := by
          refine lo3 _ _ (fun lo hi q => (hi - lo).toNat) ?_
          intro lo hi q hI ih44
          obtain ⟨i1, i2, i3, i4, i5, i6⟩ := hI
          refine x_iload_n B dX8_asks_44 3 rfl rfl ?_
          refine x_iload B dX8_asks_45 4 rfl ?_
          refine x_icmp_ge B (tgt := 90) dX8_asks_47 (by decide) ⟨by omega, by omega⟩ ⟨by omega, by omega⟩ (fun c47 => ?_) (fun c47 => ?_)
          · show Vx x E M 90 [(0, .ref (E.1 (71))), (1, .int (iI (p))), (2, .int (iI (n))), (3, .int (iI (lo))), (4, .int (iI (hi))), (5, .int (iI (q)))] []
            refine x_iload B dX8_asks_90 5 rfl ?_
            exact r_i B R dX8_asks_92 (⟨rfl, Or.inr ⟨by rw [← Is_e e29]; omega, by rw [← Is_e i6, asF_done (by omega)]; omega⟩⟩)
          · show Vx x E M 50 [(0, .ref (E.1 (71))), (1, .int (iI (p))), (2, .int (iI (n))), (3, .int (iI (lo))), (4, .int (iI (hi))), (5, .int (iI (q)))] []
            refine x_iload_n B dX8_asks_50 3 rfl rfl ?_
            refine x_iload B dX8_asks_51 4 rfl ?_
            refine x_iadd B dX8_asks_53 ?_
            refine x_iconst B dX8_asks_54 ?_
            refine x_idiv B dX8_asks_55 ⟨by omega, by omega⟩ (by omega) ⟨by omega, by omega⟩ (by omega) ?_
            refine x_istore B dX8_asks_56 [1, 2, 3, 4, 5, 6, 0] (by decide) (lv' := [(0, .ref (E.1 (71))), (1, .int (iI (p))), (2, .int (iI (n))), (3, .int (iI (lo))), (4, .int (iI (hi))), (5, .int (iI (q))), (6, .int (iI ((lo + hi) / 2)))]) rfl ?_
            refine x_iinc B (q := 5) dX8_asks_58 rfl [1, 2, 3, 4, 5, 0, 6] (by decide) (lv' := [(0, .ref (E.1 (71))), (1, .int (iI (p))), (2, .int (iI (n))), (3, .int (iI (lo))), (4, .int (iI (hi))), (5, .int (iI (q + 1))), (6, .int (iI ((lo + hi) / 2)))]) rfl ?_
            refine x_iload B dX8_asks_61 6 rfl ?_
            refine x_aload_n B dX8_asks_63 0 rfl rfl ?_
            refine x_getR B (ci := 8) (k := 14) dX8_asks_64 rfl rfl rfl (by decide) inGX8 kw_819 ?_
            refine x_bipush B dX8_asks_67 rfl ?_
            refine x_iload_n B dX8_asks_69 1 rfl rfl ?_
            refine x_iadd B dX8_asks_70 ?_
            refine x_iald B (lo := 1) (hi := 9) dX8_asks_71 rfl (by omega) (by omega) (rH_l (by omega) (by omega)) (fun z71 ez71 lz71 uz71 => ?_)
            have e71 : Is z71 (mL M p.toNat) := by
              show _ = M 78 (12 + p.toNat)
              rw [Is_e ez71, show (12 + p).toNat = 12 + p.toNat by omega]
            refine x_icmp_lt B (tgt := 82) dX8_asks_72 (by decide) ⟨by omega, by omega⟩ ⟨by omega, by omega⟩ (fun c72 => ?_) (fun c72 => ?_)
            · show Vx x E M 82 [(0, .ref (E.1 (71))), (1, .int (iI (p))), (2, .int (iI (n))), (3, .int (iI (lo))), (4, .int (iI (hi))), (5, .int (iI (q + 1))), (6, .int (iI ((lo + hi) / 2)))] []
              refine x_iload B dX8_asks_82 6 rfl ?_
              refine x_iconst B dX8_asks_84 ?_
              refine x_iadd B dX8_asks_85 ?_
              refine x_istore_n B dX8_asks_86 [1, 2, 3, 0, 4, 5, 6] rfl (by decide) (lv' := [(0, .ref (E.1 (71))), (1, .int (iI (p))), (2, .int (iI (n))), (3, .int (iI (((lo + hi) / 2) + 1))), (4, .int (iI (hi))), (5, .int (iI (q + 1))), (6, .int (iI ((lo + hi) / 2)))]) rfl ?_
              refine x_goto B (tgt := 44) dX8_asks_87 (by decide) ?_
              refine x_lv [0, 1, 2, 3, 4, 5] (lv' := [(0, .ref (E.1 (71))), (1, .int (iI (p))), (2, .int (iI (n))), (3, .int (iI (((lo + hi) / 2) + 1))), (4, .int (iI (hi))), (5, .int (iI (q + 1)))]) rfl ?_
              exact ih44 (((lo + hi) / 2) + 1) hi (q + 1) (⟨by omega, by omega, by omega, by omega, by omega, by show _ = _; rw [← Is_e i6, asF_9 (lo := lo) (hi := hi) (by omega) (by omega), if_neg (by rw [← Is_e e71]; omega)]; omega⟩) (by omega)
            · show Vx x E M 75 [(0, .ref (E.1 (71))), (1, .int (iI (p))), (2, .int (iI (n))), (3, .int (iI (lo))), (4, .int (iI (hi))), (5, .int (iI (q + 1))), (6, .int (iI ((lo + hi) / 2)))] []
              refine x_iload B dX8_asks_75 6 rfl ?_
              refine x_istore B dX8_asks_77 [1, 2, 3, 4, 0, 5, 6] (by decide) (lv' := [(0, .ref (E.1 (71))), (1, .int (iI (p))), (2, .int (iI (n))), (3, .int (iI (lo))), (4, .int (iI ((lo + hi) / 2))), (5, .int (iI (q + 1))), (6, .int (iI ((lo + hi) / 2)))]) rfl ?_
              refine x_goto B (tgt := 87) dX8_asks_79 (by decide) ?_
              refine x_goto B (tgt := 44) dX8_asks_87 (by decide) ?_
              refine x_lv [0, 1, 2, 3, 4, 5] (lv' := [(0, .ref (E.1 (71))), (1, .int (iI (p))), (2, .int (iI (n))), (3, .int (iI (lo))), (4, .int (iI ((lo + hi) / 2))), (5, .int (iI (q + 1)))]) rfl ?_
              exact ih44 lo ((lo + hi) / 2) (q + 1) (⟨by omega, by omega, by omega, by omega, by omega, by show _ = _; rw [← Is_e i6, asF_9 (lo := lo) (hi := hi) (by omega) (by omega), if_pos (by rw [← Is_e e71]; omega)]; omega⟩) (by omega)
        exact L44 1 n 0 (⟨by omega, by omega, by omega, by omega, by omega, by show _ = _; omega⟩)
      · show Vx x E M 34 [(0, .ref (E.1 (71))), (1, .int (iI (p))), (2, .int (iI (n)))] []
        refine x_iconst B dX8_asks_34 ?_
        exact r_i B R dX8_asks_35 (⟨rfl, Or.inl ⟨rfl, by rw [← Is_e e29]; omega⟩⟩)
def fiR (M : Mem) (c : Nat) (lo n v : Int) : Mem := fun a b => if a = c ∧ lo ≤ (b : Int) ∧ (b : Int) < lo + n then v else M a b
theorem fiR_0 {M : Mem} {c : Nat} {lo v : Int} : M = fiR M c lo 0 v := by
  funext a b
  unfold fiR
  rw [if_neg (by omega)]
theorem fiR_s {M : Mem} {c : Nat} {lo n v : Int} (h0 : 0 ≤ lo) (h1 : 0 ≤ n) : sto (fiR M c lo n v) c (lo + n).toNat v = fiR M c lo (n + 1) v := by
  funext a b
  unfold sto fiR
  by_cases h : a = c ∧ b = (lo + n).toNat
  · rw [if_pos h, if_pos ⟨h.1, by omega, by omega⟩]
  · rw [if_neg h]
    by_cases h2 : a = c ∧ lo ≤ (b : Int) ∧ (b : Int) < lo + n
    · rw [if_pos h2, if_pos ⟨h2.1, by omega, by omega⟩]
    · rw [if_neg h2, if_neg (fun q => by obtain ⟨q1, q2, q3⟩ := q; by_cases e : (b : Int) < lo + n; exact h2 ⟨q1, q2, e⟩; exact h ⟨q1, by omega⟩)]
/-- a sheet's size in the reference: less than none where there is none -/
def mSz (M : Mem) (k : Nat) : Int := if M 96 k = -4 then -1 else M 97 k
def mCe (M : Mem) (k : Int) (j : Nat) : Int := M 98 (64 * k + (j : Int)).toNat
theorem mSz_le {M : Mem} (hw : wf M) (k : Nat) : mSz M k ≤ 64 := by
  have h : M 97 k ≤ 64 := (hw 97 k).2
  unfold mSz
  split <;> omega
def rdN (M : Mem) (s0 n t f : Int) (ce : Nat → Int) : Mem := fun a b => if a = 80 ∧ s0 ≤ (b : Int) ∧ (b : Int) < s0 + n then (if (b : Int) - s0 < t then ce (f + ((b : Int) - s0)).toNat else 0) else M a b
theorem rdN_0 {M : Mem} {s0 t f : Int} {ce : Nat → Int} : M = rdN M s0 0 t f ce := by
  funext a b
  unfold rdN
  rw [if_neg (by omega)]
theorem rdN_s {M : Mem} {s0 i t f v : Int} {ce : Nat → Int} (h0 : 0 ≤ s0) (hi : 0 ≤ i) (hv : v = if i < t then ce (f + i).toNat else 0) : sto (rdN M s0 i t f ce) 80 (s0 + i).toNat v = rdN M s0 (i + 1) t f ce := by
  funext a b
  unfold sto rdN
  by_cases h : a = 80 ∧ b = (s0 + i).toNat
  · rw [if_pos h, if_pos ⟨h.1, by omega, by omega⟩, show (b : Int) - s0 = i by omega, hv]
  · rw [if_neg h]
    by_cases h2 : a = 80 ∧ s0 ≤ (b : Int) ∧ (b : Int) < s0 + i
    · rw [if_pos h2, if_pos (show a = 80 ∧ s0 ≤ (b : Int) ∧ (b : Int) < s0 + (i + 1) from ⟨h2.1, h2.2.1, by omega⟩)]
    · rw [if_neg h2, if_neg (fun q => by obtain ⟨q1, q2, q3⟩ := q; by_cases e : (b : Int) < s0 + i; exact h2 ⟨q1, q2, e⟩; exact h ⟨q1, by omega⟩)]
theorem rdN_f {M : Mem} {s0 n t f : Int} {ce : Nat → Int} {a : Nat} (h : a ≠ 80) : rdN M s0 n t f ce a = M a := by
  funext b
  unfold rdN
  rw [if_neg (fun q => h q.1)]
abbrev rm_X8_sheet : Room := { frames := 1, cells := 0, slots := 0, locals := 25 }
theorem cs_X8_sheet : Cv yX8_sheet cX8_sheet 5 (some .int) 3 := ⟨kw_1214, ⟨kw_1212, kw_1213⟩, kw_67, by decide, by decide, by decide +kernel⟩
set_option maxHeartbeats 4000000 in
set_option maxRecDepth 100000 in
theorem c_X8_sheet (l : Launch) (E : Ev) (M : Mem) (k la n : Int) (g1 : -2147483648 ≤ k) (g2 : k < 2147483648) (g3 : -2147483648 ≤ la) (g4 : la < 2147483648) (g5 : -2147483648 ≤ n) (g6 : n < 2147483648) : Ct l yX8_sheet cX8_sheet 5 (some .int) rm_X8_sheet E M [.ref (E.1 (71)), .int (iI (k)), .int (iI (la)), .int (iI (n))] (pI (fun z M' => z = -1 ∧ M' = M ∧ ¬ (0 ≤ k ∧ k < 4 ∧ 0 ≤ la ∧ la < 3 ∧ n ≤ 64) ∨ (0 ≤ k ∧ k < 4 ∧ 0 ≤ la ∧ la < 3 ∧ n ≤ 64) ∧ n < 0 ∧ z = -14 ∧ M' = M ∨ (0 ≤ k ∧ k < 4 ∧ 0 ≤ la ∧ la < 3 ∧ n ≤ 64) ∧ 0 ≤ n ∧ z = 1 ∧ M' = fiR (sto (sto M 96 k.toNat la) 97 k.toNat n) 98 (64 * k) 64 0)) := by
  refine Ct_of (lv := [(0, .ref (E.1 (71))), (1, .int (iI (k))), (2, .int (iI (la))), (3, .int (iI (n)))]) (by decide) ⟨rfl, rfl⟩ (Nat.le_of_ble_eq_true rfl) rfl (fun x _ B R => ?_)
  refine x_iload_n B dX8_sheet_0 1 rfl rfl ?_
  refine x_i2l B dX8_sheet_1 ⟨by omega, by omega⟩ ?_
  refine x_lconst B (z := 0) dX8_sheet_2 rfl ?_
  refine x_ldc2 B (z := 3) dX8_sheet_3 kw_1041 rfl ?_
  refine x_callS B (st := []) (av := [.long (iL (k)), .long (iL (0)), .long (iL (3))]) dX8_sheet_6 cs_X8_in kw_952 ⟨rfl, rfl, Nat.le_of_ble_eq_true rfl, Nat.le_of_ble_eq_true rfl⟩ rfl rfl (Nat.le_of_ble_eq_true rfl) (c_X8_in _ E _ k 0 3 (by omega) (by omega) (by omega) (by omega) (by omega) (by omega)) (k_i (fun z6 Mq hz6 => ?_))
  obtain ⟨rfl, hz6⟩ := hz6
  refine x_if_eq B (tgt := 30) dX8_sheet_9 (by decide) ⟨by omega, by omega⟩ (fun c9 => ?_) (fun c9 => ?_)
  · show Vx x E M 30 [(0, .ref (E.1 (71))), (1, .int (iI (k))), (2, .int (iI (la))), (3, .int (iI (n)))] []
    refine x_iconst B dX8_sheet_30 ?_
    exact r_i B R dX8_sheet_31 (Or.inl ⟨rfl, rfl, by omega⟩)
  · show Vx x E M 12 [(0, .ref (E.1 (71))), (1, .int (iI (k))), (2, .int (iI (la))), (3, .int (iI (n)))] []
    refine x_iload_n B dX8_sheet_12 2 rfl rfl ?_
    refine x_i2l B dX8_sheet_13 ⟨by omega, by omega⟩ ?_
    refine x_lconst B (z := 0) dX8_sheet_14 rfl ?_
    refine x_ldc2 B (z := 2) dX8_sheet_15 kw_1076 rfl ?_
    refine x_callS B (st := []) (av := [.long (iL (la)), .long (iL (0)), .long (iL (2))]) dX8_sheet_18 cs_X8_in kw_952 ⟨rfl, rfl, Nat.le_of_ble_eq_true rfl, Nat.le_of_ble_eq_true rfl⟩ rfl rfl (Nat.le_of_ble_eq_true rfl) (c_X8_in _ E _ la 0 2 (by omega) (by omega) (by omega) (by omega) (by omega) (by omega)) (k_i (fun z18 Mq hz18 => ?_))
    obtain ⟨rfl, hz18⟩ := hz18
    refine x_if_eq B (tgt := 30) dX8_sheet_21 (by decide) ⟨by omega, by omega⟩ (fun c21 => ?_) (fun c21 => ?_)
    · show Vx x E M 30 [(0, .ref (E.1 (71))), (1, .int (iI (k))), (2, .int (iI (la))), (3, .int (iI (n)))] []
      refine x_iconst B dX8_sheet_30 ?_
      exact r_i B R dX8_sheet_31 (Or.inl ⟨rfl, rfl, by omega⟩)
    · show Vx x E M 24 [(0, .ref (E.1 (71))), (1, .int (iI (k))), (2, .int (iI (la))), (3, .int (iI (n)))] []
      refine x_iload_n B dX8_sheet_24 3 rfl rfl ?_
      refine x_bipush B dX8_sheet_25 rfl ?_
      refine x_icmp_le B (tgt := 32) dX8_sheet_27 (by decide) ⟨by omega, by omega⟩ ⟨by omega, by omega⟩ (fun c27 => ?_) (fun c27 => ?_)
      · show Vx x E M 32 [(0, .ref (E.1 (71))), (1, .int (iI (k))), (2, .int (iI (la))), (3, .int (iI (n)))] []
        refine x_iload_n B dX8_sheet_32 3 rfl rfl ?_
        refine x_if_ge B (tgt := 39) dX8_sheet_33 (by decide) ⟨by omega, by omega⟩ (fun c33 => ?_) (fun c33 => ?_)
        · show Vx x E M 39 [(0, .ref (E.1 (71))), (1, .int (iI (k))), (2, .int (iI (la))), (3, .int (iI (n)))] []
          refine x_aload_n B dX8_sheet_39 0 rfl rfl ?_
          refine x_getR B (ci := 8) (k := 42) dX8_sheet_40 rfl rfl rfl (by decide) inGX8 kw_847 ?_
          refine x_iload_n B dX8_sheet_43 1 rfl rfl ?_
          refine x_iload_n B dX8_sheet_44 2 rfl rfl ?_
          refine x_iast B (lo := -4) (hi := 2) dX8_sheet_45 rfl (by omega) (by omega) rfl (by omega) (by omega) ?_
          refine x_aload_n B dX8_sheet_46 0 rfl rfl ?_
          refine x_getR B (ci := 8) (k := 43) dX8_sheet_47 rfl rfl rfl (by decide) inGX8 kw_848 ?_
          refine x_iload_n B dX8_sheet_50 1 rfl rfl ?_
          refine x_iload_n B dX8_sheet_51 3 rfl rfl ?_
          refine x_iast B (lo := 0) (hi := 64) dX8_sheet_52 rfl (by omega) (by omega) rfl (by omega) (by omega) ?_
          refine x_iconst B dX8_sheet_53 ?_
          refine x_istore B dX8_sheet_54 [1, 2, 3, 4, 0] (by decide) (lv' := [(0, .ref (E.1 (71))), (1, .int (iI (k))), (2, .int (iI (la))), (3, .int (iI (n))), (4, .int (iI (0)))]) rfl ?_
          have L56 : ∀ (i : Int) (M1 : Mem), (0 ≤ i ∧ i ≤ 64 ∧ M1 = fiR (sto (sto M 96 k.toNat la) 97 k.toNat n) 98 (64 * k) i 0) → Vx x E M1 56 [(0, .ref (E.1 (71))), (1, .int (iI (k))), (2, .int (iI (la))), (3, .int (iI (n))), (4, .int (iI (i)))] [] := by
            refine lo2 _ _ (fun i M1 => (64 - i).toNat) ?_
            intro i M1 hI ih56
            obtain ⟨i1, i2, i3⟩ := hI
            refine x_iload B dX8_sheet_56 4 rfl ?_
            refine x_bipush B dX8_sheet_58 rfl ?_
            refine x_icmp_ge B (tgt := 82) dX8_sheet_60 (by decide) ⟨by omega, by omega⟩ ⟨by omega, by omega⟩ (fun c60 => ?_) (fun c60 => ?_)
            · show Vx x E M1 82 [(0, .ref (E.1 (71))), (1, .int (iI (k))), (2, .int (iI (la))), (3, .int (iI (n))), (4, .int (iI (i)))] []
              refine x_iconst B dX8_sheet_82 ?_
              exact r_i B R dX8_sheet_83 (Or.inr (Or.inr ⟨by omega, by omega, rfl, by rw [i3, show i = 64 by omega]⟩))
            · show Vx x E M1 63 [(0, .ref (E.1 (71))), (1, .int (iI (k))), (2, .int (iI (la))), (3, .int (iI (n))), (4, .int (iI (i)))] []
              refine x_aload_n B dX8_sheet_63 0 rfl rfl ?_
              refine x_getR B (ci := 8) (k := 44) dX8_sheet_64 rfl rfl rfl (by decide) inGX8 kw_849 ?_
              refine x_bipush B dX8_sheet_67 rfl ?_
              refine x_iload_n B dX8_sheet_69 1 rfl rfl ?_
              refine x_imul B dX8_sheet_70 ?_
              refine x_iload B dX8_sheet_71 4 rfl ?_
              refine x_iadd B dX8_sheet_73 ?_
              refine x_iconst B dX8_sheet_74 ?_
              refine x_iast B (lo := -2147483648) (hi := 2147483647) dX8_sheet_75 rfl (by omega) (by omega) rfl (by omega) (by omega) ?_
              refine x_iinc B (q := 4) dX8_sheet_76 rfl [1, 2, 3, 4, 0] (by decide) (lv' := [(0, .ref (E.1 (71))), (1, .int (iI (k))), (2, .int (iI (la))), (3, .int (iI (n))), (4, .int (iI (i + 1)))]) rfl ?_
              refine x_goto B (tgt := 56) dX8_sheet_79 (by decide) ?_
              exact ih56 (i + 1) (sto M1 98 ((64 * k) + i).toNat 0) (⟨by omega, by omega, by rw [i3]; exact fiR_s (by omega) i1⟩) (by omega)
          exact L56 0 (sto (sto M 96 (k).toNat la) 97 (k).toNat n) (⟨by omega, by omega, fiR_0⟩)
        · show Vx x E M 36 [(0, .ref (E.1 (71))), (1, .int (iI (k))), (2, .int (iI (la))), (3, .int (iI (n)))] []
          refine x_bipush B dX8_sheet_36 rfl ?_
          exact r_i B R dX8_sheet_38 (Or.inr (Or.inl ⟨by omega, by omega, rfl, rfl⟩))
      · show Vx x E M 30 [(0, .ref (E.1 (71))), (1, .int (iI (k))), (2, .int (iI (la))), (3, .int (iI (n)))] []
        refine x_iconst B dX8_sheet_30 ?_
        exact r_i B R dX8_sheet_31 (Or.inl ⟨rfl, rfl, by omega⟩)
abbrev rm_X8_lay : Room := { frames := 1, cells := 0, slots := 0, locals := 25 }
theorem cs_X8_lay : Cv yX8_lay cX8_lay 4 (some .int) 3 := ⟨kw_1218, ⟨kw_1216, kw_1217⟩, kw_67, by decide, by decide, by decide +kernel⟩
set_option maxHeartbeats 4000000 in
set_option maxRecDepth 100000 in
theorem c_X8_lay (l : Launch) (E : Ev) (M : Mem) (k i v : Int) (g1 : -2147483648 ≤ k) (g2 : k < 2147483648) (g3 : -2147483648 ≤ i) (g4 : i < 2147483648) (g5 : -2147483648 ≤ v) (g6 : v < 2147483648) : Ct l yX8_lay cX8_lay 4 (some .int) rm_X8_lay E M [.ref (E.1 (71)), .int (iI (k)), .int (iI (i)), .int (iI (v))] (pI (fun z M' => z = -1 ∧ M' = M ∧ ¬ (0 ≤ k ∧ k < 4) ∨ (0 ≤ k ∧ k < 4) ∧ M' = M ∧ (z = -11 ∧ M 96 k.toNat = -4 ∨ z = -12 ∧ ¬ M 96 k.toNat = -4 ∧ (i < 0 ∨ M 97 k.toNat ≤ i)) ∨ (0 ≤ k ∧ k < 4) ∧ z = 1 ∧ ¬ M 96 k.toNat = -4 ∧ 0 ≤ i ∧ i < M 97 k.toNat ∧ M' = sto M 98 (64 * k + i).toNat (putS (M 96 k.toNat) v))) := by
  refine Ct_of (lv := [(0, .ref (E.1 (71))), (1, .int (iI (k))), (2, .int (iI (i))), (3, .int (iI (v)))]) (by decide) ⟨rfl, rfl⟩ (Nat.le_of_ble_eq_true rfl) rfl (fun x _ B R => ?_)
  refine x_iload_n B dX8_lay_0 1 rfl rfl ?_
  refine x_i2l B dX8_lay_1 ⟨by omega, by omega⟩ ?_
  refine x_lconst B (z := 0) dX8_lay_2 rfl ?_
  refine x_ldc2 B (z := 3) dX8_lay_3 kw_1041 rfl ?_
  refine x_callS B (st := []) (av := [.long (iL (k)), .long (iL (0)), .long (iL (3))]) dX8_lay_6 cs_X8_in kw_952 ⟨rfl, rfl, Nat.le_of_ble_eq_true rfl, Nat.le_of_ble_eq_true rfl⟩ rfl rfl (Nat.le_of_ble_eq_true rfl) (c_X8_in _ E _ k 0 3 (by omega) (by omega) (by omega) (by omega) (by omega) (by omega)) (k_i (fun z6 Mq hz6 => ?_))
  obtain ⟨rfl, hz6⟩ := hz6
  refine x_if_ne B (tgt := 14) dX8_lay_9 (by decide) ⟨by omega, by omega⟩ (fun c9 => ?_) (fun c9 => ?_)
  · show Vx x E M 14 [(0, .ref (E.1 (71))), (1, .int (iI (k))), (2, .int (iI (i))), (3, .int (iI (v)))] []
    refine x_aload_n B dX8_lay_14 0 rfl rfl ?_
    refine x_getR B (ci := 8) (k := 42) dX8_lay_15 rfl rfl rfl (by decide) inGX8 kw_847 ?_
    refine x_iload_n B dX8_lay_18 1 rfl rfl ?_
    refine x_iald B (lo := -4) (hi := 2) dX8_lay_19 rfl (by omega) (by omega) rfl (fun z19 ez19 lz19 uz19 => ?_)
    refine x_bipush B dX8_lay_20 rfl ?_
    refine x_icmp_ne B (tgt := 28) dX8_lay_22 (by decide) ⟨by omega, by omega⟩ ⟨by omega, by omega⟩ (fun c22 => ?_) (fun c22 => ?_)
    · show Vx x E M 28 [(0, .ref (E.1 (71))), (1, .int (iI (k))), (2, .int (iI (i))), (3, .int (iI (v)))] []
      refine x_iload_n B dX8_lay_28 2 rfl rfl ?_
      refine x_i2l B dX8_lay_29 ⟨by omega, by omega⟩ ?_
      refine x_lconst B (z := 0) dX8_lay_30 rfl ?_
      refine x_aload_n B dX8_lay_31 0 rfl rfl ?_
      refine x_getR B (ci := 8) (k := 43) dX8_lay_32 rfl rfl rfl (by decide) inGX8 kw_848 ?_
      refine x_iload_n B dX8_lay_35 1 rfl rfl ?_
      refine x_iald B (lo := 0) (hi := 64) dX8_lay_36 rfl (by omega) (by omega) rfl (fun z36 ez36 lz36 uz36 => ?_)
      refine x_iconst B dX8_lay_37 ?_
      refine x_isub B dX8_lay_38 ?_
      refine x_i2l B dX8_lay_39 ⟨by omega, by omega⟩ ?_
      refine x_callS B (st := []) (av := [.long (iL (i)), .long (iL (0)), .long (iL (z36 - 1))]) dX8_lay_40 cs_X8_in kw_952 ⟨rfl, rfl, Nat.le_of_ble_eq_true rfl, Nat.le_of_ble_eq_true rfl⟩ rfl rfl (Nat.le_of_ble_eq_true rfl) (c_X8_in _ E _ i 0 (z36 - 1) (by omega) (by omega) (by omega) (by omega) (by omega) (by omega)) (k_i (fun z40 Mq hz40 => ?_))
      obtain ⟨rfl, hz40⟩ := hz40
      refine x_if_ne B (tgt := 49) dX8_lay_43 (by decide) ⟨by omega, by omega⟩ (fun c43 => ?_) (fun c43 => ?_)
      · show Vx x E M 49 [(0, .ref (E.1 (71))), (1, .int (iI (k))), (2, .int (iI (i))), (3, .int (iI (v)))] []
        refine x_aload_n B dX8_lay_49 0 rfl rfl ?_
        refine x_getR B (ci := 8) (k := 44) dX8_lay_50 rfl rfl rfl (by decide) inGX8 kw_849 ?_
        refine x_bipush B dX8_lay_53 rfl ?_
        refine x_iload_n B dX8_lay_55 1 rfl rfl ?_
        refine x_imul B dX8_lay_56 ?_
        refine x_iload_n B dX8_lay_57 2 rfl rfl ?_
        refine x_iadd B dX8_lay_58 ?_
        refine x_aload_n B dX8_lay_59 0 rfl rfl ?_
        refine x_getR B (ci := 8) (k := 42) dX8_lay_60 rfl rfl rfl (by decide) inGX8 kw_847 ?_
        refine x_iload_n B dX8_lay_63 1 rfl rfl ?_
        refine x_iald B (lo := -4) (hi := 2) dX8_lay_64 rfl (by omega) (by omega) rfl (fun z64 ez64 lz64 uz64 => ?_)
        have J99 : ∀ (j : Int), (Is j (putS (M 96 k.toNat) v) ∧ -2147483648 ≤ j ∧ j < 2147483648) → Vx x E M 99 [(0, .ref (E.1 (71))), (1, .int (iI (k))), (2, .int (iI (i))), (3, .int (iI (v)))] [.int (iI (j)), .int (iI ((64 * k) + i)), .ref (E.1 (98))] := by
          intro j hJ
          obtain ⟨j1, j2, j3⟩ := hJ
          refine x_iast B (lo := -2147483648) (hi := 2147483647) dX8_lay_99 rfl (by omega) (by omega) rfl (by omega) (by omega) ?_
          refine x_iconst B dX8_lay_100 ?_
          exact r_i B R dX8_lay_101 (Or.inr (Or.inr ⟨by omega, rfl, by rw [← Is_e ez19]; exact c22, by omega, by rw [← Is_e ez36]; omega, by rw [Is_e j1]⟩))
        refine x_if_ne B (tgt := 78) dX8_lay_65 (by decide) ⟨by omega, by omega⟩ (fun c65 => ?_) (fun c65 => ?_)
        · show Vx x E M 78 [(0, .ref (E.1 (71))), (1, .int (iI (k))), (2, .int (iI (i))), (3, .int (iI (v)))] [.int (iI ((64 * k) + i)), .ref (E.1 (98))]
          refine x_aload_n B dX8_lay_78 0 rfl rfl ?_
          refine x_getR B (ci := 8) (k := 42) dX8_lay_79 rfl rfl rfl (by decide) inGX8 kw_847 ?_
          refine x_iload_n B dX8_lay_82 1 rfl rfl ?_
          refine x_iald B (lo := -4) (hi := 2) dX8_lay_83 rfl (by omega) (by omega) rfl (fun z83 ez83 lz83 uz83 => ?_)
          refine x_iconst B dX8_lay_84 ?_
          refine x_icmp_ne B (tgt := 98) dX8_lay_85 (by decide) ⟨by omega, by omega⟩ ⟨by omega, by omega⟩ (fun c85 => ?_) (fun c85 => ?_)
          · show Vx x E M 98 [(0, .ref (E.1 (71))), (1, .int (iI (k))), (2, .int (iI (i))), (3, .int (iI (v)))] [.int (iI ((64 * k) + i)), .ref (E.1 (98))]
            refine x_iload_n B dX8_lay_98 3 rfl rfl ?_
            exact J99 v (⟨by show _ = _; unfold putS; rw [← Is_e ez64, if_neg c65, if_neg (by rw [Is_e ez64, ← Is_e ez83]; exact c85)], by omega, by omega⟩)
          · show Vx x E M 88 [(0, .ref (E.1 (71))), (1, .int (iI (k))), (2, .int (iI (i))), (3, .int (iI (v)))] [.int (iI ((64 * k) + i)), .ref (E.1 (98))]
            refine x_iload_n B dX8_lay_88 3 rfl rfl ?_
            refine x_sx16 B ⟨by omega, by omega⟩ dX8_lay_89 dX8_lay_91 dX8_lay_92 dX8_lay_94 ?_
            refine x_goto B (tgt := 99) dX8_lay_95 (by decide) ?_
            exact J99 (Int.bmod (v) 65536) (⟨by show _ = _; unfold putS; rw [← Is_e ez64, if_neg c65, if_pos (by rw [Is_e ez64, ← Is_e ez83]; exact c85)], by have := bm16 v; omega, by have := bm16 v; omega⟩)
        · show Vx x E M 68 [(0, .ref (E.1 (71))), (1, .int (iI (k))), (2, .int (iI (i))), (3, .int (iI (v)))] [.int (iI ((64 * k) + i)), .ref (E.1 (98))]
          refine x_iload_n B dX8_lay_68 3 rfl rfl ?_
          refine x_sx24 B ⟨by omega, by omega⟩ dX8_lay_69 dX8_lay_71 dX8_lay_72 dX8_lay_74 ?_
          refine x_goto B (tgt := 99) dX8_lay_75 (by decide) ?_
          exact J99 (Int.bmod (v) 256) (⟨by show _ = _; unfold putS; rw [← Is_e ez64, if_pos c65], by have := bm8 v; omega, by have := bm8 v; omega⟩)
      · show Vx x E M 46 [(0, .ref (E.1 (71))), (1, .int (iI (k))), (2, .int (iI (i))), (3, .int (iI (v)))] []
        refine x_bipush B dX8_lay_46 rfl ?_
        exact r_i B R dX8_lay_48 (Or.inr (Or.inl ⟨by omega, rfl, Or.inr ⟨rfl, by rw [← Is_e ez19]; exact c22, by rw [← Is_e ez36]; omega⟩⟩))
    · show Vx x E M 25 [(0, .ref (E.1 (71))), (1, .int (iI (k))), (2, .int (iI (i))), (3, .int (iI (v)))] []
      refine x_bipush B dX8_lay_25 rfl ?_
      exact r_i B R dX8_lay_27 (Or.inr (Or.inl ⟨by omega, rfl, Or.inl ⟨rfl, by rw [← Is_e ez19]; exact c22⟩⟩))
  · show Vx x E M 12 [(0, .ref (E.1 (71))), (1, .int (iI (k))), (2, .int (iI (i))), (3, .int (iI (v)))] []
    refine x_iconst B dX8_lay_12 ?_
    exact r_i B R dX8_lay_13 (Or.inl ⟨rfl, rfl, by omega⟩)
