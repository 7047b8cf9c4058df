/-- what a token taken behind nx0 leaves: where, its kind, its value, where it started, what is wrong and where -/
def tkV (B : Nat → Int) (len nx0 kd0 va0 wr0 wa0 nx kd va st wr wa : Int) : Prop := scE (fun c => c = 32) B len nx0 st ∧ (len ≤ st ∧ nx = st ∧ kd = 0 ∧ va = va0 ∧ wr = wr0 ∧ wa = wa0 ∨ st < len ∧ (ltP (B st.toNat) ∧ scE ltP B len st nx ∧ wdR B st nx va ∧ kd = 1 ∧ wr = (if 16 ≤ va then 1 else wr0) ∧ wa = (if 16 ≤ va then st else wa0) ∨ fgP (B st.toNat) ∧ scE fgP B len st nx ∧ va = nuF B st (nx - st).toNat ∧ kd = 2 ∧ wr = (if 2 < nx - st then 1 else wr0) ∧ wa = (if 2 < nx - st then st else wa0) ∨ B st.toNat = 59 ∧ nx = st + 1 ∧ kd = 3 ∧ va = va0 ∧ wr = wr0 ∧ wa = wa0 ∨ (¬ ltP (B st.toNat) ∧ ¬ fgP (B st.toNat) ∧ ¬ B st.toNat = 59) ∧ nx = st ∧ kd = kd0 ∧ va = va0 ∧ wr = 1 ∧ wa = st))
abbrev rm_X5_takeName : Room := { frames := 6, cells := 0, slots := 0, locals := 128 }
theorem cs_X5_takeName : Cv yX5_takeName cX5_takeName 1 none 0 := ⟨kw_360, ⟨kw_359, kw_1⟩, kw_61, by decide, by decide, by decide +kernel⟩
set_option maxHeartbeats 4000000 in
set_option maxRecDepth 100000 in
theorem c_X5_takeName (l : Launch) (E : Ev) (M : Mem)  (g1 : M 7 8 = M 7 5) : Ct l yX5_takeName cX5_takeName 1 none rm_X5_takeName E M [.ref (E.1 (7))] (pV (fun M' => ∃ e w : Int, scE ltP (M 11) (M 7 1) (M 7 5) e ∧ wdR (M 11) (M 7 8) e w ∧ M' = skM M e 1 w (M 7 8) (if 16 ≤ w then 1 else M 7 2) (if 16 ≤ w then M 7 8 else M 7 3))) := by
  refine Ct_of (lv := [(0, .ref (E.1 (7)))]) (by decide) ⟨rfl, rfl⟩ (Nat.le_of_ble_eq_true rfl) rfl (fun x _ B R => ?_)
  refine x_wf (fun hwf0 => ?_)
  have hr1 : M 7 1 ≤ 200 := (hwf0 7 1).2
  have hr5 : 0 ≤ M 7 5 ∧ M 7 5 ≤ 200 := hwf0 7 5
  have L0 : ∀ (e : Int) (M1 : Mem), (M 7 5 ≤ e ∧ (M 7 5 < e → e ≤ M 7 1) ∧ (∀ i : Int, M 7 5 ≤ i → i < e → ltP (M 11 i.toNat)) ∧ M1 = skM M e (M 7 6) (M 7 7) (M 7 8) (M 7 2) (M 7 3)) → Vx x E M1 0 [(0, .ref (E.1 (7)))] [] := by
    refine lo2 _ _ (fun e M1 => (M 7 1 - e).toNat) ?_
    intro e M1 hI ih0
    obtain ⟨i1, i2, i5, i7⟩ := hI
    refine x_aload_n B dX5_takeName_0 0 rfl rfl ?_
    refine x_getI B (ci := 5) (k := 5) (lo := 0) (hi := 200) dX5_takeName_1 rfl rfl rfl (by decide) inGX5 kw_131 rfl (fun z1 ez1 lz1 uz1 => ?_)
    refine x_aload_n B dX5_takeName_4 0 rfl rfl ?_
    refine x_getI B (ci := 5) (k := 1) (lo := 0) (hi := 200) dX5_takeName_5 rfl rfl rfl (by decide) inGX5 kw_124 rfl (fun z5 ez5 lz5 uz5 => ?_)
    have e1 : z1 = e := by rw [Is_e ez1, i7]; rfl
    have e5 : z5 = M 7 1 := by rw [Is_e ez5, i7]; rfl
    refine x_icmp_ge B (tgt := 39) dX5_takeName_8 (by decide) ⟨by omega, by omega⟩ ⟨by omega, by omega⟩ (fun c8 => ?_) (fun c8 => ?_)
    · show Vx x E M1 39 [(0, .ref (E.1 (7)))] []
      refine x_aload_n B dX5_takeName_39 0 rfl rfl ?_
      refine x_iconst B dX5_takeName_40 ?_
      refine x_put B (ci := 5) (k := 6) (lo := 0) (hi := 3) (ty := .int) dX5_takeName_41 rfl rfl rfl (by decide) inGX5 tyX5_ok nmX5 kw_132 rfl (by decide +kernel) (nar_i _) (fit_i _) rfl (by omega) (by omega) ?_
      have hM2 : sto M1 7 6 1 = skM M e 1 (M 7 7) (M 7 8) (M 7 2) (M 7 3) := by rw [i7, skM_6]
      rw [hM2]
      refine x_aload_n B dX5_takeName_44 0 rfl rfl ?_
      refine x_aload_n B dX5_takeName_45 0 rfl rfl ?_
      refine x_callV B (st := [.ref (E.1 (7))]) (av := []) dX5_takeName_46 cs_X5_wordRead kw_361 ⟨rfl, rfl, Nat.le_of_ble_eq_true rfl, Nat.le_of_ble_eq_true rfl⟩ rfl rfl (Nat.le_of_ble_eq_true rfl) (rc_obj B (ci := 5) rfl rfl rfl) (c_X5_wordRead _ E _ ) (k_i (fun z46 Mq hz46 => ?_))
      obtain ⟨rfl, hz46⟩ := hz46
      have hwd : wdR (M 11) (M 7 8) e z46 := hz46
      have hwd0 := hwd.1
      have hwd1 := hwd.2.1
      refine x_put B (ci := 5) (k := 7) (lo := 0) (hi := 999) (ty := .int) dX5_takeName_49 rfl rfl rfl (by decide) inGX5 tyX5_ok nmX5 kw_133 rfl (by decide +kernel) (nar_i _) (fit_i _) rfl (by omega) (by omega) ?_
      have hM3 : sto (skM M e 1 (M 7 7) (M 7 8) (M 7 2) (M 7 3)) 7 7 z46 = skM M e 1 z46 (M 7 8) (M 7 2) (M 7 3) := skM_7
      rw [hM3]
      refine x_aload_n B dX5_takeName_52 0 rfl rfl ?_
      refine x_getI B (ci := 5) (k := 7) (lo := 0) (hi := 999) dX5_takeName_53 rfl rfl rfl (by decide) inGX5 kw_133 rfl (fun z53 ez53 lz53 uz53 => ?_)
      have e53 : z53 = z46 := Is_e ez53
      refine x_bipush B dX5_takeName_56 rfl ?_
      refine x_icmp_lt B (tgt := 66) dX5_takeName_58 (by decide) ⟨by omega, by omega⟩ ⟨by omega, by omega⟩ (fun c58 => ?_) (fun c58 => ?_)
      · show Vx x E (skM M e 1 z46 (M 7 8) (M 7 2) (M 7 3)) 66 [(0, .ref (E.1 (7)))] []
        exact r_v B R dX5_takeName_66 (⟨e, z46, ⟨i1, i2, i5, by omega⟩, hwd, by rw [if_neg (by omega), if_neg (by omega)]⟩)
      · show Vx x E (skM M e 1 z46 (M 7 8) (M 7 2) (M 7 3)) 61 [(0, .ref (E.1 (7)))] []
        refine x_aload_n B dX5_takeName_61 0 rfl rfl ?_
        refine x_iconst B dX5_takeName_62 ?_
        refine x_callV B (st := []) (av := [.int (iI (1))]) dX5_takeName_63 cs_X5_refuse kw_436 ⟨rfl, rfl, Nat.le_of_ble_eq_true rfl, Nat.le_of_ble_eq_true rfl⟩ rfl rfl (Nat.le_of_ble_eq_true rfl) (rc_obj B (ci := 5) rfl rfl rfl) (c_X5_refuse _ E _ 1 (by omega) (by omega)) (k_v (fun M63 hz63 => ?_))
        exact r_v B R dX5_takeName_66 (⟨e, z46, ⟨i1, i2, i5, by omega⟩, hwd, by rw [hz63, skM_id, if_pos (by omega), if_pos (by omega)]; rfl⟩)
    · show Vx x E M1 11 [(0, .ref (E.1 (7)))] []
      refine x_aload_n B dX5_takeName_11 0 rfl rfl ?_
      refine x_getR B (ci := 5) (k := 4) dX5_takeName_12 rfl rfl rfl (by decide) inGX5 kw_130 ?_
      refine x_aload_n B dX5_takeName_15 0 rfl rfl ?_
      refine x_getI B (ci := 5) (k := 5) (lo := 0) (hi := 200) dX5_takeName_16 rfl rfl rfl (by decide) inGX5 kw_131 rfl (fun z16 ez16 lz16 uz16 => ?_)
      have e16 : z16 = e := by rw [Is_e ez16, i7]; rfl
      refine x_iald B (lo := 0) (hi := 255) dX5_takeName_19 rfl (by omega) (by omega) rfl (fun z19 ez19 lz19 uz19 => ?_)
      have e19 : z19 = M 11 e.toNat := by rw [Is_e ez19, i7, e16]; rfl
      refine x_callS B (st := []) (av := [.int (iI (z19))]) dX5_takeName_20 cs_X5_isLetter kw_354 ⟨rfl, rfl, Nat.le_of_ble_eq_true rfl, Nat.le_of_ble_eq_true rfl⟩ rfl rfl (Nat.le_of_ble_eq_true rfl) (c_X5_isLetter _ E _ z19 (by omega) (by omega)) (k_i (fun z20 Mq hz20 => ?_))
      obtain ⟨rfl, hz20⟩ := hz20
      refine x_if_eq B (tgt := 39) dX5_takeName_23 (by decide) ⟨by omega, by omega⟩ (fun c23 => ?_) (fun c23 => ?_)
      · show Vx x E M1 39 [(0, .ref (E.1 (7)))] []
        refine x_aload_n B dX5_takeName_39 0 rfl rfl ?_
        refine x_iconst B dX5_takeName_40 ?_
        refine x_put B (ci := 5) (k := 6) (lo := 0) (hi := 3) (ty := .int) dX5_takeName_41 rfl rfl rfl (by decide) inGX5 tyX5_ok nmX5 kw_132 rfl (by decide +kernel) (nar_i _) (fit_i _) rfl (by omega) (by omega) ?_
        have hM2 : sto M1 7 6 1 = skM M e 1 (M 7 7) (M 7 8) (M 7 2) (M 7 3) := by rw [i7, skM_6]
        rw [hM2]
        refine x_aload_n B dX5_takeName_44 0 rfl rfl ?_
        refine x_aload_n B dX5_takeName_45 0 rfl rfl ?_
        refine x_callV B (st := [.ref (E.1 (7))]) (av := []) dX5_takeName_46 cs_X5_wordRead kw_361 ⟨rfl, rfl, Nat.le_of_ble_eq_true rfl, Nat.le_of_ble_eq_true rfl⟩ rfl rfl (Nat.le_of_ble_eq_true rfl) (rc_obj B (ci := 5) rfl rfl rfl) (c_X5_wordRead _ E _ ) (k_i (fun z46 Mq hz46 => ?_))
        obtain ⟨rfl, hz46⟩ := hz46
        have hwd : wdR (M 11) (M 7 8) e z46 := hz46
        have hwd0 := hwd.1
        have hwd1 := hwd.2.1
        refine x_put B (ci := 5) (k := 7) (lo := 0) (hi := 999) (ty := .int) dX5_takeName_49 rfl rfl rfl (by decide) inGX5 tyX5_ok nmX5 kw_133 rfl (by decide +kernel) (nar_i _) (fit_i _) rfl (by omega) (by omega) ?_
        have hM3 : sto (skM M e 1 (M 7 7) (M 7 8) (M 7 2) (M 7 3)) 7 7 z46 = skM M e 1 z46 (M 7 8) (M 7 2) (M 7 3) := skM_7
        rw [hM3]
        refine x_aload_n B dX5_takeName_52 0 rfl rfl ?_
        refine x_getI B (ci := 5) (k := 7) (lo := 0) (hi := 999) dX5_takeName_53 rfl rfl rfl (by decide) inGX5 kw_133 rfl (fun z53 ez53 lz53 uz53 => ?_)
        have e53 : z53 = z46 := Is_e ez53
        refine x_bipush B dX5_takeName_56 rfl ?_
        refine x_icmp_lt B (tgt := 66) dX5_takeName_58 (by decide) ⟨by omega, by omega⟩ ⟨by omega, by omega⟩ (fun c58 => ?_) (fun c58 => ?_)
        · show Vx x E (skM M e 1 z46 (M 7 8) (M 7 2) (M 7 3)) 66 [(0, .ref (E.1 (7)))] []
          exact r_v B R dX5_takeName_66 (⟨e, z46, ⟨i1, i2, i5, by omega⟩, hwd, by rw [if_neg (by omega), if_neg (by omega)]⟩)
        · show Vx x E (skM M e 1 z46 (M 7 8) (M 7 2) (M 7 3)) 61 [(0, .ref (E.1 (7)))] []
          refine x_aload_n B dX5_takeName_61 0 rfl rfl ?_
          refine x_iconst B dX5_takeName_62 ?_
          refine x_callV B (st := []) (av := [.int (iI (1))]) dX5_takeName_63 cs_X5_refuse kw_436 ⟨rfl, rfl, Nat.le_of_ble_eq_true rfl, Nat.le_of_ble_eq_true rfl⟩ rfl rfl (Nat.le_of_ble_eq_true rfl) (rc_obj B (ci := 5) rfl rfl rfl) (c_X5_refuse _ E _ 1 (by omega) (by omega)) (k_v (fun M63 hz63 => ?_))
          exact r_v B R dX5_takeName_66 (⟨e, z46, ⟨i1, i2, i5, by omega⟩, hwd, by rw [hz63, skM_id, if_pos (by omega), if_pos (by omega)]; rfl⟩)
      · show Vx x E M1 26 [(0, .ref (E.1 (7)))] []
        refine x_aload_n B dX5_takeName_26 0 rfl rfl ?_
        refine x_dup B dX5_takeName_27 rfl ?_
        refine x_getI B (ci := 5) (k := 5) (lo := 0) (hi := 200) dX5_takeName_28 rfl rfl rfl (by decide) inGX5 kw_131 rfl (fun z28 ez28 lz28 uz28 => ?_)
        refine x_iconst B dX5_takeName_31 ?_
        have e28 : z28 = e := by rw [Is_e ez28, i7]; rfl
        refine x_iadd B dX5_takeName_32 ?_
        refine x_put B (ci := 5) (k := 5) (lo := 0) (hi := 200) (ty := .int) dX5_takeName_33 rfl rfl rfl (by decide) inGX5 tyX5_ok nmX5 kw_131 rfl (by decide +kernel) (nar_i _) (fit_i _) rfl (by omega) (by omega) ?_
        refine x_goto B (tgt := 0) dX5_takeName_36 (by decide) ?_
        exact ih0 (e + 1) (sto M1 7 5 (z28 + 1)) (⟨by omega, by omega, fun i h0 h1 => if h : i < e then i5 i h0 h else by rw [show i = e by omega, ← e19]; omega, by rw [i7, e28, skM_5]⟩) (by omega)
  exact L0 (M 7 5) M (⟨by omega, by omega, fun i h0 h1 => by omega, skM_eta⟩)
abbrev rm_X5_takeToken : Room := { frames := 7, cells := 0, slots := 0, locals := 148 }
theorem cs_X5_takeToken : Cv yX5_takeToken cX5_takeToken 1 none 0 := ⟨kw_353, ⟨kw_352, kw_0⟩, kw_61, by decide, by decide, by decide +kernel⟩
set_option maxHeartbeats 4000000 in
set_option maxRecDepth 100000 in
theorem c_X5_takeToken (l : Launch) (E : Ev) (M : Mem)   : Ct l yX5_takeToken cX5_takeToken 1 none rm_X5_takeToken E M [.ref (E.1 (7))] (pV (fun M' => ∃ nx kd va st wr wa : Int, tkV (M 11) (M 7 1) (M 7 5) (M 7 6) (M 7 7) (M 7 2) (M 7 3) nx kd va st wr wa ∧ M' = skM M nx kd va st wr wa)) := by
  refine Ct_of (lv := [(0, .ref (E.1 (7)))]) (by decide) ⟨rfl, rfl⟩ (Nat.le_of_ble_eq_true rfl) rfl (fun x _ B R => ?_)
  refine x_wf (fun hwf0 => ?_)
  have hr1 : M 7 1 ≤ 200 := (hwf0 7 1).2
  have hr5 : 0 ≤ M 7 5 ∧ M 7 5 ≤ 200 := hwf0 7 5
  have L0 : ∀ (s : Int) (M1 : Mem), (M 7 5 ≤ s ∧ (M 7 5 < s → s ≤ M 7 1) ∧ (∀ i : Int, M 7 5 ≤ i → i < s → M 11 i.toNat = 32) ∧ M1 = skM M s (M 7 6) (M 7 7) (M 7 8) (M 7 2) (M 7 3)) → Vx x E M1 0 [(0, .ref (E.1 (7)))] [] := by
    refine lo2 _ _ (fun s M1 => (M 7 1 - s).toNat) ?_
    intro s M1 hI ih0
    obtain ⟨i1, i2, i5, i7⟩ := hI
    refine x_aload_n B dX5_takeToken_0 0 rfl rfl ?_
    refine x_getI B (ci := 5) (k := 5) (lo := 0) (hi := 200) dX5_takeToken_1 rfl rfl rfl (by decide) inGX5 kw_131 rfl (fun z1 ez1 lz1 uz1 => ?_)
    refine x_aload_n B dX5_takeToken_4 0 rfl rfl ?_
    refine x_getI B (ci := 5) (k := 1) (lo := 0) (hi := 200) dX5_takeToken_5 rfl rfl rfl (by decide) inGX5 kw_124 rfl (fun z5 ez5 lz5 uz5 => ?_)
    have e1 : z1 = s := by rw [Is_e ez1, i7]; rfl
    have e5 : z5 = M 7 1 := by rw [Is_e ez5, i7]; rfl
    refine x_icmp_ge B (tgt := 38) dX5_takeToken_8 (by decide) ⟨by omega, by omega⟩ ⟨by omega, by omega⟩ (fun c8 => ?_) (fun c8 => ?_)
    · show Vx x E M1 38 [(0, .ref (E.1 (7)))] []
      refine x_aload_n B dX5_takeToken_38 0 rfl rfl ?_
      refine x_aload_n B dX5_takeToken_39 0 rfl rfl ?_
      refine x_getI B (ci := 5) (k := 5) (lo := 0) (hi := 200) dX5_takeToken_40 rfl rfl rfl (by decide) inGX5 kw_131 rfl (fun z40 ez40 lz40 uz40 => ?_)
      have e40 : z40 = s := by rw [Is_e ez40, i7]; rfl
      refine x_put B (ci := 5) (k := 8) (lo := 0) (hi := 200) (ty := .int) dX5_takeToken_43 rfl rfl rfl (by decide) inGX5 tyX5_ok nmX5 kw_134 rfl (by decide +kernel) (nar_i _) (fit_i _) rfl (by omega) (by omega) ?_
      have hM2 : sto M1 7 8 z40 = skM M s (M 7 6) (M 7 7) s (M 7 2) (M 7 3) := by rw [i7, e40, skM_8]
      rw [hM2]
      have hsp : scE (fun c => c = 32) (M 11) (M 7 1) (M 7 5) s := ⟨i1, i2, i5, by omega⟩
      refine x_aload_n B dX5_takeToken_46 0 rfl rfl ?_
      refine x_getI B (ci := 5) (k := 5) (lo := 0) (hi := 200) dX5_takeToken_47 rfl rfl rfl (by decide) inGX5 kw_131 rfl (fun z47 ez47 lz47 uz47 => ?_)
      refine x_aload_n B dX5_takeToken_50 0 rfl rfl ?_
      refine x_getI B (ci := 5) (k := 1) (lo := 0) (hi := 200) dX5_takeToken_51 rfl rfl rfl (by decide) inGX5 kw_124 rfl (fun z51 ez51 lz51 uz51 => ?_)
      have e47 : z47 = s := Is_e ez47
      have e51 : z51 = M 7 1 := Is_e ez51
      refine x_icmp_lt B (tgt := 65) dX5_takeToken_54 (by decide) ⟨by omega, by omega⟩ ⟨by omega, by omega⟩ (fun c54 => ?_) (fun c54 => ?_)
      · show Vx x E (skM M s (M 7 6) (M 7 7) s (M 7 2) (M 7 3)) 65 [(0, .ref (E.1 (7)))] []
        refine x_aload_n B dX5_takeToken_65 0 rfl rfl ?_
        refine x_getR B (ci := 5) (k := 4) dX5_takeToken_66 rfl rfl rfl (by decide) inGX5 kw_130 ?_
        refine x_aload_n B dX5_takeToken_69 0 rfl rfl ?_
        refine x_getI B (ci := 5) (k := 5) (lo := 0) (hi := 200) dX5_takeToken_70 rfl rfl rfl (by decide) inGX5 kw_131 rfl (fun z70 ez70 lz70 uz70 => ?_)
        have e70 : z70 = s := Is_e ez70
        refine x_iald B (lo := 0) (hi := 255) dX5_takeToken_73 rfl (by omega) (by omega) rfl (fun z73 ez73 lz73 uz73 => ?_)
        have e73 : z73 = M 11 s.toNat := by rw [Is_e ez73, e70]; rfl
        refine x_callS B (st := []) (av := [.int (iI (z73))]) dX5_takeToken_74 cs_X5_isLetter kw_354 ⟨rfl, rfl, Nat.le_of_ble_eq_true rfl, Nat.le_of_ble_eq_true rfl⟩ rfl rfl (Nat.le_of_ble_eq_true rfl) (c_X5_isLetter _ E _ z73 (by omega) (by omega)) (k_i (fun z74 Mq hz74 => ?_))
        obtain ⟨rfl, hz74⟩ := hz74
        refine x_if_eq B (tgt := 87) dX5_takeToken_77 (by decide) ⟨by omega, by omega⟩ (fun c77 => ?_) (fun c77 => ?_)
        · show Vx x E (skM M s (M 7 6) (M 7 7) s (M 7 2) (M 7 3)) 87 [(0, .ref (E.1 (7)))] []
          refine x_aload_n B dX5_takeToken_87 0 rfl rfl ?_
          refine x_getR B (ci := 5) (k := 4) dX5_takeToken_88 rfl rfl rfl (by decide) inGX5 kw_130 ?_
          refine x_aload_n B dX5_takeToken_91 0 rfl rfl ?_
          refine x_getI B (ci := 5) (k := 5) (lo := 0) (hi := 200) dX5_takeToken_92 rfl rfl rfl (by decide) inGX5 kw_131 rfl (fun z92 ez92 lz92 uz92 => ?_)
          have e92 : z92 = s := Is_e ez92
          refine x_iald B (lo := 0) (hi := 255) dX5_takeToken_95 rfl (by omega) (by omega) rfl (fun z95 ez95 lz95 uz95 => ?_)
          have e95 : z95 = M 11 s.toNat := by rw [Is_e ez95, e92]; rfl
          refine x_callS B (st := []) (av := [.int (iI (z95))]) dX5_takeToken_96 cs_X5_isFigure kw_440 ⟨rfl, rfl, Nat.le_of_ble_eq_true rfl, Nat.le_of_ble_eq_true rfl⟩ rfl rfl (Nat.le_of_ble_eq_true rfl) (c_X5_isFigure _ E _ z95 (by omega) (by omega)) (k_i (fun z96 Mq hz96 => ?_))
          obtain ⟨rfl, hz96⟩ := hz96
          refine x_if_eq B (tgt := 109) dX5_takeToken_99 (by decide) ⟨by omega, by omega⟩ (fun c99 => ?_) (fun c99 => ?_)
          · show Vx x E (skM M s (M 7 6) (M 7 7) s (M 7 2) (M 7 3)) 109 [(0, .ref (E.1 (7)))] []
            refine x_aload_n B dX5_takeToken_109 0 rfl rfl ?_
            refine x_getR B (ci := 5) (k := 4) dX5_takeToken_110 rfl rfl rfl (by decide) inGX5 kw_130 ?_
            refine x_aload_n B dX5_takeToken_113 0 rfl rfl ?_
            refine x_getI B (ci := 5) (k := 5) (lo := 0) (hi := 200) dX5_takeToken_114 rfl rfl rfl (by decide) inGX5 kw_131 rfl (fun z114 ez114 lz114 uz114 => ?_)
            have e114 : z114 = s := Is_e ez114
            refine x_iald B (lo := 0) (hi := 255) dX5_takeToken_117 rfl (by omega) (by omega) rfl (fun z117 ez117 lz117 uz117 => ?_)
            have e117 : z117 = M 11 s.toNat := by rw [Is_e ez117, e114]; rfl
            refine x_bipush B dX5_takeToken_118 rfl ?_
            refine x_icmp_ne B (tgt := 141) dX5_takeToken_120 (by decide) ⟨by omega, by omega⟩ ⟨by omega, by omega⟩ (fun c120 => ?_) (fun c120 => ?_)
            · show Vx x E (skM M s (M 7 6) (M 7 7) s (M 7 2) (M 7 3)) 141 [(0, .ref (E.1 (7)))] []
              refine x_aload_n B dX5_takeToken_141 0 rfl rfl ?_
              refine x_iconst B dX5_takeToken_142 ?_
              refine x_callV B (st := []) (av := [.int (iI (1))]) dX5_takeToken_143 cs_X5_refuse kw_436 ⟨rfl, rfl, Nat.le_of_ble_eq_true rfl, Nat.le_of_ble_eq_true rfl⟩ rfl rfl (Nat.le_of_ble_eq_true rfl) (rc_obj B (ci := 5) rfl rfl rfl) (c_X5_refuse _ E _ 1 (by omega) (by omega)) (k_v (fun M143 hz143 => ?_))
              exact r_v B R dX5_takeToken_146 (⟨s, M 7 6, M 7 7, s, 1, s, ⟨hsp, Or.inr ⟨by omega, Or.inr (Or.inr (Or.inr ⟨by omega, rfl, rfl, rfl, rfl, rfl⟩))⟩⟩, by rw [hz143, skM_id]; rfl⟩)
            · show Vx x E (skM M s (M 7 6) (M 7 7) s (M 7 2) (M 7 3)) 123 [(0, .ref (E.1 (7)))] []
              refine x_aload_n B dX5_takeToken_123 0 rfl rfl ?_
              refine x_iconst B dX5_takeToken_124 ?_
              refine x_put B (ci := 5) (k := 6) (lo := 0) (hi := 3) (ty := .int) dX5_takeToken_125 rfl rfl rfl (by decide) inGX5 tyX5_ok nmX5 kw_132 rfl (by decide +kernel) (nar_i _) (fit_i _) rfl (by omega) (by omega) ?_
              refine x_aload_n B dX5_takeToken_128 0 rfl rfl ?_
              refine x_dup B dX5_takeToken_129 rfl ?_
              refine x_getI B (ci := 5) (k := 5) (lo := 0) (hi := 200) dX5_takeToken_130 rfl rfl rfl (by decide) inGX5 kw_131 rfl (fun z130 ez130 lz130 uz130 => ?_)
              refine x_iconst B dX5_takeToken_133 ?_
              have e130 : z130 = s := Is_e ez130
              refine x_iadd B dX5_takeToken_134 ?_
              refine x_put B (ci := 5) (k := 5) (lo := 0) (hi := 200) (ty := .int) dX5_takeToken_135 rfl rfl rfl (by decide) inGX5 tyX5_ok nmX5 kw_131 rfl (by decide +kernel) (nar_i _) (fit_i _) rfl (by omega) (by omega) ?_
              refine x_goto B (tgt := 146) dX5_takeToken_138 (by decide) ?_
              exact r_v B R dX5_takeToken_146 (⟨s + 1, 3, M 7 7, s, M 7 2, M 7 3, ⟨hsp, Or.inr ⟨by omega, Or.inr (Or.inr (Or.inl ⟨by omega, rfl, rfl, rfl, rfl, rfl⟩))⟩⟩, by rw [e130, skM_6, skM_5]⟩)
          · show Vx x E (skM M s (M 7 6) (M 7 7) s (M 7 2) (M 7 3)) 102 [(0, .ref (E.1 (7)))] []
            refine x_aload_n B dX5_takeToken_102 0 rfl rfl ?_
            refine x_callV B (st := []) (av := []) dX5_takeToken_103 cs_X5_takeNumber kw_443 ⟨rfl, rfl, Nat.le_of_ble_eq_true rfl, Nat.le_of_ble_eq_true rfl⟩ rfl rfl (Nat.le_of_ble_eq_true rfl) (rc_obj B (ci := 5) rfl rfl rfl) (c_X5_takeNumber _ E _  rfl) (k_v (fun M103 hz103 => ?_))
            refine x_goto B (tgt := 146) dX5_takeToken_106 (by decide) ?_
            exact r_v B R dX5_takeToken_146 (by obtain ⟨e, h1, h3⟩ := hz103; exact ⟨e, 2, nuF (M 11) s (e - s).toNat, s, if 2 < e - s then 1 else M 7 2, if 2 < e - s then s else M 7 3, ⟨hsp, Or.inr ⟨by omega, Or.inr (Or.inl ⟨by omega, h1, rfl, rfl, rfl, rfl⟩)⟩⟩, by rw [h3, skM_id]; rfl⟩)
        · show Vx x E (skM M s (M 7 6) (M 7 7) s (M 7 2) (M 7 3)) 80 [(0, .ref (E.1 (7)))] []
          refine x_aload_n B dX5_takeToken_80 0 rfl rfl ?_
          refine x_callV B (st := []) (av := []) dX5_takeToken_81 cs_X5_takeName kw_357 ⟨rfl, rfl, Nat.le_of_ble_eq_true rfl, Nat.le_of_ble_eq_true rfl⟩ rfl rfl (Nat.le_of_ble_eq_true rfl) (rc_obj B (ci := 5) rfl rfl rfl) (c_X5_takeName _ E _  rfl) (k_v (fun M81 hz81 => ?_))
          refine x_goto B (tgt := 146) dX5_takeToken_84 (by decide) ?_
          exact r_v B R dX5_takeToken_146 (by obtain ⟨e, w, h1, h2, h3⟩ := hz81; exact ⟨e, 1, w, s, if 16 ≤ w then 1 else M 7 2, if 16 ≤ w then s else M 7 3, ⟨hsp, Or.inr ⟨by omega, Or.inl ⟨by omega, h1, h2, rfl, rfl, rfl⟩⟩⟩, by rw [h3, skM_id]; rfl⟩)
      · show Vx x E (skM M s (M 7 6) (M 7 7) s (M 7 2) (M 7 3)) 57 [(0, .ref (E.1 (7)))] []
        refine x_aload_n B dX5_takeToken_57 0 rfl rfl ?_
        refine x_iconst B dX5_takeToken_58 ?_
        refine x_put B (ci := 5) (k := 6) (lo := 0) (hi := 3) (ty := .int) dX5_takeToken_59 rfl rfl rfl (by decide) inGX5 tyX5_ok nmX5 kw_132 rfl (by decide +kernel) (nar_i _) (fit_i _) rfl (by omega) (by omega) ?_
        refine x_goto B (tgt := 146) dX5_takeToken_62 (by decide) ?_
        exact r_v B R dX5_takeToken_146 (⟨s, 0, M 7 7, s, M 7 2, M 7 3, ⟨hsp, Or.inl ⟨by omega, rfl, rfl, rfl, rfl, rfl⟩⟩, skM_6⟩)
    · show Vx x E M1 11 [(0, .ref (E.1 (7)))] []
      refine x_aload_n B dX5_takeToken_11 0 rfl rfl ?_
      refine x_getR B (ci := 5) (k := 4) dX5_takeToken_12 rfl rfl rfl (by decide) inGX5 kw_130 ?_
      refine x_aload_n B dX5_takeToken_15 0 rfl rfl ?_
      refine x_getI B (ci := 5) (k := 5) (lo := 0) (hi := 200) dX5_takeToken_16 rfl rfl rfl (by decide) inGX5 kw_131 rfl (fun z16 ez16 lz16 uz16 => ?_)
      have e16 : z16 = s := by rw [Is_e ez16, i7]; rfl
      refine x_iald B (lo := 0) (hi := 255) dX5_takeToken_19 rfl (by omega) (by omega) rfl (fun z19 ez19 lz19 uz19 => ?_)
      have e19 : z19 = M 11 s.toNat := by rw [Is_e ez19, i7, e16]; rfl
      refine x_bipush B dX5_takeToken_20 rfl ?_
      refine x_icmp_ne B (tgt := 38) dX5_takeToken_22 (by decide) ⟨by omega, by omega⟩ ⟨by omega, by omega⟩ (fun c22 => ?_) (fun c22 => ?_)
      · show Vx x E M1 38 [(0, .ref (E.1 (7)))] []
        refine x_aload_n B dX5_takeToken_38 0 rfl rfl ?_
        refine x_aload_n B dX5_takeToken_39 0 rfl rfl ?_
        refine x_getI B (ci := 5) (k := 5) (lo := 0) (hi := 200) dX5_takeToken_40 rfl rfl rfl (by decide) inGX5 kw_131 rfl (fun z40 ez40 lz40 uz40 => ?_)
        have e40 : z40 = s := by rw [Is_e ez40, i7]; rfl
        refine x_put B (ci := 5) (k := 8) (lo := 0) (hi := 200) (ty := .int) dX5_takeToken_43 rfl rfl rfl (by decide) inGX5 tyX5_ok nmX5 kw_134 rfl (by decide +kernel) (nar_i _) (fit_i _) rfl (by omega) (by omega) ?_
        have hM2 : sto M1 7 8 z40 = skM M s (M 7 6) (M 7 7) s (M 7 2) (M 7 3) := by rw [i7, e40, skM_8]
        rw [hM2]
        have hsp : scE (fun c => c = 32) (M 11) (M 7 1) (M 7 5) s := ⟨i1, i2, i5, by omega⟩
        refine x_aload_n B dX5_takeToken_46 0 rfl rfl ?_
        refine x_getI B (ci := 5) (k := 5) (lo := 0) (hi := 200) dX5_takeToken_47 rfl rfl rfl (by decide) inGX5 kw_131 rfl (fun z47 ez47 lz47 uz47 => ?_)
        refine x_aload_n B dX5_takeToken_50 0 rfl rfl ?_
        refine x_getI B (ci := 5) (k := 1) (lo := 0) (hi := 200) dX5_takeToken_51 rfl rfl rfl (by decide) inGX5 kw_124 rfl (fun z51 ez51 lz51 uz51 => ?_)
        have e47 : z47 = s := Is_e ez47
        have e51 : z51 = M 7 1 := Is_e ez51
        refine x_icmp_lt B (tgt := 65) dX5_takeToken_54 (by decide) ⟨by omega, by omega⟩ ⟨by omega, by omega⟩ (fun c54 => ?_) (fun c54 => ?_)
        · show Vx x E (skM M s (M 7 6) (M 7 7) s (M 7 2) (M 7 3)) 65 [(0, .ref (E.1 (7)))] []
          refine x_aload_n B dX5_takeToken_65 0 rfl rfl ?_
          refine x_getR B (ci := 5) (k := 4) dX5_takeToken_66 rfl rfl rfl (by decide) inGX5 kw_130 ?_
          refine x_aload_n B dX5_takeToken_69 0 rfl rfl ?_
          refine x_getI B (ci := 5) (k := 5) (lo := 0) (hi := 200) dX5_takeToken_70 rfl rfl rfl (by decide) inGX5 kw_131 rfl (fun z70 ez70 lz70 uz70 => ?_)
          have e70 : z70 = s := Is_e ez70
          refine x_iald B (lo := 0) (hi := 255) dX5_takeToken_73 rfl (by omega) (by omega) rfl (fun z73 ez73 lz73 uz73 => ?_)
          have e73 : z73 = M 11 s.toNat := by rw [Is_e ez73, e70]; rfl
          refine x_callS B (st := []) (av := [.int (iI (z73))]) dX5_takeToken_74 cs_X5_isLetter kw_354 ⟨rfl, rfl, Nat.le_of_ble_eq_true rfl, Nat.le_of_ble_eq_true rfl⟩ rfl rfl (Nat.le_of_ble_eq_true rfl) (c_X5_isLetter _ E _ z73 (by omega) (by omega)) (k_i (fun z74 Mq hz74 => ?_))
          obtain ⟨rfl, hz74⟩ := hz74
          refine x_if_eq B (tgt := 87) dX5_takeToken_77 (by decide) ⟨by omega, by omega⟩ (fun c77 => ?_) (fun c77 => ?_)
          · show Vx x E (skM M s (M 7 6) (M 7 7) s (M 7 2) (M 7 3)) 87 [(0, .ref (E.1 (7)))] []
            refine x_aload_n B dX5_takeToken_87 0 rfl rfl ?_
            refine x_getR B (ci := 5) (k := 4) dX5_takeToken_88 rfl rfl rfl (by decide) inGX5 kw_130 ?_
            refine x_aload_n B dX5_takeToken_91 0 rfl rfl ?_
            refine x_getI B (ci := 5) (k := 5) (lo := 0) (hi := 200) dX5_takeToken_92 rfl rfl rfl (by decide) inGX5 kw_131 rfl (fun z92 ez92 lz92 uz92 => ?_)
            have e92 : z92 = s := Is_e ez92
            refine x_iald B (lo := 0) (hi := 255) dX5_takeToken_95 rfl (by omega) (by omega) rfl (fun z95 ez95 lz95 uz95 => ?_)
            have e95 : z95 = M 11 s.toNat := by rw [Is_e ez95, e92]; rfl
            refine x_callS B (st := []) (av := [.int (iI (z95))]) dX5_takeToken_96 cs_X5_isFigure kw_440 ⟨rfl, rfl, Nat.le_of_ble_eq_true rfl, Nat.le_of_ble_eq_true rfl⟩ rfl rfl (Nat.le_of_ble_eq_true rfl) (c_X5_isFigure _ E _ z95 (by omega) (by omega)) (k_i (fun z96 Mq hz96 => ?_))
            obtain ⟨rfl, hz96⟩ := hz96
            refine x_if_eq B (tgt := 109) dX5_takeToken_99 (by decide) ⟨by omega, by omega⟩ (fun c99 => ?_) (fun c99 => ?_)
            · show Vx x E (skM M s (M 7 6) (M 7 7) s (M 7 2) (M 7 3)) 109 [(0, .ref (E.1 (7)))] []
              refine x_aload_n B dX5_takeToken_109 0 rfl rfl ?_
              refine x_getR B (ci := 5) (k := 4) dX5_takeToken_110 rfl rfl rfl (by decide) inGX5 kw_130 ?_
              refine x_aload_n B dX5_takeToken_113 0 rfl rfl ?_
              refine x_getI B (ci := 5) (k := 5) (lo := 0) (hi := 200) dX5_takeToken_114 rfl rfl rfl (by decide) inGX5 kw_131 rfl (fun z114 ez114 lz114 uz114 => ?_)
              have e114 : z114 = s := Is_e ez114
              refine x_iald B (lo := 0) (hi := 255) dX5_takeToken_117 rfl (by omega) (by omega) rfl (fun z117 ez117 lz117 uz117 => ?_)
              have e117 : z117 = M 11 s.toNat := by rw [Is_e ez117, e114]; rfl
              refine x_bipush B dX5_takeToken_118 rfl ?_
              refine x_icmp_ne B (tgt := 141) dX5_takeToken_120 (by decide) ⟨by omega, by omega⟩ ⟨by omega, by omega⟩ (fun c120 => ?_) (fun c120 => ?_)
              · show Vx x E (skM M s (M 7 6) (M 7 7) s (M 7 2) (M 7 3)) 141 [(0, .ref (E.1 (7)))] []
                refine x_aload_n B dX5_takeToken_141 0 rfl rfl ?_
                refine x_iconst B dX5_takeToken_142 ?_
                refine x_callV B (st := []) (av := [.int (iI (1))]) dX5_takeToken_143 cs_X5_refuse kw_436 ⟨rfl, rfl, Nat.le_of_ble_eq_true rfl, Nat.le_of_ble_eq_true rfl⟩ rfl rfl (Nat.le_of_ble_eq_true rfl) (rc_obj B (ci := 5) rfl rfl rfl) (c_X5_refuse _ E _ 1 (by omega) (by omega)) (k_v (fun M143 hz143 => ?_))
                exact r_v B R dX5_takeToken_146 (⟨s, M 7 6, M 7 7, s, 1, s, ⟨hsp, Or.inr ⟨by omega, Or.inr (Or.inr (Or.inr ⟨by omega, rfl, rfl, rfl, rfl, rfl⟩))⟩⟩, by rw [hz143, skM_id]; rfl⟩)
              · show Vx x E (skM M s (M 7 6) (M 7 7) s (M 7 2) (M 7 3)) 123 [(0, .ref (E.1 (7)))] []
                refine x_aload_n B dX5_takeToken_123 0 rfl rfl ?_
                refine x_iconst B dX5_takeToken_124 ?_
                refine x_put B (ci := 5) (k := 6) (lo := 0) (hi := 3) (ty := .int) dX5_takeToken_125 rfl rfl rfl (by decide) inGX5 tyX5_ok nmX5 kw_132 rfl (by decide +kernel) (nar_i _) (fit_i _) rfl (by omega) (by omega) ?_
                refine x_aload_n B dX5_takeToken_128 0 rfl rfl ?_
                refine x_dup B dX5_takeToken_129 rfl ?_
                refine x_getI B (ci := 5) (k := 5) (lo := 0) (hi := 200) dX5_takeToken_130 rfl rfl rfl (by decide) inGX5 kw_131 rfl (fun z130 ez130 lz130 uz130 => ?_)
                refine x_iconst B dX5_takeToken_133 ?_
                have e130 : z130 = s := Is_e ez130
                refine x_iadd B dX5_takeToken_134 ?_
                refine x_put B (ci := 5) (k := 5) (lo := 0) (hi := 200) (ty := .int) dX5_takeToken_135 rfl rfl rfl (by decide) inGX5 tyX5_ok nmX5 kw_131 rfl (by decide +kernel) (nar_i _) (fit_i _) rfl (by omega) (by omega) ?_
                refine x_goto B (tgt := 146) dX5_takeToken_138 (by decide) ?_
                exact r_v B R dX5_takeToken_146 (⟨s + 1, 3, M 7 7, s, M 7 2, M 7 3, ⟨hsp, Or.inr ⟨by omega, Or.inr (Or.inr (Or.inl ⟨by omega, rfl, rfl, rfl, rfl, rfl⟩))⟩⟩, by rw [e130, skM_6, skM_5]⟩)
            · show Vx x E (skM M s (M 7 6) (M 7 7) s (M 7 2) (M 7 3)) 102 [(0, .ref (E.1 (7)))] []
              refine x_aload_n B dX5_takeToken_102 0 rfl rfl ?_
              refine x_callV B (st := []) (av := []) dX5_takeToken_103 cs_X5_takeNumber kw_443 ⟨rfl, rfl, Nat.le_of_ble_eq_true rfl, Nat.le_of_ble_eq_true rfl⟩ rfl rfl (Nat.le_of_ble_eq_true rfl) (rc_obj B (ci := 5) rfl rfl rfl) (c_X5_takeNumber _ E _  rfl) (k_v (fun M103 hz103 => ?_))
              refine x_goto B (tgt := 146) dX5_takeToken_106 (by decide) ?_
              exact r_v B R dX5_takeToken_146 (by obtain ⟨e, h1, h3⟩ := hz103; exact ⟨e, 2, nuF (M 11) s (e - s).toNat, s, if 2 < e - s then 1 else M 7 2, if 2 < e - s then s else M 7 3, ⟨hsp, Or.inr ⟨by omega, Or.inr (Or.inl ⟨by omega, h1, rfl, rfl, rfl, rfl⟩)⟩⟩, by rw [h3, skM_id]; rfl⟩)
          · show Vx x E (skM M s (M 7 6) (M 7 7) s (M 7 2) (M 7 3)) 80 [(0, .ref (E.1 (7)))] []
            refine x_aload_n B dX5_takeToken_80 0 rfl rfl ?_
            refine x_callV B (st := []) (av := []) dX5_takeToken_81 cs_X5_takeName kw_357 ⟨rfl, rfl, Nat.le_of_ble_eq_true rfl, Nat.le_of_ble_eq_true rfl⟩ rfl rfl (Nat.le_of_ble_eq_true rfl) (rc_obj B (ci := 5) rfl rfl rfl) (c_X5_takeName _ E _  rfl) (k_v (fun M81 hz81 => ?_))
            refine x_goto B (tgt := 146) dX5_takeToken_84 (by decide) ?_
            exact r_v B R dX5_takeToken_146 (by obtain ⟨e, w, h1, h2, h3⟩ := hz81; exact ⟨e, 1, w, s, if 16 ≤ w then 1 else M 7 2, if 16 ≤ w then s else M 7 3, ⟨hsp, Or.inr ⟨by omega, Or.inl ⟨by omega, h1, h2, rfl, rfl, rfl⟩⟩⟩, by rw [h3, skM_id]; rfl⟩)
        · show Vx x E (skM M s (M 7 6) (M 7 7) s (M 7 2) (M 7 3)) 57 [(0, .ref (E.1 (7)))] []
          refine x_aload_n B dX5_takeToken_57 0 rfl rfl ?_
          refine x_iconst B dX5_takeToken_58 ?_
          refine x_put B (ci := 5) (k := 6) (lo := 0) (hi := 3) (ty := .int) dX5_takeToken_59 rfl rfl rfl (by decide) inGX5 tyX5_ok nmX5 kw_132 rfl (by decide +kernel) (nar_i _) (fit_i _) rfl (by omega) (by omega) ?_
          refine x_goto B (tgt := 146) dX5_takeToken_62 (by decide) ?_
          exact r_v B R dX5_takeToken_146 (⟨s, 0, M 7 7, s, M 7 2, M 7 3, ⟨hsp, Or.inl ⟨by omega, rfl, rfl, rfl, rfl, rfl⟩⟩, skM_6⟩)
      · show Vx x E M1 25 [(0, .ref (E.1 (7)))] []
        refine x_aload_n B dX5_takeToken_25 0 rfl rfl ?_
        refine x_dup B dX5_takeToken_26 rfl ?_
        refine x_getI B (ci := 5) (k := 5) (lo := 0) (hi := 200) dX5_takeToken_27 rfl rfl rfl (by decide) inGX5 kw_131 rfl (fun z27 ez27 lz27 uz27 => ?_)
        refine x_iconst B dX5_takeToken_30 ?_
        have e27 : z27 = s := by rw [Is_e ez27, i7]; rfl
        refine x_iadd B dX5_takeToken_31 ?_
        refine x_put B (ci := 5) (k := 5) (lo := 0) (hi := 200) (ty := .int) dX5_takeToken_32 rfl rfl rfl (by decide) inGX5 tyX5_ok nmX5 kw_131 rfl (by decide +kernel) (nar_i _) (fit_i _) rfl (by omega) (by omega) ?_
        refine x_goto B (tgt := 0) dX5_takeToken_35 (by decide) ?_
        exact ih0 (s + 1) (sto M1 7 5 (z27 + 1)) (⟨by omega, by omega, fun i h0 h1 => if h : i < s then i5 i h0 h else by rw [show i = s by omega, ← e19]; omega, by rw [i7, e27, skM_5]⟩) (by omega)
  exact L0 (M 7 5) M (⟨by omega, by omega, fun i h0 h1 => by omega, skM_eta⟩)
