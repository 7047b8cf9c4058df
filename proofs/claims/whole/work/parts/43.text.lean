def tkR (M M' : Mem) : Prop := ∃ nx kd va st wr wa : Int, tkV (M 11) (M 7 1) (M 7 5) (M 7 6) (M 7 7) (M 7 2) (M 7 3) nx kd va st wr wa ∧ M' = skM M nx kd va st wr wa
/-- the memory that the first line is read in -/
def rs0 (M : Mem) : Mem := sto (sto (sto (sto (sto (fillM (cpyM M (8 + 1) 12 (fun b => sAf.getD b 0)) (8 + 2) 16 1) 7 2 0) 7 3 0) 7 5 0) 7 9 0) 7 10 0
/-- k lines are read, none refused -/
def lnK (M0 : Mem) : Nat → Mem → Prop
  | 0, M => M = M0
  | k + 1, M => ∃ M1 M2 : Mem, lnK M0 k M1 ∧ tkR M1 M2 ∧ M2 7 2 = 0 ∧ ¬ M2 7 6 = 0 ∧ rlR M2 M ∧ M 7 2 = 0
theorem lnK_s {M0 M1 M2 M : Mem} {k : Int} (h0 : 0 ≤ k) (h : lnK M0 k.toNat M1) (h1 : tkR M1 M2) (h2 : M2 7 2 = 0) (h3 : ¬ M2 7 6 = 0) (h4 : rlR M2 M) (h5 : M 7 2 = 0) : lnK M0 (k + 1).toNat M := by
  rw [show (k + 1).toNat = k.toNat + 1 by omega]
  exact ⟨M1, M2, h, h1, h2, h3, h4, h5⟩
/-- the lines are read: z of them, and how that ends -/
def llR (M M' : Mem) (z : Int) : Prop := ∃ M1 : Mem, lnK (rs0 M) z.toNat M1 ∧ (200 < z ∧ M' = M1 ∨ z ≤ 200 ∧ ∃ M2 : Mem, tkR M1 M2 ∧ (¬ M2 7 2 = 0 ∧ M' = M2 ∨ M2 7 2 = 0 ∧ M2 7 6 = 0 ∧ M' = M2 ∨ M2 7 2 = 0 ∧ ¬ M2 7 6 = 0 ∧ rlR M2 M' ∧ ¬ M' 7 2 = 0))
abbrev rm_X5_readLines : Room := { frames := 12, cells := 0, slots := 0, locals := 254 }
theorem cs_X5_readLines : Cv yX5_readLines cX5_readLines 2 (some .int) 0 := ⟨kw_335, ⟨kw_333, kw_334⟩, kw_60, by decide, by decide, by decide +kernel⟩
set_option maxHeartbeats 4000000 in
set_option maxRecDepth 100000 in
theorem c_X5_readLines (l : Launch) (E : Ev) (M : Mem)   : Ct l yX5_readLines cX5_readLines 2 (some .int) rm_X5_readLines E M [.ref (E.1 (7))] (pI (fun z M' => llR M M' z ∧ 0 ≤ z ∧ z ≤ 201)) := by
  refine Ct_of (lv := [(0, .ref (E.1 (7)))]) (by decide) ⟨rfl, rfl⟩ (Nat.le_of_ble_eq_true rfl) rfl (fun x _ B R => ?_)
  refine x_aload_n B dX5_readLines_0 0 rfl rfl ?_
  refine x_getR B (ci := 5) (k := 0) dX5_readLines_1 rfl rfl rfl (by decide) inGX5 kw_121 ?_
  refine x_callV B (st := []) (av := []) dX5_readLines_4 cs_X1_toFirst kw_336 ⟨rfl, rfl, Nat.le_of_ble_eq_true rfl, Nat.le_of_ble_eq_true rfl⟩ rfl rfl (Nat.le_of_ble_eq_true rfl) (rc_obj B (ci := 1) rfl rfl rfl) (c_X1_toFirst _ E _ 8 (by decide)) (k_v (fun M4 hz4 => ?_))
  subst hz4
  refine x_aload_n B dX5_readLines_7 0 rfl rfl ?_
  refine x_iconst B dX5_readLines_8 ?_
  refine x_put B (ci := 5) (k := 2) (lo := 0) (hi := 4) (ty := .int) dX5_readLines_9 rfl rfl rfl (by decide) inGX5 tyX5_ok nmX5 kw_125 rfl (by decide +kernel) (nar_i _) (fit_i _) rfl (by omega) (by omega) ?_
  refine x_aload_n B dX5_readLines_12 0 rfl rfl ?_
  refine x_iconst B dX5_readLines_13 ?_
  refine x_put B (ci := 5) (k := 3) (lo := 0) (hi := 200) (ty := .int) dX5_readLines_14 rfl rfl rfl (by decide) inGX5 tyX5_ok nmX5 kw_127 rfl (by decide +kernel) (nar_i _) (fit_i _) rfl (by omega) (by omega) ?_
  refine x_aload_n B dX5_readLines_17 0 rfl rfl ?_
  refine x_iconst B dX5_readLines_18 ?_
  refine x_put B (ci := 5) (k := 5) (lo := 0) (hi := 200) (ty := .int) dX5_readLines_19 rfl rfl rfl (by decide) inGX5 tyX5_ok nmX5 kw_130 rfl (by decide +kernel) (nar_i _) (fit_i _) rfl (by omega) (by omega) ?_
  refine x_aload_n B dX5_readLines_22 0 rfl rfl ?_
  refine x_iconst B dX5_readLines_23 ?_
  refine x_put B (ci := 5) (k := 9) (lo := 0) (hi := 65535) (ty := .int) dX5_readLines_24 rfl rfl rfl (by decide) inGX5 tyX5_ok nmX5 kw_134 rfl (by decide +kernel) (nar_i _) (fit_i _) rfl (by omega) (by omega) ?_
  refine x_aload_n B dX5_readLines_27 0 rfl rfl ?_
  refine x_iconst B dX5_readLines_28 ?_
  refine x_put B (ci := 5) (k := 10) (lo := 0) (hi := 65535) (ty := .int) dX5_readLines_29 rfl rfl rfl (by decide) inGX5 tyX5_ok nmX5 kw_135 rfl (by decide +kernel) (nar_i _) (fit_i _) rfl (by omega) (by omega) ?_
  refine x_iconst B dX5_readLines_32 ?_
  refine x_istore_n B dX5_readLines_33 [1, 0] rfl (by decide) (lv' := [(0, .ref (E.1 (7))), (1, .int (iI (0)))]) rfl ?_
  have L34 : ∀ (k : Int) (M1 : Mem), (0 ≤ k ∧ k ≤ 201 ∧ lnK (rs0 M) k.toNat M1) → Vx x E M1 34 [(0, .ref (E.1 (7))), (1, .int (iI (k)))] [] := by
    refine lo2 _ _ (fun k M1 => (201 - k).toNat) ?_
    intro k M1 hI ih34
    obtain ⟨i1, i2, i3⟩ := hI
    refine x_iload_n B dX5_readLines_34 1 rfl rfl ?_
    refine x_sipush B dX5_readLines_35 rfl ?_
    refine x_icmp_gt B (tgt := 82) dX5_readLines_38 (by decide) ⟨by omega, by omega⟩ ⟨by omega, by omega⟩ (fun c38 => ?_) (fun c38 => ?_)
    · show Vx x E M1 82 [(0, .ref (E.1 (7))), (1, .int (iI (k)))] []
      refine x_iload_n B dX5_readLines_82 1 rfl rfl ?_
      exact r_i B R dX5_readLines_83 (⟨⟨M1, i3, Or.inl ⟨by omega, rfl⟩⟩, by omega, by omega⟩)
    · show Vx x E M1 41 [(0, .ref (E.1 (7))), (1, .int (iI (k)))] []
      refine x_aload_n B dX5_readLines_41 0 rfl rfl ?_
      refine x_callV B (st := []) (av := []) dX5_readLines_42 cs_X5_takeToken kw_337 ⟨rfl, rfl, Nat.le_of_ble_eq_true rfl, Nat.le_of_ble_eq_true rfl⟩ rfl rfl (Nat.le_of_ble_eq_true rfl) (rc_obj B (ci := 5) rfl rfl rfl) (c_X5_takeToken _ E _ ) (k_v (fun M42 hz42 => ?_))
      refine x_aload_n B dX5_readLines_45 0 rfl rfl ?_
      refine x_getI B (ci := 5) (k := 2) (lo := 0) (hi := 4) dX5_readLines_46 rfl rfl rfl (by decide) inGX5 kw_125 rfl (fun z46 ez46 lz46 uz46 => ?_)
      have e46 := Is_e ez46
      refine x_if_ne B (tgt := 82) dX5_readLines_49 (by decide) ⟨by omega, by omega⟩ (fun c49 => ?_) (fun c49 => ?_)
      · show Vx x E M42 82 [(0, .ref (E.1 (7))), (1, .int (iI (k)))] []
        refine x_iload_n B dX5_readLines_82 1 rfl rfl ?_
        exact r_i B R dX5_readLines_83 (⟨⟨M1, i3, Or.inr ⟨by omega, M42, hz42, Or.inl ⟨by rw [← e46]; exact c49, rfl⟩⟩⟩, by omega, by omega⟩)
      · show Vx x E M42 52 [(0, .ref (E.1 (7))), (1, .int (iI (k)))] []
        refine x_aload_n B dX5_readLines_52 0 rfl rfl ?_
        refine x_getI B (ci := 5) (k := 6) (lo := 0) (hi := 3) dX5_readLines_53 rfl rfl rfl (by decide) inGX5 kw_131 rfl (fun z53 ez53 lz53 uz53 => ?_)
        have e53 := Is_e ez53
        refine x_if_ne B (tgt := 62) dX5_readLines_56 (by decide) ⟨by omega, by omega⟩ (fun c56 => ?_) (fun c56 => ?_)
        · show Vx x E M42 62 [(0, .ref (E.1 (7))), (1, .int (iI (k)))] []
          refine x_aload_n B dX5_readLines_62 0 rfl rfl ?_
          refine x_callV B (st := []) (av := []) dX5_readLines_63 cs_X5_readLine kw_434 ⟨rfl, rfl, Nat.le_of_ble_eq_true rfl, Nat.le_of_ble_eq_true rfl⟩ rfl rfl (Nat.le_of_ble_eq_true rfl) (rc_obj B (ci := 5) rfl rfl rfl) (c_X5_readLine _ E _ ) (k_v (fun M63 hz63 => ?_))
          refine x_aload_n B dX5_readLines_66 0 rfl rfl ?_
          refine x_getI B (ci := 5) (k := 2) (lo := 0) (hi := 4) dX5_readLines_67 rfl rfl rfl (by decide) inGX5 kw_125 rfl (fun z67 ez67 lz67 uz67 => ?_)
          have e67 := Is_e ez67
          refine x_if_eq B (tgt := 76) dX5_readLines_70 (by decide) ⟨by omega, by omega⟩ (fun c70 => ?_) (fun c70 => ?_)
          · show Vx x E M63 76 [(0, .ref (E.1 (7))), (1, .int (iI (k)))] []
            refine x_iinc B (q := 1) dX5_readLines_76 rfl [1, 0] (by decide) (lv' := [(0, .ref (E.1 (7))), (1, .int (iI (k + 1)))]) rfl ?_
            refine x_goto B (tgt := 34) dX5_readLines_79 (by decide) ?_
            exact ih34 (k + 1) M63 (⟨by omega, by omega, lnK_s i1 i3 hz42 (by rw [← e46]; omega) (by rw [← e53]; exact c56) hz63 (by rw [← e67]; exact c70)⟩) (by omega)
          · show Vx x E M63 73 [(0, .ref (E.1 (7))), (1, .int (iI (k)))] []
            refine x_goto B (tgt := 82) dX5_readLines_73 (by decide) ?_
            refine x_iload_n B dX5_readLines_82 1 rfl rfl ?_
            exact r_i B R dX5_readLines_83 (⟨⟨M1, i3, Or.inr ⟨by omega, M42, hz42, Or.inr (Or.inr ⟨by rw [← e46]; omega, by rw [← e53]; exact c56, hz63, by rw [← e67]; exact c70⟩)⟩⟩, by omega, by omega⟩)
        · show Vx x E M42 59 [(0, .ref (E.1 (7))), (1, .int (iI (k)))] []
          refine x_goto B (tgt := 82) dX5_readLines_59 (by decide) ?_
          refine x_iload_n B dX5_readLines_82 1 rfl rfl ?_
          exact r_i B R dX5_readLines_83 (⟨⟨M1, i3, Or.inr ⟨by omega, M42, hz42, Or.inr (Or.inl ⟨by rw [← e46]; omega, by rw [← e53]; omega, rfl⟩)⟩⟩, by omega, by omega⟩)
  exact L34 0 (rs0 M) (⟨by omega, by omega, rfl⟩)
def txR (M M' : Mem) (z : Int) : Prop := ∃ (M1 : Mem) (k : Int), llR M M1 k ∧ (0 ≤ k ∧ k ≤ 201) ∧ (¬ M1 7 2 = 0 ∧ z = -10 - M1 7 3 ∧ M' = sto M1 7 1 0 ∨ M1 7 2 = 0 ∧ z = k ∧ M' = cpyM (cpyM (sto M1 7 1 0) (1 + 1) 12 (M1 (8 + 1))) (1 + 2) 16 (M1 (8 + 2)))
abbrev rm_X7_text : Room := { frames := 13, cells := 0, slots := 0, locals := 275 }
theorem cs_X7_text : Cv yX7_text cX7_text 2 (some .int) 0 := ⟨kw_331, ⟨kw_329, kw_330⟩, kw_56, by decide, by decide, by decide +kernel⟩
set_option maxHeartbeats 4000000 in
set_option maxRecDepth 100000 in
theorem c_X7_text (l : Launch) (E : Ev) (M : Mem)   : Ct l yX7_text cX7_text 2 (some .int) rm_X7_text E M [.ref (E.1 (0))] (pI (fun z M' => txR M M' z)) := by
  refine Ct_of (lv := [(0, .ref (E.1 (0)))]) (by decide) ⟨rfl, rfl⟩ (Nat.le_of_ble_eq_true rfl) rfl (fun x _ B R => ?_)
  refine x_aload_n B dX7_text_0 0 rfl rfl ?_
  refine x_getR B (ci := 7) (k := 2) dX7_text_1 rfl rfl rfl (by decide) inGX7 kw_272 ?_
  refine x_callV B (st := []) (av := []) dX7_text_4 cs_X5_readLines kw_332 ⟨rfl, rfl, Nat.le_of_ble_eq_true rfl, Nat.le_of_ble_eq_true rfl⟩ rfl rfl (Nat.le_of_ble_eq_true rfl) (rc_obj B (ci := 5) rfl rfl rfl) (c_X5_readLines _ E _ ) (k_i (fun z4 M4 hz4 => ?_))
  refine x_istore_n B dX7_text_7 [1, 0] rfl (by decide) (lv' := [(0, .ref (E.1 (0))), (1, .int (iI (z4)))]) rfl ?_
  have hk0 := hz4.2.1
  have hk1 := hz4.2.2
  refine x_aload_n B dX7_text_8 0 rfl rfl ?_
  refine x_getR B (ci := 7) (k := 2) dX7_text_9 rfl rfl rfl (by decide) inGX7 kw_272 ?_
  refine x_iconst B dX7_text_12 ?_
  refine x_put B (ci := 5) (k := 1) (lo := 0) (hi := 200) (ty := .int) dX7_text_13 rfl rfl rfl (by decide) inGX5 tyX5_ok nmX5 kw_124 rfl (by decide +kernel) (nar_i _) (fit_i _) rfl (by omega) (by omega) ?_
  refine x_aload_n B dX7_text_16 0 rfl rfl ?_
  refine x_getR B (ci := 7) (k := 2) dX7_text_17 rfl rfl rfl (by decide) inGX7 kw_272 ?_
  refine x_getI B (ci := 5) (k := 2) (lo := 0) (hi := 4) dX7_text_20 rfl rfl rfl (by decide) inGX5 kw_126 rfl (fun z20 ez20 lz20 uz20 => ?_)
  have e20 : z20 = M4 7 2 := Is_e ez20
  refine x_if_eq B (tgt := 37) dX7_text_23 (by decide) ⟨by omega, by omega⟩ (fun c23 => ?_) (fun c23 => ?_)
  · show Vx x E (sto M4 7 1 0) 37 [(0, .ref (E.1 (0))), (1, .int (iI (z4)))] []
    refine x_aload_n B dX7_text_37 0 rfl rfl ?_
    refine x_getR B (ci := 7) (k := 0) dX7_text_38 rfl rfl rfl (by decide) inGX7 kw_270 ?_
    refine x_aload_n B dX7_text_41 0 rfl rfl ?_
    refine x_getR B (ci := 7) (k := 2) dX7_text_42 rfl rfl rfl (by decide) inGX7 kw_272 ?_
    refine x_getR B (ci := 5) (k := 0) dX7_text_45 rfl rfl rfl (by decide) inGX5 kw_122 ?_
    refine x_callV B (st := []) (av := [.ref (E.1 (8))]) dX7_text_48 cs_X1_takeFrom kw_465 ⟨rfl, rfl, Nat.le_of_ble_eq_true rfl, Nat.le_of_ble_eq_true rfl⟩ rfl rfl (Nat.le_of_ble_eq_true rfl) (rc_obj B (ci := 1) rfl rfl rfl) (c_X1_takeFrom _ E _ 1 8 (by decide) (by decide) (by decide)) (k_v (fun M48 hz48 => ?_))
    refine x_iload_n B dX7_text_51 1 rfl rfl ?_
    exact r_i B R dX7_text_52 (⟨M4, z4, hz4.1, ⟨hk0, hk1⟩, Or.inr ⟨by rw [← e20]; exact c23, rfl, by rw [hz48, sto_f _ _ _ _ (by decide), sto_f _ _ _ _ (by decide)]⟩⟩)
  · show Vx x E (sto M4 7 1 0) 26 [(0, .ref (E.1 (0))), (1, .int (iI (z4)))] []
    refine x_bipush B dX7_text_26 rfl ?_
    refine x_aload_n B dX7_text_28 0 rfl rfl ?_
    refine x_getR B (ci := 7) (k := 2) dX7_text_29 rfl rfl rfl (by decide) inGX7 kw_272 ?_
    refine x_getI B (ci := 5) (k := 3) (lo := 0) (hi := 200) dX7_text_32 rfl rfl rfl (by decide) inGX5 kw_128 rfl (fun z32 ez32 lz32 uz32 => ?_)
    have e32 : z32 = M4 7 3 := Is_e ez32
    refine x_isub B dX7_text_35 ?_
    exact r_i B R dX7_text_36 (⟨M4, z4, hz4.1, ⟨hk0, hk1⟩, Or.inl ⟨by rw [← e20]; exact c23, by rw [← e32], rfl⟩⟩)
