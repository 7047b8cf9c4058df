def haM (M : Mem) (sc pl : Int) : Nat → Int := picH (M 80) (64 * sc) pl
def shN (M : Mem) (sc pl : Int) : Nat → Int := picS (M 80) (mV M) (64 * sc) pl
def feM (M : Mem) (sc pl : Int) : Nat → Int := picF (M 80) (mV M) (mL M) (mD M) (64 * sc) pl
def huM (M : Mem) (sc pl : Int) : Nat := picU (M 80) (mV M) (mL M) (mD M) (64 * sc) pl
theorem rV78 : ∀ j, j < 28 → 0 ≤ (rngT 78 j).1 ∧ (rngT 78 j).2 ≤ 65535 := by decide +kernel
def ptM (M : Mem) (sc p w : Int) : Int := ptS (haM M sc (M 71 19)) (shN M sc (M 71 19)) (feM M sc (M 71 19)) (huM M sc (M 71 19)) p w
def flM (M : Mem) (sc w : Int) : Int := flS (feM M sc (M 71 19)) (huM M sc (M 71 19)) w
theorem bK_f0 {c : Nat → Bool} {k : Int} (h0 : 0 ≤ k) (hc : ¬ c k.toNat = true) {a : Int} (ha : Is a ((bK c k.toNat : Nat) : Int)) : Is ((a.toNat ||| (0 : Int).toNat : Nat) : Int) ((bK c (k + 1).toNat : Nat) : Int) := by
  have h := bK_f h0 hc ha
  have h2 := Is_e ha
  rw [show (a.toNat ||| (0 : Int).toNat : Nat) = a.toNat from Nat.or_zero _, Int.toNat_of_nonneg (by rw [h2]; exact Int.natCast_nonneg _)]
  exact h
theorem poB_t {f : Nat → Int} {q : Nat} (h : 0 < f q) : poB f q = true := by unfold poB; rw [decide_eq_true_eq]; exact h
theorem poB_f {f : Nat → Int} {q : Nat} (h : f q ≤ 0) : ¬ poB f q = true := by unfold poB; rw [decide_eq_true_eq]; omega
theorem popN_s {v : Nat} {k : Int} (h0 : 0 ≤ k) : popN v (k + 1).toNat = popN v k.toNat + (v.testBit k.toNat).toNat := by
  rw [show (k + 1).toNat = k.toNat + 1 by omega]
  rfl
/-- an ANSWER is kept -/
def keepN (M : Mem) (sc pl p fe : Int) : Mem := sto (sto (sto (sto (sto M 92 (M 71 37).toNat sc) 93 (M 71 37).toNat pl) 94 (M 71 37).toNat p) 95 (M 71 37).toNat fe) 71 37 (M 71 37 + 1)
def tnM (M : Mem) (sc : Int) (k : Nat) : Nat → Int := tnF (M 80) (mV M) (mL M) (64 * sc) (M 71 19) (M 85) k
abbrev rm_X8_end : Room := { frames := 1, cells := 0, slots := 0, locals := 25 }
theorem cs_X8_end : Cv yX8_end cX8_end 3 (some .int) 1 := ⟨kw_951, ⟨kw_949, kw_950⟩, kw_67, by decide, by decide, by decide +kernel⟩
set_option maxHeartbeats 4000000 in
set_option maxRecDepth 100000 in
theorem c_X8_end (l : Launch) (E : Ev) (M : Mem) (n : Int) (g1 : -2147483648 ≤ n) (g2 : n < 2147483648) : Ct l yX8_end cX8_end 3 (some .int) rm_X8_end E M [.ref (E.1 (71)), .int (iI (n))] (pI (fun z M' => z = -1 ∧ M' = M ∧ ¬ (0 ≤ n ∧ n ≤ M 71 1) ∨ (0 ≤ n ∧ n ≤ M 71 1) ∧ z = M 71 1 ∧ M' = sto M 71 1 n)) := by
  refine Ct_of (lv := [(0, .ref (E.1 (71))), (1, .int (iI (n)))]) (by decide) ⟨rfl, rfl⟩ (Nat.le_of_ble_eq_true rfl) rfl (fun x _ B R => ?_)
  refine x_iload_n B dX8_end_0 1 rfl rfl ?_
  refine x_i2l B dX8_end_1 ⟨by omega, by omega⟩ ?_
  refine x_lconst B (z := 0) dX8_end_2 rfl ?_
  refine x_aload_n B dX8_end_3 0 rfl rfl ?_
  refine x_getI B (ci := 8) (k := 1) (lo := 0) (hi := 200) dX8_end_4 rfl rfl rfl (by decide) inGX8 kw_806 rfl (fun z4 ez4 lz4 uz4 => ?_)
  refine x_i2l B dX8_end_7 ⟨by omega, by omega⟩ ?_
  refine x_callS B (st := []) (av := [.long (iL (n)), .long (iL (0)), .long (iL (z4))]) dX8_end_8 cs_X8_in kw_952 ⟨rfl, rfl, Nat.le_of_ble_eq_true rfl, Nat.le_of_ble_eq_true rfl⟩ rfl rfl (Nat.le_of_ble_eq_true rfl) (c_X8_in _ E _ n 0 z4 (by omega) (by omega) (by omega) (by omega) (by omega) (by omega)) (k_i (fun z8 Mq hz8 => ?_))
  obtain ⟨rfl, hz8⟩ := hz8
  have e4 := Is_e ez4
  refine x_if_ne B (tgt := 16) dX8_end_11 (by decide) ⟨by omega, by omega⟩ (fun c11 => ?_) (fun c11 => ?_)
  · show Vx x E M 16 [(0, .ref (E.1 (71))), (1, .int (iI (n)))] []
    refine x_aload_n B dX8_end_16 0 rfl rfl ?_
    refine x_getI B (ci := 8) (k := 1) (lo := 0) (hi := 200) dX8_end_17 rfl rfl rfl (by decide) inGX8 kw_806 rfl (fun z17 ez17 lz17 uz17 => ?_)
    have e17 := Is_e ez17
    refine x_istore_n B dX8_end_20 [1, 2, 0] rfl (by decide) (lv' := [(0, .ref (E.1 (71))), (1, .int (iI (n))), (2, .int (iI (z17)))]) rfl ?_
    refine x_aload_n B dX8_end_21 0 rfl rfl ?_
    refine x_iload_n B dX8_end_22 1 rfl rfl ?_
    refine x_put B (ci := 8) (k := 1) (lo := 0) (hi := 200) (ty := .int) dX8_end_23 rfl rfl rfl (by decide) inGX8 tyX8_ok nmX8 kw_806 rfl (by decide +kernel) (nar_i _) (fit_i _) rfl (by omega) (by omega) ?_
    refine x_iload_n B dX8_end_26 2 rfl rfl ?_
    exact r_i B R dX8_end_27 (Or.inr ⟨by omega, e17, rfl⟩)
  · show Vx x E M 14 [(0, .ref (E.1 (71))), (1, .int (iI (n)))] []
    refine x_iconst B dX8_end_14 ?_
    exact r_i B R dX8_end_15 (Or.inl ⟨rfl, rfl, by omega⟩)
abbrev rm_X8_fault : Room := { frames := 0, cells := 0, slots := 0, locals := 0 }
theorem cs_X8_fault : Cv yX8_fault cX8_fault 1 (some .int) 0 := ⟨kw_994, ⟨kw_992, kw_993⟩, kw_67, by decide, by decide, by decide +kernel⟩
set_option maxHeartbeats 4000000 in
set_option maxRecDepth 100000 in
theorem c_X8_fault (l : Launch) (E : Ev) (M : Mem)   : Ct l yX8_fault cX8_fault 1 (some .int) rm_X8_fault E M [.ref (E.1 (71))] (pI (fun z M' => M = M' ∧ (z = M 71 2))) := by
  refine Ct_of (lv := [(0, .ref (E.1 (71)))]) (by decide) ⟨rfl, rfl⟩ (Nat.le_of_ble_eq_true rfl) rfl (fun x _ B R => ?_)
  refine x_aload_n B dX8_fault_0 0 rfl rfl ?_
  refine x_getI B (ci := 8) (k := 2) (lo := 0) (hi := 4) dX8_fault_1 rfl rfl rfl (by decide) inGX8 kw_807 rfl (fun z1 ez1 lz1 uz1 => ?_)
  exact r_i B R dX8_fault_4 (⟨rfl, Is_e ez1⟩)
abbrev rm_X8_torn : Room := { frames := 0, cells := 0, slots := 0, locals := 0 }
theorem cs_X8_torn : Cv yX8_torn cX8_torn 1 (some .int) 0 := ⟨kw_1227, ⟨kw_1225, kw_1226⟩, kw_67, by decide, by decide, by decide +kernel⟩
set_option maxHeartbeats 4000000 in
set_option maxRecDepth 100000 in
theorem c_X8_torn (l : Launch) (E : Ev) (M : Mem)   : Ct l yX8_torn cX8_torn 1 (some .int) rm_X8_torn E M [.ref (E.1 (71))] (pI (fun z M' => M = M' ∧ (z = M 71 45))) := by
  refine Ct_of (lv := [(0, .ref (E.1 (71)))]) (by decide) ⟨rfl, rfl⟩ (Nat.le_of_ble_eq_true rfl) rfl (fun x _ B R => ?_)
  refine x_aload_n B dX8_torn_0 0 rfl rfl ?_
  refine x_getI B (ci := 8) (k := 45) (lo := 0) (hi := 3) dX8_torn_1 rfl rfl rfl (by decide) inGX8 kw_850 rfl (fun z1 ez1 lz1 uz1 => ?_)
  exact r_i B R dX8_torn_4 (⟨rfl, Is_e ez1⟩)
abbrev rm_X8_rule : Room := { frames := 1, cells := 0, slots := 0, locals := 25 }
theorem cs_X8_rule : Cv yX8_rule cX8_rule 2 (some .int) 1 := ⟨kw_998, ⟨kw_996, kw_997⟩, kw_67, by decide, by decide, by decide +kernel⟩
set_option maxHeartbeats 4000000 in
set_option maxRecDepth 100000 in
theorem c_X8_rule (l : Launch) (E : Ev) (M : Mem) (w : Int) (g1 : -2147483648 ≤ w) (g2 : w < 2147483648) : Ct l yX8_rule cX8_rule 2 (some .int) rm_X8_rule E M [.ref (E.1 (71)), .int (iI (w))] (pI (fun z M' => M = M' ∧ (0 ≤ w ∧ w < 12 ∧ z = M 78 w.toNat ∨ 20 ≤ w ∧ w < 36 ∧ z = mL M (w - 20).toNat ∨ ¬ (0 ≤ w ∧ w < 12) ∧ ¬ (20 ≤ w ∧ w < 36) ∧ z = -1))) := by
  refine Ct_of (lv := [(0, .ref (E.1 (71))), (1, .int (iI (w)))]) (by decide) ⟨rfl, rfl⟩ (Nat.le_of_ble_eq_true rfl) rfl (fun x _ B R => ?_)
  refine x_iload_n B dX8_rule_0 1 rfl rfl ?_
  refine x_i2l B dX8_rule_1 ⟨by omega, by omega⟩ ?_
  refine x_lconst B (z := 0) dX8_rule_2 rfl ?_
  refine x_ldc2 B (z := 11) dX8_rule_3 kw_999 rfl ?_
  refine x_callS B (st := []) (av := [.long (iL (w)), .long (iL (0)), .long (iL (11))]) dX8_rule_6 cs_X8_in kw_952 ⟨rfl, rfl, Nat.le_of_ble_eq_true rfl, Nat.le_of_ble_eq_true rfl⟩ rfl rfl (Nat.le_of_ble_eq_true rfl) (c_X8_in _ E _ w 0 11 (by omega) (by omega) (by omega) (by omega) (by omega) (by omega)) (k_i (fun z6 Mq hz6 => ?_))
  obtain ⟨rfl, hz6⟩ := hz6
  refine x_if_eq B (tgt := 21) dX8_rule_9 (by decide) ⟨by omega, by omega⟩ (fun c9 => ?_) (fun c9 => ?_)
  · show Vx x E M 21 [(0, .ref (E.1 (71))), (1, .int (iI (w)))] []
    refine x_iload_n B dX8_rule_21 1 rfl rfl ?_
    refine x_i2l B dX8_rule_22 ⟨by omega, by omega⟩ ?_
    refine x_ldc2 B (z := 20) dX8_rule_23 kw_1000 rfl ?_
    refine x_ldc2 B (z := 35) dX8_rule_26 kw_1001 rfl ?_
    refine x_callS B (st := []) (av := [.long (iL (w)), .long (iL (20)), .long (iL (35))]) dX8_rule_29 cs_X8_in kw_952 ⟨rfl, rfl, Nat.le_of_ble_eq_true rfl, Nat.le_of_ble_eq_true rfl⟩ rfl rfl (Nat.le_of_ble_eq_true rfl) (c_X8_in _ E _ w 20 35 (by omega) (by omega) (by omega) (by omega) (by omega) (by omega)) (k_i (fun z29 Mq hz29 => ?_))
    obtain ⟨rfl, hz29⟩ := hz29
    refine x_if_eq B (tgt := 50) dX8_rule_32 (by decide) ⟨by omega, by omega⟩ (fun c32 => ?_) (fun c32 => ?_)
    · show Vx x E M 50 [(0, .ref (E.1 (71))), (1, .int (iI (w)))] []
      refine x_iconst B dX8_rule_50 ?_
      exact r_i B R dX8_rule_51 (⟨rfl, Or.inr (Or.inr ⟨by omega, by omega, rfl⟩)⟩)
    · show Vx x E M 35 [(0, .ref (E.1 (71))), (1, .int (iI (w)))] []
      refine x_aload_n B dX8_rule_35 0 rfl rfl ?_
      refine x_getR B (ci := 8) (k := 14) dX8_rule_36 rfl rfl rfl (by decide) inGX8 kw_819 ?_
      refine x_bipush B dX8_rule_39 rfl ?_
      refine x_iload_n B dX8_rule_41 1 rfl rfl ?_
      refine x_iadd B dX8_rule_42 ?_
      refine x_bipush B dX8_rule_43 rfl ?_
      refine x_isub B dX8_rule_45 ?_
      refine x_ialdW B (lo := 0) (hi := 65535) dX8_rule_46 rfl (by omega) (by omega) (rV78 _ (by omega)) (fun z46 ez46 lz46 uz46 => ?_)
      refine x_goto B (tgt := 51) dX8_rule_47 (by decide) ?_
      exact r_i B R dX8_rule_51 (⟨rfl, Or.inr (Or.inl ⟨by omega, by omega, by show _ = M 78 (12 + (w - 20).toNat); rw [Is_e ez46, show (12 + w - 20).toNat = 12 + (w - 20).toNat by omega]⟩)⟩)
  · show Vx x E M 12 [(0, .ref (E.1 (71))), (1, .int (iI (w)))] []
    refine x_aload_n B dX8_rule_12 0 rfl rfl ?_
    refine x_getR B (ci := 8) (k := 14) dX8_rule_13 rfl rfl rfl (by decide) inGX8 kw_819 ?_
    refine x_iload_n B dX8_rule_16 1 rfl rfl ?_
    refine x_ialdW B (lo := 0) (hi := 65535) dX8_rule_17 rfl (by omega) (by omega) (rV78 _ (by omega)) (fun z17 ez17 lz17 uz17 => ?_)
    refine x_goto B (tgt := 51) dX8_rule_18 (by decide) ?_
    exact r_i B R dX8_rule_51 (⟨rfl, Or.inl ⟨by omega, by omega, Is_e ez17⟩⟩)
abbrev rm_X8_light : Room := { frames := 2, cells := 0, slots := 0, locals := 45 }
theorem cs_X8_light : Cv yX8_light cX8_light 5 (some .int) 3 := ⟨kw_1005, ⟨kw_1003, kw_1004⟩, kw_67, by decide, by decide, by decide +kernel⟩
set_option maxHeartbeats 4000000 in
set_option maxRecDepth 100000 in
theorem c_X8_light (l : Launch) (E : Ev) (M : Mem) (sc ce v : Int) (g1 : -2147483648 ≤ sc) (g2 : sc < 2147483648) (g3 : -2147483648 ≤ ce) (g4 : ce < 2147483648) (g5 : -2147483648 ≤ v) (g6 : v < 2147483648) : Ct l yX8_light cX8_light 5 (some .int) rm_X8_light E M [.ref (E.1 (71)), .int (iI (sc)), .int (iI (ce)), .int (iI (v))] (pI (fun z M' => z = -1 ∧ M' = M ∧ ¬ (0 ≤ sc ∧ sc < 6 ∧ 0 ≤ ce ∧ ce < 64 ∧ 0 ≤ v ∧ v ≤ 9) ∨ (0 ≤ sc ∧ sc < 6 ∧ 0 ≤ ce ∧ ce < 64 ∧ 0 ≤ v ∧ v ≤ 9) ∧ z = M 80 (64 * sc + ce).toNat ∧ M' = sto M 80 (64 * sc + ce).toNat v)) := by
  refine Ct_of (lv := [(0, .ref (E.1 (71))), (1, .int (iI (sc))), (2, .int (iI (ce))), (3, .int (iI (v)))]) (by decide) ⟨rfl, rfl⟩ (Nat.le_of_ble_eq_true rfl) rfl (fun x _ B R => ?_)
  refine x_iload_n B dX8_light_0 1 rfl rfl ?_
  refine x_callS B (st := []) (av := [.int (iI (sc))]) dX8_light_1 cs_X8_isScene kw_1006 ⟨rfl, rfl, Nat.le_of_ble_eq_true rfl, Nat.le_of_ble_eq_true rfl⟩ rfl rfl (Nat.le_of_ble_eq_true rfl) (c_X8_isScene _ E _ sc (by omega) (by omega)) (k_i (fun z1 Mq hz1 => ?_))
  obtain ⟨rfl, hz1⟩ := hz1
  refine x_if_eq B (tgt := 31) dX8_light_4 (by decide) ⟨by omega, by omega⟩ (fun c4 => ?_) (fun c4 => ?_)
  · show Vx x E M 31 [(0, .ref (E.1 (71))), (1, .int (iI (sc))), (2, .int (iI (ce))), (3, .int (iI (v)))] []
    refine x_iconst B dX8_light_31 ?_
    exact r_i B R dX8_light_32 (Or.inl ⟨rfl, rfl, by omega⟩)
  · show Vx x E M 7 [(0, .ref (E.1 (71))), (1, .int (iI (sc))), (2, .int (iI (ce))), (3, .int (iI (v)))] []
    refine x_iload_n B dX8_light_7 2 rfl rfl ?_
    refine x_i2l B dX8_light_8 ⟨by omega, by omega⟩ ?_
    refine x_lconst B (z := 0) dX8_light_9 rfl ?_
    refine x_ldc2 B (z := 63) dX8_light_10 kw_1010 rfl ?_
    refine x_callS B (st := []) (av := [.long (iL (ce)), .long (iL (0)), .long (iL (63))]) dX8_light_13 cs_X8_in kw_952 ⟨rfl, rfl, Nat.le_of_ble_eq_true rfl, Nat.le_of_ble_eq_true rfl⟩ rfl rfl (Nat.le_of_ble_eq_true rfl) (c_X8_in _ E _ ce 0 63 (by omega) (by omega) (by omega) (by omega) (by omega) (by omega)) (k_i (fun z13 Mq hz13 => ?_))
    obtain ⟨rfl, hz13⟩ := hz13
    refine x_if_eq B (tgt := 31) dX8_light_16 (by decide) ⟨by omega, by omega⟩ (fun c16 => ?_) (fun c16 => ?_)
    · show Vx x E M 31 [(0, .ref (E.1 (71))), (1, .int (iI (sc))), (2, .int (iI (ce))), (3, .int (iI (v)))] []
      refine x_iconst B dX8_light_31 ?_
      exact r_i B R dX8_light_32 (Or.inl ⟨rfl, rfl, by omega⟩)
    · show Vx x E M 19 [(0, .ref (E.1 (71))), (1, .int (iI (sc))), (2, .int (iI (ce))), (3, .int (iI (v)))] []
      refine x_iload_n B dX8_light_19 3 rfl rfl ?_
      refine x_i2l B dX8_light_20 ⟨by omega, by omega⟩ ?_
      refine x_lconst B (z := 0) dX8_light_21 rfl ?_
      refine x_ldc2 B (z := 9) dX8_light_22 kw_1011 rfl ?_
      refine x_callS B (st := []) (av := [.long (iL (v)), .long (iL (0)), .long (iL (9))]) dX8_light_25 cs_X8_in kw_952 ⟨rfl, rfl, Nat.le_of_ble_eq_true rfl, Nat.le_of_ble_eq_true rfl⟩ rfl rfl (Nat.le_of_ble_eq_true rfl) (c_X8_in _ E _ v 0 9 (by omega) (by omega) (by omega) (by omega) (by omega) (by omega)) (k_i (fun z25 Mq hz25 => ?_))
      obtain ⟨rfl, hz25⟩ := hz25
      refine x_if_ne B (tgt := 33) dX8_light_28 (by decide) ⟨by omega, by omega⟩ (fun c28 => ?_) (fun c28 => ?_)
      · show Vx x E M 33 [(0, .ref (E.1 (71))), (1, .int (iI (sc))), (2, .int (iI (ce))), (3, .int (iI (v)))] []
        refine x_aload_n B dX8_light_33 0 rfl rfl ?_
        refine x_getR B (ci := 8) (k := 18) dX8_light_34 rfl rfl rfl (by decide) inGX8 kw_823 ?_
        refine x_bipush B dX8_light_37 rfl ?_
        refine x_iload_n B dX8_light_39 1 rfl rfl ?_
        refine x_imul B dX8_light_40 ?_
        refine x_iload_n B dX8_light_41 2 rfl rfl ?_
        refine x_iadd B dX8_light_42 ?_
        refine x_iald B (lo := 0) (hi := 9) dX8_light_43 rfl (by omega) (by omega) rfl (fun z43 ez43 lz43 uz43 => ?_)
        refine x_istore B dX8_light_44 [1, 2, 3, 4, 0] (by decide) (lv' := [(0, .ref (E.1 (71))), (1, .int (iI (sc))), (2, .int (iI (ce))), (3, .int (iI (v))), (4, .int (iI (z43)))]) rfl ?_
        refine x_aload_n B dX8_light_46 0 rfl rfl ?_
        refine x_getR B (ci := 8) (k := 18) dX8_light_47 rfl rfl rfl (by decide) inGX8 kw_823 ?_
        refine x_bipush B dX8_light_50 rfl ?_
        refine x_iload_n B dX8_light_52 1 rfl rfl ?_
        refine x_imul B dX8_light_53 ?_
        refine x_iload_n B dX8_light_54 2 rfl rfl ?_
        refine x_iadd B dX8_light_55 ?_
        refine x_iload_n B dX8_light_56 3 rfl rfl ?_
        refine x_iast B (lo := 0) (hi := 9) dX8_light_57 rfl (by omega) (by omega) rfl (by omega) (by omega) ?_
        refine x_iload B dX8_light_58 4 rfl ?_
        exact r_i B R dX8_light_60 (Or.inr ⟨by omega, Is_e ez43, rfl⟩)
      · show Vx x E M 31 [(0, .ref (E.1 (71))), (1, .int (iI (sc))), (2, .int (iI (ce))), (3, .int (iI (v)))] []
        refine x_iconst B dX8_light_31 ?_
        exact r_i B R dX8_light_32 (Or.inl ⟨rfl, rfl, by omega⟩)
abbrev rm_X8_lightOf : Room := { frames := 2, cells := 0, slots := 0, locals := 45 }
theorem cs_X8_lightOf : Cv yX8_lightOf cX8_lightOf 3 (some .int) 2 := ⟨kw_1015, ⟨kw_1013, kw_1014⟩, kw_67, by decide, by decide, by decide +kernel⟩
set_option maxHeartbeats 4000000 in
set_option maxRecDepth 100000 in
theorem c_X8_lightOf (l : Launch) (E : Ev) (M : Mem) (sc ce : Int) (g1 : -2147483648 ≤ sc) (g2 : sc < 2147483648) (g3 : -2147483648 ≤ ce) (g4 : ce < 2147483648) : Ct l yX8_lightOf cX8_lightOf 3 (some .int) rm_X8_lightOf E M [.ref (E.1 (71)), .int (iI (sc)), .int (iI (ce))] (pI (fun z M' => M = M' ∧ (z = -1 ∧ ¬ (0 ≤ sc ∧ sc < 6 ∧ 0 ≤ ce ∧ ce < 64) ∨ (0 ≤ sc ∧ sc < 6 ∧ 0 ≤ ce ∧ ce < 64) ∧ z = M 80 (64 * sc + ce).toNat))) := by
  refine Ct_of (lv := [(0, .ref (E.1 (71))), (1, .int (iI (sc))), (2, .int (iI (ce)))]) (by decide) ⟨rfl, rfl⟩ (Nat.le_of_ble_eq_true rfl) rfl (fun x _ B R => ?_)
  refine x_iload_n B dX8_lightOf_0 1 rfl rfl ?_
  refine x_callS B (st := []) (av := [.int (iI (sc))]) dX8_lightOf_1 cs_X8_isScene kw_1006 ⟨rfl, rfl, Nat.le_of_ble_eq_true rfl, Nat.le_of_ble_eq_true rfl⟩ rfl rfl (Nat.le_of_ble_eq_true rfl) (c_X8_isScene _ E _ sc (by omega) (by omega)) (k_i (fun z1 Mq hz1 => ?_))
  obtain ⟨rfl, hz1⟩ := hz1
  refine x_if_eq B (tgt := 33) dX8_lightOf_4 (by decide) ⟨by omega, by omega⟩ (fun c4 => ?_) (fun c4 => ?_)
  · show Vx x E M 33 [(0, .ref (E.1 (71))), (1, .int (iI (sc))), (2, .int (iI (ce)))] []
    refine x_iconst B dX8_lightOf_33 ?_
    exact r_i B R dX8_lightOf_34 (⟨rfl, Or.inl ⟨rfl, by omega⟩⟩)
  · show Vx x E M 7 [(0, .ref (E.1 (71))), (1, .int (iI (sc))), (2, .int (iI (ce)))] []
    refine x_iload_n B dX8_lightOf_7 2 rfl rfl ?_
    refine x_i2l B dX8_lightOf_8 ⟨by omega, by omega⟩ ?_
    refine x_lconst B (z := 0) dX8_lightOf_9 rfl ?_
    refine x_ldc2 B (z := 63) dX8_lightOf_10 kw_1010 rfl ?_
    refine x_callS B (st := []) (av := [.long (iL (ce)), .long (iL (0)), .long (iL (63))]) dX8_lightOf_13 cs_X8_in kw_952 ⟨rfl, rfl, Nat.le_of_ble_eq_true rfl, Nat.le_of_ble_eq_true rfl⟩ rfl rfl (Nat.le_of_ble_eq_true rfl) (c_X8_in _ E _ ce 0 63 (by omega) (by omega) (by omega) (by omega) (by omega) (by omega)) (k_i (fun z13 Mq hz13 => ?_))
    obtain ⟨rfl, hz13⟩ := hz13
    refine x_if_eq B (tgt := 33) dX8_lightOf_16 (by decide) ⟨by omega, by omega⟩ (fun c16 => ?_) (fun c16 => ?_)
    · show Vx x E M 33 [(0, .ref (E.1 (71))), (1, .int (iI (sc))), (2, .int (iI (ce)))] []
      refine x_iconst B dX8_lightOf_33 ?_
      exact r_i B R dX8_lightOf_34 (⟨rfl, Or.inl ⟨rfl, by omega⟩⟩)
    · show Vx x E M 19 [(0, .ref (E.1 (71))), (1, .int (iI (sc))), (2, .int (iI (ce)))] []
      refine x_aload_n B dX8_lightOf_19 0 rfl rfl ?_
      refine x_getR B (ci := 8) (k := 18) dX8_lightOf_20 rfl rfl rfl (by decide) inGX8 kw_823 ?_
      refine x_bipush B dX8_lightOf_23 rfl ?_
      refine x_iload_n B dX8_lightOf_25 1 rfl rfl ?_
      refine x_imul B dX8_lightOf_26 ?_
      refine x_iload_n B dX8_lightOf_27 2 rfl rfl ?_
      refine x_iadd B dX8_lightOf_28 ?_
      refine x_iald B (lo := 0) (hi := 9) dX8_lightOf_29 rfl (by omega) (by omega) rfl (fun z29 ez29 lz29 uz29 => ?_)
      refine x_goto B (tgt := 34) dX8_lightOf_30 (by decide) ?_
      exact r_i B R dX8_lightOf_34 (⟨rfl, Or.inr ⟨by omega, Is_e ez29⟩⟩)
abbrev rm_X8_place : Room := { frames := 1, cells := 0, slots := 0, locals := 25 }
theorem cs_X8_place : Cv yX8_place cX8_place 3 (some .int) 1 := ⟨kw_1024, ⟨kw_1022, kw_1023⟩, kw_67, by decide, by decide, by decide +kernel⟩
set_option maxHeartbeats 4000000 in
set_option maxRecDepth 100000 in
theorem c_X8_place (l : Launch) (E : Ev) (M : Mem) (p : Int) (g1 : -2147483648 ≤ p) (g2 : p < 2147483648) : Ct l yX8_place cX8_place 3 (some .int) rm_X8_place E M [.ref (E.1 (71)), .int (iI (p))] (pI (fun z M' => z = -1 ∧ M' = M ∧ ¬ (0 ≤ p ∧ p < 26) ∨ (0 ≤ p ∧ p < 26) ∧ z = M 71 19 ∧ M' = sto M 71 19 p)) := by
  refine Ct_of (lv := [(0, .ref (E.1 (71))), (1, .int (iI (p)))]) (by decide) ⟨rfl, rfl⟩ (Nat.le_of_ble_eq_true rfl) rfl (fun x _ B R => ?_)
  refine x_iload_n B dX8_place_0 1 rfl rfl ?_
  refine x_i2l B dX8_place_1 ⟨by omega, by omega⟩ ?_
  refine x_lconst B (z := 0) dX8_place_2 rfl ?_
  refine x_ldc2 B (z := 25) dX8_place_3 kw_1025 rfl ?_
  refine x_callS B (st := []) (av := [.long (iL (p)), .long (iL (0)), .long (iL (25))]) dX8_place_6 cs_X8_in kw_952 ⟨rfl, rfl, Nat.le_of_ble_eq_true rfl, Nat.le_of_ble_eq_true rfl⟩ rfl rfl (Nat.le_of_ble_eq_true rfl) (c_X8_in _ E _ p 0 25 (by omega) (by omega) (by omega) (by omega) (by omega) (by omega)) (k_i (fun z6 Mq hz6 => ?_))
  obtain ⟨rfl, hz6⟩ := hz6
  refine x_if_ne B (tgt := 14) dX8_place_9 (by decide) ⟨by omega, by omega⟩ (fun c9 => ?_) (fun c9 => ?_)
  · show Vx x E M 14 [(0, .ref (E.1 (71))), (1, .int (iI (p)))] []
    refine x_aload_n B dX8_place_14 0 rfl rfl ?_
    refine x_getI B (ci := 8) (k := 19) (lo := 0) (hi := 25) dX8_place_15 rfl rfl rfl (by decide) inGX8 kw_824 rfl (fun z15 ez15 lz15 uz15 => ?_)
    refine x_istore_n B dX8_place_18 [1, 2, 0] rfl (by decide) (lv' := [(0, .ref (E.1 (71))), (1, .int (iI (p))), (2, .int (iI (z15)))]) rfl ?_
    refine x_aload_n B dX8_place_19 0 rfl rfl ?_
    refine x_iload_n B dX8_place_20 1 rfl rfl ?_
    refine x_put B (ci := 8) (k := 19) (lo := 0) (hi := 25) (ty := .int) dX8_place_21 rfl rfl rfl (by decide) inGX8 tyX8_ok nmX8 kw_824 rfl (by decide +kernel) (nar_i _) (fit_i _) rfl (by omega) (by omega) ?_
    refine x_iload_n B dX8_place_24 2 rfl rfl ?_
    exact r_i B R dX8_place_25 (Or.inr ⟨by omega, Is_e ez15, rfl⟩)
  · show Vx x E M 12 [(0, .ref (E.1 (71))), (1, .int (iI (p)))] []
    refine x_iconst B dX8_place_12 ?_
    exact r_i B R dX8_place_13 (Or.inl ⟨rfl, rfl, by omega⟩)
abbrev rm_X8_leads : Room := { frames := 1, cells := 0, slots := 0, locals := 25 }
theorem cs_X8_leads : Cv yX8_leads cX8_leads 3 (some .int) 2 := ⟨kw_1029, ⟨kw_1027, kw_1028⟩, kw_67, by decide, by decide, by decide +kernel⟩
set_option maxHeartbeats 4000000 in
set_option maxRecDepth 100000 in
theorem c_X8_leads (l : Launch) (E : Ev) (M : Mem) (p m : Int) (g1 : -2147483648 ≤ p) (g2 : p < 2147483648) (g3 : -2147483648 ≤ m) (g4 : m < 2147483648) : Ct l yX8_leads cX8_leads 3 (some .int) rm_X8_leads E M [.ref (E.1 (71)), .int (iI (p)), .int (iI (m))] (pI (fun z M' => M = M' ∧ (z = -1 ∧ ¬ (0 ≤ p ∧ p < 26 ∧ 0 ≤ m ∧ m < 6) ∨ (0 ≤ p ∧ p < 26 ∧ 0 ≤ m ∧ m < 6) ∧ z = mvT p m))) := by
  refine Ct_of (lv := [(0, .ref (E.1 (71))), (1, .int (iI (p))), (2, .int (iI (m)))]) (by decide) ⟨rfl, rfl⟩ (Nat.le_of_ble_eq_true rfl) rfl (fun x _ B R => ?_)
  refine x_iload_n B dX8_leads_0 1 rfl rfl ?_
  refine x_i2l B dX8_leads_1 ⟨by omega, by omega⟩ ?_
  refine x_lconst B (z := 0) dX8_leads_2 rfl ?_
  refine x_ldc2 B (z := 25) dX8_leads_3 kw_1025 rfl ?_
  refine x_callS B (st := []) (av := [.long (iL (p)), .long (iL (0)), .long (iL (25))]) dX8_leads_6 cs_X8_in kw_952 ⟨rfl, rfl, Nat.le_of_ble_eq_true rfl, Nat.le_of_ble_eq_true rfl⟩ rfl rfl (Nat.le_of_ble_eq_true rfl) (c_X8_in _ E _ p 0 25 (by omega) (by omega) (by omega) (by omega) (by omega) (by omega)) (k_i (fun z6 Mq hz6 => ?_))
  obtain ⟨rfl, hz6⟩ := hz6
  refine x_if_eq B (tgt := 32) dX8_leads_9 (by decide) ⟨by omega, by omega⟩ (fun c9 => ?_) (fun c9 => ?_)
  · show Vx x E M 32 [(0, .ref (E.1 (71))), (1, .int (iI (p))), (2, .int (iI (m)))] []
    refine x_iconst B dX8_leads_32 ?_
    exact r_i B R dX8_leads_33 (⟨rfl, Or.inl ⟨rfl, by omega⟩⟩)
  · show Vx x E M 12 [(0, .ref (E.1 (71))), (1, .int (iI (p))), (2, .int (iI (m)))] []
    refine x_iload_n B dX8_leads_12 2 rfl rfl ?_
    refine x_i2l B dX8_leads_13 ⟨by omega, by omega⟩ ?_
    refine x_lconst B (z := 0) dX8_leads_14 rfl ?_
    refine x_ldc2 B (z := 5) dX8_leads_15 kw_1009 rfl ?_
    refine x_callS B (st := []) (av := [.long (iL (m)), .long (iL (0)), .long (iL (5))]) dX8_leads_18 cs_X8_in kw_952 ⟨rfl, rfl, Nat.le_of_ble_eq_true rfl, Nat.le_of_ble_eq_true rfl⟩ rfl rfl (Nat.le_of_ble_eq_true rfl) (c_X8_in _ E _ m 0 5 (by omega) (by omega) (by omega) (by omega) (by omega) (by omega)) (k_i (fun z18 Mq hz18 => ?_))
    obtain ⟨rfl, hz18⟩ := hz18
    refine x_if_eq B (tgt := 32) dX8_leads_21 (by decide) ⟨by omega, by omega⟩ (fun c21 => ?_) (fun c21 => ?_)
    · show Vx x E M 32 [(0, .ref (E.1 (71))), (1, .int (iI (p))), (2, .int (iI (m)))] []
      refine x_iconst B dX8_leads_32 ?_
      exact r_i B R dX8_leads_33 (⟨rfl, Or.inl ⟨rfl, by omega⟩⟩)
    · show Vx x E M 24 [(0, .ref (E.1 (71))), (1, .int (iI (p))), (2, .int (iI (m)))] []
      refine x_iload_n B dX8_leads_24 1 rfl rfl ?_
      refine x_iload_n B dX8_leads_25 2 rfl rfl ?_
      refine x_callS B (st := []) (av := [.int (iI (p)), .int (iI (m))]) dX8_leads_26 cs_X8_ledTo kw_1030 ⟨rfl, rfl, Nat.le_of_ble_eq_true rfl, Nat.le_of_ble_eq_true rfl⟩ rfl rfl (Nat.le_of_ble_eq_true rfl) (c_X8_ledTo _ E _ p m (by omega) (by omega) (by omega) (by omega)) (k_i (fun z26 Mq hz26 => ?_))
      obtain ⟨rfl, hz26⟩ := hz26
      refine x_goto B (tgt := 33) dX8_leads_29 (by decide) ?_
      exact r_i B R dX8_leads_33 (⟨rfl, Or.inr ⟨by omega, hz26⟩⟩)
abbrev rm_X8_point : Room := { frames := 4, cells := 0, slots := 0, locals := 101 }
theorem cs_X8_point : Cv yX8_point cX8_point 4 (some .int) 3 := ⟨kw_1036, ⟨kw_1034, kw_1035⟩, kw_67, by decide, by decide, by decide +kernel⟩
set_option maxHeartbeats 4000000 in
set_option maxRecDepth 100000 in
theorem c_X8_point (l : Launch) (E : Ev) (M : Mem) (sc p w : Int) (g1 : -2147483648 ≤ sc) (g2 : sc < 2147483648) (g3 : -2147483648 ≤ p) (g4 : p < 2147483648) (g5 : -2147483648 ≤ w) (g6 : w < 2147483648) : Ct l yX8_point cX8_point 4 (some .int) rm_X8_point E M [.ref (E.1 (71)), .int (iI (sc)), .int (iI (p)), .int (iI (w))] (pI (fun z M' => z = -1 ∧ M' = M ∧ ¬ (0 ≤ sc ∧ sc < 6 ∧ 0 ≤ p ∧ p < 16 ∧ 0 ≤ w ∧ w < 4) ∨ (0 ≤ sc ∧ sc < 6 ∧ 0 ≤ p ∧ p < 16 ∧ 0 ≤ w ∧ w < 4) ∧ z = ptM M sc p w ∧ ofS [81, 82, 83, 84] M M')) := by
  refine Ct_of (lv := [(0, .ref (E.1 (71))), (1, .int (iI (sc))), (2, .int (iI (p))), (3, .int (iI (w)))]) (by decide) ⟨rfl, rfl⟩ (Nat.le_of_ble_eq_true rfl) rfl (fun x _ B R => ?_)
  refine x_iload_n B dX8_point_0 1 rfl rfl ?_
  refine x_callS B (st := []) (av := [.int (iI (sc))]) dX8_point_1 cs_X8_isScene kw_1006 ⟨rfl, rfl, Nat.le_of_ble_eq_true rfl, Nat.le_of_ble_eq_true rfl⟩ rfl rfl (Nat.le_of_ble_eq_true rfl) (c_X8_isScene _ E _ sc (by omega) (by omega)) (k_i (fun z1 Mq hz1 => ?_))
  obtain ⟨rfl, hz1⟩ := hz1
  refine x_if_eq B (tgt := 26) dX8_point_4 (by decide) ⟨by omega, by omega⟩ (fun c4 => ?_) (fun c4 => ?_)
  · show Vx x E M 26 [(0, .ref (E.1 (71))), (1, .int (iI (sc))), (2, .int (iI (p))), (3, .int (iI (w)))] []
    refine x_iconst B dX8_point_26 ?_
    exact r_i B R dX8_point_27 (Or.inl ⟨rfl, rfl, by omega⟩)
  · show Vx x E M 7 [(0, .ref (E.1 (71))), (1, .int (iI (sc))), (2, .int (iI (p))), (3, .int (iI (w)))] []
    refine x_iload_n B dX8_point_7 2 rfl rfl ?_
    refine x_callS B (st := []) (av := [.int (iI (p))]) dX8_point_8 cs_X8_isPoint kw_1037 ⟨rfl, rfl, Nat.le_of_ble_eq_true rfl, Nat.le_of_ble_eq_true rfl⟩ rfl rfl (Nat.le_of_ble_eq_true rfl) (c_X8_isPoint _ E _ p (by omega) (by omega)) (k_i (fun z8 Mq hz8 => ?_))
    obtain ⟨rfl, hz8⟩ := hz8
    refine x_if_eq B (tgt := 26) dX8_point_11 (by decide) ⟨by omega, by omega⟩ (fun c11 => ?_) (fun c11 => ?_)
    · show Vx x E M 26 [(0, .ref (E.1 (71))), (1, .int (iI (sc))), (2, .int (iI (p))), (3, .int (iI (w)))] []
      refine x_iconst B dX8_point_26 ?_
      exact r_i B R dX8_point_27 (Or.inl ⟨rfl, rfl, by omega⟩)
    · show Vx x E M 14 [(0, .ref (E.1 (71))), (1, .int (iI (sc))), (2, .int (iI (p))), (3, .int (iI (w)))] []
      refine x_iload_n B dX8_point_14 3 rfl rfl ?_
      refine x_i2l B dX8_point_15 ⟨by omega, by omega⟩ ?_
      refine x_lconst B (z := 0) dX8_point_16 rfl ?_
      refine x_ldc2 B (z := 3) dX8_point_17 kw_1041 rfl ?_
      refine x_callS B (st := []) (av := [.long (iL (w)), .long (iL (0)), .long (iL (3))]) dX8_point_20 cs_X8_in kw_952 ⟨rfl, rfl, Nat.le_of_ble_eq_true rfl, Nat.le_of_ble_eq_true rfl⟩ rfl rfl (Nat.le_of_ble_eq_true rfl) (c_X8_in _ E _ w 0 3 (by omega) (by omega) (by omega) (by omega) (by omega) (by omega)) (k_i (fun z20 Mq hz20 => ?_))
      obtain ⟨rfl, hz20⟩ := hz20
      refine x_if_ne B (tgt := 28) dX8_point_23 (by decide) ⟨by omega, by omega⟩ (fun c23 => ?_) (fun c23 => ?_)
      · show Vx x E M 28 [(0, .ref (E.1 (71))), (1, .int (iI (sc))), (2, .int (iI (p))), (3, .int (iI (w)))] []
        refine x_aload_n B dX8_point_28 0 rfl rfl ?_
        refine x_iload_n B dX8_point_29 1 rfl rfl ?_
        refine x_aload_n B dX8_point_30 0 rfl rfl ?_
        refine x_getI B (ci := 8) (k := 19) (lo := 0) (hi := 25) dX8_point_31 rfl rfl rfl (by decide) inGX8 kw_824 rfl (fun z31 ez31 lz31 uz31 => ?_)
        refine x_callV B (st := []) (av := [.int (iI (sc)), .int (iI (z31))]) dX8_point_34 cs_X8_layFelt kw_1042 ⟨rfl, rfl, Nat.le_of_ble_eq_true rfl, Nat.le_of_ble_eq_true rfl⟩ rfl rfl (Nat.le_of_ble_eq_true rfl) (rc_obj B (ci := 8) rfl rfl rfl) (c_X8_layFelt _ E _ sc z31 (by omega) (by omega) (by omega) (by omega)) (k_v (fun M34 hz34 => ?_))
        rw [Is_e ez31] at hz34
        obtain ⟨hof, s1, s2, s3, s4⟩ := hz34
        refine x_iload_n B dX8_point_37 3 rfl rfl ?_
        refine x_if_ne B (tgt := 50) dX8_point_38 (by decide) ⟨by omega, by omega⟩ (fun c38 => ?_) (fun c38 => ?_)
        · show Vx x E M34 50 [(0, .ref (E.1 (71))), (1, .int (iI (sc))), (2, .int (iI (p))), (3, .int (iI (w)))] []
          refine x_iload_n B dX8_point_50 3 rfl rfl ?_
          refine x_iconst B dX8_point_51 ?_
          refine x_icmp_ne B (tgt := 64) dX8_point_52 (by decide) ⟨by omega, by omega⟩ ⟨by omega, by omega⟩ (fun c52 => ?_) (fun c52 => ?_)
          · show Vx x E M34 64 [(0, .ref (E.1 (71))), (1, .int (iI (sc))), (2, .int (iI (p))), (3, .int (iI (w)))] []
            refine x_iload_n B dX8_point_64 3 rfl rfl ?_
            refine x_iconst B dX8_point_65 ?_
            refine x_icmp_ne B (tgt := 78) dX8_point_66 (by decide) ⟨by omega, by omega⟩ ⟨by omega, by omega⟩ (fun c66 => ?_) (fun c66 => ?_)
            · show Vx x E M34 78 [(0, .ref (E.1 (71))), (1, .int (iI (sc))), (2, .int (iI (p))), (3, .int (iI (w)))] []
              refine x_aload_n B dX8_point_78 0 rfl rfl ?_
              refine x_getI B (ci := 8) (k := 24) (lo := 0) (hi := 65535) dX8_point_79 rfl rfl rfl (by decide) inGX8 kw_829 rfl (fun z79 ez79 lz79 uz79 => ?_)
              refine x_iload_n B dX8_point_82 2 rfl rfl ?_
              refine x_ishr B dX8_point_83 (by omega) ⟨by omega, by omega⟩ (by omega) (by omega) ?_
              refine x_iconst B dX8_point_84 ?_
              refine x_iand B dX8_point_85 (Int.natCast_nonneg _) (by omega) ?_
              exact r_i B R dX8_point_86 (Or.inr ⟨by omega, by unfold ptM ptS; rw [if_neg (by omega), if_neg (by omega), if_neg (by omega)]; have b86 := bit_v z79.toNat p.toNat; have e79 : z79.toNat = huM M sc (M 71 19) := by {rw [Is_e ez79, Is_e s4]; exact Int.toNat_natCast _}; rw [← e79]; rcases b86 with ⟨h5, h6⟩ | ⟨h5, h6⟩; (rw [if_pos h6]; exact h5); (rw [if_neg (by rw [h6]; decide)]; exact h5), hof⟩)
            · show Vx x E M34 69 [(0, .ref (E.1 (71))), (1, .int (iI (sc))), (2, .int (iI (p))), (3, .int (iI (w)))] []
              refine x_aload_n B dX8_point_69 0 rfl rfl ?_
              refine x_getR B (ci := 8) (k := 23) dX8_point_70 rfl rfl rfl (by decide) inGX8 kw_828 ?_
              refine x_iload_n B dX8_point_73 2 rfl rfl ?_
              refine x_iald B (lo := 0) (hi := 9) dX8_point_74 rfl (by omega) (by omega) rfl (fun z74 ez74 lz74 uz74 => ?_)
              refine x_goto B (tgt := 86) dX8_point_75 (by decide) ?_
              exact r_i B R dX8_point_86 (Or.inr ⟨by omega, by unfold ptM ptS; rw [if_neg (by omega), if_neg (by omega), if_pos c66, Is_e ez74]; exact s3 _ (by omega), hof⟩)
          · show Vx x E M34 55 [(0, .ref (E.1 (71))), (1, .int (iI (sc))), (2, .int (iI (p))), (3, .int (iI (w)))] []
            refine x_aload_n B dX8_point_55 0 rfl rfl ?_
            refine x_getR B (ci := 8) (k := 22) dX8_point_56 rfl rfl rfl (by decide) inGX8 kw_827 ?_
            refine x_iload_n B dX8_point_59 2 rfl rfl ?_
            refine x_iald B (lo := 0) (hi := 9) dX8_point_60 rfl (by omega) (by omega) rfl (fun z60 ez60 lz60 uz60 => ?_)
            refine x_goto B (tgt := 86) dX8_point_61 (by decide) ?_
            exact r_i B R dX8_point_86 (Or.inr ⟨by omega, by unfold ptM ptS; rw [if_neg (by omega), if_pos c52, Is_e ez60]; exact s2 _ (by omega), hof⟩)
        · show Vx x E M34 41 [(0, .ref (E.1 (71))), (1, .int (iI (sc))), (2, .int (iI (p))), (3, .int (iI (w)))] []
          refine x_aload_n B dX8_point_41 0 rfl rfl ?_
          refine x_getR B (ci := 8) (k := 20) dX8_point_42 rfl rfl rfl (by decide) inGX8 kw_825 ?_
          refine x_iload_n B dX8_point_45 2 rfl rfl ?_
          refine x_iald B (lo := 0) (hi := 9) dX8_point_46 rfl (by omega) (by omega) rfl (fun z46 ez46 lz46 uz46 => ?_)
          refine x_goto B (tgt := 86) dX8_point_47 (by decide) ?_
          exact r_i B R dX8_point_86 (Or.inr ⟨by omega, by unfold ptM ptS; rw [if_pos c38, Is_e ez46]; exact s1 _ (by omega), hof⟩)
      · show Vx x E M 26 [(0, .ref (E.1 (71))), (1, .int (iI (sc))), (2, .int (iI (p))), (3, .int (iI (w)))] []
        refine x_iconst B dX8_point_26 ?_
        exact r_i B R dX8_point_27 (Or.inl ⟨rfl, rfl, by omega⟩)
abbrev rm_X8_feltSome : Room := { frames := 0, cells := 0, slots := 0, locals := 0 }
theorem cs_X8_feltSome : Cv yX8_feltSome cX8_feltSome 3 (some .int) 0 := ⟨kw_1080, ⟨kw_1079, kw_43⟩, kw_67, by decide, by decide, by decide +kernel⟩
set_option maxHeartbeats 4000000 in
set_option maxRecDepth 100000 in
theorem c_X8_feltSome (l : Launch) (E : Ev) (M : Mem)   : Ct l yX8_feltSome cX8_feltSome 3 (some .int) rm_X8_feltSome E M [.ref (E.1 (71))] (pI (fun z M' => M = M' ∧ (z = ((bK (poB (M 84)) 16 : Nat) : Int) ∧ 0 ≤ z ∧ z ≤ 65535))) := by
  refine Ct_of (lv := [(0, .ref (E.1 (71)))]) (by decide) ⟨rfl, rfl⟩ (Nat.le_of_ble_eq_true rfl) rfl (fun x _ B R => ?_)
  refine x_iconst B dX8_feltSome_0 ?_
  refine x_istore_n B dX8_feltSome_1 [1, 0] rfl (by decide) (lv' := [(0, .ref (E.1 (71))), (1, .int (iI (0)))]) rfl ?_
  refine x_iconst B dX8_feltSome_2 ?_
  refine x_istore_n B dX8_feltSome_3 [1, 2, 0] rfl (by decide) (lv' := [(0, .ref (E.1 (71))), (1, .int (iI (0))), (2, .int (iI (0)))]) rfl ?_
  have L4 : ∀ (a : Int) (k : Int), (0 ≤ k ∧ k ≤ 16 ∧ Is a ((bK (poB (M 84)) k.toNat : Nat) : Int) ∧ 0 ≤ a) → Vx x E M 4 [(0, .ref (E.1 (71))), (1, .int (iI (a))), (2, .int (iI (k)))] [] := by
    refine lo2 _ _ (fun a k => (16 - k).toNat) ?_
    intro a k hI ih4
    obtain ⟨i1, i2, i3, i4⟩ := hI
    refine x_iload_n B dX8_feltSome_4 2 rfl rfl ?_
    refine x_bipush B dX8_feltSome_5 rfl ?_
    refine x_icmp_ge B (tgt := 35) dX8_feltSome_7 (by decide) ⟨by omega, by omega⟩ ⟨by omega, by omega⟩ (fun c7 => ?_) (fun c7 => ?_)
    · show Vx x E M 35 [(0, .ref (E.1 (71))), (1, .int (iI (a))), (2, .int (iI (k)))] []
      refine x_iload_n B dX8_feltSome_35 1 rfl rfl ?_
      exact r_i B R dX8_feltSome_36 (⟨rfl, by rw [Is_e i3, show k = 16 by omega]; exact ⟨rfl, bK_le16 _⟩⟩)
    · show Vx x E M 10 [(0, .ref (E.1 (71))), (1, .int (iI (a))), (2, .int (iI (k)))] []
      refine x_iload_n B dX8_feltSome_10 1 rfl rfl ?_
      refine x_aload_n B dX8_feltSome_11 0 rfl rfl ?_
      refine x_getR B (ci := 8) (k := 23) dX8_feltSome_12 rfl rfl rfl (by decide) inGX8 kw_828 ?_
      refine x_iload_n B dX8_feltSome_15 2 rfl rfl ?_
      refine x_iald B (lo := 0) (hi := 9) dX8_feltSome_16 rfl (by omega) (by omega) rfl (fun z16 ez16 lz16 uz16 => ?_)
      refine x_if_le B (tgt := 26) dX8_feltSome_17 (by decide) ⟨by omega, by omega⟩ (fun c17 => ?_) (fun c17 => ?_)
      · show Vx x E M 26 [(0, .ref (E.1 (71))), (1, .int (iI (a))), (2, .int (iI (k)))] [.int (iI (a))]
        refine x_iconst B dX8_feltSome_26 ?_
        refine x_ior B dX8_feltSome_27 (by omega) (by first | omega | exact Int.natCast_nonneg _) ?_
        refine x_istore_n B dX8_feltSome_28 [1, 0, 2] rfl (by decide) (lv' := [(0, .ref (E.1 (71))), (1, .int (iI ((((a).toNat ||| (0 : Int).toNat : Nat) : Int)))), (2, .int (iI (k)))]) rfl ?_
        refine x_iinc B (q := 2) dX8_feltSome_29 rfl [1, 2, 0] (by decide) (lv' := [(0, .ref (E.1 (71))), (1, .int (iI ((((a).toNat ||| (0 : Int).toNat : Nat) : Int)))), (2, .int (iI (k + 1)))]) rfl ?_
        refine x_goto B (tgt := 4) dX8_feltSome_32 (by decide) ?_
        exact ih4 (((a).toNat ||| (0 : Int).toNat : Nat) : Int) (k + 1) (⟨by omega, by omega, bK_f0 i1 (poB_f (by rw [← Is_e ez16]; exact c17)) i3, Int.natCast_nonneg _⟩) (by omega)
      · show Vx x E M 20 [(0, .ref (E.1 (71))), (1, .int (iI (a))), (2, .int (iI (k)))] [.int (iI (a))]
        refine x_iconst B dX8_feltSome_20 ?_
        refine x_iload_n B dX8_feltSome_21 2 rfl rfl ?_
        refine x_shl1 B dX8_feltSome_22 (by omega) (by omega) ?_
        refine x_goto B (tgt := 27) dX8_feltSome_23 (by decide) ?_
        refine x_ior B dX8_feltSome_27 (by omega) (by first | omega | exact Int.natCast_nonneg _) ?_
        refine x_istore_n B dX8_feltSome_28 [1, 0, 2] rfl (by decide) (lv' := [(0, .ref (E.1 (71))), (1, .int (iI ((((a).toNat ||| (((2 ^ (k).toNat : Nat) : Int)).toNat : Nat) : Int)))), (2, .int (iI (k)))]) rfl ?_
        refine x_iinc B (q := 2) dX8_feltSome_29 rfl [1, 2, 0] (by decide) (lv' := [(0, .ref (E.1 (71))), (1, .int (iI ((((a).toNat ||| (((2 ^ (k).toNat : Nat) : Int)).toNat : Nat) : Int)))), (2, .int (iI (k + 1)))]) rfl ?_
        refine x_goto B (tgt := 4) dX8_feltSome_32 (by decide) ?_
        exact ih4 (((a).toNat ||| (((2 ^ (k).toNat : Nat) : Int)).toNat : Nat) : Int) (k + 1) (⟨by omega, by omega, bK_t i1 (poB_t (by rw [← Is_e ez16]; omega)) i3, Int.natCast_nonneg _⟩) (by omega)
  exact L4 0 0 (⟨by omega, by omega, rfl, by omega⟩)
abbrev rm_X8_tiredSome : Room := { frames := 0, cells := 0, slots := 0, locals := 0 }
theorem cs_X8_tiredSome : Cv yX8_tiredSome cX8_tiredSome 3 (some .int) 0 := ⟨kw_1092, ⟨kw_1091, kw_45⟩, kw_67, by decide, by decide, by decide +kernel⟩
set_option maxHeartbeats 4000000 in
set_option maxRecDepth 100000 in
theorem c_X8_tiredSome (l : Launch) (E : Ev) (M : Mem)   : Ct l yX8_tiredSome cX8_tiredSome 3 (some .int) rm_X8_tiredSome E M [.ref (E.1 (71))] (pI (fun z M' => M = M' ∧ (z = ((bK (poB (M 85)) 16 : Nat) : Int) ∧ 0 ≤ z ∧ z ≤ 65535))) := by
  refine Ct_of (lv := [(0, .ref (E.1 (71)))]) (by decide) ⟨rfl, rfl⟩ (Nat.le_of_ble_eq_true rfl) rfl (fun x _ B R => ?_)
  refine x_iconst B dX8_tiredSome_0 ?_
  refine x_istore_n B dX8_tiredSome_1 [1, 0] rfl (by decide) (lv' := [(0, .ref (E.1 (71))), (1, .int (iI (0)))]) rfl ?_
  refine x_iconst B dX8_tiredSome_2 ?_
  refine x_istore_n B dX8_tiredSome_3 [1, 2, 0] rfl (by decide) (lv' := [(0, .ref (E.1 (71))), (1, .int (iI (0))), (2, .int (iI (0)))]) rfl ?_
  have L4 : ∀ (a : Int) (k : Int), (0 ≤ k ∧ k ≤ 16 ∧ Is a ((bK (poB (M 85)) k.toNat : Nat) : Int) ∧ 0 ≤ a) → Vx x E M 4 [(0, .ref (E.1 (71))), (1, .int (iI (a))), (2, .int (iI (k)))] [] := by
    refine lo2 _ _ (fun a k => (16 - k).toNat) ?_
    intro a k hI ih4
    obtain ⟨i1, i2, i3, i4⟩ := hI
    refine x_iload_n B dX8_tiredSome_4 2 rfl rfl ?_
    refine x_bipush B dX8_tiredSome_5 rfl ?_
    refine x_icmp_ge B (tgt := 35) dX8_tiredSome_7 (by decide) ⟨by omega, by omega⟩ ⟨by omega, by omega⟩ (fun c7 => ?_) (fun c7 => ?_)
    · show Vx x E M 35 [(0, .ref (E.1 (71))), (1, .int (iI (a))), (2, .int (iI (k)))] []
      refine x_iload_n B dX8_tiredSome_35 1 rfl rfl ?_
      exact r_i B R dX8_tiredSome_36 (⟨rfl, by rw [Is_e i3, show k = 16 by omega]; exact ⟨rfl, bK_le16 _⟩⟩)
    · show Vx x E M 10 [(0, .ref (E.1 (71))), (1, .int (iI (a))), (2, .int (iI (k)))] []
      refine x_iload_n B dX8_tiredSome_10 1 rfl rfl ?_
      refine x_aload_n B dX8_tiredSome_11 0 rfl rfl ?_
      refine x_getR B (ci := 8) (k := 25) dX8_tiredSome_12 rfl rfl rfl (by decide) inGX8 kw_830 ?_
      refine x_iload_n B dX8_tiredSome_15 2 rfl rfl ?_
      refine x_iald B (lo := 0) (hi := 9) dX8_tiredSome_16 rfl (by omega) (by omega) rfl (fun z16 ez16 lz16 uz16 => ?_)
      refine x_if_le B (tgt := 26) dX8_tiredSome_17 (by decide) ⟨by omega, by omega⟩ (fun c17 => ?_) (fun c17 => ?_)
      · show Vx x E M 26 [(0, .ref (E.1 (71))), (1, .int (iI (a))), (2, .int (iI (k)))] [.int (iI (a))]
        refine x_iconst B dX8_tiredSome_26 ?_
        refine x_ior B dX8_tiredSome_27 (by omega) (by first | omega | exact Int.natCast_nonneg _) ?_
        refine x_istore_n B dX8_tiredSome_28 [1, 0, 2] rfl (by decide) (lv' := [(0, .ref (E.1 (71))), (1, .int (iI ((((a).toNat ||| (0 : Int).toNat : Nat) : Int)))), (2, .int (iI (k)))]) rfl ?_
        refine x_iinc B (q := 2) dX8_tiredSome_29 rfl [1, 2, 0] (by decide) (lv' := [(0, .ref (E.1 (71))), (1, .int (iI ((((a).toNat ||| (0 : Int).toNat : Nat) : Int)))), (2, .int (iI (k + 1)))]) rfl ?_
        refine x_goto B (tgt := 4) dX8_tiredSome_32 (by decide) ?_
        exact ih4 (((a).toNat ||| (0 : Int).toNat : Nat) : Int) (k + 1) (⟨by omega, by omega, bK_f0 i1 (poB_f (by rw [← Is_e ez16]; exact c17)) i3, Int.natCast_nonneg _⟩) (by omega)
      · show Vx x E M 20 [(0, .ref (E.1 (71))), (1, .int (iI (a))), (2, .int (iI (k)))] [.int (iI (a))]
        refine x_iconst B dX8_tiredSome_20 ?_
        refine x_iload_n B dX8_tiredSome_21 2 rfl rfl ?_
        refine x_shl1 B dX8_tiredSome_22 (by omega) (by omega) ?_
        refine x_goto B (tgt := 27) dX8_tiredSome_23 (by decide) ?_
        refine x_ior B dX8_tiredSome_27 (by omega) (by first | omega | exact Int.natCast_nonneg _) ?_
        refine x_istore_n B dX8_tiredSome_28 [1, 0, 2] rfl (by decide) (lv' := [(0, .ref (E.1 (71))), (1, .int (iI ((((a).toNat ||| (((2 ^ (k).toNat : Nat) : Int)).toNat : Nat) : Int)))), (2, .int (iI (k)))]) rfl ?_
        refine x_iinc B (q := 2) dX8_tiredSome_29 rfl [1, 2, 0] (by decide) (lv' := [(0, .ref (E.1 (71))), (1, .int (iI ((((a).toNat ||| (((2 ^ (k).toNat : Nat) : Int)).toNat : Nat) : Int)))), (2, .int (iI (k + 1)))]) rfl ?_
        refine x_goto B (tgt := 4) dX8_tiredSome_32 (by decide) ?_
        exact ih4 (((a).toNat ||| (((2 ^ (k).toNat : Nat) : Int)).toNat : Nat) : Int) (k + 1) (⟨by omega, by omega, bK_t i1 (poB_t (by rw [← Is_e ez16]; omega)) i3, Int.natCast_nonneg _⟩) (by omega)
  exact L4 0 0 (⟨by omega, by omega, rfl, by omega⟩)
abbrev rm_X8_feels : Room := { frames := 4, cells := 0, slots := 0, locals := 101 }
theorem cs_X8_feels : Cv yX8_feels cX8_feels 5 (some .int) 2 := ⟨kw_1075, ⟨kw_1073, kw_1074⟩, kw_67, by decide, by decide, by decide +kernel⟩
set_option maxHeartbeats 4000000 in
set_option maxRecDepth 100000 in
theorem c_X8_feels (l : Launch) (E : Ev) (M : Mem) (sc w : Int) (g1 : -2147483648 ≤ sc) (g2 : sc < 2147483648) (g3 : -2147483648 ≤ w) (g4 : w < 2147483648) : Ct l yX8_feels cX8_feels 5 (some .int) rm_X8_feels E M [.ref (E.1 (71)), .int (iI (sc)), .int (iI (w))] (pI (fun z M' => z = -1 ∧ M' = M ∧ ¬ (0 ≤ sc ∧ sc < 6 ∧ 0 ≤ w ∧ w < 3) ∨ (0 ≤ sc ∧ sc < 6 ∧ 0 ≤ w ∧ w < 3) ∧ z = flM M sc w ∧ ofS [81, 82, 83, 84] M M')) := by
  refine Ct_of (lv := [(0, .ref (E.1 (71))), (1, .int (iI (sc))), (2, .int (iI (w)))]) (by decide) ⟨rfl, rfl⟩ (Nat.le_of_ble_eq_true rfl) rfl (fun x _ B R => ?_)
  refine x_iload_n B dX8_feels_0 1 rfl rfl ?_
  refine x_callS B (st := []) (av := [.int (iI (sc))]) dX8_feels_1 cs_X8_isScene kw_1006 ⟨rfl, rfl, Nat.le_of_ble_eq_true rfl, Nat.le_of_ble_eq_true rfl⟩ rfl rfl (Nat.le_of_ble_eq_true rfl) (c_X8_isScene _ E _ sc (by omega) (by omega)) (k_i (fun z1 Mq hz1 => ?_))
  obtain ⟨rfl, hz1⟩ := hz1
  refine x_if_eq B (tgt := 19) dX8_feels_4 (by decide) ⟨by omega, by omega⟩ (fun c4 => ?_) (fun c4 => ?_)
  · show Vx x E M 19 [(0, .ref (E.1 (71))), (1, .int (iI (sc))), (2, .int (iI (w)))] []
    refine x_iconst B dX8_feels_19 ?_
    exact r_i B R dX8_feels_20 (Or.inl ⟨rfl, rfl, by omega⟩)
  · show Vx x E M 7 [(0, .ref (E.1 (71))), (1, .int (iI (sc))), (2, .int (iI (w)))] []
    refine x_iload_n B dX8_feels_7 2 rfl rfl ?_
    refine x_i2l B dX8_feels_8 ⟨by omega, by omega⟩ ?_
    refine x_lconst B (z := 0) dX8_feels_9 rfl ?_
    refine x_ldc2 B (z := 2) dX8_feels_10 kw_1076 rfl ?_
    refine x_callS B (st := []) (av := [.long (iL (w)), .long (iL (0)), .long (iL (2))]) dX8_feels_13 cs_X8_in kw_952 ⟨rfl, rfl, Nat.le_of_ble_eq_true rfl, Nat.le_of_ble_eq_true rfl⟩ rfl rfl (Nat.le_of_ble_eq_true rfl) (c_X8_in _ E _ w 0 2 (by omega) (by omega) (by omega) (by omega) (by omega) (by omega)) (k_i (fun z13 Mq hz13 => ?_))
    obtain ⟨rfl, hz13⟩ := hz13
    refine x_if_ne B (tgt := 21) dX8_feels_16 (by decide) ⟨by omega, by omega⟩ (fun c16 => ?_) (fun c16 => ?_)
    · show Vx x E M 21 [(0, .ref (E.1 (71))), (1, .int (iI (sc))), (2, .int (iI (w)))] []
      refine x_aload_n B dX8_feels_21 0 rfl rfl ?_
      refine x_iload_n B dX8_feels_22 1 rfl rfl ?_
      refine x_aload_n B dX8_feels_23 0 rfl rfl ?_
      refine x_getI B (ci := 8) (k := 19) (lo := 0) (hi := 25) dX8_feels_24 rfl rfl rfl (by decide) inGX8 kw_824 rfl (fun z24 ez24 lz24 uz24 => ?_)
      refine x_callV B (st := []) (av := [.int (iI (sc)), .int (iI (z24))]) dX8_feels_27 cs_X8_layFelt kw_1042 ⟨rfl, rfl, Nat.le_of_ble_eq_true rfl, Nat.le_of_ble_eq_true rfl⟩ rfl rfl (Nat.le_of_ble_eq_true rfl) (rc_obj B (ci := 8) rfl rfl rfl) (c_X8_layFelt _ E _ sc z24 (by omega) (by omega) (by omega) (by omega)) (k_v (fun M27 hz27 => ?_))
      rw [Is_e ez24] at hz27
      obtain ⟨hof, s1, s2, s3, s4⟩ := hz27
      refine x_iconst B dX8_feels_30 ?_
      refine x_istore_n B dX8_feels_31 [1, 2, 3, 0] rfl (by decide) (lv' := [(0, .ref (E.1 (71))), (1, .int (iI (sc))), (2, .int (iI (w))), (3, .int (iI (0)))]) rfl ?_
      refine x_iconst B dX8_feels_32 ?_
      refine x_istore B dX8_feels_33 [1, 2, 3, 4, 0] (by decide) (lv' := [(0, .ref (E.1 (71))), (1, .int (iI (sc))), (2, .int (iI (w))), (3, .int (iI (0))), (4, .int (iI (0)))]) rfl ?_
      have L35 : ∀ (a : Int) (k : Int), (0 ≤ k ∧ k ≤ 16 ∧ Is a (suK (M27 84) k.toNat) ∧ 0 ≤ a ∧ a ≤ 9 * k) → Vx x E M27 35 [(0, .ref (E.1 (71))), (1, .int (iI (sc))), (2, .int (iI (w))), (3, .int (iI (a))), (4, .int (iI (k)))] [] := by
        refine lo2 _ _ (fun a k => (16 - k).toNat) ?_
        intro a k hI ih35
        obtain ⟨i1, i2, i3, i4, i5⟩ := hI
        refine x_iload B dX8_feels_35 4 rfl ?_
        refine x_bipush B dX8_feels_37 rfl ?_
        refine x_icmp_ge B (tgt := 58) dX8_feels_39 (by decide) ⟨by omega, by omega⟩ ⟨by omega, by omega⟩ (fun c39 => ?_) (fun c39 => ?_)
        · show Vx x E M27 58 [(0, .ref (E.1 (71))), (1, .int (iI (sc))), (2, .int (iI (w))), (3, .int (iI (a))), (4, .int (iI (k)))] []
          refine x_iload_n B dX8_feels_58 2 rfl rfl ?_
          refine x_if_ne B (tgt := 69) dX8_feels_59 (by decide) ⟨by omega, by omega⟩ (fun c59 => ?_) (fun c59 => ?_)
          · show Vx x E M27 69 [(0, .ref (E.1 (71))), (1, .int (iI (sc))), (2, .int (iI (w))), (3, .int (iI (a))), (4, .int (iI (k)))] []
            refine x_iload_n B dX8_feels_69 2 rfl rfl ?_
            refine x_iconst B dX8_feels_70 ?_
            refine x_icmp_ne B (tgt := 81) dX8_feels_71 (by decide) ⟨by omega, by omega⟩ ⟨by omega, by omega⟩ (fun c71 => ?_) (fun c71 => ?_)
            · show Vx x E M27 81 [(0, .ref (E.1 (71))), (1, .int (iI (sc))), (2, .int (iI (w))), (3, .int (iI (a))), (4, .int (iI (k)))] []
              refine x_iload_n B dX8_feels_81 3 rfl rfl ?_
              exact r_i B R dX8_feels_82 (Or.inr ⟨by omega, by unfold flM flS; rw [if_neg (by omega), if_neg (by omega), Is_e i3, show k = 16 by omega]; exact suK_cg 16 s3, hof⟩)
            · show Vx x E M27 74 [(0, .ref (E.1 (71))), (1, .int (iI (sc))), (2, .int (iI (w))), (3, .int (iI (a))), (4, .int (iI (k)))] []
              refine x_aload_n B dX8_feels_74 0 rfl rfl ?_
              refine x_getI B (ci := 8) (k := 24) (lo := 0) (hi := 65535) dX8_feels_75 rfl rfl rfl (by decide) inGX8 kw_829 rfl (fun z75 ez75 lz75 uz75 => ?_)
              refine x_goto B (tgt := 82) dX8_feels_78 (by decide) ?_
              exact r_i B R dX8_feels_82 (Or.inr ⟨by omega, by unfold flM flS; rw [if_neg (by omega), if_pos c71, Is_e ez75]; exact Is_e s4, hof⟩)
          · show Vx x E M27 62 [(0, .ref (E.1 (71))), (1, .int (iI (sc))), (2, .int (iI (w))), (3, .int (iI (a))), (4, .int (iI (k)))] []
            refine x_aload_n B dX8_feels_62 0 rfl rfl ?_
            refine x_callV B (st := []) (av := []) dX8_feels_63 cs_X8_feltSome kw_1077 ⟨rfl, rfl, Nat.le_of_ble_eq_true rfl, Nat.le_of_ble_eq_true rfl⟩ rfl rfl (Nat.le_of_ble_eq_true rfl) (rc_obj B (ci := 8) rfl rfl rfl) (c_X8_feltSome _ E _ ) (k_i (fun z63 Mq hz63 => ?_))
            obtain ⟨rfl, hz63⟩ := hz63
            refine x_goto B (tgt := 82) dX8_feels_66 (by decide) ?_
            exact r_i B R dX8_feels_82 (Or.inr ⟨by omega, by unfold flM flS; rw [if_pos c59, hz63.1]; exact congrArg _ (poB_cg s3), hof⟩)
        · show Vx x E M27 42 [(0, .ref (E.1 (71))), (1, .int (iI (sc))), (2, .int (iI (w))), (3, .int (iI (a))), (4, .int (iI (k)))] []
          refine x_iload_n B dX8_feels_42 3 rfl rfl ?_
          refine x_aload_n B dX8_feels_43 0 rfl rfl ?_
          refine x_getR B (ci := 8) (k := 23) dX8_feels_44 rfl rfl rfl (by decide) inGX8 kw_828 ?_
          refine x_iload B dX8_feels_47 4 rfl ?_
          refine x_iald B (lo := 0) (hi := 9) dX8_feels_49 rfl (by omega) (by omega) rfl (fun z49 ez49 lz49 uz49 => ?_)
          refine x_iadd B dX8_feels_50 ?_
          refine x_istore_n B dX8_feels_51 [1, 2, 3, 0, 4] rfl (by decide) (lv' := [(0, .ref (E.1 (71))), (1, .int (iI (sc))), (2, .int (iI (w))), (3, .int (iI (a + z49))), (4, .int (iI (k)))]) rfl ?_
          refine x_iinc B (q := 4) dX8_feels_52 rfl [1, 2, 3, 4, 0] (by decide) (lv' := [(0, .ref (E.1 (71))), (1, .int (iI (sc))), (2, .int (iI (w))), (3, .int (iI (a + z49))), (4, .int (iI (k + 1)))]) rfl ?_
          refine x_goto B (tgt := 35) dX8_feels_55 (by decide) ?_
          exact ih35 (a + z49) (k + 1) (⟨by omega, by omega, by show _ = _; rw [suK_s i1, ← Is_e i3, ← Is_e ez49], by omega, by omega⟩) (by omega)
      exact L35 0 0 (⟨by omega, by omega, rfl, by omega, by omega⟩)
    · show Vx x E M 19 [(0, .ref (E.1 (71))), (1, .int (iI (sc))), (2, .int (iI (w)))] []
      refine x_iconst B dX8_feels_19 ?_
      exact r_i B R dX8_feels_20 (Or.inl ⟨rfl, rfl, by omega⟩)
abbrev rm_X8_learns : Room := { frames := 0, cells := 0, slots := 0, locals := 0 }
theorem cs_X8_learns : Cv yX8_learns cX8_learns 2 none 1 := ⟨kw_1088, ⟨kw_1087, kw_44⟩, kw_67, by decide, by decide, by decide +kernel⟩
set_option maxHeartbeats 4000000 in
set_option maxRecDepth 100000 in
theorem c_X8_learns (l : Launch) (E : Ev) (M : Mem) (n : Int) (g1 : 0 ≤ n) (g2 : n ≤ 400) : Ct l yX8_learns cX8_learns 2 none rm_X8_learns E M [.ref (E.1 (71)), .int (iI (n))] (pV (fun M' => M' = sto M 71 28 (min 999 (M 71 28 + n)))) := by
  refine Ct_of (lv := [(0, .ref (E.1 (71))), (1, .int (iI (n)))]) (by decide) ⟨rfl, rfl⟩ (Nat.le_of_ble_eq_true rfl) rfl (fun x _ B R => ?_)
  refine x_aload_n B dX8_learns_0 0 rfl rfl ?_
  refine x_aload_n B dX8_learns_1 0 rfl rfl ?_
  refine x_getI B (ci := 8) (k := 28) (lo := 0) (hi := 999) dX8_learns_2 rfl rfl rfl (by decide) inGX8 kw_833 rfl (fun z2 ez2 lz2 uz2 => ?_)
  refine x_iload_n B dX8_learns_5 1 rfl rfl ?_
  refine x_iadd B dX8_learns_6 ?_
  refine x_sipush B dX8_learns_7 rfl ?_
  refine x_icmp_le B (tgt := 19) dX8_learns_10 (by decide) ⟨by omega, by omega⟩ ⟨by omega, by omega⟩ (fun c10 => ?_) (fun c10 => ?_)
  · show Vx x E M 19 [(0, .ref (E.1 (71))), (1, .int (iI (n)))] [.ref (E.1 (71))]
    refine x_aload_n B dX8_learns_19 0 rfl rfl ?_
    have h19 : True := trivial
    refine x_getI B (ci := 8) (k := 28) (lo := 0) (hi := 999) dX8_learns_20 rfl rfl rfl (by decide) inGX8 kw_833 rfl (fun z20 ez20 lz20 uz20 => ?_)
    refine x_iload_n B dX8_learns_23 1 rfl rfl ?_
    refine x_iadd B dX8_learns_24 ?_
    have h20 : True := trivial
    refine x_put B (ci := 8) (k := 28) (lo := 0) (hi := 999) (ty := .int) dX8_learns_25 rfl rfl rfl (by decide) inGX8 tyX8_ok nmX8 kw_833 rfl (by decide +kernel) (nar_i _) (fit_i _) rfl (by first | omega | (have h := (Is_e ez20).trans (Is_e ez2).symm; omega)) (by first | omega | (have h := (Is_e ez20).trans (Is_e ez2).symm; omega)) ?_
    exact r_v B R dX8_learns_28 (by rw [← Is_e ez20, show min 999 (z20 + n) = z20 + n by have h := (Is_e ez20).trans (Is_e ez2).symm; omega])
  · show Vx x E M 13 [(0, .ref (E.1 (71))), (1, .int (iI (n)))] [.ref (E.1 (71))]
    refine x_sipush B dX8_learns_13 rfl ?_
    refine x_goto B (tgt := 25) dX8_learns_16 (by decide) ?_
    have h20 : True := trivial
    refine x_put B (ci := 8) (k := 28) (lo := 0) (hi := 999) (ty := .int) dX8_learns_25 rfl rfl rfl (by decide) inGX8 tyX8_ok nmX8 kw_833 rfl (by decide +kernel) (nar_i _) (fit_i _) rfl (by first | omega | (have h := (Is_e ez20).trans (Is_e ez2).symm; omega)) (by first | omega | (have h := (Is_e ez20).trans (Is_e ez2).symm; omega)) ?_
    exact r_v B R dX8_learns_28 (by rw [show min 999 (M 71 28 + n) = 999 by rw [← Is_e ez2]; omega])
abbrev rm_X8_tired : Room := { frames := 2, cells := 0, slots := 0, locals := 45 }
theorem cs_X8_tired : Cv yX8_tired cX8_tired 2 (some .int) 1 := ⟨kw_1096, ⟨kw_1094, kw_1095⟩, kw_67, by decide, by decide, by decide +kernel⟩
set_option maxHeartbeats 4000000 in
set_option maxRecDepth 100000 in
theorem c_X8_tired (l : Launch) (E : Ev) (M : Mem) (p : Int) (g1 : -2147483648 ≤ p) (g2 : p < 2147483648) : Ct l yX8_tired cX8_tired 2 (some .int) rm_X8_tired E M [.ref (E.1 (71)), .int (iI (p))] (pI (fun z M' => M = M' ∧ (z = -1 ∧ ¬ (0 ≤ p ∧ p < 16) ∨ (0 ≤ p ∧ p < 16) ∧ z = M 85 p.toNat))) := by
  refine Ct_of (lv := [(0, .ref (E.1 (71))), (1, .int (iI (p)))]) (by decide) ⟨rfl, rfl⟩ (Nat.le_of_ble_eq_true rfl) rfl (fun x _ B R => ?_)
  refine x_iload_n B dX8_tired_0 1 rfl rfl ?_
  refine x_callS B (st := []) (av := [.int (iI (p))]) dX8_tired_1 cs_X8_isPoint kw_1037 ⟨rfl, rfl, Nat.le_of_ble_eq_true rfl, Nat.le_of_ble_eq_true rfl⟩ rfl rfl (Nat.le_of_ble_eq_true rfl) (c_X8_isPoint _ E _ p (by omega) (by omega)) (k_i (fun z1 Mq hz1 => ?_))
  obtain ⟨rfl, hz1⟩ := hz1
  refine x_if_eq B (tgt := 16) dX8_tired_4 (by decide) ⟨by omega, by omega⟩ (fun c4 => ?_) (fun c4 => ?_)
  · show Vx x E M 16 [(0, .ref (E.1 (71))), (1, .int (iI (p)))] []
    refine x_iconst B dX8_tired_16 ?_
    exact r_i B R dX8_tired_17 (⟨rfl, Or.inl ⟨rfl, by omega⟩⟩)
  · show Vx x E M 7 [(0, .ref (E.1 (71))), (1, .int (iI (p)))] []
    refine x_aload_n B dX8_tired_7 0 rfl rfl ?_
    refine x_getR B (ci := 8) (k := 25) dX8_tired_8 rfl rfl rfl (by decide) inGX8 kw_830 ?_
    refine x_iload_n B dX8_tired_11 1 rfl rfl ?_
    refine x_iald B (lo := 0) (hi := 9) dX8_tired_12 rfl (by omega) (by omega) rfl (fun z12 ez12 lz12 uz12 => ?_)
    refine x_goto B (tgt := 17) dX8_tired_13 (by decide) ?_
    exact r_i B R dX8_tired_17 (⟨rfl, Or.inr ⟨by omega, Is_e ez12⟩⟩)
abbrev rm_X8_rest : Room := { frames := 1, cells := 0, slots := 0, locals := 22 }
theorem cs_X8_rest : Cv yX8_rest cX8_rest 3 (some .int) 0 := ⟨kw_1100, ⟨kw_1098, kw_1099⟩, kw_67, by decide, by decide, by decide +kernel⟩
set_option maxHeartbeats 4000000 in
set_option maxRecDepth 100000 in
theorem c_X8_rest (l : Launch) (E : Ev) (M : Mem)   : Ct l yX8_rest cX8_rest 3 (some .int) rm_X8_rest E M [.ref (E.1 (71))] (pI (fun z M' => z = ((bK (poB (M 85)) 16 : Nat) : Int) ∧ M' = fillM M 85 16 0)) := by
  refine Ct_of (lv := [(0, .ref (E.1 (71)))]) (by decide) ⟨rfl, rfl⟩ (Nat.le_of_ble_eq_true rfl) rfl (fun x _ B R => ?_)
  refine x_aload_n B dX8_rest_0 0 rfl rfl ?_
  refine x_callV B (st := []) (av := []) dX8_rest_1 cs_X8_tiredSome kw_1089 ⟨rfl, rfl, Nat.le_of_ble_eq_true rfl, Nat.le_of_ble_eq_true rfl⟩ rfl rfl (Nat.le_of_ble_eq_true rfl) (rc_obj B (ci := 8) rfl rfl rfl) (c_X8_tiredSome _ E _ ) (k_i (fun z1 Mq hz1 => ?_))
  obtain ⟨rfl, hz1⟩ := hz1
  refine x_istore_n B dX8_rest_4 [1, 0] rfl (by decide) (lv' := [(0, .ref (E.1 (71))), (1, .int (iI (z1)))]) rfl ?_
  refine x_iconst B dX8_rest_5 ?_
  refine x_istore_n B dX8_rest_6 [1, 2, 0] rfl (by decide) (lv' := [(0, .ref (E.1 (71))), (1, .int (iI (z1))), (2, .int (iI (0)))]) rfl ?_
  have L7 : ∀ (k : Int) (M1 : Mem), (0 ≤ k ∧ k ≤ 16 ∧ M1 = fillM M 85 k.toNat 0) → Vx x E M1 7 [(0, .ref (E.1 (71))), (1, .int (iI (z1))), (2, .int (iI (k)))] [] := by
    refine lo2 _ _ (fun k M1 => (16 - k).toNat) ?_
    intro k M1 hI ih7
    obtain ⟨i1, i2, i3⟩ := hI
    refine x_iload_n B dX8_rest_7 2 rfl rfl ?_
    refine x_bipush B dX8_rest_8 rfl ?_
    refine x_icmp_ge B (tgt := 26) dX8_rest_10 (by decide) ⟨by omega, by omega⟩ ⟨by omega, by omega⟩ (fun c10 => ?_) (fun c10 => ?_)
    · show Vx x E M1 26 [(0, .ref (E.1 (71))), (1, .int (iI (z1))), (2, .int (iI (k)))] []
      refine x_iload_n B dX8_rest_26 1 rfl rfl ?_
      exact r_i B R dX8_rest_27 (⟨hz1.1, by rw [i3, show k = 16 by omega]; rfl⟩)
    · show Vx x E M1 13 [(0, .ref (E.1 (71))), (1, .int (iI (z1))), (2, .int (iI (k)))] []
      refine x_aload_n B dX8_rest_13 0 rfl rfl ?_
      refine x_getR B (ci := 8) (k := 25) dX8_rest_14 rfl rfl rfl (by decide) inGX8 kw_830 ?_
      refine x_iload_n B dX8_rest_17 2 rfl rfl ?_
      refine x_iconst B dX8_rest_18 ?_
      refine x_iast B (lo := 0) (hi := 9) dX8_rest_19 rfl (by omega) (by omega) rfl (by omega) (by omega) ?_
      refine x_iinc B (q := 2) dX8_rest_20 rfl [1, 2, 0] (by decide) (lv' := [(0, .ref (E.1 (71))), (1, .int (iI (z1))), (2, .int (iI (k + 1)))]) rfl ?_
      refine x_goto B (tgt := 7) dX8_rest_23 (by decide) ?_
      exact ih7 (k + 1) (sto M1 85 (k).toNat 0) (⟨by omega, by omega, by rw [i3]; exact fillM_s M 85 k 0 i1⟩) (by omega)
  exact L7 0 M (⟨by omega, by omega, (fillM_0 M 85 0).symm⟩)
abbrev rm_X8_head : Room := { frames := 0, cells := 0, slots := 0, locals := 0 }
theorem cs_X8_head : Cv yX8_head cX8_head 2 (some .int) 1 := ⟨kw_1158, ⟨kw_1156, kw_1157⟩, kw_67, by decide, by decide, by decide +kernel⟩
set_option maxHeartbeats 4000000 in
set_option maxRecDepth 100000 in
theorem c_X8_head (l : Launch) (E : Ev) (M : Mem) (w : Int) (g1 : -2147483648 ≤ w) (g2 : w < 2147483648) : Ct l yX8_head cX8_head 2 (some .int) rm_X8_head E M [.ref (E.1 (71)), .int (iI (w))] (pI (fun z M' => M = M' ∧ (z = -1 ∧ ¬ (0 ≤ w ∧ w < 2) ∨ w = 0 ∧ z = M 71 28 ∨ w = 1 ∧ z = (if M 78 10 ≤ M 71 28 then 1 else 0)))) := by
  refine Ct_of (lv := [(0, .ref (E.1 (71))), (1, .int (iI (w)))]) (by decide) ⟨rfl, rfl⟩ (Nat.le_of_ble_eq_true rfl) rfl (fun x _ B R => ?_)
  refine x_iload_n B dX8_head_0 1 rfl rfl ?_
  refine x_if_ne B (tgt := 11) dX8_head_1 (by decide) ⟨by omega, by omega⟩ (fun c1 => ?_) (fun c1 => ?_)
  · show Vx x E M 11 [(0, .ref (E.1 (71))), (1, .int (iI (w)))] []
    refine x_iload_n B dX8_head_11 1 rfl rfl ?_
    refine x_iconst B dX8_head_12 ?_
    refine x_icmp_ne B (tgt := 38) dX8_head_13 (by decide) ⟨by omega, by omega⟩ ⟨by omega, by omega⟩ (fun c13 => ?_) (fun c13 => ?_)
    · show Vx x E M 38 [(0, .ref (E.1 (71))), (1, .int (iI (w)))] []
      refine x_iconst B dX8_head_38 ?_
      exact r_i B R dX8_head_39 (⟨rfl, Or.inl ⟨rfl, by omega⟩⟩)
    · show Vx x E M 16 [(0, .ref (E.1 (71))), (1, .int (iI (w)))] []
      refine x_aload_n B dX8_head_16 0 rfl rfl ?_
      refine x_getI B (ci := 8) (k := 28) (lo := 0) (hi := 999) dX8_head_17 rfl rfl rfl (by decide) inGX8 kw_833 rfl (fun z17 ez17 lz17 uz17 => ?_)
      refine x_aload_n B dX8_head_20 0 rfl rfl ?_
      refine x_getR B (ci := 8) (k := 14) dX8_head_21 rfl rfl rfl (by decide) inGX8 kw_819 ?_
      refine x_bipush B dX8_head_24 rfl ?_
      refine x_iald B (lo := 1) (hi := 99) dX8_head_26 rfl (by omega) (by omega) rfl (fun z26 ez26 lz26 uz26 => ?_)
      have ez26 : Is z26 (M 78 10) := ez26
      refine x_icmp_lt B (tgt := 34) dX8_head_27 (by decide) ⟨by omega, by omega⟩ ⟨by omega, by omega⟩ (fun c27 => ?_) (fun c27 => ?_)
      · show Vx x E M 34 [(0, .ref (E.1 (71))), (1, .int (iI (w)))] []
        refine x_iconst B dX8_head_34 ?_
        refine x_goto B (tgt := 39) dX8_head_35 (by decide) ?_
        exact r_i B R dX8_head_39 (⟨rfl, Or.inr (Or.inr ⟨by omega, by rw [← Is_e ez17, ← Is_e ez26, if_neg (by omega)]⟩)⟩)
      · show Vx x E M 30 [(0, .ref (E.1 (71))), (1, .int (iI (w)))] []
        refine x_iconst B dX8_head_30 ?_
        refine x_goto B (tgt := 39) dX8_head_31 (by decide) ?_
        exact r_i B R dX8_head_39 (⟨rfl, Or.inr (Or.inr ⟨by omega, by rw [← Is_e ez17, ← Is_e ez26, if_pos (by omega)]⟩)⟩)
  · show Vx x E M 4 [(0, .ref (E.1 (71))), (1, .int (iI (w)))] []
    refine x_aload_n B dX8_head_4 0 rfl rfl ?_
    refine x_getI B (ci := 8) (k := 28) (lo := 0) (hi := 999) dX8_head_5 rfl rfl rfl (by decide) inGX8 kw_833 rfl (fun z5 ez5 lz5 uz5 => ?_)
    refine x_goto B (tgt := 39) dX8_head_8 (by decide) ?_
    exact r_i B R dX8_head_39 (⟨rfl, Or.inr (Or.inl ⟨by omega, Is_e ez5⟩)⟩)
abbrev rm_X8_forget : Room := { frames := 0, cells := 0, slots := 0, locals := 0 }
theorem cs_X8_forget : Cv yX8_forget cX8_forget 2 (some .int) 0 := ⟨kw_1162, ⟨kw_1160, kw_1161⟩, kw_67, by decide, by decide, by decide +kernel⟩
set_option maxHeartbeats 4000000 in
set_option maxRecDepth 100000 in
theorem c_X8_forget (l : Launch) (E : Ev) (M : Mem)   : Ct l yX8_forget cX8_forget 2 (some .int) rm_X8_forget E M [.ref (E.1 (71))] (pI (fun z M' => z = M 71 28 ∧ M' = sto M 71 28 0)) := by
  refine Ct_of (lv := [(0, .ref (E.1 (71)))]) (by decide) ⟨rfl, rfl⟩ (Nat.le_of_ble_eq_true rfl) rfl (fun x _ B R => ?_)
  refine x_aload_n B dX8_forget_0 0 rfl rfl ?_
  refine x_getI B (ci := 8) (k := 28) (lo := 0) (hi := 999) dX8_forget_1 rfl rfl rfl (by decide) inGX8 kw_833 rfl (fun z1 ez1 lz1 uz1 => ?_)
  refine x_istore_n B dX8_forget_4 [1, 0] rfl (by decide) (lv' := [(0, .ref (E.1 (71))), (1, .int (iI (z1)))]) rfl ?_
  refine x_aload_n B dX8_forget_5 0 rfl rfl ?_
  refine x_iconst B dX8_forget_6 ?_
  refine x_put B (ci := 8) (k := 28) (lo := 0) (hi := 999) (ty := .int) dX8_forget_7 rfl rfl rfl (by decide) inGX8 tyX8_ok nmX8 kw_833 rfl (by decide +kernel) (nar_i _) (fit_i _) rfl (by omega) (by omega) ?_
  refine x_iload_n B dX8_forget_10 1 rfl rfl ?_
  exact r_i B R dX8_forget_11 (⟨Is_e ez1, rfl⟩)
abbrev rm_X8_countOf : Room := { frames := 0, cells := 0, slots := 0, locals := 0 }
theorem cs_X8_countOf : Cs yX8_countOf cX8_countOf 3 (some .int) 1 := ⟨kw_1142, kw_1141, kw_67, by decide, by decide, by decide +kernel⟩
set_option maxHeartbeats 4000000 in
set_option maxRecDepth 100000 in
theorem c_X8_countOf (l : Launch) (E : Ev) (M : Mem) (v : Int) (g1 : 0 ≤ v) (g2 : v < 2147483648) : Ct l yX8_countOf cX8_countOf 3 (some .int) rm_X8_countOf E M [.int (iI (v))] (pI (fun z M' => M = M' ∧ (z = ((popN v.toNat 16 : Nat) : Int) ∧ 0 ≤ z ∧ z ≤ 16))) := by
  refine Ct_of (lv := [(0, .int (iI (v)))]) (by decide) ⟨rfl, rfl⟩ (Nat.le_of_ble_eq_true rfl) rfl (fun x _ B R => ?_)
  refine x_iconst B dX8_countOf_0 ?_
  refine x_istore_n B dX8_countOf_1 [1, 0] rfl (by decide) (lv' := [(0, .int (iI (v))), (1, .int (iI (0)))]) rfl ?_
  refine x_iconst B dX8_countOf_2 ?_
  refine x_istore_n B dX8_countOf_3 [1, 2, 0] rfl (by decide) (lv' := [(0, .int (iI (v))), (1, .int (iI (0))), (2, .int (iI (0)))]) rfl ?_
  have L4 : ∀ (a : Int) (k : Int), (0 ≤ k ∧ k ≤ 16 ∧ Is a ((popN v.toNat k.toNat : Nat) : Int)) → Vx x E M 4 [(0, .int (iI (v))), (1, .int (iI (a))), (2, .int (iI (k)))] [] := by
    refine lo2 _ _ (fun a k => (16 - k).toNat) ?_
    intro a k hI ih4
    obtain ⟨i1, i2, i3⟩ := hI
    refine x_iload_n B dX8_countOf_4 2 rfl rfl ?_
    refine x_bipush B dX8_countOf_5 rfl ?_
    refine x_icmp_ge B (tgt := 24) dX8_countOf_7 (by decide) ⟨by omega, by omega⟩ ⟨by omega, by omega⟩ (fun c7 => ?_) (fun c7 => ?_)
    · show Vx x E M 24 [(0, .int (iI (v))), (1, .int (iI (a))), (2, .int (iI (k)))] []
      refine x_iload_n B dX8_countOf_24 1 rfl rfl ?_
      exact r_i B R dX8_countOf_25 (⟨rfl, by have h := popN_le v.toNat 16; rw [Is_e i3, show k = 16 by omega]; exact ⟨rfl, Int.natCast_nonneg _, Int.ofNat_le.mpr h⟩⟩)
    · show Vx x E M 10 [(0, .int (iI (v))), (1, .int (iI (a))), (2, .int (iI (k)))] []
      refine x_iload_n B dX8_countOf_10 1 rfl rfl ?_
      refine x_iload_n B dX8_countOf_11 0 rfl rfl ?_
      refine x_iload_n B dX8_countOf_12 2 rfl rfl ?_
      refine x_ishr B dX8_countOf_13 (by omega) ⟨by omega, by omega⟩ (by omega) (by omega) ?_
      refine x_iconst B dX8_countOf_14 ?_
      refine x_iand B dX8_countOf_15 (Int.natCast_nonneg _) (by omega) ?_
      refine x_iadd B dX8_countOf_16 ?_
      refine x_istore_n B dX8_countOf_17 [1, 0, 2] rfl (by decide) (lv' := [(0, .int (iI (v))), (1, .int (iI (a + ((((((v).toNat >>> (k).toNat : Nat) : Int)).toNat &&& (1 : Int).toNat : Nat) : Int)))), (2, .int (iI (k)))]) rfl ?_
      refine x_iinc B (q := 2) dX8_countOf_18 rfl [1, 2, 0] (by decide) (lv' := [(0, .int (iI (v))), (1, .int (iI (a + ((((((v).toNat >>> (k).toNat : Nat) : Int)).toNat &&& (1 : Int).toNat : Nat) : Int)))), (2, .int (iI (k + 1)))]) rfl ?_
      refine x_goto B (tgt := 4) dX8_countOf_21 (by decide) ?_
      exact ih4 (a + ((((((v).toNat >>> (k).toNat : Nat) : Int)).toNat &&& (1 : Int).toNat : Nat) : Int)) (k + 1) (⟨by omega, by omega, by show _ = _; rw [popN_s i1, Is_e i3]; have b := bit_v v.toNat k.toNat; rcases b with ⟨h5, h6⟩ | ⟨h5, h6⟩ <;> (rw [h5, h6]; rfl)⟩) (by omega)
  exact L4 0 0 (⟨by omega, by omega, rfl⟩)
abbrev rm_X8_kill : Room := { frames := 2, cells := 0, slots := 0, locals := 45 }
theorem cs_X8_kill : Cv yX8_kill cX8_kill 4 (some .int) 2 := ⟨kw_1210, ⟨kw_1208, kw_1209⟩, kw_67, by decide, by decide, by decide +kernel⟩
set_option maxHeartbeats 4000000 in
set_option maxRecDepth 100000 in
theorem c_X8_kill (l : Launch) (E : Ev) (M : Mem) (p i : Int) (g1 : -2147483648 ≤ p) (g2 : p < 2147483648) (g3 : 0 ≤ i) (g4 : i ≤ 1) : Ct l yX8_kill cX8_kill 4 (some .int) rm_X8_kill E M [.ref (E.1 (71)), .int (iI (p)), .int (iI (i))] (pI (fun z M' => z = -1 ∧ M' = M ∧ ¬ (0 ≤ p ∧ p < 16) ∨ (0 ≤ p ∧ p < 16) ∧ z = (if (M 78 11).toNat.testBit p.toNat = true then 1 else 0) ∧ M' = sto M 78 11 (kiS (M 78 11) p i))) := by
  refine Ct_of (lv := [(0, .ref (E.1 (71))), (1, .int (iI (p))), (2, .int (iI (i)))]) (by decide) ⟨rfl, rfl⟩ (Nat.le_of_ble_eq_true rfl) rfl (fun x _ B R => ?_)
  refine x_iload_n B dX8_kill_0 1 rfl rfl ?_
  refine x_callS B (st := []) (av := [.int (iI (p))]) dX8_kill_1 cs_X8_isPoint kw_1037 ⟨rfl, rfl, Nat.le_of_ble_eq_true rfl, Nat.le_of_ble_eq_true rfl⟩ rfl rfl (Nat.le_of_ble_eq_true rfl) (c_X8_isPoint _ E _ p (by omega) (by omega)) (k_i (fun z1 Mq hz1 => ?_))
  obtain ⟨rfl, hz1⟩ := hz1
  refine x_if_ne B (tgt := 9) dX8_kill_4 (by decide) ⟨by omega, by omega⟩ (fun c4 => ?_) (fun c4 => ?_)
  · show Vx x E M 9 [(0, .ref (E.1 (71))), (1, .int (iI (p))), (2, .int (iI (i)))] []
    refine x_aload_n B dX8_kill_9 0 rfl rfl ?_
    refine x_getR B (ci := 8) (k := 14) dX8_kill_10 rfl rfl rfl (by decide) inGX8 kw_819 ?_
    refine x_bipush B dX8_kill_13 rfl ?_
    refine x_iald B (lo := 0) (hi := 65535) dX8_kill_15 rfl (by omega) (by omega) rfl (fun z15 ez15 lz15 uz15 => ?_)
    have ez15 : Is z15 (M 78 11) := ez15
    refine x_iload_n B dX8_kill_16 1 rfl rfl ?_
    refine x_ishr B dX8_kill_17 (by omega) ⟨by omega, by omega⟩ (by omega) (by omega) ?_
    refine x_iconst B dX8_kill_18 ?_
    refine x_iand B dX8_kill_19 (Int.natCast_nonneg _) (by omega) ?_
    have hbit : ((((((z15).toNat >>> (p).toNat : Nat) : Int)).toNat &&& (1 : Int).toNat : Nat) : Int) = (if (M 78 11).toNat.testBit p.toNat = true then 1 else 0) := by
      have b := bit_v z15.toNat p.toNat
      rw [Is_e ez15] at b ⊢
      rcases b with ⟨h5, h6⟩ | ⟨h5, h6⟩
      · rw [if_pos h6]
        exact h5
      · rw [if_neg (by rw [h6]; decide)]
        exact h5
    refine x_istore_n B dX8_kill_20 [1, 2, 3, 0] rfl (by decide) (lv' := [(0, .ref (E.1 (71))), (1, .int (iI (p))), (2, .int (iI (i))), (3, .int (iI (((((((z15).toNat >>> (p).toNat : Nat) : Int)).toNat &&& (1 : Int).toNat : Nat) : Int))))]) rfl ?_
    refine x_aload_n B dX8_kill_21 0 rfl rfl ?_
    refine x_getR B (ci := 8) (k := 14) dX8_kill_22 rfl rfl rfl (by decide) inGX8 kw_819 ?_
    refine x_bipush B dX8_kill_25 rfl ?_
    refine x_iload_n B dX8_kill_27 2 rfl rfl ?_
    refine x_if_eq B (tgt := 45) dX8_kill_28 (by decide) ⟨by omega, by omega⟩ (fun c28 => ?_) (fun c28 => ?_)
    · show Vx x E M 45 [(0, .ref (E.1 (71))), (1, .int (iI (p))), (2, .int (iI (i))), (3, .int (iI (((((((z15).toNat >>> (p).toNat : Nat) : Int)).toNat &&& (1 : Int).toNat : Nat) : Int))))] [.int (iI (11)), .ref (E.1 (78))]
      refine x_aload_n B dX8_kill_45 0 rfl rfl ?_
      refine x_getR B (ci := 8) (k := 14) dX8_kill_46 rfl rfl rfl (by decide) inGX8 kw_819 ?_
      refine x_bipush B dX8_kill_49 rfl ?_
      refine x_iald B (lo := 0) (hi := 65535) dX8_kill_51 rfl (by omega) (by omega) rfl (fun z51 ez51 lz51 uz51 => ?_)
      have ez51 : Is z51 (M 78 11) := ez51
      refine x_iconst B dX8_kill_52 ?_
      refine x_iload_n B dX8_kill_53 1 rfl rfl ?_
      refine x_shl1 B dX8_kill_54 (by omega) (by omega) ?_
      refine x_iconst B dX8_kill_55 ?_
      refine x_inot B dX8_kill_56 ?_
      refine x_iandn B dX8_kill_57 (by omega) (Int.natCast_nonneg _) ?_
      have d16 : True := trivial
      refine x_iast B (lo := 0) (hi := 65535) dX8_kill_58 rfl (by omega) (by omega) rfl (by first | exact o16.1 | exact (ndf16 (a := z51) (b := ((2 ^ p.toNat : Nat) : Int)) (by omega) (by omega)).1) (by first | exact o16.2 | exact (ndf16 (a := z51) (b := ((2 ^ p.toNat : Nat) : Int)) (by omega) (by omega)).2) ?_
      refine x_iload_n B dX8_kill_59 3 rfl rfl ?_
      exact r_i B R dX8_kill_60 (Or.inr ⟨by omega, hbit, by unfold kiS; rw [if_pos c28, ← Is_e ez51, Int.toNat_natCast]; rfl⟩)
    · show Vx x E M 31 [(0, .ref (E.1 (71))), (1, .int (iI (p))), (2, .int (iI (i))), (3, .int (iI (((((((z15).toNat >>> (p).toNat : Nat) : Int)).toNat &&& (1 : Int).toNat : Nat) : Int))))] [.int (iI (11)), .ref (E.1 (78))]
      refine x_aload_n B dX8_kill_31 0 rfl rfl ?_
      refine x_getR B (ci := 8) (k := 14) dX8_kill_32 rfl rfl rfl (by decide) inGX8 kw_819 ?_
      refine x_bipush B dX8_kill_35 rfl ?_
      refine x_iald B (lo := 0) (hi := 65535) dX8_kill_37 rfl (by omega) (by omega) rfl (fun z37 ez37 lz37 uz37 => ?_)
      have ez37 : Is z37 (M 78 11) := ez37
      refine x_iconst B dX8_kill_38 ?_
      refine x_iload_n B dX8_kill_39 1 rfl rfl ?_
      refine x_shl1 B dX8_kill_40 (by omega) (by omega) ?_
      refine x_ior B dX8_kill_41 (by omega) (Int.natCast_nonneg _) ?_
      have o16 := or16 (a := z37) (p := p) (by omega) (by omega) (by omega) (by omega)
      refine x_goto B (tgt := 58) dX8_kill_42 (by decide) ?_
      have d16 : True := trivial
      refine x_iast B (lo := 0) (hi := 65535) dX8_kill_58 rfl (by omega) (by omega) rfl (by first | exact o16.1 | exact (ndf16 (a := z51) (b := ((2 ^ p.toNat : Nat) : Int)) (by omega) (by omega)).1) (by first | exact o16.2 | exact (ndf16 (a := z51) (b := ((2 ^ p.toNat : Nat) : Int)) (by omega) (by omega)).2) ?_
      refine x_iload_n B dX8_kill_59 3 rfl rfl ?_
      exact r_i B R dX8_kill_60 (Or.inr ⟨by omega, hbit, by unfold kiS; rw [if_neg c28, ← Is_e ez37, Int.toNat_natCast]; rfl⟩)
  · show Vx x E M 7 [(0, .ref (E.1 (71))), (1, .int (iI (p))), (2, .int (iI (i)))] []
    refine x_iconst B dX8_kill_7 ?_
    exact r_i B R dX8_kill_8 (Or.inl ⟨rfl, rfl, by omega⟩)
abbrev rm_X8_answer : Room := { frames := 2, cells := 0, slots := 0, locals := 45 }
theorem cs_X8_answer : Cv yX8_answer cX8_answer 5 (some .int) 4 := ⟨kw_1202, ⟨kw_1200, kw_1201⟩, kw_67, by decide, by decide, by decide +kernel⟩
set_option maxHeartbeats 4000000 in
set_option maxRecDepth 100000 in
theorem c_X8_answer (l : Launch) (E : Ev) (M : Mem) (sc pl p fe : Int) (g1 : -2147483648 ≤ sc) (g2 : sc < 2147483648) (g3 : -2147483648 ≤ pl) (g4 : pl < 2147483648) (g5 : -2147483648 ≤ p) (g6 : p < 2147483648) (g7 : 0 ≤ fe) (g8 : fe ≤ 1) : Ct l yX8_answer cX8_answer 5 (some .int) rm_X8_answer E M [.ref (E.1 (71)), .int (iI (sc)), .int (iI (pl)), .int (iI (p)), .int (iI (fe))] (pI (fun z M' => z = -1 ∧ M' = M ∧ ¬ (0 ≤ sc ∧ sc < 6 ∧ 0 ≤ pl ∧ pl < 26 ∧ 0 ≤ p ∧ p < 16) ∨ (0 ≤ sc ∧ sc < 6 ∧ 0 ≤ pl ∧ pl < 26 ∧ 0 ≤ p ∧ p < 16) ∧ z = -3 ∧ M' = M ∧ 12 ≤ M 71 37 ∨ (0 ≤ sc ∧ sc < 6 ∧ 0 ≤ pl ∧ pl < 26 ∧ 0 ≤ p ∧ p < 16) ∧ z = M 71 37 + 1 ∧ M' = keepN M sc pl p fe ∧ M 71 37 < 12)) := by
  refine Ct_of (lv := [(0, .ref (E.1 (71))), (1, .int (iI (sc))), (2, .int (iI (pl))), (3, .int (iI (p))), (4, .int (iI (fe)))]) (by decide) ⟨rfl, rfl⟩ (Nat.le_of_ble_eq_true rfl) rfl (fun x _ B R => ?_)
  refine x_iload_n B dX8_answer_0 1 rfl rfl ?_
  refine x_callS B (st := []) (av := [.int (iI (sc))]) dX8_answer_1 cs_X8_isScene kw_1006 ⟨rfl, rfl, Nat.le_of_ble_eq_true rfl, Nat.le_of_ble_eq_true rfl⟩ rfl rfl (Nat.le_of_ble_eq_true rfl) (c_X8_isScene _ E _ sc (by omega) (by omega)) (k_i (fun z1 Mq hz1 => ?_))
  obtain ⟨rfl, hz1⟩ := hz1
  refine x_if_eq B (tgt := 26) dX8_answer_4 (by decide) ⟨by omega, by omega⟩ (fun c4 => ?_) (fun c4 => ?_)
  · show Vx x E M 26 [(0, .ref (E.1 (71))), (1, .int (iI (sc))), (2, .int (iI (pl))), (3, .int (iI (p))), (4, .int (iI (fe)))] []
    refine x_iconst B dX8_answer_26 ?_
    exact r_i B R dX8_answer_27 (Or.inl ⟨rfl, rfl, by omega⟩)
  · show Vx x E M 7 [(0, .ref (E.1 (71))), (1, .int (iI (sc))), (2, .int (iI (pl))), (3, .int (iI (p))), (4, .int (iI (fe)))] []
    refine x_iload_n B dX8_answer_7 2 rfl rfl ?_
    refine x_i2l B dX8_answer_8 ⟨by omega, by omega⟩ ?_
    refine x_lconst B (z := 0) dX8_answer_9 rfl ?_
    refine x_ldc2 B (z := 25) dX8_answer_10 kw_1025 rfl ?_
    refine x_callS B (st := []) (av := [.long (iL (pl)), .long (iL (0)), .long (iL (25))]) dX8_answer_13 cs_X8_in kw_952 ⟨rfl, rfl, Nat.le_of_ble_eq_true rfl, Nat.le_of_ble_eq_true rfl⟩ rfl rfl (Nat.le_of_ble_eq_true rfl) (c_X8_in _ E _ pl 0 25 (by omega) (by omega) (by omega) (by omega) (by omega) (by omega)) (k_i (fun z13 Mq hz13 => ?_))
    obtain ⟨rfl, hz13⟩ := hz13
    refine x_if_eq B (tgt := 26) dX8_answer_16 (by decide) ⟨by omega, by omega⟩ (fun c16 => ?_) (fun c16 => ?_)
    · show Vx x E M 26 [(0, .ref (E.1 (71))), (1, .int (iI (sc))), (2, .int (iI (pl))), (3, .int (iI (p))), (4, .int (iI (fe)))] []
      refine x_iconst B dX8_answer_26 ?_
      exact r_i B R dX8_answer_27 (Or.inl ⟨rfl, rfl, by omega⟩)
    · show Vx x E M 19 [(0, .ref (E.1 (71))), (1, .int (iI (sc))), (2, .int (iI (pl))), (3, .int (iI (p))), (4, .int (iI (fe)))] []
      refine x_iload_n B dX8_answer_19 3 rfl rfl ?_
      refine x_callS B (st := []) (av := [.int (iI (p))]) dX8_answer_20 cs_X8_isPoint kw_1037 ⟨rfl, rfl, Nat.le_of_ble_eq_true rfl, Nat.le_of_ble_eq_true rfl⟩ rfl rfl (Nat.le_of_ble_eq_true rfl) (c_X8_isPoint _ E _ p (by omega) (by omega)) (k_i (fun z20 Mq hz20 => ?_))
      obtain ⟨rfl, hz20⟩ := hz20
      refine x_if_ne B (tgt := 28) dX8_answer_23 (by decide) ⟨by omega, by omega⟩ (fun c23 => ?_) (fun c23 => ?_)
      · show Vx x E M 28 [(0, .ref (E.1 (71))), (1, .int (iI (sc))), (2, .int (iI (pl))), (3, .int (iI (p))), (4, .int (iI (fe)))] []
        refine x_aload_n B dX8_answer_28 0 rfl rfl ?_
        refine x_getI B (ci := 8) (k := 37) (lo := 0) (hi := 12) dX8_answer_29 rfl rfl rfl (by decide) inGX8 kw_842 rfl (fun z29 ez29 lz29 uz29 => ?_)
        have e29 := Is_e ez29
        refine x_bipush B dX8_answer_32 rfl ?_
        refine x_icmp_ne B (tgt := 40) dX8_answer_34 (by decide) ⟨by omega, by omega⟩ ⟨by omega, by omega⟩ (fun c34 => ?_) (fun c34 => ?_)
        · show Vx x E M 40 [(0, .ref (E.1 (71))), (1, .int (iI (sc))), (2, .int (iI (pl))), (3, .int (iI (p))), (4, .int (iI (fe)))] []
          refine x_aload_n B dX8_answer_40 0 rfl rfl ?_
          refine x_getR B (ci := 8) (k := 38) dX8_answer_41 rfl rfl rfl (by decide) inGX8 kw_843 ?_
          refine x_aload_n B dX8_answer_44 0 rfl rfl ?_
          refine x_getI B (ci := 8) (k := 37) (lo := 0) (hi := 12) dX8_answer_45 rfl rfl rfl (by decide) inGX8 kw_842 rfl (fun z45 ez45 lz45 uz45 => ?_)
          have e45 := Is_e ez45
          refine x_iload_n B dX8_answer_48 1 rfl rfl ?_
          refine x_iast B (lo := 0) (hi := 5) dX8_answer_49 rfl (by omega) (by omega) rfl (by omega) (by omega) ?_
          refine x_aload_n B dX8_answer_50 0 rfl rfl ?_
          refine x_getR B (ci := 8) (k := 39) dX8_answer_51 rfl rfl rfl (by decide) inGX8 kw_844 ?_
          refine x_aload_n B dX8_answer_54 0 rfl rfl ?_
          refine x_getI B (ci := 8) (k := 37) (lo := 0) (hi := 12) dX8_answer_55 rfl rfl rfl (by decide) inGX8 kw_842 rfl (fun z55 ez55 lz55 uz55 => ?_)
          have e55 := Is_e ez55
          rw [sto_ni _ _ _ _ (by decide)] at e55
          refine x_iload_n B dX8_answer_58 2 rfl rfl ?_
          refine x_iast B (lo := 0) (hi := 25) dX8_answer_59 rfl (by omega) (by omega) rfl (by omega) (by omega) ?_
          refine x_aload_n B dX8_answer_60 0 rfl rfl ?_
          refine x_getR B (ci := 8) (k := 40) dX8_answer_61 rfl rfl rfl (by decide) inGX8 kw_845 ?_
          refine x_aload_n B dX8_answer_64 0 rfl rfl ?_
          refine x_getI B (ci := 8) (k := 37) (lo := 0) (hi := 12) dX8_answer_65 rfl rfl rfl (by decide) inGX8 kw_842 rfl (fun z65 ez65 lz65 uz65 => ?_)
          have e65 := Is_e ez65
          rw [sto_ni _ _ _ _ (by decide), sto_ni _ _ _ _ (by decide)] at e65
          refine x_iload_n B dX8_answer_68 3 rfl rfl ?_
          refine x_iast B (lo := 0) (hi := 15) dX8_answer_69 rfl (by omega) (by omega) rfl (by omega) (by omega) ?_
          refine x_aload_n B dX8_answer_70 0 rfl rfl ?_
          refine x_getR B (ci := 8) (k := 41) dX8_answer_71 rfl rfl rfl (by decide) inGX8 kw_846 ?_
          refine x_aload_n B dX8_answer_74 0 rfl rfl ?_
          refine x_getI B (ci := 8) (k := 37) (lo := 0) (hi := 12) dX8_answer_75 rfl rfl rfl (by decide) inGX8 kw_842 rfl (fun z75 ez75 lz75 uz75 => ?_)
          have e75 := Is_e ez75
          rw [sto_ni _ _ _ _ (by decide), sto_ni _ _ _ _ (by decide), sto_ni _ _ _ _ (by decide)] at e75
          refine x_iload B dX8_answer_78 4 rfl ?_
          refine x_zast B (lo := 0) (hi := 1) dX8_answer_80 rfl (by omega) (by omega) rfl (by omega) (by omega) (by omega) (by omega) ?_
          refine x_aload_n B dX8_answer_81 0 rfl rfl ?_
          refine x_dup B dX8_answer_82 rfl ?_
          refine x_getI B (ci := 8) (k := 37) (lo := 0) (hi := 12) dX8_answer_83 rfl rfl rfl (by decide) inGX8 kw_842 rfl (fun z83 ez83 lz83 uz83 => ?_)
          have e83 := Is_e ez83
          rw [sto_ni _ _ _ _ (by decide), sto_ni _ _ _ _ (by decide), sto_ni _ _ _ _ (by decide), sto_ni _ _ _ _ (by decide)] at e83
          refine x_iconst B dX8_answer_86 ?_
          refine x_iadd B dX8_answer_87 ?_
          refine x_put B (ci := 8) (k := 37) (lo := 0) (hi := 12) (ty := .int) dX8_answer_88 rfl rfl rfl (by decide) inGX8 tyX8_ok nmX8 kw_842 rfl (by decide +kernel) (nar_i _) (fit_i _) rfl (by omega) (by omega) ?_
          refine x_aload_n B dX8_answer_91 0 rfl rfl ?_
          refine x_getI B (ci := 8) (k := 37) (lo := 0) (hi := 12) dX8_answer_92 rfl rfl rfl (by decide) inGX8 kw_842 rfl (fun z92 ez92 lz92 uz92 => ?_)
          exact r_i B R dX8_answer_95 (Or.inr (Or.inr ⟨by omega, by rw [Is_e ez92, sto_eq, e83], by unfold keepN; rw [e45, e55, e65, e75, e83], by omega⟩))
        · show Vx x E M 37 [(0, .ref (E.1 (71))), (1, .int (iI (sc))), (2, .int (iI (pl))), (3, .int (iI (p))), (4, .int (iI (fe)))] []
          refine x_bipush B dX8_answer_37 rfl ?_
          exact r_i B R dX8_answer_39 (Or.inr (Or.inl ⟨by omega, rfl, rfl, by omega⟩))
      · show Vx x E M 26 [(0, .ref (E.1 (71))), (1, .int (iI (sc))), (2, .int (iI (pl))), (3, .int (iI (p))), (4, .int (iI (fe)))] []
        refine x_iconst B dX8_answer_26 ?_
        exact r_i B R dX8_answer_27 (Or.inl ⟨rfl, rfl, by omega⟩)
