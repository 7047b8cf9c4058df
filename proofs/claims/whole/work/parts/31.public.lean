theorem rV2 : ∀ j, j < 12 → 0 ≤ (rngT 2 j).1 ∧ (rngT 2 j).2 ≤ 65535 := by decide +kernel
theorem gtB_0 {M : Mem} (hw : wf M) (f : Nat → Int) : gtB f (M 14) = fun q => decide (0 < f q) := by
  funext q
  have h := hw 14 q
  have e : M 14 q = 0 := by
    have h1 : (0 : Int) ≤ M 14 q := h.1
    have h2 : M 14 q ≤ (0 : Int) := h.2
    omega
  unfold gtB
  rw [e]
def poB (f : Nat → Int) (q : Nat) : Bool := decide (0 < f q)
theorem offC_4 {M M' : Mem} (h : offC M M' 16 57) : ∀ i, i < 16 ∨ 57 ≤ i → M' i = M i := fun i hi => offC_f h hi
theorem LkOK_0 (M : Mem) : LkOK (sto M 51 1 0) := by
  intro pl _ hb
  rw [sto_eq] at hb
  exact absurd hb (by simp)
abbrev rm_X7_end : Room := { frames := 0, cells := 0, slots := 0, locals := 0 }
theorem cs_X7_end : Cv yX7_end cX7_end 3 (some .int) 1 := ⟨kw_340, ⟨kw_338, kw_339⟩, kw_57, by decide, by decide, by decide +kernel⟩
set_option maxHeartbeats 4000000 in
set_option maxRecDepth 100000 in
theorem c_X7_end (l : Launch) (E : Ev) (M : Mem) (n : Int) (g1 : -2147483648 ≤ n) (g2 : n < 2147483648) : Ct l yX7_end cX7_end 3 (some .int) rm_X7_end E M [.ref (E.1 (0)), .int (iI (n))] (pI (fun z M' => z = -1 ∧ M' = M ∧ ¬ (0 ≤ n ∧ n ≤ M 7 1) ∨ (0 ≤ n ∧ n ≤ M 7 1) ∧ z = M 7 1 ∧ M' = sto M 7 1 n)) := by
  refine Ct_of (lv := [(0, .ref (E.1 (0))), (1, .int (iI (n)))]) (by decide) ⟨rfl, rfl⟩ (Nat.le_of_ble_eq_true rfl) rfl (fun x _ B R => ?_)
  refine x_iload_n B dX7_end_0 1 rfl rfl ?_
  refine x_if_lt B (tgt := 15) dX7_end_1 (by decide) ⟨by omega, by omega⟩ (fun c1 => ?_) (fun c1 => ?_)
  · show Vx x E M 15 [(0, .ref (E.1 (0))), (1, .int (iI (n)))] []
    refine x_iconst B dX7_end_15 ?_
    exact r_i B R dX7_end_16 (Or.inl ⟨rfl, rfl, by omega⟩)
  · show Vx x E M 4 [(0, .ref (E.1 (0))), (1, .int (iI (n)))] []
    refine x_iload_n B dX7_end_4 1 rfl rfl ?_
    refine x_aload_n B dX7_end_5 0 rfl rfl ?_
    refine x_getR B (ci := 7) (k := 2) dX7_end_6 rfl rfl rfl (by decide) inGX7 kw_285 ?_
    refine x_getI B (ci := 5) (k := 1) (lo := 0) (hi := 200) dX7_end_9 rfl rfl rfl (by decide) inGX5 kw_125 rfl (fun z9 ez9 lz9 uz9 => ?_)
    have e9 := Is_e ez9
    refine x_icmp_le B (tgt := 17) dX7_end_12 (by decide) ⟨by omega, by omega⟩ ⟨by omega, by omega⟩ (fun c12 => ?_) (fun c12 => ?_)
    · show Vx x E M 17 [(0, .ref (E.1 (0))), (1, .int (iI (n)))] []
      refine x_aload_n B dX7_end_17 0 rfl rfl ?_
      refine x_getR B (ci := 7) (k := 2) dX7_end_18 rfl rfl rfl (by decide) inGX7 kw_285 ?_
      refine x_getI B (ci := 5) (k := 1) (lo := 0) (hi := 200) dX7_end_21 rfl rfl rfl (by decide) inGX5 kw_125 rfl (fun z21 ez21 lz21 uz21 => ?_)
      have e21 := Is_e ez21
      refine x_istore_n B dX7_end_24 [1, 2, 0] rfl (by decide) (lv' := [(0, .ref (E.1 (0))), (1, .int (iI (n))), (2, .int (iI (z21)))]) rfl ?_
      refine x_aload_n B dX7_end_25 0 rfl rfl ?_
      refine x_getR B (ci := 7) (k := 2) dX7_end_26 rfl rfl rfl (by decide) inGX7 kw_285 ?_
      refine x_iload_n B dX7_end_29 1 rfl rfl ?_
      refine x_put B (ci := 5) (k := 1) (lo := 0) (hi := 200) (ty := .int) dX7_end_30 rfl rfl rfl (by decide) inGX5 tyX5_ok nmX5 kw_125 rfl (by decide +kernel) (nar_i _) (fit_i _) rfl (by omega) (by omega) ?_
      refine x_iload_n B dX7_end_33 2 rfl rfl ?_
      exact r_i B R dX7_end_34 (Or.inr ⟨by omega, e21, rfl⟩)
    · show Vx x E M 15 [(0, .ref (E.1 (0))), (1, .int (iI (n)))] []
      refine x_iconst B dX7_end_15 ?_
      exact r_i B R dX7_end_16 (Or.inl ⟨rfl, rfl, by omega⟩)
abbrev rm_X7_fault : Room := { frames := 0, cells := 0, slots := 0, locals := 0 }
theorem cs_X7_fault : Cv yX7_fault cX7_fault 1 (some .int) 0 := ⟨kw_490, ⟨kw_488, kw_489⟩, kw_57, by decide, by decide, by decide +kernel⟩
set_option maxHeartbeats 4000000 in
set_option maxRecDepth 100000 in
theorem c_X7_fault (l : Launch) (E : Ev) (M : Mem)   : Ct l yX7_fault cX7_fault 1 (some .int) rm_X7_fault E M [.ref (E.1 (0))] (pI (fun z M' => M = M' ∧ (z = M 7 2))) := by
  refine Ct_of (lv := [(0, .ref (E.1 (0)))]) (by decide) ⟨rfl, rfl⟩ (Nat.le_of_ble_eq_true rfl) rfl (fun x _ B R => ?_)
  refine x_aload_n B dX7_fault_0 0 rfl rfl ?_
  refine x_getR B (ci := 7) (k := 2) dX7_fault_1 rfl rfl rfl (by decide) inGX7 kw_285 ?_
  refine x_getI B (ci := 5) (k := 2) (lo := 0) (hi := 4) dX7_fault_4 rfl rfl rfl (by decide) inGX5 kw_127 rfl (fun z4 ez4 lz4 uz4 => ?_)
  exact r_i B R dX7_fault_7 (⟨rfl, Is_e ez4⟩)
abbrev rm_X7_rule : Room := { frames := 1, cells := 0, slots := 0, locals := 21 }
theorem cs_X7_rule : Cv yX7_rule cX7_rule 2 (some .int) 1 := ⟨kw_494, ⟨kw_492, kw_493⟩, kw_57, by decide, by decide, by decide +kernel⟩
set_option maxHeartbeats 4000000 in
set_option maxRecDepth 100000 in
theorem c_X7_rule (l : Launch) (E : Ev) (M : Mem) (w : Int) (g1 : -2147483648 ≤ w) (g2 : w < 2147483648) : Ct l yX7_rule cX7_rule 2 (some .int) rm_X7_rule E M [.ref (E.1 (0)), .int (iI (w))] (pI (fun z M' => M = M' ∧ (0 ≤ w ∧ w < 12 ∧ z = M 2 w.toNat ∨ 20 ≤ w ∧ w < 36 ∧ z = M 3 (w - 20).toNat ∨ ¬ (0 ≤ w ∧ w < 12) ∧ ¬ (20 ≤ w ∧ w < 36) ∧ z = -1))) := by
  refine Ct_of (lv := [(0, .ref (E.1 (0))), (1, .int (iI (w)))]) (by decide) ⟨rfl, rfl⟩ (Nat.le_of_ble_eq_true rfl) rfl (fun x _ B R => ?_)
  refine x_iload_n B dX7_rule_0 1 rfl rfl ?_
  refine x_bipush B dX7_rule_1 rfl ?_
  refine x_callS B (st := []) (av := [.int (iI (w)), .int (iI (12))]) dX7_rule_3 cs_X7_within kw_495 ⟨rfl, rfl, Nat.le_of_ble_eq_true rfl, Nat.le_of_ble_eq_true rfl⟩ rfl rfl (Nat.le_of_ble_eq_true rfl) (c_X7_within _ E _ w 12 (by omega) (by omega) (by omega) (by omega)) (k_i (fun z3 Mq hz3 => ?_))
  obtain ⟨rfl, hz3⟩ := hz3
  refine x_if_eq B (tgt := 19) dX7_rule_6 (by decide) ⟨by omega, by omega⟩ (fun c6 => ?_) (fun c6 => ?_)
  · show Vx x E M 19 [(0, .ref (E.1 (0))), (1, .int (iI (w)))] []
    refine x_iload_n B dX7_rule_19 1 rfl rfl ?_
    refine x_bipush B dX7_rule_20 rfl ?_
    refine x_icmp_lt B (tgt := 31) dX7_rule_22 (by decide) ⟨by omega, by omega⟩ ⟨by omega, by omega⟩ (fun c22 => ?_) (fun c22 => ?_)
    · show Vx x E M 31 [(0, .ref (E.1 (0))), (1, .int (iI (w)))] []
      refine x_iconst B dX7_rule_31 ?_
      exact r_i B R dX7_rule_32 (⟨rfl, Or.inr (Or.inr ⟨by omega, by omega, rfl⟩)⟩)
    · show Vx x E M 25 [(0, .ref (E.1 (0))), (1, .int (iI (w)))] []
      refine x_iload_n B dX7_rule_25 1 rfl rfl ?_
      refine x_bipush B dX7_rule_26 rfl ?_
      refine x_icmp_lt B (tgt := 33) dX7_rule_28 (by decide) ⟨by omega, by omega⟩ ⟨by omega, by omega⟩ (fun c28 => ?_) (fun c28 => ?_)
      · show Vx x E M 33 [(0, .ref (E.1 (0))), (1, .int (iI (w)))] []
        refine x_aload_n B dX7_rule_33 0 rfl rfl ?_
        refine x_getR B (ci := 7) (k := 0) dX7_rule_34 rfl rfl rfl (by decide) inGX7 kw_283 ?_
        refine x_getR B (ci := 1) (k := 1) dX7_rule_37 rfl rfl rfl (by decide) inGX1 kw_105 ?_
        refine x_iload_n B dX7_rule_40 1 rfl rfl ?_
        refine x_bipush B dX7_rule_41 rfl ?_
        refine x_isub B dX7_rule_43 ?_
        refine x_iald B (lo := 1) (hi := 9) dX7_rule_44 rfl (by omega) (by omega) rfl (fun z44 ez44 lz44 uz44 => ?_)
        exact r_i B R dX7_rule_45 (⟨rfl, Or.inr (Or.inl ⟨by omega, by omega, Is_e ez44⟩)⟩)
      · show Vx x E M 31 [(0, .ref (E.1 (0))), (1, .int (iI (w)))] []
        refine x_iconst B dX7_rule_31 ?_
        exact r_i B R dX7_rule_32 (⟨rfl, Or.inr (Or.inr ⟨by omega, by omega, rfl⟩)⟩)
  · show Vx x E M 9 [(0, .ref (E.1 (0))), (1, .int (iI (w)))] []
    refine x_aload_n B dX7_rule_9 0 rfl rfl ?_
    refine x_getR B (ci := 7) (k := 0) dX7_rule_10 rfl rfl rfl (by decide) inGX7 kw_283 ?_
    refine x_getR B (ci := 1) (k := 0) dX7_rule_13 rfl rfl rfl (by decide) inGX1 kw_103 ?_
    refine x_iload_n B dX7_rule_16 1 rfl rfl ?_
    refine x_ialdW B (lo := 0) (hi := 65535) dX7_rule_17 rfl (by omega) (by omega) (rV2 _ (by omega)) (fun z17 ez17 lz17 uz17 => ?_)
    exact r_i B R dX7_rule_18 (⟨rfl, Or.inl ⟨by omega, by omega, Is_e ez17⟩⟩)
abbrev rm_X7_light : Room := { frames := 1, cells := 0, slots := 0, locals := 21 }
theorem cs_X7_light : Cv yX7_light cX7_light 6 (some .int) 3 := ⟨kw_501, ⟨kw_499, kw_500⟩, kw_57, by decide, by decide, by decide +kernel⟩
set_option maxHeartbeats 4000000 in
set_option maxRecDepth 100000 in
theorem c_X7_light (l : Launch) (E : Ev) (M : Mem) (sc ce v : Int) (g1 : -2147483648 ≤ sc) (g2 : sc < 2147483648) (g3 : -2147483648 ≤ ce) (g4 : ce < 2147483648) (g5 : -2147483648 ≤ v) (g6 : v < 2147483648) : Ct l yX7_light cX7_light 6 (some .int) rm_X7_light E M [.ref (E.1 (0)), .int (iI (sc)), .int (iI (ce)), .int (iI (v))] (pI (fun z M' => z = -1 ∧ M' = M ∧ ¬ (0 ≤ sc ∧ sc < 6 ∧ 0 ≤ ce ∧ ce < 64 ∧ 0 ≤ v ∧ v ≤ 9) ∨ (0 ≤ sc ∧ sc < 6 ∧ 0 ≤ ce ∧ ce < 64 ∧ 0 ≤ v ∧ v ≤ 9) ∧ z = M 12 (sc * 64 + ce).toNat ∧ M' = sto M 12 (sc * 64 + ce).toNat v)) := by
  refine Ct_of (lv := [(0, .ref (E.1 (0))), (1, .int (iI (sc))), (2, .int (iI (ce))), (3, .int (iI (v)))]) (by decide) ⟨rfl, rfl⟩ (Nat.le_of_ble_eq_true rfl) rfl (fun x _ B R => ?_)
  refine x_iload_n B dX7_light_0 1 rfl rfl ?_
  refine x_bipush B dX7_light_1 rfl ?_
  refine x_callS B (st := []) (av := [.int (iI (sc)), .int (iI (6))]) dX7_light_3 cs_X7_within kw_495 ⟨rfl, rfl, Nat.le_of_ble_eq_true rfl, Nat.le_of_ble_eq_true rfl⟩ rfl rfl (Nat.le_of_ble_eq_true rfl) (c_X7_within _ E _ sc 6 (by omega) (by omega) (by omega) (by omega)) (k_i (fun z3 Mq hz3 => ?_))
  obtain ⟨rfl, hz3⟩ := hz3
  refine x_if_eq B (tgt := 28) dX7_light_6 (by decide) ⟨by omega, by omega⟩ (fun c6 => ?_) (fun c6 => ?_)
  · show Vx x E M 28 [(0, .ref (E.1 (0))), (1, .int (iI (sc))), (2, .int (iI (ce))), (3, .int (iI (v)))] []
    refine x_iconst B dX7_light_28 ?_
    exact r_i B R dX7_light_29 (Or.inl ⟨rfl, rfl, by omega⟩)
  · show Vx x E M 9 [(0, .ref (E.1 (0))), (1, .int (iI (sc))), (2, .int (iI (ce))), (3, .int (iI (v)))] []
    refine x_iload_n B dX7_light_9 2 rfl rfl ?_
    refine x_bipush B dX7_light_10 rfl ?_
    refine x_callS B (st := []) (av := [.int (iI (ce)), .int (iI (64))]) dX7_light_12 cs_X7_within kw_495 ⟨rfl, rfl, Nat.le_of_ble_eq_true rfl, Nat.le_of_ble_eq_true rfl⟩ rfl rfl (Nat.le_of_ble_eq_true rfl) (c_X7_within _ E _ ce 64 (by omega) (by omega) (by omega) (by omega)) (k_i (fun z12 Mq hz12 => ?_))
    obtain ⟨rfl, hz12⟩ := hz12
    refine x_if_eq B (tgt := 28) dX7_light_15 (by decide) ⟨by omega, by omega⟩ (fun c15 => ?_) (fun c15 => ?_)
    · show Vx x E M 28 [(0, .ref (E.1 (0))), (1, .int (iI (sc))), (2, .int (iI (ce))), (3, .int (iI (v)))] []
      refine x_iconst B dX7_light_28 ?_
      exact r_i B R dX7_light_29 (Or.inl ⟨rfl, rfl, by omega⟩)
    · show Vx x E M 18 [(0, .ref (E.1 (0))), (1, .int (iI (sc))), (2, .int (iI (ce))), (3, .int (iI (v)))] []
      refine x_iload_n B dX7_light_18 3 rfl rfl ?_
      refine x_if_lt B (tgt := 28) dX7_light_19 (by decide) ⟨by omega, by omega⟩ (fun c19 => ?_) (fun c19 => ?_)
      · show Vx x E M 28 [(0, .ref (E.1 (0))), (1, .int (iI (sc))), (2, .int (iI (ce))), (3, .int (iI (v)))] []
        refine x_iconst B dX7_light_28 ?_
        exact r_i B R dX7_light_29 (Or.inl ⟨rfl, rfl, by omega⟩)
      · show Vx x E M 22 [(0, .ref (E.1 (0))), (1, .int (iI (sc))), (2, .int (iI (ce))), (3, .int (iI (v)))] []
        refine x_iload_n B dX7_light_22 3 rfl rfl ?_
        refine x_bipush B dX7_light_23 rfl ?_
        refine x_icmp_le B (tgt := 30) dX7_light_25 (by decide) ⟨by omega, by omega⟩ ⟨by omega, by omega⟩ (fun c25 => ?_) (fun c25 => ?_)
        · show Vx x E M 30 [(0, .ref (E.1 (0))), (1, .int (iI (sc))), (2, .int (iI (ce))), (3, .int (iI (v)))] []
          refine x_iload_n B dX7_light_30 1 rfl rfl ?_
          refine x_bipush B dX7_light_31 rfl ?_
          refine x_imul B dX7_light_33 ?_
          refine x_iload_n B dX7_light_34 2 rfl rfl ?_
          refine x_iadd B dX7_light_35 ?_
          refine x_istore B dX7_light_36 [1, 2, 3, 4, 0] (by decide) (lv' := [(0, .ref (E.1 (0))), (1, .int (iI (sc))), (2, .int (iI (ce))), (3, .int (iI (v))), (4, .int (iI ((sc * 64) + ce)))]) rfl ?_
          refine x_aload_n B dX7_light_38 0 rfl rfl ?_
          refine x_getR B (ci := 7) (k := 3) dX7_light_39 rfl rfl rfl (by decide) inGX7 kw_286 ?_
          refine x_iload B dX7_light_42 4 rfl ?_
          refine x_iald B (lo := 0) (hi := 9) dX7_light_44 rfl (by omega) (by omega) rfl (fun z44 ez44 lz44 uz44 => ?_)
          refine x_istore B dX7_light_45 [1, 2, 3, 4, 5, 0] (by decide) (lv' := [(0, .ref (E.1 (0))), (1, .int (iI (sc))), (2, .int (iI (ce))), (3, .int (iI (v))), (4, .int (iI ((sc * 64) + ce))), (5, .int (iI (z44)))]) rfl ?_
          refine x_aload_n B dX7_light_47 0 rfl rfl ?_
          refine x_getR B (ci := 7) (k := 3) dX7_light_48 rfl rfl rfl (by decide) inGX7 kw_286 ?_
          refine x_iload B dX7_light_51 4 rfl ?_
          refine x_iload_n B dX7_light_53 3 rfl rfl ?_
          refine x_iast B (lo := 0) (hi := 9) dX7_light_54 rfl (by omega) (by omega) rfl (by omega) (by omega) ?_
          refine x_iload B dX7_light_55 5 rfl ?_
          exact r_i B R dX7_light_57 (Or.inr ⟨by omega, Is_e ez44, rfl⟩)
        · show Vx x E M 28 [(0, .ref (E.1 (0))), (1, .int (iI (sc))), (2, .int (iI (ce))), (3, .int (iI (v)))] []
          refine x_iconst B dX7_light_28 ?_
          exact r_i B R dX7_light_29 (Or.inl ⟨rfl, rfl, by omega⟩)
abbrev rm_X7_lightOf : Room := { frames := 1, cells := 0, slots := 0, locals := 21 }
theorem cs_X7_lightOf : Cv yX7_lightOf cX7_lightOf 3 (some .int) 2 := ⟨kw_505, ⟨kw_503, kw_504⟩, kw_57, by decide, by decide, by decide +kernel⟩
set_option maxHeartbeats 4000000 in
set_option maxRecDepth 100000 in
theorem c_X7_lightOf (l : Launch) (E : Ev) (M : Mem) (sc ce : Int) (g1 : -2147483648 ≤ sc) (g2 : sc < 2147483648) (g3 : -2147483648 ≤ ce) (g4 : ce < 2147483648) : Ct l yX7_lightOf cX7_lightOf 3 (some .int) rm_X7_lightOf E M [.ref (E.1 (0)), .int (iI (sc)), .int (iI (ce))] (pI (fun z M' => M = M' ∧ (z = -1 ∧ ¬ (0 ≤ sc ∧ sc < 6 ∧ 0 ≤ ce ∧ ce < 64) ∨ (0 ≤ sc ∧ sc < 6 ∧ 0 ≤ ce ∧ ce < 64) ∧ z = M 12 (sc * 64 + ce).toNat))) := by
  refine Ct_of (lv := [(0, .ref (E.1 (0))), (1, .int (iI (sc))), (2, .int (iI (ce)))]) (by decide) ⟨rfl, rfl⟩ (Nat.le_of_ble_eq_true rfl) rfl (fun x _ B R => ?_)
  refine x_iload_n B dX7_lightOf_0 1 rfl rfl ?_
  refine x_bipush B dX7_lightOf_1 rfl ?_
  refine x_callS B (st := []) (av := [.int (iI (sc)), .int (iI (6))]) dX7_lightOf_3 cs_X7_within kw_495 ⟨rfl, rfl, Nat.le_of_ble_eq_true rfl, Nat.le_of_ble_eq_true rfl⟩ rfl rfl (Nat.le_of_ble_eq_true rfl) (c_X7_within _ E _ sc 6 (by omega) (by omega) (by omega) (by omega)) (k_i (fun z3 Mq hz3 => ?_))
  obtain ⟨rfl, hz3⟩ := hz3
  refine x_if_eq B (tgt := 18) dX7_lightOf_6 (by decide) ⟨by omega, by omega⟩ (fun c6 => ?_) (fun c6 => ?_)
  · show Vx x E M 18 [(0, .ref (E.1 (0))), (1, .int (iI (sc))), (2, .int (iI (ce)))] []
    refine x_iconst B dX7_lightOf_18 ?_
    exact r_i B R dX7_lightOf_19 (⟨rfl, Or.inl ⟨rfl, by omega⟩⟩)
  · show Vx x E M 9 [(0, .ref (E.1 (0))), (1, .int (iI (sc))), (2, .int (iI (ce)))] []
    refine x_iload_n B dX7_lightOf_9 2 rfl rfl ?_
    refine x_bipush B dX7_lightOf_10 rfl ?_
    refine x_callS B (st := []) (av := [.int (iI (ce)), .int (iI (64))]) dX7_lightOf_12 cs_X7_within kw_495 ⟨rfl, rfl, Nat.le_of_ble_eq_true rfl, Nat.le_of_ble_eq_true rfl⟩ rfl rfl (Nat.le_of_ble_eq_true rfl) (c_X7_within _ E _ ce 64 (by omega) (by omega) (by omega) (by omega)) (k_i (fun z12 Mq hz12 => ?_))
    obtain ⟨rfl, hz12⟩ := hz12
    refine x_if_ne B (tgt := 20) dX7_lightOf_15 (by decide) ⟨by omega, by omega⟩ (fun c15 => ?_) (fun c15 => ?_)
    · show Vx x E M 20 [(0, .ref (E.1 (0))), (1, .int (iI (sc))), (2, .int (iI (ce)))] []
      refine x_aload_n B dX7_lightOf_20 0 rfl rfl ?_
      refine x_getR B (ci := 7) (k := 3) dX7_lightOf_21 rfl rfl rfl (by decide) inGX7 kw_286 ?_
      refine x_iload_n B dX7_lightOf_24 1 rfl rfl ?_
      refine x_bipush B dX7_lightOf_25 rfl ?_
      refine x_imul B dX7_lightOf_27 ?_
      refine x_iload_n B dX7_lightOf_28 2 rfl rfl ?_
      refine x_iadd B dX7_lightOf_29 ?_
      refine x_iald B (lo := 0) (hi := 9) dX7_lightOf_30 rfl (by omega) (by omega) rfl (fun z30 ez30 lz30 uz30 => ?_)
      exact r_i B R dX7_lightOf_31 (⟨rfl, Or.inr ⟨by omega, Is_e ez30⟩⟩)
    · show Vx x E M 18 [(0, .ref (E.1 (0))), (1, .int (iI (sc))), (2, .int (iI (ce)))] []
      refine x_iconst B dX7_lightOf_18 ?_
      exact r_i B R dX7_lightOf_19 (⟨rfl, Or.inl ⟨rfl, by omega⟩⟩)
abbrev rm_X7_place : Room := { frames := 1, cells := 0, slots := 0, locals := 21 }
theorem cs_X7_place : Cv yX7_place cX7_place 3 (some .int) 1 := ⟨kw_513, ⟨kw_511, kw_512⟩, kw_57, by decide, by decide, by decide +kernel⟩
set_option maxHeartbeats 4000000 in
set_option maxRecDepth 100000 in
theorem c_X7_place (l : Launch) (E : Ev) (M : Mem) (p : Int) (g1 : -2147483648 ≤ p) (g2 : p < 2147483648) : Ct l yX7_place cX7_place 3 (some .int) rm_X7_place E M [.ref (E.1 (0)), .int (iI (p))] (pI (fun z M' => z = -1 ∧ M' = M ∧ ¬ (0 ≤ p ∧ p < 26) ∨ (0 ≤ p ∧ p < 26) ∧ z = M 0 12 ∧ M' = sto M 0 12 p)) := by
  refine Ct_of (lv := [(0, .ref (E.1 (0))), (1, .int (iI (p)))]) (by decide) ⟨rfl, rfl⟩ (Nat.le_of_ble_eq_true rfl) rfl (fun x _ B R => ?_)
  refine x_iload_n B dX7_place_0 1 rfl rfl ?_
  refine x_bipush B dX7_place_1 rfl ?_
  refine x_callS B (st := []) (av := [.int (iI (p)), .int (iI (26))]) dX7_place_3 cs_X7_within kw_495 ⟨rfl, rfl, Nat.le_of_ble_eq_true rfl, Nat.le_of_ble_eq_true rfl⟩ rfl rfl (Nat.le_of_ble_eq_true rfl) (c_X7_within _ E _ p 26 (by omega) (by omega) (by omega) (by omega)) (k_i (fun z3 Mq hz3 => ?_))
  obtain ⟨rfl, hz3⟩ := hz3
  refine x_if_ne B (tgt := 11) dX7_place_6 (by decide) ⟨by omega, by omega⟩ (fun c6 => ?_) (fun c6 => ?_)
  · show Vx x E M 11 [(0, .ref (E.1 (0))), (1, .int (iI (p)))] []
    refine x_aload_n B dX7_place_11 0 rfl rfl ?_
    refine x_getI B (ci := 7) (k := 12) (lo := 0) (hi := 25) dX7_place_12 rfl rfl rfl (by decide) inGX7 kw_295 rfl (fun z12 ez12 lz12 uz12 => ?_)
    refine x_istore_n B dX7_place_15 [1, 2, 0] rfl (by decide) (lv' := [(0, .ref (E.1 (0))), (1, .int (iI (p))), (2, .int (iI (z12)))]) rfl ?_
    refine x_aload_n B dX7_place_16 0 rfl rfl ?_
    refine x_iload_n B dX7_place_17 1 rfl rfl ?_
    refine x_put B (ci := 7) (k := 12) (lo := 0) (hi := 25) (ty := .int) dX7_place_18 rfl rfl rfl (by decide) inGX7 tyX7_ok nmX7 kw_295 rfl (by decide +kernel) (nar_i _) (fit_i _) rfl (by omega) (by omega) ?_
    refine x_iload_n B dX7_place_21 2 rfl rfl ?_
    exact r_i B R dX7_place_22 (Or.inr ⟨by omega, Is_e ez12, rfl⟩)
  · show Vx x E M 9 [(0, .ref (E.1 (0))), (1, .int (iI (p)))] []
    refine x_iconst B dX7_place_9 ?_
    exact r_i B R dX7_place_10 (Or.inl ⟨rfl, rfl, by omega⟩)
abbrev rm_X7_leads : Room := { frames := 1, cells := 0, slots := 0, locals := 23 }
theorem cs_X7_leads : Cv yX7_leads cX7_leads 3 (some .int) 2 := ⟨kw_517, ⟨kw_515, kw_516⟩, kw_57, by decide, by decide, by decide +kernel⟩
set_option maxHeartbeats 4000000 in
set_option maxRecDepth 100000 in
theorem c_X7_leads (l : Launch) (E : Ev) (M : Mem) (p m : Int) (g1 : -2147483648 ≤ p) (g2 : p < 2147483648) (g3 : -2147483648 ≤ m) (g4 : m < 2147483648) : Ct l yX7_leads cX7_leads 3 (some .int) rm_X7_leads E M [.ref (E.1 (0)), .int (iI (p)), .int (iI (m))] (pI (fun z M' => M = M' ∧ (z = -1 ∧ ¬ (0 ≤ p ∧ p < 26 ∧ 0 ≤ m ∧ m < 6) ∨ (0 ≤ p ∧ p < 26 ∧ 0 ≤ m ∧ m < 6) ∧ z = mvT p m))) := by
  refine Ct_of (lv := [(0, .ref (E.1 (0))), (1, .int (iI (p))), (2, .int (iI (m)))]) (by decide) ⟨rfl, rfl⟩ (Nat.le_of_ble_eq_true rfl) rfl (fun x _ B R => ?_)
  refine x_iload_n B dX7_leads_0 1 rfl rfl ?_
  refine x_bipush B dX7_leads_1 rfl ?_
  refine x_callS B (st := []) (av := [.int (iI (p)), .int (iI (26))]) dX7_leads_3 cs_X7_within kw_495 ⟨rfl, rfl, Nat.le_of_ble_eq_true rfl, Nat.le_of_ble_eq_true rfl⟩ rfl rfl (Nat.le_of_ble_eq_true rfl) (c_X7_within _ E _ p 26 (by omega) (by omega) (by omega) (by omega)) (k_i (fun z3 Mq hz3 => ?_))
  obtain ⟨rfl, hz3⟩ := hz3
  refine x_if_eq B (tgt := 18) dX7_leads_6 (by decide) ⟨by omega, by omega⟩ (fun c6 => ?_) (fun c6 => ?_)
  · show Vx x E M 18 [(0, .ref (E.1 (0))), (1, .int (iI (p))), (2, .int (iI (m)))] []
    refine x_iconst B dX7_leads_18 ?_
    exact r_i B R dX7_leads_19 (⟨rfl, Or.inl ⟨rfl, by omega⟩⟩)
  · show Vx x E M 9 [(0, .ref (E.1 (0))), (1, .int (iI (p))), (2, .int (iI (m)))] []
    refine x_iload_n B dX7_leads_9 2 rfl rfl ?_
    refine x_bipush B dX7_leads_10 rfl ?_
    refine x_callS B (st := []) (av := [.int (iI (m)), .int (iI (6))]) dX7_leads_12 cs_X7_within kw_495 ⟨rfl, rfl, Nat.le_of_ble_eq_true rfl, Nat.le_of_ble_eq_true rfl⟩ rfl rfl (Nat.le_of_ble_eq_true rfl) (c_X7_within _ E _ m 6 (by omega) (by omega) (by omega) (by omega)) (k_i (fun z12 Mq hz12 => ?_))
    obtain ⟨rfl, hz12⟩ := hz12
    refine x_if_ne B (tgt := 20) dX7_leads_15 (by decide) ⟨by omega, by omega⟩ (fun c15 => ?_) (fun c15 => ?_)
    · show Vx x E M 20 [(0, .ref (E.1 (0))), (1, .int (iI (p))), (2, .int (iI (m)))] []
      refine x_iload_n B dX7_leads_20 1 rfl rfl ?_
      refine x_iload_n B dX7_leads_21 2 rfl rfl ?_
      refine x_callS B (st := []) (av := [.int (iI (p)), .int (iI (m))]) dX7_leads_22 cs_X7_placeAfter kw_518 ⟨rfl, rfl, Nat.le_of_ble_eq_true rfl, Nat.le_of_ble_eq_true rfl⟩ rfl rfl (Nat.le_of_ble_eq_true rfl) (c_X7_placeAfter _ E _ p m (by omega) (by omega) (by omega) (by omega)) (k_i (fun z22 Mq hz22 => ?_))
      obtain ⟨rfl, hz22⟩ := hz22
      exact r_i B R dX7_leads_25 (⟨rfl, Or.inr ⟨by omega, hz22⟩⟩)
    · show Vx x E M 18 [(0, .ref (E.1 (0))), (1, .int (iI (p))), (2, .int (iI (m)))] []
      refine x_iconst B dX7_leads_18 ?_
      exact r_i B R dX7_leads_19 (⟨rfl, Or.inl ⟨rfl, by omega⟩⟩)
/-- what a POINT has, shows, feels, whether it hurts: four rows of a picture -/
def ptS (h s f : Nat → Int) (u : Nat) (p w : Int) : Int := if w = 0 then h p.toNat else if w = 1 then s p.toNat else if w = 2 then f p.toNat else (if u.testBit p.toNat = true then 1 else 0)
def ptC (M : Mem) (sc p w : Int) : Int := ptS (haC M sc (M 0 12)) (shC M sc (M 0 12)) (feC M sc (M 0 12)) (huC M sc (M 0 12)) p w
abbrev rm_X7_point : Room := { frames := 5, cells := 0, slots := 0, locals := 116 }
theorem cs_X7_point : Cv yX7_point cX7_point 5 (some .int) 3 := ⟨kw_524, ⟨kw_522, kw_523⟩, kw_57, by decide, by decide, by decide +kernel⟩
set_option maxHeartbeats 4000000 in
set_option maxRecDepth 100000 in
theorem c_X7_point (l : Launch) (E : Ev) (M : Mem) (sc p w : Int) (g1 : -2147483648 ≤ sc) (g2 : sc < 2147483648) (g3 : -2147483648 ≤ p) (g4 : p < 2147483648) (g5 : -2147483648 ≤ w) (g6 : w < 2147483648) : Ct l yX7_point cX7_point 5 (some .int) rm_X7_point E M [.ref (E.1 (0)), .int (iI (sc)), .int (iI (p)), .int (iI (w))] (pI (fun z M' => z = -1 ∧ M' = M ∧ ¬ (0 ≤ sc ∧ sc < 6 ∧ 0 ≤ p ∧ p < 16 ∧ 0 ≤ w ∧ w < 4) ∨ (0 ≤ sc ∧ sc < 6 ∧ 0 ≤ p ∧ p < 16 ∧ 0 ≤ w ∧ w < 4) ∧ z = ptC M sc p w ∧ offC M M' 16 57)) := by
  refine Ct_of (lv := [(0, .ref (E.1 (0))), (1, .int (iI (sc))), (2, .int (iI (p))), (3, .int (iI (w)))]) (by decide) ⟨rfl, rfl⟩ (Nat.le_of_ble_eq_true rfl) rfl (fun x _ B R => ?_)
  refine x_iload_n B dX7_point_0 1 rfl rfl ?_
  refine x_bipush B dX7_point_1 rfl ?_
  refine x_callS B (st := []) (av := [.int (iI (sc)), .int (iI (6))]) dX7_point_3 cs_X7_within kw_495 ⟨rfl, rfl, Nat.le_of_ble_eq_true rfl, Nat.le_of_ble_eq_true rfl⟩ rfl rfl (Nat.le_of_ble_eq_true rfl) (c_X7_within _ E _ sc 6 (by omega) (by omega) (by omega) (by omega)) (k_i (fun z3 Mq hz3 => ?_))
  obtain ⟨rfl, hz3⟩ := hz3
  refine x_if_eq B (tgt := 26) dX7_point_6 (by decide) ⟨by omega, by omega⟩ (fun c6 => ?_) (fun c6 => ?_)
  · show Vx x E M 26 [(0, .ref (E.1 (0))), (1, .int (iI (sc))), (2, .int (iI (p))), (3, .int (iI (w)))] []
    refine x_iconst B dX7_point_26 ?_
    exact r_i B R dX7_point_27 (Or.inl ⟨rfl, rfl, by omega⟩)
  · show Vx x E M 9 [(0, .ref (E.1 (0))), (1, .int (iI (sc))), (2, .int (iI (p))), (3, .int (iI (w)))] []
    refine x_iload_n B dX7_point_9 2 rfl rfl ?_
    refine x_bipush B dX7_point_10 rfl ?_
    refine x_callS B (st := []) (av := [.int (iI (p)), .int (iI (16))]) dX7_point_12 cs_X7_within kw_495 ⟨rfl, rfl, Nat.le_of_ble_eq_true rfl, Nat.le_of_ble_eq_true rfl⟩ rfl rfl (Nat.le_of_ble_eq_true rfl) (c_X7_within _ E _ p 16 (by omega) (by omega) (by omega) (by omega)) (k_i (fun z12 Mq hz12 => ?_))
    obtain ⟨rfl, hz12⟩ := hz12
    refine x_if_eq B (tgt := 26) dX7_point_15 (by decide) ⟨by omega, by omega⟩ (fun c15 => ?_) (fun c15 => ?_)
    · show Vx x E M 26 [(0, .ref (E.1 (0))), (1, .int (iI (sc))), (2, .int (iI (p))), (3, .int (iI (w)))] []
      refine x_iconst B dX7_point_26 ?_
      exact r_i B R dX7_point_27 (Or.inl ⟨rfl, rfl, by omega⟩)
    · show Vx x E M 18 [(0, .ref (E.1 (0))), (1, .int (iI (sc))), (2, .int (iI (p))), (3, .int (iI (w)))] []
      refine x_iload_n B dX7_point_18 3 rfl rfl ?_
      refine x_iconst B dX7_point_19 ?_
      refine x_callS B (st := []) (av := [.int (iI (w)), .int (iI (4))]) dX7_point_20 cs_X7_within kw_495 ⟨rfl, rfl, Nat.le_of_ble_eq_true rfl, Nat.le_of_ble_eq_true rfl⟩ rfl rfl (Nat.le_of_ble_eq_true rfl) (c_X7_within _ E _ w 4 (by omega) (by omega) (by omega) (by omega)) (k_i (fun z20 Mq hz20 => ?_))
      obtain ⟨rfl, hz20⟩ := hz20
      refine x_if_ne B (tgt := 28) dX7_point_23 (by decide) ⟨by omega, by omega⟩ (fun c23 => ?_) (fun c23 => ?_)
      · show Vx x E M 28 [(0, .ref (E.1 (0))), (1, .int (iI (sc))), (2, .int (iI (p))), (3, .int (iI (w)))] []
        refine x_aload_n B dX7_point_28 0 rfl rfl ?_
        refine x_iload_n B dX7_point_29 1 rfl rfl ?_
        refine x_aload_n B dX7_point_30 0 rfl rfl ?_
        refine x_getI B (ci := 7) (k := 12) (lo := 0) (hi := 25) dX7_point_31 rfl rfl rfl (by decide) inGX7 kw_295 rfl (fun z31 ez31 lz31 uz31 => ?_)
        refine x_callV B (st := []) (av := [.int (iI (sc)), .int (iI (z31))]) dX7_point_34 cs_X7_seen kw_525 ⟨rfl, rfl, Nat.le_of_ble_eq_true rfl, Nat.le_of_ble_eq_true rfl⟩ rfl rfl (Nat.le_of_ble_eq_true rfl) (rc_obj B (ci := 7) rfl rfl rfl) (c_X7_seen _ E _ sc z31 (by omega) (by omega) (by omega) (by omega)) (k_r (fun az34 M34 hz34 => ?_))
        obtain ⟨rfl, hz34⟩ := hz34
        have hof : offC M M34 16 57 := offC_w hz34.1 (by omega) (by omega)
        rw [Is_e ez31] at hz34
        obtain ⟨-, s1, s2, s3, s4⟩ := seeP_C hz34
        refine x_astore B dX7_point_37 [1, 2, 3, 4, 0] (by decide) (lv' := [(0, .ref (E.1 (0))), (1, .int (iI (sc))), (2, .int (iI (p))), (3, .int (iI (w))), (4, .ref (E.1 ((16 + 5 * ((sc).toNat + 1)))))]) rfl ?_
        refine x_iload_n B dX7_point_39 3 rfl rfl ?_
        rcases (show (w < 0 ∨ 2 < w) ∨ w = 0 ∨ w = 1 ∨ w = 2 by omega) with hsw | hsw | hsw | hsw
        · refine x_tabOut B (tgt := 92) dX7_point_40 ⟨by omega, by omega⟩ (by omega) (by decide) ?_
          refine x_aload B dX7_point_92 4 rfl ?_
          refine x_getI B (ci := 0) (k := 3) (lo := 0) (hi := 65535) dX7_point_94 (tF_o ((sc).toNat + 1) (by omega)) rfl rfl (by decide) inGX0 kw_186 (rF_o ((sc).toNat + 1) (by omega)) (fun z94 ez94 lz94 uz94 => ?_)
          refine x_iload_n B dX7_point_97 2 rfl rfl ?_
          refine x_callS B (st := []) (av := [.int (iI (z94)), .int (iI (p))]) dX7_point_98 cs_X7_bit kw_571 ⟨rfl, rfl, Nat.le_of_ble_eq_true rfl, Nat.le_of_ble_eq_true rfl⟩ rfl rfl (Nat.le_of_ble_eq_true rfl) (c_X7_bit _ E _ z94 p (by omega) (by omega) (by omega) (by omega)) (k_i (fun z98 Mq hz98 => ?_))
          obtain ⟨rfl, hz98⟩ := hz98
          exact r_i B R dX7_point_101 (Or.inr ⟨by omega, by unfold ptC ptS; rw [if_neg (by omega), if_neg (by omega), if_neg (by omega)]; rw [Is_e ez94, s4, Int.toNat_natCast] at hz98; rcases hz98 with ⟨h5, h6⟩ | ⟨h5, h6⟩; (rw [if_pos h6]; exact h5); (rw [if_neg (by rw [h6]; decide)]; exact h5), hof⟩)
        · refine x_tabIn B (tgt := 68) 0 dX7_point_40 ⟨by omega, by omega⟩ (by omega) (by omega) rfl (by decide) ?_
          refine x_aload B dX7_point_68 4 rfl ?_
          refine x_getR B (ci := 0) (k := 0) dX7_point_70 (tF_o ((sc).toNat + 1) (by omega)) rfl rfl (by decide) inGX0 kw_180 ?_
          refine x_iload_n B dX7_point_73 2 rfl rfl ?_
          refine x_iald B (lo := 0) (hi := 9) dX7_point_74 (tF_1 ((sc).toNat + 1) (by omega)) (by omega) (by omega) (rF_1 ((sc).toNat + 1) _ (by omega)) (fun z74 ez74 lz74 uz74 => ?_)
          exact r_i B R dX7_point_75 (Or.inr ⟨by omega, by unfold ptC ptS; rw [if_pos hsw, Is_e ez74]; exact s1 _ (by omega), hof⟩)
        · refine x_tabIn B (tgt := 76) 1 dX7_point_40 ⟨by omega, by omega⟩ (by omega) (by omega) rfl (by decide) ?_
          refine x_aload B dX7_point_76 4 rfl ?_
          refine x_getR B (ci := 0) (k := 1) dX7_point_78 (tF_o ((sc).toNat + 1) (by omega)) rfl rfl (by decide) inGX0 kw_182 ?_
          refine x_iload_n B dX7_point_81 2 rfl rfl ?_
          refine x_iald B (lo := 0) (hi := 9) dX7_point_82 (tF_2 ((sc).toNat + 1) (by omega)) (by omega) (by omega) (rF_2 ((sc).toNat + 1) _ (by omega)) (fun z82 ez82 lz82 uz82 => ?_)
          exact r_i B R dX7_point_83 (Or.inr ⟨by omega, by unfold ptC ptS; rw [if_neg (by omega), if_pos hsw, Is_e ez82]; exact s2 _ (by omega), hof⟩)
        · refine x_tabIn B (tgt := 84) 2 dX7_point_40 ⟨by omega, by omega⟩ (by omega) (by omega) rfl (by decide) ?_
          refine x_aload B dX7_point_84 4 rfl ?_
          refine x_getR B (ci := 0) (k := 2) dX7_point_86 (tF_o ((sc).toNat + 1) (by omega)) rfl rfl (by decide) inGX0 kw_184 ?_
          refine x_iload_n B dX7_point_89 2 rfl rfl ?_
          refine x_iald B (lo := 0) (hi := 9) dX7_point_90 (tF_3 ((sc).toNat + 1) (by omega)) (by omega) (by omega) (rF_3 ((sc).toNat + 1) _ (by omega)) (fun z90 ez90 lz90 uz90 => ?_)
          exact r_i B R dX7_point_91 (Or.inr ⟨by omega, by unfold ptC ptS; rw [if_neg (by omega), if_neg (by omega), if_pos hsw, Is_e ez90]; exact s3 _ (by omega), hof⟩)
      · show Vx x E M 26 [(0, .ref (E.1 (0))), (1, .int (iI (sc))), (2, .int (iI (p))), (3, .int (iI (w)))] []
        refine x_iconst B dX7_point_26 ?_
        exact r_i B R dX7_point_27 (Or.inl ⟨rfl, rfl, by omega⟩)
def flS (f : Nat → Int) (u : Nat) (w : Int) : Int := if w = 0 then ((bK (poB f) 16 : Nat) : Int) else if w = 1 then (u : Int) else suK f 16
def flC (M : Mem) (sc w : Int) : Int := flS (feC M sc (M 0 12)) (huC M sc (M 0 12)) w
theorem poB_cg {f g : Nat → Int} (h : eqF f g) : bK (poB f) 16 = bK (poB g) 16 := bK_cg 16 (fun q hq => by unfold poB; rw [h q hq])
abbrev rm_X7_feels : Room := { frames := 5, cells := 0, slots := 0, locals := 116 }
theorem cs_X7_feels : Cv yX7_feels cX7_feels 4 (some .int) 2 := ⟨kw_575, ⟨kw_573, kw_574⟩, kw_57, by decide, by decide, by decide +kernel⟩
set_option maxHeartbeats 4000000 in
set_option maxRecDepth 100000 in
theorem c_X7_feels (l : Launch) (E : Ev) (M : Mem) (sc w : Int) (g1 : -2147483648 ≤ sc) (g2 : sc < 2147483648) (g3 : -2147483648 ≤ w) (g4 : w < 2147483648) : Ct l yX7_feels cX7_feels 4 (some .int) rm_X7_feels E M [.ref (E.1 (0)), .int (iI (sc)), .int (iI (w))] (pI (fun z M' => z = -1 ∧ M' = M ∧ ¬ (0 ≤ sc ∧ sc < 6 ∧ 0 ≤ w ∧ w < 3) ∨ (0 ≤ sc ∧ sc < 6 ∧ 0 ≤ w ∧ w < 3) ∧ z = flC M sc w ∧ offC M M' 16 57)) := by
  refine Ct_of (lv := [(0, .ref (E.1 (0))), (1, .int (iI (sc))), (2, .int (iI (w)))]) (by decide) ⟨rfl, rfl⟩ (Nat.le_of_ble_eq_true rfl) rfl (fun x _ B R => ?_)
  refine x_iload_n B dX7_feels_0 1 rfl rfl ?_
  refine x_bipush B dX7_feels_1 rfl ?_
  refine x_callS B (st := []) (av := [.int (iI (sc)), .int (iI (6))]) dX7_feels_3 cs_X7_within kw_495 ⟨rfl, rfl, Nat.le_of_ble_eq_true rfl, Nat.le_of_ble_eq_true rfl⟩ rfl rfl (Nat.le_of_ble_eq_true rfl) (c_X7_within _ E _ sc 6 (by omega) (by omega) (by omega) (by omega)) (k_i (fun z3 Mq hz3 => ?_))
  obtain ⟨rfl, hz3⟩ := hz3
  refine x_if_eq B (tgt := 17) dX7_feels_6 (by decide) ⟨by omega, by omega⟩ (fun c6 => ?_) (fun c6 => ?_)
  · show Vx x E M 17 [(0, .ref (E.1 (0))), (1, .int (iI (sc))), (2, .int (iI (w)))] []
    refine x_iconst B dX7_feels_17 ?_
    exact r_i B R dX7_feels_18 (Or.inl ⟨rfl, rfl, by omega⟩)
  · show Vx x E M 9 [(0, .ref (E.1 (0))), (1, .int (iI (sc))), (2, .int (iI (w)))] []
    refine x_iload_n B dX7_feels_9 2 rfl rfl ?_
    refine x_iconst B dX7_feels_10 ?_
    refine x_callS B (st := []) (av := [.int (iI (w)), .int (iI (3))]) dX7_feels_11 cs_X7_within kw_495 ⟨rfl, rfl, Nat.le_of_ble_eq_true rfl, Nat.le_of_ble_eq_true rfl⟩ rfl rfl (Nat.le_of_ble_eq_true rfl) (c_X7_within _ E _ w 3 (by omega) (by omega) (by omega) (by omega)) (k_i (fun z11 Mq hz11 => ?_))
    obtain ⟨rfl, hz11⟩ := hz11
    refine x_if_ne B (tgt := 19) dX7_feels_14 (by decide) ⟨by omega, by omega⟩ (fun c14 => ?_) (fun c14 => ?_)
    · show Vx x E M 19 [(0, .ref (E.1 (0))), (1, .int (iI (sc))), (2, .int (iI (w)))] []
      refine x_aload_n B dX7_feels_19 0 rfl rfl ?_
      refine x_iload_n B dX7_feels_20 1 rfl rfl ?_
      refine x_aload_n B dX7_feels_21 0 rfl rfl ?_
      refine x_getI B (ci := 7) (k := 12) (lo := 0) (hi := 25) dX7_feels_22 rfl rfl rfl (by decide) inGX7 kw_295 rfl (fun z22 ez22 lz22 uz22 => ?_)
      refine x_callV B (st := []) (av := [.int (iI (sc)), .int (iI (z22))]) dX7_feels_25 cs_X7_seen kw_525 ⟨rfl, rfl, Nat.le_of_ble_eq_true rfl, Nat.le_of_ble_eq_true rfl⟩ rfl rfl (Nat.le_of_ble_eq_true rfl) (rc_obj B (ci := 7) rfl rfl rfl) (c_X7_seen _ E _ sc z22 (by omega) (by omega) (by omega) (by omega)) (k_r (fun az25 M25 hz25 => ?_))
      obtain ⟨rfl, hz25⟩ := hz25
      refine x_wf (fun hwf => ?_)
      have hof : offC M M25 16 57 := offC_w hz25.1 (by omega) (by omega)
      rw [Is_e ez22] at hz25
      obtain ⟨-, s1, s2, s3, s4⟩ := seeP_C hz25
      refine x_astore_n B dX7_feels_28 [1, 2, 3, 0] rfl (by decide) (lv' := [(0, .ref (E.1 (0))), (1, .int (iI (sc))), (2, .int (iI (w))), (3, .ref (E.1 ((16 + 5 * ((sc).toNat + 1)))))]) rfl ?_
      refine x_iload_n B dX7_feels_29 2 rfl rfl ?_
      refine x_if_ne B (tgt := 45) dX7_feels_30 (by decide) ⟨by omega, by omega⟩ (fun c30 => ?_) (fun c30 => ?_)
      · show Vx x E M25 45 [(0, .ref (E.1 (0))), (1, .int (iI (sc))), (2, .int (iI (w))), (3, .ref (E.1 ((16 + 5 * ((sc).toNat + 1)))))] []
        refine x_iload_n B dX7_feels_45 2 rfl rfl ?_
        refine x_iconst B dX7_feels_46 ?_
        have J64 : ∀ (jr : Int), (jr = flC M sc w ∧ True) → Vx x E M25 64 [(0, .ref (E.1 (0))), (1, .int (iI (sc))), (2, .int (iI (w))), (3, .ref (E.1 ((16 + 5 * ((sc).toNat + 1)))))] [.int (iI (jr))] := by
          intro jr hJ
          obtain ⟨j1, j2⟩ := hJ
          exact r_i B R dX7_feels_64 (Or.inr ⟨by omega, j1, hof⟩)
        refine x_icmp_ne B (tgt := 57) dX7_feels_47 (by decide) ⟨by omega, by omega⟩ ⟨by omega, by omega⟩ (fun c47 => ?_) (fun c47 => ?_)
        · show Vx x E M25 57 [(0, .ref (E.1 (0))), (1, .int (iI (sc))), (2, .int (iI (w))), (3, .ref (E.1 ((16 + 5 * ((sc).toNat + 1)))))] []
          refine x_aload_n B dX7_feels_57 3 rfl rfl ?_
          refine x_getR B (ci := 0) (k := 2) dX7_feels_58 (tF_o ((sc).toNat + 1) (by omega)) rfl rfl (by decide) inGX0 kw_184 ?_
          refine x_callS B (st := []) (av := [.ref (E.1 ((16 + 5 * ((sc).toNat + 1) + 3)))]) dX7_feels_61 cs_X7_sum kw_579 ⟨rfl, rfl, Nat.le_of_ble_eq_true rfl, Nat.le_of_ble_eq_true rfl⟩ rfl rfl (Nat.le_of_ble_eq_true rfl) (c_X7_sum _ E _ (16 + 5 * ((sc).toNat + 1) + 3) (tF_3 ((sc).toNat + 1) (by omega)) (fun j => by rw [rF_3 ((sc).toNat + 1) j (by omega)]; exact ⟨by decide, by decide⟩)) (k_i (fun z61 Mq hz61 => ?_))
          obtain ⟨rfl, hz61⟩ := hz61
          exact J64 z61 (⟨by unfold flC flS; rw [if_neg (by omega), if_neg (by omega), hz61.1]; exact suK_cg 16 s3, trivial⟩)
        · show Vx x E M25 50 [(0, .ref (E.1 (0))), (1, .int (iI (sc))), (2, .int (iI (w))), (3, .ref (E.1 ((16 + 5 * ((sc).toNat + 1)))))] []
          refine x_aload_n B dX7_feels_50 3 rfl rfl ?_
          refine x_getI B (ci := 0) (k := 3) (lo := 0) (hi := 65535) dX7_feels_51 (tF_o ((sc).toNat + 1) (by omega)) rfl rfl (by decide) inGX0 kw_186 (rF_o ((sc).toNat + 1) (by omega)) (fun z51 ez51 lz51 uz51 => ?_)
          refine x_goto B (tgt := 64) dX7_feels_54 (by decide) ?_
          exact J64 z51 (⟨by unfold flC flS; rw [if_neg (by omega), if_pos c47, Is_e ez51]; exact s4, trivial⟩)
      · show Vx x E M25 33 [(0, .ref (E.1 (0))), (1, .int (iI (sc))), (2, .int (iI (w))), (3, .ref (E.1 ((16 + 5 * ((sc).toNat + 1)))))] []
        refine x_aload_n B dX7_feels_33 3 rfl rfl ?_
        refine x_getR B (ci := 0) (k := 2) dX7_feels_34 (tF_o ((sc).toNat + 1) (by omega)) rfl rfl (by decide) inGX0 kw_184 ?_
        refine x_aload_n B dX7_feels_37 0 rfl rfl ?_
        refine x_getR B (ci := 7) (k := 5) dX7_feels_38 rfl rfl rfl (by decide) inGX7 kw_288 ?_
        refine x_callS B (st := []) (av := [.ref (E.1 ((16 + 5 * ((sc).toNat + 1) + 3))), .ref (E.1 (14))]) dX7_feels_41 cs_X7_above kw_576 ⟨rfl, rfl, Nat.le_of_ble_eq_true rfl, Nat.le_of_ble_eq_true rfl⟩ rfl rfl (Nat.le_of_ble_eq_true rfl) (c_X7_above _ E _ (16 + 5 * ((sc).toNat + 1) + 3) 14 (tF_3 ((sc).toNat + 1) (by omega)) (fun j => by rw [rF_3 ((sc).toNat + 1) j (by omega)]; exact ⟨by decide, by decide⟩) rfl (fun j => ⟨by show (0 : Int) ≤ 0; omega, by show (0 : Int) ≤ 9; omega⟩)) (k_i (fun z41 Mq hz41 => ?_))
        obtain ⟨rfl, hz41⟩ := hz41
        exact r_i B R dX7_feels_44 (Or.inr ⟨by omega, by unfold flC flS; rw [if_pos c30, hz41.1, gtB_0 hwf]; exact congrArg _ (poB_cg s3), hof⟩)
    · show Vx x E M 17 [(0, .ref (E.1 (0))), (1, .int (iI (sc))), (2, .int (iI (w)))] []
      refine x_iconst B dX7_feels_17 ?_
      exact r_i B R dX7_feels_18 (Or.inl ⟨rfl, rfl, by omega⟩)
abbrev rm_X7_tired : Room := { frames := 1, cells := 0, slots := 0, locals := 21 }
theorem cs_X7_tired : Cv yX7_tired cX7_tired 2 (some .int) 1 := ⟨kw_599, ⟨kw_597, kw_598⟩, kw_57, by decide, by decide, by decide +kernel⟩
set_option maxHeartbeats 4000000 in
set_option maxRecDepth 100000 in
theorem c_X7_tired (l : Launch) (E : Ev) (M : Mem) (p : Int) (g1 : -2147483648 ≤ p) (g2 : p < 2147483648) : Ct l yX7_tired cX7_tired 2 (some .int) rm_X7_tired E M [.ref (E.1 (0)), .int (iI (p))] (pI (fun z M' => M = M' ∧ (z = -1 ∧ ¬ (0 ≤ p ∧ p < 16) ∨ (0 ≤ p ∧ p < 16) ∧ z = M 13 p.toNat))) := by
  refine Ct_of (lv := [(0, .ref (E.1 (0))), (1, .int (iI (p)))]) (by decide) ⟨rfl, rfl⟩ (Nat.le_of_ble_eq_true rfl) rfl (fun x _ B R => ?_)
  refine x_iload_n B dX7_tired_0 1 rfl rfl ?_
  refine x_bipush B dX7_tired_1 rfl ?_
  refine x_callS B (st := []) (av := [.int (iI (p)), .int (iI (16))]) dX7_tired_3 cs_X7_within kw_495 ⟨rfl, rfl, Nat.le_of_ble_eq_true rfl, Nat.le_of_ble_eq_true rfl⟩ rfl rfl (Nat.le_of_ble_eq_true rfl) (c_X7_within _ E _ p 16 (by omega) (by omega) (by omega) (by omega)) (k_i (fun z3 Mq hz3 => ?_))
  obtain ⟨rfl, hz3⟩ := hz3
  refine x_if_eq B (tgt := 18) dX7_tired_6 (by decide) ⟨by omega, by omega⟩ (fun c6 => ?_) (fun c6 => ?_)
  · show Vx x E M 18 [(0, .ref (E.1 (0))), (1, .int (iI (p)))] []
    refine x_iconst B dX7_tired_18 ?_
    exact r_i B R dX7_tired_19 (⟨rfl, Or.inl ⟨rfl, by omega⟩⟩)
  · show Vx x E M 9 [(0, .ref (E.1 (0))), (1, .int (iI (p)))] []
    refine x_aload_n B dX7_tired_9 0 rfl rfl ?_
    refine x_getR B (ci := 7) (k := 4) dX7_tired_10 rfl rfl rfl (by decide) inGX7 kw_287 ?_
    refine x_iload_n B dX7_tired_13 1 rfl rfl ?_
    refine x_iald B (lo := 0) (hi := 9) dX7_tired_14 rfl (by omega) (by omega) rfl (fun z14 ez14 lz14 uz14 => ?_)
    refine x_goto B (tgt := 19) dX7_tired_15 (by decide) ?_
    exact r_i B R dX7_tired_19 (⟨rfl, Or.inr ⟨by omega, Is_e ez14⟩⟩)
abbrev rm_X7_rest : Room := { frames := 1, cells := 0, slots := 0, locals := 23 }
theorem cs_X7_rest : Cv yX7_rest cX7_rest 2 (some .int) 0 := ⟨kw_603, ⟨kw_601, kw_602⟩, kw_57, by decide, by decide, by decide +kernel⟩
set_option maxHeartbeats 4000000 in
set_option maxRecDepth 100000 in
theorem c_X7_rest (l : Launch) (E : Ev) (M : Mem)   : Ct l yX7_rest cX7_rest 2 (some .int) rm_X7_rest E M [.ref (E.1 (0))] (pI (fun z M' => z = ((bK (poB (M 13)) 16 : Nat) : Int) ∧ M' = fillM M 13 16 0)) := by
  refine Ct_of (lv := [(0, .ref (E.1 (0)))]) (by decide) ⟨rfl, rfl⟩ (Nat.le_of_ble_eq_true rfl) rfl (fun x _ B R => ?_)
  refine x_wf (fun hwf => ?_)
  refine x_aload_n B dX7_rest_0 0 rfl rfl ?_
  refine x_getR B (ci := 7) (k := 4) dX7_rest_1 rfl rfl rfl (by decide) inGX7 kw_287 ?_
  refine x_aload_n B dX7_rest_4 0 rfl rfl ?_
  refine x_getR B (ci := 7) (k := 5) dX7_rest_5 rfl rfl rfl (by decide) inGX7 kw_288 ?_
  refine x_callS B (st := []) (av := [.ref (E.1 (13)), .ref (E.1 (14))]) dX7_rest_8 cs_X7_above kw_576 ⟨rfl, rfl, Nat.le_of_ble_eq_true rfl, Nat.le_of_ble_eq_true rfl⟩ rfl rfl (Nat.le_of_ble_eq_true rfl) (c_X7_above _ E _ 13 14 rfl (fun j => ⟨by show (0 : Int) ≤ 0; omega, by show (9 : Int) ≤ 9; omega⟩) rfl (fun j => ⟨by show (0 : Int) ≤ 0; omega, by show (0 : Int) ≤ 9; omega⟩)) (k_i (fun z8 Mq hz8 => ?_))
  obtain ⟨rfl, hz8⟩ := hz8
  refine x_istore_n B dX7_rest_11 [1, 0] rfl (by decide) (lv' := [(0, .ref (E.1 (0))), (1, .int (iI (z8)))]) rfl ?_
  refine x_aload_n B dX7_rest_12 0 rfl rfl ?_
  refine x_getR B (ci := 7) (k := 4) dX7_rest_13 rfl rfl rfl (by decide) inGX7 kw_287 ?_
  refine x_iconst B dX7_rest_16 ?_
  refine x_callS B (st := []) (av := [.ref (E.1 (13)), .int (iI (0))]) dX7_rest_17 cs_J7_fill_53178 kw_604 ⟨rfl, rfl, Nat.le_of_ble_eq_true rfl, Nat.le_of_ble_eq_true rfl⟩ rfl rfl (Nat.le_of_ble_eq_true rfl) (c_J7_fill_53178 _ E _ 13 16 0 0 9 rfl (fun j => rfl) (by omega) (by omega) (by omega) (by omega)) (k_v (fun M17 hz17 => ?_))
  refine x_iload_n B dX7_rest_20 1 rfl rfl ?_
  exact r_i B R dX7_rest_21 (⟨by rw [hz8.1, gtB_0 hwf]; rfl, hz17⟩)
abbrev rm_X7_alike : Room := { frames := 6, cells := 0, slots := 0, locals := 139 }
theorem cs_X7_alike : Cv yX7_alike cX7_alike 3 (some .int) 2 := ⟨kw_608, ⟨kw_606, kw_607⟩, kw_57, by decide, by decide, by decide +kernel⟩
set_option maxHeartbeats 4000000 in
set_option maxRecDepth 100000 in
theorem c_X7_alike (l : Launch) (E : Ev) (M : Mem) (a b : Int) (g1 : -2147483648 ≤ a) (g2 : a < 2147483648) (g3 : -2147483648 ≤ b) (g4 : b < 2147483648) : Ct l yX7_alike cX7_alike 3 (some .int) rm_X7_alike E M [.ref (E.1 (0)), .int (iI (a)), .int (iI (b))] (pI (fun z M' => z = -1 ∧ M' = M ∧ ¬ (0 ≤ a ∧ a < 6 ∧ 0 ≤ b ∧ b < 6) ∨ (0 ≤ a ∧ a < 6 ∧ 0 ≤ b ∧ b < 6) ∧ z = (if alC M a b (M 0 12) = true then 1 else 0) ∧ offC M M' 16 57)) := by
  refine Ct_of (lv := [(0, .ref (E.1 (0))), (1, .int (iI (a))), (2, .int (iI (b)))]) (by decide) ⟨rfl, rfl⟩ (Nat.le_of_ble_eq_true rfl) rfl (fun x _ B R => ?_)
  refine x_iload_n B dX7_alike_0 1 rfl rfl ?_
  refine x_bipush B dX7_alike_1 rfl ?_
  refine x_callS B (st := []) (av := [.int (iI (a)), .int (iI (6))]) dX7_alike_3 cs_X7_within kw_495 ⟨rfl, rfl, Nat.le_of_ble_eq_true rfl, Nat.le_of_ble_eq_true rfl⟩ rfl rfl (Nat.le_of_ble_eq_true rfl) (c_X7_within _ E _ a 6 (by omega) (by omega) (by omega) (by omega)) (k_i (fun z3 Mq hz3 => ?_))
  obtain ⟨rfl, hz3⟩ := hz3
  refine x_if_eq B (tgt := 18) dX7_alike_6 (by decide) ⟨by omega, by omega⟩ (fun c6 => ?_) (fun c6 => ?_)
  · show Vx x E M 18 [(0, .ref (E.1 (0))), (1, .int (iI (a))), (2, .int (iI (b)))] []
    refine x_iconst B dX7_alike_18 ?_
    exact r_i B R dX7_alike_19 (Or.inl ⟨rfl, rfl, by omega⟩)
  · show Vx x E M 9 [(0, .ref (E.1 (0))), (1, .int (iI (a))), (2, .int (iI (b)))] []
    refine x_iload_n B dX7_alike_9 2 rfl rfl ?_
    refine x_bipush B dX7_alike_10 rfl ?_
    refine x_callS B (st := []) (av := [.int (iI (b)), .int (iI (6))]) dX7_alike_12 cs_X7_within kw_495 ⟨rfl, rfl, Nat.le_of_ble_eq_true rfl, Nat.le_of_ble_eq_true rfl⟩ rfl rfl (Nat.le_of_ble_eq_true rfl) (c_X7_within _ E _ b 6 (by omega) (by omega) (by omega) (by omega)) (k_i (fun z12 Mq hz12 => ?_))
    obtain ⟨rfl, hz12⟩ := hz12
    refine x_if_ne B (tgt := 20) dX7_alike_15 (by decide) ⟨by omega, by omega⟩ (fun c15 => ?_) (fun c15 => ?_)
    · show Vx x E M 20 [(0, .ref (E.1 (0))), (1, .int (iI (a))), (2, .int (iI (b)))] []
      refine x_aload_n B dX7_alike_20 0 rfl rfl ?_
      refine x_iload_n B dX7_alike_21 1 rfl rfl ?_
      refine x_iload_n B dX7_alike_22 2 rfl rfl ?_
      refine x_aload_n B dX7_alike_23 0 rfl rfl ?_
      refine x_getI B (ci := 7) (k := 12) (lo := 0) (hi := 25) dX7_alike_24 rfl rfl rfl (by decide) inGX7 kw_295 rfl (fun z24 ez24 lz24 uz24 => ?_)
      refine x_callV B (st := []) (av := [.int (iI (a)), .int (iI (b)), .int (iI (z24))]) dX7_alike_27 cs_X7_feelSame kw_609 ⟨rfl, rfl, Nat.le_of_ble_eq_true rfl, Nat.le_of_ble_eq_true rfl⟩ rfl rfl (Nat.le_of_ble_eq_true rfl) (rc_obj B (ci := 7) rfl rfl rfl) (c_X7_feelSame _ E _ a b z24 (by omega) (by omega) (by omega) (by omega) (by omega) (by omega)) (k_i (fun z27 M27 hz27 => ?_))
      have hof : offC M M27 16 57 := offC_w hz27.1 (by omega) (by omega)
      rw [Is_e ez24] at hz27
      refine x_if_eq B (tgt := 37) dX7_alike_30 (by decide) ⟨by omega, by omega⟩ (fun c30 => ?_) (fun c30 => ?_)
      · show Vx x E M27 37 [(0, .ref (E.1 (0))), (1, .int (iI (a))), (2, .int (iI (b)))] []
        refine x_iconst B dX7_alike_37 ?_
        exact r_i B R dX7_alike_38 (Or.inr ⟨by omega, by rw [if_neg (show ¬ alC M a b (M 0 12) = true from eqB_no (by rcases hz27.2 with ⟨h5, h6⟩ | ⟨h5, h6⟩ <;> first | omega | exact h6))], hof⟩)
      · show Vx x E M27 33 [(0, .ref (E.1 (0))), (1, .int (iI (a))), (2, .int (iI (b)))] []
        refine x_iconst B dX7_alike_33 ?_
        refine x_goto B (tgt := 38) dX7_alike_34 (by decide) ?_
        exact r_i B R dX7_alike_38 (Or.inr ⟨by omega, by rw [if_pos (show alC M a b (M 0 12) = true from eqB_iff.mpr (by rcases hz27.2 with ⟨h5, h6⟩ | ⟨h5, h6⟩ <;> first | omega | exact h6))], hof⟩)
    · show Vx x E M 18 [(0, .ref (E.1 (0))), (1, .int (iI (a))), (2, .int (iI (b)))] []
      refine x_iconst B dX7_alike_18 ?_
      exact r_i B R dX7_alike_19 (Or.inl ⟨rfl, rfl, by omega⟩)
abbrev rm_X7_parted : Room := { frames := 7, cells := 0, slots := 0, locals := 164 }
theorem cs_X7_parted : Cv yX7_parted cX7_parted 4 (some .int) 3 := ⟨kw_620, ⟨kw_618, kw_619⟩, kw_57, by decide, by decide, by decide +kernel⟩
set_option maxHeartbeats 4000000 in
set_option maxRecDepth 100000 in
theorem c_X7_parted (l : Launch) (E : Ev) (M : Mem) (a b w : Int) (g1 : -2147483648 ≤ a) (g2 : a < 2147483648) (g3 : -2147483648 ≤ b) (g4 : b < 2147483648) (g5 : -2147483648 ≤ w) (g6 : w < 2147483648) : Ct l yX7_parted cX7_parted 4 (some .int) rm_X7_parted E M [.ref (E.1 (0)), .int (iI (a)), .int (iI (b)), .int (iI (w))] (pI (fun z M' => z = -1 ∧ M' = M ∧ ¬ (0 ≤ a ∧ a < 6 ∧ 0 ≤ b ∧ b < 6 ∧ 0 ≤ w ∧ w < 3) ∨ (0 ≤ a ∧ a < 6 ∧ 0 ≤ b ∧ b < 6 ∧ 0 ≤ w ∧ w < 3) ∧ offC M M' 16 57 ∧ (w = 2 ∧ z = ((bK (fun q => alC M a b (q : Int)) 26 : Nat) : Int) ∨ ¬ w = 2 ∧ waC M a b w z))) := by
  refine Ct_of (lv := [(0, .ref (E.1 (0))), (1, .int (iI (a))), (2, .int (iI (b))), (3, .int (iI (w)))]) (by decide) ⟨rfl, rfl⟩ (Nat.le_of_ble_eq_true rfl) rfl (fun x _ B R => ?_)
  refine x_iload_n B dX7_parted_0 1 rfl rfl ?_
  refine x_bipush B dX7_parted_1 rfl ?_
  refine x_callS B (st := []) (av := [.int (iI (a)), .int (iI (6))]) dX7_parted_3 cs_X7_within kw_495 ⟨rfl, rfl, Nat.le_of_ble_eq_true rfl, Nat.le_of_ble_eq_true rfl⟩ rfl rfl (Nat.le_of_ble_eq_true rfl) (c_X7_within _ E _ a 6 (by omega) (by omega) (by omega) (by omega)) (k_i (fun z3 Mq hz3 => ?_))
  obtain ⟨rfl, hz3⟩ := hz3
  refine x_if_eq B (tgt := 26) dX7_parted_6 (by decide) ⟨by omega, by omega⟩ (fun c6 => ?_) (fun c6 => ?_)
  · show Vx x E M 26 [(0, .ref (E.1 (0))), (1, .int (iI (a))), (2, .int (iI (b))), (3, .int (iI (w)))] []
    refine x_iconst B dX7_parted_26 ?_
    exact r_i B R dX7_parted_27 (Or.inl ⟨rfl, rfl, by omega⟩)
  · show Vx x E M 9 [(0, .ref (E.1 (0))), (1, .int (iI (a))), (2, .int (iI (b))), (3, .int (iI (w)))] []
    refine x_iload_n B dX7_parted_9 2 rfl rfl ?_
    refine x_bipush B dX7_parted_10 rfl ?_
    refine x_callS B (st := []) (av := [.int (iI (b)), .int (iI (6))]) dX7_parted_12 cs_X7_within kw_495 ⟨rfl, rfl, Nat.le_of_ble_eq_true rfl, Nat.le_of_ble_eq_true rfl⟩ rfl rfl (Nat.le_of_ble_eq_true rfl) (c_X7_within _ E _ b 6 (by omega) (by omega) (by omega) (by omega)) (k_i (fun z12 Mq hz12 => ?_))
    obtain ⟨rfl, hz12⟩ := hz12
    refine x_if_eq B (tgt := 26) dX7_parted_15 (by decide) ⟨by omega, by omega⟩ (fun c15 => ?_) (fun c15 => ?_)
    · show Vx x E M 26 [(0, .ref (E.1 (0))), (1, .int (iI (a))), (2, .int (iI (b))), (3, .int (iI (w)))] []
      refine x_iconst B dX7_parted_26 ?_
      exact r_i B R dX7_parted_27 (Or.inl ⟨rfl, rfl, by omega⟩)
    · show Vx x E M 18 [(0, .ref (E.1 (0))), (1, .int (iI (a))), (2, .int (iI (b))), (3, .int (iI (w)))] []
      refine x_iload_n B dX7_parted_18 3 rfl rfl ?_
      refine x_iconst B dX7_parted_19 ?_
      refine x_callS B (st := []) (av := [.int (iI (w)), .int (iI (3))]) dX7_parted_20 cs_X7_within kw_495 ⟨rfl, rfl, Nat.le_of_ble_eq_true rfl, Nat.le_of_ble_eq_true rfl⟩ rfl rfl (Nat.le_of_ble_eq_true rfl) (c_X7_within _ E _ w 3 (by omega) (by omega) (by omega) (by omega)) (k_i (fun z20 Mq hz20 => ?_))
      obtain ⟨rfl, hz20⟩ := hz20
      refine x_if_ne B (tgt := 28) dX7_parted_23 (by decide) ⟨by omega, by omega⟩ (fun c23 => ?_) (fun c23 => ?_)
      · show Vx x E M 28 [(0, .ref (E.1 (0))), (1, .int (iI (a))), (2, .int (iI (b))), (3, .int (iI (w)))] []
        refine x_iload_n B dX7_parted_28 3 rfl rfl ?_
        refine x_iconst B dX7_parted_29 ?_
        refine x_icmp_ne B (tgt := 42) dX7_parted_30 (by decide) ⟨by omega, by omega⟩ ⟨by omega, by omega⟩ (fun c30 => ?_) (fun c30 => ?_)
        · show Vx x E M 42 [(0, .ref (E.1 (0))), (1, .int (iI (a))), (2, .int (iI (b))), (3, .int (iI (w)))] []
          refine x_aload_n B dX7_parted_42 0 rfl rfl ?_
          refine x_iload_n B dX7_parted_43 1 rfl rfl ?_
          refine x_iload_n B dX7_parted_44 2 rfl rfl ?_
          refine x_iload_n B dX7_parted_45 3 rfl rfl ?_
          refine x_callV B (st := []) (av := [.int (iI (a)), .int (iI (b)), .int (iI (w))]) dX7_parted_46 cs_X7_wayApart kw_625 ⟨rfl, rfl, Nat.le_of_ble_eq_true rfl, Nat.le_of_ble_eq_true rfl⟩ rfl rfl (Nat.le_of_ble_eq_true rfl) (rc_obj B (ci := 7) rfl rfl rfl) (c_X7_wayApart _ E _ a b w (by omega) (by omega) (by omega) (by omega) (by omega) (by omega)) (k_i (fun z46 M46 hz46 => ?_))
          exact r_i B R dX7_parted_49 (Or.inr ⟨by omega, hz46.1, Or.inr ⟨c30, hz46.2.1⟩⟩)
        · show Vx x E M 33 [(0, .ref (E.1 (0))), (1, .int (iI (a))), (2, .int (iI (b))), (3, .int (iI (w)))] []
          refine x_aload_n B dX7_parted_33 0 rfl rfl ?_
          refine x_iload_n B dX7_parted_34 1 rfl rfl ?_
          refine x_iload_n B dX7_parted_35 2 rfl rfl ?_
          refine x_callV B (st := []) (av := [.int (iI (a)), .int (iI (b))]) dX7_parted_36 cs_X7_placesAlike kw_621 ⟨rfl, rfl, Nat.le_of_ble_eq_true rfl, Nat.le_of_ble_eq_true rfl⟩ rfl rfl (Nat.le_of_ble_eq_true rfl) (rc_obj B (ci := 7) rfl rfl rfl) (c_X7_placesAlike _ E _ a b (by omega) (by omega) (by omega) (by omega)) (k_i (fun z36 M36 hz36 => ?_))
          refine x_goto B (tgt := 49) dX7_parted_39 (by decide) ?_
          exact r_i B R dX7_parted_49 (Or.inr ⟨by omega, hz36.1, Or.inl ⟨c30, hz36.2.1⟩⟩)
      · show Vx x E M 26 [(0, .ref (E.1 (0))), (1, .int (iI (a))), (2, .int (iI (b))), (3, .int (iI (w)))] []
        refine x_iconst B dX7_parted_26 ?_
        exact r_i B R dX7_parted_27 (Or.inl ⟨rfl, rfl, by omega⟩)
abbrev rm_X7_head : Room := { frames := 1, cells := 0, slots := 0, locals := 21 }
theorem cs_X7_head : Cv yX7_head cX7_head 2 (some .int) 1 := ⟨kw_700, ⟨kw_698, kw_699⟩, kw_57, by decide, by decide, by decide +kernel⟩
set_option maxHeartbeats 4000000 in
set_option maxRecDepth 100000 in
theorem c_X7_head (l : Launch) (E : Ev) (M : Mem) (w : Int) (g1 : -2147483648 ≤ w) (g2 : w < 2147483648) : Ct l yX7_head cX7_head 2 (some .int) rm_X7_head E M [.ref (E.1 (0)), .int (iI (w))] (pI (fun z M' => M = M' ∧ (z = -1 ∧ ¬ (0 ≤ w ∧ w < 2) ∨ w = 0 ∧ z = M 0 13 ∨ w = 1 ∧ z = (if M 2 10 ≤ M 0 13 then 1 else 0)))) := by
  refine Ct_of (lv := [(0, .ref (E.1 (0))), (1, .int (iI (w)))]) (by decide) ⟨rfl, rfl⟩ (Nat.le_of_ble_eq_true rfl) rfl (fun x _ B R => ?_)
  refine x_iload_n B dX7_head_0 1 rfl rfl ?_
  refine x_iconst B dX7_head_1 ?_
  refine x_callS B (st := []) (av := [.int (iI (w)), .int (iI (2))]) dX7_head_2 cs_X7_within kw_495 ⟨rfl, rfl, Nat.le_of_ble_eq_true rfl, Nat.le_of_ble_eq_true rfl⟩ rfl rfl (Nat.le_of_ble_eq_true rfl) (c_X7_within _ E _ w 2 (by omega) (by omega) (by omega) (by omega)) (k_i (fun z2 Mq hz2 => ?_))
  obtain ⟨rfl, hz2⟩ := hz2
  refine x_if_ne B (tgt := 10) dX7_head_5 (by decide) ⟨by omega, by omega⟩ (fun c5 => ?_) (fun c5 => ?_)
  · show Vx x E M 10 [(0, .ref (E.1 (0))), (1, .int (iI (w)))] []
    refine x_iload_n B dX7_head_10 1 rfl rfl ?_
    refine x_if_ne B (tgt := 19) dX7_head_11 (by decide) ⟨by omega, by omega⟩ (fun c11 => ?_) (fun c11 => ?_)
    · show Vx x E M 19 [(0, .ref (E.1 (0))), (1, .int (iI (w)))] []
      refine x_aload_n B dX7_head_19 0 rfl rfl ?_
      refine x_getI B (ci := 7) (k := 13) (lo := 0) (hi := 999) dX7_head_20 rfl rfl rfl (by decide) inGX7 kw_296 rfl (fun z20 ez20 lz20 uz20 => ?_)
      refine x_aload_n B dX7_head_23 0 rfl rfl ?_
      refine x_getR B (ci := 7) (k := 0) dX7_head_24 rfl rfl rfl (by decide) inGX7 kw_283 ?_
      refine x_getR B (ci := 1) (k := 0) dX7_head_27 rfl rfl rfl (by decide) inGX1 kw_103 ?_
      refine x_bipush B dX7_head_30 rfl ?_
      refine x_iald B (lo := 1) (hi := 99) dX7_head_32 rfl (by omega) (by omega) rfl (fun z32 ez32 lz32 uz32 => ?_)
      have ez32 : Is z32 (M 2 10) := ez32
      refine x_icmp_lt B (tgt := 40) dX7_head_33 (by decide) ⟨by omega, by omega⟩ ⟨by omega, by omega⟩ (fun c33 => ?_) (fun c33 => ?_)
      · show Vx x E M 40 [(0, .ref (E.1 (0))), (1, .int (iI (w)))] []
        refine x_iconst B dX7_head_40 ?_
        exact r_i B R dX7_head_41 (⟨rfl, Or.inr (Or.inr ⟨by omega, by rw [← Is_e ez20, ← Is_e ez32, if_neg (by omega)]⟩)⟩)
      · show Vx x E M 36 [(0, .ref (E.1 (0))), (1, .int (iI (w)))] []
        refine x_iconst B dX7_head_36 ?_
        refine x_goto B (tgt := 41) dX7_head_37 (by decide) ?_
        exact r_i B R dX7_head_41 (⟨rfl, Or.inr (Or.inr ⟨by omega, by rw [← Is_e ez20, ← Is_e ez32, if_pos (by omega)]⟩)⟩)
    · show Vx x E M 14 [(0, .ref (E.1 (0))), (1, .int (iI (w)))] []
      refine x_aload_n B dX7_head_14 0 rfl rfl ?_
      refine x_getI B (ci := 7) (k := 13) (lo := 0) (hi := 999) dX7_head_15 rfl rfl rfl (by decide) inGX7 kw_296 rfl (fun z15 ez15 lz15 uz15 => ?_)
      exact r_i B R dX7_head_18 (⟨rfl, Or.inr (Or.inl ⟨by omega, Is_e ez15⟩)⟩)
  · show Vx x E M 8 [(0, .ref (E.1 (0))), (1, .int (iI (w)))] []
    refine x_iconst B dX7_head_8 ?_
    exact r_i B R dX7_head_9 (⟨rfl, Or.inl ⟨rfl, by omega⟩⟩)
abbrev rm_X7_forget : Room := { frames := 0, cells := 0, slots := 0, locals := 0 }
theorem cs_X7_forget : Cv yX7_forget cX7_forget 2 (some .int) 0 := ⟨kw_704, ⟨kw_702, kw_703⟩, kw_57, by decide, by decide, by decide +kernel⟩
set_option maxHeartbeats 4000000 in
set_option maxRecDepth 100000 in
theorem c_X7_forget (l : Launch) (E : Ev) (M : Mem)   : Ct l yX7_forget cX7_forget 2 (some .int) rm_X7_forget E M [.ref (E.1 (0))] (pI (fun z M' => z = M 0 13 ∧ M' = sto M 0 13 0)) := by
  refine Ct_of (lv := [(0, .ref (E.1 (0)))]) (by decide) ⟨rfl, rfl⟩ (Nat.le_of_ble_eq_true rfl) rfl (fun x _ B R => ?_)
  refine x_aload_n B dX7_forget_0 0 rfl rfl ?_
  refine x_getI B (ci := 7) (k := 13) (lo := 0) (hi := 999) dX7_forget_1 rfl rfl rfl (by decide) inGX7 kw_296 rfl (fun z1 ez1 lz1 uz1 => ?_)
  refine x_istore_n B dX7_forget_4 [1, 0] rfl (by decide) (lv' := [(0, .ref (E.1 (0))), (1, .int (iI (z1)))]) rfl ?_
  refine x_aload_n B dX7_forget_5 0 rfl rfl ?_
  refine x_iconst B dX7_forget_6 ?_
  refine x_put B (ci := 7) (k := 13) (lo := 0) (hi := 999) (ty := .int) dX7_forget_7 rfl rfl rfl (by decide) inGX7 tyX7_ok nmX7 kw_296 rfl (by decide +kernel) (nar_i _) (fit_i _) rfl (by omega) (by omega) ?_
  refine x_iload_n B dX7_forget_10 1 rfl rfl ?_
  exact r_i B R dX7_forget_11 (⟨Is_e ez1, rfl⟩)
