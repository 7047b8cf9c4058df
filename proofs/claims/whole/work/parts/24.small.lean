theorem bm8 (v : Int) : -128 ≤ Int.bmod v 256 ∧ Int.bmod v 256 < 128 := by
  have a := Int.bmod_lt (x := v) (m := 256) (by decide)
  have b := Int.le_bmod (x := v) (m := 256) (by decide)
  omega
theorem bm16 (v : Int) : -32768 ≤ Int.bmod v 65536 ∧ Int.bmod v 65536 < 32768 := by
  have a := Int.bmod_lt (x := v) (m := 65536) (by decide)
  have b := Int.le_bmod (x := v) (m := 65536) (by decide)
  omega
def putS (ln v : Int) : Int := if ln = 0 then Int.bmod v 256 else if ln = 1 then Int.bmod v 65536 else v
abbrev rm_X6_faultAt : Room := { frames := 0, cells := 0, slots := 0, locals := 0 }
theorem cs_X6_faultAt : Cv yX6_faultAt cX6_faultAt 2 (some .int) 1 := ⟨kw_770, ⟨kw_768, kw_769⟩, kw_66, by decide, by decide, by decide +kernel⟩
set_option maxHeartbeats 4000000 in
set_option maxRecDepth 100000 in
theorem c_X6_faultAt (l : Launch) (E : Ev) (M : Mem) (k : Nat) (i : Int) (g1 : k < 4) (g2 : -2147483648 ≤ i) (g3 : i < 2147483648) : Ct l yX6_faultAt cX6_faultAt 2 (some .int) rm_X6_faultAt E M [.ref (E.1 ((63 + 2 * k))), .int (iI (i))] (pI (fun z M' => M = M' ∧ (z = 1 ∧ M (63 + 2 * k) 1 < 0 ∨ z = 2 ∧ 0 ≤ M (63 + 2 * k) 1 ∧ (i < 0 ∨ M (63 + 2 * k) 1 ≤ i) ∨ z = 0 ∧ 0 ≤ M (63 + 2 * k) 1 ∧ 0 ≤ i ∧ i < M (63 + 2 * k) 1))) := by
  refine Ct_of (lv := [(0, .ref (E.1 ((63 + 2 * k)))), (1, .int (iI (i)))]) (by decide) ⟨rfl, rfl⟩ (Nat.le_of_ble_eq_true rfl) rfl (fun x _ B R => ?_)
  refine x_aload_n B dX6_faultAt_0 0 rfl rfl ?_
  refine x_getI B (ci := 6) (k := 1) (lo := -1) (hi := 64) dX6_faultAt_1 (tS_o k (by omega)) rfl rfl (by decide) inGX6 kw_273 (rS_o1 k (by omega)) (fun z1 ez1 lz1 uz1 => ?_)
  have e1 := Is_e ez1
  refine x_if_ge B (tgt := 9) dX6_faultAt_4 (by decide) ⟨by omega, by omega⟩ (fun c4 => ?_) (fun c4 => ?_)
  · show Vx x E M 9 [(0, .ref (E.1 ((63 + 2 * k)))), (1, .int (iI (i)))] []
    refine x_iload_n B dX6_faultAt_9 1 rfl rfl ?_
    refine x_if_lt B (tgt := 21) dX6_faultAt_10 (by decide) ⟨by omega, by omega⟩ (fun c10 => ?_) (fun c10 => ?_)
    · show Vx x E M 21 [(0, .ref (E.1 ((63 + 2 * k)))), (1, .int (iI (i)))] []
      refine x_iconst B dX6_faultAt_21 ?_
      refine x_goto B (tgt := 26) dX6_faultAt_22 (by decide) ?_
      exact r_i B R dX6_faultAt_26 (⟨rfl, by omega⟩)
    · show Vx x E M 13 [(0, .ref (E.1 ((63 + 2 * k)))), (1, .int (iI (i)))] []
      refine x_iload_n B dX6_faultAt_13 1 rfl rfl ?_
      refine x_aload_n B dX6_faultAt_14 0 rfl rfl ?_
      refine x_getI B (ci := 6) (k := 1) (lo := -1) (hi := 64) dX6_faultAt_15 (tS_o k (by omega)) rfl rfl (by decide) inGX6 kw_273 (rS_o1 k (by omega)) (fun z15 ez15 lz15 uz15 => ?_)
      have e15 := Is_e ez15
      refine x_icmp_lt B (tgt := 25) dX6_faultAt_18 (by decide) ⟨by omega, by omega⟩ ⟨by omega, by omega⟩ (fun c18 => ?_) (fun c18 => ?_)
      · show Vx x E M 25 [(0, .ref (E.1 ((63 + 2 * k)))), (1, .int (iI (i)))] []
        refine x_iconst B dX6_faultAt_25 ?_
        exact r_i B R dX6_faultAt_26 (⟨rfl, by omega⟩)
      · show Vx x E M 21 [(0, .ref (E.1 ((63 + 2 * k)))), (1, .int (iI (i)))] []
        refine x_iconst B dX6_faultAt_21 ?_
        refine x_goto B (tgt := 26) dX6_faultAt_22 (by decide) ?_
        exact r_i B R dX6_faultAt_26 (⟨rfl, by omega⟩)
  · show Vx x E M 7 [(0, .ref (E.1 ((63 + 2 * k)))), (1, .int (iI (i)))] []
    refine x_iconst B dX6_faultAt_7 ?_
    exact r_i B R dX6_faultAt_8 (⟨rfl, by omega⟩)
abbrev rm_X6_faultAsOf : Room := { frames := 1, cells := 0, slots := 0, locals := 21 }
theorem cs_X6_faultAsOf : Cv yX6_faultAsOf cX6_faultAsOf 3 (some .int) 2 := ⟨kw_785, ⟨kw_783, kw_784⟩, kw_66, by decide, by decide, by decide +kernel⟩
set_option maxHeartbeats 4000000 in
set_option maxRecDepth 100000 in
theorem c_X6_faultAsOf (l : Launch) (E : Ev) (M : Mem) (k : Nat) (n i : Int) (g1 : k < 4) (g2 : -2147483648 ≤ n) (g3 : n < 2147483648) (g4 : -2147483648 ≤ i) (g5 : i < 2147483648) : Ct l yX6_faultAsOf cX6_faultAsOf 3 (some .int) rm_X6_faultAsOf E M [.ref (E.1 ((63 + 2 * k))), .int (iI (n)), .int (iI (i))] (pI (fun z M' => M = M' ∧ (z = 3 ∧ 0 ≤ M (63 + 2 * k) 1 ∧ ¬ M (63 + 2 * k) 2 = n ∨ (M (63 + 2 * k) 1 < 0 ∨ M (63 + 2 * k) 2 = n) ∧ (z = 1 ∧ M (63 + 2 * k) 1 < 0 ∨ z = 2 ∧ 0 ≤ M (63 + 2 * k) 1 ∧ (i < 0 ∨ M (63 + 2 * k) 1 ≤ i) ∨ z = 0 ∧ 0 ≤ M (63 + 2 * k) 1 ∧ 0 ≤ i ∧ i < M (63 + 2 * k) 1)))) := by
  refine Ct_of (lv := [(0, .ref (E.1 ((63 + 2 * k)))), (1, .int (iI (n))), (2, .int (iI (i)))]) (by decide) ⟨rfl, rfl⟩ (Nat.le_of_ble_eq_true rfl) rfl (fun x _ B R => ?_)
  refine x_aload_n B dX6_faultAsOf_0 0 rfl rfl ?_
  refine x_getI B (ci := 6) (k := 1) (lo := -1) (hi := 64) dX6_faultAsOf_1 (tS_o k (by omega)) rfl rfl (by decide) inGX6 kw_273 (rS_o1 k (by omega)) (fun z1 ez1 lz1 uz1 => ?_)
  have e1 := Is_e ez1
  refine x_if_lt B (tgt := 19) dX6_faultAsOf_4 (by decide) ⟨by omega, by omega⟩ (fun c4 => ?_) (fun c4 => ?_)
  · show Vx x E M 19 [(0, .ref (E.1 ((63 + 2 * k)))), (1, .int (iI (n))), (2, .int (iI (i)))] []
    refine x_aload_n B dX6_faultAsOf_19 0 rfl rfl ?_
    refine x_iload_n B dX6_faultAsOf_20 2 rfl rfl ?_
    refine x_callV B (st := []) (av := [.int (iI (i))]) dX6_faultAsOf_21 cs_X6_faultAt kw_786 ⟨rfl, rfl, Nat.le_of_ble_eq_true rfl, Nat.le_of_ble_eq_true rfl⟩ rfl rfl (Nat.le_of_ble_eq_true rfl) (rc_obj B (ci := 6) (tS_o k (by omega)) rfl rfl) (c_X6_faultAt _ E _ k i (by omega) (by omega) (by omega)) (k_i (fun z21 Mq hz21 => ?_))
    obtain ⟨rfl, hz21⟩ := hz21
    exact r_i B R dX6_faultAsOf_24 (⟨rfl, by omega⟩)
  · show Vx x E M 7 [(0, .ref (E.1 ((63 + 2 * k)))), (1, .int (iI (n))), (2, .int (iI (i)))] []
    refine x_aload_n B dX6_faultAsOf_7 0 rfl rfl ?_
    refine x_getI B (ci := 6) (k := 2) (lo := 0) (hi := 2) dX6_faultAsOf_8 (tS_o k (by omega)) rfl rfl (by decide) inGX6 kw_275 (rS_o2 k (by omega)) (fun z8 ez8 lz8 uz8 => ?_)
    refine x_iload_n B dX6_faultAsOf_11 1 rfl rfl ?_
    have e8 := Is_e ez8
    refine x_icmp_eq B (tgt := 19) dX6_faultAsOf_12 (by decide) ⟨by omega, by omega⟩ ⟨by omega, by omega⟩ (fun c12 => ?_) (fun c12 => ?_)
    · show Vx x E M 19 [(0, .ref (E.1 ((63 + 2 * k)))), (1, .int (iI (n))), (2, .int (iI (i)))] []
      refine x_aload_n B dX6_faultAsOf_19 0 rfl rfl ?_
      refine x_iload_n B dX6_faultAsOf_20 2 rfl rfl ?_
      refine x_callV B (st := []) (av := [.int (iI (i))]) dX6_faultAsOf_21 cs_X6_faultAt kw_786 ⟨rfl, rfl, Nat.le_of_ble_eq_true rfl, Nat.le_of_ble_eq_true rfl⟩ rfl rfl (Nat.le_of_ble_eq_true rfl) (rc_obj B (ci := 6) (tS_o k (by omega)) rfl rfl) (c_X6_faultAt _ E _ k i (by omega) (by omega) (by omega)) (k_i (fun z21 Mq hz21 => ?_))
      obtain ⟨rfl, hz21⟩ := hz21
      exact r_i B R dX6_faultAsOf_24 (⟨rfl, by omega⟩)
    · show Vx x E M 15 [(0, .ref (E.1 ((63 + 2 * k)))), (1, .int (iI (n))), (2, .int (iI (i)))] []
      refine x_iconst B dX6_faultAsOf_15 ?_
      refine x_goto B (tgt := 24) dX6_faultAsOf_16 (by decide) ?_
      exact r_i B R dX6_faultAsOf_24 (⟨rfl, by omega⟩)
abbrev rm_X6_renew : Room := { frames := 1, cells := 0, slots := 0, locals := 23 }
theorem cs_X6_renew : Cv yX6_renew cX6_renew 3 none 2 := ⟨kw_761, ⟨kw_759, kw_760⟩, kw_66, by decide, by decide, by decide +kernel⟩
set_option maxHeartbeats 4000000 in
set_option maxRecDepth 100000 in
theorem c_X6_renew (l : Launch) (E : Ev) (M : Mem) (k : Nat) (n m : Int) (g1 : k < 4) (g2 : 0 ≤ n) (g3 : n ≤ 2) (g4 : 0 ≤ m) (g5 : m ≤ 64) : Ct l yX6_renew cX6_renew 3 none rm_X6_renew E M [.ref (E.1 ((63 + 2 * k))), .int (iI (n)), .int (iI (m))] (pV (fun M' => M' = sto (sto (fillM M (63 + 2 * k + 1) 64 0) (63 + 2 * k) 2 n) (63 + 2 * k) 1 m)) := by
  refine Ct_of (lv := [(0, .ref (E.1 ((63 + 2 * k)))), (1, .int (iI (n))), (2, .int (iI (m)))]) (by decide) ⟨rfl, rfl⟩ (Nat.le_of_ble_eq_true rfl) rfl (fun x _ B R => ?_)
  refine x_aload_n B dX6_renew_0 0 rfl rfl ?_
  refine x_getR B (ci := 6) (k := 0) dX6_renew_1 (tS_o k (by omega)) rfl rfl (by decide) inGX6 kw_271 ?_
  refine x_iconst B dX6_renew_4 ?_
  refine x_callS B (st := []) (av := [.ref (E.1 ((63 + 2 * k + 1))), .int (iI (0))]) dX6_renew_5 cs_J7_fill_53178 kw_762 ⟨rfl, rfl, Nat.le_of_ble_eq_true rfl, Nat.le_of_ble_eq_true rfl⟩ rfl rfl (Nat.le_of_ble_eq_true rfl) (c_J7_fill_53178 _ E _ (63 + 2 * k + 1) 64 0 (-2147483648) 2147483647 (tS_1 k (by omega)) (fun j => rS_1 k j (by omega)) (by omega) (by omega) (by omega) (by omega)) (k_v (fun M5 hz5 => ?_))
  refine x_aload_n B dX6_renew_8 0 rfl rfl ?_
  refine x_iload_n B dX6_renew_9 1 rfl rfl ?_
  refine x_put B (ci := 6) (k := 2) (lo := 0) (hi := 2) (ty := .int) dX6_renew_10 (tS_o k (by omega)) rfl rfl (by decide) inGX6 tyX6_ok nmX6 kw_275 rfl (by decide +kernel) (nar_i _) (fit_i _) (rS_o2 k (by omega)) (by omega) (by omega) ?_
  refine x_aload_n B dX6_renew_13 0 rfl rfl ?_
  refine x_iload_n B dX6_renew_14 2 rfl rfl ?_
  refine x_put B (ci := 6) (k := 1) (lo := -1) (hi := 64) (ty := .int) dX6_renew_15 (tS_o k (by omega)) rfl rfl (by decide) inGX6 tyX6_ok nmX6 kw_273 rfl (by decide +kernel) (nar_i _) (fit_i _) (rS_o1 k (by omega)) (by omega) (by omega) ?_
  exact r_v B R dX6_renew_18 (by rw [hz5])
abbrev rm_X6_put : Room := { frames := 0, cells := 0, slots := 0, locals := 0 }
theorem cs_X6_put : Cv yX6_put cX6_put 3 none 2 := ⟨kw_774, ⟨kw_772, kw_773⟩, kw_66, by decide, by decide, by decide +kernel⟩
set_option maxHeartbeats 4000000 in
set_option maxRecDepth 100000 in
theorem c_X6_put (l : Launch) (E : Ev) (M : Mem) (k : Nat) (i v : Int) (g1 : k < 4) (g2 : 0 ≤ i) (g3 : i < 64) (g4 : -2147483648 ≤ v) (g5 : v < 2147483648) : Ct l yX6_put cX6_put 3 none rm_X6_put E M [.ref (E.1 ((63 + 2 * k))), .int (iI (i)), .int (iI (v))] (pV (fun M' => M' = sto M (63 + 2 * k + 1) i.toNat (putS (M (63 + 2 * k) 2) v))) := by
  refine Ct_of (lv := [(0, .ref (E.1 ((63 + 2 * k)))), (1, .int (iI (i))), (2, .int (iI (v)))]) (by decide) ⟨rfl, rfl⟩ (Nat.le_of_ble_eq_true rfl) rfl (fun x _ B R => ?_)
  refine x_aload_n B dX6_put_0 0 rfl rfl ?_
  refine x_getI B (ci := 6) (k := 2) (lo := 0) (hi := 2) dX6_put_1 (tS_o k (by omega)) rfl rfl (by decide) inGX6 kw_275 (rS_o2 k (by omega)) (fun z1 ez1 lz1 uz1 => ?_)
  refine x_if_ne B (tgt := 18) dX6_put_4 (by decide) ⟨by omega, by omega⟩ (fun c4 => ?_) (fun c4 => ?_)
  · show Vx x E M 18 [(0, .ref (E.1 ((63 + 2 * k)))), (1, .int (iI (i))), (2, .int (iI (v)))] []
    refine x_aload_n B dX6_put_18 0 rfl rfl ?_
    refine x_getR B (ci := 6) (k := 0) dX6_put_19 (tS_o k (by omega)) rfl rfl (by decide) inGX6 kw_271 ?_
    refine x_iload_n B dX6_put_22 1 rfl rfl ?_
    refine x_aload_n B dX6_put_23 0 rfl rfl ?_
    refine x_getI B (ci := 6) (k := 2) (lo := 0) (hi := 2) dX6_put_24 (tS_o k (by omega)) rfl rfl (by decide) inGX6 kw_275 (rS_o2 k (by omega)) (fun z24 ez24 lz24 uz24 => ?_)
    refine x_iconst B dX6_put_27 ?_
    have J37 : ∀ (j : Int), (j = putS (M (63 + 2 * k) 2) v ∧ -2147483648 ≤ j ∧ j < 2147483648) → Vx x E M 37 [(0, .ref (E.1 ((63 + 2 * k)))), (1, .int (iI (i))), (2, .int (iI (v)))] [.int (iI (j)), .int (iI (i)), .ref (E.1 ((63 + 2 * k + 1)))] := by
      intro j hJ
      obtain ⟨j1, j2, j3⟩ := hJ
      refine x_iast B (lo := -2147483648) (hi := 2147483647) dX6_put_37 (tS_1 k (by omega)) (by omega) (by omega) (rS_1 k _ (by omega)) (by omega) (by omega) ?_
      exact r_v B R dX6_put_38 (by rw [j1])
    refine x_icmp_ne B (tgt := 36) dX6_put_28 (by decide) ⟨by omega, by omega⟩ ⟨by omega, by omega⟩ (fun c28 => ?_) (fun c28 => ?_)
    · show Vx x E M 36 [(0, .ref (E.1 ((63 + 2 * k)))), (1, .int (iI (i))), (2, .int (iI (v)))] [.int (iI (i)), .ref (E.1 ((63 + 2 * k + 1)))]
      refine x_iload_n B dX6_put_36 2 rfl rfl ?_
      exact J37 v (⟨by unfold putS; rw [← Is_e ez24, if_neg (by have a := Is_e ez1; have b := Is_e ez24; omega), if_neg c28], by omega, by omega⟩)
    · show Vx x E M 31 [(0, .ref (E.1 ((63 + 2 * k)))), (1, .int (iI (i))), (2, .int (iI (v)))] [.int (iI (i)), .ref (E.1 ((63 + 2 * k + 1)))]
      refine x_iload_n B dX6_put_31 2 rfl rfl ?_
      have b32 := bm16 v
      refine x_i2s B dX6_put_32 ⟨by omega, by omega⟩ ?_
      refine x_goto B (tgt := 37) dX6_put_33 (by decide) ?_
      exact J37 (Int.bmod (v) 65536) (⟨by unfold putS; rw [← Is_e ez24, if_neg (by omega), if_pos c28], by omega, by omega⟩)
  · show Vx x E M 7 [(0, .ref (E.1 ((63 + 2 * k)))), (1, .int (iI (i))), (2, .int (iI (v)))] []
    refine x_aload_n B dX6_put_7 0 rfl rfl ?_
    refine x_getR B (ci := 6) (k := 0) dX6_put_8 (tS_o k (by omega)) rfl rfl (by decide) inGX6 kw_271 ?_
    refine x_iload_n B dX6_put_11 1 rfl rfl ?_
    refine x_iload_n B dX6_put_12 2 rfl rfl ?_
    have b13 := bm8 v
    refine x_i2b B dX6_put_13 ⟨by omega, by omega⟩ ?_
    refine x_iast B (lo := -2147483648) (hi := 2147483647) dX6_put_14 (tS_1 k (by omega)) (by omega) (by omega) (rS_1 k _ (by omega)) (by omega) (by omega) ?_
    refine x_goto B (tgt := 38) dX6_put_15 (by decide) ?_
    exact r_v B R dX6_put_38 (by unfold putS; rw [← Is_e ez1, if_pos c4])
theorem keep_eq (M : Mem) (a b c d n : Int) (hn : n = M 57 4) : True := trivial
/-- an ANSWER is kept -/
def keepM (M : Mem) (sc pl p fe : Int) : Mem := sto (sto (sto (sto (sto M 58 (M 57 4).toNat sc) 59 (M 57 4).toNat pl) 60 (M 57 4).toNat p) 61 (M 57 4).toNat fe) 57 4 (M 57 4 + 1)
abbrev rm_X3_keep : Room := { frames := 0, cells := 0, slots := 0, locals := 0 }
theorem cs_X3_keep : Cv yX3_keep cX3_keep 5 (some .boolean) 4 := ⟨kw_745, ⟨kw_743, kw_744⟩, kw_65, by decide, by decide, by decide +kernel⟩
set_option maxHeartbeats 4000000 in
set_option maxRecDepth 100000 in
theorem c_X3_keep (l : Launch) (E : Ev) (M : Mem) (sc pl p fe : Int) (g1 : 0 ≤ sc) (g2 : sc ≤ 5) (g3 : 0 ≤ pl) (g4 : pl ≤ 25) (g5 : 0 ≤ p) (g6 : p ≤ 15) (g7 : 0 ≤ fe) (g8 : fe ≤ 1) : Ct l yX3_keep cX3_keep 5 (some .boolean) rm_X3_keep E M [.ref (E.1 (57)), .int (iI (sc)), .int (iI (pl)), .int (iI (p)), .int (iI (fe))] (pI (fun z M' => z = 0 ∧ M' = M ∧ 12 ≤ M 57 4 ∨ z = 1 ∧ M' = keepM M sc pl p fe ∧ M 57 4 < 12)) := by
  refine Ct_of (lv := [(0, .ref (E.1 (57))), (1, .int (iI (sc))), (2, .int (iI (pl))), (3, .int (iI (p))), (4, .int (iI (fe)))]) (by decide) ⟨rfl, rfl⟩ (Nat.le_of_ble_eq_true rfl) rfl (fun x _ B R => ?_)
  refine x_aload_n B dX3_keep_0 0 rfl rfl ?_
  refine x_getI B (ci := 3) (k := 4) (lo := 0) (hi := 12) dX3_keep_1 rfl rfl rfl (by decide) inGX3 kw_250 rfl (fun z1 ez1 lz1 uz1 => ?_)
  have e1 := Is_e ez1
  refine x_bipush B dX3_keep_4 rfl ?_
  refine x_icmp_lt B (tgt := 11) dX3_keep_6 (by decide) ⟨by omega, by omega⟩ ⟨by omega, by omega⟩ (fun c6 => ?_) (fun c6 => ?_)
  · show Vx x E M 11 [(0, .ref (E.1 (57))), (1, .int (iI (sc))), (2, .int (iI (pl))), (3, .int (iI (p))), (4, .int (iI (fe)))] []
    refine x_aload_n B dX3_keep_11 0 rfl rfl ?_
    refine x_getR B (ci := 3) (k := 0) dX3_keep_12 rfl rfl rfl (by decide) inGX3 kw_242 ?_
    refine x_aload_n B dX3_keep_15 0 rfl rfl ?_
    refine x_getI B (ci := 3) (k := 4) (lo := 0) (hi := 12) dX3_keep_16 rfl rfl rfl (by decide) inGX3 kw_250 rfl (fun z16 ez16 lz16 uz16 => ?_)
    refine x_iload_n B dX3_keep_19 1 rfl rfl ?_
    have e16 := Is_e ez16
    refine x_iast B (lo := 0) (hi := 5) dX3_keep_20 rfl (by omega) (by omega) rfl (by omega) (by omega) ?_
    refine x_aload_n B dX3_keep_21 0 rfl rfl ?_
    refine x_getR B (ci := 3) (k := 1) dX3_keep_22 rfl rfl rfl (by decide) inGX3 kw_244 ?_
    refine x_aload_n B dX3_keep_25 0 rfl rfl ?_
    refine x_getI B (ci := 3) (k := 4) (lo := 0) (hi := 12) dX3_keep_26 rfl rfl rfl (by decide) inGX3 kw_250 rfl (fun z26 ez26 lz26 uz26 => ?_)
    refine x_iload_n B dX3_keep_29 2 rfl rfl ?_
    have e26 := Is_e ez26
    rw [sto_ni _ _ _ _ (by decide)] at e26
    refine x_iast B (lo := 0) (hi := 25) dX3_keep_30 rfl (by omega) (by omega) rfl (by omega) (by omega) ?_
    refine x_aload_n B dX3_keep_31 0 rfl rfl ?_
    refine x_getR B (ci := 3) (k := 2) dX3_keep_32 rfl rfl rfl (by decide) inGX3 kw_246 ?_
    refine x_aload_n B dX3_keep_35 0 rfl rfl ?_
    refine x_getI B (ci := 3) (k := 4) (lo := 0) (hi := 12) dX3_keep_36 rfl rfl rfl (by decide) inGX3 kw_250 rfl (fun z36 ez36 lz36 uz36 => ?_)
    refine x_iload_n B dX3_keep_39 3 rfl rfl ?_
    have e36 := Is_e ez36
    rw [sto_ni _ _ _ _ (by decide), sto_ni _ _ _ _ (by decide)] at e36
    refine x_iast B (lo := 0) (hi := 15) dX3_keep_40 rfl (by omega) (by omega) rfl (by omega) (by omega) ?_
    refine x_aload_n B dX3_keep_41 0 rfl rfl ?_
    refine x_getR B (ci := 3) (k := 3) dX3_keep_42 rfl rfl rfl (by decide) inGX3 kw_248 ?_
    refine x_aload_n B dX3_keep_45 0 rfl rfl ?_
    refine x_getI B (ci := 3) (k := 4) (lo := 0) (hi := 12) dX3_keep_46 rfl rfl rfl (by decide) inGX3 kw_250 rfl (fun z46 ez46 lz46 uz46 => ?_)
    refine x_iload B dX3_keep_49 4 rfl ?_
    have e46 := Is_e ez46
    rw [sto_ni _ _ _ _ (by decide), sto_ni _ _ _ _ (by decide), sto_ni _ _ _ _ (by decide)] at e46
    refine x_zast B (lo := 0) (hi := 1) dX3_keep_51 rfl (by omega) (by omega) rfl (by omega) (by omega) (by omega) (by omega) ?_
    refine x_aload_n B dX3_keep_52 0 rfl rfl ?_
    refine x_dup B dX3_keep_53 rfl ?_
    refine x_getI B (ci := 3) (k := 4) (lo := 0) (hi := 12) dX3_keep_54 rfl rfl rfl (by decide) inGX3 kw_250 rfl (fun z54 ez54 lz54 uz54 => ?_)
    have e54 := Is_e ez54
    rw [sto_ni _ _ _ _ (by decide), sto_ni _ _ _ _ (by decide), sto_ni _ _ _ _ (by decide), sto_ni _ _ _ _ (by decide)] at e54
    refine x_iconst B dX3_keep_57 ?_
    refine x_iadd B dX3_keep_58 ?_
    refine x_put B (ci := 3) (k := 4) (lo := 0) (hi := 12) (ty := .int) dX3_keep_59 rfl rfl rfl (by decide) inGX3 tyX3_ok nmX3 kw_250 rfl (by decide +kernel) (nar_i _) (fit_i _) rfl (by omega) (by omega) ?_
    refine x_iconst B dX3_keep_62 ?_
    exact r_z B R dX3_keep_63 (by omega) (by omega) (Or.inr ⟨rfl, by unfold keepM; rw [e16, e26, e36, e46, e54], by omega⟩)
  · show Vx x E M 9 [(0, .ref (E.1 (57))), (1, .int (iI (sc))), (2, .int (iI (pl))), (3, .int (iI (p))), (4, .int (iI (fe)))] []
    refine x_iconst B dX3_keep_9 ?_
    exact r_z B R dX3_keep_10 (by omega) (by omega) (Or.inl ⟨rfl, rfl, by omega⟩)
abbrev rm_X2_forgetAll : Room := { frames := 0, cells := 0, slots := 0, locals := 0 }
theorem cs_X2_forgetAll : Cv yX2_forgetAll cX2_forgetAll 1 none 0 := ⟨kw_649, ⟨kw_647, kw_648⟩, kw_63, by decide, by decide, by decide +kernel⟩
set_option maxHeartbeats 4000000 in
set_option maxRecDepth 100000 in
theorem c_X2_forgetAll (l : Launch) (E : Ev) (M : Mem)   : Ct l yX2_forgetAll cX2_forgetAll 1 none rm_X2_forgetAll E M [.ref (E.1 (51))] (pV (fun M' => M' = sto M 51 1 0)) := by
  refine Ct_of (lv := [(0, .ref (E.1 (51)))]) (by decide) ⟨rfl, rfl⟩ (Nat.le_of_ble_eq_true rfl) rfl (fun x _ B R => ?_)
  refine x_aload_n B dX2_forgetAll_0 0 rfl rfl ?_
  refine x_iconst B dX2_forgetAll_1 ?_
  refine x_put B (ci := 2) (k := 1) (lo := 0) (hi := 67108863) (ty := .int) dX2_forgetAll_2 rfl rfl rfl (by decide) inGX2 tyX2_ok nmX2 kw_207 rfl (by decide +kernel) (nar_i _) (fit_i _) rfl (by omega) (by omega) ?_
  exact r_v B R dX2_forgetAll_5 (rfl)
abbrev rm_X2_isKnown : Room := { frames := 1, cells := 0, slots := 0, locals := 21 }
theorem cs_X2_isKnown : Cv yX2_isKnown cX2_isKnown 2 (some .boolean) 1 := ⟨kw_661, ⟨kw_659, kw_660⟩, kw_63, by decide, by decide, by decide +kernel⟩
set_option maxHeartbeats 4000000 in
set_option maxRecDepth 100000 in
theorem c_X2_isKnown (l : Launch) (E : Ev) (M : Mem) (p : Int) (g1 : 0 ≤ p) (g2 : p ≤ 25) : Ct l yX2_isKnown cX2_isKnown 2 (some .boolean) rm_X2_isKnown E M [.ref (E.1 (51)), .int (iI (p))] (pI (fun z M' => M = M' ∧ (z = 1 ∧ (M 51 1).toNat.testBit p.toNat = true ∨ z = 0 ∧ (M 51 1).toNat.testBit p.toNat = false))) := by
  refine Ct_of (lv := [(0, .ref (E.1 (51))), (1, .int (iI (p)))]) (by decide) ⟨rfl, rfl⟩ (Nat.le_of_ble_eq_true rfl) rfl (fun x _ B R => ?_)
  refine x_aload_n B dX2_isKnown_0 0 rfl rfl ?_
  refine x_getI B (ci := 2) (k := 1) (lo := 0) (hi := 67108863) dX2_isKnown_1 rfl rfl rfl (by decide) inGX2 kw_207 rfl (fun z1 ez1 lz1 uz1 => ?_)
  refine x_iload_n B dX2_isKnown_4 1 rfl rfl ?_
  refine x_callSN B 3 (st := []) (av := [.int (iI (z1)), .int (iI (p))]) dX2_isKnown_5 cs_X7_bit rfl ⟨rfl, rfl, Nat.le_of_ble_eq_true rfl, Nat.le_of_ble_eq_true rfl⟩ rfl rfl (Nat.le_of_ble_eq_true rfl) (c_X7_bit _ E _ z1 p (by omega) (by omega) (by omega) (by omega)) (k_i (fun z5 Mq hz5 => ?_))
  obtain ⟨rfl, hz5⟩ := hz5
  refine x_iconst B dX2_isKnown_8 ?_
  refine x_icmp_ne B (tgt := 16) dX2_isKnown_9 (by decide) ⟨by omega, by omega⟩ ⟨by omega, by omega⟩ (fun c9 => ?_) (fun c9 => ?_)
  · show Vx x E M 16 [(0, .ref (E.1 (51))), (1, .int (iI (p)))] []
    refine x_iconst B dX2_isKnown_16 ?_
    exact r_z B R dX2_isKnown_17 (by omega) (by omega) (⟨rfl, by rcases hz5 with ⟨h5, h6⟩ | ⟨h5, h6⟩ <;> first | omega | (rw [Is_e ez1] at h6; exact Or.inr ⟨rfl, h6⟩)⟩)
  · show Vx x E M 12 [(0, .ref (E.1 (51))), (1, .int (iI (p)))] []
    refine x_iconst B dX2_isKnown_12 ?_
    refine x_goto B (tgt := 17) dX2_isKnown_13 (by decide) ?_
    exact r_z B R dX2_isKnown_17 (by omega) (by omega) (⟨rfl, by rcases hz5 with ⟨h5, h6⟩ | ⟨h5, h6⟩ <;> first | omega | (rw [Is_e ez1] at h6; exact Or.inl ⟨rfl, h6⟩)⟩)
theorem sAf_in : ∀ b, b < 12 → (rngT 2 b).1 ≤ sAf.getD b 0 ∧ sAf.getD b 0 ≤ (rngT 2 b).2 := by decide +kernel
abbrev rm_X1_toFirst : Room := { frames := 1, cells := 0, slots := 0, locals := 26 }
theorem cs_X1_toFirst : Cv yX1_toFirst cX1_toFirst 1 none 0 := ⟨kw_91, ⟨kw_89, kw_90⟩, kw_58, by decide, by decide, by decide +kernel⟩
set_option maxHeartbeats 4000000 in
set_option maxRecDepth 100000 in
theorem c_X1_toFirst (l : Launch) (E : Ev) (M : Mem) (w : Nat) (g1 : w = 1 ∨ w = 4 ∨ w = 8) : Ct l yX1_toFirst cX1_toFirst 1 none rm_X1_toFirst E M [.ref (E.1 (w))] (pV (fun M' => M' = fillM (cpyM M (w + 1) 12 (fun b => sAf.getD b 0)) (w + 2) 16 1)) := by
  refine Ct_of (lv := [(0, .ref (E.1 (w)))]) (by decide) ⟨rfl, rfl⟩ (Nat.le_of_ble_eq_true rfl) rfl (fun x _ B R => ?_)
  have hw := g1
  refine x_getsN B 0 0 dX1_toFirst_0 rfl rfl ?_
  refine x_iconst B dX1_toFirst_3 ?_
  refine x_aload_n B dX1_toFirst_4 0 rfl rfl ?_
  refine x_getR B (ci := 1) (k := 0) dX1_toFirst_5 (tL_o w hw) rfl rfl (by decide) inGX1 kw_100 ?_
  refine x_iconst B dX1_toFirst_8 ?_
  refine x_bipush B dX1_toFirst_9 rfl ?_
  refine x_copyS B 0 dX1_toFirst_11 kw_94 rfl (tL_1 w hw) (by omega) (by decide) (by omega) (by omega) (Nat.le_of_ble_eq_true rfl) (Nat.le_of_ble_eq_true rfl) (Nat.le_of_ble_eq_true rfl) (fun b hb => by rw [rL_1 w hw]; exact sAf_in b hb) ?_
  refine x_aload_n B dX1_toFirst_14 0 rfl rfl ?_
  refine x_getR B (ci := 1) (k := 1) dX1_toFirst_15 (tL_o w hw) rfl rfl (by decide) inGX1 kw_104 ?_
  refine x_iconst B dX1_toFirst_18 ?_
  refine x_callS B (st := []) (av := [.ref (E.1 (w + 2)), .int (iI (1))]) dX1_toFirst_19 cs_J7_fill_53178 kw_97 ⟨rfl, rfl, Nat.le_of_ble_eq_true rfl, Nat.le_of_ble_eq_true rfl⟩ rfl rfl (Nat.le_of_ble_eq_true rfl) (c_J7_fill_53178 _ E _ (w + 2) 16 1 1 9 (tL_2 w hw) (fun j => rL_2 w hw j) (by omega) (by omega) (by omega) (by omega)) (k_v (fun M19 hz19 => ?_))
  exact r_v B R dX1_toFirst_22 (by rw [hz19]; rfl)
abbrev rm_X1_takeFrom : Room := { frames := 1, cells := 0, slots := 0, locals := 26 }
theorem cs_X1_takeFrom : Cv yX1_takeFrom cX1_takeFrom 2 none 1 := ⟨kw_485, ⟨kw_483, kw_484⟩, kw_58, by decide, by decide, by decide +kernel⟩
set_option maxHeartbeats 4000000 in
set_option maxRecDepth 100000 in
theorem c_X1_takeFrom (l : Launch) (E : Ev) (M : Mem) (w u : Nat) (g1 : w = 1 ∨ w = 4 ∨ w = 8) (g2 : u = 1 ∨ u = 4 ∨ u = 8) (g3 : w ≠ u) : Ct l yX1_takeFrom cX1_takeFrom 2 none rm_X1_takeFrom E M [.ref (E.1 (w)), .ref (E.1 (u))] (pV (fun M' => M' = cpyM (cpyM M (w + 1) 12 (M (u + 1))) (w + 2) 16 (M (u + 2)))) := by
  refine Ct_of (lv := [(0, .ref (E.1 (w))), (1, .ref (E.1 (u)))]) (by decide) ⟨rfl, rfl⟩ (Nat.le_of_ble_eq_true rfl) rfl (fun x _ B R => ?_)
  have hw := g1
  have hu := g2
  refine x_aload_n B dX1_takeFrom_0 1 rfl rfl ?_
  refine x_getR B (ci := 1) (k := 0) dX1_takeFrom_1 (tL_o u hu) rfl rfl (by decide) inGX1 kw_100 ?_
  refine x_iconst B dX1_takeFrom_4 ?_
  refine x_aload_n B dX1_takeFrom_5 0 rfl rfl ?_
  refine x_getR B (ci := 1) (k := 0) dX1_takeFrom_6 (tL_o w hw) rfl rfl (by decide) inGX1 kw_100 ?_
  refine x_iconst B dX1_takeFrom_9 ?_
  refine x_bipush B dX1_takeFrom_10 rfl ?_
  refine x_copyW B dX1_takeFrom_12 kw_94 (tL_1 u hu) (tL_1 w hw) (by omega) (by omega) (by omega) (by omega) (Nat.le_of_ble_eq_true rfl) (Nat.le_of_ble_eq_true rfl) (Nat.le_of_ble_eq_true rfl) (fun b hb => (by rw [rL_1 u hu, rL_1 w hw])) ?_
  refine x_aload_n B dX1_takeFrom_15 1 rfl rfl ?_
  refine x_getR B (ci := 1) (k := 1) dX1_takeFrom_16 (tL_o u hu) rfl rfl (by decide) inGX1 kw_104 ?_
  refine x_iconst B dX1_takeFrom_19 ?_
  refine x_aload_n B dX1_takeFrom_20 0 rfl rfl ?_
  refine x_getR B (ci := 1) (k := 1) dX1_takeFrom_21 (tL_o w hw) rfl rfl (by decide) inGX1 kw_104 ?_
  refine x_iconst B dX1_takeFrom_24 ?_
  refine x_bipush B dX1_takeFrom_25 rfl ?_
  refine x_copyW B dX1_takeFrom_27 kw_94 (tL_2 u hu) (tL_2 w hw) (by omega) (by omega) (by omega) (by omega) (Nat.le_of_ble_eq_true rfl) (Nat.le_of_ble_eq_true rfl) (Nat.le_of_ble_eq_true rfl) (fun b hb => (by rw [rL_2 u hu, rL_2 w hw])) ?_
  exact r_v B R dX1_takeFrom_30 (by show cpyM _ _ 16 (cpyM M (w + 1) 12 (M (u + 1)) (u + 2)) = _; rw [cpyM_f _ _ _ _ (by omega)]; rfl)
