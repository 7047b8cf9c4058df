/-- how TIRED the POINTS are behind k TENTHS -/
def tnF (L v lst : Nat → Int) (s0 pl : Int) (td : Nat → Int) : Nat → Nat → Int
  | 0 => td
  | k + 1 => fun q => tiS (picF L v lst (tnF L v lst s0 pl td k) s0 pl q) (tnF L v lst s0 pl td k q)
theorem picF_td {L v lst td td' : Nat → Int} {s0 pl : Int} (h : eqF td td') : eqF (picF L v lst td s0 pl) (picF L v lst td' s0 pl) := fun q hq => feS_cg (by omega) (by omega) eqF_rf (by rw [Int.toNat_natCast]; exact h q hq)
theorem tnF_s {L v lst td : Nat → Int} {s0 pl k : Int} (h0 : 0 ≤ k) : tnF L v lst s0 pl td (k + 1).toNat = fun q => tiS (picF L v lst (tnF L v lst s0 pl td k.toNat) s0 pl q) (tnF L v lst s0 pl td k.toNat q) := by
  rw [show (k + 1).toNat = k.toNat + 1 by omega]
  rfl
def tnC (M : Mem) (sc : Int) (k : Nat) : Nat → Int := tnF (M 12) (M 2) (M 3) (64 * sc) (M 0 12) (M 13) k
theorem tn_step {M M1 M3 M5 : Mem} {sc k : Int} (k0 : 0 ≤ k) (s0 : 0 ≤ sc) (s1 : sc < 6) (hK : ∀ i, i ≠ 13 → (i < 16 ∨ 57 ≤ i) → M1 i = M i) (hT : eqF (M1 13) (tnC M sc k.toNat)) (h3 : seeP M1 M3 (sc.toNat + 1) (64 * sc) (M1 0 12) 1 13) (h5 : offC M3 M5 13 14) (h6 : eqF (M5 13) (fun q => tiS (M3 (16 + 5 * (sc.toNat + 1) + 3) q) (M3 13 q))) : (∀ i, i ≠ 13 → (i < 16 ∨ 57 ≤ i) → M5 i = M i) ∧ eqF (M5 13) (tnC M sc (k + 1).toNat) := by
  obtain ⟨p1, -, -, p4, -⟩ := seeP_C h3
  refine ⟨fun i h1 h2 => ?_, fun q hq => ?_⟩
  · rw [offC_f h5 (by omega), offC_f p1 (by omega)]
    exact hK i h1 h2
  · rw [h6 q hq]
    unfold tnC
    rw [tnF_s k0]
    have e1 : M3 (16 + 5 * (sc.toNat + 1) + 3) q = picF (M 12) (M 2) (M 3) (tnC M sc k.toNat) (64 * sc) (M 0 12) q := by
      rw [p4 q hq]
      unfold feC
      rw [hK 12 (by decide) (by omega), hK 2 (by decide) (by omega), hK 3 (by decide) (by omega), hK 0 (by decide) (by omega)]
      exact picF_td hT q hq
    have e2 : M3 13 q = tnC M sc k.toNat q := by
      rw [p1 13 q (by omega)]
      exact hT q hq
    show tiS _ _ = tiS _ _
    rw [e1, e2]
    rfl
abbrev rm_X7_tenths : Room := { frames := 5, cells := 0, slots := 0, locals := 116 }
theorem cs_X7_tenths : Cv yX7_tenths cX7_tenths 4 (some .int) 2 := ⟨kw_585, ⟨kw_583, kw_584⟩, kw_57, by decide, by decide, by decide +kernel⟩
set_option maxHeartbeats 4000000 in
set_option maxRecDepth 100000 in
theorem c_X7_tenths (l : Launch) (E : Ev) (M : Mem) (sc n : Int) (g1 : -2147483648 ≤ sc) (g2 : sc < 2147483648) (g3 : -2147483648 ≤ n) (g4 : n < 2147483648) : Ct l yX7_tenths cX7_tenths 4 (some .int) rm_X7_tenths E M [.ref (E.1 (0)), .int (iI (sc)), .int (iI (n))] (pI (fun z M' => z = -1 ∧ M' = M ∧ ¬ (0 ≤ sc ∧ sc < 6 ∧ 1 ≤ n ∧ n ≤ 20) ∨ (0 ≤ sc ∧ sc < 6 ∧ 1 ≤ n ∧ n ≤ 20) ∧ z = ((bK (poB (tnC M sc n.toNat)) 16 : Nat) : Int) ∧ M' 0 13 = min 999 (M 0 13 + n * M 2 9) ∧ eqF (M' 13) (tnC M sc n.toNat) ∧ ∀ i j, i ≠ 13 → (i < 16 ∨ 57 ≤ i) → ¬ (i = 0 ∧ j = 13) → M' i j = M i j)) := by
  refine Ct_of (lv := [(0, .ref (E.1 (0))), (1, .int (iI (sc))), (2, .int (iI (n)))]) (by decide) ⟨rfl, rfl⟩ (Nat.le_of_ble_eq_true rfl) rfl (fun x _ B R => ?_)
  refine x_iload_n B dX7_tenths_0 1 rfl rfl ?_
  refine x_bipush B dX7_tenths_1 rfl ?_
  refine x_callS B (st := []) (av := [.int (iI (sc)), .int (iI (6))]) dX7_tenths_3 cs_X7_within kw_495 ⟨rfl, rfl, Nat.le_of_ble_eq_true rfl, Nat.le_of_ble_eq_true rfl⟩ rfl rfl (Nat.le_of_ble_eq_true rfl) (c_X7_within _ E _ sc 6 (by omega) (by omega) (by omega) (by omega)) (k_i (fun z3 Mq hz3 => ?_))
  obtain ⟨rfl, hz3⟩ := hz3
  refine x_if_eq B (tgt := 20) dX7_tenths_6 (by decide) ⟨by omega, by omega⟩ (fun c6 => ?_) (fun c6 => ?_)
  · show Vx x E M 20 [(0, .ref (E.1 (0))), (1, .int (iI (sc))), (2, .int (iI (n)))] []
    refine x_iconst B dX7_tenths_20 ?_
    exact r_i B R dX7_tenths_21 (Or.inl ⟨rfl, rfl, by omega⟩)
  · show Vx x E M 9 [(0, .ref (E.1 (0))), (1, .int (iI (sc))), (2, .int (iI (n)))] []
    refine x_iload_n B dX7_tenths_9 2 rfl rfl ?_
    refine x_iconst B dX7_tenths_10 ?_
    refine x_icmp_lt B (tgt := 20) dX7_tenths_11 (by decide) ⟨by omega, by omega⟩ ⟨by omega, by omega⟩ (fun c11 => ?_) (fun c11 => ?_)
    · show Vx x E M 20 [(0, .ref (E.1 (0))), (1, .int (iI (sc))), (2, .int (iI (n)))] []
      refine x_iconst B dX7_tenths_20 ?_
      exact r_i B R dX7_tenths_21 (Or.inl ⟨rfl, rfl, by omega⟩)
    · show Vx x E M 14 [(0, .ref (E.1 (0))), (1, .int (iI (sc))), (2, .int (iI (n)))] []
      refine x_iload_n B dX7_tenths_14 2 rfl rfl ?_
      refine x_bipush B dX7_tenths_15 rfl ?_
      refine x_icmp_le B (tgt := 22) dX7_tenths_17 (by decide) ⟨by omega, by omega⟩ ⟨by omega, by omega⟩ (fun c17 => ?_) (fun c17 => ?_)
      · show Vx x E M 22 [(0, .ref (E.1 (0))), (1, .int (iI (sc))), (2, .int (iI (n)))] []
        refine x_iconst B dX7_tenths_22 ?_
        refine x_istore_n B dX7_tenths_23 [1, 2, 3, 0] rfl (by decide) (lv' := [(0, .ref (E.1 (0))), (1, .int (iI (sc))), (2, .int (iI (n))), (3, .int (iI (0)))]) rfl ?_
        have L24 : ∀ (k : Int) (M1 : Mem), (0 ≤ k ∧ k ≤ n ∧ (∀ i, i ≠ 13 → (i < 16 ∨ 57 ≤ i) → M1 i = M i) ∧ eqF (M1 13) (tnC M sc k.toNat)) → Vx x E M1 24 [(0, .ref (E.1 (0))), (1, .int (iI (sc))), (2, .int (iI (n))), (3, .int (iI (k)))] [] := by
          refine lo2 _ _ (fun k M1 => (n - k).toNat) ?_
          intro k M1 hI ih24
          obtain ⟨i1, i2, i3, i4⟩ := hI
          refine x_iload_n B dX7_tenths_24 3 rfl rfl ?_
          refine x_iload_n B dX7_tenths_25 2 rfl rfl ?_
          refine x_icmp_ge B (tgt := 48) dX7_tenths_26 (by decide) ⟨by omega, by omega⟩ ⟨by omega, by omega⟩ (fun c26 => ?_) (fun c26 => ?_)
          · show Vx x E M1 48 [(0, .ref (E.1 (0))), (1, .int (iI (sc))), (2, .int (iI (n))), (3, .int (iI (k)))] []
            refine x_aload_n B dX7_tenths_48 0 rfl rfl ?_
            refine x_iload_n B dX7_tenths_49 2 rfl rfl ?_
            refine x_aload_n B dX7_tenths_50 0 rfl rfl ?_
            refine x_getR B (ci := 7) (k := 0) dX7_tenths_51 rfl rfl rfl (by decide) inGX7 kw_283 ?_
            refine x_getR B (ci := 1) (k := 0) dX7_tenths_54 rfl rfl rfl (by decide) inGX1 kw_103 ?_
            refine x_bipush B dX7_tenths_57 rfl ?_
            refine x_iald B (lo := 0) (hi := 20) dX7_tenths_59 rfl (by omega) (by omega) rfl (fun z59 ez59 lz59 uz59 => ?_)
            have ez59 : Is z59 (M1 2 9) := ez59
            have m60 := mulb (a := n) (b := z59) (A := 20) (B := 20) (by omega) (by omega) (by omega) (by omega)
            refine x_wf (fun hwf => ?_)
            refine x_imul B dX7_tenths_60 ?_
            refine x_callV B (st := []) (av := [.int (iI (n * z59))]) dX7_tenths_61 cs_X7_learn kw_592 ⟨rfl, rfl, Nat.le_of_ble_eq_true rfl, Nat.le_of_ble_eq_true rfl⟩ rfl rfl (Nat.le_of_ble_eq_true rfl) (rc_obj B (ci := 7) rfl rfl rfl) (c_X7_learn _ E _ (n * z59) (by omega) (by omega)) (k_v (fun M61 hz61 => ?_))
            have e59 := Is_e ez59
            rw [i3 2 (by decide) (by omega)] at e59
            have hnk : k.toNat = n.toNat := by omega
            refine x_aload_n B dX7_tenths_64 0 rfl rfl ?_
            refine x_getR B (ci := 7) (k := 4) dX7_tenths_65 rfl rfl rfl (by decide) inGX7 kw_287 ?_
            refine x_aload_n B dX7_tenths_68 0 rfl rfl ?_
            refine x_getR B (ci := 7) (k := 5) dX7_tenths_69 rfl rfl rfl (by decide) inGX7 kw_288 ?_
            refine x_callS B (st := []) (av := [.ref (E.1 (13)), .ref (E.1 (14))]) dX7_tenths_72 cs_X7_above kw_576 ⟨rfl, rfl, Nat.le_of_ble_eq_true rfl, Nat.le_of_ble_eq_true rfl⟩ rfl rfl (Nat.le_of_ble_eq_true rfl) (c_X7_above _ E _ 13 14 rfl (fun j => ⟨by show (0 : Int) ≤ 0; omega, by show (9 : Int) ≤ 9; omega⟩) rfl (fun j => ⟨by show (0 : Int) ≤ 0; omega, by show (0 : Int) ≤ 9; omega⟩)) (k_i (fun z72 Mq hz72 => ?_))
            obtain ⟨rfl, hz72⟩ := hz72
            exact r_i B R dX7_tenths_75 (Or.inr ⟨by omega, by rw [hz72.1, hz61, sto_f _ _ _ _ (by decide), sto_f _ _ _ _ (by decide), gtB_0 hwf, ← hnk]; exact congrArg _ (poB_cg i4), by rw [hz61, sto_eq, i3 0 (by decide) (by omega), e59], by rw [hz61, sto_f _ _ _ _ (by decide), ← hnk]; exact i4, fun i j h1 h2 h3 => by rw [hz61]; unfold sto; rw [if_neg h3, i3 i h1 h2]⟩)
          · show Vx x E M1 29 [(0, .ref (E.1 (0))), (1, .int (iI (sc))), (2, .int (iI (n))), (3, .int (iI (k)))] []
            refine x_aload_n B dX7_tenths_29 0 rfl rfl ?_
            refine x_aload_n B dX7_tenths_30 0 rfl rfl ?_
            refine x_iload_n B dX7_tenths_31 1 rfl rfl ?_
            refine x_aload_n B dX7_tenths_32 0 rfl rfl ?_
            refine x_getI B (ci := 7) (k := 12) (lo := 0) (hi := 25) dX7_tenths_33 rfl rfl rfl (by decide) inGX7 kw_295 rfl (fun z33 ez33 lz33 uz33 => ?_)
            refine x_callV B (st := [.ref (E.1 (0))]) (av := [.int (iI (sc)), .int (iI (z33))]) dX7_tenths_36 cs_X7_seen kw_525 ⟨rfl, rfl, Nat.le_of_ble_eq_true rfl, Nat.le_of_ble_eq_true rfl⟩ rfl rfl (Nat.le_of_ble_eq_true rfl) (rc_obj B (ci := 7) rfl rfl rfl) (c_X7_seen _ E _ sc z33 (by omega) (by omega) (by omega) (by omega)) (k_r (fun az36 M36 hz36 => ?_))
            obtain ⟨rfl, hz36⟩ := hz36
            refine x_callV B (st := []) (av := [.ref (E.1 ((16 + 5 * ((sc).toNat + 1))))]) dX7_tenths_39 cs_X7_tireBy kw_586 ⟨rfl, rfl, Nat.le_of_ble_eq_true rfl, Nat.le_of_ble_eq_true rfl⟩ rfl rfl (Nat.le_of_ble_eq_true rfl) (rc_obj B (ci := 7) rfl rfl rfl) (c_X7_tireBy _ E _ ((sc).toNat + 1) (by omega)) (k_v (fun M39 hz39 => ?_))
            refine x_iinc B (q := 3) dX7_tenths_42 rfl [1, 2, 3, 0] (by decide) (lv' := [(0, .ref (E.1 (0))), (1, .int (iI (sc))), (2, .int (iI (n))), (3, .int (iI (k + 1)))]) rfl ?_
            refine x_goto B (tgt := 24) dX7_tenths_45 (by decide) ?_
            exact ih24 (k + 1) M39 (by rw [Is_e ez33] at hz36; have h := tn_step i1 (by omega) (by omega) i3 i4 hz36 hz39.1 hz39.2; exact ⟨by omega, by omega, h.1, h.2⟩) (by omega)
        exact L24 0 M (⟨by omega, by omega, fun _ _ _ => rfl, eqF_rf⟩)
      · show Vx x E M 20 [(0, .ref (E.1 (0))), (1, .int (iI (sc))), (2, .int (iI (n)))] []
        refine x_iconst B dX7_tenths_20 ?_
        exact r_i B R dX7_tenths_21 (Or.inl ⟨rfl, rfl, by omega⟩)
theorem lkS_f0 (M : Mem) : lkS (sto M 51 1 0) = lkS M := lkS_off (a := 51) (b := 53) (offC_sto offC_rf (by omega)) (by omega)
theorem offC_f0 (M : Mem) : offC M (sto M 51 1 0) 16 57 := offC_sto offC_rf (by omega)
theorem fmR_off {M M' : Mem} {v m : Int} (h : offC M M' 16 57) : fmR M' v m = fmR M v m := by
  funext q
  unfold fmR
  rw [lkS_off h (by omega), h 0 12 (by omega)]
abbrev rm_X7_right : Room := { frames := 10, cells := 0, slots := 0, locals := 262 }
theorem cs_X7_right : Cv yX7_right cX7_right 4 (some .int) 3 := ⟨kw_642, ⟨kw_640, kw_641⟩, kw_57, by decide, by decide, by decide +kernel⟩
set_option maxHeartbeats 4000000 in
set_option maxRecDepth 100000 in
theorem c_X7_right (l : Launch) (E : Ev) (M : Mem) (v m w : Int) (g1 : -2147483648 ≤ v) (g2 : v < 2147483648) (g3 : -2147483648 ≤ m) (g4 : m < 2147483648) (g5 : -2147483648 ≤ w) (g6 : w < 2147483648) : Ct l yX7_right cX7_right 4 (some .int) rm_X7_right E M [.ref (E.1 (0)), .int (iI (v)), .int (iI (m)), .int (iI (w))] (pI (fun z M' => z = -1 ∧ M' = M ∧ ¬ (0 < v ∧ v < 64 ∧ 0 ≤ m ∧ m ≤ 3 ∧ 0 ≤ w ∧ w < 2) ∨ (0 < v ∧ v < 64 ∧ 0 ≤ m ∧ m ≤ 3 ∧ 0 ≤ w ∧ w < 2) ∧ offC M M' 16 57 ∧ (w = 0 ∧ z = tfS (lkS M) m.toNat v.toNat (M 0 12) ∨ w = 1 ∧ m = 0 ∧ z = -4 ∨ w = 1 ∧ 0 < m ∧ ∃ le : Int, (0 ≤ le ∧ le ≤ 5 ∧ (∀ j : Int, 0 ≤ j → j < le → v.toNat.testBit j.toNat = false) ∧ (le = 5 ∨ v.toNat.testBit le.toNat = true)) ∧ z = (fmK (fmR M ((v.toNat &&& lkS M le (M 0 12) : Nat) : Int) m) 6).2))) := by
  refine Ct_of (lv := [(0, .ref (E.1 (0))), (1, .int (iI (v))), (2, .int (iI (m))), (3, .int (iI (w)))]) (by decide) ⟨rfl, rfl⟩ (Nat.le_of_ble_eq_true rfl) rfl (fun x _ B R => ?_)
  refine x_iload_n B dX7_right_0 1 rfl rfl ?_
  refine x_callS B (st := []) (av := [.int (iI (v))]) dX7_right_1 cs_X7_isSet kw_643 ⟨rfl, rfl, Nat.le_of_ble_eq_true rfl, Nat.le_of_ble_eq_true rfl⟩ rfl rfl (Nat.le_of_ble_eq_true rfl) (c_X7_isSet _ E _ v (by omega) (by omega)) (k_i (fun z1 Mq hz1 => ?_))
  obtain ⟨rfl, hz1⟩ := hz1
  refine x_if_eq B (tgt := 24) dX7_right_4 (by decide) ⟨by omega, by omega⟩ (fun c4 => ?_) (fun c4 => ?_)
  · show Vx x E M 24 [(0, .ref (E.1 (0))), (1, .int (iI (v))), (2, .int (iI (m))), (3, .int (iI (w)))] []
    refine x_iconst B dX7_right_24 ?_
    exact r_i B R dX7_right_25 (Or.inl ⟨rfl, rfl, by omega⟩)
  · show Vx x E M 7 [(0, .ref (E.1 (0))), (1, .int (iI (v))), (2, .int (iI (m))), (3, .int (iI (w)))] []
    refine x_iload_n B dX7_right_7 2 rfl rfl ?_
    refine x_if_lt B (tgt := 24) dX7_right_8 (by decide) ⟨by omega, by omega⟩ (fun c8 => ?_) (fun c8 => ?_)
    · show Vx x E M 24 [(0, .ref (E.1 (0))), (1, .int (iI (v))), (2, .int (iI (m))), (3, .int (iI (w)))] []
      refine x_iconst B dX7_right_24 ?_
      exact r_i B R dX7_right_25 (Or.inl ⟨rfl, rfl, by omega⟩)
    · show Vx x E M 11 [(0, .ref (E.1 (0))), (1, .int (iI (v))), (2, .int (iI (m))), (3, .int (iI (w)))] []
      refine x_iload_n B dX7_right_11 2 rfl rfl ?_
      refine x_iconst B dX7_right_12 ?_
      refine x_icmp_gt B (tgt := 24) dX7_right_13 (by decide) ⟨by omega, by omega⟩ ⟨by omega, by omega⟩ (fun c13 => ?_) (fun c13 => ?_)
      · show Vx x E M 24 [(0, .ref (E.1 (0))), (1, .int (iI (v))), (2, .int (iI (m))), (3, .int (iI (w)))] []
        refine x_iconst B dX7_right_24 ?_
        exact r_i B R dX7_right_25 (Or.inl ⟨rfl, rfl, by omega⟩)
      · show Vx x E M 16 [(0, .ref (E.1 (0))), (1, .int (iI (v))), (2, .int (iI (m))), (3, .int (iI (w)))] []
        refine x_iload_n B dX7_right_16 3 rfl rfl ?_
        refine x_iconst B dX7_right_17 ?_
        refine x_callS B (st := []) (av := [.int (iI (w)), .int (iI (2))]) dX7_right_18 cs_X7_within kw_495 ⟨rfl, rfl, Nat.le_of_ble_eq_true rfl, Nat.le_of_ble_eq_true rfl⟩ rfl rfl (Nat.le_of_ble_eq_true rfl) (c_X7_within _ E _ w 2 (by omega) (by omega) (by omega) (by omega)) (k_i (fun z18 Mq hz18 => ?_))
        obtain ⟨rfl, hz18⟩ := hz18
        refine x_if_ne B (tgt := 26) dX7_right_21 (by decide) ⟨by omega, by omega⟩ (fun c21 => ?_) (fun c21 => ?_)
        · show Vx x E M 26 [(0, .ref (E.1 (0))), (1, .int (iI (v))), (2, .int (iI (m))), (3, .int (iI (w)))] []
          refine x_aload_n B dX7_right_26 0 rfl rfl ?_
          refine x_getR B (ci := 7) (k := 8) dX7_right_27 rfl rfl rfl (by decide) inGX7 kw_291 ?_
          refine x_callV B (st := []) (av := []) dX7_right_30 cs_X2_forgetAll kw_646 ⟨rfl, rfl, Nat.le_of_ble_eq_true rfl, Nat.le_of_ble_eq_true rfl⟩ rfl rfl (Nat.le_of_ble_eq_true rfl) (rc_obj B (ci := 2) rfl rfl rfl) (c_X2_forgetAll _ E _ ) (k_v (fun M30 hz30 => ?_))
          subst hz30
          have hlk0 := LkOK_0 M
          refine x_iload_n B dX7_right_33 3 rfl rfl ?_
          refine x_if_ne B (tgt := 48) dX7_right_34 (by decide) ⟨by omega, by omega⟩ (fun c34 => ?_) (fun c34 => ?_)
          · show Vx x E (sto M 51 1 0) 48 [(0, .ref (E.1 (0))), (1, .int (iI (v))), (2, .int (iI (m))), (3, .int (iI (w)))] []
            refine x_iload_n B dX7_right_48 2 rfl rfl ?_
            refine x_if_ne B (tgt := 55) dX7_right_49 (by decide) ⟨by omega, by omega⟩ (fun c49 => ?_) (fun c49 => ?_)
            · show Vx x E (sto M 51 1 0) 55 [(0, .ref (E.1 (0))), (1, .int (iI (v))), (2, .int (iI (m))), (3, .int (iI (w)))] []
              refine x_aload_n B dX7_right_55 0 rfl rfl ?_
              refine x_iload_n B dX7_right_56 1 rfl rfl ?_
              refine x_aload_n B dX7_right_57 0 rfl rfl ?_
              refine x_aload_n B dX7_right_58 0 rfl rfl ?_
              refine x_getI B (ci := 7) (k := 12) (lo := 0) (hi := 25) dX7_right_59 rfl rfl rfl (by decide) inGX7 kw_295 rfl (fun z59 ez59 lz59 uz59 => ?_)
              refine x_iload_n B dX7_right_62 1 rfl rfl ?_
              refine x_callS B (st := [.int (iI (z59)), .ref (E.1 (0)), .int (iI (v)), .ref (E.1 (0))]) (av := [.int (iI (v))]) dX7_right_63 cs_X7_leastOf kw_674 ⟨rfl, rfl, Nat.le_of_ble_eq_true rfl, Nat.le_of_ble_eq_true rfl⟩ rfl rfl (Nat.le_of_ble_eq_true rfl) (c_X7_leastOf _ E _ v (by omega) (by omega)) (k_i (fun z63 Mq hz63 => ?_))
              obtain ⟨rfl, hz63⟩ := hz63
              refine x_callV B (st := [.int (iI (v)), .ref (E.1 (0))]) (av := [.int (iI (z59)), .int (iI (z63))]) dX7_right_66 cs_X7_likeHere kw_654 ⟨rfl, rfl, Nat.le_of_ble_eq_true rfl, Nat.le_of_ble_eq_true rfl⟩ rfl rfl (Nat.le_of_ble_eq_true rfl) (rc_obj B (ci := 7) rfl rfl rfl) (c_X7_likeHere _ E _ z59 z63 (by omega) (by omega) (by omega) (by omega) (by assumption)) (k_i (fun z66 M66 hz66 => ?_))
              have hlike : ((v.toNat &&& z66.toNat : Nat) : Int) = ((v.toNat &&& lkS M z63 (M 0 12) : Nat) : Int) := by
                rw [hz66.2.2.1, Int.toNat_natCast, lkS_f0, Is_e ez59, sto_ni _ _ _ _ (by decide)]
              have a63 := and63 (v := v) (z := z66) (by omega) (by omega)
              have hlk1 := hz66.2.1
              refine x_iand B dX7_right_69 (by omega) (by omega) ?_
              refine x_iload_n B dX7_right_70 2 rfl rfl ?_
              refine x_callV B (st := []) (av := [.int (iI ((((v).toNat &&& (z66).toNat : Nat) : Int))), .int (iI (m))]) dX7_right_71 cs_X7_firstMove kw_677 ⟨rfl, rfl, Nat.le_of_ble_eq_true rfl, Nat.le_of_ble_eq_true rfl⟩ rfl rfl (Nat.le_of_ble_eq_true rfl) (rc_obj B (ci := 7) rfl rfl rfl) (c_X7_firstMove _ E _ (((v).toNat &&& (z66).toNat : Nat) : Int) m (by omega) (by omega) (by omega) (by omega) (by assumption)) (k_i (fun z71 M71 hz71 => ?_))
              exact r_i B R dX7_right_74 (Or.inr ⟨by omega, offC_tr (offC_tr (offC_f0 M) hz66.1) hz71.1, Or.inr (Or.inr ⟨by omega, by omega, z63, hz63, by rw [hz71.2.1, hlike, fmR_off (offC_tr (offC_f0 M) hz66.1)]⟩)⟩)
            · show Vx x E (sto M 51 1 0) 52 [(0, .ref (E.1 (0))), (1, .int (iI (v))), (2, .int (iI (m))), (3, .int (iI (w)))] []
              refine x_bipush B dX7_right_52 rfl ?_
              exact r_i B R dX7_right_54 (Or.inr ⟨by omega, offC_f0 M, Or.inr (Or.inl ⟨by omega, c49, rfl⟩)⟩)
          · show Vx x E (sto M 51 1 0) 37 [(0, .ref (E.1 (0))), (1, .int (iI (v))), (2, .int (iI (m))), (3, .int (iI (w)))] []
            refine x_aload_n B dX7_right_37 0 rfl rfl ?_
            refine x_iload_n B dX7_right_38 1 rfl rfl ?_
            refine x_aload_n B dX7_right_39 0 rfl rfl ?_
            refine x_getI B (ci := 7) (k := 12) (lo := 0) (hi := 25) dX7_right_40 rfl rfl rfl (by decide) inGX7 kw_295 rfl (fun z40 ez40 lz40 uz40 => ?_)
            refine x_iload_n B dX7_right_43 2 rfl rfl ?_
            refine x_callVe B (st := []) (av := [.int (iI (v)), .int (iI (z40)), .int (iI (m))]) dX7_right_44 cs_X7_toldFrom kw_650 (by decide) (by decide) rfl rfl (Nat.le_of_ble_eq_true rfl) (rc_obj B (ci := 7) rfl rfl rfl) (c_told (E := E) (v := v) (pl := z40) (m := m) (by omega) (by omega) (by omega) (by omega) (by omega) (by omega) (by assumption)) (k_i (fun z44 M44 hz44 => ?_))
            exact r_i B R dX7_right_47 (Or.inr ⟨by omega, offC_tr (offC_f0 M) hz44.1, Or.inl ⟨c34, by rw [hz44.2.2.1, lkS_f0, Is_e ez40, sto_ni _ _ _ _ (by decide)]⟩⟩)
        · show Vx x E M 24 [(0, .ref (E.1 (0))), (1, .int (iI (v))), (2, .int (iI (m))), (3, .int (iI (w)))] []
          refine x_iconst B dX7_right_24 ?_
          exact r_i B R dX7_right_25 (Or.inl ⟨rfl, rfl, by omega⟩)
abbrev rm_X7_needs : Room := { frames := 9, cells := 0, slots := 0, locals := 236 }
theorem cs_X7_needs : Cv yX7_needs cX7_needs 4 (some .int) 1 := ⟨kw_684, ⟨kw_682, kw_683⟩, kw_57, by decide, by decide, by decide +kernel⟩
set_option maxHeartbeats 4000000 in
set_option maxRecDepth 100000 in
theorem c_X7_needs (l : Launch) (E : Ev) (M : Mem) (v : Int) (g1 : -2147483648 ≤ v) (g2 : v < 2147483648) : Ct l yX7_needs cX7_needs 4 (some .int) rm_X7_needs E M [.ref (E.1 (0)), .int (iI (v))] (pI (fun z M' => z = -1 ∧ M' = M ∧ ¬ (0 < v ∧ v < 64) ∨ (0 < v ∧ v < 64) ∧ offC M M' 16 57 ∧ (0 ≤ z ∧ z ≤ 3 ∧ tfS (lkS M) (z).toNat v.toNat (M 0 12) = ((popN v.toNat 16 : Nat) : Int) ∧ (∀ q : Int, 0 ≤ q → q < z → ¬ tfS (lkS M) (q).toNat v.toNat (M 0 12) = ((popN v.toNat 16 : Nat) : Int)) ∨ z = -4 ∧ ∀ q : Int, 0 ≤ q → q < 4 → ¬ tfS (lkS M) (q).toNat v.toNat (M 0 12) = ((popN v.toNat 16 : Nat) : Int)))) := by
  refine Ct_of (lv := [(0, .ref (E.1 (0))), (1, .int (iI (v)))]) (by decide) ⟨rfl, rfl⟩ (Nat.le_of_ble_eq_true rfl) rfl (fun x _ B R => ?_)
  refine x_iload_n B dX7_needs_0 1 rfl rfl ?_
  refine x_callS B (st := []) (av := [.int (iI (v))]) dX7_needs_1 cs_X7_isSet kw_643 ⟨rfl, rfl, Nat.le_of_ble_eq_true rfl, Nat.le_of_ble_eq_true rfl⟩ rfl rfl (Nat.le_of_ble_eq_true rfl) (c_X7_isSet _ E _ v (by omega) (by omega)) (k_i (fun z1 Mq hz1 => ?_))
  obtain ⟨rfl, hz1⟩ := hz1
  refine x_if_ne B (tgt := 9) dX7_needs_4 (by decide) ⟨by omega, by omega⟩ (fun c4 => ?_) (fun c4 => ?_)
  · show Vx x E M 9 [(0, .ref (E.1 (0))), (1, .int (iI (v)))] []
    refine x_aload_n B dX7_needs_9 0 rfl rfl ?_
    refine x_getR B (ci := 7) (k := 8) dX7_needs_10 rfl rfl rfl (by decide) inGX7 kw_291 ?_
    refine x_callV B (st := []) (av := []) dX7_needs_13 cs_X2_forgetAll kw_646 ⟨rfl, rfl, Nat.le_of_ble_eq_true rfl, Nat.le_of_ble_eq_true rfl⟩ rfl rfl (Nat.le_of_ble_eq_true rfl) (rc_obj B (ci := 2) rfl rfl rfl) (c_X2_forgetAll _ E _ ) (k_v (fun M13 hz13 => ?_))
    subst hz13
    have hlk0 := LkOK_0 M
    refine x_iload_n B dX7_needs_16 1 rfl rfl ?_
    refine x_callS B (st := []) (av := [.int (iI (v))]) dX7_needs_17 cs_J6_bitCount_0f7a4 kw_668 ⟨rfl, rfl, Nat.le_of_ble_eq_true rfl, Nat.le_of_ble_eq_true rfl⟩ rfl rfl (Nat.le_of_ble_eq_true rfl) (c_J6_bitCount_0f7a4 _ E _ v (by omega) (by omega)) (k_i (fun z17 Mq hz17 => ?_))
    obtain ⟨rfl, hz17⟩ := hz17
    refine x_istore_n B dX7_needs_20 [1, 2, 0] rfl (by decide) (lv' := [(0, .ref (E.1 (0))), (1, .int (iI (v))), (2, .int (iI (z17)))]) rfl ?_
    refine x_iconst B dX7_needs_21 ?_
    refine x_istore_n B dX7_needs_22 [1, 2, 3, 0] rfl (by decide) (lv' := [(0, .ref (E.1 (0))), (1, .int (iI (v))), (2, .int (iI (z17))), (3, .int (iI (0)))]) rfl ?_
    have L23 : ∀ (m : Int) (M1 : Mem), (0 ≤ m ∧ m ≤ 4 ∧ offC M M1 16 57 ∧ LkOK M1 ∧ ∀ q : Int, 0 ≤ q → q < m → ¬ tfS (lkS M) (q).toNat v.toNat (M 0 12) = ((popN v.toNat 16 : Nat) : Int)) → Vx x E M1 23 [(0, .ref (E.1 (0))), (1, .int (iI (v))), (2, .int (iI (z17))), (3, .int (iI (m)))] [] := by
      refine lo2 _ _ (fun m M1 => (4 - m).toNat) ?_
      intro m M1 hI ih23
      obtain ⟨i1, i2, i3, i4, i5⟩ := hI
      refine x_iload_n B dX7_needs_23 3 rfl rfl ?_
      refine x_iconst B dX7_needs_24 ?_
      refine x_icmp_gt B (tgt := 50) dX7_needs_25 (by decide) ⟨by omega, by omega⟩ ⟨by omega, by omega⟩ (fun c25 => ?_) (fun c25 => ?_)
      · show Vx x E M1 50 [(0, .ref (E.1 (0))), (1, .int (iI (v))), (2, .int (iI (z17))), (3, .int (iI (m)))] []
        refine x_bipush B dX7_needs_50 rfl ?_
        exact r_i B R dX7_needs_52 (Or.inr ⟨by omega, i3, Or.inr ⟨rfl, fun q h0 h1 => i5 q h0 (by omega)⟩⟩)
      · show Vx x E M1 28 [(0, .ref (E.1 (0))), (1, .int (iI (v))), (2, .int (iI (z17))), (3, .int (iI (m)))] []
        refine x_aload_n B dX7_needs_28 0 rfl rfl ?_
        refine x_iload_n B dX7_needs_29 1 rfl rfl ?_
        refine x_aload_n B dX7_needs_30 0 rfl rfl ?_
        refine x_getI B (ci := 7) (k := 12) (lo := 0) (hi := 25) dX7_needs_31 rfl rfl rfl (by decide) inGX7 kw_295 rfl (fun z31 ez31 lz31 uz31 => ?_)
        refine x_iload_n B dX7_needs_34 3 rfl rfl ?_
        refine x_callVe B (st := []) (av := [.int (iI (v)), .int (iI (z31)), .int (iI (m))]) dX7_needs_35 cs_X7_toldFrom kw_650 (by decide) (by decide) rfl rfl (Nat.le_of_ble_eq_true rfl) (rc_obj B (ci := 7) rfl rfl rfl) (c_told (E := E) (v := v) (pl := z31) (m := m) (by omega) (by omega) (by omega) (by omega) (by omega) (by omega) (by assumption)) (k_i (fun z35 M35 hz35 => ?_))
        have hr : z35 = tfS (lkS M) (m).toNat v.toNat (M 0 12) := by rw [hz35.2.2.1, lkS_off i3 (by omega), Is_e ez31, i3 0 12 (by omega)]
        refine x_iload_n B dX7_needs_38 2 rfl rfl ?_
        refine x_icmp_ne B (tgt := 44) dX7_needs_39 (by decide) ⟨by omega, by omega⟩ ⟨by omega, by omega⟩ (fun c39 => ?_) (fun c39 => ?_)
        · show Vx x E M35 44 [(0, .ref (E.1 (0))), (1, .int (iI (v))), (2, .int (iI (z17))), (3, .int (iI (m)))] []
          refine x_iinc B (q := 3) dX7_needs_44 rfl [1, 2, 3, 0] (by decide) (lv' := [(0, .ref (E.1 (0))), (1, .int (iI (v))), (2, .int (iI (z17))), (3, .int (iI (m + 1)))]) rfl ?_
          refine x_goto B (tgt := 23) dX7_needs_47 (by decide) ?_
          exact ih23 (m + 1) M35 (⟨by omega, by omega, offC_tr i3 hz35.1, hz35.2.1, fun q h0 h1 => by rcases (show q < m ∨ q = m by omega) with h7 | h7; (exact i5 q h0 h7); (rw [h7, ← hr, ← hz17.1]; exact c39)⟩) (by omega)
        · show Vx x E M35 42 [(0, .ref (E.1 (0))), (1, .int (iI (v))), (2, .int (iI (z17))), (3, .int (iI (m)))] []
          refine x_iload_n B dX7_needs_42 3 rfl rfl ?_
          exact r_i B R dX7_needs_43 (Or.inr ⟨by omega, offC_tr i3 hz35.1, Or.inl ⟨by omega, by omega, by rw [← hr, ← hz17.1]; exact c39, i5⟩⟩)
    exact L23 0 (sto M 51 1 0) (⟨by omega, by omega, offC_f0 M, LkOK_0 M, fun q h0 h1 => by omega⟩)
  · show Vx x E M 7 [(0, .ref (E.1 (0))), (1, .int (iI (v)))] []
    refine x_iconst B dX7_needs_7 ?_
    exact r_i B R dX7_needs_8 (Or.inl ⟨rfl, rfl, by omega⟩)
abbrev rm_X7_lessons : Room := { frames := 2, cells := 0, slots := 0, locals := 47 }
theorem cs_X7_lessons : Cv yX7_lessons cX7_lessons 4 (some .int) 1 := ⟨kw_708, ⟨kw_706, kw_707⟩, kw_57, by decide, by decide, by decide +kernel⟩
set_option maxHeartbeats 4000000 in
set_option maxRecDepth 100000 in
theorem c_X7_lessons (l : Launch) (E : Ev) (M : Mem) (w : Int) (g1 : -2147483648 ≤ w) (g2 : w < 2147483648) : Ct l yX7_lessons cX7_lessons 4 (some .int) rm_X7_lessons E M [.ref (E.1 (0)), .int (iI (w))] (pI (fun z M' => M = M' ∧ (z = -1 ∧ ¬ (0 ≤ w ∧ w < 2) ∨ (0 ≤ w ∧ w < 2) ∧ ((∃ h b : Int, 0 ≤ b ∧ b ≤ h ∧ h ≤ 60 ∧ M 2 10 ≤ mlS (M 2 7) (M 2 8) h b ∧ (∀ h' b' : Int, 0 ≤ b' → b' ≤ h' → h' < h → ¬ M 2 10 ≤ mlS (M 2 7) (M 2 8) h' b') ∧ (∀ b' : Int, 0 ≤ b' → b' < b → ¬ M 2 10 ≤ mlS (M 2 7) (M 2 8) h b') ∧ z = (if w = 0 then h else b)) ∨ z = -4 ∧ ∀ h' b' : Int, 0 ≤ b' → b' ≤ h' → h' ≤ 60 → ¬ M 2 10 ≤ mlS (M 2 7) (M 2 8) h' b')))) := by
  refine Ct_of (lv := [(0, .ref (E.1 (0))), (1, .int (iI (w)))]) (by decide) ⟨rfl, rfl⟩ (Nat.le_of_ble_eq_true rfl) rfl (fun x _ B R => ?_)
  refine x_iload_n B dX7_lessons_0 1 rfl rfl ?_
  refine x_iconst B dX7_lessons_1 ?_
  refine x_callS B (st := []) (av := [.int (iI (w)), .int (iI (2))]) dX7_lessons_2 cs_X7_within kw_495 ⟨rfl, rfl, Nat.le_of_ble_eq_true rfl, Nat.le_of_ble_eq_true rfl⟩ rfl rfl (Nat.le_of_ble_eq_true rfl) (c_X7_within _ E _ w 2 (by omega) (by omega) (by omega) (by omega)) (k_i (fun z2 Mq hz2 => ?_))
  obtain ⟨rfl, hz2⟩ := hz2
  refine x_if_ne B (tgt := 10) dX7_lessons_5 (by decide) ⟨by omega, by omega⟩ (fun c5 => ?_) (fun c5 => ?_)
  · show Vx x E M 10 [(0, .ref (E.1 (0))), (1, .int (iI (w)))] []
    refine x_iconst B dX7_lessons_10 ?_
    refine x_istore_n B dX7_lessons_11 [1, 2, 0] rfl (by decide) (lv' := [(0, .ref (E.1 (0))), (1, .int (iI (w))), (2, .int (iI (0)))]) rfl ?_
    have L12 : ∀ (h : Int), (0 ≤ h ∧ h ≤ 61 ∧ ∀ h' b' : Int, 0 ≤ b' → b' ≤ h' → h' < h → ¬ M 2 10 ≤ mlS (M 2 7) (M 2 8) h' b') → Vx x E M 12 [(0, .ref (E.1 (0))), (1, .int (iI (w))), (2, .int (iI (h)))] [] := by
      refine lo1 _ _ (fun h => (61 - h).toNat) ?_
      intro h hI ih12
      obtain ⟨i1, i2, i3⟩ := hI
      refine x_iload_n B dX7_lessons_12 2 rfl rfl ?_
      refine x_bipush B dX7_lessons_13 rfl ?_
      refine x_icmp_gt B (tgt := 66) dX7_lessons_15 (by decide) ⟨by omega, by omega⟩ ⟨by omega, by omega⟩ (fun c15 => ?_) (fun c15 => ?_)
      · show Vx x E M 66 [(0, .ref (E.1 (0))), (1, .int (iI (w))), (2, .int (iI (h)))] []
        refine x_bipush B dX7_lessons_66 rfl ?_
        exact r_i B R dX7_lessons_68 (⟨rfl, Or.inr ⟨by omega, Or.inr ⟨rfl, fun h' b' h0 h1 h2 => i3 h' b' h0 h1 (by omega)⟩⟩⟩)
      · show Vx x E M 18 [(0, .ref (E.1 (0))), (1, .int (iI (w))), (2, .int (iI (h)))] []
        refine x_iconst B dX7_lessons_18 ?_
        refine x_istore_n B dX7_lessons_19 [1, 2, 3, 0] rfl (by decide) (lv' := [(0, .ref (E.1 (0))), (1, .int (iI (w))), (2, .int (iI (h))), (3, .int (iI (0)))]) rfl ?_
        have L20 : ∀ (b : Int), (0 ≤ b ∧ b ≤ h + 1 ∧ ∀ b' : Int, 0 ≤ b' → b' < b → ¬ M 2 10 ≤ mlS (M 2 7) (M 2 8) h b') → Vx x E M 20 [(0, .ref (E.1 (0))), (1, .int (iI (w))), (2, .int (iI (h))), (3, .int (iI (b)))] [] := by
          refine lo1 _ _ (fun b => (h + 1 - b).toNat) ?_
          intro b hI ih20
          obtain ⟨n1, n2, n3⟩ := hI
          refine x_iload_n B dX7_lessons_20 3 rfl rfl ?_
          refine x_iload_n B dX7_lessons_21 2 rfl rfl ?_
          refine x_icmp_gt B (tgt := 60) dX7_lessons_22 (by decide) ⟨by omega, by omega⟩ ⟨by omega, by omega⟩ (fun c22 => ?_) (fun c22 => ?_)
          · show Vx x E M 60 [(0, .ref (E.1 (0))), (1, .int (iI (w))), (2, .int (iI (h))), (3, .int (iI (b)))] []
            refine x_iinc B (q := 2) dX7_lessons_60 rfl [1, 2, 0, 3] (by decide) (lv' := [(0, .ref (E.1 (0))), (1, .int (iI (w))), (2, .int (iI (h + 1))), (3, .int (iI (b)))]) rfl ?_
            refine x_goto B (tgt := 12) dX7_lessons_63 (by decide) ?_
            refine x_lv [0, 1, 2] (lv' := [(0, .ref (E.1 (0))), (1, .int (iI (w))), (2, .int (iI (h + 1)))]) rfl ?_
            exact ih12 (h + 1) (⟨by omega, by omega, fun h' b' h0 h1 h2 => by rcases (show h' < h ∨ h' = h by omega) with h7 | h7; (exact i3 h' b' h0 h1 h7); (rw [h7]; exact n3 b' h0 (by omega))⟩) (by omega)
          · show Vx x E M 25 [(0, .ref (E.1 (0))), (1, .int (iI (w))), (2, .int (iI (h))), (3, .int (iI (b)))] []
            refine x_aload_n B dX7_lessons_25 0 rfl rfl ?_
            refine x_iload_n B dX7_lessons_26 2 rfl rfl ?_
            refine x_iload_n B dX7_lessons_27 3 rfl rfl ?_
            refine x_callV B (st := []) (av := [.int (iI (h)), .int (iI (b))]) dX7_lessons_28 cs_X7_mostLearnt kw_709 ⟨rfl, rfl, Nat.le_of_ble_eq_true rfl, Nat.le_of_ble_eq_true rfl⟩ rfl rfl (Nat.le_of_ble_eq_true rfl) (rc_obj B (ci := 7) rfl rfl rfl) (c_X7_mostLearnt _ E _ h b (by omega) (by omega) (by omega)) (k_i (fun z28 Mq hz28 => ?_))
            obtain ⟨rfl, hz28⟩ := hz28
            refine x_aload_n B dX7_lessons_31 0 rfl rfl ?_
            refine x_getR B (ci := 7) (k := 0) dX7_lessons_32 rfl rfl rfl (by decide) inGX7 kw_283 ?_
            refine x_getR B (ci := 1) (k := 0) dX7_lessons_35 rfl rfl rfl (by decide) inGX1 kw_103 ?_
            refine x_bipush B dX7_lessons_38 rfl ?_
            refine x_iald B (lo := 1) (hi := 99) dX7_lessons_40 rfl (by omega) (by omega) rfl (fun z40 ez40 lz40 uz40 => ?_)
            have ez40 : Is z40 (M 2 10) := ez40
            refine x_icmp_lt B (tgt := 54) dX7_lessons_41 (by decide) ⟨by omega, by omega⟩ ⟨by omega, by omega⟩ (fun c41 => ?_) (fun c41 => ?_)
            · show Vx x E M 54 [(0, .ref (E.1 (0))), (1, .int (iI (w))), (2, .int (iI (h))), (3, .int (iI (b)))] []
              refine x_iinc B (q := 3) dX7_lessons_54 rfl [1, 2, 3, 0] (by decide) (lv' := [(0, .ref (E.1 (0))), (1, .int (iI (w))), (2, .int (iI (h))), (3, .int (iI (b + 1)))]) rfl ?_
              refine x_goto B (tgt := 20) dX7_lessons_57 (by decide) ?_
              exact ih20 (b + 1) (⟨by omega, by omega, fun b' h0 h1 => by rcases (show b' < b ∨ b' = b by omega) with h7 | h7; (exact n3 b' h0 h7); (rw [h7, ← hz28.1, ← Is_e ez40]; omega)⟩) (by omega)
            · show Vx x E M 44 [(0, .ref (E.1 (0))), (1, .int (iI (w))), (2, .int (iI (h))), (3, .int (iI (b)))] []
              refine x_iload_n B dX7_lessons_44 1 rfl rfl ?_
              refine x_if_ne B (tgt := 52) dX7_lessons_45 (by decide) ⟨by omega, by omega⟩ (fun c45 => ?_) (fun c45 => ?_)
              · show Vx x E M 52 [(0, .ref (E.1 (0))), (1, .int (iI (w))), (2, .int (iI (h))), (3, .int (iI (b)))] []
                refine x_iload_n B dX7_lessons_52 3 rfl rfl ?_
                exact r_i B R dX7_lessons_53 (⟨rfl, Or.inr ⟨by omega, Or.inl ⟨h, b, by omega, by omega, by omega, by rw [← hz28.1, ← Is_e ez40]; omega, i3, n3, by rw [if_neg c45]⟩⟩⟩)
              · show Vx x E M 48 [(0, .ref (E.1 (0))), (1, .int (iI (w))), (2, .int (iI (h))), (3, .int (iI (b)))] []
                refine x_iload_n B dX7_lessons_48 2 rfl rfl ?_
                refine x_goto B (tgt := 53) dX7_lessons_49 (by decide) ?_
                exact r_i B R dX7_lessons_53 (⟨rfl, Or.inr ⟨by omega, Or.inl ⟨h, b, by omega, by omega, by omega, by rw [← hz28.1, ← Is_e ez40]; omega, i3, n3, by rw [if_pos c45]⟩⟩⟩)
        exact L20 0 (⟨by omega, by omega, fun b' h0 h1 => by omega⟩)
    exact L12 0 (⟨by omega, by omega, fun h' b' h0 h1 h2 => by omega⟩)
  · show Vx x E M 8 [(0, .ref (E.1 (0))), (1, .int (iI (w)))] []
    refine x_iconst B dX7_lessons_8 ?_
    exact r_i B R dX7_lessons_9 (⟨rfl, Or.inl ⟨rfl, by omega⟩⟩)
/-- askings by halves -/
def asF (le : Int) : Nat → Int → Int → Int
  | 0, _, _ => 0
  | k + 1, lo, hi => if lo < hi then (if le ≤ (lo + hi) / 2 then asF le k lo ((lo + hi) / 2) + 1 else asF le k ((lo + hi) / 2 + 1) hi + 1) else 0
theorem asF_done {le lo hi : Int} (h : ¬ lo < hi) : ∀ k, asF le k lo hi = 0 := by
  intro k
  cases k with
  | zero => rfl
  | succ k => exact if_neg h
theorem asF_fu {le : Int} : ∀ (k : Nat) (lo hi : Int), hi - lo ≤ (k : Int) → asF le (k + 1) lo hi = asF le k lo hi := by
  intro k
  induction k with
  | zero =>
    intro lo hi h
    rw [asF_done (by omega), asF_done (by omega)]
  | succ k ih =>
    intro lo hi h
    by_cases c : lo < hi
    · show (if lo < hi then (if le ≤ (lo + hi) / 2 then asF le (k + 1) lo ((lo + hi) / 2) + 1 else asF le (k + 1) ((lo + hi) / 2 + 1) hi + 1) else 0) = (if lo < hi then (if le ≤ (lo + hi) / 2 then asF le k lo ((lo + hi) / 2) + 1 else asF le k ((lo + hi) / 2 + 1) hi + 1) else 0)
      rw [ih lo ((lo + hi) / 2) (by omega), ih ((lo + hi) / 2 + 1) hi (by omega)]
    · rw [asF_done c, asF_done c]
theorem asF_9 {le lo hi : Int} (h : lo < hi) (hd : hi - lo ≤ 8) : asF le 9 lo hi = if le ≤ (lo + hi) / 2 then asF le 9 lo ((lo + hi) / 2) + 1 else asF le 9 ((lo + hi) / 2 + 1) hi + 1 := by
  rw [asF_fu 8 lo ((lo + hi) / 2) (by omega), asF_fu 8 ((lo + hi) / 2 + 1) hi (by omega)]
  exact if_pos h
abbrev rm_X7_asks : Room := { frames := 1, cells := 0, slots := 0, locals := 21 }
theorem cs_X7_asks : Cv yX7_asks cX7_asks 8 (some .int) 2 := ⟨kw_716, ⟨kw_714, kw_715⟩, kw_57, by decide, by decide, by decide +kernel⟩
set_option maxHeartbeats 4000000 in
set_option maxRecDepth 100000 in
theorem c_X7_asks (l : Launch) (E : Ev) (M : Mem) (p n : Int) (g1 : -2147483648 ≤ p) (g2 : p < 2147483648) (g3 : -2147483648 ≤ n) (g4 : n < 2147483648) : Ct l yX7_asks cX7_asks 8 (some .int) rm_X7_asks E M [.ref (E.1 (0)), .int (iI (p)), .int (iI (n))] (pI (fun z M' => M = M' ∧ (z = -1 ∧ ¬ (0 ≤ p ∧ p < 16 ∧ 2 ≤ n ∧ n ≤ 9 ∧ M 3 p.toNat ≤ n) ∨ (0 ≤ p ∧ p < 16 ∧ 2 ≤ n ∧ n ≤ 9 ∧ M 3 p.toNat ≤ n) ∧ z = asF (M 3 p.toNat) 9 1 n))) := by
  refine Ct_of (lv := [(0, .ref (E.1 (0))), (1, .int (iI (p))), (2, .int (iI (n)))]) (by decide) ⟨rfl, rfl⟩ (Nat.le_of_ble_eq_true rfl) rfl (fun x _ B R => ?_)
  refine x_iload_n B dX7_asks_0 1 rfl rfl ?_
  refine x_bipush B dX7_asks_1 rfl ?_
  refine x_callS B (st := []) (av := [.int (iI (p)), .int (iI (16))]) dX7_asks_3 cs_X7_within kw_495 ⟨rfl, rfl, Nat.le_of_ble_eq_true rfl, Nat.le_of_ble_eq_true rfl⟩ rfl rfl (Nat.le_of_ble_eq_true rfl) (c_X7_within _ E _ p 16 (by omega) (by omega) (by omega) (by omega)) (k_i (fun z3 Mq hz3 => ?_))
  obtain ⟨rfl, hz3⟩ := hz3
  refine x_if_eq B (tgt := 33) dX7_asks_6 (by decide) ⟨by omega, by omega⟩ (fun c6 => ?_) (fun c6 => ?_)
  · show Vx x E M 33 [(0, .ref (E.1 (0))), (1, .int (iI (p))), (2, .int (iI (n)))] []
    refine x_iconst B dX7_asks_33 ?_
    exact r_i B R dX7_asks_34 (⟨rfl, Or.inl ⟨rfl, by omega⟩⟩)
  · show Vx x E M 9 [(0, .ref (E.1 (0))), (1, .int (iI (p))), (2, .int (iI (n)))] []
    refine x_iload_n B dX7_asks_9 2 rfl rfl ?_
    refine x_iconst B dX7_asks_10 ?_
    refine x_icmp_lt B (tgt := 33) dX7_asks_11 (by decide) ⟨by omega, by omega⟩ ⟨by omega, by omega⟩ (fun c11 => ?_) (fun c11 => ?_)
    · show Vx x E M 33 [(0, .ref (E.1 (0))), (1, .int (iI (p))), (2, .int (iI (n)))] []
      refine x_iconst B dX7_asks_33 ?_
      exact r_i B R dX7_asks_34 (⟨rfl, Or.inl ⟨rfl, by omega⟩⟩)
    · show Vx x E M 14 [(0, .ref (E.1 (0))), (1, .int (iI (p))), (2, .int (iI (n)))] []
      refine x_iload_n B dX7_asks_14 2 rfl rfl ?_
      refine x_bipush B dX7_asks_15 rfl ?_
      refine x_icmp_gt B (tgt := 33) dX7_asks_17 (by decide) ⟨by omega, by omega⟩ ⟨by omega, by omega⟩ (fun c17 => ?_) (fun c17 => ?_)
      · show Vx x E M 33 [(0, .ref (E.1 (0))), (1, .int (iI (p))), (2, .int (iI (n)))] []
        refine x_iconst B dX7_asks_33 ?_
        exact r_i B R dX7_asks_34 (⟨rfl, Or.inl ⟨rfl, by omega⟩⟩)
      · show Vx x E M 20 [(0, .ref (E.1 (0))), (1, .int (iI (p))), (2, .int (iI (n)))] []
        refine x_aload_n B dX7_asks_20 0 rfl rfl ?_
        refine x_getR B (ci := 7) (k := 0) dX7_asks_21 rfl rfl rfl (by decide) inGX7 kw_283 ?_
        refine x_getR B (ci := 1) (k := 1) dX7_asks_24 rfl rfl rfl (by decide) inGX1 kw_105 ?_
        refine x_iload_n B dX7_asks_27 1 rfl rfl ?_
        refine x_iald B (lo := 1) (hi := 9) dX7_asks_28 rfl (by omega) (by omega) rfl (fun z28 ez28 lz28 uz28 => ?_)
        have e28 := Is_e ez28
        refine x_iload_n B dX7_asks_29 2 rfl rfl ?_
        refine x_icmp_le B (tgt := 35) dX7_asks_30 (by decide) ⟨by omega, by omega⟩ ⟨by omega, by omega⟩ (fun c30 => ?_) (fun c30 => ?_)
        · show Vx x E M 35 [(0, .ref (E.1 (0))), (1, .int (iI (p))), (2, .int (iI (n)))] []
          refine x_iconst B dX7_asks_35 ?_
          refine x_istore_n B dX7_asks_36 [1, 2, 3, 0] rfl (by decide) (lv' := [(0, .ref (E.1 (0))), (1, .int (iI (p))), (2, .int (iI (n))), (3, .int (iI (1)))]) rfl ?_
          refine x_iload_n B dX7_asks_37 2 rfl rfl ?_
          refine x_istore B dX7_asks_38 [1, 2, 3, 4, 0] (by decide) (lv' := [(0, .ref (E.1 (0))), (1, .int (iI (p))), (2, .int (iI (n))), (3, .int (iI (1))), (4, .int (iI (n)))]) rfl ?_
          refine x_iconst B dX7_asks_40 ?_
          refine x_istore B dX7_asks_41 [1, 2, 3, 4, 5, 0] (by decide) (lv' := [(0, .ref (E.1 (0))), (1, .int (iI (p))), (2, .int (iI (n))), (3, .int (iI (1))), (4, .int (iI (n))), (5, .int (iI (0)))]) rfl ?_
          refine x_iconst B dX7_asks_43 ?_
          refine x_istore B dX7_asks_44 [1, 2, 3, 4, 5, 6, 0] (by decide) (lv' := [(0, .ref (E.1 (0))), (1, .int (iI (p))), (2, .int (iI (n))), (3, .int (iI (1))), (4, .int (iI (n))), (5, .int (iI (0))), (6, .int (iI (0)))]) rfl ?_
          have L46 : ∀ (lo : Int) (hi : Int) (q : Int) (i : Int), (0 ≤ i ∧ i ≤ n ∧ 1 ≤ lo ∧ hi ≤ 9 ∧ lo ≤ hi + 1 ∧ (hi - lo ≤ n - 1 - i) ∧ 0 ≤ q ∧ q ≤ i ∧ Is (q + asF (M 3 p.toNat) 9 lo hi) (asF (M 3 p.toNat) 9 1 n)) → Vx x E M 46 [(0, .ref (E.1 (0))), (1, .int (iI (p))), (2, .int (iI (n))), (3, .int (iI (lo))), (4, .int (iI (hi))), (5, .int (iI (q))), (6, .int (iI (i)))] [] := by
            refine lo4 _ _ (fun lo hi q i => (n - i).toNat) ?_
            intro lo hi q i hI ih46
            obtain ⟨i1, i2, i3, i4, i5, i6, i7, i8, i9⟩ := hI
            refine x_iload B dX7_asks_46 6 rfl ?_
            refine x_iload_n B dX7_asks_48 2 rfl rfl ?_
            refine x_icmp_ge B (tgt := 101) dX7_asks_49 (by decide) ⟨by omega, by omega⟩ ⟨by omega, by omega⟩ (fun c49 => ?_) (fun c49 => ?_)
            · show Vx x E M 101 [(0, .ref (E.1 (0))), (1, .int (iI (p))), (2, .int (iI (n))), (3, .int (iI (lo))), (4, .int (iI (hi))), (5, .int (iI (q))), (6, .int (iI (i)))] []
              refine x_iload B dX7_asks_101 5 rfl ?_
              exact r_i B R dX7_asks_103 (⟨rfl, Or.inr ⟨by omega, by rw [← Is_e i9, asF_done (by omega)]; omega⟩⟩)
            · show Vx x E M 52 [(0, .ref (E.1 (0))), (1, .int (iI (p))), (2, .int (iI (n))), (3, .int (iI (lo))), (4, .int (iI (hi))), (5, .int (iI (q))), (6, .int (iI (i)))] []
              refine x_iload_n B dX7_asks_52 3 rfl rfl ?_
              refine x_iload B dX7_asks_53 4 rfl ?_
              refine x_icmp_ge B (tgt := 101) dX7_asks_55 (by decide) ⟨by omega, by omega⟩ ⟨by omega, by omega⟩ (fun c55 => ?_) (fun c55 => ?_)
              · show Vx x E M 101 [(0, .ref (E.1 (0))), (1, .int (iI (p))), (2, .int (iI (n))), (3, .int (iI (lo))), (4, .int (iI (hi))), (5, .int (iI (q))), (6, .int (iI (i)))] []
                refine x_iload B dX7_asks_101 5 rfl ?_
                exact r_i B R dX7_asks_103 (⟨rfl, Or.inr ⟨by omega, by rw [← Is_e i9, asF_done (by omega)]; omega⟩⟩)
              · show Vx x E M 58 [(0, .ref (E.1 (0))), (1, .int (iI (p))), (2, .int (iI (n))), (3, .int (iI (lo))), (4, .int (iI (hi))), (5, .int (iI (q))), (6, .int (iI (i)))] []
                refine x_iload_n B dX7_asks_58 3 rfl rfl ?_
                refine x_iload B dX7_asks_59 4 rfl ?_
                refine x_iadd B dX7_asks_61 ?_
                refine x_iconst B dX7_asks_62 ?_
                refine x_idiv B dX7_asks_63 ⟨by omega, by omega⟩ (by omega) ⟨by omega, by omega⟩ (by omega) ?_
                refine x_istore B dX7_asks_64 [1, 2, 3, 4, 5, 6, 7, 0] (by decide) (lv' := [(0, .ref (E.1 (0))), (1, .int (iI (p))), (2, .int (iI (n))), (3, .int (iI (lo))), (4, .int (iI (hi))), (5, .int (iI (q))), (6, .int (iI (i))), (7, .int (iI ((lo + hi) / 2)))]) rfl ?_
                refine x_iload B dX7_asks_66 7 rfl ?_
                refine x_aload_n B dX7_asks_68 0 rfl rfl ?_
                refine x_getR B (ci := 7) (k := 0) dX7_asks_69 rfl rfl rfl (by decide) inGX7 kw_283 ?_
                refine x_getR B (ci := 1) (k := 1) dX7_asks_72 rfl rfl rfl (by decide) inGX1 kw_105 ?_
                refine x_iload_n B dX7_asks_75 1 rfl rfl ?_
                refine x_iald B (lo := 1) (hi := 9) dX7_asks_76 rfl (by omega) (by omega) rfl (fun z76 ez76 lz76 uz76 => ?_)
                have e76 := Is_e ez76
                refine x_icmp_lt B (tgt := 87) dX7_asks_77 (by decide) ⟨by omega, by omega⟩ ⟨by omega, by omega⟩ (fun c77 => ?_) (fun c77 => ?_)
                · show Vx x E M 87 [(0, .ref (E.1 (0))), (1, .int (iI (p))), (2, .int (iI (n))), (3, .int (iI (lo))), (4, .int (iI (hi))), (5, .int (iI (q))), (6, .int (iI (i))), (7, .int (iI ((lo + hi) / 2)))] []
                  refine x_iload B dX7_asks_87 7 rfl ?_
                  refine x_iconst B dX7_asks_89 ?_
                  refine x_iadd B dX7_asks_90 ?_
                  refine x_istore_n B dX7_asks_91 [1, 2, 3, 0, 4, 5, 6, 7] rfl (by decide) (lv' := [(0, .ref (E.1 (0))), (1, .int (iI (p))), (2, .int (iI (n))), (3, .int (iI (((lo + hi) / 2) + 1))), (4, .int (iI (hi))), (5, .int (iI (q))), (6, .int (iI (i))), (7, .int (iI ((lo + hi) / 2)))]) rfl ?_
                  refine x_iinc B (q := 5) dX7_asks_92 rfl [1, 2, 3, 4, 5, 0, 6, 7] (by decide) (lv' := [(0, .ref (E.1 (0))), (1, .int (iI (p))), (2, .int (iI (n))), (3, .int (iI (((lo + hi) / 2) + 1))), (4, .int (iI (hi))), (5, .int (iI (q + 1))), (6, .int (iI (i))), (7, .int (iI ((lo + hi) / 2)))]) rfl ?_
                  refine x_iinc B (q := 6) dX7_asks_95 rfl [1, 2, 3, 4, 5, 6, 0, 7] (by decide) (lv' := [(0, .ref (E.1 (0))), (1, .int (iI (p))), (2, .int (iI (n))), (3, .int (iI (((lo + hi) / 2) + 1))), (4, .int (iI (hi))), (5, .int (iI (q + 1))), (6, .int (iI (i + 1))), (7, .int (iI ((lo + hi) / 2)))]) rfl ?_
                  refine x_goto B (tgt := 46) dX7_asks_98 (by decide) ?_
                  refine x_lv [0, 1, 2, 3, 4, 5, 6] (lv' := [(0, .ref (E.1 (0))), (1, .int (iI (p))), (2, .int (iI (n))), (3, .int (iI (((lo + hi) / 2) + 1))), (4, .int (iI (hi))), (5, .int (iI (q + 1))), (6, .int (iI (i + 1)))]) rfl ?_
                  exact ih46 (((lo + hi) / 2) + 1) hi (q + 1) (i + 1) (⟨by omega, by omega, by omega, by omega, by omega, by omega, by omega, by omega, by show _ = _; rw [← Is_e i9, asF_9 (lo := lo) (hi := hi) (by omega) (by omega), if_neg (by omega)]; omega⟩) (by omega)
                · show Vx x E M 80 [(0, .ref (E.1 (0))), (1, .int (iI (p))), (2, .int (iI (n))), (3, .int (iI (lo))), (4, .int (iI (hi))), (5, .int (iI (q))), (6, .int (iI (i))), (7, .int (iI ((lo + hi) / 2)))] []
                  refine x_iload B dX7_asks_80 7 rfl ?_
                  refine x_istore B dX7_asks_82 [1, 2, 3, 4, 0, 5, 6, 7] (by decide) (lv' := [(0, .ref (E.1 (0))), (1, .int (iI (p))), (2, .int (iI (n))), (3, .int (iI (lo))), (4, .int (iI ((lo + hi) / 2))), (5, .int (iI (q))), (6, .int (iI (i))), (7, .int (iI ((lo + hi) / 2)))]) rfl ?_
                  refine x_goto B (tgt := 92) dX7_asks_84 (by decide) ?_
                  refine x_iinc B (q := 5) dX7_asks_92 rfl [1, 2, 3, 4, 5, 0, 6, 7] (by decide) (lv' := [(0, .ref (E.1 (0))), (1, .int (iI (p))), (2, .int (iI (n))), (3, .int (iI (lo))), (4, .int (iI ((lo + hi) / 2))), (5, .int (iI (q + 1))), (6, .int (iI (i))), (7, .int (iI ((lo + hi) / 2)))]) rfl ?_
                  refine x_iinc B (q := 6) dX7_asks_95 rfl [1, 2, 3, 4, 5, 6, 0, 7] (by decide) (lv' := [(0, .ref (E.1 (0))), (1, .int (iI (p))), (2, .int (iI (n))), (3, .int (iI (lo))), (4, .int (iI ((lo + hi) / 2))), (5, .int (iI (q + 1))), (6, .int (iI (i + 1))), (7, .int (iI ((lo + hi) / 2)))]) rfl ?_
                  refine x_goto B (tgt := 46) dX7_asks_98 (by decide) ?_
                  refine x_lv [0, 1, 2, 3, 4, 5, 6] (lv' := [(0, .ref (E.1 (0))), (1, .int (iI (p))), (2, .int (iI (n))), (3, .int (iI (lo))), (4, .int (iI ((lo + hi) / 2))), (5, .int (iI (q + 1))), (6, .int (iI (i + 1)))]) rfl ?_
                  exact ih46 lo ((lo + hi) / 2) (q + 1) (i + 1) (⟨by omega, by omega, by omega, by omega, by omega, by omega, by omega, by omega, by show _ = _; rw [← Is_e i9, asF_9 (lo := lo) (hi := hi) (by omega) (by omega), if_pos (by omega)]; omega⟩) (by omega)
          exact L46 1 n 0 0 (⟨by omega, by omega, by omega, by omega, by omega, by omega, by omega, by omega, by show _ = _; omega⟩)
        · show Vx x E M 33 [(0, .ref (E.1 (0))), (1, .int (iI (p))), (2, .int (iI (n)))] []
          refine x_iconst B dX7_asks_33 ?_
          exact r_i B R dX7_asks_34 (⟨rfl, Or.inl ⟨rfl, by omega⟩⟩)
