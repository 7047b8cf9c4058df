/-! ===== what a SCENE's frame holds, in the class ===== -/
def haC (M : Mem) (sc pl : Int) : Nat → Int := picH (M 12) (64 * sc) pl
def shC (M : Mem) (sc pl : Int) : Nat → Int := picS (M 12) (M 2) (64 * sc) pl
def feC (M : Mem) (sc pl : Int) : Nat → Int := picF (M 12) (M 2) (M 3) (M 13) (64 * sc) pl
def huC (M : Mem) (sc pl : Int) : Nat := picU (M 12) (M 2) (M 3) (M 13) (64 * sc) pl
theorem seeP_C {M M' : Mem} {f : Nat} {sc pl : Int} (h : seeP M M' f (64 * sc) pl 1 13) : offC M M' (16 + 5 * f) (16 + 5 * f + 5) ∧ eqF (M' (16 + 5 * f + 1)) (haC M sc pl) ∧ eqF (M' (16 + 5 * f + 2)) (shC M sc pl) ∧ eqF (M' (16 + 5 * f + 3)) (feC M sc pl) ∧ M' (16 + 5 * f) 3 = ((huC M sc pl : Nat) : Int) := h
theorem feC_off {M M' : Mem} {a b : Nat} (h : offC M M' a b) (ha : 16 ≤ a) : feC M' = feC M := by
  funext sc pl
  unfold feC
  rw [offC_f h (i := 12) (by omega), offC_f h (i := 2) (by omega), offC_f h (i := 3) (by omega), offC_f h (i := 13) (by omega)]
theorem shC_off {M M' : Mem} {a b : Nat} (h : offC M M' a b) (ha : 16 ≤ a) : shC M' = shC M := by
  funext sc pl
  unfold shC
  rw [offC_f h (i := 12) (by omega), offC_f h (i := 2) (by omega)]
theorem fs_eq {M M3 M9 : Mem} {a b pl : Int} (a0 : 0 ≤ a) (b0 : 0 ≤ b) (h3 : seeP M M3 (a.toNat + 1) (64 * a) pl 1 13) (h9 : seeP M3 M9 (b.toNat + 1) (64 * b) pl 1 13) : eqF (M9 (16 + 5 * (a.toNat + 1) + 3)) (feC M a pl) ∧ eqF (M9 (16 + 5 * (b.toNat + 1) + 3)) (feC M b pl) := by
  obtain ⟨p1, -, -, p4, -⟩ := seeP_C h3
  obtain ⟨q1, -, -, q4, -⟩ := seeP_C h9
  have e : feC M3 = feC M := feC_off p1 (by omega)
  rw [e] at q4
  refine ⟨?_, q4⟩
  by_cases hab : a = b
  · rw [hab]; exact q4
  · rw [offC_f q1 (by omega)]
    exact p4
def lkM (M : Mem) (a : Nat) (b : Nat) : Bool := eqB (M (16 + 5 * (a + 1) + 3)) (M (16 + 5 * (b + 1) + 3))
def alC (M : Mem) (a b pl : Int) : Bool := eqB (feC M a pl) (feC M b pl)
def lkS (M : Mem) (a pl : Int) : Nat := bK (fun b => alC M a (b : Int) pl) 6
def LkOK (M : Mem) : Prop := ∀ pl : Nat, pl < 26 → (M 51 1).toNat.testBit pl = true → ∀ a : Nat, a < 6 → M 52 (6 * pl + a) = ((lkS M (a : Int) (pl : Int) : Nat) : Int)
theorem or26 {a p : Int} (a0 : 0 ≤ a) (a1 : a ≤ 67108863) (p0 : 0 ≤ p) (p1 : p ≤ 25) : (0 : Int) ≤ ((a.toNat ||| ((2 ^ p.toNat : Nat) : Int).toNat : Nat) : Int) ∧ ((a.toNat ||| ((2 ^ p.toNat : Nat) : Int).toNat : Nat) : Int) ≤ 67108863 := by
  refine ⟨Int.natCast_nonneg _, ?_⟩
  rw [Int.toNat_natCast]
  have e : (2 : Nat) ^ 26 = 67108864 := by decide
  have h1 : a.toNat < 2 ^ 26 := by omega
  have h2 : 2 ^ p.toNat < 2 ^ 26 := Nat.pow_lt_pow_right (by omega) (by omega)
  have h3 := or_lt h1 h2
  omega
abbrev rm_X7_seen : Room := { frames := 4, cells := 0, slots := 0, locals := 93 }
theorem cs_X7_seen : Cv yX7_seen cX7_seen 4 (some (.object "TongueSight$Frame")) 2 := ⟨kw_528, ⟨kw_527, kw_13⟩, kw_57, by decide, by decide, by decide +kernel⟩
set_option maxHeartbeats 4000000 in
set_option maxRecDepth 100000 in
theorem c_X7_seen (l : Launch) (E : Ev) (M : Mem) (sc pl : Int) (g1 : 0 ≤ sc) (g2 : sc < 6) (g3 : 0 ≤ pl) (g4 : pl ≤ 25) : Ct l yX7_seen cX7_seen 4 (some (.object "TongueSight$Frame")) rm_X7_seen E M [.ref (E.1 (0)), .int (iI (sc)), .int (iI (pl))] (pR (fun a M' => a = E.1 (16 + 5 * (sc.toNat + 1)) ∧ seeP M M' (sc.toNat + 1) (64 * sc) pl 1 13)) := by
  refine Ct_of (lv := [(0, .ref (E.1 (0))), (1, .int (iI (sc))), (2, .int (iI (pl)))]) (by decide) ⟨rfl, rfl⟩ (Nat.le_of_ble_eq_true rfl) rfl (fun x _ B R => ?_)
  refine x_aload_n B dX7_seen_0 0 rfl rfl ?_
  refine x_getR B (ci := 7) (k := 6) dX7_seen_1 rfl rfl rfl (by decide) inGX7 kw_289 ?_
  refine x_iload_n B dX7_seen_4 1 rfl rfl ?_
  refine x_aald B dX7_seen_5 (k := 2) rfl (by decide) (by decide) rfl (by omega) (by omega) (fr_get (by omega) (by omega)) ?_
  refine x_astore_n B dX7_seen_6 [1, 2, 3, 0] rfl (by decide) (lv' := [(0, .ref (E.1 (0))), (1, .int (iI (sc))), (2, .int (iI (pl))), (3, .ref (E.1 ((16 + 5 * ((sc).toNat + 1)))))]) rfl ?_
  refine x_aload_n B dX7_seen_7 3 rfl rfl ?_
  refine x_aload_n B dX7_seen_8 0 rfl rfl ?_
  refine x_getR B (ci := 7) (k := 3) dX7_seen_9 rfl rfl rfl (by decide) inGX7 kw_286 ?_
  refine x_iload_n B dX7_seen_12 1 rfl rfl ?_
  refine x_iload_n B dX7_seen_13 2 rfl rfl ?_
  refine x_aload_n B dX7_seen_14 0 rfl rfl ?_
  refine x_getR B (ci := 7) (k := 0) dX7_seen_15 rfl rfl rfl (by decide) inGX7 kw_283 ?_
  refine x_aload_n B dX7_seen_18 0 rfl rfl ?_
  refine x_getR B (ci := 7) (k := 4) dX7_seen_19 rfl rfl rfl (by decide) inGX7 kw_287 ?_
  refine x_callV B (st := []) (av := [.ref (E.1 (12)), .int (iI (sc)), .int (iI (pl)), .ref (E.1 (1)), .ref (E.1 (13))]) dX7_seen_22 cs_X0_see kw_529 ⟨rfl, rfl, Nat.le_of_ble_eq_true rfl, Nat.le_of_ble_eq_true rfl⟩ rfl rfl (Nat.le_of_ble_eq_true rfl) (rc_obj B (ci := 0) (tF_o ((sc).toNat + 1) (by omega)) rfl rfl) (c_X0_see _ E _ ((sc).toNat + 1) sc pl 1 13 (by omega) (by omega) (by omega) (by omega) (by omega) (by first | assumption | omega) (by first | assumption | omega)) (k_v (fun M22 hz22 => ?_))
  refine x_aload_n B dX7_seen_25 3 rfl rfl ?_
  exact r_r B R dX7_seen_26 (⟨rfl, hz22⟩)
abbrev rm_X7_seenAfter : Room := { frames := 4, cells := 0, slots := 0, locals := 93 }
theorem cs_X7_seenAfter : Cv yX7_seenAfter cX7_seenAfter 3 (some (.object "TongueSight$Frame")) 2 := ⟨kw_692, ⟨kw_691, kw_27⟩, kw_57, by decide, by decide, by decide +kernel⟩
set_option maxHeartbeats 4000000 in
set_option maxRecDepth 100000 in
theorem c_X7_seenAfter (l : Launch) (E : Ev) (M : Mem) (sc m : Int) (g1 : 0 ≤ sc) (g2 : sc < 6) (g3 : 0 ≤ m) (g4 : m ≤ 5) : Ct l yX7_seenAfter cX7_seenAfter 3 (some (.object "TongueSight$Frame")) rm_X7_seenAfter E M [.ref (E.1 (0)), .int (iI (sc)), .int (iI (m))] (pR (fun a M' => a = E.1 16 ∧ seeP M M' 0 (64 * sc) (mvT (M 0 12) m) 1 13)) := by
  refine Ct_of (lv := [(0, .ref (E.1 (0))), (1, .int (iI (sc))), (2, .int (iI (m)))]) (by decide) ⟨rfl, rfl⟩ (Nat.le_of_ble_eq_true rfl) rfl (fun x _ B R => ?_)
  refine x_aload_n B dX7_seenAfter_0 0 rfl rfl ?_
  refine x_getR B (ci := 7) (k := 7) dX7_seenAfter_1 rfl rfl rfl (by decide) inGX7 kw_290 ?_
  refine x_aload_n B dX7_seenAfter_4 0 rfl rfl ?_
  refine x_getR B (ci := 7) (k := 3) dX7_seenAfter_5 rfl rfl rfl (by decide) inGX7 kw_286 ?_
  refine x_iload_n B dX7_seenAfter_8 1 rfl rfl ?_
  refine x_aload_n B dX7_seenAfter_9 0 rfl rfl ?_
  refine x_getI B (ci := 7) (k := 12) (lo := 0) (hi := 25) dX7_seenAfter_10 rfl rfl rfl (by decide) inGX7 kw_295 rfl (fun z10 ez10 lz10 uz10 => ?_)
  refine x_iload_n B dX7_seenAfter_13 2 rfl rfl ?_
  refine x_callS B (st := [.int (iI (sc)), .ref (E.1 (12)), .ref (E.1 (16))]) (av := [.int (iI (z10)), .int (iI (m))]) dX7_seenAfter_14 cs_X7_placeAfter kw_518 ⟨rfl, rfl, Nat.le_of_ble_eq_true rfl, Nat.le_of_ble_eq_true rfl⟩ rfl rfl (Nat.le_of_ble_eq_true rfl) (c_X7_placeAfter _ E _ z10 m (by omega) (by omega) (by omega) (by omega)) (k_i (fun z14 Mq hz14 => ?_))
  obtain ⟨rfl, hz14⟩ := hz14
  subst hz14
  have hmv := mvT_in (p := z10) (m := m) (by omega) (by omega)
  refine x_aload_n B dX7_seenAfter_17 0 rfl rfl ?_
  refine x_getR B (ci := 7) (k := 0) dX7_seenAfter_18 rfl rfl rfl (by decide) inGX7 kw_283 ?_
  refine x_aload_n B dX7_seenAfter_21 0 rfl rfl ?_
  refine x_getR B (ci := 7) (k := 4) dX7_seenAfter_22 rfl rfl rfl (by decide) inGX7 kw_287 ?_
  refine x_callV B (st := []) (av := [.ref (E.1 (12)), .int (iI (sc)), .int (iI (mvT z10 m)), .ref (E.1 (1)), .ref (E.1 (13))]) dX7_seenAfter_25 cs_X0_see kw_529 ⟨rfl, rfl, Nat.le_of_ble_eq_true rfl, Nat.le_of_ble_eq_true rfl⟩ rfl rfl (Nat.le_of_ble_eq_true rfl) (rc_obj B (ci := 0) rfl rfl rfl) (c_X0_see _ E _ 0 sc (mvT z10 m) 1 13 (by omega) (by omega) (by omega) (by omega) (by omega) (by first | assumption | omega) (by first | assumption | omega)) (k_v (fun M25 hz25 => ?_))
  refine x_aload_n B dX7_seenAfter_28 0 rfl rfl ?_
  refine x_getR B (ci := 7) (k := 7) dX7_seenAfter_29 rfl rfl rfl (by decide) inGX7 kw_290 ?_
  exact r_r B R dX7_seenAfter_32 (⟨rfl, by rw [← Is_e ez10]; exact hz25⟩)
abbrev rm_X7_feelSame : Room := { frames := 5, cells := 0, slots := 0, locals := 116 }
theorem cs_X7_feelSame : Cv yX7_feelSame cX7_feelSame 4 (some .boolean) 3 := ⟨kw_612, ⟨kw_611, kw_21⟩, kw_57, by decide, by decide, by decide +kernel⟩
set_option maxHeartbeats 4000000 in
set_option maxRecDepth 100000 in
theorem c_X7_feelSame (l : Launch) (E : Ev) (M : Mem) (a b pl : Int) (g1 : 0 ≤ a) (g2 : a < 6) (g3 : 0 ≤ b) (g4 : b < 6) (g5 : 0 ≤ pl) (g6 : pl ≤ 25) : Ct l yX7_feelSame cX7_feelSame 4 (some .boolean) rm_X7_feelSame E M [.ref (E.1 (0)), .int (iI (a)), .int (iI (b)), .int (iI (pl))] (pI (fun z M' => offC M M' 21 51 ∧ (z = 1 ∧ eqF (feC M a pl) (feC M b pl) ∨ z = 0 ∧ ¬ eqF (feC M a pl) (feC M b pl)))) := by
  refine Ct_of (lv := [(0, .ref (E.1 (0))), (1, .int (iI (a))), (2, .int (iI (b))), (3, .int (iI (pl)))]) (by decide) ⟨rfl, rfl⟩ (Nat.le_of_ble_eq_true rfl) rfl (fun x _ B R => ?_)
  refine x_aload_n B dX7_feelSame_0 0 rfl rfl ?_
  refine x_iload_n B dX7_feelSame_1 1 rfl rfl ?_
  refine x_iload_n B dX7_feelSame_2 3 rfl rfl ?_
  refine x_callV B (st := []) (av := [.int (iI (a)), .int (iI (pl))]) dX7_feelSame_3 cs_X7_seen kw_525 ⟨rfl, rfl, Nat.le_of_ble_eq_true rfl, Nat.le_of_ble_eq_true rfl⟩ rfl rfl (Nat.le_of_ble_eq_true rfl) (rc_obj B (ci := 7) rfl rfl rfl) (c_X7_seen _ E _ a pl (by omega) (by omega) (by omega) (by omega)) (k_r (fun az3 M3 hz3 => ?_))
  obtain ⟨rfl, hz3⟩ := hz3
  refine x_aload_n B dX7_feelSame_6 0 rfl rfl ?_
  refine x_iload_n B dX7_feelSame_7 2 rfl rfl ?_
  refine x_iload_n B dX7_feelSame_8 3 rfl rfl ?_
  refine x_callV B (st := [.ref (E.1 ((16 + 5 * ((a).toNat + 1))))]) (av := [.int (iI (b)), .int (iI (pl))]) dX7_feelSame_9 cs_X7_seen kw_525 ⟨rfl, rfl, Nat.le_of_ble_eq_true rfl, Nat.le_of_ble_eq_true rfl⟩ rfl rfl (Nat.le_of_ble_eq_true rfl) (rc_obj B (ci := 7) rfl rfl rfl) (c_X7_seen _ E _ b pl (by omega) (by omega) (by omega) (by omega)) (k_r (fun az9 M9 hz9 => ?_))
  obtain ⟨rfl, hz9⟩ := hz9
  have hfs := fs_eq (by omega) (by omega) hz3 hz9
  have hof : offC M M9 21 51 := offC_tr (offC_w hz3.1 (by omega) (by omega)) (offC_w hz9.1 (by omega) (by omega))
  refine x_callV B (st := []) (av := [.ref (E.1 ((16 + 5 * ((b).toNat + 1))))]) dX7_feelSame_12 cs_X0_feelsAs kw_613 ⟨rfl, rfl, Nat.le_of_ble_eq_true rfl, Nat.le_of_ble_eq_true rfl⟩ rfl rfl (Nat.le_of_ble_eq_true rfl) (rc_obj B (ci := 0) (tF_o ((a).toNat + 1) (by omega)) rfl rfl) (c_X0_feelsAs _ E _ ((a).toNat + 1) ((b).toNat + 1) (by omega) (by omega)) (k_i (fun z12 Mq hz12 => ?_))
  obtain ⟨rfl, hz12⟩ := hz12
  exact r_z B R dX7_feelSame_15 (by omega) (by omega) (⟨hof, by rcases hz12 with ⟨h5, h6⟩ | ⟨h5, h6⟩; exact Or.inl ⟨h5, eqF_tr (eqF_sy hfs.1) (eqF_tr h6 hfs.2)⟩; exact Or.inr ⟨h5, fun q => h6 (eqF_tr hfs.1 (eqF_tr q (eqF_sy hfs.2)))⟩⟩)
abbrev rm_X7_placesAlike : Room := { frames := 6, cells := 0, slots := 0, locals := 139 }
theorem cs_X7_placesAlike : Cv yX7_placesAlike cX7_placesAlike 5 (some .int) 2 := ⟨kw_624, ⟨kw_623, kw_22⟩, kw_57, by decide, by decide, by decide +kernel⟩
set_option maxHeartbeats 4000000 in
set_option maxRecDepth 100000 in
theorem c_X7_placesAlike (l : Launch) (E : Ev) (M : Mem) (a b : Int) (g1 : 0 ≤ a) (g2 : a < 6) (g3 : 0 ≤ b) (g4 : b < 6) : Ct l yX7_placesAlike cX7_placesAlike 5 (some .int) rm_X7_placesAlike E M [.ref (E.1 (0)), .int (iI (a)), .int (iI (b))] (pI (fun z M' => offC M M' 16 57 ∧ z = ((bK (fun q => alC M a b (q : Int)) 26 : Nat) : Int) ∧ 0 ≤ z ∧ z ≤ 67108863)) := by
  refine Ct_of (lv := [(0, .ref (E.1 (0))), (1, .int (iI (a))), (2, .int (iI (b)))]) (by decide) ⟨rfl, rfl⟩ (Nat.le_of_ble_eq_true rfl) rfl (fun x _ B R => ?_)
  refine x_iconst B dX7_placesAlike_0 ?_
  refine x_istore_n B dX7_placesAlike_1 [1, 2, 3, 0] rfl (by decide) (lv' := [(0, .ref (E.1 (0))), (1, .int (iI (a))), (2, .int (iI (b))), (3, .int (iI (0)))]) rfl ?_
  refine x_iconst B dX7_placesAlike_2 ?_
  refine x_istore B dX7_placesAlike_3 [1, 2, 3, 4, 0] (by decide) (lv' := [(0, .ref (E.1 (0))), (1, .int (iI (a))), (2, .int (iI (b))), (3, .int (iI (0))), (4, .int (iI (0)))]) rfl ?_
  have L5 : ∀ (s : Int) (k : Int) (M1 : Mem), (0 ≤ k ∧ k ≤ 26 ∧ 0 ≤ s ∧ offC M M1 16 57 ∧ Is s ((bK (fun q => alC M a b (q : Int)) k.toNat : Nat) : Int)) → Vx x E M1 5 [(0, .ref (E.1 (0))), (1, .int (iI (a))), (2, .int (iI (b))), (3, .int (iI (s))), (4, .int (iI (k)))] [] := by
    refine lo3 _ _ (fun s k M1 => (26 - k).toNat) ?_
    intro s k M1 hI ih5
    obtain ⟨i1, i2, i3, i4, i5⟩ := hI
    refine x_iload B dX7_placesAlike_5 4 rfl ?_
    refine x_bipush B dX7_placesAlike_7 rfl ?_
    refine x_icmp_ge B (tgt := 36) dX7_placesAlike_9 (by decide) ⟨by omega, by omega⟩ ⟨by omega, by omega⟩ (fun c9 => ?_) (fun c9 => ?_)
    · show Vx x E M1 36 [(0, .ref (E.1 (0))), (1, .int (iI (a))), (2, .int (iI (b))), (3, .int (iI (s))), (4, .int (iI (k)))] []
      refine x_iload_n B dX7_placesAlike_36 3 rfl rfl ?_
      exact r_i B R dX7_placesAlike_37 (by have e := Is_e i5; rw [show k.toNat = 26 by omega] at e; have b := bK_le26 (fun q => alC M a b (q : Int)); exact ⟨i4, e, by omega, by omega⟩)
    · show Vx x E M1 12 [(0, .ref (E.1 (0))), (1, .int (iI (a))), (2, .int (iI (b))), (3, .int (iI (s))), (4, .int (iI (k)))] []
      refine x_aload_n B dX7_placesAlike_12 0 rfl rfl ?_
      refine x_iload_n B dX7_placesAlike_13 1 rfl rfl ?_
      refine x_iload_n B dX7_placesAlike_14 2 rfl rfl ?_
      refine x_iload B dX7_placesAlike_15 4 rfl ?_
      refine x_callV B (st := []) (av := [.int (iI (a)), .int (iI (b)), .int (iI (k))]) dX7_placesAlike_17 cs_X7_feelSame kw_609 ⟨rfl, rfl, Nat.le_of_ble_eq_true rfl, Nat.le_of_ble_eq_true rfl⟩ rfl rfl (Nat.le_of_ble_eq_true rfl) (rc_obj B (ci := 7) rfl rfl rfl) (c_X7_feelSame _ E _ a b k (by omega) (by omega) (by omega) (by omega) (by omega) (by omega)) (k_i (fun z17 M17 hz17 => ?_))
      rw [feC_off i4 (by omega)] at hz17
      refine x_if_eq B (tgt := 30) dX7_placesAlike_20 (by decide) ⟨by omega, by omega⟩ (fun c20 => ?_) (fun c20 => ?_)
      · show Vx x E M17 30 [(0, .ref (E.1 (0))), (1, .int (iI (a))), (2, .int (iI (b))), (3, .int (iI (s))), (4, .int (iI (k)))] []
        refine x_iinc B (q := 4) dX7_placesAlike_30 rfl [1, 2, 3, 4, 0] (by decide) (lv' := [(0, .ref (E.1 (0))), (1, .int (iI (a))), (2, .int (iI (b))), (3, .int (iI (s))), (4, .int (iI (k + 1)))]) rfl ?_
        refine x_goto B (tgt := 5) dX7_placesAlike_33 (by decide) ?_
        exact ih5 s (k + 1) M17 (⟨by omega, by omega, i3, offC_tr i4 (offC_w hz17.1 (by omega) (by omega)), bK_f i1 (by show ¬ eqB (feC M a ((k.toNat : Nat) : Int)) _ = true; rw [Int.toNat_of_nonneg i1]; exact eqB_no (by rcases hz17.2 with ⟨h5, h6⟩ | ⟨h5, h6⟩ <;> first | omega | exact h6)) i5⟩) (by omega)
      · show Vx x E M17 23 [(0, .ref (E.1 (0))), (1, .int (iI (a))), (2, .int (iI (b))), (3, .int (iI (s))), (4, .int (iI (k)))] []
        refine x_iload_n B dX7_placesAlike_23 3 rfl rfl ?_
        refine x_iconst B dX7_placesAlike_24 ?_
        refine x_iload B dX7_placesAlike_25 4 rfl ?_
        refine x_shl1 B dX7_placesAlike_27 (by omega) (by omega) ?_
        refine x_ior B dX7_placesAlike_28 (by omega) (Int.natCast_nonneg _) ?_
        refine x_istore_n B dX7_placesAlike_29 [1, 2, 3, 0, 4] rfl (by decide) (lv' := [(0, .ref (E.1 (0))), (1, .int (iI (a))), (2, .int (iI (b))), (3, .int (iI ((((s).toNat ||| (((2 ^ (k).toNat : Nat) : Int)).toNat : Nat) : Int)))), (4, .int (iI (k)))]) rfl ?_
        refine x_iinc B (q := 4) dX7_placesAlike_30 rfl [1, 2, 3, 4, 0] (by decide) (lv' := [(0, .ref (E.1 (0))), (1, .int (iI (a))), (2, .int (iI (b))), (3, .int (iI ((((s).toNat ||| (((2 ^ (k).toNat : Nat) : Int)).toNat : Nat) : Int)))), (4, .int (iI (k + 1)))]) rfl ?_
        refine x_goto B (tgt := 5) dX7_placesAlike_33 (by decide) ?_
        exact ih5 (((s).toNat ||| (((2 ^ (k).toNat : Nat) : Int)).toNat : Nat) : Int) (k + 1) M17 (⟨by omega, by omega, Int.natCast_nonneg _, offC_tr i4 (offC_w hz17.1 (by omega) (by omega)), bK_t i1 (by show eqB (feC M a ((k.toNat : Nat) : Int)) _ = true; rw [Int.toNat_of_nonneg i1]; exact eqB_iff.mpr (by rcases hz17.2 with ⟨h5, h6⟩ | ⟨h5, h6⟩ <;> first | omega | exact h6)) i5⟩) (by omega)
  exact L5 0 0 M (⟨by omega, by omega, by omega, offC_rf, rfl⟩)
abbrev rm_X2_compare : Room := { frames := 1, cells := 0, slots := 0, locals := 22 }
theorem cs_X2_compare : Cv yX2_compare cX2_compare 6 none 2 := ⟨kw_666, ⟨kw_664, kw_665⟩, kw_63, by decide, by decide, by decide +kernel⟩
set_option maxHeartbeats 4000000 in
set_option maxRecDepth 100000 in
theorem c_X2_compare (l : Launch) (E : Ev) (M : Mem) (pl : Int) (g1 : 0 ≤ pl) (g2 : pl ≤ 25) : Ct l yX2_compare cX2_compare 6 none rm_X2_compare E M [.ref (E.1 (51)), .int (iI (pl)), .ref (E.1 (15))] (pV (fun M' => offC M M' 51 53 ∧ M' 51 1 = (((M 51 1).toNat ||| 2 ^ pl.toNat : Nat) : Int) ∧ (∀ j : Nat, ((j : Int) < 6 * pl ∨ 6 * pl + 6 ≤ j) → M' 52 j = M 52 j) ∧ ∀ a : Nat, a < 6 → M' 52 (6 * pl.toNat + a) = ((bK (lkM M a) 6 : Nat) : Int))) := by
  refine Ct_of (lv := [(0, .ref (E.1 (51))), (1, .int (iI (pl))), (2, .ref (E.1 (15)))]) (by decide) ⟨rfl, rfl⟩ (Nat.le_of_ble_eq_true rfl) rfl (fun x _ B R => ?_)
  refine x_aload_n B dX2_compare_0 0 rfl rfl ?_
  refine x_dup B dX2_compare_1 rfl ?_
  refine x_getI B (ci := 2) (k := 1) (lo := 0) (hi := 67108863) dX2_compare_2 rfl rfl rfl (by decide) inGX2 kw_207 rfl (fun z2 ez2 lz2 uz2 => ?_)
  refine x_iconst B dX2_compare_5 ?_
  refine x_iload_n B dX2_compare_6 1 rfl rfl ?_
  refine x_shl1 B dX2_compare_7 (by omega) (by omega) ?_
  refine x_ior B dX2_compare_8 (by omega) (Int.natCast_nonneg _) ?_
  have ho26 := or26 (a := z2) (p := pl) (by omega) (by omega) (by omega) (by omega)
  refine x_put B (ci := 2) (k := 1) (lo := 0) (hi := 67108863) (ty := .int) dX2_compare_9 rfl rfl rfl (by decide) inGX2 tyX2_ok nmX2 kw_207 rfl (by decide +kernel) (nar_i _) (fit_i _) rfl ho26.1 ho26.2 ?_
  refine x_iconst B dX2_compare_12 ?_
  refine x_istore_n B dX2_compare_13 [1, 2, 3, 0] rfl (by decide) (lv' := [(0, .ref (E.1 (51))), (1, .int (iI (pl))), (2, .ref (E.1 (15))), (3, .int (iI (0)))]) rfl ?_
  have L14 : ∀ (a : Int) (M1 : Mem), (0 ≤ a ∧ a ≤ 6 ∧ offC M M1 51 53 ∧ M1 51 1 = (((M 51 1).toNat ||| 2 ^ pl.toNat : Nat) : Int) ∧ (∀ j : Nat, ((j : Int) < 6 * pl ∨ 6 * pl + 6 ≤ j) → M1 52 j = M 52 j) ∧ ∀ a' : Nat, (a' : Int) < a → M1 52 (6 * pl.toNat + a') = ((bK (lkM M a') 6 : Nat) : Int)) → Vx x E M1 14 [(0, .ref (E.1 (51))), (1, .int (iI (pl))), (2, .ref (E.1 (15))), (3, .int (iI (a)))] [] := by
    refine lo2 _ _ (fun a M1 => (6 - a).toNat) ?_
    intro a M1 hI ih14
    obtain ⟨i1, i2, i3, i4, i5, i6⟩ := hI
    refine x_iload_n B dX2_compare_14 3 rfl rfl ?_
    refine x_bipush B dX2_compare_15 rfl ?_
    refine x_icmp_ge B (tgt := 80) dX2_compare_17 (by decide) ⟨by omega, by omega⟩ ⟨by omega, by omega⟩ (fun c17 => ?_) (fun c17 => ?_)
    · show Vx x E M1 80 [(0, .ref (E.1 (51))), (1, .int (iI (pl))), (2, .ref (E.1 (15))), (3, .int (iI (a)))] []
      exact r_v B R dX2_compare_80 (⟨i3, i4, i5, fun a' h => i6 a' (by omega)⟩)
    · show Vx x E M1 20 [(0, .ref (E.1 (51))), (1, .int (iI (pl))), (2, .ref (E.1 (15))), (3, .int (iI (a)))] []
      refine x_iconst B dX2_compare_20 ?_
      refine x_istore B dX2_compare_21 [1, 2, 3, 4, 0] (by decide) (lv' := [(0, .ref (E.1 (51))), (1, .int (iI (pl))), (2, .ref (E.1 (15))), (3, .int (iI (a))), (4, .int (iI (0)))]) rfl ?_
      refine x_iconst B dX2_compare_23 ?_
      refine x_istore B dX2_compare_24 [1, 2, 3, 4, 5, 0] (by decide) (lv' := [(0, .ref (E.1 (51))), (1, .int (iI (pl))), (2, .ref (E.1 (15))), (3, .int (iI (a))), (4, .int (iI (0))), (5, .int (iI (0)))]) rfl ?_
      have L26 : ∀ (s : Int) (b : Int), (0 ≤ b ∧ b ≤ 6 ∧ 0 ≤ s ∧ Is s ((bK (lkM M a.toNat) b.toNat : Nat) : Int)) → Vx x E M1 26 [(0, .ref (E.1 (51))), (1, .int (iI (pl))), (2, .ref (E.1 (15))), (3, .int (iI (a))), (4, .int (iI (s))), (5, .int (iI (b)))] [] := by
        refine lo2 _ _ (fun s b => (6 - b).toNat) ?_
        intro s b hI ih26
        obtain ⟨n1, n2, n3, n4⟩ := hI
        refine x_iload B dX2_compare_26 5 rfl ?_
        refine x_bipush B dX2_compare_28 rfl ?_
        refine x_icmp_ge B (tgt := 61) dX2_compare_30 (by decide) ⟨by omega, by omega⟩ ⟨by omega, by omega⟩ (fun c30 => ?_) (fun c30 => ?_)
        · show Vx x E M1 61 [(0, .ref (E.1 (51))), (1, .int (iI (pl))), (2, .ref (E.1 (15))), (3, .int (iI (a))), (4, .int (iI (s))), (5, .int (iI (b)))] []
          have hsb := bK_le6 (lkM M a.toNat)
          have hse := Is_e n4
          rw [show b.toNat = 6 by omega] at hse
          refine x_aload_n B dX2_compare_61 0 rfl rfl ?_
          refine x_getR B (ci := 2) (k := 0) dX2_compare_62 rfl rfl rfl (by decide) inGX2 kw_205 ?_
          refine x_iload_n B dX2_compare_65 1 rfl rfl ?_
          refine x_bipush B dX2_compare_66 rfl ?_
          refine x_imul B dX2_compare_68 ?_
          refine x_iload_n B dX2_compare_69 3 rfl rfl ?_
          refine x_iadd B dX2_compare_70 ?_
          refine x_iload B dX2_compare_71 4 rfl ?_
          refine x_iast B (lo := 0) (hi := 63) dX2_compare_73 rfl (by omega) (by omega) rfl (by omega) (by omega) ?_
          refine x_iinc B (q := 3) dX2_compare_74 rfl [1, 2, 3, 0, 4, 5] (by decide) (lv' := [(0, .ref (E.1 (51))), (1, .int (iI (pl))), (2, .ref (E.1 (15))), (3, .int (iI (a + 1))), (4, .int (iI (s))), (5, .int (iI (b)))]) rfl ?_
          refine x_goto B (tgt := 14) dX2_compare_77 (by decide) ?_
          refine x_lv [0, 1, 2, 3] (lv' := [(0, .ref (E.1 (51))), (1, .int (iI (pl))), (2, .ref (E.1 (15))), (3, .int (iI (a + 1)))]) rfl ?_
          exact ih14 (a + 1) (sto M1 52 ((pl * 6) + a).toNat s) (⟨by omega, by omega, offC_sto i3 (by omega), by rw [sto_ni _ _ _ _ (by omega)]; exact i4, fun j hj => by rw [sto_nj _ _ _ _ (by omega)]; exact i5 j hj, fun a' h => by rcases (show (a' : Int) < a ∨ a' = a.toNat by omega) with h7 | h7; (rw [sto_nj _ _ _ _ (by omega)]; exact i6 a' h7); (rw [h7, show 6 * pl.toNat + a.toNat = (pl * 6 + a).toNat by omega, sto_eq]; exact hse)⟩) (by omega)
        · show Vx x E M1 33 [(0, .ref (E.1 (51))), (1, .int (iI (pl))), (2, .ref (E.1 (15))), (3, .int (iI (a))), (4, .int (iI (s))), (5, .int (iI (b)))] []
          refine x_aload_n B dX2_compare_33 2 rfl rfl ?_
          refine x_iload_n B dX2_compare_34 3 rfl rfl ?_
          refine x_aald B dX2_compare_35 (k := 2) rfl (by decide) (by decide) rfl (by omega) (by omega) (fr_get (by omega) (by omega)) ?_
          refine x_aload_n B dX2_compare_36 2 rfl rfl ?_
          refine x_iload B dX2_compare_37 5 rfl ?_
          refine x_aald B dX2_compare_39 (k := 2) rfl (by decide) (by decide) rfl (by omega) (by omega) (fr_get (by omega) (by omega)) ?_
          refine x_callV B (st := []) (av := [.ref (E.1 ((16 + 5 * ((b).toNat + 1))))]) dX2_compare_40 cs_X0_feelsAs kw_667 ⟨rfl, rfl, Nat.le_of_ble_eq_true rfl, Nat.le_of_ble_eq_true rfl⟩ rfl rfl (Nat.le_of_ble_eq_true rfl) (rc_obj B (ci := 0) (tF_o ((a).toNat + 1) (by omega)) rfl rfl) (c_X0_feelsAs _ E _ ((a).toNat + 1) ((b).toNat + 1) (by omega) (by omega)) (k_i (fun z40 Mq hz40 => ?_))
          obtain ⟨rfl, hz40⟩ := hz40
          rw [offC_f i3 (i := 16 + 5 * (a.toNat + 1) + 3) (by omega), offC_f i3 (i := 16 + 5 * (b.toNat + 1) + 3) (by omega)] at hz40
          refine x_if_eq B (tgt := 55) dX2_compare_43 (by decide) ⟨by omega, by omega⟩ (fun c43 => ?_) (fun c43 => ?_)
          · show Vx x E M1 55 [(0, .ref (E.1 (51))), (1, .int (iI (pl))), (2, .ref (E.1 (15))), (3, .int (iI (a))), (4, .int (iI (s))), (5, .int (iI (b)))] []
            refine x_iinc B (q := 5) dX2_compare_55 rfl [1, 2, 3, 4, 5, 0] (by decide) (lv' := [(0, .ref (E.1 (51))), (1, .int (iI (pl))), (2, .ref (E.1 (15))), (3, .int (iI (a))), (4, .int (iI (s))), (5, .int (iI (b + 1)))]) rfl ?_
            refine x_goto B (tgt := 26) dX2_compare_58 (by decide) ?_
            exact ih26 s (b + 1) (⟨by omega, by omega, n3, bK_f n1 (eqB_no (by rcases hz40 with ⟨h5, h6⟩ | ⟨h5, h6⟩ <;> first | omega | exact h6)) n4⟩) (by omega)
          · show Vx x E M1 46 [(0, .ref (E.1 (51))), (1, .int (iI (pl))), (2, .ref (E.1 (15))), (3, .int (iI (a))), (4, .int (iI (s))), (5, .int (iI (b)))] []
            refine x_iload B dX2_compare_46 4 rfl ?_
            refine x_iconst B dX2_compare_48 ?_
            refine x_iload B dX2_compare_49 5 rfl ?_
            refine x_shl1 B dX2_compare_51 (by omega) (by omega) ?_
            refine x_ior B dX2_compare_52 (by omega) (Int.natCast_nonneg _) ?_
            refine x_istore B dX2_compare_53 [1, 2, 3, 4, 0, 5] (by decide) (lv' := [(0, .ref (E.1 (51))), (1, .int (iI (pl))), (2, .ref (E.1 (15))), (3, .int (iI (a))), (4, .int (iI ((((s).toNat ||| (((2 ^ (b).toNat : Nat) : Int)).toNat : Nat) : Int)))), (5, .int (iI (b)))]) rfl ?_
            refine x_iinc B (q := 5) dX2_compare_55 rfl [1, 2, 3, 4, 5, 0] (by decide) (lv' := [(0, .ref (E.1 (51))), (1, .int (iI (pl))), (2, .ref (E.1 (15))), (3, .int (iI (a))), (4, .int (iI ((((s).toNat ||| (((2 ^ (b).toNat : Nat) : Int)).toNat : Nat) : Int)))), (5, .int (iI (b + 1)))]) rfl ?_
            refine x_goto B (tgt := 26) dX2_compare_58 (by decide) ?_
            exact ih26 (((s).toNat ||| (((2 ^ (b).toNat : Nat) : Int)).toNat : Nat) : Int) (b + 1) (⟨by omega, by omega, Int.natCast_nonneg _, bK_t n1 (eqB_iff.mpr (by rcases hz40 with ⟨h5, h6⟩ | ⟨h5, h6⟩ <;> first | omega | exact h6)) n4⟩) (by omega)
      exact L26 0 0 (⟨by omega, by omega, by omega, rfl⟩)
  exact L14 0 (sto M 51 1 (((z2).toNat ||| (((2 ^ (pl).toNat : Nat) : Int)).toNat : Nat) : Int)) (⟨by omega, by omega, offC_sto offC_rf (by omega), by rw [sto_eq, Is_e ez2, Int.toNat_natCast], fun j _ => sto_ni _ _ _ _ (by omega), fun a' h => by omega⟩)
theorem lkM_eq {M M1 : Mem} {pl : Int} (h : ∀ a : Nat, a < 6 → eqF (M1 (16 + 5 * (a + 1) + 3)) (feC M (a : Int) pl)) {a : Nat} (ha : a < 6) : bK (lkM M1 a) 6 = lkS M (a : Int) pl := by
  unfold lkS
  refine bK_cg 6 (fun b hb => ?_)
  have e : eqF (M1 (16 + 5 * (a + 1) + 3)) (M1 (16 + 5 * (b + 1) + 3)) ↔ eqF (feC M (a : Int) pl) (feC M (b : Int) pl) := ⟨fun q => eqF_tr (eqF_sy (h a ha)) (eqF_tr q (h b hb)), fun q => eqF_tr (h a ha) (eqF_tr q (eqF_sy (h b hb)))⟩
  unfold lkM alC
  cases h1 : eqB (M1 (16 + 5 * (a + 1) + 3)) (M1 (16 + 5 * (b + 1) + 3)) with
  | true => exact (eqB_iff.mpr (e.mp (eqB_iff.mp h1))).symm
  | false =>
    cases h2 : eqB (feC M (a : Int) pl) (feC M (b : Int) pl) with
    | true => exact absurd (eqB_iff.mpr (e.mpr (eqB_iff.mp h2))) (by rw [h1]; decide)
    | false => rfl
theorem lkS_off {M M' : Mem} {a b : Nat} (h : offC M M' a b) (ha : 16 ≤ a) : lkS M' = lkS M := by
  funext s pl
  unfold lkS alC
  rw [feC_off h ha]
/-- behind compare: what is kept of likeness holds -/
theorem LkOK_cmp {M M1 M2 : Mem} {pl : Int} (p0 : 0 ≤ pl) (p1 : pl ≤ 25) (hk : LkOK M) (h1 : offC M M1 16 51) (hf : ∀ a : Nat, a < 6 → eqF (M1 (16 + 5 * (a + 1) + 3)) (feC M (a : Int) pl)) (c1 : offC M1 M2 51 53) (c2 : M2 51 1 = (((M1 51 1).toNat ||| 2 ^ pl.toNat : Nat) : Int)) (c3 : ∀ j : Nat, ((j : Int) < 6 * pl ∨ 6 * pl + 6 ≤ j) → M2 52 j = M1 52 j) (c4 : ∀ a : Nat, a < 6 → M2 52 (6 * pl.toNat + a) = ((bK (lkM M1 a) 6 : Nat) : Int)) : LkOK M2 ∧ offC M M2 16 57 ∧ ∀ a : Nat, a < 6 → M2 52 (6 * pl.toNat + a) = ((lkS M (a : Int) pl : Nat) : Int) := by
  have o : offC M M2 16 57 := offC_tr (offC_w h1 (by omega) (by omega)) (offC_w c1 (by omega) (by omega))
  have key : ∀ a : Nat, a < 6 → M2 52 (6 * pl.toNat + a) = ((lkS M (a : Int) pl : Nat) : Int) := fun a ha => by rw [c4 a ha, lkM_eq hf ha]
  refine ⟨?_, o, key⟩
  intro q hq hb a ha
  rw [lkS_off o (by omega)]
  by_cases e : q = pl.toNat
  · rw [e, key a ha, Int.toNat_of_nonneg p0]
  · rw [c2, Int.toNat_natCast, Nat.testBit_or, Nat.testBit_two_pow] at hb
    have hb2 : (M 51 1).toNat.testBit q = true := by
      rw [h1 51 1 (by omega)] at hb
      simpa [Ne.symm e] using hb
    rw [c3 _ (by omega), h1 52 _ (by omega)]
    exact hk q hq hb2 a ha
abbrev rm_X7_likeHere : Room := { frames := 4, cells := 0, slots := 0, locals := 93 }
theorem cs_X7_likeHere : Cv yX7_likeHere cX7_likeHere 4 (some .int) 2 := ⟨kw_657, ⟨kw_656, kw_25⟩, kw_57, by decide, by decide, by decide +kernel⟩
set_option maxHeartbeats 4000000 in
set_option maxRecDepth 100000 in
theorem c_X7_likeHere (l : Launch) (E : Ev) (M : Mem) (pl sc : Int) (g1 : 0 ≤ pl) (g2 : pl ≤ 25) (g3 : 0 ≤ sc) (g4 : sc < 6) (g5 : LkOK M) : Ct l yX7_likeHere cX7_likeHere 4 (some .int) rm_X7_likeHere E M [.ref (E.1 (0)), .int (iI (pl)), .int (iI (sc))] (pI (fun z M' => offC M M' 16 57 ∧ LkOK M' ∧ z = ((lkS M sc pl : Nat) : Int) ∧ 0 ≤ z ∧ z ≤ 63)) := by
  refine Ct_of (lv := [(0, .ref (E.1 (0))), (1, .int (iI (pl))), (2, .int (iI (sc)))]) (by decide) ⟨rfl, rfl⟩ (Nat.le_of_ble_eq_true rfl) rfl (fun x _ B R => ?_)
  refine x_aload_n B dX7_likeHere_0 0 rfl rfl ?_
  refine x_getR B (ci := 7) (k := 8) dX7_likeHere_1 rfl rfl rfl (by decide) inGX7 kw_291 ?_
  refine x_iload_n B dX7_likeHere_4 1 rfl rfl ?_
  refine x_callV B (st := []) (av := [.int (iI (pl))]) dX7_likeHere_5 cs_X2_isKnown kw_658 ⟨rfl, rfl, Nat.le_of_ble_eq_true rfl, Nat.le_of_ble_eq_true rfl⟩ rfl rfl (Nat.le_of_ble_eq_true rfl) (rc_obj B (ci := 2) rfl rfl rfl) (c_X2_isKnown _ E _ pl (by omega) (by omega)) (k_i (fun z5 Mq hz5 => ?_))
  obtain ⟨rfl, hz5⟩ := hz5
  have J60 : ∀ (Mj : Mem), (offC M Mj 16 57 ∧ LkOK Mj ∧ Mj 52 (pl * 6 + sc).toNat = ((lkS M sc pl : Nat) : Int)) → Vx x E Mj 60 [(0, .ref (E.1 (0))), (1, .int (iI (pl))), (2, .int (iI (sc)))] [] := by
    intro Mj hJ
    obtain ⟨j1, j2, j3⟩ := hJ
    refine x_aload_n B dX7_likeHere_60 0 rfl rfl ?_
    refine x_getR B (ci := 7) (k := 8) dX7_likeHere_61 rfl rfl rfl (by decide) inGX7 kw_291 ?_
    refine x_getR B (ci := 2) (k := 0) dX7_likeHere_64 rfl rfl rfl (by decide) inGX2 kw_206 ?_
    refine x_iload_n B dX7_likeHere_67 1 rfl rfl ?_
    refine x_bipush B dX7_likeHere_68 rfl ?_
    refine x_imul B dX7_likeHere_70 ?_
    refine x_iload_n B dX7_likeHere_71 2 rfl rfl ?_
    refine x_iadd B dX7_likeHere_72 ?_
    refine x_iald B (lo := 0) (hi := 63) dX7_likeHere_73 rfl (by omega) (by omega) rfl (fun z73 ez73 lz73 uz73 => ?_)
    exact r_i B R dX7_likeHere_74 (⟨j1, j2, by rw [Is_e ez73]; exact j3, by omega, by omega⟩)
  refine x_if_ne B (tgt := 60) dX7_likeHere_8 (by decide) ⟨by omega, by omega⟩ (fun c8 => ?_) (fun c8 => ?_)
  · show Vx x E M 60 [(0, .ref (E.1 (0))), (1, .int (iI (pl))), (2, .int (iI (sc)))] []
    exact J60 M (⟨offC_rf, g5, by have h := g5 pl.toNat (by omega) (by rcases hz5 with ⟨h5, h6⟩ | ⟨h5, h6⟩ <;> first | omega | exact h6) sc.toNat (by omega); rw [Int.toNat_of_nonneg g1, Int.toNat_of_nonneg g3] at h; rw [show (pl * 6 + sc).toNat = 6 * pl.toNat + sc.toNat by omega]; exact h⟩)
  · show Vx x E M 11 [(0, .ref (E.1 (0))), (1, .int (iI (pl))), (2, .int (iI (sc)))] []
    refine x_iconst B dX7_likeHere_11 ?_
    refine x_istore_n B dX7_likeHere_12 [1, 2, 3, 0] rfl (by decide) (lv' := [(0, .ref (E.1 (0))), (1, .int (iI (pl))), (2, .int (iI (sc))), (3, .int (iI (0)))]) rfl ?_
    have L13 : ∀ (i : Int) (M1 : Mem), (0 ≤ i ∧ i ≤ 6 ∧ offC M M1 16 51 ∧ ∀ a : Nat, (a : Int) < i → eqF (M1 (16 + 5 * (a + 1) + 3)) (feC M (a : Int) pl)) → Vx x E M1 13 [(0, .ref (E.1 (0))), (1, .int (iI (pl))), (2, .int (iI (sc))), (3, .int (iI (i)))] [] := by
      refine lo2 _ _ (fun i M1 => (6 - i).toNat) ?_
      intro i M1 hI ih13
      obtain ⟨i1, i2, i3, i4⟩ := hI
      refine x_iload_n B dX7_likeHere_13 3 rfl rfl ?_
      refine x_bipush B dX7_likeHere_14 rfl ?_
      refine x_icmp_ge B (tgt := 48) dX7_likeHere_16 (by decide) ⟨by omega, by omega⟩ ⟨by omega, by omega⟩ (fun c16 => ?_) (fun c16 => ?_)
      · show Vx x E M1 48 [(0, .ref (E.1 (0))), (1, .int (iI (pl))), (2, .int (iI (sc))), (3, .int (iI (i)))] []
        refine x_aload_n B dX7_likeHere_48 0 rfl rfl ?_
        refine x_getR B (ci := 7) (k := 8) dX7_likeHere_49 rfl rfl rfl (by decide) inGX7 kw_291 ?_
        refine x_iload_n B dX7_likeHere_52 1 rfl rfl ?_
        refine x_aload_n B dX7_likeHere_53 0 rfl rfl ?_
        refine x_getR B (ci := 7) (k := 6) dX7_likeHere_54 rfl rfl rfl (by decide) inGX7 kw_289 ?_
        refine x_callV B (st := []) (av := [.int (iI (pl)), .ref (E.1 (15))]) dX7_likeHere_57 cs_X2_compare kw_663 ⟨rfl, rfl, Nat.le_of_ble_eq_true rfl, Nat.le_of_ble_eq_true rfl⟩ rfl rfl (Nat.le_of_ble_eq_true rfl) (rc_obj B (ci := 2) rfl rfl rfl) (c_X2_compare _ E _ pl (by omega) (by omega)) (k_v (fun M57 hz57 => ?_))
        refine x_lv [0, 1, 2] (lv' := [(0, .ref (E.1 (0))), (1, .int (iI (pl))), (2, .int (iI (sc)))]) rfl ?_
        exact J60 M57 (by have h := LkOK_cmp g1 g2 g5 i3 (fun a ha => i4 a (by omega)) hz57.1 hz57.2.1 hz57.2.2.1 hz57.2.2.2; exact ⟨h.2.1, h.1, by have h8 := h.2.2 sc.toNat (by omega); rw [Int.toNat_of_nonneg g3] at h8; rw [show (pl * 6 + sc).toNat = 6 * pl.toNat + sc.toNat by omega]; exact h8⟩)
      · show Vx x E M1 19 [(0, .ref (E.1 (0))), (1, .int (iI (pl))), (2, .int (iI (sc))), (3, .int (iI (i)))] []
        refine x_aload_n B dX7_likeHere_19 0 rfl rfl ?_
        refine x_getR B (ci := 7) (k := 6) dX7_likeHere_20 rfl rfl rfl (by decide) inGX7 kw_289 ?_
        refine x_iload_n B dX7_likeHere_23 3 rfl rfl ?_
        refine x_aald B dX7_likeHere_24 (k := 2) rfl (by decide) (by decide) rfl (by omega) (by omega) (fr_get (by omega) (by omega)) ?_
        refine x_aload_n B dX7_likeHere_25 0 rfl rfl ?_
        refine x_getR B (ci := 7) (k := 3) dX7_likeHere_26 rfl rfl rfl (by decide) inGX7 kw_286 ?_
        refine x_iload_n B dX7_likeHere_29 3 rfl rfl ?_
        refine x_iload_n B dX7_likeHere_30 1 rfl rfl ?_
        refine x_aload_n B dX7_likeHere_31 0 rfl rfl ?_
        refine x_getR B (ci := 7) (k := 0) dX7_likeHere_32 rfl rfl rfl (by decide) inGX7 kw_283 ?_
        refine x_aload_n B dX7_likeHere_35 0 rfl rfl ?_
        refine x_getR B (ci := 7) (k := 4) dX7_likeHere_36 rfl rfl rfl (by decide) inGX7 kw_287 ?_
        refine x_callV B (st := []) (av := [.ref (E.1 (12)), .int (iI (i)), .int (iI (pl)), .ref (E.1 (1)), .ref (E.1 (13))]) dX7_likeHere_39 cs_X0_see kw_529 ⟨rfl, rfl, Nat.le_of_ble_eq_true rfl, Nat.le_of_ble_eq_true rfl⟩ rfl rfl (Nat.le_of_ble_eq_true rfl) (rc_obj B (ci := 0) (tF_o ((i).toNat + 1) (by omega)) rfl rfl) (c_X0_see _ E _ ((i).toNat + 1) i pl 1 13 (by omega) (by omega) (by omega) (by omega) (by omega) (by first | assumption | omega) (by first | assumption | omega)) (k_v (fun M39 hz39 => ?_))
        refine x_iinc B (q := 3) dX7_likeHere_42 rfl [1, 2, 3, 0] (by decide) (lv' := [(0, .ref (E.1 (0))), (1, .int (iI (pl))), (2, .int (iI (sc))), (3, .int (iI (i + 1)))]) rfl ?_
        refine x_goto B (tgt := 13) dX7_likeHere_45 (by decide) ?_
        exact ih13 (i + 1) M39 (⟨by omega, by omega, offC_tr i3 (offC_w hz39.1 (by omega) (by omega)), fun a h => by obtain ⟨p1, -, -, p4, -⟩ := seeP_C hz39; rcases (show (a : Int) < i ∨ a = i.toNat by omega) with h7 | h7; (rw [offC_f p1 (by omega)]; exact i4 a h7); (rw [feC_off i3 (by omega)] at p4; rw [h7, Int.toNat_of_nonneg i1]; exact p4)⟩) (by omega)
    exact L13 0 M (⟨by omega, by omega, offC_rf, fun a h => by omega⟩)
/-- the most that is learnt in h hours of which b are no rest -/
def mlB (ow le h b : Int) : Int := if le < ow then min b ((12 + 4 * (h - b) - b) / 2) else 0
def mlS (ow le h b : Int) : Int := if 12 + 4 * (h - b) - b < 0 then -1 else mlB ow le h b * ow + (b - mlB ow le h b) * le
abbrev rm_X7_mostLearnt : Room := { frames := 1, cells := 0, slots := 0, locals := 21 }
theorem cs_X7_mostLearnt : Cv yX7_mostLearnt cX7_mostLearnt 7 (some .int) 2 := ⟨kw_712, ⟨kw_711, kw_28⟩, kw_57, by decide, by decide, by decide +kernel⟩
set_option maxHeartbeats 4000000 in
set_option maxRecDepth 100000 in
theorem c_X7_mostLearnt (l : Launch) (E : Ev) (M : Mem) (h b : Int) (g1 : 0 ≤ b) (g2 : b ≤ h) (g3 : h ≤ 60) : Ct l yX7_mostLearnt cX7_mostLearnt 7 (some .int) rm_X7_mostLearnt E M [.ref (E.1 (0)), .int (iI (h)), .int (iI (b))] (pI (fun z M' => M = M' ∧ (z = mlS (M 2 7) (M 2 8) h b ∧ -1 ≤ z ∧ z ≤ 2400))) := by
  refine Ct_of (lv := [(0, .ref (E.1 (0))), (1, .int (iI (h))), (2, .int (iI (b)))]) (by decide) ⟨rfl, rfl⟩ (Nat.le_of_ble_eq_true rfl) rfl (fun x _ B R => ?_)
  refine x_bipush B dX7_mostLearnt_0 rfl ?_
  refine x_iconst B dX7_mostLearnt_2 ?_
  refine x_iload_n B dX7_mostLearnt_3 1 rfl rfl ?_
  refine x_iload_n B dX7_mostLearnt_4 2 rfl rfl ?_
  refine x_isub B dX7_mostLearnt_5 ?_
  refine x_imul B dX7_mostLearnt_6 ?_
  refine x_iadd B dX7_mostLearnt_7 ?_
  refine x_iload_n B dX7_mostLearnt_8 2 rfl rfl ?_
  refine x_isub B dX7_mostLearnt_9 ?_
  refine x_istore_n B dX7_mostLearnt_10 [1, 2, 3, 0] rfl (by decide) (lv' := [(0, .ref (E.1 (0))), (1, .int (iI (h))), (2, .int (iI (b))), (3, .int (iI ((12 + (4 * (h - b))) - b)))]) rfl ?_
  refine x_iload_n B dX7_mostLearnt_11 3 rfl rfl ?_
  refine x_if_ge B (tgt := 17) dX7_mostLearnt_12 (by decide) ⟨by omega, by omega⟩ (fun c12 => ?_) (fun c12 => ?_)
  · show Vx x E M 17 [(0, .ref (E.1 (0))), (1, .int (iI (h))), (2, .int (iI (b))), (3, .int (iI ((12 + (4 * (h - b))) - b)))] []
    refine x_aload_n B dX7_mostLearnt_17 0 rfl rfl ?_
    refine x_getR B (ci := 7) (k := 0) dX7_mostLearnt_18 rfl rfl rfl (by decide) inGX7 kw_283 ?_
    refine x_getR B (ci := 1) (k := 0) dX7_mostLearnt_21 rfl rfl rfl (by decide) inGX1 kw_103 ?_
    refine x_bipush B dX7_mostLearnt_24 rfl ?_
    refine x_iald B (lo := 0) (hi := 20) dX7_mostLearnt_26 rfl (by omega) (by omega) rfl (fun z26 ez26 lz26 uz26 => ?_)
    have ez26 : Is z26 (M 2 7) := ez26
    refine x_istore B dX7_mostLearnt_27 [1, 2, 3, 4, 0] (by decide) (lv' := [(0, .ref (E.1 (0))), (1, .int (iI (h))), (2, .int (iI (b))), (3, .int (iI ((12 + (4 * (h - b))) - b))), (4, .int (iI (z26)))]) rfl ?_
    refine x_aload_n B dX7_mostLearnt_29 0 rfl rfl ?_
    refine x_getR B (ci := 7) (k := 0) dX7_mostLearnt_30 rfl rfl rfl (by decide) inGX7 kw_283 ?_
    refine x_getR B (ci := 1) (k := 0) dX7_mostLearnt_33 rfl rfl rfl (by decide) inGX1 kw_103 ?_
    refine x_bipush B dX7_mostLearnt_36 rfl ?_
    refine x_iald B (lo := 0) (hi := 20) dX7_mostLearnt_38 rfl (by omega) (by omega) rfl (fun z38 ez38 lz38 uz38 => ?_)
    have ez38 : Is z38 (M 2 8) := ez38
    refine x_istore B dX7_mostLearnt_39 [1, 2, 3, 4, 5, 0] (by decide) (lv' := [(0, .ref (E.1 (0))), (1, .int (iI (h))), (2, .int (iI (b))), (3, .int (iI ((12 + (4 * (h - b))) - b))), (4, .int (iI (z26))), (5, .int (iI (z38)))]) rfl ?_
    refine x_iload B dX7_mostLearnt_41 4 rfl ?_
    refine x_iload B dX7_mostLearnt_43 5 rfl ?_
    have J59 : ∀ (jb : Int), (jb = mlB z26 z38 h b ∧ 0 ≤ jb ∧ jb ≤ b) → Vx x E M 59 [(0, .ref (E.1 (0))), (1, .int (iI (h))), (2, .int (iI (b))), (3, .int (iI ((12 + (4 * (h - b))) - b))), (4, .int (iI (z26))), (5, .int (iI (z38)))] [.int (iI (jb))] := by
      intro jb hJ
      obtain ⟨j1, j2, j3⟩ := hJ
      refine x_istore B dX7_mostLearnt_59 [1, 2, 3, 4, 5, 6, 0] (by decide) (lv' := [(0, .ref (E.1 (0))), (1, .int (iI (h))), (2, .int (iI (b))), (3, .int (iI ((12 + (4 * (h - b))) - b))), (4, .int (iI (z26))), (5, .int (iI (z38))), (6, .int (iI (jb)))]) rfl ?_
      have m1 := mulb (a := jb) (b := z26) (A := 60) (B := 20) (by omega) (by omega) (by omega) (by omega)
      have m2 := mulb (a := b - jb) (b := z38) (A := 60) (B := 20) (by omega) (by omega) (by omega) (by omega)
      refine x_iload B dX7_mostLearnt_61 6 rfl ?_
      refine x_iload B dX7_mostLearnt_63 4 rfl ?_
      refine x_imul B dX7_mostLearnt_65 ?_
      refine x_iload_n B dX7_mostLearnt_66 2 rfl rfl ?_
      refine x_iload B dX7_mostLearnt_67 6 rfl ?_
      refine x_isub B dX7_mostLearnt_69 ?_
      refine x_iload B dX7_mostLearnt_70 5 rfl ?_
      refine x_imul B dX7_mostLearnt_72 ?_
      refine x_iadd B dX7_mostLearnt_73 ?_
      exact r_i B R dX7_mostLearnt_74 (⟨rfl, by unfold mlS; rw [if_neg (by omega), ← Is_e ez26, ← Is_e ez38, ← j1], by omega, by omega⟩)
    refine x_icmp_le B (tgt := 58) dX7_mostLearnt_45 (by decide) ⟨by omega, by omega⟩ ⟨by omega, by omega⟩ (fun c45 => ?_) (fun c45 => ?_)
    · show Vx x E M 58 [(0, .ref (E.1 (0))), (1, .int (iI (h))), (2, .int (iI (b))), (3, .int (iI ((12 + (4 * (h - b))) - b))), (4, .int (iI (z26))), (5, .int (iI (z38)))] []
      refine x_iconst B dX7_mostLearnt_58 ?_
      exact J59 0 (⟨by unfold mlB; rw [if_neg (by omega)], by omega, by omega⟩)
    · show Vx x E M 48 [(0, .ref (E.1 (0))), (1, .int (iI (h))), (2, .int (iI (b))), (3, .int (iI ((12 + (4 * (h - b))) - b))), (4, .int (iI (z26))), (5, .int (iI (z38)))] []
      refine x_iload_n B dX7_mostLearnt_48 2 rfl rfl ?_
      refine x_iload_n B dX7_mostLearnt_49 3 rfl rfl ?_
      refine x_iconst B dX7_mostLearnt_50 ?_
      refine x_idiv B dX7_mostLearnt_51 ⟨by omega, by omega⟩ (by omega) ⟨by omega, by omega⟩ (by omega) ?_
      refine x_mmin B (st := []) dX7_mostLearnt_52 kw_590 (Nat.le_of_ble_eq_true rfl) (Nat.le_of_ble_eq_true rfl) (Nat.le_of_ble_eq_true rfl) ⟨by omega, by omega⟩ ⟨by omega, by omega⟩ (fun z52 ez52 => ?_)
      refine x_goto B (tgt := 59) dX7_mostLearnt_55 (by decide) ?_
      exact J59 z52 (⟨by unfold mlB; rw [if_pos (by omega)]; exact ez52, by omega, by omega⟩)
  · show Vx x E M 15 [(0, .ref (E.1 (0))), (1, .int (iI (h))), (2, .int (iI (b))), (3, .int (iI ((12 + (4 * (h - b))) - b)))] []
    refine x_iconst B dX7_mostLearnt_15 ?_
    exact r_i B R dX7_mostLearnt_16 (⟨rfl, by unfold mlS; rw [if_pos (by omega)], by omega, by omega⟩)
