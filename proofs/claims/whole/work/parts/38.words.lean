theorem nar_c {z : Int} (h0 : 0 ≤ z) (h1 : z < 65536) : narrow .char (.int (iI z)) = .int (iI z) := congrArg Value.int (iI_i2c h0 h1)
theorem and255 {z : Int} (h0 : 0 ≤ z) (h1 : z ≤ 255) : ((z.toNat &&& (255 : Int).toNat : Nat) : Int) = z := by
  show ((z.toNat &&& 255 : Nat) : Int) = z
  rw [show (255 : Nat) = 2 ^ 8 - 1 from rfl, Nat.and_two_pow_sub_one_eq_mod]
  omega
/-- from s to e stands word i -/
def stW (B : Nat → Int) (s e : Int) (i : Nat) : Prop := e - s = ((wLen.getD i 0 : Nat) : Int) ∧ ∀ k : Int, 0 ≤ k → k < e - s → B (s + k).toNat = (wBy.getD i []).getD k.toNat 0
/-- the first of the words that stands from s to e; 16 if none -/
def wdR (B : Nat → Int) (s e w : Int) : Prop := 0 ≤ w ∧ w ≤ 16 ∧ (∀ j : Int, 0 ≤ j → j < w → ¬ stW B s e j.toNat) ∧ (w = 16 ∨ stW B s e w.toNat)
abbrev rm_J0_coder_7d493 : Room := { frames := 0, cells := 0, slots := 0, locals := 0 }
theorem cs_J0_coder_7d493 : Cv yJ0_coder_7d493 cJ0_coder_7d493 1 (some .byte) 0 := ⟨kw_395, ⟨kw_393, kw_394⟩, kw_68, by decide, by decide, by decide +kernel⟩
set_option maxHeartbeats 4000000 in
set_option maxRecDepth 100000 in
theorem c_J0_coder_7d493 (l : Launch) (E : Ev) (M : Mem) (i : Nat) (g1 : i < 16) : Ct l yJ0_coder_7d493 cJ0_coder_7d493 1 (some .byte) rm_J0_coder_7d493 E M [.ref (E.2.2.2.2.1 (i))] (pI (fun z M' => M = M' ∧ (z = 0))) := by
  refine Ct_of (lv := [(0, .ref (E.2.2.2.2.1 (i)))]) (by decide) ⟨rfl, rfl⟩ (Nat.le_of_ble_eq_true rfl) rfl (fun x _ B R => ?_)
  refine x_getCS B dJ0_coder_7d493_0 kw_396 ?_
  refine x_if_eq B (tgt := 13) dJ0_coder_7d493_3 (by decide) ⟨by omega, by omega⟩ (fun c3 => ?_) (fun c3 => ?_)
  · exact absurd c3 (by decide)
  · show Vx x E M 6 [(0, .ref (E.2.2.2.2.1 (i)))] []
    refine x_aload_n B dJ0_coder_7d493_6 0 rfl rfl ?_
    refine x_strC B g1 dJ0_coder_7d493_7 kw_1234 ?_
    refine x_goto B (tgt := 14) dJ0_coder_7d493_10 (by decide) ?_
    exact x_zret B R dJ0_coder_7d493_14 nar_b0 ⟨_, rfl, ⟨rfl, rfl⟩⟩
abbrev rm_J0_isLatin1_aae02 : Room := { frames := 0, cells := 0, slots := 0, locals := 0 }
theorem cs_J0_isLatin1_aae02 : Cv yJ0_isLatin1_aae02 cJ0_isLatin1_aae02 1 (some .boolean) 0 := ⟨kw_405, ⟨kw_403, kw_404⟩, kw_68, by decide, by decide, by decide +kernel⟩
set_option maxHeartbeats 4000000 in
set_option maxRecDepth 100000 in
theorem c_J0_isLatin1_aae02 (l : Launch) (E : Ev) (M : Mem) (i : Nat) (g1 : i < 16) : Ct l yJ0_isLatin1_aae02 cJ0_isLatin1_aae02 1 (some .boolean) rm_J0_isLatin1_aae02 E M [.ref (E.2.2.2.2.1 (i))] (pI (fun z M' => M = M' ∧ (z = 1))) := by
  refine Ct_of (lv := [(0, .ref (E.2.2.2.2.1 (i)))]) (by decide) ⟨rfl, rfl⟩ (Nat.le_of_ble_eq_true rfl) rfl (fun x _ B R => ?_)
  refine x_getCS B dJ0_isLatin1_aae02_0 kw_396 ?_
  refine x_if_eq B (tgt := 17) dJ0_isLatin1_aae02_3 (by decide) ⟨by omega, by omega⟩ (fun c3 => ?_) (fun c3 => ?_)
  · exact absurd c3 (by decide)
  · show Vx x E M 6 [(0, .ref (E.2.2.2.2.1 (i)))] []
    refine x_aload_n B dJ0_isLatin1_aae02_6 0 rfl rfl ?_
    refine x_strC B g1 dJ0_isLatin1_aae02_7 kw_1234 ?_
    refine x_if_ne B (tgt := 17) dJ0_isLatin1_aae02_10 (by decide) ⟨by omega, by omega⟩ (fun c10 => ?_) (fun c10 => ?_)
    · exact absurd rfl c10
    · show Vx x E M 13 [(0, .ref (E.2.2.2.2.1 (i)))] []
      refine x_iconst B dJ0_isLatin1_aae02_13 ?_
      refine x_goto B (tgt := 18) dJ0_isLatin1_aae02_14 (by decide) ?_
      exact r_z B R dJ0_isLatin1_aae02_18 (by omega) (by omega) (⟨rfl, rfl⟩)
abbrev rm_J3_checkIndex_8e157n : Room := { frames := 0, cells := 0, slots := 0, locals := 0 }
theorem cs_J3_checkIndex_8e157 : Cs yJ3_checkIndex_8e157 cJ3_checkIndex_8e157 3 (some .int) 3 := ⟨kw_416, kw_415, kw_70, by decide, by decide, by decide +kernel⟩
set_option maxHeartbeats 4000000 in
set_option maxRecDepth 100000 in
theorem c_J3_checkIndex_8e157n (l : Launch) (E : Ev) (M : Mem) (a b : Int)  (g1 : 0 ≤ a) (g2 : a < b) (g3 : b ≤ 6) : Ct l yJ3_checkIndex_8e157 cJ3_checkIndex_8e157 3 (some .int) rm_J3_checkIndex_8e157n E M [.int (iI (a)), .int (iI (b)), .null] (pI (fun z M' => M = M' ∧ (z = a))) := by
  refine Ct_of (lv := [(0, .int (iI (a))), (1, .int (iI (b))), (2, .null)]) (by decide) ⟨rfl, rfl⟩ (Nat.le_of_ble_eq_true rfl) rfl (fun x _ B R => ?_)
  refine x_iload_n B dJ3_checkIndex_8e157_0 0 rfl rfl ?_
  refine x_if_lt B (tgt := 9) dJ3_checkIndex_8e157_1 (by decide) ⟨by omega, by omega⟩ (fun c1 => ?_) (fun c1 => ?_)
  · exact absurd c1 (by omega)
  · show Vx x E M 4 [(0, .int (iI (a))), (1, .int (iI (b))), (2, .null)] []
    refine x_iload_n B dJ3_checkIndex_8e157_4 0 rfl rfl ?_
    refine x_iload_n B dJ3_checkIndex_8e157_5 1 rfl rfl ?_
    refine x_icmp_lt B (tgt := 16) dJ3_checkIndex_8e157_6 (by decide) ⟨by omega, by omega⟩ ⟨by omega, by omega⟩ (fun c6 => ?_) (fun c6 => ?_)
    · show Vx x E M 16 [(0, .int (iI (a))), (1, .int (iI (b))), (2, .null)] []
      refine x_iload_n B dJ3_checkIndex_8e157_16 0 rfl rfl ?_
      exact r_i B R dJ3_checkIndex_8e157_17 (⟨rfl, rfl⟩)
    · exact absurd g2 c6
abbrev rm_J3_checkIndex_8e157r : Room := { frames := 0, cells := 0, slots := 0, locals := 0 }
set_option maxHeartbeats 4000000 in
set_option maxRecDepth 100000 in
theorem c_J3_checkIndex_8e157r (l : Launch) (E : Ev) (M : Mem) (a b : Int) (t : Nat) (g1 : 0 ≤ a) (g2 : a < b) (g3 : b ≤ 6) : Ct l yJ3_checkIndex_8e157 cJ3_checkIndex_8e157 3 (some .int) rm_J3_checkIndex_8e157r E M [.int (iI (a)), .int (iI (b)), .ref t] (pI (fun z M' => M = M' ∧ (z = a))) := by
  refine Ct_of (lv := [(0, .int (iI (a))), (1, .int (iI (b))), (2, .ref t)]) (by decide) ⟨rfl, rfl⟩ (Nat.le_of_ble_eq_true rfl) rfl (fun x _ B R => ?_)
  refine x_iload_n B dJ3_checkIndex_8e157_0 0 rfl rfl ?_
  refine x_if_lt B (tgt := 9) dJ3_checkIndex_8e157_1 (by decide) ⟨by omega, by omega⟩ (fun c1 => ?_) (fun c1 => ?_)
  · exact absurd c1 (by omega)
  · show Vx x E M 4 [(0, .int (iI (a))), (1, .int (iI (b))), (2, .ref t)] []
    refine x_iload_n B dJ3_checkIndex_8e157_4 0 rfl rfl ?_
    refine x_iload_n B dJ3_checkIndex_8e157_5 1 rfl rfl ?_
    refine x_icmp_lt B (tgt := 16) dJ3_checkIndex_8e157_6 (by decide) ⟨by omega, by omega⟩ ⟨by omega, by omega⟩ (fun c6 => ?_) (fun c6 => ?_)
    · show Vx x E M 16 [(0, .int (iI (a))), (1, .int (iI (b))), (2, .ref t)] []
      refine x_iload_n B dJ3_checkIndex_8e157_16 0 rfl rfl ?_
      exact r_i B R dJ3_checkIndex_8e157_17 (⟨rfl, rfl⟩)
    · exact absurd g2 c6
theorem c_J3_checkIndex_8e157 (l : Launch) (E : Ev) (M : Mem) (a b : Int) (v : Value) (g1 : 0 ≤ a) (g2 : a < b) (g3 : b ≤ 6) (g4 : v = .null ∨ ∃ t, v = .ref t) : Ct l yJ3_checkIndex_8e157 cJ3_checkIndex_8e157 3 (some .int) rm_J3_checkIndex_8e157n E M [.int (iI (a)), .int (iI (b)), v] (pI (fun z M' => M = M' ∧ (z = a))) := by
  rcases g4 with h | ⟨t, h⟩
  · rw [h]
    exact c_J3_checkIndex_8e157n l E M a b g1 g2 g3
  · rw [h]
    exact c_J3_checkIndex_8e157r l E M a b t g1 g2 g3
abbrev rm_J0_checkIndex_df160 : Room := { frames := 1, cells := 0, slots := 0, locals := 22 }
theorem cs_J0_checkIndex_df160 : Cs yJ0_checkIndex_df160 cJ0_checkIndex_df160 2 none 2 := ⟨kw_411, kw_410, kw_68, by decide, by decide, by decide +kernel⟩
set_option maxHeartbeats 4000000 in
set_option maxRecDepth 100000 in
theorem c_J0_checkIndex_df160 (l : Launch) (E : Ev) (M : Mem) (a b : Int) (g1 : 0 ≤ a) (g2 : a < b) (g3 : b ≤ 6) : Ct l yJ0_checkIndex_df160 cJ0_checkIndex_df160 2 none rm_J0_checkIndex_df160 E M [.int (iI (a)), .int (iI (b))] (pV (fun M' => M = M' ∧ (True))) := by
  refine Ct_of (lv := [(0, .int (iI (a))), (1, .int (iI (b)))]) (by decide) ⟨rfl, rfl⟩ (Nat.le_of_ble_eq_true rfl) rfl (fun x _ B R => ?_)
  refine x_iload_n B dJ0_checkIndex_df160_0 0 rfl rfl ?_
  refine x_iload_n B dJ0_checkIndex_df160_1 1 rfl rfl ?_
  refine x_getFo B dJ0_checkIndex_df160_2 kw_412 (fun vf hvf => ?_)
  refine x_callS B (st := []) (av := [.int (iI (a)), .int (iI (b)), vf]) dJ0_checkIndex_df160_5 cs_J3_checkIndex_8e157 kw_414 ⟨rfl, rfl, Nat.le_of_ble_eq_true rfl, Nat.le_of_ble_eq_true rfl⟩ rfl rfl (Nat.le_of_ble_eq_true rfl) (c_J3_checkIndex_8e157 _ E _ a b vf (by omega) (by omega) (by omega) (by assumption)) (k_i (fun z5 Mq hz5 => ?_))
  obtain ⟨rfl, hz5⟩ := hz5
  refine x_pop B dJ0_checkIndex_df160_8 rfl ?_
  exact r_v B R dJ0_checkIndex_df160_9 (⟨rfl, trivial⟩)
abbrev rm_J1_charAt_3b067 : Room := { frames := 2, cells := 0, slots := 0, locals := 43 }
theorem cs_J1_charAt_3b067 : Cs yJ1_charAt_3b067 cJ1_charAt_3b067 2 (some .char) 2 := ⟨kw_408, kw_407, kw_69, by decide, by decide, by decide +kernel⟩
set_option maxHeartbeats 4000000 in
set_option maxRecDepth 100000 in
theorem c_J1_charAt_3b067 (l : Launch) (E : Ev) (M : Mem) (i : Nat) (k : Int) (g1 : i < 16) (g2 : 0 ≤ k) (g3 : k < ((wLen.getD i 0 : Nat) : Int)) : Ct l yJ1_charAt_3b067 cJ1_charAt_3b067 2 (some .char) rm_J1_charAt_3b067 E M [.ref (E.2.2.2.2.2 (i)), .int (iI (k))] (pI (fun z M' => M = M' ∧ (z = (wBy.getD i []).getD k.toNat 0 ∧ 0 ≤ z ∧ z ≤ 122))) := by
  refine Ct_of (lv := [(0, .ref (E.2.2.2.2.2 (i))), (1, .int (iI (k)))]) (by decide) ⟨rfl, rfl⟩ (Nat.le_of_ble_eq_true rfl) rfl (fun x _ B R => ?_)
  have h6 := wLen_6 i g1
  refine x_iload_n B dJ1_charAt_3b067_0 1 rfl rfl ?_
  refine x_aload_n B dJ1_charAt_3b067_1 0 rfl rfl ?_
  refine x_strL B g1 dJ1_charAt_3b067_2 ?_
  refine x_callS B (st := []) (av := [.int (iI (k)), .int (iI (((wLen.getD i 0 : Nat) : Int)))]) dJ1_charAt_3b067_3 cs_J0_checkIndex_df160 kw_409 ⟨rfl, rfl, Nat.le_of_ble_eq_true rfl, Nat.le_of_ble_eq_true rfl⟩ rfl rfl (Nat.le_of_ble_eq_true rfl) (c_J0_checkIndex_df160 _ E _ k ((wLen.getD i 0 : Nat) : Int) (by omega) (by omega) (by omega)) (k_v (fun Mq hz3 => ?_))
  obtain ⟨rfl, hz3⟩ := hz3
  refine x_aload_n B dJ1_charAt_3b067_6 0 rfl rfl ?_
  refine x_iload_n B dJ1_charAt_3b067_7 1 rfl rfl ?_
  refine x_strB B g1 (by omega) (by omega) dJ1_charAt_3b067_8 (fun z8 ez8 lz8 uz8 => ?_)
  refine x_sipush B dJ1_charAt_3b067_9 rfl ?_
  refine x_iand B dJ1_charAt_3b067_12 (by omega) (by omega) ?_
  refine x_top (z8) (and255 (by omega) (by omega)) ?_
  refine x_i2c B dJ1_charAt_3b067_13 (by omega) (by omega) ?_
  exact x_zret B R dJ1_charAt_3b067_14 (nar_c (by omega) (by omega)) ⟨_, rfl, ⟨rfl, Is_e ez8, by omega, by omega⟩⟩
abbrev rm_J0_charAt_5068e : Room := { frames := 3, cells := 0, slots := 0, locals := 64 }
theorem cs_J0_charAt_5068e : Cv yJ0_charAt_5068e cJ0_charAt_5068e 2 (some .char) 1 := ⟨kw_401, ⟨kw_399, kw_400⟩, kw_68, by decide, by decide, by decide +kernel⟩
set_option maxHeartbeats 4000000 in
set_option maxRecDepth 100000 in
theorem c_J0_charAt_5068e (l : Launch) (E : Ev) (M : Mem) (i : Nat) (k : Int) (g1 : i < 16) (g2 : 0 ≤ k) (g3 : k < ((wLen.getD i 0 : Nat) : Int)) : Ct l yJ0_charAt_5068e cJ0_charAt_5068e 2 (some .char) rm_J0_charAt_5068e E M [.ref (E.2.2.2.2.1 (i)), .int (iI (k))] (pI (fun z M' => M = M' ∧ (z = (wBy.getD i []).getD k.toNat 0 ∧ 0 ≤ z ∧ z ≤ 122))) := by
  refine Ct_of (lv := [(0, .ref (E.2.2.2.2.1 (i))), (1, .int (iI (k)))]) (by decide) ⟨rfl, rfl⟩ (Nat.le_of_ble_eq_true rfl) rfl (fun x _ B R => ?_)
  refine x_aload_n B dJ0_charAt_5068e_0 0 rfl rfl ?_
  refine x_callV B (st := []) (av := []) dJ0_charAt_5068e_1 cs_J0_isLatin1_aae02 kw_402 ⟨rfl, rfl, Nat.le_of_ble_eq_true rfl, Nat.le_of_ble_eq_true rfl⟩ rfl rfl (Nat.le_of_ble_eq_true rfl) (rc_str B g1) (c_J0_isLatin1_aae02 _ E _ i (by omega)) (k_i (fun z1 Mq hz1 => ?_))
  obtain ⟨rfl, hz1⟩ := hz1
  refine x_if_eq B (tgt := 16) dJ0_charAt_5068e_4 (by decide) ⟨by omega, by omega⟩ (fun c4 => ?_) (fun c4 => ?_)
  · exact absurd c4 (by omega)
  · show Vx x E M 7 [(0, .ref (E.2.2.2.2.1 (i))), (1, .int (iI (k)))] []
    refine x_aload_n B dJ0_charAt_5068e_7 0 rfl rfl ?_
    refine x_strV B g1 dJ0_charAt_5068e_8 kw_1233 ?_
    refine x_iload_n B dJ0_charAt_5068e_11 1 rfl rfl ?_
    refine x_callS B (st := []) (av := [.ref (E.2.2.2.2.2 (i)), .int (iI (k))]) dJ0_charAt_5068e_12 cs_J1_charAt_3b067 kw_406 ⟨rfl, rfl, Nat.le_of_ble_eq_true rfl, Nat.le_of_ble_eq_true rfl⟩ rfl rfl (Nat.le_of_ble_eq_true rfl) (c_J1_charAt_3b067 _ E _ i k (by omega) (by omega) (by omega)) (k_i (fun z12 Mq hz12 => ?_))
    obtain ⟨rfl, hz12⟩ := hz12
    exact x_zret B R dJ0_charAt_5068e_15 (nar_c (by omega) (by omega)) ⟨_, rfl, ⟨rfl, hz12⟩⟩
abbrev rm_J0_length_8abf5 : Room := { frames := 1, cells := 0, slots := 0, locals := 20 }
theorem cs_J0_length_8abf5 : Cv yJ0_length_8abf5 cJ0_length_8abf5 1 (some .int) 0 := ⟨kw_391, ⟨kw_389, kw_390⟩, kw_68, by decide, by decide, by decide +kernel⟩
set_option maxHeartbeats 4000000 in
set_option maxRecDepth 100000 in
theorem c_J0_length_8abf5 (l : Launch) (E : Ev) (M : Mem) (i : Nat) (g1 : i < 16) : Ct l yJ0_length_8abf5 cJ0_length_8abf5 1 (some .int) rm_J0_length_8abf5 E M [.ref (E.2.2.2.2.1 (i))] (pI (fun z M' => M = M' ∧ (z = ((wLen.getD i 0 : Nat) : Int)))) := by
  refine Ct_of (lv := [(0, .ref (E.2.2.2.2.1 (i)))]) (by decide) ⟨rfl, rfl⟩ (Nat.le_of_ble_eq_true rfl) rfl (fun x _ B R => ?_)
  have h6 := wLen_6 i g1
  refine x_aload_n B dJ0_length_8abf5_0 0 rfl rfl ?_
  refine x_strV B g1 dJ0_length_8abf5_1 kw_1233 ?_
  refine x_strL B g1 dJ0_length_8abf5_4 ?_
  refine x_aload_n B dJ0_length_8abf5_5 0 rfl rfl ?_
  refine x_callV B (st := [.int (iI (((wLen.getD i 0 : Nat) : Int)))]) (av := []) dJ0_length_8abf5_6 cs_J0_coder_7d493 kw_392 ⟨rfl, rfl, Nat.le_of_ble_eq_true rfl, Nat.le_of_ble_eq_true rfl⟩ rfl rfl (Nat.le_of_ble_eq_true rfl) (rc_str B g1) (c_J0_coder_7d493 _ E _ i (by omega)) (k_i (fun z6 Mq hz6 => ?_))
  obtain ⟨rfl, hz6⟩ := hz6
  refine x_ishr B dJ0_length_8abf5_9 (by omega) ⟨by omega, by omega⟩ (by omega) (by omega) ?_
  exact r_i B R dJ0_length_8abf5_10 (⟨rfl, by subst hz6; rfl⟩)
abbrev rm_X5_word : Room := { frames := 0, cells := 0, slots := 0, locals := 0 }
theorem cs_X5_word : Cs yX5_word cX5_word 1 (some (.object "java/lang/String")) 1 := ⟨kw_367, kw_366, kw_61, by decide, by decide, by decide +kernel⟩
set_option maxHeartbeats 4000000 in
set_option maxRecDepth 100000 in
theorem c_X5_word (l : Launch) (E : Ev) (M : Mem) (w : Int) (g1 : 0 ≤ w) (g2 : w < 16) : Ct l yX5_word cX5_word 1 (some (.object "java/lang/String")) rm_X5_word E M [.int (iI (w))] (pR (fun a M' => M = M' ∧ (a = E.2.2.2.2.1 (w.toNat) ∧ True))) := by
  refine Ct_of (lv := [(0, .int (iI (w)))]) (by decide) ⟨rfl, rfl⟩ (Nat.le_of_ble_eq_true rfl) rfl (fun x _ B R => ?_)
  refine x_iload_n B dX5_word_0 0 rfl rfl ?_
  rcases (show (w < 0 ∨ 14 < w) ∨ w = 0 ∨ w = 1 ∨ w = 2 ∨ w = 3 ∨ w = 4 ∨ w = 5 ∨ w = 6 ∨ w = 7 ∨ w = 8 ∨ w = 9 ∨ w = 10 ∨ w = 11 ∨ w = 12 ∨ w = 13 ∨ w = 14 by omega) with hsw | hsw | hsw | hsw | hsw | hsw | hsw | hsw | hsw | hsw | hsw | hsw | hsw | hsw | hsw | hsw
  · refine x_tabOut B (tgt := 121) dX5_word_1 ⟨by omega, by omega⟩ (by omega) (by decide) ?_
    refine x_ldcS B 15 rfl (by decide) rfl dX5_word_121 ?_
    exact r_r B R dX5_word_123 (⟨rfl, by rw [show w = 15 by omega]; rfl, trivial⟩)
  · refine x_tabIn B (tgt := 76) 0 dX5_word_1 ⟨by omega, by omega⟩ (by omega) (by omega) rfl (by decide) ?_
    refine x_ldcS B 0 rfl (by decide) rfl dX5_word_76 ?_
    exact r_r B R dX5_word_78 (⟨rfl, by rw [hsw]; rfl, trivial⟩)
  · refine x_tabIn B (tgt := 79) 1 dX5_word_1 ⟨by omega, by omega⟩ (by omega) (by omega) rfl (by decide) ?_
    refine x_ldcS B 1 rfl (by decide) rfl dX5_word_79 ?_
    exact r_r B R dX5_word_81 (⟨rfl, by rw [hsw]; rfl, trivial⟩)
  · refine x_tabIn B (tgt := 82) 2 dX5_word_1 ⟨by omega, by omega⟩ (by omega) (by omega) rfl (by decide) ?_
    refine x_ldcS B 2 rfl (by decide) rfl dX5_word_82 ?_
    exact r_r B R dX5_word_84 (⟨rfl, by rw [hsw]; rfl, trivial⟩)
  · refine x_tabIn B (tgt := 85) 3 dX5_word_1 ⟨by omega, by omega⟩ (by omega) (by omega) rfl (by decide) ?_
    refine x_ldcS B 3 rfl (by decide) rfl dX5_word_85 ?_
    exact r_r B R dX5_word_87 (⟨rfl, by rw [hsw]; rfl, trivial⟩)
  · refine x_tabIn B (tgt := 88) 4 dX5_word_1 ⟨by omega, by omega⟩ (by omega) (by omega) rfl (by decide) ?_
    refine x_ldcS B 4 rfl (by decide) rfl dX5_word_88 ?_
    exact r_r B R dX5_word_90 (⟨rfl, by rw [hsw]; rfl, trivial⟩)
  · refine x_tabIn B (tgt := 91) 5 dX5_word_1 ⟨by omega, by omega⟩ (by omega) (by omega) rfl (by decide) ?_
    refine x_ldcS B 5 rfl (by decide) rfl dX5_word_91 ?_
    exact r_r B R dX5_word_93 (⟨rfl, by rw [hsw]; rfl, trivial⟩)
  · refine x_tabIn B (tgt := 94) 6 dX5_word_1 ⟨by omega, by omega⟩ (by omega) (by omega) rfl (by decide) ?_
    refine x_ldcS B 6 rfl (by decide) rfl dX5_word_94 ?_
    exact r_r B R dX5_word_96 (⟨rfl, by rw [hsw]; rfl, trivial⟩)
  · refine x_tabIn B (tgt := 97) 7 dX5_word_1 ⟨by omega, by omega⟩ (by omega) (by omega) rfl (by decide) ?_
    refine x_ldcS B 7 rfl (by decide) rfl dX5_word_97 ?_
    exact r_r B R dX5_word_99 (⟨rfl, by rw [hsw]; rfl, trivial⟩)
  · refine x_tabIn B (tgt := 100) 8 dX5_word_1 ⟨by omega, by omega⟩ (by omega) (by omega) rfl (by decide) ?_
    refine x_ldcS B 8 rfl (by decide) rfl dX5_word_100 ?_
    exact r_r B R dX5_word_102 (⟨rfl, by rw [hsw]; rfl, trivial⟩)
  · refine x_tabIn B (tgt := 103) 9 dX5_word_1 ⟨by omega, by omega⟩ (by omega) (by omega) rfl (by decide) ?_
    refine x_ldcS B 9 rfl (by decide) rfl dX5_word_103 ?_
    exact r_r B R dX5_word_105 (⟨rfl, by rw [hsw]; rfl, trivial⟩)
  · refine x_tabIn B (tgt := 106) 10 dX5_word_1 ⟨by omega, by omega⟩ (by omega) (by omega) rfl (by decide) ?_
    refine x_ldcS B 10 rfl (by decide) rfl dX5_word_106 ?_
    exact r_r B R dX5_word_108 (⟨rfl, by rw [hsw]; rfl, trivial⟩)
  · refine x_tabIn B (tgt := 109) 11 dX5_word_1 ⟨by omega, by omega⟩ (by omega) (by omega) rfl (by decide) ?_
    refine x_ldcS B 11 rfl (by decide) rfl dX5_word_109 ?_
    exact r_r B R dX5_word_111 (⟨rfl, by rw [hsw]; rfl, trivial⟩)
  · refine x_tabIn B (tgt := 112) 12 dX5_word_1 ⟨by omega, by omega⟩ (by omega) (by omega) rfl (by decide) ?_
    refine x_ldcS B 12 rfl (by decide) rfl dX5_word_112 ?_
    exact r_r B R dX5_word_114 (⟨rfl, by rw [hsw]; rfl, trivial⟩)
  · refine x_tabIn B (tgt := 115) 13 dX5_word_1 ⟨by omega, by omega⟩ (by omega) (by omega) rfl (by decide) ?_
    refine x_ldcS B 13 rfl (by decide) rfl dX5_word_115 ?_
    exact r_r B R dX5_word_117 (⟨rfl, by rw [hsw]; rfl, trivial⟩)
  · refine x_tabIn B (tgt := 118) 14 dX5_word_1 ⟨by omega, by omega⟩ (by omega) (by omega) rfl (by decide) ?_
    refine x_ldcS B 14 rfl (by decide) rfl dX5_word_118 ?_
    exact r_r B R dX5_word_120 (⟨rfl, by rw [hsw]; rfl, trivial⟩)
abbrev rm_X5_standsThere : Room := { frames := 4, cells := 0, slots := 0, locals := 85 }
theorem cs_X5_standsThere : Cv yX5_standsThere cX5_standsThere 3 (some .boolean) 1 := ⟨kw_387, ⟨kw_386, kw_3⟩, kw_61, by decide, by decide, by decide +kernel⟩
set_option maxHeartbeats 4000000 in
set_option maxRecDepth 100000 in
theorem c_X5_standsThere (l : Launch) (E : Ev) (M : Mem) (i : Nat) (g1 : i < 16) : Ct l yX5_standsThere cX5_standsThere 3 (some .boolean) rm_X5_standsThere E M [.ref (E.1 (7)), .ref (E.2.2.2.2.1 (i))] (pI (fun z M' => M = M' ∧ (z = 1 ∧ stW (M 11) (M 7 8) (M 7 5) i ∨ z = 0 ∧ ¬ stW (M 11) (M 7 8) (M 7 5) i))) := by
  refine Ct_of (lv := [(0, .ref (E.1 (7))), (1, .ref (E.2.2.2.2.1 (i)))]) (by decide) ⟨rfl, rfl⟩ (Nat.le_of_ble_eq_true rfl) rfl (fun x _ B R => ?_)
  have h6 := wLen_6 i g1
  refine x_aload_n B dX5_standsThere_0 1 rfl rfl ?_
  refine x_callV B (st := []) (av := []) dX5_standsThere_1 cs_J0_length_8abf5 kw_388 ⟨rfl, rfl, Nat.le_of_ble_eq_true rfl, Nat.le_of_ble_eq_true rfl⟩ rfl rfl (Nat.le_of_ble_eq_true rfl) (rc_str B g1) (c_J0_length_8abf5 _ E _ i (by omega)) (k_i (fun z1 Mq hz1 => ?_))
  obtain ⟨rfl, hz1⟩ := hz1
  refine x_aload_n B dX5_standsThere_4 0 rfl rfl ?_
  refine x_getI B (ci := 5) (k := 5) (lo := 0) (hi := 200) dX5_standsThere_5 rfl rfl rfl (by decide) inGX5 kw_131 rfl (fun z5 ez5 lz5 uz5 => ?_)
  refine x_aload_n B dX5_standsThere_8 0 rfl rfl ?_
  refine x_getI B (ci := 5) (k := 8) (lo := 0) (hi := 200) dX5_standsThere_9 rfl rfl rfl (by decide) inGX5 kw_134 rfl (fun z9 ez9 lz9 uz9 => ?_)
  refine x_isub B dX5_standsThere_12 ?_
  have e5 := Is_e ez5
  have e9 := Is_e ez9
  refine x_icmp_eq B (tgt := 18) dX5_standsThere_13 (by decide) ⟨by omega, by omega⟩ ⟨by omega, by omega⟩ (fun c13 => ?_) (fun c13 => ?_)
  · show Vx x E M 18 [(0, .ref (E.1 (7))), (1, .ref (E.2.2.2.2.1 (i)))] []
    refine x_iconst B dX5_standsThere_18 ?_
    refine x_istore_n B dX5_standsThere_19 [1, 2, 0] rfl (by decide) (lv' := [(0, .ref (E.1 (7))), (1, .ref (E.2.2.2.2.1 (i))), (2, .int (iI (0)))]) rfl ?_
    have L20 : ∀ (k : Int), (0 ≤ k ∧ k ≤ ((wLen.getD i 0 : Nat) : Int) ∧ ∀ q : Int, 0 ≤ q → q < k → M 11 (M 7 8 + q).toNat = (wBy.getD i []).getD q.toNat 0) → Vx x E M 20 [(0, .ref (E.1 (7))), (1, .ref (E.2.2.2.2.1 (i))), (2, .int (iI (k)))] [] := by
      refine lo1 _ _ (fun k => (((wLen.getD i 0 : Nat) : Int) - k).toNat) ?_
      intro k hI ih20
      obtain ⟨i1, i2, i3⟩ := hI
      refine x_iload_n B dX5_standsThere_20 2 rfl rfl ?_
      refine x_aload_n B dX5_standsThere_21 1 rfl rfl ?_
      refine x_callV B (st := [.int (iI (k))]) (av := []) dX5_standsThere_22 cs_J0_length_8abf5 kw_388 ⟨rfl, rfl, Nat.le_of_ble_eq_true rfl, Nat.le_of_ble_eq_true rfl⟩ rfl rfl (Nat.le_of_ble_eq_true rfl) (rc_str B g1) (c_J0_length_8abf5 _ E _ i (by omega)) (k_i (fun z22 Mq hz22 => ?_))
      obtain ⟨rfl, hz22⟩ := hz22
      refine x_icmp_ge B (tgt := 55) dX5_standsThere_25 (by decide) ⟨by omega, by omega⟩ ⟨by omega, by omega⟩ (fun c25 => ?_) (fun c25 => ?_)
      · show Vx x E M 55 [(0, .ref (E.1 (7))), (1, .ref (E.2.2.2.2.1 (i))), (2, .int (iI (k)))] []
        refine x_iconst B dX5_standsThere_55 ?_
        exact r_z B R dX5_standsThere_56 (by omega) (by omega) (⟨rfl, Or.inl ⟨rfl, by rw [← e5, ← e9, ← c13, hz1], fun q h0 h1 => i3 q h0 (by rw [← e5, ← e9, ← c13, hz1] at h1; omega)⟩⟩)
      · show Vx x E M 28 [(0, .ref (E.1 (7))), (1, .ref (E.2.2.2.2.1 (i))), (2, .int (iI (k)))] []
        refine x_aload_n B dX5_standsThere_28 0 rfl rfl ?_
        refine x_getR B (ci := 5) (k := 4) dX5_standsThere_29 rfl rfl rfl (by decide) inGX5 kw_130 ?_
        refine x_aload_n B dX5_standsThere_32 0 rfl rfl ?_
        refine x_getI B (ci := 5) (k := 8) (lo := 0) (hi := 200) dX5_standsThere_33 rfl rfl rfl (by decide) inGX5 kw_134 rfl (fun z33 ez33 lz33 uz33 => ?_)
        have e33 := Is_e ez33
        refine x_iload_n B dX5_standsThere_36 2 rfl rfl ?_
        refine x_iadd B dX5_standsThere_37 ?_
        refine x_iald B (lo := 0) (hi := 255) dX5_standsThere_38 rfl (by omega) (by omega) rfl (fun z38 ez38 lz38 uz38 => ?_)
        refine x_aload_n B dX5_standsThere_39 1 rfl rfl ?_
        refine x_iload_n B dX5_standsThere_40 2 rfl rfl ?_
        refine x_callV B (st := [.int (iI (z38))]) (av := [.int (iI (k))]) dX5_standsThere_41 cs_J0_charAt_5068e kw_398 ⟨rfl, rfl, Nat.le_of_ble_eq_true rfl, Nat.le_of_ble_eq_true rfl⟩ rfl rfl (Nat.le_of_ble_eq_true rfl) (rc_str B g1) (c_J0_charAt_5068e _ E _ i k (by omega) (by omega) (by omega)) (k_i (fun z41 Mq hz41 => ?_))
        obtain ⟨rfl, hz41⟩ := hz41
        have e38 := Is_e ez38
        refine x_icmp_eq B (tgt := 49) dX5_standsThere_44 (by decide) ⟨by omega, by omega⟩ ⟨by omega, by omega⟩ (fun c44 => ?_) (fun c44 => ?_)
        · show Vx x E M 49 [(0, .ref (E.1 (7))), (1, .ref (E.2.2.2.2.1 (i))), (2, .int (iI (k)))] []
          refine x_iinc B (q := 2) dX5_standsThere_49 rfl [1, 2, 0] (by decide) (lv' := [(0, .ref (E.1 (7))), (1, .ref (E.2.2.2.2.1 (i))), (2, .int (iI (k + 1)))]) rfl ?_
          refine x_goto B (tgt := 20) dX5_standsThere_52 (by decide) ?_
          exact ih20 (k + 1) (⟨by omega, by omega, fun q h0 h1 => if h : q < k then i3 q h0 h else by rw [show q = k by omega, ← e33, ← e38, ← hz41.1]; exact c44⟩) (by omega)
        · show Vx x E M 47 [(0, .ref (E.1 (7))), (1, .ref (E.2.2.2.2.1 (i))), (2, .int (iI (k)))] []
          refine x_iconst B dX5_standsThere_47 ?_
          exact r_z B R dX5_standsThere_48 (by omega) (by omega) (⟨rfl, Or.inr ⟨rfl, fun h => c44 (by rw [e38, hz41.1, e33]; exact h.2 k (by omega) (by rw [← e5, ← e9, ← c13, hz1]; omega))⟩⟩)
    exact L20 0 (⟨by omega, by omega, fun q h0 h1 => by omega⟩)
  · show Vx x E M 16 [(0, .ref (E.1 (7))), (1, .ref (E.2.2.2.2.1 (i)))] []
    refine x_iconst B dX5_standsThere_16 ?_
    exact r_z B R dX5_standsThere_17 (by omega) (by omega) (⟨rfl, Or.inr ⟨rfl, fun h => c13 (by rw [hz1, e5, e9]; exact h.1.symm)⟩⟩)
abbrev rm_X5_wordRead : Room := { frames := 5, cells := 0, slots := 0, locals := 107 }
theorem cs_X5_wordRead : Cv yX5_wordRead cX5_wordRead 2 (some .int) 0 := ⟨kw_364, ⟨kw_363, kw_2⟩, kw_61, by decide, by decide, by decide +kernel⟩
set_option maxHeartbeats 4000000 in
set_option maxRecDepth 100000 in
theorem c_X5_wordRead (l : Launch) (E : Ev) (M : Mem)   : Ct l yX5_wordRead cX5_wordRead 2 (some .int) rm_X5_wordRead E M [.ref (E.1 (7))] (pI (fun z M' => M = M' ∧ (wdR (M 11) (M 7 8) (M 7 5) z))) := by
  refine Ct_of (lv := [(0, .ref (E.1 (7)))]) (by decide) ⟨rfl, rfl⟩ (Nat.le_of_ble_eq_true rfl) rfl (fun x _ B R => ?_)
  refine x_iconst B dX5_wordRead_0 ?_
  refine x_istore_n B dX5_wordRead_1 [1, 0] rfl (by decide) (lv' := [(0, .ref (E.1 (7))), (1, .int (iI (0)))]) rfl ?_
  have L2 : ∀ (w : Int), (0 ≤ w ∧ w ≤ 16 ∧ ∀ j : Int, 0 ≤ j → j < w → ¬ stW (M 11) (M 7 8) (M 7 5) j.toNat) → Vx x E M 2 [(0, .ref (E.1 (7))), (1, .int (iI (w)))] [] := by
    refine lo1 _ _ (fun w => (16 - w).toNat) ?_
    intro w hI ih2
    obtain ⟨i1, i2, i3⟩ := hI
    refine x_iload_n B dX5_wordRead_2 1 rfl rfl ?_
    refine x_bipush B dX5_wordRead_3 rfl ?_
    refine x_icmp_ge B (tgt := 27) dX5_wordRead_5 (by decide) ⟨by omega, by omega⟩ ⟨by omega, by omega⟩ (fun c5 => ?_) (fun c5 => ?_)
    · show Vx x E M 27 [(0, .ref (E.1 (7))), (1, .int (iI (w)))] []
      refine x_bipush B dX5_wordRead_27 rfl ?_
      exact r_i B R dX5_wordRead_29 (⟨rfl, by omega, by omega, fun j h0 h1 => i3 j h0 (by omega), Or.inl rfl⟩)
    · show Vx x E M 8 [(0, .ref (E.1 (7))), (1, .int (iI (w)))] []
      refine x_aload_n B dX5_wordRead_8 0 rfl rfl ?_
      refine x_iload_n B dX5_wordRead_9 1 rfl rfl ?_
      refine x_callS B (st := [.ref (E.1 (7))]) (av := [.int (iI (w))]) dX5_wordRead_10 cs_X5_word kw_365 ⟨rfl, rfl, Nat.le_of_ble_eq_true rfl, Nat.le_of_ble_eq_true rfl⟩ rfl rfl (Nat.le_of_ble_eq_true rfl) (c_X5_word _ E _ w (by omega) (by omega)) (k_r (fun az10 Mq hz10 => ?_))
      obtain ⟨rfl, hz10⟩ := hz10
      obtain ⟨rfl, hz10⟩ := hz10
      refine x_callV B (st := []) (av := [.ref (E.2.2.2.2.1 ((w).toNat))]) dX5_wordRead_13 cs_X5_standsThere kw_384 ⟨rfl, rfl, Nat.le_of_ble_eq_true rfl, Nat.le_of_ble_eq_true rfl⟩ rfl rfl (Nat.le_of_ble_eq_true rfl) (rc_obj B (ci := 5) rfl rfl rfl) (c_X5_standsThere _ E _ ((w).toNat) (by omega)) (k_i (fun z13 Mq hz13 => ?_))
      obtain ⟨rfl, hz13⟩ := hz13
      refine x_if_eq B (tgt := 21) dX5_wordRead_16 (by decide) ⟨by omega, by omega⟩ (fun c16 => ?_) (fun c16 => ?_)
      · show Vx x E M 21 [(0, .ref (E.1 (7))), (1, .int (iI (w)))] []
        refine x_iinc B (q := 1) dX5_wordRead_21 rfl [1, 0] (by decide) (lv' := [(0, .ref (E.1 (7))), (1, .int (iI (w + 1)))]) rfl ?_
        refine x_goto B (tgt := 2) dX5_wordRead_24 (by decide) ?_
        exact ih2 (w + 1) (⟨by omega, by omega, fun j h0 h1 => if h : j < w then i3 j h0 h else by rw [show j = w by omega]; rcases hz13 with ⟨h5, h6⟩ | ⟨h5, h6⟩ <;> first | omega | exact h6⟩) (by omega)
      · show Vx x E M 19 [(0, .ref (E.1 (7))), (1, .int (iI (w)))] []
        refine x_iload_n B dX5_wordRead_19 1 rfl rfl ?_
        exact r_i B R dX5_wordRead_20 (⟨rfl, by omega, by omega, i3, Or.inr (by rcases hz13 with ⟨h5, h6⟩ | ⟨h5, h6⟩ <;> first | omega | exact h6)⟩)
  exact L2 0 (⟨by omega, by omega, fun j h0 h1 => by omega⟩)
