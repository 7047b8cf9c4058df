def kiS (d p i : Int) : Int := if i = 0 then ((ndf d.toNat (2 ^ p.toNat) : Nat) : Int) else ((d.toNat ||| 2 ^ p.toNat : Nat) : Int)
theorem ndf16 {a b : Int} (a0 : 0 ≤ a) (a1 : a ≤ 65535) : (0 : Int) ≤ ((ndf a.toNat b.toNat : Nat) : Int) ∧ ((ndf a.toNat b.toNat : Nat) : Int) ≤ 65535 := by
  have e : (2 : Nat) ^ 16 = 65536 := by decide
  have h1 : a.toNat < 2 ^ 16 := by omega
  have h2 : a.toNat &&& b.toNat < 2 ^ 16 := Nat.lt_of_le_of_lt Nat.and_le_left h1
  have h3 := Nat.xor_lt_two_pow h1 h2
  unfold ndf
  omega
abbrev rm_X7_kill : Room := { frames := 1, cells := 0, slots := 0, locals := 21 }
theorem cs_X7_kill : Cv yX7_kill cX7_kill 4 (some .int) 2 := ⟨kw_753, ⟨kw_751, kw_752⟩, kw_57, by decide, by decide, by decide +kernel⟩
set_option maxHeartbeats 4000000 in
set_option maxRecDepth 100000 in
theorem c_X7_kill (l : Launch) (E : Ev) (M : Mem) (p i : Int) (g1 : -2147483648 ≤ p) (g2 : p < 2147483648) (g3 : 0 ≤ i) (g4 : i ≤ 1) : Ct l yX7_kill cX7_kill 4 (some .int) rm_X7_kill E M [.ref (E.1 (0)), .int (iI (p)), .int (iI (i))] (pI (fun z M' => z = -1 ∧ M' = M ∧ ¬ (0 ≤ p ∧ p < 16) ∨ (0 ≤ p ∧ p < 16) ∧ z = (if (M 2 11).toNat.testBit p.toNat = true then 1 else 0) ∧ M' = sto M 2 11 (kiS (M 2 11) p i))) := by
  refine Ct_of (lv := [(0, .ref (E.1 (0))), (1, .int (iI (p))), (2, .int (iI (i)))]) (by decide) ⟨rfl, rfl⟩ (Nat.le_of_ble_eq_true rfl) rfl (fun x _ B R => ?_)
  refine x_iload_n B dX7_kill_0 1 rfl rfl ?_
  refine x_bipush B dX7_kill_1 rfl ?_
  refine x_callS B (st := []) (av := [.int (iI (p)), .int (iI (16))]) dX7_kill_3 cs_X7_within kw_495 ⟨rfl, rfl, Nat.le_of_ble_eq_true rfl, Nat.le_of_ble_eq_true rfl⟩ rfl rfl (Nat.le_of_ble_eq_true rfl) (c_X7_within _ E _ p 16 (by omega) (by omega) (by omega) (by omega)) (k_i (fun z3 Mq hz3 => ?_))
  obtain ⟨rfl, hz3⟩ := hz3
  refine x_if_ne B (tgt := 11) dX7_kill_6 (by decide) ⟨by omega, by omega⟩ (fun c6 => ?_) (fun c6 => ?_)
  · show Vx x E M 11 [(0, .ref (E.1 (0))), (1, .int (iI (p))), (2, .int (iI (i)))] []
    refine x_aload_n B dX7_kill_11 0 rfl rfl ?_
    refine x_getR B (ci := 7) (k := 0) dX7_kill_12 rfl rfl rfl (by decide) inGX7 kw_283 ?_
    refine x_getR B (ci := 1) (k := 0) dX7_kill_15 rfl rfl rfl (by decide) inGX1 kw_103 ?_
    refine x_bipush B dX7_kill_18 rfl ?_
    refine x_iald B (lo := 0) (hi := 65535) dX7_kill_20 rfl (by omega) (by omega) rfl (fun z20 ez20 lz20 uz20 => ?_)
    have ez20 : Is z20 (M 2 11) := ez20
    refine x_iload_n B dX7_kill_21 1 rfl rfl ?_
    refine x_callS B (st := []) (av := [.int (iI (z20)), .int (iI (p))]) dX7_kill_22 cs_X7_bit kw_571 ⟨rfl, rfl, Nat.le_of_ble_eq_true rfl, Nat.le_of_ble_eq_true rfl⟩ rfl rfl (Nat.le_of_ble_eq_true rfl) (c_X7_bit _ E _ z20 p (by omega) (by omega) (by omega) (by omega)) (k_i (fun z22 Mq hz22 => ?_))
    obtain ⟨rfl, hz22⟩ := hz22
    have hbit : z22 = (if (M 2 11).toNat.testBit p.toNat = true then 1 else 0) := by
      rw [Is_e ez20] at hz22
      rcases hz22 with ⟨h5, h6⟩ | ⟨h5, h6⟩
      · rw [if_pos h6]
        exact h5
      · rw [if_neg (by rw [h6]; decide)]
        exact h5
    refine x_istore_n B dX7_kill_25 [1, 2, 3, 0] rfl (by decide) (lv' := [(0, .ref (E.1 (0))), (1, .int (iI (p))), (2, .int (iI (i))), (3, .int (iI (z22)))]) rfl ?_
    refine x_iload_n B dX7_kill_26 2 rfl rfl ?_
    refine x_if_eq B (tgt := 49) dX7_kill_27 (by decide) ⟨by omega, by omega⟩ (fun c27 => ?_) (fun c27 => ?_)
    · show Vx x E M 49 [(0, .ref (E.1 (0))), (1, .int (iI (p))), (2, .int (iI (i))), (3, .int (iI (z22)))] []
      refine x_aload_n B dX7_kill_49 0 rfl rfl ?_
      refine x_getR B (ci := 7) (k := 0) dX7_kill_50 rfl rfl rfl (by decide) inGX7 kw_283 ?_
      refine x_getR B (ci := 1) (k := 0) dX7_kill_53 rfl rfl rfl (by decide) inGX1 kw_103 ?_
      refine x_bipush B dX7_kill_56 rfl ?_
      refine x_dup2 B dX7_kill_58 rfl rfl ?_
      refine x_iald B (lo := 0) (hi := 65535) dX7_kill_59 rfl (by omega) (by omega) rfl (fun z59 ez59 lz59 uz59 => ?_)
      have ez59 : Is z59 (M 2 11) := ez59
      refine x_iconst B dX7_kill_60 ?_
      refine x_iload_n B dX7_kill_61 1 rfl rfl ?_
      refine x_shl1 B dX7_kill_62 (by omega) (by omega) ?_
      refine x_iconst B dX7_kill_63 ?_
      refine x_inot B dX7_kill_64 ?_
      refine x_iandn B dX7_kill_65 (by omega) (Int.natCast_nonneg _) ?_
      have d16 := ndf16 (a := z59) (b := ((2 ^ p.toNat : Nat) : Int)) (by omega) (by omega)
      refine x_iast B (lo := 0) (hi := 65535) dX7_kill_66 rfl (by omega) (by omega) rfl d16.1 d16.2 ?_
      refine x_iload_n B dX7_kill_67 3 rfl rfl ?_
      exact r_i B R dX7_kill_68 (Or.inr ⟨by omega, hbit, by unfold kiS; rw [if_pos c27, ← Is_e ez59, Int.toNat_natCast]; rfl⟩)
    · show Vx x E M 30 [(0, .ref (E.1 (0))), (1, .int (iI (p))), (2, .int (iI (i))), (3, .int (iI (z22)))] []
      refine x_aload_n B dX7_kill_30 0 rfl rfl ?_
      refine x_getR B (ci := 7) (k := 0) dX7_kill_31 rfl rfl rfl (by decide) inGX7 kw_283 ?_
      refine x_getR B (ci := 1) (k := 0) dX7_kill_34 rfl rfl rfl (by decide) inGX1 kw_103 ?_
      refine x_bipush B dX7_kill_37 rfl ?_
      refine x_dup2 B dX7_kill_39 rfl rfl ?_
      refine x_iald B (lo := 0) (hi := 65535) dX7_kill_40 rfl (by omega) (by omega) rfl (fun z40 ez40 lz40 uz40 => ?_)
      have ez40 : Is z40 (M 2 11) := ez40
      refine x_iconst B dX7_kill_41 ?_
      refine x_iload_n B dX7_kill_42 1 rfl rfl ?_
      refine x_shl1 B dX7_kill_43 (by omega) (by omega) ?_
      refine x_ior B dX7_kill_44 (by omega) (Int.natCast_nonneg _) ?_
      have o16 := or16 (a := z40) (p := p) (by omega) (by omega) (by omega) (by omega)
      refine x_iast B (lo := 0) (hi := 65535) dX7_kill_45 rfl (by omega) (by omega) rfl o16.1 o16.2 ?_
      refine x_goto B (tgt := 67) dX7_kill_46 (by decide) ?_
      refine x_iload_n B dX7_kill_67 3 rfl rfl ?_
      exact r_i B R dX7_kill_68 (Or.inr ⟨by omega, hbit, by unfold kiS; rw [if_neg c27, ← Is_e ez40, Int.toNat_natCast]; rfl⟩)
  · show Vx x E M 9 [(0, .ref (E.1 (0))), (1, .int (iI (p))), (2, .int (iI (i)))] []
    refine x_iconst B dX7_kill_9 ?_
    exact r_i B R dX7_kill_10 (Or.inl ⟨rfl, rfl, by omega⟩)
def coC (M : Mem) (w : Int) : Int := if w = 0 then M 0 12 else if w = 1 then ((popN (M 2 11).toNat 16 : Nat) : Int) else if w = 2 then ((popN (bK (poB (M 13)) 16) 16 : Nat) : Int) else if w = 3 then M 57 4 else if w = 4 then suK (fun j => if 0 < M 12 j then 1 else 0) 384 else if w = 5 then M 7 1 else if w = 6 then (if M 63 1 < 0 then -4 else M 63 1) else -1
abbrev rm_X7_count : Room := { frames := 1, cells := 0, slots := 0, locals := 25 }
theorem cs_X7_count : Cv yX7_count cX7_count 2 (some .int) 1 := ⟨kw_794, ⟨kw_792, kw_793⟩, kw_57, by decide, by decide, by decide +kernel⟩
set_option maxHeartbeats 4000000 in
set_option maxRecDepth 100000 in
theorem c_X7_count (l : Launch) (E : Ev) (M : Mem) (w : Int) (g1 : -2147483648 ≤ w) (g2 : w < 2147483648) : Ct l yX7_count cX7_count 2 (some .int) rm_X7_count E M [.ref (E.1 (0)), .int (iI (w))] (pI (fun z M' => M = M' ∧ (z = coC M w))) := by
  refine Ct_of (lv := [(0, .ref (E.1 (0))), (1, .int (iI (w)))]) (by decide) ⟨rfl, rfl⟩ (Nat.le_of_ble_eq_true rfl) rfl (fun x _ B R => ?_)
  refine x_wf (fun hwf => ?_)
  refine x_iload_n B dX7_count_0 1 rfl rfl ?_
  rcases (show (w < 0 ∨ 6 < w) ∨ w = 0 ∨ w = 1 ∨ w = 2 ∨ w = 3 ∨ w = 4 ∨ w = 5 ∨ w = 6 by omega) with hsw | hsw | hsw | hsw | hsw | hsw | hsw | hsw
  · refine x_tabOut B (tgt := 126) dX7_count_1 ⟨by omega, by omega⟩ (by omega) (by decide) ?_
    refine x_iconst B dX7_count_126 ?_
    exact r_i B R dX7_count_127 (⟨rfl, by unfold coC; rw [if_neg (by omega), if_neg (by omega), if_neg (by omega), if_neg (by omega), if_neg (by omega), if_neg (by omega), if_neg (by omega)]⟩)
  · refine x_tabIn B (tgt := 44) 0 dX7_count_1 ⟨by omega, by omega⟩ (by omega) (by omega) rfl (by decide) ?_
    refine x_aload_n B dX7_count_44 0 rfl rfl ?_
    refine x_getI B (ci := 7) (k := 12) (lo := 0) (hi := 25) dX7_count_45 rfl rfl rfl (by decide) inGX7 kw_295 rfl (fun z45 ez45 lz45 uz45 => ?_)
    exact r_i B R dX7_count_48 (⟨rfl, by unfold coC; rw [if_pos hsw]; exact Is_e ez45⟩)
  · refine x_tabIn B (tgt := 49) 1 dX7_count_1 ⟨by omega, by omega⟩ (by omega) (by omega) rfl (by decide) ?_
    refine x_aload_n B dX7_count_49 0 rfl rfl ?_
    refine x_getR B (ci := 7) (k := 0) dX7_count_50 rfl rfl rfl (by decide) inGX7 kw_283 ?_
    refine x_getR B (ci := 1) (k := 0) dX7_count_53 rfl rfl rfl (by decide) inGX1 kw_103 ?_
    refine x_bipush B dX7_count_56 rfl ?_
    refine x_iald B (lo := 0) (hi := 65535) dX7_count_58 rfl (by omega) (by omega) rfl (fun z58 ez58 lz58 uz58 => ?_)
    have ez58 : Is z58 (M 2 11) := ez58
    refine x_callS B (st := []) (av := [.int (iI (z58))]) dX7_count_59 cs_J6_bitCount_0f7a4 kw_668 ⟨rfl, rfl, Nat.le_of_ble_eq_true rfl, Nat.le_of_ble_eq_true rfl⟩ rfl rfl (Nat.le_of_ble_eq_true rfl) (c_J6_bitCount_0f7a4 _ E _ z58 (by omega) (by omega)) (k_i (fun z59 Mq hz59 => ?_))
    obtain ⟨rfl, hz59⟩ := hz59
    exact r_i B R dX7_count_62 (⟨rfl, by unfold coC; rw [if_neg (by omega), if_pos hsw, hz59.1, Is_e ez58]⟩)
  · refine x_tabIn B (tgt := 63) 2 dX7_count_1 ⟨by omega, by omega⟩ (by omega) (by omega) rfl (by decide) ?_
    refine x_aload_n B dX7_count_63 0 rfl rfl ?_
    refine x_getR B (ci := 7) (k := 4) dX7_count_64 rfl rfl rfl (by decide) inGX7 kw_287 ?_
    refine x_aload_n B dX7_count_67 0 rfl rfl ?_
    refine x_getR B (ci := 7) (k := 5) dX7_count_68 rfl rfl rfl (by decide) inGX7 kw_288 ?_
    refine x_callS B (st := []) (av := [.ref (E.1 (13)), .ref (E.1 (14))]) dX7_count_71 cs_X7_above kw_576 ⟨rfl, rfl, Nat.le_of_ble_eq_true rfl, Nat.le_of_ble_eq_true rfl⟩ rfl rfl (Nat.le_of_ble_eq_true rfl) (c_X7_above _ E _ 13 14 rfl (fun j => ⟨by show (0 : Int) ≤ 0; omega, by show (9 : Int) ≤ 9; omega⟩) rfl (fun j => ⟨by show (0 : Int) ≤ 0; omega, by show (0 : Int) ≤ 9; omega⟩)) (k_i (fun z71 Mq hz71 => ?_))
    obtain ⟨rfl, hz71⟩ := hz71
    refine x_callS B (st := []) (av := [.int (iI (z71))]) dX7_count_74 cs_J6_bitCount_0f7a4 kw_668 ⟨rfl, rfl, Nat.le_of_ble_eq_true rfl, Nat.le_of_ble_eq_true rfl⟩ rfl rfl (Nat.le_of_ble_eq_true rfl) (c_J6_bitCount_0f7a4 _ E _ z71 (by omega) (by omega)) (k_i (fun z74 Mq hz74 => ?_))
    obtain ⟨rfl, hz74⟩ := hz74
    exact r_i B R dX7_count_77 (⟨rfl, by unfold coC; rw [if_neg (by omega), if_neg (by omega), if_pos hsw, hz74.1, hz71.1, Int.toNat_natCast, gtB_0 hwf]; rfl⟩)
  · refine x_tabIn B (tgt := 78) 3 dX7_count_1 ⟨by omega, by omega⟩ (by omega) (by omega) rfl (by decide) ?_
    refine x_aload_n B dX7_count_78 0 rfl rfl ?_
    refine x_getR B (ci := 7) (k := 10) dX7_count_79 rfl rfl rfl (by decide) inGX7 kw_293 ?_
    refine x_getI B (ci := 3) (k := 4) (lo := 0) (hi := 12) dX7_count_82 rfl rfl rfl (by decide) inGX3 kw_251 rfl (fun z82 ez82 lz82 uz82 => ?_)
    exact r_i B R dX7_count_85 (⟨rfl, by unfold coC; rw [if_neg (by omega), if_neg (by omega), if_neg (by omega), if_pos hsw]; exact Is_e ez82⟩)
  · refine x_tabIn B (tgt := 86) 4 dX7_count_1 ⟨by omega, by omega⟩ (by omega) (by omega) rfl (by decide) ?_
    refine x_aload_n B dX7_count_86 0 rfl rfl ?_
    refine x_callV B (st := []) (av := []) dX7_count_87 cs_X7_lit kw_795 ⟨rfl, rfl, Nat.le_of_ble_eq_true rfl, Nat.le_of_ble_eq_true rfl⟩ rfl rfl (Nat.le_of_ble_eq_true rfl) (rc_obj B (ci := 7) rfl rfl rfl) (c_X7_lit _ E _ ) (k_i (fun z87 Mq hz87 => ?_))
    obtain ⟨rfl, hz87⟩ := hz87
    exact r_i B R dX7_count_90 (⟨rfl, by unfold coC; rw [if_neg (by omega), if_neg (by omega), if_neg (by omega), if_neg (by omega), if_pos hsw]; exact hz87.1⟩)
  · refine x_tabIn B (tgt := 91) 5 dX7_count_1 ⟨by omega, by omega⟩ (by omega) (by omega) rfl (by decide) ?_
    refine x_aload_n B dX7_count_91 0 rfl rfl ?_
    refine x_getR B (ci := 7) (k := 2) dX7_count_92 rfl rfl rfl (by decide) inGX7 kw_285 ?_
    refine x_getI B (ci := 5) (k := 1) (lo := 0) (hi := 200) dX7_count_95 rfl rfl rfl (by decide) inGX5 kw_125 rfl (fun z95 ez95 lz95 uz95 => ?_)
    exact r_i B R dX7_count_98 (⟨rfl, by unfold coC; rw [if_neg (by omega), if_neg (by omega), if_neg (by omega), if_neg (by omega), if_neg (by omega), if_pos hsw]; exact Is_e ez95⟩)
  · refine x_tabIn B (tgt := 99) 6 dX7_count_1 ⟨by omega, by omega⟩ (by omega) (by omega) rfl (by decide) ?_
    refine x_aload_n B dX7_count_99 0 rfl rfl ?_
    refine x_getR B (ci := 7) (k := 11) dX7_count_100 rfl rfl rfl (by decide) inGX7 kw_294 ?_
    refine x_iconst B dX7_count_103 ?_
    refine x_aald B dX7_count_104 (k := 3) rfl (by decide) (by decide) rfl (by omega) (by omega) (sh_get (by omega) (by omega)) ?_
    refine x_getI B (ci := 6) (k := 1) (lo := -1) (hi := 64) dX7_count_105 (tS_o (((0 : Int)).toNat) (by omega)) rfl rfl (by decide) inGX6 kw_274 (rS_o1 (((0 : Int)).toNat) (by omega)) (fun z105 ez105 lz105 uz105 => ?_)
    have e105 : z105 = M 63 1 := Is_e ez105
    refine x_if_ge B (tgt := 116) dX7_count_108 (by decide) ⟨by omega, by omega⟩ (fun c108 => ?_) (fun c108 => ?_)
    · show Vx x E M 116 [(0, .ref (E.1 (0))), (1, .int (iI (w)))] []
      refine x_aload_n B dX7_count_116 0 rfl rfl ?_
      refine x_getR B (ci := 7) (k := 11) dX7_count_117 rfl rfl rfl (by decide) inGX7 kw_294 ?_
      refine x_iconst B dX7_count_120 ?_
      refine x_aald B dX7_count_121 (k := 3) rfl (by decide) (by decide) rfl (by omega) (by omega) (sh_get (by omega) (by omega)) ?_
      refine x_getI B (ci := 6) (k := 1) (lo := -1) (hi := 64) dX7_count_122 (tS_o (((0 : Int)).toNat) (by omega)) rfl rfl (by decide) inGX6 kw_274 (rS_o1 (((0 : Int)).toNat) (by omega)) (fun z122 ez122 lz122 uz122 => ?_)
      exact r_i B R dX7_count_125 (⟨rfl, by unfold coC; rw [if_neg (by omega), if_neg (by omega), if_neg (by omega), if_neg (by omega), if_neg (by omega), if_neg (by omega), if_pos hsw, if_neg (by rw [← e105]; omega)]; exact Is_e ez122⟩)
    · show Vx x E M 111 [(0, .ref (E.1 (0))), (1, .int (iI (w)))] []
      refine x_bipush B dX7_count_111 rfl ?_
      refine x_goto B (tgt := 125) dX7_count_113 (by decide) ?_
      exact r_i B R dX7_count_125 (⟨rfl, by unfold coC; rw [if_neg (by omega), if_neg (by omega), if_neg (by omega), if_neg (by omega), if_neg (by omega), if_neg (by omega), if_pos hsw, if_pos (by rw [← e105]; omega)]⟩)
/-- a pair's own count, by tongue (0), ear (1), both (2) -/
def paS (t e : Prop) (w : Int) : Prop := if w = 0 then t else if w = 1 then e else t ∧ e
def soB (a b : Nat → Int) (m : Int) : Bool := (List.range 16).all (fun q => loS a m (q : Int) == loS b m (q : Int))
theorem soB_iff {a b : Nat → Int} {m : Int} : soB a b m = true ↔ soE a b m := by
  unfold soB soE
  rw [List.all_eq_true]
  constructor
  · intro h p p0 p1
    have h2 := eq_of_beq (h p.toNat (List.mem_range.mpr (by omega)))
    rw [Int.toNat_of_nonneg p0] at h2
    exact h2
  · intro h q hq
    rw [h (q : Int) (by omega) (by have := List.mem_range.mp hq; omega)]
    exact beq_self_eq_true _
def pwB (t e : Bool) (w : Int) : Bool := if w = 0 then t else if w = 1 then e else t && e
def beB (fe : Int → Nat → Int) (sh : Int → Nat → Int) (m w a b : Int) : Int := if pwB (eqB (fe a) (fe b)) (soB (sh a) (sh b) m) w = true then 1 else 0
def beI (fe sh : Int → Nat → Int) (m w a : Int) : Nat → Int
  | 0 => 0
  | k + 1 => beI fe sh m w a k + beB fe sh m w a (a + 1 + (k : Int))
def beO (fe sh : Int → Nat → Int) (m w : Int) : Nat → Int
  | 0 => 0
  | k + 1 => beO fe sh m w k + beI fe sh m w (k : Int) (5 - k)
