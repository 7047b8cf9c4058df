/-! ===== bits gathered, sums ===== -/
def bK (c : Nat → Bool) : Nat → Nat
  | 0 => 0
  | k + 1 => if c k = true then bK c k ||| 2 ^ k else bK c k
theorem bK_lt (c : Nat → Bool) : ∀ k, bK c k < 2 ^ k := by
  intro k
  induction k with
  | zero => exact Nat.lt_of_lt_of_le Nat.zero_lt_one (Nat.le_refl 1)
  | succ k ih =>
    have h2 : (2 : Nat) ^ k < 2 ^ (k + 1) := Nat.pow_lt_pow_right (by omega) (by omega)
    show (if _ then _ else _) < _
    split
    · exact Nat.or_lt_two_pow (Nat.lt_trans ih h2) h2
    · exact Nat.lt_trans ih h2
theorem bK_cg {c c' : Nat → Bool} : ∀ n, (∀ q, q < n → c q = c' q) → bK c n = bK c' n := by
  intro n
  induction n with
  | zero => exact fun _ => rfl
  | succ k ih =>
    intro h
    show (if _ then _ else _) = (if _ then _ else _)
    rw [ih (fun q hq => h q (by omega)), h k (by omega)]
theorem bK_bit (c : Nat → Bool) : ∀ n i, (bK c n).testBit i = (decide (i < n) && c i) := by
  intro n
  induction n with
  | zero => intro i; simp [bK]
  | succ k ih =>
    intro i
    show (if c k = true then bK c k ||| 2 ^ k else bK c k).testBit i = _
    by_cases hc : c k = true
    · rw [if_pos hc, Nat.testBit_or, ih, Nat.testBit_two_pow]
      by_cases e : k = i
      · subst e; simp [hc]
      · have : decide (i < k) = decide (i < k + 1) := by simp; omega
        simp [e, this]
    · rw [if_neg hc, ih]
      by_cases e : k = i
      · subst e; simp [hc]
      · have : decide (i < k) = decide (i < k + 1) := by simp; omega
        rw [this]
theorem bK_t {c : Nat → Bool} {k : Int} (h0 : 0 ≤ k) (hc : c k.toNat = true) {a : Int} (ha : Is a ((bK c k.toNat : Nat) : Int)) : Is ((a.toNat ||| ((2 ^ k.toNat : Nat) : Int).toNat : Nat) : Int) ((bK c (k + 1).toNat : Nat) : Int) := by
  show _ = _
  rw [show (k + 1).toNat = k.toNat + 1 by omega, Is_e ha, Int.toNat_natCast, Int.toNat_natCast]
  show _ = (((if c k.toNat = true then bK c k.toNat ||| 2 ^ k.toNat else bK c k.toNat : Nat)) : Int)
  rw [if_pos hc]
theorem bK_f {c : Nat → Bool} {k : Int} (h0 : 0 ≤ k) (hc : ¬ c k.toNat = true) {a : Int} (ha : Is a ((bK c k.toNat : Nat) : Int)) : Is a ((bK c (k + 1).toNat : Nat) : Int) := by
  show _ = _
  rw [show (k + 1).toNat = k.toNat + 1 by omega, Is_e ha]
  show _ = (((if c k.toNat = true then bK c k.toNat ||| 2 ^ k.toNat else bK c k.toNat : Nat)) : Int)
  rw [if_neg hc]
theorem bK_le16 (c : Nat → Bool) : (0 : Int) ≤ ((bK c 16 : Nat) : Int) ∧ ((bK c 16 : Nat) : Int) ≤ 65535 := by
  have := bK_lt c 16
  have e : (2 : Nat) ^ 16 = 65536 := by decide
  omega
theorem bK_le6 (c : Nat → Bool) : (0 : Int) ≤ ((bK c 6 : Nat) : Int) ∧ ((bK c 6 : Nat) : Int) ≤ 63 := by
  have := bK_lt c 6
  have e : (2 : Nat) ^ 6 = 64 := by decide
  omega
theorem bK_le26 (c : Nat → Bool) : (0 : Int) ≤ ((bK c 26 : Nat) : Int) ∧ ((bK c 26 : Nat) : Int) ≤ 67108863 := by
  have := bK_lt c 26
  have e : (2 : Nat) ^ 26 = 67108864 := by decide
  omega
def suK (f : Nat → Int) : Nat → Int
  | 0 => 0
  | k + 1 => suK f k + f k
theorem suK_s {f : Nat → Int} {k : Int} (h0 : 0 ≤ k) : suK f (k + 1).toNat = suK f k.toNat + f k.toNat := by
  rw [show (k + 1).toNat = k.toNat + 1 by omega]
  rfl
theorem suK_cg {f g : Nat → Int} : ∀ n, (∀ q, q < n → f q = g q) → suK f n = suK g n := by
  intro n
  induction n with
  | zero => exact fun _ => rfl
  | succ k ih =>
    intro h
    show suK f k + f k = suK g k + g k
    rw [ih (fun q hq => h q (by omega)), h k (by omega)]
def eqB (a b : Nat → Int) : Bool := (List.range 16).all (fun q => a q == b q)
theorem eqB_iff {a b : Nat → Int} : eqB a b = true ↔ eqF a b := by
  unfold eqB eqF
  rw [List.all_eq_true]
  constructor
  · intro h q hq
    exact eq_of_beq (h q (List.mem_range.mpr hq))
  · intro h q hq
    rw [h q (List.mem_range.mp hq)]
    exact beq_self_eq_true _
theorem eqB_no {a b : Nat → Int} (h : ¬ eqF a b) : ¬ eqB a b = true := fun q => h (eqB_iff.mp q)
def gtB (f g : Nat → Int) (q : Nat) : Bool := decide (g q < f q)
abbrev rm_X7_above : Room := { frames := 0, cells := 0, slots := 0, locals := 0 }
theorem cs_X7_above : Cs yX7_above cX7_above 4 (some .int) 2 := ⟨kw_578, kw_577, kw_57, by decide, by decide, by decide +kernel⟩
set_option maxHeartbeats 4000000 in
set_option maxRecDepth 100000 in
theorem c_X7_above (l : Launch) (E : Ev) (M : Mem) (a b : Nat) (g1 : tabT[a]? = some (0, 16, [])) (g2 : ∀ j, 0 ≤ (rngT a j).1 ∧ (rngT a j).2 ≤ 9) (g3 : tabT[b]? = some (0, 16, [])) (g4 : ∀ j, 0 ≤ (rngT b j).1 ∧ (rngT b j).2 ≤ 9) : Ct l yX7_above cX7_above 4 (some .int) rm_X7_above E M [.ref (E.1 (a)), .ref (E.1 (b))] (pI (fun z M' => M = M' ∧ (z = ((bK (gtB (M a) (M b)) 16 : Nat) : Int) ∧ 0 ≤ z ∧ z ≤ 65535))) := by
  refine Ct_of (lv := [(0, .ref (E.1 (a))), (1, .ref (E.1 (b)))]) (by decide) ⟨rfl, rfl⟩ (Nat.le_of_ble_eq_true rfl) rfl (fun x _ B R => ?_)
  refine x_iconst B dX7_above_0 ?_
  refine x_istore_n B dX7_above_1 [1, 2, 0] rfl (by decide) (lv' := [(0, .ref (E.1 (a))), (1, .ref (E.1 (b))), (2, .int (iI (0)))]) rfl ?_
  refine x_iconst B dX7_above_2 ?_
  refine x_istore_n B dX7_above_3 [1, 2, 3, 0] rfl (by decide) (lv' := [(0, .ref (E.1 (a))), (1, .ref (E.1 (b))), (2, .int (iI (0))), (3, .int (iI (0)))]) rfl ?_
  have L4 : ∀ (s : Int) (k : Int), (0 ≤ k ∧ k ≤ 16 ∧ 0 ≤ s ∧ Is s ((bK (gtB (M a) (M b)) k.toNat : Nat) : Int)) → Vx x E M 4 [(0, .ref (E.1 (a))), (1, .ref (E.1 (b))), (2, .int (iI (s))), (3, .int (iI (k)))] [] := by
    refine lo2 _ _ (fun s k => (16 - k).toNat) ?_
    intro s k hI ih4
    obtain ⟨i1, i2, i3, i4⟩ := hI
    refine x_iload_n B dX7_above_4 3 rfl rfl ?_
    refine x_bipush B dX7_above_5 rfl ?_
    refine x_icmp_ge B (tgt := 31) dX7_above_7 (by decide) ⟨by omega, by omega⟩ ⟨by omega, by omega⟩ (fun c7 => ?_) (fun c7 => ?_)
    · show Vx x E M 31 [(0, .ref (E.1 (a))), (1, .ref (E.1 (b))), (2, .int (iI (s))), (3, .int (iI (k)))] []
      refine x_iload_n B dX7_above_31 2 rfl rfl ?_
      exact r_i B R dX7_above_32 (by have e := Is_e i4; rw [show k.toNat = 16 by omega] at e; have b := bK_le16 (gtB (M a) (M b)); exact ⟨rfl, e, by omega, by omega⟩)
    · show Vx x E M 10 [(0, .ref (E.1 (a))), (1, .ref (E.1 (b))), (2, .int (iI (s))), (3, .int (iI (k)))] []
      refine x_aload_n B dX7_above_10 0 rfl rfl ?_
      refine x_iload_n B dX7_above_11 3 rfl rfl ?_
      refine x_ialdW B (lo := 0) (hi := 9) dX7_above_12 g1 (by omega) (by omega) (g2 _) (fun z12 ez12 lz12 uz12 => ?_)
      refine x_aload_n B dX7_above_13 1 rfl rfl ?_
      refine x_iload_n B dX7_above_14 3 rfl rfl ?_
      refine x_ialdW B (lo := 0) (hi := 9) dX7_above_15 g3 (by omega) (by omega) (g4 _) (fun z15 ez15 lz15 uz15 => ?_)
      refine x_icmp_le B (tgt := 25) dX7_above_16 (by decide) ⟨by omega, by omega⟩ ⟨by omega, by omega⟩ (fun c16 => ?_) (fun c16 => ?_)
      · show Vx x E M 25 [(0, .ref (E.1 (a))), (1, .ref (E.1 (b))), (2, .int (iI (s))), (3, .int (iI (k)))] []
        refine x_iinc B (q := 3) dX7_above_25 rfl [1, 2, 3, 0] (by decide) (lv' := [(0, .ref (E.1 (a))), (1, .ref (E.1 (b))), (2, .int (iI (s))), (3, .int (iI (k + 1)))]) rfl ?_
        refine x_goto B (tgt := 4) dX7_above_28 (by decide) ?_
        exact ih4 s (k + 1) (⟨by omega, by omega, i3, bK_f i1 (fun h => by have h2 := of_decide_eq_true h; rw [← Is_e ez12, ← Is_e ez15] at h2; omega) i4⟩) (by omega)
      · show Vx x E M 19 [(0, .ref (E.1 (a))), (1, .ref (E.1 (b))), (2, .int (iI (s))), (3, .int (iI (k)))] []
        refine x_iload_n B dX7_above_19 2 rfl rfl ?_
        refine x_iconst B dX7_above_20 ?_
        refine x_iload_n B dX7_above_21 3 rfl rfl ?_
        refine x_shl1 B dX7_above_22 (by omega) (by omega) ?_
        refine x_ior B dX7_above_23 (by omega) (Int.natCast_nonneg _) ?_
        refine x_istore_n B dX7_above_24 [1, 2, 0, 3] rfl (by decide) (lv' := [(0, .ref (E.1 (a))), (1, .ref (E.1 (b))), (2, .int (iI ((((s).toNat ||| (((2 ^ (k).toNat : Nat) : Int)).toNat : Nat) : Int)))), (3, .int (iI (k)))]) rfl ?_
        refine x_iinc B (q := 3) dX7_above_25 rfl [1, 2, 3, 0] (by decide) (lv' := [(0, .ref (E.1 (a))), (1, .ref (E.1 (b))), (2, .int (iI ((((s).toNat ||| (((2 ^ (k).toNat : Nat) : Int)).toNat : Nat) : Int)))), (3, .int (iI (k + 1)))]) rfl ?_
        refine x_goto B (tgt := 4) dX7_above_28 (by decide) ?_
        exact ih4 (((s).toNat ||| (((2 ^ (k).toNat : Nat) : Int)).toNat : Nat) : Int) (k + 1) (⟨by omega, by omega, Int.natCast_nonneg _, bK_t i1 (decide_eq_true (by rw [← Is_e ez12, ← Is_e ez15]; omega)) i4⟩) (by omega)
  exact L4 0 0 (⟨by omega, by omega, by omega, rfl⟩)
abbrev rm_X7_sum : Room := { frames := 0, cells := 0, slots := 0, locals := 0 }
theorem cs_X7_sum : Cs yX7_sum cX7_sum 6 (some .int) 1 := ⟨kw_581, kw_580, kw_57, by decide, by decide, by decide +kernel⟩
set_option maxHeartbeats 4000000 in
set_option maxRecDepth 100000 in
theorem c_X7_sum (l : Launch) (E : Ev) (M : Mem) (a : Nat) (g1 : tabT[a]? = some (0, 16, [])) (g2 : ∀ j, 0 ≤ (rngT a j).1 ∧ (rngT a j).2 ≤ 9) : Ct l yX7_sum cX7_sum 6 (some .int) rm_X7_sum E M [.ref (E.1 (a))] (pI (fun z M' => M = M' ∧ (z = suK (M a) 16 ∧ 0 ≤ z ∧ z ≤ 144))) := by
  refine Ct_of (lv := [(0, .ref (E.1 (a)))]) (by decide) ⟨rfl, rfl⟩ (Nat.le_of_ble_eq_true rfl) rfl (fun x _ B R => ?_)
  refine x_iconst B dX7_sum_0 ?_
  refine x_istore_n B dX7_sum_1 [1, 0] rfl (by decide) (lv' := [(0, .ref (E.1 (a))), (1, .int (iI (0)))]) rfl ?_
  refine x_aload_n B dX7_sum_2 0 rfl rfl ?_
  refine x_astore_n B dX7_sum_3 [1, 2, 0] rfl (by decide) (lv' := [(0, .ref (E.1 (a))), (1, .int (iI (0))), (2, .ref (E.1 (a)))]) rfl ?_
  refine x_aload_n B dX7_sum_4 2 rfl rfl ?_
  refine x_alen B dX7_sum_5 g1 (by decide) rfl ?_
  refine x_istore_n B dX7_sum_6 [1, 2, 3, 0] rfl (by decide) (lv' := [(0, .ref (E.1 (a))), (1, .int (iI (0))), (2, .ref (E.1 (a))), (3, .int (iI (16)))]) rfl ?_
  refine x_iconst B dX7_sum_7 ?_
  refine x_istore B dX7_sum_8 [1, 2, 3, 4, 0] (by decide) (lv' := [(0, .ref (E.1 (a))), (1, .int (iI (0))), (2, .ref (E.1 (a))), (3, .int (iI (16))), (4, .int (iI (0)))]) rfl ?_
  have L10 : ∀ (s : Int) (k : Int), (0 ≤ k ∧ k ≤ 16 ∧ 0 ≤ s ∧ s ≤ 9 * k ∧ Is s (suK (M a) k.toNat)) → Vx x E M 10 [(0, .ref (E.1 (a))), (1, .int (iI (s))), (2, .ref (E.1 (a))), (3, .int (iI (16))), (4, .int (iI (k)))] [] := by
    refine lo2 _ _ (fun s k => (16 - k).toNat) ?_
    intro s k hI ih10
    obtain ⟨i1, i2, i3, i5, i4⟩ := hI
    refine x_iload B dX7_sum_10 4 rfl ?_
    refine x_iload_n B dX7_sum_12 3 rfl rfl ?_
    refine x_icmp_ge B (tgt := 33) dX7_sum_13 (by decide) ⟨by omega, by omega⟩ ⟨by omega, by omega⟩ (fun c13 => ?_) (fun c13 => ?_)
    · show Vx x E M 33 [(0, .ref (E.1 (a))), (1, .int (iI (s))), (2, .ref (E.1 (a))), (3, .int (iI (16))), (4, .int (iI (k)))] []
      refine x_iload_n B dX7_sum_33 1 rfl rfl ?_
      exact r_i B R dX7_sum_34 (⟨rfl, by rw [Is_e i4, show k.toNat = 16 by omega], by omega, by omega⟩)
    · show Vx x E M 16 [(0, .ref (E.1 (a))), (1, .int (iI (s))), (2, .ref (E.1 (a))), (3, .int (iI (16))), (4, .int (iI (k)))] []
      refine x_aload_n B dX7_sum_16 2 rfl rfl ?_
      refine x_iload B dX7_sum_17 4 rfl ?_
      refine x_ialdW B (lo := 0) (hi := 9) dX7_sum_19 g1 (by omega) (by omega) (g2 _) (fun z19 ez19 lz19 uz19 => ?_)
      refine x_istore B dX7_sum_20 [1, 2, 3, 4, 5, 0] (by decide) (lv' := [(0, .ref (E.1 (a))), (1, .int (iI (s))), (2, .ref (E.1 (a))), (3, .int (iI (16))), (4, .int (iI (k))), (5, .int (iI (z19)))]) rfl ?_
      refine x_iload_n B dX7_sum_22 1 rfl rfl ?_
      refine x_iload B dX7_sum_23 5 rfl ?_
      refine x_iadd B dX7_sum_25 ?_
      refine x_istore_n B dX7_sum_26 [1, 0, 2, 3, 4, 5] rfl (by decide) (lv' := [(0, .ref (E.1 (a))), (1, .int (iI (s + z19))), (2, .ref (E.1 (a))), (3, .int (iI (16))), (4, .int (iI (k))), (5, .int (iI (z19)))]) rfl ?_
      refine x_iinc B (q := 4) dX7_sum_27 rfl [1, 2, 3, 4, 0, 5] (by decide) (lv' := [(0, .ref (E.1 (a))), (1, .int (iI (s + z19))), (2, .ref (E.1 (a))), (3, .int (iI (16))), (4, .int (iI (k + 1))), (5, .int (iI (z19)))]) rfl ?_
      refine x_goto B (tgt := 10) dX7_sum_30 (by decide) ?_
      refine x_lv [0, 1, 2, 3, 4] (lv' := [(0, .ref (E.1 (a))), (1, .int (iI (s + z19))), (2, .ref (E.1 (a))), (3, .int (iI (16))), (4, .int (iI (k + 1)))]) rfl ?_
      exact ih10 (s + z19) (k + 1) (⟨by omega, by omega, by omega, by omega, by show _ = _; rw [suK_s i1, ← Is_e i4, Is_e ez19]⟩) (by omega)
  exact L10 0 0 (⟨by omega, by omega, by omega, by omega, rfl⟩)
abbrev rm_X7_lit : Room := { frames := 0, cells := 0, slots := 0, locals := 0 }
theorem cs_X7_lit : Cv yX7_lit cX7_lit 6 (some .int) 0 := ⟨kw_798, ⟨kw_797, kw_29⟩, kw_57, by decide, by decide, by decide +kernel⟩
set_option maxHeartbeats 4000000 in
set_option maxRecDepth 100000 in
theorem c_X7_lit (l : Launch) (E : Ev) (M : Mem)   : Ct l yX7_lit cX7_lit 6 (some .int) rm_X7_lit E M [.ref (E.1 (0))] (pI (fun z M' => M = M' ∧ (z = suK (fun j => if 0 < M 12 j then 1 else 0) 384 ∧ 0 ≤ z ∧ z ≤ 384))) := by
  refine Ct_of (lv := [(0, .ref (E.1 (0)))]) (by decide) ⟨rfl, rfl⟩ (Nat.le_of_ble_eq_true rfl) rfl (fun x _ B R => ?_)
  refine x_iconst B dX7_lit_0 ?_
  refine x_istore_n B dX7_lit_1 [1, 0] rfl (by decide) (lv' := [(0, .ref (E.1 (0))), (1, .int (iI (0)))]) rfl ?_
  refine x_aload_n B dX7_lit_2 0 rfl rfl ?_
  refine x_getR B (ci := 7) (k := 3) dX7_lit_3 rfl rfl rfl (by decide) inGX7 kw_286 ?_
  refine x_astore_n B dX7_lit_6 [1, 2, 0] rfl (by decide) (lv' := [(0, .ref (E.1 (0))), (1, .int (iI (0))), (2, .ref (E.1 (12)))]) rfl ?_
  refine x_aload_n B dX7_lit_7 2 rfl rfl ?_
  refine x_alen B dX7_lit_8 rfl (by decide) rfl ?_
  refine x_istore_n B dX7_lit_9 [1, 2, 3, 0] rfl (by decide) (lv' := [(0, .ref (E.1 (0))), (1, .int (iI (0))), (2, .ref (E.1 (12))), (3, .int (iI (384)))]) rfl ?_
  refine x_iconst B dX7_lit_10 ?_
  refine x_istore B dX7_lit_11 [1, 2, 3, 4, 0] (by decide) (lv' := [(0, .ref (E.1 (0))), (1, .int (iI (0))), (2, .ref (E.1 (12))), (3, .int (iI (384))), (4, .int (iI (0)))]) rfl ?_
  have L13 : ∀ (s : Int) (k : Int), (0 ≤ k ∧ k ≤ 384 ∧ 0 ≤ s ∧ s ≤ k ∧ Is s (suK (fun j => if 0 < M 12 j then 1 else 0) k.toNat)) → Vx x E M 13 [(0, .ref (E.1 (0))), (1, .int (iI (s))), (2, .ref (E.1 (12))), (3, .int (iI (384))), (4, .int (iI (k)))] [] := by
    refine lo2 _ _ (fun s k => (384 - k).toNat) ?_
    intro s k hI ih13
    obtain ⟨i1, i2, i3, i5, i4⟩ := hI
    refine x_iload B dX7_lit_13 4 rfl ?_
    refine x_iload_n B dX7_lit_15 3 rfl rfl ?_
    refine x_icmp_ge B (tgt := 44) dX7_lit_16 (by decide) ⟨by omega, by omega⟩ ⟨by omega, by omega⟩ (fun c16 => ?_) (fun c16 => ?_)
    · show Vx x E M 44 [(0, .ref (E.1 (0))), (1, .int (iI (s))), (2, .ref (E.1 (12))), (3, .int (iI (384))), (4, .int (iI (k)))] []
      refine x_iload_n B dX7_lit_44 1 rfl rfl ?_
      exact r_i B R dX7_lit_45 (⟨rfl, by rw [Is_e i4, show k.toNat = 384 by omega], by omega, by omega⟩)
    · show Vx x E M 19 [(0, .ref (E.1 (0))), (1, .int (iI (s))), (2, .ref (E.1 (12))), (3, .int (iI (384))), (4, .int (iI (k)))] []
      refine x_aload_n B dX7_lit_19 2 rfl rfl ?_
      refine x_iload B dX7_lit_20 4 rfl ?_
      refine x_iald B (lo := 0) (hi := 9) dX7_lit_22 rfl (by omega) (by omega) rfl (fun z22 ez22 lz22 uz22 => ?_)
      refine x_istore B dX7_lit_23 [1, 2, 3, 4, 5, 0] (by decide) (lv' := [(0, .ref (E.1 (0))), (1, .int (iI (s))), (2, .ref (E.1 (12))), (3, .int (iI (384))), (4, .int (iI (k))), (5, .int (iI (z22)))]) rfl ?_
      refine x_iload_n B dX7_lit_25 1 rfl rfl ?_
      refine x_iload B dX7_lit_26 5 rfl ?_
      have J36 : ∀ (j : Int), (j = (if 0 < M 12 k.toNat then 1 else 0) ∧ 0 ≤ j ∧ j ≤ 1) → Vx x E M 36 [(0, .ref (E.1 (0))), (1, .int (iI (s))), (2, .ref (E.1 (12))), (3, .int (iI (384))), (4, .int (iI (k))), (5, .int (iI (z22)))] [.int (iI (j)), .int (iI (s))] := by
        intro j hJ
        obtain ⟨j1, j2, j3⟩ := hJ
        refine x_iadd B dX7_lit_36 ?_
        refine x_istore_n B dX7_lit_37 [1, 0, 2, 3, 4, 5] rfl (by decide) (lv' := [(0, .ref (E.1 (0))), (1, .int (iI (s + j))), (2, .ref (E.1 (12))), (3, .int (iI (384))), (4, .int (iI (k))), (5, .int (iI (z22)))]) rfl ?_
        refine x_iinc B (q := 4) dX7_lit_38 rfl [1, 2, 3, 4, 0, 5] (by decide) (lv' := [(0, .ref (E.1 (0))), (1, .int (iI (s + j))), (2, .ref (E.1 (12))), (3, .int (iI (384))), (4, .int (iI (k + 1))), (5, .int (iI (z22)))]) rfl ?_
        refine x_goto B (tgt := 13) dX7_lit_41 (by decide) ?_
        refine x_lv [0, 1, 2, 3, 4] (lv' := [(0, .ref (E.1 (0))), (1, .int (iI (s + j))), (2, .ref (E.1 (12))), (3, .int (iI (384))), (4, .int (iI (k + 1)))]) rfl ?_
        exact ih13 (s + j) (k + 1) (⟨by omega, by omega, by omega, by omega, by show _ = _; rw [suK_s i1, ← Is_e i4, j1]⟩) (by omega)
      refine x_if_le B (tgt := 35) dX7_lit_28 (by decide) ⟨by omega, by omega⟩ (fun c28 => ?_) (fun c28 => ?_)
      · show Vx x E M 35 [(0, .ref (E.1 (0))), (1, .int (iI (s))), (2, .ref (E.1 (12))), (3, .int (iI (384))), (4, .int (iI (k))), (5, .int (iI (z22)))] [.int (iI (s))]
        refine x_iconst B dX7_lit_35 ?_
        exact J36 0 (⟨by rw [← Is_e ez22, if_neg (by omega)], by omega, by omega⟩)
      · show Vx x E M 31 [(0, .ref (E.1 (0))), (1, .int (iI (s))), (2, .ref (E.1 (12))), (3, .int (iI (384))), (4, .int (iI (k))), (5, .int (iI (z22)))] [.int (iI (s))]
        refine x_iconst B dX7_lit_31 ?_
        refine x_goto B (tgt := 36) dX7_lit_32 (by decide) ?_
        exact J36 1 (⟨by rw [← Is_e ez22, if_pos (by omega)], by omega, by omega⟩)
  exact L13 0 0 (⟨by omega, by omega, by omega, by omega, rfl⟩)
abbrev rm_X7_leastOf : Room := { frames := 1, cells := 0, slots := 0, locals := 21 }
theorem cs_X7_leastOf : Cs yX7_leastOf cX7_leastOf 2 (some .int) 1 := ⟨kw_676, kw_675, kw_57, by decide, by decide, by decide +kernel⟩
set_option maxHeartbeats 4000000 in
set_option maxRecDepth 100000 in
theorem c_X7_leastOf (l : Launch) (E : Ev) (M : Mem) (v : Int) (g1 : 0 ≤ v) (g2 : v < 64) : Ct l yX7_leastOf cX7_leastOf 2 (some .int) rm_X7_leastOf E M [.int (iI (v))] (pI (fun z M' => M = M' ∧ (0 ≤ z ∧ z ≤ 5 ∧ (∀ j : Int, 0 ≤ j → j < z → v.toNat.testBit j.toNat = false) ∧ (z = 5 ∨ v.toNat.testBit z.toNat = true)))) := by
  refine Ct_of (lv := [(0, .int (iI (v)))]) (by decide) ⟨rfl, rfl⟩ (Nat.le_of_ble_eq_true rfl) rfl (fun x _ B R => ?_)
  refine x_iconst B dX7_leastOf_0 ?_
  refine x_istore_n B dX7_leastOf_1 [1, 0] rfl (by decide) (lv' := [(0, .int (iI (v))), (1, .int (iI (0)))]) rfl ?_
  have L2 : ∀ (k : Int), (0 ≤ k ∧ k ≤ 5 ∧ ∀ j : Int, 0 ≤ j → j < k → v.toNat.testBit j.toNat = false) → Vx x E M 2 [(0, .int (iI (v))), (1, .int (iI (k)))] [] := by
    refine lo1 _ _ (fun k => (5 - k).toNat) ?_
    intro k hI ih2
    obtain ⟨i1, i2, i3⟩ := hI
    refine x_iload_n B dX7_leastOf_2 1 rfl rfl ?_
    refine x_iconst B dX7_leastOf_3 ?_
    refine x_icmp_ge B (tgt := 21) dX7_leastOf_4 (by decide) ⟨by omega, by omega⟩ ⟨by omega, by omega⟩ (fun c4 => ?_) (fun c4 => ?_)
    · show Vx x E M 21 [(0, .int (iI (v))), (1, .int (iI (k)))] []
      refine x_iload_n B dX7_leastOf_21 1 rfl rfl ?_
      exact r_i B R dX7_leastOf_22 (⟨rfl, by omega, by omega, i3, Or.inl (by omega)⟩)
    · show Vx x E M 7 [(0, .int (iI (v))), (1, .int (iI (k)))] []
      refine x_iload_n B dX7_leastOf_7 0 rfl rfl ?_
      refine x_iload_n B dX7_leastOf_8 1 rfl rfl ?_
      refine x_callS B (st := []) (av := [.int (iI (v)), .int (iI (k))]) dX7_leastOf_9 cs_X7_bit kw_571 ⟨rfl, rfl, Nat.le_of_ble_eq_true rfl, Nat.le_of_ble_eq_true rfl⟩ rfl rfl (Nat.le_of_ble_eq_true rfl) (c_X7_bit _ E _ v k (by omega) (by omega) (by omega) (by omega)) (k_i (fun z9 Mq hz9 => ?_))
      obtain ⟨rfl, hz9⟩ := hz9
      refine x_if_ne B (tgt := 21) dX7_leastOf_12 (by decide) ⟨by omega, by omega⟩ (fun c12 => ?_) (fun c12 => ?_)
      · show Vx x E M 21 [(0, .int (iI (v))), (1, .int (iI (k)))] []
        refine x_iload_n B dX7_leastOf_21 1 rfl rfl ?_
        exact r_i B R dX7_leastOf_22 (⟨rfl, by omega, by omega, i3, Or.inr (by rcases hz9 with ⟨h5, h6⟩ | ⟨h5, h6⟩ <;> first | omega | exact h6)⟩)
      · show Vx x E M 15 [(0, .int (iI (v))), (1, .int (iI (k)))] []
        refine x_iinc B (q := 1) dX7_leastOf_15 rfl [1, 0] (by decide) (lv' := [(0, .int (iI (v))), (1, .int (iI (k + 1)))]) rfl ?_
        refine x_goto B (tgt := 2) dX7_leastOf_18 (by decide) ?_
        exact ih2 (k + 1) (⟨by omega, by omega, fun j h0 h1 => if h : j < k then i3 j h0 h else by rw [show j = k by omega]; rcases hz9 with ⟨h5, h6⟩ | ⟨h5, h6⟩ <;> first | omega | exact h6⟩) (by omega)
  exact L2 0 (⟨by omega, by omega, fun j h0 h1 => by omega⟩)
def tiS (fe t : Int) : Int := if 0 < fe then min 9 (t + 1) else max 0 (t - 1)
abbrev rm_X7_tireBy : Room := { frames := 1, cells := 0, slots := 0, locals := 21 }
theorem cs_X7_tireBy : Cv yX7_tireBy cX7_tireBy 3 none 1 := ⟨kw_589, ⟨kw_588, kw_19⟩, kw_57, by decide, by decide, by decide +kernel⟩
set_option maxHeartbeats 4000000 in
set_option maxRecDepth 100000 in
theorem c_X7_tireBy (l : Launch) (E : Ev) (M : Mem) (f : Nat) (g1 : f < 7) : Ct l yX7_tireBy cX7_tireBy 3 none rm_X7_tireBy E M [.ref (E.1 (0)), .ref (E.1 ((16 + 5 * f)))] (pV (fun M' => offC M M' 13 14 ∧ eqF (M' 13) (fun q => tiS (M (16 + 5 * f + 3) q) (M 13 q)))) := by
  refine Ct_of (lv := [(0, .ref (E.1 (0))), (1, .ref (E.1 ((16 + 5 * f))))]) (by decide) ⟨rfl, rfl⟩ (Nat.le_of_ble_eq_true rfl) rfl (fun x _ B R => ?_)
  refine x_iconst B dX7_tireBy_0 ?_
  refine x_istore_n B dX7_tireBy_1 [1, 2, 0] rfl (by decide) (lv' := [(0, .ref (E.1 (0))), (1, .ref (E.1 ((16 + 5 * f)))), (2, .int (iI (0)))]) rfl ?_
  have L2 : ∀ (k : Int) (M1 : Mem), (0 ≤ k ∧ k ≤ 16 ∧ offC M M1 13 14 ∧ ltF (M1 13) (fun q => tiS (M (16 + 5 * f + 3) q) (M 13 q)) k ∧ ∀ q : Nat, k ≤ q → M1 13 q = M 13 q) → Vx x E M1 2 [(0, .ref (E.1 (0))), (1, .ref (E.1 ((16 + 5 * f)))), (2, .int (iI (k)))] [] := by
    refine lo2 _ _ (fun k M1 => (16 - k).toNat) ?_
    intro k M1 hI ih2
    obtain ⟨i1, i2, i3, i4, i5⟩ := hI
    refine x_iload_n B dX7_tireBy_2 2 rfl rfl ?_
    refine x_bipush B dX7_tireBy_3 rfl ?_
    refine x_icmp_ge B (tgt := 63) dX7_tireBy_5 (by decide) ⟨by omega, by omega⟩ ⟨by omega, by omega⟩ (fun c5 => ?_) (fun c5 => ?_)
    · show Vx x E M1 63 [(0, .ref (E.1 (0))), (1, .ref (E.1 ((16 + 5 * f)))), (2, .int (iI (k)))] []
      exact r_v B R dX7_tireBy_63 (⟨i3, ltF_16 i4 (by omega)⟩)
    · show Vx x E M1 8 [(0, .ref (E.1 (0))), (1, .ref (E.1 ((16 + 5 * f)))), (2, .int (iI (k)))] []
      refine x_aload_n B dX7_tireBy_8 1 rfl rfl ?_
      refine x_getR B (ci := 0) (k := 2) dX7_tireBy_9 (tF_o f (by omega)) rfl rfl (by decide) inGX0 kw_184 ?_
      refine x_iload_n B dX7_tireBy_12 2 rfl rfl ?_
      refine x_iald B (lo := 0) (hi := 9) dX7_tireBy_13 (tF_3 f (by omega)) (by omega) (by omega) (rF_3 f _ (by omega)) (fun z13 ez13 lz13 uz13 => ?_)
      have e13 := Is_e ez13
      rw [i3 _ _ (by omega)] at e13
      refine x_if_le B (tgt := 39) dX7_tireBy_14 (by decide) ⟨by omega, by omega⟩ (fun c14 => ?_) (fun c14 => ?_)
      · show Vx x E M1 39 [(0, .ref (E.1 (0))), (1, .ref (E.1 ((16 + 5 * f)))), (2, .int (iI (k)))] []
        refine x_aload_n B dX7_tireBy_39 0 rfl rfl ?_
        refine x_getR B (ci := 7) (k := 4) dX7_tireBy_40 rfl rfl rfl (by decide) inGX7 kw_287 ?_
        refine x_iload_n B dX7_tireBy_43 2 rfl rfl ?_
        refine x_iconst B dX7_tireBy_44 ?_
        refine x_aload_n B dX7_tireBy_45 0 rfl rfl ?_
        refine x_getR B (ci := 7) (k := 4) dX7_tireBy_46 rfl rfl rfl (by decide) inGX7 kw_287 ?_
        refine x_iload_n B dX7_tireBy_49 2 rfl rfl ?_
        refine x_iald B (lo := 0) (hi := 9) dX7_tireBy_50 rfl (by omega) (by omega) rfl (fun z50 ez50 lz50 uz50 => ?_)
        refine x_iconst B dX7_tireBy_51 ?_
        refine x_isub B dX7_tireBy_52 ?_
        refine x_mmax B (st := [.int (iI (k)), .ref (E.1 (13))]) dX7_tireBy_53 kw_591 (Nat.le_of_ble_eq_true rfl) (Nat.le_of_ble_eq_true rfl) (Nat.le_of_ble_eq_true rfl) ⟨by omega, by omega⟩ ⟨by omega, by omega⟩ (fun z53 ez53 => ?_)
        refine x_iast B (lo := 0) (hi := 9) dX7_tireBy_56 rfl (by omega) (by omega) rfl (by omega) (by omega) ?_
        refine x_iinc B (q := 2) dX7_tireBy_57 rfl [1, 2, 0] (by decide) (lv' := [(0, .ref (E.1 (0))), (1, .ref (E.1 ((16 + 5 * f)))), (2, .int (iI (k + 1)))]) rfl ?_
        refine x_goto B (tgt := 2) dX7_tireBy_60 (by decide) ?_
        exact ih2 (k + 1) (sto M1 13 (k).toNat z53) (⟨by omega, by omega, offC_sto i3 (by omega), ltF_s i4 i1 (by show _ = tiS _ _; unfold tiS; rw [← e13, if_neg (by omega), ← i5 k.toNat (by omega), ← Is_e ez50]; omega), fun q hq => by rw [sto_nj _ _ _ _ (by omega)]; exact i5 q (by omega)⟩) (by omega)
      · show Vx x E M1 17 [(0, .ref (E.1 (0))), (1, .ref (E.1 ((16 + 5 * f)))), (2, .int (iI (k)))] []
        refine x_aload_n B dX7_tireBy_17 0 rfl rfl ?_
        refine x_getR B (ci := 7) (k := 4) dX7_tireBy_18 rfl rfl rfl (by decide) inGX7 kw_287 ?_
        refine x_iload_n B dX7_tireBy_21 2 rfl rfl ?_
        refine x_bipush B dX7_tireBy_22 rfl ?_
        refine x_aload_n B dX7_tireBy_24 0 rfl rfl ?_
        refine x_getR B (ci := 7) (k := 4) dX7_tireBy_25 rfl rfl rfl (by decide) inGX7 kw_287 ?_
        refine x_iload_n B dX7_tireBy_28 2 rfl rfl ?_
        refine x_iald B (lo := 0) (hi := 9) dX7_tireBy_29 rfl (by omega) (by omega) rfl (fun z29 ez29 lz29 uz29 => ?_)
        refine x_iconst B dX7_tireBy_30 ?_
        refine x_iadd B dX7_tireBy_31 ?_
        refine x_mmin B (st := [.int (iI (k)), .ref (E.1 (13))]) dX7_tireBy_32 kw_590 (Nat.le_of_ble_eq_true rfl) (Nat.le_of_ble_eq_true rfl) (Nat.le_of_ble_eq_true rfl) ⟨by omega, by omega⟩ ⟨by omega, by omega⟩ (fun z32 ez32 => ?_)
        refine x_iast B (lo := 0) (hi := 9) dX7_tireBy_35 rfl (by omega) (by omega) rfl (by omega) (by omega) ?_
        refine x_goto B (tgt := 57) dX7_tireBy_36 (by decide) ?_
        refine x_iinc B (q := 2) dX7_tireBy_57 rfl [1, 2, 0] (by decide) (lv' := [(0, .ref (E.1 (0))), (1, .ref (E.1 ((16 + 5 * f)))), (2, .int (iI (k + 1)))]) rfl ?_
        refine x_goto B (tgt := 2) dX7_tireBy_60 (by decide) ?_
        exact ih2 (k + 1) (sto M1 13 (k).toNat z32) (⟨by omega, by omega, offC_sto i3 (by omega), ltF_s i4 i1 (by show _ = tiS _ _; unfold tiS; rw [← e13, if_pos (by omega), ← i5 k.toNat (by omega), ← Is_e ez29]; omega), fun q hq => by rw [sto_nj _ _ _ _ (by omega)]; exact i5 q (by omega)⟩) (by omega)
  exact L2 0 M (⟨by omega, by omega, offC_rf, ltF_0, fun _ _ => rfl⟩)
abbrev rm_X7_learn : Room := { frames := 1, cells := 0, slots := 0, locals := 21 }
theorem cs_X7_learn : Cv yX7_learn cX7_learn 2 none 1 := ⟨kw_595, ⟨kw_594, kw_20⟩, kw_57, by decide, by decide, by decide +kernel⟩
set_option maxHeartbeats 4000000 in
set_option maxRecDepth 100000 in
theorem c_X7_learn (l : Launch) (E : Ev) (M : Mem) (n : Int) (g1 : 0 ≤ n) (g2 : n ≤ 400) : Ct l yX7_learn cX7_learn 2 none rm_X7_learn E M [.ref (E.1 (0)), .int (iI (n))] (pV (fun M' => M' = sto M 0 13 (min 999 (M 0 13 + n)))) := by
  refine Ct_of (lv := [(0, .ref (E.1 (0))), (1, .int (iI (n)))]) (by decide) ⟨rfl, rfl⟩ (Nat.le_of_ble_eq_true rfl) rfl (fun x _ B R => ?_)
  refine x_aload_n B dX7_learn_0 0 rfl rfl ?_
  refine x_sipush B dX7_learn_1 rfl ?_
  refine x_aload_n B dX7_learn_4 0 rfl rfl ?_
  refine x_getI B (ci := 7) (k := 13) (lo := 0) (hi := 999) dX7_learn_5 rfl rfl rfl (by decide) inGX7 kw_296 rfl (fun z5 ez5 lz5 uz5 => ?_)
  refine x_iload_n B dX7_learn_8 1 rfl rfl ?_
  refine x_iadd B dX7_learn_9 ?_
  refine x_mmin B (st := [.ref (E.1 (0))]) dX7_learn_10 kw_590 (Nat.le_of_ble_eq_true rfl) (Nat.le_of_ble_eq_true rfl) (Nat.le_of_ble_eq_true rfl) ⟨by omega, by omega⟩ ⟨by omega, by omega⟩ (fun z10 ez10 => ?_)
  refine x_put B (ci := 7) (k := 13) (lo := 0) (hi := 999) (ty := .int) dX7_learn_13 rfl rfl rfl (by decide) inGX7 tyX7_ok nmX7 kw_296 rfl (by decide +kernel) (nar_i _) (fit_i _) rfl (by omega) (by omega) ?_
  exact r_v B R dX7_learn_16 (by rw [ez10, Is_e ez5])
