theorem x_lv {x : Cx} {E : Ev} {M : Mem} {pc : Nat} {lv lv' : List (Nat × Value)} {st : List Value} (ks : List Nat) (h : lv_pick lv ks = lv') (k : Vx x E M pc lv' st) : Vx x E M pc lv st := fun hw H locs ls hP hS hl => k hw H locs ls hP hS (lv_sub hl ks h)
theorem x_ialdW {x : Cx} {E : Ev} {own : String} {cc : ByteArray} {n : Nat} {rm : Room} {M : Mem} {pc : Nat} {lv : List (Nat × Value)} {st : List Value} (B : Ok x E own cc n rm) {i nn : Nat} {z lo hi : Int} (hd : decode cc pc = .ok (.iaload, 1)) (ht : tabT[i]? = some (0, nn, [])) (h0 : 0 ≤ z) (h1 : z < nn) (hr : lo ≤ (rngT i z.toNat).1 ∧ (rngT i z.toNat).2 ≤ hi) (kk : ∀ w : Int, Is w (M i z.toNat) → lo ≤ w → w ≤ hi → Vx x E M (pc + 1) lv (.int (iI w) :: st)) : Vx x E M pc lv (.int (iI z) :: .ref (E.1 i) :: st) :=
  x_iald B (lo := (rngT i z.toNat).1) (hi := (rngT i z.toNat).2) hd ht h0 h1 rfl (fun w e l u => kk w e (Int.le_trans hr.1 l) (Int.le_trans u hr.2))
theorem tT (t : Nat) (h : t = 13 ∨ t = 14) : tabT[t]? = some (0, 16, []) := by rcases h with rfl | rfl <;> rfl
theorem rT (t : Nat) (h : t = 13 ∨ t = 14) (j : Nat) : 0 ≤ (rngT t j).1 ∧ (rngT t j).2 ≤ 9 := by rcases h with rfl | rfl <;> exact ⟨by show (0 : Int) ≤ 0; omega, by first | (show (9 : Int) ≤ 9; omega) | (show (0 : Int) ≤ 9; omega)⟩
theorem sto_f (M : Mem) (i j : Nat) (v : Int) {a : Nat} (h : a ≠ i) : sto M i j v a = M a := funext fun q => sto_ni M i j v h
/-! families of cells: frames, sheets, laws -/
theorem tF_o : ∀ f, f < 7 → tabT[16 + 5 * f]? = some (0 + 4, 0, [some (16 + 5 * f + 1), some (16 + 5 * f + 2), some (16 + 5 * f + 3), none, some (16 + 5 * f + 4)]) := by decide +kernel
theorem tF_1 : ∀ f, f < 7 → tabT[16 + 5 * f + 1]? = some (0, 16, []) := by decide +kernel
theorem tF_2 : ∀ f, f < 7 → tabT[16 + 5 * f + 2]? = some (0, 16, []) := by decide +kernel
theorem tF_3 : ∀ f, f < 7 → tabT[16 + 5 * f + 3]? = some (0, 16, []) := by decide +kernel
theorem tF_4 : ∀ f, f < 7 → tabT[16 + 5 * f + 4]? = some (0, 16, []) := by decide +kernel
theorem rF_o : ∀ f, f < 7 → rngT (16 + 5 * f) 3 = (0, 65535) := by decide +kernel
theorem rF_u : ∀ f, f < 7 → rgt[16 + 5 * f + 1]? = some [(0, 9)] ∧ rgt[16 + 5 * f + 2]? = some [(0, 9)] ∧ rgt[16 + 5 * f + 3]? = some [(0, 9)] ∧ rgt[16 + 5 * f + 4]? = some [(0, 9)] := by decide +kernel
theorem rng_u {i j : Nat} {q : Int × Int} (h : rgt[i]? = some [q]) : rngT i j = q := by unfold rngT; rw [h]
theorem rF_1 (f j : Nat) (h : f < 7) : rngT (16 + 5 * f + 1) j = (0, 9) := rng_u (rF_u f h).1
theorem rF_2 (f j : Nat) (h : f < 7) : rngT (16 + 5 * f + 2) j = (0, 9) := rng_u (rF_u f h).2.1
theorem rF_3 (f j : Nat) (h : f < 7) : rngT (16 + 5 * f + 3) j = (0, 9) := rng_u (rF_u f h).2.2.1
theorem rF_4 (f j : Nat) (h : f < 7) : rngT (16 + 5 * f + 4) j = (0, 9) := rng_u (rF_u f h).2.2.2
theorem tS_o : ∀ k, k < 4 → tabT[63 + 2 * k]? = some (6 + 4, 0, [some (63 + 2 * k + 1), none, none]) := by decide +kernel
theorem tS_1 : ∀ k, k < 4 → tabT[63 + 2 * k + 1]? = some (0, 64, []) := by decide +kernel
theorem rS_o1 : ∀ k, k < 4 → rngT (63 + 2 * k) 1 = (-1, 64) := by decide +kernel
theorem rS_o2 : ∀ k, k < 4 → rngT (63 + 2 * k) 2 = (0, 2) := by decide +kernel
theorem rS_u : ∀ k, k < 4 → rgt[63 + 2 * k + 1]? = some [] := by decide +kernel
theorem rS_1 (k j : Nat) (h : k < 4) : rngT (63 + 2 * k + 1) j = (-2147483648, 2147483647) := by
  unfold rngT
  rw [rS_u k h]
  rfl
theorem fr_g : ∀ k, k < 6 → ([some 21, some 26, some 31, some 36, some 41, some 46] : List (Option Nat)).getD k none = some (16 + 5 * (k + 1)) := by decide +kernel
theorem fr_get {z : Int} (h0 : 0 ≤ z) (h1 : z < (6 : Nat)) : ([some 21, some 26, some 31, some 36, some 41, some 46] : List (Option Nat)).getD z.toNat none = some (16 + 5 * (z.toNat + 1)) := fr_g z.toNat (by omega)
theorem sh_g : ∀ k, k < 4 → ([some 63, some 65, some 67, some 69] : List (Option Nat)).getD k none = some (63 + 2 * k) := by decide +kernel
theorem sh_get {z : Int} (h0 : 0 ≤ z) (h1 : z < (4 : Nat)) : ([some 63, some 65, some 67, some 69] : List (Option Nat)).getD z.toNat none = some (63 + 2 * (z.toNat)) := sh_g z.toNat (by omega)
theorem tL_o (w : Nat) (h : w = 1 ∨ w = 4 ∨ w = 8) : tabT[w]? = some (1 + 4, 0, [some (w + 1), some (w + 2)]) := by rcases h with rfl | rfl | rfl <;> rfl
theorem tL_1 (w : Nat) (h : w = 1 ∨ w = 4 ∨ w = 8) : tabT[w + 1]? = some (0, 12, []) := by rcases h with rfl | rfl | rfl <;> rfl
theorem tL_2 (w : Nat) (h : w = 1 ∨ w = 4 ∨ w = 8) : tabT[w + 2]? = some (0, 16, []) := by rcases h with rfl | rfl | rfl <;> rfl
theorem rL_1 (w : Nat) (h : w = 1 ∨ w = 4 ∨ w = 8) (j : Nat) : rngT (w + 1) j = rngT 2 j := by rcases h with rfl | rfl | rfl <;> rfl
theorem rL_2 (w : Nat) (h : w = 1 ∨ w = 4 ∨ w = 8) (j : Nat) : rngT (w + 2) j = (1, 9) := by rcases h with rfl | rfl | rfl <;> rfl
/-! bits of a number -/

theorem bit_and1 (n i : Nat) : (n >>> i) &&& 1 = (n.testBit i).toNat := by
  rw [Nat.testBit, Nat.and_comm]
  rcases Nat.mod_two_eq_zero_or_one (n >>> i) with h | h
  · rw [Nat.one_and_eq_mod_two, h]; rfl
  · rw [Nat.one_and_eq_mod_two, h]; rfl
theorem bit_v (n i : Nat) : ((((((n >>> i : Nat) : Int)).toNat &&& (1 : Int).toNat : Nat)) : Int) = 1 ∧ n.testBit i = true ∨ ((((((n >>> i : Nat) : Int)).toNat &&& (1 : Int).toNat : Nat)) : Int) = 0 ∧ n.testBit i = false := by
  rw [Int.toNat_natCast, show (1 : Int).toNat = 1 from rfl, bit_and1]
  cases n.testBit i
  · exact Or.inr ⟨rfl, rfl⟩
  · exact Or.inl ⟨rfl, rfl⟩
abbrev rm_X7_within : Room := { frames := 0, cells := 0, slots := 0, locals := 0 }
theorem cs_X7_within : Cs yX7_within cX7_within 2 (some .boolean) 2 := ⟨kw_497, kw_496, kw_57, by decide, by decide, by decide +kernel⟩
set_option maxHeartbeats 4000000 in
set_option maxRecDepth 100000 in
theorem c_X7_within (l : Launch) (E : Ev) (M : Mem) (v m : Int) (g1 : -2147483648 ≤ v) (g2 : v < 2147483648) (g3 : -2147483648 ≤ m) (g4 : m < 2147483648) : Ct l yX7_within cX7_within 2 (some .boolean) rm_X7_within E M [.int (iI (v)), .int (iI (m))] (pI (fun z M' => M = M' ∧ (z = 1 ∧ 0 ≤ v ∧ v < m ∨ z = 0 ∧ ¬ (0 ≤ v ∧ v < m)))) := by
  refine Ct_of (lv := [(0, .int (iI (v))), (1, .int (iI (m)))]) (by decide) ⟨rfl, rfl⟩ (Nat.le_of_ble_eq_true rfl) rfl (fun x _ B R => ?_)
  refine x_iload_n B dX7_within_0 0 rfl rfl ?_
  refine x_if_lt B (tgt := 13) dX7_within_1 (by decide) ⟨by omega, by omega⟩ (fun c1 => ?_) (fun c1 => ?_)
  · show Vx x E M 13 [(0, .int (iI (v))), (1, .int (iI (m)))] []
    refine x_iconst B dX7_within_13 ?_
    exact r_z B R dX7_within_14 (by omega) (by omega) (⟨rfl, by omega⟩)
  · show Vx x E M 4 [(0, .int (iI (v))), (1, .int (iI (m)))] []
    refine x_iload_n B dX7_within_4 0 rfl rfl ?_
    refine x_iload_n B dX7_within_5 1 rfl rfl ?_
    refine x_icmp_ge B (tgt := 13) dX7_within_6 (by decide) ⟨by omega, by omega⟩ ⟨by omega, by omega⟩ (fun c6 => ?_) (fun c6 => ?_)
    · show Vx x E M 13 [(0, .int (iI (v))), (1, .int (iI (m)))] []
      refine x_iconst B dX7_within_13 ?_
      exact r_z B R dX7_within_14 (by omega) (by omega) (⟨rfl, by omega⟩)
    · show Vx x E M 9 [(0, .int (iI (v))), (1, .int (iI (m)))] []
      refine x_iconst B dX7_within_9 ?_
      refine x_goto B (tgt := 14) dX7_within_10 (by decide) ?_
      exact r_z B R dX7_within_14 (by omega) (by omega) (⟨rfl, by omega⟩)
abbrev rm_X7_isSet : Room := { frames := 0, cells := 0, slots := 0, locals := 0 }
theorem cs_X7_isSet : Cs yX7_isSet cX7_isSet 1 (some .boolean) 1 := ⟨kw_645, kw_644, kw_57, by decide, by decide, by decide +kernel⟩
set_option maxHeartbeats 4000000 in
set_option maxRecDepth 100000 in
theorem c_X7_isSet (l : Launch) (E : Ev) (M : Mem) (v : Int) (g1 : -2147483648 ≤ v) (g2 : v < 2147483648) : Ct l yX7_isSet cX7_isSet 1 (some .boolean) rm_X7_isSet E M [.int (iI (v))] (pI (fun z M' => M = M' ∧ (z = 1 ∧ 0 < v ∧ v < 64 ∨ z = 0 ∧ ¬ (0 < v ∧ v < 64)))) := by
  refine Ct_of (lv := [(0, .int (iI (v)))]) (by decide) ⟨rfl, rfl⟩ (Nat.le_of_ble_eq_true rfl) rfl (fun x _ B R => ?_)
  refine x_iload_n B dX7_isSet_0 0 rfl rfl ?_
  refine x_if_le B (tgt := 14) dX7_isSet_1 (by decide) ⟨by omega, by omega⟩ (fun c1 => ?_) (fun c1 => ?_)
  · show Vx x E M 14 [(0, .int (iI (v)))] []
    refine x_iconst B dX7_isSet_14 ?_
    exact r_z B R dX7_isSet_15 (by omega) (by omega) (⟨rfl, by omega⟩)
  · show Vx x E M 4 [(0, .int (iI (v)))] []
    refine x_iload_n B dX7_isSet_4 0 rfl rfl ?_
    refine x_bipush B dX7_isSet_5 rfl ?_
    refine x_icmp_ge B (tgt := 14) dX7_isSet_7 (by decide) ⟨by omega, by omega⟩ ⟨by omega, by omega⟩ (fun c7 => ?_) (fun c7 => ?_)
    · show Vx x E M 14 [(0, .int (iI (v)))] []
      refine x_iconst B dX7_isSet_14 ?_
      exact r_z B R dX7_isSet_15 (by omega) (by omega) (⟨rfl, by omega⟩)
    · show Vx x E M 10 [(0, .int (iI (v)))] []
      refine x_iconst B dX7_isSet_10 ?_
      refine x_goto B (tgt := 15) dX7_isSet_11 (by decide) ?_
      exact r_z B R dX7_isSet_15 (by omega) (by omega) (⟨rfl, by omega⟩)
abbrev rm_X7_isPart : Room := { frames := 0, cells := 0, slots := 0, locals := 0 }
theorem cs_X7_isPart : Cs yX7_isPart cX7_isPart 2 (some .boolean) 2 := ⟨kw_781, kw_780, kw_57, by decide, by decide, by decide +kernel⟩
set_option maxHeartbeats 4000000 in
set_option maxRecDepth 100000 in
theorem c_X7_isPart (l : Launch) (E : Ev) (M : Mem) (c n : Int) (g1 : -2147483648 ≤ c) (g2 : c < 2147483648) (g3 : -2147483648 ≤ n) (g4 : n < 2147483648) : Ct l yX7_isPart cX7_isPart 2 (some .boolean) rm_X7_isPart E M [.int (iI (c)), .int (iI (n))] (pI (fun z M' => M = M' ∧ (z = 1 ∧ 0 ≤ c ∧ c ≤ 64 ∧ 0 ≤ n ∧ n ≤ 64 ∧ c + n ≤ 64 ∨ z = 0 ∧ ¬ (0 ≤ c ∧ c ≤ 64 ∧ 0 ≤ n ∧ n ≤ 64 ∧ c + n ≤ 64)))) := by
  refine Ct_of (lv := [(0, .int (iI (c))), (1, .int (iI (n)))]) (by decide) ⟨rfl, rfl⟩ (Nat.le_of_ble_eq_true rfl) rfl (fun x _ B R => ?_)
  refine x_iload_n B dX7_isPart_0 0 rfl rfl ?_
  refine x_if_lt B (tgt := 32) dX7_isPart_1 (by decide) ⟨by omega, by omega⟩ (fun c1 => ?_) (fun c1 => ?_)
  · show Vx x E M 32 [(0, .int (iI (c))), (1, .int (iI (n)))] []
    refine x_iconst B dX7_isPart_32 ?_
    exact r_z B R dX7_isPart_33 (by omega) (by omega) (⟨rfl, by omega⟩)
  · show Vx x E M 4 [(0, .int (iI (c))), (1, .int (iI (n)))] []
    refine x_iload_n B dX7_isPart_4 0 rfl rfl ?_
    refine x_bipush B dX7_isPart_5 rfl ?_
    refine x_icmp_gt B (tgt := 32) dX7_isPart_7 (by decide) ⟨by omega, by omega⟩ ⟨by omega, by omega⟩ (fun c7 => ?_) (fun c7 => ?_)
    · show Vx x E M 32 [(0, .int (iI (c))), (1, .int (iI (n)))] []
      refine x_iconst B dX7_isPart_32 ?_
      exact r_z B R dX7_isPart_33 (by omega) (by omega) (⟨rfl, by omega⟩)
    · show Vx x E M 10 [(0, .int (iI (c))), (1, .int (iI (n)))] []
      refine x_iload_n B dX7_isPart_10 1 rfl rfl ?_
      refine x_if_lt B (tgt := 32) dX7_isPart_11 (by decide) ⟨by omega, by omega⟩ (fun c11 => ?_) (fun c11 => ?_)
      · show Vx x E M 32 [(0, .int (iI (c))), (1, .int (iI (n)))] []
        refine x_iconst B dX7_isPart_32 ?_
        exact r_z B R dX7_isPart_33 (by omega) (by omega) (⟨rfl, by omega⟩)
      · show Vx x E M 14 [(0, .int (iI (c))), (1, .int (iI (n)))] []
        refine x_iload_n B dX7_isPart_14 1 rfl rfl ?_
        refine x_bipush B dX7_isPart_15 rfl ?_
        refine x_icmp_gt B (tgt := 32) dX7_isPart_17 (by decide) ⟨by omega, by omega⟩ ⟨by omega, by omega⟩ (fun c17 => ?_) (fun c17 => ?_)
        · show Vx x E M 32 [(0, .int (iI (c))), (1, .int (iI (n)))] []
          refine x_iconst B dX7_isPart_32 ?_
          exact r_z B R dX7_isPart_33 (by omega) (by omega) (⟨rfl, by omega⟩)
        · show Vx x E M 20 [(0, .int (iI (c))), (1, .int (iI (n)))] []
          refine x_iload_n B dX7_isPart_20 0 rfl rfl ?_
          refine x_iload_n B dX7_isPart_21 1 rfl rfl ?_
          refine x_iadd B dX7_isPart_22 ?_
          refine x_bipush B dX7_isPart_23 rfl ?_
          refine x_icmp_gt B (tgt := 32) dX7_isPart_25 (by decide) ⟨by omega, by omega⟩ ⟨by omega, by omega⟩ (fun c25 => ?_) (fun c25 => ?_)
          · show Vx x E M 32 [(0, .int (iI (c))), (1, .int (iI (n)))] []
            refine x_iconst B dX7_isPart_32 ?_
            exact r_z B R dX7_isPart_33 (by omega) (by omega) (⟨rfl, by omega⟩)
          · show Vx x E M 28 [(0, .int (iI (c))), (1, .int (iI (n)))] []
            refine x_iconst B dX7_isPart_28 ?_
            refine x_goto B (tgt := 33) dX7_isPart_29 (by decide) ?_
            exact r_z B R dX7_isPart_33 (by omega) (by omega) (⟨rfl, by omega⟩)
abbrev rm_X7_bit : Room := { frames := 0, cells := 0, slots := 0, locals := 0 }
theorem cs_X7_bit : Cs yX7_bit cX7_bit 2 (some .int) 2 := ⟨kw_457, kw_456, kw_57, by decide, by decide, by decide +kernel⟩
set_option maxHeartbeats 4000000 in
set_option maxRecDepth 100000 in
theorem c_X7_bit (l : Launch) (E : Ev) (M : Mem) (v i : Int) (g1 : 0 ≤ v) (g2 : v < 2147483648) (g3 : 0 ≤ i) (g4 : i < 32) : Ct l yX7_bit cX7_bit 2 (some .int) rm_X7_bit E M [.int (iI (v)), .int (iI (i))] (pI (fun z M' => M = M' ∧ (z = 1 ∧ v.toNat.testBit i.toNat = true ∨ z = 0 ∧ v.toNat.testBit i.toNat = false))) := by
  refine Ct_of (lv := [(0, .int (iI (v))), (1, .int (iI (i)))]) (by decide) ⟨rfl, rfl⟩ (Nat.le_of_ble_eq_true rfl) rfl (fun x _ B R => ?_)
  refine x_iload_n B dX7_bit_0 0 rfl rfl ?_
  refine x_iload_n B dX7_bit_1 1 rfl rfl ?_
  refine x_ishr B dX7_bit_2 (by omega) ⟨by omega, by omega⟩ (by omega) (by omega) ?_
  refine x_iconst B dX7_bit_3 ?_
  refine x_iand B dX7_bit_4 (Int.natCast_nonneg _) (by omega) ?_
  exact r_i B R dX7_bit_5 (⟨rfl, bit_v v.toNat i.toNat⟩)
abbrev rm_X8_in : Room := { frames := 0, cells := 0, slots := 0, locals := 0 }
theorem cs_X8_in : Cs yX8_in cX8_in 6 (some .boolean) 3 := ⟨kw_954, kw_953, kw_67, by decide, by decide, by decide +kernel⟩
set_option maxHeartbeats 4000000 in
set_option maxRecDepth 100000 in
theorem c_X8_in (l : Launch) (E : Ev) (M : Mem) (v a b : Int) (g1 : -9223372036854775808 ≤ v) (g2 : v < 9223372036854775808) (g3 : -9223372036854775808 ≤ a) (g4 : a < 9223372036854775808) (g5 : -9223372036854775808 ≤ b) (g6 : b < 9223372036854775808) : Ct l yX8_in cX8_in 6 (some .boolean) rm_X8_in E M [.long (iL (v)), .long (iL (a)), .long (iL (b))] (pI (fun z M' => M = M' ∧ (z = 1 ∧ a ≤ v ∧ v ≤ b ∨ z = 0 ∧ ¬ (a ≤ v ∧ v ≤ b)))) := by
  refine Ct_of (lv := [(0, .long (iL (v))), (2, .long (iL (a))), (4, .long (iL (b)))]) (by decide) ⟨rfl, rfl⟩ (Nat.le_of_ble_eq_true rfl) rfl (fun x _ B R => ?_)
  refine x_lload_n B dX8_in_0 0 rfl rfl ?_
  refine x_lload_n B dX8_in_1 1 rfl rfl ?_
  refine x_lcmp B dX8_in_2 ⟨by omega, by omega⟩ ⟨by omega, by omega⟩ (fun c2 hc2 => ?_)
  refine x_if_lt B (tgt := 17) dX8_in_3 (by decide) ⟨by omega, by omega⟩ (fun c3 => ?_) (fun c3 => ?_)
  · show Vx x E M 17 [(0, .long (iL (v))), (2, .long (iL (a))), (4, .long (iL (b)))] []
    refine x_iconst B dX8_in_17 ?_
    exact r_z B R dX8_in_18 (by omega) (by omega) (⟨rfl, by omega⟩)
  · show Vx x E M 6 [(0, .long (iL (v))), (2, .long (iL (a))), (4, .long (iL (b)))] []
    refine x_lload_n B dX8_in_6 0 rfl rfl ?_
    refine x_lload B dX8_in_7 2 rfl ?_
    refine x_lcmp B dX8_in_9 ⟨by omega, by omega⟩ ⟨by omega, by omega⟩ (fun c9 hc9 => ?_)
    refine x_if_gt B (tgt := 17) dX8_in_10 (by decide) ⟨by omega, by omega⟩ (fun c10 => ?_) (fun c10 => ?_)
    · show Vx x E M 17 [(0, .long (iL (v))), (2, .long (iL (a))), (4, .long (iL (b)))] []
      refine x_iconst B dX8_in_17 ?_
      exact r_z B R dX8_in_18 (by omega) (by omega) (⟨rfl, by omega⟩)
    · show Vx x E M 13 [(0, .long (iL (v))), (2, .long (iL (a))), (4, .long (iL (b)))] []
      refine x_iconst B dX8_in_13 ?_
      refine x_goto B (tgt := 18) dX8_in_14 (by decide) ?_
      exact r_z B R dX8_in_18 (by omega) (by omega) (⟨rfl, by omega⟩)
abbrev rm_X8_isScene : Room := { frames := 1, cells := 0, slots := 0, locals := 25 }
theorem cs_X8_isScene : Cs yX8_isScene cX8_isScene 1 (some .boolean) 1 := ⟨kw_1008, kw_1007, kw_67, by decide, by decide, by decide +kernel⟩
set_option maxHeartbeats 4000000 in
set_option maxRecDepth 100000 in
theorem c_X8_isScene (l : Launch) (E : Ev) (M : Mem) (v : Int) (g1 : -2147483648 ≤ v) (g2 : v < 2147483648) : Ct l yX8_isScene cX8_isScene 1 (some .boolean) rm_X8_isScene E M [.int (iI (v))] (pI (fun z M' => M = M' ∧ (z = 1 ∧ 0 ≤ v ∧ v < 6 ∨ z = 0 ∧ ¬ (0 ≤ v ∧ v < 6)))) := by
  refine Ct_of (lv := [(0, .int (iI (v)))]) (by decide) ⟨rfl, rfl⟩ (Nat.le_of_ble_eq_true rfl) rfl (fun x _ B R => ?_)
  refine x_iload_n B dX8_isScene_0 0 rfl rfl ?_
  refine x_i2l B dX8_isScene_1 ⟨by omega, by omega⟩ ?_
  refine x_lconst B (z := 0) dX8_isScene_2 rfl ?_
  refine x_ldc2 B (z := 5) dX8_isScene_3 kw_1009 rfl ?_
  refine x_callS B (st := []) (av := [.long (iL (v)), .long (iL (0)), .long (iL (5))]) dX8_isScene_6 cs_X8_in kw_952 ⟨rfl, rfl, Nat.le_of_ble_eq_true rfl, Nat.le_of_ble_eq_true rfl⟩ rfl rfl (Nat.le_of_ble_eq_true rfl) (c_X8_in _ E _ v 0 5 (by omega) (by omega) (by omega) (by omega) (by omega) (by omega)) (k_i (fun z6 Mq hz6 => ?_))
  obtain ⟨rfl, hz6⟩ := hz6
  exact r_z B R dX8_isScene_9 (by omega) (by omega) (⟨rfl, by omega⟩)
abbrev rm_X8_isPoint : Room := { frames := 1, cells := 0, slots := 0, locals := 25 }
theorem cs_X8_isPoint : Cs yX8_isPoint cX8_isPoint 1 (some .boolean) 1 := ⟨kw_1039, kw_1038, kw_67, by decide, by decide, by decide +kernel⟩
set_option maxHeartbeats 4000000 in
set_option maxRecDepth 100000 in
theorem c_X8_isPoint (l : Launch) (E : Ev) (M : Mem) (v : Int) (g1 : -2147483648 ≤ v) (g2 : v < 2147483648) : Ct l yX8_isPoint cX8_isPoint 1 (some .boolean) rm_X8_isPoint E M [.int (iI (v))] (pI (fun z M' => M = M' ∧ (z = 1 ∧ 0 ≤ v ∧ v < 16 ∨ z = 0 ∧ ¬ (0 ≤ v ∧ v < 16)))) := by
  refine Ct_of (lv := [(0, .int (iI (v)))]) (by decide) ⟨rfl, rfl⟩ (Nat.le_of_ble_eq_true rfl) rfl (fun x _ B R => ?_)
  refine x_iload_n B dX8_isPoint_0 0 rfl rfl ?_
  refine x_i2l B dX8_isPoint_1 ⟨by omega, by omega⟩ ?_
  refine x_lconst B (z := 0) dX8_isPoint_2 rfl ?_
  refine x_ldc2 B (z := 15) dX8_isPoint_3 kw_1040 rfl ?_
  refine x_callS B (st := []) (av := [.long (iL (v)), .long (iL (0)), .long (iL (15))]) dX8_isPoint_6 cs_X8_in kw_952 ⟨rfl, rfl, Nat.le_of_ble_eq_true rfl, Nat.le_of_ble_eq_true rfl⟩ rfl rfl (Nat.le_of_ble_eq_true rfl) (c_X8_in _ E _ v 0 15 (by omega) (by omega) (by omega) (by omega) (by omega) (by omega)) (k_i (fun z6 Mq hz6 => ?_))
  obtain ⟨rfl, hz6⟩ := hz6
  exact r_z B R dX8_isPoint_9 (by omega) (by omega) (⟨rfl, by omega⟩)
abbrev rm_X8_isSet : Room := { frames := 1, cells := 0, slots := 0, locals := 25 }
theorem cs_X8_isSet : Cs yX8_isSet cX8_isSet 1 (some .boolean) 1 := ⟨kw_1123, kw_1122, kw_67, by decide, by decide, by decide +kernel⟩
set_option maxHeartbeats 4000000 in
set_option maxRecDepth 100000 in
theorem c_X8_isSet (l : Launch) (E : Ev) (M : Mem) (v : Int) (g1 : -2147483648 ≤ v) (g2 : v < 2147483648) : Ct l yX8_isSet cX8_isSet 1 (some .boolean) rm_X8_isSet E M [.int (iI (v))] (pI (fun z M' => M = M' ∧ (z = 1 ∧ 0 < v ∧ v < 64 ∨ z = 0 ∧ ¬ (0 < v ∧ v < 64)))) := by
  refine Ct_of (lv := [(0, .int (iI (v)))]) (by decide) ⟨rfl, rfl⟩ (Nat.le_of_ble_eq_true rfl) rfl (fun x _ B R => ?_)
  refine x_iload_n B dX8_isSet_0 0 rfl rfl ?_
  refine x_i2l B dX8_isSet_1 ⟨by omega, by omega⟩ ?_
  refine x_lconst B (z := 1) dX8_isSet_2 rfl ?_
  refine x_ldc2 B (z := 63) dX8_isSet_3 kw_1010 rfl ?_
  refine x_callS B (st := []) (av := [.long (iL (v)), .long (iL (1)), .long (iL (63))]) dX8_isSet_6 cs_X8_in kw_952 ⟨rfl, rfl, Nat.le_of_ble_eq_true rfl, Nat.le_of_ble_eq_true rfl⟩ rfl rfl (Nat.le_of_ble_eq_true rfl) (c_X8_in _ E _ v 1 63 (by omega) (by omega) (by omega) (by omega) (by omega) (by omega)) (k_i (fun z6 Mq hz6 => ?_))
  obtain ⟨rfl, hz6⟩ := hz6
  exact r_z B R dX8_isSet_9 (by omega) (by omega) (⟨rfl, by omega⟩)
abbrev rm_X8_size : Room := { frames := 0, cells := 0, slots := 0, locals := 0 }
theorem cs_X8_size : Cs yX8_size cX8_size 1 (some .int) 1 := ⟨kw_1064, kw_1063, kw_67, by decide, by decide, by decide +kernel⟩
set_option maxHeartbeats 4000000 in
set_option maxRecDepth 100000 in
theorem c_X8_size (l : Launch) (E : Ev) (M : Mem) (a : Int) (g1 : -2147483647 ≤ a) (g2 : a < 2147483648) : Ct l yX8_size cX8_size 1 (some .int) rm_X8_size E M [.int (iI (a))] (pI (fun z M' => M = M' ∧ (z = max a (-a)))) := by
  refine Ct_of (lv := [(0, .int (iI (a)))]) (by decide) ⟨rfl, rfl⟩ (Nat.le_of_ble_eq_true rfl) rfl (fun x _ B R => ?_)
  refine x_iload_n B dX8_size_0 0 rfl rfl ?_
  refine x_if_ge B (tgt := 9) dX8_size_1 (by decide) ⟨by omega, by omega⟩ (fun c1 => ?_) (fun c1 => ?_)
  · show Vx x E M 9 [(0, .int (iI (a)))] []
    refine x_iload_n B dX8_size_9 0 rfl rfl ?_
    exact r_i B R dX8_size_10 (⟨rfl, by omega⟩)
  · show Vx x E M 4 [(0, .int (iI (a)))] []
    refine x_iload_n B dX8_size_4 0 rfl rfl ?_
    refine x_ineg B dX8_size_5 ?_
    refine x_goto B (tgt := 10) dX8_size_6 (by decide) ?_
    exact r_i B R dX8_size_10 (⟨rfl, by omega⟩)
/-- where a MOVE leads from a PLACE -/
def mvT (p m : Int) : Int := if p = 25 then (if m = 4 then 12 else 25) else if m = 0 then (if p % 5 > 0 then p - 1 else p) else if m = 1 then (if p % 5 < 4 then p + 1 else p) else if m = 2 then (if 5 ≤ p then p - 5 else p) else if m = 3 then (if p < 20 then p + 5 else p) else if m = 5 then 25 else p
theorem mvT_in {p m : Int} (h0 : 0 ≤ p) (h1 : p ≤ 25) : 0 ≤ mvT p m ∧ mvT p m ≤ 25 := by
  unfold mvT
  repeat' split
  all_goals omega
abbrev rm_X7_placeAfter : Room := { frames := 0, cells := 0, slots := 0, locals := 0 }
theorem cs_X7_placeAfter : Cs yX7_placeAfter cX7_placeAfter 4 (some .int) 2 := ⟨kw_520, kw_519, kw_57, by decide, by decide, by decide +kernel⟩
set_option maxHeartbeats 4000000 in
set_option maxRecDepth 100000 in
theorem c_X7_placeAfter (l : Launch) (E : Ev) (M : Mem) (p m : Int) (g1 : 0 ≤ p) (g2 : p ≤ 25) (g3 : 0 ≤ m) (g4 : m ≤ 5) : Ct l yX7_placeAfter cX7_placeAfter 4 (some .int) rm_X7_placeAfter E M [.int (iI (p)), .int (iI (m))] (pI (fun z M' => M = M' ∧ (z = mvT p m))) := by
  refine Ct_of (lv := [(0, .int (iI (p))), (1, .int (iI (m)))]) (by decide) ⟨rfl, rfl⟩ (Nat.le_of_ble_eq_true rfl) rfl (fun x _ B R => ?_)
  refine x_iload_n B dX7_placeAfter_0 0 rfl rfl ?_
  refine x_bipush B dX7_placeAfter_1 rfl ?_
  refine x_icmp_ne B (tgt := 19) dX7_placeAfter_3 (by decide) ⟨by omega, by omega⟩ ⟨by omega, by omega⟩ (fun c3 => ?_) (fun c3 => ?_)
  · show Vx x E M 19 [(0, .int (iI (p))), (1, .int (iI (m)))] []
    refine x_iload_n B dX7_placeAfter_19 0 rfl rfl ?_
    refine x_iconst B dX7_placeAfter_20 ?_
    refine x_idiv B dX7_placeAfter_21 ⟨by omega, by omega⟩ (by omega) ⟨by omega, by omega⟩ (by omega) ?_
    refine x_istore_n B dX7_placeAfter_22 [1, 2, 0] rfl (by decide) (lv' := [(0, .int (iI (p))), (1, .int (iI (m))), (2, .int (iI (p / 5)))]) rfl ?_
    refine x_iload_n B dX7_placeAfter_23 0 rfl rfl ?_
    refine x_iconst B dX7_placeAfter_24 ?_
    refine x_irem B dX7_placeAfter_25 ⟨by omega, by omega⟩ (by omega) ⟨by omega, by omega⟩ (by omega) ?_
    refine x_istore_n B dX7_placeAfter_26 [1, 2, 3, 0] rfl (by decide) (lv' := [(0, .int (iI (p))), (1, .int (iI (m))), (2, .int (iI (p / 5))), (3, .int (iI (p % 5)))]) rfl ?_
    refine x_iload_n B dX7_placeAfter_27 1 rfl rfl ?_
    rcases (show (m < 0 ∨ 5 < m) ∨ m = 0 ∨ m = 1 ∨ m = 2 ∨ m = 3 ∨ m = 4 ∨ m = 5 by omega) with hsw | hsw | hsw | hsw | hsw | hsw | hsw
    · refine x_tabOut B (tgt := 121) dX7_placeAfter_28 ⟨by omega, by omega⟩ (by omega) (by decide) ?_
      refine x_iload_n B dX7_placeAfter_121 0 rfl rfl ?_
      exact r_i B R dX7_placeAfter_122 (⟨rfl, by unfold mvT; (repeat' split) <;> omega⟩)
    · refine x_tabIn B (tgt := 68) 0 dX7_placeAfter_28 ⟨by omega, by omega⟩ (by omega) (by omega) rfl (by decide) ?_
      refine x_iload_n B dX7_placeAfter_68 3 rfl rfl ?_
      refine x_if_le B (tgt := 78) dX7_placeAfter_69 (by decide) ⟨by omega, by omega⟩ (fun c69 => ?_) (fun c69 => ?_)
      · show Vx x E M 78 [(0, .int (iI (p))), (1, .int (iI (m))), (2, .int (iI (p / 5))), (3, .int (iI (p % 5)))] []
        refine x_iload_n B dX7_placeAfter_78 0 rfl rfl ?_
        exact r_i B R dX7_placeAfter_79 (⟨rfl, by unfold mvT; (repeat' split) <;> omega⟩)
      · show Vx x E M 72 [(0, .int (iI (p))), (1, .int (iI (m))), (2, .int (iI (p / 5))), (3, .int (iI (p % 5)))] []
        refine x_iload_n B dX7_placeAfter_72 0 rfl rfl ?_
        refine x_iconst B dX7_placeAfter_73 ?_
        refine x_isub B dX7_placeAfter_74 ?_
        refine x_goto B (tgt := 79) dX7_placeAfter_75 (by decide) ?_
        exact r_i B R dX7_placeAfter_79 (⟨rfl, by unfold mvT; (repeat' split) <;> omega⟩)
    · refine x_tabIn B (tgt := 80) 1 dX7_placeAfter_28 ⟨by omega, by omega⟩ (by omega) (by omega) rfl (by decide) ?_
      refine x_iload_n B dX7_placeAfter_80 3 rfl rfl ?_
      refine x_iconst B dX7_placeAfter_81 ?_
      refine x_icmp_ge B (tgt := 91) dX7_placeAfter_82 (by decide) ⟨by omega, by omega⟩ ⟨by omega, by omega⟩ (fun c82 => ?_) (fun c82 => ?_)
      · show Vx x E M 91 [(0, .int (iI (p))), (1, .int (iI (m))), (2, .int (iI (p / 5))), (3, .int (iI (p % 5)))] []
        refine x_iload_n B dX7_placeAfter_91 0 rfl rfl ?_
        exact r_i B R dX7_placeAfter_92 (⟨rfl, by unfold mvT; (repeat' split) <;> omega⟩)
      · show Vx x E M 85 [(0, .int (iI (p))), (1, .int (iI (m))), (2, .int (iI (p / 5))), (3, .int (iI (p % 5)))] []
        refine x_iload_n B dX7_placeAfter_85 0 rfl rfl ?_
        refine x_iconst B dX7_placeAfter_86 ?_
        refine x_iadd B dX7_placeAfter_87 ?_
        refine x_goto B (tgt := 92) dX7_placeAfter_88 (by decide) ?_
        exact r_i B R dX7_placeAfter_92 (⟨rfl, by unfold mvT; (repeat' split) <;> omega⟩)
    · refine x_tabIn B (tgt := 93) 2 dX7_placeAfter_28 ⟨by omega, by omega⟩ (by omega) (by omega) rfl (by decide) ?_
      refine x_iload_n B dX7_placeAfter_93 2 rfl rfl ?_
      refine x_if_le B (tgt := 103) dX7_placeAfter_94 (by decide) ⟨by omega, by omega⟩ (fun c94 => ?_) (fun c94 => ?_)
      · show Vx x E M 103 [(0, .int (iI (p))), (1, .int (iI (m))), (2, .int (iI (p / 5))), (3, .int (iI (p % 5)))] []
        refine x_iload_n B dX7_placeAfter_103 0 rfl rfl ?_
        exact r_i B R dX7_placeAfter_104 (⟨rfl, by unfold mvT; (repeat' split) <;> omega⟩)
      · show Vx x E M 97 [(0, .int (iI (p))), (1, .int (iI (m))), (2, .int (iI (p / 5))), (3, .int (iI (p % 5)))] []
        refine x_iload_n B dX7_placeAfter_97 0 rfl rfl ?_
        refine x_iconst B dX7_placeAfter_98 ?_
        refine x_isub B dX7_placeAfter_99 ?_
        refine x_goto B (tgt := 104) dX7_placeAfter_100 (by decide) ?_
        exact r_i B R dX7_placeAfter_104 (⟨rfl, by unfold mvT; (repeat' split) <;> omega⟩)
    · refine x_tabIn B (tgt := 105) 3 dX7_placeAfter_28 ⟨by omega, by omega⟩ (by omega) (by omega) rfl (by decide) ?_
      refine x_iload_n B dX7_placeAfter_105 2 rfl rfl ?_
      refine x_iconst B dX7_placeAfter_106 ?_
      refine x_icmp_ge B (tgt := 116) dX7_placeAfter_107 (by decide) ⟨by omega, by omega⟩ ⟨by omega, by omega⟩ (fun c107 => ?_) (fun c107 => ?_)
      · show Vx x E M 116 [(0, .int (iI (p))), (1, .int (iI (m))), (2, .int (iI (p / 5))), (3, .int (iI (p % 5)))] []
        refine x_iload_n B dX7_placeAfter_116 0 rfl rfl ?_
        exact r_i B R dX7_placeAfter_117 (⟨rfl, by unfold mvT; (repeat' split) <;> omega⟩)
      · show Vx x E M 110 [(0, .int (iI (p))), (1, .int (iI (m))), (2, .int (iI (p / 5))), (3, .int (iI (p % 5)))] []
        refine x_iload_n B dX7_placeAfter_110 0 rfl rfl ?_
        refine x_iconst B dX7_placeAfter_111 ?_
        refine x_iadd B dX7_placeAfter_112 ?_
        refine x_goto B (tgt := 117) dX7_placeAfter_113 (by decide) ?_
        exact r_i B R dX7_placeAfter_117 (⟨rfl, by unfold mvT; (repeat' split) <;> omega⟩)
    · refine x_tabIn B (tgt := 121) 4 dX7_placeAfter_28 ⟨by omega, by omega⟩ (by omega) (by omega) rfl (by decide) ?_
      refine x_iload_n B dX7_placeAfter_121 0 rfl rfl ?_
      exact r_i B R dX7_placeAfter_122 (⟨rfl, by unfold mvT; (repeat' split) <;> omega⟩)
    · refine x_tabIn B (tgt := 118) 5 dX7_placeAfter_28 ⟨by omega, by omega⟩ (by omega) (by omega) rfl (by decide) ?_
      refine x_bipush B dX7_placeAfter_118 rfl ?_
      exact r_i B R dX7_placeAfter_120 (⟨rfl, by unfold mvT; (repeat' split) <;> omega⟩)
  · show Vx x E M 6 [(0, .int (iI (p))), (1, .int (iI (m)))] []
    refine x_iload_n B dX7_placeAfter_6 1 rfl rfl ?_
    refine x_iconst B dX7_placeAfter_7 ?_
    refine x_icmp_ne B (tgt := 16) dX7_placeAfter_8 (by decide) ⟨by omega, by omega⟩ ⟨by omega, by omega⟩ (fun c8 => ?_) (fun c8 => ?_)
    · show Vx x E M 16 [(0, .int (iI (p))), (1, .int (iI (m)))] []
      refine x_bipush B dX7_placeAfter_16 rfl ?_
      exact r_i B R dX7_placeAfter_18 (⟨rfl, by unfold mvT; (repeat' split) <;> omega⟩)
    · show Vx x E M 11 [(0, .int (iI (p))), (1, .int (iI (m)))] []
      refine x_bipush B dX7_placeAfter_11 rfl ?_
      refine x_goto B (tgt := 18) dX7_placeAfter_13 (by decide) ?_
      exact r_i B R dX7_placeAfter_18 (⟨rfl, by unfold mvT; (repeat' split) <;> omega⟩)
abbrev rm_X8_ledTo : Room := { frames := 0, cells := 0, slots := 0, locals := 0 }
theorem cs_X8_ledTo : Cs yX8_ledTo cX8_ledTo 2 (some .int) 2 := ⟨kw_1032, kw_1031, kw_67, by decide, by decide, by decide +kernel⟩
set_option maxHeartbeats 4000000 in
set_option maxRecDepth 100000 in
theorem c_X8_ledTo (l : Launch) (E : Ev) (M : Mem) (p m : Int) (g1 : 0 ≤ p) (g2 : p ≤ 25) (g3 : 0 ≤ m) (g4 : m ≤ 5) : Ct l yX8_ledTo cX8_ledTo 2 (some .int) rm_X8_ledTo E M [.int (iI (p)), .int (iI (m))] (pI (fun z M' => M = M' ∧ (z = mvT p m))) := by
  refine Ct_of (lv := [(0, .int (iI (p))), (1, .int (iI (m)))]) (by decide) ⟨rfl, rfl⟩ (Nat.le_of_ble_eq_true rfl) rfl (fun x _ B R => ?_)
  refine x_iload_n B dX8_ledTo_0 0 rfl rfl ?_
  refine x_bipush B dX8_ledTo_1 rfl ?_
  refine x_icmp_ne B (tgt := 19) dX8_ledTo_3 (by decide) ⟨by omega, by omega⟩ ⟨by omega, by omega⟩ (fun c3 => ?_) (fun c3 => ?_)
  · show Vx x E M 19 [(0, .int (iI (p))), (1, .int (iI (m)))] []
    refine x_iload_n B dX8_ledTo_19 1 rfl rfl ?_
    rcases (show (m < 0 ∨ 5 < m) ∨ m = 0 ∨ m = 1 ∨ m = 2 ∨ m = 3 ∨ m = 4 ∨ m = 5 by omega) with hsw | hsw | hsw | hsw | hsw | hsw | hsw
    · refine x_tabOut B (tgt := 119) dX8_ledTo_20 ⟨by omega, by omega⟩ (by omega) (by decide) ?_
      refine x_iload_n B dX8_ledTo_119 0 rfl rfl ?_
      exact r_i B R dX8_ledTo_120 (⟨rfl, by unfold mvT; (repeat' split) <;> omega⟩)
    · refine x_tabIn B (tgt := 60) 0 dX8_ledTo_20 ⟨by omega, by omega⟩ (by omega) (by omega) rfl (by decide) ?_
      refine x_iload_n B dX8_ledTo_60 0 rfl rfl ?_
      refine x_iconst B dX8_ledTo_61 ?_
      refine x_irem B dX8_ledTo_62 ⟨by omega, by omega⟩ (by omega) ⟨by omega, by omega⟩ (by omega) ?_
      refine x_if_le B (tgt := 72) dX8_ledTo_63 (by decide) ⟨by omega, by omega⟩ (fun c63 => ?_) (fun c63 => ?_)
      · show Vx x E M 72 [(0, .int (iI (p))), (1, .int (iI (m)))] []
        refine x_iload_n B dX8_ledTo_72 0 rfl rfl ?_
        exact r_i B R dX8_ledTo_73 (⟨rfl, by unfold mvT; (repeat' split) <;> omega⟩)
      · show Vx x E M 66 [(0, .int (iI (p))), (1, .int (iI (m)))] []
        refine x_iload_n B dX8_ledTo_66 0 rfl rfl ?_
        refine x_iconst B dX8_ledTo_67 ?_
        refine x_isub B dX8_ledTo_68 ?_
        refine x_goto B (tgt := 73) dX8_ledTo_69 (by decide) ?_
        exact r_i B R dX8_ledTo_73 (⟨rfl, by unfold mvT; (repeat' split) <;> omega⟩)
    · refine x_tabIn B (tgt := 74) 1 dX8_ledTo_20 ⟨by omega, by omega⟩ (by omega) (by omega) rfl (by decide) ?_
      refine x_iload_n B dX8_ledTo_74 0 rfl rfl ?_
      refine x_iconst B dX8_ledTo_75 ?_
      refine x_irem B dX8_ledTo_76 ⟨by omega, by omega⟩ (by omega) ⟨by omega, by omega⟩ (by omega) ?_
      refine x_iconst B dX8_ledTo_77 ?_
      refine x_icmp_ge B (tgt := 87) dX8_ledTo_78 (by decide) ⟨by omega, by omega⟩ ⟨by omega, by omega⟩ (fun c78 => ?_) (fun c78 => ?_)
      · show Vx x E M 87 [(0, .int (iI (p))), (1, .int (iI (m)))] []
        refine x_iload_n B dX8_ledTo_87 0 rfl rfl ?_
        exact r_i B R dX8_ledTo_88 (⟨rfl, by unfold mvT; (repeat' split) <;> omega⟩)
      · show Vx x E M 81 [(0, .int (iI (p))), (1, .int (iI (m)))] []
        refine x_iload_n B dX8_ledTo_81 0 rfl rfl ?_
        refine x_iconst B dX8_ledTo_82 ?_
        refine x_iadd B dX8_ledTo_83 ?_
        refine x_goto B (tgt := 88) dX8_ledTo_84 (by decide) ?_
        exact r_i B R dX8_ledTo_88 (⟨rfl, by unfold mvT; (repeat' split) <;> omega⟩)
    · refine x_tabIn B (tgt := 89) 2 dX8_ledTo_20 ⟨by omega, by omega⟩ (by omega) (by omega) rfl (by decide) ?_
      refine x_iload_n B dX8_ledTo_89 0 rfl rfl ?_
      refine x_iconst B dX8_ledTo_90 ?_
      refine x_icmp_lt B (tgt := 100) dX8_ledTo_91 (by decide) ⟨by omega, by omega⟩ ⟨by omega, by omega⟩ (fun c91 => ?_) (fun c91 => ?_)
      · show Vx x E M 100 [(0, .int (iI (p))), (1, .int (iI (m)))] []
        refine x_iload_n B dX8_ledTo_100 0 rfl rfl ?_
        exact r_i B R dX8_ledTo_101 (⟨rfl, by unfold mvT; (repeat' split) <;> omega⟩)
      · show Vx x E M 94 [(0, .int (iI (p))), (1, .int (iI (m)))] []
        refine x_iload_n B dX8_ledTo_94 0 rfl rfl ?_
        refine x_iconst B dX8_ledTo_95 ?_
        refine x_isub B dX8_ledTo_96 ?_
        refine x_goto B (tgt := 101) dX8_ledTo_97 (by decide) ?_
        exact r_i B R dX8_ledTo_101 (⟨rfl, by unfold mvT; (repeat' split) <;> omega⟩)
    · refine x_tabIn B (tgt := 102) 3 dX8_ledTo_20 ⟨by omega, by omega⟩ (by omega) (by omega) rfl (by decide) ?_
      refine x_iload_n B dX8_ledTo_102 0 rfl rfl ?_
      refine x_bipush B dX8_ledTo_103 rfl ?_
      refine x_icmp_ge B (tgt := 114) dX8_ledTo_105 (by decide) ⟨by omega, by omega⟩ ⟨by omega, by omega⟩ (fun c105 => ?_) (fun c105 => ?_)
      · show Vx x E M 114 [(0, .int (iI (p))), (1, .int (iI (m)))] []
        refine x_iload_n B dX8_ledTo_114 0 rfl rfl ?_
        exact r_i B R dX8_ledTo_115 (⟨rfl, by unfold mvT; (repeat' split) <;> omega⟩)
      · show Vx x E M 108 [(0, .int (iI (p))), (1, .int (iI (m)))] []
        refine x_iload_n B dX8_ledTo_108 0 rfl rfl ?_
        refine x_iconst B dX8_ledTo_109 ?_
        refine x_iadd B dX8_ledTo_110 ?_
        refine x_goto B (tgt := 115) dX8_ledTo_111 (by decide) ?_
        exact r_i B R dX8_ledTo_115 (⟨rfl, by unfold mvT; (repeat' split) <;> omega⟩)
    · refine x_tabIn B (tgt := 119) 4 dX8_ledTo_20 ⟨by omega, by omega⟩ (by omega) (by omega) rfl (by decide) ?_
      refine x_iload_n B dX8_ledTo_119 0 rfl rfl ?_
      exact r_i B R dX8_ledTo_120 (⟨rfl, by unfold mvT; (repeat' split) <;> omega⟩)
    · refine x_tabIn B (tgt := 116) 5 dX8_ledTo_20 ⟨by omega, by omega⟩ (by omega) (by omega) rfl (by decide) ?_
      refine x_bipush B dX8_ledTo_116 rfl ?_
      exact r_i B R dX8_ledTo_118 (⟨rfl, by unfold mvT; (repeat' split) <;> omega⟩)
  · show Vx x E M 6 [(0, .int (iI (p))), (1, .int (iI (m)))] []
    refine x_iload_n B dX8_ledTo_6 1 rfl rfl ?_
    refine x_iconst B dX8_ledTo_7 ?_
    refine x_icmp_ne B (tgt := 16) dX8_ledTo_8 (by decide) ⟨by omega, by omega⟩ ⟨by omega, by omega⟩ (fun c8 => ?_) (fun c8 => ?_)
    · show Vx x E M 16 [(0, .int (iI (p))), (1, .int (iI (m)))] []
      refine x_bipush B dX8_ledTo_16 rfl ?_
      exact r_i B R dX8_ledTo_18 (⟨rfl, by unfold mvT; (repeat' split) <;> omega⟩)
    · show Vx x E M 11 [(0, .int (iI (p))), (1, .int (iI (m)))] []
      refine x_bipush B dX8_ledTo_11 rfl ?_
      refine x_goto B (tgt := 18) dX8_ledTo_13 (by decide) ?_
      exact r_i B R dX8_ledTo_18 (⟨rfl, by unfold mvT; (repeat' split) <;> omega⟩)
