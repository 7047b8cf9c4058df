section RAW
variable {x : Cx} {E : Ev} {own : String} {cc : ByteArray} {n : Nat} {rm : Room} {M : Mem} {pc : Nat} {lv : List (Nat × Value)} {st : List Value}
theorem y_iushr (B : Ok x E own cc n rm) {u v : Int32} (hd : decode cc pc = .ok (.iushr, 1)) (k : Vx x E M (pc + 1) lv (.int ((u.toUInt32 >>> (v.toUInt32 &&& Int32.toUInt32 31)).toInt32) :: st)) : Vx x E M pc lv (.int v :: .int u :: st) := fun hw H locs ls hP hS hl => lv_iushr B.1 B.2.1 hd rfl (k hw H locs ls hP hS hl)
theorem y_iand (B : Ok x E own cc n rm) {u v : Int32} (hd : decode cc pc = .ok (.iand, 1)) (k : Vx x E M (pc + 1) lv (.int (u &&& v) :: st)) : Vx x E M pc lv (.int v :: .int u :: st) := fun hw H locs ls hP hS hl => lv_iand B.1 B.2.1 hd (k hw H locs ls hP hS hl)
theorem y_iadd (B : Ok x E own cc n rm) {u v : Int32} (hd : decode cc pc = .ok (.iadd, 1)) (k : Vx x E M (pc + 1) lv (.int (u + v) :: st)) : Vx x E M pc lv (.int v :: .int u :: st) := fun hw H locs ls hP hS hl => lv_iadd B.1 B.2.1 hd (k hw H locs ls hP hS hl)
theorem y_isub (B : Ok x E own cc n rm) {u v : Int32} (hd : decode cc pc = .ok (.isub, 1)) (k : Vx x E M (pc + 1) lv (.int (u - v) :: st)) : Vx x E M pc lv (.int v :: .int u :: st) := fun hw H locs ls hP hS hl => lv_isub B.1 B.2.1 hd (k hw H locs ls hP hS hl)
theorem y_raw {u : Int32} (z : Int) (h : u = iI z) (k : Vx x E M pc lv (.int (iI z) :: st)) : Vx x E M pc lv (.int u :: st) := by rw [h]; exact k
end RAW
def popN (v : Nat) : Nat → Nat
  | 0 => 0
  | k + 1 => popN v k + (v.testBit k).toNat
def sru (u : Int32) (k : Int) : Int32 := (u.toUInt32 >>> ((iI k).toUInt32 &&& Int32.toUInt32 31)).toInt32
def bc1 (u : Int32) : Int32 := u - (sru u 1 &&& iI 1431655765)
def bc2 (u : Int32) : Int32 := (u &&& iI 858993459) + (sru u 2 &&& iI 858993459)
def bc3 (u : Int32) : Int32 := (u + sru u 4) &&& iI 252645135
def bc4 (u : Int32) : Int32 := u + sru u 8
def bc5 (u : Int32) : Int32 := (u + sru u 16) &&& iI 63
def bcA (u : Int32) : Int32 := bc5 (bc4 (bc3 (bc2 (bc1 u))))
def bcN1 (n : Nat) : Nat := n - ((n / 2) &&& 1431655765)
def bcN2 (n : Nat) : Nat := (n &&& 858993459) + ((n / 4) &&& 858993459)
def bcN3 (n : Nat) : Nat := (n + n / 16) &&& 252645135
def bcN4 (n : Nat) : Nat := n + n / 256
def bcN5 (n : Nat) : Nat := (n + n / 65536) &&& 63
def bcT (n : Nat) : Bool := Nat.beq (bcN5 (bcN4 (bcN3 (bcN2 (bcN1 n))))) (popN n 16)
def bcAll (lo : Nat) : Nat → Bool
  | 0 => bcT lo
  | d + 1 => bcAll lo d && bcAll (lo + 2 ^ d) d
theorem bcAll_ok : ∀ d lo n, bcAll lo d = true → lo ≤ n → n < lo + 2 ^ d → bcT n = true := by
  intro d
  induction d with
  | zero =>
    intro lo n h h1 h2
    rw [show n = lo by omega]
    exact h
  | succ d ih =>
    intro lo n h h1 h2
    have h3 : (bcAll lo d && bcAll (lo + 2 ^ d) d) = true := h
    rw [Bool.and_eq_true] at h3
    rw [Nat.pow_succ] at h2
    by_cases c : n < lo + 2 ^ d
    · exact ih lo n h3.1 h1 c
    · exact ih (lo + 2 ^ d) n h3.2 (by omega) (by omega)
theorem bcAll_0 : bcAll 0 14 = true := by decide +kernel
theorem bcAll_1 : bcAll 16384 14 = true := by decide +kernel
theorem bcAll_2 : bcAll 32768 14 = true := by decide +kernel
theorem bcAll_3 : bcAll 49152 14 = true := by decide +kernel
theorem bcN_ok {n : Nat} (h : n < 65536) : bcN5 (bcN4 (bcN3 (bcN2 (bcN1 n)))) = popN n 16 := by
  have e : (2 : Nat) ^ 14 = 16384 := by decide
  have key : bcT n = true := by
    rcases (show n < 16384 ∨ (16384 ≤ n ∧ n < 32768) ∨ (32768 ≤ n ∧ n < 49152) ∨ (49152 ≤ n ∧ n < 65536) by omega) with q | q | q | q
    · exact bcAll_ok 14 0 n bcAll_0 (by omega) (by omega)
    · exact bcAll_ok 14 16384 n bcAll_1 (by omega) (by omega)
    · exact bcAll_ok 14 32768 n bcAll_2 (by omega) (by omega)
    · exact bcAll_ok 14 49152 n bcAll_3 (by omega) (by omega)
  exact Nat.eq_of_beq_eq_true key
theorem sru_ok : ∀ k : Fin 32, ((((iI (k.val : Int)).toUInt32 &&& Int32.toUInt32 31)).toBitVec % 32).toNat = k.val := by decide +kernel
theorem sru_n {n : Nat} (h : n < 2147483648) (k : Nat) (hk : k < 32) : sru (iI (n : Int)) (k : Int) = iI ((n / 2 ^ k : Nat) : Int) := by
  unfold sru
  rw [iI_nat n, iI_nat (n / 2 ^ k)]
  exact pk_ushrN (by omega) (iI (k : Int)) k (sru_ok ⟨k, hk⟩)
theorem iN_and (a b : Nat) : iI (a : Int) &&& iI (b : Int) = iI ((a &&& b : Nat) : Int) := by
  rw [iI_and (Int.natCast_nonneg a) (Int.natCast_nonneg b), Int.toNat_natCast, Int.toNat_natCast]
theorem iN_add (a b : Nat) : iI (a : Int) + iI (b : Int) = iI ((a + b : Nat) : Int) := by rw [iI_add]; rfl
theorem and_le_r (a b : Nat) : a &&& b ≤ a := Nat.and_le_left
theorem bc1_n {n : Nat} (h : n < 2147483648) : bc1 (iI (n : Int)) = iI ((bcN1 n : Nat) : Int) := by
  have hs := sru_n h 1 (by omega)
  have hle : (n / 2) &&& 1431655765 ≤ n := Nat.le_trans Nat.and_le_left (Nat.div_le_self n 2)
  unfold bc1 bcN1
  rw [show (1 : Int) = ((1 : Nat) : Int) from rfl, hs, show iI 1431655765 = iI ((1431655765 : Nat) : Int) from rfl, iN_and, iI_sub, Int.ofNat_sub hle]
theorem bc2_n {n : Nat} (h : n < 2147483648) : bc2 (iI (n : Int)) = iI ((bcN2 n : Nat) : Int) := by
  have hs := sru_n h 2 (by omega)
  unfold bc2 bcN2
  rw [show (2 : Int) = ((2 : Nat) : Int) from rfl, hs, show iI 858993459 = iI ((858993459 : Nat) : Int) from rfl, iN_and, iN_and, iN_add]
theorem bc3_n {n : Nat} (h : n < 2147483648) : bc3 (iI (n : Int)) = iI ((bcN3 n : Nat) : Int) := by
  have hs := sru_n h 4 (by omega)
  unfold bc3 bcN3
  rw [show (4 : Int) = ((4 : Nat) : Int) from rfl, hs, show iI 252645135 = iI ((252645135 : Nat) : Int) from rfl, iN_add, iN_and]
theorem bc4_n {n : Nat} (h : n < 2147483648) : bc4 (iI (n : Int)) = iI ((bcN4 n : Nat) : Int) := by
  have hs := sru_n h 8 (by omega)
  unfold bc4 bcN4
  rw [show (8 : Int) = ((8 : Nat) : Int) from rfl, hs, iN_add]
theorem bc5_n {n : Nat} (h : n < 2147483648) : bc5 (iI (n : Int)) = iI ((bcN5 n : Nat) : Int) := by
  have hs := sru_n h 16 (by omega)
  unfold bc5 bcN5
  rw [show (16 : Int) = ((16 : Nat) : Int) from rfl, hs, iN_add, show iI 63 = iI ((63 : Nat) : Int) from rfl, iN_and]
theorem bc_ok {a : Int} (h0 : 0 ≤ a) (h1 : a < 65536) : bcA (iI a) = iI ((popN a.toNat 16 : Nat) : Int) := by
  have h2 : bcN1 a.toNat ≤ 65535 := by unfold bcN1; omega
  have h3 : bcN2 (bcN1 a.toNat) < 131072 := by
    unfold bcN2
    have q1 : bcN1 a.toNat &&& 858993459 ≤ bcN1 a.toNat := Nat.and_le_left
    have q2 : (bcN1 a.toNat / 4) &&& 858993459 ≤ bcN1 a.toNat / 4 := Nat.and_le_left
    omega
  have h4 : bcN3 (bcN2 (bcN1 a.toNat)) ≤ 252645135 := by unfold bcN3; exact Nat.and_le_right
  have h5 : bcN4 (bcN3 (bcN2 (bcN1 a.toNat))) < 2147483648 := by unfold bcN4; omega
  unfold bcA
  conv => lhs; rw [nat_of h0]
  rw [bc1_n (by omega), bc2_n (by omega), bc3_n (by omega), bc4_n (by omega), bc5_n h5, bcN_ok (by omega)]
theorem popN_le (v : Nat) : ∀ k, popN v k ≤ k := by
  intro k
  induction k with
  | zero => exact Nat.le_refl 0
  | succ k ih =>
    show popN v k + (v.testBit k).toNat ≤ k + 1
    have : (v.testBit k).toNat ≤ 1 := by cases v.testBit k <;> decide
    omega
abbrev rm_J6_bitCount_0f7a4 : Room := { frames := 0, cells := 0, slots := 0, locals := 0 }
theorem cs_J6_bitCount_0f7a4 : Cs yJ6_bitCount_0f7a4 cJ6_bitCount_0f7a4 1 (some .int) 1 := ⟨kw_670, kw_669, kw_73, by decide, by decide, by decide +kernel⟩
set_option maxHeartbeats 4000000 in
set_option maxRecDepth 100000 in
theorem c_J6_bitCount_0f7a4 (l : Launch) (E : Ev) (M : Mem) (a : Int) (g1 : 0 ≤ a) (g2 : a < 65536) : Ct l yJ6_bitCount_0f7a4 cJ6_bitCount_0f7a4 1 (some .int) rm_J6_bitCount_0f7a4 E M [.int (iI a)] (pI (fun z M' => M = M' ∧ (z = ((popN a.toNat 16 : Nat) : Int) ∧ 0 ≤ z ∧ z ≤ 16))) := by
  refine Ct_of (lv := [(0, .int (iI a))]) (by decide) ⟨rfl, rfl⟩ (Nat.le_of_ble_eq_true rfl) rfl (fun x _ B R => ?_)
  refine x_iload_n B dJ6_bitCount_0f7a4_0 0 rfl rfl ?_
  refine x_iload_n B dJ6_bitCount_0f7a4_1 0 rfl rfl ?_
  refine x_iconst B dJ6_bitCount_0f7a4_2 ?_
  refine y_iushr B dJ6_bitCount_0f7a4_3 ?_
  refine x_ldcw B (z := 1431655765) dJ6_bitCount_0f7a4_4 kw_671 ?_
  refine y_iand B dJ6_bitCount_0f7a4_7 ?_
  refine y_isub B dJ6_bitCount_0f7a4_8 ?_
  refine x_istore_n B dJ6_bitCount_0f7a4_9 [0] rfl (by decide) rfl ?_
  refine x_iload_n B dJ6_bitCount_0f7a4_10 0 rfl rfl ?_
  refine x_ldcw B (z := 858993459) dJ6_bitCount_0f7a4_11 kw_672 ?_
  refine y_iand B dJ6_bitCount_0f7a4_14 ?_
  refine x_iload_n B dJ6_bitCount_0f7a4_15 0 rfl rfl ?_
  refine x_iconst B dJ6_bitCount_0f7a4_16 ?_
  refine y_iushr B dJ6_bitCount_0f7a4_17 ?_
  refine x_ldcw B (z := 858993459) dJ6_bitCount_0f7a4_18 kw_672 ?_
  refine y_iand B dJ6_bitCount_0f7a4_21 ?_
  refine y_iadd B dJ6_bitCount_0f7a4_22 ?_
  refine x_istore_n B dJ6_bitCount_0f7a4_23 [0] rfl (by decide) rfl ?_
  refine x_iload_n B dJ6_bitCount_0f7a4_24 0 rfl rfl ?_
  refine x_iload_n B dJ6_bitCount_0f7a4_25 0 rfl rfl ?_
  refine x_iconst B dJ6_bitCount_0f7a4_26 ?_
  refine y_iushr B dJ6_bitCount_0f7a4_27 ?_
  refine y_iadd B dJ6_bitCount_0f7a4_28 ?_
  refine x_ldcw B (z := 252645135) dJ6_bitCount_0f7a4_29 kw_673 ?_
  refine y_iand B dJ6_bitCount_0f7a4_32 ?_
  refine x_istore_n B dJ6_bitCount_0f7a4_33 [0] rfl (by decide) rfl ?_
  refine x_iload_n B dJ6_bitCount_0f7a4_34 0 rfl rfl ?_
  refine x_iload_n B dJ6_bitCount_0f7a4_35 0 rfl rfl ?_
  refine x_bipush B dJ6_bitCount_0f7a4_36 rfl ?_
  refine y_iushr B dJ6_bitCount_0f7a4_38 ?_
  refine y_iadd B dJ6_bitCount_0f7a4_39 ?_
  refine x_istore_n B dJ6_bitCount_0f7a4_40 [0] rfl (by decide) rfl ?_
  refine x_iload_n B dJ6_bitCount_0f7a4_41 0 rfl rfl ?_
  refine x_iload_n B dJ6_bitCount_0f7a4_42 0 rfl rfl ?_
  refine x_bipush B dJ6_bitCount_0f7a4_43 rfl ?_
  refine y_iushr B dJ6_bitCount_0f7a4_45 ?_
  refine y_iadd B dJ6_bitCount_0f7a4_46 ?_
  refine x_istore_n B dJ6_bitCount_0f7a4_47 [0] rfl (by decide) rfl ?_
  refine x_iload_n B dJ6_bitCount_0f7a4_48 0 rfl rfl ?_
  refine x_bipush B dJ6_bitCount_0f7a4_49 rfl ?_
  refine y_iand B dJ6_bitCount_0f7a4_51 ?_
  refine y_raw ((popN a.toNat 16 : Nat) : Int) (bc_ok g1 g2) ?_
  exact r_i B R dJ6_bitCount_0f7a4_52 ⟨rfl, rfl, by omega, by have := popN_le a.toNat 16; omega⟩
