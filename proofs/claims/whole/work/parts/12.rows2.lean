/-! ===== longs ===== -/
def iL (z : Int) : Int64 := Int64.ofInt z
def RgL (z : Int) : Prop := -9223372036854775808 ≤ z ∧ z < 9223372036854775808
theorem iL_t {z : Int} (h : RgL z) : (iL z).toInt = z := Int64.toInt_ofInt_of_le (by unfold RgL at h; omega) (by unfold RgL at h; omega)
theorem iL_add (a b : Int) : iL a + iL b = iL (a + b) := (Int64.ofInt_add a b).symm
theorem iI_l {z : Int} (h : Rg z) : (iI z).toInt64 = iL z := by
  rw [← Int64.toInt_inj, Int32.toInt_toInt64, iI_t h, iL_t (by unfold Rg at h; unfold RgL; omega)]
theorem iL_lt {a b : Int} (ha : RgL a) (hb : RgL b) : iL a < iL b ↔ a < b := by rw [Int64.lt_iff_toInt_lt, iL_t ha, iL_t hb]
theorem iL_eq {a b : Int} (ha : RgL a) (hb : RgL b) : iL a = iL b ↔ a = b := by rw [← Int64.toInt_inj, iL_t ha, iL_t hb]
/-! ===== bits ===== -/
theorem nat_of {a : Int} (h : 0 ≤ a) : a = ((a.toNat : Nat) : Int) := by omega
theorem iI_tb (n : Nat) : (iI (n : Int)).toBitVec = BitVec.ofNat 32 n := by rw [iI_nat]; rfl
theorem iI_and {a b : Int} (ha : 0 ≤ a) (hb : 0 ≤ b) : iI a &&& iI b = iI ((a.toNat &&& b.toNat : Nat) : Int) := by
  conv => lhs; rw [nat_of ha, nat_of hb]
  apply Int32.toBitVec_inj.mp
  rw [Int32.toBitVec_and, iI_tb, iI_tb, iI_tb]
  apply BitVec.eq_of_getLsbD_eq
  intro i hi
  simp [hi]
theorem iI_or {a b : Int} (ha : 0 ≤ a) (hb : 0 ≤ b) : iI a ||| iI b = iI ((a.toNat ||| b.toNat : Nat) : Int) := by
  conv => lhs; rw [nat_of ha, nat_of hb]
  apply Int32.toBitVec_inj.mp
  rw [Int32.toBitVec_or, iI_tb, iI_tb, iI_tb]
  apply BitVec.eq_of_getLsbD_eq
  intro i hi
  simp [hi]
theorem iI_not (a : Int) : iI a ^^^ iI (-1) = iI (-a - 1) := by
  have h : iI a ^^^ iI (-1) = ~~~ iI a := by
    apply Int32.toBitVec_inj.mp
    rw [Int32.toBitVec_xor, Int32.toBitVec_not]
    show (iI a).toBitVec ^^^ BitVec.allOnes 32 = _
    rw [BitVec.xor_allOnes]
  rw [h]
  have h2 : iI (-a - 1) = - iI a - iI 1 := by rw [iI_neg, iI_sub]
  rw [h2]
  apply Int32.toBitVec_inj.mp
  rw [Int32.toBitVec_not, Int32.toBitVec_sub, Int32.toBitVec_neg]
  show _ = - (iI a).toBitVec - 1#32
  rw [BitVec.neg_eq_not_add, BitVec.add_sub_cancel]
def ndf (a b : Nat) : Nat := a ^^^ (a &&& b)
theorem ndf_bit (a b i : Nat) : (ndf a b).testBit i = (a.testBit i && !b.testBit i) := by
  unfold ndf
  rw [Nat.testBit_xor, Nat.testBit_and]
  cases a.testBit i <;> cases b.testBit i <;> rfl
theorem iI_andn {a b : Int} (ha : 0 ≤ a) (hb : 0 ≤ b) : iI a &&& iI (-b - 1) = iI ((ndf a.toNat b.toNat : Nat) : Int) := by
  have h : iI (-b - 1) = ~~~ iI b := by
    rw [← iI_not]
    apply Int32.toBitVec_inj.mp
    rw [Int32.toBitVec_xor, Int32.toBitVec_not]
    show (iI b).toBitVec ^^^ BitVec.allOnes 32 = _
    rw [BitVec.xor_allOnes]
  rw [h]
  conv => lhs; rw [nat_of ha, nat_of hb]
  apply Int32.toBitVec_inj.mp
  rw [Int32.toBitVec_and, Int32.toBitVec_not, iI_tb, iI_tb, iI_tb]
  apply BitVec.eq_of_getLsbD_eq
  intro i hi
  rw [BitVec.getLsbD_and, BitVec.getLsbD_not, BitVec.getLsbD_ofNat, BitVec.getLsbD_ofNat, BitVec.getLsbD_ofNat, ndf_bit]
  simp [hi]
theorem sh_ok : ∀ p : Fin 32, ((iI (p.val : Int) &&& 31).toBitVec.smod 32).toNat = p.val := by decide +kernel
theorem sh_1 : ∀ p : Fin 32, iI 1 <<< (iI (p.val : Int) &&& 31) = iI ((2 ^ p.val : Nat) : Int) := by decide +kernel
theorem iI_shl1 {p : Int} (h0 : 0 ≤ p) (h1 : p < 32) : iI 1 <<< (iI p &&& 31) = iI ((2 ^ p.toNat : Nat) : Int) := by
  have := sh_1 ⟨p.toNat, by omega⟩
  dsimp only at this
  rw [← nat_of h0] at this
  exact this
theorem iI_shr {a p : Int} (ha : 0 ≤ a) (hr : Rg a) (h0 : 0 ≤ p) (h1 : p < 32) : iI a >>> (iI p &&& 31) = iI ((a.toNat >>> p.toNat : Nat) : Int) := by
  have hs := sh_ok ⟨p.toNat, by omega⟩
  dsimp only at hs
  rw [← nat_of h0] at hs
  have h2 := pk_shrN (n := a.toNat) (by unfold Rg at hr; omega) (iI p &&& 31) p.toNat hs
  rw [Nat.shiftRight_eq_div_pow, iI_nat]
  conv => lhs; rw [nat_of ha, iI_nat]
  exact h2
theorem iI_i2b {z : Int} (h : Rg z) : (iI z).toInt8.toInt32 = iI (z.bmod 256) := by
  have hb := Int.bmod_lt (x := z) (m := 256) (by decide)
  have hb' := Int.le_bmod (x := z) (m := 256) (by decide)
  rw [← Int32.toInt_inj, Int8.toInt_toInt32, Int32.toInt_toInt8, iI_t h, iI_t (by unfold Rg; omega)]
theorem iI_i2s {z : Int} (h : Rg z) : (iI z).toInt16.toInt32 = iI (z.bmod 65536) := by
  have hb := Int.bmod_lt (x := z) (m := 65536) (by decide)
  have hb' := Int.le_bmod (x := z) (m := 65536) (by decide)
  rw [← Int32.toInt_inj, Int16.toInt_toInt32, Int32.toInt_toInt16, iI_t h, iI_t (by unfold Rg; omega)]
/-! posts by what is answered -/
def pI (P : Int → Mem → Prop) : Option Value → Mem → Prop := fun r M' => ∃ z : Int, r = some (.int (iI z)) ∧ P z M'
def pV (P : Mem → Prop) : Option Value → Mem → Prop := fun r M' => r = none ∧ P M'
def pR (P : Nat → Mem → Prop) : Option Value → Mem → Prop := fun r M' => ∃ a : Nat, r = some (.ref a) ∧ P a M'
section ROWS2
variable {x : Cx} {E : Ev} {own : String} {cc : ByteArray} {n : Nat} {rm : Room} {M : Mem} {pc : Nat} {lv : List (Nat × Value)} {st : List Value} {r : Option FieldType} {post : Option Value → Mem → Prop}
theorem x_lconst (B : Ok x E own cc n rm) {f : Fin 2} {z : Int} (hd : decode cc pc = .ok (.lconst f, 1)) (hv : Int64.ofNat (f : Nat) = iL z) (k : Vx x E M (pc + 1) lv (.long (iL z) :: st)) : Vx x E M pc lv st := fun hw H locs ls hP hS hl => lv_lconst B.1 B.2.1 hd hv (k hw H locs ls hP hS hl)
theorem x_ldc2 (B : Ok x E own cc n rm) {i : Nat} {v : Int64} {z : Int} (hd : decode cc pc = .ok (.ldc2_w i, 3)) (hk : Cond.constantLong own i v ∈ GW) (hv : v = iL z) (k : Vx x E M (pc + 3) lv (.long (iL z) :: st)) : Vx x E M pc lv st := by
  subst hv
  exact fun hw H locs ls hP hS hl => lv_ldc2 B.1 B.2.1 B.2.2.2.1 (B.2.2.2.2.1 _ hk) hd (k hw H locs ls hP hS hl)
theorem x_i2l (B : Ok x E own cc n rm) {z : Int} (hd : decode cc pc = .ok (.i2l, 1)) (hz : Rg z) (k : Vx x E M (pc + 1) lv (.long (iL z) :: st)) : Vx x E M pc lv (.int (iI z) :: st) := fun hw H locs ls hP hS hl => lv_i2l B.1 B.2.1 hd (iI_l hz) (k hw H locs ls hP hS hl)
theorem x_ladd (B : Ok x E own cc n rm) {a b : Int} (hd : decode cc pc = .ok (.ladd, 1)) (k : Vx x E M (pc + 1) lv (.long (iL (a + b)) :: st)) : Vx x E M pc lv (.long (iL b) :: .long (iL a) :: st) := fun hw H locs ls hP hS hl => lv_ladd B.1 B.2.1 hd (by rw [iL_add]; exact k hw H locs ls hP hS hl)
theorem x_lcmp (B : Ok x E own cc n rm) {a b : Int} (hd : decode cc pc = .ok (.lcmp, 1)) (ha : RgL a) (hb : RgL b) (k : ∀ c : Int, (c = 1 ∧ b < a ∨ c = 0 ∧ a = b ∨ c = -1 ∧ a < b) → Vx x E M (pc + 1) lv (.int (iI c) :: st)) : Vx x E M pc lv (.long (iL b) :: .long (iL a) :: st) := by
  intro hw H locs ls hP hS hl
  refine W.lcmp B.1 B.2.1 hd ?_
  have h : ∃ c : Int, lg_cmp (iL a) (iL b) = iI c ∧ (c = 1 ∧ b < a ∨ c = 0 ∧ a = b ∨ c = -1 ∧ a < b) := by
    unfold lg_cmp
    by_cases h1 : b < a
    · exact ⟨1, by rw [if_pos ((iL_lt hb ha).mpr h1)]; rfl, Or.inl ⟨rfl, h1⟩⟩
    · rw [if_neg (fun q => h1 ((iL_lt hb ha).mp q))]
      by_cases h2 : a = b
      · exact ⟨0, by rw [if_pos ((iL_eq ha hb).mpr h2)]; rfl, Or.inr (Or.inl ⟨rfl, h2⟩)⟩
      · exact ⟨-1, by rw [if_neg (fun q => h2 ((iL_eq ha hb).mp q))]; rfl, Or.inr (Or.inr ⟨rfl, by omega⟩)⟩
  obtain ⟨c, e, hc⟩ := h
  rw [e]
  exact k c hc hw H locs ls hP hS hl
theorem x_iand (B : Ok x E own cc n rm) {a b : Int} (hd : decode cc pc = .ok (.iand, 1)) (ha : 0 ≤ a) (hb : 0 ≤ b) (k : Vx x E M (pc + 1) lv (.int (iI ((a.toNat &&& b.toNat : Nat) : Int)) :: st)) : Vx x E M pc lv (.int (iI b) :: .int (iI a) :: st) := fun hw H locs ls hP hS hl => lv_iand B.1 B.2.1 hd (by rw [iI_and ha hb]; exact k hw H locs ls hP hS hl)
theorem x_iandn (B : Ok x E own cc n rm) {a b : Int} (hd : decode cc pc = .ok (.iand, 1)) (ha : 0 ≤ a) (hb : 0 ≤ b) (k : Vx x E M (pc + 1) lv (.int (iI ((ndf a.toNat b.toNat : Nat) : Int)) :: st)) : Vx x E M pc lv (.int (iI (-b - 1)) :: .int (iI a) :: st) := fun hw H locs ls hP hS hl => lv_iand B.1 B.2.1 hd (by rw [iI_andn ha hb]; exact k hw H locs ls hP hS hl)
theorem x_ior (B : Ok x E own cc n rm) {a b : Int} (hd : decode cc pc = .ok (.ior, 1)) (ha : 0 ≤ a) (hb : 0 ≤ b) (k : Vx x E M (pc + 1) lv (.int (iI ((a.toNat ||| b.toNat : Nat) : Int)) :: st)) : Vx x E M pc lv (.int (iI b) :: .int (iI a) :: st) := fun hw H locs ls hP hS hl => lv_ior B.1 B.2.1 hd (by rw [iI_or ha hb]; exact k hw H locs ls hP hS hl)
theorem x_inot (B : Ok x E own cc n rm) {a : Int} (hd : decode cc pc = .ok (.ixor, 1)) (k : Vx x E M (pc + 1) lv (.int (iI (-a - 1)) :: st)) : Vx x E M pc lv (.int (iI (-1)) :: .int (iI a) :: st) := fun hw H locs ls hP hS hl => lv_ixor B.1 B.2.1 hd (by rw [iI_not]; exact k hw H locs ls hP hS hl)
theorem x_shl1 (B : Ok x E own cc n rm) {p : Int} (hd : decode cc pc = .ok (.ishl, 1)) (h0 : 0 ≤ p) (h1 : p < 32) (k : Vx x E M (pc + 1) lv (.int (iI ((2 ^ p.toNat : Nat) : Int)) :: st)) : Vx x E M pc lv (.int (iI p) :: .int (iI 1) :: st) := fun hw H locs ls hP hS hl => lv_ishl B.1 B.2.1 hd (by rw [iI_shl1 h0 h1]; exact k hw H locs ls hP hS hl)
theorem x_ishr (B : Ok x E own cc n rm) {a p : Int} (hd : decode cc pc = .ok (.ishr, 1)) (ha : 0 ≤ a) (hr : Rg a) (h0 : 0 ≤ p) (h1 : p < 32) (k : Vx x E M (pc + 1) lv (.int (iI ((a.toNat >>> p.toNat : Nat) : Int)) :: st)) : Vx x E M pc lv (.int (iI p) :: .int (iI a) :: st) := fun hw H locs ls hP hS hl => lv_ishr B.1 B.2.1 hd (by rw [iI_shr ha hr h0 h1]; exact k hw H locs ls hP hS hl)
theorem x_i2b (B : Ok x E own cc n rm) {z : Int} (hd : decode cc pc = .ok (.i2b, 1)) (hz : Rg z) (k : Vx x E M (pc + 1) lv (.int (iI (z.bmod 256)) :: st)) : Vx x E M pc lv (.int (iI z) :: st) := fun hw H locs ls hP hS hl => lv_i2b B.1 B.2.1 hd (iI_i2b hz) (k hw H locs ls hP hS hl)
theorem x_i2s (B : Ok x E own cc n rm) {z : Int} (hd : decode cc pc = .ok (.i2s, 1)) (hz : Rg z) (k : Vx x E M (pc + 1) lv (.int (iI (z.bmod 65536)) :: st)) : Vx x E M pc lv (.int (iI z) :: st) := fun hw H locs ls hP hS hl => lv_i2s B.1 B.2.1 hd (iI_i2s hz) (k hw H locs ls hP hS hl)
theorem k_i {P : Int → Mem → Prop} (kk : ∀ (z : Int) (M' : Mem), P z M' → Vx x E M' pc lv (.int (iI z) :: st)) : ∀ (v : Option Value) (M' : Mem), pI P v M' → Vx x E M' pc lv (v.toList ++ st) := by
  intro v M' h
  obtain ⟨z, rfl, hz⟩ := h
  exact kk z M' hz
theorem k_v {P : Mem → Prop} (kk : ∀ (M' : Mem), P M' → Vx x E M' pc lv st) : ∀ (v : Option Value) (M' : Mem), pV P v M' → Vx x E M' pc lv (v.toList ++ st) := by
  intro v M' h
  obtain ⟨rfl, hz⟩ := h
  exact kk M' hz
theorem k_r {P : Nat → Mem → Prop} (kk : ∀ (a : Nat) (M' : Mem), P a M' → Vx x E M' pc lv (.ref a :: st)) : ∀ (v : Option Value) (M' : Mem), pR P v M' → Vx x E M' pc lv (v.toList ++ st) := by
  intro v M' h
  obtain ⟨a, rfl, hz⟩ := h
  exact kk a M' hz
theorem r_i (B : Ok x E own cc n rm) {P : Int → Mem → Prop} (R : Rt x E (some .int) (pI P)) {z : Int} (hd : decode cc pc = .ok (.ireturn, 1)) (hp : P z M) : Vx x E M pc lv [.int (iI z)] := x_iret B R hd ⟨z, rfl, hp⟩
theorem r_z (B : Ok x E own cc n rm) {P : Int → Mem → Prop} (R : Rt x E (some .boolean) (pI P)) {z : Int} (hd : decode cc pc = .ok (.ireturn, 1)) (h0 : 0 ≤ z) (h1 : z ≤ 1) (hp : P z M) : Vx x E M pc lv [.int (iI z)] := x_zret B R hd (nar_z h0 h1) ⟨z, rfl, hp⟩
theorem r_v (B : Ok x E own cc n rm) {P : Mem → Prop} (R : Rt x E none (pV P)) (hd : decode cc pc = .ok (.return_, 1)) (hp : P M) : Vx x E M pc lv [] := x_vret B R hd ⟨rfl, hp⟩
theorem r_r (B : Ok x E own cc n rm) {P : Nat → Mem → Prop} {c : String} (R : Rt x E (some (.object c)) (pR P)) {a : Nat} (hd : decode cc pc = .ok (.areturn, 1)) (hp : P a M) : Vx x E M pc lv [.ref a] := x_aret B R hd ⟨a, rfl, hp⟩
/-- a number gets a name -/
theorem x_top (v : Int) {z : Int} (hz : z = v) (k : Vx x E M pc lv (.int (iI v) :: st)) : Vx x E M pc lv (.int (iI z) :: st) := by rw [hz]; exact k
theorem x_wf (k : wf M → Vx x E M pc lv st) : Vx x E M pc lv st := fun hw => k hw hw
end ROWS2
/-! ===== loops: strong induction on a measure ===== -/
theorem lo0 {P : Nat → Prop} (h : ∀ a, (∀ b, b < a → P b) → P a) : ∀ a, P a := fun a => Nat.strongRecOn a h
theorem lo1 {A1 : Type} (I P : A1 → Prop) (μ : A1 → Nat) (h : ∀ a1, I a1 → (∀ b1, I b1 → μ b1 < μ a1 → P b1) → P a1) : ∀ a1, I a1 → P a1 := by
  have key : ∀ n a1, μ a1 = n → I a1 → P a1 := fun n => Nat.strongRecOn n (fun n ih a1 e hI => h a1 hI (fun b1 hb hlt => ih (μ b1) (e ▸ hlt) b1 rfl hb))
  exact fun a1 hI => key _ a1 rfl hI
theorem lo2 {A1 A2 : Type} (I P : A1 → A2 → Prop) (μ : A1 → A2 → Nat) (h : ∀ a1 a2, I a1 a2 → (∀ b1 b2, I b1 b2 → μ b1 b2 < μ a1 a2 → P b1 b2) → P a1 a2) : ∀ a1 a2, I a1 a2 → P a1 a2 := fun a1 a2 hI => lo1 (A1 := A1 × A2) (fun q => I q.1 q.2) (fun q => P q.1 q.2) (fun q => μ q.1 q.2) (fun q hq ih => h q.1 q.2 hq (fun b1 b2 hb hlt => ih (b1, b2) hb hlt)) (a1, a2) hI
theorem lo3 {A1 A2 A3 : Type} (I P : A1 → A2 → A3 → Prop) (μ : A1 → A2 → A3 → Nat) (h : ∀ a1 a2 a3, I a1 a2 a3 → (∀ b1 b2 b3, I b1 b2 b3 → μ b1 b2 b3 < μ a1 a2 a3 → P b1 b2 b3) → P a1 a2 a3) : ∀ a1 a2 a3, I a1 a2 a3 → P a1 a2 a3 := fun a1 a2 a3 hI => lo1 (A1 := A1 × A2 × A3) (fun q => I q.1 q.2.1 q.2.2) (fun q => P q.1 q.2.1 q.2.2) (fun q => μ q.1 q.2.1 q.2.2) (fun q hq ih => h q.1 q.2.1 q.2.2 hq (fun b1 b2 b3 hb hlt => ih (b1, b2, b3) hb hlt)) (a1, a2, a3) hI
theorem lo4 {A1 A2 A3 A4 : Type} (I P : A1 → A2 → A3 → A4 → Prop) (μ : A1 → A2 → A3 → A4 → Nat) (h : ∀ a1 a2 a3 a4, I a1 a2 a3 a4 → (∀ b1 b2 b3 b4, I b1 b2 b3 b4 → μ b1 b2 b3 b4 < μ a1 a2 a3 a4 → P b1 b2 b3 b4) → P a1 a2 a3 a4) : ∀ a1 a2 a3 a4, I a1 a2 a3 a4 → P a1 a2 a3 a4 := fun a1 a2 a3 a4 hI => lo1 (A1 := A1 × A2 × A3 × A4) (fun q => I q.1 q.2.1 q.2.2.1 q.2.2.2) (fun q => P q.1 q.2.1 q.2.2.1 q.2.2.2) (fun q => μ q.1 q.2.1 q.2.2.1 q.2.2.2) (fun q hq ih => h q.1 q.2.1 q.2.2.1 q.2.2.2 hq (fun b1 b2 b3 b4 hb hlt => ih (b1, b2, b3, b4) hb hlt)) (a1, a2, a3, a4) hI
theorem lo5 {A1 A2 A3 A4 A5 : Type} (I P : A1 → A2 → A3 → A4 → A5 → Prop) (μ : A1 → A2 → A3 → A4 → A5 → Nat) (h : ∀ a1 a2 a3 a4 a5, I a1 a2 a3 a4 a5 → (∀ b1 b2 b3 b4 b5, I b1 b2 b3 b4 b5 → μ b1 b2 b3 b4 b5 < μ a1 a2 a3 a4 a5 → P b1 b2 b3 b4 b5) → P a1 a2 a3 a4 a5) : ∀ a1 a2 a3 a4 a5, I a1 a2 a3 a4 a5 → P a1 a2 a3 a4 a5 := fun a1 a2 a3 a4 a5 hI => lo1 (A1 := A1 × A2 × A3 × A4 × A5) (fun q => I q.1 q.2.1 q.2.2.1 q.2.2.2.1 q.2.2.2.2) (fun q => P q.1 q.2.1 q.2.2.1 q.2.2.2.1 q.2.2.2.2) (fun q => μ q.1 q.2.1 q.2.2.1 q.2.2.2.1 q.2.2.2.2) (fun q hq ih => h q.1 q.2.1 q.2.2.1 q.2.2.2.1 q.2.2.2.2 hq (fun b1 b2 b3 b4 b5 hb hlt => ih (b1, b2, b3, b4, b5) hb hlt)) (a1, a2, a3, a4, a5) hI
section ROWS3
variable {x : Cx} {E : Ev} {own : String} {cc : ByteArray} {n : Nat} {rm : Room} {M : Mem} {pc : Nat} {lv : List (Nat × Value)} {st : List Value}
theorem x_mmax (B : Ok x E own cc n rm) {idx : Nat} {a b : Int} (hd : decode cc pc = .ok (.invokestatic idx, 3)) (hl : Cond.methodLink own idx yJ9_max_7cf53 ∈ GW) (h1 : 1 ≤ rm.frames) (h2 : 21 ≤ rm.locals) (hst : (st.map fun v => v.category).sum ≤ 8) (ha : Rg a) (hb : Rg b) (kk : ∀ z : Int, z = max a b → Vx x E M (pc + 3) lv (.int (iI z) :: st)) : Vx x E M pc lv (.int (iI b) :: .int (iI a) :: st) := by
  intro hw H locs ls hP hS hl'
  have w5 := B.2.2.2.2.1
  have hR := B.2.2.2.2.2.2.1
  refine va_mmax B.1 B.2.1 (B.2.2.1.trans hl'.1.symm) B.2.2.2.1 (w5 _ hl) (w5 _ kw_550) (w5 _ kw_72) (w5 _ kw_551) (by rw [hR]; exact h1) (by rw [hR]; omega) (by rw [hR]; exact B.2.2.2.2.2.2.2.1.1) (by rw [hR]; exact B.2.2.2.2.2.2.2.1.2) hd ?_
  have e : (if iI a < iI b then iI b else iI a) = iI (max a b) := by
    by_cases h : a < b
    · rw [if_pos ((iI_lt ha hb).mpr h), show max a b = b by omega]
    · rw [if_neg (fun q => h ((iI_lt ha hb).mp q)), show max a b = a by omega]
  rw [e]
  exact kk _ rfl hw H locs ls hP hS hl'
theorem x_mmin (B : Ok x E own cc n rm) {idx : Nat} {a b : Int} (hd : decode cc pc = .ok (.invokestatic idx, 3)) (hl : Cond.methodLink own idx yJ9_min_7cf53 ∈ GW) (h1 : 1 ≤ rm.frames) (h2 : 21 ≤ rm.locals) (hst : (st.map fun v => v.category).sum ≤ 8) (ha : Rg a) (hb : Rg b) (kk : ∀ z : Int, z = min a b → Vx x E M (pc + 3) lv (.int (iI z) :: st)) : Vx x E M pc lv (.int (iI b) :: .int (iI a) :: st) := by
  intro hw H locs ls hP hS hl'
  have w5 := B.2.2.2.2.1
  have hR := B.2.2.2.2.2.2.1
  refine va_mmin B.1 B.2.1 (B.2.2.1.trans hl'.1.symm) B.2.2.2.1 (w5 _ hl) (w5 _ kw_569) (w5 _ kw_72) (w5 _ kw_570) (by rw [hR]; exact h1) (by rw [hR]; omega) (by rw [hR]; exact B.2.2.2.2.2.2.2.1.1) (by rw [hR]; exact B.2.2.2.2.2.2.2.1.2) hd ?_
  have e : (if iI b < iI a then iI b else iI a) = iI (min a b) := by
    by_cases h : b < a
    · rw [if_pos ((iI_lt hb ha).mpr h), show min a b = b by omega]
    · rw [if_neg (fun q => h ((iI_lt hb ha).mp q)), show min a b = a by omega]
  rw [e]
  exact kk _ rfl hw H locs ls hP hS hl'
theorem x_mabs (B : Ok x E own cc n rm) {idx : Nat} {a : Int} (hd : decode cc pc = .ok (.invokestatic idx, 3)) (hl : Cond.methodLink own idx yJ9_abs_0f7a4 ∈ GW) (h1 : 1 ≤ rm.frames) (h2 : 21 ≤ rm.locals) (hst : (st.map fun v => v.category).sum ≤ 8) (ha : Rg a) (kk : ∀ z : Int, z = max a (-a) → Vx x E M (pc + 3) lv (.int (iI z) :: st)) : Vx x E M pc lv (.int (iI a) :: st) := by
  intro hw H locs ls hP hS hl'
  have w5 := B.2.2.2.2.1
  have hR := B.2.2.2.2.2.2.1
  refine va_mabs B.1 B.2.1 (B.2.2.1.trans hl'.1.symm) B.2.2.2.1 (w5 _ hl) (w5 _ kw_547) (w5 _ kw_72) (w5 _ kw_548) (by rw [hR]; exact h1) (by rw [hR]; omega) (by rw [hR]; exact B.2.2.2.2.2.2.2.1.1) (by rw [hR]; exact B.2.2.2.2.2.2.2.1.2) hd ?_
  have e : (if 0 ≤ iI a then iI a else 0 - iI a) = iI (max a (-a)) := by
    by_cases h : 0 ≤ a
    · rw [if_pos (show (0 : Int32) ≤ iI a from (iI_le Rg_0 ha).mpr h), show max a (-a) = a by omega]
    · rw [if_neg (show ¬ (0 : Int32) ≤ iI a from fun q => h ((iI_le Rg_0 ha).mp q)), show max a (-a) = 0 - a by omega]
      exact iI_sub 0 a
  rw [e]
  exact kk _ rfl hw H locs ls hP hS hl'
end ROWS3
theorem pln_1 : plainName "java/lang/String" = true := by decide +kernel
theorem pln_2 : plainName "java/lang/StringLatin1" = true := by decide +kernel
theorem pln_3 : plainName "java/lang/Integer" = true := by decide +kernel
theorem pln_4 : plainName "java/util/Arrays" = true := by decide +kernel
theorem pln_5 : plainName "jdk/internal/util/Preconditions" = true := by decide +kernel
