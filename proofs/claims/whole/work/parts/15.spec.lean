/-! ===== THE POINTS, as mathematics ===== -/
theorem mulb {a b A B : Int} (a0 : 0 ≤ a) (a1 : a ≤ A) (b0 : 0 ≤ b) (b1 : b ≤ B) : 0 ≤ a * b ∧ a * b ≤ A * B := ⟨Int.mul_nonneg a0 b0, Int.mul_le_mul a1 b1 b0 (by omega)⟩
/-- beside a POINT: left, right, above, below; -1 where there is none -/
def nbT (p w : Int) : Int := if w = 0 then (if p % 4 > 0 then p - 1 else -1) else if w = 1 then (if p % 4 < 3 then p + 1 else -1) else if w = 2 then (if 4 ≤ p then p - 4 else -1) else (if p < 12 then p + 4 else -1)
theorem nbT_in {p w : Int} (h0 : 0 ≤ p) (h1 : p < 16) : -1 ≤ nbT p w ∧ nbT p w < 16 := by
  unfold nbT
  (repeat' split) <;> omega
theorem be_nat : ∀ p, p < 16 → ∀ w, w < 4 → sBe.getD (4 * p + w) 0 = nbT (p : Nat) (w : Nat) := by decide +kernel
theorem be_get {p w : Int} (h0 : 0 ≤ p) (h1 : p < 16) (h2 : 0 ≤ w) (h3 : w < 4) : sBe.getD (4 * p + w).toNat 0 = nbT p w := by
  have h := be_nat p.toNat (by omega) w.toNat (by omega)
  rw [Int.toNat_of_nonneg h0, Int.toNat_of_nonneg h2] at h
  rw [← h]
  congr 1
  omega
theorem be_len : (sBe.length : Int) = 64 := by decide
/-- what a POINT HAS: L the lights, s0 the SCENE's first CELL -/
def hasF (L : Nat → Int) (s0 pl p : Int) : Int := if pl = 25 then (L (s0 + 16 * (p / 4) + 2 * (p % 4)).toNat + L (s0 + 16 * (p / 4) + 2 * (p % 4) + 1).toNat + L (s0 + 16 * (p / 4) + 2 * (p % 4) + 8).toNat + L (s0 + 16 * (p / 4) + 2 * (p % 4) + 8 + 1).toNat) / 4 else L (s0 + 8 * (pl / 5 + p / 4) + pl % 5 + p % 4).toNat
def edS (h : Nat → Int) (p w : Int) : Int := if nbT p w < 0 then 0 else max (h p.toNat - h (nbT p w).toNat) (-(h p.toNat - h (nbT p w).toNat))
def woS (way : Int) (h : Nat → Int) (p : Int) : Int := if way = 1 then 9 - h p.toNat else if way = 2 then max (edS h p 1) (edS h p 3) else h p.toNat
def bqS (s : Nat → Int) (p w : Int) : Int := if nbT p w < 0 then 0 else s (nbT p w).toNat
def besK (s : Nat → Int) (p : Int) : Nat → Int
  | 0 => 0
  | k + 1 => besK s p k + bqS s p (k : Int)
abbrev okL (d : Nat) (p w : Int) : Prop := 0 ≤ nbT p w ∧ d.testBit (nbT p w).toNat = false
def fiL (d : Nat) (p : Int) : Int := if okL d p 0 then nbT p 0 else if okL d p 1 then nbT p 1 else if okL d p 2 then nbT p 2 else if okL d p 3 then nbT p 3 else -1
def roS (d : Nat) (w s : Nat → Int) : Nat → Nat → Int
  | 0 => s
  | k + 1 => if d.testBit k = true ∧ 0 ≤ fiL d (k : Int) then (fun q => if q = (fiL d (k : Int)).toNat then max (roS d w s k q) (w k) else roS d w s k q) else roS d w s k
/-- what is SHOWN: v the laws' values -/
def sh0 (v w : Nat → Int) (q : Nat) : Int := if (v 11).toNat.testBit q = true then 0 else w q
def shS (v w : Nat → Int) (q : Nat) : Int := if v 5 = 1 then roS (v 11).toNat w (sh0 v w) 16 q else sh0 v w q
def stS (v s : Nat → Int) (t p : Int) : Int := s p.toNat + v 1 * besK s p 4 / 16 - v 2 * (p / 4) - v 3 * t / 10
/-- what is FELT; whether it HURTS -/
def feS (v lst s td : Nat → Int) (p : Int) : Int := if (v 11).toNat.testBit p.toNat = true then 0 else if stS v s (td p.toNat) p < lst p.toNat then 0 else min (stS v s (td p.toNat) p) (v 4)
abbrev hbS (v lst s td : Nat → Int) (p : Int) : Prop := (v 11).toNat.testBit p.toNat = false ∧ lst p.toNat ≤ stS v s (td p.toNat) p ∧ v 4 < stS v s (td p.toNat) p
def huS (v lst s td : Nat → Int) : Nat → Nat
  | 0 => 0
  | k + 1 => if hbS v lst s td (k : Int) then huS v lst s td k ||| 2 ^ k else huS v lst s td k
theorem fiL_in {d : Nat} {p : Int} (h0 : 0 ≤ p) (h1 : p < 16) : -1 ≤ fiL d p ∧ fiL d p < 16 := by
  have a := nbT_in (w := 0) h0 h1
  have b := nbT_in (w := 1) h0 h1
  have c := nbT_in (w := 2) h0 h1
  have e := nbT_in (w := 3) h0 h1
  unfold fiL
  (repeat' split) <;> omega
theorem fiL_of {d : Nat} {p k : Int} (h0 : 0 ≤ k) (h1 : k < 4) (hk : okL d p k) (hn : ∀ w : Int, 0 ≤ w → w < k → ¬ okL d p w) : fiL d p = nbT p k := by
  unfold fiL
  rcases (show k = 0 ∨ k = 1 ∨ k = 2 ∨ k = 3 by omega) with rfl | rfl | rfl | rfl
  · rw [if_pos hk]
  · rw [if_neg (hn 0 (by omega) (by omega)), if_pos hk]
  · rw [if_neg (hn 0 (by omega) (by omega)), if_neg (hn 1 (by omega) (by omega)), if_pos hk]
  · rw [if_neg (hn 0 (by omega) (by omega)), if_neg (hn 1 (by omega) (by omega)), if_neg (hn 2 (by omega) (by omega)), if_pos hk]
theorem fiL_no {d : Nat} {p : Int} (hn : ∀ w : Int, 0 ≤ w → w < 4 → ¬ okL d p w) : fiL d p = -1 := by
  unfold fiL
  rw [if_neg (hn 0 (by omega) (by omega)), if_neg (hn 1 (by omega) (by omega)), if_neg (hn 2 (by omega) (by omega)), if_neg (hn 3 (by omega) (by omega))]
/-- a memory that differs from another in some cells alone -/
def offC (M M' : Mem) (a b : Nat) : Prop := ∀ i j : Nat, (i < a ∨ b ≤ i) → M' i j = M i j
theorem offC_rf {M : Mem} {a b : Nat} : offC M M a b := fun _ _ _ => rfl
theorem offC_tr {M M1 M2 : Mem} {a b : Nat} (h1 : offC M M1 a b) (h2 : offC M1 M2 a b) : offC M M2 a b := fun i j h => (h2 i j h).trans (h1 i j h)
theorem offC_sto {M M1 : Mem} {a b i j : Nat} {v : Int} (h : offC M M1 a b) (hi : a ≤ i ∧ i < b) : offC M (sto M1 i j v) a b := fun i' j' h' => by
  rw [sto_ni _ _ _ _ (by omega)]
  exact h i' j' h'
