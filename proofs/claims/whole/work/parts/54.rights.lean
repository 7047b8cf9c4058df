/-! ===== TOLD RIGHT, as the reference finds it ===== -/
def mxK (r : Int → Int) : Nat → Int
  | 0 => 0
  | k + 1 => max (mxK r k) (r (k : Int))
def rgK (lk : Int → Int → Nat) (f : Nat → Int) (set : Nat) (pl : Int) : Nat → Nat × Int
  | 0 => (set, 0)
  | k + 1 => if (rgK lk f set pl k).1.testBit k = true then (ndf (rgK lk f set pl k).1 ((rgK lk f set pl k).1 &&& lk (k : Int) pl), (rgK lk f set pl k).2 + f ((rgK lk f set pl k).1 &&& lk (k : Int) pl)) else rgK lk f set pl k
def rgF (lk : Int → Int → Nat) : Nat → Nat → Int → Int
  | 0 => fun set _ => if 0 < set then 1 else 0
  | m + 1 => fun set pl => mxK (fun q => (rgK lk (fun h => rgF lk m h (mvT pl q)) set (mvT pl q) 6).2) 6
def rgR (lk : Int → Int → Nat) (m set : Nat) (pl : Int) : Int := (rgK lk (fun h => rgF lk m h pl) set pl 6).2
theorem mxK_s {r : Int → Int} {k : Int} (h : 0 ≤ k) : mxK r (k + 1).toNat = max (mxK r k.toNat) (r k) := by
  rw [show (k + 1).toNat = k.toNat + 1 by omega]
  show max _ (r ((k.toNat : Nat) : Int)) = _
  rw [Int.toNat_of_nonneg h]
theorem rgK_t {lk : Int → Int → Nat} {f : Nat → Int} {set : Nat} {pl k : Int} (h0 : 0 ≤ k) (h : (rgK lk f set pl k.toNat).1.testBit k.toNat = true) : rgK lk f set pl (k + 1).toNat = (ndf (rgK lk f set pl k.toNat).1 ((rgK lk f set pl k.toNat).1 &&& lk k pl), (rgK lk f set pl k.toNat).2 + f ((rgK lk f set pl k.toNat).1 &&& lk k pl)) := by
  rw [show (k + 1).toNat = k.toNat + 1 by omega]
  show (if (rgK lk f set pl k.toNat).1.testBit k.toNat = true then (ndf _ (_ &&& lk ((k.toNat : Nat) : Int) pl), _ + f (_ &&& lk ((k.toNat : Nat) : Int) pl)) else _) = _
  rw [if_pos h, Int.toNat_of_nonneg h0]
theorem rgK_f {lk : Int → Int → Nat} {f : Nat → Int} {set : Nat} {pl k : Int} (h0 : 0 ≤ k) (h : ¬ (rgK lk f set pl k.toNat).1.testBit k.toNat = true) : rgK lk f set pl (k + 1).toNat = rgK lk f set pl k.toNat := by
  rw [show (k + 1).toNat = k.toNat + 1 by omega]
  show (if (rgK lk f set pl k.toNat).1.testBit k.toNat = true then _ else _) = _
  rw [if_neg h]
theorem popN_ndf (a b : Nat) : ∀ n, popN (ndf a (a &&& b)) n + popN (a &&& b) n = popN a n := by
  intro n
  induction n with
  | zero => rfl
  | succ n ih =>
    show popN _ n + ((ndf a (a &&& b)).testBit n).toNat + (popN _ n + ((a &&& b).testBit n).toNat) = popN a n + (a.testBit n).toNat
    rw [ndf_bit, Nat.testBit_and]
    have : (a.testBit n && !(a.testBit n && b.testBit n)).toNat + (a.testBit n && b.testBit n).toNat = (a.testBit n).toNat := by cases a.testBit n <;> cases b.testBit n <;> rfl
    omega
theorem pop6 : ∀ v, v < 64 → popN v 16 ≤ 6 := by decide +kernel
theorem and64 {a b : Nat} (h : a < 64) : a &&& b < 64 := Nat.lt_of_le_of_lt Nat.and_le_left h
theorem rgK_lt {lk : Int → Int → Nat} {f : Nat → Int} {set : Nat} {pl : Int} (hs : set < 64) : ∀ k, (rgK lk f set pl k).1 < 64 := by
  intro k
  induction k with
  | zero => exact hs
  | succ k ih =>
    show (if _ then _ else _ : Nat × Int).1 < 64
    split
    · exact ndf_le ih
    · exact ih
theorem rgK_in {lk : Int → Int → Nat} {f : Nat → Int} {set : Nat} {pl : Int} (hs : set < 64) (hf : ∀ h, h < 64 → 0 ≤ f h ∧ f h ≤ (popN h 16 : Int)) : ∀ k, 0 ≤ (rgK lk f set pl k).2 ∧ (rgK lk f set pl k).2 + (popN (rgK lk f set pl k).1 16 : Int) ≤ (popN set 16 : Int) := by
  intro k
  induction k with
  | zero => exact ⟨Int.le_refl 0, by show (0 : Int) + _ ≤ _; rw [Int.zero_add]; exact Int.le_refl _⟩
  | succ k ih =>
    by_cases c : (rgK lk f set pl k).1.testBit k = true
    · have e : rgK lk f set pl (k + 1) = (ndf (rgK lk f set pl k).1 ((rgK lk f set pl k).1 &&& lk (k : Int) pl), (rgK lk f set pl k).2 + f ((rgK lk f set pl k).1 &&& lk (k : Int) pl)) := if_pos c
      rw [e]
      have h1 := hf ((rgK lk f set pl k).1 &&& lk (k : Int) pl) (and64 (rgK_lt hs k))
      have h2 := popN_ndf (rgK lk f set pl k).1 (lk (k : Int) pl) 16
      refine ⟨by show 0 ≤ _ + _; omega, ?_⟩
      show _ + _ + (popN (ndf _ _) 16 : Int) ≤ _
      omega
    · have e : rgK lk f set pl (k + 1) = rgK lk f set pl k := if_neg c
      rw [e]
      exact ih
theorem mxK_in {r : Int → Int} {u : Int} (hu : 0 ≤ u) : ∀ n, (∀ k : Nat, k < n → 0 ≤ r (k : Int) ∧ r (k : Int) ≤ u) → 0 ≤ mxK r n ∧ mxK r n ≤ u := by
  intro n
  induction n with
  | zero => exact fun _ => ⟨Int.le_refl 0, hu⟩
  | succ n ih =>
    intro h
    have h1 := ih (fun k hk => h k (by omega))
    have h2 := h n (by omega)
    show 0 ≤ max _ _ ∧ max _ _ ≤ u
    omega
theorem rgF_in {lk : Int → Int → Nat} : ∀ m set, set < 64 → ∀ pl, 0 ≤ rgF lk m set pl ∧ rgF lk m set pl ≤ (popN set 16 : Int) := by
  intro m
  induction m with
  | zero =>
    intro set hs pl
    show 0 ≤ (if 0 < set then (1 : Int) else 0) ∧ (if 0 < set then (1 : Int) else 0) ≤ _
    by_cases c : 0 < set
    · rw [if_pos c]
      have h : ∀ v, v < 64 → 0 < v → 1 ≤ popN v 16 := by decide +kernel
      have := h set hs c
      omega
    · rw [if_neg c]
      omega
  | succ m ih =>
    intro set hs pl
    refine mxK_in (Int.natCast_nonneg _) 6 (fun k _ => ?_)
    have h := rgK_in (lk := lk) (f := fun h => rgF lk m h (mvT pl (k : Int))) (pl := mvT pl (k : Int)) hs (fun h hh => ih h hh _) 6
    show 0 ≤ (rgK lk _ set (mvT pl (k : Int)) 6).2 ∧ (rgK lk _ set (mvT pl (k : Int)) 6).2 ≤ _
    omega
theorem rgR_in {lk : Int → Int → Nat} {m set : Nat} {pl : Int} (hs : set < 64) : 0 ≤ rgR lk m set pl ∧ rgR lk m set pl ≤ 6 := by
  have h := rgK_in (lk := lk) (f := fun h => rgF lk m h pl) (pl := pl) hs (fun h hh => rgF_in m h hh _) 6
  have h2 := pop6 set hs
  unfold rgR
  omega
theorem rgK_cg {lk : Int → Int → Nat} {f g : Nat → Int} {set : Nat} {pl : Int} (hs : set < 64) (hf : ∀ h, h < 64 → f h = g h) : ∀ k, rgK lk f set pl k = rgK lk g set pl k := by
  intro k
  induction k with
  | zero => rfl
  | succ k ih =>
    show (if (rgK lk f set pl k).1.testBit k = true then (ndf _ _, _ + f _) else _) = (if (rgK lk g set pl k).1.testBit k = true then (ndf _ _, _ + g _) else _)
    rw [ih, hf _ (and64 (rgK_lt hs k))]
/-- the two are one where being alike is an equivalence -/
def lkE (lk : Int → Int → Nat) (pl : Int) : Prop := (∀ a b : Nat, a < 6 → b < 6 → (lk (a : Int) pl).testBit b = true → (lk (b : Int) pl).testBit a = true) ∧ (∀ a b c : Nat, a < 6 → b < 6 → c < 6 → (lk (a : Int) pl).testBit b = true → (lk (b : Int) pl).testBit c = true → (lk (a : Int) pl).testBit c = true) ∧ (∀ a : Nat, a < 6 → (lk (a : Int) pl).testBit a = true) ∧ ∀ a : Nat, a < 6 → lk (a : Int) pl < 64
theorem tb64 {v b : Nat} (hv : v < 64) (hb : 6 ≤ b) : v.testBit b = false := Nat.testBit_lt_two_pow (Nat.lt_of_lt_of_le hv (Nat.le_trans (show 64 ≤ 2 ^ 6 by decide) (Nat.pow_le_pow_right (by decide) hb)))
theorem rg_to {lk : Int → Int → Nat} {f : Nat → Int} {set : Nat} {pl : Int} (hs : set < 64) (hE : lkE lk pl) : ∀ k, k ≤ 6 → rgK lk f set pl k = toK lk f set pl k ∧ (∀ b, (rgK lk f set pl k).1.testBit b = true → set.testBit b = true) ∧ (∀ a b : Nat, a < 6 → b < 6 → set.testBit b = true → (lk (a : Int) pl).testBit b = true → (rgK lk f set pl k).1.testBit a = true → (rgK lk f set pl k).1.testBit b = true) ∧ (∀ b, b < k → (rgK lk f set pl k).1.testBit b = false) := by
  intro k
  induction k with
  | zero => exact fun _ => ⟨rfl, fun b h => h, fun a b _ _ h _ _ => h, fun b h => by omega⟩
  | succ k ih =>
    intro hk
    obtain ⟨i1, i2, i3, i4⟩ := ih (by omega)
    by_cases c : (rgK lk f set pl k).1.testBit k = true
    · have e : rgK lk f set pl (k + 1) = (ndf (rgK lk f set pl k).1 ((rgK lk f set pl k).1 &&& lk (k : Int) pl), (rgK lk f set pl k).2 + f ((rgK lk f set pl k).1 &&& lk (k : Int) pl)) := if_pos c
      have c2 : (toK lk f set pl k).1.testBit k = true := by rw [← i1]; exact c
      have e2 : toK lk f set pl (k + 1) = (ndf (toK lk f set pl k).1 (set &&& lk (k : Int) pl), (toK lk f set pl k).2 + f (set &&& lk (k : Int) pl)) := if_pos c2
      have e3 : (rgK lk f set pl k).1 &&& lk (k : Int) pl = set &&& lk (k : Int) pl := by
        apply Nat.eq_of_testBit_eq
        intro b
        rw [Nat.testBit_and, Nat.testBit_and]
        by_cases hb : b < 6
        · cases h1 : (lk (k : Int) pl).testBit b
          · rw [Bool.and_false, Bool.and_false]
          · rw [Bool.and_true, Bool.and_true]
            cases h2 : set.testBit b
            · cases h3 : (rgK lk f set pl k).1.testBit b
              · rfl
              · rw [i2 b h3] at h2
                exact absurd h2 (by decide)
            · exact i3 k b (by omega) hb h2 h1 c
        · rw [tb64 (hE.2.2.2 k (by omega)) (by omega), Bool.and_false, Bool.and_false]
      refine ⟨by rw [e, e2, e3, i1], ?_, ?_, ?_⟩
      · intro b h
        rw [e] at h
        have h5 : (ndf (rgK lk f set pl k).1 ((rgK lk f set pl k).1 &&& lk (k : Int) pl)).testBit b = true := h
        rw [ndf_bit, Bool.and_eq_true] at h5
        exact i2 b h5.1
      · intro a b ha hb hsb hl h
        rw [e] at h ⊢
        have h5 : (ndf (rgK lk f set pl k).1 ((rgK lk f set pl k).1 &&& lk (k : Int) pl)).testBit a = true := h
        show (ndf (rgK lk f set pl k).1 ((rgK lk f set pl k).1 &&& lk (k : Int) pl)).testBit b = true
        rw [ndf_bit, Bool.and_eq_true] at h5 ⊢
        refine ⟨i3 a b ha hb hsb hl h5.1, ?_⟩
        have h6 := h5.2
        rw [Nat.testBit_and, h5.1, Bool.true_and] at h6
        rw [Nat.testBit_and]
        cases h7 : (lk (k : Int) pl).testBit b
        · rw [Bool.and_false]; rfl
        · have h8 := hE.2.1 k b a (by omega) hb ha h7 (hE.1 a b ha hb hl)
          rw [h8] at h6
          exact absurd h6 (by decide)
      · intro b hb
        rw [e]
        show (ndf (rgK lk f set pl k).1 ((rgK lk f set pl k).1 &&& lk (k : Int) pl)).testBit b = false
        rw [ndf_bit]
        by_cases hbk : b = k
        · rw [hbk, Nat.testBit_and, c, hE.2.2.1 k (by omega)]
          rfl
        · rw [i4 b (by omega)]
          rfl
    · have e : rgK lk f set pl (k + 1) = rgK lk f set pl k := if_neg c
      have c2 : ¬ (toK lk f set pl k).1.testBit k = true := by rw [← i1]; exact c
      have e2 : toK lk f set pl (k + 1) = toK lk f set pl k := if_neg c2
      rw [e, e2]
      refine ⟨i1, i2, i3, fun b hb => ?_⟩
      by_cases hbk : b = k
      · rw [hbk]
        simpa using c
      · exact i4 b (by omega)
theorem toK_cg {lk : Int → Int → Nat} {f g : Nat → Int} {set : Nat} {pl : Int} (hs : set < 64) (hE : lkE lk pl) (hf : ∀ h, 0 < h → h < 64 → f h = g h) : ∀ k, k ≤ 6 → toK lk f set pl k = toK lk g set pl k := by
  intro k
  induction k with
  | zero => exact fun _ => rfl
  | succ k ih =>
    intro hk
    have i1 := ih (by omega)
    by_cases c : (toK lk f set pl k).1.testBit k = true
    · have hsb : set.testBit k = true := by
        obtain ⟨a1, a2, -, -⟩ := rg_to (f := f) hs hE k (by omega)
        exact a2 k (by rw [a1]; exact c)
      have hp : 0 < set &&& lk (k : Int) pl := by
        refine Nat.pos_of_ne_zero (fun h => ?_)
        have h2 : (set &&& lk (k : Int) pl).testBit k = true := by rw [Nat.testBit_and, hsb, hE.2.2.1 k (by omega)]; rfl
        rw [h] at h2
        simp at h2
      have e : toK lk f set pl (k + 1) = (ndf (toK lk f set pl k).1 (set &&& lk (k : Int) pl), (toK lk f set pl k).2 + f (set &&& lk (k : Int) pl)) := if_pos c
      have e2 : toK lk g set pl (k + 1) = (ndf (toK lk g set pl k).1 (set &&& lk (k : Int) pl), (toK lk g set pl k).2 + g (set &&& lk (k : Int) pl)) := if_pos (by rw [← i1]; exact c)
      rw [e, e2, i1, hf _ hp (and64 hs)]
    · have e : toK lk f set pl (k + 1) = toK lk f set pl k := if_neg c
      have e2 : toK lk g set pl (k + 1) = toK lk g set pl k := if_neg (by rw [← i1]; exact c)
      rw [e, e2, i1]
theorem rg_pos {lk : Int → Int → Nat} {f : Nat → Int} {set : Nat} {pl : Int} (hs : set < 64) (h0 : 0 < set) (hE : lkE lk pl) (hf : ∀ h, 0 < h → h < 64 → 1 ≤ f h) (hf0 : ∀ h, h < 64 → 0 ≤ f h) : 1 ≤ (rgK lk f set pl 6).2 := by
  have key : ∀ k, k ≤ 6 → 0 ≤ (rgK lk f set pl k).2 ∧ (1 ≤ (rgK lk f set pl k).2 ∨ (rgK lk f set pl k).1 = set) := by
    intro k
    induction k with
    | zero => exact fun _ => ⟨Int.le_refl 0, Or.inr rfl⟩
    | succ k ih =>
      intro hk
      obtain ⟨i0, i1⟩ := ih (by omega)
      by_cases c : (rgK lk f set pl k).1.testBit k = true
      · have e : rgK lk f set pl (k + 1) = (ndf (rgK lk f set pl k).1 ((rgK lk f set pl k).1 &&& lk (k : Int) pl), (rgK lk f set pl k).2 + f ((rgK lk f set pl k).1 &&& lk (k : Int) pl)) := if_pos c
        have hp : 0 < (rgK lk f set pl k).1 &&& lk (k : Int) pl := by
          refine Nat.pos_of_ne_zero (fun h => ?_)
          have h2 : ((rgK lk f set pl k).1 &&& lk (k : Int) pl).testBit k = true := by rw [Nat.testBit_and, c, hE.2.2.1 k (by omega)]; rfl
          rw [h] at h2
          simp at h2
        have h3 := hf _ hp (and64 (rgK_lt hs k))
        rw [e]
        refine ⟨by show 0 ≤ _ + _; omega, Or.inl (by show 1 ≤ _ + _; omega)⟩
      · have e : rgK lk f set pl (k + 1) = rgK lk f set pl k := if_neg c
        rw [e]
        exact ⟨i0, i1⟩
  rcases (key 6 (by omega)).2 with h | h
  · exact h
  · exfalso
    obtain ⟨-, -, -, a4⟩ := rg_to (f := f) hs hE 6 (by omega)
    rw [h] at a4
    have : set = 0 := by
      apply Nat.eq_of_testBit_eq
      intro b
      rw [Nat.zero_testBit]
      by_cases hb : b < 6
      · exact a4 b hb
      · exact tb64 hs (by omega)
    omega
theorem moK_mx {rec : Int → Int} {all pl : Int} (h1 : 1 ≤ all) : ∀ n, (∀ k : Nat, k < n → 1 ≤ rec (mvT pl (k : Int)) ∧ rec (mvT pl (k : Int)) ≤ all) → moK rec all pl n = max 1 (mxK (fun q => rec (mvT pl q)) n) ∧ moK rec all pl n ≤ all := by
  intro n
  induction n with
  | zero => exact fun _ => ⟨rfl, h1⟩
  | succ n ih =>
    intro h
    obtain ⟨i1, i2⟩ := ih (fun k hk => h k (by omega))
    have h2 := h n (by omega)
    have e : moK rec all pl (n + 1) = if moK rec all pl n < all then max (moK rec all pl n) (rec (mvT pl (n : Int))) else moK rec all pl n := rfl
    have e2 : mxK (fun q => rec (mvT pl q)) (n + 1) = max (mxK (fun q => rec (mvT pl q)) n) (rec (mvT pl (n : Int))) := rfl
    rw [e, e2]
    by_cases c : moK rec all pl n < all
    · rw [if_pos c]
      omega
    · rw [if_neg c]
      omega
def lkA (lk : Int → Int → Nat) : Prop := ∀ pl : Int, 0 ≤ pl → pl ≤ 25 → lkE lk pl
theorem mxK_cg {r r' : Int → Int} : ∀ n, (∀ k : Nat, k < n → r (k : Int) = r' (k : Int)) → mxK r n = mxK r' n := by
  intro n
  induction n with
  | zero => exact fun _ => rfl
  | succ n ih =>
    intro h
    show max (mxK r n) (r (n : Int)) = max (mxK r' n) (r' (n : Int))
    rw [ih (fun k hk => h k (by omega)), h n (by omega)]
theorem mxK_ge {r : Int → Int} {k : Nat} : ∀ n, k < n → r (k : Int) ≤ mxK r n := by
  intro n
  induction n with
  | zero => exact fun h => by omega
  | succ n ih =>
    intro h
    show r (k : Int) ≤ max (mxK r n) (r (n : Int))
    by_cases e : k = n
    · rw [e]
      omega
    · have := ih (by omega)
      omega
theorem rgR_pop {lk : Int → Int → Nat} {m set : Nat} {pl : Int} (hs : set < 64) : rgR lk m set pl ≤ (popN set 16 : Int) := by
  have h := rgK_in (lk := lk) (f := fun h => rgF lk m h pl) (pl := pl) hs (fun h hh => rgF_in m h hh _) 6
  unfold rgR
  omega
/-- the class's count and the reference's are one -/
theorem tf_rg {lk : Int → Int → Nat} (hA : lkA lk) : ∀ m set, set < 64 → ∀ pl : Int, 0 ≤ pl → pl ≤ 25 → tfS lk m set pl = rgR lk m set pl ∧ (0 < set → 1 ≤ rgR lk m set pl ∧ 1 ≤ rgF lk m set pl) := by
  intro m
  induction m with
  | zero =>
    intro set hs pl p0 p1
    have hE := hA pl p0 p1
    refine ⟨?_, fun h0 => ⟨?_, ?_⟩⟩
    · show (toK lk (fun _ => 1) set pl 6).2 = (rgK lk (fun h => rgF lk 0 h pl) set pl 6).2
      rw [(rg_to hs hE 6 (by omega)).1, toK_cg hs hE (f := fun _ => 1) (g := fun h => rgF lk 0 h pl) (fun h h0 _ => (if_pos h0).symm) 6 (by omega)]
    · exact rg_pos hs h0 hE (fun h h1 _ => by show 1 ≤ (if 0 < h then (1 : Int) else 0); rw [if_pos h1]; omega) (fun h h1 => (rgF_in 0 h h1 pl).1)
    · show 1 ≤ (if 0 < set then (1 : Int) else 0)
      rw [if_pos h0]
      omega
  | succ m ih =>
    intro set hs pl p0 p1
    have hE := hA pl p0 p1
    have hG : ∀ h, 0 < h → h < 64 → 1 ≤ rgF lk (m + 1) h pl := fun h h0 h1 => by
      have a := (ih h h1 (mvT pl 0) (mvT_in p0 p1).1 (mvT_in p0 p1).2).2 h0
      have b := mxK_ge (r := fun q => rgR lk m h (mvT pl q)) (k := 0) 6 (by omega)
      show 1 ≤ mxK (fun q => rgR lk m h (mvT pl q)) 6
      exact Int.le_trans a.1 b
    have hFG : ∀ h, 0 < h → h < 64 → moK (fun p => tfS lk m h p) ((popN h 16 : Nat) : Int) pl 6 = rgF lk (m + 1) h pl := fun h h0 h1 => by
      have hr : ∀ k : Nat, tfS lk m h (mvT pl (k : Int)) = rgR lk m h (mvT pl (k : Int)) := fun k => (ih h h1 _ (mvT_in p0 p1).1 (mvT_in p0 p1).2).1
      have hr1 : ∀ k : Nat, 1 ≤ rgR lk m h (mvT pl (k : Int)) := fun k => ((ih h h1 _ (mvT_in p0 p1).1 (mvT_in p0 p1).2).2 h0).1
      have a := moK_mx (rec := fun p => tfS lk m h p) (all := ((popN h 16 : Nat) : Int)) (pl := pl) (Int.le_trans (hr1 0) (rgR_pop h1)) 6 (fun k _ => by
        show 1 ≤ tfS lk m h (mvT pl (k : Int)) ∧ tfS lk m h (mvT pl (k : Int)) ≤ _
        rw [hr k]
        exact ⟨hr1 k, rgR_pop h1⟩)
      rw [a.1, mxK_cg (r' := fun q => rgR lk m h (mvT pl q)) 6 (fun k _ => hr k)]
      show max 1 (rgF lk (m + 1) h pl) = rgF lk (m + 1) h pl
      have := hG h h0 h1
      omega
    refine ⟨?_, fun h0 => ⟨?_, hG set h0 hs⟩⟩
    · show (toK lk (fun like => moK (fun p => tfS lk m like p) ((popN like 16 : Nat) : Int) pl 6) set pl 6).2 = (rgK lk (fun h => rgF lk (m + 1) h pl) set pl 6).2
      rw [(rg_to hs hE 6 (by omega)).1, toK_cg hs hE hFG 6 (by omega)]
    · exact rg_pos hs h0 hE hG (fun h h1 => (rgF_in (m + 1) h h1 pl).1)
theorem fm_mx {r : Int → Int} : ∀ n, (∀ k : Nat, k < n → 1 ≤ r (k : Int)) → (fmK r n).1 = mxK r n ∧ (0 < n → 0 ≤ (fmK r n).2 ∧ (fmK r n).2 < (n : Int) ∧ r (fmK r n).2 = mxK r n ∧ ∀ q : Int, 0 ≤ q → q < (fmK r n).2 → r q < mxK r n) := by
  intro n
  induction n with
  | zero => exact fun _ => ⟨rfl, fun h => by omega⟩
  | succ n ih =>
    intro h
    obtain ⟨i1, i2⟩ := ih (fun k hk => h k (by omega))
    have h2 := h n (by omega)
    have e : mxK r (n + 1) = max (mxK r n) (r (n : Int)) := rfl
    by_cases c : (fmK r n).1 < r (n : Int)
    · have e2 : fmK r (n + 1) = (r (n : Int), (n : Int)) := if_pos c
      rw [e2, e]
      rw [i1] at c
      refine ⟨by show r (n : Int) = _; omega, fun _ => ⟨by show (0 : Int) ≤ n; omega, by show (n : Int) < _; omega, by show r (n : Int) = _; omega, fun q q0 q1 => ?_⟩⟩
      have q2 : q < (n : Int) := q1
      have := mxK_ge (r := r) (k := q.toNat) n (by omega)
      rw [Int.toNat_of_nonneg q0] at this
      omega
    · have e2 : fmK r (n + 1) = fmK r n := if_neg c
      rw [e2, e, show max (mxK r n) (r (n : Int)) = mxK r n by omega]
      refine ⟨i1, fun _ => ?_⟩
      by_cases n0 : 0 < n
      · obtain ⟨a, b, c', d⟩ := i2 n0
        exact ⟨a, by omega, c', d⟩
      · exfalso
        have : n = 0 := by omega
        subst this
        have e0 : (fmK r 0).1 = 0 := rfl
        rw [e0] at c
        omega
