theorem scE_ex (P : Int → Prop) (B : Nat → Int) (len : Int) : ∀ (n : Nat) (s : Int), (len - s).toNat = n → ∃ e, scE P B len s e := by
  intro n
  induction n with
  | zero => exact fun s h => ⟨s, by omega, fun q => by omega, fun i a b => by omega, fun q => by omega⟩
  | succ n ih =>
    intro s h
    by_cases c : P (B s.toNat)
    · obtain ⟨e, e1, e2, e3, e4⟩ := ih (s + 1) (by omega)
      refine ⟨e, by omega, fun _ => ?_, fun i a b => ?_, e4⟩
      · rcases (show s + 1 < e ∨ e = s + 1 by omega) with d | d
        · exact e2 d
        · omega
      · rcases (show i = s ∨ s + 1 ≤ i by omega) with d | d
        · rw [d]
          exact c
        · exact e3 i d b
    · exact ⟨s, by omega, fun q => by omega, fun i a b => by omega, fun q => c q.2⟩
theorem wdR_ex (B : Nat → Int) (s e : Int) : ∃ w, wdR B s e w := by
  have key : ∀ n : Nat, n ≤ 16 → (∃ w, wdR B s e w) ∨ ∀ j : Int, 0 ≤ j → j < n → ¬ stW B s e j.toNat := by
    intro n
    induction n with
    | zero => exact fun _ => Or.inr (fun j a b => by omega)
    | succ n ih =>
      intro hn
      rcases ih (by omega) with h | h
      · exact Or.inl h
      · by_cases c : stW B s e n
        · exact Or.inl ⟨(n : Int), by omega, by omega, h, Or.inr (by rw [Int.toNat_natCast]; exact c)⟩
        · refine Or.inr (fun j a b => ?_)
          by_cases d : j = (n : Int)
          · rw [d, Int.toNat_natCast]
            exact c
          · exact h j a (by omega)
  rcases key 16 (by omega) with h | h
  · exact h
  · exact ⟨16, by omega, by omega, h, Or.inl rfl⟩
theorem tkT_ex (B : Nat → Int) (len nx : Int) : ∃ t, tkT B len nx t := by
  obtain ⟨st, hs⟩ := scE_ex (fun c => c = 32) B len _ nx rfl
  by_cases c1 : len ≤ st
  · exact ⟨(st, 0, 0, st), hs, Or.inl ⟨c1, rfl⟩⟩
  · have c2 : st < len := by omega
    by_cases d1 : ltP (B st.toNat)
    · obtain ⟨e, he⟩ := scE_ex ltP B len _ st rfl
      obtain ⟨w, hw⟩ := wdR_ex B st e
      exact ⟨(st, if 16 ≤ w then (4, 0, 0) else (1, w, e)), hs, Or.inr ⟨c2, Or.inl ⟨e, w, d1, he, hw, rfl⟩⟩⟩
    · by_cases d2 : fgP (B st.toNat)
      · obtain ⟨e, he⟩ := scE_ex fgP B len _ st rfl
        exact ⟨(st, if 2 < e - st then (4, 0, 0) else (2, nuF B st (e - st).toNat, e)), hs, Or.inr ⟨c2, Or.inr (Or.inl ⟨e, d2, he, rfl⟩)⟩⟩
      · by_cases d3 : B st.toNat = 59
        · exact ⟨(st, 3, 0, st + 1), hs, Or.inr ⟨c2, Or.inr (Or.inr (Or.inl ⟨d3, rfl⟩))⟩⟩
        · exact ⟨(st, 4, 0, 0), hs, Or.inr ⟨c2, Or.inr (Or.inr (Or.inr ⟨⟨d1, d2, d3⟩, rfl⟩))⟩⟩
theorem tkF_T (B : Nat → Int) (len nx : Int) : tkT B len nx (tkF B len nx) := by
  obtain ⟨t, h⟩ := tkT_ex B len nx
  rw [tkF_e h]
  exact h
/-- a token that is one goes on, within the tape; a name's value is a word's -/
theorem tk_go {B : Nat → Int} {len nx : Int} {t : Tk} (h : tkT B len nx t) (h0 : ¬ t.2.1 = 0) (h4 : ¬ t.2.1 = 4) : nx < t.2.2.2 ∧ t.2.2.2 ≤ len ∧ (t.2.1 = 1 → 0 ≤ t.2.2.1 ∧ t.2.2.1 ≤ 15) := by
  obtain ⟨s1, q⟩ := h
  have s2 := s1.1
  rcases q with ⟨a, b⟩ | ⟨a, b⟩
  · rw [b] at h0
    exact absurd rfl h0
  · rcases b with ⟨e, w, c1, c2, c3, c4⟩ | ⟨e, c1, c2, c3⟩ | ⟨c1, c2⟩ | ⟨c1, c2⟩
    · by_cases g : 16 ≤ w
      · rw [if_pos g] at c4
        rw [c4] at h4
        exact absurd rfl h4
      · rw [if_neg g] at c4
        rw [c4]
        have e1 : t.1 < e := by
          have := c2.1
          rcases (show t.1 < e ∨ e = t.1 by omega) with d | d
          · exact d
          · exact absurd ⟨by omega, by rw [d]; exact c1⟩ c2.2.2.2
        have e2 := c2.2.1 e1
        have e3 := c3.1
        refine ⟨?_, ?_, fun _ => ?_⟩
        · show nx < e
          omega
        · show e ≤ len
          omega
        · show 0 ≤ w ∧ w ≤ 15
          omega
    · by_cases g : 2 < e - t.1
      · rw [if_pos g] at c3
        rw [c3] at h4
        exact absurd rfl h4
      · rw [if_neg g] at c3
        rw [c3]
        have e1 : t.1 < e := by
          have := c2.1
          rcases (show t.1 < e ∨ e = t.1 by omega) with d | d
          · exact d
          · exact absurd ⟨by omega, by rw [d]; exact c1⟩ c2.2.2.2
        have e2 := c2.2.1 e1
        refine ⟨?_, ?_, fun k => ?_⟩
        · show nx < e
          omega
        · show e ≤ len
          omega
        · exact absurd (show (2 : Int) = 1 from k) (by decide)
    · rw [c2]
      refine ⟨?_, ?_, fun k => ?_⟩
      · show nx < t.1 + 1
        omega
      · show t.1 + 1 ≤ len
        omega
      · exact absurd (show (3 : Int) = 1 from k) (by decide)
    · rw [c2] at h4
      exact absurd rfl h4
def tkG (T : Int → Tk) (len : Int) : Prop := ∀ nx : Int, ¬ (T nx).2.1 = 0 → ¬ (T nx).2.1 = 4 → nx < (T nx).2.2.2 ∧ (T nx).2.2.2 ≤ len ∧ ((T nx).2.1 = 1 → 0 ≤ (T nx).2.2.1 ∧ (T nx).2.2.1 ≤ 15)
theorem tkG_F (B : Nat → Int) (len : Int) : tkG (fun nx => tkF B len nx) len := fun nx h0 h4 => tk_go (tkF_T B len nx) h0 h4
theorem gStop_go {T : Int → Tk} {len nx nt lt : Int} {v l : Nat → Int} (hT : tkG T len) (h : (gStop T nx nt lt v l).1 = 0) : nx < (gStop T nx nt lt v l).2.2.1 ∧ (gStop T nx nt lt v l).2.2.1 ≤ len := by
  unfold gStop at h ⊢
  by_cases c : (T nx).2.1 = 4
  · rw [if_pos c] at h
    exact absurd (show (1 : Int) = 0 from h) (by decide)
  · rw [if_neg c] at h ⊢
    by_cases d : (T nx).2.1 = 3
    · rw [if_neg (fun q => q d)]
      obtain ⟨a, b, -⟩ := hT nx (by rw [d]; decide) c
      exact ⟨a, b⟩
    · rw [if_pos d] at h
      exact absurd (show (2 : Int) = 0 from h) (by decide)
theorem gGet_go {T : Int → Tk} {len lo hi nx : Int} (hT : tkG T len) (h : (gGet T lo hi nx).1 = 0) : nx < (gGet T lo hi nx).2.2.1 := by
  unfold gGet at h ⊢
  by_cases c : (T nx).2.1 = 4
  · rw [if_pos c] at h
    exact absurd (show (1 : Int) = 0 from h) (by decide)
  · rw [if_neg c] at h ⊢
    by_cases d : (T nx).2.1 = 2
    · rw [if_neg (fun q => q d)] at h ⊢
      by_cases e : lo ≤ (T nx).2.2.1 ∧ (T nx).2.2.1 ≤ hi
      · rw [if_neg (fun q => q e)]
        exact (hT nx (by rw [d]; decide) c).1
      · rw [if_pos e] at h
        exact absurd (show (3 : Int) = 0 from h) (by decide)
    · rw [if_pos d] at h
      exact absurd (show (2 : Int) = 0 from h) (by decide)
/-- what stands ahead of the stop -/
def gBd (T : Int → Tk) (n nx nt lt : Int) (v l : Nat → Int) : Ps :=
  if n = 0 then (if (T nx).2.1 = 4 then pX 1 (T nx).1 else if ¬ ((T nx).2.1 = 1 ∧ 13 ≤ (T nx).2.2.1) then pX 2 (T nx).1 else pO (T nx).2.2.2 nt lt (udI v 0 ((T nx).2.2.1 - 13)) l)
  else if n = 5 then pO nx nt lt (udI v 5 1) l
  else if n = 11 then (if (gGet T 0 15 nx).1 = 0 then (if (v 11).toNat.testBit (gGet T 0 15 nx).2.2.2.toNat = true then pX 4 (T nx).1 else pO (gGet T 0 15 nx).2.2.1 nt lt (udI v 11 (orP (v 11) (gGet T 0 15 nx).2.2.2)) l) else pX (gGet T 0 15 nx).1 (gGet T 0 15 nx).2.1)
  else if n = 12 then (if (gGet T 0 15 nx).1 = 0 then (if lt.toNat.testBit (gGet T 0 15 nx).2.2.2.toNat = true then pX 4 (T nx).1 else if (gGet T 1 9 (gGet T 0 15 nx).2.2.1).1 = 0 then pO (gGet T 1 9 (gGet T 0 15 nx).2.2.1).2.2.1 nt (orP lt (gGet T 0 15 nx).2.2.2) v (udI l (gGet T 0 15 nx).2.2.2.toNat (gGet T 1 9 (gGet T 0 15 nx).2.2.1).2.2.2) else pX (gGet T 1 9 (gGet T 0 15 nx).2.2.1).1 (gGet T 1 9 (gGet T 0 15 nx).2.2.1).2.1) else pX (gGet T 0 15 nx).1 (gGet T 0 15 nx).2.1)
  else (if (gGet T (sLo.getD n.toNat 0) (sHi.getD n.toNat 0) nx).1 = 0 then pO (gGet T (sLo.getD n.toNat 0) (sHi.getD n.toNat 0) nx).2.2.1 nt lt (udI v n.toNat (gGet T (sLo.getD n.toNat 0) (sHi.getD n.toNat 0) nx).2.2.2) l else pX (gGet T (sLo.getD n.toNat 0) (sHi.getD n.toNat 0) nx).1 (gGet T (sLo.getD n.toNat 0) (sHi.getD n.toNat 0) nx).2.1)
def gThen (T : Int → Tk) (s : Ps) : Ps := if s.1 = 0 then gStop T s.2.2.1 s.2.2.2.1 s.2.2.2.2.1 s.2.2.2.2.2.1 s.2.2.2.2.2.2 else s
theorem gThen_X {T : Int → Tk} {w a : Int} (h : ¬ w = 0) : gThen T (pX w a) = pX w a := if_neg h
theorem gThen_O {T : Int → Tk} {nx nt lt : Int} {v l : Nat → Int} : gThen T (pO nx nt lt v l) = gStop T nx nt lt v l := if_pos rfl
theorem gBody_t {T : Int → Tk} {n nx nt lt : Int} {v l : Nat → Int} : gBody T n nx nt lt v l = gThen T (gBd T n nx nt lt v l) := by
  unfold gBody gBd
  by_cases a0 : n = 0
  · rw [if_pos a0, if_pos a0]
    unfold gWay
    by_cases c : (T nx).2.1 = 4
    · rw [if_pos c, if_pos c, gThen_X (by decide)]
    · rw [if_neg c, if_neg c]
      by_cases d : (T nx).2.1 = 1 ∧ 13 ≤ (T nx).2.2.1
      · rw [if_neg (fun q => q d), if_neg (fun q => q d), gThen_O]
      · rw [if_pos d, if_pos d, gThen_X (by decide)]
  · rw [if_neg a0, if_neg a0]
    by_cases a5 : n = 5
    · rw [if_pos a5, if_pos a5, gThen_O]
    · rw [if_neg a5, if_neg a5]
      by_cases a11 : n = 11
      · rw [if_pos a11, if_pos a11]
        unfold gDead
        by_cases c : (gGet T 0 15 nx).1 = 0
        · rw [if_pos c, if_pos c]
          by_cases d : (v 11).toNat.testBit (gGet T 0 15 nx).2.2.2.toNat = true
          · rw [if_pos d, if_pos d, gThen_X (by decide)]
          · rw [if_neg d, if_neg d, gThen_O]
        · rw [if_neg c, if_neg c, gThen_X c]
      · rw [if_neg a11, if_neg a11]
        by_cases a12 : n = 12
        · rw [if_pos a12, if_pos a12]
          unfold gLeast gLea2
          by_cases c : (gGet T 0 15 nx).1 = 0
          · rw [if_pos c, if_pos c]
            by_cases d : lt.toNat.testBit (gGet T 0 15 nx).2.2.2.toNat = true
            · rw [if_pos d, if_pos d, gThen_X (by decide)]
            · rw [if_neg d, if_neg d]
              by_cases e : (gGet T 1 9 (gGet T 0 15 nx).2.2.1).1 = 0
              · rw [if_pos e, if_pos e, gThen_O]
              · rw [if_neg e, if_neg e, gThen_X e]
          · rw [if_neg c, if_neg c, gThen_X c]
        · rw [if_neg a12, if_neg a12]
          unfold gNum
          by_cases c : (gGet T (sLo.getD n.toNat 0) (sHi.getD n.toNat 0) nx).1 = 0
          · rw [if_pos c, if_pos c, gThen_O]
          · rw [if_neg c, if_neg c, gThen_X c]
theorem gBd_go {T : Int → Tk} {len n nx nt lt : Int} {v l : Nat → Int} (hT : tkG T len) (h : (gBd T n nx nt lt v l).1 = 0) : nx ≤ (gBd T n nx nt lt v l).2.2.1 := by
  unfold gBd at h ⊢
  by_cases a0 : n = 0
  · rw [if_pos a0] at h ⊢
    by_cases c : (T nx).2.1 = 4
    · rw [if_pos c] at h
      exact absurd (show (1 : Int) = 0 from h) (by decide)
    · rw [if_neg c] at h ⊢
      by_cases d : (T nx).2.1 = 1 ∧ 13 ≤ (T nx).2.2.1
      · rw [if_neg (fun q => q d)]
        exact Int.le_of_lt (hT nx (by rw [d.1]; decide) c).1
      · rw [if_pos d] at h
        exact absurd (show (2 : Int) = 0 from h) (by decide)
  · rw [if_neg a0] at h ⊢
    by_cases a5 : n = 5
    · rw [if_pos a5]
      exact Int.le_refl _
    · rw [if_neg a5] at h ⊢
      by_cases a11 : n = 11
      · rw [if_pos a11] at h ⊢
        by_cases c : (gGet T 0 15 nx).1 = 0
        · rw [if_pos c] at h ⊢
          by_cases d : (v 11).toNat.testBit (gGet T 0 15 nx).2.2.2.toNat = true
          · rw [if_pos d] at h
            exact absurd (show (4 : Int) = 0 from h) (by decide)
          · rw [if_neg d]
            exact Int.le_of_lt (gGet_go hT c)
        · rw [if_neg c] at h
          exact absurd h c
      · rw [if_neg a11] at h ⊢
        by_cases a12 : n = 12
        · rw [if_pos a12] at h ⊢
          by_cases c : (gGet T 0 15 nx).1 = 0
          · rw [if_pos c] at h ⊢
            by_cases d : lt.toNat.testBit (gGet T 0 15 nx).2.2.2.toNat = true
            · rw [if_pos d] at h
              exact absurd (show (4 : Int) = 0 from h) (by decide)
            · rw [if_neg d] at h ⊢
              by_cases e : (gGet T 1 9 (gGet T 0 15 nx).2.2.1).1 = 0
              · rw [if_pos e]
                exact Int.le_trans (Int.le_of_lt (gGet_go hT c)) (Int.le_of_lt (gGet_go hT e))
              · rw [if_neg e] at h
                exact absurd h e
          · rw [if_neg c] at h
            exact absurd h c
        · rw [if_neg a12] at h ⊢
          by_cases c : (gGet T (sLo.getD n.toNat 0) (sHi.getD n.toNat 0) nx).1 = 0
          · rw [if_pos c]
            exact Int.le_of_lt (gGet_go hT c)
          · rw [if_neg c] at h
            exact absurd h c
theorem gLine_go {T : Int → Tk} {len nx nt lt : Int} {v l : Nat → Int} (hT : tkG T len) (h : (gLine T nx nt lt v l).1 = 0) : nx < (gLine T nx nt lt v l).2.2.1 ∧ (gLine T nx nt lt v l).2.2.1 ≤ len := by
  unfold gLine at h ⊢
  by_cases c : (T nx).2.1 = 4
  · rw [if_pos c] at h
    exact absurd (show (1 : Int) = 0 from h) (by decide)
  · rw [if_neg c] at h ⊢
    by_cases d : (T nx).2.1 = 1 ∧ (T nx).2.2.1 ≤ 12
    · rw [if_neg (fun q => q d)] at h ⊢
      by_cases e : (T nx).2.2.1 < 11 ∧ nt.toNat.testBit (T nx).2.2.1.toNat = true
      · rw [if_pos e] at h
        exact absurd (show (4 : Int) = 0 from h) (by decide)
      · rw [if_neg e, gBody_t] at h ⊢
        have k := (hT nx (by rw [d.1]; decide) c).1
        by_cases g : (gBd T (T nx).2.2.1 (T nx).2.2.2 (if (T nx).2.2.1 < 11 then orP nt (T nx).2.2.1 else nt) lt v l).1 = 0
        · have k2 := gBd_go hT g
          unfold gThen at h ⊢
          rw [if_pos g] at h ⊢
          have k3 := gStop_go hT h
          exact ⟨by omega, k3.2⟩
        · unfold gThen at h
          rw [if_neg g] at h
          exact absurd h g
    · rw [if_pos d] at h
      exact absurd (show (2 : Int) = 0 from h) (by decide)
theorem gIt_go {T : Int → Tk} {len : Int} (hT : tkG T len) (h0 : 0 ≤ len) : ∀ k : Nat, (∀ i, i ≤ k → (gIt T i).1 = 0) → (k : Int) ≤ (gIt T k).2.2.1 ∧ (gIt T k).2.2.1 ≤ len := by
  intro k
  induction k with
  | zero => exact fun _ => ⟨Int.le_refl 0, h0⟩
  | succ k ih =>
    intro h
    have i := ih (fun i hi => h i (by omega))
    have g := gLine_go (T := T) hT (h (k + 1) (by omega))
    show ((k + 1 : Nat) : Int) ≤ (gLine T _ _ _ _ _).2.2.1 ∧ (gLine T _ _ _ _ _).2.2.1 ≤ len
    omega
/-- how a text ends -/
def gOut (T : Int → Tk) (z w : Int) (v l : Nat → Int) : Prop := ∃ n : Nat, gFin T n ∧ ((T (gIt T n).2.2.1).2.1 = 0 ∧ z = (n : Int) ∧ w = 0 ∧ (∀ j, j < 12 → v j = (gIt T n).2.2.2.2.2.1 j) ∧ (∀ j, j < 16 → l j = (gIt T n).2.2.2.2.2.2 j) ∨ ¬ (T (gIt T n).2.2.1).2.1 = 0 ∧ z = -10 - (gIt T (n + 1)).2.1 ∧ w = (gIt T (n + 1)).1 ∧ ¬ w = 0)
theorem tu_c {T : Int → Tk} {M M' : Mem} {n : Nat} (hT : TT M = T) (hG : tkG T (M 7 1)) (h : inC T M n) (hr : tuR M M') : cF M M' ∧ (∃ n', inC T M' n') ∧ (M' 7 2 = 0 → ¬ M' 7 9 = 5 → M 7 5 < M' 7 5 ∧ M' 7 5 ≤ M 7 1) := by
  obtain ⟨r1, r2, M2, r3, r4⟩ := hr
  obtain ⟨e12, a, b, h⟩ := h
  have go : ∀ (nx nt lt : Int) (v l : Nat → Int), cO M nx nt lt v l → ((T nx).2.1 = 4 → ∃ n', inC T M2 n') → (aT T M2 nx nt lt v l → utR M2 M' → ∃ n', inC T M' n') → cF M M' ∧ (∃ n', inC T M' n') ∧ (M' 7 2 = 0 → ¬ M' 7 9 = 5 → M 7 5 < M' 7 5 ∧ M' 7 5 ≤ M 7 1) := by
    intro nx nt lt v l hO x1 x2
    obtain ⟨f1, -, q⟩ := tk_step hO r3
    rw [hT] at q
    rcases q with ⟨q1, q2⟩ | q
    · rcases r4 with ⟨s1, s2⟩ | ⟨s1, -⟩
      · rw [s2]
        exact ⟨f1, x1 q1, fun w => absurd w s1⟩
      · exact absurd (q2.1.symm.trans s1) (by decide)
    · rcases r4 with ⟨s1, -⟩ | ⟨s1, s2⟩
      · exact absurd q.2.1.1 s1
      · obtain ⟨u1, u2⟩ := ut_F s2
        refine ⟨cF_tr f1 u1, x2 q s2, fun w1 w2 => ?_⟩
        have k0 : ¬ (T nx).2.1 = 0 := fun k => by
          rcases ut_e s2 (q.2.2.1.trans k) with g | g
          · exact w2 g
          · exact g w1
        have k := hG nx k0 q.1
        rw [u2, q.2.1.2.1, hO.2.1]
        exact ⟨k.1, k.2.1⟩
  rcases h with ⟨-, g1, g2⟩ | ⟨g1, g2⟩ | ⟨c, g1, g2, nx, nt, lt, v, l, g3, g4⟩ | ⟨-, g1, -⟩
  · exact absurd (g2.1.symm.trans r1) g1
  · have t := tk_step g2 r3
    refine go _ _ _ _ _ g2 (fun k => ?_) (fun k hu => ?_)
    · have e : gIt T (n + 1) = pX 1 (T (gIt T n).2.2.1).1 := if_pos k
      refine ⟨n, in_mid (k := (n : Int)) rfl a b (by rw [k]; decide) ?_⟩
      rw [e]
      rw [hT] at t
      rcases t.2.2 with ⟨-, q⟩ | q
      · exact mid_X q (t.2.1.2.2.2.trans e12)
      · exact absurd k q.1
    · rcases hu with ⟨w, hu⟩ | ⟨w, -⟩ | ⟨w, -⟩ | ⟨w, -⟩ | ⟨w, -⟩
      · rcases bl_c k hu with ⟨q1, q2, q3, q4⟩ | ⟨q1, q2⟩
        · exact ⟨n, q3.trans (t.2.1.2.2.2.trans e12), a, b, Or.inr (Or.inr (Or.inr ⟨q1, q2, _, q4⟩))⟩
        · exact ⟨n, in_mid (t.2.1.2.2.2.trans e12) a b q1 q2⟩
      · rw [t.2.1.1, g1] at w
        exact absurd w (by decide)
      · rw [t.2.1.1, g1] at w
        exact absurd w (by decide)
      · rw [t.2.1.1, g1] at w
        exact absurd w (by decide)
      · rw [t.2.1.1, g1] at w
        exact absurd rfl w.1
  · have t := tk_step g3 r3
    obtain ⟨t1, ⟨t9, t10, t11, t12⟩, t3⟩ := t
    refine go _ _ _ _ _ g3 (fun k => ?_) (fun k hu => ?_)
    · refine ⟨n, in_mid (k := (n : Int)) rfl a b c ?_⟩
      rw [g4, gResX k]
      rw [hT] at t3
      rcases t3 with ⟨-, q⟩ | q
      · exact mid_X q (t12.trans e12)
      · exact absurd k q.1
    · rw [← t9] at g1 g2
      rw [← t10] at g2
      rw [← t9, ← t10, ← t11] at g4
      exact us_c (t12.trans e12) a b c g1 g2 k g4 hu
  · exact absurd g1 r2
theorem rs0_I {M : Mem} {T : Int → Tk} : cI (rs0 M) (gIt T 0) := by
  refine ⟨rfl, rfl, fun j _ => rfl, rfl, fun j hj => ?_, fun j hj => ?_⟩
  · unfold rs0
    rw [sto_ni _ _ _ _ (by decide), sto_ni _ _ _ _ (by decide), sto_ni _ _ _ _ (by decide), sto_ni _ _ _ _ (by decide), sto_ni _ _ _ _ (by decide), sto_ni _ _ _ _ (by decide), sto_ni _ _ _ _ (by decide), fillM_f _ _ _ _ (by decide), cpyM_lt _ _ _ _ hj]
    rfl
  · unfold rs0
    rw [sto_ni _ _ _ _ (by decide), sto_ni _ _ _ _ (by decide), sto_ni _ _ _ _ (by decide), sto_ni _ _ _ _ (by decide), sto_ni _ _ _ _ (by decide), sto_ni _ _ _ _ (by decide), sto_ni _ _ _ _ (by decide), fillM_lt _ _ _ _ hj]
    rfl
theorem rs0_f {M : Mem} {i : Nat} (h7 : i ≠ 7) (h9 : i ≠ 9) (h10 : i ≠ 10) : rs0 M i = M i := by
  unfold rs0
  rw [sto_f _ _ _ _ h7, sto_f _ _ _ _ h7, sto_f _ _ _ _ h7, sto_f _ _ _ _ h7, sto_f _ _ _ _ h7, sto_f _ _ _ _ h7, sto_f _ _ _ _ h7, fillM_f _ _ _ _ h10, cpyM_f _ _ _ _ h9]
theorem rs0_1 {M : Mem} : rs0 M 7 1 = M 7 1 := by
  unfold rs0
  rw [sto_nj _ _ _ _ (by decide), sto_nj _ _ _ _ (by decide), sto_nj _ _ _ _ (by decide), sto_nj _ _ _ _ (by decide), sto_nj _ _ _ _ (by decide), sto_nj _ _ _ _ (by decide), sto_nj _ _ _ _ (by decide), fillM_f _ _ _ _ (by decide), cpyM_f _ _ _ _ (by decide)]
theorem tuK_c {M : Mem} (h0 : 0 ≤ M 7 1) : ∀ k M1, tuK (rs0 M) k M1 → cF (rs0 M) M1 ∧ (∃ n, inC (TT M) M1 n) ∧ (M1 7 2 = 0 → ¬ M1 7 9 = 5 → (k : Int) ≤ M1 7 5 ∧ M1 7 5 ≤ M 7 1) := by
  have eT : TT (rs0 M) = TT M := by
    unfold TT
    rw [rs0_f (by decide) (by decide) (by decide), rs0_1]
  have hG : tkG (TT M) (M 7 1) := tkG_F (M 11) (M 7 1)
  intro k
  induction k with
  | zero =>
    intro M1 h
    have e : M1 = rs0 M := h
    subst e
    refine ⟨cF_rf, ⟨0, rfl, fun i hi => by rw [show i = 0 by omega]; rfl, fun i hi => by omega, Or.inr (Or.inl ⟨rfl, rs0_I⟩)⟩, fun _ _ => ?_⟩
    rw [show rs0 M 7 5 = 0 from rfl]
    exact ⟨Int.le_refl 0, h0⟩
  | succ k ih =>
    intro M1 h
    obtain ⟨Ma, a1, a2⟩ := h
    obtain ⟨i1, ⟨n, i2⟩, i3⟩ := ih Ma a1
    have e1 : Ma 7 1 = M 7 1 := i1.2.trans rs0_1
    obtain ⟨t1, t2, t3⟩ := tu_c ((TT_F i1).trans eT) (by rw [e1]; exact hG) i2 a2
    have i4 := i3 a2.1 a2.2.1
    refine ⟨cF_tr i1 t1, t2, fun w1 w2 => ?_⟩
    have t4 := t3 w1 w2
    rw [e1] at t4
    omega
theorem ll_c {M M' : Mem} {z : Int} (h0 : 0 ≤ M 7 1) (h1 : M 7 1 ≤ 200) (h : llR M M' z) : cF (rs0 M) M' ∧ ∃ n : Nat, gFin (TT M) n ∧ ((TT M (gIt (TT M) n).2.2.1).2.1 = 0 ∧ z = (n : Int) ∧ (∃ nx, cO M' nx (gIt (TT M) n).2.2.2.1 (gIt (TT M) n).2.2.2.2.1 (gIt (TT M) n).2.2.2.2.2.1 (gIt (TT M) n).2.2.2.2.2.2) ∨ ¬ (TT M (gIt (TT M) n).2.2.1).2.1 = 0 ∧ cE M' (gIt (TT M) (n + 1)).1 (gIt (TT M) (n + 1)).2.1) := by
  obtain ⟨k, a1, a2, a3⟩ := h
  obtain ⟨i1, ⟨n, e12, a, b, i2⟩, i3⟩ := tuK_c h0 k M' a1
  refine ⟨i1, n, ?_⟩
  have no : M' 7 2 = 0 → ¬ M' 7 9 = 5 → False := fun w1 w2 => by
    have i4 := i3 w1 w2
    rcases a3 with g | g | g
    · omega
    · exact g w1
    · exact w2 g
  rcases i2 with ⟨c, g1, g2⟩ | ⟨g1, g2⟩ | ⟨c, g1, g2, nx, nt, lt, v, l, g3, g4⟩ | ⟨g0, g1, g2⟩
  · exact ⟨⟨a, b, Or.inr g1⟩, Or.inr ⟨c, g2⟩⟩
  · exact absurd (no g2.1 (by omega)) id
  · exact absurd (no g3.1 (by omega)) id
  · exact ⟨⟨a, b, Or.inl g0⟩, Or.inl ⟨g0, a2.trans e12, g2⟩⟩
/-- the code's text -/
theorem tx_c {M M' : Mem} {z : Int} (h0 : 0 ≤ M 7 1) (h1 : M 7 1 ≤ 200) (h : txR M M' z) : M' 7 1 = 0 ∧ (∀ i j, i ≠ 7 → i ≠ 9 → i ≠ 10 → i ≠ 2 → i ≠ 3 → M' i j = M i j) ∧ ((gOut (TT M) z (M' 7 2) (M' 2) (M' 3) ∧ M' 7 2 = 0) ∨ (gOut (TT M) z (M' 7 2) (M' 2) (M' 3) ∧ ¬ M' 7 2 = 0 ∧ M' 2 = M 2 ∧ M' 3 = M 3)) := by
  obtain ⟨M1, k, a1, a2, a3⟩ := h
  obtain ⟨f1, n, g1, g2⟩ := ll_c h0 h1 a1
  rcases a3 with ⟨b1, b2, b3⟩ | ⟨b1, b2, b3⟩
  · have e2 : M' 7 2 = M1 7 2 := by rw [b3, sto_nj _ _ _ _ (by decide)]
    refine ⟨by rw [b3, sto_eq], fun i j h7 h9 h10 _ _ => ?_, Or.inr ⟨⟨n, g1, Or.inr ?_⟩, by rw [e2]; exact b1, ?_, ?_⟩⟩
    · rw [b3, sto_ni _ _ _ _ h7, f1.1 i j h7 h9 h10, rs0_f h7 h9 h10]
    · rcases g2 with ⟨c1, c2, nx, c3⟩ | ⟨c1, c2⟩
      · exact absurd c3.1 b1
      · exact ⟨c1, by rw [b2, c2.2.2], by rw [e2]; exact c2.1, by rw [e2]; exact b1⟩
    · funext j
      rw [b3, sto_ni _ _ _ _ (by decide), f1.1 2 j (by decide) (by decide) (by decide), rs0_f (by decide) (by decide) (by decide)]
    · funext j
      rw [b3, sto_ni _ _ _ _ (by decide), f1.1 3 j (by decide) (by decide) (by decide), rs0_f (by decide) (by decide) (by decide)]
  · have eO : ∃ nx, cO M1 nx (gIt (TT M) n).2.2.2.1 (gIt (TT M) n).2.2.2.2.1 (gIt (TT M) n).2.2.2.2.2.1 (gIt (TT M) n).2.2.2.2.2.2 ∧ (TT M (gIt (TT M) n).2.2.1).2.1 = 0 ∧ k = (n : Int) := by
      rcases g2 with ⟨c1, c2, nx, c3⟩ | ⟨c1, c2⟩
      · exact ⟨nx, c3, c1, c2⟩
      · exact absurd (c2.1.symm.trans b1) c2.2.1
    obtain ⟨nx, c1, c2, c3⟩ := eO
    have e2 : M' 7 2 = 0 := by rw [b3, cpyM_f _ _ _ _ (by decide), cpyM_f _ _ _ _ (by decide), sto_nj _ _ _ _ (by decide)]; exact b1
    refine ⟨by rw [b3, cpyM_f _ _ _ _ (by decide), cpyM_f _ _ _ _ (by decide), sto_eq], fun i j h7 h9 h10 h2 h3 => ?_, Or.inl ⟨⟨n, g1, Or.inl ⟨c2, by rw [b2, c3], e2, fun j hj => ?_, fun j hj => ?_⟩⟩, e2⟩⟩
    · rw [b3, cpyM_f _ _ _ _ h3, cpyM_f _ _ _ _ h2, sto_ni _ _ _ _ h7, f1.1 i j h7 h9 h10, rs0_f h7 h9 h10]
    · rw [b3, cpyM_f _ _ _ _ (by decide), cpyM_lt _ _ _ _ hj]
      exact c1.2.2.2.2.1 j hj
    · rw [b3, cpyM_lt _ _ _ _ hj]
      exact c1.2.2.2.2.2 j hj
