/-! ===== THE TEXT: lines ===== -/
def udI (v : Nat → Int) (k : Nat) (x : Int) : Nat → Int := fun j => if j = k then x else v j
theorem udI_e {v : Nat → Int} {k : Nat} {x : Int} : udI v k x k = x := if_pos rfl
theorem udI_n {v : Nat → Int} {k j : Nat} {x : Int} (h : j ≠ k) : udI v k x j = v j := if_neg h
/-- where the reading stands: what is wrong and where; else the next byte, the names told, the leasts told, the values, the leasts -/
abbrev Ps : Type := Int × Int × Int × Int × Int × (Nat → Int) × (Nat → Int)
def pX (w a : Int) : Ps := (w, a, 0, 0, 0, fun _ => 0, fun _ => 0)
def pO (nx nt lt : Int) (v l : Nat → Int) : Ps := (0, 0, nx, nt, lt, v, l)
def gGet (T : Int → Tk) (lo hi nx : Int) : Int × Int × Int × Int := if (T nx).2.1 = 4 then (1, (T nx).1, 0, lo) else if ¬ (T nx).2.1 = 2 then (2, (T nx).1, 0, lo) else if ¬ (lo ≤ (T nx).2.2.1 ∧ (T nx).2.2.1 ≤ hi) then (3, (T nx).1, 0, lo) else (0, 0, (T nx).2.2.2, (T nx).2.2.1)
def gStop (T : Int → Tk) (nx nt lt : Int) (v l : Nat → Int) : Ps := if (T nx).2.1 = 4 then pX 1 (T nx).1 else if ¬ (T nx).2.1 = 3 then pX 2 (T nx).1 else pO (T nx).2.2.2 nt lt v l
def gWay (T : Int → Tk) (nx nt lt : Int) (v l : Nat → Int) : Ps := if (T nx).2.1 = 4 then pX 1 (T nx).1 else if ¬ ((T nx).2.1 = 1 ∧ 13 ≤ (T nx).2.2.1) then pX 2 (T nx).1 else gStop T (T nx).2.2.2 nt lt (udI v 0 ((T nx).2.2.1 - 13)) l
def gNum (T : Int → Tk) (lo hi : Int) (n : Nat) (nx nt lt : Int) (v l : Nat → Int) : Ps := if (gGet T lo hi nx).1 = 0 then gStop T (gGet T lo hi nx).2.2.1 nt lt (udI v n (gGet T lo hi nx).2.2.2) l else pX (gGet T lo hi nx).1 (gGet T lo hi nx).2.1
def gDead (T : Int → Tk) (nx nt lt : Int) (v l : Nat → Int) : Ps := if (gGet T 0 15 nx).1 = 0 then (if (v 11).toNat.testBit (gGet T 0 15 nx).2.2.2.toNat = true then pX 4 (T nx).1 else gStop T (gGet T 0 15 nx).2.2.1 nt lt (udI v 11 (orP (v 11) (gGet T 0 15 nx).2.2.2)) l) else pX (gGet T 0 15 nx).1 (gGet T 0 15 nx).2.1
def gLea2 (T : Int → Tk) (p nx nt lt : Int) (v l : Nat → Int) : Ps := if (gGet T 1 9 nx).1 = 0 then gStop T (gGet T 1 9 nx).2.2.1 nt lt v (udI l p.toNat (gGet T 1 9 nx).2.2.2) else pX (gGet T 1 9 nx).1 (gGet T 1 9 nx).2.1
def gLeast (T : Int → Tk) (nx nt lt : Int) (v l : Nat → Int) : Ps := if (gGet T 0 15 nx).1 = 0 then (if lt.toNat.testBit (gGet T 0 15 nx).2.2.2.toNat = true then pX 4 (T nx).1 else gLea2 T (gGet T 0 15 nx).2.2.2 (gGet T 0 15 nx).2.2.1 nt (orP lt (gGet T 0 15 nx).2.2.2) v l) else pX (gGet T 0 15 nx).1 (gGet T 0 15 nx).2.1
def gBody (T : Int → Tk) (n nx nt lt : Int) (v l : Nat → Int) : Ps := if n = 0 then gWay T nx nt lt v l else if n = 5 then gStop T nx nt lt (udI v 5 1) l else if n = 11 then gDead T nx nt lt v l else if n = 12 then gLeast T nx nt lt v l else gNum T (sLo.getD n.toNat 0) (sHi.getD n.toNat 0) n.toNat nx nt lt v l
def gLine (T : Int → Tk) (nx nt lt : Int) (v l : Nat → Int) : Ps := if (T nx).2.1 = 4 then pX 1 (T nx).1 else if ¬ ((T nx).2.1 = 1 ∧ (T nx).2.2.1 ≤ 12) then pX 2 (T nx).1 else if (T nx).2.2.1 < 11 ∧ nt.toNat.testBit (T nx).2.2.1.toNat = true then pX 4 (T nx).1 else gBody T (T nx).2.2.1 (T nx).2.2.2 (if (T nx).2.2.1 < 11 then orP nt (T nx).2.2.1 else nt) lt v l
/-- the tape's head of the code stands so -/
def cO (M : Mem) (nx nt lt : Int) (v l : Nat → Int) : Prop := M 7 2 = 0 ∧ M 7 5 = nx ∧ (∀ j, j < 11 → (M 7 13).toNat.testBit j = nt.toNat.testBit j) ∧ M 7 14 = lt ∧ (∀ j, j < 12 → M 9 j = v j) ∧ ∀ j, j < 16 → M 10 j = l j
def cE (M : Mem) (w a : Int) : Prop := M 7 2 = w ∧ ¬ w = 0 ∧ M 7 3 = a
def cF (M M' : Mem) : Prop := (∀ i j, i ≠ 7 → i ≠ 9 → i ≠ 10 → M' i j = M i j) ∧ M' 7 1 = M 7 1
theorem cF_rf {M : Mem} : cF M M := ⟨fun _ _ _ _ _ => rfl, rfl⟩
theorem cF_tr {M M1 M2 : Mem} (h1 : cF M M1) (h2 : cF M1 M2) : cF M M2 := ⟨fun i j a b c => (h2.1 i j a b c).trans (h1.1 i j a b c), h2.2.trans h1.2⟩
theorem cF_sk {M : Mem} {nx kd va st wr wa : Int} : cF M (skM M nx kd va st wr wa) := ⟨fun i j a _ _ => if_neg a, rfl⟩
theorem cF_rfM {M : Mem} {w : Int} : cF M (rfM M w) := cF_sk
theorem cF_s9 {M : Mem} {j : Nat} {v : Int} : cF M (sto M 9 j v) := ⟨fun i k _ b _ => sto_ni _ _ _ _ b, sto_ni _ _ _ _ (by decide)⟩
theorem cF_s10 {M : Mem} {j : Nat} {v : Int} : cF M (sto M 10 j v) := ⟨fun i k _ _ c => sto_ni _ _ _ _ c, sto_ni _ _ _ _ (by decide)⟩
theorem cF_s7 {M : Mem} {j : Nat} {v : Int} (h : j ≠ 1) : cF M (sto M 7 j v) := ⟨fun i k a _ _ => sto_ni _ _ _ _ a, sto_nj _ _ _ _ (fun q => h q.symm)⟩
theorem cF_nm {M : Mem} : cF M (nmM M) := cF_tr (cF_s7 (by decide)) (cF_s7 (by decide))
noncomputable def TT (M : Mem) : Int → Tk := fun nx => tkF (M 11) (M 7 1) nx
theorem TT_F {M M' : Mem} (h : cF M M') : TT M' = TT M := by
  unfold TT
  rw [h.2, show M' 11 = M 11 from funext fun j => h.1 11 j (by decide) (by decide) (by decide)]
theorem tk_c {M : Mem} {nx nt lt nx' kd va st wr wa : Int} {v l : Nat → Int} (h : cO M nx nt lt v l) (ht : tkV (M 11) (M 7 1) (M 7 5) (M 7 6) (M 7 7) (M 7 2) (M 7 3) nx' kd va st wr wa) : st = (TT M nx).1 ∧ ((TT M nx).2.1 = 4 ∧ wr = 1 ∧ wa = (TT M nx).1 ∨ ¬ (TT M nx).2.1 = 4 ∧ wr = 0 ∧ wa = M 7 3 ∧ kd = (TT M nx).2.1 ∧ nx' = (TT M nx).2.2.2 ∧ (kd = 1 ∨ kd = 2 → va = (TT M nx).2.2.1)) := by
  rw [h.1, h.2.1] at ht
  obtain ⟨t, a1, a2, a3⟩ := tkV_F ht
  rw [show TT M nx = t from tkF_e a1]
  exact ⟨a2, a3⟩
theorem cO_sk {M : Mem} {nx nt lt nx' kd va st wa : Int} {v l : Nat → Int} (h : cO M nx nt lt v l) : cO (skM M nx' kd va st 0 wa) nx' nt lt v l := ⟨rfl, rfl, h.2.2.1, h.2.2.2.1, h.2.2.2.2.1, h.2.2.2.2.2⟩
theorem cE_sk {M : Mem} {nx' kd va st wr wa : Int} (h : ¬ wr = 0) : cE (skM M nx' kd va st wr wa) wr wa := ⟨rfl, h, rfl⟩
theorem rf_E {M : Mem} {w a : Int} (h : M 7 8 = a) (hw : ¬ w = 0) : cE (rfM M w) w a := ⟨rfl, hw, h⟩
theorem cO_7 {M : Mem} {nx nt lt x : Int} {v l : Nat → Int} {k : Nat} (hk : k ≠ 2 ∧ k ≠ 5 ∧ k ≠ 13 ∧ k ≠ 14) (h : cO M nx nt lt v l) : cO (sto M 7 k x) nx nt lt v l := by
  refine ⟨?_, ?_, fun j hj => ?_, ?_, fun j hj => ?_, fun j hj => ?_⟩
  · rw [sto_nj _ _ _ _ (Ne.symm hk.1)]; exact h.1
  · rw [sto_nj _ _ _ _ (Ne.symm hk.2.1)]; exact h.2.1
  · rw [sto_nj _ _ _ _ (Ne.symm hk.2.2.1)]; exact h.2.2.1 j hj
  · rw [sto_nj _ _ _ _ (Ne.symm hk.2.2.2)]; exact h.2.2.2.1
  · rw [sto_ni _ _ _ _ (by decide)]; exact h.2.2.2.2.1 j hj
  · rw [sto_ni _ _ _ _ (by decide)]; exact h.2.2.2.2.2 j hj
theorem cO_w {M : Mem} {nx nt lt x : Int} {v l : Nat → Int} (h : cO M nx nt lt v l) : cO (sto M 7 9 x) nx nt lt v l := cO_7 (by decide) h
theorem cO_9 {M : Mem} {nx nt lt x : Int} {v l : Nat → Int} {k : Nat} (h : cO M nx nt lt v l) : cO (sto M 9 k x) nx nt lt (udI v k x) l := by
  refine ⟨?_, ?_, fun j hj => ?_, ?_, fun j hj => ?_, fun j hj => ?_⟩
  · rw [sto_ni _ _ _ _ (by decide)]; exact h.1
  · rw [sto_ni _ _ _ _ (by decide)]; exact h.2.1
  · rw [sto_ni _ _ _ _ (by decide)]; exact h.2.2.1 j hj
  · rw [sto_ni _ _ _ _ (by decide)]; exact h.2.2.2.1
  · rw [sto_row]
    show (if j = k then x else M 9 j) = if j = k then x else v j
    rw [h.2.2.2.2.1 j hj]
  · rw [sto_ni _ _ _ _ (by decide)]; exact h.2.2.2.2.2 j hj
theorem cO_10 {M : Mem} {nx nt lt x : Int} {v l : Nat → Int} {k : Nat} (h : cO M nx nt lt v l) : cO (sto M 10 k x) nx nt lt v (udI l k x) := by
  refine ⟨?_, ?_, fun j hj => ?_, ?_, fun j hj => ?_, fun j hj => ?_⟩
  · rw [sto_ni _ _ _ _ (by decide)]; exact h.1
  · rw [sto_ni _ _ _ _ (by decide)]; exact h.2.1
  · rw [sto_ni _ _ _ _ (by decide)]; exact h.2.2.1 j hj
  · rw [sto_ni _ _ _ _ (by decide)]; exact h.2.2.2.1
  · rw [sto_ni _ _ _ _ (by decide)]; exact h.2.2.2.2.1 j hj
  · rw [sto_row]
    show (if j = k then x else M 10 j) = if j = k then x else l j
    rw [h.2.2.2.2.2 j hj]
theorem cO_lt {M : Mem} {nx nt lt x : Int} {v l : Nat → Int} (h : cO M nx nt lt v l) : cO (sto M 7 14 x) nx nt x v l := by
  refine ⟨?_, ?_, fun j hj => ?_, sto_eq _ _ _ _, fun j hj => ?_, fun j hj => ?_⟩
  · rw [sto_nj _ _ _ _ (by decide)]; exact h.1
  · rw [sto_nj _ _ _ _ (by decide)]; exact h.2.1
  · rw [sto_nj _ _ _ _ (by decide)]; exact h.2.2.1 j hj
  · rw [sto_ni _ _ _ _ (by decide)]; exact h.2.2.2.2.1 j hj
  · rw [sto_ni _ _ _ _ (by decide)]; exact h.2.2.2.2.2 j hj
theorem cO_nt {M : Mem} {nx nt nt' lt x : Int} {v l : Nat → Int} (h : cO M nx nt lt v l) (hx : ∀ j, j < 11 → x.toNat.testBit j = nt'.toNat.testBit j) : cO (sto M 7 13 x) nx nt' lt v l := by
  refine ⟨?_, ?_, fun j hj => ?_, ?_, fun j hj => ?_, fun j hj => ?_⟩
  · rw [sto_nj _ _ _ _ (by decide)]; exact h.1
  · rw [sto_nj _ _ _ _ (by decide)]; exact h.2.1
  · rw [sto_eq]; exact hx j hj
  · rw [sto_nj _ _ _ _ (by decide)]; exact h.2.2.2.1
  · rw [sto_ni _ _ _ _ (by decide)]; exact h.2.2.2.2.1 j hj
  · rw [sto_ni _ _ _ _ (by decide)]; exact h.2.2.2.2.2 j hj
theorem or_bit {a b n : Int} (h : ∀ j, j < 11 → a.toNat.testBit j = b.toNat.testBit j) : ∀ j, j < 11 → (orP a n).toNat.testBit j = (if n < 11 then orP b n else b).toNat.testBit j := by
  intro j hj
  have e : ∀ c : Int, (orP c n).toNat = c.toNat ||| 2 ^ n.toNat := fun c => Int.toNat_natCast _
  rw [e, Nat.testBit_or, h j hj]
  by_cases c : n < 11
  · rw [if_pos c, e, Nat.testBit_or]
  · rw [if_neg c, Nat.testBit_two_pow_of_ne (by omega), Bool.or_false]
/-- what a line comes to, by what may come next -/
def gRes (T : Int → Tk) (w n p nx nt lt : Int) (v l : Nat → Int) : Ps := if w = 1 then gWay T nx nt lt v l else if w = 2 then (if n = 11 then gDead T nx nt lt v l else gLeast T nx nt lt v l) else if w = 3 then (if n = 12 then gLea2 T p nx nt lt v l else gNum T (sLo.getD n.toNat 0) (sHi.getD n.toNat 0) n.toNat nx nt lt v l) else gStop T nx nt lt v l
theorem gRes1 {T : Int → Tk} {w n p nx nt lt : Int} {v l : Nat → Int} (h : w = 1) : gRes T w n p nx nt lt v l = gWay T nx nt lt v l := if_pos h
theorem gRes2 {T : Int → Tk} {w n p nx nt lt : Int} {v l : Nat → Int} (h : w = 2) : gRes T w n p nx nt lt v l = if n = 11 then gDead T nx nt lt v l else gLeast T nx nt lt v l := by
  unfold gRes
  rw [if_neg (by omega), if_pos h]
theorem gRes3 {T : Int → Tk} {w n p nx nt lt : Int} {v l : Nat → Int} (h : w = 3) : gRes T w n p nx nt lt v l = if n = 12 then gLea2 T p nx nt lt v l else gNum T (sLo.getD n.toNat 0) (sHi.getD n.toNat 0) n.toNat nx nt lt v l := by
  unfold gRes
  rw [if_neg (by omega), if_neg (by omega), if_pos h]
theorem gRes4 {T : Int → Tk} {w n p nx nt lt : Int} {v l : Nat → Int} (h : w = 4) : gRes T w n p nx nt lt v l = gStop T nx nt lt v l := by
  unfold gRes
  rw [if_neg (by omega), if_neg (by omega), if_neg (by omega)]
theorem gGet4 {T : Int → Tk} {lo hi nx : Int} (h : (T nx).2.1 = 4) : gGet T lo hi nx = (1, (T nx).1, 0, lo) := if_pos h
theorem gResX {T : Int → Tk} {w n p nx nt lt : Int} {v l : Nat → Int} (h : (T nx).2.1 = 4) : gRes T w n p nx nt lt v l = pX 1 (T nx).1 := by
  have k : ∀ lo hi : Int, ¬ (gGet T lo hi nx).1 = 0 := fun lo hi => by
    rw [gGet4 h]
    show ¬ (1 : Int) = 0
    decide
  unfold gRes
  by_cases c1 : w = 1
  · rw [if_pos c1]
    exact if_pos h
  · rw [if_neg c1]
    by_cases c2 : w = 2
    · rw [if_pos c2]
      by_cases c3 : n = 11
      · rw [if_pos c3]
        unfold gDead
        rw [if_neg (k 0 15), gGet4 h]
      · rw [if_neg c3]
        unfold gLeast
        rw [if_neg (k 0 15), gGet4 h]
    · rw [if_neg c2]
      by_cases c3 : w = 3
      · rw [if_pos c3]
        by_cases c4 : n = 12
        · rw [if_pos c4]
          unfold gLea2
          rw [if_neg (k 1 9), gGet4 h]
        · rw [if_neg c4]
          unfold gNum
          rw [if_neg (k _ _), gGet4 h]
      · rw [if_neg c3]
        exact if_pos h
/-- a TOKEN was taken: it stands behind nx -/
def aT (T : Int → Tk) (M : Mem) (nx nt lt : Int) (v l : Nat → Int) : Prop := ¬ (T nx).2.1 = 4 ∧ cO M (T nx).2.2.2 nt lt v l ∧ M 7 6 = (T nx).2.1 ∧ ((T nx).2.1 = 1 ∨ (T nx).2.1 = 2 → M 7 7 = (T nx).2.2.1) ∧ M 7 8 = (T nx).1
theorem tk_step {M M2 : Mem} {nx nt lt : Int} {v l : Nat → Int} (h : cO M nx nt lt v l) (ht : tkR M M2) : cF M M2 ∧ (M2 7 9 = M 7 9 ∧ M2 7 10 = M 7 10 ∧ M2 7 11 = M 7 11 ∧ M2 7 12 = M 7 12) ∧ ((TT M nx).2.1 = 4 ∧ cE M2 1 (TT M nx).1 ∨ aT (TT M) M2 nx nt lt v l) := by
  obtain ⟨nx', kd, va, st, wr, wa, h1, h2⟩ := ht
  subst h2
  obtain ⟨t1, t2⟩ := tk_c h h1
  refine ⟨cF_sk, ⟨rfl, rfl, rfl, rfl⟩, ?_⟩
  rcases t2 with ⟨b1, b2, b3⟩ | ⟨b1, b2, b3, b4, b5, b6⟩
  · refine Or.inl ⟨b1, ?_⟩
    rw [b2, b3]
    exact cE_sk (by decide)
  · refine Or.inr ⟨b1, ?_, b4, fun c => b6 (by rw [b4]; exact c), t1⟩
    rw [← b5, b2]
    exact cO_sk h
/-- within a line, or a fault -/
def mid (T : Int → Tk) (M : Mem) (k : Int) (s : Ps) : Prop := ¬ s.1 = 0 ∧ cE M s.1 s.2.1 ∧ M 7 12 = k ∨ (1 ≤ M 7 9 ∧ M 7 9 ≤ 4) ∧ (M 7 9 = 2 → M 7 10 = 11 ∨ M 7 10 = 12) ∧ M 7 12 = k ∧ ∃ (nx nt lt : Int) (v l : Nat → Int), cO M nx nt lt v l ∧ s = gRes T (M 7 9) (M 7 10) (M 7 11) nx nt lt v l
theorem mid_X {T : Int → Tk} {M : Mem} {k w a : Int} (h : cE M w a) (h2 : M 7 12 = k) : mid T M k (pX w a) := Or.inl ⟨h.2.1, h, h2⟩
theorem mid_4 {T : Int → Tk} {M : Mem} {k nx nt lt : Int} {v l : Nat → Int} (h9 : M 7 9 = 4) (h2 : M 7 12 = k) (h : cO M nx nt lt v l) : mid T M k (gStop T nx nt lt v l) := Or.inr ⟨by omega, fun q => by omega, h2, nx, nt, lt, v, l, h, (gRes4 h9).symm⟩
theorem tw_c {T : Int → Tk} {M M' : Mem} {nx nt lt : Int} {v l : Nat → Int} (h : aT T M nx nt lt v l) (hr : twR M M') : mid T M' (M 7 12) (gWay T nx nt lt v l) := by
  obtain ⟨h4, hO, h6, h7, h8⟩ := h
  unfold gWay
  rw [if_neg h4]
  rcases hr with ⟨a, b⟩ | ⟨a, b⟩
  · subst b
    rw [if_pos (fun c => a ⟨h6.trans c.1, by rw [h7 (Or.inl c.1)]; exact c.2⟩)]
    exact mid_X (rf_E h8 (by decide)) rfl
  · subst b
    have k1 : (T nx).2.1 = 1 := h6.symm.trans a.1
    have k2 := h7 (Or.inl k1)
    rw [if_neg (fun c => c ⟨k1, by rw [← k2]; exact a.2⟩), ← k2]
    exact mid_4 rfl rfl (cO_w (cO_9 hO))
theorem nb_c {T : Int → Tk} {M M1 : Mem} {nx nt lt lo hi z : Int} {v l : Nat → Int} (h : aT T M nx nt lt v l) (hr : nbR M lo hi M1 z) : z = 0 ∧ ¬ (gGet T lo hi nx).1 = 0 ∧ cE M1 (gGet T lo hi nx).1 (gGet T lo hi nx).2.1 ∧ M1 7 12 = M 7 12 ∨ ¬ z = 0 ∧ (gGet T lo hi nx).1 = 0 ∧ (gGet T lo hi nx).2.2.1 = (T nx).2.2.2 ∧ (gGet T lo hi nx).2.2.2 = M 7 7 := by
  obtain ⟨h4, hO, h6, h7, h8⟩ := h
  rcases hr with ⟨a, b, c⟩ | ⟨a, b, c, d⟩ | ⟨a, b, c, d⟩
  · have e : gGet T lo hi nx = (2, (T nx).1, 0, lo) := by unfold gGet; rw [if_neg h4, if_pos (by rw [← h6]; exact a)]
    rw [e, c]
    exact Or.inl ⟨b, by show ¬ (2 : Int) = 0; decide, rf_E h8 (by decide), rfl⟩
  · have k2 := h7 (Or.inr (h6.symm.trans a))
    have e : gGet T lo hi nx = (3, (T nx).1, 0, lo) := by unfold gGet; rw [if_neg h4, if_neg (by rw [← h6]; exact fun q => q a), if_pos (by rw [← k2]; exact b)]
    rw [e, d]
    exact Or.inl ⟨c, by show ¬ (3 : Int) = 0; decide, rf_E h8 (by decide), rfl⟩
  · have k2 := h7 (Or.inr (h6.symm.trans a))
    have e : gGet T lo hi nx = (0, 0, (T nx).2.2.2, (T nx).2.2.1) := by unfold gGet; rw [if_neg h4, if_neg (by rw [← h6]; exact fun q => q a), if_neg (by rw [← k2]; exact fun q => q b)]
    rw [e]
    exact Or.inr ⟨by omega, rfl, rfl, k2.symm⟩
theorem tp_c {T : Int → Tk} {M M' : Mem} {nx nt lt : Int} {v l : Nat → Int} (h : aT T M nx nt lt v l) (hn : M 7 10 = 11 ∨ M 7 10 = 12) (hr : tpR M M') : mid T M' (M 7 12) (if M 7 10 = 11 then gDead T nx nt lt v l else gLeast T nx nt lt v l) := by
  obtain ⟨M1, z, h1, h2⟩ := hr
  have hO := h.2.1
  have h8 := h.2.2.2.2
  rcases nb_c h h1 with ⟨a, b, c, d⟩ | ⟨a, b, c, d⟩
  · have e : M' = M1 := by
      rcases h2 with ⟨-, e⟩ | ⟨q, -⟩
      · exact e
      · exact absurd a q
    subst e
    by_cases n : M 7 10 = 11
    · rw [if_pos n]
      unfold gDead
      rw [if_neg b]
      exact mid_X c d
    · rw [if_neg n]
      unfold gLeast
      rw [if_neg b]
      exact mid_X c d
  · have h3 := (h2.resolve_left (fun q => a q.1)).2
    rcases h3 with ⟨n, h3⟩ | ⟨n, h3⟩
    · have e9 : M 9 11 = v 11 := hO.2.2.2.2.1 11 (by decide)
      rw [if_pos n]
      unfold gDead
      rw [if_pos b, c, d, ← e9]
      rcases h3 with ⟨t, e⟩ | ⟨t, e⟩
      · subst e
        rw [if_pos t]
        exact mid_X (rf_E h8 (by decide)) rfl
      · subst e
        rw [if_neg (by rw [t]; decide)]
        exact mid_4 rfl rfl (cO_w (cO_9 hO))
    · have e10 : M 7 14 = lt := hO.2.2.2.1
      rw [if_neg n]
      unfold gLeast
      rw [if_pos b, c, d, ← e10]
      rcases h3 with ⟨t, e⟩ | ⟨t, e⟩
      · subst e
        rw [if_pos t]
        exact mid_X (rf_E h8 (by decide)) rfl
      · have n12 : M 7 10 = 12 := hn.resolve_left n
        have e0 : M' 7 9 = 3 := by rw [e]; rfl
        have e1 : M' 7 10 = 12 := by rw [e, ← n12]; rfl
        have e2 : M' 7 11 = M 7 7 := by rw [e]; rfl
        have e3 : M' 7 12 = M 7 12 := by rw [e]; rfl
        rw [if_neg (by rw [t]; decide)]
        refine Or.inr ⟨by omega, fun q => by omega, e3, (T nx).2.2.2, nt, orP (M 7 14) (M 7 7), v, l, ?_, ?_⟩
        · rw [e]
          exact cO_w (cO_7 (by decide) (cO_lt hO))
        · rw [gRes3 e0, if_pos e1, e2]
theorem tn_c {T : Int → Tk} {M M' : Mem} {nx nt lt : Int} {v l : Nat → Int} (h : aT T M nx nt lt v l) (hr : tnR M M') : mid T M' (M 7 12) (if M 7 10 = 12 then gLea2 T (M 7 11) nx nt lt v l else gNum T (sLo.getD (M 7 10).toNat 0) (sHi.getD (M 7 10).toNat 0) (M 7 10).toNat nx nt lt v l) := by
  obtain ⟨M1, z, h1, h2⟩ := hr
  have hO := h.2.1
  by_cases n : M 7 10 = 12
  · rw [if_pos n]
    rw [n] at h1
    have h1' : nbR M 1 9 M1 z := h1
    unfold gLea2
    rcases nb_c h h1' with ⟨a, b, c, d⟩ | ⟨a, b, c, d⟩
    · have e : M' = M1 := by
        rcases h2 with ⟨-, e⟩ | ⟨q, -⟩
        · exact e
        · exact absurd a q
      subst e
      rw [if_neg b]
      exact mid_X c d
    · have h3 := (h2.resolve_left (fun q => a q.1)).2
      rw [if_pos b, c, d]
      rcases h3 with ⟨-, e⟩ | ⟨q, -⟩
      · subst e
        exact mid_4 rfl rfl (cO_w (cO_10 hO))
      · exact absurd n q
  · rw [if_neg n]
    unfold gNum
    rcases nb_c h h1 with ⟨a, b, c, d⟩ | ⟨a, b, c, d⟩
    · have e : M' = M1 := by
        rcases h2 with ⟨-, e⟩ | ⟨q, -⟩
        · exact e
        · exact absurd a q
      subst e
      rw [if_neg b]
      exact mid_X c d
    · have h3 := (h2.resolve_left (fun q => a q.1)).2
      rw [if_pos b, c, d]
      rcases h3 with ⟨q, -⟩ | ⟨-, e⟩
      · exact absurd q n
      · subst e
        exact mid_4 rfl rfl (cO_w (cO_9 hO))
