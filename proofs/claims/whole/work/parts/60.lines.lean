/-! ===== THE TEXT: lines ===== -/
def udI (v : Nat → Int) (k : Nat) (x : Int) : Nat → Int := fun j => if j = k then x else v j
theorem udI_e {v : Nat → Int} {k : Nat} {x : Int} : udI v k x k = x := if_pos rfl
theorem udI_n {v : Nat → Int} {k j : Nat} {x : Int} (h : j ≠ k) : udI v k x j = v j := if_neg h
/-- where the reading stands: what is wrong and where; else the next byte, the names told, the leasts told, the values, the leasts -/
abbrev Ps : Type := Int × Int × Int × Int × Int × (Nat → Int) × (Nat → Int)
def pX (w a : Int) : Ps := (w, a, 0, 0, 0, fun _ => 0, fun _ => 0)
def pO (nx nt lt : Int) (v l : Nat → Int) : Ps := (0, 0, nx, nt, lt, v, l)
def gGet (T : Int → Tk) (lo hi nx : Int) : Int × Int × Int × Int := if (T nx).2.1 = 4 then (1, (T nx).1, 0, lo) else if ¬ (T nx).2.1 = 2 then (2, (T nx).1, 0, lo) else if ¬ (lo ≤ (T nx).2.2.1 ∧ (T nx).2.2.1 ≤ hi) then (3, (T nx).1, 0, lo) else (0, 0, (T nx).2.2.2, (T nx).2.2.1)
def gStop (T : Int → Tk) (nx nt lt : Int) (v l : Nat → Int) : Ps := if (T nx).2.1 = 4 then pX 1 (T nx).1 else if ¬ (T nx).2.1 = 3 then pX 2 (T nx).1 else pO (T nx).2.2.2 nt lt v l
def gWay (T : Int → Tk) (nx nt lt : Int) (v l : Nat → Int) : Ps := if (T nx).2.1 = 4 then pX 1 (T nx).1 else if ¬ ((T nx).2.1 = 1 ∧ 13 ≤ (T nx).2.2.1) then pX 2 (T nx).1 else gStop T (T nx).2.2.2 nt lt (udI v 0 ((T nx).2.2.1 - 13)) l
def gNum (T : Int → Tk) (lo hi : Int) (n : Nat) (nx nt lt : Int) (v l : Nat → Int) : Ps := if (gGet T lo hi nx).1 = 0 then gStop T (gGet T lo hi nx).2.2.1 nt lt (udI v n (gGet T lo hi nx).2.2.2) l else pX (gGet T lo hi nx).1 (gGet T lo hi nx).2.1
def gDead (T : Int → Tk) (nx nt lt : Int) (v l : Nat → Int) : Ps := if (gGet T 0 15 nx).1 = 0 then (if (v 11).toNat.testBit (gGet T 0 15 nx).2.2.2.toNat = true then pX 4 (T nx).1 else gStop T (gGet T 0 15 nx).2.2.1 nt lt (udI v 11 (orP (v 11) (gGet T 0 15 nx).2.2.2)) l) else pX (gGet T 0 15 nx).1 (gGet T 0 15 nx).2.1
def gLea2 (T : Int → Tk) (p nx nt lt : Int) (v l : Nat → Int) : Ps := if (gGet T 1 9 nx).1 = 0 then gStop T (gGet T 1 9 nx).2.2.1 nt lt v (udI l p.toNat (gGet T 1 9 nx).2.2.2) else pX (gGet T 1 9 nx).1 (gGet T 1 9 nx).2.1
def gLeast (T : Int → Tk) (nx nt lt : Int) (v l : Nat → Int) : Ps := if (gGet T 0 15 nx).1 = 0 then (if lt.toNat.testBit (gGet T 0 15 nx).2.2.2.toNat = true then pX 4 (T nx).1 else gLea2 T (gGet T 0 15 nx).2.2.2 (gGet T 0 15 nx).2.2.1 nt (orP lt (gGet T 0 15 nx).2.2.2) v l) else pX (gGet T 0 15 nx).1 (gGet T 0 15 nx).2.1
def gBody (T : Int → Tk) (n nx nt lt : Int) (v l : Nat → Int) : Ps := if n = 0 then gWay T nx nt lt v l else if n = 5 then gStop T nx nt lt (udI v 5 1) l else if n = 11 then gDead T nx nt lt v l else if n = 12 then gLeast T nx nt lt v l else gNum T (sLo.getD n.toNat 0) (sHi.getD n.toNat 0) n.toNat nx nt lt v l
def gLine (T : Int → Tk) (nx nt lt : Int) (v l : Nat → Int) : Ps := if (T nx).2.1 = 4 then pX 1 (T nx).1 else if ¬ ((T nx).2.1 = 1 ∧ (T nx).2.2.1 ≤ 12) then pX 2 (T nx).1 else if (T nx).2.2.1 < 11 ∧ nt.toNat.testBit (T nx).2.2.1.toNat = true then pX 4 (T nx).1 else gBody T (T nx).2.2.1 (T nx).2.2.2 (if (T nx).2.2.1 < 11 then orP nt (T nx).2.2.1 else nt) lt v l
/-- the tape's head of the code stands so -/
def cO (M : Mem) (nx nt lt : Int) (v l : Nat → Int) : Prop := M 7 2 = 0 ∧ M 7 5 = nx ∧ M 7 9 = nt ∧ M 7 10 = lt ∧ (∀ j, j < 12 → M 9 j = v j) ∧ ∀ j, j < 16 → M 10 j = l j
def cE (M : Mem) (w a : Int) : Prop := M 7 2 = w ∧ ¬ w = 0 ∧ M 7 3 = a
def cP (M : Mem) (s : Ps) : Prop := s.1 = 0 ∧ cO M s.2.2.1 s.2.2.2.1 s.2.2.2.2.1 s.2.2.2.2.2.1 s.2.2.2.2.2.2 ∨ ¬ s.1 = 0 ∧ cE M s.1 s.2.1
theorem cP_X {M : Mem} {w a : Int} (h : cE M w a) : cP M (pX w a) := Or.inr ⟨h.2.1, h⟩
theorem cP_O {M : Mem} {nx nt lt : Int} {v l : Nat → Int} (h : cO M nx nt lt v l) : cP M (pO nx nt lt v l) := Or.inl ⟨rfl, h⟩
def cF (M M' : Mem) : Prop := (∀ i j, i ≠ 7 → i ≠ 9 → i ≠ 10 → M' i j = M i j) ∧ M' 7 1 = M 7 1
theorem cF_rf {M : Mem} : cF M M := ⟨fun _ _ _ _ _ => rfl, rfl⟩
theorem cF_tr {M M1 M2 : Mem} (h1 : cF M M1) (h2 : cF M1 M2) : cF M M2 := ⟨fun i j a b c => (h2.1 i j a b c).trans (h1.1 i j a b c), h2.2.trans h1.2⟩
theorem cF_sk {M : Mem} {nx kd va st wr wa : Int} : cF M (skM M nx kd va st wr wa) := ⟨fun i j a _ _ => if_neg a, rfl⟩
theorem cF_s9 {M : Mem} {j : Nat} {v : Int} : cF M (sto M 9 j v) := ⟨fun i k _ b _ => sto_ni _ _ _ _ b, sto_ni _ _ _ _ (by decide)⟩
theorem cF_s10 {M : Mem} {j : Nat} {v : Int} : cF M (sto M 10 j v) := ⟨fun i k _ _ c => sto_ni _ _ _ _ c, sto_ni _ _ _ _ (by decide)⟩
theorem cF_s7 {M : Mem} {j : Nat} {v : Int} (h : j ≠ 1) : cF M (sto M 7 j v) := ⟨fun i k a _ _ => sto_ni _ _ _ _ a, sto_nj _ _ _ _ (fun q => h q.symm)⟩
noncomputable def TT (M : Mem) : Int → Tk := fun nx => tkF (M 11) (M 7 1) nx
theorem TT_F {M M' : Mem} (h : cF M M') : TT M' = TT M := by
  unfold TT
  rw [h.2, show M' 11 = M 11 from funext fun j => h.1 11 j (by decide) (by decide) (by decide)]
theorem tk_c {M : Mem} {nx nt lt nx' kd va st wr wa : Int} {v l : Nat → Int} (h : cO M nx nt lt v l) (ht : tkV (M 11) (M 7 1) (M 7 5) (M 7 6) (M 7 7) (M 7 2) (M 7 3) nx' kd va st wr wa) : st = (TT M nx).1 ∧ ((TT M nx).2.1 = 4 ∧ wr = 1 ∧ wa = (TT M nx).1 ∨ ¬ (TT M nx).2.1 = 4 ∧ wr = 0 ∧ wa = M 7 3 ∧ kd = (TT M nx).2.1 ∧ nx' = (TT M nx).2.2.2 ∧ (kd = 1 ∨ kd = 2 → va = (TT M nx).2.2.1)) := by
  rw [h.1, h.2.1] at ht
  obtain ⟨t, a1, a2, a3⟩ := tkV_F ht
  rw [show TT M nx = t from tkF_e a1]
  exact ⟨a2, a3⟩
theorem cO_sk {M : Mem} {nx nt lt nx' kd va st wa : Int} {v l : Nat → Int} (h : cO M nx nt lt v l) : cO (skM M nx' kd va st 0 wa) nx' nt lt v l := ⟨rfl, rfl, h.2.2.1, h.2.2.2.1, h.2.2.2.2.1, h.2.2.2.2.2⟩
theorem cE_sk {M : Mem} {nx' kd va st wr wa : Int} (h : ¬ wr = 0) : cE (skM M nx' kd va st wr wa) wr wa := ⟨rfl, h, rfl⟩
theorem rn_c {M M' : Mem} {nx nt lt lo hi z : Int} {v l : Nat → Int} (h : cO M nx nt lt v l) (hr : rnR M lo hi M' z) : cF M M' ∧ z = (gGet (TT M) lo hi nx).2.2.2 ∧ ((gGet (TT M) lo hi nx).1 = 0 ∧ cO M' (gGet (TT M) lo hi nx).2.2.1 nt lt v l ∧ M' 7 8 = (TT M nx).1 ∨ ¬ (gGet (TT M) lo hi nx).1 = 0 ∧ cE M' (gGet (TT M) lo hi nx).1 (gGet (TT M) lo hi nx).2.1) := by
  rcases hr with ⟨a, -⟩ | ⟨a, nx', kd, va, st, wr, wa, ht, q⟩
  · exact absurd h.1 a
  · obtain ⟨t1, t2⟩ := tk_c h ht
    rcases t2 with ⟨b1, b2, b3⟩ | ⟨b1, b2, b3, b4, b5, b6⟩
    · have e : gGet (TT M) lo hi nx = (1, (TT M nx).1, 0, lo) := if_pos b1
      rw [e]
      rcases q with ⟨q1, q2, q3⟩ | ⟨q1, -⟩ | ⟨q1, -⟩ | ⟨q1, -⟩
      · rw [q3]
        refine ⟨cF_sk, q2, Or.inr ⟨by show ¬ (1 : Int) = 0; decide, ?_⟩⟩
        rw [b2, b3]
        exact cE_sk (by decide)
      · omega
      · omega
      · omega
    · rcases q with ⟨q1, -⟩ | ⟨-, q1, q2, q3⟩ | ⟨-, q1, q2, q3, q4⟩ | ⟨-, q1, q2, q3, q4⟩
      · omega
      · have e : gGet (TT M) lo hi nx = (2, (TT M nx).1, 0, lo) := by unfold gGet; rw [if_neg b1, if_pos (by rw [← b4]; exact q1)]
        rw [e, q3]
        refine ⟨cF_sk, q2, Or.inr ⟨by show ¬ (2 : Int) = 0; decide, ?_⟩⟩
        rw [t1]
        exact cE_sk (by decide)
      · have e : gGet (TT M) lo hi nx = (3, (TT M nx).1, 0, lo) := by unfold gGet; rw [if_neg b1, if_neg (by rw [← b4]; exact fun c => c q1), if_pos (by rw [← b6 (Or.inr q1)]; exact q2)]
        rw [e, q4]
        refine ⟨cF_sk, q3, Or.inr ⟨by show ¬ (3 : Int) = 0; decide, ?_⟩⟩
        rw [t1]
        exact cE_sk (by decide)
      · have e : gGet (TT M) lo hi nx = (0, 0, (TT M nx).2.2.2, (TT M nx).2.2.1) := by unfold gGet; rw [if_neg b1, if_neg (by rw [← b4]; exact fun c => c q1), if_neg (by rw [← b6 (Or.inr q1)]; exact fun c => c q2)]
        rw [e, q4]
        refine ⟨cF_sk, by rw [q3]; exact b6 (Or.inr q1), Or.inl ⟨rfl, ?_, t1⟩⟩
        show cO _ (TT M nx).2.2.2 _ _ _ _
        rw [← b5]
        exact cO_sk h
theorem rn_e {M M' : Mem} {w a lo hi z : Int} (h : cE M w a) (hr : rnR M lo hi M' z) : M' = M ∧ z = lo := by
  rcases hr with ⟨-, b, c⟩ | ⟨b, -⟩
  · exact ⟨b, c⟩
  · exact absurd (h.1.symm.trans b) h.2.1
theorem rs_e {M M' : Mem} {w a : Int} (h : cE M w a) (hr : rsR M M') : M' = M := by
  rcases hr with ⟨-, b⟩ | ⟨b, -⟩
  · exact b
  · exact absurd (h.1.symm.trans b) h.2.1
theorem rs_c {M M' : Mem} {nx nt lt : Int} {v l : Nat → Int} (h : cO M nx nt lt v l) (hr : rsR M M') : cF M M' ∧ cP M' (gStop (TT M) nx nt lt v l) := by
  rcases hr with ⟨a, -⟩ | ⟨a, nx', kd, va, st, wr, wa, ht, q⟩
  · exact absurd h.1 a
  · obtain ⟨t1, t2⟩ := tk_c h ht
    rcases t2 with ⟨b1, b2, b3⟩ | ⟨b1, b2, b3, b4, b5, b6⟩
    · have e : gStop (TT M) nx nt lt v l = pX 1 (TT M nx).1 := if_pos b1
      rw [e]
      rcases q with ⟨q1, q2⟩ | ⟨q1, -⟩ | ⟨q1, -⟩
      · rw [q2]
        refine ⟨cF_sk, cP_X ?_⟩
        rw [b2, b3]
        exact cE_sk (by decide)
      · omega
      · omega
    · rcases q with ⟨q1, -⟩ | ⟨-, q1, q2⟩ | ⟨-, q1, q2⟩
      · omega
      · have e : gStop (TT M) nx nt lt v l = pX 2 (TT M nx).1 := by unfold gStop; rw [if_neg b1, if_pos (by rw [← b4]; exact q1)]
        rw [e, q2]
        refine ⟨cF_sk, cP_X ?_⟩
        rw [t1]
        exact cE_sk (by decide)
      · have e : gStop (TT M) nx nt lt v l = pO (TT M nx).2.2.2 nt lt v l := by unfold gStop; rw [if_neg b1, if_neg (by rw [← b4]; exact fun c => c q1)]
        rw [e, q2]
        refine ⟨cF_sk, cP_O ?_⟩
        rw [← b5]
        exact cO_sk h
theorem cO_9 {M : Mem} {nx nt lt x : Int} {v l : Nat → Int} {k : Nat} (h : cO M nx nt lt v l) : cO (sto M 9 k x) nx nt lt (udI v k x) l := by
  refine ⟨?_, ?_, ?_, ?_, fun j hj => ?_, fun j hj => ?_⟩
  · rw [sto_ni _ _ _ _ (by decide)]; exact h.1
  · rw [sto_ni _ _ _ _ (by decide)]; exact h.2.1
  · rw [sto_ni _ _ _ _ (by decide)]; exact h.2.2.1
  · rw [sto_ni _ _ _ _ (by decide)]; exact h.2.2.2.1
  · rw [sto_row]
    show (if j = k then x else M 9 j) = if j = k then x else v j
    rw [h.2.2.2.2.1 j hj]
  · rw [sto_ni _ _ _ _ (by decide)]; exact h.2.2.2.2.2 j hj
theorem cO_10 {M : Mem} {nx nt lt x : Int} {v l : Nat → Int} {k : Nat} (h : cO M nx nt lt v l) : cO (sto M 10 k x) nx nt lt v (udI l k x) := by
  refine ⟨?_, ?_, ?_, ?_, fun j hj => ?_, fun j hj => ?_⟩
  · rw [sto_ni _ _ _ _ (by decide)]; exact h.1
  · rw [sto_ni _ _ _ _ (by decide)]; exact h.2.1
  · rw [sto_ni _ _ _ _ (by decide)]; exact h.2.2.1
  · rw [sto_ni _ _ _ _ (by decide)]; exact h.2.2.2.1
  · rw [sto_ni _ _ _ _ (by decide)]; exact h.2.2.2.2.1 j hj
  · rw [sto_row]
    show (if j = k then x else M 10 j) = if j = k then x else l j
    rw [h.2.2.2.2.2 j hj]
theorem cO_nt {M : Mem} {nx nt lt x : Int} {v l : Nat → Int} (h : cO M nx nt lt v l) : cO (sto M 7 9 x) nx x lt v l := by
  refine ⟨?_, ?_, sto_eq _ _ _ _, ?_, fun j hj => ?_, fun j hj => ?_⟩
  · rw [sto_nj _ _ _ _ (by decide)]; exact h.1
  · rw [sto_nj _ _ _ _ (by decide)]; exact h.2.1
  · rw [sto_nj _ _ _ _ (by decide)]; exact h.2.2.2.1
  · rw [sto_ni _ _ _ _ (by decide)]; exact h.2.2.2.2.1 j hj
  · rw [sto_ni _ _ _ _ (by decide)]; exact h.2.2.2.2.2 j hj
theorem cO_lt {M : Mem} {nx nt lt x : Int} {v l : Nat → Int} (h : cO M nx nt lt v l) : cO (sto M 7 10 x) nx nt x v l := by
  refine ⟨?_, ?_, ?_, sto_eq _ _ _ _, fun j hj => ?_, fun j hj => ?_⟩
  · rw [sto_nj _ _ _ _ (by decide)]; exact h.1
  · rw [sto_nj _ _ _ _ (by decide)]; exact h.2.1
  · rw [sto_nj _ _ _ _ (by decide)]; exact h.2.2.1
  · rw [sto_ni _ _ _ _ (by decide)]; exact h.2.2.2.2.1 j hj
  · rw [sto_ni _ _ _ _ (by decide)]; exact h.2.2.2.2.2 j hj
theorem cE_9 {M : Mem} {w a x : Int} {k : Nat} (h : cE M w a) : cE (sto M 9 k x) w a := ⟨by rw [sto_ni _ _ _ _ (by decide)]; exact h.1, h.2.1, by rw [sto_ni _ _ _ _ (by decide)]; exact h.2.2⟩
theorem cE_10 {M : Mem} {w a x : Int} {k : Nat} (h : cE M w a) : cE (sto M 10 k x) w a := ⟨by rw [sto_ni _ _ _ _ (by decide)]; exact h.1, h.2.1, by rw [sto_ni _ _ _ _ (by decide)]; exact h.2.2⟩
theorem cE_lt {M : Mem} {w a x : Int} (h : cE M w a) : cE (sto M 7 10 x) w a := ⟨by rw [sto_nj _ _ _ _ (by decide)]; exact h.1, h.2.1, by rw [sto_nj _ _ _ _ (by decide)]; exact h.2.2⟩
theorem rw_c {M M1 M' : Mem} {nx nt lt : Int} {v l : Nat → Int} (h : cO M nx nt lt v l) (hr : rwR M M1) (hs : rsR M1 M') : cF M M' ∧ cP M' (gWay (TT M) nx nt lt v l) := by
  obtain ⟨nx', kd, va, st, wr, wa, ht, q⟩ := hr
  obtain ⟨t1, t2⟩ := tk_c h ht
  rcases t2 with ⟨b1, b2, b3⟩ | ⟨b1, b2, b3, b4, b5, b6⟩
  · have e : gWay (TT M) nx nt lt v l = pX 1 (TT M nx).1 := if_pos b1
    rw [e]
    rcases q with ⟨q1, q2⟩ | ⟨q1, -⟩ | ⟨q1, -⟩
    · have hE : cE M1 1 (TT M nx).1 := by rw [q2, b2, b3]; exact cE_sk (by decide)
      rw [rs_e hE hs]
      exact ⟨by rw [q2]; exact cF_sk, cP_X hE⟩
    · omega
    · omega
  · rcases q with ⟨q1, -⟩ | ⟨-, q1, q2⟩ | ⟨-, q1, q2⟩
    · omega
    · have e : gWay (TT M) nx nt lt v l = pX 2 (TT M nx).1 := by
        unfold gWay
        rw [if_neg b1, if_pos]
        intro c
        exact q1 ⟨b4.trans c.1, by rw [b6 (Or.inl (b4.trans c.1))]; exact c.2⟩
      rw [e]
      have hE : cE M1 2 (TT M nx).1 := by rw [q2, t1]; exact cE_sk (by decide)
      rw [rs_e hE hs]
      exact ⟨by rw [q2]; exact cF_sk, cP_X hE⟩
    · have e : gWay (TT M) nx nt lt v l = gStop (TT M) (TT M nx).2.2.2 nt lt (udI v 0 ((TT M nx).2.2.1 - 13)) l := by
        unfold gWay
        rw [if_neg b1, if_neg]
        intro c
        exact c ⟨b4.symm.trans q1.1, by rw [← b6 (Or.inl q1.1)]; exact q1.2⟩
      have hO : cO M1 (TT M nx).2.2.2 nt lt (udI v 0 ((TT M nx).2.2.1 - 13)) l := by
        rw [q2, ← b6 (Or.inl q1.1), ← b5]
        exact cO_9 (cO_sk h)
      have hF : cF M M1 := by rw [q2]; exact cF_tr cF_sk cF_s9
      obtain ⟨r1, r2⟩ := rs_c hO hs
      rw [TT_F hF] at r2
      rw [e]
      exact ⟨cF_tr hF r1, r2⟩
