theorem rp_c {M M' : Mem} {nx nt lt told z : Int} {v l : Nat → Int} (h : cO M nx nt lt v l) (hr : rpR M told M' z) : cF M M' ∧ z = (gGet (TT M) 0 15 nx).2.2.2 ∧ (¬ (gGet (TT M) 0 15 nx).1 = 0 ∧ cE M' (gGet (TT M) 0 15 nx).1 (gGet (TT M) 0 15 nx).2.1 ∨ (gGet (TT M) 0 15 nx).1 = 0 ∧ told.toNat.testBit (gGet (TT M) 0 15 nx).2.2.2.toNat = true ∧ cE M' 4 (TT M nx).1 ∨ (gGet (TT M) 0 15 nx).1 = 0 ∧ told.toNat.testBit (gGet (TT M) 0 15 nx).2.2.2.toNat = false ∧ cO M' (gGet (TT M) 0 15 nx).2.2.1 nt lt v l) := by
  obtain ⟨M1, h1, h2⟩ := hr
  obtain ⟨a1, a2, a3⟩ := rn_c h h1
  rcases h2 with ⟨b1, b2⟩ | ⟨b1, b2, b3⟩ | ⟨b1, b2, b3⟩
  · subst b2
    rcases a3 with ⟨c1, c2, -⟩ | ⟨c1, c2⟩
    · exact absurd c2.1 b1
    · exact ⟨a1, a2, Or.inl ⟨c1, c2⟩⟩
  · subst b3
    rcases a3 with ⟨c1, c2, -⟩ | ⟨c1, c2⟩
    · exact ⟨a1, a2, Or.inr (Or.inr ⟨c1, by rw [← a2]; exact b2, c2⟩)⟩
    · exact absurd (c2.1.symm.trans b1) c2.2.1
  · subst b3
    rcases a3 with ⟨c1, c2, c3⟩ | ⟨c1, c2⟩
    · refine ⟨cF_tr a1 cF_sk, a2, Or.inr (Or.inl ⟨c1, by rw [← a2]; exact b2, ?_⟩)⟩
      rw [← c3]
      exact cE_sk (by decide)
    · exact absurd (c2.1.symm.trans b1) c2.2.1
theorem dead_c {M Ma M' : Mem} {nx nt lt p : Int} {v l : Nat → Int} (h : cO M nx nt lt v l) (hr : rpR M (M 9 11) Ma p) (hs : rsR (sto Ma 9 11 (orP (M 9 11) p)) M') : cF M M' ∧ cP M' (gDead (TT M) nx nt lt v l) := by
  obtain ⟨a1, a2, a3⟩ := rp_c h hr
  have e9 : M 9 11 = v 11 := h.2.2.2.2.1 11 (by decide)
  unfold gDead
  rcases a3 with ⟨c1, c2⟩ | ⟨c1, c2, c3⟩ | ⟨c1, c2, c3⟩
  · rw [if_neg c1, rs_e (cE_9 c2) hs]
    exact ⟨cF_tr a1 cF_s9, cP_X (cE_9 c2)⟩
  · rw [if_pos c1, if_pos (by rw [← e9]; exact c2), rs_e (cE_9 c3) hs]
    exact ⟨cF_tr a1 cF_s9, cP_X (cE_9 c3)⟩
  · rw [if_pos c1, if_neg (by rw [← e9, c2]; decide)]
    have hO := cO_9 (k := 11) (x := orP (M 9 11) p) c3
    obtain ⟨r1, r2⟩ := rs_c hO hs
    rw [TT_F (cF_tr a1 cF_s9), a2, e9] at r2
    exact ⟨cF_tr (cF_tr a1 cF_s9) r1, r2⟩
theorem least_c {M M1 M' : Mem} {nx nt lt : Int} {v l : Nat → Int} (h : cO M nx nt lt v l) (hr : rtR M M1) (hs : rsR M1 M') : cF M M' ∧ cP M' (gLeast (TT M) nx nt lt v l) := by
  obtain ⟨Ma, M2, p, z, -, h1, h2, h3⟩ := hr
  subst h3
  obtain ⟨a1, a2, a3⟩ := rp_c h h1
  have e10 : M 7 10 = lt := h.2.2.2.1
  unfold gLeast
  have fa : cF M (sto Ma 7 10 (orP (Ma 7 10) p)) := cF_tr a1 (cF_s7 (by decide))
  rcases a3 with ⟨c1, c2⟩ | ⟨c1, c2, c3⟩ | ⟨c1, c2, c3⟩
  · obtain ⟨b1, b2⟩ := rn_e (cE_lt c2) h2
    subst b1
    rw [if_neg c1, rs_e (cE_10 (cE_lt c2)) hs]
    exact ⟨cF_tr fa cF_s10, cP_X (cE_10 (cE_lt c2))⟩
  · obtain ⟨b1, b2⟩ := rn_e (cE_lt c3) h2
    subst b1
    rw [if_pos c1, if_pos (by rw [← e10]; exact c2), rs_e (cE_10 (cE_lt c3)) hs]
    exact ⟨cF_tr fa cF_s10, cP_X (cE_10 (cE_lt c3))⟩
  · rw [if_pos c1, if_neg (by rw [← e10, c2]; decide)]
    have hO := cO_lt (x := orP (Ma 7 10) p) c3
    obtain ⟨b1, b2, b3⟩ := rn_c hO h2
    rw [TT_F fa] at b2 b3
    have e11 : Ma 7 10 = lt := c3.2.2.2.1
    rw [e11, a2] at b3
    unfold gLea2
    rcases b3 with ⟨d1, d2, -⟩ | ⟨d1, d2⟩
    · rw [if_pos d1]
      have hO2 := cO_10 (k := p.toNat) (x := z) d2
      obtain ⟨r1, r2⟩ := rs_c hO2 hs
      rw [TT_F (cF_tr (cF_tr fa b1) cF_s10), b2, a2] at r2
      exact ⟨cF_tr (cF_tr (cF_tr fa b1) cF_s10) r1, r2⟩
    · rw [if_neg d1, rs_e (cE_10 d2) hs]
      exact ⟨cF_tr (cF_tr fa b1) cF_s10, cP_X (cE_10 d2)⟩
theorem num_c {M Ma M' : Mem} {nx nt lt lo hi z : Int} {n : Nat} {v l : Nat → Int} (h : cO M nx nt lt v l) (hr : rnR M lo hi Ma z) (hs : rsR (sto Ma 9 n z) M') : cF M M' ∧ cP M' (gNum (TT M) lo hi n nx nt lt v l) := by
  obtain ⟨a1, a2, a3⟩ := rn_c h hr
  unfold gNum
  rcases a3 with ⟨c1, c2, -⟩ | ⟨c1, c2⟩
  · rw [if_pos c1]
    have hO := cO_9 (k := n) (x := z) c2
    obtain ⟨r1, r2⟩ := rs_c hO hs
    rw [TT_F (cF_tr a1 cF_s9), a2] at r2
    exact ⟨cF_tr (cF_tr a1 cF_s9) r1, r2⟩
  · rw [if_neg c1, rs_e (cE_9 c2) hs]
    exact ⟨cF_tr a1 cF_s9, cP_X (cE_9 c2)⟩
theorem rc_c {M M1 M' : Mem} {n nx nt lt : Int} {v l : Nat → Int} (h : cO M nx nt lt v l) (hr : rcR n M M1) (hs : rsR M1 M') : cF M M' ∧ cP M' (gBody (TT M) n nx nt lt v l) := by
  unfold gBody
  rcases hr with ⟨a, b⟩ | ⟨a, b⟩ | ⟨a, Ma, p, b, c⟩ | ⟨a, b⟩ | ⟨a, Ma, z, b, c⟩
  · rw [if_pos a]
    exact rw_c h b hs
  · subst b
    rw [if_neg (by omega), if_pos a]
    obtain ⟨r1, r2⟩ := rs_c (cO_9 (k := 5) (x := 1) h) hs
    rw [TT_F cF_s9] at r2
    exact ⟨cF_tr cF_s9 r1, r2⟩
  · subst c
    rw [if_neg (by omega), if_neg (by omega), if_pos a]
    exact dead_c h b hs
  · rw [if_neg (by omega), if_neg (by omega), if_neg (by omega), if_pos a]
    exact least_c h b hs
  · subst c
    rw [if_neg (by omega), if_neg (by omega), if_neg (by omega), if_neg (by omega)]
    exact num_c h b hs
theorem tk_step {M M2 : Mem} {nx nt lt : Int} {v l : Nat → Int} (h : cO M nx nt lt v l) (ht : tkR M M2) : cF M M2 ∧ ((TT M nx).2.1 = 4 ∧ cE M2 1 (TT M nx).1 ∨ ¬ (TT M nx).2.1 = 4 ∧ cO M2 (TT M nx).2.2.2 nt lt v l ∧ M2 7 6 = (TT M nx).2.1 ∧ ((TT M nx).2.1 = 1 → M2 7 7 = (TT M nx).2.2.1) ∧ M2 7 8 = (TT M nx).1) := by
  obtain ⟨nx', kd, va, st, wr, wa, h1, h2⟩ := ht
  subst h2
  obtain ⟨t1, t2⟩ := tk_c h h1
  refine ⟨cF_sk, ?_⟩
  rcases t2 with ⟨b1, b2, b3⟩ | ⟨b1, b2, b3, b4, b5, b6⟩
  · refine Or.inl ⟨b1, ?_⟩
    rw [b2, b3]
    exact cE_sk (by decide)
  · refine Or.inr ⟨b1, ?_, b4, fun c => b6 (Or.inl (b4.trans c)), t1⟩
    rw [← b5, b2]
    exact cO_sk h
theorem rl_c {M M2 M' : Mem} {nx nt lt : Int} {v l : Nat → Int} (h : cO M nx nt lt v l) (ht : tkR M M2) (h0 : M2 7 2 = 0) (hr : rlR M2 M') : cF M M' ∧ cP M' (gLine (TT M) nx nt lt v l) := by
  obtain ⟨f1, q⟩ := tk_step h ht
  rcases q with ⟨q1, q2⟩ | ⟨q1, q2, q3, q4, q5⟩
  · exact absurd (q2.1.symm.trans h0) (by decide)
  · unfold gLine
    rw [if_neg q1]
    rcases hr with ⟨a, b⟩ | ⟨a, b⟩
    · subst b
      rw [if_pos (fun c => a ⟨q3.trans c.1, by rw [q4 c.1]; exact c.2⟩)]
      refine ⟨cF_tr f1 cF_sk, cP_X ?_⟩
      rw [← q5]
      exact cE_sk (by decide)
    · have k1 : (TT M nx).2.1 = 1 := q3.symm.trans a.1
      have k2 := q4 k1
      rw [if_neg (fun c => c ⟨k1, by rw [← k2]; exact a.2⟩)]
      have e9 : M2 7 9 = nt := q2.2.2.1
      rcases b with ⟨b1, b2, b3⟩ | ⟨M0, M1, b1, b2, b3⟩
      · subst b3
        rw [if_pos ⟨by rw [← k2]; exact b1, by rw [← k2, ← e9]; exact b2⟩]
        refine ⟨cF_tr f1 cF_sk, cP_X ?_⟩
        rw [← q5]
        exact cE_sk (by decide)
      · rcases b1 with ⟨c1, c2⟩ | ⟨c1, c2, c3⟩
        · subst c2
          rw [if_neg (fun c => by have := c.1; omega), if_neg (by omega)]
          obtain ⟨r1, r2⟩ := rc_c q2 b2 b3
          rw [TT_F f1, k2] at r2
          exact ⟨cF_tr f1 r1, r2⟩
        · subst c3
          rw [if_neg (fun c => by have c2' := c.2; rw [← k2, ← e9, c2] at c2'; exact absurd c2' (by decide)), if_pos (by omega)]
          obtain ⟨r1, r2⟩ := rc_c (cO_nt (x := orP (M2 7 9) (M2 7 7)) q2) b2 b3
          rw [TT_F (cF_tr f1 (cF_s7 (by decide))), k2, e9] at r2
          exact ⟨cF_tr (cF_tr f1 (cF_s7 (by decide))) r1, r2⟩
/-- the reading line by line -/
def gIt (T : Int → Tk) : Nat → Ps
  | 0 => pO 0 0 0 (fun b => sAf.getD b 0) (fun _ => 1)
  | k + 1 => gLine T (gIt T k).2.2.1 (gIt T k).2.2.2.1 (gIt T k).2.2.2.2.1 (gIt T k).2.2.2.2.2.1 (gIt T k).2.2.2.2.2.2
abbrev cI (M : Mem) (s : Ps) : Prop := cO M s.2.2.1 s.2.2.2.1 s.2.2.2.2.1 s.2.2.2.2.2.1 s.2.2.2.2.2.2
def gFin (T : Int → Tk) (n : Nat) : Prop := (∀ i, i ≤ n → (gIt T i).1 = 0) ∧ (∀ i, i < n → ¬ (T (gIt T i).2.2.1).2.1 = 0) ∧ ((T (gIt T n).2.2.1).2.1 = 0 ∨ ¬ (gIt T (n + 1)).1 = 0)
theorem gFin_u {T : Int → Tk} {n n' : Nat} (h : gFin T n) (h' : gFin T n') : n = n' := by
  rcases (show n < n' ∨ n = n' ∨ n' < n by omega) with c | c | c
  · rcases h.2.2 with d | d
    · exact absurd d (h'.2.1 n c)
    · exact absurd (h'.1 (n + 1) c) d
  · exact c
  · rcases h'.2.2 with d | d
    · exact absurd d (h.2.1 n' c)
    · exact absurd (h.1 (n' + 1) c) d
theorem ln_c {M : Mem} (h0 : cI (rs0 M) (gIt (TT (rs0 M)) 0)) : ∀ k M1, lnK (rs0 M) k M1 → cF (rs0 M) M1 ∧ cI M1 (gIt (TT (rs0 M)) k) ∧ (∀ i, i ≤ k → (gIt (TT (rs0 M)) i).1 = 0) ∧ ∀ i, i < k → ¬ (TT (rs0 M) (gIt (TT (rs0 M)) i).2.2.1).2.1 = 0 := by
  intro k
  induction k with
  | zero =>
    intro M1 h
    have e : M1 = rs0 M := h
    subst e
    exact ⟨cF_rf, h0, fun i hi => by rw [show i = 0 by omega]; rfl, fun i hi => by omega⟩
  | succ k ih =>
    intro M1 h
    obtain ⟨Ma, Mb, a1, a2, a3, a4, a5, a6⟩ := h
    obtain ⟨i1, i2, i3, i4⟩ := ih Ma a1
    obtain ⟨r1, r2⟩ := rl_c i2 a2 a3 a5
    rw [TT_F i1] at r2
    have r3 : (gIt (TT (rs0 M)) (k + 1)).1 = 0 ∧ cI M1 (gIt (TT (rs0 M)) (k + 1)) := by
      rcases r2 with r2 | ⟨r2, r4⟩
      · exact r2
      · exact absurd (r4.1.symm.trans a6) r2
    refine ⟨cF_tr i1 r1, r3.2, fun i hi => ?_, fun i hi => ?_⟩
    · by_cases e : i = k + 1
      · rw [e]
        exact r3.1
      · exact i3 i (by omega)
    · by_cases e : i = k
      · rw [e]
        obtain ⟨-, q⟩ := tk_step i2 a2
        rw [TT_F i1] at q
        rcases q with ⟨q1, -⟩ | ⟨-, -, q3, -, -⟩
        · rw [q1]
          decide
        · rw [← q3]
          exact a4
      · exact i4 i (by omega)
