/-! ===== THE TEXT: tokens ===== -/
theorem scE_u {P : Int → Prop} {B : Nat → Int} {len s e e' : Int} (h : scE P B len s e) (h' : scE P B len s e') : e = e' := by
  obtain ⟨a1, a2, a3, a4⟩ := h
  obtain ⟨b1, b2, b3, b4⟩ := h'
  rcases (show e < e' ∨ e = e' ∨ e' < e by omega) with c | c | c
  · exact absurd ⟨by have := b2 (by omega); omega, b3 e a1 c⟩ a4
  · exact c
  · exact absurd ⟨by have := a2 (by omega); omega, a3 e' b1 c⟩ b4
theorem wdR_u {B : Nat → Int} {s e w w' : Int} (h : wdR B s e w) (h' : wdR B s e w') : w = w' := by
  obtain ⟨a1, a2, a3, a4⟩ := h
  obtain ⟨b1, b2, b3, b4⟩ := h'
  rcases (show w < w' ∨ w = w' ∨ w' < w by omega) with c | c | c
  · rcases a4 with a4 | a4
    · omega
    · exact absurd a4 (b3 w a1 c)
  · exact c
  · rcases b4 with b4 | b4
    · omega
    · exact absurd b4 (a3 w' b1 c)
/-- a token: where it begins, its kind (0 the end, 1 a name, 2 a number, 3 a stop, 4 none), its value, where it ends -/
abbrev Tk : Type := Int × Int × Int × Int
def tkT (B : Nat → Int) (len nx0 : Int) (t : Tk) : Prop := scE (fun c => c = 32) B len nx0 t.1 ∧ (len ≤ t.1 ∧ t.2 = (0, 0, t.1) ∨ t.1 < len ∧ ((∃ e w : Int, ltP (B t.1.toNat) ∧ scE ltP B len t.1 e ∧ wdR B t.1 e w ∧ t.2 = if 16 ≤ w then (4, 0, 0) else (1, w, e)) ∨ (∃ e : Int, fgP (B t.1.toNat) ∧ scE fgP B len t.1 e ∧ t.2 = if 2 < e - t.1 then (4, 0, 0) else (2, nuF B t.1 (e - t.1).toNat, e)) ∨ (B t.1.toNat = 59 ∧ t.2 = (3, 0, t.1 + 1)) ∨ ((¬ ltP (B t.1.toNat) ∧ ¬ fgP (B t.1.toNat) ∧ ¬ B t.1.toNat = 59) ∧ t.2 = (4, 0, 0))))
theorem tkT_u {B : Nat → Int} {len nx0 : Int} {t t' : Tk} (h : tkT B len nx0 t) (h' : tkT B len nx0 t') : t = t' := by
  obtain ⟨s1, q⟩ := h
  obtain ⟨s2, q'⟩ := h'
  have e1 := scE_u s1 s2
  obtain ⟨st, k⟩ := t
  obtain ⟨st', k'⟩ := t'
  have e2 : st = st' := e1
  subst e2
  refine congrArg (Prod.mk st) ?_
  rcases q with ⟨a, b⟩ | ⟨a, b⟩
  · rcases q' with ⟨a', b'⟩ | ⟨a', b'⟩
    · rw [show k = _ from b, show k' = _ from b']
    · have x1 : len ≤ st := a
      have x2 : st < len := a'
      omega
  · have x2 : st < len := a
    rcases q' with ⟨a', b'⟩ | ⟨a', b'⟩
    · have x1 : len ≤ st := a'
      omega
    · rcases b with ⟨e, w, c1, c2, c3, c4⟩ | ⟨e, c1, c2, c3⟩ | ⟨c1, c2⟩ | ⟨c1, c2⟩
      · have y : ltP (B st.toNat) := c1
        rcases b' with ⟨e', w', d1, d2, d3, d4⟩ | ⟨e', d1, d2, d3⟩ | ⟨d1, d2⟩ | ⟨d1, d2⟩
        · have z1 := scE_u c2 d2
          subst z1
          have z2 := wdR_u c3 d3
          subst z2
          rw [show k = _ from c4, show k' = _ from d4]
        · have y2 : fgP (B st.toNat) := d1
          unfold fgP at y2
          unfold ltP at y
          omega
        · have y2 : B st.toNat = 59 := d1
          unfold ltP at y
          omega
        · exact absurd y d1.1
      · have y : fgP (B st.toNat) := c1
        rcases b' with ⟨e', w', d1, d2, d3, d4⟩ | ⟨e', d1, d2, d3⟩ | ⟨d1, d2⟩ | ⟨d1, d2⟩
        · have y2 : ltP (B st.toNat) := d1
          unfold fgP at y
          unfold ltP at y2
          omega
        · have z1 := scE_u c2 d2
          subst z1
          rw [show k = _ from c3, show k' = _ from d3]
        · have y2 : B st.toNat = 59 := d1
          unfold fgP at y
          omega
        · exact absurd y d1.2.1
      · have y : B st.toNat = 59 := c1
        rcases b' with ⟨e', w', d1, d2, d3, d4⟩ | ⟨e', d1, d2, d3⟩ | ⟨d1, d2⟩ | ⟨d1, d2⟩
        · have y2 : ltP (B st.toNat) := d1
          unfold ltP at y2
          omega
        · have y2 : fgP (B st.toNat) := d1
          unfold fgP at y2
          omega
        · rw [show k = _ from c2, show k' = _ from d2]
        · exact absurd y d1.2.2
      · rcases b' with ⟨e', w', d1, d2, d3, d4⟩ | ⟨e', d1, d2, d3⟩ | ⟨d1, d2⟩ | ⟨d1, d2⟩
        · exact absurd d1 c1.1
        · exact absurd d1 c1.2.1
        · exact absurd d1 c1.2.2
        · rw [show k = _ from c2, show k' = _ from d2]
noncomputable def tkF (B : Nat → Int) (len nx0 : Int) : Tk := Classical.epsilon (fun t => tkT B len nx0 t)
theorem tkF_e {B : Nat → Int} {len nx0 : Int} {t : Tk} (h : tkT B len nx0 t) : tkF B len nx0 = t := tkT_u (Classical.epsilon_spec (p := fun t => tkT B len nx0 t) ⟨t, h⟩) h
/-- what the tape's head finds is the token -/
theorem tkV_F {B : Nat → Int} {len nx0 kd0 va0 wa0 nx kd va st wr wa : Int} (h : tkV B len nx0 kd0 va0 0 wa0 nx kd va st wr wa) : ∃ t : Tk, tkT B len nx0 t ∧ st = t.1 ∧ (t.2.1 = 4 ∧ wr = 1 ∧ wa = t.1 ∨ ¬ t.2.1 = 4 ∧ wr = 0 ∧ wa = wa0 ∧ kd = t.2.1 ∧ nx = t.2.2.2 ∧ (kd = 1 ∨ kd = 2 → va = t.2.2.1)) := by
  obtain ⟨s1, q⟩ := h
  rcases q with ⟨a, b, c, d, e, f⟩ | ⟨a, q⟩
  · exact ⟨(st, 0, 0, st), ⟨s1, Or.inl ⟨a, rfl⟩⟩, rfl, Or.inr ⟨by show ¬ (0 : Int) = 4; decide, e, f, c, b, fun h => by omega⟩⟩
  · rcases q with ⟨c1, c2, c3, c4, c5, c6⟩ | ⟨c1, c2, c3, c4, c5, c6⟩ | ⟨c1, c2, c3, c4, c5, c6⟩ | ⟨c1, c2, c3, c4, c5, c6⟩
    · by_cases g : 16 ≤ va
      · rw [if_pos g] at c5 c6
        exact ⟨(st, 4, 0, 0), ⟨s1, Or.inr ⟨a, Or.inl ⟨nx, va, c1, c2, c3, by rw [if_pos g]⟩⟩⟩, rfl, Or.inl ⟨rfl, c5, c6⟩⟩
      · rw [if_neg g] at c5 c6
        exact ⟨(st, 1, va, nx), ⟨s1, Or.inr ⟨a, Or.inl ⟨nx, va, c1, c2, c3, by rw [if_neg g]⟩⟩⟩, rfl, Or.inr ⟨by show ¬ (1 : Int) = 4; decide, c5, c6, c4, rfl, fun _ => rfl⟩⟩
    · by_cases g : 2 < nx - st
      · rw [if_pos g] at c5 c6
        exact ⟨(st, 4, 0, 0), ⟨s1, Or.inr ⟨a, Or.inr (Or.inl ⟨nx, c1, c2, by rw [if_pos g]⟩)⟩⟩, rfl, Or.inl ⟨rfl, c5, c6⟩⟩
      · rw [if_neg g] at c5 c6
        exact ⟨(st, 2, va, nx), ⟨s1, Or.inr ⟨a, Or.inr (Or.inl ⟨nx, c1, c2, by rw [if_neg g, c3]⟩)⟩⟩, rfl, Or.inr ⟨by show ¬ (2 : Int) = 4; decide, c5, c6, c4, rfl, fun _ => rfl⟩⟩
    · exact ⟨(st, 3, 0, st + 1), ⟨s1, Or.inr ⟨a, Or.inr (Or.inr (Or.inl ⟨c1, rfl⟩))⟩⟩, rfl, Or.inr ⟨by show ¬ (3 : Int) = 4; decide, c5, c6, c3, c2, fun h => by omega⟩⟩
    · exact ⟨(st, 4, 0, 0), ⟨s1, Or.inr ⟨a, Or.inr (Or.inr (Or.inr ⟨c1, rfl⟩))⟩⟩, rfl, Or.inl ⟨rfl, c5, c6⟩⟩
/-- the reference's head of the tape, its six fields at once -/
def nkM (M : Mem) (sp pl tk va wr wa : Int) : Mem := fun i j => if i = 71 then (if j = 5 then sp else if j = 6 then pl else if j = 7 then tk else if j = 8 then va else if j = 3 then wr else if j = 4 then wa else M 71 j) else M i j

theorem nk_f {M : Mem} {sp pl tk va wr wa : Int} {i : Nat} (h : i ≠ 71) : nkM M sp pl tk va wr wa i = M i := by
  funext j
  unfold nkM
  rw [if_neg h]
theorem nk_o {M : Mem} {sp pl tk va wr wa : Int} {j : Nat} (h : j < 3 ∨ 8 < j) : nkM M sp pl tk va wr wa 71 j = M 71 j := by
  unfold nkM
  rw [if_pos rfl, if_neg (by omega), if_neg (by omega), if_neg (by omega), if_neg (by omega), if_neg (by omega), if_neg (by omega)]
theorem nk_id {M : Mem} {sp pl tk va wr wa : Int} (h5 : sp = M 71 5) (h6 : pl = M 71 6) (h7 : tk = M 71 7) (h8 : va = M 71 8) (h3 : wr = M 71 3) (h4 : wa = M 71 4) : M = nkM M sp pl tk va wr wa := by
  funext i j
  unfold nkM
  by_cases h : i = 71
  · subst h
    rw [if_pos rfl]
    by_cases j5 : j = 5
    · rw [if_pos j5, j5, h5]
    · rw [if_neg j5]
      by_cases j6 : j = 6
      · rw [if_pos j6, j6, h6]
      · rw [if_neg j6]
        by_cases j7 : j = 7
        · rw [if_pos j7, j7, h7]
        · rw [if_neg j7]
          by_cases j8 : j = 8
          · rw [if_pos j8, j8, h8]
          · rw [if_neg j8]
            by_cases j3 : j = 3
            · rw [if_pos j3, j3, h3]
            · rw [if_neg j3]
              by_cases j4 : j = 4
              · rw [if_pos j4, j4, h4]
              · rw [if_neg j4]
  · rw [if_neg h]
theorem nk5 {M : Mem} {sp pl tk va wr wa v : Int} : sto (nkM M sp pl tk va wr wa) 71 5 v = nkM M v pl tk va wr wa := by
  funext i j
  unfold sto nkM
  by_cases hi : i = 71
  · subst hi
    by_cases hj : j = 5
    · subst hj
      rw [if_pos ⟨rfl, rfl⟩]
      rfl
    · rw [if_neg (fun q => hj q.2)]
      simp [hj]
  · rw [if_neg (fun q => hi q.1), if_neg hi, if_neg hi]
theorem nk6 {M : Mem} {sp pl tk va wr wa v : Int} : sto (nkM M sp pl tk va wr wa) 71 6 v = nkM M sp v tk va wr wa := by
  funext i j
  unfold sto nkM
  by_cases hi : i = 71
  · subst hi
    by_cases hj : j = 6
    · subst hj
      rw [if_pos ⟨rfl, rfl⟩]
      rfl
    · rw [if_neg (fun q => hj q.2)]
      simp [hj]
  · rw [if_neg (fun q => hi q.1), if_neg hi, if_neg hi]
theorem nk7 {M : Mem} {sp pl tk va wr wa v : Int} : sto (nkM M sp pl tk va wr wa) 71 7 v = nkM M sp pl v va wr wa := by
  funext i j
  unfold sto nkM
  by_cases hi : i = 71
  · subst hi
    by_cases hj : j = 7
    · subst hj
      rw [if_pos ⟨rfl, rfl⟩]
      rfl
    · rw [if_neg (fun q => hj q.2)]
      simp [hj]
  · rw [if_neg (fun q => hi q.1), if_neg hi, if_neg hi]
theorem nk8 {M : Mem} {sp pl tk va wr wa v : Int} : sto (nkM M sp pl tk va wr wa) 71 8 v = nkM M sp pl tk v wr wa := by
  funext i j
  unfold sto nkM
  by_cases hi : i = 71
  · subst hi
    by_cases hj : j = 8
    · subst hj
      rw [if_pos ⟨rfl, rfl⟩]
      rfl
    · rw [if_neg (fun q => hj q.2)]
      simp [hj]
  · rw [if_neg (fun q => hi q.1), if_neg hi, if_neg hi]
theorem nk3 {M : Mem} {sp pl tk va wr wa v : Int} : sto (nkM M sp pl tk va wr wa) 71 3 v = nkM M sp pl tk va v wa := by
  funext i j
  unfold sto nkM
  by_cases hi : i = 71
  · subst hi
    by_cases hj : j = 3
    · subst hj
      rw [if_pos ⟨rfl, rfl⟩]
      rfl
    · rw [if_neg (fun q => hj q.2)]
      simp [hj]
  · rw [if_neg (fun q => hi q.1), if_neg hi, if_neg hi]
theorem nk4 {M : Mem} {sp pl tk va wr wa v : Int} : sto (nkM M sp pl tk va wr wa) 71 4 v = nkM M sp pl tk va wr v := by
  funext i j
  unfold sto nkM
  by_cases hi : i = 71
  · subst hi
    by_cases hj : j = 4
    · subst hj
      rw [if_pos ⟨rfl, rfl⟩]
      rfl
    · rw [if_neg (fun q => hj q.2)]
      simp [hj]
  · rw [if_neg (fun q => hi q.1), if_neg hi, if_neg hi]
theorem nk_nk {M : Mem} {sp pl tk va wr wa sp' pl' tk' va' wr' wa' : Int} : nkM (nkM M sp pl tk va wr wa) sp' pl' tk' va' wr' wa' = nkM M sp' pl' tk' va' wr' wa' := by
  funext i j
  unfold nkM
  by_cases hi : i = 71
  · subst hi
    rw [if_pos rfl, if_pos rfl, if_pos rfl]
    by_cases h5 : j = 5
    · rw [if_pos h5, if_pos h5]
    · by_cases h6 : j = 6
      · simp [h6]
      · by_cases h7 : j = 7
        · simp [h7]
        · by_cases h8 : j = 8
          · simp [h8]
          · by_cases h3 : j = 3
            · simp [h3]
            · by_cases h4 : j = 4
              · simp [h4]
              · simp [h5, h6, h7, h8, h3, h4]
  · rw [if_neg hi, if_neg hi, if_neg hi]
