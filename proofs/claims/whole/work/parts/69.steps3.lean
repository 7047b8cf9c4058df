theorem ml_rc {ow le T h b : Int} (b0 : 0 ≤ b) (bh : b ≤ h) (hT : 1 ≤ T) : T ≤ mlS ow le h b ↔ rcK ow le T h b := by
  unfold mlS
  constructor
  · intro q
    by_cases c : 12 + 4 * (h - b) - b < 0
    · rw [if_pos c] at q
      omega
    · rw [if_neg c] at q
      have k : 0 ≤ mlB ow le h b ∧ mlB ow le h b ≤ b ∧ 2 * mlB ow le h b ≤ 12 + 4 * (h - b) - b := by
        unfold mlB
        split <;> omega
      refine ⟨mlB ow le h b, b - mlB ow le h b, by omega, by omega, by omega, bh, by omega, ?_⟩
      rw [Int.mul_comm ow, Int.mul_comm le]
      exact q
  · rintro ⟨o, l, p1, p2, p3, p4, p5, p6⟩
    rw [if_neg (by omega)]
    refine Int.le_trans p6 ?_
    have el : l = b - o := by omega
    subst el
    rw [Int.mul_comm ow, Int.mul_comm le]
    by_cases c : le < ow
    · have eB : mlB ow le h b = min b ((12 + 4 * (h - b) - b) / 2) := if_pos c
      have ho : o ≤ mlB ow le h b := by rw [eB]; omega
      generalize mlB ow le h b = O at ho
      have k := Int.mul_nonneg (show 0 ≤ O - o by omega) (show 0 ≤ ow - le by omega)
      rw [Int.sub_mul, Int.mul_sub, Int.mul_sub] at k
      rw [Int.sub_mul, Int.sub_mul]
      omega
    · have eB : mlB ow le h b = 0 := if_neg c
      rw [eB]
      have k := Int.mul_nonneg p1 (show 0 ≤ le - ow by omega)
      rw [Int.mul_sub] at k
      rw [Int.sub_mul, Int.sub_mul, Int.zero_mul]
      omega
theorem keep_90 {M M' : Mem} (h : offC M M' 90 92) : keep M M' := ⟨fun i j a _ _ => h i j (by unfold scK at a; omega), fun j _ => h 71 j (by omega), h 7 1 (by omega), h 7 2 (by omega)⟩
theorem st_lessons {M M1 M2 : Mem} {z1 z2 : Int} {w : Int} (hw : wf M) (hR : RR M) (h1 : M = M1 ∧ (z1 = -1 ∧ ¬ (0 ≤ w ∧ w < 2) ∨ (0 ≤ w ∧ w < 2) ∧ ((∃ h b : Int, 0 ≤ b ∧ b ≤ h ∧ h ≤ 60 ∧ M 2 10 ≤ mlS (M 2 7) (M 2 8) h b ∧ (∀ h' b' : Int, 0 ≤ b' → b' ≤ h' → h' < h → ¬ M 2 10 ≤ mlS (M 2 7) (M 2 8) h' b') ∧ (∀ b' : Int, 0 ≤ b' → b' < b → ¬ M 2 10 ≤ mlS (M 2 7) (M 2 8) h b') ∧ z1 = (if w = 0 then h else b)) ∨ z1 = -4 ∧ ∀ h' b' : Int, 0 ≤ b' → b' ≤ h' → h' ≤ 60 → ¬ M 2 10 ≤ mlS (M 2 7) (M 2 8) h' b'))) (h2 : z2 = -1 ∧ M2 = M1 ∧ ¬ (0 ≤ w ∧ w < 2) ∨ (0 ≤ w ∧ w < 2) ∧ offC M1 M2 90 92 ∧ ((∃ h b : Int, 1 ≤ h ∧ h ≤ 60 ∧ 0 ≤ b ∧ b ≤ 60 ∧ rcK (M1 78 7) (M1 78 8) (M1 78 10) h b ∧ (∀ h' b' : Int, 1 ≤ h' → h' < h → 0 ≤ b' → b' ≤ 60 → ¬ rcK (M1 78 7) (M1 78 8) (M1 78 10) h' b') ∧ (∀ b' : Int, 0 ≤ b' → b' < b → ¬ rcK (M1 78 7) (M1 78 8) (M1 78 10) h b') ∧ z2 = (if w = 0 then h else b)) ∨ z2 = -4 ∧ ∀ h' b' : Int, 1 ≤ h' → h' ≤ 60 → 0 ≤ b' → b' ≤ 60 → ¬ rcK (M1 78 7) (M1 78 8) (M1 78 10) h' b')) : z1 = z2 ∧ RR M2 := by
  obtain ⟨e, a⟩ := h1
  subst e
  have t1 : (1 : Int) ≤ M 78 10 := (hw 78 10).1
  rw [hR.1.2.1 7 (by decide), hR.1.2.1 8 (by decide), hR.1.2.1 10 (by decide)] at a
  rcases h2 with ⟨b1, b2, b3⟩ | ⟨b1, b2, b3⟩
  · subst b2
    rcases a with ⟨a1, a2⟩ | ⟨a1, a2⟩
    · exact ⟨a1.trans b1.symm, hR⟩
    · exact absurd a1 b3
  · refine ⟨?_, RR_keep hR (keep_90 b2)⟩
    rcases a with ⟨a1, a2⟩ | ⟨a1, a2⟩
    · exact absurd b1 a2
    · rcases a2 with ⟨h, b, c1, c2, c3, c4, c5, c6, c7⟩ | ⟨c1, c2⟩
      · have r0 := (ml_rc c1 c2 t1).mp c4
        have h1' : 1 ≤ h := by
          obtain ⟨o, l, p1, p2, p3, p4, p5, p6⟩ := r0
          rcases (show 1 ≤ h ∨ h = 0 by omega) with q | q
          · exact q
          · exfalso
            have eo : o = 0 := by omega
            have el : l = 0 := by omega
            rw [eo, el, Int.mul_zero, Int.mul_zero] at p6
            omega
        rcases b3 with ⟨h2, b2', d1, d2, d3, d4, d5, d6, d7, d8⟩ | ⟨d1, d2⟩
        · have r2 := d5
          obtain ⟨o, l, p1, p2, p3, p4, p5, p6⟩ := r2
          have eh : h = h2 := by
            rcases (show h < h2 ∨ h = h2 ∨ h2 < h by omega) with q | q | q
            · exact absurd r0 (d6 h b h1' q c1 (by omega))
            · exact q
            · exact absurd ((ml_rc d3 p4 t1).mpr d5) (c5 h2 b2' d3 p4 q)
          subst eh
          have eb : b = b2' := by
            rcases (show b < b2' ∨ b = b2' ∨ b2' < b by omega) with q | q | q
            · exact absurd r0 (d7 b c1 q)
            · exact q
            · exact absurd ((ml_rc d3 p4 t1).mpr d5) (c6 b2' d3 q)
          rw [c7, d8, eb]
        · exact absurd r0 (d2 h b h1' c3 c1 (by omega))
      · rcases b3 with ⟨h2, b2', d1, d2, d3, d4, d5, d6, d7, d8⟩ | ⟨d1, d2⟩
        · have r2 := d5
          obtain ⟨o, l, p1, p2, p3, p4, p5, p6⟩ := r2
          exact absurd ((ml_rc d3 p4 t1).mpr d5) (c2 h2 b2' d3 p4 d2)
        · rw [c1, d1]
theorem un_5 {M : Mem} (j : Nat) (hj : j < 12) : unM M 5 j = if j = 11 ∨ j = 5 then 0 else M 2 j := by
  unfold unM sto
  by_cases c5 : j = 5
  · rw [if_pos ⟨rfl, c5⟩, if_pos (Or.inr c5)]
  · rw [if_neg (fun q => c5 q.2)]
    by_cases c11 : j = 11
    · rw [if_pos ⟨rfl, c11⟩, if_pos (Or.inl c11)]
    · rw [if_neg (fun q => c11 q.2), if_neg (by omega), cpyM_f _ _ _ _ (by decide), cpyM_lt _ _ _ _ hj]
theorem un_6 {M : Mem} (q : Nat) (hq : q < 16) : unM M 6 q = M 3 q := by
  unfold unM
  rw [sto_ni _ _ _ _ (by decide), sto_ni _ _ _ _ (by decide), cpyM_lt _ _ _ _ hq]
theorem dm_v {M : Mem} (j : Nat) (hj : j < 12) : mV (dmM M) j = if j = 11 ∨ j = 5 then 0 else M 78 j := by
  have e27 : dmM M 71 27 = 1 := by
    unfold dmM
    rw [sto_nj _ _ _ _ (by decide), sto_eq]
  unfold mV
  by_cases c11 : j = 11
  · rw [if_pos ⟨c11, e27⟩, if_pos (Or.inl c11)]
  · rw [if_neg (fun q => c11 q.1)]
    unfold dmM
    rw [sto_ni _ _ _ _ (by decide), sto_ni _ _ _ _ (by decide)]
    by_cases c5 : j = 5
    · rw [c5, sto_eq, if_pos (Or.inr rfl)]
    · rw [sto_nj _ _ _ _ c5, if_neg (by omega)]
theorem dm_l {M : Mem} (q : Nat) : mL (dmM M) q = M 78 (12 + q) := by
  unfold mL dmM
  rw [sto_ni _ _ _ _ (by decide), sto_ni _ _ _ _ (by decide), sto_nj _ _ _ _ (by omega)]
theorem dm_d {M : Mem} (q : Nat) : mD (dmM M) q = 0 := by
  have e26 : dmM M 71 26 = 1 := by
    unfold dmM
    rw [sto_eq]
  unfold mD
  rw [if_pos e26]
theorem dead_P {M M1 : Mem} (hw : wf M) (hR : RR M) (e78 : M1 78 = M 78) (e80 : M1 80 = M 80) (e92 : M1 92 = M 92) (e93 : M1 93 = M 93) (e94 : M1 94 = M 94) (k : Nat) : dfP M k = dnP M1 k := by
  have h60 : (0 : Int) ≤ M 60 k ∧ M 60 k ≤ (15 : Int) := hw 60 k
  unfold dfP dnP feM
  rw [dmM_f (by decide) (by decide), e80, e92, e93, e94, ← hR.1.1, ← hR.2.2.1.2.1, ← hR.2.2.1.2.2.1, ← hR.2.2.1.2.2.2.1]
  refine picF_v (fun j hj => ?_) (fun q hq => ?_) (fun q hq => ?_) _ (by omega)
  · rw [un_5 j hj, dm_v j hj, e78]
    by_cases c : j = 11 ∨ j = 5
    · rw [if_pos c, if_pos c]
    · rw [if_neg c, if_neg c]
      exact hR.1.2.1 j hj
  · rw [un_6 q hq, dm_l, e78]
    exact hR.1.2.2.1 q hq
  · rw [dm_d]
    have h14 : (0 : Int) ≤ M 14 q ∧ M 14 q ≤ (0 : Int) := hw 14 q
    omega
theorem keep_un {M M' : Mem} (h : offC (unM M) M' 16 21) : keep M M' := by
  have f : ∀ i j, i ≠ 5 → i ≠ 6 → (i < 16 ∨ 21 ≤ i) → M' i j = M i j := fun i j a b c => by rw [h i j c, unM_o a b]
  exact ⟨fun i j a _ _ => f i j (by unfold scK at a; omega) (by unfold scK at a; omega) (by unfold scK at a; omega), fun j _ => f 71 j (by decide) (by decide) (by omega), f 7 1 (by decide) (by decide) (by omega), f 7 2 (by decide) (by decide) (by omega)⟩
theorem st_dead {M M1 M2 : Mem} {z1 z2 : Int}  (hw : wf M) (hR : RR M) (h1 : z1 = ((ndf (dms M (M 57 4).toNat) (dfl M (M 57 4).toNat) : Nat) : Int) ∧ offC (unM M) M1 16 21) (h2 : z2 = ((ndf (dnm M1 (M1 71 37).toNat) (dnl M1 (M1 71 37).toNat) : Nat) : Int) ∧ ofS [81, 82, 83, 84] M1 M2) : z1 = z2 ∧ RR M2 := by
  obtain ⟨a1, a2⟩ := h1
  obtain ⟨b1, b2⟩ := h2
  have kp := keep_un a2
  have r1 := RR_keep hR kp
  refine ⟨?_, RR_m r1 b2 (by decide)⟩
  have f : ∀ i, ¬ scK i → i ≠ 71 → i ≠ 7 → M1 i = M i := fun i x y z => keep_f kp x y z
  have e78 := f 78 (by unfold scK; omega) (by decide) (by decide)
  have e80 := f 80 (by unfold scK; omega) (by decide) (by decide)
  have e92 := f 92 (by unfold scK; omega) (by decide) (by decide)
  have e93 := f 93 (by unfold scK; omega) (by decide) (by decide)
  have e94 := f 94 (by unfold scK; omega) (by decide) (by decide)
  have e95 := f 95 (by unfold scK; omega) (by decide) (by decide)
  have e37 : M1 71 37 = M 57 4 := by rw [kp.2.1 37 (by unfold scF; omega)]; exact hR.2.2.1.1.symm
  have kl : ∀ k, dfl M k = dnl M1 k := by
    intro k
    induction k with
    | zero => rfl
    | succ k ih =>
      show (if M 61 k = 0 then dfl M k else dfl M k ||| 2 ^ (M 60 k).toNat) = (if M1 95 k = 0 then dnl M1 k else dnl M1 k ||| 2 ^ (M1 94 k).toNat)
      rw [ih, e95, e94, hR.2.2.1.2.2.2.1, hR.2.2.1.2.2.2.2]
  have km : ∀ k, dms M k = dnm M1 k := by
    intro k
    induction k with
    | zero => rfl
    | succ k ih =>
      show (if M 61 k = 0 ∧ 0 < dfP M k then dms M k ||| 2 ^ (M 60 k).toNat else dms M k) = (if M1 95 k = 0 ∧ 0 < dnP M1 k then dnm M1 k ||| 2 ^ (M1 94 k).toNat else dnm M1 k)
      rw [ih, e95, e94, hR.2.2.1.2.2.2.1, hR.2.2.1.2.2.2.2, dead_P hw hR e78 e80 e92 e93 e94 k]
  rw [a1, b1, e37, kl, km]
theorem RR_set {M M2 : Mem} (D : Nat → Nat → Prop) (hR : RR M) (hf : ∀ i j, ¬ D i j → ¬ scK i → ¬ (i = 71 ∧ scF j) → ¬ (i = 7 ∧ j ≠ 1 ∧ j ≠ 2) → M2 i j = M i j) (c1 : (∀ j, ¬ D 12 j ∧ ¬ D 80 j) ∨ M2 12 = M2 80) (c2 : (∀ j, ¬ D 2 j ∧ ¬ D 3 j ∧ ¬ D 78 j) ∨ (∀ j, j < 12 → M2 2 j = M2 78 j) ∧ ∀ q, q < 16 → M2 3 q = M2 78 (12 + q)) (c4 : (∀ j, ¬ D 13 j ∧ ¬ D 85 j) ∨ eqF (M2 13) (M2 85)) (c5 : (¬ D 0 12 ∧ ¬ D 71 19) ∨ M2 0 12 = M2 71 19) (c6 : (¬ D 0 13 ∧ ¬ D 71 28) ∨ M2 0 13 = M2 71 28) (c7 : (¬ D 0 14 ∧ ¬ D 71 45) ∨ M2 0 14 = M2 71 45) (c8 : (¬ D 7 1 ∧ ¬ D 71 1) ∨ M2 7 1 = M2 71 1) (c9 : (¬ D 7 2 ∧ ¬ D 71 2) ∨ M2 7 2 = M2 71 2) (c10 : (∀ j, ¬ D 11 j ∧ ¬ D 72 j) ∨ M2 11 = M2 72) (c11 : (¬ D 57 4 ∧ ¬ D 71 37 ∧ ∀ i j, 58 ≤ i → i ≤ 61 → ¬ D i j ∧ ¬ D (i + 34) j) ∨ R3 M2) (c16 : ¬ D 71 26 ∧ ¬ D 71 27) (c18 : (∀ i j, (63 ≤ i ∧ i ≤ 70 ∨ 96 ≤ i ∧ i ≤ 98) → ¬ D i j) ∨ ∀ k, k < 4 → shR M2 k) : RR M2 := by
  obtain ⟨⟨a1, a2, a3, a4, a5⟩, ⟨b1, b2, b3, b4, b5⟩, ⟨d1, d2, d3, d4, d5⟩, e1, e2, e3⟩ := hR
  have F : ∀ i j, ¬ D i j → ¬ scK i → i ≠ 71 → i ≠ 7 → M2 i j = M i j := fun i j x y z w => hf i j x y (fun q => z q.1) (fun q => w q.1)
  have G : ∀ j, ¬ D 71 j → ¬ scF j → M2 71 j = M 71 j := fun j x y => hf 71 j x (by unfold scK; omega) (fun q => y q.2) (fun q => by omega)
  have H : ∀ j, ¬ D 7 j → (j = 1 ∨ j = 2) → M2 7 j = M 7 j := fun j x y => hf 7 j x (by unfold scK; omega) (fun q => by omega) (fun q => by omega)
  refine ⟨⟨?_, ?_, ?_, ?_, ?_⟩, ⟨?_, ?_, ?_, ?_, ?_⟩, ?_, ?_, ?_, ?_⟩
  · rcases c1 with c | c
    · funext j
      rw [F 12 j (c j).1 (by unfold scK; omega) (by decide) (by decide), F 80 j (c j).2 (by unfold scK; omega) (by decide) (by decide), a1]
    · exact c
  · rcases c2 with c | c
    · intro j hj
      rw [F 2 j (c j).1 (by unfold scK; omega) (by decide) (by decide), F 78 j (c j).2.2 (by unfold scK; omega) (by decide) (by decide)]
      exact a2 j hj
    · exact c.1
  · rcases c2 with c | c
    · intro j hj
      rw [F 3 j (c j).2.1 (by unfold scK; omega) (by decide) (by decide), F 78 (12 + j) (c _).2.2 (by unfold scK; omega) (by decide) (by decide)]
      exact a3 j hj
    · exact c.2
  · rcases c4 with c | c
    · intro j hj
      rw [F 13 j (c j).1 (by unfold scK; omega) (by decide) (by decide), F 85 j (c j).2 (by unfold scK; omega) (by decide) (by decide)]
      exact a4 j hj
    · exact c
  · rcases c5 with c | c
    · rw [F 0 12 c.1 (by unfold scK; omega) (by decide) (by decide), G 19 c.2 (by unfold scF; omega)]
      exact a5
    · exact c
  · rcases c6 with c | c
    · rw [F 0 13 c.1 (by unfold scK; omega) (by decide) (by decide), G 28 c.2 (by unfold scF; omega)]
      exact b1
    · exact c
  · rcases c7 with c | c
    · rw [F 0 14 c.1 (by unfold scK; omega) (by decide) (by decide), G 45 c.2 (by unfold scF; omega)]
      exact b2
    · exact c
  · rcases c8 with c | c
    · rw [H 1 c.1 (by omega), G 1 c.2 (by unfold scF; omega)]
      exact b3
    · exact c
  · rcases c9 with c | c
    · rw [H 2 c.1 (by omega), G 2 c.2 (by unfold scF; omega)]
      exact b4
    · exact c
  · rcases c10 with c | c
    · funext j
      rw [F 11 j (c j).1 (by unfold scK; omega) (by decide) (by decide), F 72 j (c j).2 (by unfold scK; omega) (by decide) (by decide), b5]
    · exact c
  · rcases c11 with ⟨c, c', c''⟩ | c
    · refine ⟨?_, ?_, ?_, ?_, ?_⟩
      · rw [F 57 4 c (by unfold scK; omega) (by decide) (by decide), G 37 c' (by unfold scF; omega)]
        exact d1
      · funext j
        rw [F 58 j (c'' 58 j (by omega) (by omega)).1 (by unfold scK; omega) (by decide) (by decide), F 92 j (c'' 58 j (by omega) (by omega)).2 (by unfold scK; omega) (by decide) (by decide), d2]
      · funext j
        rw [F 59 j (c'' 59 j (by omega) (by omega)).1 (by unfold scK; omega) (by decide) (by decide), F 93 j (c'' 59 j (by omega) (by omega)).2 (by unfold scK; omega) (by decide) (by decide), d3]
      · funext j
        rw [F 60 j (c'' 60 j (by omega) (by omega)).1 (by unfold scK; omega) (by decide) (by decide), F 94 j (c'' 60 j (by omega) (by omega)).2 (by unfold scK; omega) (by decide) (by decide), d4]
      · funext j
        rw [F 61 j (c'' 61 j (by omega) (by omega)).1 (by unfold scK; omega) (by decide) (by decide), F 95 j (c'' 61 j (by omega) (by omega)).2 (by unfold scK; omega) (by decide) (by decide), d5]
    · exact c
  · rw [G 26 c16.1 (by unfold scF; omega)]
    exact e1
  · rw [G 27 c16.2 (by unfold scF; omega)]
    exact e2
  · rcases c18 with c | c
    · intro k hk
      have q := e3 k hk
      unfold shR mSz at q ⊢
      have g : ∀ i j, (63 ≤ i ∧ i ≤ 70 ∨ 96 ≤ i ∧ i ≤ 98) → M2 i j = M i j := fun i j hi => F i j (c i j hi) (by unfold scK; omega) (by omega) (by omega)
      rw [g (63 + 2 * k) 1 (by omega), g (63 + 2 * k) 2 (by omega), g 96 k (by omega), g 97 k (by omega)]
      refine ⟨q.1, q.2.1, fun j hj => ?_⟩
      rw [g (63 + 2 * k + 1) j (by omega), g 98 _ (by omega)]
      exact q.2.2 j hj
    · exact c
