theorem st_end {M M1 M2 : Mem} {z1 z2 : Int} {n : Int} (hw : wf M) (hR : RR M) (h1 : z1 = -1 ∧ M1 = M ∧ ¬ (0 ≤ n ∧ n ≤ M 7 1) ∨ (0 ≤ n ∧ n ≤ M 7 1) ∧ z1 = M 7 1 ∧ M1 = sto M 7 1 n) (h2 : z2 = -1 ∧ M2 = M1 ∧ ¬ (0 ≤ n ∧ n ≤ M1 71 1) ∨ (0 ≤ n ∧ n ≤ M1 71 1) ∧ z2 = M1 71 1 ∧ M2 = sto M1 71 1 n) : z1 = z2 ∧ RR M2 := by
  have e8 := hR.2.1.2.2.1
  rcases h1 with ⟨a1, a2, a3⟩ | ⟨a1, a2, a3⟩
  · subst a2
    rcases h2 with ⟨b1, b2, b3⟩ | ⟨b1, b2, b3⟩
    · subst b2
      exact ⟨a1.trans b1.symm, hR⟩
    · exact absurd (by rw [e8]; exact b1) a3
  · have e1 : M1 71 1 = M 71 1 := by rw [a3, sto_ni _ _ _ _ (by decide)]
    rcases h2 with ⟨b1, b2, b3⟩ | ⟨b1, b2, b3⟩
    · exact absurd (by rw [e1, ← e8]; exact a1) b3
    · refine ⟨by rw [a2, b2, e1, e8], ?_⟩
      exact RR_set (fun i j => i = 7 ∧ j = 1 ∨ i = 71 ∧ j = 1) hR (fun i j hD _ _ _ => by have hD2 : ¬ (i = 7 ∧ j = 1 ∨ i = 71 ∧ j = 1) := hD; rw [b3, a3]; unfold sto; rw [if_neg (fun q => hD2 (by omega)), if_neg (fun q => hD2 (by omega))]) (Or.inl (fun j => by (try dsimp only); omega)) (Or.inl (fun j => by (try dsimp only); omega)) (Or.inl (fun j => by (try dsimp only); omega)) (Or.inl (by (try dsimp only); omega)) (Or.inl (by (try dsimp only); omega)) (Or.inl (by (try dsimp only); omega)) (Or.inr (by rw [b3, a3, sto_ni _ _ _ _ (by decide), sto_eq, sto_eq])) (Or.inl (by (try dsimp only); omega)) (Or.inl (fun j => by (try dsimp only); omega)) (Or.inl ⟨by (try dsimp only); omega, by (try dsimp only); omega, fun i j _ _ => by (try dsimp only); omega⟩) ((by (try dsimp only); omega)) (Or.inl (fun i j h => by (try dsimp only); omega))
theorem st_place {M M1 M2 : Mem} {z1 z2 : Int} {p : Int} (hw : wf M) (hR : RR M) (h1 : z1 = -1 ∧ M1 = M ∧ ¬ (0 ≤ p ∧ p < 26) ∨ (0 ≤ p ∧ p < 26) ∧ z1 = M 0 12 ∧ M1 = sto M 0 12 p) (h2 : z2 = -1 ∧ M2 = M1 ∧ ¬ (0 ≤ p ∧ p < 26) ∨ (0 ≤ p ∧ p < 26) ∧ z2 = M1 71 19 ∧ M2 = sto M1 71 19 p) : z1 = z2 ∧ RR M2 := by
  rcases h1 with ⟨a1, a2, a3⟩ | ⟨a1, a2, a3⟩
  · subst a2
    rcases h2 with ⟨b1, b2, b3⟩ | ⟨b1, b2, b3⟩
    · subst b2
      exact ⟨a1.trans b1.symm, hR⟩
    · exact absurd b1 a3
  · rcases h2 with ⟨b1, b2, b3⟩ | ⟨b1, b2, b3⟩
    · exact absurd a1 b3
    · have e1 : M1 71 19 = M 71 19 := by rw [a3, sto_ni _ _ _ _ (by decide)]
      refine ⟨by rw [a2, b2, e1, hR.1.2.2.2.2], ?_⟩
      exact RR_set (fun i j => i = 0 ∧ j = 12 ∨ i = 71 ∧ j = 19) hR (fun i j hD _ _ _ => by have hD2 : ¬ (i = 0 ∧ j = 12 ∨ i = 71 ∧ j = 19) := hD; rw [b3, a3]; unfold sto; rw [if_neg (fun q => hD2 (by omega)), if_neg (fun q => hD2 (by omega))]) (Or.inl (fun j => by (try dsimp only); omega)) (Or.inl (fun j => by (try dsimp only); omega)) (Or.inl (fun j => by (try dsimp only); omega)) (Or.inr (by rw [b3, a3, sto_ni _ _ _ _ (by decide), sto_eq, sto_eq])) (Or.inl (by (try dsimp only); omega)) (Or.inl (by (try dsimp only); omega)) (Or.inl (by (try dsimp only); omega)) (Or.inl (by (try dsimp only); omega)) (Or.inl (fun j => by (try dsimp only); omega)) (Or.inl ⟨by (try dsimp only); omega, by (try dsimp only); omega, fun i j _ _ => by (try dsimp only); omega⟩) ((by (try dsimp only); omega)) (Or.inl (fun i j h => by (try dsimp only); omega))
theorem st_forget {M M1 M2 : Mem} {z1 z2 : Int}  (hw : wf M) (hR : RR M) (h1 : z1 = M 0 13 ∧ M1 = sto M 0 13 0) (h2 : z2 = M1 71 28 ∧ M2 = sto M1 71 28 0) : z1 = z2 ∧ RR M2 := by
  obtain ⟨a2, a3⟩ := h1
  obtain ⟨b2, b3⟩ := h2
  have e1 : M1 71 28 = M 71 28 := by rw [a3, sto_ni _ _ _ _ (by decide)]
  refine ⟨by rw [a2, b2, e1, hR.2.1.1], ?_⟩
  exact RR_set (fun i j => i = 0 ∧ j = 13 ∨ i = 71 ∧ j = 28) hR (fun i j hD _ _ _ => by have hD2 : ¬ (i = 0 ∧ j = 13 ∨ i = 71 ∧ j = 28) := hD; rw [b3, a3]; unfold sto; rw [if_neg (fun q => hD2 (by omega)), if_neg (fun q => hD2 (by omega))]) (Or.inl (fun j => by (try dsimp only); omega)) (Or.inl (fun j => by (try dsimp only); omega)) (Or.inl (fun j => by (try dsimp only); omega)) (Or.inl (by (try dsimp only); omega)) (Or.inr (by rw [b3, a3, sto_ni _ _ _ _ (by decide), sto_eq, sto_eq])) (Or.inl (by (try dsimp only); omega)) (Or.inl (by (try dsimp only); omega)) (Or.inl (by (try dsimp only); omega)) (Or.inl (fun j => by (try dsimp only); omega)) (Or.inl ⟨by (try dsimp only); omega, by (try dsimp only); omega, fun i j _ _ => by (try dsimp only); omega⟩) ((by (try dsimp only); omega)) (Or.inl (fun i j h => by (try dsimp only); omega))
theorem st_light {M M1 M2 : Mem} {z1 z2 : Int} {sc ce v : Int} (hw : wf M) (hR : RR M) (h1 : z1 = -1 ∧ M1 = M ∧ ¬ (0 ≤ sc ∧ sc < 6 ∧ 0 ≤ ce ∧ ce < 64 ∧ 0 ≤ v ∧ v ≤ 9) ∨ (0 ≤ sc ∧ sc < 6 ∧ 0 ≤ ce ∧ ce < 64 ∧ 0 ≤ v ∧ v ≤ 9) ∧ z1 = M 12 (sc * 64 + ce).toNat ∧ M1 = sto M 12 (sc * 64 + ce).toNat v) (h2 : z2 = -1 ∧ M2 = M1 ∧ ¬ (0 ≤ sc ∧ sc < 6 ∧ 0 ≤ ce ∧ ce < 64 ∧ 0 ≤ v ∧ v ≤ 9) ∨ (0 ≤ sc ∧ sc < 6 ∧ 0 ≤ ce ∧ ce < 64 ∧ 0 ≤ v ∧ v ≤ 9) ∧ z2 = M1 80 (64 * sc + ce).toNat ∧ M2 = sto M1 80 (64 * sc + ce).toNat v) : z1 = z2 ∧ RR M2 := by
  rcases h1 with ⟨a1, a2, a3⟩ | ⟨a1, a2, a3⟩
  · subst a2
    rcases h2 with ⟨b1, b2, b3⟩ | ⟨b1, b2, b3⟩
    · subst b2
      exact ⟨a1.trans b1.symm, hR⟩
    · exact absurd b1 a3
  · rcases h2 with ⟨b1, b2, b3⟩ | ⟨b1, b2, b3⟩
    · exact absurd a1 b3
    · have e1 : M1 80 = M 80 := by rw [a3, sto_f _ _ _ _ (by decide)]
      have ei : (64 * sc + ce).toNat = (sc * 64 + ce).toNat := by omega
      refine ⟨by rw [a2, b2, e1, hR.1.1, ei], ?_⟩
      exact RR_set (fun i j => i = 12 ∨ i = 80) hR (fun i j hD _ _ _ => by have hD2 : ¬ (i = 12 ∨ i = 80) := hD; rw [b3, a3]; unfold sto; rw [if_neg (fun q => hD2 (by omega)), if_neg (fun q => hD2 (by omega))]) (Or.inr (by rw [b3, sto_row, sto_f _ _ _ _ (by decide), e1, a3, sto_row, ei, hR.1.1])) (Or.inl (fun j => by (try dsimp only); omega)) (Or.inl (fun j => by (try dsimp only); omega)) (Or.inl (by (try dsimp only); omega)) (Or.inl (by (try dsimp only); omega)) (Or.inl (by (try dsimp only); omega)) (Or.inl (by (try dsimp only); omega)) (Or.inl (by (try dsimp only); omega)) (Or.inl (fun j => by (try dsimp only); omega)) (Or.inl ⟨by (try dsimp only); omega, by (try dsimp only); omega, fun i j _ _ => by (try dsimp only); omega⟩) ((by (try dsimp only); omega)) (Or.inl (fun i j h => by (try dsimp only); omega))
theorem st_shift {M M1 M2 : Mem} {z1 z2 : Int} {fr to bb : Int} (hw : wf M) (hR : RR M) (h1 : z1 = -1 ∧ M1 = M ∧ ¬ (0 ≤ fr ∧ fr < 6 ∧ 0 ≤ to ∧ to < 6 ∧ 0 ≤ bb ∧ bb < 8) ∨ (0 ≤ fr ∧ fr < 6 ∧ 0 ≤ to ∧ to < 6 ∧ 0 ≤ bb ∧ bb < 8) ∧ z1 = (shK fr to bb (M 12) 64).2 ∧ offC M M1 12 13 ∧ M1 12 = (shK fr to bb (M 12) 64).1) (h2 : z2 = -1 ∧ M2 = M1 ∧ ¬ (0 ≤ fr ∧ fr < 6 ∧ 0 ≤ to ∧ to < 6 ∧ 0 ≤ bb ∧ bb < 8) ∨ (0 ≤ fr ∧ fr < 6 ∧ 0 ≤ to ∧ to < 6 ∧ 0 ≤ bb ∧ bb < 8) ∧ z2 = (shK fr to bb (M1 80) 64).2 ∧ offC M1 M2 80 81 ∧ M2 80 = (shK fr to bb (M1 80) 64).1) : z1 = z2 ∧ RR M2 := by
  rcases h1 with ⟨a1, a2, a3⟩ | ⟨a1, a2, a3⟩
  · subst a2
    rcases h2 with ⟨b1, b2, b3⟩ | ⟨b1, b2, b3⟩
    · subst b2
      exact ⟨a1.trans b1.symm, hR⟩
    · exact absurd b1 a3
  · rcases h2 with ⟨b1, b2, b3⟩ | ⟨b1, b2, b3⟩
    · exact absurd a1 b3
    · obtain ⟨a4, a5⟩ := a3
      obtain ⟨b4, b5⟩ := b3
      have e1 : M1 80 = M 80 := offC_f a4 (by omega)
      refine ⟨by rw [a2, b2, e1, hR.1.1], ?_⟩
      exact RR_set (fun i j => i = 12 ∨ i = 80) hR (fun i j hD _ _ _ => by have hD2 : ¬ (i = 12 ∨ i = 80) := hD; rw [b4 i j (by omega), a4 i j (by omega)]) (Or.inr (by rw [b5, offC_f b4 (by omega), a5, e1, hR.1.1])) (Or.inl (fun j => by (try dsimp only); omega)) (Or.inl (fun j => by (try dsimp only); omega)) (Or.inl (by (try dsimp only); omega)) (Or.inl (by (try dsimp only); omega)) (Or.inl (by (try dsimp only); omega)) (Or.inl (by (try dsimp only); omega)) (Or.inl (by (try dsimp only); omega)) (Or.inl (fun j => by (try dsimp only); omega)) (Or.inl ⟨by (try dsimp only); omega, by (try dsimp only); omega, fun i j _ _ => by (try dsimp only); omega⟩) ((by (try dsimp only); omega)) (Or.inl (fun i j h => by (try dsimp only); omega))
theorem st_kill {M M1 M2 : Mem} {z1 z2 : Int} {p i : Int} (hw : wf M) (hR : RR M) (h1 : z1 = -1 ∧ M1 = M ∧ ¬ (0 ≤ p ∧ p < 16) ∨ (0 ≤ p ∧ p < 16) ∧ z1 = (if (M 2 11).toNat.testBit p.toNat = true then 1 else 0) ∧ M1 = sto M 2 11 (kiS (M 2 11) p i)) (h2 : z2 = -1 ∧ M2 = M1 ∧ ¬ (0 ≤ p ∧ p < 16) ∨ (0 ≤ p ∧ p < 16) ∧ z2 = (if (M1 78 11).toNat.testBit p.toNat = true then 1 else 0) ∧ M2 = sto M1 78 11 (kiS (M1 78 11) p i)) : z1 = z2 ∧ RR M2 := by
  rcases h1 with ⟨a1, a2, a3⟩ | ⟨a1, a2, a3⟩
  · subst a2
    rcases h2 with ⟨b1, b2, b3⟩ | ⟨b1, b2, b3⟩
    · subst b2
      exact ⟨a1.trans b1.symm, hR⟩
    · exact absurd b1 a3
  · rcases h2 with ⟨b1, b2, b3⟩ | ⟨b1, b2, b3⟩
    · exact absurd a1 b3
    · have e1 : M1 78 = M 78 := by rw [a3, sto_f _ _ _ _ (by decide)]
      have e11 := hR.1.2.1 11 (by decide)
      refine ⟨by rw [a2, b2, e1, e11], ?_⟩
      exact RR_set (fun i j => i = 2 ∨ i = 78) hR (fun i j hD _ _ _ => by have hD2 : ¬ (i = 2 ∨ i = 78) := hD; rw [b3, sto_ni _ _ _ _ (by omega), a3, sto_ni _ _ _ _ (by omega)]) (Or.inl (fun j => by (try dsimp only); omega)) (Or.inr (⟨fun j hj => by rw [b3, sto_row, sto_f _ _ _ _ (by decide), e1, a3, sto_row, e11]; show (if j = 11 then _ else _) = (if j = 11 then _ else _); by_cases c : j = 11; (rw [if_pos c, if_pos c]); (rw [if_neg c, if_neg c]; exact hR.1.2.1 j hj), fun q hq => by rw [b3, sto_ni _ _ _ _ (show (3 : Nat) ≠ 78 by decide), sto_nj _ _ _ _ (show 12 + q ≠ 11 by omega), e1, a3, sto_ni _ _ _ _ (show (3 : Nat) ≠ 2 by decide)]; exact hR.1.2.2.1 q hq⟩)) (Or.inl (fun j => by (try dsimp only); omega)) (Or.inl (by (try dsimp only); omega)) (Or.inl (by (try dsimp only); omega)) (Or.inl (by (try dsimp only); omega)) (Or.inl (by (try dsimp only); omega)) (Or.inl (by (try dsimp only); omega)) (Or.inl (fun j => by (try dsimp only); omega)) (Or.inl ⟨by (try dsimp only); omega, by (try dsimp only); omega, fun i j _ _ => by (try dsimp only); omega⟩) ((by (try dsimp only); omega)) (Or.inl (fun i j h => by (try dsimp only); omega))
theorem st_rest {M M1 M2 : Mem} {z1 z2 : Int}  (hw : wf M) (hR : RR M) (h1 : z1 = ((bK (poB (M 13)) 16 : Nat) : Int) ∧ M1 = fillM M 13 16 0) (h2 : z2 = ((bK (poB (M1 85)) 16 : Nat) : Int) ∧ M2 = fillM M1 85 16 0) : z1 = z2 ∧ RR M2 := by
  obtain ⟨a2, a3⟩ := h1
  obtain ⟨b2, b3⟩ := h2
  have e1 : M1 85 = M 85 := by rw [a3, fillM_f _ _ _ _ (by decide)]
  refine ⟨by rw [a2, b2, e1, poB_cg hR.1.2.2.2.1], ?_⟩
  exact RR_set (fun i j => i = 13 ∨ i = 85) hR (fun i j hD _ _ _ => by have hD2 : ¬ (i = 13 ∨ i = 85) := hD; rw [b3, fillM_f _ _ _ _ (by omega), a3, fillM_f _ _ _ _ (by omega)]) (Or.inl (fun j => by (try dsimp only); omega)) (Or.inl (fun j => by (try dsimp only); omega)) (Or.inr (fun q hq => by rw [b3, fillM_lt _ _ _ _ hq, fillM_f _ _ _ _ (by decide), a3, fillM_lt _ _ _ _ hq])) (Or.inl (by (try dsimp only); omega)) (Or.inl (by (try dsimp only); omega)) (Or.inl (by (try dsimp only); omega)) (Or.inl (by (try dsimp only); omega)) (Or.inl (by (try dsimp only); omega)) (Or.inl (fun j => by (try dsimp only); omega)) (Or.inl ⟨by (try dsimp only); omega, by (try dsimp only); omega, fun i j _ _ => by (try dsimp only); omega⟩) ((by (try dsimp only); omega)) (Or.inl (fun i j h => by (try dsimp only); omega))
theorem ans_R {M : Mem} {sc pl p fe : Int} (hR : RR M) : R3 (keepN (keepM M sc pl p fe) sc pl p fe) := by
  obtain ⟨c1, c2, c3, c4, c5⟩ := hR.2.2.1
  have k1 : keepM M sc pl p fe 71 = M 71 := by
    unfold keepM
    rw [sto_f _ _ _ _ (by decide), sto_f _ _ _ _ (by decide), sto_f _ _ _ _ (by decide), sto_f _ _ _ _ (by decide), sto_f _ _ _ _ (by decide)]
  have k2 : ∀ i, 92 ≤ i → keepM M sc pl p fe i = M i := fun i hi => by
    unfold keepM
    rw [sto_f _ _ _ _ (by omega), sto_f _ _ _ _ (by omega), sto_f _ _ _ _ (by omega), sto_f _ _ _ _ (by omega), sto_f _ _ _ _ (by omega)]
  have k3 : ∀ i, 57 ≤ i → i ≤ 61 → keepN (keepM M sc pl p fe) sc pl p fe i = keepM M sc pl p fe i := fun i h h' => by
    unfold keepN
    rw [sto_f _ _ _ _ (by omega), sto_f _ _ _ _ (by omega), sto_f _ _ _ _ (by omega), sto_f _ _ _ _ (by omega), sto_f _ _ _ _ (by omega)]
  refine ⟨?_, ?_, ?_, ?_, ?_⟩
  · rw [k3 57 (by omega) (by omega)]
    unfold keepN
    rw [sto_eq, k1]
    unfold keepM
    rw [sto_eq, c1]
  · rw [k3 58 (by omega) (by omega)]
    unfold keepN
    rw [sto_f _ _ _ _ (by decide), sto_f _ _ _ _ (by decide), sto_f _ _ _ _ (by decide), sto_f _ _ _ _ (by decide), sto_row, k1, k2 92 (by omega), ← c2, ← c1]
    unfold keepM
    rw [sto_f _ _ _ _ (by decide), sto_f _ _ _ _ (by decide), sto_f _ _ _ _ (by decide), sto_f _ _ _ _ (by decide), sto_row]
  · rw [k3 59 (by omega) (by omega)]
    unfold keepN
    rw [sto_f _ _ _ _ (by decide), sto_f _ _ _ _ (by decide), sto_f _ _ _ _ (by decide), sto_row, sto_f _ _ _ _ (by decide), k1, k2 93 (by omega), ← c3, ← c1]
    unfold keepM
    rw [sto_f _ _ _ _ (by decide), sto_f _ _ _ _ (by decide), sto_f _ _ _ _ (by decide), sto_row, sto_f _ _ _ _ (by decide)]
  · rw [k3 60 (by omega) (by omega)]
    unfold keepN
    rw [sto_f _ _ _ _ (by decide), sto_f _ _ _ _ (by decide), sto_row, sto_f _ _ _ _ (by decide), sto_f _ _ _ _ (by decide), k1, k2 94 (by omega), ← c4, ← c1]
    unfold keepM
    rw [sto_f _ _ _ _ (by decide), sto_f _ _ _ _ (by decide), sto_row, sto_f _ _ _ _ (by decide), sto_f _ _ _ _ (by decide)]
  · rw [k3 61 (by omega) (by omega)]
    unfold keepN
    rw [sto_f _ _ _ _ (by decide), sto_row, sto_f _ _ _ _ (by decide), sto_f _ _ _ _ (by decide), sto_f _ _ _ _ (by decide), k1, k2 95 (by omega), ← c5, ← c1]
    unfold keepM
    rw [sto_f _ _ _ _ (by decide), sto_row, sto_f _ _ _ _ (by decide), sto_f _ _ _ _ (by decide), sto_f _ _ _ _ (by decide)]
theorem st_answer {M M1 M2 : Mem} {z1 z2 : Int} {sc pl p fe : Int} (hw : wf M) (hR : RR M) (h1 : z1 = -1 ∧ M1 = M ∧ ¬ (0 ≤ sc ∧ sc < 6 ∧ 0 ≤ pl ∧ pl < 26 ∧ 0 ≤ p ∧ p < 16) ∨ (0 ≤ sc ∧ sc < 6 ∧ 0 ≤ pl ∧ pl < 26 ∧ 0 ≤ p ∧ p < 16) ∧ z1 = -3 ∧ M1 = M ∧ 12 ≤ M 57 4 ∨ (0 ≤ sc ∧ sc < 6 ∧ 0 ≤ pl ∧ pl < 26 ∧ 0 ≤ p ∧ p < 16) ∧ z1 = M 57 4 + 1 ∧ M1 = keepM M sc pl p fe ∧ M 57 4 < 12) (h2 : z2 = -1 ∧ M2 = M1 ∧ ¬ (0 ≤ sc ∧ sc < 6 ∧ 0 ≤ pl ∧ pl < 26 ∧ 0 ≤ p ∧ p < 16) ∨ (0 ≤ sc ∧ sc < 6 ∧ 0 ≤ pl ∧ pl < 26 ∧ 0 ≤ p ∧ p < 16) ∧ z2 = -3 ∧ M2 = M1 ∧ 12 ≤ M1 71 37 ∨ (0 ≤ sc ∧ sc < 6 ∧ 0 ≤ pl ∧ pl < 26 ∧ 0 ≤ p ∧ p < 16) ∧ z2 = M1 71 37 + 1 ∧ M2 = keepN M1 sc pl p fe ∧ M1 71 37 < 12) : z1 = z2 ∧ RR M2 := by
  have e57 := hR.2.2.1.1
  rcases h1 with ⟨a1, a2, a3⟩ | ⟨a1, a2, a3, a4⟩ | ⟨a1, a2, a3, a4⟩
  · subst a2
    rcases h2 with ⟨b1, b2, b3⟩ | ⟨b1, b2, b3, b4⟩ | ⟨b1, b2, b3, b4⟩
    · subst b2
      exact ⟨a1.trans b1.symm, hR⟩
    · exact absurd b1 a3
    · exact absurd b1 a3
  · subst a3
    rcases h2 with ⟨b1, b2, b3⟩ | ⟨b1, b2, b3, b4⟩ | ⟨b1, b2, b3, b4⟩
    · exact absurd a1 b3
    · subst b3
      exact ⟨a2.trans b2.symm, hR⟩
    · omega
  · have k1 : M1 71 = M 71 := by
      rw [a3]
      unfold keepM
      rw [sto_f _ _ _ _ (by decide), sto_f _ _ _ _ (by decide), sto_f _ _ _ _ (by decide), sto_f _ _ _ _ (by decide), sto_f _ _ _ _ (by decide)]
    rcases h2 with ⟨b1, b2, b3⟩ | ⟨b1, b2, b3, b4⟩ | ⟨b1, b2, b3, b4⟩
    · exact absurd a1 b3
    · rw [k1] at b4
      omega
    · refine ⟨by rw [a2, b2, k1, e57], ?_⟩
      exact RR_set (fun i j => 57 ≤ i ∧ i ≤ 61 ∨ 92 ≤ i ∧ i ≤ 95 ∨ i = 71 ∧ j = 37) hR (fun i j hD _ _ _ => by have hD2 : ¬ (57 ≤ i ∧ i ≤ 61 ∨ 92 ≤ i ∧ i ≤ 95 ∨ i = 71 ∧ j = 37) := hD; rw [b3, a3]; unfold keepN keepM sto; rw [if_neg (by omega), if_neg (by omega), if_neg (by omega), if_neg (by omega), if_neg (by omega), if_neg (fun q => hD2 (by omega)), if_neg (by omega), if_neg (by omega), if_neg (by omega), if_neg (by omega)]) (Or.inl (fun j => by (try dsimp only); omega)) (Or.inl (fun j => by (try dsimp only); omega)) (Or.inl (fun j => by (try dsimp only); omega)) (Or.inl (by (try dsimp only); omega)) (Or.inl (by (try dsimp only); omega)) (Or.inl (by (try dsimp only); omega)) (Or.inl (by (try dsimp only); omega)) (Or.inl (by (try dsimp only); omega)) (Or.inl (fun j => by (try dsimp only); omega)) (Or.inr (by rw [b3, a3]; exact ans_R hR)) ((by (try dsimp only); omega)) (Or.inl (fun i j h => by (try dsimp only); omega))
