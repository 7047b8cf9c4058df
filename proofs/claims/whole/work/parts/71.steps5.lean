theorem fd_row {M : Mem} {c : Nat} {n : Int} {u : Int64} {k : Int} : fdM M c n u k c = fun b : Nat => if n ≤ (b : Int) ∧ (b : Int) < n + k then fbS u (56 - 8 * ((b : Int) - n)) else M c b := by
  funext b
  unfold fdM
  by_cases h : n ≤ (b : Int) ∧ (b : Int) < n + k
  · rw [if_pos ⟨rfl, h⟩, if_pos h]
  · rw [if_neg (fun q => h q.2), if_neg h]
theorem fd_f {M : Mem} {c : Nat} {n : Int} {u : Int64} {k : Int} {i : Nat} (h : i ≠ c) : fdM M c n u k i = M i := by
  funext b
  unfold fdM
  rw [if_neg (fun q => h q.1)]
theorem tnF_v {L v v' lst lst' td td' : Nat → Int} {s0 pl : Int} (h : ∀ j, j < 12 → v j = v' j) (hl : eqF lst lst') (ht : eqF td td') : ∀ k, eqF (tnF L v lst s0 pl td k) (tnF L v' lst' s0 pl td' k) := by
  intro k
  induction k with
  | zero => exact ht
  | succ k ih =>
    intro q hq
    show tiS (picF L v lst (tnF L v lst s0 pl td k) s0 pl q) (tnF L v lst s0 pl td k q) = tiS (picF L v' lst' (tnF L v' lst' s0 pl td' k) s0 pl q) (tnF L v' lst' s0 pl td' k q)
    rw [ih q hq, picF_v h hl ih q hq]
theorem st_feed {M M1 M2 : Mem} {z1 z2 : Int} {u : Int64} (hw : wf M) (hR : RR M) (h1 : z1 = -3 ∧ M1 = M ∧ 200 < M 7 1 + 8 ∨ z1 = M 7 1 + 8 ∧ M 7 1 + 8 ≤ 200 ∧ M1 = sto (fdM M 11 (M 7 1) u 8) 7 1 (M 7 1 + 8)) (h2 : z2 = -3 ∧ M2 = M1 ∧ 200 < M1 71 1 + 8 ∨ z2 = M1 71 1 + 8 ∧ M1 71 1 + 8 ≤ 200 ∧ M2 = sto (fdM M1 72 (M1 71 1) u 8) 71 1 (M1 71 1 + 8)) : z1 = z2 ∧ RR M2 := by
  have e8 := hR.2.1.2.2.1
  rcases h1 with ⟨a1, a2, a3⟩ | ⟨a1, a2, a3⟩
  · subst a2
    rcases h2 with ⟨b1, b2, b3⟩ | ⟨b1, b2, b3⟩
    · subst b2
      exact ⟨a1.trans b1.symm, hR⟩
    · omega
  · have e1 : M1 71 = M 71 := by rw [a3, sto_f _ _ _ _ (by decide), fd_f (by decide)]
    have e2 : M1 72 = M 72 := by rw [a3, sto_f _ _ _ _ (by decide), fd_f (by decide)]
    rcases h2 with ⟨b1, b2, b3⟩ | ⟨b1, b2, b3⟩
    · rw [e1] at b3
      omega
    · refine ⟨by rw [a1, b1, e1, e8], ?_⟩
      exact RR_set (fun i j => i = 11 ∨ i = 72 ∨ i = 7 ∧ j = 1 ∨ i = 71 ∧ j = 1) hR (fun i j hD _ _ _ => by have hD2 : ¬ (i = 11 ∨ i = 72 ∨ i = 7 ∧ j = 1 ∨ i = 71 ∧ j = 1) := hD; rw [b3, a3]; unfold sto; rw [if_neg (fun q => hD2 (by omega)), fd_f (by omega), if_neg (fun q => hD2 (by omega)), fd_f (by omega)]) (Or.inl (fun j => by (try dsimp only); omega)) (Or.inl (fun j => by (try dsimp only); omega)) (Or.inl (fun j => by (try dsimp only); omega)) (Or.inl (by (try dsimp only); omega)) (Or.inl (by (try dsimp only); omega)) (Or.inl (by (try dsimp only); omega)) (Or.inr (by rw [b3, sto_eq, sto_ni _ _ _ _ (by decide), fd_f (by decide), e1, a3, sto_eq, e8])) (Or.inl (by (try dsimp only); omega)) (Or.inr (by rw [b3, sto_f _ _ _ _ (by decide), sto_f _ _ _ _ (by decide), fd_f (show (11 : Nat) ≠ 72 by decide), fd_row, e1, e2, a3, sto_f _ _ _ _ (by decide), fd_row, e8, hR.2.1.2.2.2.2])) (Or.inl ⟨by (try dsimp only); omega, by (try dsimp only); omega, fun i j _ _ => by (try dsimp only); omega⟩) ((by (try dsimp only); omega)) (Or.inl (fun i j h => by (try dsimp only); omega))
theorem st_tenths {M M1 M2 : Mem} {z1 z2 : Int} {sc n : Int} (hw : wf M) (hR : RR M) (h1 : z1 = -1 ∧ M1 = M ∧ ¬ (0 ≤ sc ∧ sc < 6 ∧ 1 ≤ n ∧ n ≤ 20) ∨ (0 ≤ sc ∧ sc < 6 ∧ 1 ≤ n ∧ n ≤ 20) ∧ z1 = ((bK (poB (tnC M sc n.toNat)) 16 : Nat) : Int) ∧ M1 0 13 = min 999 (M 0 13 + n * M 2 9) ∧ eqF (M1 13) (tnC M sc n.toNat) ∧ ∀ i j, i ≠ 13 → (i < 16 ∨ 57 ≤ i) → ¬ (i = 0 ∧ j = 13) → M1 i j = M i j) (h2 : z2 = -1 ∧ M2 = M1 ∧ ¬ (0 ≤ sc ∧ sc < 6 ∧ 1 ≤ n ∧ n ≤ 20) ∨ (0 ≤ sc ∧ sc < 6 ∧ 1 ≤ n ∧ n ≤ 20) ∧ z2 = ((bK (poB (tnM M1 sc n.toNat)) 16 : Nat) : Int) ∧ M2 71 28 = min 999 (M1 71 28 + n * M1 78 9) ∧ eqF (M2 85) (tnM M1 sc n.toNat) ∧ ofS [81, 82, 83, 84, 85] M1 (sto M2 71 28 (M1 71 28))) : z1 = z2 ∧ RR M2 := by
  rcases h1 with ⟨a1, a2, a3⟩ | ⟨a1, a2, a3, a4, a5⟩
  · subst a2
    rcases h2 with ⟨b1, b2, b3⟩ | ⟨b1, b2, b3, b4, b5⟩
    · subst b2
      exact ⟨a1.trans b1.symm, hR⟩
    · exact absurd b1 a3
  · rcases h2 with ⟨b1, b2, b3⟩ | ⟨b1, b2, b3, b4, b5⟩
    · exact absurd a1 b3
    · have e71 : M1 71 = M 71 := funext fun j => a5 71 j (by decide) (by omega) (by omega)
      have e78 : M1 78 = M 78 := funext fun j => a5 78 j (by decide) (by omega) (by omega)
      have e80 : M1 80 = M 80 := funext fun j => a5 80 j (by decide) (by omega) (by omega)
      have e85 : M1 85 = M 85 := funext fun j => a5 85 j (by decide) (by omega) (by omega)
      have ev : mV M1 = mV M := by
        funext j
        unfold mV
        rw [e71, e78]
      have el : mL M1 = mL M := by
        funext j
        unfold mL
        rw [e78]
      have et : eqF (tnC M sc n.toNat) (tnM M1 sc n.toNat) := by
        unfold tnC tnM
        rw [ev, el, e80, e71, e85, hR.1.1, hR.1.2.2.2.2]
        exact tnF_v (RR_v hR) (RR_l hR) hR.1.2.2.2.1 n.toNat
      have f2 : ∀ i j, i ∉ [81, 82, 83, 84, 85] → ¬ (i = 71 ∧ (j = 24 ∨ j = 33 ∨ j = 34)) → ¬ (i = 71 ∧ j = 28) → M2 i j = M1 i j := fun i j x y w => by
        have := b5 i j x y
        unfold sto at this
        rw [if_neg w] at this
        exact this
      refine ⟨by rw [a2, b2, poB_cg et], ?_⟩
      exact RR_set (fun i j => i = 13 ∨ i = 85 ∨ i = 0 ∧ j = 13 ∨ i = 71 ∧ j = 28) hR (fun i j hD _ _ _ => by have hD2 : ¬ (i = 13 ∨ i = 85 ∨ i = 0 ∧ j = 13 ∨ i = 71 ∧ j = 28) := hD; rename_i k1 k2 k3; rw [f2 i j (by simp; unfold scK at k1; omega) (fun q => k2 ⟨q.1, by unfold scF; omega⟩) (by omega)]; unfold scK at k1; exact a5 i j (by omega) (by omega) (by omega)) (Or.inl (fun j => by (try dsimp only); omega)) (Or.inl (fun j => by (try dsimp only); omega)) (Or.inr (by intro q hq; rw [f2 13 q (by decide) (by omega) (by omega), a4 q hq, b4 q hq]; exact et q hq)) (Or.inl (by (try dsimp only); omega)) (Or.inr (by rw [b3, f2 0 13 (by decide) (by omega) (by omega), a3, e71, e78, hR.2.1.1, hR.1.2.1 9 (by decide)])) (Or.inl (by (try dsimp only); omega)) (Or.inl (by (try dsimp only); omega)) (Or.inl (by (try dsimp only); omega)) (Or.inl (fun j => by (try dsimp only); omega)) (Or.inl ⟨by (try dsimp only); omega, by (try dsimp only); omega, fun i j _ _ => by (try dsimp only); omega⟩) ((by (try dsimp only); omega)) (Or.inl (fun i j h => by (try dsimp only); omega))
theorem st_move {M M1 M2 : Mem} {z1 z2 : Int} {sc m o : Int} (hw : wf M) (hR : RR M) (h1 : z1 = -1 ∧ M1 = M ∧ ¬ (0 ≤ sc ∧ sc < 6 ∧ 0 ≤ m ∧ m < 6) ∨ (0 ≤ sc ∧ sc < 6 ∧ 0 ≤ m ∧ m < 6) ∧ z1 = ((upS (feC M sc (M 0 12)) (feC M sc (mvC M m)) ||| upS (feC M sc (mvC M m)) (feC M sc (M 0 12)) : Nat) : Int) ∧ offC (sto (sto M 0 12 (mvC M m)) 0 13 (min 999 (M 0 13 + (if o = 1 ∧ ¬ ((upS (feC M sc (M 0 12)) (feC M sc (mvC M m)) ||| upS (feC M sc (mvC M m)) (feC M sc (M 0 12)) : Nat) : Int) = 0 then M 2 7 else M 2 8)))) M1 16 57) (h2 : z2 = -1 ∧ M2 = M1 ∧ ¬ (0 ≤ sc ∧ sc < 6 ∧ 0 ≤ m ∧ m < 6) ∨ (0 ≤ sc ∧ sc < 6 ∧ 0 ≤ m ∧ m < 6) ∧ z2 = ((upS (feM M1 sc (M1 71 19)) (feM M1 sc (mvT (M1 71 19) m)) ||| upS (feM M1 sc (mvT (M1 71 19) m)) (feM M1 sc (M1 71 19)) : Nat) : Int) ∧ ofS [81, 82, 83, 84, 87] (sto (sto M1 71 19 (mvT (M1 71 19) m)) 71 28 (min 999 (M1 71 28 + (if o = 1 ∧ ¬ ((upS (feM M1 sc (M1 71 19)) (feM M1 sc (mvT (M1 71 19) m)) ||| upS (feM M1 sc (mvT (M1 71 19) m)) (feM M1 sc (M1 71 19)) : Nat) : Int) = 0 then M1 78 7 else M1 78 8)))) M2) : z1 = z2 ∧ RR M2 := by
  rcases h1 with ⟨a1, a2, a3⟩ | ⟨a1, a2, a3⟩
  · subst a2
    rcases h2 with ⟨b1, b2, b3⟩ | ⟨b1, b2, b3⟩
    · subst b2
      exact ⟨a1.trans b1.symm, hR⟩
    · exact absurd b1 a3
  · rcases h2 with ⟨b1, b2, b3⟩ | ⟨b1, b2, b3⟩
    · exact absurd a1 b3
    · have g : ∀ i j, (i < 16 ∨ 57 ≤ i) → ¬ (i = 0 ∧ (j = 12 ∨ j = 13)) → M1 i j = M i j := fun i j x y => by
        rw [a3 i j x]
        unfold sto
        rw [if_neg (by omega), if_neg (by omega)]
      have e71 : M1 71 = M 71 := funext fun j => g 71 j (by omega) (by omega)
      have e78 : M1 78 = M 78 := funext fun j => g 78 j (by omega) (by omega)
      have e80 : M1 80 = M 80 := funext fun j => g 80 j (by omega) (by omega)
      have e85 : M1 85 = M 85 := funext fun j => g 85 j (by omega) (by omega)
      have efe : feM M1 = feM M := by
        funext s pl
        unfold feM
        rw [e80, show mV M1 = mV M by funext j; unfold mV; rw [e71, e78], show mL M1 = mL M by funext j; unfold mL; rw [e78], show mD M1 = mD M by funext j; unfold mD; rw [e71, e85]]
      rw [efe, e71, e78, ← hR.1.2.2.2.2, ← hR.2.1.1, ← hR.1.2.1 7 (by decide), ← hR.1.2.1 8 (by decide)] at b3
      rw [efe, e71, ← hR.1.2.2.2.2] at b2
      have u1 : upS (feC M sc (M 0 12)) (feC M sc (mvC M m)) = upS (feM M sc (M 0 12)) (feM M sc (mvT (M 0 12) m)) := by
        unfold upS mvC
        exact gtB_cg (RR_fe hR sc (mvT (M 0 12) m)) (RR_fe hR sc (M 0 12))
      have u2 : upS (feC M sc (mvC M m)) (feC M sc (M 0 12)) = upS (feM M sc (mvT (M 0 12) m)) (feM M sc (M 0 12)) := by
        unfold upS mvC
        exact gtB_cg (RR_fe hR sc (M 0 12)) (RR_fe hR sc (mvT (M 0 12) m))
      rw [u1, u2] at a2 a3
      refine ⟨by rw [a2, b2], ?_⟩
      have f2 : ∀ i j, i ∉ [81, 82, 83, 84, 87] → ¬ (i = 71 ∧ (j = 24 ∨ j = 33 ∨ j = 34)) → ¬ (i = 71 ∧ (j = 19 ∨ j = 28)) → M2 i j = M1 i j := fun i j x y w => by
        rw [b3 i j x y]
        unfold sto
        rw [if_neg (by omega), if_neg (by omega)]
      exact RR_set (fun i j => i = 0 ∧ (j = 12 ∨ j = 13) ∨ i = 71 ∧ (j = 19 ∨ j = 28)) hR (fun i j hD _ _ _ => by have hD2 : ¬ (i = 0 ∧ (j = 12 ∨ j = 13) ∨ i = 71 ∧ (j = 19 ∨ j = 28)) := hD; rename_i k1 k2 k3; rw [f2 i j (by simp; unfold scK at k1; omega) (fun q => k2 ⟨q.1, by unfold scF; omega⟩) (by omega)]; unfold scK at k1; exact g i j (by omega) (by omega)) (Or.inl (fun j => by (try dsimp only); omega)) (Or.inl (fun j => by (try dsimp only); omega)) (Or.inl (fun j => by (try dsimp only); omega)) (Or.inr (by rw [f2 0 12 (by decide) (by omega) (by omega), a3 0 12 (by omega), b3 71 19 (by decide) (by omega), sto_nj _ _ _ _ (by decide), sto_eq, sto_nj _ _ _ _ (by decide), sto_eq]; rfl)) (Or.inr (by rw [f2 0 13 (by decide) (by omega) (by omega), a3 0 13 (by omega), b3 71 28 (by decide) (by omega), sto_eq, sto_eq])) (Or.inl (by (try dsimp only); omega)) (Or.inl (by (try dsimp only); omega)) (Or.inl (by (try dsimp only); omega)) (Or.inl (fun j => by (try dsimp only); omega)) (Or.inl ⟨by (try dsimp only); omega, by (try dsimp only); omega, fun i j _ _ => by (try dsimp only); omega⟩) ((by (try dsimp only); omega)) (Or.inl (fun i j h => by (try dsimp only); omega))
