theorem fiR_f {M : Mem} {c : Nat} {lo n v : Int} {i : Nat} (h : i ≠ c) : fiR M c lo n v i = M i := by
  funext b
  unfold fiR
  rw [if_neg (fun q => h q.1)]
theorem mSz_n {M : Mem} {k : Nat} (h : ¬ M 96 k = -4) : mSz M k = M 97 k := if_neg h
theorem mSz_y {M : Mem} {k : Nat} (h : M 96 k = -4) : mSz M k = -1 := if_pos h
theorem sheet_R {M : Mem} {k la n : Int} (hR : RR M) (k0 : 0 ≤ k) (k4 : k < 4) (l0 : 0 ≤ la) (n0 : 0 ≤ n) : ∀ q, q < 4 → shR (fiR (sto (sto (sto (sto (fillM M (63 + 2 * k.toNat + 1) 64 0) (63 + 2 * k.toNat) 2 la) (63 + 2 * k.toNat) 1 n) 96 k.toNat la) 97 k.toNat n) 98 (64 * k) 64 0) q := by
  intro q hq
  have h := hR.2.2.2.2.2 q hq
  have f96 : ∀ q, fiR (sto (sto (sto (sto (fillM M (63 + 2 * k.toNat + 1) 64 0) (63 + 2 * k.toNat) 2 la) (63 + 2 * k.toNat) 1 n) 96 k.toNat la) 97 k.toNat n) 98 (64 * k) 64 0 96 q = if q = k.toNat then la else M 96 q := fun q => by
    rw [fiR_f (by decide), sto_ni _ _ _ _ (by decide)]
    unfold sto
    by_cases c : q = k.toNat
    · rw [if_pos ⟨rfl, c⟩, if_pos c]
    · rw [if_neg (fun w => c w.2), if_neg c, if_neg (by omega), if_neg (by omega), fillM_f _ _ _ _ (by omega)]
  have f97 : ∀ q, fiR (sto (sto (sto (sto (fillM M (63 + 2 * k.toNat + 1) 64 0) (63 + 2 * k.toNat) 2 la) (63 + 2 * k.toNat) 1 n) 96 k.toNat la) 97 k.toNat n) 98 (64 * k) 64 0 97 q = if q = k.toNat then n else M 97 q := fun q => by
    rw [fiR_f (by decide)]
    unfold sto
    by_cases c : q = k.toNat
    · rw [if_pos ⟨rfl, c⟩, if_pos c]
    · rw [if_neg (fun w => c w.2), if_neg c, if_neg (by omega), if_neg (by omega), if_neg (by omega), fillM_f _ _ _ _ (by omega)]
  have f98 : ∀ j, fiR (sto (sto (sto (sto (fillM M (63 + 2 * k.toNat + 1) 64 0) (63 + 2 * k.toNat) 2 la) (63 + 2 * k.toNat) 1 n) 96 k.toNat la) 97 k.toNat n) 98 (64 * k) 64 0 98 j = if 64 * k ≤ (j : Int) ∧ (j : Int) < 64 * k + 64 then 0 else M 98 j := fun j => by
    unfold fiR
    by_cases c : 64 * k ≤ (j : Int) ∧ (j : Int) < 64 * k + 64
    · rw [if_pos ⟨rfl, c⟩, if_pos c]
    · rw [if_neg (fun w => c w.2), if_neg c, sto_ni _ _ _ _ (by decide), sto_ni _ _ _ _ (by decide), sto_ni _ _ _ _ (by omega), sto_ni _ _ _ _ (by omega), fillM_f _ _ _ _ (by omega)]
  have fc : ∀ i j, 63 ≤ i → i ≤ 70 → fiR (sto (sto (sto (sto (fillM M (63 + 2 * k.toNat + 1) 64 0) (63 + 2 * k.toNat) 2 la) (63 + 2 * k.toNat) 1 n) 96 k.toNat la) 97 k.toNat n) 98 (64 * k) 64 0 i j = if i = 63 + 2 * k.toNat ∧ j = 1 then n else if i = 63 + 2 * k.toNat ∧ j = 2 then la else if i = 63 + 2 * k.toNat + 1 ∧ j < 64 then 0 else M i j := fun i j x y => by
    rw [fiR_f (by omega), sto_ni _ _ _ _ (by omega), sto_ni _ _ _ _ (by omega)]
    rfl
  unfold shR mSz
  rw [fc (63 + 2 * q) 1 (by omega) (by omega), fc (63 + 2 * q) 2 (by omega) (by omega), f96, f97]
  by_cases c : q = k.toNat
  · subst c
    rw [if_pos ⟨rfl, rfl⟩, if_pos rfl, if_pos rfl, if_neg (by omega)]
    refine ⟨rfl, fun _ => ?_, fun j hj => ?_⟩
    · rw [if_neg (by omega), if_pos ⟨rfl, rfl⟩]
    · rw [fc _ _ (by omega) (by omega), f98, if_neg (by omega), if_neg (by omega), if_pos ⟨rfl, hj⟩, if_pos (by omega)]
  · rw [if_neg (by omega), if_neg c, if_neg c, if_neg (by omega), if_neg (by omega), if_neg (by omega), if_neg (by omega)]
    refine ⟨h.1, h.2.1, fun j hj => ?_⟩
    rw [fc _ _ (by omega) (by omega), f98, if_neg (by omega), if_neg (by omega), if_neg (by omega), if_neg (by omega)]
    exact h.2.2 j hj
theorem lay_R {M : Mem} {k i x : Int} (hw : wf M) (hR : RR M) (k0 : 0 ≤ k) (k4 : k < 4) (i0 : 0 ≤ i) (i1 : i < 64) : ∀ q, q < 4 → shR (sto (sto M (63 + 2 * k.toNat + 1) i.toNat x) 98 (64 * k + i).toNat x) q := by
  intro q hq
  have h := hR.2.2.2.2.2 q hq
  unfold shR mSz at h ⊢
  rw [sto_ni _ _ _ _ (show 63 + 2 * q ≠ 98 by omega), sto_ni _ _ _ _ (show 63 + 2 * q ≠ 98 by omega), sto_ni _ _ _ _ (show 63 + 2 * q ≠ 63 + 2 * k.toNat + 1 by omega), sto_ni _ _ _ _ (show 63 + 2 * q ≠ 63 + 2 * k.toNat + 1 by omega), sto_ni _ _ _ _ (show (96 : Nat) ≠ 98 by decide), sto_ni _ _ _ _ (show (96 : Nat) ≠ 63 + 2 * k.toNat + 1 by omega), sto_ni _ _ _ _ (show (97 : Nat) ≠ 98 by decide), sto_ni _ _ _ _ (show (97 : Nat) ≠ 63 + 2 * k.toNat + 1 by omega)]
  refine ⟨h.1, h.2.1, fun j hj => ?_⟩
  rw [sto_ni _ _ _ _ (show 63 + 2 * q + 1 ≠ 98 by omega)]
  unfold sto
  by_cases c : 63 + 2 * q + 1 = 63 + 2 * k.toNat + 1 ∧ j = i.toNat
  · rw [if_pos c, if_pos ⟨rfl, by omega⟩]
  · rw [if_neg c, if_neg (fun w => c ⟨by omega, by omega⟩), if_neg (by omega)]
    exact h.2.2 j hj
theorem st_sheet {M M1 M2 : Mem} {z1 z2 : Int} {k la n : Int} (hw : wf M) (hR : RR M) (h1 : z1 = -1 ∧ M1 = M ∧ ¬ (0 ≤ k ∧ k < 4 ∧ 0 ≤ la ∧ la < 3 ∧ n ≤ 64) ∨ (0 ≤ k ∧ k < 4 ∧ 0 ≤ la ∧ la < 3 ∧ n ≤ 64) ∧ n < 0 ∧ z1 = -14 ∧ M1 = M ∨ (0 ≤ k ∧ k < 4 ∧ 0 ≤ la ∧ la < 3 ∧ n ≤ 64) ∧ 0 ≤ n ∧ z1 = 1 ∧ M1 = sto (sto (fillM M (63 + 2 * k.toNat + 1) 64 0) (63 + 2 * k.toNat) 2 la) (63 + 2 * k.toNat) 1 n) (h2 : z2 = -1 ∧ M2 = M1 ∧ ¬ (0 ≤ k ∧ k < 4 ∧ 0 ≤ la ∧ la < 3 ∧ n ≤ 64) ∨ (0 ≤ k ∧ k < 4 ∧ 0 ≤ la ∧ la < 3 ∧ n ≤ 64) ∧ n < 0 ∧ z2 = -14 ∧ M2 = M1 ∨ (0 ≤ k ∧ k < 4 ∧ 0 ≤ la ∧ la < 3 ∧ n ≤ 64) ∧ 0 ≤ n ∧ z2 = 1 ∧ M2 = fiR (sto (sto M1 96 k.toNat la) 97 k.toNat n) 98 (64 * k) 64 0) : z1 = z2 ∧ RR M2 := by
  rcases h1 with ⟨a1, a2, a3⟩ | ⟨a1, a2, a3, a4⟩ | ⟨a1, a2, a3, a4⟩
  · subst a2
    rcases h2 with ⟨b1, b2, b3⟩ | ⟨b1, b2, b3, b4⟩ | ⟨b1, b2, b3, b4⟩
    · subst b2
      exact ⟨a1.trans b1.symm, hR⟩
    · exact absurd b1 a3
    · exact absurd b1 a3
  · subst a4
    rcases h2 with ⟨b1, b2, b3⟩ | ⟨b1, b2, b3, b4⟩ | ⟨b1, b2, b3, b4⟩
    · exact absurd a1 b3
    · subst b4
      exact ⟨a3.trans b3.symm, hR⟩
    · omega
  · rcases h2 with ⟨b1, b2, b3⟩ | ⟨b1, b2, b3, b4⟩ | ⟨b1, b2, b3, b4⟩
    · exact absurd a1 b3
    · omega
    · refine ⟨a3.trans b3.symm, ?_⟩
      exact RR_set (fun i j => 63 ≤ i ∧ i ≤ 70 ∨ 96 ≤ i ∧ i ≤ 98) hR (fun i j hD _ _ _ => by have hD2 : ¬ (63 ≤ i ∧ i ≤ 70 ∨ 96 ≤ i ∧ i ≤ 98) := hD; rw [b4, fiR_f (by omega), sto_ni _ _ _ _ (by omega), sto_ni _ _ _ _ (by omega), a4, sto_ni _ _ _ _ (by omega), sto_ni _ _ _ _ (by omega), fillM_f _ _ _ _ (by omega)]) (Or.inl (fun j => by (try dsimp only); omega)) (Or.inl (fun j => by (try dsimp only); omega)) (Or.inl (fun j => by (try dsimp only); omega)) (Or.inl (by (try dsimp only); omega)) (Or.inl (by (try dsimp only); omega)) (Or.inl (by (try dsimp only); omega)) (Or.inl (by (try dsimp only); omega)) (Or.inl (by (try dsimp only); omega)) (Or.inl (fun j => by (try dsimp only); omega)) (Or.inl ⟨by (try dsimp only); omega, by (try dsimp only); omega, fun i j _ _ => by (try dsimp only); omega⟩) ((by (try dsimp only); omega)) (Or.inr (by rw [b4, a4]; exact sheet_R hR a1.1 a1.2.1 a1.2.2.1 a2))
theorem st_lay {M M1 M2 : Mem} {z1 z2 : Int} {k i v : Int} (hw : wf M) (hR : RR M) (h1 : z1 = -1 ∧ M1 = M ∧ ¬ (0 ≤ k ∧ k < 4) ∨ (0 ≤ k ∧ k < 4) ∧ M1 = M ∧ (z1 = -11 ∧ M (63 + 2 * k.toNat) 1 < 0 ∨ z1 = -12 ∧ 0 ≤ M (63 + 2 * k.toNat) 1 ∧ (i < 0 ∨ M (63 + 2 * k.toNat) 1 ≤ i)) ∨ (0 ≤ k ∧ k < 4) ∧ z1 = 1 ∧ 0 ≤ M (63 + 2 * k.toNat) 1 ∧ 0 ≤ i ∧ i < M (63 + 2 * k.toNat) 1 ∧ M1 = sto M (63 + 2 * k.toNat + 1) i.toNat (putS (M (63 + 2 * k.toNat) 2) v)) (h2 : z2 = -1 ∧ M2 = M1 ∧ ¬ (0 ≤ k ∧ k < 4) ∨ (0 ≤ k ∧ k < 4) ∧ M2 = M1 ∧ (z2 = -11 ∧ M1 96 k.toNat = -4 ∨ z2 = -12 ∧ ¬ M1 96 k.toNat = -4 ∧ (i < 0 ∨ M1 97 k.toNat ≤ i)) ∨ (0 ≤ k ∧ k < 4) ∧ z2 = 1 ∧ ¬ M1 96 k.toNat = -4 ∧ 0 ≤ i ∧ i < M1 97 k.toNat ∧ M2 = sto M1 98 (64 * k + i).toNat (putS (M1 96 k.toNat) v)) : z1 = z2 ∧ RR M2 := by
  rcases h1 with ⟨a1, a2, a3⟩ | ⟨a1, a2, a3⟩ | ⟨a1, a2, a3, a4, a5, a6⟩
  · subst a2
    rcases h2 with ⟨b1, b2, b3⟩ | ⟨b1, b2, b3⟩ | ⟨b1, b2, b3, b4, b5, b6⟩
    · subst b2
      exact ⟨a1.trans b1.symm, hR⟩
    · exact absurd b1 a3
    · exact absurd b1 a3
  · subst a2
    have s1 := (hR.2.2.2.2.2 k.toNat (by omega)).1
    have l97 : (0 : Int) ≤ M1 97 k.toNat := (hw 97 _).1
    rw [s1] at a3
    rcases h2 with ⟨b1, b2, b3⟩ | ⟨b1, b2, b3⟩ | ⟨b1, b2, b3, b4, b5, b6⟩
    · exact absurd a1 b3
    · subst b2
      refine ⟨?_, hR⟩
      rcases b3 with ⟨c1, c2⟩ | ⟨c1, c2, c3⟩
      · rw [mSz_y c2] at a3
        omega
      · rw [mSz_n c2] at a3
        omega
    · rw [mSz_n b3] at a3
      omega
  · have s1 := hR.2.2.2.2.2 k.toNat (by omega)
    rw [s1.1] at a3 a5
    have n4 : ¬ M 96 k.toNat = -4 := fun q => by
      rw [mSz_y q] at a3
      omega
    rw [mSz_n n4] at a3 a5
    have e96 : M1 96 = M 96 := by rw [a6, sto_f _ _ _ _ (by omega)]
    have e97 : M1 97 = M 97 := by rw [a6, sto_f _ _ _ _ (by omega)]
    rw [e96, e97] at h2
    rcases h2 with ⟨b1, b2, b3⟩ | ⟨b1, b2, b3⟩ | ⟨b1, b2, b3, b4, b5, b6⟩
    · exact absurd a1 b3
    · exfalso
      rcases b3 with ⟨c1, c2⟩ | ⟨c1, c2, c3⟩
      · exact n4 c2
      · omega
    · refine ⟨a2.trans b2.symm, ?_⟩
      exact RR_set (fun i j => 63 ≤ i ∧ i ≤ 70 ∨ 96 ≤ i ∧ i ≤ 98) hR (fun i j hD _ _ _ => by have hD2 : ¬ (63 ≤ i ∧ i ≤ 70 ∨ 96 ≤ i ∧ i ≤ 98) := hD; rw [b6, sto_ni _ _ _ _ (by omega), a6, sto_ni _ _ _ _ (by omega)]) (Or.inl (fun j => by (try dsimp only); omega)) (Or.inl (fun j => by (try dsimp only); omega)) (Or.inl (fun j => by (try dsimp only); omega)) (Or.inl (by (try dsimp only); omega)) (Or.inl (by (try dsimp only); omega)) (Or.inl (by (try dsimp only); omega)) (Or.inl (by (try dsimp only); omega)) (Or.inl (by (try dsimp only); omega)) (Or.inl (fun j => by (try dsimp only); omega)) (Or.inl ⟨by (try dsimp only); omega, by (try dsimp only); omega, fun i j _ _ => by (try dsimp only); omega⟩) ((by (try dsimp only); omega)) (Or.inr (by rw [b6, a6, ← s1.2.1 n4]; exact lay_R hw hR a1.1 a1.2 a4 (by have l97 : M 97 k.toNat ≤ (64 : Int) := (hw 97 _).2; omega)))
