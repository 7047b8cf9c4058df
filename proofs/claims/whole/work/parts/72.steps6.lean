theorem fiR_f {M : Mem} {c : Nat} {lo n v : Int} {i : Nat} (h : i ≠ c) : fiR M c lo n v i = M i := by
  funext b
  unfold fiR
  rw [if_neg (fun q => h q.1)]
theorem mSz_n {M : Mem} {k : Nat} (h : ¬ M 96 k = -4) : mSz M k = M 97 k := if_neg h
theorem mSz_y {M : Mem} {k : Nat} (h : M 96 k = -4) : mSz M k = -1 := if_pos h
theorem sheet_R {M : Mem} {k la n : Int} (hR : RR M) (k0 : 0 ≤ k) (k4 : k < 4) (l0 : 0 ≤ la) (n0 : 0 ≤ n) : ∀ q, q < 4 → shR (fiR (sto (sto (sto (sto (fillM M (63 + 2 * k.toNat + 1) 64 0) (63 + 2 * k.toNat) 2 la) (63 + 2 * k.toNat) 1 n) 96 k.toNat la) 97 k.toNat n) 98 (64 * k) 64 0) q := by
  intro q hq
  have h := hR.2.2.2.2.2 q hq
  have f96 : ∀ q, fiR (sto (sto (sto (sto (fillM M (63 + 2 * k.toNat + 1) 64 0) (63 + 2 * k.toNat) 2 la) (63 + 2 * k.toNat) 1 n) 96 k.toNat la) 97 k.toNat n) 98 (64 * k) 64 0 96 q = if q = k.toNat then la else M 96 q := fun q => by
    rw [fiR_f (by decide), sto_ni _ _ _ _ (by decide)]
    unfold sto
    by_cases c : q = k.toNat
    · rw [if_pos ⟨rfl, c⟩, if_pos c]
    · rw [if_neg (fun w => c w.2), if_neg c, if_neg (by omega), if_neg (by omega), fillM_f _ _ _ _ (by omega)]
  have f97 : ∀ q, fiR (sto (sto (sto (sto (fillM M (63 + 2 * k.toNat + 1) 64 0) (63 + 2 * k.toNat) 2 la) (63 + 2 * k.toNat) 1 n) 96 k.toNat la) 97 k.toNat n) 98 (64 * k) 64 0 97 q = if q = k.toNat then n else M 97 q := fun q => by
    rw [fiR_f (by decide)]
    unfold sto
    by_cases c : q = k.toNat
    · rw [if_pos ⟨rfl, c⟩, if_pos c]
    · rw [if_neg (fun w => c w.2), if_neg c, if_neg (by omega), if_neg (by omega), if_neg (by omega), fillM_f _ _ _ _ (by omega)]
  have f98 : ∀ j, fiR (sto (sto (sto (sto (fillM M (63 + 2 * k.toNat + 1) 64 0) (63 + 2 * k.toNat) 2 la) (63 + 2 * k.toNat) 1 n) 96 k.toNat la) 97 k.toNat n) 98 (64 * k) 64 0 98 j = if 64 * k ≤ (j : Int) ∧ (j : Int) < 64 * k + 64 then 0 else M 98 j := fun j => by
    unfold fiR
    by_cases c : 64 * k ≤ (j : Int) ∧ (j : Int) < 64 * k + 64
    · rw [if_pos ⟨rfl, c⟩, if_pos c]
    · rw [if_neg (fun w => c w.2), if_neg c, sto_ni _ _ _ _ (by decide), sto_ni _ _ _ _ (by decide), sto_ni _ _ _ _ (by omega), sto_ni _ _ _ _ (by omega), fillM_f _ _ _ _ (by omega)]
  have fc : ∀ i j, 63 ≤ i → i ≤ 70 → fiR (sto (sto (sto (sto (fillM M (63 + 2 * k.toNat + 1) 64 0) (63 + 2 * k.toNat) 2 la) (63 + 2 * k.toNat) 1 n) 96 k.toNat la) 97 k.toNat n) 98 (64 * k) 64 0 i j = if i = 63 + 2 * k.toNat ∧ j = 1 then n else if i = 63 + 2 * k.toNat ∧ j = 2 then la else if i = 63 + 2 * k.toNat + 1 ∧ j < 64 then 0 else M i j := fun i j x y => by
    rw [fiR_f (by omega), sto_ni _ _ _ _ (by omega), sto_ni _ _ _ _ (by omega)]
    rfl
  unfold shR mSz
  rw [fc (63 + 2 * q) 1 (by omega) (by omega), fc (63 + 2 * q) 2 (by omega) (by omega), f96, f97]
  by_cases c : q = k.toNat
  · subst c
    rw [if_pos ⟨rfl, rfl⟩, if_pos rfl, if_pos rfl, if_neg (by omega)]
    refine ⟨rfl, fun _ => ?_, fun j hj => ?_⟩
    · rw [if_neg (by omega), if_pos ⟨rfl, rfl⟩]
    · rw [fc _ _ (by omega) (by omega), f98, if_neg (by omega), if_neg (by omega), if_pos ⟨rfl, hj⟩, if_pos (by omega)]
  · unfold shR mSz at h
    rw [if_neg (show ¬ (63 + 2 * q = 63 + 2 * k.toNat ∧ (1 : Nat) = 1) by omega), if_neg (show ¬ (63 + 2 * q = 63 + 2 * k.toNat ∧ (1 : Nat) = 2) by omega), if_neg (show ¬ (63 + 2 * q = 63 + 2 * k.toNat + 1 ∧ (1 : Nat) < 64) by omega), if_neg (show ¬ (63 + 2 * q = 63 + 2 * k.toNat ∧ (2 : Nat) = 1) by omega), if_neg (show ¬ (63 + 2 * q = 63 + 2 * k.toNat ∧ (2 : Nat) = 2) by omega), if_neg (show ¬ (63 + 2 * q = 63 + 2 * k.toNat + 1 ∧ (2 : Nat) < 64) by omega), if_neg c, if_neg c]
    refine ⟨h.1, h.2.1, fun j hj => ?_⟩
    rw [fc _ _ (by omega) (by omega), f98, if_neg (by omega), if_neg (by omega), if_neg (by omega), if_neg (by omega)]
    exact h.2.2 j hj
theorem lay_R {M : Mem} {k i x : Int} (hw : wf M) (hR : RR M) (k0 : 0 ≤ k) (k4 : k < 4) (i0 : 0 ≤ i) (i1 : i < 64) : ∀ q, q < 4 → shR (sto (sto M (63 + 2 * k.toNat + 1) i.toNat x) 98 (64 * k + i).toNat x) q := by
  intro q hq
  have h := hR.2.2.2.2.2 q hq
  unfold shR mSz at h ⊢
  rw [sto_ni _ _ _ _ (show 63 + 2 * q ≠ 98 by omega), sto_ni _ _ _ _ (show 63 + 2 * q ≠ 98 by omega), sto_ni _ _ _ _ (show 63 + 2 * q ≠ 63 + 2 * k.toNat + 1 by omega), sto_ni _ _ _ _ (show 63 + 2 * q ≠ 63 + 2 * k.toNat + 1 by omega), sto_ni _ _ _ _ (show (96 : Nat) ≠ 98 by decide), sto_ni _ _ _ _ (show (96 : Nat) ≠ 63 + 2 * k.toNat + 1 by omega), sto_ni _ _ _ _ (show (97 : Nat) ≠ 98 by decide), sto_ni _ _ _ _ (show (97 : Nat) ≠ 63 + 2 * k.toNat + 1 by omega)]
  refine ⟨h.1, h.2.1, fun j hj => ?_⟩
  rw [sto_ni _ _ _ _ (show 63 + 2 * q + 1 ≠ 98 by omega)]
  unfold sto
  by_cases c : 63 + 2 * q + 1 = 63 + 2 * k.toNat + 1 ∧ j = i.toNat
  · rw [if_pos c, if_pos ⟨rfl, by omega⟩]
  · rw [if_neg c, if_neg (fun w => c ⟨by omega, by omega⟩), if_neg (by omega)]
    exact h.2.2 j hj
theorem st_sheet {M M1 M2 : Mem} {z1 z2 : Int} {k la n : Int} (hw : wf M) (hR : RR M) (h1 : z1 = -1 ∧ M1 = M ∧ ¬ (0 ≤ k ∧ k < 4 ∧ 0 ≤ la ∧ la < 3 ∧ n ≤ 64) ∨ (0 ≤ k ∧ k < 4 ∧ 0 ≤ la ∧ la < 3 ∧ n ≤ 64) ∧ n < 0 ∧ z1 = -14 ∧ M1 = M ∨ (0 ≤ k ∧ k < 4 ∧ 0 ≤ la ∧ la < 3 ∧ n ≤ 64) ∧ 0 ≤ n ∧ z1 = 1 ∧ M1 = sto (sto (fillM M (63 + 2 * k.toNat + 1) 64 0) (63 + 2 * k.toNat) 2 la) (63 + 2 * k.toNat) 1 n) (h2 : z2 = -1 ∧ M2 = M1 ∧ ¬ (0 ≤ k ∧ k < 4 ∧ 0 ≤ la ∧ la < 3 ∧ n ≤ 64) ∨ (0 ≤ k ∧ k < 4 ∧ 0 ≤ la ∧ la < 3 ∧ n ≤ 64) ∧ n < 0 ∧ z2 = -14 ∧ M2 = M1 ∨ (0 ≤ k ∧ k < 4 ∧ 0 ≤ la ∧ la < 3 ∧ n ≤ 64) ∧ 0 ≤ n ∧ z2 = 1 ∧ M2 = fiR (sto (sto M1 96 k.toNat la) 97 k.toNat n) 98 (64 * k) 64 0) : z1 = z2 ∧ RR M2 := by
  rcases h1 with ⟨a1, a2, a3⟩ | ⟨a1, a2, a3, a4⟩ | ⟨a1, a2, a3, a4⟩
  · subst a2
    rcases h2 with ⟨b1, b2, b3⟩ | ⟨b1, b2, b3, b4⟩ | ⟨b1, b2, b3, b4⟩
    · subst b2
      exact ⟨a1.trans b1.symm, hR⟩
    · exact absurd b1 a3
    · exact absurd b1 a3
  · subst a4
    rcases h2 with ⟨b1, b2, b3⟩ | ⟨b1, b2, b3, b4⟩ | ⟨b1, b2, b3, b4⟩
    · exact absurd a1 b3
    · subst b4
      exact ⟨a3.trans b3.symm, hR⟩
    · omega
  · rcases h2 with ⟨b1, b2, b3⟩ | ⟨b1, b2, b3, b4⟩ | ⟨b1, b2, b3, b4⟩
    · exact absurd a1 b3
    · omega
    · refine ⟨a3.trans b3.symm, ?_⟩
      exact RR_set (fun i j => 63 ≤ i ∧ i ≤ 70 ∨ 96 ≤ i ∧ i ≤ 98) hR (fun i j hD _ _ _ => by have hD2 : ¬ (63 ≤ i ∧ i ≤ 70 ∨ 96 ≤ i ∧ i ≤ 98) := hD; rw [b4, fiR_f (by omega), sto_ni _ _ _ _ (by omega), sto_ni _ _ _ _ (by omega), a4, sto_ni _ _ _ _ (by omega), sto_ni _ _ _ _ (by omega), fillM_f _ _ _ _ (by omega)]) (Or.inl (fun j => by (try dsimp only); omega)) (Or.inl (fun j => by (try dsimp only); omega)) (Or.inl (fun j => by (try dsimp only); omega)) (Or.inl (by (try dsimp only); omega)) (Or.inl (by (try dsimp only); omega)) (Or.inl (by (try dsimp only); omega)) (Or.inl (by (try dsimp only); omega)) (Or.inl (by (try dsimp only); omega)) (Or.inl (fun j => by (try dsimp only); omega)) (Or.inl ⟨by (try dsimp only); omega, by (try dsimp only); omega, fun i j _ _ => by (try dsimp only); omega⟩) ((by (try dsimp only); omega)) (Or.inr (by rw [b4, a4]; exact sheet_R hR a1.1 a1.2.1 a1.2.2.1 a2))
theorem st_lay {M M1 M2 : Mem} {z1 z2 : Int} {k i v : Int} (hw : wf M) (hR : RR M) (h1 : z1 = -1 ∧ M1 = M ∧ ¬ (0 ≤ k ∧ k < 4) ∨ (0 ≤ k ∧ k < 4) ∧ M1 = M ∧ (z1 = -11 ∧ M (63 + 2 * k.toNat) 1 < 0 ∨ z1 = -12 ∧ 0 ≤ M (63 + 2 * k.toNat) 1 ∧ (i < 0 ∨ M (63 + 2 * k.toNat) 1 ≤ i)) ∨ (0 ≤ k ∧ k < 4) ∧ z1 = 1 ∧ 0 ≤ M (63 + 2 * k.toNat) 1 ∧ 0 ≤ i ∧ i < M (63 + 2 * k.toNat) 1 ∧ M1 = sto M (63 + 2 * k.toNat + 1) i.toNat (putS (M (63 + 2 * k.toNat) 2) v)) (h2 : z2 = -1 ∧ M2 = M1 ∧ ¬ (0 ≤ k ∧ k < 4) ∨ (0 ≤ k ∧ k < 4) ∧ M2 = M1 ∧ (z2 = -11 ∧ M1 96 k.toNat = -4 ∨ z2 = -12 ∧ ¬ M1 96 k.toNat = -4 ∧ (i < 0 ∨ M1 97 k.toNat ≤ i)) ∨ (0 ≤ k ∧ k < 4) ∧ z2 = 1 ∧ ¬ M1 96 k.toNat = -4 ∧ 0 ≤ i ∧ i < M1 97 k.toNat ∧ M2 = sto M1 98 (64 * k + i).toNat (putS (M1 96 k.toNat) v)) : z1 = z2 ∧ RR M2 := by
  rcases h1 with ⟨a1, a2, a3⟩ | ⟨a1, a2, a3⟩ | ⟨a1, a2, a3, a4, a5, a6⟩
  · subst a2
    rcases h2 with ⟨b1, b2, b3⟩ | ⟨b1, b2, b3⟩ | ⟨b1, b2, b3, b4, b5, b6⟩
    · subst b2
      exact ⟨a1.trans b1.symm, hR⟩
    · exact absurd b1 a3
    · exact absurd b1 a3
  · subst a2
    have s1 := (hR.2.2.2.2.2 k.toNat (by omega)).1
    have l97 : (0 : Int) ≤ M1 97 k.toNat := (hw 97 _).1
    rw [s1] at a3
    rcases h2 with ⟨b1, b2, b3⟩ | ⟨b1, b2, b3⟩ | ⟨b1, b2, b3, b4, b5, b6⟩
    · exact absurd a1 b3
    · subst b2
      refine ⟨?_, hR⟩
      rcases b3 with ⟨c1, c2⟩ | ⟨c1, c2, c3⟩
      · rw [mSz_y c2] at a3
        omega
      · rw [mSz_n c2] at a3
        omega
    · rw [mSz_n b3] at a3
      omega
  · have s1 := hR.2.2.2.2.2 k.toNat (by omega)
    rw [s1.1] at a3 a5
    have n4 : ¬ M 96 k.toNat = -4 := fun q => by
      rw [mSz_y q] at a3
      omega
    rw [mSz_n n4] at a3 a5
    have e96 : M1 96 = M 96 := by rw [a6, sto_f _ _ _ _ (by omega)]
    have e97 : M1 97 = M 97 := by rw [a6, sto_f _ _ _ _ (by omega)]
    rw [e96, e97] at h2
    rcases h2 with ⟨b1, b2, b3⟩ | ⟨b1, b2, b3⟩ | ⟨b1, b2, b3, b4, b5, b6⟩
    · exact absurd a1 b3
    · exfalso
      rcases b3 with ⟨c1, c2⟩ | ⟨c1, c2, c3⟩
      · exact n4 c2
      · omega
    · refine ⟨a2.trans b2.symm, ?_⟩
      exact RR_set (fun i j => 63 ≤ i ∧ i ≤ 70 ∨ 96 ≤ i ∧ i ≤ 98) hR (fun i j hD _ _ _ => by have hD2 : ¬ (63 ≤ i ∧ i ≤ 70 ∨ 96 ≤ i ∧ i ≤ 98) := hD; rw [b6, sto_ni _ _ _ _ (by omega), a6, sto_ni _ _ _ _ (by omega)]) (Or.inl (fun j => by (try dsimp only); omega)) (Or.inl (fun j => by (try dsimp only); omega)) (Or.inl (fun j => by (try dsimp only); omega)) (Or.inl (by (try dsimp only); omega)) (Or.inl (by (try dsimp only); omega)) (Or.inl (by (try dsimp only); omega)) (Or.inl (by (try dsimp only); omega)) (Or.inl (by (try dsimp only); omega)) (Or.inl (fun j => by (try dsimp only); omega)) (Or.inl ⟨by (try dsimp only); omega, by (try dsimp only); omega, fun i j _ _ => by (try dsimp only); omega⟩) ((by (try dsimp only); omega)) (Or.inr (by rw [b6, a6, ← s1.2.1 n4]; exact lay_R hw hR a1.1 a1.2 a4 (by have l97 : M 97 k.toNat ≤ (64 : Int) := (hw 97 _).2; omega)))
theorem faS_cg {M : Mem} (hR : RR M) {k : Nat} (hk : k < 4) (la i : Int) : faS (M (63 + 2 * k) 1) (M (63 + 2 * k) 2) la i = faS (mSz M k) (M 96 k) la i := by
  have s := hR.2.2.2.2.2 k hk
  rw [s.1]
  by_cases c : M 96 k = -4
  · rw [mSz_y c]
    unfold faS
    rw [if_neg (show ¬ ((0 : Int) ≤ -1 ∧ ¬ M (63 + 2 * k) 2 = la) by omega), if_neg (show ¬ ((0 : Int) ≤ -1 ∧ ¬ M 96 k = la) by omega)]
  · rw [s.2.1 c]
theorem ce_cg {M : Mem} (hR : RR M) {k : Int} (k0 : 0 ≤ k) (k4 : k < 4) {j : Nat} (hj : j < 64) : M (63 + 2 * k.toNat + 1) j = mCe M k j := by
  rw [(hR.2.2.2.2.2 k.toNat (by omega)).2.2 j hj]
  unfold mCe
  rw [show (64 * k + (j : Int)).toNat = 64 * k.toNat + j by omega]
theorem sz_64 {M : Mem} (hw : wf M) (k : Nat) (hk : k < 4) : M (63 + 2 * k) 1 ≤ 64 := by
  have := (hw (63 + 2 * k) 1).2
  rw [rS_o1 k hk] at this
  exact this
theorem rd_rows {M M1 : Mem} {s0 n t f : Int} {ce ce' : Nat → Int} (e : M1 80 = M 12) (hc : ∀ i : Int, 0 ≤ i → i < t → ce (f + i).toNat = ce' (f + i).toNat) : rdM M s0 n t f ce 12 = rdN M1 s0 n t f ce' 80 := by
  funext b
  unfold rdM rdN
  by_cases c : s0 ≤ (b : Int) ∧ (b : Int) < s0 + n
  · rw [if_pos (show (12 : Nat) = 12 ∧ s0 ≤ (b : Int) ∧ (b : Int) < s0 + n from ⟨rfl, c⟩), if_pos (show (80 : Nat) = 80 ∧ s0 ≤ (b : Int) ∧ (b : Int) < s0 + n from ⟨rfl, c⟩)]
    by_cases d : (b : Int) - s0 < t
    · rw [if_pos d, if_pos d]
      exact hc _ (by omega) d
    · rw [if_neg d, if_neg d]
  · rw [if_neg (fun q => c q.2), if_neg (fun q => c q.2), e]
theorem st_read {M M1 M2 : Mem} {z1 z2 : Int} {sc k la f c n : Int} (hw : wf M) (hR : RR M) (h1 : z1 = -1 ∧ M1 = M ∧ ¬ (0 ≤ sc ∧ sc < 6 ∧ 0 ≤ k ∧ k < 4 ∧ 0 ≤ la ∧ la < 3 ∧ 0 ≤ c ∧ 0 ≤ n ∧ c + n ≤ 64) ∨ (0 ≤ sc ∧ sc < 6 ∧ 0 ≤ k ∧ k < 4 ∧ 0 ≤ la ∧ la < 3 ∧ 0 ≤ c ∧ 0 ≤ n ∧ c + n ≤ 64) ∧ ∃ t : Int, 0 ≤ t ∧ t ≤ n ∧ toOK (M (63 + 2 * k.toNat) 1) (M (63 + 2 * k.toNat) 2) la f (M (63 + 2 * k.toNat + 1)) t ∧ (t < n ∧ faS (M (63 + 2 * k.toNat) 1) (M (63 + 2 * k.toNat) 2) la (f + t) = 0 ∧ ¬ (0 ≤ M (63 + 2 * k.toNat + 1) (f + t).toNat ∧ M (63 + 2 * k.toNat + 1) (f + t).toNat ≤ 9) ∧ z1 = -20 - t ∧ M1 = M ∨ ∃ r : Int, (t = n ∧ r = 0 ∨ t < n ∧ r = faS (M (63 + 2 * k.toNat) 1) (M (63 + 2 * k.toNat) 2) la (f + t) ∧ ¬ r = 0) ∧ z1 = t ∧ M1 = sto (rdM M (64 * sc + c) (n) t f (M (63 + 2 * k.toNat + 1))) 0 14 r)) (h2 : z2 = -1 ∧ M2 = M1 ∧ ¬ (0 ≤ sc ∧ sc < 6 ∧ 0 ≤ k ∧ k < 4 ∧ 0 ≤ la ∧ la < 3 ∧ 0 ≤ c ∧ 0 ≤ n ∧ c + n ≤ 64) ∨ (0 ≤ sc ∧ sc < 6 ∧ 0 ≤ k ∧ k < 4 ∧ 0 ≤ la ∧ la < 3 ∧ 0 ≤ c ∧ 0 ≤ n ∧ c + n ≤ 64) ∧ ∃ t : Int, 0 ≤ t ∧ t ≤ n ∧ toOK (mSz M1 k.toNat) (M1 96 k.toNat) la f (mCe M1 k) t ∧ (t < n ∧ faS (mSz M1 k.toNat) (M1 96 k.toNat) la (f + t) = 0 ∧ ¬ (0 ≤ (mCe M1 k) (f + t).toNat ∧ (mCe M1 k) (f + t).toNat ≤ 9) ∧ z2 = -20 - t ∧ M2 = M1 ∨ ∃ r : Int, (t = n ∧ r = 0 ∨ t < n ∧ r = faS (mSz M1 k.toNat) (M1 96 k.toNat) la (f + t) ∧ ¬ r = 0) ∧ z2 = t ∧ M2 = sto (rdN M1 (64 * sc + c) n t f (mCe M1 k)) 71 45 r)) : z1 = z2 ∧ RR M2 := by
  rcases h1 with ⟨a1, a2, a3⟩ | ⟨a1, t, a2, a3, a4, a5⟩
  · subst a2
    rcases h2 with ⟨b1, b2, b3⟩ | ⟨b1, b2⟩
    · subst b2
      exact ⟨a1.trans b1.symm, hR⟩
    · exact absurd b1 a3
  · have hk : k.toNat < 4 := by omega
    have s64 := sz_64 hw k.toNat hk
    have cel : ∀ i : Int, faS (M (63 + 2 * k.toNat) 1) (M (63 + 2 * k.toNat) 2) la (f + i) = 0 → M (63 + 2 * k.toNat + 1) (f + i).toNat = mCe M k (f + i).toNat := fun i q => by
      have := faS_0 q
      exact ce_cg hR a1.2.2.1 a1.2.2.2.1 (by omega)
    have eT : ∀ t' : Int, toOK (M (63 + 2 * k.toNat) 1) (M (63 + 2 * k.toNat) 2) la f (M (63 + 2 * k.toNat + 1)) t' → toOK (mSz M k.toNat) (M 96 k.toNat) la f (mCe M k) t' := fun t' q i i0 i1 => by
      have := q i i0 i1
      rw [← faS_cg hR hk, ← cel i this.1]
      exact this
    rcases a5 with ⟨c1, c2, c3, c4, c5⟩ | ⟨r, c1, c2, c3⟩
    · subst c5
      rcases h2 with ⟨b1, b2, b3⟩ | ⟨b1, t', b2, b3, b4, b5⟩
      · exact absurd a1 b3
      · have a4' := eT t a4
        have c3' := c3
        rw [cel t c2] at c3'
        rw [faS_cg hR hk] at c2
        rcases b5 with ⟨d1, d2, d3, d4, d5⟩ | ⟨r', d1, d2, d3⟩
        · subst d5
          refine ⟨?_, hR⟩
          rcases (show t < t' ∨ t = t' ∨ t' < t by omega) with q | q | q
          · exact absurd (b4 t a2 q).2 c3'
          · rw [c4, d4, q]
          · exact absurd (a4' t' b2 q).2 d3
        · exfalso
          rcases (show t < t' ∨ t' ≤ t by omega) with q | q
          · exact absurd (b4 t a2 q).2 c3'
          · rcases d1 with ⟨e1, e2⟩ | ⟨e1, e2, e3⟩
            · omega
            · rcases (show t' < t ∨ t' = t by omega) with w | w
              · exact e3 (e2.trans (a4' t' b2 w).1)
              · rw [w] at e2
                exact e3 (e2.trans c2)
    · have e96 : M1 96 = M 96 := by rw [c3, sto_f _ _ _ _ (by decide), rdM_f (by decide)]
      have e97 : M1 97 = M 97 := by rw [c3, sto_f _ _ _ _ (by decide), rdM_f (by decide)]
      have e98 : M1 98 = M 98 := by rw [c3, sto_f _ _ _ _ (by decide), rdM_f (by decide)]
      have e80 : M1 80 = M 80 := by rw [c3, sto_f _ _ _ _ (by decide), rdM_f (by decide)]
      have eS : mSz M1 = mSz M := by
        funext q
        unfold mSz
        rw [e96, e97]
      have eC : mCe M1 = mCe M := by
        funext q j
        unfold mCe
        rw [e98]
      rw [eS, eC, e96] at h2
      rcases h2 with ⟨b1, b2, b3⟩ | ⟨b1, t', b2, b3, b4, b5⟩
      · exact absurd a1 b3
      · have a4' := eT t a4
        have c1' : t = n ∧ r = 0 ∨ t < n ∧ r = faS (mSz M k.toNat) (M 96 k.toNat) la (f + t) ∧ ¬ r = 0 := by
          rw [faS_cg hR hk] at c1
          exact c1
        rcases b5 with ⟨d1, d2, d3, d4, d5⟩ | ⟨r', d1, d2, d3⟩
        · exfalso
          rcases (show t' < t ∨ t ≤ t' by omega) with q | q
          · exact absurd (a4' t' b2 q).2 d3
          · rcases c1' with ⟨e1, e2⟩ | ⟨e1, e2, e3⟩
            · omega
            · rcases (show t < t' ∨ t' = t by omega) with w | w
              · exact e3 (e2.trans (b4 t a2 w).1)
              · rw [w] at d2
                exact e3 (e2.trans d2)
        · have et : t = t' := by
            rcases (show t < t' ∨ t = t' ∨ t' < t by omega) with q | q | q
            · exfalso
              rcases c1' with ⟨e1, e2⟩ | ⟨e1, e2, e3⟩
              · omega
              · exact e3 (e2.trans (b4 t a2 q).1)
            · exact q
            · exfalso
              rcases d1 with ⟨e1, e2⟩ | ⟨e1, e2, e3⟩
              · omega
              · exact e3 (e2.trans (a4' t' b2 q).1)
          subst et
          have er : r = r' := by
            rcases c1' with ⟨e1, e2⟩ | ⟨e1, e2, e3⟩ <;> rcases d1 with ⟨g1, g2⟩ | ⟨g1, g2, g3⟩
            · rw [e2, g2]
            · omega
            · omega
            · rw [e2, g2]
          subst er
          refine ⟨c2.trans d2.symm, ?_⟩
          exact RR_set (fun i j => i = 12 ∨ i = 80 ∨ i = 0 ∧ j = 14 ∨ i = 71 ∧ j = 45) hR (fun i j hD _ _ _ => by have hD2 : ¬ (i = 12 ∨ i = 80 ∨ i = 0 ∧ j = 14 ∨ i = 71 ∧ j = 45) := hD; rw [d3, c3]; unfold sto; rw [if_neg (fun q => hD2 (by omega)), rdN_f (by omega), if_neg (fun q => hD2 (by omega)), rdM_f (by omega)]) (Or.inr (by rw [d3, sto_f _ _ _ _ (by decide), sto_f _ _ _ _ (by decide), rdN_f (by decide), c3, sto_f _ _ _ _ (by decide)]; exact rd_rows (by rw [← c3, e80]; exact hR.1.1.symm) (fun i i0 i1 => cel i (a4 i i0 i1).1))) (Or.inl (fun j => by (try dsimp only); omega)) (Or.inl (fun j => by (try dsimp only); omega)) (Or.inl (by (try dsimp only); omega)) (Or.inl (by (try dsimp only); omega)) (Or.inr (by rw [d3, sto_eq, sto_ni _ _ _ _ (by decide), rdN_f (by decide), c3, sto_eq])) (Or.inl (by (try dsimp only); omega)) (Or.inl (by (try dsimp only); omega)) (Or.inl (fun j => by (try dsimp only); omega)) (Or.inl ⟨by (try dsimp only); omega, by (try dsimp only); omega, fun i j _ _ => by (try dsimp only); omega⟩) ((by (try dsimp only); omega)) (Or.inl (fun i j h => by (try dsimp only); omega))
theorem tx71 {M1 M2 : Mem} {j : Nat} (b3 : ∀ j, 8 < j → j ≠ 16 → j ≠ 17 → M2 71 j = M1 71 j) (h : 8 < j ∧ j ≠ 16 ∧ j ≠ 17) : M2 71 j = M1 71 j := b3 j h.1 h.2.1 h.2.2
theorem st_text {M M1 M2 : Mem} {z1 z2 : Int}  (hw : wf M) (hR : RR M) (h1 : txR M M1 z1) (h2 : M2 71 1 = 0 ∧ (∀ i j, i ≠ 71 → i ≠ 79 → i ≠ 78 → M2 i j = M1 i j) ∧ (∀ j, 8 < j → j ≠ 16 → j ≠ 17 → M2 71 j = M1 71 j) ∧ (gOut (TM M1) z2 (M2 71 2) (M2 78) (mL M2) ∧ M2 71 2 = 0 ∨ gOut (TM M1) z2 (M2 71 2) (M2 78) (mL M2) ∧ ¬ M2 71 2 = 0 ∧ M2 78 = M1 78)) : z1 = z2 ∧ RR M2 := by
  have l1 : (0 : Int) ≤ M 7 1 ∧ M 7 1 ≤ (200 : Int) := hw 7 1
  obtain ⟨a1, a2, a3⟩ := tx_c l1.1 l1.2 h1
  obtain ⟨b1, b2, b3, b4⟩ := h2
  have e71 : M1 71 = M 71 := funext fun j => a2 71 j (by decide) (by decide) (by decide) (by decide) (by decide)
  have eT : TM M1 = TT M := by
    unfold TM TT
    rw [e71, show M1 72 = M 72 from funext fun j => a2 72 j (by decide) (by decide) (by decide) (by decide) (by decide), hR.2.1.2.2.1, hR.2.1.2.2.2.2]
  rw [eT] at b4
  have key : z1 = z2 ∧ M1 7 2 = M2 71 2 ∧ ((∀ j, j < 12 → M1 2 j = M2 78 j) ∧ ∀ q, q < 16 → M1 3 q = M2 78 (12 + q)) := by
    have go : gOut (TT M) z1 (M1 7 2) (M1 2) (M1 3) := by
      rcases a3 with a3 | a3
      · exact a3.1
      · exact a3.1
    have go2 : gOut (TT M) z2 (M2 71 2) (M2 78) (mL M2) := by
      rcases b4 with b4 | b4
      · exact b4.1
      · exact b4.1
    obtain ⟨n, f1, g1⟩ := go
    obtain ⟨n', f2, g2⟩ := go2
    have en := gFin_u f1 f2
    subst en
    rcases g1 with ⟨c1, c2, c3, c4, c5⟩ | ⟨c1, c2, c3, c4⟩ <;> rcases g2 with ⟨d1, d2, d3, d4, d5⟩ | ⟨d1, d2, d3, d4⟩
    · exact ⟨c2.trans d2.symm, c3.trans d3.symm, fun j hj => (c4 j hj).trans (d4 j hj).symm, fun q hq => (c5 q hq).trans (d5 q hq).symm⟩
    · exact absurd c1 d1
    · exact absurd d1 c1
    · refine ⟨c2.trans d2.symm, c3.trans d3.symm, ?_⟩
      have x1 : M1 2 = M 2 ∧ M1 3 = M 3 := by
        rcases a3 with a3 | a3
        · exact absurd a3.2 c4
        · exact a3.2.2
      have x2 : M2 78 = M1 78 := by
        rcases b4 with b4 | b4
        · exact absurd b4.2 d4
        · exact b4.2.2
      rw [x1.1, x1.2, x2, show M1 78 = M 78 from funext fun j => a2 78 j (by decide) (by decide) (by decide) (by decide) (by decide)]
      exact ⟨hR.1.2.1, hR.1.2.2.1⟩
  refine ⟨key.1, ?_⟩
  have m2 : ∀ i j, i ≠ 71 → i ≠ 79 → i ≠ 78 → M2 i j = M1 i j := b2
  exact RR_set (fun i j => i = 2 ∨ i = 3 ∨ i = 78 ∨ i = 7 ∧ (j = 1 ∨ j = 2) ∨ i = 71 ∧ (j = 1 ∨ j = 2)) hR (fun i j hD _ _ _ => by have hD2 : ¬ (i = 2 ∨ i = 3 ∨ i = 78 ∨ i = 7 ∧ (j = 1 ∨ j = 2) ∨ i = 71 ∧ (j = 1 ∨ j = 2)) := hD; rename_i k1 k2 k3; unfold scK at k1; unfold scF at k2; by_cases h7 : i = 71; (rw [h7, tx71 b3 (by omega), e71]); (rw [m2 i j h7 (by omega) (by omega)]; exact a2 i j (by omega) (by omega) (by omega) (by omega) (by omega))) (Or.inl (fun j => by (try dsimp only); omega)) (Or.inr (by rw [show M2 2 = M1 2 from funext fun j => m2 2 j (by decide) (by decide) (by decide), show M2 3 = M1 3 from funext fun j => m2 3 j (by decide) (by decide) (by decide)]; exact key.2.2)) (Or.inl (fun j => by (try dsimp only); omega)) (Or.inl (by (try dsimp only); omega)) (Or.inl (by (try dsimp only); omega)) (Or.inl (by (try dsimp only); omega)) (Or.inr (by rw [m2 7 1 (by decide) (by decide) (by decide), a1, b1])) (Or.inr (by rw [m2 7 2 (by decide) (by decide) (by decide)]; exact key.2.1)) (Or.inl (fun j => by (try dsimp only); omega)) (Or.inl ⟨by (try dsimp only); omega, by (try dsimp only); omega, fun i j _ _ => by (try dsimp only); omega⟩) ((by (try dsimp only); omega)) (Or.inl (fun i j h => by (try dsimp only); omega))
