theorem sc4 : ∀ i ∈ [81, 82, 83, 84], scK i ∧ i ≠ 7 ∧ i ≠ 71 := by
  intro i h
  unfold scK
  simp at h
  omega
theorem sc8 : ∀ i ∈ [81, 82, 83, 84, 86, 87, 88, 89], scK i ∧ i ≠ 7 ∧ i ≠ 71 := by
  intro i h
  unfold scK
  simp at h
  omega
theorem RR_m {S : List Nat} {M M' : Mem} (hR : RR M) (h : ofS S M M') (hs : ∀ i ∈ S, i ∈ [81, 82, 83, 84, 86, 87, 88, 89]) : RR M' := RR_keep hR (keep_m h (fun i hi => sc8 i (hs i hi)))
theorem bool01 {P Q : Prop} {z1 z2 : Int} (h : P ↔ Q) (h1 : z1 = 1 ∧ P ∨ z1 = 0 ∧ ¬ P) (h2 : z2 = 1 ∧ Q ∨ z2 = 0 ∧ ¬ Q) : z1 = z2 := by
  rcases h1 with ⟨a, b⟩ | ⟨a, b⟩ <;> rcases h2 with ⟨c, d⟩ | ⟨c, d⟩
  · rw [a, c]
  · exact absurd (h.mp b) d
  · exact absurd (h.mpr d) b
  · rw [a, c]
theorem st_fault {M M1 M2 : Mem} {z1 z2 : Int}  (hw : wf M) (hR : RR M) (h1 : M = M1 ∧ (z1 = M 7 2)) (h2 : M1 = M2 ∧ (z2 = M1 71 2)) : z1 = z2 ∧ RR M2 := by
  obtain ⟨e, a⟩ := h1
  obtain ⟨e2, b⟩ := h2
  subst e e2
  exact ⟨by rw [a, b]; exact hR.2.1.2.2.2.1, hR⟩
theorem st_torn {M M1 M2 : Mem} {z1 z2 : Int}  (hw : wf M) (hR : RR M) (h1 : M = M1 ∧ (z1 = M 0 14)) (h2 : M1 = M2 ∧ (z2 = M1 71 45)) : z1 = z2 ∧ RR M2 := by
  obtain ⟨e, a⟩ := h1
  obtain ⟨e2, b⟩ := h2
  subst e e2
  exact ⟨by rw [a, b]; exact hR.2.1.2.1, hR⟩
theorem st_rule {M M1 M2 : Mem} {z1 z2 : Int} {w : Int} (hw : wf M) (hR : RR M) (h1 : M = M1 ∧ (0 ≤ w ∧ w < 12 ∧ z1 = M 2 w.toNat ∨ 20 ≤ w ∧ w < 36 ∧ z1 = M 3 (w - 20).toNat ∨ ¬ (0 ≤ w ∧ w < 12) ∧ ¬ (20 ≤ w ∧ w < 36) ∧ z1 = -1)) (h2 : M1 = M2 ∧ (0 ≤ w ∧ w < 12 ∧ z2 = M1 78 w.toNat ∨ 20 ≤ w ∧ w < 36 ∧ z2 = mL M1 (w - 20).toNat ∨ ¬ (0 ≤ w ∧ w < 12) ∧ ¬ (20 ≤ w ∧ w < 36) ∧ z2 = -1)) : z1 = z2 ∧ RR M2 := by
  obtain ⟨e, a⟩ := h1
  obtain ⟨e2, b⟩ := h2
  subst e e2
  refine ⟨?_, hR⟩
  rcases a with ⟨a1, a2, a3⟩ | ⟨a1, a2, a3⟩ | ⟨a1, a2, a3⟩ <;> rcases b with ⟨b1, b2, b3⟩ | ⟨b1, b2, b3⟩ | ⟨b1, b2, b3⟩ <;> first | (exfalso; omega) | skip
  · rw [a3, b3]
    exact hR.1.2.1 _ (by omega)
  · rw [a3, b3]
    exact hR.1.2.2.1 _ (by omega)
  · rw [a3, b3]
theorem st_lightOf {M M1 M2 : Mem} {z1 z2 : Int} {sc ce : Int} (hw : wf M) (hR : RR M) (h1 : M = M1 ∧ (z1 = -1 ∧ ¬ (0 ≤ sc ∧ sc < 6 ∧ 0 ≤ ce ∧ ce < 64) ∨ (0 ≤ sc ∧ sc < 6 ∧ 0 ≤ ce ∧ ce < 64) ∧ z1 = M 12 (sc * 64 + ce).toNat)) (h2 : M1 = M2 ∧ (z2 = -1 ∧ ¬ (0 ≤ sc ∧ sc < 6 ∧ 0 ≤ ce ∧ ce < 64) ∨ (0 ≤ sc ∧ sc < 6 ∧ 0 ≤ ce ∧ ce < 64) ∧ z2 = M1 80 (64 * sc + ce).toNat)) : z1 = z2 ∧ RR M2 := by
  obtain ⟨e, a⟩ := h1
  obtain ⟨e2, b⟩ := h2
  subst e e2
  refine ⟨?_, hR⟩
  rcases a with ⟨a1, a2⟩ | ⟨a1, a2⟩ <;> rcases b with ⟨b1, b2⟩ | ⟨b1, b2⟩
  · rw [a1, b1]
  · exact absurd b1 a2
  · exact absurd a1 b2
  · rw [a2, b2, hR.1.1, show sc * 64 + ce = 64 * sc + ce by omega]
theorem st_leads {M M1 M2 : Mem} {z1 z2 : Int} {p m : Int} (hw : wf M) (hR : RR M) (h1 : M = M1 ∧ (z1 = -1 ∧ ¬ (0 ≤ p ∧ p < 26 ∧ 0 ≤ m ∧ m < 6) ∨ (0 ≤ p ∧ p < 26 ∧ 0 ≤ m ∧ m < 6) ∧ z1 = mvT p m)) (h2 : M1 = M2 ∧ (z2 = -1 ∧ ¬ (0 ≤ p ∧ p < 26 ∧ 0 ≤ m ∧ m < 6) ∨ (0 ≤ p ∧ p < 26 ∧ 0 ≤ m ∧ m < 6) ∧ z2 = mvT p m)) : z1 = z2 ∧ RR M2 := by
  obtain ⟨e, a⟩ := h1
  obtain ⟨e2, b⟩ := h2
  subst e e2
  refine ⟨?_, hR⟩
  rcases a with ⟨a1, a2⟩ | ⟨a1, a2⟩ <;> rcases b with ⟨b1, b2⟩ | ⟨b1, b2⟩
  · rw [a1, b1]
  · exact absurd b1 a2
  · exact absurd a1 b2
  · rw [a2, b2]
theorem st_tired {M M1 M2 : Mem} {z1 z2 : Int} {p : Int} (hw : wf M) (hR : RR M) (h1 : M = M1 ∧ (z1 = -1 ∧ ¬ (0 ≤ p ∧ p < 16) ∨ (0 ≤ p ∧ p < 16) ∧ z1 = M 13 p.toNat)) (h2 : M1 = M2 ∧ (z2 = -1 ∧ ¬ (0 ≤ p ∧ p < 16) ∨ (0 ≤ p ∧ p < 16) ∧ z2 = M1 85 p.toNat)) : z1 = z2 ∧ RR M2 := by
  obtain ⟨e, a⟩ := h1
  obtain ⟨e2, b⟩ := h2
  subst e e2
  refine ⟨?_, hR⟩
  rcases a with ⟨a1, a2⟩ | ⟨a1, a2⟩ <;> rcases b with ⟨b1, b2⟩ | ⟨b1, b2⟩
  · rw [a1, b1]
  · exact absurd b1 a2
  · exact absurd a1 b2
  · rw [a2, b2]
    exact hR.1.2.2.2.1 _ (by omega)
theorem st_head {M M1 M2 : Mem} {z1 z2 : Int} {w : Int} (hw : wf M) (hR : RR M) (h1 : M = M1 ∧ (z1 = -1 ∧ ¬ (0 ≤ w ∧ w < 2) ∨ w = 0 ∧ z1 = M 0 13 ∨ w = 1 ∧ z1 = (if M 2 10 ≤ M 0 13 then 1 else 0))) (h2 : M1 = M2 ∧ (z2 = -1 ∧ ¬ (0 ≤ w ∧ w < 2) ∨ w = 0 ∧ z2 = M1 71 28 ∨ w = 1 ∧ z2 = (if M1 78 10 ≤ M1 71 28 then 1 else 0))) : z1 = z2 ∧ RR M2 := by
  obtain ⟨e, a⟩ := h1
  obtain ⟨e2, b⟩ := h2
  subst e e2
  refine ⟨?_, hR⟩
  rcases a with ⟨a1, a2⟩ | ⟨a1, a2⟩ | ⟨a1, a2⟩ <;> rcases b with ⟨b1, b2⟩ | ⟨b1, b2⟩ | ⟨b1, b2⟩ <;> first | (exfalso; omega) | skip
  · rw [a1, b1]
  · rw [a2, b2]
    exact hR.2.1.1
  · rw [a2, b2, hR.2.1.1, hR.1.2.1 10 (by decide)]
theorem st_asks {M M1 M2 : Mem} {z1 z2 : Int} {p n : Int} (hw : wf M) (hR : RR M) (h1 : M = M1 ∧ (z1 = -1 ∧ ¬ (0 ≤ p ∧ p < 16 ∧ 2 ≤ n ∧ n ≤ 9 ∧ M 3 p.toNat ≤ n) ∨ (0 ≤ p ∧ p < 16 ∧ 2 ≤ n ∧ n ≤ 9 ∧ M 3 p.toNat ≤ n) ∧ z1 = asF (M 3 p.toNat) 9 1 n)) (h2 : M1 = M2 ∧ (z2 = -1 ∧ ¬ (0 ≤ p ∧ p < 16 ∧ 2 ≤ n ∧ n ≤ 9 ∧ mL M1 p.toNat ≤ n) ∨ (0 ≤ p ∧ p < 16 ∧ 2 ≤ n ∧ n ≤ 9 ∧ mL M1 p.toNat ≤ n) ∧ z2 = asF (mL M1 p.toNat) 9 1 n)) : z1 = z2 ∧ RR M2 := by
  obtain ⟨e, a⟩ := h1
  obtain ⟨e2, b⟩ := h2
  subst e e2
  refine ⟨?_, hR⟩
  by_cases c : 0 ≤ p ∧ p < 16
  · have e3 : M 3 p.toNat = mL M p.toNat := RR_l hR _ (by omega)
    rw [e3] at a
    rcases a with ⟨a1, a2⟩ | ⟨a1, a2⟩ <;> rcases b with ⟨b1, b2⟩ | ⟨b1, b2⟩
    · rw [a1, b1]
    · exact absurd b1 a2
    · exact absurd a1 b2
    · rw [a2, b2]
  · rcases a with ⟨a1, a2⟩ | ⟨a1, a2⟩ <;> rcases b with ⟨b1, b2⟩ | ⟨b1, b2⟩
    · rw [a1, b1]
    · exact absurd ⟨b1.1, b1.2.1⟩ c
    · exact absurd ⟨a1.1, a1.2.1⟩ c
    · exact absurd ⟨b1.1, b1.2.1⟩ c
theorem st_count {M M1 M2 : Mem} {z1 z2 : Int} {w : Int} (hw : wf M) (hR : RR M) (h1 : M = M1 ∧ (z1 = coC M w)) (h2 : M1 = M2 ∧ (z2 = coM M1 w)) : z1 = z2 ∧ RR M2 := by
  obtain ⟨e, a⟩ := h1
  obtain ⟨e2, b⟩ := h2
  subst e e2
  refine ⟨?_, hR⟩
  rw [a, b]
  unfold coC coM
  have s0 := (hR.2.2.2.2.2 0 (by decide)).1
  have e63 : (if M 63 1 < 0 then -4 else M 63 1) = (if M 96 0 = -4 then -4 else M 97 0) := by
    have l97 : (0 : Int) ≤ M 97 0 := (hw 97 0).1
    rw [show M 63 1 = mSz M 0 from s0]
    unfold mSz
    by_cases c : M 96 0 = -4
    · rw [if_pos c, if_pos c]
      rfl
    · rw [if_neg c, if_neg c, if_neg (by omega)]
  rw [hR.1.2.2.2.2, hR.1.2.1 11 (by decide), poB_cg hR.1.2.2.2.1, hR.2.2.1.1, hR.1.1, hR.2.1.2.2.1, e63]
theorem st_point {M M1 M2 : Mem} {z1 z2 : Int} {sc p w : Int} (hw : wf M) (hR : RR M) (h1 : z1 = -1 ∧ M1 = M ∧ ¬ (0 ≤ sc ∧ sc < 6 ∧ 0 ≤ p ∧ p < 16 ∧ 0 ≤ w ∧ w < 4) ∨ (0 ≤ sc ∧ sc < 6 ∧ 0 ≤ p ∧ p < 16 ∧ 0 ≤ w ∧ w < 4) ∧ z1 = ptC M sc p w ∧ offC M M1 16 57) (h2 : z2 = -1 ∧ M2 = M1 ∧ ¬ (0 ≤ sc ∧ sc < 6 ∧ 0 ≤ p ∧ p < 16 ∧ 0 ≤ w ∧ w < 4) ∨ (0 ≤ sc ∧ sc < 6 ∧ 0 ≤ p ∧ p < 16 ∧ 0 ≤ w ∧ w < 4) ∧ z2 = ptM M1 sc p w ∧ ofS [81, 82, 83, 84] M1 M2) : z1 = z2 ∧ RR M2 := by
  rcases h1 with ⟨a1, a2, a3⟩ | ⟨a1, a2, a3⟩
  · subst a2
    rcases h2 with ⟨b1, b2, b3⟩ | ⟨b1, b2, b3⟩
    · subst b2
      exact ⟨a1.trans b1.symm, hR⟩
    · exact absurd b1 a3
  · rcases h2 with ⟨b1, b2, b3⟩ | ⟨b1, b2, b3⟩
    · exact absurd a1 b3
    · obtain ⟨r1, e71, efe, esh, eha, ehu, eal, elk, e78, e80, e85⟩ := RR_1 hR a3
      refine ⟨?_, RR_m r1 b3 (by decide)⟩
      rw [a2, b2]
      unfold ptC ptM ptS
      rw [eha, esh, efe, ehu, e71, ← hR.1.2.2.2.2, RR_ha hR, RR_sh hR, RR_hu hR, RR_fe hR sc (M 0 12) p.toNat (by omega)]
theorem st_feels {M M1 M2 : Mem} {z1 z2 : Int} {sc w : Int} (hw : wf M) (hR : RR M) (h1 : z1 = -1 ∧ M1 = M ∧ ¬ (0 ≤ sc ∧ sc < 6 ∧ 0 ≤ w ∧ w < 3) ∨ (0 ≤ sc ∧ sc < 6 ∧ 0 ≤ w ∧ w < 3) ∧ z1 = flC M sc w ∧ offC M M1 16 57) (h2 : z2 = -1 ∧ M2 = M1 ∧ ¬ (0 ≤ sc ∧ sc < 6 ∧ 0 ≤ w ∧ w < 3) ∨ (0 ≤ sc ∧ sc < 6 ∧ 0 ≤ w ∧ w < 3) ∧ z2 = flM M1 sc w ∧ ofS [81, 82, 83, 84] M1 M2) : z1 = z2 ∧ RR M2 := by
  rcases h1 with ⟨a1, a2, a3⟩ | ⟨a1, a2, a3⟩
  · subst a2
    rcases h2 with ⟨b1, b2, b3⟩ | ⟨b1, b2, b3⟩
    · subst b2
      exact ⟨a1.trans b1.symm, hR⟩
    · exact absurd b1 a3
  · rcases h2 with ⟨b1, b2, b3⟩ | ⟨b1, b2, b3⟩
    · exact absurd a1 b3
    · obtain ⟨r1, e71, efe, esh, eha, ehu, eal, elk, e78, e80, e85⟩ := RR_1 hR a3
      refine ⟨?_, RR_m r1 b3 (by decide)⟩
      rw [a2, b2]
      unfold flC flM flS
      rw [efe, ehu, e71, ← hR.1.2.2.2.2, RR_hu hR, poB_cg (RR_fe hR sc (M 0 12)), suK_cg 16 (RR_fe hR sc (M 0 12))]
theorem st_alike {M M1 M2 : Mem} {z1 z2 : Int} {a b : Int} (hw : wf M) (hR : RR M) (h1 : z1 = -1 ∧ M1 = M ∧ ¬ (0 ≤ a ∧ a < 6 ∧ 0 ≤ b ∧ b < 6) ∨ (0 ≤ a ∧ a < 6 ∧ 0 ≤ b ∧ b < 6) ∧ z1 = (if alC M a b (M 0 12) = true then 1 else 0) ∧ offC M M1 16 57) (h2 : z2 = -1 ∧ M2 = M1 ∧ ¬ (0 ≤ a ∧ a < 6 ∧ 0 ≤ b ∧ b < 6) ∨ (0 ≤ a ∧ a < 6 ∧ 0 ≤ b ∧ b < 6) ∧ z2 = (if alM M1 a b (M1 71 19) = true then 1 else 0) ∧ ofS [81, 82, 83, 84, 87] M1 M2) : z1 = z2 ∧ RR M2 := by
  rcases h1 with ⟨a1, a2, a3⟩ | ⟨a1, a2, a3⟩
  · subst a2
    rcases h2 with ⟨b1, b2, b3⟩ | ⟨b1, b2, b3⟩
    · subst b2
      exact ⟨a1.trans b1.symm, hR⟩
    · exact absurd b1 a3
  · rcases h2 with ⟨b1, b2, b3⟩ | ⟨b1, b2, b3⟩
    · exact absurd a1 b3
    · obtain ⟨r1, e71, efe, esh, eha, ehu, eal, elk, e78, e80, e85⟩ := RR_1 hR a3
      refine ⟨?_, RR_m r1 b3 (by decide)⟩
      rw [a2, b2, eal, e71, ← hR.1.2.2.2.2, RR_al hR]
theorem st_foretell {M M1 M2 : Mem} {z1 z2 : Int} {sc m w : Int} (hw : wf M) (hR : RR M) (h1 : z1 = -1 ∧ M1 = M ∧ ¬ (0 ≤ sc ∧ sc < 6 ∧ 0 ≤ m ∧ m < 6 ∧ 0 ≤ w ∧ w < 2) ∨ (0 ≤ sc ∧ sc < 6 ∧ 0 ≤ m ∧ m < 6 ∧ 0 ≤ w ∧ w < 2) ∧ z1 = (if w = 0 then ((upS (feC M sc (M 0 12)) (feC M sc (mvC M m)) : Nat) : Int) else ((upS (feC M sc (mvC M m)) (feC M sc (M 0 12)) : Nat) : Int)) ∧ offC M M1 16 57) (h2 : z2 = -1 ∧ M2 = M1 ∧ ¬ (0 ≤ sc ∧ sc < 6 ∧ 0 ≤ m ∧ m < 6 ∧ 0 ≤ w ∧ w < 2) ∨ (0 ≤ sc ∧ sc < 6 ∧ 0 ≤ m ∧ m < 6 ∧ 0 ≤ w ∧ w < 2) ∧ z2 = (if w = 0 then ((upS (feM M1 sc (M1 71 19)) (feM M1 sc (mvT (M1 71 19) m)) : Nat) : Int) else ((upS (feM M1 sc (mvT (M1 71 19) m)) (feM M1 sc (M1 71 19)) : Nat) : Int)) ∧ ofS [81, 82, 83, 84, 87] M1 M2) : z1 = z2 ∧ RR M2 := by
  rcases h1 with ⟨a1, a2, a3⟩ | ⟨a1, a2, a3⟩
  · subst a2
    rcases h2 with ⟨b1, b2, b3⟩ | ⟨b1, b2, b3⟩
    · subst b2
      exact ⟨a1.trans b1.symm, hR⟩
    · exact absurd b1 a3
  · rcases h2 with ⟨b1, b2, b3⟩ | ⟨b1, b2, b3⟩
    · exact absurd a1 b3
    · obtain ⟨r1, e71, efe, esh, eha, ehu, eal, elk, e78, e80, e85⟩ := RR_1 hR a3
      refine ⟨?_, RR_m r1 b3 (by decide)⟩
      rw [a2, b2, efe, e71, ← hR.1.2.2.2.2]
      unfold mvC upS
      rw [gtB_cg (RR_fe hR sc (mvT (M 0 12) m)) (RR_fe hR sc (M 0 12)), gtB_cg (RR_fe hR sc (M 0 12)) (RR_fe hR sc (mvT (M 0 12) m))]
theorem st_heard {M M1 M2 : Mem} {z1 z2 : Int} {sc co ro : Int} (hw : wf M) (hR : RR M) (h1 : z1 = -1 ∧ M1 = M ∧ ¬ (0 ≤ sc ∧ sc < 6 ∧ 0 ≤ co ∧ co < 4 ∧ 0 ≤ ro ∧ ro < 4) ∨ (0 ≤ sc ∧ sc < 6 ∧ 0 ≤ co ∧ co < 4 ∧ 0 ≤ ro ∧ ro < 4) ∧ z1 = loS (shC M sc (M 0 12)) (M 2 6) (4 * ro + co) ∧ offC M M1 16 57) (h2 : z2 = -1 ∧ M2 = M1 ∧ ¬ (0 ≤ sc ∧ sc < 6 ∧ 0 ≤ co ∧ co < 4 ∧ 0 ≤ ro ∧ ro < 4) ∨ (0 ≤ sc ∧ sc < 6 ∧ 0 ≤ co ∧ co < 4 ∧ 0 ≤ ro ∧ ro < 4) ∧ z2 = loS (shN M1 sc (M1 71 19)) (M1 78 6) (4 * ro + co) ∧ ofS [81, 82, 83] M1 M2) : z1 = z2 ∧ RR M2 := by
  rcases h1 with ⟨a1, a2, a3⟩ | ⟨a1, a2, a3⟩
  · subst a2
    rcases h2 with ⟨b1, b2, b3⟩ | ⟨b1, b2, b3⟩
    · subst b2
      exact ⟨a1.trans b1.symm, hR⟩
    · exact absurd b1 a3
  · rcases h2 with ⟨b1, b2, b3⟩ | ⟨b1, b2, b3⟩
    · exact absurd a1 b3
    · obtain ⟨r1, e71, efe, esh, eha, ehu, eal, elk, e78, e80, e85⟩ := RR_1 hR a3
      refine ⟨?_, RR_m r1 b3 (by decide)⟩
      rw [a2, b2, esh, e71, e78, ← hR.1.2.2.2.2, RR_sh hR, hR.1.2.1 6 (by decide)]
theorem st_sounds {M M1 M2 : Mem} {z1 z2 : Int} {a b : Int} (hw : wf M) (hR : RR M) (h1 : z1 = -1 ∧ M1 = M ∧ ¬ (0 ≤ a ∧ a < 6 ∧ 0 ≤ b ∧ b < 6) ∨ (0 ≤ a ∧ a < 6 ∧ 0 ≤ b ∧ b < 6) ∧ (z1 = 1 ∧ soE (shC M a (M 0 12)) (shC M b (M 0 12)) (M 2 6) ∨ z1 = 0 ∧ ¬ soE (shC M a (M 0 12)) (shC M b (M 0 12)) (M 2 6)) ∧ offC M M1 16 57) (h2 : z2 = -1 ∧ M2 = M1 ∧ ¬ (0 ≤ a ∧ a < 6 ∧ 0 ≤ b ∧ b < 6) ∨ (0 ≤ a ∧ a < 6 ∧ 0 ≤ b ∧ b < 6) ∧ (z2 = 1 ∧ soE (shN M1 a (M1 71 19)) (shN M1 b (M1 71 19)) (M1 78 6) ∨ z2 = 0 ∧ ¬ soE (shN M1 a (M1 71 19)) (shN M1 b (M1 71 19)) (M1 78 6)) ∧ ofS [81, 82, 83, 87] M1 M2) : z1 = z2 ∧ RR M2 := by
  rcases h1 with ⟨a1, a2, a3⟩ | ⟨a1, a2, a3⟩
  · subst a2
    rcases h2 with ⟨b1, b2, b3⟩ | ⟨b1, b2, b3⟩
    · subst b2
      exact ⟨a1.trans b1.symm, hR⟩
    · exact absurd b1 a3
  · rcases h2 with ⟨b1, b2, b3⟩ | ⟨b1, b2, b3⟩
    · exact absurd a1 b3
    · obtain ⟨r1, e71, efe, esh, eha, ehu, eal, elk, e78, e80, e85⟩ := RR_1 hR a3
      refine ⟨?_, RR_m r1 b3 (by decide)⟩
      rw [esh, e71, e78, ← hR.1.2.2.2.2, ← hR.1.2.1 6 (by decide), ← RR_sh hR] at b2
      exact bool01 Iff.rfl a2 b2
