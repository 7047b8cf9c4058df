theorem beB_cg {fe fe' sh : Int → Nat → Int} {m w : Int} (h : ∀ s, eqF (fe s) (fe' s)) (a b : Int) : beB fe sh m w a b = beB fe' sh m w a b := by
  unfold beB
  rw [eqB_cg (h a) (h b)]
theorem beI_cg {fe fe' sh : Int → Nat → Int} {m w : Int} (h : ∀ s, eqF (fe s) (fe' s)) (a : Int) : ∀ k, beI fe sh m w a k = beI fe' sh m w a k := by
  intro k
  induction k with
  | zero => rfl
  | succ k ih =>
    show beI fe sh m w a k + _ = beI fe' sh m w a k + _
    rw [ih, beB_cg h]
theorem beO_cg {fe fe' sh : Int → Nat → Int} {m w : Int} (h : ∀ s, eqF (fe s) (fe' s)) : ∀ k, beO fe sh m w k = beO fe' sh m w k := by
  intro k
  induction k with
  | zero => rfl
  | succ k ih =>
    show beO fe sh m w k + _ = beO fe' sh m w k + _
    rw [ih, beI_cg h]
theorem cam_in {M : Mem} (hw : wf M) : 0 ≤ M 0 12 ∧ M 0 12 ≤ 25 := hw 0 12
theorem st_beside {M M1 M2 : Mem} {z1 z2 : Int} {w : Int} (hw : wf M) (hR : RR M) (h1 : z1 = -1 ∧ M1 = M ∧ ¬ (0 ≤ w ∧ w < 3) ∨ (0 ≤ w ∧ w < 3) ∧ z1 = beO (fun s => feC M s (M 0 12)) (fun s => shC M s (M 0 12)) (M 2 6) w 6 ∧ offC M M1 16 57) (h2 : z2 = -1 ∧ M2 = M1 ∧ ¬ (0 ≤ w ∧ w < 3) ∨ (0 ≤ w ∧ w < 3) ∧ z2 = beO (fun s => feM M1 s (M1 71 19)) (fun s => shN M1 s (M1 71 19)) (M1 78 6) w 6 ∧ ofS [81, 82, 83, 84, 87] M1 M2) : z1 = z2 ∧ RR M2 := by
  rcases h1 with ⟨a1, a2, a3⟩ | ⟨a1, a2, a3⟩
  · subst a2
    rcases h2 with ⟨b1, b2, b3⟩ | ⟨b1, b2, b3⟩
    · subst b2
      exact ⟨a1.trans b1.symm, hR⟩
    · exact absurd b1 a3
  · rcases h2 with ⟨b1, b2, b3⟩ | ⟨b1, b2, b3⟩
    · exact absurd a1 b3
    · obtain ⟨r1, e71, efe, esh, eha, ehu, eal, elk, e78, e80, e85⟩ := RR_1 hR a3
      refine ⟨?_, RR_m r1 b3 (by decide)⟩
      rw [a2, b2, efe, esh, e71, e78, ← hR.1.2.2.2.2, ← hR.1.2.1 6 (by decide), ← RR_sh hR]
      exact beO_cg (fun s => RR_fe hR s (M 0 12)) 6
theorem st_parted {M M1 M2 : Mem} {z1 z2 : Int} {a b w : Int} (hw : wf M) (hR : RR M) (h1 : z1 = -1 ∧ M1 = M ∧ ¬ (0 ≤ a ∧ a < 6 ∧ 0 ≤ b ∧ b < 6 ∧ 0 ≤ w ∧ w < 3) ∨ (0 ≤ a ∧ a < 6 ∧ 0 ≤ b ∧ b < 6 ∧ 0 ≤ w ∧ w < 3) ∧ offC M M1 16 57 ∧ (w = 2 ∧ z1 = ((bK (fun q => alC M a b (q : Int)) 26 : Nat) : Int) ∨ ¬ w = 2 ∧ waC M a b w z1)) (h2 : z2 = -1 ∧ M2 = M1 ∧ ¬ (0 ≤ a ∧ a < 6 ∧ 0 ≤ b ∧ b < 6 ∧ 0 ≤ w ∧ w < 3) ∨ (0 ≤ a ∧ a < 6 ∧ 0 ≤ b ∧ b < 6 ∧ 0 ≤ w ∧ w < 3) ∧ ofS [81, 82, 83, 84, 87, 88] M1 M2 ∧ (w = 2 ∧ z2 = ((bK (fun q : Nat => alM M1 a b (q : Int)) 26 : Nat) : Int) ∨ ¬ w = 2 ∧ ptD (fun q : Nat => alM M1 a b (q : Int)) (M1 71 19).toNat w z2)) : z1 = z2 ∧ RR M2 := by
  rcases h1 with ⟨a1, a2, a3⟩ | ⟨a1, a2, a3⟩
  · subst a2
    rcases h2 with ⟨b1, b2, b3⟩ | ⟨b1, b2, b3⟩
    · subst b2
      exact ⟨a1.trans b1.symm, hR⟩
    · exact absurd b1 a3
  · rcases h2 with ⟨b1, b2, b3⟩ | ⟨b1, b2, b3⟩
    · exact absurd a1 b3
    · obtain ⟨r1, e71, efe, esh, eha, ehu, eal, elk, e78, e80, e85⟩ := RR_1 hR a2
      refine ⟨?_, RR_m r1 b2 (by decide)⟩
      have hc := cam_in hw
      rw [eal, e71, ← hR.1.2.2.2.2, ← RR_al hR] at b3
      rcases a3 with ⟨c1, c2⟩ | ⟨c1, c2⟩ <;> rcases b3 with ⟨d1, d2⟩ | ⟨d1, d2⟩
      · rw [c2, d2]
      · exact absurd c1 d1
      · exact absurd d1 c1
      · exact ptD_u (by omega) (waC_pa (by omega) c2) d2
theorem le_u {v le le' : Int} (h : 0 ≤ le ∧ le ≤ 5 ∧ (∀ j : Int, 0 ≤ j → j < le → v.toNat.testBit j.toNat = false) ∧ (le = 5 ∨ v.toNat.testBit le.toNat = true)) (h' : 0 ≤ le' ∧ le' ≤ 5 ∧ (∀ j : Int, 0 ≤ j → j < le' → v.toNat.testBit j.toNat = false) ∧ v.toNat.testBit le'.toNat = true) : le = le' := by
  obtain ⟨a1, a2, a3, a4⟩ := h
  obtain ⟨b1, b2, b3, b4⟩ := h'
  rcases (show le < le' ∨ le = le' ∨ le' < le by omega) with c | c | c
  · rcases a4 with a4 | a4
    · omega
    · rw [b3 le a1 c] at a4
      exact absurd a4 (by decide)
  · exact c
  · rw [a3 le' b1 c] at b4
    exact absurd b4 (by decide)
theorem first_u {r : Int → Int} {x z : Int} (h1 : ∀ k : Nat, k < 6 → 1 ≤ r (k : Int)) (hx : x = (fmK r 6).2) (hz : 0 ≤ z ∧ z < 6 ∧ r z = mxK r 6 ∧ ∀ q : Int, 0 ≤ q → q < z → ¬ r q = mxK r 6) : x = z := by
  obtain ⟨-, f⟩ := fm_mx 6 h1
  obtain ⟨f1, f2, f3, f4⟩ := f (by decide)
  rw [← hx] at f1 f2 f3 f4
  obtain ⟨g1, g2, g3, g4⟩ := hz
  rcases (show x < z ∨ x = z ∨ z < x by omega) with c | c | c
  · exact absurd f3 (g4 x f1 c)
  · exact c
  · have := f4 z g1 c
    omega
theorem st_right {M M1 M2 : Mem} {z1 z2 : Int} {v m w : Int} (hw : wf M) (hR : RR M) (h1 : z1 = -1 ∧ M1 = M ∧ ¬ (0 < v ∧ v < 64 ∧ 0 ≤ m ∧ m ≤ 3 ∧ 0 ≤ w ∧ w < 2) ∨ (0 < v ∧ v < 64 ∧ 0 ≤ m ∧ m ≤ 3 ∧ 0 ≤ w ∧ w < 2) ∧ offC M M1 16 57 ∧ (w = 0 ∧ z1 = tfS (lkS M) m.toNat v.toNat (M 0 12) ∨ w = 1 ∧ m = 0 ∧ z1 = -4 ∨ w = 1 ∧ 0 < m ∧ ∃ le : Int, (0 ≤ le ∧ le ≤ 5 ∧ (∀ j : Int, 0 ≤ j → j < le → v.toNat.testBit j.toNat = false) ∧ (le = 5 ∨ v.toNat.testBit le.toNat = true)) ∧ z1 = (fmK (fmR M ((v.toNat &&& lkS M le (M 0 12) : Nat) : Int) m) 6).2)) (h2 : z2 = -1 ∧ M2 = M1 ∧ ¬ (0 < v ∧ v < 64 ∧ 0 ≤ m ∧ m ≤ 3 ∧ 0 ≤ w ∧ w < 2) ∨ (0 < v ∧ v < 64 ∧ 0 ≤ m ∧ m ≤ 3 ∧ 0 ≤ w ∧ w < 2) ∧ ofS [81, 82, 83, 84, 86, 87, 89] M1 M2 ∧ (w = 0 ∧ z2 = rgR (lkN M1) m.toNat v.toNat (M1 71 19) ∨ w = 1 ∧ m = 0 ∧ z2 = -4 ∨ w = 1 ∧ 0 < m ∧ ∃ le : Int, (0 ≤ le ∧ le ≤ 5 ∧ (∀ j : Int, 0 ≤ j → j < le → v.toNat.testBit j.toNat = false) ∧ v.toNat.testBit le.toNat = true) ∧ 0 ≤ z2 ∧ z2 < 6 ∧ rgR (lkN M1) (m - 1).toNat (v.toNat &&& lkN M1 le (M1 71 19)) (mvT (M1 71 19) z2) = rgF (lkN M1) m.toNat (v.toNat &&& lkN M1 le (M1 71 19)) (M1 71 19) ∧ ∀ q : Int, 0 ≤ q → q < z2 → ¬ rgR (lkN M1) (m - 1).toNat (v.toNat &&& lkN M1 le (M1 71 19)) (mvT (M1 71 19) q) = rgF (lkN M1) m.toNat (v.toNat &&& lkN M1 le (M1 71 19)) (M1 71 19))) : z1 = z2 ∧ RR M2 := by
  rcases h1 with ⟨a1, a2, a3⟩ | ⟨a1, a2, a3⟩
  · subst a2
    rcases h2 with ⟨b1, b2, b3⟩ | ⟨b1, b2, b3⟩
    · subst b2
      exact ⟨a1.trans b1.symm, hR⟩
    · exact absurd b1 a3
  · rcases h2 with ⟨b1, b2, b3⟩ | ⟨b1, b2, b3⟩
    · exact absurd a1 b3
    · obtain ⟨r1, e71, efe, esh, eha, ehu, eal, elk, e78, e80, e85⟩ := RR_1 hR a2
      refine ⟨?_, RR_m r1 b2 (by decide)⟩
      have hc := cam_in hw
      rw [elk, e71, ← hR.1.2.2.2.2, ← RR_lk hR] at b3
      have hA : lkA (lkS M) := by
        rw [RR_lk hR]
        exact lkN_A M
      rcases a3 with ⟨c1, c2⟩ | ⟨c1, c2, c3⟩ | ⟨c1, c2, le, c3, c4⟩
      · rcases b3 with ⟨d1, d2⟩ | ⟨d1, d2, d3⟩ | ⟨d1, d2, le', d3, d4⟩
        · rw [c2, d2]
          exact (tf_rg hA m.toNat v.toNat (by omega) (M 0 12) hc.1 hc.2).1
        · omega
        · omega
      · rcases b3 with ⟨d1, d2⟩ | ⟨d1, d2, d3⟩ | ⟨d1, d2, le', d3, d4⟩
        · omega
        · rw [c3, d3]
        · omega
      · rcases b3 with ⟨d1, d2⟩ | ⟨d1, d2, d3⟩ | ⟨d1, d2, le', d3, d4, d5, d6, d7⟩
        · omega
        · omega
        · have el := le_u c3 d3
          subst el
          have h64 : v.toNat &&& lkS M le (M 0 12) < 64 := and64 (by omega)
          have hpos : 0 < v.toNat &&& lkS M le (M 0 12) := by
            refine Nat.pos_of_ne_zero (fun h => ?_)
            have hE := (hA (M 0 12) hc.1 hc.2).2.2.1 le.toNat (by omega)
            rw [Int.toNat_of_nonneg d3.1] at hE
            have h2 : (v.toNat &&& lkS M le (M 0 12)).testBit le.toNat = true := by rw [Nat.testBit_and, d3.2.2.2, hE]; rfl
            rw [h] at h2
            simp at h2
          have er : fmR M ((v.toNat &&& lkS M le (M 0 12) : Nat) : Int) m = fun q => rgR (lkS M) (m - 1).toNat (v.toNat &&& lkS M le (M 0 12)) (mvT (M 0 12) q) := by
            funext q
            unfold fmR
            rw [Int.toNat_natCast]
            exact (tf_rg hA (m - 1).toNat _ h64 _ (mvT_in hc.1 hc.2).1 (mvT_in hc.1 hc.2).2).1
          rw [er] at c4
          have eF : rgF (lkS M) m.toNat (v.toNat &&& lkS M le (M 0 12)) (M 0 12) = mxK (fun q => rgR (lkS M) (m - 1).toNat (v.toNat &&& lkS M le (M 0 12)) (mvT (M 0 12) q)) 6 := by
            rw [show m.toNat = (m - 1).toNat + 1 by omega]
            rfl
          rw [eF] at d6 d7
          exact first_u (fun k _ => ((tf_rg hA (m - 1).toNat _ h64 _ (mvT_in hc.1 hc.2).1 (mvT_in hc.1 hc.2).2).2 hpos).1) c4 ⟨d4, d5, d6, d7⟩
theorem st_needs {M M1 M2 : Mem} {z1 z2 : Int} {v : Int} (hw : wf M) (hR : RR M) (h1 : z1 = -1 ∧ M1 = M ∧ ¬ (0 < v ∧ v < 64) ∨ (0 < v ∧ v < 64) ∧ offC M M1 16 57 ∧ (0 ≤ z1 ∧ z1 ≤ 3 ∧ tfS (lkS M) (z1).toNat v.toNat (M 0 12) = ((popN v.toNat 16 : Nat) : Int) ∧ (∀ q : Int, 0 ≤ q → q < z1 → ¬ tfS (lkS M) (q).toNat v.toNat (M 0 12) = ((popN v.toNat 16 : Nat) : Int)) ∨ z1 = -4 ∧ ∀ q : Int, 0 ≤ q → q < 4 → ¬ tfS (lkS M) (q).toNat v.toNat (M 0 12) = ((popN v.toNat 16 : Nat) : Int))) (h2 : z2 = -1 ∧ M2 = M1 ∧ ¬ (0 < v ∧ v < 64) ∨ (0 < v ∧ v < 64) ∧ ofS [81, 82, 83, 84, 86, 87, 89] M1 M2 ∧ (0 ≤ z2 ∧ z2 ≤ 3 ∧ rgR (lkN M1) (z2).toNat v.toNat (M1 71 19) = ((popN v.toNat 16 : Nat) : Int) ∧ (∀ q : Int, 0 ≤ q → q < z2 → ¬ rgR (lkN M1) (q).toNat v.toNat (M1 71 19) = ((popN v.toNat 16 : Nat) : Int)) ∨ z2 = -4 ∧ ∀ q : Int, 0 ≤ q → q < 4 → ¬ rgR (lkN M1) (q).toNat v.toNat (M1 71 19) = ((popN v.toNat 16 : Nat) : Int))) : z1 = z2 ∧ RR M2 := by
  rcases h1 with ⟨a1, a2, a3⟩ | ⟨a1, a2, a3⟩
  · subst a2
    rcases h2 with ⟨b1, b2, b3⟩ | ⟨b1, b2, b3⟩
    · subst b2
      exact ⟨a1.trans b1.symm, hR⟩
    · exact absurd b1 a3
  · rcases h2 with ⟨b1, b2, b3⟩ | ⟨b1, b2, b3⟩
    · exact absurd a1 b3
    · obtain ⟨r1, e71, efe, esh, eha, ehu, eal, elk, e78, e80, e85⟩ := RR_1 hR a2
      refine ⟨?_, RR_m r1 b2 (by decide)⟩
      have hc := cam_in hw
      rw [elk, e71, ← hR.1.2.2.2.2, ← RR_lk hR] at b3
      have hA : lkA (lkS M) := by
        rw [RR_lk hR]
        exact lkN_A M
      have et : ∀ q : Int, tfS (lkS M) q.toNat v.toNat (M 0 12) = rgR (lkS M) q.toNat v.toNat (M 0 12) := fun q => (tf_rg hA q.toNat v.toNat (by omega) (M 0 12) hc.1 hc.2).1
      rcases a3 with ⟨c1, c2, c3, c4⟩ | ⟨c1, c2⟩ <;> rcases b3 with ⟨d1, d2, d3, d4⟩ | ⟨d1, d2⟩
      · rcases (show z1 < z2 ∨ z1 = z2 ∨ z2 < z1 by omega) with c | c | c
        · exact absurd (by rw [← et]; exact c3) (d4 z1 c1 c)
        · exact c
        · exact absurd (by rw [et]; exact d3) (c4 z2 d1 c)
      · exact absurd (by rw [← et]; exact c3) (d2 z1 c1 (by omega))
      · exact absurd (by rw [et]; exact d3) (c2 z2 d1 (by omega))
      · rw [c1, d1]
