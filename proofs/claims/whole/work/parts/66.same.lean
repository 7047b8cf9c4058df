/-! ===== the code's world and the reference's world say the same ===== -/
def shR (M : Mem) (k : Nat) : Prop := M (63 + 2 * k) 1 = mSz M k ∧ (¬ M 96 k = -4 → M (63 + 2 * k) 2 = M 96 k) ∧ ∀ j, j < 64 → M (63 + 2 * k + 1) j = M 98 (64 * k + j)
def R1 (M : Mem) : Prop := M 12 = M 80 ∧ (∀ j, j < 12 → M 2 j = M 78 j) ∧ (∀ q, q < 16 → M 3 q = M 78 (12 + q)) ∧ eqF (M 13) (M 85) ∧ M 0 12 = M 71 19
def R2 (M : Mem) : Prop := M 0 13 = M 71 28 ∧ M 0 14 = M 71 45 ∧ M 7 1 = M 71 1 ∧ M 7 2 = M 71 2 ∧ M 11 = M 72
def R3 (M : Mem) : Prop := M 57 4 = M 71 37 ∧ M 58 = M 92 ∧ M 59 = M 93 ∧ M 60 = M 94 ∧ M 61 = M 95
def R4 (M : Mem) : Prop := M 71 26 = 0 ∧ M 71 27 = 0 ∧ ∀ k, k < 4 → shR M k
def RR (M : Mem) : Prop := R1 M ∧ R2 M ∧ R3 M ∧ R4 M
/-- scratch: cells that no call leaves anything in -/
def scK (i : Nat) : Prop := 4 ≤ i ∧ i < 7 ∨ 8 ≤ i ∧ i < 11 ∨ i = 14 ∨ 16 ≤ i ∧ i < 57 ∨ i = 79 ∨ 81 ≤ i ∧ i < 85 ∨ 86 ≤ i ∧ i < 92
def scF (j : Nat) : Prop := j = 0 ∨ 3 ≤ j ∧ j < 9 ∨ j = 16 ∨ j = 17 ∨ j = 24 ∨ j = 33 ∨ j = 34
def keep (M M' : Mem) : Prop := (∀ i j, ¬ scK i → i ≠ 71 → i ≠ 7 → M' i j = M i j) ∧ (∀ j, ¬ scF j → M' 71 j = M 71 j) ∧ M' 7 1 = M 7 1 ∧ M' 7 2 = M 7 2
theorem keep_f {M M' : Mem} (h : keep M M') {i : Nat} (h1 : ¬ scK i) (h2 : i ≠ 71) (h3 : i ≠ 7) : M' i = M i := funext fun j => h.1 i j h1 h2 h3
theorem keep_rf {M : Mem} : keep M M := ⟨fun _ _ _ _ _ => rfl, fun _ _ => rfl, rfl, rfl⟩
theorem keep_tr {M M1 M2 : Mem} (h1 : keep M M1) (h2 : keep M1 M2) : keep M M2 := ⟨fun i j a b c => (h2.1 i j a b c).trans (h1.1 i j a b c), fun j a => (h2.2.1 j a).trans (h1.2.1 j a), h2.2.2.1.trans h1.2.2.1, h2.2.2.2.trans h1.2.2.2⟩
theorem keep_c {M M' : Mem} (h : offC M M' 16 57) : keep M M' := ⟨fun i j a _ _ => h i j (by unfold scK at a; omega), fun j _ => h 71 j (by omega), h 7 1 (by omega), h 7 2 (by omega)⟩
theorem keep_m {S : List Nat} {M M' : Mem} (h : ofS S M M') (hs : ∀ i ∈ S, scK i ∧ i ≠ 7 ∧ i ≠ 71) : keep M M' := ⟨fun i j a b _ => h i j (fun q => a (hs i q).1) (fun q => b q.1), fun j a => h 71 j (fun q => (hs 71 q).2.2 rfl) (fun q => a (by unfold scF; omega)), h 7 1 (fun q => (hs 7 q).2.1 rfl) (fun q => by omega), h 7 2 (fun q => (hs 7 q).2.1 rfl) (fun q => by omega)⟩
theorem RR_keep {M M' : Mem} (hR : RR M) (h : keep M M') : RR M' := by
  have f : ∀ i, ¬ scK i → i ≠ 71 → i ≠ 7 → M' i = M i := fun i a b c => keep_f h a b c
  have g := h.2.1
  obtain ⟨⟨a1, a2, a3, a4, a5⟩, ⟨b1, b2, b3, b4, b5⟩, ⟨c1, c2, c3, c4, c5⟩, d1, d2, d3⟩ := hR
  refine ⟨⟨?_, ?_, ?_, ?_, ?_⟩, ⟨?_, ?_, ?_, ?_, ?_⟩, ⟨?_, ?_, ?_, ?_, ?_⟩, ?_, ?_, ?_⟩
  · rw [f 12 (by unfold scK; omega) (by decide) (by decide), f 80 (by unfold scK; omega) (by decide) (by decide)]; exact a1
  · rw [f 2 (by unfold scK; omega) (by decide) (by decide), f 78 (by unfold scK; omega) (by decide) (by decide)]; exact a2
  · rw [f 3 (by unfold scK; omega) (by decide) (by decide), f 78 (by unfold scK; omega) (by decide) (by decide)]; exact a3
  · rw [f 13 (by unfold scK; omega) (by decide) (by decide), f 85 (by unfold scK; omega) (by decide) (by decide)]; exact a4
  · rw [f 0 (by unfold scK; omega) (by decide) (by decide), g 19 (by unfold scF; omega)]; exact a5
  · rw [f 0 (by unfold scK; omega) (by decide) (by decide), g 28 (by unfold scF; omega)]; exact b1
  · rw [f 0 (by unfold scK; omega) (by decide) (by decide), g 45 (by unfold scF; omega)]; exact b2
  · rw [h.2.2.1, g 1 (by unfold scF; omega)]; exact b3
  · rw [h.2.2.2, g 2 (by unfold scF; omega)]; exact b4
  · rw [f 11 (by unfold scK; omega) (by decide) (by decide), f 72 (by unfold scK; omega) (by decide) (by decide)]; exact b5
  · rw [f 57 (by unfold scK; omega) (by decide) (by decide), g 37 (by unfold scF; omega)]; exact c1
  · rw [f 58 (by unfold scK; omega) (by decide) (by decide), f 92 (by unfold scK; omega) (by decide) (by decide)]; exact c2
  · rw [f 59 (by unfold scK; omega) (by decide) (by decide), f 93 (by unfold scK; omega) (by decide) (by decide)]; exact c3
  · rw [f 60 (by unfold scK; omega) (by decide) (by decide), f 94 (by unfold scK; omega) (by decide) (by decide)]; exact c4
  · rw [f 61 (by unfold scK; omega) (by decide) (by decide), f 95 (by unfold scK; omega) (by decide) (by decide)]; exact c5
  · rw [g 26 (by unfold scF; omega)]; exact d1
  · rw [g 27 (by unfold scF; omega)]; exact d2
  · intro k hk
    have q := d3 k hk
    unfold shR mSz at q ⊢
    rw [f (63 + 2 * k) (by unfold scK; omega) (by omega) (by omega), f (63 + 2 * k + 1) (by unfold scK; omega) (by omega) (by omega), f 96 (by unfold scK; omega) (by decide) (by decide), f 97 (by unfold scK; omega) (by decide) (by decide), f 98 (by unfold scK; omega) (by decide) (by decide)]
    exact q
/-- pictures by the values alone -/
theorem picS_v {L v v' : Nat → Int} {s0 pl : Int} (h : ∀ j, j < 12 → v j = v' j) : picS L v s0 pl = picS L v' s0 pl := by
  have e : (fun j => if j < 12 then v j else 0) = (fun j => if j < 12 then v' j else (0 : Int)) := funext fun j => by
    by_cases c : j < 12
    · rw [if_pos c, if_pos c, h j c]
    · rw [if_neg c, if_neg c]
  have e1 : picS L v s0 pl = picS L (fun j => if j < 12 then v j else 0) s0 pl := rfl
  have e2 : picS L v' s0 pl = picS L (fun j => if j < 12 then v' j else 0) s0 pl := rfl
  rw [e1, e2, e]
theorem stS_v {v v' s : Nat → Int} {t p : Int} (h : ∀ j, j < 12 → v j = v' j) : stS v s t p = stS v' s t p := by
  unfold stS
  rw [h 1 (by decide), h 2 (by decide), h 3 (by decide)]
theorem feS_v {v v' lst lst' s td td' : Nat → Int} {p : Int} (h : ∀ j, j < 12 → v j = v' j) (hl : lst p.toNat = lst' p.toNat) (ht : td p.toNat = td' p.toNat) : feS v lst s td p = feS v' lst' s td' p := by
  unfold feS
  rw [h 11 (by decide), h 4 (by decide), hl, ht, stS_v h]
theorem hbS_v {v v' lst lst' s td td' : Nat → Int} {p : Int} (h : ∀ j, j < 12 → v j = v' j) (hl : lst p.toNat = lst' p.toNat) (ht : td p.toNat = td' p.toNat) : hbS v lst s td p ↔ hbS v' lst' s td' p := by
  unfold hbS
  rw [h 11 (by decide), h 4 (by decide), hl, ht, stS_v h]
theorem picF_v {L v v' lst lst' td td' : Nat → Int} {s0 pl : Int} (h : ∀ j, j < 12 → v j = v' j) (hl : eqF lst lst') (ht : eqF td td') : eqF (picF L v lst td s0 pl) (picF L v' lst' td' s0 pl) := fun q hq => by
  unfold picF
  rw [picS_v h]
  exact feS_v h (by rw [Int.toNat_natCast]; exact hl q hq) (by rw [Int.toNat_natCast]; exact ht q hq)
theorem picU_v {L v v' lst lst' td td' : Nat → Int} {s0 pl : Int} (h : ∀ j, j < 12 → v j = v' j) (hl : eqF lst lst') (ht : eqF td td') : picU L v lst td s0 pl = picU L v' lst' td' s0 pl := by
  unfold picU
  rw [picS_v h]
  have key : ∀ k, k ≤ 16 → huS v lst (picS L v' s0 pl) td k = huS v' lst' (picS L v' s0 pl) td' k := by
    intro k
    induction k with
    | zero => exact fun _ => rfl
    | succ k ih =>
      intro hk
      have i := ih (by omega)
      show (if hbS v lst (picS L v' s0 pl) td (k : Int) then huS v lst (picS L v' s0 pl) td k ||| 2 ^ k else huS v lst (picS L v' s0 pl) td k) = (if hbS v' lst' (picS L v' s0 pl) td' (k : Int) then huS v' lst' (picS L v' s0 pl) td' k ||| 2 ^ k else huS v' lst' (picS L v' s0 pl) td' k)
      rw [i]
      have e := hbS_v (s := picS L v' s0 pl) (p := (k : Int)) (lst := lst) (lst' := lst') (td := td) (td' := td') h (by rw [Int.toNat_natCast]; exact hl k (by omega)) (by rw [Int.toNat_natCast]; exact ht k (by omega))
      by_cases c : hbS v lst (picS L v' s0 pl) td (k : Int)
      · rw [if_pos c, if_pos (e.mp c)]
      · rw [if_neg c, if_neg (fun q => c (e.mpr q))]
  exact key 16 (by omega)
theorem RR_v {M : Mem} (h : RR M) : ∀ j, j < 12 → M 2 j = mV M j := fun j hj => by
  rw [h.1.2.1 j hj]
  unfold mV
  rw [if_neg (fun q => absurd (h.2.2.2.2.1.symm.trans q.2) (by decide))]
theorem RR_l {M : Mem} (h : RR M) : eqF (M 3) (mL M) := fun q hq => h.1.2.2.1 q hq
theorem RR_d {M : Mem} (h : RR M) : eqF (M 13) (mD M) := fun q hq => by
  rw [h.1.2.2.2.1 q hq]
  unfold mD
  rw [if_neg (fun c => absurd (h.2.2.2.1.symm.trans c) (by decide))]
theorem RR_fe {M : Mem} (h : RR M) (sc pl : Int) : eqF (feC M sc pl) (feM M sc pl) := by
  unfold feC feM
  rw [h.1.1]
  exact picF_v (RR_v h) (RR_l h) (RR_d h)
theorem RR_hu {M : Mem} (h : RR M) (sc pl : Int) : huC M sc pl = huM M sc pl := by
  unfold huC huM
  rw [h.1.1]
  exact picU_v (RR_v h) (RR_l h) (RR_d h)
theorem RR_sh {M : Mem} (h : RR M) : shC M = shN M := by
  funext sc pl
  unfold shC shN
  rw [h.1.1]
  exact picS_v (RR_v h)
theorem RR_ha {M : Mem} (h : RR M) : haC M = haM M := by
  funext sc pl
  unfold haC haM
  rw [h.1.1]
theorem eqB_cg {a a' b b' : Nat → Int} (h : eqF a a') (h2 : eqF b b') : eqB a b = eqB a' b' := by
  cases c : eqB a' b'
  · cases d : eqB a b
    · rfl
    · have := eqF_tr (eqF_sy h) (eqF_tr (eqB_iff.mp d) h2)
      rw [eqB_iff.mpr this] at c
      exact c
  · exact eqB_iff.mpr (eqF_tr h (eqF_tr (eqB_iff.mp c) (eqF_sy h2)))
theorem RR_al {M : Mem} (h : RR M) : alC M = alM M := by
  funext a b pl
  unfold alC alM
  exact eqB_cg (RR_fe h a pl) (RR_fe h b pl)
theorem RR_lk {M : Mem} (h : RR M) : lkS M = lkN M := by
  funext a pl
  unfold lkS lkN
  rw [RR_al h]
/-- being alike is an equivalence -/
theorem lkN_A (M : Mem) : lkA (lkN M) := by
  intro pl _ _
  have hb : ∀ a b : Nat, b < 6 → (lkN M (a : Int) pl).testBit b = alM M (a : Int) (b : Int) pl := fun a b hb => by
    unfold lkN
    rw [bK_bit, decide_eq_true hb, Bool.true_and]
  refine ⟨fun a b ha hb' h => ?_, fun a b c ha hb' hc h1 h2 => ?_, fun a ha => ?_, fun a ha => ?_⟩
  · rw [hb a b hb'] at h
    rw [hb b a ha]
    exact eqB_iff.mpr (eqF_sy (eqB_iff.mp h))
  · rw [hb a b hb'] at h1
    rw [hb b c hc] at h2
    rw [hb a c hc]
    exact eqB_iff.mpr (eqF_tr (eqB_iff.mp h1) (eqB_iff.mp h2))
  · rw [hb a a ha]
    exact eqB_iff.mpr eqF_rf
  · exact bK_lt _ 6
/-- the frame of a call, to carry specs of the reference over the code's scratch -/
theorem RR_1 {M M1 : Mem} (hR : RR M) (h : offC M M1 16 57) : RR M1 ∧ M1 71 = M 71 ∧ feM M1 = feM M ∧ shN M1 = shN M ∧ haM M1 = haM M ∧ huM M1 = huM M ∧ alM M1 = alM M ∧ lkN M1 = lkN M ∧ M1 78 = M 78 ∧ M1 80 = M 80 ∧ M1 85 = M 85 := by
  have e71 : M1 71 = M 71 := offC_f h (by omega)
  have e78 : M1 78 = M 78 := offC_f h (by omega)
  have e80 : M1 80 = M 80 := offC_f h (by omega)
  have e85 : M1 85 = M 85 := offC_f h (by omega)
  have v : mV M1 = mV M := by
    funext j
    unfold mV
    rw [e71, e78]
  have l : mL M1 = mL M := by
    funext j
    unfold mL
    rw [e78]
  have d : mD M1 = mD M := by
    funext j
    unfold mD
    rw [e71, e85]
  have fe : feM M1 = feM M := by
    funext sc pl
    unfold feM
    rw [e80, v, l, d]
  have al : alM M1 = alM M := by
    funext a b pl
    unfold alM
    rw [fe]
  refine ⟨RR_keep hR (keep_c h), e71, fe, ?_, ?_, ?_, al, ?_, e78, e80, e85⟩
  · funext sc pl
    unfold shN
    rw [e80, v]
  · funext sc pl
    unfold haM
    rw [e80]
  · funext sc pl
    unfold huM
    rw [e80, v, l, d]
  · funext a pl
    unfold lkN
    rw [al]
