theorem mt_i {c m : Int} (c0 : 0 ≤ c) (c1 : c < 26) (m0 : 0 ≤ m) (m1 : m < 6) : mvT c m = (mt c.toNat m.toNat : Int) ∧ mt c.toNat m.toNat < 26 := by
  have h := mt_ok c.toNat (by omega) m.toNat (by omega)
  rw [Int.toNat_of_nonneg c0, Int.toNat_of_nonneg m0] at h
  exact h
theorem all3 {f : Nat → Nat → Nat → Bool} (h : ((List.range 26).all fun c => (List.range 26).all fun p => (List.range 26).all fun q => f c p q) = true) {c p q : Nat} (hc : c < 26) (hp : p < 26) (hq : q < 26) : f c p q = true := by
  have h1 := List.all_eq_true.mp h c (List.mem_range.mpr hc)
  have h2 := List.all_eq_true.mp h1 p (List.mem_range.mpr hp)
  exact List.all_eq_true.mp h2 q (List.mem_range.mpr hq)
theorem rk_inj {c p q : Nat} (hc : c < 26) (hp : p < 26) (hq : q < 26) (h : rk c p = rk c q) : p = q := by
  have a := (vq_rk c hc p hp).2
  have b := (vq_rk c hc q hq).2
  rw [h, b] at a
  exact (congrArg Prod.fst a).symm
theorem rk_di {c p q : Nat} (hc : c < 26) (hp : p < 26) (hq : q < 26) (h : rk c p ≤ rk c q) : di c p ≤ di c q := by
  by_cases e : rk c p = rk c q
  · rw [rk_inj hc hp hq e]
    exact Nat.le_refl _
  · have k := all3 ck5_t hc hp hq
    rw [Bool.or_eq_true] at k
    rcases k with k | k
    · have := Nat.le_of_ble_eq_true k
      omega
    · exact Nat.le_of_ble_eq_true k
theorem rk_fm {c p q : Nat} (hc : c < 26) (hp : p < 26) (hq : q < 26) (h1 : di c q = di c p) (h2 : fm c q < fm c p) : rk c q < rk c p := by
  have k := all3 ck6_t hc hp hq
  rw [Bool.or_eq_true, Bool.or_eq_true] at k
  rcases k with (k | k) | k
  · rw [h1, Nat.beq_refl] at k
    exact absurd k (by decide)
  · rw [Nat.ble_eq_true_of_le h2] at k
    exact absurd k (by decide)
  · exact Nat.le_of_ble_eq_true k
theorem rk_st {c p q : Nat} (hc : c < 26) (hp : p < 26) (hq : q < 26) (hn : p ≠ c) (h1 : di c q = di c p) (h2 : di (mt c (fm c p)) q = di (mt c (fm c p)) p) (h3 : rk (mt c (fm c p)) q < rk (mt c (fm c p)) p) : rk c q < rk c p := by
  have k := all3 ck7_t hc hp hq
  rw [Bool.or_eq_true, Bool.or_eq_true, Bool.or_eq_true, Bool.or_eq_true] at k
  rcases k with (((k | k) | k) | k) | k
  · exact absurd (Nat.eq_of_beq_eq_true k).symm hn
  · rw [h1, Nat.beq_refl] at k
    exact absurd k (by decide)
  · rw [h2, Nat.beq_refl] at k
    exact absurd k (by decide)
  · rw [Nat.ble_eq_true_of_le h3] at k
    exact absurd k (by decide)
  · exact Nat.le_of_ble_eq_true k
/-- the first PLACE, in the order of reaching, where two are not alike -/
def bst (al : Nat → Bool) (c p : Nat) : Prop := p < 26 ∧ al p = false ∧ ∀ q, q < 26 → al q = false → rk c p ≤ rk c q
theorem bst_ex {al : Nat → Bool} {c : Nat} : ∀ n p, rk c p = n → p < 26 → al p = false → ∃ r, bst al c r := by
  intro n
  induction n using Nat.strongRecOn with
  | _ n ih =>
    intro p hn hp ha
    by_cases h : ∃ q, q < 26 ∧ al q = false ∧ rk c q < n
    · obtain ⟨q, q1, q2, q3⟩ := h
      exact ih _ q3 q rfl q1 q2
    · refine ⟨p, hp, ha, fun q q1 q2 => ?_⟩
      rw [hn]
      exact Nat.le_of_not_lt (fun h7 => h ⟨q, q1, q2, h7⟩)
theorem bst_eq {al : Nat → Bool} {c p q : Nat} (hc : c < 26) (hp : bst al c p) (hq : bst al c q) : p = q := rk_inj hc hp.1 hq.1 (Nat.le_antisymm (hp.2.2 q hq.1 hq.2.1) (hq.2.2 p hp.1 hp.2.1))
def fLB (al : Nat → Bool) (far : Nat → Int) : Prop := ∀ c, c < 26 → far c = 100 ∨ ∃ p, p < 26 ∧ al p = false ∧ (di c p : Int) ≤ far c
def fUB (al : Nat → Bool) (r : Nat) (far : Nat → Int) : Prop := ∀ c p, c < 26 → p < 26 → al p = false → di c p ≤ r → far c ≤ (di c p : Int)
def fUA (al : Nat → Bool) (r a : Nat) (far : Nat → Int) : Prop := ∀ c p, c < 26 → c < a → p < 26 → al p = false → di c p ≤ r + 1 → far c ≤ (di c p : Int)
def fUM (al : Nat → Bool) (r a m : Nat) (far : Nat → Int) : Prop := ∀ p k, p < 26 → al p = false → k < m → di (mt a k) p + 1 = di a p → di a p ≤ r + 1 → far a ≤ (di a p : Int)
def fOK (al : Nat → Bool) (far : Nat → Int) : Prop := ∀ c, c < 26 → far c = 100 ∧ (∀ p, p < 26 → al p = true) ∨ ∃ p, p < 26 ∧ al p = false ∧ far c = (di c p : Int) ∧ ∀ q, q < 26 → al q = false → di c p ≤ di c q
theorem f_init {al : Nat → Bool} {far : Nat → Int} (h : ∀ q, q < 26 → far q = if al q = true then 100 else 0) : fLB al far ∧ fUB al 0 far := by
  refine ⟨fun c hc => ?_, fun c p hc hp ha hd => ?_⟩
  · rw [h c hc]
    by_cases e : al c = true
    · rw [if_pos e]
      exact Or.inl rfl
    · rw [if_neg e]
      exact Or.inr ⟨c, hc, by simpa using e, by rw [(di_0 c hc).1]; exact Int.le_refl _⟩
  · have e : p = c := Classical.byContradiction fun e => by have := di_p c hc p hp e; omega
    subst e
    rw [h p hp, if_neg (by rw [ha]; decide)]
    exact Int.natCast_nonneg _
theorem f_ok {al : Nat → Bool} {far : Nat → Int} (h1 : fLB al far) (h2 : fUB al 26 far) : fOK al far := by
  intro c hc
  by_cases e : ∃ p, p < 26 ∧ al p = false
  · obtain ⟨p0, a1, a2⟩ := e
    obtain ⟨p, b1, b2, b3⟩ := bst_ex (c := c) _ p0 rfl a1 a2
    refine Or.inr ⟨p, b1, b2, ?_, fun q q1 q2 => rk_di hc b1 q1 (b3 q q1 q2)⟩
    have u := h2 c p hc b1 b2 (by have := di_8 c hc p b1; omega)
    have d8 := di_8 c hc p b1
    rcases h1 c hc with k | ⟨q, q1, q2, q3⟩
    · omega
    · have := rk_di hc b1 q1 (b3 q q1 q2)
      omega
  · have e2 : ∀ p, p < 26 → al p = true := fun p hp => by
      cases h : al p
      · exact absurd ⟨p, hp, h⟩ e
      · rfl
    refine Or.inl ⟨?_, e2⟩
    rcases h1 c hc with k | ⟨q, q1, q2, q3⟩
    · exact k
    · rw [e2 q q1] at q2
      exact absurd q2 (by decide)
theorem f_step {al : Nat → Bool} {far : Nat → Int} {r a m : Nat} {j : Int} (ha : a < 26) (hm : m < 6) (h100 : far a ≤ 100) (hj : j = min (far (mt a m) + 1) (far a)) (h1 : fLB al far) (h2 : fUB al r far) (h3 : fUA al r a far) (h4 : fUM al r a m far) : fLB al (fun q => if q = a then j else far q) ∧ fUB al r (fun q => if q = a then j else far q) ∧ fUA al r a (fun q => if q = a then j else far q) ∧ fUM al r a (m + 1) (fun q => if q = a then j else far q) := by
  have hl := (mt_ok a ha m hm).2
  refine ⟨fun c hc => ?_, fun c p hc hp hal hd => ?_, fun c p hc hca hp hal hd => ?_, fun p k hp hal hk hd hr => ?_⟩
  · show (if c = a then j else far c) = 100 ∨ ∃ p, p < 26 ∧ al p = false ∧ (di c p : Int) ≤ if c = a then j else far c
    by_cases e : c = a
    · rw [if_pos e, e]
      rcases h1 (mt a m) hl with k | ⟨p, p1, p2, p3⟩
      · rw [hj, k, show min ((100 : Int) + 1) (far a) = far a by omega]
        exact h1 a ha
      · rcases h1 a ha with k2 | ⟨q, q1, q2, q3⟩
        · rcases (show j = 100 ∨ j = far (mt a m) + 1 by omega) with k3 | k3
          · exact Or.inl k3
          · have := di_le a ha m hm p p1
            exact Or.inr ⟨p, p1, p2, by omega⟩
        · rcases (show j = far a ∨ j = far (mt a m) + 1 by omega) with k3 | k3
          · exact Or.inr ⟨q, q1, q2, by omega⟩
          · have := di_le a ha m hm p p1
            exact Or.inr ⟨p, p1, p2, by omega⟩
    · rw [if_neg e]
      exact h1 c hc
  · show (if c = a then j else far c) ≤ _
    have := h2 c p hc hp hal hd
    by_cases e : c = a
    · rw [if_pos e]
      rw [e] at this
      rw [e]
      omega
    · rw [if_neg e]
      exact this
  · show (if c = a then j else far c) ≤ _
    rw [if_neg (by omega)]
    exact h3 c p hc hca hp hal hd
  · show (if a = a then j else far a) ≤ _
    rw [if_pos rfl]
    by_cases e : k < m
    · have := h4 p k hp hal e hd hr
      omega
    · have e2 : k = m := by omega
      rw [e2] at hd
      have := h2 (mt a m) p hl hp hal (by omega)
      omega
theorem f_mv {al : Nat → Bool} {far : Nat → Int} {r a : Nat} (ha : a < 26) (h2 : fUB al r far) (h3 : fUA al r a far) (h4 : fUM al r a 6 far) : fUA al r (a + 1) far := fun c p hc hca hp hal hd => by
  by_cases e : c < a
  · exact h3 c p hc e hp hal hd
  · have e2 : c = a := by omega
    subst e2
    by_cases e3 : p = c
    · subst e3
      exact h2 p p hc hp hal (by rw [(di_0 p hc).1]; omega)
    · obtain ⟨a1, a2, -⟩ := di_fm c hc p hp e3
      exact h4 p (fm c p) hp hal a1 a2 hd
theorem f_rd {al : Nat → Bool} {far : Nat → Int} {r : Nat} (h3 : fUA al r 26 far) : fUB al (r + 1) far := fun c p hc hp hal hd => h3 c p hc hc hp hal hd
theorem bst_far {al : Nat → Bool} {far : Nat → Int} {c p : Nat} (hc : c < 26) (h : fOK al far) (hb : bst al c p) : far c = (di c p : Int) := by
  rcases h c hc with ⟨-, k⟩ | ⟨q, q1, q2, q3, q4⟩
  · have := k p hb.1
    rw [hb.2.1] at this
    exact absurd this (by decide)
  · have a := rk_di hc hb.1 q1 (hb.2.2 q q1 q2)
    have b := q4 p hb.1 hb.2.1
    omega
theorem bst_mv {al : Nat → Bool} {c p : Nat} (hc : c < 26) (hb : bst al c p) (hn : p ≠ c) : bst al (mt c (fm c p)) p := by
  obtain ⟨a1, a2, -⟩ := di_fm c hc p hb.1 hn
  have hl := (mt_ok c hc (fm c p) a1).2
  refine ⟨hb.1, hb.2.1, fun q q1 q2 => Nat.le_of_not_lt fun h7 => ?_⟩
  have b1 := rk_di hl q1 hb.1 (Nat.le_of_lt h7)
  have b2 := di_le c hc (fm c p) a1 q q1
  have b3 := hb.2.2 q q1 q2
  have b4 := rk_di hc hb.1 q1 b3
  have b5 := rk_st hc hb.1 q1 hn (by omega) (by omega) h7
  omega
theorem far_no {al : Nat → Bool} {far : Nat → Int} {c p m : Nat} (hc : c < 26) (h : fOK al far) (hb : bst al c p) (hm : m < fm c p) (h6 : fm c p < 6) : ¬ far (mt c m) + 1 = far c := by
  intro e
  have hl := (mt_ok c hc m (by omega)).2
  rw [bst_far hc h hb] at e
  rcases h (mt c m) hl with ⟨k, -⟩ | ⟨q, q1, q2, q3, q4⟩
  · have := di_8 c hc p hb.1
    omega
  · have b2 := di_le c hc m (by omega) q q1
    have b4 := rk_di hc hb.1 q1 (hb.2.2 q q1 q2)
    have b5 := fm_le c hc m (by omega) q q1 (by omega)
    have b6 := rk_fm hc hb.1 q1 (by omega) (by omega)
    have b7 := hb.2.2 q q1 q2
    omega
theorem fg_mv {c p : Nat} {f : Int} (hc : c < 26) (hp : p < 26) (hn : p ≠ c) : f * ((6 ^ di c p : Nat) : Int) + (fg c p : Int) - ((6 ^ di c p : Nat) : Int) = (6 * f + (fm c p : Int)) * ((6 ^ di (mt c (fm c p)) p : Nat) : Int) + (fg (mt c (fm c p)) p : Int) - ((6 ^ di (mt c (fm c p)) p : Nat) : Int) := by
  obtain ⟨-, a2, a3⟩ := di_fm c hc p hp hn
  have e : 6 ^ di c p = 6 * 6 ^ di (mt c (fm c p)) p := by rw [← a2, Nat.pow_succ, Nat.mul_comm]
  generalize 6 ^ di (mt c (fm c p)) p = u at *
  generalize 6 ^ di c p = v at *
  subst e
  generalize fg (mt c (fm c p)) p = y at *
  generalize fm c p = n at *
  generalize fg c p = x at *
  have e3 : (x : Int) + (u : Int) = ((6 * u : Nat) : Int) + (n : Int) * (u : Int) + (y : Int) := by
    rw [← Int.natCast_mul, ← Int.natCast_add, ← Int.natCast_add, ← Int.natCast_add, a3]
  rw [Int.add_mul, Int.natCast_mul] at *
  have e4 : f * (((6 : Nat) : Int) * (u : Int)) = 6 * f * (u : Int) := by rw [← Int.mul_assoc, Int.mul_comm f]; rfl
  rw [e4]
  omega
abbrev rm_X8_layFar : Room := { frames := 1, cells := 0, slots := 0, locals := 21 }
theorem cs_X8_layFar : Cv yX8_layFar cX8_layFar 6 none 1 := ⟨kw_1116, ⟨kw_1115, kw_47⟩, kw_67, by decide, by decide, by decide +kernel⟩
set_option maxHeartbeats 4000000 in
set_option maxRecDepth 100000 in
theorem c_X8_layFar (l : Launch) (E : Ev) (M : Mem) (v : Int) (g1 : 0 ≤ v) (g2 : v ≤ 67108863) : Ct l yX8_layFar cX8_layFar 6 none rm_X8_layFar E M [.ref (E.1 (71)), .int (iI (v))] (pV (fun M' => offC M M' 88 89 ∧ fOK (fun p => v.toNat.testBit p) (M' 88))) := by
  refine Ct_of (lv := [(0, .ref (E.1 (71))), (1, .int (iI (v)))]) (by decide) ⟨rfl, rfl⟩ (Nat.le_of_ble_eq_true rfl) rfl (fun x _ B R => ?_)
  refine x_iconst B dX8_layFar_0 ?_
  refine x_istore_n B dX8_layFar_1 [1, 2, 0] rfl (by decide) (lv' := [(0, .ref (E.1 (71))), (1, .int (iI (v))), (2, .int (iI (0)))]) rfl ?_
  have L2 : ∀ (k : Int) (M1 : Mem), (0 ≤ k ∧ k ≤ 26 ∧ offC M M1 88 89 ∧ ltF (M1 88) (fun q => if v.toNat.testBit q = true then 100 else 0) k) → Vx x E M1 2 [(0, .ref (E.1 (71))), (1, .int (iI (v))), (2, .int (iI (k)))] [] := by
    refine lo2 _ _ (fun k M1 => (26 - k).toNat) ?_
    intro k M1 hI ih2
    obtain ⟨m1, m2, m3, m4⟩ := hI
    refine x_iload_n B dX8_layFar_2 2 rfl rfl ?_
    refine x_bipush B dX8_layFar_3 rfl ?_
    refine x_icmp_ge B (tgt := 35) dX8_layFar_5 (by decide) ⟨by omega, by omega⟩ ⟨by omega, by omega⟩ (fun c5 => ?_) (fun c5 => ?_)
    · show Vx x E M1 35 [(0, .ref (E.1 (71))), (1, .int (iI (v))), (2, .int (iI (k)))] []
      refine x_iconst B dX8_layFar_35 ?_
      refine x_istore_n B dX8_layFar_36 [1, 2, 0] rfl (by decide) (lv' := [(0, .ref (E.1 (71))), (1, .int (iI (v))), (2, .int (iI (0)))]) rfl ?_
      have L37 : ∀ (r : Int) (M2 : Mem), (0 ≤ r ∧ r ≤ 26 ∧ offC M M2 88 89 ∧ fLB (fun p => v.toNat.testBit p) (M2 88) ∧ fUB (fun p => v.toNat.testBit p) r.toNat (M2 88)) → Vx x E M2 37 [(0, .ref (E.1 (71))), (1, .int (iI (v))), (2, .int (iI (r)))] [] := by
        refine lo2 _ _ (fun r M2 => (26 - r).toNat) ?_
        intro r M2 hI ih37
        obtain ⟨i1, i2, i3, i4, i5⟩ := hI
        refine x_iload_n B dX8_layFar_37 2 rfl rfl ?_
        refine x_bipush B dX8_layFar_38 rfl ?_
        refine x_icmp_ge B (tgt := 122) dX8_layFar_40 (by decide) ⟨by omega, by omega⟩ ⟨by omega, by omega⟩ (fun c40 => ?_) (fun c40 => ?_)
        · show Vx x E M2 122 [(0, .ref (E.1 (71))), (1, .int (iI (v))), (2, .int (iI (r)))] []
          exact r_v B R dX8_layFar_122 (⟨i3, f_ok i4 (by rw [show r.toNat = 26 by omega] at i5; exact i5)⟩)
        · show Vx x E M2 43 [(0, .ref (E.1 (71))), (1, .int (iI (v))), (2, .int (iI (r)))] []
          refine x_iconst B dX8_layFar_43 ?_
          refine x_istore_n B dX8_layFar_44 [1, 2, 3, 0] rfl (by decide) (lv' := [(0, .ref (E.1 (71))), (1, .int (iI (v))), (2, .int (iI (r))), (3, .int (iI (0)))]) rfl ?_
          have L45 : ∀ (a : Int) (M3 : Mem), (0 ≤ a ∧ a ≤ 26 ∧ offC M M3 88 89 ∧ fLB (fun p => v.toNat.testBit p) (M3 88) ∧ fUB (fun p => v.toNat.testBit p) r.toNat (M3 88) ∧ fUA (fun p => v.toNat.testBit p) r.toNat a.toNat (M3 88)) → Vx x E M3 45 [(0, .ref (E.1 (71))), (1, .int (iI (v))), (2, .int (iI (r))), (3, .int (iI (a)))] [] := by
            refine lo2 _ _ (fun a M3 => (26 - a).toNat) ?_
            intro a M3 hI ih45
            obtain ⟨n1, n2, n3, n4, n5, n6⟩ := hI
            refine x_iload_n B dX8_layFar_45 3 rfl rfl ?_
            refine x_bipush B dX8_layFar_46 rfl ?_
            refine x_icmp_ge B (tgt := 116) dX8_layFar_48 (by decide) ⟨by omega, by omega⟩ ⟨by omega, by omega⟩ (fun c48 => ?_) (fun c48 => ?_)
            · show Vx x E M3 116 [(0, .ref (E.1 (71))), (1, .int (iI (v))), (2, .int (iI (r))), (3, .int (iI (a)))] []
              refine x_iinc B (q := 2) dX8_layFar_116 rfl [1, 2, 0, 3] (by decide) (lv' := [(0, .ref (E.1 (71))), (1, .int (iI (v))), (2, .int (iI (r + 1))), (3, .int (iI (a)))]) rfl ?_
              refine x_goto B (tgt := 37) dX8_layFar_119 (by decide) ?_
              refine x_lv [0, 1, 2] (lv' := [(0, .ref (E.1 (71))), (1, .int (iI (v))), (2, .int (iI (r + 1)))]) rfl ?_
              exact ih37 (r + 1) M3 (⟨by omega, by omega, n3, n4, by rw [show (r + 1).toNat = r.toNat + 1 by omega]; exact f_rd (by rw [show a.toNat = 26 by omega] at n6; exact n6)⟩) (by omega)
            · show Vx x E M3 51 [(0, .ref (E.1 (71))), (1, .int (iI (v))), (2, .int (iI (r))), (3, .int (iI (a)))] []
              refine x_iconst B dX8_layFar_51 ?_
              refine x_istore B dX8_layFar_52 [1, 2, 3, 4, 0] (by decide) (lv' := [(0, .ref (E.1 (71))), (1, .int (iI (v))), (2, .int (iI (r))), (3, .int (iI (a))), (4, .int (iI (0)))]) rfl ?_
              have L54 : ∀ (m : Int) (M4 : Mem), (0 ≤ m ∧ m ≤ 6 ∧ offC M M4 88 89 ∧ fLB (fun p => v.toNat.testBit p) (M4 88) ∧ fUB (fun p => v.toNat.testBit p) r.toNat (M4 88) ∧ fUA (fun p => v.toNat.testBit p) r.toNat a.toNat (M4 88) ∧ fUM (fun p => v.toNat.testBit p) r.toNat a.toNat m.toNat (M4 88)) → Vx x E M4 54 [(0, .ref (E.1 (71))), (1, .int (iI (v))), (2, .int (iI (r))), (3, .int (iI (a))), (4, .int (iI (m)))] [] := by
                refine lo2 _ _ (fun m M4 => (6 - m).toNat) ?_
                intro m M4 hI ih54
                obtain ⟨s1, s2, s3, s4, s5, s6, s7⟩ := hI
                refine x_iload B dX8_layFar_54 4 rfl ?_
                refine x_bipush B dX8_layFar_56 rfl ?_
                refine x_icmp_ge B (tgt := 110) dX8_layFar_58 (by decide) ⟨by omega, by omega⟩ ⟨by omega, by omega⟩ (fun c58 => ?_) (fun c58 => ?_)
                · show Vx x E M4 110 [(0, .ref (E.1 (71))), (1, .int (iI (v))), (2, .int (iI (r))), (3, .int (iI (a))), (4, .int (iI (m)))] []
                  refine x_iinc B (q := 3) dX8_layFar_110 rfl [1, 2, 3, 0, 4] (by decide) (lv' := [(0, .ref (E.1 (71))), (1, .int (iI (v))), (2, .int (iI (r))), (3, .int (iI (a + 1))), (4, .int (iI (m)))]) rfl ?_
                  refine x_goto B (tgt := 45) dX8_layFar_113 (by decide) ?_
                  refine x_lv [0, 1, 2, 3] (lv' := [(0, .ref (E.1 (71))), (1, .int (iI (v))), (2, .int (iI (r))), (3, .int (iI (a + 1)))]) rfl ?_
                  exact ih45 (a + 1) M4 (⟨by omega, by omega, s3, s4, s5, by rw [show (a + 1).toNat = a.toNat + 1 by omega]; exact f_mv (by omega) s5 s6 (by rw [show m.toNat = 6 by omega] at s7; exact s7)⟩) (by omega)
                · show Vx x E M4 61 [(0, .ref (E.1 (71))), (1, .int (iI (v))), (2, .int (iI (r))), (3, .int (iI (a))), (4, .int (iI (m)))] []
                  refine x_aload_n B dX8_layFar_61 0 rfl rfl ?_
                  refine x_getR B (ci := 8) (k := 31) dX8_layFar_62 rfl rfl rfl (by decide) inGX8 kw_836 ?_
                  refine x_iload_n B dX8_layFar_65 3 rfl rfl ?_
                  refine x_iload B dX8_layFar_66 4 rfl ?_
                  refine x_callS B (st := [.ref (E.1 (88))]) (av := [.int (iI (a)), .int (iI (m))]) dX8_layFar_68 cs_X8_ledTo kw_1030 ⟨rfl, rfl, Nat.le_of_ble_eq_true rfl, Nat.le_of_ble_eq_true rfl⟩ rfl rfl (Nat.le_of_ble_eq_true rfl) (c_X8_ledTo _ E _ a m (by omega) (by omega) (by omega) (by omega)) (k_i (fun z68 Mq hz68 => ?_))
                  obtain ⟨rfl, hz68⟩ := hz68
                  have hmt := mt_i (c := a) (m := m) (by omega) (by omega) (by omega) (by omega)
                  have hl68 : 0 ≤ z68 ∧ z68 < 26 := by rw [hz68, hmt.1]; omega
                  refine x_iald B (lo := 0) (hi := 100) dX8_layFar_71 rfl (by omega) (by omega) rfl (fun z71 ez71 lz71 uz71 => ?_)
                  refine x_iconst B dX8_layFar_72 ?_
                  refine x_iadd B dX8_layFar_73 ?_
                  refine x_istore B dX8_layFar_74 [1, 2, 3, 4, 5, 0] (by decide) (lv' := [(0, .ref (E.1 (71))), (1, .int (iI (v))), (2, .int (iI (r))), (3, .int (iI (a))), (4, .int (iI (m))), (5, .int (iI (z71 + 1)))]) rfl ?_
                  refine x_aload_n B dX8_layFar_76 0 rfl rfl ?_
                  refine x_getR B (ci := 8) (k := 31) dX8_layFar_77 rfl rfl rfl (by decide) inGX8 kw_836 ?_
                  refine x_iload_n B dX8_layFar_80 3 rfl rfl ?_
                  refine x_iload B dX8_layFar_81 5 rfl ?_
                  refine x_aload_n B dX8_layFar_83 0 rfl rfl ?_
                  refine x_getR B (ci := 8) (k := 31) dX8_layFar_84 rfl rfl rfl (by decide) inGX8 kw_836 ?_
                  refine x_iload_n B dX8_layFar_87 3 rfl rfl ?_
                  refine x_iald B (lo := 0) (hi := 100) dX8_layFar_88 rfl (by omega) (by omega) rfl (fun z88 ez88 lz88 uz88 => ?_)
                  have J103 : ∀ (j : Int), (j = min (z71 + 1) z88 ∧ 0 ≤ j ∧ j ≤ 100) → Vx x E M4 103 [(0, .ref (E.1 (71))), (1, .int (iI (v))), (2, .int (iI (r))), (3, .int (iI (a))), (4, .int (iI (m))), (5, .int (iI (z71 + 1)))] [.int (iI (j)), .int (iI (a)), .ref (E.1 (88))] := by
                    intro j hJ
                    obtain ⟨j1, j2, j3⟩ := hJ
                    have hst := f_step (j := j) (by omega) (by omega) (by rw [← Is_e ez88]; omega) (by rw [j1, Is_e ez71, Is_e ez88, hz68, hmt.1, Int.toNat_natCast]) s4 s5 s6 s7
                    refine x_iast B (lo := 0) (hi := 100) dX8_layFar_103 rfl (by omega) (by omega) rfl (by omega) (by omega) ?_
                    refine x_iinc B (q := 4) dX8_layFar_104 rfl [1, 2, 3, 4, 0, 5] (by decide) (lv' := [(0, .ref (E.1 (71))), (1, .int (iI (v))), (2, .int (iI (r))), (3, .int (iI (a))), (4, .int (iI (m + 1))), (5, .int (iI (z71 + 1)))]) rfl ?_
                    refine x_goto B (tgt := 54) dX8_layFar_107 (by decide) ?_
                    refine x_lv [0, 1, 2, 3, 4] (lv' := [(0, .ref (E.1 (71))), (1, .int (iI (v))), (2, .int (iI (r))), (3, .int (iI (a))), (4, .int (iI (m + 1)))]) rfl ?_
                    exact ih54 (m + 1) (sto M4 88 (a).toNat j) (⟨by omega, by omega, offC_sto s3 (by omega), by rw [sto_row]; exact hst.1, by rw [sto_row]; exact hst.2.1, by rw [sto_row]; exact hst.2.2.1, by rw [sto_row, show (m + 1).toNat = m.toNat + 1 by omega]; exact hst.2.2.2⟩) (by omega)
                  refine x_icmp_ge B (tgt := 97) dX8_layFar_89 (by decide) ⟨by omega, by omega⟩ ⟨by omega, by omega⟩ (fun c89 => ?_) (fun c89 => ?_)
                  · show Vx x E M4 97 [(0, .ref (E.1 (71))), (1, .int (iI (v))), (2, .int (iI (r))), (3, .int (iI (a))), (4, .int (iI (m))), (5, .int (iI (z71 + 1)))] [.int (iI (a)), .ref (E.1 (88))]
                    refine x_aload_n B dX8_layFar_97 0 rfl rfl ?_
                    refine x_getR B (ci := 8) (k := 31) dX8_layFar_98 rfl rfl rfl (by decide) inGX8 kw_836 ?_
                    refine x_iload_n B dX8_layFar_101 3 rfl rfl ?_
                    refine x_iald B (lo := 0) (hi := 100) dX8_layFar_102 rfl (by omega) (by omega) rfl (fun z102 ez102 lz102 uz102 => ?_)
                    exact J103 z102 (by have e102 := (Is_e ez102).trans (Is_e ez88).symm; omega)
                  · show Vx x E M4 92 [(0, .ref (E.1 (71))), (1, .int (iI (v))), (2, .int (iI (r))), (3, .int (iI (a))), (4, .int (iI (m))), (5, .int (iI (z71 + 1)))] [.int (iI (a)), .ref (E.1 (88))]
                    refine x_iload B dX8_layFar_92 5 rfl ?_
                    refine x_goto B (tgt := 103) dX8_layFar_94 (by decide) ?_
                    exact J103 (z71 + 1) (by omega)
              exact L54 0 M3 (⟨by omega, by omega, n3, n4, n5, n6, fun p k _ _ h => by omega⟩)
          exact L45 0 M2 (⟨by omega, by omega, i3, i4, i5, fun c p _ h => by omega⟩)
      exact L37 0 M1 (⟨by omega, by omega, m3, (f_init (fun q hq => m4 q (by omega))).1, (f_init (fun q hq => m4 q (by omega))).2⟩)
    · show Vx x E M1 8 [(0, .ref (E.1 (71))), (1, .int (iI (v))), (2, .int (iI (k)))] []
      refine x_aload_n B dX8_layFar_8 0 rfl rfl ?_
      refine x_getR B (ci := 8) (k := 31) dX8_layFar_9 rfl rfl rfl (by decide) inGX8 kw_836 ?_
      refine x_iload_n B dX8_layFar_12 2 rfl rfl ?_
      refine x_iload_n B dX8_layFar_13 1 rfl rfl ?_
      refine x_iload_n B dX8_layFar_14 2 rfl rfl ?_
      refine x_ishr B dX8_layFar_15 (by omega) ⟨by omega, by omega⟩ (by omega) (by omega) ?_
      refine x_iconst B dX8_layFar_16 ?_
      refine x_iand B dX8_layFar_17 (Int.natCast_nonneg _) (by omega) ?_
      have b19 := bit_v v.toNat k.toNat
      have hb19 : Rg ((((((v).toNat >>> (k).toNat : Nat) : Int)).toNat &&& (1 : Int).toNat : Nat) : Int) := by rcases b19 with ⟨h5, h6⟩ | ⟨h5, h6⟩ <;> (rw [h5]; exact ⟨by omega, by omega⟩)
      refine x_iconst B dX8_layFar_18 ?_
      refine x_icmp_ne B (tgt := 27) dX8_layFar_19 (by decide) hb19 ⟨by omega, by omega⟩ (fun c19 => ?_) (fun c19 => ?_)
      · show Vx x E M1 27 [(0, .ref (E.1 (71))), (1, .int (iI (v))), (2, .int (iI (k)))] [.int (iI (k)), .ref (E.1 (88))]
        refine x_iconst B dX8_layFar_27 ?_
        refine x_iast B (lo := 0) (hi := 100) dX8_layFar_28 rfl (by omega) (by omega) rfl (by omega) (by omega) ?_
        refine x_iinc B (q := 2) dX8_layFar_29 rfl [1, 2, 0] (by decide) (lv' := [(0, .ref (E.1 (71))), (1, .int (iI (v))), (2, .int (iI (k + 1)))]) rfl ?_
        refine x_goto B (tgt := 2) dX8_layFar_32 (by decide) ?_
        exact ih2 (k + 1) (sto M1 88 (k).toNat 0) (⟨by omega, by omega, offC_sto m3 (by omega), ltF_s m4 m1 (by rcases b19 with ⟨h5, h6⟩ | ⟨h5, h6⟩; (exact absurd h5 c19); (show _ = if v.toNat.testBit k.toNat = true then (100 : Int) else 0; rw [if_neg (by rw [h6]; decide)]))⟩) (by omega)
      · show Vx x E M1 22 [(0, .ref (E.1 (71))), (1, .int (iI (v))), (2, .int (iI (k)))] [.int (iI (k)), .ref (E.1 (88))]
        refine x_bipush B dX8_layFar_22 rfl ?_
        refine x_goto B (tgt := 28) dX8_layFar_24 (by decide) ?_
        refine x_iast B (lo := 0) (hi := 100) dX8_layFar_28 rfl (by omega) (by omega) rfl (by omega) (by omega) ?_
        refine x_iinc B (q := 2) dX8_layFar_29 rfl [1, 2, 0] (by decide) (lv' := [(0, .ref (E.1 (71))), (1, .int (iI (v))), (2, .int (iI (k + 1)))]) rfl ?_
        refine x_goto B (tgt := 2) dX8_layFar_32 (by decide) ?_
        exact ih2 (k + 1) (sto M1 88 (k).toNat 100) (⟨by omega, by omega, offC_sto m3 (by omega), ltF_s m4 m1 (by rcases b19 with ⟨h5, h6⟩ | ⟨h5, h6⟩; (show _ = if v.toNat.testBit k.toNat = true then (100 : Int) else 0; rw [if_pos h6]); (rw [h5] at c19; exact absurd c19 (by decide)))⟩) (by omega)
  exact L2 0 M (⟨by omega, by omega, offC_rf, ltF_0⟩)
