/-! ===== one picture ===== -/
def picH (L : Nat → Int) (s0 pl : Int) : Nat → Int := fun q => hasF L s0 pl (q : Int)
def picW (L v : Nat → Int) (s0 pl : Int) : Nat → Int := fun q => woS (v 0) (picH L s0 pl) (q : Int)
def picS (L v : Nat → Int) (s0 pl : Int) : Nat → Int := shS v (picW L v s0 pl)
def picF (L v lst td : Nat → Int) (s0 pl : Int) : Nat → Int := fun q => feS v lst (picS L v s0 pl) td (q : Int)
def picU (L v lst td : Nat → Int) (s0 pl : Int) : Nat := huS v lst (picS L v s0 pl) td 16
/-- two rows of sixteen are the same -/
def eqF (a b : Nat → Int) : Prop := ∀ q, q < 16 → a q = b q
theorem eqF_rf {a : Nat → Int} : eqF a a := fun _ _ => rfl
theorem eqF_sy {a b : Nat → Int} (h : eqF a b) : eqF b a := fun q hq => (h q hq).symm
theorem eqF_tr {a b c : Nat → Int} (h : eqF a b) (h2 : eqF b c) : eqF a c := fun q hq => (h q hq).trans (h2 q hq)
theorem edS_cg {p w : Int} {h h' : Nat → Int} (p0 : 0 ≤ p) (p1 : p < 16) (e : eqF h h') : edS h p w = edS h' p w := by
  have n1 := nbT_in (w := w) p0 p1
  unfold edS
  rw [e p.toNat (by omega), e (nbT p w).toNat (by omega)]
theorem woS_cg {way p : Int} {h h' : Nat → Int} (p0 : 0 ≤ p) (p1 : p < 16) (e : eqF h h') : woS way h p = woS way h' p := by
  unfold woS
  rw [e p.toNat (by omega), edS_cg p0 p1 e, edS_cg p0 p1 e]
theorem roS_cg {d : Nat} {w w' s s' : Nat → Int} (hw : eqF w w') (hs : eqF s s') : ∀ k, k ≤ 16 → eqF (roS d w s k) (roS d w' s' k) := by
  intro k
  induction k with
  | zero => exact fun _ => hs
  | succ k ih =>
    intro hk q hq
    have h1 := ih (by omega)
    show (if _ then _ else _ : Nat → Int) q = (if _ then _ else _ : Nat → Int) q
    by_cases c : d.testBit k = true ∧ 0 ≤ fiL d (k : Int)
    · rw [if_pos c, if_pos c, h1 q hq, hw k (by omega)]
    · rw [if_neg c, if_neg c]
      exact h1 q hq
theorem bqS_cg {s s' : Nat → Int} {p w : Int} (p0 : 0 ≤ p) (p1 : p < 16) (e : eqF s s') : bqS s p w = bqS s' p w := by
  have n1 := nbT_in (w := w) p0 p1
  unfold bqS
  rw [e (nbT p w).toNat (by omega)]
theorem besK_cg {s s' : Nat → Int} {p : Int} (p0 : 0 ≤ p) (p1 : p < 16) (e : eqF s s') : ∀ k, besK s p k = besK s' p k := by
  intro k
  induction k with
  | zero => rfl
  | succ k ih =>
    show besK s p k + _ = besK s' p k + _
    rw [ih, bqS_cg p0 p1 e]
theorem stS_cg {v s s' : Nat → Int} {t p : Int} (p0 : 0 ≤ p) (p1 : p < 16) (e : eqF s s') : stS v s t p = stS v s' t p := by
  unfold stS
  rw [e p.toNat (by omega), besK_cg p0 p1 e]
theorem feS_cg {v lst s s' td td' : Nat → Int} {p : Int} (p0 : 0 ≤ p) (p1 : p < 16) (e : eqF s s') (ht : td p.toNat = td' p.toNat) : feS v lst s td p = feS v lst s' td' p := by
  unfold feS
  rw [ht, stS_cg p0 p1 e]
theorem hbS_cg {v lst s s' td td' : Nat → Int} {p : Int} (p0 : 0 ≤ p) (p1 : p < 16) (e : eqF s s') (ht : td p.toNat = td' p.toNat) : hbS v lst s td p ↔ hbS v lst s' td' p := by
  unfold hbS
  rw [ht, stS_cg p0 p1 e]
theorem huS_s {v lst s td : Nat → Int} {k : Int} (h0 : 0 ≤ k) : huS v lst s td (k + 1).toNat = if hbS v lst s td k then huS v lst s td k.toNat ||| 2 ^ k.toNat else huS v lst s td k.toNat := by
  rw [show (k + 1).toNat = k.toNat + 1 by omega]
  show (if hbS v lst s td ((k.toNat : Nat) : Int) then _ else _) = _
  rw [Int.toNat_of_nonneg h0]
theorem huS_lt {v lst s td : Nat → Int} : ∀ k, huS v lst s td k < 2 ^ k := by
  intro k
  induction k with
  | zero => exact Nat.lt_of_lt_of_le Nat.zero_lt_one (Nat.le_refl 1)
  | succ k ih =>
    have h2 : (2 : Nat) ^ k < 2 ^ (k + 1) := Nat.pow_lt_pow_right (by omega) (by omega)
    show (if _ then _ else _) < _
    split
    · exact Nat.or_lt_two_pow (Nat.lt_trans ih h2) h2
    · exact Nat.lt_trans ih h2
/-- the memory behind see -/
def seeP (M M' : Mem) (f : Nat) (s0 pl : Int) (w ti : Nat) : Prop := offC M M' (16 + 5 * f) (16 + 5 * f + 5) ∧ eqF (M' (16 + 5 * f + 1)) (picH (M 12) s0 pl) ∧ eqF (M' (16 + 5 * f + 2)) (picS (M 12) (M (w + 1)) s0 pl) ∧ eqF (M' (16 + 5 * f + 3)) (picF (M 12) (M (w + 1)) (M (w + 2)) (M ti) s0 pl) ∧ M' (16 + 5 * f) 3 = (picU (M 12) (M (w + 1)) (M (w + 2)) (M ti) s0 pl : Int)
def ltF (a b : Nat → Int) (k : Int) : Prop := ∀ q : Nat, (q : Int) < k → a q = b q
theorem ltF_0 {a b : Nat → Int} : ltF a b 0 := fun q h => by omega
theorem ltF_16 {a b : Nat → Int} {k : Int} (h : ltF a b k) (hk : 16 ≤ k) : eqF a b := fun q hq => h q (by omega)
theorem ltF_s {M : Mem} {i : Nat} {b : Nat → Int} {k v : Int} (h : ltF (M i) b k) (h0 : 0 ≤ k) (hv : v = b k.toNat) : ltF (sto M i k.toNat v i) b (k + 1) := by
  intro q hq
  by_cases e : q = k.toNat
  · rw [e, sto_eq, hv]
  · rw [sto_nj _ _ _ _ e]
    exact h q (by omega)
theorem ltF_o {M : Mem} {i i' j : Nat} {v : Int} {b : Nat → Int} {k : Int} (h : ltF (M i) b k) (hi : i ≠ i') : ltF (sto M i' j v i) b k := by rw [sto_f _ _ _ _ hi]; exact h
theorem eqF_o {M : Mem} {i i' j : Nat} {v : Int} {b : Nat → Int} (h : eqF (M i) b) (hi : i ≠ i') : eqF (sto M i' j v i) b := by rw [sto_f _ _ _ _ hi]; exact h
theorem offC_f {M M' : Mem} {a b i : Nat} (h : offC M M' a b) (hi : i < a ∨ b ≤ i) : M' i = M i := funext fun j => h i j hi
theorem feP_off {M M' : Mem} {f p : Nat} {a b : Int} (h : feP M M' f p a b) {i : Nat} (h1 : i ≠ 16 + 5 * f + 3) (h2 : i ≠ 16 + 5 * f) : M' i = M i := by
  funext j
  rw [h i j, if_neg (fun q => h1 q.1), if_neg (fun q => h2 q.1)]
theorem offC_w {M M' : Mem} {a b a' b' : Nat} (h : offC M M' a b) (h1 : a' ≤ a) (h2 : b ≤ b') : offC M M' a' b' := fun i j hi => h i j (by omega)
theorem feP_offC {M M' : Mem} {f p : Nat} {a b : Int} (h : feP M M' f p a b) : offC M M' (16 + 5 * f) (16 + 5 * f + 5) := fun i j hi => by
  rw [h i j, if_neg (fun q => by omega), if_neg (fun q => by omega)]
theorem see_step {M3 M5 : Mem} {f : Nat} {k t : Int} {v lst td PSf : Nat → Int} (k0 : 0 ≤ k) (k1 : k < 16) (hs : eqF (M3 (16 + 5 * f + 2)) PSf) (ht : t = td k.toNat) (h6 : ltF (M3 (16 + 5 * f + 3)) (fun q => feS v lst PSf td (q : Int)) k) (h7 : M3 (16 + 5 * f) 3 = ((huS v lst PSf td k.toNat : Nat) : Int)) (hp : feP M3 M5 f k.toNat (feS v lst (M3 (16 + 5 * f + 2)) (fun _ => t) k) (if hbS v lst (M3 (16 + 5 * f + 2)) (fun _ => t) k then (((M3 (16 + 5 * f) 3).toNat ||| 2 ^ k.toNat : Nat) : Int) else M3 (16 + 5 * f) 3)) : ltF (M5 (16 + 5 * f + 3)) (fun q => feS v lst PSf td (q : Int)) (k + 1) ∧ M5 (16 + 5 * f) 3 = ((huS v lst PSf td (k + 1).toNat : Nat) : Int) := by
  have ht' : (fun _ => t) k.toNat = td k.toNat := ht
  refine ⟨fun q hq => ?_, ?_⟩
  · rw [hp]
    by_cases e : q = k.toNat
    · rw [if_pos ⟨rfl, e⟩, feS_cg k0 k1 hs ht', e]
      show _ = feS _ _ _ _ ((k.toNat : Nat) : Int)
      rw [Int.toNat_of_nonneg k0]
    · rw [if_neg (fun c => e c.2), if_neg (fun c => by omega)]
      exact h6 q (by omega)
  · rw [hp, if_neg (fun c => by omega), if_pos ⟨rfl, rfl⟩, huS_s k0]
    by_cases c : hbS v lst PSf td k
    · rw [if_pos ((hbS_cg k0 k1 hs ht').mpr c), if_pos c, h7, Int.toNat_natCast]
    · rw [if_neg (fun z => c ((hbS_cg k0 k1 hs ht').mp z)), if_neg c, h7]
abbrev rm_X0_see : Room := { frames := 3, cells := 0, slots := 0, locals := 67 }
theorem cs_X0_see : Cv yX0_see cX0_see 7 none 5 := ⟨kw_532, ⟨kw_530, kw_531⟩, kw_62, by decide, by decide, by decide +kernel⟩
set_option maxHeartbeats 4000000 in
set_option maxRecDepth 100000 in
theorem c_X0_see (l : Launch) (E : Ev) (M : Mem) (f : Nat) (sc pl : Int) (w ti : Nat) (g1 : f < 7) (g2 : 0 ≤ sc) (g3 : sc < 6) (g4 : 0 ≤ pl) (g5 : pl ≤ 25) (g6 : w = 1 ∨ w = 4 ∨ w = 8) (g7 : ti = 13 ∨ ti = 14) : Ct l yX0_see cX0_see 7 none rm_X0_see E M [.ref (E.1 ((16 + 5 * f))), .ref (E.1 (12)), .int (iI (sc)), .int (iI (pl)), .ref (E.1 (w)), .ref (E.1 (ti))] (pV (fun M' => seeP M M' f (64 * sc) pl w ti)) := by
  refine Ct_of (lv := [(0, .ref (E.1 ((16 + 5 * f)))), (1, .ref (E.1 (12))), (2, .int (iI (sc))), (3, .int (iI (pl))), (4, .ref (E.1 (w))), (5, .ref (E.1 (ti)))]) (by decide) ⟨rfl, rfl⟩ (Nat.le_of_ble_eq_true rfl) rfl (fun x _ B R => ?_)
  have hw := g6
  have hs0 : sc * 64 = 64 * sc := Int.mul_comm _ _
  refine x_iconst B dX0_see_0 ?_
  refine x_istore B dX0_see_1 [1, 2, 3, 4, 5, 6, 0] (by decide) (lv' := [(0, .ref (E.1 ((16 + 5 * f)))), (1, .ref (E.1 (12))), (2, .int (iI (sc))), (3, .int (iI (pl))), (4, .ref (E.1 (w))), (5, .ref (E.1 (ti))), (6, .int (iI (0)))]) rfl ?_
  have L3 : ∀ (k : Int) (M1 : Mem), (0 ≤ k ∧ k ≤ 16 ∧ offC M M1 (16 + 5 * f) (16 + 5 * f + 5) ∧ ltF (M1 (16 + 5 * f + 1)) (picH (M 12) (64 * sc) pl) k) → Vx x E M1 3 [(0, .ref (E.1 ((16 + 5 * f)))), (1, .ref (E.1 (12))), (2, .int (iI (sc))), (3, .int (iI (pl))), (4, .ref (E.1 (w))), (5, .ref (E.1 (ti))), (6, .int (iI (k)))] [] := by
    refine lo2 _ _ (fun k M1 => (16 - k).toNat) ?_
    intro k M1 hI ih3
    obtain ⟨i1, i2, i3, i4⟩ := hI
    refine x_iload B dX0_see_3 6 rfl ?_
    refine x_bipush B dX0_see_5 rfl ?_
    refine x_icmp_ge B (tgt := 34) dX0_see_7 (by decide) ⟨by omega, by omega⟩ ⟨by omega, by omega⟩ (fun c7 => ?_) (fun c7 => ?_)
    · show Vx x E M1 34 [(0, .ref (E.1 ((16 + 5 * f)))), (1, .ref (E.1 (12))), (2, .int (iI (sc))), (3, .int (iI (pl))), (4, .ref (E.1 (w))), (5, .ref (E.1 (ti))), (6, .int (iI (k)))] []
      refine x_iconst B dX0_see_34 ?_
      refine x_istore B dX0_see_35 [1, 2, 3, 4, 5, 6, 0] (by decide) (lv' := [(0, .ref (E.1 ((16 + 5 * f)))), (1, .ref (E.1 (12))), (2, .int (iI (sc))), (3, .int (iI (pl))), (4, .ref (E.1 (w))), (5, .ref (E.1 (ti))), (6, .int (iI (0)))]) rfl ?_
      have L37 : ∀ (k2 : Int) (M2 : Mem), (0 ≤ k2 ∧ k2 ≤ 16 ∧ offC M M2 (16 + 5 * f) (16 + 5 * f + 5) ∧ eqF (M2 (16 + 5 * f + 1)) (picH (M 12) (64 * sc) pl) ∧ ltF (M2 (16 + 5 * f + 4)) (picW (M 12) (M (w + 1)) (64 * sc) pl) k2 ∧ ltF (M2 (16 + 5 * f + 2)) (sh0 (M (w + 1)) (picW (M 12) (M (w + 1)) (64 * sc) pl)) k2) → Vx x E M2 37 [(0, .ref (E.1 ((16 + 5 * f)))), (1, .ref (E.1 (12))), (2, .int (iI (sc))), (3, .int (iI (pl))), (4, .ref (E.1 (w))), (5, .ref (E.1 (ti))), (6, .int (iI (k2)))] [] := by
        refine lo2 _ _ (fun k2 M2 => (16 - k2).toNat) ?_
        intro k2 M2 hI ih37
        obtain ⟨n1, n2, n3, n4, n5, n6⟩ := hI
        refine x_iload B dX0_see_37 6 rfl ?_
        refine x_bipush B dX0_see_39 rfl ?_
        refine x_icmp_ge B (tgt := 105) dX0_see_41 (by decide) ⟨by omega, by omega⟩ ⟨by omega, by omega⟩ (fun c41 => ?_) (fun c41 => ?_)
        · show Vx x E M2 105 [(0, .ref (E.1 ((16 + 5 * f)))), (1, .ref (E.1 (12))), (2, .int (iI (sc))), (3, .int (iI (pl))), (4, .ref (E.1 (w))), (5, .ref (E.1 (ti))), (6, .int (iI (k2)))] []
          refine x_aload B dX0_see_105 4 rfl ?_
          refine x_getR B (ci := 1) (k := 0) dX0_see_107 (tL_o w hw) rfl rfl (by decide) inGX1 kw_101 ?_
          refine x_iconst B dX0_see_110 ?_
          refine x_iald B (lo := 0) (hi := 1) dX0_see_111 (tL_1 w hw) (by omega) (by omega) (rL_1 w hw _) (fun z111 ez111 lz111 uz111 => ?_)
          have ez111 : Is z111 (M2 (w + 1) 5) := ez111
          have e111 := Is_e ez111
          rw [n3 _ _ (by omega)] at e111
          refine x_iconst B dX0_see_112 ?_
          have J128 : ∀ (M4 : Mem), (offC M M4 (16 + 5 * f) (16 + 5 * f + 5) ∧ eqF (M4 (16 + 5 * f + 1)) (picH (M 12) (64 * sc) pl) ∧ eqF (M4 (16 + 5 * f + 2)) (picS (M 12) (M (w + 1)) (64 * sc) pl)) → Vx x E M4 128 [(0, .ref (E.1 ((16 + 5 * f)))), (1, .ref (E.1 (12))), (2, .int (iI (sc))), (3, .int (iI (pl))), (4, .ref (E.1 (w))), (5, .ref (E.1 (ti))), (6, .int (iI (k2)))] [] := by
            intro M4 hJ
            obtain ⟨q1, q2, q3⟩ := hJ
            refine x_aload_n B dX0_see_128 0 rfl rfl ?_
            refine x_iconst B dX0_see_129 ?_
            refine x_put B (ci := 0) (k := 3) (lo := 0) (hi := 65535) (ty := .int) dX0_see_130 (tF_o f (by omega)) rfl rfl (by decide) inGX0 tyX0_ok nmX0 kw_185 rfl (by decide +kernel) (nar_i _) (fit_i _) (rF_o f (by omega)) (by omega) (by omega) ?_
            refine x_iconst B dX0_see_133 ?_
            refine x_istore B dX0_see_134 [1, 2, 3, 4, 5, 6, 0] (by decide) (lv' := [(0, .ref (E.1 ((16 + 5 * f)))), (1, .ref (E.1 (12))), (2, .int (iI (sc))), (3, .int (iI (pl))), (4, .ref (E.1 (w))), (5, .ref (E.1 (ti))), (6, .int (iI (0)))]) rfl ?_
            have L136 : ∀ (k3 : Int) (M3 : Mem), (0 ≤ k3 ∧ k3 ≤ 16 ∧ offC M M3 (16 + 5 * f) (16 + 5 * f + 5) ∧ eqF (M3 (16 + 5 * f + 1)) (picH (M 12) (64 * sc) pl) ∧ eqF (M3 (16 + 5 * f + 2)) (picS (M 12) (M (w + 1)) (64 * sc) pl) ∧ ltF (M3 (16 + 5 * f + 3)) (picF (M 12) (M (w + 1)) (M (w + 2)) (M ti) (64 * sc) pl) k3 ∧ M3 (16 + 5 * f) 3 = ((huS (M (w + 1)) (M (w + 2)) (picS (M 12) (M (w + 1)) (64 * sc) pl) (M ti) k3.toNat : Nat) : Int)) → Vx x E M3 136 [(0, .ref (E.1 ((16 + 5 * f)))), (1, .ref (E.1 (12))), (2, .int (iI (sc))), (3, .int (iI (pl))), (4, .ref (E.1 (w))), (5, .ref (E.1 (ti))), (6, .int (iI (k3)))] [] := by
              refine lo2 _ _ (fun k3 M3 => (16 - k3).toNat) ?_
              intro k3 M3 hI ih136
              obtain ⟨r1, r2, r3, r4, r5, r6, r7⟩ := hI
              refine x_iload B dX0_see_136 6 rfl ?_
              refine x_bipush B dX0_see_138 rfl ?_
              refine x_icmp_ge B (tgt := 162) dX0_see_140 (by decide) ⟨by omega, by omega⟩ ⟨by omega, by omega⟩ (fun c140 => ?_) (fun c140 => ?_)
              · show Vx x E M3 162 [(0, .ref (E.1 ((16 + 5 * f)))), (1, .ref (E.1 (12))), (2, .int (iI (sc))), (3, .int (iI (pl))), (4, .ref (E.1 (w))), (5, .ref (E.1 (ti))), (6, .int (iI (k3)))] []
                exact r_v B R dX0_see_162 (⟨r3, r4, r5, ltF_16 r6 (by omega), by rw [r7, show k3 = 16 by omega]; rfl⟩)
              · show Vx x E M3 143 [(0, .ref (E.1 ((16 + 5 * f)))), (1, .ref (E.1 (12))), (2, .int (iI (sc))), (3, .int (iI (pl))), (4, .ref (E.1 (w))), (5, .ref (E.1 (ti))), (6, .int (iI (k3)))] []
                refine x_aload_n B dX0_see_143 0 rfl rfl ?_
                refine x_iload B dX0_see_144 6 rfl ?_
                refine x_aload B dX0_see_146 4 rfl ?_
                refine x_aload B dX0_see_148 5 rfl ?_
                refine x_iload B dX0_see_150 6 rfl ?_
                refine x_ialdW B (lo := 0) (hi := 9) dX0_see_152 (tT ti g7) (by omega) (by omega) (rT ti g7 _) (fun z152 ez152 lz152 uz152 => ?_)
                refine x_callV B (st := []) (av := [.int (iI (k3)), .ref (E.1 (w)), .int (iI (z152))]) dX0_see_153 cs_X0_feel kw_560 ⟨rfl, rfl, Nat.le_of_ble_eq_true rfl, Nat.le_of_ble_eq_true rfl⟩ rfl rfl (Nat.le_of_ble_eq_true rfl) (rc_obj B (ci := 0) (tF_o f (by omega)) rfl rfl) (c_X0_feel _ E _ f k3 w z152 (by omega) (by omega) (by omega) (by first | assumption | omega) (by omega) (by omega)) (k_v (fun M153 hz153 => ?_))
                have e152 := Is_e ez152
                rw [r3 _ _ (by omega)] at e152
                rw [offC_f r3 (show w + 1 < 16 + 5 * f ∨ 16 + 5 * f + 5 ≤ w + 1 by omega), offC_f r3 (show w + 2 < 16 + 5 * f ∨ 16 + 5 * f + 5 ≤ w + 2 by omega)] at hz153
                have hst := see_step r1 (by omega) r5 e152 r6 r7 hz153
                refine x_iinc B (q := 6) dX0_see_156 rfl [1, 2, 3, 4, 5, 6, 0] (by decide) (lv' := [(0, .ref (E.1 ((16 + 5 * f)))), (1, .ref (E.1 (12))), (2, .int (iI (sc))), (3, .int (iI (pl))), (4, .ref (E.1 (w))), (5, .ref (E.1 (ti))), (6, .int (iI (k3 + 1)))]) rfl ?_
                refine x_goto B (tgt := 136) dX0_see_159 (by decide) ?_
                exact ih136 (k3 + 1) M153 (⟨by omega, by omega, offC_tr r3 (feP_offC hz153), by rw [feP_off hz153 (by omega) (by omega)]; exact r4, by rw [feP_off hz153 (by omega) (by omega)]; exact r5, hst.1, hst.2⟩) (by omega)
            exact L136 0 (sto M4 (16 + 5 * f) 3 0) (⟨by omega, by omega, offC_sto q1 (by omega), eqF_o q2 (by omega), eqF_o q3 (by omega), ltF_0, sto_eq _ _ _ _⟩)
          refine x_icmp_ne B (tgt := 128) dX0_see_113 (by decide) ⟨by omega, by omega⟩ ⟨by omega, by omega⟩ (fun c113 => ?_) (fun c113 => ?_)
          · show Vx x E M2 128 [(0, .ref (E.1 ((16 + 5 * f)))), (1, .ref (E.1 (12))), (2, .int (iI (sc))), (3, .int (iI (pl))), (4, .ref (E.1 (w))), (5, .ref (E.1 (ti))), (6, .int (iI (k2)))] []
            exact J128 M2 (⟨n3, n4, fun q hq => by rw [show (picS (M 12) (M (w + 1)) (64 * sc) pl) q = (sh0 (M (w + 1)) (picW (M 12) (M (w + 1)) (64 * sc) pl)) q from if_neg (by omega)]; exact ltF_16 n6 (by omega) q hq⟩)
          · show Vx x E M2 116 [(0, .ref (E.1 ((16 + 5 * f)))), (1, .ref (E.1 (12))), (2, .int (iI (sc))), (3, .int (iI (pl))), (4, .ref (E.1 (w))), (5, .ref (E.1 (ti))), (6, .int (iI (k2)))] []
            refine x_aload_n B dX0_see_116 0 rfl rfl ?_
            refine x_aload B dX0_see_117 4 rfl ?_
            refine x_getR B (ci := 1) (k := 0) dX0_see_119 (tL_o w hw) rfl rfl (by decide) inGX1 kw_101 ?_
            refine x_bipush B dX0_see_122 rfl ?_
            refine x_iald B (lo := 0) (hi := 65535) dX0_see_124 (tL_1 w hw) (by omega) (by omega) (rL_1 w hw _) (fun z124 ez124 lz124 uz124 => ?_)
            have ez124 : Is z124 (M2 (w + 1) 11) := ez124
            have e124 := Is_e ez124
            rw [n3 _ _ (by omega)] at e124
            refine x_callV B (st := []) (av := [.int (iI (z124))]) dX0_see_125 cs_X0_goRound kw_553 ⟨rfl, rfl, Nat.le_of_ble_eq_true rfl, Nat.le_of_ble_eq_true rfl⟩ rfl rfl (Nat.le_of_ble_eq_true rfl) (rc_obj B (ci := 0) (tF_o f (by omega)) rfl rfl) (c_X0_goRound _ E _ f z124 (by omega) (by omega) (by omega)) (k_v (fun M125 hz125 => ?_))
            exact J128 M125 (⟨offC_tr n3 (offC_w hz125.1 (by omega) (by omega)), by rw [offC_f hz125.1 (by omega)]; exact n4, fun q hq => by rw [hz125.2, show (picS (M 12) (M (w + 1)) (64 * sc) pl) q = roS (M (w + 1) 11).toNat (picW (M 12) (M (w + 1)) (64 * sc) pl) (sh0 (M (w + 1)) (picW (M 12) (M (w + 1)) (64 * sc) pl)) 16 q from if_pos (by omega), e124]; exact roS_cg (ltF_16 n5 (by omega)) (ltF_16 n6 (by omega)) 16 (by omega) q hq⟩)
        · show Vx x E M2 44 [(0, .ref (E.1 ((16 + 5 * f)))), (1, .ref (E.1 (12))), (2, .int (iI (sc))), (3, .int (iI (pl))), (4, .ref (E.1 (w))), (5, .ref (E.1 (ti))), (6, .int (iI (k2)))] []
          refine x_aload_n B dX0_see_44 0 rfl rfl ?_
          refine x_getR B (ci := 0) (k := 4) dX0_see_45 (tF_o f (by omega)) rfl rfl (by decide) inGX0 kw_187 ?_
          refine x_iload B dX0_see_48 6 rfl ?_
          refine x_aload_n B dX0_see_50 0 rfl rfl ?_
          refine x_aload B dX0_see_51 4 rfl ?_
          refine x_getR B (ci := 1) (k := 0) dX0_see_53 (tL_o w hw) rfl rfl (by decide) inGX1 kw_101 ?_
          refine x_iconst B dX0_see_56 ?_
          refine x_iald B (lo := 0) (hi := 2) dX0_see_57 (tL_1 w hw) (by omega) (by omega) (rL_1 w hw _) (fun z57 ez57 lz57 uz57 => ?_)
          have ez57 : Is z57 (M2 (w + 1) 0) := ez57
          refine x_iload B dX0_see_58 6 rfl ?_
          refine x_callV B (st := [.int (iI (k2)), .ref (E.1 ((16 + 5 * f + 4)))]) (av := [.int (iI (z57)), .int (iI (k2))]) dX0_see_60 cs_X0_byWay kw_536 ⟨rfl, rfl, Nat.le_of_ble_eq_true rfl, Nat.le_of_ble_eq_true rfl⟩ rfl rfl (Nat.le_of_ble_eq_true rfl) (rc_obj B (ci := 0) (tF_o f (by omega)) rfl rfl) (c_X0_byWay _ E _ f z57 k2 (by omega) (by omega) (by omega) (by omega) (by omega)) (k_i (fun z60 Mq hz60 => ?_))
          obtain ⟨rfl, hz60⟩ := hz60
          refine x_iast B (lo := 0) (hi := 9) dX0_see_63 (tF_4 f (by omega)) (by omega) (by omega) (rF_4 f _ (by omega)) (by omega) (by omega) ?_
          have e57 := Is_e ez57
          rw [n3 _ _ (by omega)] at e57
          have hw60 : z60 = (picW (M 12) (M (w + 1)) (64 * sc) pl) k2.toNat := by
            rw [hz60.1, e57]
            show _ = woS _ _ ((k2.toNat : Nat) : Int)
            rw [Int.toNat_of_nonneg n1]
            exact woS_cg n1 (by omega) n4
          refine x_aload_n B dX0_see_64 0 rfl rfl ?_
          refine x_getR B (ci := 0) (k := 1) dX0_see_65 (tF_o f (by omega)) rfl rfl (by decide) inGX0 kw_181 ?_
          refine x_iload B dX0_see_68 6 rfl ?_
          refine x_aload B dX0_see_70 4 rfl ?_
          refine x_getR B (ci := 1) (k := 0) dX0_see_72 (tL_o w hw) rfl rfl (by decide) inGX1 kw_101 ?_
          refine x_bipush B dX0_see_75 rfl ?_
          refine x_iald B (lo := 0) (hi := 65535) dX0_see_77 (tL_1 w hw) (by omega) (by omega) (rL_1 w hw _) (fun z77 ez77 lz77 uz77 => ?_)
          have ez77 : Is z77 ((sto M2 (16 + 5 * f + 4) (k2).toNat z60) (w + 1) 11) := ez77
          refine x_iload B dX0_see_78 6 rfl ?_
          have e77 := Is_e ez77
          rw [sto_ni _ _ _ _ (by omega), n3 _ _ (by omega)] at e77
          refine x_callSN B 1 (st := [.int (iI (k2)), .ref (E.1 ((16 + 5 * f + 2)))]) (av := [.int (iI (z77)), .int (iI (k2))]) dX0_see_80 cs_X7_bit rfl ⟨rfl, rfl, Nat.le_of_ble_eq_true rfl, Nat.le_of_ble_eq_true rfl⟩ rfl rfl (Nat.le_of_ble_eq_true rfl) (c_X7_bit _ E _ z77 k2 (by omega) (by omega) (by omega) (by omega)) (k_i (fun z80 Mq hz80 => ?_))
          obtain ⟨rfl, hz80⟩ := hz80
          refine x_iconst B dX0_see_83 ?_
          have J98 : ∀ (j : Int), (j = (sh0 (M (w + 1)) (picW (M 12) (M (w + 1)) (64 * sc) pl)) k2.toNat ∧ 0 ≤ j ∧ j ≤ 9) → Vx x E (sto M2 (16 + 5 * f + 4) (k2).toNat z60) 98 [(0, .ref (E.1 ((16 + 5 * f)))), (1, .ref (E.1 (12))), (2, .int (iI (sc))), (3, .int (iI (pl))), (4, .ref (E.1 (w))), (5, .ref (E.1 (ti))), (6, .int (iI (k2)))] [.int (iI (j)), .int (iI (k2)), .ref (E.1 ((16 + 5 * f + 2)))] := by
            intro j hJ
            obtain ⟨j1, j2, j3⟩ := hJ
            refine x_iast B (lo := 0) (hi := 9) dX0_see_98 (tF_2 f (by omega)) (by omega) (by omega) (rF_2 f _ (by omega)) (by omega) (by omega) ?_
            refine x_iinc B (q := 6) dX0_see_99 rfl [1, 2, 3, 4, 5, 6, 0] (by decide) (lv' := [(0, .ref (E.1 ((16 + 5 * f)))), (1, .ref (E.1 (12))), (2, .int (iI (sc))), (3, .int (iI (pl))), (4, .ref (E.1 (w))), (5, .ref (E.1 (ti))), (6, .int (iI (k2 + 1)))]) rfl ?_
            refine x_goto B (tgt := 37) dX0_see_102 (by decide) ?_
            exact ih37 (k2 + 1) (sto (sto M2 (16 + 5 * f + 4) (k2).toNat z60) (16 + 5 * f + 2) (k2).toNat j) (⟨by omega, by omega, offC_sto (offC_sto n3 (by omega)) (by omega), eqF_o (eqF_o n4 (by omega)) (by omega), ltF_o (ltF_s n5 n1 hw60) (by omega), ltF_s (ltF_o n6 (by omega)) n1 j1⟩) (by omega)
          refine x_icmp_ne B (tgt := 91) dX0_see_84 (by decide) ⟨by omega, by omega⟩ ⟨by omega, by omega⟩ (fun c84 => ?_) (fun c84 => ?_)
          · show Vx x E (sto M2 (16 + 5 * f + 4) (k2).toNat z60) 91 [(0, .ref (E.1 ((16 + 5 * f)))), (1, .ref (E.1 (12))), (2, .int (iI (sc))), (3, .int (iI (pl))), (4, .ref (E.1 (w))), (5, .ref (E.1 (ti))), (6, .int (iI (k2)))] [.int (iI (k2)), .ref (E.1 ((16 + 5 * f + 2)))]
            have h8 : ¬ (M (w + 1) 11).toNat.testBit k2.toNat = true := by
              rcases hz80 with ⟨h5, h6⟩ | ⟨h5, h6⟩
              · omega
              · rw [e77] at h6
                rw [h6]
                decide
            refine x_aload_n B dX0_see_91 0 rfl rfl ?_
            refine x_getR B (ci := 0) (k := 4) dX0_see_92 (tF_o f (by omega)) rfl rfl (by decide) inGX0 kw_187 ?_
            refine x_iload B dX0_see_95 6 rfl ?_
            refine x_iald B (lo := 0) (hi := 9) dX0_see_97 (tF_4 f (by omega)) (by omega) (by omega) (rF_4 f _ (by omega)) (fun z97 ez97 lz97 uz97 => ?_)
            exact J98 z97 (⟨by unfold sh0; rw [if_neg h8, Is_e ez97, sto_eq]; exact hw60, by omega, by omega⟩)
          · show Vx x E (sto M2 (16 + 5 * f + 4) (k2).toNat z60) 87 [(0, .ref (E.1 ((16 + 5 * f)))), (1, .ref (E.1 (12))), (2, .int (iI (sc))), (3, .int (iI (pl))), (4, .ref (E.1 (w))), (5, .ref (E.1 (ti))), (6, .int (iI (k2)))] [.int (iI (k2)), .ref (E.1 ((16 + 5 * f + 2)))]
            have h8 : (M (w + 1) 11).toNat.testBit k2.toNat = true := by
              rcases hz80 with ⟨h5, h6⟩ | ⟨h5, h6⟩
              · rw [e77] at h6
                exact h6
              · omega
            refine x_iconst B dX0_see_87 ?_
            refine x_goto B (tgt := 98) dX0_see_88 (by decide) ?_
            exact J98 0 (⟨by unfold sh0; rw [if_pos h8], by omega, by omega⟩)
      exact L37 0 M1 (⟨by omega, by omega, i3, ltF_16 i4 (by omega), ltF_0, ltF_0⟩)
    · show Vx x E M1 10 [(0, .ref (E.1 ((16 + 5 * f)))), (1, .ref (E.1 (12))), (2, .int (iI (sc))), (3, .int (iI (pl))), (4, .ref (E.1 (w))), (5, .ref (E.1 (ti))), (6, .int (iI (k)))] []
      refine x_aload_n B dX0_see_10 0 rfl rfl ?_
      refine x_getR B (ci := 0) (k := 0) dX0_see_11 (tF_o f (by omega)) rfl rfl (by decide) inGX0 kw_179 ?_
      refine x_iload B dX0_see_14 6 rfl ?_
      refine x_aload_n B dX0_see_16 1 rfl rfl ?_
      refine x_iload_n B dX0_see_17 2 rfl rfl ?_
      refine x_bipush B dX0_see_18 rfl ?_
      refine x_imul B dX0_see_20 ?_
      refine x_iload_n B dX0_see_21 3 rfl rfl ?_
      refine x_iload B dX0_see_22 6 rfl ?_
      refine x_callS B (st := [.int (iI (k)), .ref (E.1 ((16 + 5 * f + 1)))]) (av := [.ref (E.1 (12)), .int (iI (sc * 64)), .int (iI (pl)), .int (iI (k))]) dX0_see_24 cs_X0_lightAt kw_533 ⟨rfl, rfl, Nat.le_of_ble_eq_true rfl, Nat.le_of_ble_eq_true rfl⟩ rfl rfl (Nat.le_of_ble_eq_true rfl) (c_X0_lightAt _ E _ (sc * 64) pl k (by omega) (by omega) (by omega) (by omega) (by omega) (by omega)) (k_i (fun z24 Mq hz24 => ?_))
      obtain ⟨rfl, hz24⟩ := hz24
      refine x_iast B (lo := 0) (hi := 9) dX0_see_27 (tF_1 f (by omega)) (by omega) (by omega) (rF_1 f _ (by omega)) (by omega) (by omega) ?_
      refine x_iinc B (q := 6) dX0_see_28 rfl [1, 2, 3, 4, 5, 6, 0] (by decide) (lv' := [(0, .ref (E.1 ((16 + 5 * f)))), (1, .ref (E.1 (12))), (2, .int (iI (sc))), (3, .int (iI (pl))), (4, .ref (E.1 (w))), (5, .ref (E.1 (ti))), (6, .int (iI (k + 1)))]) rfl ?_
      refine x_goto B (tgt := 3) dX0_see_31 (by decide) ?_
      exact ih3 (k + 1) (sto M1 (16 + 5 * f + 1) (k).toNat z24) (⟨by omega, by omega, offC_sto i3 (by omega), ltF_s i4 i1 (by rw [hz24.1, hs0, offC_f i3 (by omega)]; show _ = hasF _ _ _ ((k.toNat : Nat) : Int); rw [Int.toNat_of_nonneg i1])⟩) (by omega)
  exact L3 0 M (⟨by omega, by omega, offC_rf, ltF_0⟩)
/-- one row beside (above, below) hides a POINT's sound -/
abbrev hiS (s : Nat → Int) (m p w : Int) : Prop := 0 ≤ nbT p w ∧ m ≤ s (nbT p w).toNat - s p.toNat
def loS (s : Nat → Int) (m p : Int) : Int := if hiS s m p 2 ∨ hiS s m p 3 then 0 else s p.toNat
theorem loS_0 {s : Nat → Int} {m p k : Int} (h0 : 2 ≤ k) (h1 : k ≤ 3) (h : hiS s m p k) : loS s m p = 0 := by
  unfold loS
  rcases (show k = 2 ∨ k = 3 by omega) with rfl | rfl
  · rw [if_pos (Or.inl h)]
  · rw [if_pos (Or.inr h)]
theorem loS_s {s : Nat → Int} {m p : Int} (h : ∀ w : Int, 2 ≤ w → w < 4 → ¬ hiS s m p w) : loS s m p = s p.toNat := by
  unfold loS
  rw [if_neg]
  intro c
  rcases c with c | c
  · exact h 2 (by omega) (by omega) c
  · exact h 3 (by omega) (by omega) c
theorem loS_cg {s s' : Nat → Int} {m p : Int} (p0 : 0 ≤ p) (p1 : p < 16) (e : eqF s s') : loS s m p = loS s' m p := by
  have n1 := nbT_in (w := 2) p0 p1
  have n2 := nbT_in (w := 3) p0 p1
  unfold loS hiS
  rw [e p.toNat (by omega), e (nbT p 2).toNat (by omega), e (nbT p 3).toNat (by omega)]
def soE (a b : Nat → Int) (m : Int) : Prop := ∀ p : Int, 0 ≤ p → p < 16 → loS a m p = loS b m p
abbrev rm_X0_feelsAs : Room := { frames := 0, cells := 0, slots := 0, locals := 0 }
theorem cs_X0_feelsAs : Cv yX0_feelsAs cX0_feelsAs 3 (some .boolean) 1 := ⟨kw_616, ⟨kw_614, kw_615⟩, kw_62, by decide, by decide, by decide +kernel⟩
set_option maxHeartbeats 4000000 in
set_option maxRecDepth 100000 in
theorem c_X0_feelsAs (l : Launch) (E : Ev) (M : Mem) (f g : Nat) (g1 : f < 7) (g2 : g < 7) : Ct l yX0_feelsAs cX0_feelsAs 3 (some .boolean) rm_X0_feelsAs E M [.ref (E.1 ((16 + 5 * f))), .ref (E.1 ((16 + 5 * g)))] (pI (fun z M' => M = M' ∧ (z = 1 ∧ eqF (M (16 + 5 * f + 3)) (M (16 + 5 * g + 3)) ∨ z = 0 ∧ ¬ eqF (M (16 + 5 * f + 3)) (M (16 + 5 * g + 3))))) := by
  refine Ct_of (lv := [(0, .ref (E.1 ((16 + 5 * f)))), (1, .ref (E.1 ((16 + 5 * g))))]) (by decide) ⟨rfl, rfl⟩ (Nat.le_of_ble_eq_true rfl) rfl (fun x _ B R => ?_)
  refine x_iconst B dX0_feelsAs_0 ?_
  refine x_istore_n B dX0_feelsAs_1 [1, 2, 0] rfl (by decide) (lv' := [(0, .ref (E.1 ((16 + 5 * f)))), (1, .ref (E.1 ((16 + 5 * g)))), (2, .int (iI (0)))]) rfl ?_
  have L2 : ∀ (k : Int), (0 ≤ k ∧ k ≤ 16 ∧ ltF (M (16 + 5 * f + 3)) (M (16 + 5 * g + 3)) k) → Vx x E M 2 [(0, .ref (E.1 ((16 + 5 * f)))), (1, .ref (E.1 ((16 + 5 * g)))), (2, .int (iI (k)))] [] := by
    refine lo1 _ _ (fun k => (16 - k).toNat) ?_
    intro k hI ih2
    obtain ⟨i1, i2, i3⟩ := hI
    refine x_iload_n B dX0_feelsAs_2 2 rfl rfl ?_
    refine x_bipush B dX0_feelsAs_3 rfl ?_
    refine x_icmp_ge B (tgt := 31) dX0_feelsAs_5 (by decide) ⟨by omega, by omega⟩ ⟨by omega, by omega⟩ (fun c5 => ?_) (fun c5 => ?_)
    · show Vx x E M 31 [(0, .ref (E.1 ((16 + 5 * f)))), (1, .ref (E.1 ((16 + 5 * g)))), (2, .int (iI (k)))] []
      refine x_iconst B dX0_feelsAs_31 ?_
      exact r_z B R dX0_feelsAs_32 (by omega) (by omega) (⟨rfl, Or.inl ⟨rfl, ltF_16 i3 (by omega)⟩⟩)
    · show Vx x E M 8 [(0, .ref (E.1 ((16 + 5 * f)))), (1, .ref (E.1 ((16 + 5 * g)))), (2, .int (iI (k)))] []
      refine x_aload_n B dX0_feelsAs_8 0 rfl rfl ?_
      refine x_getR B (ci := 0) (k := 2) dX0_feelsAs_9 (tF_o f (by omega)) rfl rfl (by decide) inGX0 kw_183 ?_
      refine x_iload_n B dX0_feelsAs_12 2 rfl rfl ?_
      refine x_iald B (lo := 0) (hi := 9) dX0_feelsAs_13 (tF_3 f (by omega)) (by omega) (by omega) (rF_3 f _ (by omega)) (fun z13 ez13 lz13 uz13 => ?_)
      refine x_aload_n B dX0_feelsAs_14 1 rfl rfl ?_
      refine x_getR B (ci := 0) (k := 2) dX0_feelsAs_15 (tF_o g (by omega)) rfl rfl (by decide) inGX0 kw_183 ?_
      refine x_iload_n B dX0_feelsAs_18 2 rfl rfl ?_
      refine x_iald B (lo := 0) (hi := 9) dX0_feelsAs_19 (tF_3 g (by omega)) (by omega) (by omega) (rF_3 g _ (by omega)) (fun z19 ez19 lz19 uz19 => ?_)
      refine x_icmp_eq B (tgt := 25) dX0_feelsAs_20 (by decide) ⟨by omega, by omega⟩ ⟨by omega, by omega⟩ (fun c20 => ?_) (fun c20 => ?_)
      · show Vx x E M 25 [(0, .ref (E.1 ((16 + 5 * f)))), (1, .ref (E.1 ((16 + 5 * g)))), (2, .int (iI (k)))] []
        refine x_iinc B (q := 2) dX0_feelsAs_25 rfl [1, 2, 0] (by decide) (lv' := [(0, .ref (E.1 ((16 + 5 * f)))), (1, .ref (E.1 ((16 + 5 * g)))), (2, .int (iI (k + 1)))]) rfl ?_
        refine x_goto B (tgt := 2) dX0_feelsAs_28 (by decide) ?_
        exact ih2 (k + 1) (⟨by omega, by omega, fun q hq => if h : (q : Int) < k then i3 q h else by rw [show q = k.toNat by omega, ← Is_e ez13, ← Is_e ez19]; exact c20⟩) (by omega)
      · show Vx x E M 23 [(0, .ref (E.1 ((16 + 5 * f)))), (1, .ref (E.1 ((16 + 5 * g)))), (2, .int (iI (k)))] []
        refine x_iconst B dX0_feelsAs_23 ?_
        exact r_z B R dX0_feelsAs_24 (by omega) (by omega) (⟨rfl, Or.inr ⟨rfl, fun h => c20 (by rw [Is_e ez13, Is_e ez19]; exact h _ (by omega))⟩⟩)
  exact L2 0 (⟨by omega, by omega, ltF_0⟩)
abbrev rm_X0_loudness : Room := { frames := 0, cells := 0, slots := 0, locals := 0 }
theorem cs_X0_loudness : Cv yX0_loudness cX0_loudness 5 (some .int) 2 := ⟨kw_724, ⟨kw_722, kw_723⟩, kw_62, by decide, by decide, by decide +kernel⟩
set_option maxHeartbeats 4000000 in
set_option maxRecDepth 100000 in
theorem c_X0_loudness (l : Launch) (E : Ev) (M : Mem) (f : Nat) (p m : Int) (g1 : f < 7) (g2 : 0 ≤ p) (g3 : p < 16) (g4 : 0 ≤ m) (g5 : m ≤ 9) : Ct l yX0_loudness cX0_loudness 5 (some .int) rm_X0_loudness E M [.ref (E.1 ((16 + 5 * f))), .int (iI (p)), .int (iI (m))] (pI (fun z M' => M = M' ∧ (z = loS (M (16 + 5 * f + 2)) m p ∧ 0 ≤ z ∧ z ≤ 9))) := by
  refine Ct_of (lv := [(0, .ref (E.1 ((16 + 5 * f)))), (1, .int (iI (p))), (2, .int (iI (m)))]) (by decide) ⟨rfl, rfl⟩ (Nat.le_of_ble_eq_true rfl) rfl (fun x _ B R => ?_)
  refine x_iconst B dX0_loudness_0 ?_
  refine x_istore_n B dX0_loudness_1 [1, 2, 3, 0] rfl (by decide) (lv' := [(0, .ref (E.1 ((16 + 5 * f)))), (1, .int (iI (p))), (2, .int (iI (m))), (3, .int (iI (2)))]) rfl ?_
  have L2 : ∀ (k : Int), (2 ≤ k ∧ k ≤ 4 ∧ ∀ w : Int, 2 ≤ w → w < k → ¬ hiS (M (16 + 5 * f + 2)) m p w) → Vx x E M 2 [(0, .ref (E.1 ((16 + 5 * f)))), (1, .int (iI (p))), (2, .int (iI (m))), (3, .int (iI (k)))] [] := by
    refine lo1 _ _ (fun k => (4 - k).toNat) ?_
    intro k hI ih2
    obtain ⟨i1, i2, i3⟩ := hI
    refine x_iload_n B dX0_loudness_2 3 rfl rfl ?_
    refine x_iconst B dX0_loudness_3 ?_
    refine x_icmp_gt B (tgt := 49) dX0_loudness_4 (by decide) ⟨by omega, by omega⟩ ⟨by omega, by omega⟩ (fun c4 => ?_) (fun c4 => ?_)
    · show Vx x E M 49 [(0, .ref (E.1 ((16 + 5 * f)))), (1, .int (iI (p))), (2, .int (iI (m))), (3, .int (iI (k)))] []
      refine x_aload_n B dX0_loudness_49 0 rfl rfl ?_
      refine x_getR B (ci := 0) (k := 1) dX0_loudness_50 (tF_o f (by omega)) rfl rfl (by decide) inGX0 kw_181 ?_
      refine x_iload_n B dX0_loudness_53 1 rfl rfl ?_
      refine x_iald B (lo := 0) (hi := 9) dX0_loudness_54 (tF_2 f (by omega)) (by omega) (by omega) (rF_2 f _ (by omega)) (fun z54 ez54 lz54 uz54 => ?_)
      exact r_i B R dX0_loudness_55 (⟨rfl, by rw [loS_s (fun w h0 h1 => i3 w h0 (by omega))]; exact Is_e ez54, by omega, by omega⟩)
    · show Vx x E M 7 [(0, .ref (E.1 ((16 + 5 * f)))), (1, .int (iI (p))), (2, .int (iI (m))), (3, .int (iI (k)))] []
      refine x_getsN B 3 3 dX0_loudness_7 rfl rfl ?_
      refine x_iconst B dX0_loudness_10 ?_
      refine x_iload_n B dX0_loudness_11 1 rfl rfl ?_
      refine x_imul B dX0_loudness_12 ?_
      refine x_iload_n B dX0_loudness_13 3 rfl rfl ?_
      refine x_iadd B dX0_loudness_14 ?_
      refine x_sald B 3 dX0_loudness_15 rfl (by omega) (by rw [be_len]; omega) (by decide) (fun z15 ez15 => ?_)
      refine x_istore B dX0_loudness_16 [1, 2, 3, 4, 0] (by decide) (lv' := [(0, .ref (E.1 ((16 + 5 * f)))), (1, .int (iI (p))), (2, .int (iI (m))), (3, .int (iI (k))), (4, .int (iI (z15)))]) rfl ?_
      have hnb := nbT_in (p := p) (w := k) (by omega) (by omega)
      have fz15 := Is_e ez15
      rw [be_get (by omega) (by omega) (by omega) (by omega)] at fz15
      refine x_iload B dX0_loudness_18 4 rfl ?_
      refine x_if_lt B (tgt := 43) dX0_loudness_20 (by decide) ⟨by omega, by omega⟩ (fun c20 => ?_) (fun c20 => ?_)
      · show Vx x E M 43 [(0, .ref (E.1 ((16 + 5 * f)))), (1, .int (iI (p))), (2, .int (iI (m))), (3, .int (iI (k))), (4, .int (iI (z15)))] []
        refine x_iinc B (q := 3) dX0_loudness_43 rfl [1, 2, 3, 0, 4] (by decide) (lv' := [(0, .ref (E.1 ((16 + 5 * f)))), (1, .int (iI (p))), (2, .int (iI (m))), (3, .int (iI (k + 1))), (4, .int (iI (z15)))]) rfl ?_
        refine x_goto B (tgt := 2) dX0_loudness_46 (by decide) ?_
        refine x_lv [0, 1, 2, 3] (lv' := [(0, .ref (E.1 ((16 + 5 * f)))), (1, .int (iI (p))), (2, .int (iI (m))), (3, .int (iI (k + 1)))]) rfl ?_
        exact ih2 (k + 1) (⟨by omega, by omega, fun w h0 h1 => if h : w < k then i3 w h0 h else by rw [show w = k by omega]; exact fun c => by have := c.1; omega⟩) (by omega)
      · show Vx x E M 23 [(0, .ref (E.1 ((16 + 5 * f)))), (1, .int (iI (p))), (2, .int (iI (m))), (3, .int (iI (k))), (4, .int (iI (z15)))] []
        refine x_aload_n B dX0_loudness_23 0 rfl rfl ?_
        refine x_getR B (ci := 0) (k := 1) dX0_loudness_24 (tF_o f (by omega)) rfl rfl (by decide) inGX0 kw_181 ?_
        refine x_iload B dX0_loudness_27 4 rfl ?_
        refine x_iald B (lo := 0) (hi := 9) dX0_loudness_29 (tF_2 f (by omega)) (by omega) (by omega) (rF_2 f _ (by omega)) (fun z29 ez29 lz29 uz29 => ?_)
        refine x_aload_n B dX0_loudness_30 0 rfl rfl ?_
        refine x_getR B (ci := 0) (k := 1) dX0_loudness_31 (tF_o f (by omega)) rfl rfl (by decide) inGX0 kw_181 ?_
        refine x_iload_n B dX0_loudness_34 1 rfl rfl ?_
        refine x_iald B (lo := 0) (hi := 9) dX0_loudness_35 (tF_2 f (by omega)) (by omega) (by omega) (rF_2 f _ (by omega)) (fun z35 ez35 lz35 uz35 => ?_)
        refine x_isub B dX0_loudness_36 ?_
        refine x_iload_n B dX0_loudness_37 2 rfl rfl ?_
        refine x_icmp_lt B (tgt := 43) dX0_loudness_38 (by decide) ⟨by omega, by omega⟩ ⟨by omega, by omega⟩ (fun c38 => ?_) (fun c38 => ?_)
        · show Vx x E M 43 [(0, .ref (E.1 ((16 + 5 * f)))), (1, .int (iI (p))), (2, .int (iI (m))), (3, .int (iI (k))), (4, .int (iI (z15)))] []
          refine x_iinc B (q := 3) dX0_loudness_43 rfl [1, 2, 3, 0, 4] (by decide) (lv' := [(0, .ref (E.1 ((16 + 5 * f)))), (1, .int (iI (p))), (2, .int (iI (m))), (3, .int (iI (k + 1))), (4, .int (iI (z15)))]) rfl ?_
          refine x_goto B (tgt := 2) dX0_loudness_46 (by decide) ?_
          refine x_lv [0, 1, 2, 3] (lv' := [(0, .ref (E.1 ((16 + 5 * f)))), (1, .int (iI (p))), (2, .int (iI (m))), (3, .int (iI (k + 1)))]) rfl ?_
          exact ih2 (k + 1) (⟨by omega, by omega, fun w h0 h1 => if h : w < k then i3 w h0 h else by rw [show w = k by omega]; exact fun c => by have c2 := c.2; rw [← fz15, ← Is_e ez29, ← Is_e ez35] at c2; omega⟩) (by omega)
        · show Vx x E M 41 [(0, .ref (E.1 ((16 + 5 * f)))), (1, .int (iI (p))), (2, .int (iI (m))), (3, .int (iI (k))), (4, .int (iI (z15)))] []
          refine x_iconst B dX0_loudness_41 ?_
          exact r_i B R dX0_loudness_42 (⟨rfl, by refine (loS_0 (k := k) (by omega) (by omega) ⟨by omega, ?_⟩).symm; rw [← fz15, ← Is_e ez29, ← Is_e ez35]; omega, by omega, by omega⟩)
  exact L2 2 (⟨by omega, by omega, fun w h0 h1 => by omega⟩)
abbrev rm_X0_soundsAs : Room := { frames := 1, cells := 0, slots := 0, locals := 24 }
theorem cs_X0_soundsAs : Cv yX0_soundsAs cX0_soundsAs 4 (some .boolean) 2 := ⟨kw_732, ⟨kw_730, kw_731⟩, kw_62, by decide, by decide, by decide +kernel⟩
set_option maxHeartbeats 4000000 in
set_option maxRecDepth 100000 in
theorem c_X0_soundsAs (l : Launch) (E : Ev) (M : Mem) (f g : Nat) (m : Int) (g1 : f < 7) (g2 : g < 7) (g3 : 0 ≤ m) (g4 : m ≤ 9) : Ct l yX0_soundsAs cX0_soundsAs 4 (some .boolean) rm_X0_soundsAs E M [.ref (E.1 ((16 + 5 * f))), .ref (E.1 ((16 + 5 * g))), .int (iI (m))] (pI (fun z M' => M = M' ∧ (z = 1 ∧ soE (M (16 + 5 * f + 2)) (M (16 + 5 * g + 2)) m ∨ z = 0 ∧ ¬ soE (M (16 + 5 * f + 2)) (M (16 + 5 * g + 2)) m))) := by
  refine Ct_of (lv := [(0, .ref (E.1 ((16 + 5 * f)))), (1, .ref (E.1 ((16 + 5 * g)))), (2, .int (iI (m)))]) (by decide) ⟨rfl, rfl⟩ (Nat.le_of_ble_eq_true rfl) rfl (fun x _ B R => ?_)
  refine x_iconst B dX0_soundsAs_0 ?_
  refine x_istore_n B dX0_soundsAs_1 [1, 2, 3, 0] rfl (by decide) (lv' := [(0, .ref (E.1 ((16 + 5 * f)))), (1, .ref (E.1 ((16 + 5 * g)))), (2, .int (iI (m))), (3, .int (iI (0)))]) rfl ?_
  have L2 : ∀ (k : Int), (0 ≤ k ∧ k ≤ 16 ∧ ∀ p : Int, 0 ≤ p → p < k → loS (M (16 + 5 * f + 2)) m p = loS (M (16 + 5 * g + 2)) m p) → Vx x E M 2 [(0, .ref (E.1 ((16 + 5 * f)))), (1, .ref (E.1 ((16 + 5 * g)))), (2, .int (iI (m))), (3, .int (iI (k)))] [] := by
    refine lo1 _ _ (fun k => (16 - k).toNat) ?_
    intro k hI ih2
    obtain ⟨i1, i2, i3⟩ := hI
    refine x_iload_n B dX0_soundsAs_2 3 rfl rfl ?_
    refine x_bipush B dX0_soundsAs_3 rfl ?_
    refine x_icmp_ge B (tgt := 31) dX0_soundsAs_5 (by decide) ⟨by omega, by omega⟩ ⟨by omega, by omega⟩ (fun c5 => ?_) (fun c5 => ?_)
    · show Vx x E M 31 [(0, .ref (E.1 ((16 + 5 * f)))), (1, .ref (E.1 ((16 + 5 * g)))), (2, .int (iI (m))), (3, .int (iI (k)))] []
      refine x_iconst B dX0_soundsAs_31 ?_
      exact r_z B R dX0_soundsAs_32 (by omega) (by omega) (⟨rfl, Or.inl ⟨rfl, fun p h0 h1 => i3 p h0 (by omega)⟩⟩)
    · show Vx x E M 8 [(0, .ref (E.1 ((16 + 5 * f)))), (1, .ref (E.1 ((16 + 5 * g)))), (2, .int (iI (m))), (3, .int (iI (k)))] []
      refine x_aload_n B dX0_soundsAs_8 0 rfl rfl ?_
      refine x_iload_n B dX0_soundsAs_9 3 rfl rfl ?_
      refine x_iload_n B dX0_soundsAs_10 2 rfl rfl ?_
      refine x_callV B (st := []) (av := [.int (iI (k)), .int (iI (m))]) dX0_soundsAs_11 cs_X0_loudness kw_733 ⟨rfl, rfl, Nat.le_of_ble_eq_true rfl, Nat.le_of_ble_eq_true rfl⟩ rfl rfl (Nat.le_of_ble_eq_true rfl) (rc_obj B (ci := 0) (tF_o f (by omega)) rfl rfl) (c_X0_loudness _ E _ f k m (by omega) (by omega) (by omega) (by omega) (by omega)) (k_i (fun z11 Mq hz11 => ?_))
      obtain ⟨rfl, hz11⟩ := hz11
      refine x_aload_n B dX0_soundsAs_14 1 rfl rfl ?_
      refine x_iload_n B dX0_soundsAs_15 3 rfl rfl ?_
      refine x_iload_n B dX0_soundsAs_16 2 rfl rfl ?_
      refine x_callV B (st := [.int (iI (z11))]) (av := [.int (iI (k)), .int (iI (m))]) dX0_soundsAs_17 cs_X0_loudness kw_733 ⟨rfl, rfl, Nat.le_of_ble_eq_true rfl, Nat.le_of_ble_eq_true rfl⟩ rfl rfl (Nat.le_of_ble_eq_true rfl) (rc_obj B (ci := 0) (tF_o g (by omega)) rfl rfl) (c_X0_loudness _ E _ g k m (by omega) (by omega) (by omega) (by omega) (by omega)) (k_i (fun z17 Mq hz17 => ?_))
      obtain ⟨rfl, hz17⟩ := hz17
      refine x_icmp_eq B (tgt := 25) dX0_soundsAs_20 (by decide) ⟨by omega, by omega⟩ ⟨by omega, by omega⟩ (fun c20 => ?_) (fun c20 => ?_)
      · show Vx x E M 25 [(0, .ref (E.1 ((16 + 5 * f)))), (1, .ref (E.1 ((16 + 5 * g)))), (2, .int (iI (m))), (3, .int (iI (k)))] []
        refine x_iinc B (q := 3) dX0_soundsAs_25 rfl [1, 2, 3, 0] (by decide) (lv' := [(0, .ref (E.1 ((16 + 5 * f)))), (1, .ref (E.1 ((16 + 5 * g)))), (2, .int (iI (m))), (3, .int (iI (k + 1)))]) rfl ?_
        refine x_goto B (tgt := 2) dX0_soundsAs_28 (by decide) ?_
        exact ih2 (k + 1) (⟨by omega, by omega, fun p h0 h1 => if h : p < k then i3 p h0 h else by rw [show p = k by omega, ← hz11.1, ← hz17.1]; exact c20⟩) (by omega)
      · show Vx x E M 23 [(0, .ref (E.1 ((16 + 5 * f)))), (1, .ref (E.1 ((16 + 5 * g)))), (2, .int (iI (m))), (3, .int (iI (k)))] []
        refine x_iconst B dX0_soundsAs_23 ?_
        exact r_z B R dX0_soundsAs_24 (by omega) (by omega) (⟨rfl, Or.inr ⟨rfl, fun h => c20 (by rw [hz11.1, hz17.1]; exact h k (by omega) (by omega))⟩⟩)
  exact L2 0 (⟨by omega, by omega, fun p h0 h1 => by omega⟩)
