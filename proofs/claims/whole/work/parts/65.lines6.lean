def plT : List Int := [0, 0, 0, 0, 9, 0, 9, 8, 1, 0, 40, 0, 1, 1, 1, 1, 1, 1, 1, 1, 1, 1, 1, 1, 1, 1, 1, 1]
theorem pl_r : ∀ k, k < 28 → (rngT 79 k).1 ≤ (rngT 75 k).1 ∧ (rngT 75 k).2 ≤ (rngT 79 k).2 := by decide +kernel
theorem pl_x : ∀ k, k < 28 → rngT 75 k = (plT.getD k 0, plT.getD k 0) := by decide +kernel
theorem pl_v {M : Mem} (hw : wf M) {n : Nat} (h : n < 28) : M 75 n = plT.getD n 0 := by
  have a := hw 75 n
  rw [pl_x n h] at a
  exact Int.le_antisymm a.2 a.1
theorem pl_a : ∀ j, j < 12 → plT.getD j 0 = sAf.getD j 0 := by decide +kernel
theorem pl_b : ∀ j, j < 16 → plT.getD (12 + j) 0 = 1 := by decide +kernel
theorem ho_u : ∀ k, k < 28 → (rngT 78 k).2 = (rngT 79 k).2 := by decide +kernel
theorem ho_0 : ∀ k, k < 28 → (rngT 79 k).1 = 0 := by decide +kernel
theorem ho_1 : ∀ k, k < 28 → (rngT 78 k).1 = 0 ∨ (rngT 78 k).1 = 1 ∧ (k = 4 ∨ k = 6 ∨ k = 10 ∨ 12 ≤ k) := by decide +kernel
/-- what a text has read is never under its least -/
def lowV (v l : Nat → Int) : Prop := (1 ≤ v 4 ∧ 1 ≤ v 6 ∧ 1 ≤ v 10) ∧ ∀ q, q < 16 → 1 ≤ l q
def lowP (s : Ps) : Prop := s.1 = 0 → lowV s.2.2.2.2.2.1 s.2.2.2.2.2.2
theorem lowP_X {w a : Int} (h : ¬ w = 0) : lowP (pX w a) := fun q => absurd q h
theorem lowP_O {nx nt lt : Int} {v l : Nat → Int} (h : lowV v l) : lowP (pO nx nt lt v l) := fun _ => h
theorem low_get {T : Int → Tk} {lo hi nx : Int} : lo ≤ (gGet T lo hi nx).2.2.2 := by
  unfold gGet
  split
  · exact Int.le_refl _
  · split
    · exact Int.le_refl _
    · split
      · exact Int.le_refl _
      · rename_i c
        exact (Decidable.not_not.mp c).1
theorem low_v {v l : Nat → Int} {k : Nat} {x : Int} (h : lowV v l) (hx : k = 4 ∨ k = 6 ∨ k = 10 → 1 ≤ x) : lowV (udI v k x) l := by
  refine ⟨⟨?_, ?_, ?_⟩, h.2⟩
  · show 1 ≤ if 4 = k then x else v 4
    split
    · exact hx (by omega)
    · exact h.1.1
  · show 1 ≤ if 6 = k then x else v 6
    split
    · exact hx (by omega)
    · exact h.1.2.1
  · show 1 ≤ if 10 = k then x else v 10
    split
    · exact hx (by omega)
    · exact h.1.2.2
theorem low_l {v l : Nat → Int} {k : Nat} {x : Int} (h : lowV v l) (hx : 1 ≤ x) : lowV v (udI l k x) := by
  refine ⟨h.1, fun q hq => ?_⟩
  show 1 ≤ if q = k then x else l q
  split
  · exact hx
  · exact h.2 q hq
theorem low_stop {T : Int → Tk} {nx nt lt : Int} {v l : Nat → Int} (h : lowV v l) : lowP (gStop T nx nt lt v l) := by
  unfold gStop
  split
  · exact lowP_X (by decide)
  · split
    · exact lowP_X (by decide)
    · exact lowP_O h
theorem low_num {T : Int → Tk} {lo hi : Int} {n : Nat} {nx nt lt : Int} {v l : Nat → Int} (h : lowV v l) (hl : n = 4 ∨ n = 6 ∨ n = 10 → 1 ≤ lo) : lowP (gNum T lo hi n nx nt lt v l) := by
  unfold gNum
  split
  · exact low_stop (low_v h (fun q => Int.le_trans (hl q) low_get))
  · rename_i c
    exact lowP_X c
theorem low_body {T : Int → Tk} {n nx nt lt : Int} {v l : Nat → Int} (h : lowV v l) : lowP (gBody T n nx nt lt v l) := by
  unfold gBody
  split
  · unfold gWay
    split
    · exact lowP_X (by decide)
    · split
      · exact lowP_X (by decide)
      · exact low_stop (low_v h (fun q => by omega))
  · split
    · exact low_stop (low_v h (fun q => by omega))
    · split
      · unfold gDead
        split
        · split
          · exact lowP_X (by decide)
          · exact low_stop (low_v h (fun q => by omega))
        · rename_i c
          exact lowP_X c
      · split
        · unfold gLeast
          split
          · split
            · exact lowP_X (by decide)
            · unfold gLea2
              split
              · exact low_stop (low_l h low_get)
              · rename_i c
                exact lowP_X c
          · rename_i c
            exact lowP_X c
        · refine low_num h (fun q => ?_)
          rcases q with q | q | q <;> (rw [q]; decide)
theorem low_line {T : Int → Tk} {nx nt lt : Int} {v l : Nat → Int} (h : lowV v l) : lowP (gLine T nx nt lt v l) := by
  unfold gLine
  split
  · exact lowP_X (by decide)
  · split
    · exact lowP_X (by decide)
    · split
      · exact lowP_X (by decide)
      · exact low_body h
theorem low_it {T : Int → Tk} : ∀ n : Nat, (∀ i, i < n → (gIt T i).1 = 0) → lowP (gIt T n) := by
  intro n
  induction n with
  | zero => exact fun _ => lowP_O ⟨⟨by decide, by decide, by decide⟩, fun _ _ => Int.le_refl 1⟩
  | succ k ih => exact fun h => low_line (ih (fun i hi => h i (by omega)) (h k (by omega)))
abbrev mQI (T : Int → Tk) (M : Mem) (n : Nat) : Prop := mQ T M (gIt T n)
/-- so far in the reading -/
def lpI (T : Int → Tk) (M N : Mem) (n : Nat) : Prop := mF M N ∧ mQI T N n ∧ (∀ i, i < n → (gIt T i).1 = 0) ∧ ∀ i, i < n → ¬ (T (gIt T i).2.2.1).2.1 = 0 ∧ ¬ (T (gIt T i).2.2.1).2.1 = 4
theorem lp_ok {T : Int → Tk} {M N : Mem} {n : Nat} (h : lpI T M N n) (h0 : N 71 3 = 0) : (gIt T n).1 = 0 ∧ ¬ (T (gIt T n).2.2.1).2.1 = 4 ∧ mK N (T (gIt T n).2.2.1) ∧ mA N (gIt T n).2.2.2.1 (gIt T n).2.2.2.2.1 (gIt T n).2.2.2.2.2.1 (gIt T n).2.2.2.2.2.2 := by
  rcases h.2.1 with ⟨a, b⟩ | ⟨a, b⟩
  · exact absurd (b.1.symm.trans h0) a
  · rcases b with ⟨b1, b2⟩ | ⟨b1, b2, b3⟩
    · exact absurd (b2.1.symm.trans h0) (by decide)
    · exact ⟨a, b1, b2, b3⟩
theorem lp_cp {T : Int → Tk} {M N : Mem} {n k : Nat} {z : Int} (h : lpI T M N n) (h0 : N 71 3 = 0) (hk : k < 28) (hz : (rngT 79 k).1 ≤ z) (e : z = N 79 k) : (rngT 78 k).1 ≤ z := by
  rcases ho_1 k hk with a | ⟨a, b⟩
  · rw [a, ← ho_0 k hk]
    exact hz
  · obtain ⟨c1, c2, c3, c4⟩ := lp_ok h h0
    have hl := low_it n h.2.2.1 c1
    rw [a, e]
    rcases b with b | b | b | b
    · rw [b, c4.2.2.1 4 (by decide)]
      exact hl.1.1
    · rw [b, c4.2.2.1 6 (by decide)]
      exact hl.1.2.1
    · rw [b, c4.2.2.1 10 (by decide)]
      exact hl.1.2.2
    · have := c4.2.2.2 (k - 12) (by omega)
      rw [show 12 + (k - 12) = k by omega] at this
      rw [this]
      exact hl.2 _ (by omega)
theorem lp_le {T : Int → Tk} {M N : Mem} {n : Nat} {len : Int} (hT : tkG T len) (l0 : 0 ≤ len) (h : lpI T M N n) (h0 : (gIt T n).1 = 0) : (n : Int) ≤ len := by
  have := gIt_go hT l0 n (fun i hi => by
    by_cases e : i = n
    · rw [e]
      exact h0
    · exact h.2.2.1 i (by omega))
  omega
/-- a text that is wrong -/
theorem lp_bad {T : Int → Tk} {M N : Mem} {n : Nat} {z w : Int} {v l : Nat → Int} (h : lpI T M N n) (h0 : ¬ N 71 3 = 0) (hz : z = -10 - N 71 4) (hw : w = N 71 3) : gOut T z w v l := by
  rcases h.2.1 with ⟨a, b⟩ | ⟨a, b⟩
  · have n0 : n ≠ 0 := fun e => by
      rw [e] at a
      exact a rfl
    obtain ⟨m, hm⟩ : ∃ m, n = m + 1 := ⟨n - 1, by omega⟩
    subst hm
    refine ⟨m, ⟨fun i hi => h.2.2.1 i (by omega), fun i hi => (h.2.2.2 i (by omega)).1, Or.inr a⟩, Or.inr ⟨(h.2.2.2 m (by omega)).1, ?_, ?_, ?_⟩⟩
    · rw [hz, b.2.2]
    · rw [hw]
      exact b.1
    · rw [hw]
      exact h0
  · rcases b with ⟨b1, b2⟩ | ⟨b1, b2, b3⟩
    · have e : gIt T (n + 1) = pX 1 (T (gIt T n).2.2.1).1 := if_pos b1
      refine ⟨n, ⟨fun i hi => ?_, fun i hi => (h.2.2.2 i hi).1, Or.inr ?_⟩, Or.inr ⟨by rw [b1]; decide, ?_, ?_, ?_⟩⟩
      · by_cases q : i = n
        · rw [q]
          exact a
        · exact h.2.2.1 i (by omega)
      · rw [e]
        show ¬ (1 : Int) = 0
        decide
      · rw [hz, e, b2.2.2]
        rfl
      · rw [hw, e]
        exact b2.1
      · rw [hw]
        exact h0
    · exact absurd b2.1 h0
theorem lp_good {T : Int → Tk} {M N : Mem} {n : Nat} {z : Int} {v l : Nat → Int} (h : lpI T M N n) (h0 : N 71 3 = 0) (h7 : N 71 7 = 0) (hz : z = (n : Int)) (hv : ∀ j, j < 12 → v j = N 79 j) (hl : ∀ j, j < 16 → l j = N 79 (12 + j)) : gOut T z 0 v l := by
  obtain ⟨a, b, c, d⟩ := lp_ok h h0
  have e : (T (gIt T n).2.2.1).2.1 = 0 := c.2.2.2.1.symm.trans h7
  refine ⟨n, ⟨fun i hi => ?_, fun i hi => (h.2.2.2 i hi).1, Or.inl e⟩, Or.inl ⟨e, hz, rfl, fun j hj => ?_, fun j hj => ?_⟩⟩
  · by_cases q : i = n
    · rw [q]
      exact a
    · exact h.2.2.1 i (by omega)
  · rw [hv j hj]
    exact d.2.2.1 j hj
  · rw [hl j hj]
    exact d.2.2.2 j hj
theorem lp_s {T : Int → Tk} {M N N' : Mem} {n : Nat} (h : lpI T M N n) (h0 : N 71 3 = 0) (h7 : ¬ N 71 7 = 0) (hf : mF N N') (hq : mQ T N' (gLine T (gIt T n).2.2.1 (gIt T n).2.2.2.1 (gIt T n).2.2.2.2.1 (gIt T n).2.2.2.2.2.1 (gIt T n).2.2.2.2.2.2)) : lpI T M N' (n + 1) := by
  obtain ⟨a, b, c, d⟩ := lp_ok h h0
  refine ⟨mF_tr h.1 hf, hq, fun i hi => ?_, fun i hi => ?_⟩
  · by_cases q : i = n
    · rw [q]
      exact a
    · exact h.2.2.1 i (by omega)
  · by_cases q : i = n
    · rw [q]
      exact ⟨by rw [← c.2.2.2.1]; exact h7, b⟩
    · exact h.2.2.2 i (by omega)
/-- the state at the start of a text -/
def tx0 (M : Mem) : Mem := sto (sto (sto (sto M 71 3 0) 71 5 0) 71 16 0) 71 17 0
theorem tx0_F {M : Mem} : mF M (tx0 M) := ⟨fun i j a _ => by unfold tx0; rw [sto_ni _ _ _ _ a, sto_ni _ _ _ _ a, sto_ni _ _ _ _ a, sto_ni _ _ _ _ a], fun j a b c => by unfold tx0; rw [sto_nj _ _ _ _ c, sto_nj _ _ _ _ b, sto_nj _ _ _ _ (by omega), sto_nj _ _ _ _ (by omega)]⟩
theorem tx0_3 {M : Mem} : tx0 M 71 3 = 0 := by unfold tx0; rw [sto_nj _ _ _ _ (by decide), sto_nj _ _ _ _ (by decide), sto_nj _ _ _ _ (by decide), sto_eq]
theorem tx0_5 {M : Mem} : tx0 M 71 5 = 0 := by unfold tx0; rw [sto_nj _ _ _ _ (by decide), sto_nj _ _ _ _ (by decide), sto_eq]
theorem tx0_16 {M : Mem} : tx0 M 71 16 = 0 := by unfold tx0; rw [sto_nj _ _ _ _ (by decide), sto_eq]
theorem tx0_17 {M : Mem} : tx0 M 71 17 = 0 := by unfold tx0; rw [sto_eq]
theorem lp_0 {M N N' : Mem} (hw : wf M) (ho : offC (tx0 M) N 79 80) (hc : ltF (N 79) (tx0 M 75) 28) (hr : nxR N N') : lpI (TM M) M N' 0 := by
  have e71 : N 71 = tx0 M 71 := offC_f ho (by omega)
  have f1 : mF M N := mF_tr tx0_F ⟨fun i j _ b => ho i j (by omega), fun j _ _ _ => by rw [e71]⟩
  have e75 : tx0 M 75 = M 75 := funext fun j => tx0_F.1 75 j (by decide) (by decide)
  have hA : mA N 0 0 (fun b => sAf.getD b 0) (fun _ => 1) := by
    refine ⟨by rw [e71]; exact tx0_16, by rw [e71]; exact tx0_17, fun j hj => ?_, fun q hq => ?_⟩
    · rw [hc j (by omega), e75, pl_v hw (by omega)]
      exact pl_a j hj
    · rw [hc (12 + q) (by omega), e75, pl_v hw (by omega)]
      exact pl_b q hq
  obtain ⟨r1, r2⟩ := nx_m (nx := 0) (by rw [e71]; exact tx0_3) (by rw [e71]; exact tx0_5) hA hr
  rw [TM_F f1] at r2
  exact ⟨mF_tr f1 r1, mQ_O r2, fun i hi => by omega, fun i hi => by omega⟩
abbrev rm_X8_text : Room := { frames := 5, cells := 0, slots := 0, locals := 111 }
theorem cs_X8_text : Cv yX8_text cX8_text 3 (some .int) 0 := ⟨kw_958, ⟨kw_956, kw_957⟩, kw_67, by decide, by decide, by decide +kernel⟩
set_option maxHeartbeats 4000000 in
set_option maxRecDepth 100000 in
theorem c_X8_text (l : Launch) (E : Ev) (M : Mem)   : Ct l yX8_text cX8_text 3 (some .int) rm_X8_text E M [.ref (E.1 (71))] (pI (fun z M' => M' 71 1 = 0 ∧ (∀ i j, i ≠ 71 → i ≠ 79 → i ≠ 78 → M' i j = M i j) ∧ (∀ j, 8 < j → j ≠ 16 → j ≠ 17 → M' 71 j = M 71 j) ∧ (gOut (TM M) z (M' 71 2) (M' 78) (mL M') ∧ M' 71 2 = 0 ∨ gOut (TM M) z (M' 71 2) (M' 78) (mL M') ∧ ¬ M' 71 2 = 0 ∧ M' 78 = M 78))) := by
  refine Ct_of (lv := [(0, .ref (E.1 (71)))]) (by decide) ⟨rfl, rfl⟩ (Nat.le_of_ble_eq_true rfl) rfl (fun x _ B R => ?_)
  refine x_wf (fun hwf => ?_)
  obtain ⟨len, hlen⟩ : ∃ q : Int, Is q (M 71 1) := ⟨_, rfl⟩
  have l0 : 0 ≤ len ∧ len ≤ 200 := by rw [Is_e hlen]; exact hwf 71 1
  have hG := TM_G M
  rw [← Is_e hlen] at hG
  refine x_aload_n B dX8_text_0 0 rfl rfl ?_
  refine x_iconst B dX8_text_1 ?_
  refine x_put B (ci := 8) (k := 3) (lo := 0) (hi := 4) (ty := .int) dX8_text_2 rfl rfl rfl (by decide) inGX8 tyX8_ok nmX8 kw_808 rfl (by decide +kernel) (nar_i _) (fit_i _) rfl (by omega) (by omega) ?_
  refine x_aload_n B dX8_text_5 0 rfl rfl ?_
  refine x_iconst B dX8_text_6 ?_
  refine x_put B (ci := 8) (k := 5) (lo := 0) (hi := 200) (ty := .int) dX8_text_7 rfl rfl rfl (by decide) inGX8 tyX8_ok nmX8 kw_810 rfl (by decide +kernel) (nar_i _) (fit_i _) rfl (by omega) (by omega) ?_
  refine x_aload_n B dX8_text_10 0 rfl rfl ?_
  refine x_iconst B dX8_text_11 ?_
  refine x_put B (ci := 8) (k := 16) (lo := 0) (hi := 65535) (ty := .int) dX8_text_12 rfl rfl rfl (by decide) inGX8 tyX8_ok nmX8 kw_821 rfl (by decide +kernel) (nar_i _) (fit_i _) rfl (by omega) (by omega) ?_
  refine x_aload_n B dX8_text_15 0 rfl rfl ?_
  refine x_iconst B dX8_text_16 ?_
  refine x_put B (ci := 8) (k := 17) (lo := 0) (hi := 65535) (ty := .int) dX8_text_17 rfl rfl rfl (by decide) inGX8 tyX8_ok nmX8 kw_822 rfl (by decide +kernel) (nar_i _) (fit_i _) rfl (by omega) (by omega) ?_
  show Vx x E (tx0 M) _ _ _
  refine x_iconst B dX8_text_20 ?_
  refine x_istore_n B dX8_text_21 [1, 0] rfl (by decide) (lv' := [(0, .ref (E.1 (71))), (1, .int (iI (0)))]) rfl ?_
  refine x_iconst B dX8_text_22 ?_
  refine x_istore_n B dX8_text_23 [1, 2, 0] rfl (by decide) (lv' := [(0, .ref (E.1 (71))), (1, .int (iI (0))), (2, .int (iI (0)))]) rfl ?_
  have L24 : ∀ (k : Int) (N1 : Mem), (0 ≤ k ∧ k ≤ 28 ∧ offC (tx0 M) N1 79 80 ∧ ltF (N1 79) (tx0 M 75) k) → Vx x E N1 24 [(0, .ref (E.1 (71))), (1, .int (iI (0))), (2, .int (iI (k)))] [] := by
    refine lo2 _ _ (fun k N1 => (28 - k).toNat) ?_
    intro k N1 hI ih24
    obtain ⟨i1, i2, i3, i4⟩ := hI
    refine x_iload_n B dX8_text_24 2 rfl rfl ?_
    refine x_bipush B dX8_text_25 rfl ?_
    refine x_icmp_ge B (tgt := 48) dX8_text_27 (by decide) ⟨by omega, by omega⟩ ⟨by omega, by omega⟩ (fun c27 => ?_) (fun c27 => ?_)
    · show Vx x E N1 48 [(0, .ref (E.1 (71))), (1, .int (iI (0))), (2, .int (iI (k)))] []
      refine x_aload_n B dX8_text_48 0 rfl rfl ?_
      refine x_callV B (st := []) (av := []) dX8_text_49 cs_X8_next kw_959 ⟨rfl, rfl, Nat.le_of_ble_eq_true rfl, Nat.le_of_ble_eq_true rfl⟩ rfl rfl (Nat.le_of_ble_eq_true rfl) (rc_obj B (ci := 8) rfl rfl rfl) (c_X8_next _ E _ ) (k_v (fun M49 hz49 => ?_))
      have L52 : ∀ (mn : Int) (N2 : Mem), (0 ≤ mn ∧ mn ≤ 201 ∧ lpI (TM M) M N2 mn.toNat) → Vx x E N2 52 [(0, .ref (E.1 (71))), (1, .int (iI (mn)))] [] := by
        refine lo2 _ _ (fun mn N2 => (201 - mn).toNat) ?_
        intro mn N2 hI ih52
        obtain ⟨n1, n2, n3⟩ := hI
        refine x_aload_n B dX8_text_52 0 rfl rfl ?_
        refine x_getI B (ci := 8) (k := 3) (lo := 0) (hi := 4) dX8_text_53 rfl rfl rfl (by decide) inGX8 kw_808 rfl (fun z53 ez53 lz53 uz53 => ?_)
        refine x_if_ne B (tgt := 76) dX8_text_56 (by decide) ⟨by omega, by omega⟩ (fun c56 => ?_) (fun c56 => ?_)
        · show Vx x E N2 76 [(0, .ref (E.1 (71))), (1, .int (iI (mn)))] []
          refine x_aload_n B dX8_text_76 0 rfl rfl ?_
          refine x_iconst B dX8_text_77 ?_
          refine x_put B (ci := 8) (k := 1) (lo := 0) (hi := 200) (ty := .int) dX8_text_78 rfl rfl rfl (by decide) inGX8 tyX8_ok nmX8 kw_806 rfl (by decide +kernel) (nar_i _) (fit_i _) rfl (by omega) (by omega) ?_
          refine x_aload_n B dX8_text_81 0 rfl rfl ?_
          refine x_aload_n B dX8_text_82 0 rfl rfl ?_
          refine x_getI B (ci := 8) (k := 3) (lo := 0) (hi := 4) dX8_text_83 rfl rfl rfl (by decide) inGX8 kw_808 rfl (fun z83 ez83 lz83 uz83 => ?_)
          refine x_put B (ci := 8) (k := 2) (lo := 0) (hi := 4) (ty := .int) dX8_text_86 rfl rfl rfl (by decide) inGX8 tyX8_ok nmX8 kw_807 rfl (by decide +kernel) (nar_i _) (fit_i _) rfl (by omega) (by omega) ?_
          have e83 : z83 = N2 71 3 := by rw [Is_e ez83, sto_nj _ _ _ _ (by decide)]
          have h0f : ∀ i j, i ≠ 71 → i ≠ 79 → (sto (sto N2 71 1 0) 71 2 z83) i j = M i j := fun i j a b => by
            rw [sto_ni _ _ _ _ a, sto_ni _ _ _ _ a]
            exact n3.1.1 i j a b
          have h7f : ∀ j, 8 < j → j ≠ 16 → j ≠ 17 → (sto (sto N2 71 1 0) 71 2 z83) 71 j = M 71 j := fun j a b c => by
            rw [sto_nj _ _ _ _ (by omega), sto_nj _ _ _ _ (by omega)]
            exact n3.1.2 j (by omega) b c
          refine x_aload_n B dX8_text_89 0 rfl rfl ?_
          refine x_getI B (ci := 8) (k := 3) (lo := 0) (hi := 4) dX8_text_90 rfl rfl rfl (by decide) inGX8 kw_808 rfl (fun z90 ez90 lz90 uz90 => ?_)
          have e90 : Is z90 (N2 71 3) := by
            show _ = _
            rw [Is_e ez90, sto_nj _ _ _ _ (by decide), sto_nj _ _ _ _ (by decide)]
          refine x_if_le B (tgt := 104) dX8_text_93 (by decide) ⟨by omega, by omega⟩ (fun c93 => ?_) (fun c93 => ?_)
          · show Vx x E (sto (sto N2 71 1 0) 71 2 z83) 104 [(0, .ref (E.1 (71))), (1, .int (iI (mn)))] []
            refine x_iconst B dX8_text_104 ?_
            refine x_istore_n B dX8_text_105 [1, 2, 0] rfl (by decide) (lv' := [(0, .ref (E.1 (71))), (1, .int (iI (mn))), (2, .int (iI (0)))]) rfl ?_
            have L106 : ∀ (q : Int) (N5 : Mem), (0 ≤ q ∧ q ≤ 28 ∧ offC (sto (sto N2 71 1 0) 71 2 z83) N5 78 79 ∧ ltF (N5 78) (N2 79) q) → Vx x E N5 106 [(0, .ref (E.1 (71))), (1, .int (iI (mn))), (2, .int (iI (q)))] [] := by
              refine lo2 _ _ (fun q N5 => (28 - q).toNat) ?_
              intro q N5 hI ih106
              obtain ⟨r1, r2, r3, r4⟩ := hI
              refine x_iload_n B dX8_text_106 2 rfl rfl ?_
              refine x_bipush B dX8_text_107 rfl ?_
              refine x_icmp_ge B (tgt := 130) dX8_text_109 (by decide) ⟨by omega, by omega⟩ ⟨by omega, by omega⟩ (fun c109 => ?_) (fun c109 => ?_)
              · show Vx x E N5 130 [(0, .ref (E.1 (71))), (1, .int (iI (mn))), (2, .int (iI (q)))] []
                refine x_iload_n B dX8_text_130 1 rfl rfl ?_
                exact r_i B R dX8_text_131 (by have hb : N2 71 3 = 0 := by {rw [← Is_e e90]; omega}; have e71 : N5 71 = (sto (sto N2 71 1 0) 71 2 z83) 71 := offC_f r3 (by omega); have e712 : N5 71 2 = 0 := by {rw [e71, sto_eq, e83]; exact hb}; have r5 : ltF (N5 78) (N2 79) 28 := by {rw [show (28 : Int) = q by omega]; exact r4}; refine ⟨by rw [e71, sto_nj _ _ _ _ (by decide), sto_eq], fun i j a b c => by {rw [r3 i j (by omega)]; exact h0f i j a b}, fun j a b c => by {rw [e71]; exact h7f j a b c}, Or.inl ⟨?_, e712⟩⟩; rw [e712]; exact lp_good n3 hb (by first | exact absurd hb (fun q => c56 ((Is_e ez53).trans q)) | (rw [← Is_e ez60]; exact c63)) (by omega) (fun j hj => r5 j (by omega)) (fun j hj => r5 (12 + j) (by omega)))
              · show Vx x E N5 112 [(0, .ref (E.1 (71))), (1, .int (iI (mn))), (2, .int (iI (q)))] []
                refine x_aload_n B dX8_text_112 0 rfl rfl ?_
                refine x_getR B (ci := 8) (k := 14) dX8_text_113 rfl rfl rfl (by decide) inGX8 kw_819 ?_
                refine x_iload_n B dX8_text_116 2 rfl rfl ?_
                refine x_aload_n B dX8_text_117 0 rfl rfl ?_
                refine x_getR B (ci := 8) (k := 15) dX8_text_118 rfl rfl rfl (by decide) inGX8 kw_820 ?_
                refine x_iload_n B dX8_text_121 2 rfl rfl ?_
                refine x_iald B (lo := (rngT 79 q.toNat).1) (hi := (rngT 79 q.toNat).2) dX8_text_122 rfl (by omega) (by omega) rfl (fun z122 ez122 lz122 uz122 => ?_)
                refine x_iast B (lo := (rngT 78 q.toNat).1) (hi := (rngT 78 q.toNat).2) dX8_text_123 rfl (by omega) (by omega) rfl (by have hb : N2 71 3 = 0 := by {rw [← Is_e e90]; omega}; exact lp_cp n3 hb (by omega) lz122 (by rw [Is_e ez122, offC_f r3 (by omega), sto_ni _ _ _ _ (by decide), sto_ni _ _ _ _ (by decide)])) (by rw [ho_u q.toNat (by omega)]; exact uz122) ?_
                refine x_iinc B (q := 2) dX8_text_124 rfl [1, 2, 0] (by decide) (lv' := [(0, .ref (E.1 (71))), (1, .int (iI (mn))), (2, .int (iI (q + 1)))]) rfl ?_
                refine x_goto B (tgt := 106) dX8_text_127 (by decide) ?_
                exact ih106 (q + 1) (sto N5 78 (q).toNat z122) (⟨by omega, by omega, offC_sto r3 (by omega), ltF_s r4 r1 (by rw [Is_e ez122, offC_f r3 (by omega), sto_ni _ _ _ _ (by decide), sto_ni _ _ _ _ (by decide)])⟩) (by omega)
            exact L106 0 (sto (sto N2 71 1 0) 71 2 z83) (⟨by omega, by omega, offC_rf, ltF_0⟩)
          · show Vx x E (sto (sto N2 71 1 0) 71 2 z83) 96 [(0, .ref (E.1 (71))), (1, .int (iI (mn)))] []
            refine x_bipush B dX8_text_96 rfl ?_
            refine x_aload_n B dX8_text_98 0 rfl rfl ?_
            refine x_getI B (ci := 8) (k := 4) (lo := 0) (hi := 200) dX8_text_99 rfl rfl rfl (by decide) inGX8 kw_809 rfl (fun z99 ez99 lz99 uz99 => ?_)
            refine x_isub B dX8_text_102 ?_
            exact r_i B R dX8_text_103 (by have hb : ¬ N2 71 3 = 0 := by {rw [← Is_e e90]; omega}; exact ⟨by rw [sto_nj _ _ _ _ (by decide), sto_eq], fun i j a b c => h0f i j a b, h7f, Or.inr ⟨lp_bad n3 hb (by rw [Is_e ez99, sto_nj _ _ _ _ (by decide), sto_nj _ _ _ _ (by decide)]) (by rw [sto_eq, e83]), by rw [sto_eq, e83]; exact hb, funext fun j => h0f 78 j (by decide) (by decide)⟩⟩)
        · show Vx x E N2 59 [(0, .ref (E.1 (71))), (1, .int (iI (mn)))] []
          have h53 : N2 71 3 = 0 := by rw [← Is_e ez53]; exact c56
          refine x_aload_n B dX8_text_59 0 rfl rfl ?_
          refine x_getI B (ci := 8) (k := 7) (lo := 0) (hi := 3) dX8_text_60 rfl rfl rfl (by decide) inGX8 kw_812 rfl (fun z60 ez60 lz60 uz60 => ?_)
          refine x_if_eq B (tgt := 76) dX8_text_63 (by decide) ⟨by omega, by omega⟩ (fun c63 => ?_) (fun c63 => ?_)
          · show Vx x E N2 76 [(0, .ref (E.1 (71))), (1, .int (iI (mn)))] []
            refine x_aload_n B dX8_text_76 0 rfl rfl ?_
            refine x_iconst B dX8_text_77 ?_
            refine x_put B (ci := 8) (k := 1) (lo := 0) (hi := 200) (ty := .int) dX8_text_78 rfl rfl rfl (by decide) inGX8 tyX8_ok nmX8 kw_806 rfl (by decide +kernel) (nar_i _) (fit_i _) rfl (by omega) (by omega) ?_
            refine x_aload_n B dX8_text_81 0 rfl rfl ?_
            refine x_aload_n B dX8_text_82 0 rfl rfl ?_
            refine x_getI B (ci := 8) (k := 3) (lo := 0) (hi := 4) dX8_text_83 rfl rfl rfl (by decide) inGX8 kw_808 rfl (fun z83 ez83 lz83 uz83 => ?_)
            refine x_put B (ci := 8) (k := 2) (lo := 0) (hi := 4) (ty := .int) dX8_text_86 rfl rfl rfl (by decide) inGX8 tyX8_ok nmX8 kw_807 rfl (by decide +kernel) (nar_i _) (fit_i _) rfl (by omega) (by omega) ?_
            have e83 : z83 = N2 71 3 := by rw [Is_e ez83, sto_nj _ _ _ _ (by decide)]
            have h0f : ∀ i j, i ≠ 71 → i ≠ 79 → (sto (sto N2 71 1 0) 71 2 z83) i j = M i j := fun i j a b => by
              rw [sto_ni _ _ _ _ a, sto_ni _ _ _ _ a]
              exact n3.1.1 i j a b
            have h7f : ∀ j, 8 < j → j ≠ 16 → j ≠ 17 → (sto (sto N2 71 1 0) 71 2 z83) 71 j = M 71 j := fun j a b c => by
              rw [sto_nj _ _ _ _ (by omega), sto_nj _ _ _ _ (by omega)]
              exact n3.1.2 j (by omega) b c
            refine x_aload_n B dX8_text_89 0 rfl rfl ?_
            refine x_getI B (ci := 8) (k := 3) (lo := 0) (hi := 4) dX8_text_90 rfl rfl rfl (by decide) inGX8 kw_808 rfl (fun z90 ez90 lz90 uz90 => ?_)
            have e90 : Is z90 (N2 71 3) := by
              show _ = _
              rw [Is_e ez90, sto_nj _ _ _ _ (by decide), sto_nj _ _ _ _ (by decide)]
            refine x_if_le B (tgt := 104) dX8_text_93 (by decide) ⟨by omega, by omega⟩ (fun c93 => ?_) (fun c93 => ?_)
            · show Vx x E (sto (sto N2 71 1 0) 71 2 z83) 104 [(0, .ref (E.1 (71))), (1, .int (iI (mn)))] []
              refine x_iconst B dX8_text_104 ?_
              refine x_istore_n B dX8_text_105 [1, 2, 0] rfl (by decide) (lv' := [(0, .ref (E.1 (71))), (1, .int (iI (mn))), (2, .int (iI (0)))]) rfl ?_
              have L106 : ∀ (q : Int) (N5 : Mem), (0 ≤ q ∧ q ≤ 28 ∧ offC (sto (sto N2 71 1 0) 71 2 z83) N5 78 79 ∧ ltF (N5 78) (N2 79) q) → Vx x E N5 106 [(0, .ref (E.1 (71))), (1, .int (iI (mn))), (2, .int (iI (q)))] [] := by
                refine lo2 _ _ (fun q N5 => (28 - q).toNat) ?_
                intro q N5 hI ih106
                obtain ⟨r1, r2, r3, r4⟩ := hI
                refine x_iload_n B dX8_text_106 2 rfl rfl ?_
                refine x_bipush B dX8_text_107 rfl ?_
                refine x_icmp_ge B (tgt := 130) dX8_text_109 (by decide) ⟨by omega, by omega⟩ ⟨by omega, by omega⟩ (fun c109 => ?_) (fun c109 => ?_)
                · show Vx x E N5 130 [(0, .ref (E.1 (71))), (1, .int (iI (mn))), (2, .int (iI (q)))] []
                  refine x_iload_n B dX8_text_130 1 rfl rfl ?_
                  exact r_i B R dX8_text_131 (by have hb : N2 71 3 = 0 := by {rw [← Is_e e90]; omega}; have e71 : N5 71 = (sto (sto N2 71 1 0) 71 2 z83) 71 := offC_f r3 (by omega); have e712 : N5 71 2 = 0 := by {rw [e71, sto_eq, e83]; exact hb}; have r5 : ltF (N5 78) (N2 79) 28 := by {rw [show (28 : Int) = q by omega]; exact r4}; refine ⟨by rw [e71, sto_nj _ _ _ _ (by decide), sto_eq], fun i j a b c => by {rw [r3 i j (by omega)]; exact h0f i j a b}, fun j a b c => by {rw [e71]; exact h7f j a b c}, Or.inl ⟨?_, e712⟩⟩; rw [e712]; exact lp_good n3 hb (by first | exact absurd hb (fun q => c56 ((Is_e ez53).trans q)) | (rw [← Is_e ez60]; exact c63)) (by omega) (fun j hj => r5 j (by omega)) (fun j hj => r5 (12 + j) (by omega)))
                · show Vx x E N5 112 [(0, .ref (E.1 (71))), (1, .int (iI (mn))), (2, .int (iI (q)))] []
                  refine x_aload_n B dX8_text_112 0 rfl rfl ?_
                  refine x_getR B (ci := 8) (k := 14) dX8_text_113 rfl rfl rfl (by decide) inGX8 kw_819 ?_
                  refine x_iload_n B dX8_text_116 2 rfl rfl ?_
                  refine x_aload_n B dX8_text_117 0 rfl rfl ?_
                  refine x_getR B (ci := 8) (k := 15) dX8_text_118 rfl rfl rfl (by decide) inGX8 kw_820 ?_
                  refine x_iload_n B dX8_text_121 2 rfl rfl ?_
                  refine x_iald B (lo := (rngT 79 q.toNat).1) (hi := (rngT 79 q.toNat).2) dX8_text_122 rfl (by omega) (by omega) rfl (fun z122 ez122 lz122 uz122 => ?_)
                  refine x_iast B (lo := (rngT 78 q.toNat).1) (hi := (rngT 78 q.toNat).2) dX8_text_123 rfl (by omega) (by omega) rfl (by have hb : N2 71 3 = 0 := by {rw [← Is_e e90]; omega}; exact lp_cp n3 hb (by omega) lz122 (by rw [Is_e ez122, offC_f r3 (by omega), sto_ni _ _ _ _ (by decide), sto_ni _ _ _ _ (by decide)])) (by rw [ho_u q.toNat (by omega)]; exact uz122) ?_
                  refine x_iinc B (q := 2) dX8_text_124 rfl [1, 2, 0] (by decide) (lv' := [(0, .ref (E.1 (71))), (1, .int (iI (mn))), (2, .int (iI (q + 1)))]) rfl ?_
                  refine x_goto B (tgt := 106) dX8_text_127 (by decide) ?_
                  exact ih106 (q + 1) (sto N5 78 (q).toNat z122) (⟨by omega, by omega, offC_sto r3 (by omega), ltF_s r4 r1 (by rw [Is_e ez122, offC_f r3 (by omega), sto_ni _ _ _ _ (by decide), sto_ni _ _ _ _ (by decide)])⟩) (by omega)
              exact L106 0 (sto (sto N2 71 1 0) 71 2 z83) (⟨by omega, by omega, offC_rf, ltF_0⟩)
            · show Vx x E (sto (sto N2 71 1 0) 71 2 z83) 96 [(0, .ref (E.1 (71))), (1, .int (iI (mn)))] []
              refine x_bipush B dX8_text_96 rfl ?_
              refine x_aload_n B dX8_text_98 0 rfl rfl ?_
              refine x_getI B (ci := 8) (k := 4) (lo := 0) (hi := 200) dX8_text_99 rfl rfl rfl (by decide) inGX8 kw_809 rfl (fun z99 ez99 lz99 uz99 => ?_)
              refine x_isub B dX8_text_102 ?_
              exact r_i B R dX8_text_103 (by have hb : ¬ N2 71 3 = 0 := by {rw [← Is_e e90]; omega}; exact ⟨by rw [sto_nj _ _ _ _ (by decide), sto_eq], fun i j a b c => h0f i j a b, h7f, Or.inr ⟨lp_bad n3 hb (by rw [Is_e ez99, sto_nj _ _ _ _ (by decide), sto_nj _ _ _ _ (by decide)]) (by rw [sto_eq, e83]), by rw [sto_eq, e83]; exact hb, funext fun j => h0f 78 j (by decide) (by decide)⟩⟩)
          · show Vx x E N2 66 [(0, .ref (E.1 (71))), (1, .int (iI (mn)))] []
            have hok := lp_ok n3 h53
            have hT2 : TM N2 = TM M := TM_F n3.1
            have hle := lp_le hG l0.1 n3 hok.1
            refine x_aload_n B dX8_text_66 0 rfl rfl ?_
            refine x_callV B (st := []) (av := []) dX8_text_67 cs_X8_readLine kw_979 ⟨rfl, rfl, Nat.le_of_ble_eq_true rfl, Nat.le_of_ble_eq_true rfl⟩ rfl rfl (Nat.le_of_ble_eq_true rfl) (rc_obj B (ci := 8) rfl rfl rfl) (c_X8_readLine _ E _ ((gIt (TM M) mn.toNat).2.2.1) ((gIt (TM M) mn.toNat).2.2.2.1) ((gIt (TM M) mn.toNat).2.2.2.2.1) ((gIt (TM M) mn.toNat).2.2.2.2.2.1) ((gIt (TM M) mn.toNat).2.2.2.2.2.2) (by rw [hT2]; exact ⟨hok.2.1, hok.2.2.1, hok.2.2.2⟩)) (k_v (fun M67 hz67 => ?_))
            refine x_iinc B (q := 1) dX8_text_70 rfl [1, 0] (by decide) (lv' := [(0, .ref (E.1 (71))), (1, .int (iI (mn + 1)))]) rfl ?_
            refine x_goto B (tgt := 52) dX8_text_73 (by decide) ?_
            exact ih52 (mn + 1) M67 (⟨by omega, by omega, by rw [show (mn + 1).toNat = mn.toNat + 1 by omega]; have h67 := hz67; rw [hT2] at h67; exact lp_s n3 h53 (by rw [← Is_e ez60]; exact c63) h67.1 h67.2⟩) (by omega)
      refine x_lv [0, 1] (lv' := [(0, .ref (E.1 (71))), (1, .int (iI (0)))]) rfl ?_
      exact L52 0 M49 (⟨by omega, by omega, lp_0 hwf i3 (by rw [show (28 : Int) = k by omega]; exact i4) hz49⟩)
    · show Vx x E N1 30 [(0, .ref (E.1 (71))), (1, .int (iI (0))), (2, .int (iI (k)))] []
      refine x_aload_n B dX8_text_30 0 rfl rfl ?_
      refine x_getR B (ci := 8) (k := 15) dX8_text_31 rfl rfl rfl (by decide) inGX8 kw_820 ?_
      refine x_iload_n B dX8_text_34 2 rfl rfl ?_
      refine x_aload_n B dX8_text_35 0 rfl rfl ?_
      refine x_getR B (ci := 8) (k := 11) dX8_text_36 rfl rfl rfl (by decide) inGX8 kw_816 ?_
      refine x_iload_n B dX8_text_39 2 rfl rfl ?_
      refine x_iald B (lo := (rngT 75 k.toNat).1) (hi := (rngT 75 k.toNat).2) dX8_text_40 rfl (by omega) (by omega) rfl (fun z40 ez40 lz40 uz40 => ?_)
      refine x_iast B (lo := (rngT 79 k.toNat).1) (hi := (rngT 79 k.toNat).2) dX8_text_41 rfl (by omega) (by omega) rfl (Int.le_trans (pl_r k.toNat (by omega)).1 lz40) (Int.le_trans uz40 (pl_r k.toNat (by omega)).2) ?_
      refine x_iinc B (q := 2) dX8_text_42 rfl [1, 2, 0] (by decide) (lv' := [(0, .ref (E.1 (71))), (1, .int (iI (0))), (2, .int (iI (k + 1)))]) rfl ?_
      refine x_goto B (tgt := 24) dX8_text_45 (by decide) ?_
      exact ih24 (k + 1) (sto N1 79 (k).toNat z40) (⟨by omega, by omega, offC_sto i3 (by omega), ltF_s i4 i1 (by rw [Is_e ez40, offC_f i3 (by omega)])⟩) (by omega)
  exact L24 0 (tx0 M) (⟨by omega, by omega, offC_rf, ltF_0⟩)
