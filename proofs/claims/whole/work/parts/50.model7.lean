/-! ===== LESSONS, hour by hour ===== -/
def kS (ow le h : Int) (f : Nat → Int) : Prop := ∀ b w : Int, 0 ≤ b → b ≤ 60 → 0 ≤ w → w ≤ 12 → f (13 * b + w).toNat = -4 ∨ ∃ o l : Int, 0 ≤ o ∧ 0 ≤ l ∧ o + l = b ∧ b ≤ h ∧ f (13 * b + w).toNat = ow * o + le * l ∧ 3 * o + l - 4 * (h - b) ≤ w
def kC (ow le h : Int) (f : Nat → Int) : Prop := ∀ o l : Int, 0 ≤ o → 0 ≤ l → o + l ≤ h → o + l ≤ 60 → 3 * o + l - 4 * (h - (o + l)) ≤ 12 → ow * o + le * l ≤ f (13 * (o + l) + max 0 (3 * o + l - 4 * (h - (o + l)))).toNat
def kI (ow le h : Int) (f : Nat → Int) : Prop := kS ow le h f ∧ kC ow le h f
def goL (g : Nat → Int) (t w v : Int) : Nat → Int := if w ≤ 12 ∧ t ≤ 60 then (fun q => if q = (13 * t + w).toNat then max v (g q) else g q) else g
theorem goL_mono (g : Nat → Int) (t w v : Int) (q : Nat) : g q ≤ goL g t w v q := by
  unfold goL
  split
  · show g q ≤ if q = (13 * t + w).toNat then max v (g q) else g q
    split <;> omega
  · exact Int.le_refl _
theorem goL_hit (g : Nat → Int) {t w v : Int} (h1 : w ≤ 12) (h2 : t ≤ 60) : v ≤ goL g t w v (13 * t + w).toNat := by
  unfold goL
  rw [if_pos ⟨h1, h2⟩]
  show v ≤ if (13 * t + w).toNat = (13 * t + w).toNat then _ else _
  rw [if_pos rfl]
  omega
theorem goL_S {ow le h : Int} {g : Nat → Int} {t w v : Int} (hg : kS ow le h g) (t0 : 0 ≤ t) (w0 : 0 ≤ w) (hv : ∃ o l : Int, 0 ≤ o ∧ 0 ≤ l ∧ o + l = t ∧ t ≤ h ∧ v = ow * o + le * l ∧ 3 * o + l - 4 * (h - t) ≤ w) : kS ow le h (goL g t w v) := by
  intro b w' b0 b1 w1 w2
  unfold goL
  by_cases c : w ≤ 12 ∧ t ≤ 60
  · rw [if_pos c]
    show (if (13 * b + w').toNat = (13 * t + w).toNat then max v (g (13 * b + w').toNat) else g (13 * b + w').toNat) = -4 ∨ ∃ o l : Int, 0 ≤ o ∧ 0 ≤ l ∧ o + l = b ∧ b ≤ h ∧ (if (13 * b + w').toNat = (13 * t + w).toNat then max v (g (13 * b + w').toNat) else g (13 * b + w').toNat) = ow * o + le * l ∧ 3 * o + l - 4 * (h - b) ≤ w'
    by_cases d : (13 * b + w').toNat = (13 * t + w).toNat
    · rw [if_pos d]
      by_cases e : g (13 * b + w').toNat < v
      · rw [show max v (g (13 * b + w').toNat) = v by omega, show b = t by omega, show w' = w by omega]
        exact Or.inr hv
      · rw [show max v (g (13 * b + w').toNat) = g (13 * b + w').toNat by omega]
        exact hg b w' b0 b1 w1 w2
    · rw [if_neg d]
      exact hg b w' b0 b1 w1 w2
  · rw [if_neg c]
    exact hg b w' b0 b1 w1 w2
/-- what each hour's steps from the first x places reach -/
def gC (ow le : Int) (f g : Nat → Int) (x : Int) : Prop := ∀ b w : Int, 0 ≤ b → b ≤ 60 → 0 ≤ w → w ≤ 12 → 13 * b + w < x → ¬ f (13 * b + w).toNat = -4 → f (13 * b + w).toNat ≤ g (13 * b + max 0 (w - 4)).toNat ∧ (b < 60 → w ≤ 9 → f (13 * b + w).toNat + ow ≤ g (13 * (b + 1) + (w + 3)).toNat) ∧ (b < 60 → w ≤ 11 → f (13 * b + w).toNat + le ≤ g (13 * (b + 1) + (w + 1)).toNat)
theorem gC_0 {ow le : Int} {f g : Nat → Int} : gC ow le f g 0 := fun b w b0 b1 w0 w1 h => by omega
theorem gC_mono {ow le : Int} {f g g' : Nat → Int} {x : Int} (h : gC ow le f g x) (hm : ∀ q, g q ≤ g' q) : gC ow le f g' x := fun b w b0 b1 w0 w1 hx hf => by
  obtain ⟨a1, a2, a3⟩ := h b w b0 b1 w0 w1 hx hf
  exact ⟨Int.le_trans a1 (hm _), fun p q => Int.le_trans (a2 p q) (hm _), fun p q => Int.le_trans (a3 p q) (hm _)⟩
theorem gC_no {ow le : Int} {f g : Nat → Int} {x : Int} (h : gC ow le f g x) (x0 : 0 ≤ x) (hf : f x.toNat = -4) : gC ow le f g (x + 1) := fun b w b0 b1 w0 w1 hx hf2 => by
  rcases (show 13 * b + w < x ∨ 13 * b + w = x by omega) with h7 | h7
  · exact h b w b0 b1 w0 w1 h7 hf2
  · rw [h7] at hf2
    exact absurd hf hf2
theorem gC_s {ow le : Int} {f g : Nat → Int} {x v : Int} (h : gC ow le f g x) (x0 : 0 ≤ x) (hv : v = f x.toNat) : gC ow le f (goL (goL (goL g (x / 13) (max 0 (x % 13 - 4)) v) (x / 13 + 1) (x % 13 + 3) (v + ow)) (x / 13 + 1) (x % 13 + 1) (v + le)) (x + 1) := by
  intro b w b0 b1 w0 w1 hx hf2
  rcases (show 13 * b + w < x ∨ 13 * b + w = x by omega) with h7 | h7
  · exact gC_mono h (fun q => Int.le_trans (goL_mono _ _ _ _ q) (Int.le_trans (goL_mono _ _ _ _ q) (goL_mono _ _ _ _ q))) b w b0 b1 w0 w1 h7 hf2
  · have hb : x / 13 = b := by omega
    have hw : x % 13 = w := by omega
    rw [h7, ← hv, hb, hw]
    refine ⟨?_, fun p q => ?_, fun p q => ?_⟩
    · exact Int.le_trans (goL_hit g (by omega) b1) (Int.le_trans (goL_mono _ _ _ _ _) (goL_mono _ _ _ _ _))
    · exact Int.le_trans (goL_hit _ (by omega) (by omega)) (goL_mono _ _ _ _ _)
    · exact goL_hit _ (by omega) (by omega)
theorem kv0 {ow le o l : Int} (h1 : 0 ≤ ow) (h2 : 0 ≤ le) (h3 : 0 ≤ o) (h4 : 0 ≤ l) : 0 ≤ ow * o + le * l := by
  have a := Int.mul_nonneg h1 h3
  have b := Int.mul_nonneg h2 h4
  omega
theorem kv20 {ow le o l b : Int} (h1 : ow ≤ 20) (h2 : le ≤ 20) (h3 : 0 ≤ o) (h4 : 0 ≤ l) (hb : o + l = b) : ow * o + le * l ≤ 20 * b := by
  have a := Int.mul_le_mul_of_nonneg_right h1 h3
  have b := Int.mul_le_mul_of_nonneg_right h2 h4
  omega
theorem kI_s {ow le h : Int} {f g : Nat → Int} (h0 : 0 ≤ h) (o0 : 0 ≤ ow) (l0 : 0 ≤ le) (hf : kI ow le h f) (hs : kS ow le (h + 1) g) (hc : gC ow le f g 793) : kI ow le (h + 1) g := by
  refine ⟨hs, fun o l p1 p2 p3 p4 p5 => ?_⟩
  have v0 := kv0 o0 l0 p1 p2
  by_cases c1 : o + l ≤ h ∧ 3 * o + l - 4 * (h + 1 - (o + l)) ≤ 8
  · have k := hf.2 o l p1 p2 c1.1 p4 (by omega)
    have k2 := (hc (o + l) (max 0 (3 * o + l - 4 * (h - (o + l)))) (by omega) p4 (by omega) (by omega) (by omega) (by omega)).1
    rw [show max 0 (max 0 (3 * o + l - 4 * (h - (o + l))) - 4) = max 0 (3 * o + l - 4 * (h + 1 - (o + l))) by omega] at k2
    exact Int.le_trans k k2
  · by_cases c2 : 0 < l
    · have k := hf.2 o (l - 1) p1 (by omega) (by omega) (by omega) (by omega)
      have v1 := kv0 o0 l0 p1 (show 0 ≤ l - 1 by omega)
      have e1 : le * l = le * (l - 1) + le := by rw [Int.mul_sub, Int.mul_one]; omega
      have k2 := (hc (o + (l - 1)) (max 0 (3 * o + (l - 1) - 4 * (h - (o + (l - 1))))) (by omega) (by omega) (by omega) (by omega) (by omega) (by omega)).2.2 (by omega) (by omega)
      rw [show 13 * (o + (l - 1) + 1) + (max 0 (3 * o + (l - 1) - 4 * (h - (o + (l - 1)))) + 1) = 13 * (o + l) + max 0 (3 * o + l - 4 * (h + 1 - (o + l))) by omega] at k2
      omega
    · have hl : l = 0 := by omega
      have ho : 0 < o := by omega
      have k := hf.2 (o - 1) l (by omega) p2 (by omega) (by omega) (by omega)
      have v1 := kv0 o0 l0 (show 0 ≤ o - 1 by omega) p2
      have e1 : ow * o = ow * (o - 1) + ow := by rw [Int.mul_sub, Int.mul_one]; omega
      have k2 := (hc (o - 1 + l) (max 0 (3 * (o - 1) + l - 4 * (h - (o - 1 + l)))) (by omega) (by omega) (by omega) (by omega) (by omega) (by omega)).2.1 (by omega) (by omega)
      rw [show 13 * (o - 1 + l + 1) + (max 0 (3 * (o - 1) + l - 4 * (h - (o - 1 + l))) + 3) = 13 * (o + l) + max 0 (3 * o + l - 4 * (h + 1 - (o + l))) by omega] at k2
      omega
theorem kI_cg {ow le h : Int} {f g : Nat → Int} (hf : kI ow le h f) (e : ∀ q, q < 793 → g q = f q) : kI ow le h g := by
  refine ⟨fun b w b0 b1 w0 w1 => ?_, fun o l p1 p2 p3 p4 p5 => ?_⟩
  · rw [e _ (by omega)]
    exact hf.1 b w b0 b1 w0 w1
  · rw [e _ (by omega)]
    exact hf.2 o l p1 p2 p3 p4 p5
theorem kI_0 {ow le : Int} {f : Nat → Int} (e : ∀ q, q < 793 → f q = if q = 0 then 0 else -4) : kI ow le 0 f := by
  refine ⟨fun b w b0 b1 w0 w1 => ?_, fun o l p1 p2 p3 p4 p5 => ?_⟩
  · rw [e _ (by omega)]
    by_cases c : (13 * b + w).toNat = 0
    · rw [if_pos c]
      exact Or.inr ⟨0, 0, by omega, by omega, by omega, by omega, by rw [Int.mul_zero, Int.mul_zero]; rfl, by omega⟩
    · rw [if_neg c]
      exact Or.inl rfl
  · rw [e _ (by omega), if_pos (by omega), show o = 0 by omega, show l = 0 by omega, Int.mul_zero, Int.mul_zero]
    omega
/-- so much can be known after h hours, b of them lessons -/
def rcK (ow le T h b : Int) : Prop := ∃ o l : Int, 0 ≤ o ∧ 0 ≤ l ∧ o + l = b ∧ b ≤ h ∧ 3 * o + l - 4 * (h - b) ≤ 12 ∧ T ≤ ow * o + le * l
theorem rcK_of {ow le T h : Int} {f : Nat → Int} {x : Int} (hf : kI ow le h f) (h0 : 0 ≤ x) (h1 : x < 793) (hT : 1 ≤ T) (hx : T ≤ f x.toNat) : rcK ow le T h (x / 13) := by
  have k := hf.1 (x / 13) (x % 13) (by omega) (by omega) (by omega) (by omega)
  rw [show 13 * (x / 13) + x % 13 = x by omega] at k
  rcases k with k | ⟨o, l, p1, p2, p3, p4, p5, p6⟩
  · omega
  · exact ⟨o, l, p1, p2, p3, p4, by omega, by omega⟩
theorem rcK_no {ow le T h : Int} {f : Nat → Int} {x b : Int} (hf : kI ow le h f) (hn : ∀ q : Int, 0 ≤ q → q < x → ¬ T ≤ f q.toNat) (b1 : b ≤ 60) (hb : 13 * b + 12 < x) : ¬ rcK ow le T h b := by
  rintro ⟨o, l, p1, p2, p3, p4, p5, p6⟩
  have k := hf.2 o l p1 p2 (by omega) (by omega) (by omega)
  exact hn _ (by omega) (by omega) (Int.le_trans p6 k)
abbrev rm_X8_goesOn : Room := { frames := 0, cells := 0, slots := 0, locals := 0 }
theorem cs_X8_goesOn : Cv yX8_goesOn cX8_goesOn 5 none 3 := ⟨kw_1174, ⟨kw_1173, kw_53⟩, kw_67, by decide, by decide, by decide +kernel⟩
set_option maxHeartbeats 4000000 in
set_option maxRecDepth 100000 in
theorem c_X8_goesOn (l : Launch) (E : Ev) (M : Mem) (t w v : Int) (g1 : 0 ≤ t) (g2 : t ≤ 61) (g3 : 0 ≤ w) (g4 : w ≤ 15) (g5 : -4 ≤ v) (g6 : v ≤ 20 * t) : Ct l yX8_goesOn cX8_goesOn 5 none rm_X8_goesOn E M [.ref (E.1 (71)), .int (iI (t)), .int (iI (w)), .int (iI (v))] (pV (fun M' => offC M M' 91 92 ∧ M' 91 = goL (M 91) t w v)) := by
  refine Ct_of (lv := [(0, .ref (E.1 (71))), (1, .int (iI (t))), (2, .int (iI (w))), (3, .int (iI (v)))]) (by decide) ⟨rfl, rfl⟩ (Nat.le_of_ble_eq_true rfl) rfl (fun x _ B R => ?_)
  refine x_iload_n B dX8_goesOn_0 2 rfl rfl ?_
  refine x_bipush B dX8_goesOn_1 rfl ?_
  refine x_icmp_gt B (tgt := 49) dX8_goesOn_3 (by decide) ⟨by omega, by omega⟩ ⟨by omega, by omega⟩ (fun c3 => ?_) (fun c3 => ?_)
  · show Vx x E M 49 [(0, .ref (E.1 (71))), (1, .int (iI (t))), (2, .int (iI (w))), (3, .int (iI (v)))] []
    exact r_v B R dX8_goesOn_49 (⟨offC_rf, by unfold goL; rw [if_neg (by omega)]⟩)
  · show Vx x E M 6 [(0, .ref (E.1 (71))), (1, .int (iI (t))), (2, .int (iI (w))), (3, .int (iI (v)))] []
    refine x_iload_n B dX8_goesOn_6 1 rfl rfl ?_
    refine x_bipush B dX8_goesOn_7 rfl ?_
    refine x_icmp_gt B (tgt := 49) dX8_goesOn_9 (by decide) ⟨by omega, by omega⟩ ⟨by omega, by omega⟩ (fun c9 => ?_) (fun c9 => ?_)
    · show Vx x E M 49 [(0, .ref (E.1 (71))), (1, .int (iI (t))), (2, .int (iI (w))), (3, .int (iI (v)))] []
      exact r_v B R dX8_goesOn_49 (⟨offC_rf, by unfold goL; rw [if_neg (by omega)]⟩)
    · show Vx x E M 12 [(0, .ref (E.1 (71))), (1, .int (iI (t))), (2, .int (iI (w))), (3, .int (iI (v)))] []
      refine x_bipush B dX8_goesOn_12 rfl ?_
      refine x_iload_n B dX8_goesOn_14 1 rfl rfl ?_
      refine x_imul B dX8_goesOn_15 ?_
      refine x_iload_n B dX8_goesOn_16 2 rfl rfl ?_
      refine x_iadd B dX8_goesOn_17 ?_
      refine x_istore B dX8_goesOn_18 [1, 2, 3, 4, 0] (by decide) (lv' := [(0, .ref (E.1 (71))), (1, .int (iI (t))), (2, .int (iI (w))), (3, .int (iI (v))), (4, .int (iI ((13 * t) + w)))]) rfl ?_
      refine x_aload_n B dX8_goesOn_20 0 rfl rfl ?_
      refine x_getR B (ci := 8) (k := 36) dX8_goesOn_21 rfl rfl rfl (by decide) inGX8 kw_841 ?_
      refine x_iload B dX8_goesOn_24 4 rfl ?_
      refine x_iload_n B dX8_goesOn_26 3 rfl rfl ?_
      refine x_aload_n B dX8_goesOn_27 0 rfl rfl ?_
      refine x_getR B (ci := 8) (k := 36) dX8_goesOn_28 rfl rfl rfl (by decide) inGX8 kw_841 ?_
      refine x_iload B dX8_goesOn_31 4 rfl ?_
      refine x_iald B (lo := -4) (hi := 1200) dX8_goesOn_33 rfl (by omega) (by omega) rfl (fun z33 ez33 lz33 uz33 => ?_)
      refine x_icmp_le B (tgt := 41) dX8_goesOn_34 (by decide) ⟨by omega, by omega⟩ ⟨by omega, by omega⟩ (fun c34 => ?_) (fun c34 => ?_)
      · show Vx x E M 41 [(0, .ref (E.1 (71))), (1, .int (iI (t))), (2, .int (iI (w))), (3, .int (iI (v))), (4, .int (iI ((13 * t) + w)))] [.int (iI ((13 * t) + w)), .ref (E.1 (91))]
        refine x_aload_n B dX8_goesOn_41 0 rfl rfl ?_
        refine x_getR B (ci := 8) (k := 36) dX8_goesOn_42 rfl rfl rfl (by decide) inGX8 kw_841 ?_
        refine x_iload B dX8_goesOn_45 4 rfl ?_
        refine x_iald B (lo := -4) (hi := 1200) dX8_goesOn_47 rfl (by omega) (by omega) rfl (fun z47 ez47 lz47 uz47 => ?_)
        refine x_iast B (lo := -4) (hi := 1200) dX8_goesOn_48 rfl (by omega) (by omega) rfl (by omega) (by omega) ?_
        exact r_v B R dX8_goesOn_49 (⟨offC_sto offC_rf (by omega), by unfold goL; rw [if_pos ⟨by omega, by omega⟩, sto_row]; funext q; by_cases c : q = (13 * t + w).toNat; (rw [if_pos c, if_pos c, c, Is_e ez47, ← Is_e ez33]; omega); (rw [if_neg c, if_neg c])⟩)
      · show Vx x E M 37 [(0, .ref (E.1 (71))), (1, .int (iI (t))), (2, .int (iI (w))), (3, .int (iI (v))), (4, .int (iI ((13 * t) + w)))] [.int (iI ((13 * t) + w)), .ref (E.1 (91))]
        refine x_iload_n B dX8_goesOn_37 3 rfl rfl ?_
        refine x_goto B (tgt := 48) dX8_goesOn_38 (by decide) ?_
        refine x_iast B (lo := -4) (hi := 1200) dX8_goesOn_48 rfl (by omega) (by omega) rfl (by omega) (by omega) ?_
        exact r_v B R dX8_goesOn_49 (⟨offC_sto offC_rf (by omega), by unfold goL; rw [if_pos ⟨by omega, by omega⟩, sto_row]; funext q; by_cases c : q = (13 * t + w).toNat; (rw [if_pos c, if_pos c, c, ← Is_e ez33]; omega); (rw [if_neg c, if_neg c])⟩)
abbrev rm_X8_oneHour : Room := { frames := 1, cells := 0, slots := 0, locals := 24 }
theorem cs_X8_oneHour : Cv yX8_oneHour cX8_oneHour 3 none 0 := ⟨kw_1170, ⟨kw_1169, kw_52⟩, kw_67, by decide, by decide, by decide +kernel⟩
set_option maxHeartbeats 4000000 in
set_option maxRecDepth 100000 in
theorem c_X8_oneHour (l : Launch) (E : Ev) (M : Mem) (h : Int) (g1 : 0 ≤ h) (g2 : kI (M 78 7) (M 78 8) h (M 90)) : Ct l yX8_oneHour cX8_oneHour 3 none rm_X8_oneHour E M [.ref (E.1 (71))] (pV (fun M' => offC M M' 90 92 ∧ kI (M 78 7) (M 78 8) (h + 1) (M' 90))) := by
  refine Ct_of (lv := [(0, .ref (E.1 (71)))]) (by decide) ⟨rfl, rfl⟩ (Nat.le_of_ble_eq_true rfl) rfl (fun x _ B R => ?_)
  refine x_wf (fun hwf => ?_)
  have w7 : (0 : Int) ≤ M 78 7 ∧ M 78 7 ≤ (20 : Int) := hwf 78 7
  have w8 : (0 : Int) ≤ M 78 8 ∧ M 78 8 ≤ (20 : Int) := hwf 78 8
  refine x_iconst B dX8_oneHour_0 ?_
  refine x_istore_n B dX8_oneHour_1 [1, 0] rfl (by decide) (lv' := [(0, .ref (E.1 (71))), (1, .int (iI (0)))]) rfl ?_
  have L2 : ∀ (k : Int) (M1 : Mem), (0 ≤ k ∧ k ≤ 793 ∧ M1 = fillM M 91 k.toNat (-4)) → Vx x E M1 2 [(0, .ref (E.1 (71))), (1, .int (iI (k)))] [] := by
    refine lo2 _ _ (fun k M1 => (793 - k).toNat) ?_
    intro k M1 hI ih2
    obtain ⟨i1, i2, i3⟩ := hI
    refine x_iload_n B dX8_oneHour_2 1 rfl rfl ?_
    refine x_sipush B dX8_oneHour_3 rfl ?_
    refine x_icmp_ge B (tgt := 23) dX8_oneHour_6 (by decide) ⟨by omega, by omega⟩ ⟨by omega, by omega⟩ (fun c6 => ?_) (fun c6 => ?_)
    · show Vx x E M1 23 [(0, .ref (E.1 (71))), (1, .int (iI (k)))] []
      refine x_iconst B dX8_oneHour_23 ?_
      refine x_istore_n B dX8_oneHour_24 [1, 0] rfl (by decide) (lv' := [(0, .ref (E.1 (71))), (1, .int (iI (0)))]) rfl ?_
      have L25 : ∀ (y : Int) (M2 : Mem), (0 ≤ y ∧ y ≤ 793 ∧ offC M M2 91 92 ∧ kS (M 78 7) (M 78 8) (h + 1) (M2 91) ∧ gC (M 78 7) (M 78 8) (M 90) (M2 91) y) → Vx x E M2 25 [(0, .ref (E.1 (71))), (1, .int (iI (y)))] [] := by
        refine lo2 _ _ (fun y M2 => (793 - y).toNat) ?_
        intro y M2 hI ih25
        obtain ⟨n1, n2, n3, n4, n5⟩ := hI
        refine x_iload_n B dX8_oneHour_25 1 rfl rfl ?_
        refine x_sipush B dX8_oneHour_26 rfl ?_
        refine x_icmp_ge B (tgt := 134) dX8_oneHour_29 (by decide) ⟨by omega, by omega⟩ ⟨by omega, by omega⟩ (fun c29 => ?_) (fun c29 => ?_)
        · show Vx x E M2 134 [(0, .ref (E.1 (71))), (1, .int (iI (y)))] []
          refine x_iconst B dX8_oneHour_134 ?_
          refine x_istore_n B dX8_oneHour_135 [1, 0] rfl (by decide) (lv' := [(0, .ref (E.1 (71))), (1, .int (iI (0)))]) rfl ?_
          have L136 : ∀ (x3 : Int) (M3 : Mem), (0 ≤ x3 ∧ x3 ≤ 793 ∧ offC M2 M3 90 91 ∧ ltF (M3 90) (M2 91) x3) → Vx x E M3 136 [(0, .ref (E.1 (71))), (1, .int (iI (x3)))] [] := by
            refine lo2 _ _ (fun x3 M3 => (793 - x3).toNat) ?_
            intro x3 M3 hI ih136
            obtain ⟨r1, r2, r3, r4⟩ := hI
            refine x_iload_n B dX8_oneHour_136 1 rfl rfl ?_
            refine x_sipush B dX8_oneHour_137 rfl ?_
            refine x_icmp_ge B (tgt := 161) dX8_oneHour_140 (by decide) ⟨by omega, by omega⟩ ⟨by omega, by omega⟩ (fun c140 => ?_) (fun c140 => ?_)
            · show Vx x E M3 161 [(0, .ref (E.1 (71))), (1, .int (iI (x3)))] []
              exact r_v B R dX8_oneHour_161 (⟨offC_tr (offC_w n3 (by omega) (by omega)) (offC_w r3 (by omega) (by omega)), kI_cg (kI_s g1 w7.1 w8.1 g2 n4 (by rw [show (793 : Int) = y by omega]; exact n5)) (fun q hq => r4 q (by omega))⟩)
            · show Vx x E M3 143 [(0, .ref (E.1 (71))), (1, .int (iI (x3)))] []
              refine x_aload_n B dX8_oneHour_143 0 rfl rfl ?_
              refine x_getR B (ci := 8) (k := 35) dX8_oneHour_144 rfl rfl rfl (by decide) inGX8 kw_840 ?_
              refine x_iload_n B dX8_oneHour_147 1 rfl rfl ?_
              refine x_aload_n B dX8_oneHour_148 0 rfl rfl ?_
              refine x_getR B (ci := 8) (k := 36) dX8_oneHour_149 rfl rfl rfl (by decide) inGX8 kw_841 ?_
              refine x_iload_n B dX8_oneHour_152 1 rfl rfl ?_
              refine x_iald B (lo := -4) (hi := 1200) dX8_oneHour_153 rfl (by omega) (by omega) rfl (fun z153 ez153 lz153 uz153 => ?_)
              refine x_iast B (lo := -4) (hi := 1200) dX8_oneHour_154 rfl (by omega) (by omega) rfl (by omega) (by omega) ?_
              refine x_iinc B (q := 1) dX8_oneHour_155 rfl [1, 0] (by decide) (lv' := [(0, .ref (E.1 (71))), (1, .int (iI (x3 + 1)))]) rfl ?_
              refine x_goto B (tgt := 136) dX8_oneHour_158 (by decide) ?_
              exact ih136 (x3 + 1) (sto M3 90 (x3).toNat z153) (⟨by omega, by omega, offC_sto r3 (by omega), ltF_s r4 r1 (by rw [Is_e ez153, offC_f r3 (by omega)])⟩) (by omega)
          exact L136 0 M2 (⟨by omega, by omega, offC_rf, ltF_0⟩)
        · show Vx x E M2 32 [(0, .ref (E.1 (71))), (1, .int (iI (y)))] []
          refine x_aload_n B dX8_oneHour_32 0 rfl rfl ?_
          refine x_getR B (ci := 8) (k := 35) dX8_oneHour_33 rfl rfl rfl (by decide) inGX8 kw_840 ?_
          refine x_iload_n B dX8_oneHour_36 1 rfl rfl ?_
          refine x_iald B (lo := -4) (hi := 1200) dX8_oneHour_37 rfl (by omega) (by omega) rfl (fun z37 ez37 lz37 uz37 => ?_)
          have e37 : z37 = M 90 y.toNat := by rw [Is_e ez37, offC_f n3 (by omega)]
          refine x_bipush B dX8_oneHour_38 rfl ?_
          refine x_icmp_eq B (tgt := 128) dX8_oneHour_40 (by decide) ⟨by omega, by omega⟩ ⟨by omega, by omega⟩ (fun c40 => ?_) (fun c40 => ?_)
          · show Vx x E M2 128 [(0, .ref (E.1 (71))), (1, .int (iI (y)))] []
            refine x_iinc B (q := 1) dX8_oneHour_128 rfl [1, 0] (by decide) (lv' := [(0, .ref (E.1 (71))), (1, .int (iI (y + 1)))]) rfl ?_
            refine x_goto B (tgt := 25) dX8_oneHour_131 (by decide) ?_
            exact ih25 (y + 1) M2 (⟨by omega, by omega, n3, n4, gC_no n5 n1 (by rw [← e37]; exact c40)⟩) (by omega)
          · show Vx x E M2 43 [(0, .ref (E.1 (71))), (1, .int (iI (y)))] []
            have hso := g2.1 (y / 13) (y % 13) (by omega) (by omega) (by omega) (by omega)
            rw [show 13 * (y / 13) + y % 13 = y by omega, ← e37] at hso
            obtain ⟨o, l, p1, p2, p3, p4, p5, p6⟩ := hso.resolve_left c40
            have v0 := kv0 w7.1 w8.1 p1 p2
            have v20 := kv20 w7.2 w8.2 p1 p2 p3
            refine x_iload_n B dX8_oneHour_43 1 rfl rfl ?_
            refine x_bipush B dX8_oneHour_44 rfl ?_
            refine x_irem B dX8_oneHour_46 ⟨by omega, by omega⟩ (by omega) ⟨by omega, by omega⟩ (by omega) ?_
            refine x_istore_n B dX8_oneHour_47 [1, 2, 0] rfl (by decide) (lv' := [(0, .ref (E.1 (71))), (1, .int (iI (y))), (2, .int (iI (y % 13)))]) rfl ?_
            refine x_aload_n B dX8_oneHour_48 0 rfl rfl ?_
            refine x_iload_n B dX8_oneHour_49 1 rfl rfl ?_
            refine x_bipush B dX8_oneHour_50 rfl ?_
            refine x_idiv B dX8_oneHour_52 ⟨by omega, by omega⟩ (by omega) ⟨by omega, by omega⟩ (by omega) ?_
            refine x_iload_n B dX8_oneHour_53 2 rfl rfl ?_
            refine x_iconst B dX8_oneHour_54 ?_
            have J65 : ∀ (j : Int), (j = max 0 (y % 13 - 4)) → Vx x E M2 65 [(0, .ref (E.1 (71))), (1, .int (iI (y))), (2, .int (iI (y % 13)))] [.int (iI (j)), .int (iI (y / 13)), .ref (E.1 (71))] := by
              intro j hJ
              obtain hJ := hJ
              refine x_aload_n B dX8_oneHour_65 0 rfl rfl ?_
              refine x_getR B (ci := 8) (k := 35) dX8_oneHour_66 rfl rfl rfl (by decide) inGX8 kw_840 ?_
              refine x_iload_n B dX8_oneHour_69 1 rfl rfl ?_
              refine x_iald B (lo := -4) (hi := 1200) dX8_oneHour_70 rfl (by omega) (by omega) rfl (fun z70 ez70 lz70 uz70 => ?_)
              have e70 : z70 = z37 := (Is_e ez70).trans (Is_e ez37).symm
              subst hJ
              refine x_callV B (st := []) (av := [.int (iI (y / 13)), .int (iI (max 0 (y % 13 - 4))), .int (iI (z70))]) dX8_oneHour_71 cs_X8_goesOn kw_1171 ⟨rfl, rfl, Nat.le_of_ble_eq_true rfl, Nat.le_of_ble_eq_true rfl⟩ rfl rfl (Nat.le_of_ble_eq_true rfl) (rc_obj B (ci := 8) rfl rfl rfl) (c_X8_goesOn _ E _ (y / 13) (max 0 (y % 13 - 4)) z70 (by omega) (by omega) (by omega) (by omega) (by rw [e70]; omega) (by rw [e70]; omega)) (k_v (fun M71 hz71 => ?_))
              refine x_aload_n B dX8_oneHour_74 0 rfl rfl ?_
              refine x_iload_n B dX8_oneHour_75 1 rfl rfl ?_
              refine x_bipush B dX8_oneHour_76 rfl ?_
              refine x_idiv B dX8_oneHour_78 ⟨by omega, by omega⟩ (by omega) ⟨by omega, by omega⟩ (by omega) ?_
              refine x_iconst B dX8_oneHour_79 ?_
              refine x_iadd B dX8_oneHour_80 ?_
              refine x_iload_n B dX8_oneHour_81 2 rfl rfl ?_
              refine x_iconst B dX8_oneHour_82 ?_
              refine x_iadd B dX8_oneHour_83 ?_
              refine x_aload_n B dX8_oneHour_84 0 rfl rfl ?_
              refine x_getR B (ci := 8) (k := 35) dX8_oneHour_85 rfl rfl rfl (by decide) inGX8 kw_840 ?_
              refine x_iload_n B dX8_oneHour_88 1 rfl rfl ?_
              refine x_iald B (lo := -4) (hi := 1200) dX8_oneHour_89 rfl (by omega) (by omega) rfl (fun z89 ez89 lz89 uz89 => ?_)
              refine x_aload_n B dX8_oneHour_90 0 rfl rfl ?_
              refine x_getR B (ci := 8) (k := 14) dX8_oneHour_91 rfl rfl rfl (by decide) inGX8 kw_819 ?_
              refine x_bipush B dX8_oneHour_94 rfl ?_
              refine x_iald B (lo := 0) (hi := 20) dX8_oneHour_96 rfl (by omega) (by omega) rfl (fun z96 ez96 lz96 uz96 => ?_)
              have ez96 : Is z96 (M71 78 7) := ez96
              refine x_iadd B dX8_oneHour_97 ?_
              have e89 : z89 = z37 := by rw [Is_e ez89, offC_f hz71.1 (by omega)]; exact (Is_e ez37).symm
              have e96 : z96 = M 78 7 := by rw [Is_e ez96, offC_f hz71.1 (by omega), offC_f n3 (by omega)]
              refine x_callV B (st := []) (av := [.int (iI ((y / 13) + 1)), .int (iI ((y % 13) + 3)), .int (iI (z89 + z96))]) dX8_oneHour_98 cs_X8_goesOn kw_1171 ⟨rfl, rfl, Nat.le_of_ble_eq_true rfl, Nat.le_of_ble_eq_true rfl⟩ rfl rfl (Nat.le_of_ble_eq_true rfl) (rc_obj B (ci := 8) rfl rfl rfl) (c_X8_goesOn _ E _ ((y / 13) + 1) ((y % 13) + 3) (z89 + z96) (by omega) (by omega) (by omega) (by omega) (by rw [e89]; omega) (by rw [e89]; omega)) (k_v (fun M98 hz98 => ?_))
              refine x_aload_n B dX8_oneHour_101 0 rfl rfl ?_
              refine x_iload_n B dX8_oneHour_102 1 rfl rfl ?_
              refine x_bipush B dX8_oneHour_103 rfl ?_
              refine x_idiv B dX8_oneHour_105 ⟨by omega, by omega⟩ (by omega) ⟨by omega, by omega⟩ (by omega) ?_
              refine x_iconst B dX8_oneHour_106 ?_
              refine x_iadd B dX8_oneHour_107 ?_
              refine x_iload_n B dX8_oneHour_108 2 rfl rfl ?_
              refine x_iconst B dX8_oneHour_109 ?_
              refine x_iadd B dX8_oneHour_110 ?_
              refine x_aload_n B dX8_oneHour_111 0 rfl rfl ?_
              refine x_getR B (ci := 8) (k := 35) dX8_oneHour_112 rfl rfl rfl (by decide) inGX8 kw_840 ?_
              refine x_iload_n B dX8_oneHour_115 1 rfl rfl ?_
              refine x_iald B (lo := -4) (hi := 1200) dX8_oneHour_116 rfl (by omega) (by omega) rfl (fun z116 ez116 lz116 uz116 => ?_)
              refine x_aload_n B dX8_oneHour_117 0 rfl rfl ?_
              refine x_getR B (ci := 8) (k := 14) dX8_oneHour_118 rfl rfl rfl (by decide) inGX8 kw_819 ?_
              refine x_bipush B dX8_oneHour_121 rfl ?_
              refine x_iald B (lo := 0) (hi := 20) dX8_oneHour_123 rfl (by omega) (by omega) rfl (fun z123 ez123 lz123 uz123 => ?_)
              have ez123 : Is z123 (M98 78 8) := ez123
              refine x_iadd B dX8_oneHour_124 ?_
              have e116 : z116 = z37 := by rw [Is_e ez116, offC_f hz98.1 (by omega), offC_f hz71.1 (by omega)]; exact (Is_e ez37).symm
              have e123 : z123 = M 78 8 := by rw [Is_e ez123, offC_f hz98.1 (by omega), offC_f hz71.1 (by omega), offC_f n3 (by omega)]
              refine x_callV B (st := []) (av := [.int (iI ((y / 13) + 1)), .int (iI ((y % 13) + 1)), .int (iI (z116 + z123))]) dX8_oneHour_125 cs_X8_goesOn kw_1171 ⟨rfl, rfl, Nat.le_of_ble_eq_true rfl, Nat.le_of_ble_eq_true rfl⟩ rfl rfl (Nat.le_of_ble_eq_true rfl) (rc_obj B (ci := 8) rfl rfl rfl) (c_X8_goesOn _ E _ ((y / 13) + 1) ((y % 13) + 1) (z116 + z123) (by omega) (by omega) (by omega) (by omega) (by rw [e116]; omega) (by rw [e116]; omega)) (k_v (fun M125 hz125 => ?_))
              have hg3 : M125 91 = goL (goL (goL (M2 91) (y / 13) (max 0 (y % 13 - 4)) z37) (y / 13 + 1) (y % 13 + 3) (z37 + M 78 7)) (y / 13 + 1) (y % 13 + 1) (z37 + M 78 8) := by rw [hz125.2, hz98.2, hz71.2, e70, e89, e96, e116, e123]
              refine x_iinc B (q := 1) dX8_oneHour_128 rfl [1, 0, 2] (by decide) (lv' := [(0, .ref (E.1 (71))), (1, .int (iI (y + 1))), (2, .int (iI (y % 13)))]) rfl ?_
              refine x_goto B (tgt := 25) dX8_oneHour_131 (by decide) ?_
              refine x_lv [0, 1] (lv' := [(0, .ref (E.1 (71))), (1, .int (iI (y + 1)))]) rfl ?_
              exact ih25 (y + 1) M125 (⟨by omega, by omega, offC_tr n3 (offC_tr hz71.1 (offC_tr hz98.1 hz125.1)), by rw [hg3]; exact goL_S (goL_S (goL_S n4 (by omega) (by omega) ⟨o, l, p1, p2, p3, by omega, p5, by omega⟩) (by omega) (by omega) ⟨o + 1, l, by omega, p2, by omega, by omega, by rw [p5, Int.mul_add, Int.mul_one]; omega, by omega⟩) (by omega) (by omega) ⟨o, l + 1, p1, by omega, by omega, by omega, by rw [p5, Int.mul_add, Int.mul_one]; omega, by omega⟩, by rw [hg3]; exact gC_s n5 n1 e37⟩) (by omega)
            refine x_icmp_ge B (tgt := 62) dX8_oneHour_55 (by decide) ⟨by omega, by omega⟩ ⟨by omega, by omega⟩ (fun c55 => ?_) (fun c55 => ?_)
            · show Vx x E M2 62 [(0, .ref (E.1 (71))), (1, .int (iI (y))), (2, .int (iI (y % 13)))] [.int (iI (y / 13)), .ref (E.1 (71))]
              refine x_iload_n B dX8_oneHour_62 2 rfl rfl ?_
              refine x_iconst B dX8_oneHour_63 ?_
              refine x_isub B dX8_oneHour_64 ?_
              exact J65 ((y % 13) - 4) (by omega)
            · show Vx x E M2 58 [(0, .ref (E.1 (71))), (1, .int (iI (y))), (2, .int (iI (y % 13)))] [.int (iI (y / 13)), .ref (E.1 (71))]
              refine x_iconst B dX8_oneHour_58 ?_
              refine x_goto B (tgt := 65) dX8_oneHour_59 (by decide) ?_
              exact J65 0 (by omega)
      exact L25 0 M1 (⟨by omega, by omega, by rw [i3]; exact fun i j hi => if_neg (fun q => by omega), fun b w b0 b1 w0 w1 => Or.inl (by rw [i3]; exact if_pos ⟨rfl, by omega⟩), gC_0⟩)
    · show Vx x E M1 9 [(0, .ref (E.1 (71))), (1, .int (iI (k)))] []
      refine x_aload_n B dX8_oneHour_9 0 rfl rfl ?_
      refine x_getR B (ci := 8) (k := 36) dX8_oneHour_10 rfl rfl rfl (by decide) inGX8 kw_841 ?_
      refine x_iload_n B dX8_oneHour_13 1 rfl rfl ?_
      refine x_bipush B dX8_oneHour_14 rfl ?_
      refine x_iast B (lo := -4) (hi := 1200) dX8_oneHour_16 rfl (by omega) (by omega) rfl (by omega) (by omega) ?_
      refine x_iinc B (q := 1) dX8_oneHour_17 rfl [1, 0] (by decide) (lv' := [(0, .ref (E.1 (71))), (1, .int (iI (k + 1)))]) rfl ?_
      refine x_goto B (tgt := 2) dX8_oneHour_20 (by decide) ?_
      exact ih2 (k + 1) (sto M1 91 (k).toNat (-4)) (⟨by omega, by omega, by rw [i3]; exact fillM_s M 91 k (-4) i1⟩) (by omega)
  exact L2 0 M (⟨by omega, by omega, (fillM_0 M 91 (-4)).symm⟩)
abbrev rm_X8_lessons : Room := { frames := 2, cells := 0, slots := 0, locals := 46 }
theorem cs_X8_lessons : Cv yX8_lessons cX8_lessons 4 (some .int) 1 := ⟨kw_1166, ⟨kw_1164, kw_1165⟩, kw_67, by decide, by decide, by decide +kernel⟩
set_option maxHeartbeats 4000000 in
set_option maxRecDepth 100000 in
theorem c_X8_lessons (l : Launch) (E : Ev) (M : Mem) (w : Int) (g1 : -2147483648 ≤ w) (g2 : w < 2147483648) : Ct l yX8_lessons cX8_lessons 4 (some .int) rm_X8_lessons E M [.ref (E.1 (71)), .int (iI (w))] (pI (fun z M' => z = -1 ∧ M' = M ∧ ¬ (0 ≤ w ∧ w < 2) ∨ (0 ≤ w ∧ w < 2) ∧ offC M M' 90 92 ∧ ((∃ h b : Int, 1 ≤ h ∧ h ≤ 60 ∧ 0 ≤ b ∧ b ≤ 60 ∧ rcK (M 78 7) (M 78 8) (M 78 10) h b ∧ (∀ h' b' : Int, 1 ≤ h' → h' < h → 0 ≤ b' → b' ≤ 60 → ¬ rcK (M 78 7) (M 78 8) (M 78 10) h' b') ∧ (∀ b' : Int, 0 ≤ b' → b' < b → ¬ rcK (M 78 7) (M 78 8) (M 78 10) h b') ∧ z = (if w = 0 then h else b)) ∨ z = -4 ∧ ∀ h' b' : Int, 1 ≤ h' → h' ≤ 60 → 0 ≤ b' → b' ≤ 60 → ¬ rcK (M 78 7) (M 78 8) (M 78 10) h' b'))) := by
  refine Ct_of (lv := [(0, .ref (E.1 (71))), (1, .int (iI (w)))]) (by decide) ⟨rfl, rfl⟩ (Nat.le_of_ble_eq_true rfl) rfl (fun x _ B R => ?_)
  refine x_iload_n B dX8_lessons_0 1 rfl rfl ?_
  refine x_i2l B dX8_lessons_1 ⟨by omega, by omega⟩ ?_
  refine x_lconst B (z := 0) dX8_lessons_2 rfl ?_
  refine x_lconst B (z := 1) dX8_lessons_3 rfl ?_
  refine x_callS B (st := []) (av := [.long (iL (w)), .long (iL (0)), .long (iL (1))]) dX8_lessons_4 cs_X8_in kw_952 ⟨rfl, rfl, Nat.le_of_ble_eq_true rfl, Nat.le_of_ble_eq_true rfl⟩ rfl rfl (Nat.le_of_ble_eq_true rfl) (c_X8_in _ E _ w 0 1 (by omega) (by omega) (by omega) (by omega) (by omega) (by omega)) (k_i (fun z4 Mq hz4 => ?_))
  obtain ⟨rfl, hz4⟩ := hz4
  refine x_if_ne B (tgt := 12) dX8_lessons_7 (by decide) ⟨by omega, by omega⟩ (fun c7 => ?_) (fun c7 => ?_)
  · show Vx x E M 12 [(0, .ref (E.1 (71))), (1, .int (iI (w)))] []
    refine x_iconst B dX8_lessons_12 ?_
    refine x_istore_n B dX8_lessons_13 [1, 2, 0] rfl (by decide) (lv' := [(0, .ref (E.1 (71))), (1, .int (iI (w))), (2, .int (iI (0)))]) rfl ?_
    have L14 : ∀ (k : Int) (M1 : Mem), (0 ≤ k ∧ k ≤ 793 ∧ offC M M1 90 91 ∧ ltF (M1 90) (fun q => if q = 0 then 0 else -4) k) → Vx x E M1 14 [(0, .ref (E.1 (71))), (1, .int (iI (w))), (2, .int (iI (k)))] [] := by
      refine lo2 _ _ (fun k M1 => (793 - k).toNat) ?_
      intro k M1 hI ih14
      obtain ⟨m1, m2, m3, m4⟩ := hI
      refine x_iload_n B dX8_lessons_14 2 rfl rfl ?_
      refine x_sipush B dX8_lessons_15 rfl ?_
      refine x_icmp_ge B (tgt := 43) dX8_lessons_18 (by decide) ⟨by omega, by omega⟩ ⟨by omega, by omega⟩ (fun c18 => ?_) (fun c18 => ?_)
      · show Vx x E M1 43 [(0, .ref (E.1 (71))), (1, .int (iI (w))), (2, .int (iI (k)))] []
        refine x_iconst B dX8_lessons_43 ?_
        refine x_istore_n B dX8_lessons_44 [1, 2, 0] rfl (by decide) (lv' := [(0, .ref (E.1 (71))), (1, .int (iI (w))), (2, .int (iI (1)))]) rfl ?_
        have L45 : ∀ (hh : Int) (M2 : Mem), (1 ≤ hh ∧ hh ≤ 61 ∧ offC M M2 90 92 ∧ kI (M 78 7) (M 78 8) (hh - 1) (M2 90) ∧ ∀ h' b' : Int, 1 ≤ h' → h' < hh → 0 ≤ b' → b' ≤ 60 → ¬ rcK (M 78 7) (M 78 8) (M 78 10) h' b') → Vx x E M2 45 [(0, .ref (E.1 (71))), (1, .int (iI (w))), (2, .int (iI (hh)))] [] := by
          refine lo2 _ _ (fun hh M2 => (61 - hh).toNat) ?_
          intro hh M2 hI ih45
          obtain ⟨i1, i2, i3, i4, i5⟩ := hI
          refine x_iload_n B dX8_lessons_45 2 rfl rfl ?_
          refine x_bipush B dX8_lessons_46 rfl ?_
          refine x_icmp_gt B (tgt := 105) dX8_lessons_48 (by decide) ⟨by omega, by omega⟩ ⟨by omega, by omega⟩ (fun c48 => ?_) (fun c48 => ?_)
          · show Vx x E M2 105 [(0, .ref (E.1 (71))), (1, .int (iI (w))), (2, .int (iI (hh)))] []
            refine x_bipush B dX8_lessons_105 rfl ?_
            exact r_i B R dX8_lessons_107 (Or.inr ⟨by omega, i3, Or.inr ⟨rfl, fun h' b' a b c d => i5 h' b' a (by omega) c d⟩⟩)
          · show Vx x E M2 51 [(0, .ref (E.1 (71))), (1, .int (iI (w))), (2, .int (iI (hh)))] []
            refine x_aload_n B dX8_lessons_51 0 rfl rfl ?_
            refine x_callV B (st := []) (av := []) dX8_lessons_52 cs_X8_oneHour kw_1167 ⟨rfl, rfl, Nat.le_of_ble_eq_true rfl, Nat.le_of_ble_eq_true rfl⟩ rfl rfl (Nat.le_of_ble_eq_true rfl) (rc_obj B (ci := 8) rfl rfl rfl) (c_X8_oneHour _ E _ (hh - 1) (by omega) (by rw [offC_f i3 (show 78 < 90 ∨ 92 ≤ 78 by omega)]; exact i4)) (k_v (fun M52 hz52 => ?_))
            have hk : kI (M 78 7) (M 78 8) hh (M52 90) := by
              have h := hz52.2
              rw [offC_f i3 (show 78 < 90 ∨ 92 ≤ 78 by omega), show hh - 1 + 1 = hh by omega] at h
              exact h
            refine x_iconst B dX8_lessons_55 ?_
            refine x_istore_n B dX8_lessons_56 [1, 2, 3, 0] rfl (by decide) (lv' := [(0, .ref (E.1 (71))), (1, .int (iI (w))), (2, .int (iI (hh))), (3, .int (iI (0)))]) rfl ?_
            have L57 : ∀ (y : Int), (0 ≤ y ∧ y ≤ 793 ∧ ∀ q : Int, 0 ≤ q → q < y → ¬ M 78 10 ≤ M52 90 q.toNat) → Vx x E M52 57 [(0, .ref (E.1 (71))), (1, .int (iI (w))), (2, .int (iI (hh))), (3, .int (iI (y)))] [] := by
              refine lo1 _ _ (fun y => (793 - y).toNat) ?_
              intro y hI ih57
              obtain ⟨n1, n2, n3⟩ := hI
              refine x_iload_n B dX8_lessons_57 3 rfl rfl ?_
              refine x_sipush B dX8_lessons_58 rfl ?_
              refine x_icmp_ge B (tgt := 99) dX8_lessons_61 (by decide) ⟨by omega, by omega⟩ ⟨by omega, by omega⟩ (fun c61 => ?_) (fun c61 => ?_)
              · show Vx x E M52 99 [(0, .ref (E.1 (71))), (1, .int (iI (w))), (2, .int (iI (hh))), (3, .int (iI (y)))] []
                refine x_iinc B (q := 2) dX8_lessons_99 rfl [1, 2, 0, 3] (by decide) (lv' := [(0, .ref (E.1 (71))), (1, .int (iI (w))), (2, .int (iI (hh + 1))), (3, .int (iI (y)))]) rfl ?_
                refine x_goto B (tgt := 45) dX8_lessons_102 (by decide) ?_
                refine x_lv [0, 1, 2] (lv' := [(0, .ref (E.1 (71))), (1, .int (iI (w))), (2, .int (iI (hh + 1)))]) rfl ?_
                exact ih45 (hh + 1) M52 (⟨by omega, by omega, offC_tr i3 hz52.1, by rw [show hh + 1 - 1 = hh by omega]; exact hk, fun h' b' a b c d => by rcases (show h' < hh ∨ h' = hh by omega) with h7 | h7; (exact i5 h' b' a h7 c d); (rw [h7]; exact rcK_no hk n3 d (by omega))⟩) (by omega)
              · show Vx x E M52 64 [(0, .ref (E.1 (71))), (1, .int (iI (w))), (2, .int (iI (hh))), (3, .int (iI (y)))] []
                refine x_aload_n B dX8_lessons_64 0 rfl rfl ?_
                refine x_getR B (ci := 8) (k := 35) dX8_lessons_65 rfl rfl rfl (by decide) inGX8 kw_840 ?_
                refine x_iload_n B dX8_lessons_68 3 rfl rfl ?_
                refine x_iald B (lo := -4) (hi := 1200) dX8_lessons_69 rfl (by omega) (by omega) rfl (fun z69 ez69 lz69 uz69 => ?_)
                refine x_aload_n B dX8_lessons_70 0 rfl rfl ?_
                refine x_getR B (ci := 8) (k := 14) dX8_lessons_71 rfl rfl rfl (by decide) inGX8 kw_819 ?_
                refine x_bipush B dX8_lessons_74 rfl ?_
                refine x_iald B (lo := 1) (hi := 99) dX8_lessons_76 rfl (by omega) (by omega) rfl (fun z76 ez76 lz76 uz76 => ?_)
                have ez76 : Is z76 (M52 78 10) := ez76
                have e76 : Is z76 (M 78 10) := by
                  show _ = _
                  rw [Is_e ez76, offC_f hz52.1 (by omega), offC_f i3 (by omega)]
                refine x_icmp_lt B (tgt := 93) dX8_lessons_77 (by decide) ⟨by omega, by omega⟩ ⟨by omega, by omega⟩ (fun c77 => ?_) (fun c77 => ?_)
                · show Vx x E M52 93 [(0, .ref (E.1 (71))), (1, .int (iI (w))), (2, .int (iI (hh))), (3, .int (iI (y)))] []
                  refine x_iinc B (q := 3) dX8_lessons_93 rfl [1, 2, 3, 0] (by decide) (lv' := [(0, .ref (E.1 (71))), (1, .int (iI (w))), (2, .int (iI (hh))), (3, .int (iI (y + 1)))]) rfl ?_
                  refine x_goto B (tgt := 57) dX8_lessons_96 (by decide) ?_
                  exact ih57 (y + 1) (⟨by omega, by omega, fun q a b => by rcases (show q < y ∨ q = y by omega) with h7 | h7; (exact n3 q a h7); (rw [h7, ← Is_e ez69, ← Is_e e76]; omega)⟩) (by omega)
                · show Vx x E M52 80 [(0, .ref (E.1 (71))), (1, .int (iI (w))), (2, .int (iI (hh))), (3, .int (iI (y)))] []
                  refine x_iload_n B dX8_lessons_80 1 rfl rfl ?_
                  refine x_if_ne B (tgt := 88) dX8_lessons_81 (by decide) ⟨by omega, by omega⟩ (fun c81 => ?_) (fun c81 => ?_)
                  · show Vx x E M52 88 [(0, .ref (E.1 (71))), (1, .int (iI (w))), (2, .int (iI (hh))), (3, .int (iI (y)))] []
                    refine x_iload_n B dX8_lessons_88 3 rfl rfl ?_
                    refine x_bipush B dX8_lessons_89 rfl ?_
                    refine x_idiv B dX8_lessons_91 ⟨by omega, by omega⟩ (by omega) ⟨by omega, by omega⟩ (by omega) ?_
                    exact r_i B R dX8_lessons_92 (Or.inr ⟨by omega, offC_tr i3 hz52.1, Or.inl ⟨hh, y / 13, by omega, by omega, by omega, by omega, rcK_of hk n1 (by omega) (by rw [← Is_e e76]; omega) (by rw [← Is_e ez69, ← Is_e e76]; omega), i5, fun b' b0 b1 => rcK_no hk n3 (by omega) (by omega), by rw [if_neg c81]⟩⟩)
                  · show Vx x E M52 84 [(0, .ref (E.1 (71))), (1, .int (iI (w))), (2, .int (iI (hh))), (3, .int (iI (y)))] []
                    refine x_iload_n B dX8_lessons_84 2 rfl rfl ?_
                    refine x_goto B (tgt := 92) dX8_lessons_85 (by decide) ?_
                    exact r_i B R dX8_lessons_92 (Or.inr ⟨by omega, offC_tr i3 hz52.1, Or.inl ⟨hh, y / 13, by omega, by omega, by omega, by omega, rcK_of hk n1 (by omega) (by rw [← Is_e e76]; omega) (by rw [← Is_e ez69, ← Is_e e76]; omega), i5, fun b' b0 b1 => rcK_no hk n3 (by omega) (by omega), by rw [if_pos c81]⟩⟩)
            exact L57 0 (⟨by omega, by omega, fun q a b => by omega⟩)
        exact L45 1 M1 (⟨by omega, by omega, offC_w m3 (by omega) (by omega), kI_0 (fun q hq => m4 q (by omega)), fun h' b' a b c d => by omega⟩)
      · show Vx x E M1 21 [(0, .ref (E.1 (71))), (1, .int (iI (w))), (2, .int (iI (k)))] []
        refine x_aload_n B dX8_lessons_21 0 rfl rfl ?_
        refine x_getR B (ci := 8) (k := 35) dX8_lessons_22 rfl rfl rfl (by decide) inGX8 kw_840 ?_
        refine x_iload_n B dX8_lessons_25 2 rfl rfl ?_
        refine x_iload_n B dX8_lessons_26 2 rfl rfl ?_
        refine x_if_ne B (tgt := 34) dX8_lessons_27 (by decide) ⟨by omega, by omega⟩ (fun c27 => ?_) (fun c27 => ?_)
        · show Vx x E M1 34 [(0, .ref (E.1 (71))), (1, .int (iI (w))), (2, .int (iI (k)))] [.int (iI (k)), .ref (E.1 (90))]
          refine x_bipush B dX8_lessons_34 rfl ?_
          refine x_iast B (lo := -4) (hi := 1200) dX8_lessons_36 rfl (by omega) (by omega) rfl (by omega) (by omega) ?_
          refine x_iinc B (q := 2) dX8_lessons_37 rfl [1, 2, 0] (by decide) (lv' := [(0, .ref (E.1 (71))), (1, .int (iI (w))), (2, .int (iI (k + 1)))]) rfl ?_
          refine x_goto B (tgt := 14) dX8_lessons_40 (by decide) ?_
          exact ih14 (k + 1) (sto M1 90 (k).toNat (-4)) (⟨by omega, by omega, offC_sto m3 (by omega), ltF_s m4 m1 (by show _ = if k.toNat = 0 then (0 : Int) else -4; rw [if_neg (by omega)])⟩) (by omega)
        · show Vx x E M1 30 [(0, .ref (E.1 (71))), (1, .int (iI (w))), (2, .int (iI (k)))] [.int (iI (k)), .ref (E.1 (90))]
          refine x_iconst B dX8_lessons_30 ?_
          refine x_goto B (tgt := 36) dX8_lessons_31 (by decide) ?_
          refine x_iast B (lo := -4) (hi := 1200) dX8_lessons_36 rfl (by omega) (by omega) rfl (by omega) (by omega) ?_
          refine x_iinc B (q := 2) dX8_lessons_37 rfl [1, 2, 0] (by decide) (lv' := [(0, .ref (E.1 (71))), (1, .int (iI (w))), (2, .int (iI (k + 1)))]) rfl ?_
          refine x_goto B (tgt := 14) dX8_lessons_40 (by decide) ?_
          exact ih14 (k + 1) (sto M1 90 (k).toNat 0) (⟨by omega, by omega, offC_sto m3 (by omega), ltF_s m4 m1 (by show _ = if k.toNat = 0 then (0 : Int) else -4; rw [if_pos (by omega)])⟩) (by omega)
    exact L14 0 M (⟨by omega, by omega, offC_rf, ltF_0⟩)
  · show Vx x E M 10 [(0, .ref (E.1 (71))), (1, .int (iI (w)))] []
    refine x_iconst B dX8_lessons_10 ?_
    exact r_i B R dX8_lessons_11 (Or.inl ⟨rfl, rfl, by omega⟩)
