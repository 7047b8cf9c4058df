def lkN (M : Mem) (a pl : Int) : Nat := bK (fun b : Nat => alM M a (b : Int) pl) 6
def twP (M N : Mem) (n : Int) : Prop := ∀ t a : Int, 0 ≤ t → t < 26 → 0 ≤ a → a < 6 → 6 * t + a < n → N 86 (6 * t + a).toNat = ((lkN M a t : Nat) : Int)
theorem twP_f {M N N' : Mem} {n : Int} (h : twP M N n) (e : N' 86 = N 86) : twP M N' n := fun t a a1 a2 a3 a4 a5 => by
  rw [e]
  exact h t a a1 a2 a3 a4 a5
theorem twP_s {M N : Mem} {t a s : Int} (h : twP M N (6 * t + a)) (t0 : 0 ≤ t) (a0 : 0 ≤ a) (a1 : a < 6) (hs : s = ((lkN M a t : Nat) : Int)) : twP M (sto N 86 (6 * t + a).toNat s) (6 * t + (a + 1)) := fun t' a' b1 b2 b3 b4 b5 => by
  rcases (show 6 * t' + a' < 6 * t + a ∨ (t' = t ∧ a' = a) by omega) with h7 | ⟨h7, h8⟩
  · rw [sto_nj _ _ _ _ (by omega)]
    exact h t' a' b1 b2 b3 b4 h7
  · rw [h7, h8, sto_eq, hs]
def rdP (M N : Mem) (n : Int) : Prop := ∀ m t h : Int, 0 ≤ m → m ≤ 3 → 0 ≤ t → t < 26 → 0 ≤ h → h < 64 → 1664 * m + 64 * t + h < n → N 89 (1664 * m + 64 * t + h).toNat = rgF (lkN M) m.toNat h.toNat t
theorem rdP_f {M N N' : Mem} {n : Int} (h : rdP M N n) (e : N' 89 = N 89) : rdP M N' n := fun m t v a1 a2 a3 a4 a5 a6 a7 => by
  rw [e]
  exact h m t v a1 a2 a3 a4 a5 a6 a7
theorem rdP_s {M N : Mem} {m t v s : Int} (h : rdP M N (1664 * m + 64 * t + v)) (m0 : 0 ≤ m) (t0 : 0 ≤ t) (t1 : t < 26) (v0 : 0 ≤ v) (v1 : v < 64) (hs : s = rgF (lkN M) m.toNat v.toNat t) : rdP M (sto N 89 (1664 * m + 64 * t + v).toNat s) (1664 * m + 64 * t + (v + 1)) := fun m' t' v' a1 a2 a3 a4 a5 a6 a7 => by
  rcases (show 1664 * m' + 64 * t' + v' < 1664 * m + 64 * t + v ∨ (m' = m ∧ t' = t ∧ v' = v) by omega) with h7 | ⟨h7, h8, h9⟩
  · rw [sto_nj _ _ _ _ (by omega)]
    exact h m' t' v' a1 a2 a3 a4 a5 a6 h7
  · rw [h7, h8, h9, sto_eq, hs]
def twA (lk : Int → Int → Nat) (pl : Int) (g : Nat → Int) : Prop := ∀ a : Int, 0 ≤ a → a < 6 → g (6 * pl + a).toNat = ((lk a pl : Nat) : Int)
def rwA (f : Nat → Int) (m pl : Int) (g : Nat → Int) : Prop := ∀ h : Int, 0 ≤ h → h < 64 → g (1664 * m + 64 * pl + h).toNat = f h.toNat
theorem tw_A {M N : Mem} {pl : Int} (h : twP M N 156) (p0 : 0 ≤ pl) (p1 : pl < 26) : twA (lkN M) pl (N 86) := fun a a0 a1 => h pl a p0 p1 a0 a1 (by omega)
theorem rd_A {M N : Mem} {m pl n : Int} (h : rdP M N n) (m0 : 0 ≤ m) (m1 : m ≤ 3) (p0 : 0 ≤ pl) (p1 : pl < 26) (hn : 1664 * m + 64 * pl + 63 < n) : rwA (fun h => rgF (lkN M) m.toNat h pl) m pl (N 89) := fun v v0 v1 => h m pl v m0 m1 p0 p1 v0 v1 (by omega)
theorem mxK_at {r : Int → Int} : ∀ n, 0 < n → (∀ k : Nat, k < n → 0 ≤ r (k : Int)) → ∃ k : Nat, k < n ∧ r (k : Int) = mxK r n := by
  intro n
  induction n with
  | zero => exact fun h => by omega
  | succ n ih =>
    intro _ h
    have e : mxK r (n + 1) = max (mxK r n) (r (n : Int)) := rfl
    rw [e]
    by_cases n0 : 0 < n
    · obtain ⟨k, k1, k2⟩ := ih n0 (fun k hk => h k (by omega))
      by_cases c : mxK r n ≤ r (n : Int)
      · exact ⟨n, by omega, by omega⟩
      · exact ⟨k, by omega, by omega⟩
    · have h2 := h n (by omega)
      have e0 : n = 0 := by omega
      subst e0
      exact ⟨0, by omega, by show _ = max 0 _; omega⟩
theorem nobits {v : Int} (v0 : 0 < v) (v1 : v < 64) (h : ∀ j : Int, 0 ≤ j → j < 6 → v.toNat.testBit j.toNat = false) : False := by
  have : v.toNat = 0 := by
    apply Nat.eq_of_testBit_eq
    intro b
    rw [Nat.zero_testBit]
    by_cases hb : b < 6
    · have := h (b : Int) (by omega) (by omega)
      rw [Int.toNat_natCast] at this
      exact this
    · exact tb64 (by omega) (by omega)
  omega
abbrev rm_X8_layTwins : Room := { frames := 5, cells := 0, slots := 0, locals := 126 }
theorem cs_X8_layTwins : Cv yX8_layTwins cX8_layTwins 5 none 0 := ⟨kw_1131, ⟨kw_1130, kw_49⟩, kw_67, by decide, by decide, by decide +kernel⟩
set_option maxHeartbeats 4000000 in
set_option maxRecDepth 100000 in
theorem c_X8_layTwins (l : Launch) (E : Ev) (M : Mem)   : Ct l yX8_layTwins cX8_layTwins 5 none rm_X8_layTwins E M [.ref (E.1 (71))] (pV (fun M' => ofS [81, 82, 83, 84, 86, 87] M M' ∧ twP M M' 156)) := by
  refine Ct_of (lv := [(0, .ref (E.1 (71)))]) (by decide) ⟨rfl, rfl⟩ (Nat.le_of_ble_eq_true rfl) rfl (fun x _ B R => ?_)
  refine x_iconst B dX8_layTwins_0 ?_
  refine x_istore_n B dX8_layTwins_1 [1, 0] rfl (by decide) (lv' := [(0, .ref (E.1 (71))), (1, .int (iI (0)))]) rfl ?_
  have L2 : ∀ (t : Int) (N1 : Mem), (0 ≤ t ∧ t ≤ 26 ∧ ofS [81, 82, 83, 84, 86, 87] M N1 ∧ twP M N1 (6 * t)) → Vx x E N1 2 [(0, .ref (E.1 (71))), (1, .int (iI (t)))] [] := by
    refine lo2 _ _ (fun t N1 => (26 - t).toNat) ?_
    intro t N1 hI ih2
    obtain ⟨i1, i2, i3, i4⟩ := hI
    refine x_iload_n B dX8_layTwins_2 1 rfl rfl ?_
    refine x_bipush B dX8_layTwins_3 rfl ?_
    refine x_icmp_ge B (tgt := 80) dX8_layTwins_5 (by decide) ⟨by omega, by omega⟩ ⟨by omega, by omega⟩ (fun c5 => ?_) (fun c5 => ?_)
    · show Vx x E N1 80 [(0, .ref (E.1 (71))), (1, .int (iI (t)))] []
      exact r_v B R dX8_layTwins_80 (⟨i3, by rw [show (156 : Int) = 6 * t by omega]; exact i4⟩)
    · show Vx x E N1 8 [(0, .ref (E.1 (71))), (1, .int (iI (t)))] []
      refine x_iconst B dX8_layTwins_8 ?_
      refine x_istore_n B dX8_layTwins_9 [1, 2, 0] rfl (by decide) (lv' := [(0, .ref (E.1 (71))), (1, .int (iI (t))), (2, .int (iI (0)))]) rfl ?_
      have L10 : ∀ (a : Int) (N2 : Mem), (0 ≤ a ∧ a ≤ 6 ∧ ofS [81, 82, 83, 84, 86, 87] M N2 ∧ twP M N2 (6 * t + a)) → Vx x E N2 10 [(0, .ref (E.1 (71))), (1, .int (iI (t))), (2, .int (iI (a)))] [] := by
        refine lo2 _ _ (fun a N2 => (6 - a).toNat) ?_
        intro a N2 hI ih10
        obtain ⟨n1, n2, n3, n4⟩ := hI
        refine x_iload_n B dX8_layTwins_10 2 rfl rfl ?_
        refine x_bipush B dX8_layTwins_11 rfl ?_
        refine x_icmp_ge B (tgt := 74) dX8_layTwins_13 (by decide) ⟨by omega, by omega⟩ ⟨by omega, by omega⟩ (fun c13 => ?_) (fun c13 => ?_)
        · show Vx x E N2 74 [(0, .ref (E.1 (71))), (1, .int (iI (t))), (2, .int (iI (a)))] []
          refine x_iinc B (q := 1) dX8_layTwins_74 rfl [1, 0, 2] (by decide) (lv' := [(0, .ref (E.1 (71))), (1, .int (iI (t + 1))), (2, .int (iI (a)))]) rfl ?_
          refine x_goto B (tgt := 2) dX8_layTwins_77 (by decide) ?_
          refine x_lv [0, 1] (lv' := [(0, .ref (E.1 (71))), (1, .int (iI (t + 1)))]) rfl ?_
          exact ih2 (t + 1) N2 (⟨by omega, by omega, n3, by rw [show 6 * (t + 1) = 6 * t + a by omega]; exact n4⟩) (by omega)
        · show Vx x E N2 16 [(0, .ref (E.1 (71))), (1, .int (iI (t))), (2, .int (iI (a)))] []
          refine x_iconst B dX8_layTwins_16 ?_
          refine x_istore_n B dX8_layTwins_17 [1, 2, 3, 0] rfl (by decide) (lv' := [(0, .ref (E.1 (71))), (1, .int (iI (t))), (2, .int (iI (a))), (3, .int (iI (0)))]) rfl ?_
          refine x_iconst B dX8_layTwins_18 ?_
          refine x_istore B dX8_layTwins_19 [1, 2, 3, 4, 0] (by decide) (lv' := [(0, .ref (E.1 (71))), (1, .int (iI (t))), (2, .int (iI (a))), (3, .int (iI (0))), (4, .int (iI (0)))]) rfl ?_
          have L21 : ∀ (sm : Int) (b : Int) (N3 : Mem), (0 ≤ b ∧ b ≤ 6 ∧ ofS [81, 82, 83, 84, 86, 87] M N3 ∧ twP M N3 (6 * t + a) ∧ Is sm ((bK (fun b : Nat => alM M a (b : Int) t) b.toNat : Nat) : Int) ∧ 0 ≤ sm) → Vx x E N3 21 [(0, .ref (E.1 (71))), (1, .int (iI (t))), (2, .int (iI (a))), (3, .int (iI (sm))), (4, .int (iI (b)))] [] := by
            refine lo3 _ _ (fun sm b N3 => (6 - b).toNat) ?_
            intro sm b N3 hI ih21
            obtain ⟨s1, s2, s3, s4, s5, s6⟩ := hI
            refine x_iload B dX8_layTwins_21 4 rfl ?_
            refine x_bipush B dX8_layTwins_23 rfl ?_
            refine x_icmp_ge B (tgt := 56) dX8_layTwins_25 (by decide) ⟨by omega, by omega⟩ ⟨by omega, by omega⟩ (fun c25 => ?_) (fun c25 => ?_)
            · show Vx x E N3 56 [(0, .ref (E.1 (71))), (1, .int (iI (t))), (2, .int (iI (a))), (3, .int (iI (sm))), (4, .int (iI (b)))] []
              refine x_aload_n B dX8_layTwins_56 0 rfl rfl ?_
              refine x_getR B (ci := 8) (k := 29) dX8_layTwins_57 rfl rfl rfl (by decide) inGX8 kw_834 ?_
              refine x_bipush B dX8_layTwins_60 rfl ?_
              refine x_iload_n B dX8_layTwins_62 1 rfl rfl ?_
              refine x_imul B dX8_layTwins_63 ?_
              refine x_iload_n B dX8_layTwins_64 2 rfl rfl ?_
              refine x_iadd B dX8_layTwins_65 ?_
              refine x_iload_n B dX8_layTwins_66 3 rfl rfl ?_
              refine x_iast B (lo := 0) (hi := 63) dX8_layTwins_67 rfl (by omega) (by omega) rfl (by omega) (by rw [Is_e s5, show b.toNat = 6 by omega]; exact (bK_le6 _).2) ?_
              refine x_iinc B (q := 2) dX8_layTwins_68 rfl [1, 2, 0, 3, 4] (by decide) (lv' := [(0, .ref (E.1 (71))), (1, .int (iI (t))), (2, .int (iI (a + 1))), (3, .int (iI (sm))), (4, .int (iI (b)))]) rfl ?_
              refine x_goto B (tgt := 10) dX8_layTwins_71 (by decide) ?_
              refine x_lv [0, 1, 2] (lv' := [(0, .ref (E.1 (71))), (1, .int (iI (t))), (2, .int (iI (a + 1)))]) rfl ?_
              exact ih10 (a + 1) (sto N3 86 ((6 * t) + a).toNat sm) (⟨by omega, by omega, ofS_sto s3 (by decide), twP_s s4 i1 n1 (by omega) (by rw [Is_e s5, show b.toNat = 6 by omega]; rfl)⟩) (by omega)
            · show Vx x E N3 28 [(0, .ref (E.1 (71))), (1, .int (iI (t))), (2, .int (iI (a))), (3, .int (iI (sm))), (4, .int (iI (b)))] []
              refine x_iload_n B dX8_layTwins_28 3 rfl rfl ?_
              refine x_aload_n B dX8_layTwins_29 0 rfl rfl ?_
              refine x_iload_n B dX8_layTwins_30 2 rfl rfl ?_
              refine x_iload B dX8_layTwins_31 4 rfl ?_
              refine x_iload_n B dX8_layTwins_33 1 rfl rfl ?_
              refine x_callV B (st := [.int (iI (sm))]) (av := [.int (iI (a)), .int (iI (b)), .int (iI (t))]) dX8_layTwins_34 cs_X8_areAlike kw_1105 ⟨rfl, rfl, Nat.le_of_ble_eq_true rfl, Nat.le_of_ble_eq_true rfl⟩ rfl rfl (Nat.le_of_ble_eq_true rfl) (rc_obj B (ci := 8) rfl rfl rfl) (c_X8_areAlike _ E _ a b t (by omega) (by omega) (by omega) (by omega) (by omega) (by omega)) (k_i (fun z34 M34 hz34 => ?_))
              refine x_if_eq B (tgt := 47) dX8_layTwins_37 (by decide) ⟨by omega, by omega⟩ (fun c37 => ?_) (fun c37 => ?_)
              · show Vx x E M34 47 [(0, .ref (E.1 (71))), (1, .int (iI (t))), (2, .int (iI (a))), (3, .int (iI (sm))), (4, .int (iI (b)))] [.int (iI (sm))]
                refine x_iconst B dX8_layTwins_47 ?_
                refine x_ior B dX8_layTwins_48 (by omega) (by first | omega | exact Int.natCast_nonneg _) ?_
                refine x_istore_n B dX8_layTwins_49 [1, 2, 3, 0, 4] rfl (by decide) (lv' := [(0, .ref (E.1 (71))), (1, .int (iI (t))), (2, .int (iI (a))), (3, .int (iI ((((sm).toNat ||| (0 : Int).toNat : Nat) : Int)))), (4, .int (iI (b)))]) rfl ?_
                refine x_iinc B (q := 4) dX8_layTwins_50 rfl [1, 2, 3, 4, 0] (by decide) (lv' := [(0, .ref (E.1 (71))), (1, .int (iI (t))), (2, .int (iI (a))), (3, .int (iI ((((sm).toNat ||| (0 : Int).toNat : Nat) : Int)))), (4, .int (iI (b + 1)))]) rfl ?_
                refine x_goto B (tgt := 21) dX8_layTwins_53 (by decide) ?_
                exact ih21 (((sm).toNat ||| (0 : Int).toNat : Nat) : Int) (b + 1) M34 (⟨by omega, by omega, ofS_tr s3 (ofS_w hz34.1 (by decide)), twP_f s4 (ofS_f hz34.1 (by decide) (by decide)), bK_f0 s1 (by show ¬ alM M a ((b.toNat : Nat) : Int) t = true; rw [Int.toNat_of_nonneg s1, ← alM_of s3 (by decide) (by decide) (by decide) (by decide)]; exact alM_f hz34.2 c37) s5, Int.natCast_nonneg _⟩) (by omega)
              · show Vx x E M34 40 [(0, .ref (E.1 (71))), (1, .int (iI (t))), (2, .int (iI (a))), (3, .int (iI (sm))), (4, .int (iI (b)))] [.int (iI (sm))]
                refine x_iconst B dX8_layTwins_40 ?_
                refine x_iload B dX8_layTwins_41 4 rfl ?_
                refine x_shl1 B dX8_layTwins_43 (by omega) (by omega) ?_
                refine x_goto B (tgt := 48) dX8_layTwins_44 (by decide) ?_
                refine x_ior B dX8_layTwins_48 (by omega) (by first | omega | exact Int.natCast_nonneg _) ?_
                refine x_istore_n B dX8_layTwins_49 [1, 2, 3, 0, 4] rfl (by decide) (lv' := [(0, .ref (E.1 (71))), (1, .int (iI (t))), (2, .int (iI (a))), (3, .int (iI ((((sm).toNat ||| (((2 ^ (b).toNat : Nat) : Int)).toNat : Nat) : Int)))), (4, .int (iI (b)))]) rfl ?_
                refine x_iinc B (q := 4) dX8_layTwins_50 rfl [1, 2, 3, 4, 0] (by decide) (lv' := [(0, .ref (E.1 (71))), (1, .int (iI (t))), (2, .int (iI (a))), (3, .int (iI ((((sm).toNat ||| (((2 ^ (b).toNat : Nat) : Int)).toNat : Nat) : Int)))), (4, .int (iI (b + 1)))]) rfl ?_
                refine x_goto B (tgt := 21) dX8_layTwins_53 (by decide) ?_
                exact ih21 (((sm).toNat ||| (((2 ^ (b).toNat : Nat) : Int)).toNat : Nat) : Int) (b + 1) M34 (⟨by omega, by omega, ofS_tr s3 (ofS_w hz34.1 (by decide)), twP_f s4 (ofS_f hz34.1 (by decide) (by decide)), bK_t s1 (by show alM M a ((b.toNat : Nat) : Int) t = true; rw [Int.toNat_of_nonneg s1, ← alM_of s3 (by decide) (by decide) (by decide) (by decide)]; exact alM_t hz34.2 c37) s5, Int.natCast_nonneg _⟩) (by omega)
          exact L21 0 0 N2 (⟨by omega, by omega, n3, n4, rfl, by omega⟩)
      exact L10 0 N1 (⟨by omega, by omega, i3, by rw [Int.add_zero]; exact i4⟩)
  exact L2 0 M (⟨by omega, by omega, ofS_rf, fun _ _ _ _ _ _ h => by omega⟩)
abbrev rm_X8_rightOf : Room := { frames := 0, cells := 0, slots := 0, locals := 0 }
theorem cs_X8_rightOf : Cv yX8_rightOf cX8_rightOf 8 (some .int) 3 := ⟨kw_1135, ⟨kw_1134, kw_50⟩, kw_67, by decide, by decide, by decide +kernel⟩
set_option maxHeartbeats 4000000 in
set_option maxRecDepth 100000 in
theorem c_X8_rightOf (l : Launch) (E : Ev) (M : Mem) (m pl v : Int) (lk : Int → Int → Nat) (f : Nat → Int) (g1 : 0 ≤ m) (g2 : m ≤ 3) (g3 : 0 ≤ pl) (g4 : pl ≤ 25) (g5 : 0 ≤ v) (g6 : v < 64) (g7 : twA lk pl (M 86)) (g8 : rwA f m pl (M 89)) : Ct l yX8_rightOf cX8_rightOf 8 (some .int) rm_X8_rightOf E M [.ref (E.1 (71)), .int (iI (m)), .int (iI (pl)), .int (iI (v))] (pI (fun z M' => M = M' ∧ (z = (rgK lk f v.toNat pl 6).2 ∧ 0 ≤ z ∧ z ≤ 36))) := by
  refine Ct_of (lv := [(0, .ref (E.1 (71))), (1, .int (iI (m))), (2, .int (iI (pl))), (3, .int (iI (v)))]) (by decide) ⟨rfl, rfl⟩ (Nat.le_of_ble_eq_true rfl) rfl (fun x _ B R => ?_)
  refine x_iconst B dX8_rightOf_0 ?_
  refine x_istore B dX8_rightOf_1 [1, 2, 3, 4, 0] (by decide) (lv' := [(0, .ref (E.1 (71))), (1, .int (iI (m))), (2, .int (iI (pl))), (3, .int (iI (v))), (4, .int (iI (0)))]) rfl ?_
  refine x_iload_n B dX8_rightOf_3 3 rfl rfl ?_
  refine x_istore B dX8_rightOf_4 [1, 2, 3, 4, 5, 0] (by decide) (lv' := [(0, .ref (E.1 (71))), (1, .int (iI (m))), (2, .int (iI (pl))), (3, .int (iI (v))), (4, .int (iI (0))), (5, .int (iI (v)))]) rfl ?_
  refine x_iconst B dX8_rightOf_6 ?_
  refine x_istore B dX8_rightOf_7 [1, 2, 3, 4, 5, 6, 0] (by decide) (lv' := [(0, .ref (E.1 (71))), (1, .int (iI (m))), (2, .int (iI (pl))), (3, .int (iI (v))), (4, .int (iI (0))), (5, .int (iI (v))), (6, .int (iI (0)))]) rfl ?_
  have L9 : ∀ (s : Int) (lf : Int) (k : Int), (0 ≤ k ∧ k ≤ 6 ∧ 0 ≤ lf ∧ lf < 64 ∧ Is lf (((rgK lk f v.toNat pl k.toNat).1 : Nat) : Int) ∧ Is s (rgK lk f v.toNat pl k.toNat).2 ∧ 0 ≤ s ∧ s ≤ 6 * k) → Vx x E M 9 [(0, .ref (E.1 (71))), (1, .int (iI (m))), (2, .int (iI (pl))), (3, .int (iI (v))), (4, .int (iI (s))), (5, .int (iI (lf))), (6, .int (iI (k)))] [] := by
    refine lo3 _ _ (fun s lf k => (6 - k).toNat) ?_
    intro s lf k hI ih9
    obtain ⟨i1, i2, i3, i4, i5, i6, i7, i8⟩ := hI
    refine x_iload B dX8_rightOf_9 6 rfl ?_
    refine x_bipush B dX8_rightOf_11 rfl ?_
    refine x_icmp_ge B (tgt := 82) dX8_rightOf_13 (by decide) ⟨by omega, by omega⟩ ⟨by omega, by omega⟩ (fun c13 => ?_) (fun c13 => ?_)
    · show Vx x E M 82 [(0, .ref (E.1 (71))), (1, .int (iI (m))), (2, .int (iI (pl))), (3, .int (iI (v))), (4, .int (iI (s))), (5, .int (iI (lf))), (6, .int (iI (k)))] []
      refine x_iload B dX8_rightOf_82 4 rfl ?_
      exact r_i B R dX8_rightOf_84 (⟨rfl, by rw [Is_e i6, show k = 6 by omega]; rfl, by omega, by omega⟩)
    · show Vx x E M 16 [(0, .ref (E.1 (71))), (1, .int (iI (m))), (2, .int (iI (pl))), (3, .int (iI (v))), (4, .int (iI (s))), (5, .int (iI (lf))), (6, .int (iI (k)))] []
      refine x_iload B dX8_rightOf_16 5 rfl ?_
      refine x_iload B dX8_rightOf_18 6 rfl ?_
      refine x_ishr B dX8_rightOf_20 (by omega) ⟨by omega, by omega⟩ (by omega) (by omega) ?_
      refine x_iconst B dX8_rightOf_21 ?_
      refine x_iand B dX8_rightOf_22 (Int.natCast_nonneg _) (by omega) ?_
      have b24 := bit_v lf.toNat k.toNat
      have hb24 : Rg ((((((lf).toNat >>> (k).toNat : Nat) : Int)).toNat &&& (1 : Int).toNat : Nat) : Int) := by rcases b24 with ⟨h5, h6⟩ | ⟨h5, h6⟩ <;> (rw [h5]; exact ⟨by omega, by omega⟩)
      have hlf : lf.toNat = (rgK lk f v.toNat pl k.toNat).1 := by rw [Is_e i5, Int.toNat_natCast]
      refine x_iconst B dX8_rightOf_23 ?_
      refine x_icmp_ne B (tgt := 76) dX8_rightOf_24 (by decide) hb24 ⟨by omega, by omega⟩ (fun c24 => ?_) (fun c24 => ?_)
      · show Vx x E M 76 [(0, .ref (E.1 (71))), (1, .int (iI (m))), (2, .int (iI (pl))), (3, .int (iI (v))), (4, .int (iI (s))), (5, .int (iI (lf))), (6, .int (iI (k)))] []
        first
        | have hnb : ¬ (rgK lk f v.toNat pl k.toNat).1.testBit k.toNat = true := by
            rw [← hlf]
            rcases b24 with ⟨h5, h6⟩ | ⟨h5, h6⟩
            · exact absurd h5 c24
            · rw [h6]
              decide
        | skip
        refine x_iinc B (q := 6) dX8_rightOf_76 rfl [1, 2, 3, 4, 5, 6, 0] (by decide) (lv' := [(0, .ref (E.1 (71))), (1, .int (iI (m))), (2, .int (iI (pl))), (3, .int (iI (v))), (4, .int (iI (s))), (5, .int (iI (lf))), (6, .int (iI (k + 1)))]) rfl ?_
        refine x_goto B (tgt := 9) dX8_rightOf_79 (by decide) ?_
        exact ih9 s lf (k + 1) (⟨by omega, by omega, by omega, by omega, by rw [rgK_f i1 hnb]; exact i5, by rw [rgK_f i1 hnb]; exact i6, by omega, by omega⟩) (by omega)
      · show Vx x E M 27 [(0, .ref (E.1 (71))), (1, .int (iI (m))), (2, .int (iI (pl))), (3, .int (iI (v))), (4, .int (iI (s))), (5, .int (iI (lf))), (6, .int (iI (k)))] []
        have hyb : (rgK lk f v.toNat pl k.toNat).1.testBit k.toNat = true := by
          rw [← hlf]
          rcases b24 with ⟨h5, h6⟩ | ⟨h5, h6⟩
          · exact h6
          · rw [h5] at c24
            exact absurd c24 (by decide)
        refine x_iload B dX8_rightOf_27 5 rfl ?_
        refine x_aload_n B dX8_rightOf_29 0 rfl rfl ?_
        refine x_getR B (ci := 8) (k := 29) dX8_rightOf_30 rfl rfl rfl (by decide) inGX8 kw_834 ?_
        refine x_bipush B dX8_rightOf_33 rfl ?_
        refine x_iload_n B dX8_rightOf_35 2 rfl rfl ?_
        refine x_imul B dX8_rightOf_36 ?_
        refine x_iload B dX8_rightOf_37 6 rfl ?_
        refine x_iadd B dX8_rightOf_39 ?_
        refine x_iald B (lo := 0) (hi := 63) dX8_rightOf_40 rfl (by omega) (by omega) rfl (fun z40 ez40 lz40 uz40 => ?_)
        have e40 : z40 = ((lk k pl : Nat) : Int) := by
          rw [Is_e ez40]
          exact g7 k i1 (by omega)
        have ha64 := and64 (a := lf.toNat) (b := z40.toNat) (by omega)
        refine x_iand B dX8_rightOf_41 (by omega) (by omega) ?_
        refine x_istore B dX8_rightOf_42 [1, 2, 3, 4, 5, 6, 7, 0] (by decide) (lv' := [(0, .ref (E.1 (71))), (1, .int (iI (m))), (2, .int (iI (pl))), (3, .int (iI (v))), (4, .int (iI (s))), (5, .int (iI (lf))), (6, .int (iI (k))), (7, .int (iI ((((lf).toNat &&& (z40).toNat : Nat) : Int))))]) rfl ?_
        refine x_iload B dX8_rightOf_44 4 rfl ?_
        refine x_aload_n B dX8_rightOf_46 0 rfl rfl ?_
        refine x_getR B (ci := 8) (k := 32) dX8_rightOf_47 rfl rfl rfl (by decide) inGX8 kw_837 ?_
        refine x_sipush B dX8_rightOf_50 rfl ?_
        refine x_iload_n B dX8_rightOf_53 1 rfl rfl ?_
        refine x_imul B dX8_rightOf_54 ?_
        refine x_bipush B dX8_rightOf_55 rfl ?_
        refine x_iload_n B dX8_rightOf_57 2 rfl rfl ?_
        refine x_imul B dX8_rightOf_58 ?_
        refine x_iadd B dX8_rightOf_59 ?_
        refine x_iload B dX8_rightOf_60 7 rfl ?_
        refine x_iadd B dX8_rightOf_62 ?_
        refine x_iald B (lo := 0) (hi := 6) dX8_rightOf_63 rfl (by omega) (by omega) rfl (fun z63 ez63 lz63 uz63 => ?_)
        have e63 : z63 = f ((((lf).toNat &&& (z40).toNat : Nat) : Int)).toNat := by
          rw [Is_e ez63]
          exact g8 _ (Int.natCast_nonneg _) (by omega)
        refine x_iadd B dX8_rightOf_64 ?_
        refine x_istore B dX8_rightOf_65 [1, 2, 3, 4, 0, 5, 6, 7] (by decide) (lv' := [(0, .ref (E.1 (71))), (1, .int (iI (m))), (2, .int (iI (pl))), (3, .int (iI (v))), (4, .int (iI (s + z63))), (5, .int (iI (lf))), (6, .int (iI (k))), (7, .int (iI ((((lf).toNat &&& (z40).toNat : Nat) : Int))))]) rfl ?_
        refine x_iload B dX8_rightOf_67 5 rfl ?_
        refine x_iload B dX8_rightOf_69 7 rfl ?_
        refine x_iconst B dX8_rightOf_71 ?_
        refine x_inot B dX8_rightOf_72 ?_
        refine x_iandn B dX8_rightOf_73 (by omega) (Int.natCast_nonneg _) ?_
        refine x_istore B dX8_rightOf_74 [1, 2, 3, 4, 5, 0, 6, 7] (by decide) (lv' := [(0, .ref (E.1 (71))), (1, .int (iI (m))), (2, .int (iI (pl))), (3, .int (iI (v))), (4, .int (iI (s + z63))), (5, .int (iI (((ndf (lf).toNat ((((lf).toNat &&& (z40).toNat : Nat) : Int)).toNat : Nat) : Int)))), (6, .int (iI (k))), (7, .int (iI ((((lf).toNat &&& (z40).toNat : Nat) : Int))))]) rfl ?_
        first
        | have hnb : ¬ (rgK lk f v.toNat pl k.toNat).1.testBit k.toNat = true := by
            rw [← hlf]
            rcases b24 with ⟨h5, h6⟩ | ⟨h5, h6⟩
            · exact absurd h5 c24
            · rw [h6]
              decide
        | skip
        refine x_iinc B (q := 6) dX8_rightOf_76 rfl [1, 2, 3, 4, 5, 6, 0, 7] (by decide) (lv' := [(0, .ref (E.1 (71))), (1, .int (iI (m))), (2, .int (iI (pl))), (3, .int (iI (v))), (4, .int (iI (s + z63))), (5, .int (iI (((ndf (lf).toNat ((((lf).toNat &&& (z40).toNat : Nat) : Int)).toNat : Nat) : Int)))), (6, .int (iI (k + 1))), (7, .int (iI ((((lf).toNat &&& (z40).toNat : Nat) : Int))))]) rfl ?_
        refine x_goto B (tgt := 9) dX8_rightOf_79 (by decide) ?_
        refine x_lv [0, 1, 2, 3, 4, 5, 6] (lv' := [(0, .ref (E.1 (71))), (1, .int (iI (m))), (2, .int (iI (pl))), (3, .int (iI (v))), (4, .int (iI (s + z63))), (5, .int (iI (((ndf (lf).toNat ((((lf).toNat &&& (z40).toNat : Nat) : Int)).toNat : Nat) : Int)))), (6, .int (iI (k + 1)))]) rfl ?_
        exact ih9 (s + z63) ((ndf (lf).toNat ((((lf).toNat &&& (z40).toNat : Nat) : Int)).toNat : Nat) : Int) (k + 1) (⟨by omega, by omega, Int.natCast_nonneg _, by have := ndf_le (a := lf.toNat) (b := ((((lf).toNat &&& (z40).toNat : Nat) : Int)).toNat) (by omega); omega, by show _ = _; rw [rgK_t i1 hyb, e40, Int.toNat_natCast, Int.toNat_natCast, hlf], by show _ = _; rw [rgK_t i1 hyb, e63, Is_e i6, e40, Int.toNat_natCast, Int.toNat_natCast, hlf], by omega, by omega⟩) (by omega)
  exact L9 0 v 0 (⟨by omega, by omega, by omega, by omega, by show v = ((v.toNat : Nat) : Int); omega, rfl, by omega, by omega⟩)
abbrev rm_X8_layRights : Room := { frames := 6, cells := 0, slots := 0, locals := 150 }
theorem cs_X8_layRights : Cv yX8_layRights cX8_layRights 8 none 1 := ⟨kw_1127, ⟨kw_1126, kw_48⟩, kw_67, by decide, by decide, by decide +kernel⟩
set_option maxHeartbeats 4000000 in
set_option maxRecDepth 100000 in
theorem c_X8_layRights (l : Launch) (E : Ev) (M : Mem) (ms : Int) (g1 : 0 ≤ ms) (g2 : ms ≤ 3) : Ct l yX8_layRights cX8_layRights 8 none rm_X8_layRights E M [.ref (E.1 (71)), .int (iI (ms))] (pV (fun M' => ofS [81, 82, 83, 84, 86, 87, 89] M M' ∧ twP M M' 156 ∧ rdP M M' (1664 * (ms + 1)))) := by
  refine Ct_of (lv := [(0, .ref (E.1 (71))), (1, .int (iI (ms)))]) (by decide) ⟨rfl, rfl⟩ (Nat.le_of_ble_eq_true rfl) rfl (fun x _ B R => ?_)
  refine x_aload_n B dX8_layRights_0 0 rfl rfl ?_
  refine x_callV B (st := []) (av := []) dX8_layRights_1 cs_X8_layTwins kw_1128 ⟨rfl, rfl, Nat.le_of_ble_eq_true rfl, Nat.le_of_ble_eq_true rfl⟩ rfl rfl (Nat.le_of_ble_eq_true rfl) (rc_obj B (ci := 8) rfl rfl rfl) (c_X8_layTwins _ E _ ) (k_v (fun M1 hz1 => ?_))
  refine x_iconst B dX8_layRights_4 ?_
  refine x_istore_n B dX8_layRights_5 [1, 2, 0] rfl (by decide) (lv' := [(0, .ref (E.1 (71))), (1, .int (iI (ms))), (2, .int (iI (0)))]) rfl ?_
  have L6 : ∀ (m : Int) (N2 : Mem), (0 ≤ m ∧ m ≤ ms + 1 ∧ ofS [81, 82, 83, 84, 86, 87, 89] M N2 ∧ twP M N2 156 ∧ rdP M N2 (1664 * m)) → Vx x E N2 6 [(0, .ref (E.1 (71))), (1, .int (iI (ms))), (2, .int (iI (m)))] [] := by
    refine lo2 _ _ (fun m N2 => (4 - m).toNat) ?_
    intro m N2 hI ih6
    obtain ⟨i1, i2, i3, i4, i5⟩ := hI
    refine x_iload_n B dX8_layRights_6 2 rfl rfl ?_
    refine x_iload_n B dX8_layRights_7 1 rfl rfl ?_
    refine x_icmp_gt B (tgt := 136) dX8_layRights_8 (by decide) ⟨by omega, by omega⟩ ⟨by omega, by omega⟩ (fun c8 => ?_) (fun c8 => ?_)
    · show Vx x E N2 136 [(0, .ref (E.1 (71))), (1, .int (iI (ms))), (2, .int (iI (m)))] []
      exact r_v B R dX8_layRights_136 (⟨i3, i4, by rw [show 1664 * (ms + 1) = 1664 * m by omega]; exact i5⟩)
    · show Vx x E N2 11 [(0, .ref (E.1 (71))), (1, .int (iI (ms))), (2, .int (iI (m)))] []
      refine x_iconst B dX8_layRights_11 ?_
      refine x_istore_n B dX8_layRights_12 [1, 2, 3, 0] rfl (by decide) (lv' := [(0, .ref (E.1 (71))), (1, .int (iI (ms))), (2, .int (iI (m))), (3, .int (iI (0)))]) rfl ?_
      have L13 : ∀ (t : Int) (N3 : Mem), (0 ≤ t ∧ t ≤ 26 ∧ ofS [81, 82, 83, 84, 86, 87, 89] M N3 ∧ twP M N3 156 ∧ rdP M N3 (1664 * m + 64 * t)) → Vx x E N3 13 [(0, .ref (E.1 (71))), (1, .int (iI (ms))), (2, .int (iI (m))), (3, .int (iI (t)))] [] := by
        refine lo2 _ _ (fun t N3 => (26 - t).toNat) ?_
        intro t N3 hI ih13
        obtain ⟨n1, n2, n3, n4, n5⟩ := hI
        refine x_iload_n B dX8_layRights_13 3 rfl rfl ?_
        refine x_bipush B dX8_layRights_14 rfl ?_
        refine x_icmp_ge B (tgt := 130) dX8_layRights_16 (by decide) ⟨by omega, by omega⟩ ⟨by omega, by omega⟩ (fun c16 => ?_) (fun c16 => ?_)
        · show Vx x E N3 130 [(0, .ref (E.1 (71))), (1, .int (iI (ms))), (2, .int (iI (m))), (3, .int (iI (t)))] []
          refine x_iinc B (q := 2) dX8_layRights_130 rfl [1, 2, 0, 3] (by decide) (lv' := [(0, .ref (E.1 (71))), (1, .int (iI (ms))), (2, .int (iI (m + 1))), (3, .int (iI (t)))]) rfl ?_
          refine x_goto B (tgt := 6) dX8_layRights_133 (by decide) ?_
          refine x_lv [0, 1, 2] (lv' := [(0, .ref (E.1 (71))), (1, .int (iI (ms))), (2, .int (iI (m + 1)))]) rfl ?_
          exact ih6 (m + 1) N3 (⟨by omega, by omega, n3, n4, by rw [show 1664 * (m + 1) = 1664 * m + 64 * t by omega]; exact n5⟩) (by omega)
        · show Vx x E N3 19 [(0, .ref (E.1 (71))), (1, .int (iI (ms))), (2, .int (iI (m))), (3, .int (iI (t)))] []
          refine x_iconst B dX8_layRights_19 ?_
          refine x_istore B dX8_layRights_20 [1, 2, 3, 4, 0] (by decide) (lv' := [(0, .ref (E.1 (71))), (1, .int (iI (ms))), (2, .int (iI (m))), (3, .int (iI (t))), (4, .int (iI (0)))]) rfl ?_
          have L22 : ∀ (v : Int) (N4 : Mem), (0 ≤ v ∧ v ≤ 64 ∧ ofS [81, 82, 83, 84, 86, 87, 89] M N4 ∧ twP M N4 156 ∧ rdP M N4 (1664 * m + 64 * t + v)) → Vx x E N4 22 [(0, .ref (E.1 (71))), (1, .int (iI (ms))), (2, .int (iI (m))), (3, .int (iI (t))), (4, .int (iI (v)))] [] := by
            refine lo2 _ _ (fun v N4 => (64 - v).toNat) ?_
            intro v N4 hI ih22
            obtain ⟨u1, u2, u3, u4, u5⟩ := hI
            refine x_iload B dX8_layRights_22 4 rfl ?_
            refine x_bipush B dX8_layRights_24 rfl ?_
            refine x_icmp_ge B (tgt := 124) dX8_layRights_26 (by decide) ⟨by omega, by omega⟩ ⟨by omega, by omega⟩ (fun c26 => ?_) (fun c26 => ?_)
            · show Vx x E N4 124 [(0, .ref (E.1 (71))), (1, .int (iI (ms))), (2, .int (iI (m))), (3, .int (iI (t))), (4, .int (iI (v)))] []
              refine x_iinc B (q := 3) dX8_layRights_124 rfl [1, 2, 3, 0, 4] (by decide) (lv' := [(0, .ref (E.1 (71))), (1, .int (iI (ms))), (2, .int (iI (m))), (3, .int (iI (t + 1))), (4, .int (iI (v)))]) rfl ?_
              refine x_goto B (tgt := 13) dX8_layRights_127 (by decide) ?_
              refine x_lv [0, 1, 2, 3] (lv' := [(0, .ref (E.1 (71))), (1, .int (iI (ms))), (2, .int (iI (m))), (3, .int (iI (t + 1)))]) rfl ?_
              exact ih13 (t + 1) N4 (⟨by omega, by omega, u3, u4, by rw [show 1664 * m + 64 * (t + 1) = 1664 * m + 64 * t + v by omega]; exact u5⟩) (by omega)
            · show Vx x E N4 29 [(0, .ref (E.1 (71))), (1, .int (iI (ms))), (2, .int (iI (m))), (3, .int (iI (t))), (4, .int (iI (v)))] []
              refine x_iload B dX8_layRights_29 4 rfl ?_
              have J43 : ∀ (b0 : Int), (0 ≤ b0 ∧ b0 ≤ 1 ∧ (m = 0 ∧ b0 = (if 0 < v then 1 else 0) ∨ 0 < m ∧ Is b0 (mxK (fun q => rgR (lkN M) (m - 1).toNat v.toNat (mvT t q)) (0 : Int).toNat))) → Vx x E N4 43 [(0, .ref (E.1 (71))), (1, .int (iI (ms))), (2, .int (iI (m))), (3, .int (iI (t))), (4, .int (iI (v)))] [.int (iI (b0))] := by
                intro b0 hJ
                obtain hJ := hJ
                refine x_istore B dX8_layRights_43 [1, 2, 3, 4, 5, 0] (by decide) (lv' := [(0, .ref (E.1 (71))), (1, .int (iI (ms))), (2, .int (iI (m))), (3, .int (iI (t))), (4, .int (iI (v))), (5, .int (iI (b0)))]) rfl ?_
                refine x_iconst B dX8_layRights_45 ?_
                refine x_istore B dX8_layRights_46 [1, 2, 3, 4, 5, 6, 0] (by decide) (lv' := [(0, .ref (E.1 (71))), (1, .int (iI (ms))), (2, .int (iI (m))), (3, .int (iI (t))), (4, .int (iI (v))), (5, .int (iI (b0))), (6, .int (iI (0)))]) rfl ?_
                have L48 : ∀ (b : Int) (q : Int), (0 ≤ q ∧ q ≤ 6 ∧ 0 ≤ b ∧ b ≤ 6 ∧ (m = 0 ∧ b = (if 0 < v then 1 else 0) ∨ 0 < m ∧ Is b (mxK (fun q => rgR (lkN M) (m - 1).toNat v.toNat (mvT t q)) q.toNat))) → Vx x E N4 48 [(0, .ref (E.1 (71))), (1, .int (iI (ms))), (2, .int (iI (m))), (3, .int (iI (t))), (4, .int (iI (v))), (5, .int (iI (b))), (6, .int (iI (q)))] [] := by
                  refine lo2 _ _ (fun b q => (6 - q).toNat) ?_
                  intro b q hI ih48
                  obtain ⟨s1, s2, s3, s4, s5⟩ := hI
                  refine x_iload B dX8_layRights_48 6 rfl ?_
                  refine x_bipush B dX8_layRights_50 rfl ?_
                  refine x_icmp_ge B (tgt := 98) dX8_layRights_52 (by decide) ⟨by omega, by omega⟩ ⟨by omega, by omega⟩ (fun c52 => ?_) (fun c52 => ?_)
                  · show Vx x E N4 98 [(0, .ref (E.1 (71))), (1, .int (iI (ms))), (2, .int (iI (m))), (3, .int (iI (t))), (4, .int (iI (v))), (5, .int (iI (b))), (6, .int (iI (q)))] []
                    have hb : b = rgF (lkN M) m.toNat v.toNat t := by
                      rcases s5 with ⟨h1, h2⟩ | ⟨h1, h2⟩
                      · rw [h1, h2]
                        show _ = if 0 < v.toNat then (1 : Int) else 0
                        by_cases c : 0 < v
                        · rw [if_pos c, if_pos (by omega)]
                        · rw [if_neg c, if_neg (by omega)]
                      · rw [show m.toNat = (m - 1).toNat + 1 by omega, Is_e h2, show q.toNat = 6 by omega]
                        rfl
                    refine x_aload_n B dX8_layRights_98 0 rfl rfl ?_
                    refine x_getR B (ci := 8) (k := 32) dX8_layRights_99 rfl rfl rfl (by decide) inGX8 kw_837 ?_
                    refine x_sipush B dX8_layRights_102 rfl ?_
                    refine x_iload_n B dX8_layRights_105 2 rfl rfl ?_
                    refine x_imul B dX8_layRights_106 ?_
                    refine x_bipush B dX8_layRights_107 rfl ?_
                    refine x_iload_n B dX8_layRights_109 3 rfl rfl ?_
                    refine x_imul B dX8_layRights_110 ?_
                    refine x_iadd B dX8_layRights_111 ?_
                    refine x_iload B dX8_layRights_112 4 rfl ?_
                    refine x_iadd B dX8_layRights_114 ?_
                    refine x_iload B dX8_layRights_115 5 rfl ?_
                    refine x_iast B (lo := 0) (hi := 6) dX8_layRights_117 rfl (by omega) (by omega) rfl (by omega) (by omega) ?_
                    refine x_iinc B (q := 4) dX8_layRights_118 rfl [1, 2, 3, 4, 0, 5, 6] (by decide) (lv' := [(0, .ref (E.1 (71))), (1, .int (iI (ms))), (2, .int (iI (m))), (3, .int (iI (t))), (4, .int (iI (v + 1))), (5, .int (iI (b))), (6, .int (iI (q)))]) rfl ?_
                    refine x_goto B (tgt := 22) dX8_layRights_121 (by decide) ?_
                    refine x_lv [0, 1, 2, 3, 4] (lv' := [(0, .ref (E.1 (71))), (1, .int (iI (ms))), (2, .int (iI (m))), (3, .int (iI (t))), (4, .int (iI (v + 1)))]) rfl ?_
                    exact ih22 (v + 1) (sto N4 89 (((1664 * m) + (64 * t)) + v).toNat b) (⟨by omega, by omega, ofS_sto u3 (by decide), twP_f u4 (sto_f _ _ _ _ (by decide)), rdP_s u5 i1 n1 (by omega) u1 (by omega) hb⟩) (by omega)
                  · show Vx x E N4 55 [(0, .ref (E.1 (71))), (1, .int (iI (ms))), (2, .int (iI (m))), (3, .int (iI (t))), (4, .int (iI (v))), (5, .int (iI (b))), (6, .int (iI (q)))] []
                    refine x_iload_n B dX8_layRights_55 2 rfl rfl ?_
                    refine x_if_le B (tgt := 98) dX8_layRights_56 (by decide) ⟨by omega, by omega⟩ (fun c56 => ?_) (fun c56 => ?_)
                    · show Vx x E N4 98 [(0, .ref (E.1 (71))), (1, .int (iI (ms))), (2, .int (iI (m))), (3, .int (iI (t))), (4, .int (iI (v))), (5, .int (iI (b))), (6, .int (iI (q)))] []
                      have hb : b = rgF (lkN M) m.toNat v.toNat t := by
                        rcases s5 with ⟨h1, h2⟩ | ⟨h1, h2⟩
                        · rw [h1, h2]
                          show _ = if 0 < v.toNat then (1 : Int) else 0
                          by_cases c : 0 < v
                          · rw [if_pos c, if_pos (by omega)]
                          · rw [if_neg c, if_neg (by omega)]
                        · rw [show m.toNat = (m - 1).toNat + 1 by omega, Is_e h2, show q.toNat = 6 by omega]
                          rfl
                      refine x_aload_n B dX8_layRights_98 0 rfl rfl ?_
                      refine x_getR B (ci := 8) (k := 32) dX8_layRights_99 rfl rfl rfl (by decide) inGX8 kw_837 ?_
                      refine x_sipush B dX8_layRights_102 rfl ?_
                      refine x_iload_n B dX8_layRights_105 2 rfl rfl ?_
                      refine x_imul B dX8_layRights_106 ?_
                      refine x_bipush B dX8_layRights_107 rfl ?_
                      refine x_iload_n B dX8_layRights_109 3 rfl rfl ?_
                      refine x_imul B dX8_layRights_110 ?_
                      refine x_iadd B dX8_layRights_111 ?_
                      refine x_iload B dX8_layRights_112 4 rfl ?_
                      refine x_iadd B dX8_layRights_114 ?_
                      refine x_iload B dX8_layRights_115 5 rfl ?_
                      refine x_iast B (lo := 0) (hi := 6) dX8_layRights_117 rfl (by omega) (by omega) rfl (by omega) (by omega) ?_
                      refine x_iinc B (q := 4) dX8_layRights_118 rfl [1, 2, 3, 4, 0, 5, 6] (by decide) (lv' := [(0, .ref (E.1 (71))), (1, .int (iI (ms))), (2, .int (iI (m))), (3, .int (iI (t))), (4, .int (iI (v + 1))), (5, .int (iI (b))), (6, .int (iI (q)))]) rfl ?_
                      refine x_goto B (tgt := 22) dX8_layRights_121 (by decide) ?_
                      refine x_lv [0, 1, 2, 3, 4] (lv' := [(0, .ref (E.1 (71))), (1, .int (iI (ms))), (2, .int (iI (m))), (3, .int (iI (t))), (4, .int (iI (v + 1)))]) rfl ?_
                      exact ih22 (v + 1) (sto N4 89 (((1664 * m) + (64 * t)) + v).toNat b) (⟨by omega, by omega, ofS_sto u3 (by decide), twP_f u4 (sto_f _ _ _ _ (by decide)), rdP_s u5 i1 n1 (by omega) u1 (by omega) hb⟩) (by omega)
                    · show Vx x E N4 59 [(0, .ref (E.1 (71))), (1, .int (iI (ms))), (2, .int (iI (m))), (3, .int (iI (t))), (4, .int (iI (v))), (5, .int (iI (b))), (6, .int (iI (q)))] []
                      refine x_aload_n B dX8_layRights_59 0 rfl rfl ?_
                      refine x_iload_n B dX8_layRights_60 2 rfl rfl ?_
                      refine x_iconst B dX8_layRights_61 ?_
                      refine x_isub B dX8_layRights_62 ?_
                      refine x_iload_n B dX8_layRights_63 3 rfl rfl ?_
                      refine x_iload B dX8_layRights_64 6 rfl ?_
                      refine x_callS B (st := [.int (iI (m - 1)), .ref (E.1 (71))]) (av := [.int (iI (t)), .int (iI (q))]) dX8_layRights_66 cs_X8_ledTo kw_1030 ⟨rfl, rfl, Nat.le_of_ble_eq_true rfl, Nat.le_of_ble_eq_true rfl⟩ rfl rfl (Nat.le_of_ble_eq_true rfl) (c_X8_ledTo _ E _ t q (by omega) (by omega) (by omega) (by omega)) (k_i (fun z66 Mq hz66 => ?_))
                      obtain ⟨rfl, hz66⟩ := hz66
                      have mv66 := mvT_in (p := t) (m := q) (by omega) (by omega)
                      refine x_iload B dX8_layRights_69 4 rfl ?_
                      refine x_callV B (st := []) (av := [.int (iI (m - 1)), .int (iI (z66)), .int (iI (v))]) dX8_layRights_71 cs_X8_rightOf kw_1132 ⟨rfl, rfl, Nat.le_of_ble_eq_true rfl, Nat.le_of_ble_eq_true rfl⟩ rfl rfl (Nat.le_of_ble_eq_true rfl) (rc_obj B (ci := 8) rfl rfl rfl) (c_X8_rightOf _ E _ (m - 1) z66 v (lkN M) (fun h => rgF (lkN M) (m - 1).toNat h z66) (by omega) (by omega) (by omega) (by omega) (by omega) (by omega) (tw_A u4 (by omega) (by omega)) (rd_A u5 (by omega) (by omega) (by omega) (by omega) (by omega))) (k_i (fun z71 Mq hz71 => ?_))
                      obtain ⟨rfl, hz71⟩ := hz71
                      have s6 := (s5.resolve_left (fun h => by omega)).2
                      have hz71b : z71 = rgR (lkN M) (m - 1).toNat v.toNat (mvT t q) := by
                        rw [hz71.1, ← hz66]
                        rfl
                      have hz6 := rgR_in (lk := lkN M) (m := (m - 1).toNat) (set := v.toNat) (pl := mvT t q) (by omega)
                      rw [← hz71b] at hz6
                      refine x_istore B dX8_layRights_74 [1, 2, 3, 4, 5, 6, 7, 0] (by decide) (lv' := [(0, .ref (E.1 (71))), (1, .int (iI (ms))), (2, .int (iI (m))), (3, .int (iI (t))), (4, .int (iI (v))), (5, .int (iI (b))), (6, .int (iI (q))), (7, .int (iI (z71)))]) rfl ?_
                      refine x_iload B dX8_layRights_76 7 rfl ?_
                      refine x_iload B dX8_layRights_78 5 rfl ?_
                      have J90 : ∀ (b2 : Int), (b2 = max b z71 ∧ 0 ≤ b2 ∧ b2 ≤ 6) → Vx x E N4 90 [(0, .ref (E.1 (71))), (1, .int (iI (ms))), (2, .int (iI (m))), (3, .int (iI (t))), (4, .int (iI (v))), (5, .int (iI (b))), (6, .int (iI (q))), (7, .int (iI (z71)))] [.int (iI (b2))] := by
                        intro b2 hJ
                        obtain ⟨b1, b3, b4⟩ := hJ
                        refine x_istore B dX8_layRights_90 [1, 2, 3, 4, 5, 0, 6, 7] (by decide) (lv' := [(0, .ref (E.1 (71))), (1, .int (iI (ms))), (2, .int (iI (m))), (3, .int (iI (t))), (4, .int (iI (v))), (5, .int (iI (b2))), (6, .int (iI (q))), (7, .int (iI (z71)))]) rfl ?_
                        refine x_iinc B (q := 6) dX8_layRights_92 rfl [1, 2, 3, 4, 5, 6, 0, 7] (by decide) (lv' := [(0, .ref (E.1 (71))), (1, .int (iI (ms))), (2, .int (iI (m))), (3, .int (iI (t))), (4, .int (iI (v))), (5, .int (iI (b2))), (6, .int (iI (q + 1))), (7, .int (iI (z71)))]) rfl ?_
                        refine x_goto B (tgt := 48) dX8_layRights_95 (by decide) ?_
                        refine x_lv [0, 1, 2, 3, 4, 5, 6] (lv' := [(0, .ref (E.1 (71))), (1, .int (iI (ms))), (2, .int (iI (m))), (3, .int (iI (t))), (4, .int (iI (v))), (5, .int (iI (b2))), (6, .int (iI (q + 1)))]) rfl ?_
                        exact ih48 b2 (q + 1) (⟨by omega, by omega, by omega, by omega, Or.inr ⟨by omega, by show _ = _; rw [mxK_s s1, ← Is_e s6, ← hz71b]; omega⟩⟩) (by omega)
                      refine x_icmp_le B (tgt := 88) dX8_layRights_80 (by decide) ⟨by omega, by omega⟩ ⟨by omega, by omega⟩ (fun c80 => ?_) (fun c80 => ?_)
                      · show Vx x E N4 88 [(0, .ref (E.1 (71))), (1, .int (iI (ms))), (2, .int (iI (m))), (3, .int (iI (t))), (4, .int (iI (v))), (5, .int (iI (b))), (6, .int (iI (q))), (7, .int (iI (z71)))] []
                        refine x_iload B dX8_layRights_88 5 rfl ?_
                        exact J90 b (by omega)
                      · show Vx x E N4 83 [(0, .ref (E.1 (71))), (1, .int (iI (ms))), (2, .int (iI (m))), (3, .int (iI (t))), (4, .int (iI (v))), (5, .int (iI (b))), (6, .int (iI (q))), (7, .int (iI (z71)))] []
                        refine x_iload B dX8_layRights_83 7 rfl ?_
                        refine x_goto B (tgt := 90) dX8_layRights_85 (by decide) ?_
                        exact J90 z71 (by omega)
                exact L48 b0 0 (⟨by omega, by omega, by omega, by omega, hJ.2.2⟩)
              refine x_if_le B (tgt := 42) dX8_layRights_31 (by decide) ⟨by omega, by omega⟩ (fun c31 => ?_) (fun c31 => ?_)
              · show Vx x E N4 42 [(0, .ref (E.1 (71))), (1, .int (iI (ms))), (2, .int (iI (m))), (3, .int (iI (t))), (4, .int (iI (v)))] []
                refine x_iconst B dX8_layRights_42 ?_
                exact J43 0 (⟨by omega, by omega, by by_cases c : m = 0; (exact Or.inl ⟨c, by rw [if_neg (by omega)]⟩); (exact Or.inr ⟨by omega, rfl⟩)⟩)
              · show Vx x E N4 34 [(0, .ref (E.1 (71))), (1, .int (iI (ms))), (2, .int (iI (m))), (3, .int (iI (t))), (4, .int (iI (v)))] []
                refine x_iload_n B dX8_layRights_34 2 rfl rfl ?_
                refine x_if_ne B (tgt := 42) dX8_layRights_35 (by decide) ⟨by omega, by omega⟩ (fun c35 => ?_) (fun c35 => ?_)
                · show Vx x E N4 42 [(0, .ref (E.1 (71))), (1, .int (iI (ms))), (2, .int (iI (m))), (3, .int (iI (t))), (4, .int (iI (v)))] []
                  refine x_iconst B dX8_layRights_42 ?_
                  exact J43 0 (⟨by omega, by omega, Or.inr ⟨by omega, rfl⟩⟩)
                · show Vx x E N4 38 [(0, .ref (E.1 (71))), (1, .int (iI (ms))), (2, .int (iI (m))), (3, .int (iI (t))), (4, .int (iI (v)))] []
                  refine x_iconst B dX8_layRights_38 ?_
                  refine x_goto B (tgt := 43) dX8_layRights_39 (by decide) ?_
                  exact J43 1 (⟨by omega, by omega, Or.inl ⟨c35, by rw [if_pos (by omega)]⟩⟩)
          exact L22 0 N3 (⟨by omega, by omega, n3, n4, by rw [Int.add_zero]; exact n5⟩)
      exact L13 0 N2 (⟨by omega, by omega, i3, i4, by rw [show 1664 * m + 64 * 0 = 1664 * m by omega]; exact i5⟩)
  exact L6 0 M1 (⟨by omega, by omega, ofS_w hz1.1 (by decide), hz1.2, fun _ _ _ _ _ _ _ _ _ h => by omega⟩)
