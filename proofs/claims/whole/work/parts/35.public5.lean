theorem be_t {z : Int} {x y x' y' : Nat → Int} (h : z = 1 ∧ eqF x y ∨ z = 0 ∧ ¬ eqF x y) (hx : eqF x x') (hy : eqF y y') : z = if eqB x' y' = true then 1 else 0 := by
  rcases h with ⟨h5, h6⟩ | ⟨h5, h6⟩
  · rw [if_pos (eqB_iff.mpr (eqF_tr (eqF_sy hx) (eqF_tr h6 hy)))]
    exact h5
  · rw [if_neg (fun c => h6 (eqF_tr hx (eqF_tr (eqB_iff.mp c) (eqF_sy hy))))]
    exact h5
theorem be_e {z m : Int} {x y x' y' : Nat → Int} (h : z = 1 ∧ soE x y m ∨ z = 0 ∧ ¬ soE x y m) (hx : eqF x x') (hy : eqF y y') : z = if soB x' y' m = true then 1 else 0 := by
  rw [soE_cg hx hy] at h
  rcases h with ⟨h5, h6⟩ | ⟨h5, h6⟩
  · rw [if_pos (soB_iff.mpr h6)]
    exact h5
  · rw [if_neg (fun c => h6 (soB_iff.mp c))]
    exact h5
theorem beI_s {fe sh : Int → Nat → Int} {m w a b : Int} (h : a + 1 ≤ b) : beI fe sh m w a (b + 1 - a - 1).toNat = beI fe sh m w a (b - a - 1).toNat + beB fe sh m w a b := by
  rw [show (b + 1 - a - 1).toNat = (b - a - 1).toNat + 1 by omega]
  show beI fe sh m w a (b - a - 1).toNat + beB fe sh m w a (a + 1 + ((b - a - 1).toNat : Int)) = _
  rw [show a + 1 + ((b - a - 1).toNat : Int) = b by omega]
theorem beO_s {fe sh : Int → Nat → Int} {m w a b : Int} (h0 : 0 ≤ a) (hb : b = 6) : beO fe sh m w (a + 1).toNat = beO fe sh m w a.toNat + beI fe sh m w a (b - a - 1).toNat := by
  rw [show (a + 1).toNat = a.toNat + 1 by omega]
  show beO fe sh m w a.toNat + beI fe sh m w ((a.toNat : Nat) : Int) (5 - a.toNat) = _
  rw [show 5 - a.toNat = (b - a - 1).toNat by omega, Int.toNat_of_nonneg h0]
theorem beW0 {fe sh : Int → Nat → Int} {m w a b js : Int} (h : js = (if w = 1 then 1 else if eqB (fe a) (fe b) = true then 1 else 0)) (c : js = 0) : Is js (beB fe sh m w a b) := by
  show js = beB fe sh m w a b
  by_cases w1 : w = 1
  · rw [if_pos w1] at h
    omega
  rw [if_neg w1] at h
  by_cases t : eqB (fe a) (fe b) = true
  · rw [if_pos t] at h
    omega
  have t2 : eqB (fe a) (fe b) = false := by cases hb : eqB (fe a) (fe b) with
    | true => exact absurd hb t
    | false => rfl
  unfold beB pwB
  rw [t2, if_neg w1, Bool.false_and, ite_self, if_neg (by decide)]
  exact c
theorem beT {fe : Int → Nat → Int} {w a b js : Int} (h : js = (if w = 1 then 1 else if eqB (fe a) (fe b) = true then 1 else 0)) (c : ¬ js = 0) : w = 1 ∨ eqB (fe a) (fe b) = true := by
  by_cases w1 : w = 1
  · exact Or.inl w1
  rw [if_neg w1] at h
  by_cases t : eqB (fe a) (fe b) = true
  · exact Or.inr t
  rw [if_neg t] at h
  omega
theorem beW1 {fe sh : Int → Nat → Int} {m w a b js : Int} (h : js = (if w = 1 then 1 else if eqB (fe a) (fe b) = true then 1 else 0)) (c : ¬ js = 0) (hw : w = 0) : Is js (beB fe sh m w a b) := by
  show js = beB fe sh m w a b
  rcases beT h c with h1 | h1
  · omega
  rw [if_neg (by omega), if_pos h1] at h
  unfold beB pwB
  rw [if_pos hw, if_pos h1]
  exact h
theorem beW2 {fe sh : Int → Nat → Int} {m w a b js z : Int} (w0 : 0 ≤ w) (w3 : w < 3) (h : js = (if w = 1 then 1 else if eqB (fe a) (fe b) = true then 1 else 0)) (c : ¬ js = 0) (hw : ¬ w = 0) (hz : z = if soB (sh a) (sh b) m = true then 1 else 0) : Is z (beB fe sh m w a b) := by
  show z = beB fe sh m w a b
  unfold beB pwB
  rw [if_neg hw, hz]
  rcases beT h c with h1 | h1
  · rw [if_pos h1]
  · by_cases w1 : w = 1
    · rw [if_pos w1]
    · rw [if_neg w1, h1, Bool.true_and]
theorem beB_in {fe sh : Int → Nat → Int} {m w a b : Int} : 0 ≤ beB fe sh m w a b ∧ beB fe sh m w a b ≤ 1 := by
  unfold beB
  split <;> omega
abbrev rm_X7_beside : Room := { frames := 5, cells := 0, slots := 0, locals := 116 }
theorem cs_X7_beside : Cv yX7_beside cX7_beside 6 (some .int) 1 := ⟨kw_737, ⟨kw_735, kw_736⟩, kw_57, by decide, by decide, by decide +kernel⟩
set_option maxHeartbeats 4000000 in
set_option maxRecDepth 100000 in
theorem c_X7_beside (l : Launch) (E : Ev) (M : Mem) (w : Int) (g1 : -2147483648 ≤ w) (g2 : w < 2147483648) : Ct l yX7_beside cX7_beside 6 (some .int) rm_X7_beside E M [.ref (E.1 (0)), .int (iI (w))] (pI (fun z M' => z = -1 ∧ M' = M ∧ ¬ (0 ≤ w ∧ w < 3) ∨ (0 ≤ w ∧ w < 3) ∧ z = beO (fun s => feC M s (M 0 12)) (fun s => shC M s (M 0 12)) (M 2 6) w 6 ∧ offC M M' 16 57)) := by
  refine Ct_of (lv := [(0, .ref (E.1 (0))), (1, .int (iI (w)))]) (by decide) ⟨rfl, rfl⟩ (Nat.le_of_ble_eq_true rfl) rfl (fun x _ B R => ?_)
  refine x_iload_n B dX7_beside_0 1 rfl rfl ?_
  refine x_iconst B dX7_beside_1 ?_
  refine x_callS B (st := []) (av := [.int (iI (w)), .int (iI (3))]) dX7_beside_2 cs_X7_within kw_495 ⟨rfl, rfl, Nat.le_of_ble_eq_true rfl, Nat.le_of_ble_eq_true rfl⟩ rfl rfl (Nat.le_of_ble_eq_true rfl) (c_X7_within _ E _ w 3 (by omega) (by omega) (by omega) (by omega)) (k_i (fun z2 Mq hz2 => ?_))
  obtain ⟨rfl, hz2⟩ := hz2
  refine x_if_ne B (tgt := 10) dX7_beside_5 (by decide) ⟨by omega, by omega⟩ (fun c5 => ?_) (fun c5 => ?_)
  · show Vx x E M 10 [(0, .ref (E.1 (0))), (1, .int (iI (w)))] []
    refine x_iconst B dX7_beside_10 ?_
    refine x_istore_n B dX7_beside_11 [1, 2, 0] rfl (by decide) (lv' := [(0, .ref (E.1 (0))), (1, .int (iI (w))), (2, .int (iI (0)))]) rfl ?_
    have L12 : ∀ (i : Int) (M1 : Mem), (0 ≤ i ∧ i ≤ 6 ∧ offC M M1 16 57 ∧ ∀ a : Nat, (a : Int) < i → eqF (M1 (16 + 5 * (a + 1) + 3)) (feC M (a : Int) (M 0 12)) ∧ eqF (M1 (16 + 5 * (a + 1) + 2)) (shC M (a : Int) (M 0 12))) → Vx x E M1 12 [(0, .ref (E.1 (0))), (1, .int (iI (w))), (2, .int (iI (i)))] [] := by
      refine lo2 _ _ (fun i M1 => (6 - i).toNat) ?_
      intro i M1 hI ih12
      obtain ⟨m1, m2, m3, m4⟩ := hI
      refine x_iload_n B dX7_beside_12 2 rfl rfl ?_
      refine x_bipush B dX7_beside_13 rfl ?_
      refine x_icmp_ge B (tgt := 34) dX7_beside_15 (by decide) ⟨by omega, by omega⟩ ⟨by omega, by omega⟩ (fun c15 => ?_) (fun c15 => ?_)
      · show Vx x E M1 34 [(0, .ref (E.1 (0))), (1, .int (iI (w))), (2, .int (iI (i)))] []
        refine x_iconst B dX7_beside_34 ?_
        refine x_istore_n B dX7_beside_35 [1, 2, 0] rfl (by decide) (lv' := [(0, .ref (E.1 (0))), (1, .int (iI (w))), (2, .int (iI (0)))]) rfl ?_
        refine x_iconst B dX7_beside_36 ?_
        refine x_istore_n B dX7_beside_37 [1, 2, 3, 0] rfl (by decide) (lv' := [(0, .ref (E.1 (0))), (1, .int (iI (w))), (2, .int (iI (0))), (3, .int (iI (0)))]) rfl ?_
        have L38 : ∀ (a : Int) (n : Int), (0 ≤ a ∧ a ≤ 6 ∧ 0 ≤ n ∧ n ≤ 6 * a ∧ n = beO (fun s => feC M s (M 0 12)) (fun s => shC M s (M 0 12)) (M 2 6) w a.toNat) → Vx x E M1 38 [(0, .ref (E.1 (0))), (1, .int (iI (w))), (2, .int (iI (n))), (3, .int (iI (a)))] [] := by
          refine lo2 _ _ (fun a n => (6 - a).toNat) ?_
          intro a n hI ih38
          obtain ⟨i1, i2, i3, i4, i5⟩ := hI
          refine x_iload_n B dX7_beside_38 3 rfl rfl ?_
          refine x_bipush B dX7_beside_39 rfl ?_
          refine x_icmp_ge B (tgt := 149) dX7_beside_41 (by decide) ⟨by omega, by omega⟩ ⟨by omega, by omega⟩ (fun c41 => ?_) (fun c41 => ?_)
          · show Vx x E M1 149 [(0, .ref (E.1 (0))), (1, .int (iI (w))), (2, .int (iI (n))), (3, .int (iI (a)))] []
            refine x_iload_n B dX7_beside_149 2 rfl rfl ?_
            exact r_i B R dX7_beside_150 (Or.inr ⟨by omega, by rw [i5, show a.toNat = 6 by omega], m3⟩)
          · show Vx x E M1 44 [(0, .ref (E.1 (0))), (1, .int (iI (w))), (2, .int (iI (n))), (3, .int (iI (a)))] []
            refine x_iload_n B dX7_beside_44 3 rfl rfl ?_
            refine x_iconst B dX7_beside_45 ?_
            refine x_iadd B dX7_beside_46 ?_
            refine x_istore B dX7_beside_47 [1, 2, 3, 4, 0] (by decide) (lv' := [(0, .ref (E.1 (0))), (1, .int (iI (w))), (2, .int (iI (n))), (3, .int (iI (a))), (4, .int (iI (a + 1)))]) rfl ?_
            have L49 : ∀ (b : Int) (n2 : Int), (a + 1 ≤ b ∧ b ≤ 6 ∧ 0 ≤ n2 ∧ n2 ≤ 6 * a + (b - a - 1) ∧ n2 = beO (fun s => feC M s (M 0 12)) (fun s => shC M s (M 0 12)) (M 2 6) w a.toNat + beI (fun s => feC M s (M 0 12)) (fun s => shC M s (M 0 12)) (M 2 6) w a (b - a - 1).toNat) → Vx x E M1 49 [(0, .ref (E.1 (0))), (1, .int (iI (w))), (2, .int (iI (n2))), (3, .int (iI (a))), (4, .int (iI (b)))] [] := by
              refine lo2 _ _ (fun b n2 => (6 - b).toNat) ?_
              intro b n2 hI ih49
              obtain ⟨n1, n2a, n3, n4, n5⟩ := hI
              refine x_iload B dX7_beside_49 4 rfl ?_
              refine x_bipush B dX7_beside_51 rfl ?_
              refine x_icmp_ge B (tgt := 143) dX7_beside_53 (by decide) ⟨by omega, by omega⟩ ⟨by omega, by omega⟩ (fun c53 => ?_) (fun c53 => ?_)
              · show Vx x E M1 143 [(0, .ref (E.1 (0))), (1, .int (iI (w))), (2, .int (iI (n2))), (3, .int (iI (a))), (4, .int (iI (b)))] []
                refine x_iinc B (q := 3) dX7_beside_143 rfl [1, 2, 3, 0, 4] (by decide) (lv' := [(0, .ref (E.1 (0))), (1, .int (iI (w))), (2, .int (iI (n2))), (3, .int (iI (a + 1))), (4, .int (iI (b)))]) rfl ?_
                refine x_goto B (tgt := 38) dX7_beside_146 (by decide) ?_
                refine x_lv [0, 1, 2, 3] (lv' := [(0, .ref (E.1 (0))), (1, .int (iI (w))), (2, .int (iI (n2))), (3, .int (iI (a + 1)))]) rfl ?_
                exact ih38 (a + 1) n2 (⟨by omega, by omega, by omega, by omega, by rw [n5, beO_s (b := b) i1 (by omega)]⟩) (by omega)
              · show Vx x E M1 56 [(0, .ref (E.1 (0))), (1, .int (iI (w))), (2, .int (iI (n2))), (3, .int (iI (a))), (4, .int (iI (b)))] []
                refine x_iload_n B dX7_beside_56 1 rfl rfl ?_
                refine x_iconst B dX7_beside_57 ?_
                have J85 : ∀ (js : Int), (js = (if w = 1 then 1 else if eqB (feC M a (M 0 12)) (feC M b (M 0 12)) = true then 1 else 0) ∧ 0 ≤ js ∧ js ≤ 1) → Vx x E M1 85 [(0, .ref (E.1 (0))), (1, .int (iI (w))), (2, .int (iI (n2))), (3, .int (iI (a))), (4, .int (iI (b)))] [.int (iI (js))] := by
                  intro js hJ
                  obtain ⟨j1, j2, j3⟩ := hJ
                  refine x_istore B dX7_beside_85 [1, 2, 3, 4, 5, 0] (by decide) (lv' := [(0, .ref (E.1 (0))), (1, .int (iI (w))), (2, .int (iI (n2))), (3, .int (iI (a))), (4, .int (iI (b))), (5, .int (iI (js)))]) rfl ?_
                  refine x_iload B dX7_beside_87 5 rfl ?_
                  have J124 : ∀ (jt : Int), (Is jt (beB (fun s => feC M s (M 0 12)) (fun s => shC M s (M 0 12)) (M 2 6) w a b) ∧ 0 ≤ jt ∧ jt ≤ 1) → Vx x E M1 124 [(0, .ref (E.1 (0))), (1, .int (iI (w))), (2, .int (iI (n2))), (3, .int (iI (a))), (4, .int (iI (b))), (5, .int (iI (jt)))] [] := by
                    intro jt hJ
                    obtain ⟨k1, k2, k3⟩ := hJ
                    refine x_iload_n B dX7_beside_124 2 rfl rfl ?_
                    refine x_iload B dX7_beside_125 5 rfl ?_
                    have J135 : ∀ (jr : Int), (jr = jt) → Vx x E M1 135 [(0, .ref (E.1 (0))), (1, .int (iI (w))), (2, .int (iI (n2))), (3, .int (iI (a))), (4, .int (iI (b))), (5, .int (iI (jt)))] [.int (iI (jr)), .int (iI (n2))] := by
                      intro jr hJ
                      obtain r1 := hJ
                      refine x_iadd B dX7_beside_135 ?_
                      refine x_istore_n B dX7_beside_136 [1, 2, 0, 3, 4, 5] rfl (by decide) (lv' := [(0, .ref (E.1 (0))), (1, .int (iI (w))), (2, .int (iI (n2 + jr))), (3, .int (iI (a))), (4, .int (iI (b))), (5, .int (iI (jt)))]) rfl ?_
                      refine x_iinc B (q := 4) dX7_beside_137 rfl [1, 2, 3, 4, 0, 5] (by decide) (lv' := [(0, .ref (E.1 (0))), (1, .int (iI (w))), (2, .int (iI (n2 + jr))), (3, .int (iI (a))), (4, .int (iI (b + 1))), (5, .int (iI (jt)))]) rfl ?_
                      refine x_goto B (tgt := 49) dX7_beside_140 (by decide) ?_
                      refine x_lv [0, 1, 2, 3, 4] (lv' := [(0, .ref (E.1 (0))), (1, .int (iI (w))), (2, .int (iI (n2 + jr))), (3, .int (iI (a))), (4, .int (iI (b + 1)))]) rfl ?_
                      exact ih49 (b + 1) (n2 + jr) (⟨by omega, by omega, by omega, by omega, by rw [beI_s (by omega), ← Int.add_assoc, ← n5, ← k1, hJ]⟩) (by omega)
                    refine x_if_eq B (tgt := 134) dX7_beside_127 (by decide) ⟨by omega, by omega⟩ (fun c127 => ?_) (fun c127 => ?_)
                    · show Vx x E M1 134 [(0, .ref (E.1 (0))), (1, .int (iI (w))), (2, .int (iI (n2))), (3, .int (iI (a))), (4, .int (iI (b))), (5, .int (iI (jt)))] [.int (iI (n2))]
                      refine x_iconst B dX7_beside_134 ?_
                      exact J135 0 (by omega)
                    · show Vx x E M1 130 [(0, .ref (E.1 (0))), (1, .int (iI (w))), (2, .int (iI (n2))), (3, .int (iI (a))), (4, .int (iI (b))), (5, .int (iI (jt)))] [.int (iI (n2))]
                      refine x_iconst B dX7_beside_130 ?_
                      refine x_goto B (tgt := 135) dX7_beside_131 (by decide) ?_
                      exact J135 1 (by omega)
                  refine x_if_eq B (tgt := 124) dX7_beside_89 (by decide) ⟨by omega, by omega⟩ (fun c89 => ?_) (fun c89 => ?_)
                  · show Vx x E M1 124 [(0, .ref (E.1 (0))), (1, .int (iI (w))), (2, .int (iI (n2))), (3, .int (iI (a))), (4, .int (iI (b))), (5, .int (iI (js)))] []
                    exact J124 js (⟨beW0 j1 c89, by omega, by omega⟩)
                  · show Vx x E M1 92 [(0, .ref (E.1 (0))), (1, .int (iI (w))), (2, .int (iI (n2))), (3, .int (iI (a))), (4, .int (iI (b))), (5, .int (iI (js)))] []
                    refine x_iload_n B dX7_beside_92 1 rfl rfl ?_
                    refine x_if_eq B (tgt := 124) dX7_beside_93 (by decide) ⟨by omega, by omega⟩ (fun c93 => ?_) (fun c93 => ?_)
                    · show Vx x E M1 124 [(0, .ref (E.1 (0))), (1, .int (iI (w))), (2, .int (iI (n2))), (3, .int (iI (a))), (4, .int (iI (b))), (5, .int (iI (js)))] []
                      exact J124 js (⟨beW1 j1 c89 c93, by omega, by omega⟩)
                    · show Vx x E M1 96 [(0, .ref (E.1 (0))), (1, .int (iI (w))), (2, .int (iI (n2))), (3, .int (iI (a))), (4, .int (iI (b))), (5, .int (iI (js)))] []
                      refine x_aload_n B dX7_beside_96 0 rfl rfl ?_
                      refine x_getR B (ci := 7) (k := 6) dX7_beside_97 rfl rfl rfl (by decide) inGX7 kw_289 ?_
                      refine x_iload_n B dX7_beside_100 3 rfl rfl ?_
                      refine x_aald B dX7_beside_101 (k := 2) rfl (by decide) (by decide) rfl (by omega) (by omega) (fr_get (by omega) (by omega)) ?_
                      refine x_aload_n B dX7_beside_102 0 rfl rfl ?_
                      refine x_getR B (ci := 7) (k := 6) dX7_beside_103 rfl rfl rfl (by decide) inGX7 kw_289 ?_
                      refine x_iload B dX7_beside_106 4 rfl ?_
                      refine x_aald B dX7_beside_108 (k := 2) rfl (by decide) (by decide) rfl (by omega) (by omega) (fr_get (by omega) (by omega)) ?_
                      refine x_aload_n B dX7_beside_109 0 rfl rfl ?_
                      refine x_getR B (ci := 7) (k := 0) dX7_beside_110 rfl rfl rfl (by decide) inGX7 kw_283 ?_
                      refine x_getR B (ci := 1) (k := 0) dX7_beside_113 rfl rfl rfl (by decide) inGX1 kw_103 ?_
                      refine x_bipush B dX7_beside_116 rfl ?_
                      refine x_iald B (lo := 1) (hi := 9) dX7_beside_118 rfl (by omega) (by omega) rfl (fun z118 ez118 lz118 uz118 => ?_)
                      have ez118 : Is z118 (M1 2 6) := ez118
                      have e118 := Is_e ez118
                      rw [m3 2 6 (by omega)] at e118
                      refine x_callV B (st := []) (av := [.ref (E.1 ((16 + 5 * ((b).toNat + 1)))), .int (iI (z118))]) dX7_beside_119 cs_X0_soundsAs kw_729 ⟨rfl, rfl, Nat.le_of_ble_eq_true rfl, Nat.le_of_ble_eq_true rfl⟩ rfl rfl (Nat.le_of_ble_eq_true rfl) (rc_obj B (ci := 0) (tF_o ((a).toNat + 1) (by omega)) rfl rfl) (c_X0_soundsAs _ E _ ((a).toNat + 1) ((b).toNat + 1) z118 (by omega) (by omega) (by omega) (by omega)) (k_i (fun z119 Mq hz119 => ?_))
                      obtain ⟨rfl, hz119⟩ := hz119
                      have he := be_e hz119 (by have h := m4 a.toNat (by omega); rw [Int.toNat_of_nonneg (by omega)] at h; exact h.2) (by have h := m4 b.toNat (by omega); rw [Int.toNat_of_nonneg (by omega)] at h; exact h.2)
                      rw [e118] at he
                      refine x_istore B dX7_beside_122 [1, 2, 3, 4, 5, 0] (by decide) (lv' := [(0, .ref (E.1 (0))), (1, .int (iI (w))), (2, .int (iI (n2))), (3, .int (iI (a))), (4, .int (iI (b))), (5, .int (iI (z119)))]) rfl ?_
                      exact J124 z119 (⟨beW2 (by omega) (by omega) j1 c89 c93 he, by rcases hz119 with ⟨h5, h6⟩ | ⟨h5, h6⟩ <;> omega, by rcases hz119 with ⟨h5, h6⟩ | ⟨h5, h6⟩ <;> omega⟩)
                refine x_icmp_eq B (tgt := 80) dX7_beside_58 (by decide) ⟨by omega, by omega⟩ ⟨by omega, by omega⟩ (fun c58 => ?_) (fun c58 => ?_)
                · show Vx x E M1 80 [(0, .ref (E.1 (0))), (1, .int (iI (w))), (2, .int (iI (n2))), (3, .int (iI (a))), (4, .int (iI (b)))] []
                  refine x_iconst B dX7_beside_80 ?_
                  refine x_goto B (tgt := 85) dX7_beside_81 (by decide) ?_
                  exact J85 1 (⟨by rw [if_pos c58], by omega, by omega⟩)
                · show Vx x E M1 61 [(0, .ref (E.1 (0))), (1, .int (iI (w))), (2, .int (iI (n2))), (3, .int (iI (a))), (4, .int (iI (b)))] []
                  refine x_aload_n B dX7_beside_61 0 rfl rfl ?_
                  refine x_getR B (ci := 7) (k := 6) dX7_beside_62 rfl rfl rfl (by decide) inGX7 kw_289 ?_
                  refine x_iload_n B dX7_beside_65 3 rfl rfl ?_
                  refine x_aald B dX7_beside_66 (k := 2) rfl (by decide) (by decide) rfl (by omega) (by omega) (fr_get (by omega) (by omega)) ?_
                  refine x_aload_n B dX7_beside_67 0 rfl rfl ?_
                  refine x_getR B (ci := 7) (k := 6) dX7_beside_68 rfl rfl rfl (by decide) inGX7 kw_289 ?_
                  refine x_iload B dX7_beside_71 4 rfl ?_
                  refine x_aald B dX7_beside_73 (k := 2) rfl (by decide) (by decide) rfl (by omega) (by omega) (fr_get (by omega) (by omega)) ?_
                  refine x_callV B (st := []) (av := [.ref (E.1 ((16 + 5 * ((b).toNat + 1))))]) dX7_beside_74 cs_X0_feelsAs kw_613 ⟨rfl, rfl, Nat.le_of_ble_eq_true rfl, Nat.le_of_ble_eq_true rfl⟩ rfl rfl (Nat.le_of_ble_eq_true rfl) (rc_obj B (ci := 0) (tF_o ((a).toNat + 1) (by omega)) rfl rfl) (c_X0_feelsAs _ E _ ((a).toNat + 1) ((b).toNat + 1) (by omega) (by omega)) (k_i (fun z74 Mq hz74 => ?_))
                  obtain ⟨rfl, hz74⟩ := hz74
                  have ht := be_t hz74 (by have h := m4 a.toNat (by omega); rw [Int.toNat_of_nonneg (by omega)] at h; exact h.1) (by have h := m4 b.toNat (by omega); rw [Int.toNat_of_nonneg (by omega)] at h; exact h.1)
                  refine x_if_eq B (tgt := 84) dX7_beside_77 (by decide) ⟨by omega, by omega⟩ (fun c77 => ?_) (fun c77 => ?_)
                  · show Vx x E M1 84 [(0, .ref (E.1 (0))), (1, .int (iI (w))), (2, .int (iI (n2))), (3, .int (iI (a))), (4, .int (iI (b)))] []
                    refine x_iconst B dX7_beside_84 ?_
                    exact J85 0 (⟨by rw [if_neg c58, ← ht]; omega, by omega, by omega⟩)
                  · show Vx x E M1 80 [(0, .ref (E.1 (0))), (1, .int (iI (w))), (2, .int (iI (n2))), (3, .int (iI (a))), (4, .int (iI (b)))] []
                    refine x_iconst B dX7_beside_80 ?_
                    refine x_goto B (tgt := 85) dX7_beside_81 (by decide) ?_
                    exact J85 1 (⟨by rw [if_neg c58, ← ht]; rcases hz74 with ⟨h5, h6⟩ | ⟨h5, h6⟩ <;> omega, by omega, by omega⟩)
            exact L49 (a + 1) n (⟨by omega, by omega, by omega, by omega, by rw [show (a + 1 - a - 1).toNat = 0 by omega]; show _ = _ + 0; omega⟩)
        exact L38 0 0 (⟨by omega, by omega, by omega, by omega, rfl⟩)
      · show Vx x E M1 18 [(0, .ref (E.1 (0))), (1, .int (iI (w))), (2, .int (iI (i)))] []
        refine x_aload_n B dX7_beside_18 0 rfl rfl ?_
        refine x_iload_n B dX7_beside_19 2 rfl rfl ?_
        refine x_aload_n B dX7_beside_20 0 rfl rfl ?_
        refine x_getI B (ci := 7) (k := 12) (lo := 0) (hi := 25) dX7_beside_21 rfl rfl rfl (by decide) inGX7 kw_295 rfl (fun z21 ez21 lz21 uz21 => ?_)
        refine x_callV B (st := []) (av := [.int (iI (i)), .int (iI (z21))]) dX7_beside_24 cs_X7_seen kw_525 ⟨rfl, rfl, Nat.le_of_ble_eq_true rfl, Nat.le_of_ble_eq_true rfl⟩ rfl rfl (Nat.le_of_ble_eq_true rfl) (rc_obj B (ci := 7) rfl rfl rfl) (c_X7_seen _ E _ i z21 (by omega) (by omega) (by omega) (by omega)) (k_r (fun az24 M24 hz24 => ?_))
        obtain ⟨rfl, hz24⟩ := hz24
        refine x_pop B dX7_beside_27 rfl ?_
        refine x_iinc B (q := 2) dX7_beside_28 rfl [1, 2, 0] (by decide) (lv' := [(0, .ref (E.1 (0))), (1, .int (iI (w))), (2, .int (iI (i + 1)))]) rfl ?_
        refine x_goto B (tgt := 12) dX7_beside_31 (by decide) ?_
        exact ih12 (i + 1) M24 (⟨by omega, by omega, offC_tr m3 (offC_w hz24.1 (by omega) (by omega)), fun a h => by obtain ⟨p1, -, p3, p4, -⟩ := seeP_C hz24; rcases (show (a : Int) < i ∨ a = i.toNat by omega) with h7 | h7; (rw [offC_f p1 (by omega), offC_f p1 (by omega)]; exact m4 a h7); (rw [feC_off m3 (by omega), Is_e ez21, m3 0 12 (by omega)] at p4; rw [shC_off m3 (by omega), Is_e ez21, m3 0 12 (by omega)] at p3; rw [h7, Int.toNat_of_nonneg m1]; exact ⟨p4, p3⟩)⟩) (by omega)
    exact L12 0 M (⟨by omega, by omega, offC_rf, fun a h => by omega⟩)
  · show Vx x E M 8 [(0, .ref (E.1 (0))), (1, .int (iI (w)))] []
    refine x_iconst B dX7_beside_8 ?_
    exact r_i B R dX7_beside_9 (Or.inl ⟨rfl, rfl, by omega⟩)
/-- the laws as if none was dead and nothing went round -/
def unM (M : Mem) : Mem := sto (sto (cpyM (cpyM M 5 12 (M 2)) 6 16 (M 3)) 5 11 0) 5 5 0
def dfl (M : Mem) : Nat → Nat
  | 0 => 0
  | k + 1 => if M 61 k = 0 then dfl M k else dfl M k ||| 2 ^ (M 60 k).toNat
def dfP (M : Mem) (k : Nat) : Int := picF (M 12) (unM M 5) (unM M 6) (M 14) (64 * M 58 k) (M 59 k) (M 60 k).toNat
def dms (M : Mem) : Nat → Nat
  | 0 => 0
  | k + 1 => if M 61 k = 0 ∧ 0 < dfP M k then dms M k ||| 2 ^ (M 60 k).toNat else dms M k
theorem dfl_s {M : Mem} {k : Int} (h : 0 ≤ k) : dfl M (k + 1).toNat = if M 61 k.toNat = 0 then dfl M k.toNat else dfl M k.toNat ||| 2 ^ (M 60 k.toNat).toNat := by
  rw [show (k + 1).toNat = k.toNat + 1 by omega]
  rfl
theorem dms_s {M : Mem} {k : Int} (h : 0 ≤ k) : dms M (k + 1).toNat = if M 61 k.toNat = 0 ∧ 0 < dfP M k.toNat then dms M k.toNat ||| 2 ^ (M 60 k.toNat).toNat else dms M k.toNat := by
  rw [show (k + 1).toNat = k.toNat + 1 by omega]
  rfl
theorem unM_o {M : Mem} {i : Nat} (h5 : i ≠ 5) (h6 : i ≠ 6) : unM M i = M i := by
  unfold unM
  rw [sto_f _ _ _ _ h5, sto_f _ _ _ _ h5, cpyM_f _ _ _ _ h6, cpyM_f _ _ _ _ h5]
abbrev rm_X7_dead : Room := { frames := 4, cells := 0, slots := 0, locals := 93 }
theorem cs_X7_dead : Cv yX7_dead cX7_dead 5 (some .int) 0 := ⟨kw_749, ⟨kw_747, kw_748⟩, kw_57, by decide, by decide, by decide +kernel⟩
set_option maxHeartbeats 4000000 in
set_option maxRecDepth 100000 in
theorem c_X7_dead (l : Launch) (E : Ev) (M : Mem)   : Ct l yX7_dead cX7_dead 5 (some .int) rm_X7_dead E M [.ref (E.1 (0))] (pI (fun z M' => z = ((ndf (dms M (M 57 4).toNat) (dfl M (M 57 4).toNat) : Nat) : Int) ∧ offC (unM M) M' 16 21)) := by
  refine Ct_of (lv := [(0, .ref (E.1 (0)))]) (by decide) ⟨rfl, rfl⟩ (Nat.le_of_ble_eq_true rfl) rfl (fun x _ B R => ?_)
  refine x_wf (fun hwf0 => ?_)
  refine x_aload_n B dX7_dead_0 0 rfl rfl ?_
  refine x_getR B (ci := 7) (k := 1) dX7_dead_1 rfl rfl rfl (by decide) inGX7 kw_284 ?_
  refine x_aload_n B dX7_dead_4 0 rfl rfl ?_
  refine x_getR B (ci := 7) (k := 0) dX7_dead_5 rfl rfl rfl (by decide) inGX7 kw_283 ?_
  refine x_callV B (st := []) (av := [.ref (E.1 (1))]) dX7_dead_8 cs_X1_takeFrom kw_482 ⟨rfl, rfl, Nat.le_of_ble_eq_true rfl, Nat.le_of_ble_eq_true rfl⟩ rfl rfl (Nat.le_of_ble_eq_true rfl) (rc_obj B (ci := 1) rfl rfl rfl) (c_X1_takeFrom _ E _ 4 1 (by first | assumption | omega) (by first | assumption | omega) (by first | assumption | omega)) (k_v (fun M8 hz8 => ?_))
  subst hz8
  refine x_aload_n B dX7_dead_11 0 rfl rfl ?_
  refine x_getR B (ci := 7) (k := 1) dX7_dead_12 rfl rfl rfl (by decide) inGX7 kw_284 ?_
  refine x_getR B (ci := 1) (k := 0) dX7_dead_15 rfl rfl rfl (by decide) inGX1 kw_103 ?_
  refine x_bipush B dX7_dead_18 rfl ?_
  refine x_iconst B dX7_dead_20 ?_
  refine x_iast B (lo := 0) (hi := 65535) dX7_dead_21 rfl (by omega) (by omega) rfl (by omega) (by omega) ?_
  refine x_aload_n B dX7_dead_22 0 rfl rfl ?_
  refine x_getR B (ci := 7) (k := 1) dX7_dead_23 rfl rfl rfl (by decide) inGX7 kw_284 ?_
  refine x_getR B (ci := 1) (k := 0) dX7_dead_26 rfl rfl rfl (by decide) inGX1 kw_103 ?_
  refine x_iconst B dX7_dead_29 ?_
  refine x_iconst B dX7_dead_30 ?_
  refine x_iast B (lo := 0) (hi := 1) dX7_dead_31 rfl (by omega) (by omega) rfl (by omega) (by omega) ?_
  refine x_iconst B dX7_dead_32 ?_
  refine x_istore_n B dX7_dead_33 [1, 0] rfl (by decide) (lv' := [(0, .ref (E.1 (0))), (1, .int (iI (0)))]) rfl ?_
  refine x_iconst B dX7_dead_34 ?_
  refine x_istore_n B dX7_dead_35 [1, 2, 0] rfl (by decide) (lv' := [(0, .ref (E.1 (0))), (1, .int (iI (0))), (2, .int (iI (0)))]) rfl ?_
  refine x_iconst B dX7_dead_36 ?_
  refine x_istore_n B dX7_dead_37 [1, 2, 3, 0] rfl (by decide) (lv' := [(0, .ref (E.1 (0))), (1, .int (iI (0))), (2, .int (iI (0))), (3, .int (iI (0)))]) rfl ?_
  have L38 : ∀ (fl : Int) (ms : Int) (k : Int) (M1 : Mem), (0 ≤ k ∧ k ≤ M 57 4 ∧ offC (unM M) M1 16 21 ∧ 0 ≤ fl ∧ fl ≤ 65535 ∧ 0 ≤ ms ∧ ms ≤ 65535 ∧ Is fl ((dfl M k.toNat : Nat) : Int) ∧ Is ms ((dms M k.toNat : Nat) : Int)) → Vx x E M1 38 [(0, .ref (E.1 (0))), (1, .int (iI (fl))), (2, .int (iI (ms))), (3, .int (iI (k)))] [] := by
    refine lo4 _ _ (fun fl ms k M1 => (M 57 4 - k).toNat) ?_
    intro fl ms k M1 hI ih38
    obtain ⟨i1, i2, o1, i3, i4, i5, i6, i7, i8⟩ := hI
    refine x_iload_n B dX7_dead_38 3 rfl rfl ?_
    refine x_aload_n B dX7_dead_39 0 rfl rfl ?_
    refine x_getR B (ci := 7) (k := 10) dX7_dead_40 rfl rfl rfl (by decide) inGX7 kw_293 ?_
    refine x_getI B (ci := 3) (k := 4) (lo := 0) (hi := 12) dX7_dead_43 rfl rfl rfl (by decide) inGX3 kw_251 rfl (fun z43 ez43 lz43 uz43 => ?_)
    have e43 := Is_e ez43
    rw [o1 57 _ (by omega), unM_o (by decide) (by decide)] at e43
    refine x_icmp_ge B (tgt := 149) dX7_dead_46 (by decide) ⟨by omega, by omega⟩ ⟨by omega, by omega⟩ (fun c46 => ?_) (fun c46 => ?_)
    · show Vx x E M1 149 [(0, .ref (E.1 (0))), (1, .int (iI (fl))), (2, .int (iI (ms))), (3, .int (iI (k)))] []
      refine x_iload_n B dX7_dead_149 2 rfl rfl ?_
      refine x_iload_n B dX7_dead_150 1 rfl rfl ?_
      refine x_iconst B dX7_dead_151 ?_
      refine x_inot B dX7_dead_152 ?_
      refine x_iandn B dX7_dead_153 (by omega) (by omega) ?_
      exact r_i B R dX7_dead_154 (⟨by rw [Is_e i7, Is_e i8, Int.toNat_natCast, Int.toNat_natCast, show k.toNat = (M 57 4).toNat by omega], o1⟩)
    · show Vx x E M1 49 [(0, .ref (E.1 (0))), (1, .int (iI (fl))), (2, .int (iI (ms))), (3, .int (iI (k)))] []
      refine x_aload_n B dX7_dead_49 0 rfl rfl ?_
      refine x_getR B (ci := 7) (k := 10) dX7_dead_50 rfl rfl rfl (by decide) inGX7 kw_293 ?_
      refine x_getR B (ci := 3) (k := 2) dX7_dead_53 rfl rfl rfl (by decide) inGX3 kw_247 ?_
      refine x_iload_n B dX7_dead_56 3 rfl rfl ?_
      refine x_iald B (lo := 0) (hi := 15) dX7_dead_57 rfl (by omega) (by omega) rfl (fun z57 ez57 lz57 uz57 => ?_)
      have e57 := Is_e ez57
      rw [o1 60 _ (by omega), unM_o (by decide) (by decide)] at e57
      refine x_istore B dX7_dead_58 [1, 2, 3, 4, 0] (by decide) (lv' := [(0, .ref (E.1 (0))), (1, .int (iI (fl))), (2, .int (iI (ms))), (3, .int (iI (k))), (4, .int (iI (z57)))]) rfl ?_
      refine x_aload_n B dX7_dead_60 0 rfl rfl ?_
      refine x_getR B (ci := 7) (k := 10) dX7_dead_61 rfl rfl rfl (by decide) inGX7 kw_293 ?_
      refine x_getR B (ci := 3) (k := 3) dX7_dead_64 rfl rfl rfl (by decide) inGX3 kw_249 ?_
      refine x_iload_n B dX7_dead_67 3 rfl rfl ?_
      refine x_zald B (lo := 0) (hi := 1) dX7_dead_68 rfl (by omega) (by omega) rfl (fun z68 ez68 lz68 uz68 => ?_)
      have e68 := Is_e ez68
      rw [o1 61 _ (by omega), unM_o (by decide) (by decide)] at e68
      refine x_if_eq B (tgt := 82) dX7_dead_69 (by decide) ⟨by omega, by omega⟩ (fun c69 => ?_) (fun c69 => ?_)
      · show Vx x E M1 82 [(0, .ref (E.1 (0))), (1, .int (iI (fl))), (2, .int (iI (ms))), (3, .int (iI (k))), (4, .int (iI (z57)))] []
        refine x_aload_n B dX7_dead_82 0 rfl rfl ?_
        refine x_getR B (ci := 7) (k := 7) dX7_dead_83 rfl rfl rfl (by decide) inGX7 kw_290 ?_
        refine x_aload_n B dX7_dead_86 0 rfl rfl ?_
        refine x_getR B (ci := 7) (k := 3) dX7_dead_87 rfl rfl rfl (by decide) inGX7 kw_286 ?_
        refine x_aload_n B dX7_dead_90 0 rfl rfl ?_
        refine x_getR B (ci := 7) (k := 10) dX7_dead_91 rfl rfl rfl (by decide) inGX7 kw_293 ?_
        refine x_getR B (ci := 3) (k := 0) dX7_dead_94 rfl rfl rfl (by decide) inGX3 kw_243 ?_
        refine x_iload_n B dX7_dead_97 3 rfl rfl ?_
        refine x_iald B (lo := 0) (hi := 5) dX7_dead_98 rfl (by omega) (by omega) rfl (fun z98 ez98 lz98 uz98 => ?_)
        have e98 := Is_e ez98
        rw [o1 58 _ (by omega), unM_o (by decide) (by decide)] at e98
        refine x_aload_n B dX7_dead_99 0 rfl rfl ?_
        refine x_getR B (ci := 7) (k := 10) dX7_dead_100 rfl rfl rfl (by decide) inGX7 kw_293 ?_
        refine x_getR B (ci := 3) (k := 1) dX7_dead_103 rfl rfl rfl (by decide) inGX3 kw_245 ?_
        refine x_iload_n B dX7_dead_106 3 rfl rfl ?_
        refine x_iald B (lo := 0) (hi := 25) dX7_dead_107 rfl (by omega) (by omega) rfl (fun z107 ez107 lz107 uz107 => ?_)
        have e107 := Is_e ez107
        rw [o1 59 _ (by omega), unM_o (by decide) (by decide)] at e107
        refine x_aload_n B dX7_dead_108 0 rfl rfl ?_
        refine x_getR B (ci := 7) (k := 1) dX7_dead_109 rfl rfl rfl (by decide) inGX7 kw_284 ?_
        refine x_aload_n B dX7_dead_112 0 rfl rfl ?_
        refine x_getR B (ci := 7) (k := 5) dX7_dead_113 rfl rfl rfl (by decide) inGX7 kw_288 ?_
        refine x_callV B (st := []) (av := [.ref (E.1 (12)), .int (iI (z98)), .int (iI (z107)), .ref (E.1 (4)), .ref (E.1 (14))]) dX7_dead_116 cs_X0_see kw_529 ⟨rfl, rfl, Nat.le_of_ble_eq_true rfl, Nat.le_of_ble_eq_true rfl⟩ rfl rfl (Nat.le_of_ble_eq_true rfl) (rc_obj B (ci := 0) rfl rfl rfl) (c_X0_see _ E _ 0 z98 z107 4 14 (by omega) (by omega) (by omega) (by omega) (by omega) (by first | assumption | omega) (by first | assumption | omega)) (k_v (fun M116 hz116 => ?_))
        have o2 : offC (unM M) M116 16 21 := offC_tr o1 (offC_w hz116.1 (by omega) (by omega))
        refine x_iload_n B dX7_dead_119 2 rfl rfl ?_
        refine x_aload_n B dX7_dead_120 0 rfl rfl ?_
        refine x_getR B (ci := 7) (k := 7) dX7_dead_121 rfl rfl rfl (by decide) inGX7 kw_290 ?_
        refine x_getR B (ci := 0) (k := 2) dX7_dead_124 rfl rfl rfl (by decide) inGX0 kw_184 ?_
        refine x_iload B dX7_dead_127 4 rfl ?_
        refine x_iald B (lo := 0) (hi := 9) dX7_dead_129 rfl (by omega) (by omega) rfl (fun z129 ez129 lz129 uz129 => ?_)
        have hfe : z129 = dfP M k.toNat := by
          have h := hz116.2.2.2.1 z57.toNat (by omega)
          have a1 : M1 12 = M 12 := by rw [offC_f o1 (by omega), unM_o (by decide) (by decide)]
          have a2 : M1 (4 + 1) = unM M 5 := offC_f o1 (by omega)
          have a3 : M1 (4 + 2) = unM M 6 := offC_f o1 (by omega)
          have a4 : M1 14 = M 14 := by rw [offC_f o1 (by omega), unM_o (by decide) (by decide)]
          rw [a1, a2, a3, a4, e98, e107] at h
          rw [Is_e ez129]
          refine Eq.trans h ?_
          rw [e57]
          rfl
        have p16 := or16 (a := ms) (p := z57) (by omega) (by omega) (by omega) (by omega)
        have q0 : (((ms).toNat ||| (0 : Int).toNat : Nat) : Int) = ms := by
          show ((_ ||| 0 : Nat) : Int) = _
          rw [Nat.or_zero]
          omega
        refine x_if_le B (tgt := 140) dX7_dead_130 (by decide) ⟨by omega, by omega⟩ (fun c130 => ?_) (fun c130 => ?_)
        · show Vx x E M116 140 [(0, .ref (E.1 (0))), (1, .int (iI (fl))), (2, .int (iI (ms))), (3, .int (iI (k))), (4, .int (iI (z57)))] [.int (iI (ms))]
          refine x_iconst B dX7_dead_140 ?_
          refine x_ior B dX7_dead_141 (by omega) (by first | omega | exact Int.natCast_nonneg _) ?_
          refine x_istore_n B dX7_dead_142 [1, 2, 0, 3, 4] rfl (by decide) (lv' := [(0, .ref (E.1 (0))), (1, .int (iI (fl))), (2, .int (iI ((((ms).toNat ||| (0 : Int).toNat : Nat) : Int)))), (3, .int (iI (k))), (4, .int (iI (z57)))]) rfl ?_
          refine x_iinc B (q := 3) dX7_dead_143 rfl [1, 2, 3, 0, 4] (by decide) (lv' := [(0, .ref (E.1 (0))), (1, .int (iI (fl))), (2, .int (iI ((((ms).toNat ||| (0 : Int).toNat : Nat) : Int)))), (3, .int (iI (k + 1))), (4, .int (iI (z57)))]) rfl ?_
          refine x_goto B (tgt := 38) dX7_dead_146 (by decide) ?_
          refine x_lv [0, 1, 2, 3] (lv' := [(0, .ref (E.1 (0))), (1, .int (iI (fl))), (2, .int (iI ((((ms).toNat ||| (0 : Int).toNat : Nat) : Int)))), (3, .int (iI (k + 1)))]) rfl ?_
          exact ih38 fl (((ms).toNat ||| (0 : Int).toNat : Nat) : Int) (k + 1) M116 (⟨by omega, by omega, o2, by omega, by omega, by rw [q0]; exact i5, by rw [q0]; exact i6, by show _ = _; rw [dfl_s i1, if_pos (by rw [← e68]; exact c69)]; exact i7, by show _ = _; rw [dms_s i1, if_neg (fun h => by have h9 := h.2; rw [← hfe] at h9; omega), q0]; exact i8⟩) (by omega)
        · show Vx x E M116 133 [(0, .ref (E.1 (0))), (1, .int (iI (fl))), (2, .int (iI (ms))), (3, .int (iI (k))), (4, .int (iI (z57)))] [.int (iI (ms))]
          refine x_iconst B dX7_dead_133 ?_
          refine x_iload B dX7_dead_134 4 rfl ?_
          refine x_shl1 B dX7_dead_136 (by omega) (by omega) ?_
          refine x_goto B (tgt := 141) dX7_dead_137 (by decide) ?_
          refine x_ior B dX7_dead_141 (by omega) (by first | omega | exact Int.natCast_nonneg _) ?_
          refine x_istore_n B dX7_dead_142 [1, 2, 0, 3, 4] rfl (by decide) (lv' := [(0, .ref (E.1 (0))), (1, .int (iI (fl))), (2, .int (iI ((((ms).toNat ||| (((2 ^ (z57).toNat : Nat) : Int)).toNat : Nat) : Int)))), (3, .int (iI (k))), (4, .int (iI (z57)))]) rfl ?_
          refine x_iinc B (q := 3) dX7_dead_143 rfl [1, 2, 3, 0, 4] (by decide) (lv' := [(0, .ref (E.1 (0))), (1, .int (iI (fl))), (2, .int (iI ((((ms).toNat ||| (((2 ^ (z57).toNat : Nat) : Int)).toNat : Nat) : Int)))), (3, .int (iI (k + 1))), (4, .int (iI (z57)))]) rfl ?_
          refine x_goto B (tgt := 38) dX7_dead_146 (by decide) ?_
          refine x_lv [0, 1, 2, 3] (lv' := [(0, .ref (E.1 (0))), (1, .int (iI (fl))), (2, .int (iI ((((ms).toNat ||| (((2 ^ (z57).toNat : Nat) : Int)).toNat : Nat) : Int)))), (3, .int (iI (k + 1)))]) rfl ?_
          exact ih38 fl (((ms).toNat ||| (((2 ^ (z57).toNat : Nat) : Int)).toNat : Nat) : Int) (k + 1) M116 (⟨by omega, by omega, o2, by omega, by omega, p16.1, p16.2, by show _ = _; rw [dfl_s i1, if_pos (by rw [← e68]; exact c69)]; exact i7, by show _ = _; rw [dms_s i1, if_pos ⟨by rw [← e68]; exact c69, by rw [← hfe]; omega⟩, ← e57, Is_e i8, Int.toNat_natCast, Int.toNat_natCast]⟩) (by omega)
      · show Vx x E M1 72 [(0, .ref (E.1 (0))), (1, .int (iI (fl))), (2, .int (iI (ms))), (3, .int (iI (k))), (4, .int (iI (z57)))] []
        have o16 := or16 (a := fl) (p := z57) (by omega) (by omega) (by omega) (by omega)
        refine x_iload_n B dX7_dead_72 1 rfl rfl ?_
        refine x_iconst B dX7_dead_73 ?_
        refine x_iload B dX7_dead_74 4 rfl ?_
        refine x_shl1 B dX7_dead_76 (by omega) (by omega) ?_
        refine x_ior B dX7_dead_77 (by omega) (Int.natCast_nonneg _) ?_
        refine x_istore_n B dX7_dead_78 [1, 0, 2, 3, 4] rfl (by decide) (lv' := [(0, .ref (E.1 (0))), (1, .int (iI ((((fl).toNat ||| (((2 ^ (z57).toNat : Nat) : Int)).toNat : Nat) : Int)))), (2, .int (iI (ms))), (3, .int (iI (k))), (4, .int (iI (z57)))]) rfl ?_
        refine x_goto B (tgt := 143) dX7_dead_79 (by decide) ?_
        refine x_iinc B (q := 3) dX7_dead_143 rfl [1, 2, 3, 0, 4] (by decide) (lv' := [(0, .ref (E.1 (0))), (1, .int (iI ((((fl).toNat ||| (((2 ^ (z57).toNat : Nat) : Int)).toNat : Nat) : Int)))), (2, .int (iI (ms))), (3, .int (iI (k + 1))), (4, .int (iI (z57)))]) rfl ?_
        refine x_goto B (tgt := 38) dX7_dead_146 (by decide) ?_
        refine x_lv [0, 1, 2, 3] (lv' := [(0, .ref (E.1 (0))), (1, .int (iI ((((fl).toNat ||| (((2 ^ (z57).toNat : Nat) : Int)).toNat : Nat) : Int)))), (2, .int (iI (ms))), (3, .int (iI (k + 1)))]) rfl ?_
        exact ih38 (((fl).toNat ||| (((2 ^ (z57).toNat : Nat) : Int)).toNat : Nat) : Int) ms (k + 1) M1 (⟨by omega, by omega, o1, o16.1, o16.2, by omega, by omega, by show _ = _; rw [dfl_s i1, if_neg (by rw [← e68]; exact c69), ← e57, Is_e i7, Int.toNat_natCast, Int.toNat_natCast], by show _ = _; rw [dms_s i1, if_neg (fun h => c69 (by rw [e68]; exact h.1))]; exact i8⟩) (by omega)
  exact L38 0 0 0 (unM M) (⟨by omega, by have h := (hwf0 57 4).1; exact h, offC_rf, by omega, by omega, by omega, by omega, rfl, rfl⟩)
/-- what touching CELL i of a sheet of this size and lane as of lane la would find -/
def faS (sz ln la i : Int) : Int := if 0 ≤ sz ∧ ¬ ln = la then 3 else if sz < 0 then 1 else if i < 0 ∨ sz ≤ i then 2 else 0
theorem faS_of {sz ln la i z : Int} (h : z = 3 ∧ 0 ≤ sz ∧ ¬ ln = la ∨ (sz < 0 ∨ ln = la) ∧ (z = 1 ∧ sz < 0 ∨ z = 2 ∧ 0 ≤ sz ∧ (i < 0 ∨ sz ≤ i) ∨ z = 0 ∧ 0 ≤ sz ∧ 0 ≤ i ∧ i < sz)) : z = faS sz ln la i := by
  unfold faS
  split
  · omega
  · split
    · omega
    · split <;> omega
theorem faS_0 {sz ln la i : Int} (h : faS sz ln la i = 0) : 0 ≤ i ∧ i < sz := by
  unfold faS at h
  split at h
  · omega
  · split at h
    · omega
    · split at h <;> omega
/-- t CELLS of a sheet from f on can be told -/
def toOK (sz ln la f : Int) (ce : Nat → Int) (t : Int) : Prop := ∀ i : Int, 0 ≤ i → i < t → faS sz ln la (f + i) = 0 ∧ 0 ≤ ce (f + i).toNat ∧ ce (f + i).toNat ≤ 9
/-- the LIGHTS of a part, the first t of them told by a sheet from f on, the others dark -/
def rdM (M : Mem) (s0 n t f : Int) (ce : Nat → Int) : Mem := fun a b => if a = 12 ∧ s0 ≤ (b : Int) ∧ (b : Int) < s0 + n then (if (b : Int) - s0 < t then ce (f + ((b : Int) - s0)).toNat else 0) else M a b
theorem rdM_0 {M : Mem} {s0 t f : Int} {ce : Nat → Int} : M = rdM M s0 0 t f ce := by
  funext a b
  unfold rdM
  rw [if_neg (by omega)]
theorem rdM_s {M : Mem} {s0 i t f v : Int} {ce : Nat → Int} (h0 : 0 ≤ s0) (hi : 0 ≤ i) (hv : v = if i < t then ce (f + i).toNat else 0) : sto (rdM M s0 i t f ce) 12 (s0 + i).toNat v = rdM M s0 (i + 1) t f ce := by
  funext a b
  unfold sto rdM
  by_cases c : a = 12 ∧ b = (s0 + i).toNat
  · rw [if_pos c, if_pos (by omega), show (b : Int) - s0 = i by omega]
    exact hv
  · rw [if_neg c]
    by_cases d : a = 12 ∧ s0 ≤ (b : Int) ∧ (b : Int) < s0 + i
    · rw [if_pos d, if_pos (show a = 12 ∧ s0 ≤ (b : Int) ∧ (b : Int) < s0 + (i + 1) from ⟨d.1, d.2.1, by omega⟩)]
    · rw [if_neg d, if_neg (show ¬ (a = 12 ∧ s0 ≤ (b : Int) ∧ (b : Int) < s0 + (i + 1)) from fun q => by omega)]
theorem rdM_f {M : Mem} {s0 n t f : Int} {ce : Nat → Int} {a : Nat} (h : a ≠ 12) : rdM M s0 n t f ce a = M a := by
  funext b
  unfold rdM
  rw [if_neg (fun c => h c.1)]
abbrev rm_X7_read : Room := { frames := 2, cells := 0, slots := 0, locals := 43 }
theorem cs_X7_read : Cv yX7_read cX7_read 11 (some .int) 6 := ⟨kw_778, ⟨kw_776, kw_777⟩, kw_57, by decide, by decide, by decide +kernel⟩
set_option maxHeartbeats 4000000 in
set_option maxRecDepth 100000 in
theorem c_X7_read (l : Launch) (E : Ev) (M : Mem) (sc k la f c n : Int) (g1 : -2147483648 ≤ sc) (g2 : sc < 2147483648) (g3 : -2147483648 ≤ k) (g4 : k < 2147483648) (g5 : -2147483648 ≤ la) (g6 : la < 2147483648) (g7 : -2147483648 ≤ f) (g8 : f < 2147483648) (g9 : -2147483648 ≤ c) (g10 : c < 2147483648) (g11 : -2147483648 ≤ n) (g12 : n < 2147483648) : Ct l yX7_read cX7_read 11 (some .int) rm_X7_read E M [.ref (E.1 (0)), .int (iI (sc)), .int (iI (k)), .int (iI (la)), .int (iI (f)), .int (iI (c)), .int (iI (n))] (pI (fun z M' => z = -1 ∧ M' = M ∧ ¬ (0 ≤ sc ∧ sc < 6 ∧ 0 ≤ k ∧ k < 4 ∧ 0 ≤ la ∧ la < 3 ∧ 0 ≤ c ∧ 0 ≤ n ∧ c + n ≤ 64) ∨ (0 ≤ sc ∧ sc < 6 ∧ 0 ≤ k ∧ k < 4 ∧ 0 ≤ la ∧ la < 3 ∧ 0 ≤ c ∧ 0 ≤ n ∧ c + n ≤ 64) ∧ ∃ t : Int, 0 ≤ t ∧ t ≤ n ∧ toOK (M (63 + 2 * k.toNat) 1) (M (63 + 2 * k.toNat) 2) la f (M (63 + 2 * k.toNat + 1)) t ∧ (t < n ∧ faS (M (63 + 2 * k.toNat) 1) (M (63 + 2 * k.toNat) 2) la (f + t) = 0 ∧ ¬ (0 ≤ M (63 + 2 * k.toNat + 1) (f + t).toNat ∧ M (63 + 2 * k.toNat + 1) (f + t).toNat ≤ 9) ∧ z = -20 - t ∧ M' = M ∨ ∃ r : Int, (t = n ∧ r = 0 ∨ t < n ∧ r = faS (M (63 + 2 * k.toNat) 1) (M (63 + 2 * k.toNat) 2) la (f + t) ∧ ¬ r = 0) ∧ z = t ∧ M' = sto (rdM M (64 * sc + c) (n) t f (M (63 + 2 * k.toNat + 1))) 0 14 r))) := by
  refine Ct_of (lv := [(0, .ref (E.1 (0))), (1, .int (iI (sc))), (2, .int (iI (k))), (3, .int (iI (la))), (4, .int (iI (f))), (5, .int (iI (c))), (6, .int (iI (n)))]) (by decide) ⟨rfl, rfl⟩ (Nat.le_of_ble_eq_true rfl) rfl (fun x _ B R => ?_)
  refine x_iload_n B dX7_read_0 1 rfl rfl ?_
  refine x_bipush B dX7_read_1 rfl ?_
  refine x_callS B (st := []) (av := [.int (iI (sc)), .int (iI (6))]) dX7_read_3 cs_X7_within kw_495 ⟨rfl, rfl, Nat.le_of_ble_eq_true rfl, Nat.le_of_ble_eq_true rfl⟩ rfl rfl (Nat.le_of_ble_eq_true rfl) (c_X7_within _ E _ sc 6 (by omega) (by omega) (by omega) (by omega)) (k_i (fun z3 Mq hz3 => ?_))
  obtain ⟨rfl, hz3⟩ := hz3
  refine x_if_eq B (tgt := 35) dX7_read_6 (by decide) ⟨by omega, by omega⟩ (fun c6 => ?_) (fun c6 => ?_)
  · show Vx x E M 35 [(0, .ref (E.1 (0))), (1, .int (iI (sc))), (2, .int (iI (k))), (3, .int (iI (la))), (4, .int (iI (f))), (5, .int (iI (c))), (6, .int (iI (n)))] []
    refine x_iconst B dX7_read_35 ?_
    exact r_i B R dX7_read_36 (Or.inl ⟨rfl, rfl, by omega⟩)
  · show Vx x E M 9 [(0, .ref (E.1 (0))), (1, .int (iI (sc))), (2, .int (iI (k))), (3, .int (iI (la))), (4, .int (iI (f))), (5, .int (iI (c))), (6, .int (iI (n)))] []
    refine x_iload_n B dX7_read_9 2 rfl rfl ?_
    refine x_iconst B dX7_read_10 ?_
    refine x_callS B (st := []) (av := [.int (iI (k)), .int (iI (4))]) dX7_read_11 cs_X7_within kw_495 ⟨rfl, rfl, Nat.le_of_ble_eq_true rfl, Nat.le_of_ble_eq_true rfl⟩ rfl rfl (Nat.le_of_ble_eq_true rfl) (c_X7_within _ E _ k 4 (by omega) (by omega) (by omega) (by omega)) (k_i (fun z11 Mq hz11 => ?_))
    obtain ⟨rfl, hz11⟩ := hz11
    refine x_if_eq B (tgt := 35) dX7_read_14 (by decide) ⟨by omega, by omega⟩ (fun c14 => ?_) (fun c14 => ?_)
    · show Vx x E M 35 [(0, .ref (E.1 (0))), (1, .int (iI (sc))), (2, .int (iI (k))), (3, .int (iI (la))), (4, .int (iI (f))), (5, .int (iI (c))), (6, .int (iI (n)))] []
      refine x_iconst B dX7_read_35 ?_
      exact r_i B R dX7_read_36 (Or.inl ⟨rfl, rfl, by omega⟩)
    · show Vx x E M 17 [(0, .ref (E.1 (0))), (1, .int (iI (sc))), (2, .int (iI (k))), (3, .int (iI (la))), (4, .int (iI (f))), (5, .int (iI (c))), (6, .int (iI (n)))] []
      refine x_iload_n B dX7_read_17 3 rfl rfl ?_
      refine x_iconst B dX7_read_18 ?_
      refine x_callS B (st := []) (av := [.int (iI (la)), .int (iI (3))]) dX7_read_19 cs_X7_within kw_495 ⟨rfl, rfl, Nat.le_of_ble_eq_true rfl, Nat.le_of_ble_eq_true rfl⟩ rfl rfl (Nat.le_of_ble_eq_true rfl) (c_X7_within _ E _ la 3 (by omega) (by omega) (by omega) (by omega)) (k_i (fun z19 Mq hz19 => ?_))
      obtain ⟨rfl, hz19⟩ := hz19
      refine x_if_eq B (tgt := 35) dX7_read_22 (by decide) ⟨by omega, by omega⟩ (fun c22 => ?_) (fun c22 => ?_)
      · show Vx x E M 35 [(0, .ref (E.1 (0))), (1, .int (iI (sc))), (2, .int (iI (k))), (3, .int (iI (la))), (4, .int (iI (f))), (5, .int (iI (c))), (6, .int (iI (n)))] []
        refine x_iconst B dX7_read_35 ?_
        exact r_i B R dX7_read_36 (Or.inl ⟨rfl, rfl, by omega⟩)
      · show Vx x E M 25 [(0, .ref (E.1 (0))), (1, .int (iI (sc))), (2, .int (iI (k))), (3, .int (iI (la))), (4, .int (iI (f))), (5, .int (iI (c))), (6, .int (iI (n)))] []
        refine x_iload B dX7_read_25 5 rfl ?_
        refine x_iload B dX7_read_27 6 rfl ?_
        refine x_callS B (st := []) (av := [.int (iI (c)), .int (iI (n))]) dX7_read_29 cs_X7_isPart kw_779 ⟨rfl, rfl, Nat.le_of_ble_eq_true rfl, Nat.le_of_ble_eq_true rfl⟩ rfl rfl (Nat.le_of_ble_eq_true rfl) (c_X7_isPart _ E _ c n (by omega) (by omega) (by omega) (by omega)) (k_i (fun z29 Mq hz29 => ?_))
        obtain ⟨rfl, hz29⟩ := hz29
        refine x_if_ne B (tgt := 37) dX7_read_32 (by decide) ⟨by omega, by omega⟩ (fun c32 => ?_) (fun c32 => ?_)
        · show Vx x E M 37 [(0, .ref (E.1 (0))), (1, .int (iI (sc))), (2, .int (iI (k))), (3, .int (iI (la))), (4, .int (iI (f))), (5, .int (iI (c))), (6, .int (iI (n)))] []
          refine x_aload_n B dX7_read_37 0 rfl rfl ?_
          refine x_getR B (ci := 7) (k := 11) dX7_read_38 rfl rfl rfl (by decide) inGX7 kw_294 ?_
          refine x_iload_n B dX7_read_41 2 rfl rfl ?_
          refine x_aald B dX7_read_42 (k := 3) rfl (by decide) (by decide) rfl (by omega) (by omega) (sh_get (by omega) (by omega)) ?_
          refine x_astore B dX7_read_43 [1, 2, 3, 4, 5, 6, 7, 0] (by decide) (lv' := [(0, .ref (E.1 (0))), (1, .int (iI (sc))), (2, .int (iI (k))), (3, .int (iI (la))), (4, .int (iI (f))), (5, .int (iI (c))), (6, .int (iI (n))), (7, .ref (E.1 ((63 + 2 * ((k).toNat)))))]) rfl ?_
          refine x_iconst B dX7_read_45 ?_
          refine x_istore B dX7_read_46 [1, 2, 3, 4, 5, 6, 7, 8, 0] (by decide) (lv' := [(0, .ref (E.1 (0))), (1, .int (iI (sc))), (2, .int (iI (k))), (3, .int (iI (la))), (4, .int (iI (f))), (5, .int (iI (c))), (6, .int (iI (n))), (7, .ref (E.1 ((63 + 2 * ((k).toNat))))), (8, .int (iI (0)))]) rfl ?_
          refine x_iconst B dX7_read_48 ?_
          refine x_istore B dX7_read_49 [1, 2, 3, 4, 5, 6, 7, 8, 9, 0] (by decide) (lv' := [(0, .ref (E.1 (0))), (1, .int (iI (sc))), (2, .int (iI (k))), (3, .int (iI (la))), (4, .int (iI (f))), (5, .int (iI (c))), (6, .int (iI (n))), (7, .ref (E.1 ((63 + 2 * ((k).toNat))))), (8, .int (iI (0))), (9, .int (iI (0)))]) rfl ?_
          have L51 : ∀ (r : Int) (t : Int), (0 ≤ t ∧ t ≤ n ∧ 0 ≤ r ∧ r ≤ 3 ∧ (t = 0 ∨ 0 ≤ f + t - 1 ∧ f + t - 1 < 64) ∧ toOK (M (63 + 2 * k.toNat) 1) (M (63 + 2 * k.toNat) 2) la f (M (63 + 2 * k.toNat + 1)) t ∧ (r = 0 ∨ t < n ∧ r = faS (M (63 + 2 * k.toNat) 1) (M (63 + 2 * k.toNat) 2) la (f + t))) → Vx x E M 51 [(0, .ref (E.1 (0))), (1, .int (iI (sc))), (2, .int (iI (k))), (3, .int (iI (la))), (4, .int (iI (f))), (5, .int (iI (c))), (6, .int (iI (n))), (7, .ref (E.1 ((63 + 2 * ((k).toNat))))), (8, .int (iI (r))), (9, .int (iI (t)))] [] := by
            refine lo2 _ _ (fun r t => (2 * (n - t) + 1 - min r 1).toNat) ?_
            intro r t hI ih51
            obtain ⟨i1, i2, i3, i4, i5, i6, i7⟩ := hI
            refine x_iload B dX7_read_51 8 rfl ?_
            refine x_if_ne B (tgt := 123) dX7_read_53 (by decide) ⟨by omega, by omega⟩ (fun c53 => ?_) (fun c53 => ?_)
            · show Vx x E M 123 [(0, .ref (E.1 (0))), (1, .int (iI (sc))), (2, .int (iI (k))), (3, .int (iI (la))), (4, .int (iI (f))), (5, .int (iI (c))), (6, .int (iI (n))), (7, .ref (E.1 ((63 + 2 * ((k).toNat))))), (8, .int (iI (r))), (9, .int (iI (t)))] []
              refine x_iconst B dX7_read_123 ?_
              refine x_istore B dX7_read_124 [1, 2, 3, 4, 5, 6, 7, 8, 9, 10, 0] (by decide) (lv' := [(0, .ref (E.1 (0))), (1, .int (iI (sc))), (2, .int (iI (k))), (3, .int (iI (la))), (4, .int (iI (f))), (5, .int (iI (c))), (6, .int (iI (n))), (7, .ref (E.1 ((63 + 2 * ((k).toNat))))), (8, .int (iI (r))), (9, .int (iI (t))), (10, .int (iI (0)))]) rfl ?_
              have L126 : ∀ (i : Int) (M1 : Mem), (0 ≤ i ∧ i ≤ n ∧ M1 = rdM M (64 * sc + c) (i) t f (M (63 + 2 * k.toNat + 1))) → Vx x E M1 126 [(0, .ref (E.1 (0))), (1, .int (iI (sc))), (2, .int (iI (k))), (3, .int (iI (la))), (4, .int (iI (f))), (5, .int (iI (c))), (6, .int (iI (n))), (7, .ref (E.1 ((63 + 2 * ((k).toNat))))), (8, .int (iI (r))), (9, .int (iI (t))), (10, .int (iI (i)))] [] := by
                refine lo2 _ _ (fun i M1 => (n - i).toNat) ?_
                intro i M1 hI ih126
                obtain ⟨n1, n2, n3⟩ := hI
                refine x_iload B dX7_read_126 10 rfl ?_
                refine x_iload B dX7_read_128 6 rfl ?_
                refine x_icmp_ge B (tgt := 176) dX7_read_130 (by decide) ⟨by omega, by omega⟩ ⟨by omega, by omega⟩ (fun c130 => ?_) (fun c130 => ?_)
                · show Vx x E M1 176 [(0, .ref (E.1 (0))), (1, .int (iI (sc))), (2, .int (iI (k))), (3, .int (iI (la))), (4, .int (iI (f))), (5, .int (iI (c))), (6, .int (iI (n))), (7, .ref (E.1 ((63 + 2 * ((k).toNat))))), (8, .int (iI (r))), (9, .int (iI (t))), (10, .int (iI (i)))] []
                  refine x_aload_n B dX7_read_176 0 rfl rfl ?_
                  refine x_iload B dX7_read_177 8 rfl ?_
                  refine x_put B (ci := 7) (k := 14) (lo := 0) (hi := 3) (ty := .int) dX7_read_179 rfl rfl rfl (by decide) inGX7 tyX7_ok nmX7 kw_297 rfl (by decide +kernel) (nar_i _) (fit_i _) rfl (by omega) (by omega) ?_
                  refine x_iload B dX7_read_182 9 rfl ?_
                  exact r_i B R dX7_read_184 (Or.inr ⟨by omega, t, by omega, by omega, i6, Or.inr ⟨r, by omega, rfl, by rw [n3, show i = n by omega]⟩⟩)
                · show Vx x E M1 133 [(0, .ref (E.1 (0))), (1, .int (iI (sc))), (2, .int (iI (k))), (3, .int (iI (la))), (4, .int (iI (f))), (5, .int (iI (c))), (6, .int (iI (n))), (7, .ref (E.1 ((63 + 2 * ((k).toNat))))), (8, .int (iI (r))), (9, .int (iI (t))), (10, .int (iI (i)))] []
                  refine x_aload_n B dX7_read_133 0 rfl rfl ?_
                  refine x_getR B (ci := 7) (k := 3) dX7_read_134 rfl rfl rfl (by decide) inGX7 kw_286 ?_
                  refine x_iload_n B dX7_read_137 1 rfl rfl ?_
                  refine x_bipush B dX7_read_138 rfl ?_
                  refine x_imul B dX7_read_140 ?_
                  refine x_iload B dX7_read_141 5 rfl ?_
                  refine x_iadd B dX7_read_143 ?_
                  refine x_iload B dX7_read_144 10 rfl ?_
                  refine x_iadd B dX7_read_146 ?_
                  refine x_iload B dX7_read_147 10 rfl ?_
                  refine x_iload B dX7_read_149 9 rfl ?_
                  have J169 : ∀ (v : Int), (v = (if i < t then M (63 + 2 * k.toNat + 1) (f + i).toNat else 0) ∧ 0 ≤ v ∧ v ≤ 9) → Vx x E M1 169 [(0, .ref (E.1 (0))), (1, .int (iI (sc))), (2, .int (iI (k))), (3, .int (iI (la))), (4, .int (iI (f))), (5, .int (iI (c))), (6, .int (iI (n))), (7, .ref (E.1 ((63 + 2 * ((k).toNat))))), (8, .int (iI (r))), (9, .int (iI (t))), (10, .int (iI (i)))] [.int (iI (v)), .int (iI (((sc * 64) + c) + i)), .ref (E.1 (12))] := by
                    intro v hJ
                    obtain ⟨r1, r2, r3⟩ := hJ
                    refine x_iast B (lo := 0) (hi := 9) dX7_read_169 rfl (by omega) (by omega) rfl (by omega) (by omega) ?_
                    refine x_iinc B (q := 10) dX7_read_170 rfl [1, 2, 3, 4, 5, 6, 7, 8, 9, 10, 0] (by decide) (lv' := [(0, .ref (E.1 (0))), (1, .int (iI (sc))), (2, .int (iI (k))), (3, .int (iI (la))), (4, .int (iI (f))), (5, .int (iI (c))), (6, .int (iI (n))), (7, .ref (E.1 ((63 + 2 * ((k).toNat))))), (8, .int (iI (r))), (9, .int (iI (t))), (10, .int (iI (i + 1)))]) rfl ?_
                    refine x_goto B (tgt := 126) dX7_read_173 (by decide) ?_
                    exact ih126 (i + 1) (sto M1 12 (((sc * 64) + c) + i).toNat v) (⟨by omega, by omega, by rw [n3, show (sc * 64 + c + i).toNat = (64 * sc + c + i).toNat by omega]; exact rdM_s (by omega) n1 r1⟩) (by omega)
                  refine x_icmp_ge B (tgt := 168) dX7_read_151 (by decide) ⟨by omega, by omega⟩ ⟨by omega, by omega⟩ (fun c151 => ?_) (fun c151 => ?_)
                  · show Vx x E M1 168 [(0, .ref (E.1 (0))), (1, .int (iI (sc))), (2, .int (iI (k))), (3, .int (iI (la))), (4, .int (iI (f))), (5, .int (iI (c))), (6, .int (iI (n))), (7, .ref (E.1 ((63 + 2 * ((k).toNat))))), (8, .int (iI (r))), (9, .int (iI (t))), (10, .int (iI (i)))] [.int (iI (((sc * 64) + c) + i)), .ref (E.1 (12))]
                    refine x_iconst B dX7_read_168 ?_
                    exact J169 0 (⟨by rw [if_neg (by omega)], by omega, by omega⟩)
                  · show Vx x E M1 154 [(0, .ref (E.1 (0))), (1, .int (iI (sc))), (2, .int (iI (k))), (3, .int (iI (la))), (4, .int (iI (f))), (5, .int (iI (c))), (6, .int (iI (n))), (7, .ref (E.1 ((63 + 2 * ((k).toNat))))), (8, .int (iI (r))), (9, .int (iI (t))), (10, .int (iI (i)))] [.int (iI (((sc * 64) + c) + i)), .ref (E.1 (12))]
                    have hok := i6 i n1 (by omega)
                    have hf0 := faS_0 hok.1
                    refine x_wf (fun hwf => ?_)
                    have hsz : M (63 + 2 * k.toNat) 1 ≤ 64 := by
                      rw [n3] at hwf
                      have h := (hwf (63 + 2 * k.toNat) 1).2
                      rw [rS_o1 k.toNat (by omega), rdM_f (by omega)] at h
                      exact h
                    refine x_aload B dX7_read_154 7 rfl ?_
                    refine x_getR B (ci := 6) (k := 0) dX7_read_156 (tS_o ((k).toNat) (by omega)) rfl rfl (by decide) inGX6 kw_272 ?_
                    refine x_iload B dX7_read_159 4 rfl ?_
                    refine x_iload B dX7_read_161 10 rfl ?_
                    refine x_iadd B dX7_read_163 ?_
                    refine x_iald B (lo := -2147483648) (hi := 2147483647) dX7_read_164 (tS_1 ((k).toNat) (by omega)) (by omega) (by omega) (rS_1 ((k).toNat) _ (by omega)) (fun z164 ez164 lz164 uz164 => ?_)
                    have e164 : z164 = M (63 + 2 * k.toNat + 1) (f + i).toNat := by rw [Is_e ez164, n3, rdM_f (by omega)]
                    refine x_goto B (tgt := 169) dX7_read_165 (by decide) ?_
                    exact J169 z164 (⟨by rw [if_pos (by omega)]; exact e164, by omega, by omega⟩)
              exact L126 0 M (⟨by omega, by omega, rdM_0⟩)
            · show Vx x E M 56 [(0, .ref (E.1 (0))), (1, .int (iI (sc))), (2, .int (iI (k))), (3, .int (iI (la))), (4, .int (iI (f))), (5, .int (iI (c))), (6, .int (iI (n))), (7, .ref (E.1 ((63 + 2 * ((k).toNat))))), (8, .int (iI (r))), (9, .int (iI (t)))] []
              refine x_iload B dX7_read_56 9 rfl ?_
              refine x_iload B dX7_read_58 6 rfl ?_
              refine x_icmp_ge B (tgt := 123) dX7_read_60 (by decide) ⟨by omega, by omega⟩ ⟨by omega, by omega⟩ (fun c60 => ?_) (fun c60 => ?_)
              · show Vx x E M 123 [(0, .ref (E.1 (0))), (1, .int (iI (sc))), (2, .int (iI (k))), (3, .int (iI (la))), (4, .int (iI (f))), (5, .int (iI (c))), (6, .int (iI (n))), (7, .ref (E.1 ((63 + 2 * ((k).toNat))))), (8, .int (iI (r))), (9, .int (iI (t)))] []
                refine x_iconst B dX7_read_123 ?_
                refine x_istore B dX7_read_124 [1, 2, 3, 4, 5, 6, 7, 8, 9, 10, 0] (by decide) (lv' := [(0, .ref (E.1 (0))), (1, .int (iI (sc))), (2, .int (iI (k))), (3, .int (iI (la))), (4, .int (iI (f))), (5, .int (iI (c))), (6, .int (iI (n))), (7, .ref (E.1 ((63 + 2 * ((k).toNat))))), (8, .int (iI (r))), (9, .int (iI (t))), (10, .int (iI (0)))]) rfl ?_
                have L126 : ∀ (i : Int) (M1 : Mem), (0 ≤ i ∧ i ≤ n ∧ M1 = rdM M (64 * sc + c) (i) t f (M (63 + 2 * k.toNat + 1))) → Vx x E M1 126 [(0, .ref (E.1 (0))), (1, .int (iI (sc))), (2, .int (iI (k))), (3, .int (iI (la))), (4, .int (iI (f))), (5, .int (iI (c))), (6, .int (iI (n))), (7, .ref (E.1 ((63 + 2 * ((k).toNat))))), (8, .int (iI (r))), (9, .int (iI (t))), (10, .int (iI (i)))] [] := by
                  refine lo2 _ _ (fun i M1 => (n - i).toNat) ?_
                  intro i M1 hI ih126
                  obtain ⟨n1, n2, n3⟩ := hI
                  refine x_iload B dX7_read_126 10 rfl ?_
                  refine x_iload B dX7_read_128 6 rfl ?_
                  refine x_icmp_ge B (tgt := 176) dX7_read_130 (by decide) ⟨by omega, by omega⟩ ⟨by omega, by omega⟩ (fun c130 => ?_) (fun c130 => ?_)
                  · show Vx x E M1 176 [(0, .ref (E.1 (0))), (1, .int (iI (sc))), (2, .int (iI (k))), (3, .int (iI (la))), (4, .int (iI (f))), (5, .int (iI (c))), (6, .int (iI (n))), (7, .ref (E.1 ((63 + 2 * ((k).toNat))))), (8, .int (iI (r))), (9, .int (iI (t))), (10, .int (iI (i)))] []
                    refine x_aload_n B dX7_read_176 0 rfl rfl ?_
                    refine x_iload B dX7_read_177 8 rfl ?_
                    refine x_put B (ci := 7) (k := 14) (lo := 0) (hi := 3) (ty := .int) dX7_read_179 rfl rfl rfl (by decide) inGX7 tyX7_ok nmX7 kw_297 rfl (by decide +kernel) (nar_i _) (fit_i _) rfl (by omega) (by omega) ?_
                    refine x_iload B dX7_read_182 9 rfl ?_
                    exact r_i B R dX7_read_184 (Or.inr ⟨by omega, t, by omega, by omega, i6, Or.inr ⟨r, by omega, rfl, by rw [n3, show i = n by omega]⟩⟩)
                  · show Vx x E M1 133 [(0, .ref (E.1 (0))), (1, .int (iI (sc))), (2, .int (iI (k))), (3, .int (iI (la))), (4, .int (iI (f))), (5, .int (iI (c))), (6, .int (iI (n))), (7, .ref (E.1 ((63 + 2 * ((k).toNat))))), (8, .int (iI (r))), (9, .int (iI (t))), (10, .int (iI (i)))] []
                    refine x_aload_n B dX7_read_133 0 rfl rfl ?_
                    refine x_getR B (ci := 7) (k := 3) dX7_read_134 rfl rfl rfl (by decide) inGX7 kw_286 ?_
                    refine x_iload_n B dX7_read_137 1 rfl rfl ?_
                    refine x_bipush B dX7_read_138 rfl ?_
                    refine x_imul B dX7_read_140 ?_
                    refine x_iload B dX7_read_141 5 rfl ?_
                    refine x_iadd B dX7_read_143 ?_
                    refine x_iload B dX7_read_144 10 rfl ?_
                    refine x_iadd B dX7_read_146 ?_
                    refine x_iload B dX7_read_147 10 rfl ?_
                    refine x_iload B dX7_read_149 9 rfl ?_
                    have J169 : ∀ (v : Int), (v = (if i < t then M (63 + 2 * k.toNat + 1) (f + i).toNat else 0) ∧ 0 ≤ v ∧ v ≤ 9) → Vx x E M1 169 [(0, .ref (E.1 (0))), (1, .int (iI (sc))), (2, .int (iI (k))), (3, .int (iI (la))), (4, .int (iI (f))), (5, .int (iI (c))), (6, .int (iI (n))), (7, .ref (E.1 ((63 + 2 * ((k).toNat))))), (8, .int (iI (r))), (9, .int (iI (t))), (10, .int (iI (i)))] [.int (iI (v)), .int (iI (((sc * 64) + c) + i)), .ref (E.1 (12))] := by
                      intro v hJ
                      obtain ⟨r1, r2, r3⟩ := hJ
                      refine x_iast B (lo := 0) (hi := 9) dX7_read_169 rfl (by omega) (by omega) rfl (by omega) (by omega) ?_
                      refine x_iinc B (q := 10) dX7_read_170 rfl [1, 2, 3, 4, 5, 6, 7, 8, 9, 10, 0] (by decide) (lv' := [(0, .ref (E.1 (0))), (1, .int (iI (sc))), (2, .int (iI (k))), (3, .int (iI (la))), (4, .int (iI (f))), (5, .int (iI (c))), (6, .int (iI (n))), (7, .ref (E.1 ((63 + 2 * ((k).toNat))))), (8, .int (iI (r))), (9, .int (iI (t))), (10, .int (iI (i + 1)))]) rfl ?_
                      refine x_goto B (tgt := 126) dX7_read_173 (by decide) ?_
                      exact ih126 (i + 1) (sto M1 12 (((sc * 64) + c) + i).toNat v) (⟨by omega, by omega, by rw [n3, show (sc * 64 + c + i).toNat = (64 * sc + c + i).toNat by omega]; exact rdM_s (by omega) n1 r1⟩) (by omega)
                    refine x_icmp_ge B (tgt := 168) dX7_read_151 (by decide) ⟨by omega, by omega⟩ ⟨by omega, by omega⟩ (fun c151 => ?_) (fun c151 => ?_)
                    · show Vx x E M1 168 [(0, .ref (E.1 (0))), (1, .int (iI (sc))), (2, .int (iI (k))), (3, .int (iI (la))), (4, .int (iI (f))), (5, .int (iI (c))), (6, .int (iI (n))), (7, .ref (E.1 ((63 + 2 * ((k).toNat))))), (8, .int (iI (r))), (9, .int (iI (t))), (10, .int (iI (i)))] [.int (iI (((sc * 64) + c) + i)), .ref (E.1 (12))]
                      refine x_iconst B dX7_read_168 ?_
                      exact J169 0 (⟨by rw [if_neg (by omega)], by omega, by omega⟩)
                    · show Vx x E M1 154 [(0, .ref (E.1 (0))), (1, .int (iI (sc))), (2, .int (iI (k))), (3, .int (iI (la))), (4, .int (iI (f))), (5, .int (iI (c))), (6, .int (iI (n))), (7, .ref (E.1 ((63 + 2 * ((k).toNat))))), (8, .int (iI (r))), (9, .int (iI (t))), (10, .int (iI (i)))] [.int (iI (((sc * 64) + c) + i)), .ref (E.1 (12))]
                      have hok := i6 i n1 (by omega)
                      have hf0 := faS_0 hok.1
                      refine x_wf (fun hwf => ?_)
                      have hsz : M (63 + 2 * k.toNat) 1 ≤ 64 := by
                        rw [n3] at hwf
                        have h := (hwf (63 + 2 * k.toNat) 1).2
                        rw [rS_o1 k.toNat (by omega), rdM_f (by omega)] at h
                        exact h
                      refine x_aload B dX7_read_154 7 rfl ?_
                      refine x_getR B (ci := 6) (k := 0) dX7_read_156 (tS_o ((k).toNat) (by omega)) rfl rfl (by decide) inGX6 kw_272 ?_
                      refine x_iload B dX7_read_159 4 rfl ?_
                      refine x_iload B dX7_read_161 10 rfl ?_
                      refine x_iadd B dX7_read_163 ?_
                      refine x_iald B (lo := -2147483648) (hi := 2147483647) dX7_read_164 (tS_1 ((k).toNat) (by omega)) (by omega) (by omega) (rS_1 ((k).toNat) _ (by omega)) (fun z164 ez164 lz164 uz164 => ?_)
                      have e164 : z164 = M (63 + 2 * k.toNat + 1) (f + i).toNat := by rw [Is_e ez164, n3, rdM_f (by omega)]
                      refine x_goto B (tgt := 169) dX7_read_165 (by decide) ?_
                      exact J169 z164 (⟨by rw [if_pos (by omega)]; exact e164, by omega, by omega⟩)
                exact L126 0 M (⟨by omega, by omega, rdM_0⟩)
              · show Vx x E M 63 [(0, .ref (E.1 (0))), (1, .int (iI (sc))), (2, .int (iI (k))), (3, .int (iI (la))), (4, .int (iI (f))), (5, .int (iI (c))), (6, .int (iI (n))), (7, .ref (E.1 ((63 + 2 * ((k).toNat))))), (8, .int (iI (r))), (9, .int (iI (t)))] []
                refine x_aload B dX7_read_63 7 rfl ?_
                refine x_iload_n B dX7_read_65 3 rfl rfl ?_
                refine x_iload B dX7_read_66 4 rfl ?_
                refine x_iload B dX7_read_68 9 rfl ?_
                refine x_iadd B dX7_read_70 ?_
                refine x_callV B (st := []) (av := [.int (iI (la)), .int (iI (f + t))]) dX7_read_71 cs_X6_faultAsOf kw_782 ⟨rfl, rfl, Nat.le_of_ble_eq_true rfl, Nat.le_of_ble_eq_true rfl⟩ rfl rfl (Nat.le_of_ble_eq_true rfl) (rc_obj B (ci := 6) (tS_o ((k).toNat) (by omega)) rfl rfl) (c_X6_faultAsOf _ E _ ((k).toNat) la (f + t) (by omega) (by omega) (by omega) (by omega) (by omega)) (k_i (fun z71 Mq hz71 => ?_))
                obtain ⟨rfl, hz71⟩ := hz71
                refine x_istore B dX7_read_74 [1, 2, 3, 4, 5, 6, 7, 8, 0, 9] (by decide) (lv' := [(0, .ref (E.1 (0))), (1, .int (iI (sc))), (2, .int (iI (k))), (3, .int (iI (la))), (4, .int (iI (f))), (5, .int (iI (c))), (6, .int (iI (n))), (7, .ref (E.1 ((63 + 2 * ((k).toNat))))), (8, .int (iI (z71))), (9, .int (iI (t)))]) rfl ?_
                have hfa := faS_of hz71
                refine x_wf (fun hwf => ?_)
                have hsz : M (63 + 2 * k.toNat) 1 ≤ 64 := by
                  have h := (hwf (63 + 2 * k.toNat) 1).2
                  rw [rS_o1 k.toNat (by omega)] at h
                  exact h
                refine x_iload B dX7_read_76 8 rfl ?_
                refine x_if_ne B (tgt := 51) dX7_read_78 (by decide) ⟨by omega, by omega⟩ (fun c78 => ?_) (fun c78 => ?_)
                · show Vx x E M 51 [(0, .ref (E.1 (0))), (1, .int (iI (sc))), (2, .int (iI (k))), (3, .int (iI (la))), (4, .int (iI (f))), (5, .int (iI (c))), (6, .int (iI (n))), (7, .ref (E.1 ((63 + 2 * ((k).toNat))))), (8, .int (iI (z71))), (9, .int (iI (t)))] []
                  exact ih51 z71 t (⟨by omega, by omega, by omega, by omega, by omega, i6, Or.inr ⟨by omega, hfa⟩⟩) (by omega)
                · show Vx x E M 81 [(0, .ref (E.1 (0))), (1, .int (iI (sc))), (2, .int (iI (k))), (3, .int (iI (la))), (4, .int (iI (f))), (5, .int (iI (c))), (6, .int (iI (n))), (7, .ref (E.1 ((63 + 2 * ((k).toNat))))), (8, .int (iI (z71))), (9, .int (iI (t)))] []
                  refine x_aload B dX7_read_81 7 rfl ?_
                  refine x_getR B (ci := 6) (k := 0) dX7_read_83 (tS_o ((k).toNat) (by omega)) rfl rfl (by decide) inGX6 kw_272 ?_
                  refine x_iload B dX7_read_86 4 rfl ?_
                  refine x_iload B dX7_read_88 9 rfl ?_
                  refine x_iadd B dX7_read_90 ?_
                  refine x_iald B (lo := -2147483648) (hi := 2147483647) dX7_read_91 (tS_1 ((k).toNat) (by omega)) (by omega) (by omega) (rS_1 ((k).toNat) _ (by omega)) (fun z91 ez91 lz91 uz91 => ?_)
                  have e91 := Is_e ez91
                  refine x_if_lt B (tgt := 111) dX7_read_92 (by decide) ⟨by omega, by omega⟩ (fun c92 => ?_) (fun c92 => ?_)
                  · show Vx x E M 111 [(0, .ref (E.1 (0))), (1, .int (iI (sc))), (2, .int (iI (k))), (3, .int (iI (la))), (4, .int (iI (f))), (5, .int (iI (c))), (6, .int (iI (n))), (7, .ref (E.1 ((63 + 2 * ((k).toNat))))), (8, .int (iI (z71))), (9, .int (iI (t)))] []
                    refine x_bipush B dX7_read_111 rfl ?_
                    refine x_iload B dX7_read_113 9 rfl ?_
                    refine x_isub B dX7_read_115 ?_
                    exact r_i B R dX7_read_116 (Or.inr ⟨by omega, t, by omega, by omega, i6, Or.inl ⟨by omega, by omega, by rw [← e91]; omega, rfl, rfl⟩⟩)
                  · show Vx x E M 95 [(0, .ref (E.1 (0))), (1, .int (iI (sc))), (2, .int (iI (k))), (3, .int (iI (la))), (4, .int (iI (f))), (5, .int (iI (c))), (6, .int (iI (n))), (7, .ref (E.1 ((63 + 2 * ((k).toNat))))), (8, .int (iI (z71))), (9, .int (iI (t)))] []
                    refine x_aload B dX7_read_95 7 rfl ?_
                    refine x_getR B (ci := 6) (k := 0) dX7_read_97 (tS_o ((k).toNat) (by omega)) rfl rfl (by decide) inGX6 kw_272 ?_
                    refine x_iload B dX7_read_100 4 rfl ?_
                    refine x_iload B dX7_read_102 9 rfl ?_
                    refine x_iadd B dX7_read_104 ?_
                    refine x_iald B (lo := -2147483648) (hi := 2147483647) dX7_read_105 (tS_1 ((k).toNat) (by omega)) (by omega) (by omega) (rS_1 ((k).toNat) _ (by omega)) (fun z105 ez105 lz105 uz105 => ?_)
                    have e105 := Is_e ez105
                    refine x_bipush B dX7_read_106 rfl ?_
                    refine x_icmp_le B (tgt := 117) dX7_read_108 (by decide) ⟨by omega, by omega⟩ ⟨by omega, by omega⟩ (fun c108 => ?_) (fun c108 => ?_)
                    · show Vx x E M 117 [(0, .ref (E.1 (0))), (1, .int (iI (sc))), (2, .int (iI (k))), (3, .int (iI (la))), (4, .int (iI (f))), (5, .int (iI (c))), (6, .int (iI (n))), (7, .ref (E.1 ((63 + 2 * ((k).toNat))))), (8, .int (iI (z71))), (9, .int (iI (t)))] []
                      refine x_iinc B (q := 9) dX7_read_117 rfl [1, 2, 3, 4, 5, 6, 7, 8, 9, 0] (by decide) (lv' := [(0, .ref (E.1 (0))), (1, .int (iI (sc))), (2, .int (iI (k))), (3, .int (iI (la))), (4, .int (iI (f))), (5, .int (iI (c))), (6, .int (iI (n))), (7, .ref (E.1 ((63 + 2 * ((k).toNat))))), (8, .int (iI (z71))), (9, .int (iI (t + 1)))]) rfl ?_
                      refine x_goto B (tgt := 51) dX7_read_120 (by decide) ?_
                      exact ih51 z71 (t + 1) (⟨by omega, by omega, by omega, by omega, by omega, fun i h0 h1 => if h : i < t then i6 i h0 h else by rw [show i = t by omega, ← hfa, ← e91]; omega, Or.inl (by omega)⟩) (by omega)
                    · show Vx x E M 111 [(0, .ref (E.1 (0))), (1, .int (iI (sc))), (2, .int (iI (k))), (3, .int (iI (la))), (4, .int (iI (f))), (5, .int (iI (c))), (6, .int (iI (n))), (7, .ref (E.1 ((63 + 2 * ((k).toNat))))), (8, .int (iI (z71))), (9, .int (iI (t)))] []
                      refine x_bipush B dX7_read_111 rfl ?_
                      refine x_iload B dX7_read_113 9 rfl ?_
                      refine x_isub B dX7_read_115 ?_
                      exact r_i B R dX7_read_116 (Or.inr ⟨by omega, t, by omega, by omega, i6, Or.inl ⟨by omega, by omega, by rw [← e105]; omega, rfl, rfl⟩⟩)
          exact L51 0 0 (⟨by omega, by omega, by omega, by omega, by omega, fun i h0 h1 => by omega, Or.inl rfl⟩)
        · show Vx x E M 35 [(0, .ref (E.1 (0))), (1, .int (iI (sc))), (2, .int (iI (k))), (3, .int (iI (la))), (4, .int (iI (f))), (5, .int (iI (c))), (6, .int (iI (n)))] []
          refine x_iconst B dX7_read_35 ?_
          exact r_i B R dX7_read_36 (Or.inl ⟨rfl, rfl, by omega⟩)
