/-- a NUMBER is read within its bounds -/
def rnR (M : Mem) (lo hi : Int) (M' : Mem) (z : Int) : Prop := ¬ M 7 2 = 0 ∧ M' = M ∧ z = lo ∨ M 7 2 = 0 ∧ ∃ nx kd va sa wr wa : Int, tkV (M 11) (M 7 1) (M 7 5) (M 7 6) (M 7 7) (M 7 2) (M 7 3) nx kd va sa wr wa ∧ ((¬ wr = 0 ∧ z = lo ∧ M' = skM M nx kd va sa wr wa) ∨ (wr = 0 ∧ ¬ kd = 2 ∧ z = lo ∧ M' = skM M nx kd va sa 2 sa) ∨ (wr = 0 ∧ kd = 2 ∧ ¬ (lo ≤ va ∧ va ≤ hi) ∧ z = lo ∧ M' = skM M nx kd va sa 3 sa) ∨ (wr = 0 ∧ kd = 2 ∧ (lo ≤ va ∧ va ≤ hi) ∧ z = va ∧ M' = skM M nx kd va sa 0 wa))
/-- a STOP is read -/
def rsR (M M' : Mem) : Prop := ¬ M 7 2 = 0 ∧ M' = M ∨ M 7 2 = 0 ∧ ∃ nx kd va sa wr wa : Int, tkV (M 11) (M 7 1) (M 7 5) (M 7 6) (M 7 7) (M 7 2) (M 7 3) nx kd va sa wr wa ∧ (¬ wr = 0 ∧ M' = skM M nx kd va sa wr wa ∨ wr = 0 ∧ ¬ kd = 3 ∧ M' = skM M nx kd va sa 2 sa ∨ wr = 0 ∧ kd = 3 ∧ M' = skM M nx kd va sa 0 wa)
def rfM (M : Mem) (w : Int) : Mem := skM M (M 7 5) (M 7 6) (M 7 7) (M 7 8) w (M 7 8)
/-- a POINT not told yet is read -/
def rpR (M : Mem) (told : Int) (M' : Mem) (z : Int) : Prop := ∃ M1 : Mem, rnR M 0 15 M1 z ∧ (¬ M1 7 2 = 0 ∧ M' = M1 ∨ M1 7 2 = 0 ∧ told.toNat.testBit z.toNat = false ∧ M' = M1 ∨ M1 7 2 = 0 ∧ told.toNat.testBit z.toNat = true ∧ M' = rfM M1 4)
abbrev rm_X5_readNumber : Room := { frames := 8, cells := 0, slots := 0, locals := 168 }
theorem cs_X5_readNumber : Cv yX5_readNumber cX5_readNumber 3 (some .int) 2 := ⟨kw_452, ⟨kw_451, kw_9⟩, kw_60, by decide, by decide, by decide +kernel⟩
set_option maxHeartbeats 4000000 in
set_option maxRecDepth 100000 in
theorem c_X5_readNumber (l : Launch) (E : Ev) (M : Mem) (lo hi : Int) (g1 : 0 ≤ lo) (g2 : lo ≤ hi) (g3 : hi ≤ 99) : Ct l yX5_readNumber cX5_readNumber 3 (some .int) rm_X5_readNumber E M [.ref (E.1 (7)), .int (iI (lo)), .int (iI (hi))] (pI (fun z M' => rnR M lo hi M' z ∧ lo ≤ z ∧ z ≤ hi)) := by
  refine Ct_of (lv := [(0, .ref (E.1 (7))), (1, .int (iI (lo))), (2, .int (iI (hi)))]) (by decide) ⟨rfl, rfl⟩ (Nat.le_of_ble_eq_true rfl) rfl (fun x _ B R => ?_)
  refine x_aload_n B dX5_readNumber_0 0 rfl rfl ?_
  refine x_getI B (ci := 5) (k := 2) (lo := 0) (hi := 4) dX5_readNumber_1 rfl rfl rfl (by decide) inGX5 kw_125 rfl (fun z1 ez1 lz1 uz1 => ?_)
  have e1 := Is_e ez1
  refine x_if_eq B (tgt := 9) dX5_readNumber_4 (by decide) ⟨by omega, by omega⟩ (fun c4 => ?_) (fun c4 => ?_)
  · show Vx x E M 9 [(0, .ref (E.1 (7))), (1, .int (iI (lo))), (2, .int (iI (hi)))] []
    refine x_aload_n B dX5_readNumber_9 0 rfl rfl ?_
    refine x_callV B (st := []) (av := []) dX5_readNumber_10 cs_X5_takeToken kw_337 ⟨rfl, rfl, Nat.le_of_ble_eq_true rfl, Nat.le_of_ble_eq_true rfl⟩ rfl rfl (Nat.le_of_ble_eq_true rfl) (rc_obj B (ci := 5) rfl rfl rfl) (c_X5_takeToken _ E _ ) (k_v (fun M10 hz10 => ?_))
    obtain ⟨nx, kd, va, sa, wr, wa, htk, hM⟩ := hz10
    subst hM
    refine x_aload_n B dX5_readNumber_13 0 rfl rfl ?_
    refine x_getI B (ci := 5) (k := 2) (lo := 0) (hi := 4) dX5_readNumber_14 rfl rfl rfl (by decide) inGX5 kw_125 rfl (fun z14 ez14 lz14 uz14 => ?_)
    have e14 : z14 = wr := Is_e ez14
    have J33 : ∀ (Mj : Mem), (∃ w2 a2 : Int, Mj = skM M nx kd va sa w2 a2 ∧ (¬ wr = 0 ∧ w2 = wr ∧ a2 = wa ∨ wr = 0 ∧ ¬ kd = 2 ∧ w2 = 2 ∧ a2 = sa ∨ wr = 0 ∧ kd = 2 ∧ w2 = 0 ∧ a2 = wa)) → Vx x E Mj 33 [(0, .ref (E.1 (7))), (1, .int (iI (lo))), (2, .int (iI (hi)))] [] := by
      intro Mj hJ
      obtain ⟨w2, a2, hMj, hj⟩ := hJ
      refine x_aload_n B dX5_readNumber_33 0 rfl rfl ?_
      refine x_getI B (ci := 5) (k := 2) (lo := 0) (hi := 4) dX5_readNumber_34 rfl rfl rfl (by decide) inGX5 kw_125 rfl (fun z34 ez34 lz34 uz34 => ?_)
      have e34 : z34 = w2 := by rw [Is_e ez34, hMj]; rfl
      have J61 : ∀ (Mk : Mem), (∃ w3 a3 : Int, Mk = skM M nx kd va sa w3 a3 ∧ (¬ w2 = 0 ∧ w3 = w2 ∧ a3 = a2 ∨ w2 = 0 ∧ ¬ (lo ≤ va ∧ va ≤ hi) ∧ w3 = 3 ∧ a3 = sa ∨ w2 = 0 ∧ (lo ≤ va ∧ va ≤ hi) ∧ w3 = 0 ∧ a3 = a2)) → Vx x E Mk 61 [(0, .ref (E.1 (7))), (1, .int (iI (lo))), (2, .int (iI (hi)))] [] := by
        intro Mk hJ
        obtain ⟨w3, a3, hMk, hk⟩ := hJ
        refine x_aload_n B dX5_readNumber_61 0 rfl rfl ?_
        refine x_getI B (ci := 5) (k := 2) (lo := 0) (hi := 4) dX5_readNumber_62 rfl rfl rfl (by decide) inGX5 kw_125 rfl (fun z62 ez62 lz62 uz62 => ?_)
        have e62 : z62 = w3 := by rw [Is_e ez62, hMk]; rfl
        refine x_if_ne B (tgt := 75) dX5_readNumber_65 (by decide) ⟨by omega, by omega⟩ (fun c65 => ?_) (fun c65 => ?_)
        · show Vx x E Mk 75 [(0, .ref (E.1 (7))), (1, .int (iI (lo))), (2, .int (iI (hi)))] []
          refine x_iload_n B dX5_readNumber_75 1 rfl rfl ?_
          exact r_i B R dX5_readNumber_76 (⟨Or.inr ⟨by rw [← e1]; exact c4, nx, kd, va, sa, wr, wa, htk, by rcases hj with ⟨h1, h2, h3⟩ | ⟨h1, h2, h3, h4⟩ | ⟨h1, h2, h3, h4⟩ <;> rcases hk with ⟨k1, k2, k3⟩ | ⟨k1, k2, k3, k4⟩ | ⟨k1, k2, k3, k4⟩ <;> first | (exfalso; omega) | (left; exact ⟨h1, rfl, by rw [hMk, k2, k3, h2, h3]⟩) | (right; left; exact ⟨h1, h2, rfl, by rw [hMk, k2, k3, h3, h4]⟩) | (right; right; left; exact ⟨h1, h2, k2, rfl, by rw [hMk, k3, k4]⟩)⟩, by omega, by omega⟩)
        · show Vx x E Mk 68 [(0, .ref (E.1 (7))), (1, .int (iI (lo))), (2, .int (iI (hi)))] []
          refine x_aload_n B dX5_readNumber_68 0 rfl rfl ?_
          refine x_getI B (ci := 5) (k := 7) (lo := 0) (hi := 999) dX5_readNumber_69 rfl rfl rfl (by decide) inGX5 kw_132 rfl (fun z69 ez69 lz69 uz69 => ?_)
          have e69 : z69 = va := by rw [Is_e ez69, hMk]; rfl
          refine x_goto B (tgt := 76) dX5_readNumber_72 (by decide) ?_
          exact r_i B R dX5_readNumber_76 (⟨Or.inr ⟨by rw [← e1]; exact c4, nx, kd, va, sa, wr, wa, htk, by rcases hj with ⟨h1, h2, h3⟩ | ⟨h1, h2, h3, h4⟩ | ⟨h1, h2, h3, h4⟩ <;> rcases hk with ⟨k1, k2, k3⟩ | ⟨k1, k2, k3, k4⟩ | ⟨k1, k2, k3, k4⟩ <;> first | (exfalso; omega) | (left; exact ⟨h1, rfl, by rw [hMk, k2, k3, h2, h3]⟩) | (right; left; exact ⟨h1, h2, rfl, by rw [hMk, k2, k3, h3, h4]⟩) | (right; right; left; exact ⟨h1, h2, k2, rfl, by rw [hMk, k3, k4]⟩) | (right; right; right; exact ⟨h1, h2, k2, e69, by rw [hMk, k3, k4, h4]⟩)⟩, by omega, by omega⟩)
      refine x_if_ne B (tgt := 61) dX5_readNumber_37 (by decide) ⟨by omega, by omega⟩ (fun c37 => ?_) (fun c37 => ?_)
      · show Vx x E Mj 61 [(0, .ref (E.1 (7))), (1, .int (iI (lo))), (2, .int (iI (hi)))] []
        exact J61 Mj (⟨w2, a2, hMj, Or.inl ⟨by omega, rfl, rfl⟩⟩)
      · show Vx x E Mj 40 [(0, .ref (E.1 (7))), (1, .int (iI (lo))), (2, .int (iI (hi)))] []
        refine x_aload_n B dX5_readNumber_40 0 rfl rfl ?_
        refine x_getI B (ci := 5) (k := 7) (lo := 0) (hi := 999) dX5_readNumber_41 rfl rfl rfl (by decide) inGX5 kw_132 rfl (fun z41 ez41 lz41 uz41 => ?_)
        have e41 : z41 = va := by rw [Is_e ez41, hMj]; rfl
        refine x_iload_n B dX5_readNumber_44 1 rfl rfl ?_
        refine x_icmp_lt B (tgt := 56) dX5_readNumber_45 (by decide) ⟨by omega, by omega⟩ ⟨by omega, by omega⟩ (fun c45 => ?_) (fun c45 => ?_)
        · show Vx x E Mj 56 [(0, .ref (E.1 (7))), (1, .int (iI (lo))), (2, .int (iI (hi)))] []
          refine x_aload_n B dX5_readNumber_56 0 rfl rfl ?_
          refine x_iconst B dX5_readNumber_57 ?_
          refine x_callV B (st := []) (av := [.int (iI (3))]) dX5_readNumber_58 cs_X5_refuse kw_423 ⟨rfl, rfl, Nat.le_of_ble_eq_true rfl, Nat.le_of_ble_eq_true rfl⟩ rfl rfl (Nat.le_of_ble_eq_true rfl) (rc_obj B (ci := 5) rfl rfl rfl) (c_X5_refuse _ E _ 3 (by omega) (by omega)) (k_v (fun M58 hz58 => ?_))
          exact J61 M58 (⟨3, sa, by rw [hz58, hMj, skM_id]; rfl, Or.inr (Or.inl ⟨by omega, by omega, rfl, rfl⟩)⟩)
        · show Vx x E Mj 48 [(0, .ref (E.1 (7))), (1, .int (iI (lo))), (2, .int (iI (hi)))] []
          refine x_aload_n B dX5_readNumber_48 0 rfl rfl ?_
          refine x_getI B (ci := 5) (k := 7) (lo := 0) (hi := 999) dX5_readNumber_49 rfl rfl rfl (by decide) inGX5 kw_132 rfl (fun z49 ez49 lz49 uz49 => ?_)
          have e49 : z49 = va := by rw [Is_e ez49, hMj]; rfl
          refine x_iload_n B dX5_readNumber_52 2 rfl rfl ?_
          refine x_icmp_le B (tgt := 61) dX5_readNumber_53 (by decide) ⟨by omega, by omega⟩ ⟨by omega, by omega⟩ (fun c53 => ?_) (fun c53 => ?_)
          · show Vx x E Mj 61 [(0, .ref (E.1 (7))), (1, .int (iI (lo))), (2, .int (iI (hi)))] []
            exact J61 Mj (⟨0, a2, by rw [hMj, show w2 = 0 by omega], Or.inr (Or.inr ⟨by omega, by omega, rfl, rfl⟩)⟩)
          · show Vx x E Mj 56 [(0, .ref (E.1 (7))), (1, .int (iI (lo))), (2, .int (iI (hi)))] []
            refine x_aload_n B dX5_readNumber_56 0 rfl rfl ?_
            refine x_iconst B dX5_readNumber_57 ?_
            refine x_callV B (st := []) (av := [.int (iI (3))]) dX5_readNumber_58 cs_X5_refuse kw_423 ⟨rfl, rfl, Nat.le_of_ble_eq_true rfl, Nat.le_of_ble_eq_true rfl⟩ rfl rfl (Nat.le_of_ble_eq_true rfl) (rc_obj B (ci := 5) rfl rfl rfl) (c_X5_refuse _ E _ 3 (by omega) (by omega)) (k_v (fun M58 hz58 => ?_))
            exact J61 M58 (⟨3, sa, by rw [hz58, hMj, skM_id]; rfl, Or.inr (Or.inl ⟨by omega, by omega, rfl, rfl⟩)⟩)
    refine x_if_ne B (tgt := 33) dX5_readNumber_17 (by decide) ⟨by omega, by omega⟩ (fun c17 => ?_) (fun c17 => ?_)
    · show Vx x E (skM M nx kd va sa wr wa) 33 [(0, .ref (E.1 (7))), (1, .int (iI (lo))), (2, .int (iI (hi)))] []
      exact J33 (skM M nx kd va sa wr wa) (⟨wr, wa, rfl, Or.inl ⟨by omega, rfl, rfl⟩⟩)
    · show Vx x E (skM M nx kd va sa wr wa) 20 [(0, .ref (E.1 (7))), (1, .int (iI (lo))), (2, .int (iI (hi)))] []
      refine x_aload_n B dX5_readNumber_20 0 rfl rfl ?_
      refine x_getI B (ci := 5) (k := 6) (lo := 0) (hi := 3) dX5_readNumber_21 rfl rfl rfl (by decide) inGX5 kw_131 rfl (fun z21 ez21 lz21 uz21 => ?_)
      have e21 : z21 = kd := Is_e ez21
      refine x_iconst B dX5_readNumber_24 ?_
      refine x_icmp_eq B (tgt := 33) dX5_readNumber_25 (by decide) ⟨by omega, by omega⟩ ⟨by omega, by omega⟩ (fun c25 => ?_) (fun c25 => ?_)
      · show Vx x E (skM M nx kd va sa wr wa) 33 [(0, .ref (E.1 (7))), (1, .int (iI (lo))), (2, .int (iI (hi)))] []
        exact J33 (skM M nx kd va sa wr wa) (⟨0, wa, by rw [show wr = 0 by omega], Or.inr (Or.inr ⟨by omega, by omega, rfl, rfl⟩)⟩)
      · show Vx x E (skM M nx kd va sa wr wa) 28 [(0, .ref (E.1 (7))), (1, .int (iI (lo))), (2, .int (iI (hi)))] []
        refine x_aload_n B dX5_readNumber_28 0 rfl rfl ?_
        refine x_iconst B dX5_readNumber_29 ?_
        refine x_callV B (st := []) (av := [.int (iI (2))]) dX5_readNumber_30 cs_X5_refuse kw_423 ⟨rfl, rfl, Nat.le_of_ble_eq_true rfl, Nat.le_of_ble_eq_true rfl⟩ rfl rfl (Nat.le_of_ble_eq_true rfl) (rc_obj B (ci := 5) rfl rfl rfl) (c_X5_refuse _ E _ 2 (by omega) (by omega)) (k_v (fun M30 hz30 => ?_))
        exact J33 M30 (⟨2, sa, by rw [hz30, skM_id]; rfl, Or.inr (Or.inl ⟨by omega, by omega, rfl, rfl⟩)⟩)
  · show Vx x E M 7 [(0, .ref (E.1 (7))), (1, .int (iI (lo))), (2, .int (iI (hi)))] []
    refine x_iload_n B dX5_readNumber_7 1 rfl rfl ?_
    exact r_i B R dX5_readNumber_8 (⟨Or.inl ⟨by rw [← e1]; exact c4, rfl, rfl⟩, by omega, by omega⟩)
abbrev rm_X5_readStop : Room := { frames := 8, cells := 0, slots := 0, locals := 168 }
theorem cs_X5_readStop : Cv yX5_readStop cX5_readStop 1 none 0 := ⟨kw_464, ⟨kw_463, kw_11⟩, kw_60, by decide, by decide, by decide +kernel⟩
set_option maxHeartbeats 4000000 in
set_option maxRecDepth 100000 in
theorem c_X5_readStop (l : Launch) (E : Ev) (M : Mem)   : Ct l yX5_readStop cX5_readStop 1 none rm_X5_readStop E M [.ref (E.1 (7))] (pV (fun M' => rsR M M')) := by
  refine Ct_of (lv := [(0, .ref (E.1 (7)))]) (by decide) ⟨rfl, rfl⟩ (Nat.le_of_ble_eq_true rfl) rfl (fun x _ B R => ?_)
  refine x_aload_n B dX5_readStop_0 0 rfl rfl ?_
  refine x_getI B (ci := 5) (k := 2) (lo := 0) (hi := 4) dX5_readStop_1 rfl rfl rfl (by decide) inGX5 kw_125 rfl (fun z1 ez1 lz1 uz1 => ?_)
  have e1 := Is_e ez1
  refine x_if_eq B (tgt := 8) dX5_readStop_4 (by decide) ⟨by omega, by omega⟩ (fun c4 => ?_) (fun c4 => ?_)
  · show Vx x E M 8 [(0, .ref (E.1 (7)))] []
    refine x_aload_n B dX5_readStop_8 0 rfl rfl ?_
    refine x_callV B (st := []) (av := []) dX5_readStop_9 cs_X5_takeToken kw_337 ⟨rfl, rfl, Nat.le_of_ble_eq_true rfl, Nat.le_of_ble_eq_true rfl⟩ rfl rfl (Nat.le_of_ble_eq_true rfl) (rc_obj B (ci := 5) rfl rfl rfl) (c_X5_takeToken _ E _ ) (k_v (fun M9 hz9 => ?_))
    obtain ⟨nx, kd, va, sa, wr, wa, htk, hM⟩ := hz9
    subst hM
    refine x_aload_n B dX5_readStop_12 0 rfl rfl ?_
    refine x_getI B (ci := 5) (k := 2) (lo := 0) (hi := 4) dX5_readStop_13 rfl rfl rfl (by decide) inGX5 kw_125 rfl (fun z13 ez13 lz13 uz13 => ?_)
    have e13 : z13 = wr := Is_e ez13
    refine x_if_ne B (tgt := 32) dX5_readStop_16 (by decide) ⟨by omega, by omega⟩ (fun c16 => ?_) (fun c16 => ?_)
    · show Vx x E (skM M nx kd va sa wr wa) 32 [(0, .ref (E.1 (7)))] []
      exact r_v B R dX5_readStop_32 (Or.inr ⟨by rw [← e1]; exact c4, nx, kd, va, sa, wr, wa, htk, Or.inl ⟨by omega, rfl⟩⟩)
    · show Vx x E (skM M nx kd va sa wr wa) 19 [(0, .ref (E.1 (7)))] []
      refine x_aload_n B dX5_readStop_19 0 rfl rfl ?_
      refine x_getI B (ci := 5) (k := 6) (lo := 0) (hi := 3) dX5_readStop_20 rfl rfl rfl (by decide) inGX5 kw_131 rfl (fun z20 ez20 lz20 uz20 => ?_)
      have e20 : z20 = kd := Is_e ez20
      refine x_iconst B dX5_readStop_23 ?_
      refine x_icmp_eq B (tgt := 32) dX5_readStop_24 (by decide) ⟨by omega, by omega⟩ ⟨by omega, by omega⟩ (fun c24 => ?_) (fun c24 => ?_)
      · show Vx x E (skM M nx kd va sa wr wa) 32 [(0, .ref (E.1 (7)))] []
        exact r_v B R dX5_readStop_32 (Or.inr ⟨by rw [← e1]; exact c4, nx, kd, va, sa, wr, wa, htk, Or.inr (Or.inr ⟨by omega, by omega, by rw [show wr = 0 by omega]⟩)⟩)
      · show Vx x E (skM M nx kd va sa wr wa) 27 [(0, .ref (E.1 (7)))] []
        refine x_aload_n B dX5_readStop_27 0 rfl rfl ?_
        refine x_iconst B dX5_readStop_28 ?_
        refine x_callV B (st := []) (av := [.int (iI (2))]) dX5_readStop_29 cs_X5_refuse kw_423 ⟨rfl, rfl, Nat.le_of_ble_eq_true rfl, Nat.le_of_ble_eq_true rfl⟩ rfl rfl (Nat.le_of_ble_eq_true rfl) (rc_obj B (ci := 5) rfl rfl rfl) (c_X5_refuse _ E _ 2 (by omega) (by omega)) (k_v (fun M29 hz29 => ?_))
        exact r_v B R dX5_readStop_32 (Or.inr ⟨by rw [← e1]; exact c4, nx, kd, va, sa, wr, wa, htk, Or.inr (Or.inl ⟨by omega, by omega, by rw [hz29, skM_id]; rfl⟩)⟩)
  · show Vx x E M 7 [(0, .ref (E.1 (7)))] []
    exact r_v B R dX5_readStop_7 (Or.inl ⟨by rw [← e1]; exact c4, rfl⟩)
abbrev rm_X5_readNewPoint : Room := { frames := 9, cells := 0, slots := 0, locals := 190 }
theorem cs_X5_readNewPoint : Cv yX5_readNewPoint cX5_readNewPoint 3 (some .int) 1 := ⟨kw_448, ⟨kw_447, kw_8⟩, kw_60, by decide, by decide, by decide +kernel⟩
set_option maxHeartbeats 4000000 in
set_option maxRecDepth 100000 in
theorem c_X5_readNewPoint (l : Launch) (E : Ev) (M : Mem) (t : Int) (g1 : 0 ≤ t) (g2 : t ≤ 65535) : Ct l yX5_readNewPoint cX5_readNewPoint 3 (some .int) rm_X5_readNewPoint E M [.ref (E.1 (7)), .int (iI (t))] (pI (fun z M' => rpR M t M' z ∧ 0 ≤ z ∧ z ≤ 15)) := by
  refine Ct_of (lv := [(0, .ref (E.1 (7))), (1, .int (iI (t)))]) (by decide) ⟨rfl, rfl⟩ (Nat.le_of_ble_eq_true rfl) rfl (fun x _ B R => ?_)
  refine x_aload_n B dX5_readNewPoint_0 0 rfl rfl ?_
  refine x_iconst B dX5_readNewPoint_1 ?_
  refine x_bipush B dX5_readNewPoint_2 rfl ?_
  refine x_callV B (st := []) (av := [.int (iI (0)), .int (iI (15))]) dX5_readNewPoint_4 cs_X5_readNumber kw_449 ⟨rfl, rfl, Nat.le_of_ble_eq_true rfl, Nat.le_of_ble_eq_true rfl⟩ rfl rfl (Nat.le_of_ble_eq_true rfl) (rc_obj B (ci := 5) rfl rfl rfl) (c_X5_readNumber _ E _ 0 15 (by omega) (by omega) (by omega)) (k_i (fun z4 M4 hz4 => ?_))
  refine x_istore_n B dX5_readNewPoint_7 [1, 2, 0] rfl (by decide) (lv' := [(0, .ref (E.1 (7))), (1, .int (iI (t))), (2, .int (iI (z4)))]) rfl ?_
  have hz4a := hz4.1
  have hz4b := hz4.2.1
  have hz4c := hz4.2.2
  refine x_aload_n B dX5_readNewPoint_8 0 rfl rfl ?_
  refine x_getI B (ci := 5) (k := 2) (lo := 0) (hi := 4) dX5_readNewPoint_9 rfl rfl rfl (by decide) inGX5 kw_125 rfl (fun z9 ez9 lz9 uz9 => ?_)
  have e9 := Is_e ez9
  refine x_if_ne B (tgt := 29) dX5_readNewPoint_12 (by decide) ⟨by omega, by omega⟩ (fun c12 => ?_) (fun c12 => ?_)
  · show Vx x E M4 29 [(0, .ref (E.1 (7))), (1, .int (iI (t))), (2, .int (iI (z4)))] []
    refine x_iload_n B dX5_readNewPoint_29 2 rfl rfl ?_
    exact r_i B R dX5_readNewPoint_30 (⟨⟨M4, hz4a, Or.inl ⟨by rw [← e9]; exact c12, rfl⟩⟩, by omega, by omega⟩)
  · show Vx x E M4 15 [(0, .ref (E.1 (7))), (1, .int (iI (t))), (2, .int (iI (z4)))] []
    refine x_iload_n B dX5_readNewPoint_15 1 rfl rfl ?_
    refine x_iload_n B dX5_readNewPoint_16 2 rfl rfl ?_
    refine x_callSN B 0 (st := []) (av := [.int (iI (t)), .int (iI (z4))]) dX5_readNewPoint_17 cs_X7_bit rfl ⟨rfl, rfl, Nat.le_of_ble_eq_true rfl, Nat.le_of_ble_eq_true rfl⟩ rfl rfl (Nat.le_of_ble_eq_true rfl) (c_X7_bit _ E _ t z4 (by omega) (by omega) (by omega) (by omega)) (k_i (fun z17 Mq hz17 => ?_))
    obtain ⟨rfl, hz17⟩ := hz17
    refine x_iconst B dX5_readNewPoint_20 ?_
    refine x_icmp_ne B (tgt := 29) dX5_readNewPoint_21 (by decide) ⟨by omega, by omega⟩ ⟨by omega, by omega⟩ (fun c21 => ?_) (fun c21 => ?_)
    · show Vx x E M4 29 [(0, .ref (E.1 (7))), (1, .int (iI (t))), (2, .int (iI (z4)))] []
      refine x_iload_n B dX5_readNewPoint_29 2 rfl rfl ?_
      exact r_i B R dX5_readNewPoint_30 (⟨⟨M4, hz4a, Or.inr (Or.inl ⟨by rw [← e9]; omega, by rcases hz17 with ⟨h5, h6⟩ | ⟨h5, h6⟩ <;> first | omega | exact h6, rfl⟩)⟩, by omega, by omega⟩)
    · show Vx x E M4 24 [(0, .ref (E.1 (7))), (1, .int (iI (t))), (2, .int (iI (z4)))] []
      refine x_aload_n B dX5_readNewPoint_24 0 rfl rfl ?_
      refine x_iconst B dX5_readNewPoint_25 ?_
      refine x_callV B (st := []) (av := [.int (iI (4))]) dX5_readNewPoint_26 cs_X5_refuse kw_423 ⟨rfl, rfl, Nat.le_of_ble_eq_true rfl, Nat.le_of_ble_eq_true rfl⟩ rfl rfl (Nat.le_of_ble_eq_true rfl) (rc_obj B (ci := 5) rfl rfl rfl) (c_X5_refuse _ E _ 4 (by omega) (by omega)) (k_v (fun M26 hz26 => ?_))
      refine x_iload_n B dX5_readNewPoint_29 2 rfl rfl ?_
      exact r_i B R dX5_readNewPoint_30 (⟨⟨M4, hz4a, Or.inr (Or.inr ⟨by rw [← e9]; omega, by rcases hz17 with ⟨h5, h6⟩ | ⟨h5, h6⟩ <;> first | omega | exact h6, hz26⟩)⟩, by omega, by omega⟩)
