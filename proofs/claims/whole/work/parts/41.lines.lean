theorem tk_16 {B : Nat → Int} {len nx0 kd0 va0 wr0 wa0 nx kd va st wr wa : Int} (h : tkV B len nx0 kd0 va0 wr0 wa0 nx kd va st wr wa) (hw : wr = 0) (hk : kd = 1) : va < 16 := by
  rcases h.2 with h1 | ⟨-, ⟨-, -, -, -, h2, -⟩ | ⟨-, -, -, h2, -⟩ | ⟨-, -, h2, -⟩ | ⟨-, -, -, -, h2, -⟩⟩
  · omega
  · by_cases c : 16 ≤ va
    · rw [if_pos c] at h2
      omega
    · omega
  · omega
  · omega
  · omega
/-- a WAY is read -/
def rwR (M M' : Mem) : Prop := ∃ nx kd va sa wr wa : Int, tkV (M 11) (M 7 1) (M 7 5) (M 7 6) (M 7 7) (M 7 2) (M 7 3) nx kd va sa wr wa ∧ (¬ wr = 0 ∧ M' = skM M nx kd va sa wr wa ∨ wr = 0 ∧ ¬ (kd = 1 ∧ 13 ≤ va) ∧ M' = skM M nx kd va sa 2 sa ∨ wr = 0 ∧ (kd = 1 ∧ 13 ≤ va) ∧ M' = sto (skM M nx kd va sa 0 wa) 9 0 (va - 13))
def orP (a p : Int) : Int := ((a.toNat ||| 2 ^ p.toNat : Nat) : Int)
/-- a POINT and its LEAST are read -/
def rtR (M M' : Mem) : Prop := ∃ (M1 M2 : Mem) (p z : Int), (0 ≤ p ∧ p ≤ 15) ∧ rpR M (M 7 10) M1 p ∧ rnR (sto M1 7 10 (orP (M1 7 10) p)) 1 9 M2 z ∧ M' = sto M2 10 p.toNat z
abbrev rm_X5_readWay : Room := { frames := 8, cells := 0, slots := 0, locals := 168 }
theorem cs_X5_readWay : Cv yX5_readWay cX5_readWay 1 none 0 := ⟨kw_444, ⟨kw_443, kw_7⟩, kw_60, by decide, by decide, by decide +kernel⟩
set_option maxHeartbeats 4000000 in
set_option maxRecDepth 100000 in
theorem c_X5_readWay (l : Launch) (E : Ev) (M : Mem)   : Ct l yX5_readWay cX5_readWay 1 none rm_X5_readWay E M [.ref (E.1 (7))] (pV (fun M' => rwR M M')) := by
  refine Ct_of (lv := [(0, .ref (E.1 (7)))]) (by decide) ⟨rfl, rfl⟩ (Nat.le_of_ble_eq_true rfl) rfl (fun x _ B R => ?_)
  refine x_aload_n B dX5_readWay_0 0 rfl rfl ?_
  refine x_callV B (st := []) (av := []) dX5_readWay_1 cs_X5_takeToken kw_337 ⟨rfl, rfl, Nat.le_of_ble_eq_true rfl, Nat.le_of_ble_eq_true rfl⟩ rfl rfl (Nat.le_of_ble_eq_true rfl) (rc_obj B (ci := 5) rfl rfl rfl) (c_X5_takeToken _ E _ ) (k_v (fun M1 hz1 => ?_))
  obtain ⟨nx, kd, va, sa, wr, wa, htk, hM⟩ := hz1
  subst hM
  refine x_aload_n B dX5_readWay_4 0 rfl rfl ?_
  refine x_getI B (ci := 5) (k := 2) (lo := 0) (hi := 4) dX5_readWay_5 rfl rfl rfl (by decide) inGX5 kw_125 rfl (fun z5 ez5 lz5 uz5 => ?_)
  have e5 : z5 = wr := Is_e ez5
  have J33 : ∀ (Mj : Mem), (∃ w2 a2 : Int, Mj = skM M nx kd va sa w2 a2 ∧ (¬ wr = 0 ∧ w2 = wr ∧ a2 = wa ∨ wr = 0 ∧ ¬ (kd = 1 ∧ 13 ≤ va) ∧ w2 = 2 ∧ a2 = sa ∨ wr = 0 ∧ (kd = 1 ∧ 13 ≤ va) ∧ w2 = 0 ∧ a2 = wa)) → Vx x E Mj 33 [(0, .ref (E.1 (7)))] [] := by
    intro Mj hJ
    obtain ⟨w2, a2, hMj, hj⟩ := hJ
    refine x_aload_n B dX5_readWay_33 0 rfl rfl ?_
    refine x_getI B (ci := 5) (k := 2) (lo := 0) (hi := 4) dX5_readWay_34 rfl rfl rfl (by decide) inGX5 kw_125 rfl (fun z34 ez34 lz34 uz34 => ?_)
    have e34 : z34 = w2 := by rw [Is_e ez34, hMj]; rfl
    refine x_if_ne B (tgt := 56) dX5_readWay_37 (by decide) ⟨by omega, by omega⟩ (fun c37 => ?_) (fun c37 => ?_)
    · show Vx x E Mj 56 [(0, .ref (E.1 (7)))] []
      exact r_v B R dX5_readWay_56 (⟨nx, kd, va, sa, wr, wa, htk, by rcases hj with ⟨h1, h2, h3⟩ | ⟨h1, h2, h3, h4⟩ | ⟨h1, h2, h3, h4⟩ <;> first | (exfalso; omega) | (left; exact ⟨h1, by rw [hMj, h2, h3]⟩) | (right; left; exact ⟨h1, h2, by rw [hMj, h3, h4]⟩)⟩)
    · show Vx x E Mj 40 [(0, .ref (E.1 (7)))] []
      refine x_aload_n B dX5_readWay_40 0 rfl rfl ?_
      refine x_getR B (ci := 5) (k := 0) dX5_readWay_41 rfl rfl rfl (by decide) inGX5 kw_121 ?_
      refine x_getR B (ci := 1) (k := 0) dX5_readWay_44 rfl rfl rfl (by decide) inGX1 kw_101 ?_
      refine x_iconst B dX5_readWay_47 ?_
      refine x_aload_n B dX5_readWay_48 0 rfl rfl ?_
      refine x_getI B (ci := 5) (k := 7) (lo := 0) (hi := 999) dX5_readWay_49 rfl rfl rfl (by decide) inGX5 kw_132 rfl (fun z49 ez49 lz49 uz49 => ?_)
      have e49 : z49 = va := by rw [Is_e ez49, hMj]; rfl
      have h16 : va < 16 ∧ 13 ≤ va := by
        rcases hj with ⟨h1, h2, h3⟩ | ⟨h1, h2, h3, h4⟩ | ⟨h1, h2, h3, h4⟩
        · omega
        · omega
        · exact ⟨tk_16 htk h1 h2.1, h2.2⟩
      refine x_bipush B dX5_readWay_52 rfl ?_
      refine x_isub B dX5_readWay_54 ?_
      refine x_iast B (lo := 0) (hi := 2) dX5_readWay_55 rfl (by omega) (by omega) rfl (by omega) (by omega) ?_
      exact r_v B R dX5_readWay_56 (⟨nx, kd, va, sa, wr, wa, htk, by rcases hj with ⟨h1, h2, h3⟩ | ⟨h1, h2, h3, h4⟩ | ⟨h1, h2, h3, h4⟩ <;> first | (exfalso; omega) | (right; right; exact ⟨h1, h2, by rw [e49, hMj, h3, h4]; rfl⟩)⟩)
  refine x_if_ne B (tgt := 33) dX5_readWay_8 (by decide) ⟨by omega, by omega⟩ (fun c8 => ?_) (fun c8 => ?_)
  · show Vx x E (skM M nx kd va sa wr wa) 33 [(0, .ref (E.1 (7)))] []
    exact J33 (skM M nx kd va sa wr wa) (⟨wr, wa, rfl, Or.inl ⟨by omega, rfl, rfl⟩⟩)
  · show Vx x E (skM M nx kd va sa wr wa) 11 [(0, .ref (E.1 (7)))] []
    refine x_aload_n B dX5_readWay_11 0 rfl rfl ?_
    refine x_getI B (ci := 5) (k := 6) (lo := 0) (hi := 3) dX5_readWay_12 rfl rfl rfl (by decide) inGX5 kw_131 rfl (fun z12 ez12 lz12 uz12 => ?_)
    have e12 : z12 = kd := Is_e ez12
    refine x_iconst B dX5_readWay_15 ?_
    refine x_icmp_ne B (tgt := 28) dX5_readWay_16 (by decide) ⟨by omega, by omega⟩ ⟨by omega, by omega⟩ (fun c16 => ?_) (fun c16 => ?_)
    · show Vx x E (skM M nx kd va sa wr wa) 28 [(0, .ref (E.1 (7)))] []
      refine x_aload_n B dX5_readWay_28 0 rfl rfl ?_
      refine x_iconst B dX5_readWay_29 ?_
      refine x_callV B (st := []) (av := [.int (iI (2))]) dX5_readWay_30 cs_X5_refuse kw_423 ⟨rfl, rfl, Nat.le_of_ble_eq_true rfl, Nat.le_of_ble_eq_true rfl⟩ rfl rfl (Nat.le_of_ble_eq_true rfl) (rc_obj B (ci := 5) rfl rfl rfl) (c_X5_refuse _ E _ 2 (by omega) (by omega)) (k_v (fun M30 hz30 => ?_))
      exact J33 M30 (⟨2, sa, by rw [hz30, skM_id]; rfl, Or.inr (Or.inl ⟨by omega, by omega, rfl, rfl⟩)⟩)
    · show Vx x E (skM M nx kd va sa wr wa) 19 [(0, .ref (E.1 (7)))] []
      refine x_aload_n B dX5_readWay_19 0 rfl rfl ?_
      refine x_getI B (ci := 5) (k := 7) (lo := 0) (hi := 999) dX5_readWay_20 rfl rfl rfl (by decide) inGX5 kw_132 rfl (fun z20 ez20 lz20 uz20 => ?_)
      have e20 : z20 = va := Is_e ez20
      refine x_bipush B dX5_readWay_23 rfl ?_
      refine x_icmp_ge B (tgt := 33) dX5_readWay_25 (by decide) ⟨by omega, by omega⟩ ⟨by omega, by omega⟩ (fun c25 => ?_) (fun c25 => ?_)
      · show Vx x E (skM M nx kd va sa wr wa) 33 [(0, .ref (E.1 (7)))] []
        exact J33 (skM M nx kd va sa wr wa) (⟨0, wa, by rw [show wr = 0 by omega], Or.inr (Or.inr ⟨by omega, by omega, rfl, rfl⟩)⟩)
      · show Vx x E (skM M nx kd va sa wr wa) 28 [(0, .ref (E.1 (7)))] []
        refine x_aload_n B dX5_readWay_28 0 rfl rfl ?_
        refine x_iconst B dX5_readWay_29 ?_
        refine x_callV B (st := []) (av := [.int (iI (2))]) dX5_readWay_30 cs_X5_refuse kw_423 ⟨rfl, rfl, Nat.le_of_ble_eq_true rfl, Nat.le_of_ble_eq_true rfl⟩ rfl rfl (Nat.le_of_ble_eq_true rfl) (rc_obj B (ci := 5) rfl rfl rfl) (c_X5_refuse _ E _ 2 (by omega) (by omega)) (k_v (fun M30 hz30 => ?_))
        exact J33 M30 (⟨2, sa, by rw [hz30, skM_id]; rfl, Or.inr (Or.inl ⟨by omega, by omega, rfl, rfl⟩)⟩)
abbrev rm_X5_readLeast : Room := { frames := 10, cells := 0, slots := 0, locals := 212 }
theorem cs_X5_readLeast : Cv yX5_readLeast cX5_readLeast 2 none 0 := ⟨kw_456, ⟨kw_455, kw_10⟩, kw_60, by decide, by decide, by decide +kernel⟩
set_option maxHeartbeats 4000000 in
set_option maxRecDepth 100000 in
theorem c_X5_readLeast (l : Launch) (E : Ev) (M : Mem)   : Ct l yX5_readLeast cX5_readLeast 2 none rm_X5_readLeast E M [.ref (E.1 (7))] (pV (fun M' => rtR M M')) := by
  refine Ct_of (lv := [(0, .ref (E.1 (7)))]) (by decide) ⟨rfl, rfl⟩ (Nat.le_of_ble_eq_true rfl) rfl (fun x _ B R => ?_)
  refine x_aload_n B dX5_readLeast_0 0 rfl rfl ?_
  refine x_aload_n B dX5_readLeast_1 0 rfl rfl ?_
  refine x_getI B (ci := 5) (k := 10) (lo := 0) (hi := 65535) dX5_readLeast_2 rfl rfl rfl (by decide) inGX5 kw_135 rfl (fun z2 ez2 lz2 uz2 => ?_)
  refine x_callV B (st := []) (av := [.int (iI (z2))]) dX5_readLeast_5 cs_X5_readNewPoint kw_445 ⟨rfl, rfl, Nat.le_of_ble_eq_true rfl, Nat.le_of_ble_eq_true rfl⟩ rfl rfl (Nat.le_of_ble_eq_true rfl) (rc_obj B (ci := 5) rfl rfl rfl) (c_X5_readNewPoint _ E _ z2 (by omega) (by omega)) (k_i (fun z5 M5 hz5 => ?_))
  refine x_istore_n B dX5_readLeast_8 [1, 0] rfl (by decide) (lv' := [(0, .ref (E.1 (7))), (1, .int (iI (z5)))]) rfl ?_
  have hp0 := hz5.2.1
  have hp1 := hz5.2.2
  refine x_aload_n B dX5_readLeast_9 0 rfl rfl ?_
  refine x_dup B dX5_readLeast_10 rfl ?_
  refine x_getI B (ci := 5) (k := 10) (lo := 0) (hi := 65535) dX5_readLeast_11 rfl rfl rfl (by decide) inGX5 kw_135 rfl (fun z11 ez11 lz11 uz11 => ?_)
  refine x_iconst B dX5_readLeast_14 ?_
  refine x_iload_n B dX5_readLeast_15 1 rfl rfl ?_
  refine x_shl1 B dX5_readLeast_16 (by omega) (by omega) ?_
  have o16 := or16 (a := z11) (p := z5) (by omega) (by omega) (by omega) (by omega)
  refine x_ior B dX5_readLeast_17 (by omega) (Int.natCast_nonneg _) ?_
  refine x_put B (ci := 5) (k := 10) (lo := 0) (hi := 65535) (ty := .int) dX5_readLeast_18 rfl rfl rfl (by decide) inGX5 tyX5_ok nmX5 kw_135 rfl (by decide +kernel) (nar_i _) (fit_i _) rfl o16.1 o16.2 ?_
  refine x_aload_n B dX5_readLeast_21 0 rfl rfl ?_
  refine x_getR B (ci := 5) (k := 0) dX5_readLeast_22 rfl rfl rfl (by decide) inGX5 kw_121 ?_
  refine x_getR B (ci := 1) (k := 1) dX5_readLeast_25 rfl rfl rfl (by decide) inGX1 kw_104 ?_
  refine x_iload_n B dX5_readLeast_28 1 rfl rfl ?_
  refine x_aload_n B dX5_readLeast_29 0 rfl rfl ?_
  refine x_iconst B dX5_readLeast_30 ?_
  refine x_bipush B dX5_readLeast_31 rfl ?_
  refine x_callV B (st := [.int (iI (z5)), .ref (E.1 (10))]) (av := [.int (iI (1)), .int (iI (9))]) dX5_readLeast_33 cs_X5_readNumber kw_449 ⟨rfl, rfl, Nat.le_of_ble_eq_true rfl, Nat.le_of_ble_eq_true rfl⟩ rfl rfl (Nat.le_of_ble_eq_true rfl) (rc_obj B (ci := 5) rfl rfl rfl) (c_X5_readNumber _ E _ 1 9 (by omega) (by omega) (by omega)) (k_i (fun z33 M33 hz33 => ?_))
  have hn0 := hz33.2.1
  have hn1 := hz33.2.2
  refine x_iast B (lo := 1) (hi := 9) dX5_readLeast_36 rfl (by omega) (by omega) rfl (by omega) (by omega) ?_
  exact r_v B R dX5_readLeast_37 (⟨M5, M33, z5, z33, ⟨hp0, hp1⟩, by rw [← Is_e ez2]; exact hz5.1, by have h := hz33.1; rw [Is_e ez11, Int.toNat_natCast] at h; exact h, rfl⟩)
