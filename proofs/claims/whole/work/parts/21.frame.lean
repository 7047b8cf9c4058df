abbrev rm_X0_lightAt : Room := { frames := 0, cells := 0, slots := 0, locals := 0 }
theorem cs_X0_lightAt : Cs yX0_lightAt cX0_lightAt 8 (some .int) 4 := ⟨kw_535, kw_534, kw_62, by decide, by decide, by decide +kernel⟩
set_option maxHeartbeats 4000000 in
set_option maxRecDepth 100000 in
theorem c_X0_lightAt (l : Launch) (E : Ev) (M : Mem) (s0 pl p : Int) (g1 : 0 ≤ s0) (g2 : s0 ≤ 320) (g3 : 0 ≤ pl) (g4 : pl ≤ 25) (g5 : 0 ≤ p) (g6 : p < 16) : Ct l yX0_lightAt cX0_lightAt 8 (some .int) rm_X0_lightAt E M [.ref (E.1 (12)), .int (iI (s0)), .int (iI (pl)), .int (iI (p))] (pI (fun z M' => M = M' ∧ (z = hasF (M 12) s0 pl p ∧ 0 ≤ z ∧ z ≤ 9))) := by
  refine Ct_of (lv := [(0, .ref (E.1 (12))), (1, .int (iI (s0))), (2, .int (iI (pl))), (3, .int (iI (p)))]) (by decide) ⟨rfl, rfl⟩ (Nat.le_of_ble_eq_true rfl) rfl (fun x _ B R => ?_)
  refine x_iload_n B dX0_lightAt_0 3 rfl rfl ?_
  refine x_iconst B dX0_lightAt_1 ?_
  refine x_idiv B dX0_lightAt_2 ⟨by omega, by omega⟩ (by omega) ⟨by omega, by omega⟩ (by omega) ?_
  refine x_istore B dX0_lightAt_3 [1, 2, 3, 4, 0] (by decide) (lv' := [(0, .ref (E.1 (12))), (1, .int (iI (s0))), (2, .int (iI (pl))), (3, .int (iI (p))), (4, .int (iI (p / 4)))]) rfl ?_
  refine x_iload_n B dX0_lightAt_5 3 rfl rfl ?_
  refine x_iconst B dX0_lightAt_6 ?_
  refine x_irem B dX0_lightAt_7 ⟨by omega, by omega⟩ (by omega) ⟨by omega, by omega⟩ (by omega) ?_
  refine x_istore B dX0_lightAt_8 [1, 2, 3, 4, 5, 0] (by decide) (lv' := [(0, .ref (E.1 (12))), (1, .int (iI (s0))), (2, .int (iI (pl))), (3, .int (iI (p))), (4, .int (iI (p / 4))), (5, .int (iI (p % 4)))]) rfl ?_
  refine x_iload_n B dX0_lightAt_10 2 rfl rfl ?_
  refine x_bipush B dX0_lightAt_11 rfl ?_
  refine x_icmp_eq B (tgt := 37) dX0_lightAt_13 (by decide) ⟨by omega, by omega⟩ ⟨by omega, by omega⟩ (fun c13 => ?_) (fun c13 => ?_)
  · show Vx x E M 37 [(0, .ref (E.1 (12))), (1, .int (iI (s0))), (2, .int (iI (pl))), (3, .int (iI (p))), (4, .int (iI (p / 4))), (5, .int (iI (p % 4)))] []
    refine x_iload_n B dX0_lightAt_37 1 rfl rfl ?_
    refine x_bipush B dX0_lightAt_38 rfl ?_
    refine x_iload B dX0_lightAt_40 4 rfl ?_
    refine x_imul B dX0_lightAt_42 ?_
    refine x_iadd B dX0_lightAt_43 ?_
    refine x_iconst B dX0_lightAt_44 ?_
    refine x_iload B dX0_lightAt_45 5 rfl ?_
    refine x_imul B dX0_lightAt_47 ?_
    refine x_iadd B dX0_lightAt_48 ?_
    refine x_istore B dX0_lightAt_49 [1, 2, 3, 4, 5, 6, 0] (by decide) (lv' := [(0, .ref (E.1 (12))), (1, .int (iI (s0))), (2, .int (iI (pl))), (3, .int (iI (p))), (4, .int (iI (p / 4))), (5, .int (iI (p % 4))), (6, .int (iI ((s0 + (16 * (p / 4))) + (2 * (p % 4)))))]) rfl ?_
    refine x_iload B dX0_lightAt_51 6 rfl ?_
    refine x_bipush B dX0_lightAt_53 rfl ?_
    refine x_iadd B dX0_lightAt_55 ?_
    refine x_istore B dX0_lightAt_56 [1, 2, 3, 4, 5, 6, 7, 0] (by decide) (lv' := [(0, .ref (E.1 (12))), (1, .int (iI (s0))), (2, .int (iI (pl))), (3, .int (iI (p))), (4, .int (iI (p / 4))), (5, .int (iI (p % 4))), (6, .int (iI ((s0 + (16 * (p / 4))) + (2 * (p % 4))))), (7, .int (iI (((s0 + (16 * (p / 4))) + (2 * (p % 4))) + 8)))]) rfl ?_
    refine x_aload_n B dX0_lightAt_58 0 rfl rfl ?_
    refine x_iload B dX0_lightAt_59 6 rfl ?_
    refine x_iald B (lo := 0) (hi := 9) dX0_lightAt_61 rfl (by omega) (by omega) rfl (fun z61 ez61 lz61 uz61 => ?_)
    refine x_aload_n B dX0_lightAt_62 0 rfl rfl ?_
    refine x_iload B dX0_lightAt_63 6 rfl ?_
    refine x_iconst B dX0_lightAt_65 ?_
    refine x_iadd B dX0_lightAt_66 ?_
    refine x_iald B (lo := 0) (hi := 9) dX0_lightAt_67 rfl (by omega) (by omega) rfl (fun z67 ez67 lz67 uz67 => ?_)
    refine x_iadd B dX0_lightAt_68 ?_
    refine x_aload_n B dX0_lightAt_69 0 rfl rfl ?_
    refine x_iload B dX0_lightAt_70 7 rfl ?_
    refine x_iald B (lo := 0) (hi := 9) dX0_lightAt_72 rfl (by omega) (by omega) rfl (fun z72 ez72 lz72 uz72 => ?_)
    refine x_iadd B dX0_lightAt_73 ?_
    refine x_aload_n B dX0_lightAt_74 0 rfl rfl ?_
    refine x_iload B dX0_lightAt_75 7 rfl ?_
    refine x_iconst B dX0_lightAt_77 ?_
    refine x_iadd B dX0_lightAt_78 ?_
    refine x_iald B (lo := 0) (hi := 9) dX0_lightAt_79 rfl (by omega) (by omega) rfl (fun z79 ez79 lz79 uz79 => ?_)
    refine x_iadd B dX0_lightAt_80 ?_
    refine x_iconst B dX0_lightAt_81 ?_
    refine x_idiv B dX0_lightAt_82 ⟨by omega, by omega⟩ (by omega) ⟨by omega, by omega⟩ (by omega) ?_
    exact r_i B R dX0_lightAt_83 (⟨rfl, by unfold hasF; rw [if_pos c13, Is_e ez61, Is_e ez67, Is_e ez72, Is_e ez79], by omega, by omega⟩)
  · show Vx x E M 16 [(0, .ref (E.1 (12))), (1, .int (iI (s0))), (2, .int (iI (pl))), (3, .int (iI (p))), (4, .int (iI (p / 4))), (5, .int (iI (p % 4)))] []
    refine x_aload_n B dX0_lightAt_16 0 rfl rfl ?_
    refine x_iload_n B dX0_lightAt_17 1 rfl rfl ?_
    refine x_bipush B dX0_lightAt_18 rfl ?_
    refine x_iload_n B dX0_lightAt_20 2 rfl rfl ?_
    refine x_iconst B dX0_lightAt_21 ?_
    refine x_idiv B dX0_lightAt_22 ⟨by omega, by omega⟩ (by omega) ⟨by omega, by omega⟩ (by omega) ?_
    refine x_iload B dX0_lightAt_23 4 rfl ?_
    refine x_iadd B dX0_lightAt_25 ?_
    refine x_imul B dX0_lightAt_26 ?_
    refine x_iadd B dX0_lightAt_27 ?_
    refine x_iload_n B dX0_lightAt_28 2 rfl rfl ?_
    refine x_iconst B dX0_lightAt_29 ?_
    refine x_irem B dX0_lightAt_30 ⟨by omega, by omega⟩ (by omega) ⟨by omega, by omega⟩ (by omega) ?_
    refine x_iadd B dX0_lightAt_31 ?_
    refine x_iload B dX0_lightAt_32 5 rfl ?_
    refine x_iadd B dX0_lightAt_34 ?_
    refine x_iald B (lo := 0) (hi := 9) dX0_lightAt_35 rfl (by omega) (by omega) rfl (fun z35 ez35 lz35 uz35 => ?_)
    exact r_i B R dX0_lightAt_36 (⟨rfl, by unfold hasF; rw [if_neg c13, Is_e ez35], by omega, by omega⟩)
abbrev rm_X0_edge : Room := { frames := 1, cells := 0, slots := 0, locals := 21 }
theorem cs_X0_edge : Cv yX0_edge cX0_edge 4 (some .int) 2 := ⟨kw_543, ⟨kw_542, kw_15⟩, kw_62, by decide, by decide, by decide +kernel⟩
set_option maxHeartbeats 4000000 in
set_option maxRecDepth 100000 in
theorem c_X0_edge (l : Launch) (E : Ev) (M : Mem) (f : Nat) (p w : Int) (g1 : f < 7) (g2 : 0 ≤ p) (g3 : p < 16) (g4 : 0 ≤ w) (g5 : w < 4) : Ct l yX0_edge cX0_edge 4 (some .int) rm_X0_edge E M [.ref (E.1 ((16 + 5 * f))), .int (iI (p)), .int (iI (w))] (pI (fun z M' => M = M' ∧ (z = edS (M (16 + 5 * f + 1)) p w ∧ 0 ≤ z ∧ z ≤ 9))) := by
  refine Ct_of (lv := [(0, .ref (E.1 ((16 + 5 * f)))), (1, .int (iI (p))), (2, .int (iI (w)))]) (by decide) ⟨rfl, rfl⟩ (Nat.le_of_ble_eq_true rfl) rfl (fun x _ B R => ?_)
  refine x_getsN B 3 3 dX0_edge_0 rfl rfl ?_
  refine x_iconst B dX0_edge_3 ?_
  refine x_iload_n B dX0_edge_4 1 rfl rfl ?_
  refine x_imul B dX0_edge_5 ?_
  refine x_iload_n B dX0_edge_6 2 rfl rfl ?_
  refine x_iadd B dX0_edge_7 ?_
  refine x_sald B 3 dX0_edge_8 rfl (by omega) (by rw [be_len]; omega) (by decide) (fun z8 ez8 => ?_)
  refine x_istore_n B dX0_edge_9 [1, 2, 3, 0] rfl (by decide) (lv' := [(0, .ref (E.1 ((16 + 5 * f)))), (1, .int (iI (p))), (2, .int (iI (w))), (3, .int (iI (z8)))]) rfl ?_
  have hnb := nbT_in (p := p) (w := w) (by omega) (by omega)
  have fz8 := Is_e ez8
  rw [be_get (by omega) (by omega) (by omega) (by omega)] at fz8
  refine x_iload_n B dX0_edge_10 3 rfl rfl ?_
  have J34 : ∀ (j : Int), (j = edS (M (16 + 5 * f + 1)) p w ∧ 0 ≤ j ∧ j ≤ 9) → Vx x E M 34 [(0, .ref (E.1 ((16 + 5 * f)))), (1, .int (iI (p))), (2, .int (iI (w))), (3, .int (iI (z8)))] [.int (iI (j))] := by
    intro j hJ
    obtain ⟨j1, j2, j3⟩ := hJ
    exact r_i B R dX0_edge_34 (⟨rfl, j1, j2, j3⟩)
  refine x_if_ge B (tgt := 18) dX0_edge_11 (by decide) ⟨by omega, by omega⟩ (fun c11 => ?_) (fun c11 => ?_)
  · show Vx x E M 18 [(0, .ref (E.1 ((16 + 5 * f)))), (1, .int (iI (p))), (2, .int (iI (w))), (3, .int (iI (z8)))] []
    refine x_aload_n B dX0_edge_18 0 rfl rfl ?_
    refine x_getR B (ci := 0) (k := 0) dX0_edge_19 (tF_o f (by omega)) rfl rfl (by decide) inGX0 kw_179 ?_
    refine x_iload_n B dX0_edge_22 1 rfl rfl ?_
    refine x_iald B (lo := 0) (hi := 9) dX0_edge_23 (tF_1 f (by omega)) (by omega) (by omega) (rF_1 f _ (by omega)) (fun z23 ez23 lz23 uz23 => ?_)
    refine x_aload_n B dX0_edge_24 0 rfl rfl ?_
    refine x_getR B (ci := 0) (k := 0) dX0_edge_25 (tF_o f (by omega)) rfl rfl (by decide) inGX0 kw_179 ?_
    refine x_iload_n B dX0_edge_28 3 rfl rfl ?_
    refine x_iald B (lo := 0) (hi := 9) dX0_edge_29 (tF_1 f (by omega)) (by omega) (by omega) (rF_1 f _ (by omega)) (fun z29 ez29 lz29 uz29 => ?_)
    refine x_isub B dX0_edge_30 ?_
    refine x_mabs B (st := []) dX0_edge_31 kw_546 (Nat.le_of_ble_eq_true rfl) (Nat.le_of_ble_eq_true rfl) (Nat.le_of_ble_eq_true rfl) ⟨by omega, by omega⟩ (fun z31 ez31 => ?_)
    exact J34 z31 (by unfold edS; first | (rw [if_pos (by omega)]; exact ⟨rfl, by omega, by omega⟩) | (rw [if_neg (by omega), ← fz8, ← Is_e ez23, ← Is_e ez29]; omega))
  · show Vx x E M 14 [(0, .ref (E.1 ((16 + 5 * f)))), (1, .int (iI (p))), (2, .int (iI (w))), (3, .int (iI (z8)))] []
    refine x_iconst B dX0_edge_14 ?_
    refine x_goto B (tgt := 34) dX0_edge_15 (by decide) ?_
    exact J34 0 (by unfold edS; first | (rw [if_pos (by omega)]; exact ⟨rfl, by omega, by omega⟩) | (rw [if_neg (by omega), ← fz8, ← Is_e ez23, ← Is_e ez29]; omega))
abbrev rm_X0_byWay : Room := { frames := 2, cells := 0, slots := 0, locals := 44 }
theorem cs_X0_byWay : Cv yX0_byWay cX0_byWay 3 (some .int) 2 := ⟨kw_539, ⟨kw_538, kw_14⟩, kw_62, by decide, by decide, by decide +kernel⟩
set_option maxHeartbeats 4000000 in
set_option maxRecDepth 100000 in
theorem c_X0_byWay (l : Launch) (E : Ev) (M : Mem) (f : Nat) (w p : Int) (g1 : f < 7) (g2 : 0 ≤ w) (g3 : w ≤ 2) (g4 : 0 ≤ p) (g5 : p < 16) : Ct l yX0_byWay cX0_byWay 3 (some .int) rm_X0_byWay E M [.ref (E.1 ((16 + 5 * f))), .int (iI (w)), .int (iI (p))] (pI (fun z M' => M = M' ∧ (z = woS w (M (16 + 5 * f + 1)) p ∧ 0 ≤ z ∧ z ≤ 9))) := by
  refine Ct_of (lv := [(0, .ref (E.1 ((16 + 5 * f)))), (1, .int (iI (w))), (2, .int (iI (p)))]) (by decide) ⟨rfl, rfl⟩ (Nat.le_of_ble_eq_true rfl) rfl (fun x _ B R => ?_)
  refine x_iload_n B dX0_byWay_0 1 rfl rfl ?_
  refine x_iconst B dX0_byWay_1 ?_
  refine x_icmp_ne B (tgt := 15) dX0_byWay_2 (by decide) ⟨by omega, by omega⟩ ⟨by omega, by omega⟩ (fun c2 => ?_) (fun c2 => ?_)
  · show Vx x E M 15 [(0, .ref (E.1 ((16 + 5 * f)))), (1, .int (iI (w))), (2, .int (iI (p)))] []
    refine x_iload_n B dX0_byWay_15 1 rfl rfl ?_
    refine x_iconst B dX0_byWay_16 ?_
    have J44 : ∀ (j : Int), (j = woS w (M (16 + 5 * f + 1)) p ∧ 0 ≤ j ∧ j ≤ 9) → Vx x E M 44 [(0, .ref (E.1 ((16 + 5 * f)))), (1, .int (iI (w))), (2, .int (iI (p)))] [.int (iI (j))] := by
      intro j hJ
      obtain ⟨j1, j2, j3⟩ := hJ
      exact r_i B R dX0_byWay_44 (⟨rfl, j1, j2, j3⟩)
    refine x_icmp_ne B (tgt := 38) dX0_byWay_17 (by decide) ⟨by omega, by omega⟩ ⟨by omega, by omega⟩ (fun c17 => ?_) (fun c17 => ?_)
    · show Vx x E M 38 [(0, .ref (E.1 ((16 + 5 * f)))), (1, .int (iI (w))), (2, .int (iI (p)))] []
      refine x_aload_n B dX0_byWay_38 0 rfl rfl ?_
      refine x_getR B (ci := 0) (k := 0) dX0_byWay_39 (tF_o f (by omega)) rfl rfl (by decide) inGX0 kw_179 ?_
      refine x_iload_n B dX0_byWay_42 2 rfl rfl ?_
      refine x_iald B (lo := 0) (hi := 9) dX0_byWay_43 (tF_1 f (by omega)) (by omega) (by omega) (rF_1 f _ (by omega)) (fun z43 ez43 lz43 uz43 => ?_)
      exact J44 z43 (by unfold woS; rw [if_neg (by omega)]; first | (rw [if_pos (by omega), ← ehz23, ← ehz29]; omega) | (rw [if_neg (by omega)]; exact ⟨Is_e ez43, by omega, by omega⟩))
    · show Vx x E M 20 [(0, .ref (E.1 ((16 + 5 * f)))), (1, .int (iI (w))), (2, .int (iI (p)))] []
      refine x_aload_n B dX0_byWay_20 0 rfl rfl ?_
      refine x_iload_n B dX0_byWay_21 2 rfl rfl ?_
      refine x_iconst B dX0_byWay_22 ?_
      refine x_callV B (st := []) (av := [.int (iI (p)), .int (iI (1))]) dX0_byWay_23 cs_X0_edge kw_540 ⟨rfl, rfl, Nat.le_of_ble_eq_true rfl, Nat.le_of_ble_eq_true rfl⟩ rfl rfl (Nat.le_of_ble_eq_true rfl) (rc_obj B (ci := 0) (tF_o f (by omega)) rfl rfl) (c_X0_edge _ E _ f p 1 (by omega) (by omega) (by omega) (by omega) (by omega)) (k_i (fun z23 Mq hz23 => ?_))
      obtain ⟨rfl, hz23⟩ := hz23
      obtain ⟨ehz23, bhz23, dhz23⟩ := hz23
      refine x_aload_n B dX0_byWay_26 0 rfl rfl ?_
      refine x_iload_n B dX0_byWay_27 2 rfl rfl ?_
      refine x_iconst B dX0_byWay_28 ?_
      refine x_callV B (st := [.int (iI (z23))]) (av := [.int (iI (p)), .int (iI (3))]) dX0_byWay_29 cs_X0_edge kw_540 ⟨rfl, rfl, Nat.le_of_ble_eq_true rfl, Nat.le_of_ble_eq_true rfl⟩ rfl rfl (Nat.le_of_ble_eq_true rfl) (rc_obj B (ci := 0) (tF_o f (by omega)) rfl rfl) (c_X0_edge _ E _ f p 3 (by omega) (by omega) (by omega) (by omega) (by omega)) (k_i (fun z29 Mq hz29 => ?_))
      obtain ⟨rfl, hz29⟩ := hz29
      obtain ⟨ehz29, bhz29, dhz29⟩ := hz29
      refine x_mmax B (st := []) dX0_byWay_32 kw_549 (Nat.le_of_ble_eq_true rfl) (Nat.le_of_ble_eq_true rfl) (Nat.le_of_ble_eq_true rfl) ⟨by omega, by omega⟩ ⟨by omega, by omega⟩ (fun z32 ez32 => ?_)
      refine x_goto B (tgt := 44) dX0_byWay_35 (by decide) ?_
      exact J44 z32 (by unfold woS; rw [if_neg (by omega)]; first | (rw [if_pos (by omega), ← ehz23, ← ehz29]; omega) | (rw [if_neg (by omega)]; exact ⟨Is_e ez43, by omega, by omega⟩))
  · show Vx x E M 5 [(0, .ref (E.1 ((16 + 5 * f)))), (1, .int (iI (w))), (2, .int (iI (p)))] []
    refine x_bipush B dX0_byWay_5 rfl ?_
    refine x_aload_n B dX0_byWay_7 0 rfl rfl ?_
    refine x_getR B (ci := 0) (k := 0) dX0_byWay_8 (tF_o f (by omega)) rfl rfl (by decide) inGX0 kw_179 ?_
    refine x_iload_n B dX0_byWay_11 2 rfl rfl ?_
    refine x_iald B (lo := 0) (hi := 9) dX0_byWay_12 (tF_1 f (by omega)) (by omega) (by omega) (rF_1 f _ (by omega)) (fun z12 ez12 lz12 uz12 => ?_)
    refine x_isub B dX0_byWay_13 ?_
    exact r_i B R dX0_byWay_14 (⟨rfl, by unfold woS; rw [if_pos (by omega), Is_e ez12], by omega, by omega⟩)
abbrev rm_X0_firstLiving : Room := { frames := 1, cells := 0, slots := 0, locals := 21 }
theorem cs_X0_firstLiving : Cs yX0_firstLiving cX0_firstLiving 4 (some .int) 2 := ⟨kw_559, kw_558, kw_62, by decide, by decide, by decide +kernel⟩
set_option maxHeartbeats 4000000 in
set_option maxRecDepth 100000 in
theorem c_X0_firstLiving (l : Launch) (E : Ev) (M : Mem) (p d : Int) (g1 : 0 ≤ p) (g2 : p < 16) (g3 : 0 ≤ d) (g4 : d ≤ 65535) : Ct l yX0_firstLiving cX0_firstLiving 4 (some .int) rm_X0_firstLiving E M [.int (iI (p)), .int (iI (d))] (pI (fun z M' => M = M' ∧ (z = fiL d.toNat p))) := by
  refine Ct_of (lv := [(0, .int (iI (p))), (1, .int (iI (d)))]) (by decide) ⟨rfl, rfl⟩ (Nat.le_of_ble_eq_true rfl) rfl (fun x _ B R => ?_)
  refine x_iconst B dX0_firstLiving_0 ?_
  refine x_istore_n B dX0_firstLiving_1 [1, 2, 0] rfl (by decide) (lv' := [(0, .int (iI (p))), (1, .int (iI (d))), (2, .int (iI (0)))]) rfl ?_
  have L2 : ∀ (k : Int), (0 ≤ k ∧ k ≤ 4 ∧ ∀ w : Int, 0 ≤ w → w < k → ¬ okL d.toNat p w) → Vx x E M 2 [(0, .int (iI (p))), (1, .int (iI (d))), (2, .int (iI (k)))] [] := by
    refine lo1 _ _ (fun k => (4 - k).toNat) ?_
    intro k hI ih2
    obtain ⟨i1, i2, i3⟩ := hI
    refine x_iload_n B dX0_firstLiving_2 2 rfl rfl ?_
    refine x_iconst B dX0_firstLiving_3 ?_
    refine x_icmp_ge B (tgt := 37) dX0_firstLiving_4 (by decide) ⟨by omega, by omega⟩ ⟨by omega, by omega⟩ (fun c4 => ?_) (fun c4 => ?_)
    · show Vx x E M 37 [(0, .int (iI (p))), (1, .int (iI (d))), (2, .int (iI (k)))] []
      refine x_iconst B dX0_firstLiving_37 ?_
      exact r_i B R dX0_firstLiving_38 (⟨rfl, (fiL_no (fun w h0 h1 => i3 w h0 (by omega))).symm⟩)
    · show Vx x E M 7 [(0, .int (iI (p))), (1, .int (iI (d))), (2, .int (iI (k)))] []
      refine x_getsN B 3 3 dX0_firstLiving_7 rfl rfl ?_
      refine x_iconst B dX0_firstLiving_10 ?_
      refine x_iload_n B dX0_firstLiving_11 0 rfl rfl ?_
      refine x_imul B dX0_firstLiving_12 ?_
      refine x_iload_n B dX0_firstLiving_13 2 rfl rfl ?_
      refine x_iadd B dX0_firstLiving_14 ?_
      refine x_sald B 3 dX0_firstLiving_15 rfl (by omega) (by rw [be_len]; omega) (by decide) (fun z15 ez15 => ?_)
      refine x_istore_n B dX0_firstLiving_16 [1, 2, 3, 0] rfl (by decide) (lv' := [(0, .int (iI (p))), (1, .int (iI (d))), (2, .int (iI (k))), (3, .int (iI (z15)))]) rfl ?_
      have hnb := nbT_in (p := p) (w := k) (by omega) (by omega)
      have fz15 := Is_e ez15
      rw [be_get (by omega) (by omega) (by omega) (by omega)] at fz15
      refine x_iload_n B dX0_firstLiving_17 3 rfl rfl ?_
      refine x_if_lt B (tgt := 31) dX0_firstLiving_18 (by decide) ⟨by omega, by omega⟩ (fun c18 => ?_) (fun c18 => ?_)
      · show Vx x E M 31 [(0, .int (iI (p))), (1, .int (iI (d))), (2, .int (iI (k))), (3, .int (iI (z15)))] []
        refine x_iinc B (q := 2) dX0_firstLiving_31 rfl [1, 2, 0, 3] (by decide) (lv' := [(0, .int (iI (p))), (1, .int (iI (d))), (2, .int (iI (k + 1))), (3, .int (iI (z15)))]) rfl ?_
        refine x_goto B (tgt := 2) dX0_firstLiving_34 (by decide) ?_
        refine x_lv [0, 1, 2] (lv' := [(0, .int (iI (p))), (1, .int (iI (d))), (2, .int (iI (k + 1)))]) rfl ?_
        exact ih2 (k + 1) (⟨by omega, by omega, fun w h0 h1 => if h : w < k then i3 w h0 h else by rw [show w = k by omega]; intro hok; obtain ⟨o1, o2⟩ := hok; first | omega | (rw [← fz15] at o2; rcases hz23 with ⟨h5, h6⟩ | ⟨h5, h6⟩ <;> first | omega | exact absurd (o2.symm.trans h6) (by decide))⟩) (by omega)
      · show Vx x E M 21 [(0, .int (iI (p))), (1, .int (iI (d))), (2, .int (iI (k))), (3, .int (iI (z15)))] []
        refine x_iload_n B dX0_firstLiving_21 1 rfl rfl ?_
        refine x_iload_n B dX0_firstLiving_22 3 rfl rfl ?_
        refine x_callSN B 1 (st := []) (av := [.int (iI (d)), .int (iI (z15))]) dX0_firstLiving_23 cs_X7_bit rfl ⟨rfl, rfl, Nat.le_of_ble_eq_true rfl, Nat.le_of_ble_eq_true rfl⟩ rfl rfl (Nat.le_of_ble_eq_true rfl) (c_X7_bit _ E _ d z15 (by omega) (by omega) (by omega) (by omega)) (k_i (fun z23 Mq hz23 => ?_))
        obtain ⟨rfl, hz23⟩ := hz23
        refine x_if_ne B (tgt := 31) dX0_firstLiving_26 (by decide) ⟨by omega, by omega⟩ (fun c26 => ?_) (fun c26 => ?_)
        · show Vx x E M 31 [(0, .int (iI (p))), (1, .int (iI (d))), (2, .int (iI (k))), (3, .int (iI (z15)))] []
          refine x_iinc B (q := 2) dX0_firstLiving_31 rfl [1, 2, 0, 3] (by decide) (lv' := [(0, .int (iI (p))), (1, .int (iI (d))), (2, .int (iI (k + 1))), (3, .int (iI (z15)))]) rfl ?_
          refine x_goto B (tgt := 2) dX0_firstLiving_34 (by decide) ?_
          refine x_lv [0, 1, 2] (lv' := [(0, .int (iI (p))), (1, .int (iI (d))), (2, .int (iI (k + 1)))]) rfl ?_
          exact ih2 (k + 1) (⟨by omega, by omega, fun w h0 h1 => if h : w < k then i3 w h0 h else by rw [show w = k by omega]; intro hok; obtain ⟨o1, o2⟩ := hok; first | omega | (rw [← fz15] at o2; rcases hz23 with ⟨h5, h6⟩ | ⟨h5, h6⟩ <;> first | omega | exact absurd (o2.symm.trans h6) (by decide))⟩) (by omega)
        · show Vx x E M 29 [(0, .int (iI (p))), (1, .int (iI (d))), (2, .int (iI (k))), (3, .int (iI (z15)))] []
          refine x_iload_n B dX0_firstLiving_29 3 rfl rfl ?_
          exact r_i B R dX0_firstLiving_30 (⟨rfl, by rw [fz15]; refine (fiL_of (by omega) (by omega) ⟨by omega, ?_⟩ i3).symm; rw [← fz15]; rcases hz23 with ⟨h5, h6⟩ | ⟨h5, h6⟩ <;> first | omega | exact h6⟩)
  exact L2 0 (⟨by omega, by omega, fun w h0 h1 => by omega⟩)
theorem besK_s {s : Nat → Int} {p k : Int} (h0 : 0 ≤ k) : besK s p (k + 1).toNat = besK s p k.toNat + bqS s p k := by
  rw [show (k + 1).toNat = k.toNat + 1 by omega]
  show besK s p k.toNat + bqS s p ((k.toNat : Nat) : Int) = _
  rw [Int.toNat_of_nonneg h0]
theorem sto_max (M : Mem) (i j : Nat) (v w : Int) (h : v = max (M i j) w) : sto M i j v i = fun q => if q = j then max (M i q) w else M i q := by
  funext q
  by_cases hq : q = j
  · rw [hq, sto_eq, if_pos rfl, h]
  · rw [sto_nj _ _ _ _ hq, if_neg hq]
theorem roS_no {d : Nat} {w s : Nat → Int} {k : Int} (h0 : 0 ≤ k) (h : ¬ (d.testBit k.toNat = true ∧ 0 ≤ fiL d k)) : roS d w s (k + 1).toNat = roS d w s k.toNat := by
  rw [show (k + 1).toNat = k.toNat + 1 by omega]
  show (if d.testBit k.toNat = true ∧ 0 ≤ fiL d ((k.toNat : Nat) : Int) then _ else _) = _
  rw [Int.toNat_of_nonneg h0, if_neg h]
theorem roS_yes {d : Nat} {w s : Nat → Int} {k : Int} (h0 : 0 ≤ k) (h1 : d.testBit k.toNat = true) (h2 : 0 ≤ fiL d k) : roS d w s (k + 1).toNat = fun q => if q = (fiL d k).toNat then max (roS d w s k.toNat q) (w k.toNat) else roS d w s k.toNat q := by
  rw [show (k + 1).toNat = k.toNat + 1 by omega]
  show (if d.testBit k.toNat = true ∧ 0 ≤ fiL d ((k.toNat : Nat) : Int) then (fun q => if q = (fiL d ((k.toNat : Nat) : Int)).toNat then _ else _) else _) = _
  rw [Int.toNat_of_nonneg h0, if_pos ⟨h1, h2⟩]
abbrev rm_X0_shownBeside : Room := { frames := 0, cells := 0, slots := 0, locals := 0 }
theorem cs_X0_shownBeside : Cv yX0_shownBeside cX0_shownBeside 5 (some .int) 1 := ⟨kw_567, ⟨kw_566, kw_18⟩, kw_62, by decide, by decide, by decide +kernel⟩
set_option maxHeartbeats 4000000 in
set_option maxRecDepth 100000 in
theorem c_X0_shownBeside (l : Launch) (E : Ev) (M : Mem) (f : Nat) (p : Int) (g1 : f < 7) (g2 : 0 ≤ p) (g3 : p < 16) : Ct l yX0_shownBeside cX0_shownBeside 5 (some .int) rm_X0_shownBeside E M [.ref (E.1 ((16 + 5 * f))), .int (iI (p))] (pI (fun z M' => M = M' ∧ (z = besK (M (16 + 5 * f + 2)) p 4 ∧ 0 ≤ z ∧ z ≤ 36))) := by
  refine Ct_of (lv := [(0, .ref (E.1 ((16 + 5 * f)))), (1, .int (iI (p)))]) (by decide) ⟨rfl, rfl⟩ (Nat.le_of_ble_eq_true rfl) rfl (fun x _ B R => ?_)
  refine x_iconst B dX0_shownBeside_0 ?_
  refine x_istore_n B dX0_shownBeside_1 [1, 2, 0] rfl (by decide) (lv' := [(0, .ref (E.1 ((16 + 5 * f)))), (1, .int (iI (p))), (2, .int (iI (0)))]) rfl ?_
  refine x_iconst B dX0_shownBeside_2 ?_
  refine x_istore_n B dX0_shownBeside_3 [1, 2, 3, 0] rfl (by decide) (lv' := [(0, .ref (E.1 ((16 + 5 * f)))), (1, .int (iI (p))), (2, .int (iI (0))), (3, .int (iI (0)))]) rfl ?_
  have L4 : ∀ (a : Int) (k : Int), (0 ≤ k ∧ k ≤ 4 ∧ a = besK (M (16 + 5 * f + 2)) p k.toNat ∧ 0 ≤ a ∧ a ≤ 9 * k) → Vx x E M 4 [(0, .ref (E.1 ((16 + 5 * f)))), (1, .int (iI (p))), (2, .int (iI (a))), (3, .int (iI (k)))] [] := by
    refine lo2 _ _ (fun a k => (4 - k).toNat) ?_
    intro a k hI ih4
    obtain ⟨i1, i2, i3, i4, i5⟩ := hI
    refine x_iload_n B dX0_shownBeside_4 3 rfl rfl ?_
    refine x_iconst B dX0_shownBeside_5 ?_
    refine x_icmp_ge B (tgt := 45) dX0_shownBeside_6 (by decide) ⟨by omega, by omega⟩ ⟨by omega, by omega⟩ (fun c6 => ?_) (fun c6 => ?_)
    · show Vx x E M 45 [(0, .ref (E.1 ((16 + 5 * f)))), (1, .int (iI (p))), (2, .int (iI (a))), (3, .int (iI (k)))] []
      refine x_iload_n B dX0_shownBeside_45 2 rfl rfl ?_
      exact r_i B R dX0_shownBeside_46 (⟨rfl, by rw [i3, show k = 4 by omega]; rfl, by omega, by omega⟩)
    · show Vx x E M 9 [(0, .ref (E.1 ((16 + 5 * f)))), (1, .int (iI (p))), (2, .int (iI (a))), (3, .int (iI (k)))] []
      refine x_getsN B 3 3 dX0_shownBeside_9 rfl rfl ?_
      refine x_iconst B dX0_shownBeside_12 ?_
      refine x_iload_n B dX0_shownBeside_13 1 rfl rfl ?_
      refine x_imul B dX0_shownBeside_14 ?_
      refine x_iload_n B dX0_shownBeside_15 3 rfl rfl ?_
      refine x_iadd B dX0_shownBeside_16 ?_
      refine x_sald B 3 dX0_shownBeside_17 rfl (by omega) (by rw [be_len]; omega) (by decide) (fun z17 ez17 => ?_)
      refine x_istore B dX0_shownBeside_18 [1, 2, 3, 4, 0] (by decide) (lv' := [(0, .ref (E.1 ((16 + 5 * f)))), (1, .int (iI (p))), (2, .int (iI (a))), (3, .int (iI (k))), (4, .int (iI (z17)))]) rfl ?_
      have hnb := nbT_in (p := p) (w := k) (by omega) (by omega)
      have fz17 := Is_e ez17
      rw [be_get (by omega) (by omega) (by omega) (by omega)] at fz17
      refine x_iload_n B dX0_shownBeside_20 2 rfl rfl ?_
      refine x_iload B dX0_shownBeside_21 4 rfl ?_
      have J37 : ∀ (j : Int), (j = bqS (M (16 + 5 * f + 2)) p k ∧ 0 ≤ j ∧ j ≤ 9) → Vx x E M 37 [(0, .ref (E.1 ((16 + 5 * f)))), (1, .int (iI (p))), (2, .int (iI (a))), (3, .int (iI (k))), (4, .int (iI (z17)))] [.int (iI (j)), .int (iI (a))] := by
        intro j hJ
        obtain ⟨j1, j2, j3⟩ := hJ
        refine x_iadd B dX0_shownBeside_37 ?_
        refine x_istore_n B dX0_shownBeside_38 [1, 2, 0, 3, 4] rfl (by decide) (lv' := [(0, .ref (E.1 ((16 + 5 * f)))), (1, .int (iI (p))), (2, .int (iI (a + j))), (3, .int (iI (k))), (4, .int (iI (z17)))]) rfl ?_
        refine x_iinc B (q := 3) dX0_shownBeside_39 rfl [1, 2, 3, 0, 4] (by decide) (lv' := [(0, .ref (E.1 ((16 + 5 * f)))), (1, .int (iI (p))), (2, .int (iI (a + j))), (3, .int (iI (k + 1))), (4, .int (iI (z17)))]) rfl ?_
        refine x_goto B (tgt := 4) dX0_shownBeside_42 (by decide) ?_
        refine x_lv [0, 1, 2, 3] (lv' := [(0, .ref (E.1 ((16 + 5 * f)))), (1, .int (iI (p))), (2, .int (iI (a + j))), (3, .int (iI (k + 1)))]) rfl ?_
        exact ih4 (a + j) (k + 1) (⟨by omega, by omega, by rw [besK_s i1, i3, j1], by omega, by omega⟩) (by omega)
      refine x_if_ge B (tgt := 30) dX0_shownBeside_23 (by decide) ⟨by omega, by omega⟩ (fun c23 => ?_) (fun c23 => ?_)
      · show Vx x E M 30 [(0, .ref (E.1 ((16 + 5 * f)))), (1, .int (iI (p))), (2, .int (iI (a))), (3, .int (iI (k))), (4, .int (iI (z17)))] [.int (iI (a))]
        refine x_aload_n B dX0_shownBeside_30 0 rfl rfl ?_
        refine x_getR B (ci := 0) (k := 1) dX0_shownBeside_31 (tF_o f (by omega)) rfl rfl (by decide) inGX0 kw_181 ?_
        refine x_iload B dX0_shownBeside_34 4 rfl ?_
        refine x_iald B (lo := 0) (hi := 9) dX0_shownBeside_36 (tF_2 f (by omega)) (by omega) (by omega) (rF_2 f _ (by omega)) (fun z36 ez36 lz36 uz36 => ?_)
        exact J37 z36 (by unfold bqS; first | (rw [if_pos (by omega)]; exact ⟨rfl, by omega, by omega⟩) | (rw [if_neg (by omega), ← fz17]; exact ⟨Is_e ez36, by omega, by omega⟩))
      · show Vx x E M 26 [(0, .ref (E.1 ((16 + 5 * f)))), (1, .int (iI (p))), (2, .int (iI (a))), (3, .int (iI (k))), (4, .int (iI (z17)))] [.int (iI (a))]
        refine x_iconst B dX0_shownBeside_26 ?_
        refine x_goto B (tgt := 37) dX0_shownBeside_27 (by decide) ?_
        exact J37 0 (by unfold bqS; first | (rw [if_pos (by omega)]; exact ⟨rfl, by omega, by omega⟩) | (rw [if_neg (by omega), ← fz17]; exact ⟨Is_e ez36, by omega, by omega⟩))
  exact L4 0 0 (⟨by omega, by omega, rfl, by omega, by omega⟩)
abbrev rm_X0_goRound : Room := { frames := 2, cells := 0, slots := 0, locals := 44 }
theorem cs_X0_goRound : Cv yX0_goRound cX0_goRound 4 none 1 := ⟨kw_556, ⟨kw_555, kw_16⟩, kw_62, by decide, by decide, by decide +kernel⟩
set_option maxHeartbeats 4000000 in
set_option maxRecDepth 100000 in
theorem c_X0_goRound (l : Launch) (E : Ev) (M : Mem) (f : Nat) (d : Int) (g1 : f < 7) (g2 : 0 ≤ d) (g3 : d ≤ 65535) : Ct l yX0_goRound cX0_goRound 4 none rm_X0_goRound E M [.ref (E.1 ((16 + 5 * f))), .int (iI (d))] (pV (fun M' => offC M M' (16 + 5 * f + 2) (16 + 5 * f + 3) ∧ M' (16 + 5 * f + 2) = roS d.toNat (M (16 + 5 * f + 4)) (M (16 + 5 * f + 2)) 16)) := by
  refine Ct_of (lv := [(0, .ref (E.1 ((16 + 5 * f)))), (1, .int (iI (d)))]) (by decide) ⟨rfl, rfl⟩ (Nat.le_of_ble_eq_true rfl) rfl (fun x _ B R => ?_)
  refine x_iconst B dX0_goRound_0 ?_
  refine x_istore_n B dX0_goRound_1 [1, 2, 0] rfl (by decide) (lv' := [(0, .ref (E.1 ((16 + 5 * f)))), (1, .int (iI (d))), (2, .int (iI (0)))]) rfl ?_
  have L2 : ∀ (k : Int) (M1 : Mem), (0 ≤ k ∧ k ≤ 16 ∧ offC M M1 (16 + 5 * f + 2) (16 + 5 * f + 3) ∧ M1 (16 + 5 * f + 2) = roS d.toNat (M (16 + 5 * f + 4)) (M (16 + 5 * f + 2)) k.toNat) → Vx x E M1 2 [(0, .ref (E.1 ((16 + 5 * f)))), (1, .int (iI (d))), (2, .int (iI (k)))] [] := by
    refine lo2 _ _ (fun k M1 => (16 - k).toNat) ?_
    intro k M1 hI ih2
    obtain ⟨i1, i2, i3, i4⟩ := hI
    refine x_iload_n B dX0_goRound_2 2 rfl rfl ?_
    refine x_bipush B dX0_goRound_3 rfl ?_
    refine x_icmp_ge B (tgt := 54) dX0_goRound_5 (by decide) ⟨by omega, by omega⟩ ⟨by omega, by omega⟩ (fun c5 => ?_) (fun c5 => ?_)
    · show Vx x E M1 54 [(0, .ref (E.1 ((16 + 5 * f)))), (1, .int (iI (d))), (2, .int (iI (k)))] []
      exact r_v B R dX0_goRound_54 (⟨i3, by rw [i4, show k = 16 by omega]; rfl⟩)
    · show Vx x E M1 8 [(0, .ref (E.1 ((16 + 5 * f)))), (1, .int (iI (d))), (2, .int (iI (k)))] []
      refine x_iload_n B dX0_goRound_8 1 rfl rfl ?_
      refine x_iload_n B dX0_goRound_9 2 rfl rfl ?_
      refine x_callSN B 1 (st := []) (av := [.int (iI (d)), .int (iI (k))]) dX0_goRound_10 cs_X7_bit rfl ⟨rfl, rfl, Nat.le_of_ble_eq_true rfl, Nat.le_of_ble_eq_true rfl⟩ rfl rfl (Nat.le_of_ble_eq_true rfl) (c_X7_bit _ E _ d k (by omega) (by omega) (by omega) (by omega)) (k_i (fun z10 Mq hz10 => ?_))
      obtain ⟨rfl, hz10⟩ := hz10
      refine x_iconst B dX0_goRound_13 ?_
      refine x_icmp_ne B (tgt := 48) dX0_goRound_14 (by decide) ⟨by omega, by omega⟩ ⟨by omega, by omega⟩ (fun c14 => ?_) (fun c14 => ?_)
      · show Vx x E M1 48 [(0, .ref (E.1 ((16 + 5 * f)))), (1, .int (iI (d))), (2, .int (iI (k)))] []
        refine x_iinc B (q := 2) dX0_goRound_48 rfl [1, 2, 0] (by decide) (lv' := [(0, .ref (E.1 ((16 + 5 * f)))), (1, .int (iI (d))), (2, .int (iI (k + 1)))]) rfl ?_
        refine x_goto B (tgt := 2) dX0_goRound_51 (by decide) ?_
        exact ih2 (k + 1) M1 (⟨by omega, by omega, i3, by rw [roS_no i1 (fun hh => by rcases hz10 with ⟨h5, h6⟩ | ⟨h5, h6⟩ <;> first | omega | exact absurd (hh.1.symm.trans h6) (by decide))]; exact i4⟩) (by omega)
      · show Vx x E M1 17 [(0, .ref (E.1 ((16 + 5 * f)))), (1, .int (iI (d))), (2, .int (iI (k)))] []
        refine x_iload_n B dX0_goRound_17 2 rfl rfl ?_
        refine x_iload_n B dX0_goRound_18 1 rfl rfl ?_
        have hzb : d.toNat.testBit k.toNat = true := by rcases hz10 with ⟨h5, h6⟩ | ⟨h5, h6⟩ <;> first | omega | exact h6
        refine x_callS B (st := []) (av := [.int (iI (k)), .int (iI (d))]) dX0_goRound_19 cs_X0_firstLiving kw_557 ⟨rfl, rfl, Nat.le_of_ble_eq_true rfl, Nat.le_of_ble_eq_true rfl⟩ rfl rfl (Nat.le_of_ble_eq_true rfl) (c_X0_firstLiving _ E _ k d (by omega) (by omega) (by omega) (by omega)) (k_i (fun z19 Mq hz19 => ?_))
        obtain ⟨rfl, hz19⟩ := hz19
        have hfi := fiL_in (d := d.toNat) (p := k) (by omega) (by omega)
        refine x_istore_n B dX0_goRound_22 [1, 2, 3, 0] rfl (by decide) (lv' := [(0, .ref (E.1 ((16 + 5 * f)))), (1, .int (iI (d))), (2, .int (iI (k))), (3, .int (iI (z19)))]) rfl ?_
        refine x_iload_n B dX0_goRound_23 3 rfl rfl ?_
        refine x_if_lt B (tgt := 48) dX0_goRound_24 (by decide) ⟨by omega, by omega⟩ (fun c24 => ?_) (fun c24 => ?_)
        · show Vx x E M1 48 [(0, .ref (E.1 ((16 + 5 * f)))), (1, .int (iI (d))), (2, .int (iI (k))), (3, .int (iI (z19)))] []
          refine x_iinc B (q := 2) dX0_goRound_48 rfl [1, 2, 0, 3] (by decide) (lv' := [(0, .ref (E.1 ((16 + 5 * f)))), (1, .int (iI (d))), (2, .int (iI (k + 1))), (3, .int (iI (z19)))]) rfl ?_
          refine x_goto B (tgt := 2) dX0_goRound_51 (by decide) ?_
          refine x_lv [0, 1, 2] (lv' := [(0, .ref (E.1 ((16 + 5 * f)))), (1, .int (iI (d))), (2, .int (iI (k + 1)))]) rfl ?_
          exact ih2 (k + 1) M1 (⟨by omega, by omega, i3, by rw [roS_no i1 (fun hh => by omega)]; exact i4⟩) (by omega)
        · show Vx x E M1 27 [(0, .ref (E.1 ((16 + 5 * f)))), (1, .int (iI (d))), (2, .int (iI (k))), (3, .int (iI (z19)))] []
          refine x_aload_n B dX0_goRound_27 0 rfl rfl ?_
          refine x_getR B (ci := 0) (k := 1) dX0_goRound_28 (tF_o f (by omega)) rfl rfl (by decide) inGX0 kw_181 ?_
          refine x_iload_n B dX0_goRound_31 3 rfl rfl ?_
          refine x_aload_n B dX0_goRound_32 0 rfl rfl ?_
          refine x_getR B (ci := 0) (k := 1) dX0_goRound_33 (tF_o f (by omega)) rfl rfl (by decide) inGX0 kw_181 ?_
          refine x_iload_n B dX0_goRound_36 3 rfl rfl ?_
          refine x_iald B (lo := 0) (hi := 9) dX0_goRound_37 (tF_2 f (by omega)) (by omega) (by omega) (rF_2 f _ (by omega)) (fun z37 ez37 lz37 uz37 => ?_)
          refine x_aload_n B dX0_goRound_38 0 rfl rfl ?_
          refine x_getR B (ci := 0) (k := 4) dX0_goRound_39 (tF_o f (by omega)) rfl rfl (by decide) inGX0 kw_187 ?_
          refine x_iload_n B dX0_goRound_42 2 rfl rfl ?_
          refine x_iald B (lo := 0) (hi := 9) dX0_goRound_43 (tF_4 f (by omega)) (by omega) (by omega) (rF_4 f _ (by omega)) (fun z43 ez43 lz43 uz43 => ?_)
          refine x_mmax B (st := [.int (iI (z19)), .ref (E.1 ((16 + 5 * f + 2)))]) dX0_goRound_44 kw_549 (Nat.le_of_ble_eq_true rfl) (Nat.le_of_ble_eq_true rfl) (Nat.le_of_ble_eq_true rfl) ⟨by omega, by omega⟩ ⟨by omega, by omega⟩ (fun z44 ez44 => ?_)
          refine x_iast B (lo := 0) (hi := 9) dX0_goRound_47 (tF_2 f (by omega)) (by omega) (by omega) (rF_2 f _ (by omega)) (by omega) (by omega) ?_
          refine x_iinc B (q := 2) dX0_goRound_48 rfl [1, 2, 0, 3] (by decide) (lv' := [(0, .ref (E.1 ((16 + 5 * f)))), (1, .int (iI (d))), (2, .int (iI (k + 1))), (3, .int (iI (z19)))]) rfl ?_
          refine x_goto B (tgt := 2) dX0_goRound_51 (by decide) ?_
          refine x_lv [0, 1, 2] (lv' := [(0, .ref (E.1 ((16 + 5 * f)))), (1, .int (iI (d))), (2, .int (iI (k + 1)))]) rfl ?_
          exact ih2 (k + 1) (sto M1 (16 + 5 * f + 2) (z19).toNat z44) (⟨by omega, by omega, offC_sto i3 (by omega), by rw [roS_yes i1 hzb (by omega), ← hz19, ← i4]; exact sto_max _ _ _ _ _ (by rw [ez44, Is_e ez37, Is_e ez43, i3 (16 + 5 * f + 4) _ (by omega)])⟩) (by omega)
  exact L2 0 M (⟨by omega, by omega, offC_rf, rfl⟩)
theorem feS_dead {v lst s td : Nat → Int} {p : Int} (h : (v 11).toNat.testBit p.toNat = true) : feS v lst s td p = 0 ∧ ¬ hbS v lst s td p := ⟨by unfold feS; rw [if_pos h], fun q => by have q1 := q.1; rw [h] at q1; exact absurd q1 (by decide)⟩
theorem feS_low {v lst s td : Nat → Int} {p : Int} (h : (v 11).toNat.testBit p.toNat = false) (hl : stS v s (td p.toNat) p < lst p.toNat) : feS v lst s td p = 0 ∧ ¬ hbS v lst s td p := ⟨by unfold feS; rw [if_neg (by rw [h]; decide), if_pos hl], fun q => by have := q.2.1; omega⟩
theorem feS_fe {v lst s td : Nat → Int} {p : Int} (h : (v 11).toNat.testBit p.toNat = false) (hl : ¬ stS v s (td p.toNat) p < lst p.toNat) : feS v lst s td p = min (stS v s (td p.toNat) p) (v 4) := by unfold feS; rw [if_neg (by rw [h]; decide), if_neg hl]
/-- the memory behind feel: what is felt, and the bits of what hurts -/
def feP (M M' : Mem) (f p : Nat) (a b : Int) : Prop := ∀ i j, M' i j = if i = 16 + 5 * f + 3 ∧ j = p then a else if i = 16 + 5 * f ∧ j = 3 then b else M i j
theorem feP_1 (M : Mem) (f p : Nat) {a b : Int} (hb : b = M (16 + 5 * f) 3) : feP M (sto M (16 + 5 * f + 3) p a) f p a b := by
  intro i j
  unfold sto
  by_cases h1 : i = 16 + 5 * f + 3 ∧ j = p
  · rw [if_pos h1, if_pos h1]
  · rw [if_neg h1, if_neg h1]
    by_cases h2 : i = 16 + 5 * f ∧ j = 3
    · rw [if_pos h2, hb, h2.1, h2.2]
    · rw [if_neg h2]
theorem feP_2 (M : Mem) (f p : Nat) {a b c : Int} (hb : b = M (16 + 5 * f) 3) : feP M (sto (sto M (16 + 5 * f + 3) p c) (16 + 5 * f + 3) p a) f p a b := by
  intro i j
  unfold sto
  by_cases h1 : i = 16 + 5 * f + 3 ∧ j = p
  · rw [if_pos h1, if_pos h1]
  · rw [if_neg h1, if_neg h1, if_neg h1]
    by_cases h2 : i = 16 + 5 * f ∧ j = 3
    · rw [if_pos h2, hb, h2.1, h2.2]
    · rw [if_neg h2]
theorem feP_3 (M : Mem) (f p : Nat) {a b c : Int} : feP M (sto (sto (sto M (16 + 5 * f + 3) p c) (16 + 5 * f + 3) p a) (16 + 5 * f) 3 b) f p a b := by
  intro i j
  unfold sto
  by_cases h1 : i = 16 + 5 * f + 3 ∧ j = p
  · rw [if_neg (by omega), if_pos h1, if_pos h1]
  · rw [if_neg h1, if_neg h1, if_neg h1]
theorem or_lt {a b n : Nat} (ha : a < 2 ^ n) (hb : b < 2 ^ n) : a ||| b < 2 ^ n := Nat.or_lt_two_pow ha hb
theorem or16 {a p : Int} (a0 : 0 ≤ a) (a1 : a ≤ 65535) (p0 : 0 ≤ p) (p1 : p < 16) : (0 : Int) ≤ ((a.toNat ||| ((2 ^ p.toNat : Nat) : Int).toNat : Nat) : Int) ∧ ((a.toNat ||| ((2 ^ p.toNat : Nat) : Int).toNat : Nat) : Int) ≤ 65535 := by
  refine ⟨Int.natCast_nonneg _, ?_⟩
  rw [Int.toNat_natCast]
  have h1 : a.toNat < 2 ^ 16 := by
    have : (2 : Nat) ^ 16 = 65536 := by decide
    omega
  have h2 : 2 ^ p.toNat < 2 ^ 16 := Nat.pow_lt_pow_right (by omega) (by omega)
  have h3 := or_lt h1 h2
  have : (2 : Nat) ^ 16 = 65536 := by decide
  omega
abbrev rm_X0_feel : Room := { frames := 1, cells := 0, slots := 0, locals := 24 }
theorem cs_X0_feel : Cv yX0_feel cX0_feel 5 none 3 := ⟨kw_563, ⟨kw_562, kw_17⟩, kw_62, by decide, by decide, by decide +kernel⟩
set_option maxHeartbeats 4000000 in
set_option maxRecDepth 100000 in
theorem c_X0_feel (l : Launch) (E : Ev) (M : Mem) (f : Nat) (p : Int) (w : Nat) (t : Int) (g1 : f < 7) (g2 : 0 ≤ p) (g3 : p < 16) (g4 : w = 1 ∨ w = 4 ∨ w = 8) (g5 : 0 ≤ t) (g6 : t ≤ 9) : Ct l yX0_feel cX0_feel 5 none rm_X0_feel E M [.ref (E.1 ((16 + 5 * f))), .int (iI (p)), .ref (E.1 (w)), .int (iI (t))] (pV (fun M' => feP M M' f p.toNat (feS (M (w + 1)) (M (w + 2)) (M (16 + 5 * f + 2)) (fun _ => t) p) (if hbS (M (w + 1)) (M (w + 2)) (M (16 + 5 * f + 2)) (fun _ => t) p then (((M (16 + 5 * f) 3).toNat ||| 2 ^ p.toNat : Nat) : Int) else M (16 + 5 * f) 3))) := by
  refine Ct_of (lv := [(0, .ref (E.1 ((16 + 5 * f)))), (1, .int (iI (p))), (2, .ref (E.1 (w))), (3, .int (iI (t)))]) (by decide) ⟨rfl, rfl⟩ (Nat.le_of_ble_eq_true rfl) rfl (fun x _ B R => ?_)
  have hw := g4
  refine x_aload_n B dX0_feel_0 0 rfl rfl ?_
  refine x_getR B (ci := 0) (k := 2) dX0_feel_1 (tF_o f (by omega)) rfl rfl (by decide) inGX0 kw_183 ?_
  refine x_iload_n B dX0_feel_4 1 rfl rfl ?_
  refine x_iconst B dX0_feel_5 ?_
  refine x_iast B (lo := 0) (hi := 9) dX0_feel_6 (tF_3 f (by omega)) (by omega) (by omega) (rF_3 f _ (by omega)) (by omega) (by omega) ?_
  refine x_aload_n B dX0_feel_7 2 rfl rfl ?_
  refine x_getR B (ci := 1) (k := 0) dX0_feel_8 (tL_o w hw) rfl rfl (by decide) inGX1 kw_101 ?_
  refine x_bipush B dX0_feel_11 rfl ?_
  refine x_iald B (lo := 0) (hi := 65535) dX0_feel_13 (tL_1 w hw) (by omega) (by omega) (rL_1 w hw _) (fun z13 ez13 lz13 uz13 => ?_)
  have ez13 : Is z13 ((sto M (16 + 5 * f + 3) (p).toNat 0) (w + 1) 11) := ez13
  have e13 := Is_e ez13
  rw [sto_ni _ _ _ _ (by omega)] at e13
  refine x_iload_n B dX0_feel_14 1 rfl rfl ?_
  refine x_callSN B 1 (st := []) (av := [.int (iI (z13)), .int (iI (p))]) dX0_feel_15 cs_X7_bit rfl ⟨rfl, rfl, Nat.le_of_ble_eq_true rfl, Nat.le_of_ble_eq_true rfl⟩ rfl rfl (Nat.le_of_ble_eq_true rfl) (c_X7_bit _ E _ z13 p (by omega) (by omega) (by omega) (by omega)) (k_i (fun z15 Mq hz15 => ?_))
  obtain ⟨rfl, hz15⟩ := hz15
  refine x_iconst B dX0_feel_18 ?_
  refine x_icmp_ne B (tgt := 23) dX0_feel_19 (by decide) ⟨by omega, by omega⟩ ⟨by omega, by omega⟩ (fun c19 => ?_) (fun c19 => ?_)
  · show Vx x E (sto M (16 + 5 * f + 3) (p).toNat 0) 23 [(0, .ref (E.1 ((16 + 5 * f)))), (1, .int (iI (p))), (2, .ref (E.1 (w))), (3, .int (iI (t)))] []
    have hdd : (M (w + 1) 11).toNat.testBit p.toNat = false := by rcases hz15 with ⟨h5, h6⟩ | ⟨h5, h6⟩ <;> first | omega | (rw [e13] at h6; exact h6)
    refine x_aload_n B dX0_feel_23 0 rfl rfl ?_
    refine x_getR B (ci := 0) (k := 1) dX0_feel_24 (tF_o f (by omega)) rfl rfl (by decide) inGX0 kw_181 ?_
    refine x_iload_n B dX0_feel_27 1 rfl rfl ?_
    refine x_iald B (lo := 0) (hi := 9) dX0_feel_28 (tF_2 f (by omega)) (by omega) (by omega) (rF_2 f _ (by omega)) (fun z28 ez28 lz28 uz28 => ?_)
    refine x_aload_n B dX0_feel_29 2 rfl rfl ?_
    refine x_getR B (ci := 1) (k := 0) dX0_feel_30 (tL_o w hw) rfl rfl (by decide) inGX1 kw_101 ?_
    refine x_iconst B dX0_feel_33 ?_
    refine x_iald B (lo := 0) (hi := 4) dX0_feel_34 (tL_1 w hw) (by omega) (by omega) (rL_1 w hw _) (fun z34 ez34 lz34 uz34 => ?_)
    have ez34 : Is z34 ((sto M (16 + 5 * f + 3) (p).toNat 0) (w + 1) 1) := ez34
    refine x_aload_n B dX0_feel_35 0 rfl rfl ?_
    refine x_iload_n B dX0_feel_36 1 rfl rfl ?_
    refine x_callV B (st := [.int (iI (z34)), .int (iI (z28))]) (av := [.int (iI (p))]) dX0_feel_37 cs_X0_shownBeside kw_564 ⟨rfl, rfl, Nat.le_of_ble_eq_true rfl, Nat.le_of_ble_eq_true rfl⟩ rfl rfl (Nat.le_of_ble_eq_true rfl) (rc_obj B (ci := 0) (tF_o f (by omega)) rfl rfl) (c_X0_shownBeside _ E _ f p (by omega) (by omega) (by omega)) (k_i (fun z37 Mq hz37 => ?_))
    obtain ⟨rfl, hz37⟩ := hz37
    have m40 := mulb (a := z34) (b := z37) (A := 4) (B := 36) (by omega) (by omega) (by omega) (by omega)
    refine x_imul B dX0_feel_40 ?_
    refine x_bipush B dX0_feel_41 rfl ?_
    refine x_idiv B dX0_feel_43 ⟨by omega, by omega⟩ (by omega) ⟨by omega, by omega⟩ (by omega) ?_
    refine x_iadd B dX0_feel_44 ?_
    refine x_aload_n B dX0_feel_45 2 rfl rfl ?_
    refine x_getR B (ci := 1) (k := 0) dX0_feel_46 (tL_o w hw) rfl rfl (by decide) inGX1 kw_101 ?_
    refine x_iconst B dX0_feel_49 ?_
    refine x_iald B (lo := 0) (hi := 3) dX0_feel_50 (tL_1 w hw) (by omega) (by omega) (rL_1 w hw _) (fun z50 ez50 lz50 uz50 => ?_)
    have ez50 : Is z50 ((sto M (16 + 5 * f + 3) (p).toNat 0) (w + 1) 2) := ez50
    refine x_iload_n B dX0_feel_51 1 rfl rfl ?_
    refine x_iconst B dX0_feel_52 ?_
    refine x_idiv B dX0_feel_53 ⟨by omega, by omega⟩ (by omega) ⟨by omega, by omega⟩ (by omega) ?_
    have m54 := mulb (a := z50) (b := p / 4) (A := 3) (B := 3) (by omega) (by omega) (by omega) (by omega)
    refine x_imul B dX0_feel_54 ?_
    refine x_isub B dX0_feel_55 ?_
    refine x_aload_n B dX0_feel_56 2 rfl rfl ?_
    refine x_getR B (ci := 1) (k := 0) dX0_feel_57 (tL_o w hw) rfl rfl (by decide) inGX1 kw_101 ?_
    refine x_iconst B dX0_feel_60 ?_
    refine x_iald B (lo := 0) (hi := 9) dX0_feel_61 (tL_1 w hw) (by omega) (by omega) (rL_1 w hw _) (fun z61 ez61 lz61 uz61 => ?_)
    have ez61 : Is z61 ((sto M (16 + 5 * f + 3) (p).toNat 0) (w + 1) 3) := ez61
    refine x_iload_n B dX0_feel_62 3 rfl rfl ?_
    have m63 := mulb (a := z61) (b := t) (A := 9) (B := 9) (by omega) (by omega) (by omega) (by omega)
    refine x_imul B dX0_feel_63 ?_
    refine x_bipush B dX0_feel_64 rfl ?_
    refine x_idiv B dX0_feel_66 ⟨by omega, by omega⟩ (by omega) ⟨by omega, by omega⟩ (by omega) ?_
    refine x_isub B dX0_feel_67 ?_
    refine x_istore B dX0_feel_68 [1, 2, 3, 4, 0] (by decide) (lv' := [(0, .ref (E.1 ((16 + 5 * f)))), (1, .int (iI (p))), (2, .ref (E.1 (w))), (3, .int (iI (t))), (4, .int (iI (((z28 + ((z34 * z37) / 16)) - (z50 * (p / 4))) - ((z61 * t) / 10))))]) rfl ?_
    have hst : (((z28 + ((z34 * z37) / 16)) - (z50 * (p / 4))) - ((z61 * t) / 10)) = stS (M (w + 1)) (M (16 + 5 * f + 2)) t p := by
      unfold stS
      rw [Is_e ez28, Is_e ez34, hz37.1, Is_e ez50, Is_e ez61, sto_ni _ _ _ _ (by omega), sto_ni _ _ _ _ (by omega), sto_ni _ _ _ _ (by omega), sto_ni _ _ _ _ (by omega), sto_f _ _ _ _ (by omega)]
    have hy : -60 ≤ (((z28 + ((z34 * z37) / 16)) - (z50 * (p / 4))) - ((z61 * t) / 10)) ∧ (((z28 + ((z34 * z37) / 16)) - (z50 * (p / 4))) - ((z61 * t) / 10)) ≤ 60 := by omega
    generalize (((z28 + ((z34 * z37) / 16)) - (z50 * (p / 4))) - ((z61 * t) / 10)) = y at hst hy ⊢
    refine x_iload B dX0_feel_70 4 rfl ?_
    refine x_aload_n B dX0_feel_72 2 rfl rfl ?_
    refine x_getR B (ci := 1) (k := 1) dX0_feel_73 (tL_o w hw) rfl rfl (by decide) inGX1 kw_107 ?_
    refine x_iload_n B dX0_feel_76 1 rfl rfl ?_
    refine x_iald B (lo := 1) (hi := 9) dX0_feel_77 (tL_2 w hw) (by omega) (by omega) (rL_2 w hw _) (fun z77 ez77 lz77 uz77 => ?_)
    have e77 := Is_e ez77
    rw [sto_ni _ _ _ _ (by omega)] at e77
    refine x_icmp_ge B (tgt := 82) dX0_feel_78 (by decide) ⟨by omega, by omega⟩ ⟨by omega, by omega⟩ (fun c78 => ?_) (fun c78 => ?_)
    · show Vx x E (sto M (16 + 5 * f + 3) (p).toNat 0) 82 [(0, .ref (E.1 ((16 + 5 * f)))), (1, .int (iI (p))), (2, .ref (E.1 (w))), (3, .int (iI (t))), (4, .int (iI (y)))] []
      have hlo : ¬ stS (M (w + 1)) (M (16 + 5 * f + 2)) t p < M (w + 2) p.toNat := by omega
      refine x_aload_n B dX0_feel_82 0 rfl rfl ?_
      refine x_getR B (ci := 0) (k := 2) dX0_feel_83 (tF_o f (by omega)) rfl rfl (by decide) inGX0 kw_183 ?_
      refine x_iload_n B dX0_feel_86 1 rfl rfl ?_
      refine x_iload B dX0_feel_87 4 rfl ?_
      refine x_aload_n B dX0_feel_89 2 rfl rfl ?_
      refine x_getR B (ci := 1) (k := 0) dX0_feel_90 (tL_o w hw) rfl rfl (by decide) inGX1 kw_101 ?_
      refine x_iconst B dX0_feel_93 ?_
      refine x_iald B (lo := 1) (hi := 9) dX0_feel_94 (tL_1 w hw) (by omega) (by omega) (rL_1 w hw _) (fun z94 ez94 lz94 uz94 => ?_)
      have ez94 : Is z94 ((sto M (16 + 5 * f + 3) (p).toNat 0) (w + 1) 4) := ez94
      have e94 := Is_e ez94
      rw [sto_ni _ _ _ _ (by omega)] at e94
      refine x_mmin B (st := [.int (iI (p)), .ref (E.1 ((16 + 5 * f + 3)))]) dX0_feel_95 kw_568 (Nat.le_of_ble_eq_true rfl) (Nat.le_of_ble_eq_true rfl) (Nat.le_of_ble_eq_true rfl) ⟨by omega, by omega⟩ ⟨by omega, by omega⟩ (fun z95 ez95 => ?_)
      refine x_iast B (lo := 0) (hi := 9) dX0_feel_98 (tF_3 f (by omega)) (by omega) (by omega) (rF_3 f _ (by omega)) (by omega) (by omega) ?_
      refine x_iload B dX0_feel_99 4 rfl ?_
      refine x_aload_n B dX0_feel_101 2 rfl rfl ?_
      refine x_getR B (ci := 1) (k := 0) dX0_feel_102 (tL_o w hw) rfl rfl (by decide) inGX1 kw_101 ?_
      refine x_iconst B dX0_feel_105 ?_
      refine x_iald B (lo := 1) (hi := 9) dX0_feel_106 (tL_1 w hw) (by omega) (by omega) (rL_1 w hw _) (fun z106 ez106 lz106 uz106 => ?_)
      have ez106 : Is z106 ((sto (sto M (16 + 5 * f + 3) (p).toNat 0) (16 + 5 * f + 3) (p).toNat z95) (w + 1) 4) := ez106
      have e106 := Is_e ez106
      rw [sto_ni _ _ _ _ (by omega), sto_ni _ _ _ _ (by omega)] at e106
      refine x_icmp_le B (tgt := 122) dX0_feel_107 (by decide) ⟨by omega, by omega⟩ ⟨by omega, by omega⟩ (fun c107 => ?_) (fun c107 => ?_)
      · show Vx x E (sto (sto M (16 + 5 * f + 3) (p).toNat 0) (16 + 5 * f + 3) (p).toNat z95) 122 [(0, .ref (E.1 ((16 + 5 * f)))), (1, .int (iI (p))), (2, .ref (E.1 (w))), (3, .int (iI (t))), (4, .int (iI (y)))] []
        exact r_v B R dX0_feel_122 (by rw [feS_fe (td := fun _ => t) hdd hlo, if_neg (fun q => by have q1 : M (w + 1) 4 < stS (M (w + 1)) (M (16 + 5 * f + 2)) t p := q.2.2; omega), ← hst, ← e94, ← ez95]; exact feP_2 _ _ _ rfl)
      · show Vx x E (sto (sto M (16 + 5 * f + 3) (p).toNat 0) (16 + 5 * f + 3) (p).toNat z95) 110 [(0, .ref (E.1 ((16 + 5 * f)))), (1, .int (iI (p))), (2, .ref (E.1 (w))), (3, .int (iI (t))), (4, .int (iI (y)))] []
        refine x_aload_n B dX0_feel_110 0 rfl rfl ?_
        refine x_dup B dX0_feel_111 rfl ?_
        refine x_getI B (ci := 0) (k := 3) (lo := 0) (hi := 65535) dX0_feel_112 (tF_o f (by omega)) rfl rfl (by decide) inGX0 kw_185 (rF_o f (by omega)) (fun z112 ez112 lz112 uz112 => ?_)
        refine x_iconst B dX0_feel_115 ?_
        refine x_iload_n B dX0_feel_116 1 rfl rfl ?_
        refine x_shl1 B dX0_feel_117 (by omega) (by omega) ?_
        refine x_ior B dX0_feel_118 (by omega) (Int.natCast_nonneg _) ?_
        have e112 := Is_e ez112
        rw [sto_ni _ _ _ _ (by omega), sto_ni _ _ _ _ (by omega)] at e112
        have hh112 : (((M (16 + 5 * f) 3).toNat ||| 2 ^ p.toNat : Nat) : Int) = ((z112.toNat ||| ((2 ^ p.toNat : Nat) : Int).toNat : Nat) : Int) := by rw [e112, Int.toNat_natCast]
        have ho16 := or16 (a := z112) (p := p) (by omega) (by omega) (by omega) (by omega)
        refine x_put B (ci := 0) (k := 3) (lo := 0) (hi := 65535) (ty := .int) dX0_feel_119 (tF_o f (by omega)) rfl rfl (by decide) inGX0 tyX0_ok nmX0 kw_185 rfl (by decide +kernel) (nar_i _) (fit_i _) (rF_o f (by omega)) ho16.1 ho16.2 ?_
        exact r_v B R dX0_feel_122 (by rw [feS_fe (td := fun _ => t) hdd hlo, if_pos ⟨hdd, (show M (w + 2) p.toNat ≤ stS (M (w + 1)) (M (16 + 5 * f + 2)) t p by omega), (show M (w + 1) 4 < stS (M (w + 1)) (M (16 + 5 * f + 2)) t p by omega)⟩, ← hst, ← e94, ← ez95, hh112]; exact feP_3 _ _ _)
    · show Vx x E (sto M (16 + 5 * f + 3) (p).toNat 0) 81 [(0, .ref (E.1 ((16 + 5 * f)))), (1, .int (iI (p))), (2, .ref (E.1 (w))), (3, .int (iI (t))), (4, .int (iI (y)))] []
      have hlo : stS (M (w + 1)) (M (16 + 5 * f + 2)) t p < M (w + 2) p.toNat := by omega
      exact r_v B R dX0_feel_81 (by rw [(feS_low (td := fun _ => t) hdd hlo).1, if_neg (feS_low (td := fun _ => t) hdd hlo).2]; exact feP_1 _ _ _ rfl)
  · show Vx x E (sto M (16 + 5 * f + 3) (p).toNat 0) 22 [(0, .ref (E.1 ((16 + 5 * f)))), (1, .int (iI (p))), (2, .ref (E.1 (w))), (3, .int (iI (t)))] []
    have hdt : (M (w + 1) 11).toNat.testBit p.toNat = true := by rcases hz15 with ⟨h5, h6⟩ | ⟨h5, h6⟩ <;> first | omega | (rw [e13] at h6; exact h6)
    exact r_v B R dX0_feel_22 (by rw [(feS_dead (td := fun _ => t) hdt).1, if_neg (feS_dead (td := fun _ => t) hdt).2]; exact feP_1 _ _ _ rfl)
