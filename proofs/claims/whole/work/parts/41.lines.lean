/-- a POINT is told -/
def tpR (M M' : Mem) : Prop := ∃ (M1 : Mem) (z : Int), nbR M 0 15 M1 z ∧ (z = 0 ∧ M' = M1 ∨ ¬ z = 0 ∧ (M 7 10 = 11 ∧ ((M 9 11).toNat.testBit (M 7 7).toNat = true ∧ M' = rfM M 4 ∨ (M 9 11).toNat.testBit (M 7 7).toNat = false ∧ M' = sto (sto M 9 11 (orP (M 9 11) (M 7 7))) 7 9 4) ∨ ¬ M 7 10 = 11 ∧ ((M 7 14).toNat.testBit (M 7 7).toNat = true ∧ M' = rfM M 4 ∨ (M 7 14).toNat.testBit (M 7 7).toNat = false ∧ M' = sto (sto (sto M 7 14 (orP (M 7 14) (M 7 7))) 7 11 (M 7 7)) 7 9 3)))
/-- a NUMBER is told -/
def tnR (M M' : Mem) : Prop := ∃ (M1 : Mem) (z : Int), nbR M (sLo.getD (M 7 10).toNat 0) (sHi.getD (M 7 10).toNat 0) M1 z ∧ (z = 0 ∧ M' = M1 ∨ ¬ z = 0 ∧ (M 7 10 = 12 ∧ M' = sto (sto M 10 (M 7 11).toNat (M 7 7)) 7 9 4 ∨ ¬ M 7 10 = 12 ∧ M' = sto (sto M 9 (M 7 10).toNat (M 7 7)) 7 9 4))
theorem lh13 : ∀ n : Nat, n < 13 → 0 ≤ sLo.getD n 0 ∧ sLo.getD n 0 ≤ 99 ∧ 0 ≤ sHi.getD n 0 ∧ sHi.getD n 0 ≤ 99 := by decide +kernel
theorem rng9 : ∀ n : Nat, n < 12 → (rngT 9 n).1 ≤ sLo.getD n 0 ∧ sHi.getD n 0 ≤ (rngT 9 n).2 := by decide +kernel
abbrev rm_X5_tellPoint : Room := { frames := 2, cells := 0, slots := 0, locals := 43 }
theorem cs_X5_tellPoint : Cv yX5_tellPoint cX5_tellPoint 2 none 0 := ⟨kw_465, ⟨kw_464, kw_9⟩, kw_61, by decide, by decide, by decide +kernel⟩
set_option maxHeartbeats 4000000 in
set_option maxRecDepth 100000 in
theorem c_X5_tellPoint (l : Launch) (E : Ev) (M : Mem)  (g1 : Is (M 7 2) 0) : Ct l yX5_tellPoint cX5_tellPoint 2 none rm_X5_tellPoint E M [.ref (E.1 (7))] (pV (fun M' => tpR M M')) := by
  refine Ct_of (lv := [(0, .ref (E.1 (7)))]) (by decide) ⟨rfl, rfl⟩ (Nat.le_of_ble_eq_true rfl) rfl (fun x _ B R => ?_)
  refine x_aload_n B dX5_tellPoint_0 0 rfl rfl ?_
  refine x_iconst B dX5_tellPoint_1 ?_
  refine x_bipush B dX5_tellPoint_2 rfl ?_
  refine x_callV B (st := []) (av := [.int (iI (0)), .int (iI (15))]) dX5_tellPoint_4 cs_X5_isNumber kw_466 ⟨rfl, rfl, Nat.le_of_ble_eq_true rfl, Nat.le_of_ble_eq_true rfl⟩ rfl rfl (Nat.le_of_ble_eq_true rfl) (rc_obj B (ci := 5) rfl rfl rfl) (c_X5_isNumber _ E _ 0 15 (by omega) (by omega) (by omega) (by omega) (by assumption)) (k_i (fun z4 M4 hz4 => ?_))
  refine x_if_ne B (tgt := 11) dX5_tellPoint_7 (by decide) ⟨by omega, by omega⟩ (fun c7 => ?_) (fun c7 => ?_)
  · show Vx x E M4 11 [(0, .ref (E.1 (7)))] []
    obtain ⟨hq3, hq2⟩ := nb_1 hz4.1 c7
    rw [hq3]
    refine x_aload_n B dX5_tellPoint_11 0 rfl rfl ?_
    refine x_getI B (ci := 5) (k := 10) (lo := 0) (hi := 12) dX5_tellPoint_12 rfl rfl rfl (by decide) inGX5 kw_136 rfl (fun z12 ez12 lz12 uz12 => ?_)
    refine x_bipush B dX5_tellPoint_15 rfl ?_
    have J37 : ∀ (t : Int), (0 ≤ t ∧ t ≤ 65535 ∧ (z12 = 11 → Is t (M 9 11)) ∧ (¬ z12 = 11 → Is t (M 7 14))) → Vx x E M 37 [(0, .ref (E.1 (7)))] [.int (iI (t))] := by
      intro t hJ
      obtain ⟨t0, t1, t2, t3⟩ := hJ
      refine x_istore_n B dX5_tellPoint_37 [1, 0] rfl (by decide) (lv' := [(0, .ref (E.1 (7))), (1, .int (iI (t)))]) rfl ?_
      refine x_iload_n B dX5_tellPoint_38 1 rfl rfl ?_
      refine x_aload_n B dX5_tellPoint_39 0 rfl rfl ?_
      refine x_getI B (ci := 5) (k := 7) (lo := 0) (hi := 999) dX5_tellPoint_40 rfl rfl rfl (by decide) inGX5 kw_133 rfl (fun z40 ez40 lz40 uz40 => ?_)
      have h40 : 0 ≤ z40 ∧ z40 ≤ 15 := by rw [Is_e ez40]; exact hq2
      refine x_callSN B 0 (st := []) (av := [.int (iI (t)), .int (iI (z40))]) dX5_tellPoint_43 cs_X7_bit rfl ⟨rfl, rfl, Nat.le_of_ble_eq_true rfl, Nat.le_of_ble_eq_true rfl⟩ rfl rfl (Nat.le_of_ble_eq_true rfl) (c_X7_bit _ E _ t z40 (by omega) (by omega) (by omega) (by omega)) (k_i (fun z43 Mq hz43 => ?_))
      obtain ⟨rfl, hz43⟩ := hz43
      refine x_iconst B dX5_tellPoint_46 ?_
      refine x_icmp_ne B (tgt := 56) dX5_tellPoint_47 (by decide) ⟨by omega, by omega⟩ ⟨by omega, by omega⟩ (fun c47 => ?_) (fun c47 => ?_)
      · show Vx x E M 56 [(0, .ref (E.1 (7))), (1, .int (iI (t)))] []
        refine x_aload_n B dX5_tellPoint_56 0 rfl rfl ?_
        refine x_getI B (ci := 5) (k := 10) (lo := 0) (hi := 12) dX5_tellPoint_57 rfl rfl rfl (by decide) inGX5 kw_136 rfl (fun z57 ez57 lz57 uz57 => ?_)
        have e5712 : z57 = z12 := (Is_e ez57).trans (Is_e ez12).symm
        refine x_bipush B dX5_tellPoint_60 rfl ?_
        refine x_icmp_ne B (tgt := 91) dX5_tellPoint_62 (by decide) ⟨by omega, by omega⟩ ⟨by omega, by omega⟩ (fun c62 => ?_) (fun c62 => ?_)
        · show Vx x E M 91 [(0, .ref (E.1 (7))), (1, .int (iI (t)))] []
          refine x_aload_n B dX5_tellPoint_91 0 rfl rfl ?_
          refine x_iload_n B dX5_tellPoint_92 1 rfl rfl ?_
          refine x_iconst B dX5_tellPoint_93 ?_
          refine x_aload_n B dX5_tellPoint_94 0 rfl rfl ?_
          refine x_getI B (ci := 5) (k := 7) (lo := 0) (hi := 999) dX5_tellPoint_95 rfl rfl rfl (by decide) inGX5 kw_133 rfl (fun z95 ez95 lz95 uz95 => ?_)
          have e95 : z95 = z40 := (Is_e ez95).trans (Is_e ez40).symm
          have o16 := or16 (a := t) (p := z95) (by omega) (by omega) (by omega) (by omega)
          refine x_shl1 B dX5_tellPoint_98 (by omega) (by omega) ?_
          refine x_ior B dX5_tellPoint_99 (by omega) (Int.natCast_nonneg _) ?_
          refine x_put B (ci := 5) (k := 14) (lo := 0) (hi := 65535) (ty := .int) dX5_tellPoint_100 rfl rfl rfl (by decide) inGX5 tyX5_ok nmX5 kw_140 rfl (by decide +kernel) (nar_i _) (fit_i _) rfl o16.1 o16.2 ?_
          refine x_aload_n B dX5_tellPoint_103 0 rfl rfl ?_
          refine x_aload_n B dX5_tellPoint_104 0 rfl rfl ?_
          refine x_getI B (ci := 5) (k := 7) (lo := 0) (hi := 999) dX5_tellPoint_105 rfl rfl rfl (by decide) inGX5 kw_133 rfl (fun z105 ez105 lz105 uz105 => ?_)
          have e105 : z105 = z40 := (Is_e ez105).trans (Is_e ez40).symm
          refine x_put B (ci := 5) (k := 11) (lo := 0) (hi := 15) (ty := .int) dX5_tellPoint_108 rfl rfl rfl (by decide) inGX5 tyX5_ok nmX5 kw_137 rfl (by decide +kernel) (nar_i _) (fit_i _) rfl (by omega) (by omega) ?_
          refine x_aload_n B dX5_tellPoint_111 0 rfl rfl ?_
          refine x_iconst B dX5_tellPoint_112 ?_
          refine x_put B (ci := 5) (k := 9) (lo := 0) (hi := 5) (ty := .int) dX5_tellPoint_113 rfl rfl rfl (by decide) inGX5 tyX5_ok nmX5 kw_135 rfl (by decide +kernel) (nar_i _) (fit_i _) rfl (by omega) (by omega) ?_
          exact r_v B R dX5_tellPoint_116 (by have h12 : ¬ z12 = 11 := by {omega}; have e1 := t3 h12; exact ⟨_, z4, hz4.1, Or.inr ⟨c7, Or.inr ⟨by rw [← Is_e ez12]; exact h12, Or.inr ⟨by rw [← Is_e e1, ← Is_e ez40]; rcases hz43 with ⟨h5, h6⟩ | ⟨h5, h6⟩ <;> first | omega | exact h6, by rw [← Is_e e1, ← Is_e ez40, e95, e105, Int.toNat_natCast]; rfl⟩⟩⟩⟩)
        · show Vx x E M 65 [(0, .ref (E.1 (7))), (1, .int (iI (t)))] []
          refine x_aload_n B dX5_tellPoint_65 0 rfl rfl ?_
          refine x_getR B (ci := 5) (k := 0) dX5_tellPoint_66 rfl rfl rfl (by decide) inGX5 kw_122 ?_
          refine x_getR B (ci := 1) (k := 0) dX5_tellPoint_69 rfl rfl rfl (by decide) inGX1 kw_102 ?_
          refine x_bipush B dX5_tellPoint_72 rfl ?_
          refine x_iload_n B dX5_tellPoint_74 1 rfl rfl ?_
          refine x_iconst B dX5_tellPoint_75 ?_
          refine x_aload_n B dX5_tellPoint_76 0 rfl rfl ?_
          refine x_getI B (ci := 5) (k := 7) (lo := 0) (hi := 999) dX5_tellPoint_77 rfl rfl rfl (by decide) inGX5 kw_133 rfl (fun z77 ez77 lz77 uz77 => ?_)
          have e77 : z77 = z40 := (Is_e ez77).trans (Is_e ez40).symm
          have o16 := or16 (a := t) (p := z77) (by omega) (by omega) (by omega) (by omega)
          refine x_shl1 B dX5_tellPoint_80 (by omega) (by omega) ?_
          refine x_ior B dX5_tellPoint_81 (by omega) (Int.natCast_nonneg _) ?_
          refine x_iast B (lo := 0) (hi := 65535) dX5_tellPoint_82 rfl (by omega) (by omega) rfl o16.1 o16.2 ?_
          refine x_aload_n B dX5_tellPoint_83 0 rfl rfl ?_
          refine x_iconst B dX5_tellPoint_84 ?_
          refine x_put B (ci := 5) (k := 9) (lo := 0) (hi := 5) (ty := .int) dX5_tellPoint_85 rfl rfl rfl (by decide) inGX5 tyX5_ok nmX5 kw_135 rfl (by decide +kernel) (nar_i _) (fit_i _) rfl (by omega) (by omega) ?_
          refine x_goto B (tgt := 116) dX5_tellPoint_88 (by decide) ?_
          exact r_v B R dX5_tellPoint_116 (by have h12 : z12 = 11 := by {omega}; have e1 := t2 h12; exact ⟨_, z4, hz4.1, Or.inr ⟨c7, Or.inl ⟨by rw [← Is_e ez12]; exact h12, Or.inr ⟨by rw [← Is_e e1, ← Is_e ez40]; rcases hz43 with ⟨h5, h6⟩ | ⟨h5, h6⟩ <;> first | omega | exact h6, by rw [← Is_e e1, ← Is_e ez40, e77, Int.toNat_natCast]; rfl⟩⟩⟩⟩)
      · show Vx x E M 50 [(0, .ref (E.1 (7))), (1, .int (iI (t)))] []
        refine x_aload_n B dX5_tellPoint_50 0 rfl rfl ?_
        refine x_iconst B dX5_tellPoint_51 ?_
        refine x_callV B (st := []) (av := [.int (iI (4))]) dX5_tellPoint_52 cs_X5_refuse kw_436 ⟨rfl, rfl, Nat.le_of_ble_eq_true rfl, Nat.le_of_ble_eq_true rfl⟩ rfl rfl (Nat.le_of_ble_eq_true rfl) (rc_obj B (ci := 5) rfl rfl rfl) (c_X5_refuse _ E _ 4 (by omega) (by omega)) (k_v (fun M52 hz52 => ?_))
        exact r_v B R dX5_tellPoint_55 (by by_cases h12 : z12 = 11; (have e1 := t2 h12; exact ⟨_, z4, hz4.1, Or.inr ⟨c7, Or.inl ⟨by rw [← Is_e ez12]; exact h12, Or.inl ⟨by rw [← Is_e e1, ← Is_e ez40]; rcases hz43 with ⟨h5, h6⟩ | ⟨h5, h6⟩ <;> first | omega | exact h6, hz52⟩⟩⟩⟩); (have e1 := t3 h12; exact ⟨_, z4, hz4.1, Or.inr ⟨c7, Or.inr ⟨by rw [← Is_e ez12]; exact h12, Or.inl ⟨by rw [← Is_e e1, ← Is_e ez40]; rcases hz43 with ⟨h5, h6⟩ | ⟨h5, h6⟩ <;> first | omega | exact h6, hz52⟩⟩⟩⟩))
    refine x_icmp_ne B (tgt := 33) dX5_tellPoint_17 (by decide) ⟨by omega, by omega⟩ ⟨by omega, by omega⟩ (fun c17 => ?_) (fun c17 => ?_)
    · show Vx x E M 33 [(0, .ref (E.1 (7)))] []
      refine x_aload_n B dX5_tellPoint_33 0 rfl rfl ?_
      refine x_getI B (ci := 5) (k := 14) (lo := 0) (hi := 65535) dX5_tellPoint_34 rfl rfl rfl (by decide) inGX5 kw_140 rfl (fun z34 ez34 lz34 uz34 => ?_)
      exact J37 z34 (⟨by omega, by omega, fun q => absurd q c17, fun _ => ez34⟩)
    · show Vx x E M 20 [(0, .ref (E.1 (7)))] []
      refine x_aload_n B dX5_tellPoint_20 0 rfl rfl ?_
      refine x_getR B (ci := 5) (k := 0) dX5_tellPoint_21 rfl rfl rfl (by decide) inGX5 kw_122 ?_
      refine x_getR B (ci := 1) (k := 0) dX5_tellPoint_24 rfl rfl rfl (by decide) inGX1 kw_102 ?_
      refine x_bipush B dX5_tellPoint_27 rfl ?_
      refine x_iald B (lo := 0) (hi := 65535) dX5_tellPoint_29 rfl (by omega) (by omega) rfl (fun z29 ez29 lz29 uz29 => ?_)
      have ez29 : Is z29 (M 9 11) := ez29
      refine x_goto B (tgt := 37) dX5_tellPoint_30 (by decide) ?_
      exact J37 z29 (⟨by omega, by omega, fun _ => ez29, fun q => absurd c17 q⟩)
  · show Vx x E M4 10 [(0, .ref (E.1 (7)))] []
    exact r_v B R dX5_tellPoint_10 (⟨_, z4, hz4.1, Or.inl ⟨by omega, rfl⟩⟩)
abbrev rm_X5_tellNumber : Room := { frames := 2, cells := 0, slots := 0, locals := 43 }
theorem cs_X5_tellNumber : Cv yX5_tellNumber cX5_tellNumber 1 none 0 := ⟨kw_473, ⟨kw_472, kw_11⟩, kw_61, by decide, by decide, by decide +kernel⟩
set_option maxHeartbeats 4000000 in
set_option maxRecDepth 100000 in
theorem c_X5_tellNumber (l : Launch) (E : Ev) (M : Mem)  (g1 : Is (M 7 2) 0) : Ct l yX5_tellNumber cX5_tellNumber 1 none rm_X5_tellNumber E M [.ref (E.1 (7))] (pV (fun M' => tnR M M')) := by
  refine Ct_of (lv := [(0, .ref (E.1 (7)))]) (by decide) ⟨rfl, rfl⟩ (Nat.le_of_ble_eq_true rfl) rfl (fun x _ B R => ?_)
  refine x_aload_n B dX5_tellNumber_0 0 rfl rfl ?_
  refine x_getsN B 1 1 dX5_tellNumber_1 rfl rfl ?_
  refine x_aload_n B dX5_tellNumber_4 0 rfl rfl ?_
  refine x_getI B (ci := 5) (k := 10) (lo := 0) (hi := 12) dX5_tellNumber_5 rfl rfl rfl (by decide) inGX5 kw_136 rfl (fun z5 ez5 lz5 uz5 => ?_)
  refine x_sald B 1 dX5_tellNumber_8 rfl (by omega) (by have h : (sLo.length : Int) = 13 := rfl; omega) (by decide) (fun z8 ez8 => ?_)
  refine x_getsN B 2 2 dX5_tellNumber_9 rfl rfl ?_
  refine x_aload_n B dX5_tellNumber_12 0 rfl rfl ?_
  refine x_getI B (ci := 5) (k := 10) (lo := 0) (hi := 12) dX5_tellNumber_13 rfl rfl rfl (by decide) inGX5 kw_136 rfl (fun z13 ez13 lz13 uz13 => ?_)
  refine x_sald B 2 dX5_tellNumber_16 rfl (by omega) (by have h : (sHi.length : Int) = 13 := rfl; omega) (by decide) (fun z16 ez16 => ?_)
  have e513 : z13 = z5 := (Is_e ez13).trans (Is_e ez5).symm
  have e8 := Is_e ez8
  have e16 : z16 = sHi.getD z5.toNat 0 := by rw [Is_e ez16, e513]
  have hlh := lh13 z5.toNat (by omega)
  rw [← e8, ← e16] at hlh
  refine x_callV B (st := []) (av := [.int (iI (z8)), .int (iI (z16))]) dX5_tellNumber_17 cs_X5_isNumber kw_466 ⟨rfl, rfl, Nat.le_of_ble_eq_true rfl, Nat.le_of_ble_eq_true rfl⟩ rfl rfl (Nat.le_of_ble_eq_true rfl) (rc_obj B (ci := 5) rfl rfl rfl) (c_X5_isNumber _ E _ z8 z16 (by omega) (by omega) (by omega) (by omega) (by assumption)) (k_i (fun z17 M17 hz17 => ?_))
  have hnb : nbR M (sLo.getD (M 7 10).toNat 0) (sHi.getD (M 7 10).toNat 0) M17 z17 := by
    have h := hz17.1
    rw [e8, e16, Is_e ez5] at h
    exact h
  refine x_if_ne B (tgt := 24) dX5_tellNumber_20 (by decide) ⟨by omega, by omega⟩ (fun c20 => ?_) (fun c20 => ?_)
  · show Vx x E M17 24 [(0, .ref (E.1 (7)))] []
    obtain ⟨hq3, hq2⟩ := nb_1 hz17.1 c20
    rw [hq3]
    refine x_aload_n B dX5_tellNumber_24 0 rfl rfl ?_
    refine x_getI B (ci := 5) (k := 10) (lo := 0) (hi := 12) dX5_tellNumber_25 rfl rfl rfl (by decide) inGX5 kw_136 rfl (fun z25 ez25 lz25 uz25 => ?_)
    have e255 : z25 = z5 := (Is_e ez25).trans (Is_e ez5).symm
    refine x_bipush B dX5_tellNumber_28 rfl ?_
    refine x_icmp_ne B (tgt := 52) dX5_tellNumber_30 (by decide) ⟨by omega, by omega⟩ ⟨by omega, by omega⟩ (fun c30 => ?_) (fun c30 => ?_)
    · show Vx x E M 52 [(0, .ref (E.1 (7)))] []
      refine x_aload_n B dX5_tellNumber_52 0 rfl rfl ?_
      refine x_getR B (ci := 5) (k := 0) dX5_tellNumber_53 rfl rfl rfl (by decide) inGX5 kw_122 ?_
      refine x_getR B (ci := 1) (k := 0) dX5_tellNumber_56 rfl rfl rfl (by decide) inGX1 kw_102 ?_
      refine x_aload_n B dX5_tellNumber_59 0 rfl rfl ?_
      refine x_getI B (ci := 5) (k := 10) (lo := 0) (hi := 12) dX5_tellNumber_60 rfl rfl rfl (by decide) inGX5 kw_136 rfl (fun z60 ez60 lz60 uz60 => ?_)
      refine x_aload_n B dX5_tellNumber_63 0 rfl rfl ?_
      refine x_getI B (ci := 5) (k := 7) (lo := 0) (hi := 999) dX5_tellNumber_64 rfl rfl rfl (by decide) inGX5 kw_133 rfl (fun z64 ez64 lz64 uz64 => ?_)
      have e605 : z60 = z5 := (Is_e ez60).trans (Is_e ez5).symm
      have h64 : z8 ≤ z64 ∧ z64 ≤ z16 := by rw [Is_e ez64]; exact hq2
      have h9 := rng9 z60.toNat (by omega)
      rw [e605, ← e8, ← e16, ← e605] at h9
      refine x_iast B (lo := (rngT 9 z60.toNat).1) (hi := (rngT 9 z60.toNat).2) dX5_tellNumber_67 rfl (by omega) (by omega) rfl (Int.le_trans h9.1 h64.1) (Int.le_trans h64.2 h9.2) ?_
      refine x_aload_n B dX5_tellNumber_68 0 rfl rfl ?_
      refine x_iconst B dX5_tellNumber_69 ?_
      refine x_put B (ci := 5) (k := 9) (lo := 0) (hi := 5) (ty := .int) dX5_tellNumber_70 rfl rfl rfl (by decide) inGX5 tyX5_ok nmX5 kw_135 rfl (by decide +kernel) (nar_i _) (fit_i _) rfl (by omega) (by omega) ?_
      exact r_v B R dX5_tellNumber_73 (⟨_, z17, hnb, Or.inr ⟨c20, Or.inr ⟨by rw [← Is_e ez25]; exact c30, by rw [Is_e ez60, Is_e ez64]⟩⟩⟩)
    · show Vx x E M 33 [(0, .ref (E.1 (7)))] []
      refine x_aload_n B dX5_tellNumber_33 0 rfl rfl ?_
      refine x_getR B (ci := 5) (k := 0) dX5_tellNumber_34 rfl rfl rfl (by decide) inGX5 kw_122 ?_
      refine x_getR B (ci := 1) (k := 1) dX5_tellNumber_37 rfl rfl rfl (by decide) inGX1 kw_106 ?_
      refine x_aload_n B dX5_tellNumber_40 0 rfl rfl ?_
      refine x_getI B (ci := 5) (k := 11) (lo := 0) (hi := 15) dX5_tellNumber_41 rfl rfl rfl (by decide) inGX5 kw_137 rfl (fun z41 ez41 lz41 uz41 => ?_)
      refine x_aload_n B dX5_tellNumber_44 0 rfl rfl ?_
      refine x_getI B (ci := 5) (k := 7) (lo := 0) (hi := 999) dX5_tellNumber_45 rfl rfl rfl (by decide) inGX5 kw_133 rfl (fun z45 ez45 lz45 uz45 => ?_)
      have h45 : 1 ≤ z45 ∧ z45 ≤ 9 := by
        have a : z8 = 1 := by
          rw [e8, show z5 = 12 by omega]
          rfl
        have b : z16 = 9 := by
          rw [e16, show z5 = 12 by omega]
          rfl
        rw [Is_e ez45]
        rw [a, b] at hq2
        exact hq2
      refine x_iast B (lo := 1) (hi := 9) dX5_tellNumber_48 rfl (by omega) (by omega) rfl (by omega) (by omega) ?_
      refine x_goto B (tgt := 68) dX5_tellNumber_49 (by decide) ?_
      refine x_aload_n B dX5_tellNumber_68 0 rfl rfl ?_
      refine x_iconst B dX5_tellNumber_69 ?_
      refine x_put B (ci := 5) (k := 9) (lo := 0) (hi := 5) (ty := .int) dX5_tellNumber_70 rfl rfl rfl (by decide) inGX5 tyX5_ok nmX5 kw_135 rfl (by decide +kernel) (nar_i _) (fit_i _) rfl (by omega) (by omega) ?_
      exact r_v B R dX5_tellNumber_73 (⟨_, z17, hnb, Or.inr ⟨c20, Or.inl ⟨by rw [← Is_e ez25]; exact c30, by rw [Is_e ez41, Is_e ez45]⟩⟩⟩)
  · show Vx x E M17 23 [(0, .ref (E.1 (7)))] []
    exact r_v B R dX5_tellNumber_23 (⟨_, z17, hnb, Or.inl ⟨by omega, rfl⟩⟩)
