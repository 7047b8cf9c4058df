theorem lh : ∀ n : Nat, n < 11 → 0 ≤ sLo.getD n 0 ∧ sLo.getD n 0 ≤ sHi.getD n 0 ∧ sHi.getD n 0 ≤ 99 := by decide +kernel
theorem rng9 : ∀ n : Nat, n < 11 → rngT 9 n = (sLo.getD n 0, sHi.getD n 0) := by decide +kernel
def nmR (M M0 : Mem) : Prop := 11 ≤ M 7 7 ∧ M0 = M ∨ M 7 7 < 11 ∧ (M 7 9).toNat.testBit (M 7 7).toNat = false ∧ M0 = sto M 7 9 (orP (M 7 9) (M 7 7))
def rcR (n : Int) (M0 M1 : Mem) : Prop := n = 0 ∧ rwR M0 M1 ∨ n = 5 ∧ M1 = sto M0 9 5 1 ∨ n = 11 ∧ (∃ (Ma : Mem) (p : Int), rpR M0 (M0 9 11) Ma p ∧ M1 = sto Ma 9 11 (orP (M0 9 11) p)) ∨ n = 12 ∧ rtR M0 M1 ∨ (¬ n = 0 ∧ ¬ n = 5 ∧ n < 11) ∧ ∃ (Ma : Mem) (z : Int), rnR M0 (sLo.getD n.toNat 0) (sHi.getD n.toNat 0) Ma z ∧ M1 = sto Ma 9 n.toNat z
/-- a line is read -/
def rlR (M M' : Mem) : Prop := ¬ (M 7 6 = 1 ∧ M 7 7 ≤ 12) ∧ M' = rfM M 2 ∨ (M 7 6 = 1 ∧ M 7 7 ≤ 12) ∧ ((M 7 7 < 11 ∧ (M 7 9).toNat.testBit (M 7 7).toNat = true ∧ M' = rfM M 4) ∨ ∃ M0 M1 : Mem, nmR M M0 ∧ rcR (M 7 7) M0 M1 ∧ rsR M1 M')
abbrev rm_X5_readLine : Room := { frames := 11, cells := 0, slots := 0, locals := 233 }
theorem cs_X5_readLine : Cv yX5_readLine cX5_readLine 2 none 0 := ⟨kw_437, ⟨kw_436, kw_6⟩, kw_60, by decide, by decide, by decide +kernel⟩
set_option maxHeartbeats 4000000 in
set_option maxRecDepth 100000 in
theorem c_X5_readLine (l : Launch) (E : Ev) (M : Mem)   : Ct l yX5_readLine cX5_readLine 2 none rm_X5_readLine E M [.ref (E.1 (7))] (pV (fun M' => rlR M M')) := by
  refine Ct_of (lv := [(0, .ref (E.1 (7)))]) (by decide) ⟨rfl, rfl⟩ (Nat.le_of_ble_eq_true rfl) rfl (fun x _ B R => ?_)
  refine x_aload_n B dX5_readLine_0 0 rfl rfl ?_
  refine x_getI B (ci := 5) (k := 6) (lo := 0) (hi := 3) dX5_readLine_1 rfl rfl rfl (by decide) inGX5 kw_131 rfl (fun z1 ez1 lz1 uz1 => ?_)
  have e1 := Is_e ez1
  refine x_iconst B dX5_readLine_4 ?_
  refine x_icmp_ne B (tgt := 17) dX5_readLine_5 (by decide) ⟨by omega, by omega⟩ ⟨by omega, by omega⟩ (fun c5 => ?_) (fun c5 => ?_)
  · show Vx x E M 17 [(0, .ref (E.1 (7)))] []
    refine x_aload_n B dX5_readLine_17 0 rfl rfl ?_
    refine x_iconst B dX5_readLine_18 ?_
    refine x_callV B (st := []) (av := [.int (iI (2))]) dX5_readLine_19 cs_X5_refuse kw_423 ⟨rfl, rfl, Nat.le_of_ble_eq_true rfl, Nat.le_of_ble_eq_true rfl⟩ rfl rfl (Nat.le_of_ble_eq_true rfl) (rc_obj B (ci := 5) rfl rfl rfl) (c_X5_refuse _ E _ 2 (by omega) (by omega)) (k_v (fun M19 hz19 => ?_))
    exact r_v B R dX5_readLine_22 (Or.inl ⟨by rw [← e1]; omega, hz19⟩)
  · show Vx x E M 8 [(0, .ref (E.1 (7)))] []
    refine x_aload_n B dX5_readLine_8 0 rfl rfl ?_
    refine x_getI B (ci := 5) (k := 7) (lo := 0) (hi := 999) dX5_readLine_9 rfl rfl rfl (by decide) inGX5 kw_132 rfl (fun z9 ez9 lz9 uz9 => ?_)
    have e9 := Is_e ez9
    refine x_bipush B dX5_readLine_12 rfl ?_
    refine x_icmp_le B (tgt := 23) dX5_readLine_14 (by decide) ⟨by omega, by omega⟩ ⟨by omega, by omega⟩ (fun c14 => ?_) (fun c14 => ?_)
    · show Vx x E M 23 [(0, .ref (E.1 (7)))] []
      refine x_aload_n B dX5_readLine_23 0 rfl rfl ?_
      refine x_getI B (ci := 5) (k := 7) (lo := 0) (hi := 999) dX5_readLine_24 rfl rfl rfl (by decide) inGX5 kw_132 rfl (fun z24 ez24 lz24 uz24 => ?_)
      have e24 := Is_e ez24
      have e249 : z24 = z9 := by rw [e24, e9]
      refine x_istore_n B dX5_readLine_27 [1, 0] rfl (by decide) (lv' := [(0, .ref (E.1 (7))), (1, .int (iI (z24)))]) rfl ?_
      refine x_iload_n B dX5_readLine_28 1 rfl rfl ?_
      refine x_bipush B dX5_readLine_29 rfl ?_
      have J70 : ∀ (Mj : Mem), (nmR M Mj) → Vx x E Mj 70 [(0, .ref (E.1 (7))), (1, .int (iI (z24)))] [] := by
        intro Mj hJ
        obtain hj := hJ
        refine x_iload_n B dX5_readLine_70 1 rfl rfl ?_
        rcases (show (¬ z24 = 0 ∧ ¬ z24 = 5 ∧ ¬ z24 = 11 ∧ ¬ z24 = 12) ∨ (z24 = 0) ∨ (z24 = 5) ∨ (z24 = 11) ∨ (z24 = 12) by omega) with hsw | hsw | hsw | hsw | hsw
        · refine x_look B (off := 100) (tgt := 171) dX5_readLine_71 (by decide) ⟨by omega, by omega⟩ (by simp only [Op.lookupswitch.offset]; simp [hsw, eq_comm (b := z24)]; done) (by decide) ?_
          refine x_aload_n B dX5_readLine_171 0 rfl rfl ?_
          refine x_getR B (ci := 5) (k := 0) dX5_readLine_172 rfl rfl rfl (by decide) inGX5 kw_121 ?_
          refine x_getR B (ci := 1) (k := 0) dX5_readLine_175 rfl rfl rfl (by decide) inGX1 kw_101 ?_
          refine x_iload_n B dX5_readLine_178 1 rfl rfl ?_
          refine x_aload_n B dX5_readLine_179 0 rfl rfl ?_
          refine x_getsN B 1 1 dX5_readLine_180 rfl rfl ?_
          refine x_iload_n B dX5_readLine_183 1 rfl rfl ?_
          refine x_sald B 1 dX5_readLine_184 rfl (by omega) (by have h : (sLo.length : Int) = 12 := rfl; omega) (by decide) (fun z184 ez184 => ?_)
          refine x_getsN B 2 2 dX5_readLine_185 rfl rfl ?_
          refine x_iload_n B dX5_readLine_188 1 rfl rfl ?_
          refine x_sald B 2 dX5_readLine_189 rfl (by omega) (by have h : (sHi.length : Int) = 12 := rfl; omega) (by decide) (fun z189 ez189 => ?_)
          have e184 := Is_e ez184
          have e189 := Is_e ez189
          have hlh := lh z24.toNat (by omega)
          rw [← e184, ← e189] at hlh
          refine x_callV B (st := [.int (iI (z24)), .ref (E.1 (9))]) (av := [.int (iI (z184)), .int (iI (z189))]) dX5_readLine_190 cs_X5_readNumber kw_449 ⟨rfl, rfl, Nat.le_of_ble_eq_true rfl, Nat.le_of_ble_eq_true rfl⟩ rfl rfl (Nat.le_of_ble_eq_true rfl) (rc_obj B (ci := 5) rfl rfl rfl) (c_X5_readNumber _ E _ z184 z189 (by omega) (by omega) (by omega)) (k_i (fun z190 M190 hz190 => ?_))
          have hn0 := hz190.2.1
          have hn1 := hz190.2.2
          refine x_iast B (lo := (sLo.getD z24.toNat 0)) (hi := (sHi.getD z24.toNat 0)) dX5_readLine_193 rfl (by omega) (by omega) (rng9 _ (by omega)) (by rw [← e184]; exact hn0) (by rw [← e189]; exact hn1) ?_
          refine x_aload_n B dX5_readLine_194 0 rfl rfl ?_
          refine x_callV B (st := []) (av := []) dX5_readLine_195 cs_X5_readStop kw_461 ⟨rfl, rfl, Nat.le_of_ble_eq_true rfl, Nat.le_of_ble_eq_true rfl⟩ rfl rfl (Nat.le_of_ble_eq_true rfl) (rc_obj B (ci := 5) rfl rfl rfl) (c_X5_readStop _ E _ ) (k_v (fun M195 hz195 => ?_))
          exact r_v B R dX5_readLine_198 (Or.inr ⟨⟨by rw [← e1]; omega, by rw [← e9]; omega⟩, Or.inr ⟨Mj, _, hJ, by rw [← e24]; exact Or.inr (Or.inr (Or.inr (Or.inr ⟨by omega, M190, z190, by rw [← e184, ← e189]; exact hz190.1, rfl⟩))), hz195⟩⟩)
        · refine x_look B (off := 41) (tgt := 112) dX5_readLine_71 (by decide) ⟨by omega, by omega⟩ (by simp only [Op.lookupswitch.offset]; simp [hsw, eq_comm (b := z24)]; done) (by decide) ?_
          refine x_aload_n B dX5_readLine_112 0 rfl rfl ?_
          refine x_callV B (st := []) (av := []) dX5_readLine_113 cs_X5_readWay kw_441 ⟨rfl, rfl, Nat.le_of_ble_eq_true rfl, Nat.le_of_ble_eq_true rfl⟩ rfl rfl (Nat.le_of_ble_eq_true rfl) (rc_obj B (ci := 5) rfl rfl rfl) (c_X5_readWay _ E _ ) (k_v (fun M113 hz113 => ?_))
          refine x_goto B (tgt := 194) dX5_readLine_116 (by decide) ?_
          refine x_aload_n B dX5_readLine_194 0 rfl rfl ?_
          refine x_callV B (st := []) (av := []) dX5_readLine_195 cs_X5_readStop kw_461 ⟨rfl, rfl, Nat.le_of_ble_eq_true rfl, Nat.le_of_ble_eq_true rfl⟩ rfl rfl (Nat.le_of_ble_eq_true rfl) (rc_obj B (ci := 5) rfl rfl rfl) (c_X5_readStop _ E _ ) (k_v (fun M195 hz195 => ?_))
          exact r_v B R dX5_readLine_198 (Or.inr ⟨⟨by rw [← e1]; omega, by rw [← e9]; omega⟩, Or.inr ⟨Mj, M113, hJ, by rw [← e24]; exact Or.inl ⟨hsw, hz113⟩, hz195⟩⟩)
        · refine x_look B (off := 48) (tgt := 119) dX5_readLine_71 (by decide) ⟨by omega, by omega⟩ (by simp only [Op.lookupswitch.offset]; simp [hsw, eq_comm (b := z24)]; done) (by decide) ?_
          refine x_aload_n B dX5_readLine_119 0 rfl rfl ?_
          refine x_getR B (ci := 5) (k := 0) dX5_readLine_120 rfl rfl rfl (by decide) inGX5 kw_121 ?_
          refine x_getR B (ci := 1) (k := 0) dX5_readLine_123 rfl rfl rfl (by decide) inGX1 kw_101 ?_
          refine x_iconst B dX5_readLine_126 ?_
          refine x_iconst B dX5_readLine_127 ?_
          refine x_iast B (lo := 0) (hi := 1) dX5_readLine_128 rfl (by omega) (by omega) rfl (by omega) (by omega) ?_
          refine x_goto B (tgt := 194) dX5_readLine_129 (by decide) ?_
          refine x_aload_n B dX5_readLine_194 0 rfl rfl ?_
          refine x_callV B (st := []) (av := []) dX5_readLine_195 cs_X5_readStop kw_461 ⟨rfl, rfl, Nat.le_of_ble_eq_true rfl, Nat.le_of_ble_eq_true rfl⟩ rfl rfl (Nat.le_of_ble_eq_true rfl) (rc_obj B (ci := 5) rfl rfl rfl) (c_X5_readStop _ E _ ) (k_v (fun M195 hz195 => ?_))
          exact r_v B R dX5_readLine_198 (Or.inr ⟨⟨by rw [← e1]; omega, by rw [← e9]; omega⟩, Or.inr ⟨Mj, _, hJ, by rw [← e24]; exact Or.inr (Or.inl ⟨hsw, rfl⟩), hz195⟩⟩)
        · refine x_look B (off := 61) (tgt := 132) dX5_readLine_71 (by decide) ⟨by omega, by omega⟩ (by simp only [Op.lookupswitch.offset]; simp [hsw, eq_comm (b := z24)]; done) (by decide) ?_
          refine x_aload_n B dX5_readLine_132 0 rfl rfl ?_
          refine x_getR B (ci := 5) (k := 0) dX5_readLine_133 rfl rfl rfl (by decide) inGX5 kw_121 ?_
          refine x_getR B (ci := 1) (k := 0) dX5_readLine_136 rfl rfl rfl (by decide) inGX1 kw_101 ?_
          refine x_bipush B dX5_readLine_139 rfl ?_
          refine x_dup2 B dX5_readLine_141 rfl rfl ?_
          refine x_iald B (lo := 0) (hi := 65535) dX5_readLine_142 rfl (by omega) (by omega) rfl (fun z142 ez142 lz142 uz142 => ?_)
          have ez142 : Is z142 (Mj 9 11) := ez142
          refine x_iconst B dX5_readLine_143 ?_
          refine x_aload_n B dX5_readLine_144 0 rfl rfl ?_
          refine x_aload_n B dX5_readLine_145 0 rfl rfl ?_
          refine x_getR B (ci := 5) (k := 0) dX5_readLine_146 rfl rfl rfl (by decide) inGX5 kw_121 ?_
          refine x_getR B (ci := 1) (k := 0) dX5_readLine_149 rfl rfl rfl (by decide) inGX1 kw_101 ?_
          refine x_bipush B dX5_readLine_152 rfl ?_
          refine x_iald B (lo := 0) (hi := 65535) dX5_readLine_154 rfl (by omega) (by omega) rfl (fun z154 ez154 lz154 uz154 => ?_)
          have ez154 : Is z154 (Mj 9 11) := ez154
          have e142 := Is_e ez142
          have e154 := Is_e ez154
          refine x_callV B (st := [.int (iI (1)), .int (iI (z142)), .int (iI (11)), .ref (E.1 (9))]) (av := [.int (iI (z154))]) dX5_readLine_155 cs_X5_readNewPoint kw_445 ⟨rfl, rfl, Nat.le_of_ble_eq_true rfl, Nat.le_of_ble_eq_true rfl⟩ rfl rfl (Nat.le_of_ble_eq_true rfl) (rc_obj B (ci := 5) rfl rfl rfl) (c_X5_readNewPoint _ E _ z154 (by omega) (by omega)) (k_i (fun z155 M155 hz155 => ?_))
          have hq0 := hz155.2.1
          have hq1 := hz155.2.2
          have q16 := or16 (a := z142) (p := z155) (by omega) (by omega) (by omega) (by omega)
          refine x_shl1 B dX5_readLine_158 (by omega) (by omega) ?_
          refine x_ior B dX5_readLine_159 (by omega) (Int.natCast_nonneg _) ?_
          refine x_iast B (lo := 0) (hi := 65535) dX5_readLine_160 rfl (by omega) (by omega) rfl q16.1 q16.2 ?_
          refine x_goto B (tgt := 194) dX5_readLine_161 (by decide) ?_
          refine x_aload_n B dX5_readLine_194 0 rfl rfl ?_
          refine x_callV B (st := []) (av := []) dX5_readLine_195 cs_X5_readStop kw_461 ⟨rfl, rfl, Nat.le_of_ble_eq_true rfl, Nat.le_of_ble_eq_true rfl⟩ rfl rfl (Nat.le_of_ble_eq_true rfl) (rc_obj B (ci := 5) rfl rfl rfl) (c_X5_readStop _ E _ ) (k_v (fun M195 hz195 => ?_))
          exact r_v B R dX5_readLine_198 (Or.inr ⟨⟨by rw [← e1]; omega, by rw [← e9]; omega⟩, Or.inr ⟨Mj, _, hJ, by rw [← e24]; exact Or.inr (Or.inr (Or.inl ⟨hsw, M155, z155, by rw [← e154]; exact hz155.1, by rw [← e142, Int.toNat_natCast]; rfl⟩)), hz195⟩⟩)
        · refine x_look B (off := 93) (tgt := 164) dX5_readLine_71 (by decide) ⟨by omega, by omega⟩ (by simp only [Op.lookupswitch.offset]; simp [hsw, eq_comm (b := z24)]; done) (by decide) ?_
          refine x_aload_n B dX5_readLine_164 0 rfl rfl ?_
          refine x_callV B (st := []) (av := []) dX5_readLine_165 cs_X5_readLeast kw_453 ⟨rfl, rfl, Nat.le_of_ble_eq_true rfl, Nat.le_of_ble_eq_true rfl⟩ rfl rfl (Nat.le_of_ble_eq_true rfl) (rc_obj B (ci := 5) rfl rfl rfl) (c_X5_readLeast _ E _ ) (k_v (fun M165 hz165 => ?_))
          refine x_goto B (tgt := 194) dX5_readLine_168 (by decide) ?_
          refine x_aload_n B dX5_readLine_194 0 rfl rfl ?_
          refine x_callV B (st := []) (av := []) dX5_readLine_195 cs_X5_readStop kw_461 ⟨rfl, rfl, Nat.le_of_ble_eq_true rfl, Nat.le_of_ble_eq_true rfl⟩ rfl rfl (Nat.le_of_ble_eq_true rfl) (rc_obj B (ci := 5) rfl rfl rfl) (c_X5_readStop _ E _ ) (k_v (fun M195 hz195 => ?_))
          exact r_v B R dX5_readLine_198 (Or.inr ⟨⟨by rw [← e1]; omega, by rw [← e9]; omega⟩, Or.inr ⟨Mj, M165, hJ, by rw [← e24]; exact Or.inr (Or.inr (Or.inr (Or.inl ⟨hsw, hz165⟩))), hz195⟩⟩)
      refine x_icmp_eq B (tgt := 70) dX5_readLine_31 (by decide) ⟨by omega, by omega⟩ ⟨by omega, by omega⟩ (fun c31 => ?_) (fun c31 => ?_)
      · show Vx x E M 70 [(0, .ref (E.1 (7))), (1, .int (iI (z24)))] []
        exact J70 M (Or.inl ⟨by rw [← e24]; omega, rfl⟩)
      · show Vx x E M 34 [(0, .ref (E.1 (7))), (1, .int (iI (z24)))] []
        refine x_iload_n B dX5_readLine_34 1 rfl rfl ?_
        refine x_bipush B dX5_readLine_35 rfl ?_
        refine x_icmp_eq B (tgt := 70) dX5_readLine_37 (by decide) ⟨by omega, by omega⟩ ⟨by omega, by omega⟩ (fun c37 => ?_) (fun c37 => ?_)
        · show Vx x E M 70 [(0, .ref (E.1 (7))), (1, .int (iI (z24)))] []
          exact J70 M (Or.inl ⟨by rw [← e24]; omega, rfl⟩)
        · show Vx x E M 40 [(0, .ref (E.1 (7))), (1, .int (iI (z24)))] []
          refine x_aload_n B dX5_readLine_40 0 rfl rfl ?_
          refine x_getI B (ci := 5) (k := 9) (lo := 0) (hi := 65535) dX5_readLine_41 rfl rfl rfl (by decide) inGX5 kw_134 rfl (fun z41 ez41 lz41 uz41 => ?_)
          have e41 := Is_e ez41
          refine x_iload_n B dX5_readLine_44 1 rfl rfl ?_
          refine x_callSN B 0 (st := []) (av := [.int (iI (z41)), .int (iI (z24))]) dX5_readLine_45 cs_X7_bit rfl ⟨rfl, rfl, Nat.le_of_ble_eq_true rfl, Nat.le_of_ble_eq_true rfl⟩ rfl rfl (Nat.le_of_ble_eq_true rfl) (c_X7_bit _ E _ z41 z24 (by omega) (by omega) (by omega) (by omega)) (k_i (fun z45 Mq hz45 => ?_))
          obtain ⟨rfl, hz45⟩ := hz45
          refine x_iconst B dX5_readLine_48 ?_
          refine x_icmp_ne B (tgt := 58) dX5_readLine_49 (by decide) ⟨by omega, by omega⟩ ⟨by omega, by omega⟩ (fun c49 => ?_) (fun c49 => ?_)
          · show Vx x E M 58 [(0, .ref (E.1 (7))), (1, .int (iI (z24)))] []
            refine x_aload_n B dX5_readLine_58 0 rfl rfl ?_
            refine x_dup B dX5_readLine_59 rfl ?_
            refine x_getI B (ci := 5) (k := 9) (lo := 0) (hi := 65535) dX5_readLine_60 rfl rfl rfl (by decide) inGX5 kw_134 rfl (fun z60 ez60 lz60 uz60 => ?_)
            refine x_iconst B dX5_readLine_63 ?_
            refine x_iload_n B dX5_readLine_64 1 rfl rfl ?_
            refine x_shl1 B dX5_readLine_65 (by omega) (by omega) ?_
            have e60 := Is_e ez60
            have o16 := or16 (a := z60) (p := z24) (by omega) (by omega) (by omega) (by omega)
            refine x_ior B dX5_readLine_66 (by omega) (Int.natCast_nonneg _) ?_
            refine x_put B (ci := 5) (k := 9) (lo := 0) (hi := 65535) (ty := .int) dX5_readLine_67 rfl rfl rfl (by decide) inGX5 tyX5_ok nmX5 kw_134 rfl (by decide +kernel) (nar_i _) (fit_i _) rfl o16.1 o16.2 ?_
            exact J70 (sto M 7 9 (((z60).toNat ||| (((2 ^ (z24).toNat : Nat) : Int)).toNat : Nat) : Int)) (Or.inr ⟨by rw [← e24]; omega, by rw [← e24, ← e41]; rcases hz45 with ⟨h5, h6⟩ | ⟨h5, h6⟩ <;> first | omega | exact h6, by rw [← e24, ← e60, Int.toNat_natCast]; rfl⟩)
          · show Vx x E M 52 [(0, .ref (E.1 (7))), (1, .int (iI (z24)))] []
            refine x_aload_n B dX5_readLine_52 0 rfl rfl ?_
            refine x_iconst B dX5_readLine_53 ?_
            refine x_callV B (st := []) (av := [.int (iI (4))]) dX5_readLine_54 cs_X5_refuse kw_423 ⟨rfl, rfl, Nat.le_of_ble_eq_true rfl, Nat.le_of_ble_eq_true rfl⟩ rfl rfl (Nat.le_of_ble_eq_true rfl) (rc_obj B (ci := 5) rfl rfl rfl) (c_X5_refuse _ E _ 4 (by omega) (by omega)) (k_v (fun M54 hz54 => ?_))
            exact r_v B R dX5_readLine_57 (Or.inr ⟨⟨by rw [← e1]; omega, by rw [← e9]; omega⟩, Or.inl ⟨by rw [← e24]; omega, by rw [← e24, ← e41]; rcases hz45 with ⟨h5, h6⟩ | ⟨h5, h6⟩ <;> first | omega | exact h6, hz54⟩⟩)
    · show Vx x E M 17 [(0, .ref (E.1 (7)))] []
      refine x_aload_n B dX5_readLine_17 0 rfl rfl ?_
      refine x_iconst B dX5_readLine_18 ?_
      refine x_callV B (st := []) (av := [.int (iI (2))]) dX5_readLine_19 cs_X5_refuse kw_423 ⟨rfl, rfl, Nat.le_of_ble_eq_true rfl, Nat.le_of_ble_eq_true rfl⟩ rfl rfl (Nat.le_of_ble_eq_true rfl) (rc_obj B (ci := 5) rfl rfl rfl) (c_X5_refuse _ E _ 2 (by omega) (by omega)) (k_v (fun M19 hz19 => ?_))
      exact r_v B R dX5_readLine_22 (Or.inl ⟨by rw [← e1, ← e9]; omega, hz19⟩)
