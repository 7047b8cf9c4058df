/-- the name is told -/
def nmM (M : Mem) : Mem := sto (sto M 7 10 (M 7 7)) 7 13 (orP (M 7 13) (M 7 7))
/-- a line begins -/
def blR (M M' : Mem) : Prop := M 7 6 = 0 ∧ M' = sto M 7 9 5 ∨ ¬ M 7 6 = 0 ∧ (¬ (M 7 6 = 1 ∧ M 7 7 ≤ 12) ∧ M' = rfM M 2 ∨ (M 7 6 = 1 ∧ M 7 7 ≤ 12) ∧ (M 7 7 < 11 ∧ (M 7 13).toNat.testBit (M 7 7).toNat = true ∧ M' = rfM (sto M 7 10 (M 7 7)) 4 ∨ ¬ (M 7 7 < 11 ∧ (M 7 13).toNat.testBit (M 7 7).toNat = true) ∧ (M 7 7 = 0 ∧ M' = sto (sto (nmM M) 7 9 3) 7 9 1 ∨ M 7 7 = 5 ∧ M' = sto (sto (sto (nmM M) 7 9 3) 9 5 1) 7 9 4 ∨ (M 7 7 = 11 ∨ M 7 7 = 12) ∧ M' = sto (nmM M) 7 9 2 ∨ (¬ M 7 7 = 0 ∧ ¬ M 7 7 = 5 ∧ M 7 7 < 11) ∧ M' = sto (nmM M) 7 9 3)))
/-- a TOKEN is used -/
def utR (M M' : Mem) : Prop := M 7 9 = 0 ∧ blR M M' ∨ M 7 9 = 1 ∧ twR M M' ∨ M 7 9 = 2 ∧ tpR M M' ∨ M 7 9 = 3 ∧ tnR M M' ∨ (¬ M 7 9 = 0 ∧ ¬ M 7 9 = 1 ∧ ¬ M 7 9 = 2 ∧ ¬ M 7 9 = 3) ∧ elR M M'
abbrev rm_X5_beginLine : Room := { frames := 1, cells := 0, slots := 0, locals := 21 }
theorem cs_X5_beginLine : Cv yX5_beginLine cX5_beginLine 2 none 0 := ⟨kw_454, ⟨kw_453, kw_7⟩, kw_61, by decide, by decide, by decide +kernel⟩
set_option maxHeartbeats 4000000 in
set_option maxRecDepth 100000 in
theorem c_X5_beginLine (l : Launch) (E : Ev) (M : Mem)  (g1 : Is (M 7 2) 0) : Ct l yX5_beginLine cX5_beginLine 2 none rm_X5_beginLine E M [.ref (E.1 (7))] (pV (fun M' => blR M M')) := by
  refine Ct_of (lv := [(0, .ref (E.1 (7)))]) (by decide) ⟨rfl, rfl⟩ (Nat.le_of_ble_eq_true rfl) rfl (fun x _ B R => ?_)
  refine x_aload_n B dX5_beginLine_0 0 rfl rfl ?_
  refine x_getI B (ci := 5) (k := 6) (lo := 0) (hi := 3) dX5_beginLine_1 rfl rfl rfl (by decide) inGX5 kw_132 rfl (fun z1 ez1 lz1 uz1 => ?_)
  refine x_if_ne B (tgt := 13) dX5_beginLine_4 (by decide) ⟨by omega, by omega⟩ (fun c4 => ?_) (fun c4 => ?_)
  · show Vx x E M 13 [(0, .ref (E.1 (7)))] []
    refine x_aload_n B dX5_beginLine_13 0 rfl rfl ?_
    refine x_getI B (ci := 5) (k := 6) (lo := 0) (hi := 3) dX5_beginLine_14 rfl rfl rfl (by decide) inGX5 kw_132 rfl (fun z14 ez14 lz14 uz14 => ?_)
    refine x_iconst B dX5_beginLine_17 ?_
    refine x_icmp_ne B (tgt := 30) dX5_beginLine_18 (by decide) ⟨by omega, by omega⟩ ⟨by omega, by omega⟩ (fun c18 => ?_) (fun c18 => ?_)
    · show Vx x E M 30 [(0, .ref (E.1 (7)))] []
      refine x_aload_n B dX5_beginLine_30 0 rfl rfl ?_
      refine x_iconst B dX5_beginLine_31 ?_
      refine x_callV B (st := []) (av := [.int (iI (2))]) dX5_beginLine_32 cs_X5_refuse kw_436 ⟨rfl, rfl, Nat.le_of_ble_eq_true rfl, Nat.le_of_ble_eq_true rfl⟩ rfl rfl (Nat.le_of_ble_eq_true rfl) (rc_obj B (ci := 5) rfl rfl rfl) (c_X5_refuse _ E _ 2 (by omega) (by omega)) (k_v (fun M32 hz32 => ?_))
      exact r_v B R dX5_beginLine_35 (Or.inr ⟨by rw [← Is_e ez1]; exact c4, Or.inl ⟨fun q => c18 (by rw [Is_e ez14]; exact q.1), hz32⟩⟩)
    · show Vx x E M 21 [(0, .ref (E.1 (7)))] []
      refine x_aload_n B dX5_beginLine_21 0 rfl rfl ?_
      refine x_getI B (ci := 5) (k := 7) (lo := 0) (hi := 999) dX5_beginLine_22 rfl rfl rfl (by decide) inGX5 kw_133 rfl (fun z22 ez22 lz22 uz22 => ?_)
      have e22 := Is_e ez22
      refine x_bipush B dX5_beginLine_25 rfl ?_
      refine x_icmp_le B (tgt := 36) dX5_beginLine_27 (by decide) ⟨by omega, by omega⟩ ⟨by omega, by omega⟩ (fun c27 => ?_) (fun c27 => ?_)
      · show Vx x E M 36 [(0, .ref (E.1 (7)))] []
        refine x_aload_n B dX5_beginLine_36 0 rfl rfl ?_
        refine x_aload_n B dX5_beginLine_37 0 rfl rfl ?_
        refine x_getI B (ci := 5) (k := 7) (lo := 0) (hi := 999) dX5_beginLine_38 rfl rfl rfl (by decide) inGX5 kw_133 rfl (fun z38 ez38 lz38 uz38 => ?_)
        have e38 : z38 = z22 := (Is_e ez38).trans (Is_e ez22).symm
        refine x_put B (ci := 5) (k := 10) (lo := 0) (hi := 12) (ty := .int) dX5_beginLine_41 rfl rfl rfl (by decide) inGX5 tyX5_ok nmX5 kw_136 rfl (by decide +kernel) (nar_i _) (fit_i _) rfl (by omega) (by omega) ?_
        refine x_aload_n B dX5_beginLine_44 0 rfl rfl ?_
        refine x_getI B (ci := 5) (k := 10) (lo := 0) (hi := 12) dX5_beginLine_45 rfl rfl rfl (by decide) inGX5 kw_136 rfl (fun z45 ez45 lz45 uz45 => ?_)
        have e45 : z45 = z38 := Is_e ez45
        refine x_bipush B dX5_beginLine_48 rfl ?_
        have J67 : ∀ (q : Int), (q = 1 ∧ 11 ≤ z38 ∨ q = 0 ∧ z38 < 11) → Vx x E (sto M 7 10 z38) 67 [(0, .ref (E.1 (7)))] [.int (iI (q))] := by
          intro q hJ
          obtain hq := hJ
          refine x_istore_n B dX5_beginLine_67 [1, 0] rfl (by decide) (lv' := [(0, .ref (E.1 (7))), (1, .int (iI (q)))]) rfl ?_
          refine x_iload_n B dX5_beginLine_68 1 rfl rfl ?_
          have J93 : ∀ (q2 : Int), ((q2 = 1 ∧ 11 ≤ z38 ∨ q2 = 0 ∧ z38 < 11) ∧ ¬ (z22 < 11 ∧ (M 7 13).toNat.testBit z22.toNat = true)) → Vx x E (sto M 7 10 z38) 93 [(0, .ref (E.1 (7))), (1, .int (iI (q2)))] [] := by
            intro q2 hJ
            obtain ⟨hq2, hN⟩ := hJ
            refine x_aload_n B dX5_beginLine_93 0 rfl rfl ?_
            refine x_dup B dX5_beginLine_94 rfl ?_
            refine x_getI B (ci := 5) (k := 13) (lo := 0) (hi := 65535) dX5_beginLine_95 rfl rfl rfl (by decide) inGX5 kw_139 rfl (fun z95 ez95 lz95 uz95 => ?_)
            refine x_iconst B dX5_beginLine_98 ?_
            refine x_aload_n B dX5_beginLine_99 0 rfl rfl ?_
            refine x_getI B (ci := 5) (k := 10) (lo := 0) (hi := 12) dX5_beginLine_100 rfl rfl rfl (by decide) inGX5 kw_136 rfl (fun z100 ez100 lz100 uz100 => ?_)
            have e95 : z95 = M 7 13 := Is_e ez95
            have e100 : z100 = z38 := Is_e ez100
            have o16 := or16 (a := z95) (p := z100) (by omega) (by omega) (by omega) (by omega)
            refine x_shl1 B dX5_beginLine_103 (by omega) (by omega) ?_
            refine x_ior B dX5_beginLine_104 (by omega) (Int.natCast_nonneg _) ?_
            refine x_put B (ci := 5) (k := 13) (lo := 0) (hi := 65535) (ty := .int) dX5_beginLine_105 rfl rfl rfl (by decide) inGX5 tyX5_ok nmX5 kw_139 rfl (by decide +kernel) (nar_i _) (fit_i _) rfl o16.1 o16.2 ?_
            have hnb : ¬ (z22 < 11 ∧ (M 7 13).toNat.testBit z22.toNat = true) := hN
            have hM1 : (sto (sto M 7 10 z38) 7 13 (((z95).toNat ||| (((2 ^ (z100).toNat : Nat) : Int)).toNat : Nat) : Int)) = nmM M := by
              rw [e95, e100, e38, e22, Int.toNat_natCast]
              rfl
            rw [hM1]
            refine x_aload_n B dX5_beginLine_108 0 rfl rfl ?_
            refine x_iload_n B dX5_beginLine_109 1 rfl rfl ?_
            have J118 : ∀ (w : Int), (w = 2 ∧ 11 ≤ z22 ∨ w = 3 ∧ z22 < 11) → Vx x E (nmM M) 118 [(0, .ref (E.1 (7))), (1, .int (iI (q2)))] [.int (iI (w)), .ref (E.1 (7))] := by
              intro w hJ
              obtain hw := hJ
              refine x_put B (ci := 5) (k := 9) (lo := 0) (hi := 5) (ty := .int) dX5_beginLine_118 rfl rfl rfl (by decide) inGX5 tyX5_ok nmX5 kw_135 rfl (by decide +kernel) (nar_i _) (fit_i _) rfl (by omega) (by omega) ?_
              refine x_aload_n B dX5_beginLine_121 0 rfl rfl ?_
              refine x_getI B (ci := 5) (k := 10) (lo := 0) (hi := 12) dX5_beginLine_122 rfl rfl rfl (by decide) inGX5 kw_136 rfl (fun z122 ez122 lz122 uz122 => ?_)
              have e122 : z122 = z22 := by rw [Is_e ez122, e22]; rfl
              refine x_if_ne B (tgt := 136) dX5_beginLine_125 (by decide) ⟨by omega, by omega⟩ (fun c125 => ?_) (fun c125 => ?_)
              · show Vx x E (sto (nmM M) 7 9 w) 136 [(0, .ref (E.1 (7))), (1, .int (iI (q2)))] []
                refine x_aload_n B dX5_beginLine_136 0 rfl rfl ?_
                refine x_getI B (ci := 5) (k := 10) (lo := 0) (hi := 12) dX5_beginLine_137 rfl rfl rfl (by decide) inGX5 kw_136 rfl (fun z137 ez137 lz137 uz137 => ?_)
                have e137 : z137 = z22 := by rw [Is_e ez137, e22]; rfl
                refine x_iconst B dX5_beginLine_140 ?_
                refine x_icmp_ne B (tgt := 159) dX5_beginLine_141 (by decide) ⟨by omega, by omega⟩ ⟨by omega, by omega⟩ (fun c141 => ?_) (fun c141 => ?_)
                · show Vx x E (sto (nmM M) 7 9 w) 159 [(0, .ref (E.1 (7))), (1, .int (iI (q2)))] []
                  exact r_v B R dX5_beginLine_159 (by rcases hJ with ⟨w1, w2⟩ | ⟨w1, w2⟩; (exact Or.inr ⟨by rw [← Is_e ez1]; exact c4, Or.inr ⟨⟨by rw [← Is_e ez14]; exact c18, by rw [← e22]; omega⟩, Or.inr ⟨by rw [← e22]; exact hnb, Or.inr (Or.inr (Or.inl ⟨by rw [← e22]; omega, by rw [w1]⟩))⟩⟩⟩); (exact Or.inr ⟨by rw [← Is_e ez1]; exact c4, Or.inr ⟨⟨by rw [← Is_e ez14]; exact c18, by rw [← e22]; omega⟩, Or.inr ⟨by rw [← e22]; exact hnb, Or.inr (Or.inr (Or.inr ⟨by rw [← e22]; omega, by rw [w1]⟩))⟩⟩⟩))
                · show Vx x E (sto (nmM M) 7 9 w) 144 [(0, .ref (E.1 (7))), (1, .int (iI (q2)))] []
                  refine x_aload_n B dX5_beginLine_144 0 rfl rfl ?_
                  refine x_getR B (ci := 5) (k := 0) dX5_beginLine_145 rfl rfl rfl (by decide) inGX5 kw_122 ?_
                  refine x_getR B (ci := 1) (k := 0) dX5_beginLine_148 rfl rfl rfl (by decide) inGX1 kw_102 ?_
                  refine x_iconst B dX5_beginLine_151 ?_
                  refine x_iconst B dX5_beginLine_152 ?_
                  refine x_iast B (lo := 0) (hi := 1) dX5_beginLine_153 rfl (by omega) (by omega) rfl (by omega) (by omega) ?_
                  refine x_aload_n B dX5_beginLine_154 0 rfl rfl ?_
                  refine x_iconst B dX5_beginLine_155 ?_
                  refine x_put B (ci := 5) (k := 9) (lo := 0) (hi := 5) (ty := .int) dX5_beginLine_156 rfl rfl rfl (by decide) inGX5 tyX5_ok nmX5 kw_135 rfl (by decide +kernel) (nar_i _) (fit_i _) rfl (by omega) (by omega) ?_
                  exact r_v B R dX5_beginLine_159 (Or.inr ⟨by rw [← Is_e ez1]; exact c4, Or.inr ⟨⟨by rw [← Is_e ez14]; exact c18, by rw [← e22]; omega⟩, Or.inr ⟨by rw [← e22]; exact hnb, Or.inr (Or.inl ⟨by rw [← e22]; omega, by rw [show w = 3 by omega]; try rfl⟩)⟩⟩⟩)
              · show Vx x E (sto (nmM M) 7 9 w) 128 [(0, .ref (E.1 (7))), (1, .int (iI (q2)))] []
                refine x_aload_n B dX5_beginLine_128 0 rfl rfl ?_
                refine x_iconst B dX5_beginLine_129 ?_
                refine x_put B (ci := 5) (k := 9) (lo := 0) (hi := 5) (ty := .int) dX5_beginLine_130 rfl rfl rfl (by decide) inGX5 tyX5_ok nmX5 kw_135 rfl (by decide +kernel) (nar_i _) (fit_i _) rfl (by omega) (by omega) ?_
                refine x_goto B (tgt := 159) dX5_beginLine_133 (by decide) ?_
                exact r_v B R dX5_beginLine_159 (Or.inr ⟨by rw [← Is_e ez1]; exact c4, Or.inr ⟨⟨by rw [← Is_e ez14]; exact c18, by rw [← e22]; omega⟩, Or.inr ⟨by rw [← e22]; exact hnb, Or.inl ⟨by rw [← e22]; omega, by rw [show w = 3 by omega]⟩⟩⟩⟩)
            refine x_if_eq B (tgt := 117) dX5_beginLine_110 (by decide) ⟨by omega, by omega⟩ (fun c110 => ?_) (fun c110 => ?_)
            · show Vx x E (nmM M) 117 [(0, .ref (E.1 (7))), (1, .int (iI (q2)))] [.ref (E.1 (7))]
              refine x_iconst B dX5_beginLine_117 ?_
              exact J118 3 (Or.inr ⟨rfl, by omega⟩)
            · show Vx x E (nmM M) 113 [(0, .ref (E.1 (7))), (1, .int (iI (q2)))] [.ref (E.1 (7))]
              refine x_iconst B dX5_beginLine_113 ?_
              refine x_goto B (tgt := 118) dX5_beginLine_114 (by decide) ?_
              exact J118 2 (Or.inl ⟨rfl, by omega⟩)
          refine x_if_ne B (tgt := 93) dX5_beginLine_69 (by decide) ⟨by omega, by omega⟩ (fun c69 => ?_) (fun c69 => ?_)
          · show Vx x E (sto M 7 10 z38) 93 [(0, .ref (E.1 (7))), (1, .int (iI (q)))] []
            exact J93 q (⟨hJ, fun w => by have w1 := w.1; omega⟩)
          · show Vx x E (sto M 7 10 z38) 72 [(0, .ref (E.1 (7))), (1, .int (iI (q)))] []
            refine x_aload_n B dX5_beginLine_72 0 rfl rfl ?_
            refine x_getI B (ci := 5) (k := 13) (lo := 0) (hi := 65535) dX5_beginLine_73 rfl rfl rfl (by decide) inGX5 kw_139 rfl (fun z73 ez73 lz73 uz73 => ?_)
            refine x_aload_n B dX5_beginLine_76 0 rfl rfl ?_
            refine x_getI B (ci := 5) (k := 10) (lo := 0) (hi := 12) dX5_beginLine_77 rfl rfl rfl (by decide) inGX5 kw_136 rfl (fun z77 ez77 lz77 uz77 => ?_)
            have e73 : z73 = M 7 13 := Is_e ez73
            have e77 : z77 = z38 := Is_e ez77
            refine x_callSN B 0 (st := []) (av := [.int (iI (z73)), .int (iI (z77))]) dX5_beginLine_80 cs_X7_bit rfl ⟨rfl, rfl, Nat.le_of_ble_eq_true rfl, Nat.le_of_ble_eq_true rfl⟩ rfl rfl (Nat.le_of_ble_eq_true rfl) (c_X7_bit _ E _ z73 z77 (by omega) (by omega) (by omega) (by omega)) (k_i (fun z80 Mq hz80 => ?_))
            obtain ⟨rfl, hz80⟩ := hz80
            refine x_iconst B dX5_beginLine_83 ?_
            refine x_icmp_ne B (tgt := 93) dX5_beginLine_84 (by decide) ⟨by omega, by omega⟩ ⟨by omega, by omega⟩ (fun c84 => ?_) (fun c84 => ?_)
            · show Vx x E (sto M 7 10 z38) 93 [(0, .ref (E.1 (7))), (1, .int (iI (q)))] []
              exact J93 q (⟨hJ, fun w => by have w2 := w.2; rcases hz80 with ⟨h5, h6⟩ | ⟨h5, h6⟩; (exact absurd h5 c84); (rw [e73, e77, e38] at h6; rw [h6] at w2; exact absurd w2 (by decide))⟩)
            · show Vx x E (sto M 7 10 z38) 87 [(0, .ref (E.1 (7))), (1, .int (iI (q)))] []
              refine x_aload_n B dX5_beginLine_87 0 rfl rfl ?_
              refine x_iconst B dX5_beginLine_88 ?_
              refine x_callV B (st := []) (av := [.int (iI (4))]) dX5_beginLine_89 cs_X5_refuse kw_436 ⟨rfl, rfl, Nat.le_of_ble_eq_true rfl, Nat.le_of_ble_eq_true rfl⟩ rfl rfl (Nat.le_of_ble_eq_true rfl) (rc_obj B (ci := 5) rfl rfl rfl) (c_X5_refuse _ E _ 4 (by omega) (by omega)) (k_v (fun M89 hz89 => ?_))
              exact r_v B R dX5_beginLine_92 (Or.inr ⟨by rw [← Is_e ez1]; exact c4, Or.inr ⟨⟨by rw [← Is_e ez14]; exact c18, by rw [← e22]; omega⟩, Or.inl ⟨by rw [← e22]; omega, by rcases hz80 with ⟨h5, h6⟩ | ⟨h5, h6⟩; (rw [e73, e77, e38, e22] at h6; exact h6); (exact absurd (h5.symm.trans c84) (by decide)), by rw [hz89, e38, e22]; rfl⟩⟩⟩)
        refine x_icmp_eq B (tgt := 62) dX5_beginLine_50 (by decide) ⟨by omega, by omega⟩ ⟨by omega, by omega⟩ (fun c50 => ?_) (fun c50 => ?_)
        · show Vx x E (sto M 7 10 z38) 62 [(0, .ref (E.1 (7)))] []
          refine x_iconst B dX5_beginLine_62 ?_
          refine x_goto B (tgt := 67) dX5_beginLine_63 (by decide) ?_
          exact J67 1 (Or.inl ⟨rfl, by omega⟩)
        · show Vx x E (sto M 7 10 z38) 53 [(0, .ref (E.1 (7)))] []
          refine x_aload_n B dX5_beginLine_53 0 rfl rfl ?_
          refine x_getI B (ci := 5) (k := 10) (lo := 0) (hi := 12) dX5_beginLine_54 rfl rfl rfl (by decide) inGX5 kw_136 rfl (fun z54 ez54 lz54 uz54 => ?_)
          have e54 : z54 = z38 := Is_e ez54
          refine x_bipush B dX5_beginLine_57 rfl ?_
          refine x_icmp_ne B (tgt := 66) dX5_beginLine_59 (by decide) ⟨by omega, by omega⟩ ⟨by omega, by omega⟩ (fun c59 => ?_) (fun c59 => ?_)
          · show Vx x E (sto M 7 10 z38) 66 [(0, .ref (E.1 (7)))] []
            refine x_iconst B dX5_beginLine_66 ?_
            exact J67 0 (Or.inr ⟨rfl, by omega⟩)
          · show Vx x E (sto M 7 10 z38) 62 [(0, .ref (E.1 (7)))] []
            refine x_iconst B dX5_beginLine_62 ?_
            refine x_goto B (tgt := 67) dX5_beginLine_63 (by decide) ?_
            exact J67 1 (Or.inl ⟨rfl, by omega⟩)
      · show Vx x E M 30 [(0, .ref (E.1 (7)))] []
        refine x_aload_n B dX5_beginLine_30 0 rfl rfl ?_
        refine x_iconst B dX5_beginLine_31 ?_
        refine x_callV B (st := []) (av := [.int (iI (2))]) dX5_beginLine_32 cs_X5_refuse kw_436 ⟨rfl, rfl, Nat.le_of_ble_eq_true rfl, Nat.le_of_ble_eq_true rfl⟩ rfl rfl (Nat.le_of_ble_eq_true rfl) (rc_obj B (ci := 5) rfl rfl rfl) (c_X5_refuse _ E _ 2 (by omega) (by omega)) (k_v (fun M32 hz32 => ?_))
        exact r_v B R dX5_beginLine_35 (Or.inr ⟨by rw [← Is_e ez1]; exact c4, Or.inl ⟨fun q => by have q2 := q.2; rw [← e22] at q2; omega, hz32⟩⟩)
  · show Vx x E M 7 [(0, .ref (E.1 (7)))] []
    refine x_aload_n B dX5_beginLine_7 0 rfl rfl ?_
    refine x_iconst B dX5_beginLine_8 ?_
    refine x_put B (ci := 5) (k := 9) (lo := 0) (hi := 5) (ty := .int) dX5_beginLine_9 rfl rfl rfl (by decide) inGX5 tyX5_ok nmX5 kw_135 rfl (by decide +kernel) (nar_i _) (fit_i _) rfl (by omega) (by omega) ?_
    exact r_v B R dX5_beginLine_12 (Or.inl ⟨by rw [← Is_e ez1]; exact c4, rfl⟩)
abbrev rm_X5_useToken : Room := { frames := 3, cells := 0, slots := 0, locals := 64 }
theorem cs_X5_useToken : Cv yX5_useToken cX5_useToken 1 none 0 := ⟨kw_450, ⟨kw_449, kw_6⟩, kw_61, by decide, by decide, by decide +kernel⟩
set_option maxHeartbeats 4000000 in
set_option maxRecDepth 100000 in
theorem c_X5_useToken (l : Launch) (E : Ev) (M : Mem)  (g1 : Is (M 7 2) 0) (g2 : k16 M) (g3 : lnP M) : Ct l yX5_useToken cX5_useToken 1 none rm_X5_useToken E M [.ref (E.1 (7))] (pV (fun M' => utR M M')) := by
  refine Ct_of (lv := [(0, .ref (E.1 (7)))]) (by decide) ⟨rfl, rfl⟩ (Nat.le_of_ble_eq_true rfl) rfl (fun x _ B R => ?_)
  refine x_aload_n B dX5_useToken_0 0 rfl rfl ?_
  refine x_getI B (ci := 5) (k := 9) (lo := 0) (hi := 5) dX5_useToken_1 rfl rfl rfl (by decide) inGX5 kw_135 rfl (fun z1 ez1 lz1 uz1 => ?_)
  have e1 := Is_e ez1
  rcases (show (z1 < 0 ∨ 3 < z1) ∨ z1 = 0 ∨ z1 = 1 ∨ z1 = 2 ∨ z1 = 3 by omega) with hsw | hsw | hsw | hsw | hsw
  · refine x_tabOut B (tgt := 64) dX5_useToken_4 ⟨by omega, by omega⟩ (by omega) (by decide) ?_
    refine x_aload_n B dX5_useToken_64 0 rfl rfl ?_
    refine x_callV B (st := []) (av := []) dX5_useToken_65 cs_X5_endLine kw_478 ⟨rfl, rfl, Nat.le_of_ble_eq_true rfl, Nat.le_of_ble_eq_true rfl⟩ rfl rfl (Nat.le_of_ble_eq_true rfl) (rc_obj B (ci := 5) rfl rfl rfl) (c_X5_endLine _ E _  (by assumption)) (k_v (fun M65 hz65 => ?_))
    exact r_v B R dX5_useToken_68 (Or.inr (Or.inr (Or.inr (Or.inr ⟨by rw [← e1]; omega, hz65⟩))))
  · refine x_tabIn B (tgt := 36) 0 dX5_useToken_4 ⟨by omega, by omega⟩ (by omega) (by omega) rfl (by decide) ?_
    refine x_aload_n B dX5_useToken_36 0 rfl rfl ?_
    refine x_callV B (st := []) (av := []) dX5_useToken_37 cs_X5_beginLine kw_451 ⟨rfl, rfl, Nat.le_of_ble_eq_true rfl, Nat.le_of_ble_eq_true rfl⟩ rfl rfl (Nat.le_of_ble_eq_true rfl) (rc_obj B (ci := 5) rfl rfl rfl) (c_X5_beginLine _ E _  (by assumption)) (k_v (fun M37 hz37 => ?_))
    refine x_goto B (tgt := 68) dX5_useToken_40 (by decide) ?_
    exact r_v B R dX5_useToken_68 (Or.inl ⟨by rw [← e1]; exact hsw, hz37⟩)
  · refine x_tabIn B (tgt := 43) 1 dX5_useToken_4 ⟨by omega, by omega⟩ (by omega) (by omega) rfl (by decide) ?_
    refine x_aload_n B dX5_useToken_43 0 rfl rfl ?_
    refine x_callV B (st := []) (av := []) dX5_useToken_44 cs_X5_tellWay kw_458 ⟨rfl, rfl, Nat.le_of_ble_eq_true rfl, Nat.le_of_ble_eq_true rfl⟩ rfl rfl (Nat.le_of_ble_eq_true rfl) (rc_obj B (ci := 5) rfl rfl rfl) (c_X5_tellWay _ E _  (by assumption)) (k_v (fun M44 hz44 => ?_))
    refine x_goto B (tgt := 68) dX5_useToken_47 (by decide) ?_
    exact r_v B R dX5_useToken_68 (Or.inr (Or.inl ⟨by rw [← e1]; exact hsw, hz44⟩))
  · refine x_tabIn B (tgt := 50) 2 dX5_useToken_4 ⟨by omega, by omega⟩ (by omega) (by omega) rfl (by decide) ?_
    refine x_aload_n B dX5_useToken_50 0 rfl rfl ?_
    refine x_callV B (st := []) (av := []) dX5_useToken_51 cs_X5_tellPoint kw_462 ⟨rfl, rfl, Nat.le_of_ble_eq_true rfl, Nat.le_of_ble_eq_true rfl⟩ rfl rfl (Nat.le_of_ble_eq_true rfl) (rc_obj B (ci := 5) rfl rfl rfl) (c_X5_tellPoint _ E _  (by assumption)) (k_v (fun M51 hz51 => ?_))
    refine x_goto B (tgt := 68) dX5_useToken_54 (by decide) ?_
    exact r_v B R dX5_useToken_68 (Or.inr (Or.inr (Or.inl ⟨by rw [← e1]; exact hsw, hz51⟩)))
  · refine x_tabIn B (tgt := 57) 3 dX5_useToken_4 ⟨by omega, by omega⟩ (by omega) (by omega) rfl (by decide) ?_
    refine x_aload_n B dX5_useToken_57 0 rfl rfl ?_
    refine x_callV B (st := []) (av := []) dX5_useToken_58 cs_X5_tellNumber kw_470 ⟨rfl, rfl, Nat.le_of_ble_eq_true rfl, Nat.le_of_ble_eq_true rfl⟩ rfl rfl (Nat.le_of_ble_eq_true rfl) (rc_obj B (ci := 5) rfl rfl rfl) (c_X5_tellNumber _ E _  (by assumption)) (k_v (fun M58 hz58 => ?_))
    refine x_goto B (tgt := 68) dX5_useToken_61 (by decide) ?_
    exact r_v B R dX5_useToken_68 (Or.inr (Or.inr (Or.inr (Or.inl ⟨by rw [← e1]; exact hsw, hz58⟩))))
