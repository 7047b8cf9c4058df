theorem tk_16 {B : Nat → Int} {len nx0 kd0 va0 wr0 wa0 nx kd va st wr wa : Int} (h : tkV B len nx0 kd0 va0 wr0 wa0 nx kd va st wr wa) (hw : wr = 0) (hk : kd = 1) : va < 16 := by
  rcases h.2 with h1 | ⟨-, ⟨-, -, -, -, h2, -⟩ | ⟨-, -, -, h2, -⟩ | ⟨-, -, h2, -⟩ | ⟨-, -, -, -, h2, -⟩⟩
  · omega
  · by_cases c : 16 ≤ va
    · rw [if_pos c] at h2
      omega
    · omega
  · omega
  · omega
  · omega
def rfM (M : Mem) (w : Int) : Mem := skM M (M 7 5) (M 7 6) (M 7 7) (M 7 8) w (M 7 8)
def bdP (x lo hi : Int) : Prop := lo ≤ x ∧ x ≤ hi
def orP (a p : Int) : Int := ((a.toNat ||| 2 ^ p.toNat : Nat) : Int)
/-- a name's value is a word's -/
def k16 (M : Mem) : Prop := M 7 6 = 1 → M 7 7 < 16
/-- fewer lines than bytes -/
def lnP (M : Mem) : Prop := M 7 12 ≤ 200
/-- the TOKEN is asked to be a NUMBER within its bounds -/
def nbR (M : Mem) (lo hi : Int) (M' : Mem) (z : Int) : Prop := ¬ M 7 6 = 2 ∧ z = 0 ∧ M' = rfM M 2 ∨ M 7 6 = 2 ∧ ¬ bdP (M 7 7) lo hi ∧ z = 0 ∧ M' = rfM M 3 ∨ M 7 6 = 2 ∧ bdP (M 7 7) lo hi ∧ z = 1 ∧ M' = M
theorem nb_1 {M M' : Mem} {lo hi z : Int} (h : nbR M lo hi M' z) (c : ¬ z = 0) : M' = M ∧ bdP (M 7 7) lo hi := by
  rcases h with ⟨-, h2, -⟩ | ⟨-, -, h2, -⟩ | ⟨-, h1, -, h2⟩
  · exact absurd h2 c
  · exact absurd h2 c
  · exact ⟨h2, h1⟩
/-- a WAY is told -/
def twR (M M' : Mem) : Prop := ¬ (M 7 6 = 1 ∧ 13 ≤ M 7 7) ∧ M' = rfM M 2 ∨ (M 7 6 = 1 ∧ 13 ≤ M 7 7) ∧ M' = sto (sto M 9 0 (M 7 7 - 13)) 7 9 4
/-- a line ends -/
def elR (M M' : Mem) : Prop := ¬ M 7 6 = 3 ∧ M' = rfM M 2 ∨ M 7 6 = 3 ∧ M' = sto (sto M 7 12 (M 7 12 + 1)) 7 9 0
abbrev rm_X5_isNumber : Room := { frames := 1, cells := 0, slots := 0, locals := 21 }
theorem cs_X5_isNumber : Cv yX5_isNumber cX5_isNumber 3 (some .boolean) 2 := ⟨kw_469, ⟨kw_468, kw_10⟩, kw_61, by decide, by decide, by decide +kernel⟩
set_option maxHeartbeats 4000000 in
set_option maxRecDepth 100000 in
theorem c_X5_isNumber (l : Launch) (E : Ev) (M : Mem) (lo hi : Int) (g1 : 0 ≤ lo) (g2 : lo ≤ 99) (g3 : 0 ≤ hi) (g4 : hi ≤ 99) (g5 : Is (M 7 2) 0) : Ct l yX5_isNumber cX5_isNumber 3 (some .boolean) rm_X5_isNumber E M [.ref (E.1 (7)), .int (iI (lo)), .int (iI (hi))] (pI (fun z M' => nbR M lo hi M' z ∧ 0 ≤ z ∧ z ≤ 1)) := by
  refine Ct_of (lv := [(0, .ref (E.1 (7))), (1, .int (iI (lo))), (2, .int (iI (hi)))]) (by decide) ⟨rfl, rfl⟩ (Nat.le_of_ble_eq_true rfl) rfl (fun x _ B R => ?_)
  refine x_aload_n B dX5_isNumber_0 0 rfl rfl ?_
  refine x_getI B (ci := 5) (k := 6) (lo := 0) (hi := 3) dX5_isNumber_1 rfl rfl rfl (by decide) inGX5 kw_132 rfl (fun z1 ez1 lz1 uz1 => ?_)
  refine x_iconst B dX5_isNumber_4 ?_
  refine x_icmp_eq B (tgt := 16) dX5_isNumber_5 (by decide) ⟨by omega, by omega⟩ ⟨by omega, by omega⟩ (fun c5 => ?_) (fun c5 => ?_)
  · show Vx x E M 16 [(0, .ref (E.1 (7))), (1, .int (iI (lo))), (2, .int (iI (hi)))] []
    refine x_aload_n B dX5_isNumber_16 0 rfl rfl ?_
    refine x_getI B (ci := 5) (k := 7) (lo := 0) (hi := 999) dX5_isNumber_17 rfl rfl rfl (by decide) inGX5 kw_133 rfl (fun z17 ez17 lz17 uz17 => ?_)
    refine x_iload_n B dX5_isNumber_20 1 rfl rfl ?_
    refine x_icmp_lt B (tgt := 32) dX5_isNumber_21 (by decide) ⟨by omega, by omega⟩ ⟨by omega, by omega⟩ (fun c21 => ?_) (fun c21 => ?_)
    · show Vx x E M 32 [(0, .ref (E.1 (7))), (1, .int (iI (lo))), (2, .int (iI (hi)))] []
      refine x_aload_n B dX5_isNumber_32 0 rfl rfl ?_
      refine x_iconst B dX5_isNumber_33 ?_
      refine x_callV B (st := []) (av := [.int (iI (3))]) dX5_isNumber_34 cs_X5_refuse kw_436 ⟨rfl, rfl, Nat.le_of_ble_eq_true rfl, Nat.le_of_ble_eq_true rfl⟩ rfl rfl (Nat.le_of_ble_eq_true rfl) (rc_obj B (ci := 5) rfl rfl rfl) (c_X5_refuse _ E _ 3 (by omega) (by omega)) (k_v (fun M34 hz34 => ?_))
      refine x_aload_n B dX5_isNumber_37 0 rfl rfl ?_
      refine x_getI B (ci := 5) (k := 2) (lo := 0) (hi := 4) dX5_isNumber_38 rfl rfl rfl (by decide) inGX5 kw_126 rfl (fun z38 ez38 lz38 uz38 => ?_)
      refine x_if_ne B (tgt := 48) dX5_isNumber_41 (by decide) ⟨by omega, by omega⟩ (fun c41 => ?_) (fun c41 => ?_)
      · show Vx x E M34 48 [(0, .ref (E.1 (7))), (1, .int (iI (lo))), (2, .int (iI (hi)))] []
        refine x_iconst B dX5_isNumber_48 ?_
        exact r_z B R dX5_isNumber_49 (by omega) (by omega) (by first | exact ⟨Or.inr (Or.inl ⟨by rw [← Is_e ez1]; exact c5, fun q => by have q1 := q.1; have q2 := q.2; rw [← Is_e ez17] at q1; omega, rfl, hz34⟩), by omega, by omega⟩ | (exact absurd c41 (by rw [Is_e ez38, hz34]; show ¬ (3 : Int) = 0; decide)))
      · show Vx x E M34 44 [(0, .ref (E.1 (7))), (1, .int (iI (lo))), (2, .int (iI (hi)))] []
        refine x_iconst B dX5_isNumber_44 ?_
        refine x_goto B (tgt := 49) dX5_isNumber_45 (by decide) ?_
        exact r_z B R dX5_isNumber_49 (by omega) (by omega) (by first | exact ⟨Or.inr (Or.inl ⟨by rw [← Is_e ez1]; exact c5, fun q => by have q1 := q.1; have q2 := q.2; rw [← Is_e ez17] at q1; omega, rfl, hz34⟩), by omega, by omega⟩ | (exact absurd c41 (by rw [Is_e ez38, hz34]; show ¬ (3 : Int) = 0; decide)))
    · show Vx x E M 24 [(0, .ref (E.1 (7))), (1, .int (iI (lo))), (2, .int (iI (hi)))] []
      refine x_aload_n B dX5_isNumber_24 0 rfl rfl ?_
      refine x_getI B (ci := 5) (k := 7) (lo := 0) (hi := 999) dX5_isNumber_25 rfl rfl rfl (by decide) inGX5 kw_133 rfl (fun z25 ez25 lz25 uz25 => ?_)
      have e2517 : z25 = z17 := (Is_e ez25).trans (Is_e ez17).symm
      refine x_iload_n B dX5_isNumber_28 2 rfl rfl ?_
      refine x_icmp_le B (tgt := 37) dX5_isNumber_29 (by decide) ⟨by omega, by omega⟩ ⟨by omega, by omega⟩ (fun c29 => ?_) (fun c29 => ?_)
      · show Vx x E M 37 [(0, .ref (E.1 (7))), (1, .int (iI (lo))), (2, .int (iI (hi)))] []
        refine x_aload_n B dX5_isNumber_37 0 rfl rfl ?_
        refine x_getI B (ci := 5) (k := 2) (lo := 0) (hi := 4) dX5_isNumber_38 rfl rfl rfl (by decide) inGX5 kw_126 rfl (fun z38 ez38 lz38 uz38 => ?_)
        refine x_if_ne B (tgt := 48) dX5_isNumber_41 (by decide) ⟨by omega, by omega⟩ (fun c41 => ?_) (fun c41 => ?_)
        · show Vx x E M 48 [(0, .ref (E.1 (7))), (1, .int (iI (lo))), (2, .int (iI (hi)))] []
          refine x_iconst B dX5_isNumber_48 ?_
          exact r_z B R dX5_isNumber_49 (by omega) (by omega) (by first | exact ⟨Or.inr (Or.inr ⟨by rw [← Is_e ez1]; exact c5, ⟨by rw [← Is_e ez17]; omega, by rw [← Is_e ez17]; omega⟩, rfl, rfl⟩), by omega, by omega⟩ | (exact absurd ((Is_e ez38).trans (Is_e g5)) c41))
        · show Vx x E M 44 [(0, .ref (E.1 (7))), (1, .int (iI (lo))), (2, .int (iI (hi)))] []
          refine x_iconst B dX5_isNumber_44 ?_
          refine x_goto B (tgt := 49) dX5_isNumber_45 (by decide) ?_
          exact r_z B R dX5_isNumber_49 (by omega) (by omega) (by first | exact ⟨Or.inr (Or.inr ⟨by rw [← Is_e ez1]; exact c5, ⟨by rw [← Is_e ez17]; omega, by rw [← Is_e ez17]; omega⟩, rfl, rfl⟩), by omega, by omega⟩ | (exact absurd ((Is_e ez38).trans (Is_e g5)) c41))
      · show Vx x E M 32 [(0, .ref (E.1 (7))), (1, .int (iI (lo))), (2, .int (iI (hi)))] []
        refine x_aload_n B dX5_isNumber_32 0 rfl rfl ?_
        refine x_iconst B dX5_isNumber_33 ?_
        refine x_callV B (st := []) (av := [.int (iI (3))]) dX5_isNumber_34 cs_X5_refuse kw_436 ⟨rfl, rfl, Nat.le_of_ble_eq_true rfl, Nat.le_of_ble_eq_true rfl⟩ rfl rfl (Nat.le_of_ble_eq_true rfl) (rc_obj B (ci := 5) rfl rfl rfl) (c_X5_refuse _ E _ 3 (by omega) (by omega)) (k_v (fun M34 hz34 => ?_))
        refine x_aload_n B dX5_isNumber_37 0 rfl rfl ?_
        refine x_getI B (ci := 5) (k := 2) (lo := 0) (hi := 4) dX5_isNumber_38 rfl rfl rfl (by decide) inGX5 kw_126 rfl (fun z38 ez38 lz38 uz38 => ?_)
        refine x_if_ne B (tgt := 48) dX5_isNumber_41 (by decide) ⟨by omega, by omega⟩ (fun c41 => ?_) (fun c41 => ?_)
        · show Vx x E M34 48 [(0, .ref (E.1 (7))), (1, .int (iI (lo))), (2, .int (iI (hi)))] []
          refine x_iconst B dX5_isNumber_48 ?_
          exact r_z B R dX5_isNumber_49 (by omega) (by omega) (by first | exact ⟨Or.inr (Or.inl ⟨by rw [← Is_e ez1]; exact c5, fun q => by have q2 := q.2; rw [← Is_e ez17] at q2; omega, rfl, hz34⟩), by omega, by omega⟩ | (exact absurd c41 (by rw [Is_e ez38, hz34]; show ¬ (3 : Int) = 0; decide)))
        · show Vx x E M34 44 [(0, .ref (E.1 (7))), (1, .int (iI (lo))), (2, .int (iI (hi)))] []
          refine x_iconst B dX5_isNumber_44 ?_
          refine x_goto B (tgt := 49) dX5_isNumber_45 (by decide) ?_
          exact r_z B R dX5_isNumber_49 (by omega) (by omega) (by first | exact ⟨Or.inr (Or.inl ⟨by rw [← Is_e ez1]; exact c5, fun q => by have q2 := q.2; rw [← Is_e ez17] at q2; omega, rfl, hz34⟩), by omega, by omega⟩ | (exact absurd c41 (by rw [Is_e ez38, hz34]; show ¬ (3 : Int) = 0; decide)))
  · show Vx x E M 8 [(0, .ref (E.1 (7))), (1, .int (iI (lo))), (2, .int (iI (hi)))] []
    refine x_aload_n B dX5_isNumber_8 0 rfl rfl ?_
    refine x_iconst B dX5_isNumber_9 ?_
    refine x_callV B (st := []) (av := [.int (iI (2))]) dX5_isNumber_10 cs_X5_refuse kw_436 ⟨rfl, rfl, Nat.le_of_ble_eq_true rfl, Nat.le_of_ble_eq_true rfl⟩ rfl rfl (Nat.le_of_ble_eq_true rfl) (rc_obj B (ci := 5) rfl rfl rfl) (c_X5_refuse _ E _ 2 (by omega) (by omega)) (k_v (fun M10 hz10 => ?_))
    refine x_goto B (tgt := 37) dX5_isNumber_13 (by decide) ?_
    refine x_aload_n B dX5_isNumber_37 0 rfl rfl ?_
    refine x_getI B (ci := 5) (k := 2) (lo := 0) (hi := 4) dX5_isNumber_38 rfl rfl rfl (by decide) inGX5 kw_126 rfl (fun z38 ez38 lz38 uz38 => ?_)
    refine x_if_ne B (tgt := 48) dX5_isNumber_41 (by decide) ⟨by omega, by omega⟩ (fun c41 => ?_) (fun c41 => ?_)
    · show Vx x E M10 48 [(0, .ref (E.1 (7))), (1, .int (iI (lo))), (2, .int (iI (hi)))] []
      refine x_iconst B dX5_isNumber_48 ?_
      exact r_z B R dX5_isNumber_49 (by omega) (by omega) (by first | exact ⟨Or.inl ⟨by rw [← Is_e ez1]; exact c5, rfl, hz10⟩, by omega, by omega⟩ | (exact absurd c41 (by rw [Is_e ez38, hz10]; show ¬ (2 : Int) = 0; decide)))
    · show Vx x E M10 44 [(0, .ref (E.1 (7))), (1, .int (iI (lo))), (2, .int (iI (hi)))] []
      refine x_iconst B dX5_isNumber_44 ?_
      refine x_goto B (tgt := 49) dX5_isNumber_45 (by decide) ?_
      exact r_z B R dX5_isNumber_49 (by omega) (by omega) (by first | exact ⟨Or.inl ⟨by rw [← Is_e ez1]; exact c5, rfl, hz10⟩, by omega, by omega⟩ | (exact absurd c41 (by rw [Is_e ez38, hz10]; show ¬ (2 : Int) = 0; decide)))
abbrev rm_X5_tellWay : Room := { frames := 1, cells := 0, slots := 0, locals := 21 }
theorem cs_X5_tellWay : Cv yX5_tellWay cX5_tellWay 1 none 0 := ⟨kw_461, ⟨kw_460, kw_8⟩, kw_61, by decide, by decide, by decide +kernel⟩
set_option maxHeartbeats 4000000 in
set_option maxRecDepth 100000 in
theorem c_X5_tellWay (l : Launch) (E : Ev) (M : Mem)  (g1 : k16 M) : Ct l yX5_tellWay cX5_tellWay 1 none rm_X5_tellWay E M [.ref (E.1 (7))] (pV (fun M' => twR M M')) := by
  refine Ct_of (lv := [(0, .ref (E.1 (7)))]) (by decide) ⟨rfl, rfl⟩ (Nat.le_of_ble_eq_true rfl) rfl (fun x _ B R => ?_)
  refine x_aload_n B dX5_tellWay_0 0 rfl rfl ?_
  refine x_getI B (ci := 5) (k := 6) (lo := 0) (hi := 3) dX5_tellWay_1 rfl rfl rfl (by decide) inGX5 kw_132 rfl (fun z1 ez1 lz1 uz1 => ?_)
  refine x_iconst B dX5_tellWay_4 ?_
  refine x_icmp_ne B (tgt := 17) dX5_tellWay_5 (by decide) ⟨by omega, by omega⟩ ⟨by omega, by omega⟩ (fun c5 => ?_) (fun c5 => ?_)
  · show Vx x E M 17 [(0, .ref (E.1 (7)))] []
    refine x_aload_n B dX5_tellWay_17 0 rfl rfl ?_
    refine x_iconst B dX5_tellWay_18 ?_
    refine x_callV B (st := []) (av := [.int (iI (2))]) dX5_tellWay_19 cs_X5_refuse kw_436 ⟨rfl, rfl, Nat.le_of_ble_eq_true rfl, Nat.le_of_ble_eq_true rfl⟩ rfl rfl (Nat.le_of_ble_eq_true rfl) (rc_obj B (ci := 5) rfl rfl rfl) (c_X5_refuse _ E _ 2 (by omega) (by omega)) (k_v (fun M19 hz19 => ?_))
    exact r_v B R dX5_tellWay_22 (Or.inl ⟨fun q => c5 (by rw [Is_e ez1]; exact q.1), hz19⟩)
  · show Vx x E M 8 [(0, .ref (E.1 (7)))] []
    refine x_aload_n B dX5_tellWay_8 0 rfl rfl ?_
    refine x_getI B (ci := 5) (k := 7) (lo := 0) (hi := 999) dX5_tellWay_9 rfl rfl rfl (by decide) inGX5 kw_133 rfl (fun z9 ez9 lz9 uz9 => ?_)
    refine x_bipush B dX5_tellWay_12 rfl ?_
    refine x_icmp_ge B (tgt := 23) dX5_tellWay_14 (by decide) ⟨by omega, by omega⟩ ⟨by omega, by omega⟩ (fun c14 => ?_) (fun c14 => ?_)
    · show Vx x E M 23 [(0, .ref (E.1 (7)))] []
      refine x_aload_n B dX5_tellWay_23 0 rfl rfl ?_
      refine x_getR B (ci := 5) (k := 0) dX5_tellWay_24 rfl rfl rfl (by decide) inGX5 kw_122 ?_
      refine x_getR B (ci := 1) (k := 0) dX5_tellWay_27 rfl rfl rfl (by decide) inGX1 kw_102 ?_
      refine x_iconst B dX5_tellWay_30 ?_
      refine x_aload_n B dX5_tellWay_31 0 rfl rfl ?_
      refine x_getI B (ci := 5) (k := 7) (lo := 0) (hi := 999) dX5_tellWay_32 rfl rfl rfl (by decide) inGX5 kw_133 rfl (fun z32 ez32 lz32 uz32 => ?_)
      have h16 : 13 ≤ z32 ∧ z32 < 16 := by
        have a := (Is_e ez9).trans (Is_e ez32).symm
        have b := g1 (by rw [← Is_e ez1]; exact c5)
        rw [← Is_e ez32] at b
        omega
      refine x_bipush B dX5_tellWay_35 rfl ?_
      refine x_isub B dX5_tellWay_37 ?_
      refine x_iast B (lo := 0) (hi := 2) dX5_tellWay_38 rfl (by omega) (by omega) rfl (by omega) (by omega) ?_
      refine x_aload_n B dX5_tellWay_39 0 rfl rfl ?_
      refine x_iconst B dX5_tellWay_40 ?_
      refine x_put B (ci := 5) (k := 9) (lo := 0) (hi := 5) (ty := .int) dX5_tellWay_41 rfl rfl rfl (by decide) inGX5 tyX5_ok nmX5 kw_135 rfl (by decide +kernel) (nar_i _) (fit_i _) rfl (by omega) (by omega) ?_
      exact r_v B R dX5_tellWay_44 (Or.inr ⟨⟨by rw [← Is_e ez1]; exact c5, by rw [← Is_e ez9]; omega⟩, by rw [Is_e ez32]; rfl⟩)
    · show Vx x E M 17 [(0, .ref (E.1 (7)))] []
      refine x_aload_n B dX5_tellWay_17 0 rfl rfl ?_
      refine x_iconst B dX5_tellWay_18 ?_
      refine x_callV B (st := []) (av := [.int (iI (2))]) dX5_tellWay_19 cs_X5_refuse kw_436 ⟨rfl, rfl, Nat.le_of_ble_eq_true rfl, Nat.le_of_ble_eq_true rfl⟩ rfl rfl (Nat.le_of_ble_eq_true rfl) (rc_obj B (ci := 5) rfl rfl rfl) (c_X5_refuse _ E _ 2 (by omega) (by omega)) (k_v (fun M19 hz19 => ?_))
      exact r_v B R dX5_tellWay_22 (Or.inl ⟨fun q => by have q2 := q.2; rw [← Is_e ez9] at q2; omega, hz19⟩)
abbrev rm_X5_endLine : Room := { frames := 1, cells := 0, slots := 0, locals := 21 }
theorem cs_X5_endLine : Cv yX5_endLine cX5_endLine 1 none 0 := ⟨kw_481, ⟨kw_480, kw_12⟩, kw_61, by decide, by decide, by decide +kernel⟩
set_option maxHeartbeats 4000000 in
set_option maxRecDepth 100000 in
theorem c_X5_endLine (l : Launch) (E : Ev) (M : Mem)  (g1 : lnP M) : Ct l yX5_endLine cX5_endLine 1 none rm_X5_endLine E M [.ref (E.1 (7))] (pV (fun M' => elR M M')) := by
  refine Ct_of (lv := [(0, .ref (E.1 (7)))]) (by decide) ⟨rfl, rfl⟩ (Nat.le_of_ble_eq_true rfl) rfl (fun x _ B R => ?_)
  refine x_aload_n B dX5_endLine_0 0 rfl rfl ?_
  refine x_getI B (ci := 5) (k := 6) (lo := 0) (hi := 3) dX5_endLine_1 rfl rfl rfl (by decide) inGX5 kw_132 rfl (fun z1 ez1 lz1 uz1 => ?_)
  refine x_iconst B dX5_endLine_4 ?_
  refine x_icmp_eq B (tgt := 14) dX5_endLine_5 (by decide) ⟨by omega, by omega⟩ ⟨by omega, by omega⟩ (fun c5 => ?_) (fun c5 => ?_)
  · show Vx x E M 14 [(0, .ref (E.1 (7)))] []
    refine x_aload_n B dX5_endLine_14 0 rfl rfl ?_
    refine x_dup B dX5_endLine_15 rfl ?_
    refine x_getI B (ci := 5) (k := 12) (lo := 0) (hi := 201) dX5_endLine_16 rfl rfl rfl (by decide) inGX5 kw_138 rfl (fun z16 ez16 lz16 uz16 => ?_)
    have h16 : z16 ≤ 200 := by rw [Is_e ez16]; exact g1
    refine x_iconst B dX5_endLine_19 ?_
    refine x_iadd B dX5_endLine_20 ?_
    refine x_put B (ci := 5) (k := 12) (lo := 0) (hi := 201) (ty := .int) dX5_endLine_21 rfl rfl rfl (by decide) inGX5 tyX5_ok nmX5 kw_138 rfl (by decide +kernel) (nar_i _) (fit_i _) rfl (by omega) (by omega) ?_
    refine x_aload_n B dX5_endLine_24 0 rfl rfl ?_
    refine x_iconst B dX5_endLine_25 ?_
    refine x_put B (ci := 5) (k := 9) (lo := 0) (hi := 5) (ty := .int) dX5_endLine_26 rfl rfl rfl (by decide) inGX5 tyX5_ok nmX5 kw_135 rfl (by decide +kernel) (nar_i _) (fit_i _) rfl (by omega) (by omega) ?_
    exact r_v B R dX5_endLine_29 (Or.inr ⟨by rw [← Is_e ez1]; exact c5, by rw [Is_e ez16]⟩)
  · show Vx x E M 8 [(0, .ref (E.1 (7)))] []
    refine x_aload_n B dX5_endLine_8 0 rfl rfl ?_
    refine x_iconst B dX5_endLine_9 ?_
    refine x_callV B (st := []) (av := [.int (iI (2))]) dX5_endLine_10 cs_X5_refuse kw_436 ⟨rfl, rfl, Nat.le_of_ble_eq_true rfl, Nat.le_of_ble_eq_true rfl⟩ rfl rfl (Nat.le_of_ble_eq_true rfl) (rc_obj B (ci := 5) rfl rfl rfl) (c_X5_refuse _ E _ 2 (by omega) (by omega)) (k_v (fun M10 hz10 => ?_))
    exact r_v B R dX5_endLine_13 (Or.inl ⟨by rw [← Is_e ez1]; exact c5, hz10⟩)
