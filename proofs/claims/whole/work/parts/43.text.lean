def tkR (M M' : Mem) : Prop := ∃ nx kd va st wr wa : Int, tkV (M 11) (M 7 1) (M 7 5) (M 7 6) (M 7 7) (M 7 2) (M 7 3) nx kd va st wr wa ∧ M' = skM M nx kd va st wr wa
theorem tk_k16 {M M' : Mem} (h : tkR M M') (h0 : M' 7 2 = 0) : k16 M' := by
  obtain ⟨nx, kd, va, st, wr, wa, h1, h2⟩ := h
  subst h2
  exact fun q => tk_16 h1 h0 q
/-- the memory that the first TOKEN is taken in -/
def rs0 (M : Mem) : Mem := sto (sto (sto (sto (sto (sto (sto (fillM (cpyM M (8 + 1) 12 (fun b => sAf.getD b 0)) (8 + 2) 16 1) 7 2 0) 7 3 0) 7 5 0) 7 13 0) 7 14 0) 7 12 0) 7 9 0
/-- a TOKEN is taken and, where it is one, used -/
def tuR (M M' : Mem) : Prop := M 7 2 = 0 ∧ ¬ M 7 9 = 5 ∧ ∃ M2 : Mem, tkR M M2 ∧ (¬ M2 7 2 = 0 ∧ M' = M2 ∨ M2 7 2 = 0 ∧ utR M2 M')
/-- k TOKENS are taken -/
def tuK (M0 : Mem) : Nat → Mem → Prop
  | 0, M => M = M0
  | k + 1, M => ∃ M1 : Mem, tuK M0 k M1 ∧ tuR M1 M
theorem tuK_s {M0 M1 M : Mem} {k : Int} (h0 : 0 ≤ k) (h : tuK M0 k.toNat M1) (h1 : tuR M1 M) : tuK M0 (k + 1).toNat M := by
  rw [show (k + 1).toNat = k.toNat + 1 by omega]
  exact ⟨M1, h, h1⟩
def lnQ (M : Mem) (k : Int) : Prop := M 7 12 ≤ k
theorem nb_12 {M M' : Mem} {lo hi z : Int} (h : nbR M lo hi M' z) : M' 7 12 = M 7 12 := by
  rcases h with ⟨-, -, h2⟩ | ⟨-, -, -, h2⟩ | ⟨-, -, -, h2⟩ <;> (rw [h2]; try rfl)
theorem ut_12 {M M' : Mem} (h : utR M M') : M' 7 12 = M 7 12 ∨ M' 7 12 = M 7 12 + 1 := by
  rcases h with ⟨-, h⟩ | ⟨-, h⟩ | ⟨-, M1, z, h0, h⟩ | ⟨-, M1, z, h0, h⟩ | ⟨-, h⟩
  · left
    rcases h with ⟨-, h⟩ | ⟨-, ⟨-, h⟩ | ⟨-, ⟨-, -, h⟩ | ⟨-, ⟨-, h⟩ | ⟨-, h⟩ | ⟨-, h⟩ | ⟨-, h⟩⟩⟩⟩ <;> (rw [h]; rfl)
  · left
    rcases h with ⟨-, h⟩ | ⟨-, h⟩ <;> (rw [h]; rfl)
  · left
    rcases h with ⟨-, h⟩ | ⟨-, ⟨-, ⟨-, h⟩ | ⟨-, h⟩⟩ | ⟨-, ⟨-, h⟩ | ⟨-, h⟩⟩⟩
    · rw [h]
      exact nb_12 h0
    · rw [h]
      rfl
    · rw [h]
      rfl
    · rw [h]
      rfl
    · rw [h]
      rfl
  · left
    rcases h with ⟨-, h⟩ | ⟨-, ⟨-, h⟩ | ⟨-, h⟩⟩
    · rw [h]
      exact nb_12 h0
    · rw [h]
      rfl
    · rw [h]
      rfl
  · rcases h with ⟨-, h⟩ | ⟨-, h⟩
    · left
      rw [h]
      rfl
    · right
      rw [h]
      rfl
theorem tk_12 {M M' : Mem} (h : tkR M M') : M' 7 12 = M 7 12 := by
  obtain ⟨nx, kd, va, st, wr, wa, h1, h2⟩ := h
  rw [h2]
  rfl
theorem lnQ_t {M M' : Mem} {k : Int} (h : lnQ M k) (h1 : tkR M M') : lnQ M' k := by
  unfold lnQ at h ⊢
  rw [tk_12 h1]
  exact h
theorem lnQ_u {M M' : Mem} {k : Int} (h : lnQ M k) (h1 : utR M M') : lnQ M' (k + 1) := by
  unfold lnQ at h ⊢
  rcases ut_12 h1 with e | e <;> omega
theorem lnQ_1 {M : Mem} {k : Int} (h : lnQ M k) : lnQ M (k + 1) := by
  unfold lnQ at h ⊢
  omega
theorem lnQ_P {M : Mem} {k : Int} (h : lnQ M k) (hk : k ≤ 200) : lnP M := by
  unfold lnQ at h
  unfold lnP
  omega
/-- the lines are read: z of them, by k TOKENS, and how that ends -/
def llR (M M' : Mem) (z : Int) : Prop := ∃ k : Nat, tuK (rs0 M) k M' ∧ z = M' 7 12 ∧ (k = 201 ∨ ¬ M' 7 2 = 0 ∨ M' 7 9 = 5)
abbrev rm_X5_readLines : Room := { frames := 8, cells := 0, slots := 0, locals := 168 }
theorem cs_X5_readLines : Cv yX5_readLines cX5_readLines 2 (some .int) 0 := ⟨kw_348, ⟨kw_346, kw_347⟩, kw_61, by decide, by decide, by decide +kernel⟩
set_option maxHeartbeats 4000000 in
set_option maxRecDepth 100000 in
theorem c_X5_readLines (l : Launch) (E : Ev) (M : Mem)   : Ct l yX5_readLines cX5_readLines 2 (some .int) rm_X5_readLines E M [.ref (E.1 (7))] (pI (fun z M' => llR M M' z ∧ 0 ≤ z ∧ z ≤ 201)) := by
  refine Ct_of (lv := [(0, .ref (E.1 (7)))]) (by decide) ⟨rfl, rfl⟩ (Nat.le_of_ble_eq_true rfl) rfl (fun x _ B R => ?_)
  refine x_aload_n B dX5_readLines_0 0 rfl rfl ?_
  refine x_getR B (ci := 5) (k := 0) dX5_readLines_1 rfl rfl rfl (by decide) inGX5 kw_122 ?_
  refine x_callV B (st := []) (av := []) dX5_readLines_4 cs_X1_toFirst kw_349 ⟨rfl, rfl, Nat.le_of_ble_eq_true rfl, Nat.le_of_ble_eq_true rfl⟩ rfl rfl (Nat.le_of_ble_eq_true rfl) (rc_obj B (ci := 1) rfl rfl rfl) (c_X1_toFirst _ E _ 8 (by decide)) (k_v (fun M4 hz4 => ?_))
  subst hz4
  refine x_aload_n B dX5_readLines_7 0 rfl rfl ?_
  refine x_iconst B dX5_readLines_8 ?_
  refine x_put B (ci := 5) (k := 2) (lo := 0) (hi := 4) (ty := .int) dX5_readLines_9 rfl rfl rfl (by decide) inGX5 tyX5_ok nmX5 kw_126 rfl (by decide +kernel) (nar_i _) (fit_i _) rfl (by omega) (by omega) ?_
  refine x_aload_n B dX5_readLines_12 0 rfl rfl ?_
  refine x_iconst B dX5_readLines_13 ?_
  refine x_put B (ci := 5) (k := 3) (lo := 0) (hi := 200) (ty := .int) dX5_readLines_14 rfl rfl rfl (by decide) inGX5 tyX5_ok nmX5 kw_128 rfl (by decide +kernel) (nar_i _) (fit_i _) rfl (by omega) (by omega) ?_
  refine x_aload_n B dX5_readLines_17 0 rfl rfl ?_
  refine x_iconst B dX5_readLines_18 ?_
  refine x_put B (ci := 5) (k := 5) (lo := 0) (hi := 200) (ty := .int) dX5_readLines_19 rfl rfl rfl (by decide) inGX5 tyX5_ok nmX5 kw_131 rfl (by decide +kernel) (nar_i _) (fit_i _) rfl (by omega) (by omega) ?_
  refine x_aload_n B dX5_readLines_22 0 rfl rfl ?_
  refine x_iconst B dX5_readLines_23 ?_
  refine x_put B (ci := 5) (k := 13) (lo := 0) (hi := 65535) (ty := .int) dX5_readLines_24 rfl rfl rfl (by decide) inGX5 tyX5_ok nmX5 kw_139 rfl (by decide +kernel) (nar_i _) (fit_i _) rfl (by omega) (by omega) ?_
  refine x_aload_n B dX5_readLines_27 0 rfl rfl ?_
  refine x_iconst B dX5_readLines_28 ?_
  refine x_put B (ci := 5) (k := 14) (lo := 0) (hi := 65535) (ty := .int) dX5_readLines_29 rfl rfl rfl (by decide) inGX5 tyX5_ok nmX5 kw_140 rfl (by decide +kernel) (nar_i _) (fit_i _) rfl (by omega) (by omega) ?_
  refine x_aload_n B dX5_readLines_32 0 rfl rfl ?_
  refine x_iconst B dX5_readLines_33 ?_
  refine x_put B (ci := 5) (k := 12) (lo := 0) (hi := 201) (ty := .int) dX5_readLines_34 rfl rfl rfl (by decide) inGX5 tyX5_ok nmX5 kw_138 rfl (by decide +kernel) (nar_i _) (fit_i _) rfl (by omega) (by omega) ?_
  refine x_aload_n B dX5_readLines_37 0 rfl rfl ?_
  refine x_iconst B dX5_readLines_38 ?_
  refine x_put B (ci := 5) (k := 9) (lo := 0) (hi := 5) (ty := .int) dX5_readLines_39 rfl rfl rfl (by decide) inGX5 tyX5_ok nmX5 kw_135 rfl (by decide +kernel) (nar_i _) (fit_i _) rfl (by omega) (by omega) ?_
  refine x_iconst B dX5_readLines_42 ?_
  refine x_istore_n B dX5_readLines_43 [1, 0] rfl (by decide) (lv' := [(0, .ref (E.1 (7))), (1, .int (iI (0)))]) rfl ?_
  have L44 : ∀ (k : Int) (M1 : Mem), (0 ≤ k ∧ k ≤ 201 ∧ tuK (rs0 M) k.toNat M1 ∧ lnQ M1 k) → Vx x E M1 44 [(0, .ref (E.1 (7))), (1, .int (iI (k)))] [] := by
    refine lo2 _ _ (fun k M1 => (201 - k).toNat) ?_
    intro k M1 hI ih44
    obtain ⟨i1, i2, i3, i4⟩ := hI
    refine x_iload_n B dX5_readLines_44 1 rfl rfl ?_
    refine x_sipush B dX5_readLines_45 rfl ?_
    refine x_icmp_gt B (tgt := 87) dX5_readLines_48 (by decide) ⟨by omega, by omega⟩ ⟨by omega, by omega⟩ (fun c48 => ?_) (fun c48 => ?_)
    · show Vx x E M1 87 [(0, .ref (E.1 (7))), (1, .int (iI (k)))] []
      refine x_aload_n B dX5_readLines_87 0 rfl rfl ?_
      refine x_getI B (ci := 5) (k := 12) (lo := 0) (hi := 201) dX5_readLines_88 rfl rfl rfl (by decide) inGX5 kw_138 rfl (fun z88 ez88 lz88 uz88 => ?_)
      exact r_i B R dX5_readLines_91 (⟨⟨k.toNat, i3, Is_e ez88, Or.inl (by omega)⟩, by omega, by omega⟩)
    · show Vx x E M1 51 [(0, .ref (E.1 (7))), (1, .int (iI (k)))] []
      refine x_aload_n B dX5_readLines_51 0 rfl rfl ?_
      refine x_getI B (ci := 5) (k := 2) (lo := 0) (hi := 4) dX5_readLines_52 rfl rfl rfl (by decide) inGX5 kw_126 rfl (fun z52 ez52 lz52 uz52 => ?_)
      have e52 := Is_e ez52
      refine x_if_ne B (tgt := 87) dX5_readLines_55 (by decide) ⟨by omega, by omega⟩ (fun c55 => ?_) (fun c55 => ?_)
      · show Vx x E M1 87 [(0, .ref (E.1 (7))), (1, .int (iI (k)))] []
        refine x_aload_n B dX5_readLines_87 0 rfl rfl ?_
        refine x_getI B (ci := 5) (k := 12) (lo := 0) (hi := 201) dX5_readLines_88 rfl rfl rfl (by decide) inGX5 kw_138 rfl (fun z88 ez88 lz88 uz88 => ?_)
        exact r_i B R dX5_readLines_91 (⟨⟨k.toNat, i3, Is_e ez88, Or.inr (Or.inl (by rw [← e52]; exact c55))⟩, by omega, by omega⟩)
      · show Vx x E M1 58 [(0, .ref (E.1 (7))), (1, .int (iI (k)))] []
        refine x_aload_n B dX5_readLines_58 0 rfl rfl ?_
        refine x_getI B (ci := 5) (k := 9) (lo := 0) (hi := 5) dX5_readLines_59 rfl rfl rfl (by decide) inGX5 kw_135 rfl (fun z59 ez59 lz59 uz59 => ?_)
        have e59 := Is_e ez59
        refine x_iconst B dX5_readLines_62 ?_
        refine x_icmp_eq B (tgt := 87) dX5_readLines_63 (by decide) ⟨by omega, by omega⟩ ⟨by omega, by omega⟩ (fun c63 => ?_) (fun c63 => ?_)
        · show Vx x E M1 87 [(0, .ref (E.1 (7))), (1, .int (iI (k)))] []
          refine x_aload_n B dX5_readLines_87 0 rfl rfl ?_
          refine x_getI B (ci := 5) (k := 12) (lo := 0) (hi := 201) dX5_readLines_88 rfl rfl rfl (by decide) inGX5 kw_138 rfl (fun z88 ez88 lz88 uz88 => ?_)
          exact r_i B R dX5_readLines_91 (⟨⟨k.toNat, i3, Is_e ez88, Or.inr (Or.inr (by rw [← e59]; exact c63))⟩, by omega, by omega⟩)
        · show Vx x E M1 66 [(0, .ref (E.1 (7))), (1, .int (iI (k)))] []
          refine x_aload_n B dX5_readLines_66 0 rfl rfl ?_
          refine x_callV B (st := []) (av := []) dX5_readLines_67 cs_X5_takeToken kw_350 ⟨rfl, rfl, Nat.le_of_ble_eq_true rfl, Nat.le_of_ble_eq_true rfl⟩ rfl rfl (Nat.le_of_ble_eq_true rfl) (rc_obj B (ci := 5) rfl rfl rfl) (c_X5_takeToken _ E _ ) (k_v (fun M67 hz67 => ?_))
          refine x_aload_n B dX5_readLines_70 0 rfl rfl ?_
          refine x_getI B (ci := 5) (k := 2) (lo := 0) (hi := 4) dX5_readLines_71 rfl rfl rfl (by decide) inGX5 kw_126 rfl (fun z71 ez71 lz71 uz71 => ?_)
          have e71 := Is_e ez71
          refine x_if_ne B (tgt := 81) dX5_readLines_74 (by decide) ⟨by omega, by omega⟩ (fun c74 => ?_) (fun c74 => ?_)
          · show Vx x E M67 81 [(0, .ref (E.1 (7))), (1, .int (iI (k)))] []
            refine x_iinc B (q := 1) dX5_readLines_81 rfl [1, 0] (by decide) (lv' := [(0, .ref (E.1 (7))), (1, .int (iI (k + 1)))]) rfl ?_
            refine x_goto B (tgt := 44) dX5_readLines_84 (by decide) ?_
            exact ih44 (k + 1) M67 (⟨by omega, by omega, tuK_s i1 i3 ⟨by rw [← e52]; exact c55, by rw [← e59]; exact c63, M67, hz67, Or.inl ⟨by rw [← e71]; exact c74, rfl⟩⟩, lnQ_1 (lnQ_t i4 hz67)⟩) (by omega)
          · show Vx x E M67 77 [(0, .ref (E.1 (7))), (1, .int (iI (k)))] []
            refine x_aload_n B dX5_readLines_77 0 rfl rfl ?_
            refine x_callV B (st := []) (av := []) dX5_readLines_78 cs_X5_useToken kw_447 ⟨rfl, rfl, Nat.le_of_ble_eq_true rfl, Nat.le_of_ble_eq_true rfl⟩ rfl rfl (Nat.le_of_ble_eq_true rfl) (rc_obj B (ci := 5) rfl rfl rfl) (c_X5_useToken _ E _  (by show _ = _; rw [← e71]; exact c74) (tk_k16 hz67 (by rw [← e71]; exact c74)) (lnQ_P (lnQ_t i4 hz67) (by omega))) (k_v (fun M78 hz78 => ?_))
            refine x_iinc B (q := 1) dX5_readLines_81 rfl [1, 0] (by decide) (lv' := [(0, .ref (E.1 (7))), (1, .int (iI (k + 1)))]) rfl ?_
            refine x_goto B (tgt := 44) dX5_readLines_84 (by decide) ?_
            exact ih44 (k + 1) M78 (⟨by omega, by omega, tuK_s i1 i3 ⟨by rw [← e52]; exact c55, by rw [← e59]; exact c63, M67, hz67, Or.inr ⟨by rw [← e71]; exact c74, hz78⟩⟩, lnQ_u (lnQ_t i4 hz67) hz78⟩) (by omega)
  exact L44 0 (rs0 M) (⟨by omega, by omega, rfl, Int.le_refl 0⟩)
def txR (M M' : Mem) (z : Int) : Prop := ∃ (M1 : Mem) (k : Int), llR M M1 k ∧ (0 ≤ k ∧ k ≤ 201) ∧ (¬ M1 7 2 = 0 ∧ z = -10 - M1 7 3 ∧ M' = sto M1 7 1 0 ∨ M1 7 2 = 0 ∧ z = k ∧ M' = cpyM (cpyM (sto M1 7 1 0) (1 + 1) 12 (M1 (8 + 1))) (1 + 2) 16 (M1 (8 + 2)))
abbrev rm_X7_text : Room := { frames := 9, cells := 0, slots := 0, locals := 189 }
theorem cs_X7_text : Cv yX7_text cX7_text 2 (some .int) 0 := ⟨kw_344, ⟨kw_342, kw_343⟩, kw_57, by decide, by decide, by decide +kernel⟩
set_option maxHeartbeats 4000000 in
set_option maxRecDepth 100000 in
theorem c_X7_text (l : Launch) (E : Ev) (M : Mem)   : Ct l yX7_text cX7_text 2 (some .int) rm_X7_text E M [.ref (E.1 (0))] (pI (fun z M' => txR M M' z)) := by
  refine Ct_of (lv := [(0, .ref (E.1 (0)))]) (by decide) ⟨rfl, rfl⟩ (Nat.le_of_ble_eq_true rfl) rfl (fun x _ B R => ?_)
  refine x_aload_n B dX7_text_0 0 rfl rfl ?_
  refine x_getR B (ci := 7) (k := 2) dX7_text_1 rfl rfl rfl (by decide) inGX7 kw_285 ?_
  refine x_callV B (st := []) (av := []) dX7_text_4 cs_X5_readLines kw_345 ⟨rfl, rfl, Nat.le_of_ble_eq_true rfl, Nat.le_of_ble_eq_true rfl⟩ rfl rfl (Nat.le_of_ble_eq_true rfl) (rc_obj B (ci := 5) rfl rfl rfl) (c_X5_readLines _ E _ ) (k_i (fun z4 M4 hz4 => ?_))
  refine x_istore_n B dX7_text_7 [1, 0] rfl (by decide) (lv' := [(0, .ref (E.1 (0))), (1, .int (iI (z4)))]) rfl ?_
  have hk0 := hz4.2.1
  have hk1 := hz4.2.2
  refine x_aload_n B dX7_text_8 0 rfl rfl ?_
  refine x_getR B (ci := 7) (k := 2) dX7_text_9 rfl rfl rfl (by decide) inGX7 kw_285 ?_
  refine x_iconst B dX7_text_12 ?_
  refine x_put B (ci := 5) (k := 1) (lo := 0) (hi := 200) (ty := .int) dX7_text_13 rfl rfl rfl (by decide) inGX5 tyX5_ok nmX5 kw_125 rfl (by decide +kernel) (nar_i _) (fit_i _) rfl (by omega) (by omega) ?_
  refine x_aload_n B dX7_text_16 0 rfl rfl ?_
  refine x_getR B (ci := 7) (k := 2) dX7_text_17 rfl rfl rfl (by decide) inGX7 kw_285 ?_
  refine x_getI B (ci := 5) (k := 2) (lo := 0) (hi := 4) dX7_text_20 rfl rfl rfl (by decide) inGX5 kw_127 rfl (fun z20 ez20 lz20 uz20 => ?_)
  have e20 : z20 = M4 7 2 := Is_e ez20
  refine x_if_eq B (tgt := 37) dX7_text_23 (by decide) ⟨by omega, by omega⟩ (fun c23 => ?_) (fun c23 => ?_)
  · show Vx x E (sto M4 7 1 0) 37 [(0, .ref (E.1 (0))), (1, .int (iI (z4)))] []
    refine x_aload_n B dX7_text_37 0 rfl rfl ?_
    refine x_getR B (ci := 7) (k := 0) dX7_text_38 rfl rfl rfl (by decide) inGX7 kw_283 ?_
    refine x_aload_n B dX7_text_41 0 rfl rfl ?_
    refine x_getR B (ci := 7) (k := 2) dX7_text_42 rfl rfl rfl (by decide) inGX7 kw_285 ?_
    refine x_getR B (ci := 5) (k := 0) dX7_text_45 rfl rfl rfl (by decide) inGX5 kw_123 ?_
    refine x_callV B (st := []) (av := [.ref (E.1 (8))]) dX7_text_48 cs_X1_takeFrom kw_482 ⟨rfl, rfl, Nat.le_of_ble_eq_true rfl, Nat.le_of_ble_eq_true rfl⟩ rfl rfl (Nat.le_of_ble_eq_true rfl) (rc_obj B (ci := 1) rfl rfl rfl) (c_X1_takeFrom _ E _ 1 8 (by decide) (by decide) (by decide)) (k_v (fun M48 hz48 => ?_))
    refine x_iload_n B dX7_text_51 1 rfl rfl ?_
    exact r_i B R dX7_text_52 (⟨M4, z4, hz4.1, ⟨hk0, hk1⟩, Or.inr ⟨by rw [← e20]; exact c23, rfl, by rw [hz48, sto_f _ _ _ _ (by decide), sto_f _ _ _ _ (by decide)]⟩⟩)
  · show Vx x E (sto M4 7 1 0) 26 [(0, .ref (E.1 (0))), (1, .int (iI (z4)))] []
    refine x_bipush B dX7_text_26 rfl ?_
    refine x_aload_n B dX7_text_28 0 rfl rfl ?_
    refine x_getR B (ci := 7) (k := 2) dX7_text_29 rfl rfl rfl (by decide) inGX7 kw_285 ?_
    refine x_getI B (ci := 5) (k := 3) (lo := 0) (hi := 200) dX7_text_32 rfl rfl rfl (by decide) inGX5 kw_129 rfl (fun z32 ez32 lz32 uz32 => ?_)
    have e32 : z32 = M4 7 3 := Is_e ez32
    refine x_isub B dX7_text_35 ?_
    exact r_i B R dX7_text_36 (⟨M4, z4, hz4.1, ⟨hk0, hk1⟩, Or.inl ⟨by rw [← e20]; exact c23, by rw [← e32], rfl⟩⟩)
