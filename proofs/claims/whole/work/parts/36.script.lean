/-- the tape's head, what it has read, where that started, what is wrong and where -/
def skM (M : Mem) (nx kd va st wr wa : Int) : Mem := fun i j => if i = 7 then (if j = 5 then nx else if j = 6 then kd else if j = 7 then va else if j = 8 then st else if j = 2 then wr else if j = 3 then wa else M 7 j) else M i j
theorem skM_o {M : Mem} {a b c d e f : Int} {i : Nat} (h : i ≠ 7) : skM M a b c d e f i = M i := by
  funext j
  unfold skM
  rw [if_neg h]
theorem skM_eta {M : Mem} : M = skM M (M 7 5) (M 7 6) (M 7 7) (M 7 8) (M 7 2) (M 7 3) := by
  funext i j
  unfold skM
  repeat (split <;> try subst_vars <;> try rfl)
theorem skM_id {M : Mem} {a b c d e f a' b' c' d' e' f' : Int} : skM (skM M a b c d e f) a' b' c' d' e' f' = skM M a' b' c' d' e' f' := by
  funext i j
  unfold skM
  by_cases h : i = 7
  · rw [if_pos h, if_pos h]
    repeat (split <;> try rfl)
  · rw [if_neg h, if_neg h, if_neg h]
theorem skM_5 {M : Mem} {a b c d e f x : Int} : sto (skM M a b c d e f) 7 5 x = skM M x b c d e f := by
  funext i j
  unfold sto skM
  by_cases h : i = 7 <;> by_cases h2 : j = 5 <;> simp [h, h2]
theorem skM_6 {M : Mem} {a b c d e f x : Int} : sto (skM M a b c d e f) 7 6 x = skM M a x c d e f := by
  funext i j
  unfold sto skM
  by_cases h : i = 7 <;> by_cases h2 : j = 6 <;> simp [h, h2]
theorem skM_7 {M : Mem} {a b c d e f x : Int} : sto (skM M a b c d e f) 7 7 x = skM M a b x d e f := by
  funext i j
  unfold sto skM
  by_cases h : i = 7 <;> by_cases h2 : j = 7 <;> simp [h, h2]
theorem skM_8 {M : Mem} {a b c d e f x : Int} : sto (skM M a b c d e f) 7 8 x = skM M a b c x e f := by
  funext i j
  unfold sto skM
  by_cases h : i = 7 <;> by_cases h2 : j = 8 <;> simp [h, h2]
theorem skM_2 {M : Mem} {a b c d e f x : Int} : sto (skM M a b c d e f) 7 2 x = skM M a b c d x f := by
  funext i j
  unfold sto skM
  by_cases h : i = 7 <;> by_cases h2 : j = 2 <;> simp [h, h2]
theorem skM_3 {M : Mem} {a b c d e f x : Int} : sto (skM M a b c d e f) 7 3 x = skM M a b c d e x := by
  funext i j
  unfold sto skM
  by_cases h : i = 7 <;> by_cases h2 : j = 3 <;> simp [h, h2]
abbrev fgP (c : Int) : Prop := 48 ≤ c ∧ c ≤ 57
abbrev ltP (c : Int) : Prop := 97 ≤ c ∧ c ≤ 122
/-- from s on stand bytes of a kind, up to e and no further -/
def scE (P : Int → Prop) (B : Nat → Int) (len s e : Int) : Prop := s ≤ e ∧ (s < e → e ≤ len) ∧ (∀ i : Int, s ≤ i → i < e → P (B i.toNat)) ∧ ¬ (e < len ∧ P (B e.toNat))
/-- the NUMBER that k figures from s on tell -/
def nuF (B : Nat → Int) (s : Int) : Nat → Int
  | 0 => 0
  | k + 1 => (nuF B s k * 10 + B (s + (k : Int)).toNat - 48) % 1000
theorem nuF_s {B : Nat → Int} {s e : Int} (h : s ≤ e) : nuF B s (e + 1 - s).toNat = (nuF B s (e - s).toNat * 10 + B e.toNat - 48) % 1000 := by
  rw [show (e + 1 - s).toNat = (e - s).toNat + 1 by omega]
  show (_ * 10 + B (s + ((e - s).toNat : Int)).toNat - 48) % 1000 = _
  rw [show s + ((e - s).toNat : Int) = e by omega]
abbrev rm_X5_isLetter : Room := { frames := 0, cells := 0, slots := 0, locals := 0 }
theorem cs_X5_isLetter : Cs yX5_isLetter cX5_isLetter 1 (some .boolean) 1 := ⟨kw_356, kw_355, kw_61, by decide, by decide, by decide +kernel⟩
set_option maxHeartbeats 4000000 in
set_option maxRecDepth 100000 in
theorem c_X5_isLetter (l : Launch) (E : Ev) (M : Mem) (c : Int) (g1 : -2147483648 ≤ c) (g2 : c < 2147483648) : Ct l yX5_isLetter cX5_isLetter 1 (some .boolean) rm_X5_isLetter E M [.int (iI (c))] (pI (fun z M' => M = M' ∧ (z = 1 ∧ ltP c ∨ z = 0 ∧ ¬ ltP c))) := by
  refine Ct_of (lv := [(0, .int (iI (c)))]) (by decide) ⟨rfl, rfl⟩ (Nat.le_of_ble_eq_true rfl) rfl (fun x _ B R => ?_)
  refine x_iload_n B dX5_isLetter_0 0 rfl rfl ?_
  refine x_bipush B dX5_isLetter_1 rfl ?_
  refine x_icmp_lt B (tgt := 16) dX5_isLetter_3 (by decide) ⟨by omega, by omega⟩ ⟨by omega, by omega⟩ (fun c3 => ?_) (fun c3 => ?_)
  · show Vx x E M 16 [(0, .int (iI (c)))] []
    refine x_iconst B dX5_isLetter_16 ?_
    exact r_z B R dX5_isLetter_17 (by omega) (by omega) (⟨rfl, by omega⟩)
  · show Vx x E M 6 [(0, .int (iI (c)))] []
    refine x_iload_n B dX5_isLetter_6 0 rfl rfl ?_
    refine x_bipush B dX5_isLetter_7 rfl ?_
    refine x_icmp_gt B (tgt := 16) dX5_isLetter_9 (by decide) ⟨by omega, by omega⟩ ⟨by omega, by omega⟩ (fun c9 => ?_) (fun c9 => ?_)
    · show Vx x E M 16 [(0, .int (iI (c)))] []
      refine x_iconst B dX5_isLetter_16 ?_
      exact r_z B R dX5_isLetter_17 (by omega) (by omega) (⟨rfl, by omega⟩)
    · show Vx x E M 12 [(0, .int (iI (c)))] []
      refine x_iconst B dX5_isLetter_12 ?_
      refine x_goto B (tgt := 17) dX5_isLetter_13 (by decide) ?_
      exact r_z B R dX5_isLetter_17 (by omega) (by omega) (⟨rfl, by omega⟩)
abbrev rm_X5_isFigure : Room := { frames := 0, cells := 0, slots := 0, locals := 0 }
theorem cs_X5_isFigure : Cs yX5_isFigure cX5_isFigure 1 (some .boolean) 1 := ⟨kw_442, kw_441, kw_61, by decide, by decide, by decide +kernel⟩
set_option maxHeartbeats 4000000 in
set_option maxRecDepth 100000 in
theorem c_X5_isFigure (l : Launch) (E : Ev) (M : Mem) (c : Int) (g1 : -2147483648 ≤ c) (g2 : c < 2147483648) : Ct l yX5_isFigure cX5_isFigure 1 (some .boolean) rm_X5_isFigure E M [.int (iI (c))] (pI (fun z M' => M = M' ∧ (z = 1 ∧ fgP c ∨ z = 0 ∧ ¬ fgP c))) := by
  refine Ct_of (lv := [(0, .int (iI (c)))]) (by decide) ⟨rfl, rfl⟩ (Nat.le_of_ble_eq_true rfl) rfl (fun x _ B R => ?_)
  refine x_iload_n B dX5_isFigure_0 0 rfl rfl ?_
  refine x_bipush B dX5_isFigure_1 rfl ?_
  refine x_icmp_lt B (tgt := 16) dX5_isFigure_3 (by decide) ⟨by omega, by omega⟩ ⟨by omega, by omega⟩ (fun c3 => ?_) (fun c3 => ?_)
  · show Vx x E M 16 [(0, .int (iI (c)))] []
    refine x_iconst B dX5_isFigure_16 ?_
    exact r_z B R dX5_isFigure_17 (by omega) (by omega) (⟨rfl, by omega⟩)
  · show Vx x E M 6 [(0, .int (iI (c)))] []
    refine x_iload_n B dX5_isFigure_6 0 rfl rfl ?_
    refine x_bipush B dX5_isFigure_7 rfl ?_
    refine x_icmp_gt B (tgt := 16) dX5_isFigure_9 (by decide) ⟨by omega, by omega⟩ ⟨by omega, by omega⟩ (fun c9 => ?_) (fun c9 => ?_)
    · show Vx x E M 16 [(0, .int (iI (c)))] []
      refine x_iconst B dX5_isFigure_16 ?_
      exact r_z B R dX5_isFigure_17 (by omega) (by omega) (⟨rfl, by omega⟩)
    · show Vx x E M 12 [(0, .int (iI (c)))] []
      refine x_iconst B dX5_isFigure_12 ?_
      refine x_goto B (tgt := 17) dX5_isFigure_13 (by decide) ?_
      exact r_z B R dX5_isFigure_17 (by omega) (by omega) (⟨rfl, by omega⟩)
abbrev rm_X5_refuse : Room := { frames := 0, cells := 0, slots := 0, locals := 0 }
theorem cs_X5_refuse : Cv yX5_refuse cX5_refuse 2 none 1 := ⟨kw_439, ⟨kw_438, kw_4⟩, kw_61, by decide, by decide, by decide +kernel⟩
set_option maxHeartbeats 4000000 in
set_option maxRecDepth 100000 in
theorem c_X5_refuse (l : Launch) (E : Ev) (M : Mem) (w : Int) (g1 : 0 ≤ w) (g2 : w ≤ 4) : Ct l yX5_refuse cX5_refuse 2 none rm_X5_refuse E M [.ref (E.1 (7)), .int (iI (w))] (pV (fun M' => M' = skM M (M 7 5) (M 7 6) (M 7 7) (M 7 8) w (M 7 8))) := by
  refine Ct_of (lv := [(0, .ref (E.1 (7))), (1, .int (iI (w)))]) (by decide) ⟨rfl, rfl⟩ (Nat.le_of_ble_eq_true rfl) rfl (fun x _ B R => ?_)
  refine x_aload_n B dX5_refuse_0 0 rfl rfl ?_
  refine x_iload_n B dX5_refuse_1 1 rfl rfl ?_
  refine x_put B (ci := 5) (k := 2) (lo := 0) (hi := 4) (ty := .int) dX5_refuse_2 rfl rfl rfl (by decide) inGX5 tyX5_ok nmX5 kw_126 rfl (by decide +kernel) (nar_i _) (fit_i _) rfl (by omega) (by omega) ?_
  refine x_aload_n B dX5_refuse_5 0 rfl rfl ?_
  refine x_aload_n B dX5_refuse_6 0 rfl rfl ?_
  refine x_getI B (ci := 5) (k := 8) (lo := 0) (hi := 200) dX5_refuse_7 rfl rfl rfl (by decide) inGX5 kw_134 rfl (fun z7 ez7 lz7 uz7 => ?_)
  have e7 : z7 = M 7 8 := by rw [Is_e ez7]; exact sto_nj _ _ _ _ (by decide)
  refine x_put B (ci := 5) (k := 3) (lo := 0) (hi := 200) (ty := .int) dX5_refuse_10 rfl rfl rfl (by decide) inGX5 tyX5_ok nmX5 kw_128 rfl (by decide +kernel) (nar_i _) (fit_i _) rfl (by omega) (by omega) ?_
  exact r_v B R dX5_refuse_13 (by rw [e7]; (conv => lhs; rw [@skM_eta M]); rw [skM_2, skM_3]; rfl)
abbrev rm_X5_takeNumber : Room := { frames := 1, cells := 0, slots := 0, locals := 21 }
theorem cs_X5_takeNumber : Cv yX5_takeNumber cX5_takeNumber 1 none 0 := ⟨kw_446, ⟨kw_445, kw_5⟩, kw_61, by decide, by decide, by decide +kernel⟩
set_option maxHeartbeats 4000000 in
set_option maxRecDepth 100000 in
theorem c_X5_takeNumber (l : Launch) (E : Ev) (M : Mem)  (g1 : M 7 8 = M 7 5) : Ct l yX5_takeNumber cX5_takeNumber 1 none rm_X5_takeNumber E M [.ref (E.1 (7))] (pV (fun M' => ∃ e : Int, scE fgP (M 11) (M 7 1) (M 7 5) e ∧ M' = skM M e 2 (nuF (M 11) (M 7 5) (e - M 7 5).toNat) (M 7 8) (if 2 < e - M 7 5 then 1 else M 7 2) (if 2 < e - M 7 5 then M 7 8 else M 7 3))) := by
  refine Ct_of (lv := [(0, .ref (E.1 (7)))]) (by decide) ⟨rfl, rfl⟩ (Nat.le_of_ble_eq_true rfl) rfl (fun x _ B R => ?_)
  refine x_wf (fun hwf0 => ?_)
  have hr1 : M 7 1 ≤ 200 := (hwf0 7 1).2
  have hr5 : 0 ≤ M 7 5 ∧ M 7 5 ≤ 200 := hwf0 7 5
  refine x_aload_n B dX5_takeNumber_0 0 rfl rfl ?_
  refine x_iconst B dX5_takeNumber_1 ?_
  refine x_put B (ci := 5) (k := 7) (lo := 0) (hi := 999) (ty := .int) dX5_takeNumber_2 rfl rfl rfl (by decide) inGX5 tyX5_ok nmX5 kw_133 rfl (by decide +kernel) (nar_i _) (fit_i _) rfl (by omega) (by omega) ?_
  have L5 : ∀ (e : Int) (v : Int) (M1 : Mem), (M 7 5 ≤ e ∧ (M 7 5 < e → e ≤ M 7 1) ∧ 0 ≤ v ∧ v ≤ 999 ∧ (∀ i : Int, M 7 5 ≤ i → i < e → fgP (M 11 i.toNat)) ∧ Is v (nuF (M 11) (M 7 5) (e - M 7 5).toNat) ∧ M1 = skM M e (M 7 6) v (M 7 8) (M 7 2) (M 7 3)) → Vx x E M1 5 [(0, .ref (E.1 (7)))] [] := by
    refine lo3 _ _ (fun e v M1 => (M 7 1 - e).toNat) ?_
    intro e v M1 hI ih5
    obtain ⟨i1, i2, i3, i4, i5, i6, i7⟩ := hI
    refine x_aload_n B dX5_takeNumber_5 0 rfl rfl ?_
    refine x_getI B (ci := 5) (k := 5) (lo := 0) (hi := 200) dX5_takeNumber_6 rfl rfl rfl (by decide) inGX5 kw_131 rfl (fun z6 ez6 lz6 uz6 => ?_)
    refine x_aload_n B dX5_takeNumber_9 0 rfl rfl ?_
    refine x_getI B (ci := 5) (k := 1) (lo := 0) (hi := 200) dX5_takeNumber_10 rfl rfl rfl (by decide) inGX5 kw_124 rfl (fun z10 ez10 lz10 uz10 => ?_)
    have e6 : z6 = e := by rw [Is_e ez6, i7]; rfl
    have e10 : z10 = M 7 1 := by rw [Is_e ez10, i7]; rfl
    refine x_icmp_ge B (tgt := 72) dX5_takeNumber_13 (by decide) ⟨by omega, by omega⟩ ⟨by omega, by omega⟩ (fun c13 => ?_) (fun c13 => ?_)
    · show Vx x E M1 72 [(0, .ref (E.1 (7)))] []
      refine x_aload_n B dX5_takeNumber_72 0 rfl rfl ?_
      refine x_iconst B dX5_takeNumber_73 ?_
      refine x_put B (ci := 5) (k := 6) (lo := 0) (hi := 3) (ty := .int) dX5_takeNumber_74 rfl rfl rfl (by decide) inGX5 tyX5_ok nmX5 kw_132 rfl (by decide +kernel) (nar_i _) (fit_i _) rfl (by omega) (by omega) ?_
      refine x_aload_n B dX5_takeNumber_77 0 rfl rfl ?_
      refine x_getI B (ci := 5) (k := 5) (lo := 0) (hi := 200) dX5_takeNumber_78 rfl rfl rfl (by decide) inGX5 kw_131 rfl (fun z78 ez78 lz78 uz78 => ?_)
      refine x_aload_n B dX5_takeNumber_81 0 rfl rfl ?_
      refine x_getI B (ci := 5) (k := 8) (lo := 0) (hi := 200) dX5_takeNumber_82 rfl rfl rfl (by decide) inGX5 kw_134 rfl (fun z82 ez82 lz82 uz82 => ?_)
      have e78 : z78 = e := by rw [Is_e ez78, i7]; rfl
      have e82 : z82 = M 7 8 := by rw [Is_e ez82, i7]; rfl
      refine x_isub B dX5_takeNumber_85 ?_
      refine x_iconst B dX5_takeNumber_86 ?_
      refine x_icmp_le B (tgt := 95) dX5_takeNumber_87 (by decide) ⟨by omega, by omega⟩ ⟨by omega, by omega⟩ (fun c87 => ?_) (fun c87 => ?_)
      · show Vx x E (sto M1 7 6 2) 95 [(0, .ref (E.1 (7)))] []
        exact r_v B R dX5_takeNumber_95 (⟨e, ⟨i1, i2, i5, by omega⟩, by rw [i7, skM_6, if_neg (by omega), if_neg (by omega), ← Is_e i6]⟩)
      · show Vx x E (sto M1 7 6 2) 90 [(0, .ref (E.1 (7)))] []
        refine x_aload_n B dX5_takeNumber_90 0 rfl rfl ?_
        refine x_iconst B dX5_takeNumber_91 ?_
        refine x_callV B (st := []) (av := [.int (iI (1))]) dX5_takeNumber_92 cs_X5_refuse kw_436 ⟨rfl, rfl, Nat.le_of_ble_eq_true rfl, Nat.le_of_ble_eq_true rfl⟩ rfl rfl (Nat.le_of_ble_eq_true rfl) (rc_obj B (ci := 5) rfl rfl rfl) (c_X5_refuse _ E _ 1 (by omega) (by omega)) (k_v (fun M92 hz92 => ?_))
        exact r_v B R dX5_takeNumber_95 (⟨e, ⟨i1, i2, i5, by omega⟩, by rw [hz92, i7, skM_6, skM_id, if_pos (by omega), if_pos (by omega), ← Is_e i6]; rfl⟩)
    · show Vx x E M1 16 [(0, .ref (E.1 (7)))] []
      refine x_aload_n B dX5_takeNumber_16 0 rfl rfl ?_
      refine x_getR B (ci := 5) (k := 4) dX5_takeNumber_17 rfl rfl rfl (by decide) inGX5 kw_130 ?_
      refine x_aload_n B dX5_takeNumber_20 0 rfl rfl ?_
      refine x_getI B (ci := 5) (k := 5) (lo := 0) (hi := 200) dX5_takeNumber_21 rfl rfl rfl (by decide) inGX5 kw_131 rfl (fun z21 ez21 lz21 uz21 => ?_)
      have e21 : z21 = e := by rw [Is_e ez21, i7]; rfl
      refine x_iald B (lo := 0) (hi := 255) dX5_takeNumber_24 rfl (by omega) (by omega) rfl (fun z24 ez24 lz24 uz24 => ?_)
      have e24 : z24 = M 11 e.toNat := by rw [Is_e ez24, i7, e21]; rfl
      refine x_callS B (st := []) (av := [.int (iI (z24))]) dX5_takeNumber_25 cs_X5_isFigure kw_440 ⟨rfl, rfl, Nat.le_of_ble_eq_true rfl, Nat.le_of_ble_eq_true rfl⟩ rfl rfl (Nat.le_of_ble_eq_true rfl) (c_X5_isFigure _ E _ z24 (by omega) (by omega)) (k_i (fun z25 Mq hz25 => ?_))
      obtain ⟨rfl, hz25⟩ := hz25
      refine x_if_eq B (tgt := 72) dX5_takeNumber_28 (by decide) ⟨by omega, by omega⟩ (fun c28 => ?_) (fun c28 => ?_)
      · show Vx x E M1 72 [(0, .ref (E.1 (7)))] []
        refine x_aload_n B dX5_takeNumber_72 0 rfl rfl ?_
        refine x_iconst B dX5_takeNumber_73 ?_
        refine x_put B (ci := 5) (k := 6) (lo := 0) (hi := 3) (ty := .int) dX5_takeNumber_74 rfl rfl rfl (by decide) inGX5 tyX5_ok nmX5 kw_132 rfl (by decide +kernel) (nar_i _) (fit_i _) rfl (by omega) (by omega) ?_
        refine x_aload_n B dX5_takeNumber_77 0 rfl rfl ?_
        refine x_getI B (ci := 5) (k := 5) (lo := 0) (hi := 200) dX5_takeNumber_78 rfl rfl rfl (by decide) inGX5 kw_131 rfl (fun z78 ez78 lz78 uz78 => ?_)
        refine x_aload_n B dX5_takeNumber_81 0 rfl rfl ?_
        refine x_getI B (ci := 5) (k := 8) (lo := 0) (hi := 200) dX5_takeNumber_82 rfl rfl rfl (by decide) inGX5 kw_134 rfl (fun z82 ez82 lz82 uz82 => ?_)
        have e78 : z78 = e := by rw [Is_e ez78, i7]; rfl
        have e82 : z82 = M 7 8 := by rw [Is_e ez82, i7]; rfl
        refine x_isub B dX5_takeNumber_85 ?_
        refine x_iconst B dX5_takeNumber_86 ?_
        refine x_icmp_le B (tgt := 95) dX5_takeNumber_87 (by decide) ⟨by omega, by omega⟩ ⟨by omega, by omega⟩ (fun c87 => ?_) (fun c87 => ?_)
        · show Vx x E (sto M1 7 6 2) 95 [(0, .ref (E.1 (7)))] []
          exact r_v B R dX5_takeNumber_95 (⟨e, ⟨i1, i2, i5, by omega⟩, by rw [i7, skM_6, if_neg (by omega), if_neg (by omega), ← Is_e i6]⟩)
        · show Vx x E (sto M1 7 6 2) 90 [(0, .ref (E.1 (7)))] []
          refine x_aload_n B dX5_takeNumber_90 0 rfl rfl ?_
          refine x_iconst B dX5_takeNumber_91 ?_
          refine x_callV B (st := []) (av := [.int (iI (1))]) dX5_takeNumber_92 cs_X5_refuse kw_436 ⟨rfl, rfl, Nat.le_of_ble_eq_true rfl, Nat.le_of_ble_eq_true rfl⟩ rfl rfl (Nat.le_of_ble_eq_true rfl) (rc_obj B (ci := 5) rfl rfl rfl) (c_X5_refuse _ E _ 1 (by omega) (by omega)) (k_v (fun M92 hz92 => ?_))
          exact r_v B R dX5_takeNumber_95 (⟨e, ⟨i1, i2, i5, by omega⟩, by rw [hz92, i7, skM_6, skM_id, if_pos (by omega), if_pos (by omega), ← Is_e i6]; rfl⟩)
      · show Vx x E M1 31 [(0, .ref (E.1 (7)))] []
        refine x_aload_n B dX5_takeNumber_31 0 rfl rfl ?_
        refine x_aload_n B dX5_takeNumber_32 0 rfl rfl ?_
        refine x_getI B (ci := 5) (k := 7) (lo := 0) (hi := 999) dX5_takeNumber_33 rfl rfl rfl (by decide) inGX5 kw_133 rfl (fun z33 ez33 lz33 uz33 => ?_)
        refine x_bipush B dX5_takeNumber_36 rfl ?_
        have e33 : z33 = v := by rw [Is_e ez33, i7]; rfl
        refine x_imul B dX5_takeNumber_38 ?_
        refine x_aload_n B dX5_takeNumber_39 0 rfl rfl ?_
        refine x_getR B (ci := 5) (k := 4) dX5_takeNumber_40 rfl rfl rfl (by decide) inGX5 kw_130 ?_
        refine x_aload_n B dX5_takeNumber_43 0 rfl rfl ?_
        refine x_getI B (ci := 5) (k := 5) (lo := 0) (hi := 200) dX5_takeNumber_44 rfl rfl rfl (by decide) inGX5 kw_131 rfl (fun z44 ez44 lz44 uz44 => ?_)
        have e44 : z44 = e := by rw [Is_e ez44, i7]; rfl
        refine x_iald B (lo := 0) (hi := 255) dX5_takeNumber_47 rfl (by omega) (by omega) rfl (fun z47 ez47 lz47 uz47 => ?_)
        have e47 : z47 = M 11 e.toNat := by rw [Is_e ez47, i7, e44]; rfl
        refine x_iadd B dX5_takeNumber_48 ?_
        refine x_bipush B dX5_takeNumber_49 rfl ?_
        refine x_isub B dX5_takeNumber_51 ?_
        refine x_sipush B dX5_takeNumber_52 rfl ?_
        refine x_irem B dX5_takeNumber_55 ⟨by omega, by omega⟩ (by omega) ⟨by omega, by omega⟩ (by omega) ?_
        refine x_put B (ci := 5) (k := 7) (lo := 0) (hi := 999) (ty := .int) dX5_takeNumber_56 rfl rfl rfl (by decide) inGX5 tyX5_ok nmX5 kw_133 rfl (by decide +kernel) (nar_i _) (fit_i _) rfl (by omega) (by omega) ?_
        refine x_aload_n B dX5_takeNumber_59 0 rfl rfl ?_
        refine x_dup B dX5_takeNumber_60 rfl ?_
        refine x_getI B (ci := 5) (k := 5) (lo := 0) (hi := 200) dX5_takeNumber_61 rfl rfl rfl (by decide) inGX5 kw_131 rfl (fun z61 ez61 lz61 uz61 => ?_)
        refine x_iconst B dX5_takeNumber_64 ?_
        have e61 : z61 = e := by rw [Is_e ez61, i7]; rfl
        refine x_iadd B dX5_takeNumber_65 ?_
        refine x_put B (ci := 5) (k := 5) (lo := 0) (hi := 200) (ty := .int) dX5_takeNumber_66 rfl rfl rfl (by decide) inGX5 tyX5_ok nmX5 kw_131 rfl (by decide +kernel) (nar_i _) (fit_i _) rfl (by omega) (by omega) ?_
        refine x_goto B (tgt := 5) dX5_takeNumber_69 (by decide) ?_
        exact ih5 (e + 1) ((v * 10 + z47 - 48) % 1000) (sto (sto M1 7 7 ((((z33 * 10) + z47) - 48) % 1000)) 7 5 (z61 + 1)) (⟨by omega, by omega, by omega, by omega, fun i h0 h1 => if h : i < e then i5 i h0 h else by rw [show i = e by omega, ← e24]; omega, by show _ = _; rw [nuF_s i1, ← Is_e i6, ← e47], by rw [i7, e33, e61, skM_7, skM_5]⟩) (by omega)
  exact L5 (M 7 5) 0 (sto M 7 7 0) (⟨by omega, by omega, by omega, by omega, fun i h0 h1 => by omega, by show _ = nuF _ _ _; rw [show (M 7 5 - M 7 5).toNat = 0 by omega]; rfl, by conv => lhs; rw [@skM_eta M]; rw [skM_7]⟩)
