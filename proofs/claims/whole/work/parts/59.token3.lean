/-- the head of the tape behind a token -/
def tkN (M : Mem) (t : Tk) (M' : Mem) : Prop := ∃ sp pl tk va wr wa : Int, M' = nkM M sp pl tk va wr wa ∧ (t.2.1 = 4 ∧ wr = 1 ∧ wa = t.1 ∨ ¬ t.2.1 = 4 ∧ wr = 0 ∧ wa = M 71 4 ∧ sp = t.2.2.2 ∧ pl = t.1 ∧ tk = t.2.1 ∧ va = t.2.2.1)
theorem nuF_k {B : Nat → Int} {s : Int} {k : Nat} : nuF B s (k + 1) = (nuF B s k * 10 + B (s + (k : Int)).toNat - 48) % 1000 := rfl
/-- the number so far, of at most two figures -/
def nvP (B : Nat → Int) (e f va : Int) : Prop := 0 ≤ va ∧ va ≤ 99 ∧ (f - e = 0 → va = 0) ∧ (f - e = 1 → va ≤ 9) ∧ (f - e ≤ 2 → va = nuF B e (f - e).toNat)
theorem nvP_0 {B : Nat → Int} {e : Int} : nvP B e e 0 := ⟨by omega, by omega, fun _ => rfl, fun _ => by omega, fun _ => by rw [show (e - e).toNat = 0 by omega]; rfl⟩
theorem nvP_s {B : Nat → Int} {e f va b : Int} (h : nvP B e f va) (he : e ≤ f) (h2 : f - e < 2) (hb : b = B f.toNat) (hf : fgP b) : nvP B e (f + 1) (10 * va + b - 48) := by
  obtain ⟨a1, a2, a3, a4, a5⟩ := h
  unfold fgP at hf
  refine ⟨by omega, by omega, fun h => by omega, fun h => by have := a3 (by omega); omega, fun h => ?_⟩
  rw [show (f + 1 - e).toNat = (f - e).toNat + 1 by omega, nuF_k, ← a5 (by omega), show e + (((f - e).toNat : Nat) : Int) = f by omega, ← hb]
  have : va ≤ 9 := by
    rcases (show f - e = 0 ∨ f - e = 1 by omega) with c | c
    · have := a3 c; omega
    · exact a4 c
  omega
theorem nvP_k {B : Nat → Int} {e f va : Int} (h : nvP B e f va) (h2 : ¬ f - e < 2) : nvP B e (f + 1) va := ⟨h.1, h.2.1, fun q => by omega, fun q => by omega, fun q => by omega⟩
abbrev rm_X8_next : Room := { frames := 2, cells := 0, slots := 0, locals := 46 }
theorem cs_X8_next : Cv yX8_next cX8_next 2 none 0 := ⟨kw_962, ⟨kw_961, kw_30⟩, kw_67, by decide, by decide, by decide +kernel⟩
set_option maxHeartbeats 4000000 in
set_option maxRecDepth 100000 in
theorem c_X8_next (l : Launch) (E : Ev) (M : Mem)   : Ct l yX8_next cX8_next 2 none rm_X8_next E M [.ref (E.1 (71))] (pV (fun M' => ¬ M 71 3 = 0 ∧ M' = M ∨ M 71 3 = 0 ∧ ∃ t : Tk, tkT (M 72) (M 71 1) (M 71 5) t ∧ tkN M t M')) := by
  refine Ct_of (lv := [(0, .ref (E.1 (71)))]) (by decide) ⟨rfl, rfl⟩ (Nat.le_of_ble_eq_true rfl) rfl (fun x _ B R => ?_)
  refine x_wf (fun hwf => ?_)
  obtain ⟨len, hlen⟩ : ∃ q : Int, Is q (M 71 1) := ⟨_, rfl⟩
  obtain ⟨s0, hs0⟩ : ∃ q : Int, Is q (M 71 5) := ⟨_, rfl⟩
  have l0 : 0 ≤ len ∧ len ≤ 200 := by rw [Is_e hlen]; exact hwf 71 1
  have l1 : 0 ≤ s0 ∧ s0 ≤ 200 := by rw [Is_e hs0]; exact hwf 71 5
  refine x_aload_n B dX8_next_0 0 rfl rfl ?_
  refine x_getI B (ci := 8) (k := 3) (lo := 0) (hi := 4) dX8_next_1 rfl rfl rfl (by decide) inGX8 kw_808 rfl (fun z1 ez1 lz1 uz1 => ?_)
  refine x_if_le B (tgt := 8) dX8_next_4 (by decide) ⟨by omega, by omega⟩ (fun c4 => ?_) (fun c4 => ?_)
  · show Vx x E M 8 [(0, .ref (E.1 (71)))] []
    have L8 : ∀ (e : Int) (N1 : Mem), (N1 = nkM M e (M 71 6) (M 71 7) (M 71 8) 0 (M 71 4) ∧ s0 ≤ e ∧ e ≤ 200 ∧ (s0 < e → e ≤ len) ∧ (∀ i : Int, s0 ≤ i → i < e → (fun c : Int => c = 32) (M 72 i.toNat))) → Vx x E N1 8 [(0, .ref (E.1 (71)))] [] := by
      refine lo2 _ _ (fun e N1 => (201 - e).toNat) ?_
      intro e N1 hI ih8
      obtain ⟨i1, i2, i3, i4, i5⟩ := hI
      refine x_aload_n B dX8_next_8 0 rfl rfl ?_
      refine x_aload_n B dX8_next_9 0 rfl rfl ?_
      refine x_getI B (ci := 8) (k := 5) (lo := 0) (hi := 200) dX8_next_10 rfl rfl rfl (by decide) inGX8 kw_810 rfl (fun z10 ez10 lz10 uz10 => ?_)
      have e10 : z10 = e := by rw [Is_e ez10, i1]; rfl
      refine x_callV B (st := []) (av := [.int (iI (z10))]) dX8_next_13 cs_X8_byteAt kw_963 ⟨rfl, rfl, Nat.le_of_ble_eq_true rfl, Nat.le_of_ble_eq_true rfl⟩ rfl rfl (Nat.le_of_ble_eq_true rfl) (rc_obj B (ci := 8) rfl rfl rfl) (c_X8_byteAt _ E _ z10 (by omega) (by omega)) (k_i (fun z13 Mq hz13 => ?_))
      obtain ⟨rfl, hz13⟩ := hz13
      have b13 := hz13.1
      rw [i1, nk_f (by decide), nk_o (by omega), ← Is_e hlen, e10] at b13
      unfold byP at b13
      refine x_bipush B dX8_next_16 rfl ?_
      refine x_icmp_ne B (tgt := 34) dX8_next_18 (by decide) ⟨by omega, by omega⟩ ⟨by omega, by omega⟩ (fun c18 => ?_) (fun c18 => ?_)
      · show Vx x E N1 34 [(0, .ref (E.1 (71)))] []
        have hsc : scE (fun c => c = 32) (M 72) len s0 e := ⟨i2, i4, i5, fun h => by have h1 := h.1; have h2 : M 72 e.toNat = 32 := h.2; omega⟩
        refine x_aload_n B dX8_next_34 0 rfl rfl ?_
        refine x_aload_n B dX8_next_35 0 rfl rfl ?_
        refine x_getI B (ci := 8) (k := 5) (lo := 0) (hi := 200) dX8_next_36 rfl rfl rfl (by decide) inGX8 kw_810 rfl (fun z36 ez36 lz36 uz36 => ?_)
        have e36 : z36 = e := by rw [Is_e ez36, i1]; rfl
        refine x_put B (ci := 8) (k := 6) (lo := 0) (hi := 200) (ty := .int) dX8_next_39 rfl rfl rfl (by decide) inGX8 tyX8_ok nmX8 kw_811 rfl (by decide +kernel) (nar_i _) (fit_i _) rfl (by omega) (by omega) ?_
        refine x_aload_n B dX8_next_42 0 rfl rfl ?_
        refine x_aload_n B dX8_next_43 0 rfl rfl ?_
        refine x_getI B (ci := 8) (k := 5) (lo := 0) (hi := 200) dX8_next_44 rfl rfl rfl (by decide) inGX8 kw_810 rfl (fun z44 ez44 lz44 uz44 => ?_)
        have e44 : z44 = e := by rw [Is_e ez44, sto_nj _ _ _ _ (by decide), i1]; rfl
        refine x_callV B (st := []) (av := [.int (iI (z44))]) dX8_next_47 cs_X8_byteAt kw_963 ⟨rfl, rfl, Nat.le_of_ble_eq_true rfl, Nat.le_of_ble_eq_true rfl⟩ rfl rfl (Nat.le_of_ble_eq_true rfl) (rc_obj B (ci := 8) rfl rfl rfl) (c_X8_byteAt _ E _ z44 (by omega) (by omega)) (k_i (fun z47 Mq hz47 => ?_))
        obtain ⟨rfl, hz47⟩ := hz47
        have b47 := hz47.1
        rw [sto_f _ _ _ _ (by decide), sto_nj _ _ _ _ (by decide), i1, nk_f (by decide), nk_o (by omega), ← Is_e hlen, e44] at b47
        unfold byP at b47
        refine x_istore_n B dX8_next_50 [1, 0] rfl (by decide) (lv' := [(0, .ref (E.1 (71))), (1, .int (iI (z47)))]) rfl ?_
        refine x_aload_n B dX8_next_51 0 rfl rfl ?_
        refine x_iconst B dX8_next_52 ?_
        refine x_put B (ci := 8) (k := 8) (lo := -4) (hi := 99) (ty := .int) dX8_next_53 rfl rfl rfl (by decide) inGX8 tyX8_ok nmX8 kw_813 rfl (by decide +kernel) (nar_i _) (fit_i _) rfl (by omega) (by omega) ?_
        have hN : (sto (sto N1 71 6 z36) 71 8 0) = nkM M e e (M 71 7) 0 0 (M 71 4) := by rw [i1, nk6, nk8, e36]
        rw [hN]
        refine x_iload_n B dX8_next_56 1 rfl rfl ?_
        refine x_bipush B dX8_next_57 rfl ?_
        refine x_icmp_ne B (tgt := 70) dX8_next_59 (by decide) ⟨by omega, by omega⟩ ⟨by omega, by omega⟩ (fun c59 => ?_) (fun c59 => ?_)
        · show Vx x E (nkM M e e (M 71 7) 0 0 (M 71 4)) 70 [(0, .ref (E.1 (71))), (1, .int (iI (z47)))] []
          refine x_iload_n B dX8_next_70 1 rfl rfl ?_
          refine x_i2l B dX8_next_71 ⟨by omega, by omega⟩ ?_
          refine x_ldc2 B (z := 97) dX8_next_72 kw_967 rfl ?_
          refine x_ldc2 B (z := 122) dX8_next_75 kw_968 rfl ?_
          refine x_callS B (st := []) (av := [.long (iL (z47)), .long (iL (97)), .long (iL (122))]) dX8_next_78 cs_X8_in kw_952 ⟨rfl, rfl, Nat.le_of_ble_eq_true rfl, Nat.le_of_ble_eq_true rfl⟩ rfl rfl (Nat.le_of_ble_eq_true rfl) (c_X8_in _ E _ z47 97 122 (by omega) (by omega) (by omega) (by omega) (by omega) (by omega)) (k_i (fun z78 Mq hz78 => ?_))
          obtain ⟨rfl, hz78⟩ := hz78
          refine x_if_eq B (tgt := 156) dX8_next_81 (by decide) ⟨by omega, by omega⟩ (fun c81 => ?_) (fun c81 => ?_)
          · show Vx x E (nkM M e e (M 71 7) 0 0 (M 71 4)) 156 [(0, .ref (E.1 (71))), (1, .int (iI (z47)))] []
            refine x_iload_n B dX8_next_156 1 rfl rfl ?_
            refine x_i2l B dX8_next_157 ⟨by omega, by omega⟩ ?_
            refine x_ldc2 B (z := 48) dX8_next_158 kw_977 rfl ?_
            refine x_ldc2 B (z := 57) dX8_next_161 kw_978 rfl ?_
            refine x_callS B (st := []) (av := [.long (iL (z47)), .long (iL (48)), .long (iL (57))]) dX8_next_164 cs_X8_in kw_952 ⟨rfl, rfl, Nat.le_of_ble_eq_true rfl, Nat.le_of_ble_eq_true rfl⟩ rfl rfl (Nat.le_of_ble_eq_true rfl) (c_X8_in _ E _ z47 48 57 (by omega) (by omega) (by omega) (by omega) (by omega) (by omega)) (k_i (fun z164 Mq hz164 => ?_))
            obtain ⟨rfl, hz164⟩ := hz164
            refine x_if_eq B (tgt := 273) dX8_next_167 (by decide) ⟨by omega, by omega⟩ (fun c167 => ?_) (fun c167 => ?_)
            · show Vx x E (nkM M e e (M 71 7) 0 0 (M 71 4)) 273 [(0, .ref (E.1 (71))), (1, .int (iI (z47)))] []
              refine x_aload_n B dX8_next_273 0 rfl rfl ?_
              refine x_iconst B dX8_next_274 ?_
              refine x_put B (ci := 8) (k := 7) (lo := 0) (hi := 3) (ty := .int) dX8_next_275 rfl rfl rfl (by decide) inGX8 tyX8_ok nmX8 kw_812 rfl (by decide +kernel) (nar_i _) (fit_i _) rfl (by omega) (by omega) ?_
              refine x_aload_n B dX8_next_278 0 rfl rfl ?_
              refine x_dup B dX8_next_279 rfl ?_
              refine x_getI B (ci := 8) (k := 5) (lo := 0) (hi := 200) dX8_next_280 rfl rfl rfl (by decide) inGX8 kw_810 rfl (fun z280 ez280 lz280 uz280 => ?_)
              have e280 : z280 = e := by rw [Is_e ez280, sto_nj _ _ _ _ (by decide)]; rfl
              refine x_iconst B dX8_next_283 ?_
              refine x_iadd B dX8_next_284 ?_
              refine x_put B (ci := 8) (k := 5) (lo := 0) (hi := 200) (ty := .int) dX8_next_285 rfl rfl rfl (by decide) inGX8 tyX8_ok nmX8 kw_810 rfl (by decide +kernel) (nar_i _) (fit_i _) rfl (by omega) (by omega) ?_
              have hN4 : (sto (sto (nkM M e e (M 71 7) 0 0 (M 71 4)) 71 7 3) 71 5 (z280 + 1)) = nkM M (e + 1) e 3 0 0 (M 71 4) := by rw [nk7, nk5, e280]
              rw [hN4]
              refine x_iload_n B dX8_next_288 1 rfl rfl ?_
              refine x_bipush B dX8_next_289 rfl ?_
              refine x_icmp_eq B (tgt := 299) dX8_next_291 (by decide) ⟨by omega, by omega⟩ ⟨by omega, by omega⟩ (fun c291 => ?_) (fun c291 => ?_)
              · show Vx x E (nkM M (e + 1) e 3 0 0 (M 71 4)) 299 [(0, .ref (E.1 (71))), (1, .int (iI (z47)))] []
                exact r_v B R dX8_next_299 (Or.inr ⟨by rw [← Is_e ez1]; omega, (e, 3, 0, e + 1), ⟨by rw [← Is_e hlen, ← Is_e hs0]; exact hsc, Or.inr ⟨by rw [← Is_e hlen]; show e < len; omega, Or.inr (Or.inr (Or.inl ⟨by show M 72 e.toNat = 59; omega, rfl⟩))⟩⟩, e + 1, e, 3, 0, 0, M 71 4, rfl, Or.inr ⟨by show ¬ (3 : Int) = 4; decide, rfl, rfl, rfl, rfl, rfl, rfl⟩⟩)
              · show Vx x E (nkM M (e + 1) e 3 0 0 (M 71 4)) 294 [(0, .ref (E.1 (71))), (1, .int (iI (z47)))] []
                refine x_aload_n B dX8_next_294 0 rfl rfl ?_
                refine x_iconst B dX8_next_295 ?_
                refine x_callV B (st := []) (av := [.int (iI (1))]) dX8_next_296 cs_X8_fails kw_973 ⟨rfl, rfl, Nat.le_of_ble_eq_true rfl, Nat.le_of_ble_eq_true rfl⟩ rfl rfl (Nat.le_of_ble_eq_true rfl) (rc_obj B (ci := 8) rfl rfl rfl) (c_X8_fails _ E _ 1 (by omega) (by omega)) (k_v (fun M296 hz296 => ?_))
                exact r_v B R dX8_next_299 (Or.inr ⟨by rw [← Is_e ez1]; omega, (e, 4, 0, 0), ⟨by rw [← Is_e hlen, ← Is_e hs0]; exact hsc, Or.inr ⟨by rw [← Is_e hlen]; show e < len; omega, Or.inr (Or.inr (Or.inr ⟨⟨by show ¬ ltP (M 72 e.toNat); unfold ltP; omega, by show ¬ fgP (M 72 e.toNat); unfold fgP; omega, by show ¬ M 72 e.toNat = 59; omega⟩, rfl⟩))⟩⟩, e + 1, e, 3, 0, 1, e, by rcases hz296 with h | h; (rw [h.2, nk_nk]; rfl); (exact absurd rfl h.1), Or.inl ⟨rfl, rfl, rfl⟩⟩)
            · show Vx x E (nkM M e e (M 71 7) 0 0 (M 71 4)) 170 [(0, .ref (E.1 (71))), (1, .int (iI (z47)))] []
              have L170 : ∀ (g : Int) (va : Int) (N3 : Mem), (N3 = nkM M g e (M 71 7) va 0 (M 71 4) ∧ e ≤ g ∧ g ≤ 200 ∧ (e < g → g ≤ len) ∧ (∀ i : Int, e ≤ i → i < g → fgP (M 72 i.toNat)) ∧ nvP (M 72) e g va) → Vx x E N3 170 [(0, .ref (E.1 (71))), (1, .int (iI (z47)))] [] := by
                refine lo3 _ _ (fun g va N3 => (201 - g).toNat) ?_
                intro g va N3 hI ih170
                obtain ⟨r1, r2, r3, r4, r5, r6⟩ := hI
                refine x_aload_n B dX8_next_170 0 rfl rfl ?_
                refine x_aload_n B dX8_next_171 0 rfl rfl ?_
                refine x_getI B (ci := 8) (k := 5) (lo := 0) (hi := 200) dX8_next_172 rfl rfl rfl (by decide) inGX8 kw_810 rfl (fun z172 ez172 lz172 uz172 => ?_)
                have e172 : z172 = g := by rw [Is_e ez172, r1]; rfl
                refine x_callV B (st := []) (av := [.int (iI (z172))]) dX8_next_175 cs_X8_byteAt kw_963 ⟨rfl, rfl, Nat.le_of_ble_eq_true rfl, Nat.le_of_ble_eq_true rfl⟩ rfl rfl (Nat.le_of_ble_eq_true rfl) (rc_obj B (ci := 8) rfl rfl rfl) (c_X8_byteAt _ E _ z172 (by omega) (by omega)) (k_i (fun z175 Mq hz175 => ?_))
                obtain ⟨rfl, hz175⟩ := hz175
                have b175 := hz175.1
                rw [r1, nk_f (by decide), nk_o (by omega), ← Is_e hlen, e172] at b175
                unfold byP at b175
                refine x_i2l B dX8_next_178 ⟨by omega, by omega⟩ ?_
                refine x_ldc2 B (z := 48) dX8_next_179 kw_977 rfl ?_
                refine x_ldc2 B (z := 57) dX8_next_182 kw_978 rfl ?_
                refine x_callS B (st := []) (av := [.long (iL (z175)), .long (iL (48)), .long (iL (57))]) dX8_next_185 cs_X8_in kw_952 ⟨rfl, rfl, Nat.le_of_ble_eq_true rfl, Nat.le_of_ble_eq_true rfl⟩ rfl rfl (Nat.le_of_ble_eq_true rfl) (c_X8_in _ E _ z175 48 57 (by omega) (by omega) (by omega) (by omega) (by omega) (by omega)) (k_i (fun z185 Mq hz185 => ?_))
                obtain ⟨rfl, hz185⟩ := hz185
                refine x_if_eq B (tgt := 247) dX8_next_188 (by decide) ⟨by omega, by omega⟩ (fun c188 => ?_) (fun c188 => ?_)
                · show Vx x E N3 247 [(0, .ref (E.1 (71))), (1, .int (iI (z47)))] []
                  have hf : scE fgP (M 72) len e g := ⟨r2, r4, r5, fun h => by have h1 := h.1; have h2 := h.2; unfold fgP at h2; omega⟩
                  refine x_aload_n B dX8_next_247 0 rfl rfl ?_
                  refine x_iconst B dX8_next_248 ?_
                  refine x_put B (ci := 8) (k := 7) (lo := 0) (hi := 3) (ty := .int) dX8_next_249 rfl rfl rfl (by decide) inGX8 tyX8_ok nmX8 kw_812 rfl (by decide +kernel) (nar_i _) (fit_i _) rfl (by omega) (by omega) ?_
                  have hN3 : (sto N3 71 7 2) = nkM M g e 2 va 0 (M 71 4) := by rw [r1, nk7]
                  rw [hN3]
                  refine x_aload_n B dX8_next_252 0 rfl rfl ?_
                  refine x_getI B (ci := 8) (k := 5) (lo := 0) (hi := 200) dX8_next_253 rfl rfl rfl (by decide) inGX8 kw_810 rfl (fun z253 ez253 lz253 uz253 => ?_)
                  have e253 : z253 = g := by rw [Is_e ez253]; rfl
                  refine x_aload_n B dX8_next_256 0 rfl rfl ?_
                  refine x_getI B (ci := 8) (k := 6) (lo := 0) (hi := 200) dX8_next_257 rfl rfl rfl (by decide) inGX8 kw_811 rfl (fun z257 ez257 lz257 uz257 => ?_)
                  have e257 : z257 = e := by rw [Is_e ez257]; rfl
                  refine x_isub B dX8_next_260 ?_
                  refine x_iconst B dX8_next_261 ?_
                  refine x_icmp_le B (tgt := 299) dX8_next_262 (by decide) ⟨by omega, by omega⟩ ⟨by omega, by omega⟩ (fun c262 => ?_) (fun c262 => ?_)
                  · show Vx x E (nkM M g e 2 va 0 (M 71 4)) 299 [(0, .ref (E.1 (71))), (1, .int (iI (z47)))] []
                    exact r_v B R dX8_next_299 (Or.inr ⟨by rw [← Is_e ez1]; omega, (e, 2, va, g), ⟨by rw [← Is_e hlen, ← Is_e hs0]; exact hsc, Or.inr ⟨by rw [← Is_e hlen]; show e < len; omega, Or.inr (Or.inl ⟨g, by show fgP (M 72 e.toNat); unfold fgP; omega, by rw [← Is_e hlen]; exact hf, by rw [if_neg (by show ¬ 2 < g - e; omega), ← r6.2.2.2.2 (by omega)]⟩)⟩⟩, g, e, 2, va, 0, M 71 4, rfl, Or.inr ⟨by show ¬ (2 : Int) = 4; decide, rfl, rfl, rfl, rfl, rfl, rfl⟩⟩)
                  · show Vx x E (nkM M g e 2 va 0 (M 71 4)) 265 [(0, .ref (E.1 (71))), (1, .int (iI (z47)))] []
                    refine x_aload_n B dX8_next_265 0 rfl rfl ?_
                    refine x_iconst B dX8_next_266 ?_
                    refine x_callV B (st := []) (av := [.int (iI (1))]) dX8_next_267 cs_X8_fails kw_973 ⟨rfl, rfl, Nat.le_of_ble_eq_true rfl, Nat.le_of_ble_eq_true rfl⟩ rfl rfl (Nat.le_of_ble_eq_true rfl) (rc_obj B (ci := 8) rfl rfl rfl) (c_X8_fails _ E _ 1 (by omega) (by omega)) (k_v (fun M267 hz267 => ?_))
                    refine x_goto B (tgt := 299) dX8_next_270 (by decide) ?_
                    exact r_v B R dX8_next_299 (Or.inr ⟨by rw [← Is_e ez1]; omega, (e, 4, 0, 0), ⟨by rw [← Is_e hlen, ← Is_e hs0]; exact hsc, Or.inr ⟨by rw [← Is_e hlen]; show e < len; omega, Or.inr (Or.inl ⟨g, by show fgP (M 72 e.toNat); unfold fgP; omega, by rw [← Is_e hlen]; exact hf, by rw [if_pos (by show 2 < g - e; omega)]⟩)⟩⟩, g, e, 2, va, 1, e, by rcases hz267 with h | h; (rw [h.2, nk_nk]; rfl); (exact absurd rfl h.1), Or.inl ⟨rfl, rfl, rfl⟩⟩)
                · show Vx x E N3 191 [(0, .ref (E.1 (71))), (1, .int (iI (z47)))] []
                  refine x_aload_n B dX8_next_191 0 rfl rfl ?_
                  refine x_aload_n B dX8_next_192 0 rfl rfl ?_
                  refine x_getI B (ci := 8) (k := 5) (lo := 0) (hi := 200) dX8_next_193 rfl rfl rfl (by decide) inGX8 kw_810 rfl (fun z193 ez193 lz193 uz193 => ?_)
                  have e193 : z193 = g := by rw [Is_e ez193, r1]; rfl
                  refine x_aload_n B dX8_next_196 0 rfl rfl ?_
                  refine x_getI B (ci := 8) (k := 6) (lo := 0) (hi := 200) dX8_next_197 rfl rfl rfl (by decide) inGX8 kw_811 rfl (fun z197 ez197 lz197 uz197 => ?_)
                  have e197 : z197 = e := by rw [Is_e ez197, r1]; rfl
                  refine x_isub B dX8_next_200 ?_
                  refine x_iconst B dX8_next_201 ?_
                  have J231 : ∀ (j : Int), (nvP (M 72) e (g + 1) j ∧ 0 ≤ j ∧ j ≤ 99) → Vx x E N3 231 [(0, .ref (E.1 (71))), (1, .int (iI (z47)))] [.int (iI (j)), .ref (E.1 (71))] := by
                    intro j hJ
                    obtain ⟨j1, j2, j3⟩ := hJ
                    have e228x : True := trivial
                    refine x_put B (ci := 8) (k := 8) (lo := -4) (hi := 99) (ty := .int) dX8_next_231 rfl rfl rfl (by decide) inGX8 tyX8_ok nmX8 kw_813 rfl (by decide +kernel) (nar_i _) (fit_i _) rfl (by omega) (by omega) ?_
                    refine x_aload_n B dX8_next_234 0 rfl rfl ?_
                    refine x_dup B dX8_next_235 rfl ?_
                    refine x_getI B (ci := 8) (k := 5) (lo := 0) (hi := 200) dX8_next_236 rfl rfl rfl (by decide) inGX8 kw_810 rfl (fun z236 ez236 lz236 uz236 => ?_)
                    have e236 : z236 = g := by rw [Is_e ez236, sto_nj _ _ _ _ (by decide), r1]; rfl
                    refine x_iconst B dX8_next_239 ?_
                    refine x_iadd B dX8_next_240 ?_
                    refine x_put B (ci := 8) (k := 5) (lo := 0) (hi := 200) (ty := .int) dX8_next_241 rfl rfl rfl (by decide) inGX8 tyX8_ok nmX8 kw_810 rfl (by decide +kernel) (nar_i _) (fit_i _) rfl (by omega) (by omega) ?_
                    refine x_goto B (tgt := 170) dX8_next_244 (by decide) ?_
                    exact ih170 (g + 1) j (sto (sto N3 71 8 j) 71 5 (z236 + 1)) (⟨by rw [r1, nk8, nk5, e236], by omega, by omega, fun _ => by omega, fun i a b => by rcases (show i < g ∨ i = g by omega) with h7 | h7; (exact r5 i a h7); (rw [h7]; unfold fgP; omega), j1⟩) (by omega)
                  refine x_icmp_ge B (tgt := 227) dX8_next_202 (by decide) ⟨by omega, by omega⟩ ⟨by omega, by omega⟩ (fun c202 => ?_) (fun c202 => ?_)
                  · show Vx x E N3 227 [(0, .ref (E.1 (71))), (1, .int (iI (z47)))] [.ref (E.1 (71))]
                    refine x_aload_n B dX8_next_227 0 rfl rfl ?_
                    have q228 : True := trivial
                    refine x_getI B (ci := 8) (k := 8) (lo := -4) (hi := 99) dX8_next_228 rfl rfl rfl (by decide) inGX8 kw_813 rfl (fun z228 ez228 lz228 uz228 => ?_)
                    exact J231 z228 (by have h := nvP_k r6 (by omega); have e228 : z228 = va := by {rw [Is_e ez228, r1]; rfl}; rw [e228]; exact ⟨h, h.1, h.2.1⟩)
                  · show Vx x E N3 205 [(0, .ref (E.1 (71))), (1, .int (iI (z47)))] [.ref (E.1 (71))]
                    refine x_bipush B dX8_next_205 rfl ?_
                    refine x_aload_n B dX8_next_207 0 rfl rfl ?_
                    refine x_getI B (ci := 8) (k := 8) (lo := -4) (hi := 99) dX8_next_208 rfl rfl rfl (by decide) inGX8 kw_813 rfl (fun z208 ez208 lz208 uz208 => ?_)
                    have e208 : z208 = va := by rw [Is_e ez208, r1]; rfl
                    have hva := r6.1
                    have hva2 := r6.2.1
                    refine x_imul B dX8_next_211 ?_
                    refine x_aload_n B dX8_next_212 0 rfl rfl ?_
                    refine x_aload_n B dX8_next_213 0 rfl rfl ?_
                    refine x_getI B (ci := 8) (k := 5) (lo := 0) (hi := 200) dX8_next_214 rfl rfl rfl (by decide) inGX8 kw_810 rfl (fun z214 ez214 lz214 uz214 => ?_)
                    have e214 : z214 = g := by rw [Is_e ez214, r1]; rfl
                    refine x_callV B (st := [.int (iI (10 * z208)), .ref (E.1 (71))]) (av := [.int (iI (z214))]) dX8_next_217 cs_X8_byteAt kw_963 ⟨rfl, rfl, Nat.le_of_ble_eq_true rfl, Nat.le_of_ble_eq_true rfl⟩ rfl rfl (Nat.le_of_ble_eq_true rfl) (rc_obj B (ci := 8) rfl rfl rfl) (c_X8_byteAt _ E _ z214 (by omega) (by omega)) (k_i (fun z217 Mq hz217 => ?_))
                    obtain ⟨rfl, hz217⟩ := hz217
                    have b217 := hz217.1
                    rw [r1, nk_f (by decide), nk_o (by omega), ← Is_e hlen, e214] at b217
                    unfold byP at b217
                    refine x_iadd B dX8_next_220 ?_
                    refine x_bipush B dX8_next_221 rfl ?_
                    refine x_isub B dX8_next_223 ?_
                    refine x_goto B (tgt := 231) dX8_next_224 (by decide) ?_
                    exact J231 (((10 * z208) + z217) - 48) (by have h := nvP_s (b := z217) r6 r2 (by omega) (by omega) (by unfold fgP; omega); rw [e208]; exact ⟨h, h.1, h.2.1⟩)
              exact L170 e 0 (nkM M e e (M 71 7) 0 0 (M 71 4)) (⟨rfl, by omega, by omega, fun h => by omega, fun i a b => by omega, nvP_0⟩)
          · show Vx x E (nkM M e e (M 71 7) 0 0 (M 71 4)) 84 [(0, .ref (E.1 (71))), (1, .int (iI (z47)))] []
            have L84 : ∀ (f : Int) (N2 : Mem), (N2 = nkM M f e (M 71 7) 0 0 (M 71 4) ∧ e ≤ f ∧ f ≤ 200 ∧ (e < f → f ≤ len) ∧ (∀ i : Int, e ≤ i → i < f → ltP (M 72 i.toNat))) → Vx x E N2 84 [(0, .ref (E.1 (71))), (1, .int (iI (z47)))] [] := by
              refine lo2 _ _ (fun f N2 => (201 - f).toNat) ?_
              intro f N2 hI ih84
              obtain ⟨n1, n2, n3, n4, n5⟩ := hI
              refine x_aload_n B dX8_next_84 0 rfl rfl ?_
              refine x_aload_n B dX8_next_85 0 rfl rfl ?_
              refine x_getI B (ci := 8) (k := 5) (lo := 0) (hi := 200) dX8_next_86 rfl rfl rfl (by decide) inGX8 kw_810 rfl (fun z86 ez86 lz86 uz86 => ?_)
              have e86 : z86 = f := by rw [Is_e ez86, n1]; rfl
              refine x_callV B (st := []) (av := [.int (iI (z86))]) dX8_next_89 cs_X8_byteAt kw_963 ⟨rfl, rfl, Nat.le_of_ble_eq_true rfl, Nat.le_of_ble_eq_true rfl⟩ rfl rfl (Nat.le_of_ble_eq_true rfl) (rc_obj B (ci := 8) rfl rfl rfl) (c_X8_byteAt _ E _ z86 (by omega) (by omega)) (k_i (fun z89 Mq hz89 => ?_))
              obtain ⟨rfl, hz89⟩ := hz89
              have b89 := hz89.1
              rw [n1, nk_f (by decide), nk_o (by omega), ← Is_e hlen, e86] at b89
              unfold byP at b89
              refine x_i2l B dX8_next_92 ⟨by omega, by omega⟩ ?_
              refine x_ldc2 B (z := 97) dX8_next_93 kw_967 rfl ?_
              refine x_ldc2 B (z := 122) dX8_next_96 kw_968 rfl ?_
              refine x_callS B (st := []) (av := [.long (iL (z89)), .long (iL (97)), .long (iL (122))]) dX8_next_99 cs_X8_in kw_952 ⟨rfl, rfl, Nat.le_of_ble_eq_true rfl, Nat.le_of_ble_eq_true rfl⟩ rfl rfl (Nat.le_of_ble_eq_true rfl) (c_X8_in _ E _ z89 97 122 (by omega) (by omega) (by omega) (by omega) (by omega) (by omega)) (k_i (fun z99 Mq hz99 => ?_))
              obtain ⟨rfl, hz99⟩ := hz99
              refine x_if_eq B (tgt := 118) dX8_next_102 (by decide) ⟨by omega, by omega⟩ (fun c102 => ?_) (fun c102 => ?_)
              · show Vx x E N2 118 [(0, .ref (E.1 (71))), (1, .int (iI (z47)))] []
                have hl : scE ltP (M 72) len e f := ⟨n2, n4, n5, fun h => by have h1 := h.1; have h2 := h.2; unfold ltP at h2; omega⟩
                refine x_aload_n B dX8_next_118 0 rfl rfl ?_
                refine x_iconst B dX8_next_119 ?_
                refine x_put B (ci := 8) (k := 7) (lo := 0) (hi := 3) (ty := .int) dX8_next_120 rfl rfl rfl (by decide) inGX8 tyX8_ok nmX8 kw_812 rfl (by decide +kernel) (nar_i _) (fit_i _) rfl (by omega) (by omega) ?_
                refine x_aload_n B dX8_next_123 0 rfl rfl ?_
                refine x_aload_n B dX8_next_124 0 rfl rfl ?_
                refine x_aload_n B dX8_next_125 0 rfl rfl ?_
                refine x_getI B (ci := 8) (k := 6) (lo := 0) (hi := 200) dX8_next_126 rfl rfl rfl (by decide) inGX8 kw_811 rfl (fun z126 ez126 lz126 uz126 => ?_)
                have e126 : z126 = e := by rw [Is_e ez126, sto_nj _ _ _ _ (by decide), n1]; rfl
                refine x_aload_n B dX8_next_129 0 rfl rfl ?_
                refine x_getI B (ci := 8) (k := 5) (lo := 0) (hi := 200) dX8_next_130 rfl rfl rfl (by decide) inGX8 kw_810 rfl (fun z130 ez130 lz130 uz130 => ?_)
                have e130 : z130 = f := by rw [Is_e ez130, sto_nj _ _ _ _ (by decide), n1]; rfl
                have hef : f ≤ len := by rcases (show e < f ∨ e = f by omega) with h7 | h7; (exact n4 h7); (omega)
                refine x_callV B (st := [.ref (E.1 (71))]) (av := [.int (iI (z126)), .int (iI (z130))]) dX8_next_133 cs_X8_nameAt kw_969 ⟨rfl, rfl, Nat.le_of_ble_eq_true rfl, Nat.le_of_ble_eq_true rfl⟩ rfl rfl (Nat.le_of_ble_eq_true rfl) (rc_obj B (ci := 8) rfl rfl rfl) (c_X8_nameAt _ E _ z126 z130 (by omega) (by omega) (by omega) (by rw [sto_nj _ _ _ _ (by decide), n1, nk_o (by omega), ← Is_e hlen]; omega)) (k_i (fun z133 Mq hz133 => ?_))
                obtain ⟨rfl, hz133⟩ := hz133
                have hw133 := hz133
                rw [sto_f _ _ _ _ (by decide), n1, nk_f (by decide), e126, e130] at hw133
                refine x_put B (ci := 8) (k := 8) (lo := -4) (hi := 99) (ty := .int) dX8_next_136 rfl rfl rfl (by decide) inGX8 tyX8_ok nmX8 kw_813 rfl (by decide +kernel) (nar_i _) (fit_i _) rfl (by omega) (by omega) ?_
                have hN2 : (sto (sto N2 71 7 1) 71 8 z133) = nkM M f e 1 z133 0 (M 71 4) := by rw [n1, nk7, nk8]
                rw [hN2]
                refine x_aload_n B dX8_next_139 0 rfl rfl ?_
                refine x_getI B (ci := 8) (k := 8) (lo := -4) (hi := 99) dX8_next_140 rfl rfl rfl (by decide) inGX8 kw_813 rfl (fun z140 ez140 lz140 uz140 => ?_)
                have e140 : z140 = z133 := by rw [Is_e ez140]; rfl
                refine x_bipush B dX8_next_143 rfl ?_
                refine x_icmp_ne B (tgt := 299) dX8_next_145 (by decide) ⟨by omega, by omega⟩ ⟨by omega, by omega⟩ (fun c145 => ?_) (fun c145 => ?_)
                · show Vx x E (nkM M f e 1 z133 0 (M 71 4)) 299 [(0, .ref (E.1 (71))), (1, .int (iI (z47)))] []
                  exact r_v B R dX8_next_299 (Or.inr ⟨by rw [← Is_e ez1]; omega, (e, 1, z133, f), ⟨by rw [← Is_e hlen, ← Is_e hs0]; exact hsc, Or.inr ⟨by rw [← Is_e hlen]; show e < len; omega, Or.inl ⟨f, z133, by show ltP (M 72 e.toNat); unfold ltP; omega, by rw [← Is_e hlen]; exact hl, by rcases hw133 with h | h; (exact h.2.2); (omega), by rw [if_neg (by omega)]⟩⟩⟩, f, e, 1, z133, 0, M 71 4, rfl, Or.inr ⟨by show ¬ (1 : Int) = 4; decide, rfl, rfl, rfl, rfl, rfl, rfl⟩⟩)
                · show Vx x E (nkM M f e 1 z133 0 (M 71 4)) 148 [(0, .ref (E.1 (71))), (1, .int (iI (z47)))] []
                  refine x_aload_n B dX8_next_148 0 rfl rfl ?_
                  refine x_iconst B dX8_next_149 ?_
                  refine x_callV B (st := []) (av := [.int (iI (1))]) dX8_next_150 cs_X8_fails kw_973 ⟨rfl, rfl, Nat.le_of_ble_eq_true rfl, Nat.le_of_ble_eq_true rfl⟩ rfl rfl (Nat.le_of_ble_eq_true rfl) (rc_obj B (ci := 8) rfl rfl rfl) (c_X8_fails _ E _ 1 (by omega) (by omega)) (k_v (fun M150 hz150 => ?_))
                  refine x_goto B (tgt := 299) dX8_next_153 (by decide) ?_
                  exact r_v B R dX8_next_299 (Or.inr ⟨by rw [← Is_e ez1]; omega, (e, 4, 0, 0), ⟨by rw [← Is_e hlen, ← Is_e hs0]; exact hsc, Or.inr ⟨by rw [← Is_e hlen]; show e < len; omega, Or.inl ⟨f, 16, by show ltP (M 72 e.toNat); unfold ltP; omega, by rw [← Is_e hlen]; exact hl, by rcases hw133 with h | h; (omega); (exact h.2), by rw [if_pos (by omega)]⟩⟩⟩, f, e, 1, z133, 1, e, by rcases hz150 with h | h; (rw [h.2, nk_nk]; rfl); (exact absurd rfl h.1), Or.inl ⟨rfl, rfl, rfl⟩⟩)
              · show Vx x E N2 105 [(0, .ref (E.1 (71))), (1, .int (iI (z47)))] []
                refine x_aload_n B dX8_next_105 0 rfl rfl ?_
                refine x_dup B dX8_next_106 rfl ?_
                refine x_getI B (ci := 8) (k := 5) (lo := 0) (hi := 200) dX8_next_107 rfl rfl rfl (by decide) inGX8 kw_810 rfl (fun z107 ez107 lz107 uz107 => ?_)
                have e107 : z107 = f := by rw [Is_e ez107, n1]; rfl
                refine x_iconst B dX8_next_110 ?_
                refine x_iadd B dX8_next_111 ?_
                refine x_put B (ci := 8) (k := 5) (lo := 0) (hi := 200) (ty := .int) dX8_next_112 rfl rfl rfl (by decide) inGX8 tyX8_ok nmX8 kw_810 rfl (by decide +kernel) (nar_i _) (fit_i _) rfl (by omega) (by omega) ?_
                refine x_goto B (tgt := 84) dX8_next_115 (by decide) ?_
                exact ih84 (f + 1) (sto N2 71 5 (z107 + 1)) (⟨by rw [n1, nk5, e107], by omega, by omega, fun _ => by omega, fun i a b => by rcases (show i < f ∨ i = f by omega) with h7 | h7; (exact n5 i a h7); (rw [h7]; unfold ltP; omega)⟩) (by omega)
            exact L84 e (nkM M e e (M 71 7) 0 0 (M 71 4)) (⟨rfl, by omega, by omega, fun h => by omega, fun i a b => by omega⟩)
        · show Vx x E (nkM M e e (M 71 7) 0 0 (M 71 4)) 62 [(0, .ref (E.1 (71))), (1, .int (iI (z47)))] []
          refine x_aload_n B dX8_next_62 0 rfl rfl ?_
          refine x_iconst B dX8_next_63 ?_
          refine x_put B (ci := 8) (k := 7) (lo := 0) (hi := 3) (ty := .int) dX8_next_64 rfl rfl rfl (by decide) inGX8 tyX8_ok nmX8 kw_812 rfl (by decide +kernel) (nar_i _) (fit_i _) rfl (by omega) (by omega) ?_
          refine x_goto B (tgt := 299) dX8_next_67 (by decide) ?_
          exact r_v B R dX8_next_299 (Or.inr ⟨by rw [← Is_e ez1]; omega, (e, 0, 0, e), ⟨by rw [← Is_e hlen, ← Is_e hs0]; exact hsc, Or.inl ⟨by rw [← Is_e hlen]; show len ≤ e; omega, rfl⟩⟩, e, e, 0, 0, 0, M 71 4, nk7, Or.inr ⟨by show ¬ (0 : Int) = 4; decide, rfl, rfl, rfl, rfl, rfl, rfl⟩⟩)
      · show Vx x E N1 21 [(0, .ref (E.1 (71)))] []
        refine x_aload_n B dX8_next_21 0 rfl rfl ?_
        refine x_dup B dX8_next_22 rfl ?_
        refine x_getI B (ci := 8) (k := 5) (lo := 0) (hi := 200) dX8_next_23 rfl rfl rfl (by decide) inGX8 kw_810 rfl (fun z23 ez23 lz23 uz23 => ?_)
        have e23 : z23 = e := by rw [Is_e ez23, i1]; rfl
        refine x_iconst B dX8_next_26 ?_
        refine x_iadd B dX8_next_27 ?_
        refine x_put B (ci := 8) (k := 5) (lo := 0) (hi := 200) (ty := .int) dX8_next_28 rfl rfl rfl (by decide) inGX8 tyX8_ok nmX8 kw_810 rfl (by decide +kernel) (nar_i _) (fit_i _) rfl (by omega) (by omega) ?_
        refine x_goto B (tgt := 8) dX8_next_31 (by decide) ?_
        exact ih8 (e + 1) (sto N1 71 5 (z23 + 1)) (⟨by rw [i1, nk5, e23], by omega, by omega, fun _ => by omega, fun i a b => by rcases (show i < e ∨ i = e by omega) with h7 | h7; (exact i5 i a h7); (rw [h7]; show _ = (32 : Int); omega)⟩) (by omega)
    exact L8 s0 M (⟨nk_id (Is_e hs0) rfl rfl rfl (by rw [← Is_e ez1]; omega) rfl, by omega, by omega, fun h => by omega, fun i a b => by omega⟩)
  · show Vx x E M 7 [(0, .ref (E.1 (71)))] []
    exact r_v B R dX8_next_7 (Or.inl ⟨by rw [← Is_e ez1]; omega, rfl⟩)
/-- a NUMBER asked for of the token that stands there -/
def nuR (M : Mem) (lo hi : Int) (M' : Mem) (z : Int) : Prop := ¬ M 71 3 = 0 ∧ M' = M ∧ z = lo ∨ M 71 3 = 0 ∧ (¬ M 71 7 = 2 ∧ M' = nkM M (M 71 5) (M 71 6) (M 71 7) (M 71 8) 2 (M 71 6) ∧ z = lo ∨ M 71 7 = 2 ∧ ¬ (lo ≤ M 71 8 ∧ M 71 8 ≤ hi) ∧ M' = nkM M (M 71 5) (M 71 6) (M 71 7) (M 71 8) 3 (M 71 6) ∧ z = lo ∨ M 71 7 = 2 ∧ (lo ≤ M 71 8 ∧ M 71 8 ≤ hi) ∧ M' = M ∧ z = M 71 8)
def nuQ (M : Mem) (lo hi : Int) (M' : Mem) : Prop := ¬ M 71 3 = 0 ∧ M' = M ∨ M 71 3 = 0 ∧ (¬ M 71 7 = 2 ∧ M' = nkM M (M 71 5) (M 71 6) (M 71 7) (M 71 8) 2 (M 71 6) ∨ M 71 7 = 2 ∧ ¬ (lo ≤ M 71 8 ∧ M 71 8 ≤ hi) ∧ M' = nkM M (M 71 5) (M 71 6) (M 71 7) (M 71 8) 3 (M 71 6) ∨ M 71 7 = 2 ∧ (lo ≤ M 71 8 ∧ M 71 8 ≤ hi) ∧ M' = M)
abbrev rm_X8_number : Room := { frames := 1, cells := 0, slots := 0, locals := 25 }
theorem cs_X8_number : Cv yX8_number cX8_number 3 (some .int) 2 := ⟨kw_990, ⟨kw_989, kw_36⟩, kw_67, by decide, by decide, by decide +kernel⟩
set_option maxHeartbeats 4000000 in
set_option maxRecDepth 100000 in
theorem c_X8_number (l : Launch) (E : Ev) (M : Mem) (lo hi : Int) (g1 : -4 ≤ lo) (g2 : lo ≤ 99) (g3 : -4 ≤ hi) (g4 : hi ≤ 99) : Ct l yX8_number cX8_number 3 (some .int) rm_X8_number E M [.ref (E.1 (71)), .int (iI (lo)), .int (iI (hi))] (pI (fun z M' => nuR M lo hi M' z ∧ (z = lo ∨ lo ≤ z ∧ z ≤ hi))) := by
  refine Ct_of (lv := [(0, .ref (E.1 (71))), (1, .int (iI (lo))), (2, .int (iI (hi)))]) (by decide) ⟨rfl, rfl⟩ (Nat.le_of_ble_eq_true rfl) rfl (fun x _ B R => ?_)
  refine x_aload_n B dX8_number_0 0 rfl rfl ?_
  refine x_getI B (ci := 8) (k := 3) (lo := 0) (hi := 4) dX8_number_1 rfl rfl rfl (by decide) inGX8 kw_808 rfl (fun z1 ez1 lz1 uz1 => ?_)
  have J20 : ∀ (N1 : Mem), (¬ z1 = 0 ∧ N1 = M ∨ z1 = 0 ∧ (M 71 7 = 2 ∧ N1 = M ∨ ¬ M 71 7 = 2 ∧ N1 = nkM M (M 71 5) (M 71 6) (M 71 7) (M 71 8) 2 (M 71 6))) → Vx x E N1 20 [(0, .ref (E.1 (71))), (1, .int (iI (lo))), (2, .int (iI (hi)))] [] := by
    intro N1 hJ
    obtain hJ := hJ
    refine x_aload_n B dX8_number_20 0 rfl rfl ?_
    refine x_getI B (ci := 8) (k := 3) (lo := 0) (hi := 4) dX8_number_21 rfl rfl rfl (by decide) inGX8 kw_808 rfl (fun z21 ez21 lz21 uz21 => ?_)
    have J47 : ∀ (N2 : Mem), (nuQ M lo hi N2) → Vx x E N2 47 [(0, .ref (E.1 (71))), (1, .int (iI (lo))), (2, .int (iI (hi)))] [] := by
      intro N2 hJ
      obtain hQ := hJ
      refine x_aload_n B dX8_number_47 0 rfl rfl ?_
      refine x_getI B (ci := 8) (k := 3) (lo := 0) (hi := 4) dX8_number_48 rfl rfl rfl (by decide) inGX8 kw_808 rfl (fun z48 ez48 lz48 uz48 => ?_)
      refine x_if_ne B (tgt := 61) dX8_number_51 (by decide) ⟨by omega, by omega⟩ (fun c51 => ?_) (fun c51 => ?_)
      · show Vx x E N2 61 [(0, .ref (E.1 (71))), (1, .int (iI (lo))), (2, .int (iI (hi)))] []
        refine x_iload_n B dX8_number_61 1 rfl rfl ?_
        exact r_i B R dX8_number_62 (by have e48 := Is_e ez48; rcases hJ with ⟨a, b⟩ | ⟨a, b⟩; (exact ⟨Or.inl ⟨a, b, rfl⟩, Or.inl rfl⟩); (rcases b with ⟨b1, b2⟩ | ⟨b1, b3, b2⟩ | ⟨b1, b3, b2⟩; (exact ⟨Or.inr ⟨a, Or.inl ⟨b1, b2, rfl⟩⟩, Or.inl rfl⟩); (exact ⟨Or.inr ⟨a, Or.inr (Or.inl ⟨b1, b3, b2, rfl⟩)⟩, Or.inl rfl⟩); (rw [b2] at e48; exact absurd (e48.trans a) c51)))
      · show Vx x E N2 54 [(0, .ref (E.1 (71))), (1, .int (iI (lo))), (2, .int (iI (hi)))] []
        refine x_aload_n B dX8_number_54 0 rfl rfl ?_
        refine x_getI B (ci := 8) (k := 8) (lo := -4) (hi := 99) dX8_number_55 rfl rfl rfl (by decide) inGX8 kw_813 rfl (fun z55 ez55 lz55 uz55 => ?_)
        refine x_goto B (tgt := 62) dX8_number_58 (by decide) ?_
        exact r_i B R dX8_number_62 (by have e48 := Is_e ez48; have e55 := Is_e ez55; rcases hJ with ⟨a, b⟩ | ⟨a, b⟩; (rw [b] at e48; exact absurd (e48.symm.trans c51) a); (rcases b with ⟨b1, b2⟩ | ⟨b1, b3, b2⟩ | ⟨b1, b3, b2⟩; (rw [b2] at e48; exact absurd (e48.symm.trans c51) (by show ¬ (2 : Int) = 0; decide)); (rw [b2] at e48; exact absurd (e48.symm.trans c51) (by show ¬ (3 : Int) = 0; decide)); (rw [b2] at e55; exact ⟨Or.inr ⟨a, Or.inr (Or.inr ⟨b1, b3, b2, e55⟩)⟩, Or.inr (by rw [e55]; exact b3)⟩)))
    refine x_if_ne B (tgt := 47) dX8_number_24 (by decide) ⟨by omega, by omega⟩ (fun c24 => ?_) (fun c24 => ?_)
    · show Vx x E N1 47 [(0, .ref (E.1 (71))), (1, .int (iI (lo))), (2, .int (iI (hi)))] []
      exact J47 N1 (by have e21 := Is_e ez21; rcases hJ with ⟨a, b⟩ | ⟨a, b⟩; (exact Or.inl ⟨by rw [← Is_e ez1]; exact a, b⟩); (rcases b with ⟨b1, b2⟩ | ⟨b1, b2⟩; (rw [b2, ← Is_e ez1] at e21; exact absurd (e21.trans a) c24); (exact Or.inr ⟨by rw [← Is_e ez1]; exact a, Or.inl ⟨b1, b2⟩⟩)))
    · show Vx x E N1 27 [(0, .ref (E.1 (71))), (1, .int (iI (lo))), (2, .int (iI (hi)))] []
      have hJ2 : M 71 3 = 0 ∧ M 71 7 = 2 ∧ N1 = M := by
        have e21 := Is_e ez21
        rcases hJ with ⟨a, b⟩ | ⟨a, b⟩
        · rw [b, ← Is_e ez1] at e21
          exact absurd (e21.symm.trans c24) a
        · rcases b with ⟨b1, b2⟩ | ⟨b1, b2⟩
          · exact ⟨by rw [← Is_e ez1]; exact a, b1, b2⟩
          · rw [b2] at e21
            exact absurd (e21.symm.trans c24) (by show ¬ (2 : Int) = 0; decide)
      refine x_aload_n B dX8_number_27 0 rfl rfl ?_
      refine x_getI B (ci := 8) (k := 8) (lo := -4) (hi := 99) dX8_number_28 rfl rfl rfl (by decide) inGX8 kw_813 rfl (fun z28 ez28 lz28 uz28 => ?_)
      refine x_i2l B dX8_number_31 ⟨by omega, by omega⟩ ?_
      refine x_iload_n B dX8_number_32 1 rfl rfl ?_
      refine x_i2l B dX8_number_33 ⟨by omega, by omega⟩ ?_
      refine x_iload_n B dX8_number_34 2 rfl rfl ?_
      refine x_i2l B dX8_number_35 ⟨by omega, by omega⟩ ?_
      refine x_callS B (st := []) (av := [.long (iL (z28)), .long (iL (lo)), .long (iL (hi))]) dX8_number_36 cs_X8_in kw_952 ⟨rfl, rfl, Nat.le_of_ble_eq_true rfl, Nat.le_of_ble_eq_true rfl⟩ rfl rfl (Nat.le_of_ble_eq_true rfl) (c_X8_in _ E _ z28 lo hi (by omega) (by omega) (by omega) (by omega) (by omega) (by omega)) (k_i (fun z36 Mq hz36 => ?_))
      obtain ⟨rfl, hz36⟩ := hz36
      refine x_if_ne B (tgt := 47) dX8_number_39 (by decide) ⟨by omega, by omega⟩ (fun c39 => ?_) (fun c39 => ?_)
      · show Vx x E N1 47 [(0, .ref (E.1 (71))), (1, .int (iI (lo))), (2, .int (iI (hi)))] []
        exact J47 N1 (by obtain ⟨h1, h2, h3⟩ := hJ2; exact Or.inr ⟨h1, Or.inr (Or.inr ⟨h2, by have e28 := Is_e ez28; rw [h3] at e28; rw [← e28]; omega, h3⟩)⟩)
      · show Vx x E N1 42 [(0, .ref (E.1 (71))), (1, .int (iI (lo))), (2, .int (iI (hi)))] []
        refine x_aload_n B dX8_number_42 0 rfl rfl ?_
        refine x_iconst B dX8_number_43 ?_
        refine x_callV B (st := []) (av := [.int (iI (3))]) dX8_number_44 cs_X8_fails kw_973 ⟨rfl, rfl, Nat.le_of_ble_eq_true rfl, Nat.le_of_ble_eq_true rfl⟩ rfl rfl (Nat.le_of_ble_eq_true rfl) (rc_obj B (ci := 8) rfl rfl rfl) (c_X8_fails _ E _ 3 (by omega) (by omega)) (k_v (fun M44 hz44 => ?_))
        exact J47 M44 (by obtain ⟨h1, h2, h3⟩ := hJ2; subst h3; exact Or.inr ⟨h1, Or.inr (Or.inl ⟨h2, by rw [← Is_e ez28]; omega, by rcases hz44 with h | h; (exact h.2); (exact absurd h1 h.1)⟩)⟩)
  refine x_if_ne B (tgt := 20) dX8_number_4 (by decide) ⟨by omega, by omega⟩ (fun c4 => ?_) (fun c4 => ?_)
  · show Vx x E M 20 [(0, .ref (E.1 (71))), (1, .int (iI (lo))), (2, .int (iI (hi)))] []
    exact J20 M (Or.inl ⟨c4, rfl⟩)
  · show Vx x E M 7 [(0, .ref (E.1 (71))), (1, .int (iI (lo))), (2, .int (iI (hi)))] []
    refine x_aload_n B dX8_number_7 0 rfl rfl ?_
    refine x_getI B (ci := 8) (k := 7) (lo := 0) (hi := 3) dX8_number_8 rfl rfl rfl (by decide) inGX8 kw_812 rfl (fun z8 ez8 lz8 uz8 => ?_)
    refine x_iconst B dX8_number_11 ?_
    refine x_icmp_eq B (tgt := 20) dX8_number_12 (by decide) ⟨by omega, by omega⟩ ⟨by omega, by omega⟩ (fun c12 => ?_) (fun c12 => ?_)
    · show Vx x E M 20 [(0, .ref (E.1 (71))), (1, .int (iI (lo))), (2, .int (iI (hi)))] []
      exact J20 M (Or.inr ⟨c4, Or.inl ⟨by rw [← Is_e ez8]; exact c12, rfl⟩⟩)
    · show Vx x E M 15 [(0, .ref (E.1 (71))), (1, .int (iI (lo))), (2, .int (iI (hi)))] []
      refine x_aload_n B dX8_number_15 0 rfl rfl ?_
      refine x_iconst B dX8_number_16 ?_
      refine x_callV B (st := []) (av := [.int (iI (2))]) dX8_number_17 cs_X8_fails kw_973 ⟨rfl, rfl, Nat.le_of_ble_eq_true rfl, Nat.le_of_ble_eq_true rfl⟩ rfl rfl (Nat.le_of_ble_eq_true rfl) (rc_obj B (ci := 8) rfl rfl rfl) (c_X8_fails _ E _ 2 (by omega) (by omega)) (k_v (fun M17 hz17 => ?_))
      exact J20 M17 (Or.inr ⟨c4, Or.inr ⟨by rw [← Is_e ez8]; exact c12, by rcases hz17 with h | h; (exact h.2); (exact absurd ((Is_e ez1).symm.trans c4) h.1)⟩⟩)
