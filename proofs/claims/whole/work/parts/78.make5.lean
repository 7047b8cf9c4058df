/-- the world behind this constructor -/
def wk_X5_init (u : (Nat → Nat) × (Nat → ClassId)) : va_W := [(u.1 0, .inr (5, [.ref (u.1 1), .int (iI 0), .int (iI 0), .int (iI 0), .ref (u.1 4), .int (iI 0), .int (iI 0), .int (iI 0), .int (iI 0), .int (iI 0), .int (iI 0), .int (iI 0), .int (iI 0), .int (iI 0), .int (iI 0)])), (u.1 1, .inr (1, [.ref (u.1 2), .ref (u.1 3)])), (u.1 2, .inl ((u.2 0), 12, .inl (fA zF))), (u.1 3, .inl ((u.2 0), 16, .inl (flK 16 1 zF))), (u.1 4, .inl ((u.2 0), 200, .inl zF))]
def tk_X5_init (u : (Nat → Nat) × (Nat → ClassId)) : List (ClassId × FieldType) := [(u.2 0, .int)]
def bk_X5_init (D : va_G) (A : Nat → Prop) (u : (Nat → Nat) × (Nat → ClassId)) (t : State) : Prop := va_P D vwCl (wk_X5_init u) t.heap ∧ va_K D vwCl (tk_X5_init u) t ∧ va_D A (wk_X5_init u)
abbrev w0_X5_init (h0 : Nat) : va_W := [(h0, .inr (5, [.null, .int (iI 0), .int (iI 0), .int (iI 0), .null, .int (iI 0), .int (iI 0), .int (iI 0), .int (iI 0), .int (iI 0), .int (iI 0), .int (iI 0), .int (iI 0), .int (iI 0), .int (iI 0)]))]
set_option maxHeartbeats 2000000 in
set_option maxRecDepth 100000 in
theorem k_X5_init (l : Launch) (D : va_G) (h0 t0 sz : Nat) : Met l yX5_init (mw yX5_init cX5_init 1 none) { frames := 3, cells := 4, slots := 230, locals := 70 } (va_Pc [.ref h0] (fun U => U.heap.size = sz ∧ va_P D vwCl (w0_X5_init h0) U.heap ∧ va_K D vwCl [] U ∧ va_D (fun _ => True) (w0_X5_init h0) ∧ EnL t0 (va_A (w0_X5_init h0) sz) U U.heap)) (va_Qv (fun u : (Nat → Nat) × (Nat → ClassId) => u.1 0 = h0) (bk_X5_init D (va_A (w0_X5_init h0) sz)) (va_A (w0_X5_init h0) sz)) 4 230 (va_A (w0_X5_init h0) sz) := by
  refine Met.ofW (cc := cX5_init) (maxL := 1) (ret := none) (by decide) rfl ?_
  intro p e s m args below meth c s₁ B hml hv
  obtain ⟨rfl, hsz, hP, hK, hD0, hE⟩ := hv
  have hx := B.exec
  have hb := B.bytes
  have hr := B.returns
  have hts0 := atoms_spec (ws := mw yX5_init cX5_init 1 none) B.pre
  have hts : ∀ w ∈ GW, w.before _ s = true := fun w hw => hts0 w (List.mem_cons_of_mem _ hw)
  have hown : s.vm.findClass RX5 = some m.cls := findClass_of_methodNamed B.named
  have hlocks := B.notSynchronized
  have hin : meth.name = "<init>" := (name_of_methodNamed B.named B.method).1
  subst hsz
  have hD := hD0.self (sz := s.heap.size)
  generalize hAe : va_A (w0_X5_init h0) s.heap.size = A at hD hE ⊢
  have hA : ∀ q : Nat, s.heap.size ≤ q → A q := fun q h => by rw [← hAe]; exact Or.inr h
  have hS : va_S A s.heap s.heap [] := va_S.rf
  have hP : va_P D vwCl [(h0, .inr (5, [.null, .int (iI 0), .int (iI 0), .int (iI 0), .null, .int (iI 0), .int (iI 0), .int (iI 0), .int (iI 0), .int (iI 0), .int (iI 0), .int (iI 0), .int (iI 0), .int (iI 0), .int (iI 0)]))] s.heap := hP
  have hl := lv_entry ([.ref h0]) (n := 1) (Nat.le_of_ble_eq_true rfl)
  rw [lg_entry_eq]
  generalize (lg_sl ([.ref h0]) ++ List.replicate (1 - (lg_sl ([.ref h0])).length) Slot.unset).toArray = ls at hl ⊢
  have hl : lv_has ls 1 [(0, .ref h0)] := hl
  refine lv_aload_n hx hb dX5_init_0 rfl (lv_at hl 0 rfl) ?_
  refine W.objInit hx hb hown (hts _ kw_119) (hts _ kw_80) (hts _ kw_81) rfl (by rw [hml]; exact hl.1) rfl dX5_init_1 (Nat.le_of_ble_eq_true rfl) (Nat.le_of_ble_eq_true rfl) ?_
  refine W.eq (g2 := F0 m 4 ls []) rfl ?_
  refine lv_aload_n hx hb dX5_init_4 rfl (lv_at hl 0 rfl) ?_
  refine va_new (ci := 1) (fs := [.null, .null]) (C := RX1) (T := TX1) (N := 2) hx hb hts inGX1 tyX1 tyX1_ok hown (hts _ kw_120) (hts _ kw_83) (hts _ kw_58) hK hP hD hS hA rfl (fun j hj => by rcases (show j = 0 ∨ j = 1 by omega) with rfl | rfl <;> rfl) (Nat.le_of_ble_eq_true rfl) (Nat.le_of_ble_eq_true rfl) dX5_init_5 (fun q1 H hP hD hS => ?_)
  have hP : va_P D vwCl [(h0, .inr (5, [.null, .int (iI 0), .int (iI 0), .int (iI 0), .null, .int (iI 0), .int (iI 0), .int (iI 0), .int (iI 0), .int (iI 0), .int (iI 0), .int (iI 0), .int (iI 0), .int (iI 0), .int (iI 0)])), (q1, .inr (1, [.null, .null]))] H := hP
  have hD : va_D A [(h0, .inr (5, [.null, .int (iI 0), .int (iI 0), .int (iI 0), .null, .int (iI 0), .int (iI 0), .int (iI 0), .int (iI 0), .int (iI 0), .int (iI 0), .int (iI 0), .int (iI 0), .int (iI 0), .int (iI 0)])), (q1, .inr (1, [.null, .null]))] := hD
  refine lv_dup hx hb dX5_init_8 rfl ?_
  have hPc := hP.sub (ws' := [(q1, .inr (1, [.null, .null]))]) [1] rfl
  have hDc := hD.sub (ws' := [(q1, .inr (1, [.null, .null]))]) [1] (by decide) rfl
  have hKc := hK.sub (tys' := []) [] rfl
  have hFc := va_free (wc := [(q1, .inr (1, [.null, .null]))]) hD hS hA [1] rfl
  refine va_callv (va_runI (As := []) (rest := [.ref (q1), .ref (h0)]) (bytes := cX1_init) (maxL := 1) (n := 0) (index := 11) ⟨hx, hb, rfl, hown, hts⟩ (k_X1_init l D (q1) t0 H.size) ⟨callB_of 0 hts (mw_good kw_86) rfl rfl rfl (hts _ kw_58) (hts _ kw_121) ⟨by decide, by decide, by decide +kernel⟩ ⟨(Nat.le_of_ble_eq_true rfl), (Nat.le_of_ble_eq_true rfl)⟩, rfl, hts _ kw_85⟩ ⟨fun a U g mk q => by obtain ⟨r0, r1, r2, r3, r4, r5⟩ := q; exact ⟨r0, r1, r2, va_K.moved (u := U) (U := U.calling g mk a) (Vm.Alike.refl U.vm) r3, r4, EnL_blind g mk a r5⟩, fun U hU hW => ⟨rfl, by rw [hU], by rw [hU]; exact hPc, va_K.moved hW.alike hKc, hDc.weaken (fun _ _ _ _ => trivial), by rw [hU]; exact EnL_call hE hS hW hFc⟩⟩ rfl rfl (hl.1.trans hml.symm) rfl (lv_room (Nat.le_of_ble_eq_true rfl)) dX5_init_9 ⟨(Nat.le_of_ble_eq_true rfl), (Nat.le_of_ble_eq_true rfl)⟩) hS (fun q _ h => hFc q h) hFc (fun u2 t H1 locs ht hvm h5 hB hz1 hk1 hS => ?_)
  obtain ⟨hP1, hK1, hD1⟩ := hB
  rw [ht] at hP1
  have hK1 := va_K.moved hvm.symm hK1
  obtain ⟨hP, hD⟩ := va_join (wr := [(h0, .inr (5, [.null, .int (iI 0), .int (iI 0), .int (iI 0), .null, .int (iI 0), .int (iI 0), .int (iI 0), .int (iI 0), .int (iI 0), .int (iI 0), .int (iI 0), .int (iI 0), .int (iI 0), .int (iI 0)]))]) (w1 := [(q1, .inr (1, [.ref (u2.1 1), .ref (u2.1 2)])), (u2.1 1, .inl ((u2.2 0), 12, .inl (fA zF))), (u2.1 2, .inl ((u2.2 0), 16, .inl (flK 16 1 zF)))]) hP hD [1] [0] rfl rfl (by decide) (by decide) hk1 hFc hP1 hD1
  have hK := (hK.sub (tys' := []) [] rfl).app hK1
  generalize H1 = H at hP hS ⊢
  have hP : va_P D vwCl [(h0, .inr (5, [.null, .int (iI 0), .int (iI 0), .int (iI 0), .null, .int (iI 0), .int (iI 0), .int (iI 0), .int (iI 0), .int (iI 0), .int (iI 0), .int (iI 0), .int (iI 0), .int (iI 0), .int (iI 0)])), (q1, .inr (1, [.ref (u2.1 1), .ref (u2.1 2)])), (u2.1 1, .inl ((u2.2 0), 12, .inl (fA zF))), (u2.1 2, .inl ((u2.2 0), 16, .inl (flK 16 1 zF)))] H := hP
  have hD : va_D A [(h0, .inr (5, [.null, .int (iI 0), .int (iI 0), .int (iI 0), .null, .int (iI 0), .int (iI 0), .int (iI 0), .int (iI 0), .int (iI 0), .int (iI 0), .int (iI 0), .int (iI 0), .int (iI 0), .int (iI 0)])), (q1, .inr (1, [.ref (u2.1 1), .ref (u2.1 2)])), (u2.1 1, .inl ((u2.2 0), 12, .inl (fA zF))), (u2.1 2, .inl ((u2.2 0), 16, .inl (flK 16 1 zF)))] := hD
  have hK : va_K D vwCl [((u2.2 0), .int)] s := hK
  have hK := hK.sub (tys' := [((u2.2 0), .int)]) [0] rfl
  have hP : va_P D vwCl [(h0, .inr (5, [.null, .int (iI 0), .int (iI 0), .int (iI 0), .null, .int (iI 0), .int (iI 0), .int (iI 0), .int (iI 0), .int (iI 0), .int (iI 0), .int (iI 0), .int (iI 0), .int (iI 0), .int (iI 0)])), (q1, .inr (1, [.ref (u2.1 1), .ref (u2.1 2)])), (u2.1 1, .inl ((u2.2 0), 12, .inl (fA zF))), (u2.1 2, .inl ((u2.2 0), 16, .inl (flK 16 1 zF)))] H := hP
  have hD : va_D A [(h0, .inr (5, [.null, .int (iI 0), .int (iI 0), .int (iI 0), .null, .int (iI 0), .int (iI 0), .int (iI 0), .int (iI 0), .int (iI 0), .int (iI 0), .int (iI 0), .int (iI 0), .int (iI 0), .int (iI 0)])), (q1, .inr (1, [.ref (u2.1 1), .ref (u2.1 2)])), (u2.1 1, .inl ((u2.2 0), 12, .inl (fA zF))), (u2.1 2, .inl ((u2.2 0), 16, .inl (flK 16 1 zF)))] := hD
  refine va_putF (D := D) (ci := 5) (v := .ref (q1)) (ty := tyX5 0) (C := RX5) (T := TX5) (N := 15) hx hb hts inGX5 tyX5 tyX5_ok nmX5 hown hK hP hD hS 0 rfl rfl 0 (by decide) (hts _ kw_122) (fun _ h9 => h9) rfl hin rfl (tyX5_ok 0 (by decide)) rfl rfl (Nat.le_of_ble_eq_true rfl) dX5_init_12 (fun H locs hP hD hS => ?_)
  have hP : va_P D vwCl [(h0, .inr (5, [.ref (q1), .int (iI 0), .int (iI 0), .int (iI 0), .null, .int (iI 0), .int (iI 0), .int (iI 0), .int (iI 0), .int (iI 0), .int (iI 0), .int (iI 0), .int (iI 0), .int (iI 0), .int (iI 0)])), (q1, .inr (1, [.ref (u2.1 1), .ref (u2.1 2)])), (u2.1 1, .inl ((u2.2 0), 12, .inl (fA zF))), (u2.1 2, .inl ((u2.2 0), 16, .inl (flK 16 1 zF)))] H := hP
  have hD : va_D A [(h0, .inr (5, [.ref (q1), .int (iI 0), .int (iI 0), .int (iI 0), .null, .int (iI 0), .int (iI 0), .int (iI 0), .int (iI 0), .int (iI 0), .int (iI 0), .int (iI 0), .int (iI 0), .int (iI 0), .int (iI 0)])), (q1, .inr (1, [.ref (u2.1 1), .ref (u2.1 2)])), (u2.1 1, .inl ((u2.2 0), 12, .inl (fA zF))), (u2.1 2, .inl ((u2.2 0), 16, .inl (flK 16 1 zF)))] := hD
  refine lv_aload_n hx hb dX5_init_15 rfl (lv_at hl 0 rfl) ?_
  refine lv_sipush hx hb dX5_init_16 (rfl : _ = iI (200)) ?_
  refine va_newa (atype := .int) hx hb (hts (Cond.arrayClass .int) kw_113) rfl hK hP hD hS hA (a0 := (200, .inl zF)) (zA_i 200) (by decide +kernel) (N' := 200) (by decide +kernel) (Nat.le_of_ble_eq_true rfl) (Nat.le_of_ble_eq_true rfl) (Nat.le_of_ble_eq_true rfl) dX5_init_19 (fun q3 c3 H hK hP hD hS => ?_)
  have e4 : (u2.2 0) = c3 := (ka_i hK (i := 0) (j := 1) rfl rfl).symm
  subst e4
  have hK := hK.sub (tys' := [((u2.2 0), .int)]) [0] rfl
  have hP : va_P D vwCl [(h0, .inr (5, [.ref (q1), .int (iI 0), .int (iI 0), .int (iI 0), .null, .int (iI 0), .int (iI 0), .int (iI 0), .int (iI 0), .int (iI 0), .int (iI 0), .int (iI 0), .int (iI 0), .int (iI 0), .int (iI 0)])), (q1, .inr (1, [.ref (u2.1 1), .ref (u2.1 2)])), (u2.1 1, .inl ((u2.2 0), 12, .inl (fA zF))), (u2.1 2, .inl ((u2.2 0), 16, .inl (flK 16 1 zF))), (q3, .inl ((u2.2 0), 200, .inl zF))] H := hP
  have hD : va_D A [(h0, .inr (5, [.ref (q1), .int (iI 0), .int (iI 0), .int (iI 0), .null, .int (iI 0), .int (iI 0), .int (iI 0), .int (iI 0), .int (iI 0), .int (iI 0), .int (iI 0), .int (iI 0), .int (iI 0), .int (iI 0)])), (q1, .inr (1, [.ref (u2.1 1), .ref (u2.1 2)])), (u2.1 1, .inl ((u2.2 0), 12, .inl (fA zF))), (u2.1 2, .inl ((u2.2 0), 16, .inl (flK 16 1 zF))), (q3, .inl ((u2.2 0), 200, .inl zF))] := hD
  refine va_putF (D := D) (ci := 5) (v := .ref (q3)) (ty := tyX5 4) (C := RX5) (T := TX5) (N := 15) hx hb hts inGX5 tyX5 tyX5_ok nmX5 hown hK hP hD hS 0 rfl rfl 4 (by decide) (hts _ kw_130) (fun _ h9 => h9) rfl hin rfl (tyX5_ok 4 (by decide)) rfl rfl (Nat.le_of_ble_eq_true rfl) dX5_init_21 (fun H locs hP hD hS => ?_)
  have hP : va_P D vwCl [(h0, .inr (5, [.ref (q1), .int (iI 0), .int (iI 0), .int (iI 0), .ref (q3), .int (iI 0), .int (iI 0), .int (iI 0), .int (iI 0), .int (iI 0), .int (iI 0), .int (iI 0), .int (iI 0), .int (iI 0), .int (iI 0)])), (q1, .inr (1, [.ref (u2.1 1), .ref (u2.1 2)])), (u2.1 1, .inl ((u2.2 0), 12, .inl (fA zF))), (u2.1 2, .inl ((u2.2 0), 16, .inl (flK 16 1 zF))), (q3, .inl ((u2.2 0), 200, .inl zF))] H := hP
  have hD : va_D A [(h0, .inr (5, [.ref (q1), .int (iI 0), .int (iI 0), .int (iI 0), .ref (q3), .int (iI 0), .int (iI 0), .int (iI 0), .int (iI 0), .int (iI 0), .int (iI 0), .int (iI 0), .int (iI 0), .int (iI 0), .int (iI 0)])), (q1, .inr (1, [.ref (u2.1 1), .ref (u2.1 2)])), (u2.1 1, .inl ((u2.2 0), 12, .inl (fA zF))), (u2.1 2, .inl ((u2.2 0), 16, .inl (flK 16 1 zF))), (q3, .inl ((u2.2 0), 200, .inl zF))] := hD
  have hP := hP.sub (ws' := [(h0, .inr (5, [.ref (q1), .int (iI 0), .int (iI 0), .int (iI 0), .ref (q3), .int (iI 0), .int (iI 0), .int (iI 0), .int (iI 0), .int (iI 0), .int (iI 0), .int (iI 0), .int (iI 0), .int (iI 0), .int (iI 0)])), (q1, .inr (1, [.ref (u2.1 1), .ref (u2.1 2)])), (u2.1 1, .inl ((u2.2 0), 12, .inl (fA zF))), (u2.1 2, .inl ((u2.2 0), 16, .inl (flK 16 1 zF))), (q3, .inl ((u2.2 0), 200, .inl zF))]) [0, 1, 2, 3, 4] rfl
  have hD := hD.sub (ws' := [(h0, .inr (5, [.ref (q1), .int (iI 0), .int (iI 0), .int (iI 0), .ref (q3), .int (iI 0), .int (iI 0), .int (iI 0), .int (iI 0), .int (iI 0), .int (iI 0), .int (iI 0), .int (iI 0), .int (iI 0), .int (iI 0)])), (q1, .inr (1, [.ref (u2.1 1), .ref (u2.1 2)])), (u2.1 1, .inl ((u2.2 0), 12, .inl (fA zF))), (u2.1 2, .inl ((u2.2 0), 16, .inl (flK 16 1 zF))), (q3, .inl ((u2.2 0), 200, .inl zF))]) [0, 1, 2, 3, 4] (by decide) rfl
  exact W.vret hx hb hr (fun t ht hW => ⟨⟨((fun j => [h0, q1, u2.1 1, u2.1 2, q3].getD j 0), (fun j => [(u2.2 0)].getD j (u2.2 0))), rfl, rfl, by rw [ht]; exact hP, va_K.moved hW.alike hK, hD⟩, hS.F ht⟩) hS.2.2 dX5_init_24 hlocks
