abbrev zF : Nat → Int32 := fun _ => iI 0
/-- the world behind a Laws' constructor -/
def wk_X1 (h0 : Nat) (u : (Nat → Nat) × (Nat → ClassId)) : va_W := wL h0 (u.1 1) (u.1 2) (u.2 0) (fA zF) (flK 16 1 zF)
def tk_X1 (u : (Nat → Nat) × (Nat → ClassId)) : List (ClassId × FieldType) := [(u.2 0, .int)]
def bk_X1 (D : va_G) (A : Nat → Prop) (h0 : Nat) (u : (Nat → Nat) × (Nat → ClassId)) (t : State) : Prop := va_P D vwCl (wk_X1 h0 u) t.heap ∧ va_K D vwCl (tk_X1 u) t ∧ va_D A (wk_X1 h0 u)
abbrev w0_X1 (h0 : Nat) : va_W := [(h0, .inr (1, [.null, .null]))]
set_option maxHeartbeats 400000 in
set_option maxRecDepth 100000 in
theorem k_X1_init (l : Launch) (D : va_G) (h0 t0 sz : Nat) : Met l yX1_init (mw yX1_init cX1_init 1 none) { frames := 2, cells := 2, slots := 28, locals := 46 } (va_Pc [.ref h0] (fun U => U.heap.size = sz ∧ va_P D vwCl (w0_X1 h0) U.heap ∧ va_K D vwCl [] U ∧ va_D (fun _ => True) (w0_X1 h0) ∧ EnL t0 (va_A (w0_X1 h0) sz) U U.heap)) (va_Qv (fun u : (Nat → Nat) × (Nat → ClassId) => u.1 0 = h0) (bk_X1 D (va_A (w0_X1 h0) sz) h0) (va_A (w0_X1 h0) sz)) 2 28 (va_A (w0_X1 h0) sz) := by
  refine Met.ofW (cc := cX1_init) (maxL := 1) (ret := none) (by decide) rfl ?_
  intro p e s m args below meth c s₁ B hml hv
  obtain ⟨rfl, hsz, hP, hK, hD0, hE⟩ := hv
  have hx := B.exec
  have hb := B.bytes
  have hr := B.returns
  have hts0 := atoms_spec (ws := mw yX1_init cX1_init 1 none) B.pre
  have hts : ∀ w ∈ GW, w.before _ s = true := fun w hw => hts0 w (List.mem_cons_of_mem _ hw)
  have hown : s.vm.findClass RX1 = some m.cls := findClass_of_methodNamed B.named
  have hlocks := B.notSynchronized
  have hin : meth.name = "<init>" := (name_of_methodNamed B.named B.method).1
  subst hsz
  have hD := hD0.self (sz := s.heap.size)
  generalize hAe : va_A (w0_X1 h0) s.heap.size = A at hD hE ⊢
  have hA : ∀ q : Nat, s.heap.size ≤ q → A q := fun q h => by rw [← hAe]; exact Or.inr h
  have hS : va_S A s.heap s.heap [] := va_S.rf
  have hP : va_P D vwCl [(h0, .inr (1, [.null, .null]))] s.heap := hP
  have hl := lv_entry ([.ref h0]) (n := 1) (Nat.le_of_ble_eq_true rfl)
  rw [lg_entry_eq]
  generalize (lg_sl ([.ref h0]) ++ List.replicate (1 - (lg_sl ([.ref h0])).length) Slot.unset).toArray = ls at hl ⊢
  have hl : lv_has ls 1 [(0, .ref h0)] := hl
  refine lv_aload_n hx hb dX1_init_0 rfl (lv_at hl 0 rfl) ?_
  refine W.objInit hx hb hown (hts _ kw_87) (hts _ kw_80) (hts _ kw_81) rfl (by rw [hml]; exact hl.1) rfl dX1_init_1 (Nat.le_of_ble_eq_true rfl) (Nat.le_of_ble_eq_true rfl) ?_
  refine W.eq (g2 := F0 m 4 ls []) rfl ?_
  refine lv_aload_n hx hb dX1_init_4 rfl (lv_at hl 0 rfl) ?_
  refine lv_bipush hx hb dX1_init_5 (rfl : _ = iI 12) ?_
  refine va_newa (atype := .int) hx hb (hts (Cond.arrayClass .int) kw_113) rfl hK hP hD hS hA (a0 := (12, .inl zF)) (zA_i 12) (by decide +kernel) (N' := 12) (by decide +kernel) (Nat.le_of_ble_eq_true rfl) (Nat.le_of_ble_eq_true rfl) (Nat.le_of_ble_eq_true rfl) dX1_init_7 (fun q1 cA H hK hP hD hS => ?_)
  have hK : va_K D vwCl [(cA, .int)] s := hK
  have hP : va_P D vwCl [(h0, .inr (1, [.null, .null])), (q1, .inl (cA, 12, .inl zF))] H := hP
  have hD : va_D A [(h0, .inr (1, [.null, .null])), (q1, .inl (cA, 12, .inl zF))] := hD
  refine va_putF (D := D) (ci := 1) (v := .ref q1) (ty := tyX1 0) (C := RX1) (T := TX1) (N := 2) hx hb hts inGX1 tyX1 tyX1_ok nmX1 hown hK hP hD hS 0 rfl rfl 0 (by decide) (hts _ kw_100) (fun _ h9 => h9) rfl hin rfl (tyX1_ok 0 (by decide)) rfl rfl (Nat.le_of_ble_eq_true rfl) dX1_init_9 (fun H locs hP hD hS => ?_)
  have hP : va_P D vwCl [(h0, .inr (1, [.ref q1, .null])), (q1, .inl (cA, 12, .inl zF))] H := hP
  have hD : va_D A [(h0, .inr (1, [.ref q1, .null])), (q1, .inl (cA, 12, .inl zF))] := hD
  refine lv_aload_n hx hb dX1_init_12 rfl (lv_at hl 0 rfl) ?_
  refine lv_bipush hx hb dX1_init_13 (rfl : _ = iI 16) ?_
  refine va_newa (atype := .int) hx hb (hts (Cond.arrayClass .int) kw_113) rfl hK hP hD hS hA (a0 := (16, .inl zF)) (zA_i 16) (by decide +kernel) (N' := 16) (by decide +kernel) (Nat.le_of_ble_eq_true rfl) (Nat.le_of_ble_eq_true rfl) (Nat.le_of_ble_eq_true rfl) dX1_init_15 (fun q2 cB H hK hP hD hS => ?_)
  have e15 : cA = cB := (ka_i hK (i := 0) (j := 1) rfl rfl).symm
  subst e15
  have hK := hK.sub (tys' := [(cA, .int)]) [0] rfl
  have hP : va_P D vwCl [(h0, .inr (1, [.ref q1, .null])), (q1, .inl (cA, 12, .inl zF)), (q2, .inl (cA, 16, .inl zF))] H := hP
  have hD : va_D A [(h0, .inr (1, [.ref q1, .null])), (q1, .inl (cA, 12, .inl zF)), (q2, .inl (cA, 16, .inl zF))] := hD
  refine va_putF (D := D) (ci := 1) (v := .ref q2) (ty := tyX1 1) (C := RX1) (T := TX1) (N := 2) hx hb hts inGX1 tyX1 tyX1_ok nmX1 hown hK hP hD hS 0 rfl rfl 1 (by decide) (hts _ kw_104) (fun _ h9 => h9) rfl hin rfl (tyX1_ok 1 (by decide)) rfl rfl (Nat.le_of_ble_eq_true rfl) dX1_init_17 (fun H locs hP hD hS => ?_)
  have hP : va_P D vwCl (wL h0 q1 q2 cA zF zF) H := hP
  have hD : va_D A (wL h0 q1 q2 cA zF zF) := hD
  refine lv_aload_n hx hb dX1_init_20 rfl (lv_at hl 0 rfl) ?_
  have hFc := va_free (wc := wL h0 q1 q2 cA zF zF) hD hS hA [0, 1, 2] rfl
  refine va_callv (va_runV (As := []) (rest := []) (bytes := cX1_toFirst) (maxL := 1) (ret := none) (n := 0) (index := 18) (C := yX1_toFirst.cls) ⟨hx, hb, rfl, hown, hts⟩ (k_X1_toFirst l D h0 q1 q2 t0 H.size cA zF zF) ⟨callB_of 0 hts (mw_good cs_X1_toFirst.1) rfl rfl rfl (hts _ cs_X1_toFirst.2.2.1) (hts _ kw_88) cs_X1_toFirst.2.2.2 ⟨Nat.le_of_ble_eq_true rfl, Nat.le_of_ble_eq_true rfl⟩, hts _ cs_X1_toFirst.2.1.1, hts _ cs_X1_toFirst.2.1.2⟩ ⟨fun a U g mk q => by obtain ⟨r0, r1, r2, r3, r4, r5⟩ := q; exact ⟨r0, r1, r2, va_K.moved (u := U) (U := U.calling g mk a) (Vm.Alike.refl U.vm) r3, r4, EnL_blind g mk a r5⟩, va_recv hK hP (q0 := 0) (show vwCl[1]? = some (RX1, TX1, 2) from rfl) rfl, fun U hU hW => ⟨rfl, by rw [hU], by rw [hU]; exact hP, va_K.moved hW.alike hK, hD.weaken (fun _ _ _ _ => trivial), by rw [hU]; exact EnL_call hE hS hW hFc⟩⟩ rfl rfl (hl.1.trans hml.symm) rfl (lv_room (Nat.le_of_ble_eq_true rfl)) dX1_init_21 ⟨Nat.le_of_ble_eq_true rfl, Nat.le_of_ble_eq_true rfl⟩) hS (fun q _ h => hFc q h) hFc (fun u t H1 locs ht hvm h5 hB hz1 hk1 hS => ?_)
  obtain ⟨hP1, hK1, hD1⟩ := hB
  rw [ht] at hP1
  have hD2 : va_D A (wL h0 q1 q2 cA (fA zF) (flK 16 1 zF)) := hD1.weaken (fun _ _ _ h => hFc _ h)
  exact W.vret hx hb hr (fun t ht hW => ⟨⟨(fun j => [h0, q1, q2].getD j 0, fun _ => cA), rfl, rfl, by rw [ht]; exact hP1, va_K.moved hW.alike hK, hD2⟩, hS.F ht⟩) hS.2.2 dX1_init_24 hlocks
