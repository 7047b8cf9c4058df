/-! ===== MAKING: the constructors ===== -/
theorem ka_i {D : va_G} {cl : List vw_C} {tys : List (ClassId × FieldType)} {U : State} (hK : va_K D cl tys U) {i j : Nat} {cA cB : ClassId} (hi : tys[i]? = some (cA, .int)) (hj : tys[j]? = some (cB, .int)) : cB = cA := by
  have a : U.vm.findClass ("[" ++ FieldType.int.toString) = some cA := (hK.2 i _ hi).2
  have b : U.vm.findClass ("[" ++ FieldType.int.toString) = some cB := (hK.2 j _ hj).2
  rw [a] at b
  exact (Option.some.inj b).symm
theorem ka_z {D : va_G} {cl : List vw_C} {tys : List (ClassId × FieldType)} {U : State} (hK : va_K D cl tys U) {i j : Nat} {cA cB : ClassId} (hi : tys[i]? = some (cA, .boolean)) (hj : tys[j]? = some (cB, .boolean)) : cB = cA := by
  have a : U.vm.findClass ("[" ++ FieldType.boolean.toString) = some cA := (hK.2 i _ hi).2
  have b : U.vm.findClass ("[" ++ FieldType.boolean.toString) = some cB := (hK.2 j _ hj).2
  rw [a] at b
  exact (Option.some.inj b).symm
/-- an array of n numbers, all 0 -/
abbrev zA (cA : ClassId) (n : Nat) : va_E := .inl (cA, n, .inl (fun _ => iI 0))
theorem zA_i (n : Nat) (cA : ClassId) : vp_cell cA (n, .inl (fun _ => iI 0)) = arrV cA n (fun _ => defaultValue .int) := rfl
theorem zA_z (n : Nat) (cA : ClassId) : vp_cell cA (n, .inl (fun _ => iI 0)) = arrV cA n (fun _ => defaultValue .boolean) := rfl
/-- the world behind a constructor, by the addresses of what it made and the classes of its arrays -/
def wk_X0_init (h0 : Nat) (u : (Nat → Nat) × (Nat → ClassId)) : va_W := [(h0, .inr (0, [.ref (u.1 1), .ref (u.1 2), .ref (u.1 3), .int (iI 0), .ref (u.1 4)])), (u.1 1, zA (u.2 0) 16), (u.1 2, zA (u.2 0) 16), (u.1 3, zA (u.2 0) 16), (u.1 4, zA (u.2 0) 16)]
def tk_X0_init (u : (Nat → Nat) × (Nat → ClassId)) : List (ClassId × FieldType) := [(u.2 0, .int)]
def bk_X0_init (D : va_G) (A : Nat → Prop) (h0 : Nat) (u : (Nat → Nat) × (Nat → ClassId)) (t : State) : Prop := va_P D vwCl (wk_X0_init h0 u) t.heap ∧ va_K D vwCl (tk_X0_init u) t ∧ va_D A (wk_X0_init h0 u)
abbrev w0_X0_init (h0 : Nat) : va_W := [(h0, .inr (0, [.null, .null, .null, .int (iI 0), .null]))]
set_option maxHeartbeats 400000 in
set_option maxRecDepth 100000 in
theorem k_X0_init (l : Launch) (D : va_G) (h0 sz : Nat) : Met l yX0_init (mw yX0_init cX0_init 1 none) { frames := 1, cells := 4, slots := 64, locals := 12 } (va_Pc [.ref h0] (fun U => U.heap.size = sz ∧ va_P D vwCl (w0_X0_init h0) U.heap ∧ va_K D vwCl [] U ∧ va_D (fun _ => True) (w0_X0_init h0))) (va_Qv (fun u : (Nat → Nat) × (Nat → ClassId) => u.1 0 = h0) (bk_X0_init D (va_A (w0_X0_init h0) sz) h0) (va_A (w0_X0_init h0) sz)) 4 64 (va_A (w0_X0_init h0) sz) := by
  refine Met.ofW (cc := cX0_init) (maxL := 1) (ret := none) (by decide) rfl ?_
  intro p e s m args below meth c s₁ B hml hv
  obtain ⟨rfl, hsz, hP, hK, hD0⟩ := hv
  have hx := B.exec
  have hb := B.bytes
  have hr := B.returns
  have hts0 := atoms_spec (ws := mw yX0_init cX0_init 1 none) B.pre
  have hts : ∀ w ∈ GW, w.before _ s = true := fun w hw => hts0 w (List.mem_cons_of_mem _ hw)
  have hown : s.vm.findClass RX0 = some m.cls := findClass_of_methodNamed B.named
  have hlocks := B.notSynchronized
  have hin : meth.name = "<init>" := (name_of_methodNamed B.named B.method).1
  subst hsz
  have hD := hD0.self (sz := s.heap.size)
  generalize hAe : va_A (w0_X0_init h0) s.heap.size = A at hD ⊢
  have hA : ∀ q : Nat, s.heap.size ≤ q → A q := fun q h => by rw [← hAe]; exact Or.inr h
  have hS : va_S A s.heap s.heap [] := va_S.rf
  have hP : va_P D vwCl [(h0, .inr (0, [.null, .null, .null, .int (iI 0), .null]))] s.heap := hP
  have hl := lv_entry ([.ref h0]) (n := 1) (Nat.le_of_ble_eq_true rfl)
  rw [lg_entry_eq]
  generalize (lg_sl ([.ref h0]) ++ List.replicate (1 - (lg_sl ([.ref h0])).length) Slot.unset).toArray = ls at hl ⊢
  have hl : lv_has ls 1 [(0, .ref h0)] := hl
  refine lv_aload_n hx hb dX0_init_0 rfl (lv_at hl 0 rfl) ?_
  refine W.objInit hx hb hown (hts _ kw_178) (hts _ kw_80) (hts _ kw_81) rfl (by rw [hml]; exact hl.1) rfl dX0_init_1 (Nat.le_of_ble_eq_true rfl) (Nat.le_of_ble_eq_true rfl) ?_
  refine W.eq (g2 := F0 m 4 ls []) rfl ?_
  refine lv_aload_n hx hb dX0_init_4 rfl (lv_at hl 0 rfl) ?_
  refine lv_bipush hx hb dX0_init_5 (rfl : _ = iI (16)) ?_
  refine va_newa (atype := .int) hx hb (hts (Cond.arrayClass .int) kw_113) rfl hK hP hD hS hA (a0 := (16, .inl (fun _ => iI 0))) (zA_i 16) (by decide +kernel) (N' := 16) (by decide +kernel) (Nat.le_of_ble_eq_true rfl) (Nat.le_of_ble_eq_true rfl) (Nat.le_of_ble_eq_true rfl) dX0_init_7 (fun q7 c7 H hK hP hD hS => ?_)
  have hK : va_K D vwCl [(c7, .int)] s := hK
  have hP : va_P D vwCl [(h0, .inr (0, [.null, .null, .null, .int (iI 0), .null])), (q7, zA c7 16)] H := hP
  have hD : va_D A [(h0, .inr (0, [.null, .null, .null, .int (iI 0), .null])), (q7, zA c7 16)] := hD
  refine va_putF (D := D) (ci := 0) (v := .ref q7) (ty := tyX0 0) (C := RX0) (T := TX0) (N := 5) hx hb hts inGX0 tyX0 tyX0_ok nmX0 hown hK hP hD hS 0 rfl rfl 0 (by decide) (hts _ kw_179) (fun _ h9 => h9) rfl hin rfl (tyX0_ok 0 (by decide)) rfl rfl (Nat.le_of_ble_eq_true rfl) dX0_init_9 (fun H locs hP hD hS => ?_)
  have hP : va_P D vwCl [(h0, .inr (0, [.ref q7, .null, .null, .int (iI 0), .null])), (q7, zA c7 16)] H := hP
  have hD : va_D A [(h0, .inr (0, [.ref q7, .null, .null, .int (iI 0), .null])), (q7, zA c7 16)] := hD
  refine lv_aload_n hx hb dX0_init_12 rfl (lv_at hl 0 rfl) ?_
  refine lv_bipush hx hb dX0_init_13 (rfl : _ = iI (16)) ?_
  refine va_newa (atype := .int) hx hb (hts (Cond.arrayClass .int) kw_113) rfl hK hP hD hS hA (a0 := (16, .inl (fun _ => iI 0))) (zA_i 16) (by decide +kernel) (N' := 16) (by decide +kernel) (Nat.le_of_ble_eq_true rfl) (Nat.le_of_ble_eq_true rfl) (Nat.le_of_ble_eq_true rfl) dX0_init_15 (fun q15 c15 H hK hP hD hS => ?_)
  have e15 : c7 = c15 := (ka_i hK (i := 0) (j := 1) rfl rfl).symm
  subst e15
  have hK := hK.sub (tys' := [(c7, .int)]) [0] rfl
  have hP : va_P D vwCl [(h0, .inr (0, [.ref q7, .null, .null, .int (iI 0), .null])), (q7, zA c7 16), (q15, zA c7 16)] H := hP
  have hD : va_D A [(h0, .inr (0, [.ref q7, .null, .null, .int (iI 0), .null])), (q7, zA c7 16), (q15, zA c7 16)] := hD
  refine va_putF (D := D) (ci := 0) (v := .ref q15) (ty := tyX0 1) (C := RX0) (T := TX0) (N := 5) hx hb hts inGX0 tyX0 tyX0_ok nmX0 hown hK hP hD hS 0 rfl rfl 1 (by decide) (hts _ kw_181) (fun _ h9 => h9) rfl hin rfl (tyX0_ok 1 (by decide)) rfl rfl (Nat.le_of_ble_eq_true rfl) dX0_init_17 (fun H locs hP hD hS => ?_)
  have hP : va_P D vwCl [(h0, .inr (0, [.ref q7, .ref q15, .null, .int (iI 0), .null])), (q7, zA c7 16), (q15, zA c7 16)] H := hP
  have hD : va_D A [(h0, .inr (0, [.ref q7, .ref q15, .null, .int (iI 0), .null])), (q7, zA c7 16), (q15, zA c7 16)] := hD
  refine lv_aload_n hx hb dX0_init_20 rfl (lv_at hl 0 rfl) ?_
  refine lv_bipush hx hb dX0_init_21 (rfl : _ = iI (16)) ?_
  refine va_newa (atype := .int) hx hb (hts (Cond.arrayClass .int) kw_113) rfl hK hP hD hS hA (a0 := (16, .inl (fun _ => iI 0))) (zA_i 16) (by decide +kernel) (N' := 16) (by decide +kernel) (Nat.le_of_ble_eq_true rfl) (Nat.le_of_ble_eq_true rfl) (Nat.le_of_ble_eq_true rfl) dX0_init_23 (fun q23 c23 H hK hP hD hS => ?_)
  have e23 : c7 = c23 := (ka_i hK (i := 0) (j := 1) rfl rfl).symm
  subst e23
  have hK := hK.sub (tys' := [(c7, .int)]) [0] rfl
  have hP : va_P D vwCl [(h0, .inr (0, [.ref q7, .ref q15, .null, .int (iI 0), .null])), (q7, zA c7 16), (q15, zA c7 16), (q23, zA c7 16)] H := hP
  have hD : va_D A [(h0, .inr (0, [.ref q7, .ref q15, .null, .int (iI 0), .null])), (q7, zA c7 16), (q15, zA c7 16), (q23, zA c7 16)] := hD
  refine va_putF (D := D) (ci := 0) (v := .ref q23) (ty := tyX0 2) (C := RX0) (T := TX0) (N := 5) hx hb hts inGX0 tyX0 tyX0_ok nmX0 hown hK hP hD hS 0 rfl rfl 2 (by decide) (hts _ kw_183) (fun _ h9 => h9) rfl hin rfl (tyX0_ok 2 (by decide)) rfl rfl (Nat.le_of_ble_eq_true rfl) dX0_init_25 (fun H locs hP hD hS => ?_)
  have hP : va_P D vwCl [(h0, .inr (0, [.ref q7, .ref q15, .ref q23, .int (iI 0), .null])), (q7, zA c7 16), (q15, zA c7 16), (q23, zA c7 16)] H := hP
  have hD : va_D A [(h0, .inr (0, [.ref q7, .ref q15, .ref q23, .int (iI 0), .null])), (q7, zA c7 16), (q15, zA c7 16), (q23, zA c7 16)] := hD
  refine lv_aload_n hx hb dX0_init_28 rfl (lv_at hl 0 rfl) ?_
  refine lv_bipush hx hb dX0_init_29 (rfl : _ = iI (16)) ?_
  refine va_newa (atype := .int) hx hb (hts (Cond.arrayClass .int) kw_113) rfl hK hP hD hS hA (a0 := (16, .inl (fun _ => iI 0))) (zA_i 16) (by decide +kernel) (N' := 16) (by decide +kernel) (Nat.le_of_ble_eq_true rfl) (Nat.le_of_ble_eq_true rfl) (Nat.le_of_ble_eq_true rfl) dX0_init_31 (fun q31 c31 H hK hP hD hS => ?_)
  have e31 : c7 = c31 := (ka_i hK (i := 0) (j := 1) rfl rfl).symm
  subst e31
  have hK := hK.sub (tys' := [(c7, .int)]) [0] rfl
  have hP : va_P D vwCl [(h0, .inr (0, [.ref q7, .ref q15, .ref q23, .int (iI 0), .null])), (q7, zA c7 16), (q15, zA c7 16), (q23, zA c7 16), (q31, zA c7 16)] H := hP
  have hD : va_D A [(h0, .inr (0, [.ref q7, .ref q15, .ref q23, .int (iI 0), .null])), (q7, zA c7 16), (q15, zA c7 16), (q23, zA c7 16), (q31, zA c7 16)] := hD
  refine va_putF (D := D) (ci := 0) (v := .ref q31) (ty := tyX0 4) (C := RX0) (T := TX0) (N := 5) hx hb hts inGX0 tyX0 tyX0_ok nmX0 hown hK hP hD hS 0 rfl rfl 4 (by decide) (hts _ kw_187) (fun _ h9 => h9) rfl hin rfl (tyX0_ok 4 (by decide)) rfl rfl (Nat.le_of_ble_eq_true rfl) dX0_init_33 (fun H locs hP hD hS => ?_)
  have hP : va_P D vwCl [(h0, .inr (0, [.ref q7, .ref q15, .ref q23, .int (iI 0), .ref q31])), (q7, zA c7 16), (q15, zA c7 16), (q23, zA c7 16), (q31, zA c7 16)] H := hP
  have hD : va_D A [(h0, .inr (0, [.ref q7, .ref q15, .ref q23, .int (iI 0), .ref q31])), (q7, zA c7 16), (q15, zA c7 16), (q23, zA c7 16), (q31, zA c7 16)] := hD
  exact W.vret hx hb hr (fun t ht hW => ⟨⟨((fun j => [h0, q7, q15, q23, q31].getD j 0), (fun j => [c7].getD j c7)), rfl, rfl, by rw [ht]; exact hP, va_K.moved hW.alike hK, hD⟩, hS.F ht⟩) hS.2.2 dX0_init_36 hlocks
/-- the world behind a constructor, by the addresses of what it made and the classes of its arrays -/
def wk_X2_init (h0 : Nat) (u : (Nat → Nat) × (Nat → ClassId)) : va_W := [(h0, .inr (2, [.ref (u.1 1), .int (iI 0)])), (u.1 1, zA (u.2 0) 156)]
def tk_X2_init (u : (Nat → Nat) × (Nat → ClassId)) : List (ClassId × FieldType) := [(u.2 0, .int)]
def bk_X2_init (D : va_G) (A : Nat → Prop) (h0 : Nat) (u : (Nat → Nat) × (Nat → ClassId)) (t : State) : Prop := va_P D vwCl (wk_X2_init h0 u) t.heap ∧ va_K D vwCl (tk_X2_init u) t ∧ va_D A (wk_X2_init h0 u)
abbrev w0_X2_init (h0 : Nat) : va_W := [(h0, .inr (2, [.null, .int (iI 0)]))]
set_option maxHeartbeats 400000 in
set_option maxRecDepth 100000 in
theorem k_X2_init (l : Launch) (D : va_G) (h0 sz : Nat) : Met l yX2_init (mw yX2_init cX2_init 1 none) { frames := 1, cells := 1, slots := 156, locals := 12 } (va_Pc [.ref h0] (fun U => U.heap.size = sz ∧ va_P D vwCl (w0_X2_init h0) U.heap ∧ va_K D vwCl [] U ∧ va_D (fun _ => True) (w0_X2_init h0))) (va_Qv (fun u : (Nat → Nat) × (Nat → ClassId) => u.1 0 = h0) (bk_X2_init D (va_A (w0_X2_init h0) sz) h0) (va_A (w0_X2_init h0) sz)) 1 156 (va_A (w0_X2_init h0) sz) := by
  refine Met.ofW (cc := cX2_init) (maxL := 1) (ret := none) (by decide) rfl ?_
  intro p e s m args below meth c s₁ B hml hv
  obtain ⟨rfl, hsz, hP, hK, hD0⟩ := hv
  have hx := B.exec
  have hb := B.bytes
  have hr := B.returns
  have hts0 := atoms_spec (ws := mw yX2_init cX2_init 1 none) B.pre
  have hts : ∀ w ∈ GW, w.before _ s = true := fun w hw => hts0 w (List.mem_cons_of_mem _ hw)
  have hown : s.vm.findClass RX2 = some m.cls := findClass_of_methodNamed B.named
  have hlocks := B.notSynchronized
  have hin : meth.name = "<init>" := (name_of_methodNamed B.named B.method).1
  subst hsz
  have hD := hD0.self (sz := s.heap.size)
  generalize hAe : va_A (w0_X2_init h0) s.heap.size = A at hD ⊢
  have hA : ∀ q : Nat, s.heap.size ≤ q → A q := fun q h => by rw [← hAe]; exact Or.inr h
  have hS : va_S A s.heap s.heap [] := va_S.rf
  have hP : va_P D vwCl [(h0, .inr (2, [.null, .int (iI 0)]))] s.heap := hP
  have hl := lv_entry ([.ref h0]) (n := 1) (Nat.le_of_ble_eq_true rfl)
  rw [lg_entry_eq]
  generalize (lg_sl ([.ref h0]) ++ List.replicate (1 - (lg_sl ([.ref h0])).length) Slot.unset).toArray = ls at hl ⊢
  have hl : lv_has ls 1 [(0, .ref h0)] := hl
  refine lv_aload_n hx hb dX2_init_0 rfl (lv_at hl 0 rfl) ?_
  refine W.objInit hx hb hown (hts _ kw_204) (hts _ kw_80) (hts _ kw_81) rfl (by rw [hml]; exact hl.1) rfl dX2_init_1 (Nat.le_of_ble_eq_true rfl) (Nat.le_of_ble_eq_true rfl) ?_
  refine W.eq (g2 := F0 m 4 ls []) rfl ?_
  refine lv_aload_n hx hb dX2_init_4 rfl (lv_at hl 0 rfl) ?_
  refine lv_sipush hx hb dX2_init_5 (rfl : _ = iI (156)) ?_
  refine va_newa (atype := .int) hx hb (hts (Cond.arrayClass .int) kw_113) rfl hK hP hD hS hA (a0 := (156, .inl (fun _ => iI 0))) (zA_i 156) (by decide +kernel) (N' := 156) (by decide +kernel) (Nat.le_of_ble_eq_true rfl) (Nat.le_of_ble_eq_true rfl) (Nat.le_of_ble_eq_true rfl) dX2_init_8 (fun q8 c8 H hK hP hD hS => ?_)
  have hK : va_K D vwCl [(c8, .int)] s := hK
  have hP : va_P D vwCl [(h0, .inr (2, [.null, .int (iI 0)])), (q8, zA c8 156)] H := hP
  have hD : va_D A [(h0, .inr (2, [.null, .int (iI 0)])), (q8, zA c8 156)] := hD
  refine va_putF (D := D) (ci := 2) (v := .ref q8) (ty := tyX2 0) (C := RX2) (T := TX2) (N := 2) hx hb hts inGX2 tyX2 tyX2_ok nmX2 hown hK hP hD hS 0 rfl rfl 0 (by decide) (hts _ kw_205) (fun _ h9 => h9) rfl hin rfl (tyX2_ok 0 (by decide)) rfl rfl (Nat.le_of_ble_eq_true rfl) dX2_init_10 (fun H locs hP hD hS => ?_)
  have hP : va_P D vwCl [(h0, .inr (2, [.ref q8, .int (iI 0)])), (q8, zA c8 156)] H := hP
  have hD : va_D A [(h0, .inr (2, [.ref q8, .int (iI 0)])), (q8, zA c8 156)] := hD
  exact W.vret hx hb hr (fun t ht hW => ⟨⟨((fun j => [h0, q8].getD j 0), (fun j => [c8].getD j c8)), rfl, rfl, by rw [ht]; exact hP, va_K.moved hW.alike hK, hD⟩, hS.F ht⟩) hS.2.2 dX2_init_13 hlocks
/-- the world behind a constructor, by the addresses of what it made and the classes of its arrays -/
def wk_X3_init (h0 : Nat) (u : (Nat → Nat) × (Nat → ClassId)) : va_W := [(h0, .inr (3, [.ref (u.1 1), .ref (u.1 2), .ref (u.1 3), .ref (u.1 4), .int (iI 0)])), (u.1 1, zA (u.2 0) 12), (u.1 2, zA (u.2 0) 12), (u.1 3, zA (u.2 0) 12), (u.1 4, zA (u.2 1) 12)]
def tk_X3_init (u : (Nat → Nat) × (Nat → ClassId)) : List (ClassId × FieldType) := [(u.2 0, .int), (u.2 1, .boolean)]
def bk_X3_init (D : va_G) (A : Nat → Prop) (h0 : Nat) (u : (Nat → Nat) × (Nat → ClassId)) (t : State) : Prop := va_P D vwCl (wk_X3_init h0 u) t.heap ∧ va_K D vwCl (tk_X3_init u) t ∧ va_D A (wk_X3_init h0 u)
abbrev w0_X3_init (h0 : Nat) : va_W := [(h0, .inr (3, [.null, .null, .null, .null, .int (iI 0)]))]
set_option maxHeartbeats 400000 in
set_option maxRecDepth 100000 in
theorem k_X3_init (l : Launch) (D : va_G) (h0 sz : Nat) : Met l yX3_init (mw yX3_init cX3_init 1 none) { frames := 1, cells := 4, slots := 48, locals := 12 } (va_Pc [.ref h0] (fun U => U.heap.size = sz ∧ va_P D vwCl (w0_X3_init h0) U.heap ∧ va_K D vwCl [] U ∧ va_D (fun _ => True) (w0_X3_init h0))) (va_Qv (fun u : (Nat → Nat) × (Nat → ClassId) => u.1 0 = h0) (bk_X3_init D (va_A (w0_X3_init h0) sz) h0) (va_A (w0_X3_init h0) sz)) 4 48 (va_A (w0_X3_init h0) sz) := by
  refine Met.ofW (cc := cX3_init) (maxL := 1) (ret := none) (by decide) rfl ?_
  intro p e s m args below meth c s₁ B hml hv
  obtain ⟨rfl, hsz, hP, hK, hD0⟩ := hv
  have hx := B.exec
  have hb := B.bytes
  have hr := B.returns
  have hts0 := atoms_spec (ws := mw yX3_init cX3_init 1 none) B.pre
  have hts : ∀ w ∈ GW, w.before _ s = true := fun w hw => hts0 w (List.mem_cons_of_mem _ hw)
  have hown : s.vm.findClass RX3 = some m.cls := findClass_of_methodNamed B.named
  have hlocks := B.notSynchronized
  have hin : meth.name = "<init>" := (name_of_methodNamed B.named B.method).1
  subst hsz
  have hD := hD0.self (sz := s.heap.size)
  generalize hAe : va_A (w0_X3_init h0) s.heap.size = A at hD ⊢
  have hA : ∀ q : Nat, s.heap.size ≤ q → A q := fun q h => by rw [← hAe]; exact Or.inr h
  have hS : va_S A s.heap s.heap [] := va_S.rf
  have hP : va_P D vwCl [(h0, .inr (3, [.null, .null, .null, .null, .int (iI 0)]))] s.heap := hP
  have hl := lv_entry ([.ref h0]) (n := 1) (Nat.le_of_ble_eq_true rfl)
  rw [lg_entry_eq]
  generalize (lg_sl ([.ref h0]) ++ List.replicate (1 - (lg_sl ([.ref h0])).length) Slot.unset).toArray = ls at hl ⊢
  have hl : lv_has ls 1 [(0, .ref h0)] := hl
  refine lv_aload_n hx hb dX3_init_0 rfl (lv_at hl 0 rfl) ?_
  refine W.objInit hx hb hown (hts _ kw_241) (hts _ kw_80) (hts _ kw_81) rfl (by rw [hml]; exact hl.1) rfl dX3_init_1 (Nat.le_of_ble_eq_true rfl) (Nat.le_of_ble_eq_true rfl) ?_
  refine W.eq (g2 := F0 m 4 ls []) rfl ?_
  refine lv_aload_n hx hb dX3_init_4 rfl (lv_at hl 0 rfl) ?_
  refine lv_bipush hx hb dX3_init_5 (rfl : _ = iI (12)) ?_
  refine va_newa (atype := .int) hx hb (hts (Cond.arrayClass .int) kw_113) rfl hK hP hD hS hA (a0 := (12, .inl (fun _ => iI 0))) (zA_i 12) (by decide +kernel) (N' := 12) (by decide +kernel) (Nat.le_of_ble_eq_true rfl) (Nat.le_of_ble_eq_true rfl) (Nat.le_of_ble_eq_true rfl) dX3_init_7 (fun q7 c7 H hK hP hD hS => ?_)
  have hK : va_K D vwCl [(c7, .int)] s := hK
  have hP : va_P D vwCl [(h0, .inr (3, [.null, .null, .null, .null, .int (iI 0)])), (q7, zA c7 12)] H := hP
  have hD : va_D A [(h0, .inr (3, [.null, .null, .null, .null, .int (iI 0)])), (q7, zA c7 12)] := hD
  refine va_putF (D := D) (ci := 3) (v := .ref q7) (ty := tyX3 0) (C := RX3) (T := TX3) (N := 5) hx hb hts inGX3 tyX3 tyX3_ok nmX3 hown hK hP hD hS 0 rfl rfl 0 (by decide) (hts _ kw_242) (fun _ h9 => h9) rfl hin rfl (tyX3_ok 0 (by decide)) rfl rfl (Nat.le_of_ble_eq_true rfl) dX3_init_9 (fun H locs hP hD hS => ?_)
  have hP : va_P D vwCl [(h0, .inr (3, [.ref q7, .null, .null, .null, .int (iI 0)])), (q7, zA c7 12)] H := hP
  have hD : va_D A [(h0, .inr (3, [.ref q7, .null, .null, .null, .int (iI 0)])), (q7, zA c7 12)] := hD
  refine lv_aload_n hx hb dX3_init_12 rfl (lv_at hl 0 rfl) ?_
  refine lv_bipush hx hb dX3_init_13 (rfl : _ = iI (12)) ?_
  refine va_newa (atype := .int) hx hb (hts (Cond.arrayClass .int) kw_113) rfl hK hP hD hS hA (a0 := (12, .inl (fun _ => iI 0))) (zA_i 12) (by decide +kernel) (N' := 12) (by decide +kernel) (Nat.le_of_ble_eq_true rfl) (Nat.le_of_ble_eq_true rfl) (Nat.le_of_ble_eq_true rfl) dX3_init_15 (fun q15 c15 H hK hP hD hS => ?_)
  have e15 : c7 = c15 := (ka_i hK (i := 0) (j := 1) rfl rfl).symm
  subst e15
  have hK := hK.sub (tys' := [(c7, .int)]) [0] rfl
  have hP : va_P D vwCl [(h0, .inr (3, [.ref q7, .null, .null, .null, .int (iI 0)])), (q7, zA c7 12), (q15, zA c7 12)] H := hP
  have hD : va_D A [(h0, .inr (3, [.ref q7, .null, .null, .null, .int (iI 0)])), (q7, zA c7 12), (q15, zA c7 12)] := hD
  refine va_putF (D := D) (ci := 3) (v := .ref q15) (ty := tyX3 1) (C := RX3) (T := TX3) (N := 5) hx hb hts inGX3 tyX3 tyX3_ok nmX3 hown hK hP hD hS 0 rfl rfl 1 (by decide) (hts _ kw_244) (fun _ h9 => h9) rfl hin rfl (tyX3_ok 1 (by decide)) rfl rfl (Nat.le_of_ble_eq_true rfl) dX3_init_17 (fun H locs hP hD hS => ?_)
  have hP : va_P D vwCl [(h0, .inr (3, [.ref q7, .ref q15, .null, .null, .int (iI 0)])), (q7, zA c7 12), (q15, zA c7 12)] H := hP
  have hD : va_D A [(h0, .inr (3, [.ref q7, .ref q15, .null, .null, .int (iI 0)])), (q7, zA c7 12), (q15, zA c7 12)] := hD
  refine lv_aload_n hx hb dX3_init_20 rfl (lv_at hl 0 rfl) ?_
  refine lv_bipush hx hb dX3_init_21 (rfl : _ = iI (12)) ?_
  refine va_newa (atype := .int) hx hb (hts (Cond.arrayClass .int) kw_113) rfl hK hP hD hS hA (a0 := (12, .inl (fun _ => iI 0))) (zA_i 12) (by decide +kernel) (N' := 12) (by decide +kernel) (Nat.le_of_ble_eq_true rfl) (Nat.le_of_ble_eq_true rfl) (Nat.le_of_ble_eq_true rfl) dX3_init_23 (fun q23 c23 H hK hP hD hS => ?_)
  have e23 : c7 = c23 := (ka_i hK (i := 0) (j := 1) rfl rfl).symm
  subst e23
  have hK := hK.sub (tys' := [(c7, .int)]) [0] rfl
  have hP : va_P D vwCl [(h0, .inr (3, [.ref q7, .ref q15, .null, .null, .int (iI 0)])), (q7, zA c7 12), (q15, zA c7 12), (q23, zA c7 12)] H := hP
  have hD : va_D A [(h0, .inr (3, [.ref q7, .ref q15, .null, .null, .int (iI 0)])), (q7, zA c7 12), (q15, zA c7 12), (q23, zA c7 12)] := hD
  refine va_putF (D := D) (ci := 3) (v := .ref q23) (ty := tyX3 2) (C := RX3) (T := TX3) (N := 5) hx hb hts inGX3 tyX3 tyX3_ok nmX3 hown hK hP hD hS 0 rfl rfl 2 (by decide) (hts _ kw_246) (fun _ h9 => h9) rfl hin rfl (tyX3_ok 2 (by decide)) rfl rfl (Nat.le_of_ble_eq_true rfl) dX3_init_25 (fun H locs hP hD hS => ?_)
  have hP : va_P D vwCl [(h0, .inr (3, [.ref q7, .ref q15, .ref q23, .null, .int (iI 0)])), (q7, zA c7 12), (q15, zA c7 12), (q23, zA c7 12)] H := hP
  have hD : va_D A [(h0, .inr (3, [.ref q7, .ref q15, .ref q23, .null, .int (iI 0)])), (q7, zA c7 12), (q15, zA c7 12), (q23, zA c7 12)] := hD
  refine lv_aload_n hx hb dX3_init_28 rfl (lv_at hl 0 rfl) ?_
  refine lv_bipush hx hb dX3_init_29 (rfl : _ = iI (12)) ?_
  refine va_newa (atype := .boolean) hx hb (hts (Cond.arrayClass .boolean) kw_263) rfl hK hP hD hS hA (a0 := (12, .inl (fun _ => iI 0))) (zA_z 12) (by decide +kernel) (N' := 12) (by decide +kernel) (Nat.le_of_ble_eq_true rfl) (Nat.le_of_ble_eq_true rfl) (Nat.le_of_ble_eq_true rfl) dX3_init_31 (fun q31 c31 H hK hP hD hS => ?_)
  have hK : va_K D vwCl [(c7, .int), (c31, .boolean)] s := hK
  have hP : va_P D vwCl [(h0, .inr (3, [.ref q7, .ref q15, .ref q23, .null, .int (iI 0)])), (q7, zA c7 12), (q15, zA c7 12), (q23, zA c7 12), (q31, zA c31 12)] H := hP
  have hD : va_D A [(h0, .inr (3, [.ref q7, .ref q15, .ref q23, .null, .int (iI 0)])), (q7, zA c7 12), (q15, zA c7 12), (q23, zA c7 12), (q31, zA c31 12)] := hD
  refine va_putF (D := D) (ci := 3) (v := .ref q31) (ty := tyX3 3) (C := RX3) (T := TX3) (N := 5) hx hb hts inGX3 tyX3 tyX3_ok nmX3 hown hK hP hD hS 0 rfl rfl 3 (by decide) (hts _ kw_248) (fun _ h9 => h9) rfl hin rfl (tyX3_ok 3 (by decide)) rfl rfl (Nat.le_of_ble_eq_true rfl) dX3_init_33 (fun H locs hP hD hS => ?_)
  have hP : va_P D vwCl [(h0, .inr (3, [.ref q7, .ref q15, .ref q23, .ref q31, .int (iI 0)])), (q7, zA c7 12), (q15, zA c7 12), (q23, zA c7 12), (q31, zA c31 12)] H := hP
  have hD : va_D A [(h0, .inr (3, [.ref q7, .ref q15, .ref q23, .ref q31, .int (iI 0)])), (q7, zA c7 12), (q15, zA c7 12), (q23, zA c7 12), (q31, zA c31 12)] := hD
  exact W.vret hx hb hr (fun t ht hW => ⟨⟨((fun j => [h0, q7, q15, q23, q31].getD j 0), (fun j => [c7, c31].getD j c7)), rfl, rfl, by rw [ht]; exact hP, va_K.moved hW.alike hK, hD⟩, hS.F ht⟩) hS.2.2 dX3_init_36 hlocks
/-- the world behind a constructor, by the addresses of what it made and the classes of its arrays -/
def wk_X4_init (h0 : Nat) (u : (Nat → Nat) × (Nat → ClassId)) : va_W := [(h0, .inr (4, [.ref (u.1 1), .ref (u.1 2), .ref (u.1 3), .int (iI 0)])), (u.1 1, zA (u.2 0) 26), (u.1 2, zA (u.2 0) 26), (u.1 3, zA (u.2 0) 26)]
def tk_X4_init (u : (Nat → Nat) × (Nat → ClassId)) : List (ClassId × FieldType) := [(u.2 0, .int)]
def bk_X4_init (D : va_G) (A : Nat → Prop) (h0 : Nat) (u : (Nat → Nat) × (Nat → ClassId)) (t : State) : Prop := va_P D vwCl (wk_X4_init h0 u) t.heap ∧ va_K D vwCl (tk_X4_init u) t ∧ va_D A (wk_X4_init h0 u)
abbrev w0_X4_init (h0 : Nat) : va_W := [(h0, .inr (4, [.null, .null, .null, .int (iI 0)]))]
set_option maxHeartbeats 400000 in
set_option maxRecDepth 100000 in
theorem k_X4_init (l : Launch) (D : va_G) (h0 sz : Nat) : Met l yX4_init (mw yX4_init cX4_init 1 none) { frames := 1, cells := 3, slots := 78, locals := 12 } (va_Pc [.ref h0] (fun U => U.heap.size = sz ∧ va_P D vwCl (w0_X4_init h0) U.heap ∧ va_K D vwCl [] U ∧ va_D (fun _ => True) (w0_X4_init h0))) (va_Qv (fun u : (Nat → Nat) × (Nat → ClassId) => u.1 0 = h0) (bk_X4_init D (va_A (w0_X4_init h0) sz) h0) (va_A (w0_X4_init h0) sz)) 3 78 (va_A (w0_X4_init h0) sz) := by
  refine Met.ofW (cc := cX4_init) (maxL := 1) (ret := none) (by decide) rfl ?_
  intro p e s m args below meth c s₁ B hml hv
  obtain ⟨rfl, hsz, hP, hK, hD0⟩ := hv
  have hx := B.exec
  have hb := B.bytes
  have hr := B.returns
  have hts0 := atoms_spec (ws := mw yX4_init cX4_init 1 none) B.pre
  have hts : ∀ w ∈ GW, w.before _ s = true := fun w hw => hts0 w (List.mem_cons_of_mem _ hw)
  have hown : s.vm.findClass RX4 = some m.cls := findClass_of_methodNamed B.named
  have hlocks := B.notSynchronized
  have hin : meth.name = "<init>" := (name_of_methodNamed B.named B.method).1
  subst hsz
  have hD := hD0.self (sz := s.heap.size)
  generalize hAe : va_A (w0_X4_init h0) s.heap.size = A at hD ⊢
  have hA : ∀ q : Nat, s.heap.size ≤ q → A q := fun q h => by rw [← hAe]; exact Or.inr h
  have hS : va_S A s.heap s.heap [] := va_S.rf
  have hP : va_P D vwCl [(h0, .inr (4, [.null, .null, .null, .int (iI 0)]))] s.heap := hP
  have hl := lv_entry ([.ref h0]) (n := 1) (Nat.le_of_ble_eq_true rfl)
  rw [lg_entry_eq]
  generalize (lg_sl ([.ref h0]) ++ List.replicate (1 - (lg_sl ([.ref h0])).length) Slot.unset).toArray = ls at hl ⊢
  have hl : lv_has ls 1 [(0, .ref h0)] := hl
  refine lv_aload_n hx hb dX4_init_0 rfl (lv_at hl 0 rfl) ?_
  refine W.objInit hx hb hown (hts _ kw_218) (hts _ kw_80) (hts _ kw_81) rfl (by rw [hml]; exact hl.1) rfl dX4_init_1 (Nat.le_of_ble_eq_true rfl) (Nat.le_of_ble_eq_true rfl) ?_
  refine W.eq (g2 := F0 m 4 ls []) rfl ?_
  refine lv_aload_n hx hb dX4_init_4 rfl (lv_at hl 0 rfl) ?_
  refine lv_bipush hx hb dX4_init_5 (rfl : _ = iI (26)) ?_
  refine va_newa (atype := .int) hx hb (hts (Cond.arrayClass .int) kw_113) rfl hK hP hD hS hA (a0 := (26, .inl (fun _ => iI 0))) (zA_i 26) (by decide +kernel) (N' := 26) (by decide +kernel) (Nat.le_of_ble_eq_true rfl) (Nat.le_of_ble_eq_true rfl) (Nat.le_of_ble_eq_true rfl) dX4_init_7 (fun q7 c7 H hK hP hD hS => ?_)
  have hK : va_K D vwCl [(c7, .int)] s := hK
  have hP : va_P D vwCl [(h0, .inr (4, [.null, .null, .null, .int (iI 0)])), (q7, zA c7 26)] H := hP
  have hD : va_D A [(h0, .inr (4, [.null, .null, .null, .int (iI 0)])), (q7, zA c7 26)] := hD
  refine va_putF (D := D) (ci := 4) (v := .ref q7) (ty := tyX4 0) (C := RX4) (T := TX4) (N := 4) hx hb hts inGX4 tyX4 tyX4_ok nmX4 hown hK hP hD hS 0 rfl rfl 0 (by decide) (hts _ kw_219) (fun _ h9 => h9) rfl hin rfl (tyX4_ok 0 (by decide)) rfl rfl (Nat.le_of_ble_eq_true rfl) dX4_init_9 (fun H locs hP hD hS => ?_)
  have hP : va_P D vwCl [(h0, .inr (4, [.ref q7, .null, .null, .int (iI 0)])), (q7, zA c7 26)] H := hP
  have hD : va_D A [(h0, .inr (4, [.ref q7, .null, .null, .int (iI 0)])), (q7, zA c7 26)] := hD
  refine lv_aload_n hx hb dX4_init_12 rfl (lv_at hl 0 rfl) ?_
  refine lv_bipush hx hb dX4_init_13 (rfl : _ = iI (26)) ?_
  refine va_newa (atype := .int) hx hb (hts (Cond.arrayClass .int) kw_113) rfl hK hP hD hS hA (a0 := (26, .inl (fun _ => iI 0))) (zA_i 26) (by decide +kernel) (N' := 26) (by decide +kernel) (Nat.le_of_ble_eq_true rfl) (Nat.le_of_ble_eq_true rfl) (Nat.le_of_ble_eq_true rfl) dX4_init_15 (fun q15 c15 H hK hP hD hS => ?_)
  have e15 : c7 = c15 := (ka_i hK (i := 0) (j := 1) rfl rfl).symm
  subst e15
  have hK := hK.sub (tys' := [(c7, .int)]) [0] rfl
  have hP : va_P D vwCl [(h0, .inr (4, [.ref q7, .null, .null, .int (iI 0)])), (q7, zA c7 26), (q15, zA c7 26)] H := hP
  have hD : va_D A [(h0, .inr (4, [.ref q7, .null, .null, .int (iI 0)])), (q7, zA c7 26), (q15, zA c7 26)] := hD
  refine va_putF (D := D) (ci := 4) (v := .ref q15) (ty := tyX4 1) (C := RX4) (T := TX4) (N := 4) hx hb hts inGX4 tyX4 tyX4_ok nmX4 hown hK hP hD hS 0 rfl rfl 1 (by decide) (hts _ kw_221) (fun _ h9 => h9) rfl hin rfl (tyX4_ok 1 (by decide)) rfl rfl (Nat.le_of_ble_eq_true rfl) dX4_init_17 (fun H locs hP hD hS => ?_)
  have hP : va_P D vwCl [(h0, .inr (4, [.ref q7, .ref q15, .null, .int (iI 0)])), (q7, zA c7 26), (q15, zA c7 26)] H := hP
  have hD : va_D A [(h0, .inr (4, [.ref q7, .ref q15, .null, .int (iI 0)])), (q7, zA c7 26), (q15, zA c7 26)] := hD
  refine lv_aload_n hx hb dX4_init_20 rfl (lv_at hl 0 rfl) ?_
  refine lv_bipush hx hb dX4_init_21 (rfl : _ = iI (26)) ?_
  refine va_newa (atype := .int) hx hb (hts (Cond.arrayClass .int) kw_113) rfl hK hP hD hS hA (a0 := (26, .inl (fun _ => iI 0))) (zA_i 26) (by decide +kernel) (N' := 26) (by decide +kernel) (Nat.le_of_ble_eq_true rfl) (Nat.le_of_ble_eq_true rfl) (Nat.le_of_ble_eq_true rfl) dX4_init_23 (fun q23 c23 H hK hP hD hS => ?_)
  have e23 : c7 = c23 := (ka_i hK (i := 0) (j := 1) rfl rfl).symm
  subst e23
  have hK := hK.sub (tys' := [(c7, .int)]) [0] rfl
  have hP : va_P D vwCl [(h0, .inr (4, [.ref q7, .ref q15, .null, .int (iI 0)])), (q7, zA c7 26), (q15, zA c7 26), (q23, zA c7 26)] H := hP
  have hD : va_D A [(h0, .inr (4, [.ref q7, .ref q15, .null, .int (iI 0)])), (q7, zA c7 26), (q15, zA c7 26), (q23, zA c7 26)] := hD
  refine va_putF (D := D) (ci := 4) (v := .ref q23) (ty := tyX4 2) (C := RX4) (T := TX4) (N := 4) hx hb hts inGX4 tyX4 tyX4_ok nmX4 hown hK hP hD hS 0 rfl rfl 2 (by decide) (hts _ kw_223) (fun _ h9 => h9) rfl hin rfl (tyX4_ok 2 (by decide)) rfl rfl (Nat.le_of_ble_eq_true rfl) dX4_init_25 (fun H locs hP hD hS => ?_)
  have hP : va_P D vwCl [(h0, .inr (4, [.ref q7, .ref q15, .ref q23, .int (iI 0)])), (q7, zA c7 26), (q15, zA c7 26), (q23, zA c7 26)] H := hP
  have hD : va_D A [(h0, .inr (4, [.ref q7, .ref q15, .ref q23, .int (iI 0)])), (q7, zA c7 26), (q15, zA c7 26), (q23, zA c7 26)] := hD
  exact W.vret hx hb hr (fun t ht hW => ⟨⟨((fun j => [h0, q7, q15, q23].getD j 0), (fun j => [c7].getD j c7)), rfl, rfl, by rw [ht]; exact hP, va_K.moved hW.alike hK, hD⟩, hS.F ht⟩) hS.2.2 dX4_init_28 hlocks
/-- the world behind a constructor, by the addresses of what it made and the classes of its arrays -/
def wk_X6_init (h0 : Nat) (u : (Nat → Nat) × (Nat → ClassId)) : va_W := [(h0, .inr (6, [.ref (u.1 1), .int (iI (-1)), .int (iI 0)])), (u.1 1, zA (u.2 0) 64)]
def tk_X6_init (u : (Nat → Nat) × (Nat → ClassId)) : List (ClassId × FieldType) := [(u.2 0, .int)]
def bk_X6_init (D : va_G) (A : Nat → Prop) (h0 : Nat) (u : (Nat → Nat) × (Nat → ClassId)) (t : State) : Prop := va_P D vwCl (wk_X6_init h0 u) t.heap ∧ va_K D vwCl (tk_X6_init u) t ∧ va_D A (wk_X6_init h0 u)
abbrev w0_X6_init (h0 : Nat) : va_W := [(h0, .inr (6, [.null, .int (iI 0), .int (iI 0)]))]
set_option maxHeartbeats 400000 in
set_option maxRecDepth 100000 in
theorem k_X6_init (l : Launch) (D : va_G) (h0 sz : Nat) : Met l yX6_init (mw yX6_init cX6_init 1 none) { frames := 1, cells := 1, slots := 64, locals := 12 } (va_Pc [.ref h0] (fun U => U.heap.size = sz ∧ va_P D vwCl (w0_X6_init h0) U.heap ∧ va_K D vwCl [] U ∧ va_D (fun _ => True) (w0_X6_init h0))) (va_Qv (fun u : (Nat → Nat) × (Nat → ClassId) => u.1 0 = h0) (bk_X6_init D (va_A (w0_X6_init h0) sz) h0) (va_A (w0_X6_init h0) sz)) 1 64 (va_A (w0_X6_init h0) sz) := by
  refine Met.ofW (cc := cX6_init) (maxL := 1) (ret := none) (by decide) rfl ?_
  intro p e s m args below meth c s₁ B hml hv
  obtain ⟨rfl, hsz, hP, hK, hD0⟩ := hv
  have hx := B.exec
  have hb := B.bytes
  have hr := B.returns
  have hts0 := atoms_spec (ws := mw yX6_init cX6_init 1 none) B.pre
  have hts : ∀ w ∈ GW, w.before _ s = true := fun w hw => hts0 w (List.mem_cons_of_mem _ hw)
  have hown : s.vm.findClass RX6 = some m.cls := findClass_of_methodNamed B.named
  have hlocks := B.notSynchronized
  have hin : meth.name = "<init>" := (name_of_methodNamed B.named B.method).1
  subst hsz
  have hD := hD0.self (sz := s.heap.size)
  generalize hAe : va_A (w0_X6_init h0) s.heap.size = A at hD ⊢
  have hA : ∀ q : Nat, s.heap.size ≤ q → A q := fun q h => by rw [← hAe]; exact Or.inr h
  have hS : va_S A s.heap s.heap [] := va_S.rf
  have hP : va_P D vwCl [(h0, .inr (6, [.null, .int (iI 0), .int (iI 0)]))] s.heap := hP
  have hl := lv_entry ([.ref h0]) (n := 1) (Nat.le_of_ble_eq_true rfl)
  rw [lg_entry_eq]
  generalize (lg_sl ([.ref h0]) ++ List.replicate (1 - (lg_sl ([.ref h0])).length) Slot.unset).toArray = ls at hl ⊢
  have hl : lv_has ls 1 [(0, .ref h0)] := hl
  refine lv_aload_n hx hb dX6_init_0 rfl (lv_at hl 0 rfl) ?_
  refine W.objInit hx hb hown (hts _ kw_270) (hts _ kw_80) (hts _ kw_81) rfl (by rw [hml]; exact hl.1) rfl dX6_init_1 (Nat.le_of_ble_eq_true rfl) (Nat.le_of_ble_eq_true rfl) ?_
  refine W.eq (g2 := F0 m 4 ls []) rfl ?_
  refine lv_aload_n hx hb dX6_init_4 rfl (lv_at hl 0 rfl) ?_
  refine lv_bipush hx hb dX6_init_5 (rfl : _ = iI (64)) ?_
  refine va_newa (atype := .int) hx hb (hts (Cond.arrayClass .int) kw_113) rfl hK hP hD hS hA (a0 := (64, .inl (fun _ => iI 0))) (zA_i 64) (by decide +kernel) (N' := 64) (by decide +kernel) (Nat.le_of_ble_eq_true rfl) (Nat.le_of_ble_eq_true rfl) (Nat.le_of_ble_eq_true rfl) dX6_init_7 (fun q7 c7 H hK hP hD hS => ?_)
  have hK : va_K D vwCl [(c7, .int)] s := hK
  have hP : va_P D vwCl [(h0, .inr (6, [.null, .int (iI 0), .int (iI 0)])), (q7, zA c7 64)] H := hP
  have hD : va_D A [(h0, .inr (6, [.null, .int (iI 0), .int (iI 0)])), (q7, zA c7 64)] := hD
  refine va_putF (D := D) (ci := 6) (v := .ref q7) (ty := tyX6 0) (C := RX6) (T := TX6) (N := 3) hx hb hts inGX6 tyX6 tyX6_ok nmX6 hown hK hP hD hS 0 rfl rfl 0 (by decide) (hts _ kw_271) (fun _ h9 => h9) rfl hin rfl (tyX6_ok 0 (by decide)) rfl rfl (Nat.le_of_ble_eq_true rfl) dX6_init_9 (fun H locs hP hD hS => ?_)
  have hP : va_P D vwCl [(h0, .inr (6, [.ref q7, .int (iI 0), .int (iI 0)])), (q7, zA c7 64)] H := hP
  have hD : va_D A [(h0, .inr (6, [.ref q7, .int (iI 0), .int (iI 0)])), (q7, zA c7 64)] := hD
  refine lv_aload_n hx hb dX6_init_12 rfl (lv_at hl 0 rfl) ?_
  refine lv_iconst hx hb dX6_init_13 (rfl : _ = iI (-1)) ?_
  refine va_put (D := D) (ci := 6) (v := .int (iI (-1))) (ty := tyX6 1) (C := RX6) (T := TX6) (N := 3) hx hb hts inGX6 tyX6 tyX6_ok nmX6 hown hK hP hD hS 0 rfl rfl 1 (by decide) (hts _ kw_273) (fun _ h9 => h9) rfl (tyX6_ok 1 (by decide)) rfl rfl (Nat.le_of_ble_eq_true rfl) dX6_init_14 (fun H locs hP hD hS => ?_)
  have hP : va_P D vwCl [(h0, .inr (6, [.ref q7, .int (iI (-1)), .int (iI 0)])), (q7, zA c7 64)] H := hP
  have hD : va_D A [(h0, .inr (6, [.ref q7, .int (iI (-1)), .int (iI 0)])), (q7, zA c7 64)] := hD
  exact W.vret hx hb hr (fun t ht hW => ⟨⟨((fun j => [h0, q7].getD j 0), (fun j => [c7].getD j c7)), rfl, rfl, by rw [ht]; exact hP, va_K.moved hW.alike hK, hD⟩, hS.F ht⟩) hS.2.2 dX6_init_17 hlocks
