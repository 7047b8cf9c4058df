/-- the first values of the laws, as the code's static array has them -/
def EnL (t0 : Nat) (A : Nat → Prop) (U : State) (H : Heap) : Prop := va_Z "TongueSight" "AT_FIRST" "[I" (.ref t0) A U H ∧ va_T .int t0 12 (fun j => .int (iI (sAf.getD j 0))) A U H ∧ va_Nw (.fieldLinkNest "TongueSight$Laws" 21 "TongueSight" "AT_FIRST" "[I" "TongueSight") U
theorem EnL_call {t0 : Nat} {A B : Nat → Prop} {s U : State} {H : Heap} {locs : List Loc} (h : EnL t0 A s s.heap) (hS : va_S A s.heap H locs) (hW : s.WarmedH U.vm) (hAB : ∀ q, B q → A q) : EnL t0 B U H := by
  obtain ⟨h1, h2, h3⟩ := h
  have hq : ∀ a : Nat, a < s.heap.size → ¬ A a → H[a]? = s.heap[a]? := fun a g1 g2 => hS.2.1 a g1 g2
  exact ⟨((va_Z.moved hW.alike h1).kept hq).narrow hAB, ((va_T.moved hW.alike h2).kept hq).narrow hAB, va_Nw.warmF hW h3⟩
theorem EnL_blind {t0 : Nat} {A : Nat → Prop} {U : State} {H : Heap} (g : JFrame) (mk : MethodId) (a : Array Value) (h : EnL t0 A U H) : EnL t0 A (U.calling g mk a) H := by
  obtain ⟨h1, h2, h3⟩ := h
  have ha : U.vm.Alike (U.calling g mk a).vm := Vm.Alike.refl U.vm
  exact ⟨va_Z.moved (u := U) ha h1, va_T.moved (u := U) ha h2, va_Nw.same rfl rfl h3⟩
/-- the laws as they are at first -/
def fA (f : Nat → Int32) : Nat → Int32 := va_cpy (fun j => iI (sAf.getD j 0)) f 0 0 12
abbrev wL (h0 q1 q2 : Nat) (cA : ClassId) (f g : Nat → Int32) : va_W := [(h0, .inr (1, [.ref q1, .ref q2])), (q1, .inl (cA, 12, .inl f)), (q2, .inl (cA, 16, .inl g))]
set_option maxHeartbeats 400000 in
set_option maxRecDepth 100000 in
theorem k_X1_toFirst (l : Launch) (D : va_G) (h0 q1 q2 t0 sz : Nat) (cA : ClassId) (f g : Nat → Int32) : Met l yX1_toFirst (mw yX1_toFirst cX1_toFirst 1 none) { frames := 1, cells := 0, slots := 0, locals := 26 } (va_Pc [.ref h0] (fun U => U.heap.size = sz ∧ va_P D vwCl (wL h0 q1 q2 cA f g) U.heap ∧ va_K D vwCl [(cA, .int)] U ∧ va_D (fun _ => True) (wL h0 q1 q2 cA f g) ∧ EnL t0 (va_A (wL h0 q1 q2 cA f g) sz) U U.heap)) (va_Qv (fun _ : Unit => True) (fun _ t => va_P D vwCl (wL h0 q1 q2 cA (fA f) (flK 16 1 g)) t.heap ∧ va_K D vwCl [(cA, .int)] t ∧ va_D (va_A (wL h0 q1 q2 cA f g) sz) (wL h0 q1 q2 cA (fA f) (flK 16 1 g))) (va_A (wL h0 q1 q2 cA f g) sz)) 0 0 (va_A (wL h0 q1 q2 cA f g) sz) := by
  refine Met.ofW (cc := cX1_toFirst) (maxL := 1) (ret := none) (by decide) rfl ?_
  intro p e s m args below meth c s₁ B hml hv
  obtain ⟨rfl, hsz, hP, hK, hD0, hE⟩ := hv
  have hx := B.exec
  have hb := B.bytes
  have hr := B.returns
  have hts0 := atoms_spec (ws := mw yX1_toFirst cX1_toFirst 1 none) B.pre
  have hts : ∀ w ∈ GW, w.before _ s = true := fun w hw => hts0 w (List.mem_cons_of_mem _ hw)
  have hown : s.vm.findClass RX1 = some m.cls := findClass_of_methodNamed B.named
  have hlocks := B.notSynchronized
  subst hsz
  have hD := hD0.self (sz := s.heap.size)
  generalize hAe : va_A (wL h0 q1 q2 cA f g) s.heap.size = A at hD hE ⊢
  have hA : ∀ q : Nat, s.heap.size ≤ q → A q := fun q h => by rw [← hAe]; exact Or.inr h
  have hS : va_S A s.heap s.heap [] := va_S.rf
  have hP : va_P D vwCl (wL h0 q1 q2 cA f g) s.heap := hP
  have hl := lv_entry ([.ref h0]) (n := 1) (Nat.le_of_ble_eq_true rfl)
  rw [lg_entry_eq]
  generalize (lg_sl ([.ref h0]) ++ List.replicate (1 - (lg_sl ([.ref h0])).length) Slot.unset).toArray = ls at hl ⊢
  have hl : lv_has ls 1 [(0, .ref h0)] := hl
  refine va_getsN hx hb hE.1 hS hown (va_Nw.use rfl hE.2.2) (fun _ h => h) dX1_toFirst_0 ?_
  refine lv_iconst hx hb dX1_toFirst_3 (rfl : _ = iI 0) ?_
  refine lv_aload_n hx hb dX1_toFirst_4 rfl (lv_at hl 0 rfl) ?_
  refine va_get (D := D) (ci := 1) (C := RX1) (T := TX1) (N := 2) hx hb hts inGX1 hown hK hP 0 rfl rfl 0 (by decide) (hts _ kw_100) (fun _ h9 => h9) (v := .ref q1) rfl dX1_toFirst_5 ?_
  refine lv_iconst hx hb dX1_toFirst_8 (rfl : _ = iI 0) ?_
  refine lv_bipush hx hb dX1_toFirst_9 (rfl : _ = iI 12) ?_
  refine w_copyS (lst := sAf) hx hb (hml.trans hl.1.symm) hown hts kw_94 hK hP hD hS hE.2.1 1 0 rfl rfl (k := 12) (by omega) (by decide) (by decide) (by omega) (Nat.le_of_ble_eq_true rfl) (Nat.le_of_ble_eq_true rfl) (Nat.le_of_ble_eq_true rfl) dX1_toFirst_11 (fun H locs hP hD hS => ?_)
  have hP : va_P D vwCl (wL h0 q1 q2 cA (fA f) g) H := hP
  have hD : va_D A (wL h0 q1 q2 cA (fA f) g) := hD
  refine lv_aload_n hx hb dX1_toFirst_14 rfl (lv_at hl 0 rfl) ?_
  refine va_get (D := D) (ci := 1) (C := RX1) (T := TX1) (N := 2) hx hb hts inGX1 hown hK hP 0 rfl rfl 1 (by decide) (hts _ kw_104) (fun _ h9 => h9) (v := .ref q2) rfl dX1_toFirst_15 ?_
  refine lv_iconst hx hb dX1_toFirst_18 (rfl : _ = iI 1) ?_
  have hPc := hP.sub (ws' := [(q2, .inl (cA, 16, .inl g))]) [2] rfl
  have hDc := hD.sub (ws' := [(q2, .inl (cA, 16, .inl g))]) [2] (by decide) rfl
  have hFc := va_free (wc := [(q2, .inl (cA, 16, .inl g))]) hD hS hA [2] rfl
  refine va_callv (va_runS (As := [.ref q2, .int (iI 1)]) (rest := []) (bytes := cJ7_fill_53178) (maxL := 4) (ret := none) (n := 2) (index := 30) ⟨hx, hb, rfl, hown, hts⟩ (k_fill l D q2 16 H.size cA 1 g (by omega)) ⟨callB_of 2 hts (mw_good cs_J7_fill_53178.1) rfl rfl rfl (hts _ cs_J7_fill_53178.2.2.1) (hts _ kw_97) cs_J7_fill_53178.2.2.2 ⟨Nat.le_of_ble_eq_true rfl, Nat.le_of_ble_eq_true rfl⟩, hts _ cs_J7_fill_53178.2.1⟩ ⟨fun a U g mk q => by obtain ⟨r0, r1, r2, r3, r4⟩ := q; exact ⟨r0, r1, r2, va_K.moved (u := U) (U := U.calling g mk a) (Vm.Alike.refl U.vm) r3, r4⟩, fun U hU hW => ⟨rfl, by rw [hU], by rw [hU]; exact hPc, va_K.moved hW.alike hK, hDc.weaken (fun _ _ _ _ => trivial)⟩⟩ rfl rfl (hl.1.trans hml.symm) rfl (lv_room (Nat.le_of_ble_eq_true rfl)) dX1_toFirst_19 ⟨Nat.le_of_ble_eq_true rfl, Nat.le_of_ble_eq_true rfl⟩) hS (fun q _ h => hFc q h) hFc (fun u t H1 locs ht hvm h5 hB hz1 hk1 hS => ?_)
  obtain ⟨hP1, hK1, hD1⟩ := hB
  rw [ht] at hP1
  obtain ⟨hP, hD⟩ := va_join (wr := [(h0, .inr (1, [.ref q1, .ref q2])), (q1, .inl (cA, 12, .inl (fA f)))]) (w1 := [(q2, .inl (cA, 16, .inl (flK 16 1 g)))]) hP hD [2] [0, 1] rfl rfl (by decide) (by decide) hk1 hFc hP1 hD1
  have hP : va_P D vwCl (wL h0 q1 q2 cA (fA f) (flK 16 1 g)) H1 := hP
  have hD : va_D A (wL h0 q1 q2 cA (fA f) (flK 16 1 g)) := hD
  exact W.vret hx hb hr (fun t ht hW => ⟨⟨(), rfl, trivial, by rw [ht]; exact hP, va_K.moved hW.alike hK, hD⟩, hS.F ht⟩) hS.2.2 dX1_toFirst_22 hlocks
