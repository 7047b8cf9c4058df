/-! THE CLAIM OUT OF ONE WALK OF THE LAW'S BODY. Your part is whole_start (and what it stands on); all else here is the same for every law, but numbers. -/
def R_law : String := "TongueSightLaw"
def lw_P (b : Addr) (xs : List Int32) (args : Array Value) (s : State) : Prop := args = #[.ref b] ∧ s.IntsAt b xs ∧ xs.length ≤ 3584 ∧ (Jvm.Cond.and given_1 narrow_1).before args s = true
def lw_Q (_ : Array Value) (s : State) (o : Outcome) (t : State) : Prop := o = .returned (some (.int 1)) ∧ Framed s o t [] 600000 7302250
def lw_Z (below : List Frame) (a : Array Value) (s : State) : State → Prop := fun t => ∃ o, t.status = .running ∧ Ended t below o ∧ lw_Q a s o t
/-- the law's own end, with 1 on the stack, nothing written that was there before, its room as the claim has it -/
theorem lw_ret {p : Program} {l : Launch} {e : Env} {s : State} {m : MethodId} {below : List Frame} {meth : Method} {c : Code} {b : Nat} (hx : p.tables.exec = Jvm.exec) (hb : c.code = code) (hr : meth.sig.returnType = ret) (hlocks : meth.locks = false) {pc : Nat} {H : Heap} {ls : Array Slot} (hdg : decode code pc = .ok (.ireturn, 1)) : W p l e room_1 s m #[Value.ref b] below meth c H [] 600000 7302250 (lw_Z below #[Value.ref b] s) (F0 m pc ls [.int 1]) := by
  intro T hT X
  obtain ⟨fs, hret, hrun, hended, hW, hframe⟩ := X.leave (v := some (.int 1)) (hlocks := hlocks) (fun h => by rw [hr] at h; cases h)
  have hmeth' : T.vm.method? m = some meth := X.method'
  refine ⟨T.setFrames fs, ?_, .returned (some (.int 1)), hrun, hended, rfl, ⟨_, rfl⟩, hW, hframe⟩
  jvm_step X.here [X.here.top, hx, hb, hdg, hmeth', hr, ret, narrow_b1]
  (try refine ⟨rfl, ?_⟩); (try refine ⟨rfl, ?_⟩)
  first | (intro acts; rw [hret _ acts rfl rfl rfl]) | rw [hret _ _ rfl rfl rfl]
  exact Steps.refl _
/-- what holds at the law's entry: the machine, the code, the tables' words (any of lw_tbl by 'hts w (by decide +kernel)'), the script of L ints xs at the cell b, what the Statement gives of the start (any of its parts by flat_of_before) -/
def lw_At (p : Program) (s : State) (m : MethodId) (meth : Method) (c : Code) (b L : Nat) (xs : Nat → Int32) : Prop :=
  p.tables.exec = Jvm.exec ∧ c.code = code ∧ meth.sig.returnType = ret ∧ c.maxLocals = 4 ∧ s.vm.findClass R_law = some m.cls ∧ (∀ w ∈ lw_tbl, w.before #[Value.ref b] s = true) ∧ va_X b L xs s s.heap ∧ b < s.heap.size ∧ meth.locks = false ∧ (Jvm.Cond.and given_1 narrow_1).before #[Value.ref b] s = true
theorem u_all {s : State} {b : Nat} (hts : ∀ w ∈ GW, w.before #[Value.ref b] s = true) : ∃ D : va_G, va_K D vwCl [] s := by
  obtain ⟨c0, i0, h0⟩ := u_known (C := RX0) (T := TX0) (N := 5) (n := 5) hts inGX0 (hts _ kw_174)
  obtain ⟨c1, i1, h1⟩ := u_known (C := RX1) (T := TX1) (N := 2) (n := 2) hts inGX1 (hts _ kw_83)
  obtain ⟨c2, i2, h2⟩ := u_known (C := RX2) (T := TX2) (N := 2) (n := 2) hts inGX2 (hts _ kw_200)
  obtain ⟨c3, i3, h3⟩ := u_known (C := RX3) (T := TX3) (N := 5) (n := 5) hts inGX3 (hts _ kw_237)
  obtain ⟨c4, i4, h4⟩ := u_known (C := RX4) (T := TX4) (N := 4) (n := 4) hts inGX4 (hts _ kw_214)
  obtain ⟨c5, i5, h5⟩ := u_known (C := RX5) (T := TX5) (N := 15) (n := 15) hts inGX5 (hts _ kw_115)
  obtain ⟨c6, i6, h6⟩ := u_known (C := RX6) (T := TX6) (N := 3) (n := 3) hts inGX6 (hts _ kw_266)
  obtain ⟨c7, i7, h7⟩ := u_known (C := RX7) (T := TX7) (N := 15) (n := 15) hts inGX7 (hts _ kw_75)
  obtain ⟨c8, i8, h8⟩ := u_known (C := RX8) (T := TX8) (N := 46) (n := 46) hts inGX8 (hts _ kw_800)
  refine ⟨(fun k => [c0, c1, c2, c3, c4, c5, c6, c7, c8].getD k c0, fun k => [i0, i1, i2, i3, i4, i5, i6, i7, i8].getD k i0), fun k q hq => ?_, fun k q h => by simp at h⟩
  match k, hq with
  | 0, hq => cases hq; exact h0
  | 1, hq => cases hq; exact h1
  | 2, hq => cases hq; exact h2
  | 3, hq => cases hq; exact h3
  | 4, hq => cases hq; exact h4
  | 5, hq => cases hq; exact h5
  | 6, hq => cases hq; exact h6
  | 7, hq => cases hq; exact h7
  | 8, hq => cases hq; exact h8
  | k + 9, hq => simp [vwCl] at hq
theorem P_l {D : va_G} {cl : List vw_C} {a b : va_W} {H : Heap} (h : va_P D cl (a ++ b) H) : va_P D cl a H := fun k q hk => h k q (by rw [List.getElem?_append_left (List.getElem?_eq_some_iff.mp hk).1]; exact hk)
theorem P_r {D : va_G} {cl : List vw_C} {a b : va_W} {H : Heap} (h : va_P D cl (a ++ b) H) : va_P D cl b H := fun k q hk => h (a.length + k) q (by rw [List.getElem?_append_right (Nat.le_add_right _ _), Nat.add_sub_cancel_left]; exact hk)
theorem D_r {A : Nat → Prop} {a b : va_W} (h : va_D A (a ++ b)) : va_D A b := by
  have key : ∀ (k : Nat) (q : Nat × va_E), b[k]? = some q → (a ++ b)[a.length + k]? = some q := fun k q hk => by rw [List.getElem?_append_right (Nat.le_add_right _ _), Nat.add_sub_cancel_left]; exact hk
  refine ⟨fun i j p q hi hj e => ?_, fun k q hk => h.2 _ q (key k q hk)⟩
  have := h.1 _ _ p q (key i p hi) (key j q hj) e
  omega
theorem D_nil {A : Nat → Prop} : va_D A [] := ⟨fun i j p q h => by simp at h, fun k q h => by simp at h⟩
theorem P_nil {D : va_G} {H : Heap} : va_P D vwCl [] H := fun k q h => by simp at h
theorem E_L {st aK aV : Nat → Nat} {A : Nat → Prop} {U : State} {H : Heap} (h : EnS st aK aV A U H) : EnL (st 0) A U H := by
  obtain ⟨h1, h2, h3, -⟩ := h
  exact ⟨(h1 0 _ rfl).1, (h1 0 _ rfl).2, h3 ("TongueSight$Laws", 21, "TongueSight", "AT_FIRST", "[I", "TongueSight") List.mem_cons_self⟩
abbrev xL (p : Program) (l : Launch) (e : Env) (s : State) (m : MethodId) (below : List Frame) (meth : Method) (c : Code) (b : Nat) : Cx := ((p, l, e, room_1), (s, m, #[Value.ref b], below), (meth, c), lw_Z below #[Value.ref b] s, fun q : Nat => s.heap.size ≤ q, (4, 99, 11448))
set_option maxRecDepth 10000 in
theorem whole_end {p : Program} {l : Launch} {e : Env} {s : State} {m : MethodId} {below : List Frame} {meth : Method} {c : Code} {b : Nat} (hx : p.tables.exec = Jvm.exec) (hb : c.code = code) (hr : meth.sig.returnType = ret) (hlocks : meth.locks = false) {E : Ev} (N : Mem) (lv : List (Nat × Value)) : Vx (xL p l e s m below meth c b) E N 1407 lv [.int (iI 1)] := by
  intro hw H locs ls hP hS hl
  show W p l e room_1 s m #[Value.ref b] below meth c H locs 99 11448 (lw_Z below #[Value.ref b] s) (F0 m 1407 ls [.int (iI 1)])
  refine va_forget (fun q hq => hS.2.2 q hq) ?_
  refine W.widen (k := 600000) (n := 7302250) (by decide) (by decide) ?_
  exact lw_ret hx hb hr hlocks dL_law_1407
set_option maxHeartbeats 4000000 in
set_option maxRecDepth 100000 in
theorem whole_start {p : Program} {e : Env} {s : State} {m : MethodId} {below : List Frame} {meth : Method} {c : Code} (l : Launch) {b L : Nat} {xs : Nat → Int32} (hL : L ≤ 3584) (C0 : lw_At p s m meth c b L xs) : W p l e room_1 s m #[Value.ref b] below meth c s.heap [] 0 0 (lw_Z below #[Value.ref b] s) (entryFrame m ([Value.ref b] : List Value).toArray 4) := by
  obtain ⟨hx, hb, hr, hml, hown0, htsT, hX, hbl, hlocks, hgv⟩ := id C0
  have hts : ∀ w ∈ GW, w.before #[Value.ref b] s = true := fun w hw => htsT w (GW_in w hw)
  have hown : s.vm.findClass "TongueSightLaw" = some m.cls := hown0
  have hA : ∀ q : Nat, s.heap.size ≤ q → (fun q : Nat => s.heap.size ≤ q) q := fun _ h => h
  have hbA : ¬ (fun q : Nat => s.heap.size ≤ q) b := Nat.not_le.mpr hbl
  obtain ⟨st, aK, aV, hE⟩ := s_env (A := fun q : Nat => s.heap.size ≤ q) htsT hgv (fun a h => Nat.not_le.mpr h)
  have hN := s_nest htsT
  obtain ⟨hO0, hO6⟩ := s_ao htsT
  have hEL := E_L hE
  obtain ⟨D, hK⟩ := u_all hts
  have hS : va_S (fun q : Nat => s.heap.size ≤ q) s.heap s.heap [] := va_S.rf
  have hP : va_P D vwCl [] s.heap := P_nil
  have hD : va_D (fun q : Nat => s.heap.size ≤ q) [] := D_nil
  have hl := lv_entry ([.ref b]) (n := 4) (Nat.le_of_ble_eq_true rfl)
  rw [lg_entry_eq]
  generalize (lg_sl ([.ref b]) ++ List.replicate (4 - (lg_sl ([.ref b])).length) Slot.unset).toArray = ls at hl ⊢
  have hl : lv_has ls 4 [(0, .ref b)] := hl
  refine va_new (ci := 7) (fs := [.null, .null, .null, .null, .null, .null, .null, .null, .null, .null, .null, .null, .int (iI 0), .int (iI 0), .int (iI 0)]) (C := RX7) (T := TX7) (N := 15) hx hb hts inGX7 tyX7 tyX7_ok hown (hts _ kw_74) (hts _ kw_75) (hts _ kw_57) hK hP hD hS hA rfl (fun j hj => by rcases (show j = 0 ∨ j = 1 ∨ j = 2 ∨ j = 3 ∨ j = 4 ∨ j = 5 ∨ j = 6 ∨ j = 7 ∨ j = 8 ∨ j = 9 ∨ j = 10 ∨ j = 11 ∨ j = 12 ∨ j = 13 ∨ j = 14 by omega) with rfl | rfl | rfl | rfl | rfl | rfl | rfl | rfl | rfl | rfl | rfl | rfl | rfl | rfl | rfl <;> rfl) (Nat.le_of_ble_eq_true rfl) (Nat.le_of_ble_eq_true rfl) dL_law_0 (fun q7 H hP hD hS => ?_)
  have hP : va_P D vwCl (w0_X7_init q7) H := hP
  have hD : va_D (fun q : Nat => s.heap.size ≤ q) (w0_X7_init q7) := hD
  refine lv_dup hx hb dL_law_3 rfl ?_
  have hFc := va_free (wc := w0_X7_init q7) hD hS hA [0] rfl
  refine va_callv (va_runI (As := []) (rest := [.ref q7]) (bytes := cX7_init) (maxL := 2) (n := 0) (index := 9) ⟨hx, hb, rfl, hown, hts⟩ (k_X7_init l D q7 (st 0) H.size) ⟨callB_of 0 hts (mw_good kw_78) rfl rfl rfl (hts _ kw_57) (hts _ kw_76) ⟨by decide, by decide, by decide +kernel⟩ ⟨(Nat.le_of_ble_eq_true rfl), (Nat.le_of_ble_eq_true rfl)⟩, rfl, hts _ kw_77⟩ ⟨fun a U g mk q => by obtain ⟨r0, r1, r2, r3, r4, r5, r6, r7, r8⟩ := q; exact ⟨r0, r1, r2, va_K.moved (u := U) (U := U.calling g mk a) (Vm.Alike.refl U.vm) r3, r4, EnL_blind g mk a r5, fun k q hk => va_Nw.same rfl rfl (r6 k q hk), va_AO.moved (u := U) (U := U.calling g mk a) (Vm.Alike.refl U.vm) r7, va_AO.moved (u := U) (U := U.calling g mk a) (Vm.Alike.refl U.vm) r8⟩, fun U hU hW => ⟨rfl, by rw [hU], by rw [hU]; exact hP, va_K.moved hW.alike hK, hD.weaken (fun _ _ _ _ => trivial), by rw [hU]; exact EnL_call hEL hS hW hFc, fun k q hk => va_Nw.warmM hW (hN k q hk), va_AO.moved hW.alike hO0, va_AO.moved hW.alike hO6⟩⟩ rfl rfl (hl.1.trans hml.symm) rfl (lv_room (Nat.le_of_ble_eq_true rfl)) dL_law_4 ⟨(Nat.le_of_ble_eq_true rfl), (Nat.le_of_ble_eq_true rfl)⟩) hS (fun q _ h => hFc q h) hFc (fun u t H1 locs ht hvm h5 hB hz1 hk1 hS => ?_)
  obtain ⟨hP1, hK1, hD1⟩ := hB
  rw [ht] at hP1
  have hK7 := va_K.moved hvm.symm hK1
  have h5 : u.1 0 = q7 := h5
  subst h5
  obtain ⟨hP, hD⟩ := va_join (wr := []) (w1 := wk_X7_init u) hP hD [0] [] rfl rfl (by decide) (by decide) hk1 hFc hP1 hD1
  generalize H1 = H at hP hS ⊢
  have hP : va_P D vwCl (wk_X7_init u) H := hP
  have hD : va_D (fun q : Nat => s.heap.size ≤ q) (wk_X7_init u) := hD
  refine lv_astore_n (lv' := [(1, .ref (u.1 0)), (0, .ref b)]) hx hb dL_law_7 rfl hl (by decide) rfl (fun ls hl => ?_)
  refine va_new (ci := 8) (fs := [.null, .int (iI 0), .int (iI 0), .int (iI 0), .int (iI 0), .int (iI 0), .int (iI 0), .int (iI 0), .int (iI 0), .null, .null, .null, .null, .null, .null, .null, .int (iI 0), .int (iI 0), .null, .int (iI 0), .null, .null, .null, .null, .int (iI 0), .null, .int (iI 0), .int (iI 0), .int (iI 0), .null, .null, .null, .null, .int (iI 0), .int (iI 0), .null, .null, .int (iI 0), .null, .null, .null, .null, .null, .null, .null, .int (iI 0)]) (C := RX8) (T := TX8) (N := 46) hx hb hts inGX8 tyX8 tyX8_ok hown (hts _ kw_799) (hts _ kw_800) (hts _ kw_67) hK hP hD hS hA rfl (fun j hj => by rcases (show j = 0 ∨ j = 1 ∨ j = 2 ∨ j = 3 ∨ j = 4 ∨ j = 5 ∨ j = 6 ∨ j = 7 ∨ j = 8 ∨ j = 9 ∨ j = 10 ∨ j = 11 ∨ j = 12 ∨ j = 13 ∨ j = 14 ∨ j = 15 ∨ j = 16 ∨ j = 17 ∨ j = 18 ∨ j = 19 ∨ j = 20 ∨ j = 21 ∨ j = 22 ∨ j = 23 ∨ j = 24 ∨ j = 25 ∨ j = 26 ∨ j = 27 ∨ j = 28 ∨ j = 29 ∨ j = 30 ∨ j = 31 ∨ j = 32 ∨ j = 33 ∨ j = 34 ∨ j = 35 ∨ j = 36 ∨ j = 37 ∨ j = 38 ∨ j = 39 ∨ j = 40 ∨ j = 41 ∨ j = 42 ∨ j = 43 ∨ j = 44 ∨ j = 45 by omega) with rfl | rfl | rfl | rfl | rfl | rfl | rfl | rfl | rfl | rfl | rfl | rfl | rfl | rfl | rfl | rfl | rfl | rfl | rfl | rfl | rfl | rfl | rfl | rfl | rfl | rfl | rfl | rfl | rfl | rfl | rfl | rfl | rfl | rfl | rfl | rfl | rfl | rfl | rfl | rfl | rfl | rfl | rfl | rfl | rfl | rfl <;> rfl) (Nat.le_of_ble_eq_true rfl) (Nat.le_of_ble_eq_true rfl) dL_law_8 (fun q8 H hP hD hS => ?_)
  have hP : va_P D vwCl (wk_X7_init u ++ w0_X8_init q8) H := hP
  have hD : va_D (fun q : Nat => s.heap.size ≤ q) (wk_X7_init u ++ w0_X8_init q8) := hD
  refine lv_dup hx hb dL_law_11 rfl ?_
  have hFc := va_free (wc := w0_X8_init q8) hD hS hA [71] rfl
  refine va_callv (va_runI (As := []) (rest := [.ref q8]) (bytes := cX8_init) (maxL := 1) (n := 0) (index := 12) ⟨hx, hb, rfl, hown, hts⟩ (k_X8_init l D q8 0 H.size) ⟨callB_of 0 hts (mw_good kw_803) rfl rfl rfl (hts _ kw_67) (hts _ kw_801) ⟨by decide, by decide, by decide +kernel⟩ ⟨(Nat.le_of_ble_eq_true rfl), (Nat.le_of_ble_eq_true rfl)⟩, rfl, hts _ kw_802⟩ ⟨fun a U g mk q => by obtain ⟨r0, r1, r2, r3, r4⟩ := q; exact ⟨r0, r1, r2, va_K.moved (u := U) (U := U.calling g mk a) (Vm.Alike.refl U.vm) r3, r4⟩, fun U hU hW => ⟨rfl, by rw [hU], by rw [hU]; exact P_r hP, va_K.moved hW.alike hK, (D_r hD).weaken (fun _ _ _ _ => trivial)⟩⟩ rfl rfl (hl.1.trans hml.symm) rfl (lv_room (Nat.le_of_ble_eq_true rfl)) dL_law_12 ⟨(Nat.le_of_ble_eq_true rfl), (Nat.le_of_ble_eq_true rfl)⟩) hS (fun q _ h => hFc q h) hFc (fun w t2 H2 locs2 ht2 hvm2 h6 hB2 hz2 hk2 hS => ?_)
  obtain ⟨hP2, hK2, hD2⟩ := hB2
  rw [ht2] at hP2
  have hK8 := va_K.moved hvm2.symm hK2
  have h6 : w.1 0 = q8 := h6
  subst h6
  obtain ⟨hP, hD⟩ := va_join (wr := wk_X7_init u) (w1 := wk_X8_init w) hP hD [71] [0, 1, 2, 3, 4, 5, 6, 7, 8, 9, 10, 11, 12, 13, 14, 15, 16, 17, 18, 19, 20, 21, 22, 23, 24, 25, 26, 27, 28, 29, 30, 31, 32, 33, 34, 35, 36, 37, 38, 39, 40, 41, 42, 43, 44, 45, 46, 47, 48, 49, 50, 51, 52, 53, 54, 55, 56, 57, 58, 59, 60, 61, 62, 63, 64, 65, 66, 67, 68, 69, 70] rfl rfl (by decide +kernel) (by decide +kernel) hk2 hFc hP2 hD2
  generalize H2 = H at hP hS ⊢
  have hKK := hK7.app hK8
  have e0 : w.2 0 = u.2 0 := ka_i hKK (i := 0) (j := 4) rfl rfl
  have e1 : w.2 1 = u.2 2 := ka_z hKK (i := 2) (j := 5) rfl rfl
  refine lv_astore_n (lv' := [(2, .ref (w.1 0)), (1, .ref (u.1 0)), (0, .ref b)]) hx hb dL_law_15 rfl hl (by decide) rfl (fun ls hl => ?_)
  refine lv_iconst (v := iI 0) hx hb dL_law_16 rfl ?_
  refine lv_istore_n (lv' := [(3, .int (iI 0)), (2, .ref (w.1 0)), (1, .ref (u.1 0)), (0, .ref b)]) hx hb dL_law_17 rfl hl (by decide) rfl (fun ls hl => ?_)
  have hPs := P_start (st := st) (aK := aK) (aV := aV) (P_l hP) (P_r hP) e0 e1
  have hDs := D_start (D := D) (st := st) (aK := aK) (aV := aV) hD
  have hKs : va_K (mkE u w D st aK aV).2.2.1 vwCl (tyL (mkE u w D st aK aV)) s := hK7.sub [0, 2, 1, 3] rfl
  have hEn : EnvOK (mkE u w D st aK aV) (fun q : Nat => s.heap.size ≤ q) s s.heap := ⟨hKs, hDs, hE⟩
  have B : Ok (xL p l e s m below meth c b) (mkE u w D st aK aV) "TongueSightLaw" cL_law 4 room_1 := ⟨hx, hb, hml, hown, hts, hEn, rfl, ⟨(Nat.le_of_ble_eq_true rfl), (Nat.le_of_ble_eq_true rfl)⟩, rfl⟩
  have S : Scr (xL p l e s m below meth c b) b L xs := ⟨hX, hbl, hbA, hL⟩
  have key := law_loop B S RR_M0 (whole_end hx hb hr hlocks)
  exact W.widen (k := 99) (n := 11448) (by decide) (by decide) (key wf_M0 _ _ ls hPs hS (lv_sub hl [3, 2, 1, 0] rfl))
