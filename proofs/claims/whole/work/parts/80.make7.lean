/-- an array's contents by a list: behind the list's end 0 -/
def lF (L : List Int) : Nat → Int32 := fun j => iI (L.getD j 0)
theorem lF_up {L : List Int} {k : Nat} {v : Int} (hv : L[k]? = some v) : upd (lF (L.take k)) k (iI v) = lF (L.take (k + 1)) := by
  funext j
  unfold upd lF
  rw [List.getD_eq_getElem?_getD, List.getD_eq_getElem?_getD, List.getElem?_take, List.getElem?_take]
  by_cases h : j = k
  · rw [if_pos h, h, if_pos (Nat.lt_succ_self k), hv]
    rfl
  · rw [if_neg h]
    by_cases h2 : j < k
    · rw [if_pos h2, if_pos (by omega)]
    · rw [if_neg h2, if_neg (by omega)]
theorem at_last {α : Type} (ws : List α) (x : α) : (ws ++ [x])[ws.length]? = some x := by
  rw [List.getElem?_append_right (Nat.le_refl _), Nat.sub_self]
  rfl
theorem set_last {α : Type} (ws : List α) (x y : α) : (ws ++ [x]).set ws.length y = ws ++ [y] := by
  rw [List.set_append_right _ _ (Nat.le_refl _), Nat.sub_self]
  rfl
section INI
variable {p : Program} {l : Launch} {e : Env} {R : Room} {s : State} {m : MethodId} {args : Array Value} {below : List Frame} {meth : Method} {c : Code} {cells slots : Nat} {Q : State → Prop} {A : Nat → Prop} {D : va_G} {H H0 : Heap} {locs : List Loc} {ls : Array Slot} {rest : List Value} {pc : Nat} {ws : va_W} {tys : List (ClassId × FieldType)}
/-- one more value into the last array of the world -/
theorem k_ini {cc : ByteArray} (L : List Int) (k : Nat) (hx : p.tables.exec = Jvm.exec) (hb : c.code = cc) (hK : va_K D vwCl tys s) {a : Nat} {cA : ClassId} {n : Nat} (hP : va_P D vwCl (ws ++ [(a, .inl (cA, n, .inl (lF (L.take k))))]) H) (hD : va_D A (ws ++ [(a, .inl (cA, n, .inl (lF (L.take k))))])) (hS : va_S A H0 H locs) (t0 : Nat) (ht : tys[t0]? = some (cA, .int)) {z v : Int} (hz : z = (k : Int)) (hv : L[k]? = some v) (hkn : k < n) (hn : n ≤ 1000) (hdg : decode cc pc = .ok (.iastore, 1))
    (kk : ∀ (H1 : Heap) (locs1 : List Loc), va_P D vwCl (ws ++ [(a, .inl (cA, n, .inl (lF (L.take (k + 1)))))]) H1 → va_D A (ws ++ [(a, .inl (cA, n, .inl (lF (L.take (k + 1)))))]) → va_S A H0 H1 locs1 → W p l e R s m args below meth c H1 locs1 cells slots Q (F0 m (pc + 1) ls rest)) : W p l e R s m args below meth c H locs cells slots Q (F0 m pc ls (.int (iI v) :: .int (iI z) :: .ref a :: rest)) := by
  have hc : (iI z).toNatClampNeg = k := by rw [hz, iI_cl ⟨by omega, by omega⟩]; exact Int.toNat_natCast k
  refine va_iast hx hb hK hP hD hS ws.length t0 (at_last ws _) ht (iI_in (z := z) ⟨by omega, by omega⟩ (by omega) (by omega)) hdg (fun H1 locs1 hP hD hS => ?_)
  rw [set_last, hc, lF_up hv] at hP hD
  exact kk H1 locs1 hP hD hS
end INI
def lX8_1 : List Int := [0, 3, 9, 13, 17, 21, 26, 30, 33, 36, 41, 46, 50, 55, 60, 64, 69]
def lX8_2 : List Int := [119, 97, 121, 115, 112, 114, 101, 97, 100, 108, 101, 115, 115, 116, 105, 114, 101, 109, 111, 115, 116, 114, 111, 117, 110, 100, 109, 97, 115, 107, 111, 119, 110, 108, 101, 100, 115, 116, 105, 108, 108, 116, 104, 101, 114, 101, 100, 101, 97, 100, 108, 101, 97, 115, 116, 112, 108, 97, 105, 110, 100, 97, 114, 107, 101, 100, 103, 101, 115]
def lX8_3 : List Int := [0, 0, 0, 0, 9, 0, 9, 8, 1, 0, 40, 0, 1, 1, 1, 1, 1, 1, 1, 1, 1, 1, 1, 1, 1, 1, 1, 1]
def lX8_4 : List Int := [0, 0, 0, 0, 1, 0, 1, 0, 0, 0, 1, 0, 1]
def lX8_5 : List Int := [0, 4, 3, 9, 9, 0, 9, 20, 20, 20, 99, 15, 9]
def lX8_6 : List Int := [0, 0, 0, 0, 9, 0, 9, 8, 1, 0, 40, 0, 1, 1, 1, 1, 1, 1, 1, 1, 1, 1, 1, 1, 1, 1, 1, 1]
def lX8_7 : List Int := [-4, -4, -4, -4]
/-- the world behind this constructor -/
def wk_X8_init (u : (Nat → Nat) × (Nat → ClassId)) : va_W := [(u.1 0, .inr (8, [.ref (u.1 1), .int (iI 0), .int (iI 0), .int (iI 0), .int (iI 0), .int (iI 0), .int (iI 0), .int (iI 0), .int (iI 0), .ref (u.1 2), .ref (u.1 3), .ref (u.1 4), .ref (u.1 5), .ref (u.1 6), .ref (u.1 7), .ref (u.1 8), .int (iI 0), .int (iI 0), .ref (u.1 9), .int (iI 25), .ref (u.1 10), .ref (u.1 11), .ref (u.1 12), .ref (u.1 13), .int (iI 0), .ref (u.1 14), .int (iI 0), .int (iI 0), .int (iI 0), .ref (u.1 15), .ref (u.1 16), .ref (u.1 17), .ref (u.1 18), .int (iI 0), .int (iI 0), .ref (u.1 19), .ref (u.1 20), .int (iI 0), .ref (u.1 21), .ref (u.1 22), .ref (u.1 23), .ref (u.1 24), .ref (u.1 25), .ref (u.1 26), .ref (u.1 27), .int (iI 0)])), (u.1 1, .inl ((u.2 0), 200, .inl zF)), (u.1 2, .inl ((u.2 0), 17, .inl (lF lX8_1))), (u.1 3, .inl ((u.2 0), 69, .inl (lF lX8_2))), (u.1 4, .inl ((u.2 0), 28, .inl (lF lX8_3))), (u.1 5, .inl ((u.2 0), 13, .inl (lF lX8_4))), (u.1 6, .inl ((u.2 0), 13, .inl (lF lX8_5))), (u.1 7, .inl ((u.2 0), 28, .inl (lF lX8_6))), (u.1 8, .inl ((u.2 0), 28, .inl zF)), (u.1 9, .inl ((u.2 0), 384, .inl zF)), (u.1 10, .inl ((u.2 0), 16, .inl zF)), (u.1 11, .inl ((u.2 0), 16, .inl zF)), (u.1 12, .inl ((u.2 0), 16, .inl zF)), (u.1 13, .inl ((u.2 0), 16, .inl zF)), (u.1 14, .inl ((u.2 0), 16, .inl zF)), (u.1 15, .inl ((u.2 0), 156, .inl zF)), (u.1 16, .inl ((u.2 0), 16, .inl zF)), (u.1 17, .inl ((u.2 0), 26, .inl zF)), (u.1 18, .inl ((u.2 0), 6656, .inl zF)), (u.1 19, .inl ((u.2 0), 793, .inl zF)), (u.1 20, .inl ((u.2 0), 793, .inl zF)), (u.1 21, .inl ((u.2 0), 12, .inl zF)), (u.1 22, .inl ((u.2 0), 12, .inl zF)), (u.1 23, .inl ((u.2 0), 12, .inl zF)), (u.1 24, .inl ((u.2 1), 12, .inl zF)), (u.1 25, .inl ((u.2 0), 4, .inl (lF lX8_7))), (u.1 26, .inl ((u.2 0), 4, .inl zF)), (u.1 27, .inl ((u.2 0), 256, .inl zF))]
def tk_X8_init (u : (Nat → Nat) × (Nat → ClassId)) : List (ClassId × FieldType) := [(u.2 0, .int), (u.2 1, .boolean)]
def bk_X8_init (D : va_G) (A : Nat → Prop) (u : (Nat → Nat) × (Nat → ClassId)) (t : State) : Prop := va_P D vwCl (wk_X8_init u) t.heap ∧ va_K D vwCl (tk_X8_init u) t ∧ va_D A (wk_X8_init u)
abbrev w0_X8_init (h0 : Nat) : va_W := [(h0, .inr (8, [.null, .int (iI 0), .int (iI 0), .int (iI 0), .int (iI 0), .int (iI 0), .int (iI 0), .int (iI 0), .int (iI 0), .null, .null, .null, .null, .null, .null, .null, .int (iI 0), .int (iI 0), .null, .int (iI 0), .null, .null, .null, .null, .int (iI 0), .null, .int (iI 0), .int (iI 0), .int (iI 0), .null, .null, .null, .null, .int (iI 0), .int (iI 0), .null, .null, .int (iI 0), .null, .null, .null, .null, .null, .null, .null, .int (iI 0)]))]
set_option maxHeartbeats 2000000 in
set_option maxRecDepth 100000 in
theorem k_X8_init (l : Launch) (D : va_G) (h0 t0 sz : Nat) : Met l yX8_init (mw yX8_init cX8_init 1 none) { frames := 1, cells := 27, slots := 9612, locals := 20 } (va_Pc [.ref h0] (fun U => U.heap.size = sz ∧ va_P D vwCl (w0_X8_init h0) U.heap ∧ va_K D vwCl [] U ∧ va_D (fun _ => True) (w0_X8_init h0))) (va_Qv (fun u : (Nat → Nat) × (Nat → ClassId) => u.1 0 = h0) (bk_X8_init D (va_A (w0_X8_init h0) sz)) (va_A (w0_X8_init h0) sz)) 27 9612 (va_A (w0_X8_init h0) sz) := by
  refine Met.ofW (cc := cX8_init) (maxL := 1) (ret := none) (by decide) rfl ?_
  intro p e s m args below meth c s₁ B hml hv
  obtain ⟨rfl, hsz, hP, hK, hD0⟩ := hv
  have hx := B.exec
  have hb := B.bytes
  have hr := B.returns
  have hts0 := atoms_spec (ws := mw yX8_init cX8_init 1 none) B.pre
  have hts : ∀ w ∈ GW, w.before _ s = true := fun w hw => hts0 w (List.mem_cons_of_mem _ hw)
  have hown : s.vm.findClass RX8 = some m.cls := findClass_of_methodNamed B.named
  have hlocks := B.notSynchronized
  have hin : meth.name = "<init>" := (name_of_methodNamed B.named B.method).1
  subst hsz
  have hD := hD0.self (sz := s.heap.size)
  generalize hAe : va_A (w0_X8_init h0) s.heap.size = A at hD ⊢
  have hA : ∀ q : Nat, s.heap.size ≤ q → A q := fun q h => by rw [← hAe]; exact Or.inr h
  have hS : va_S A s.heap s.heap [] := va_S.rf
  have hP : va_P D vwCl [(h0, .inr (8, [.null, .int (iI 0), .int (iI 0), .int (iI 0), .int (iI 0), .int (iI 0), .int (iI 0), .int (iI 0), .int (iI 0), .null, .null, .null, .null, .null, .null, .null, .int (iI 0), .int (iI 0), .null, .int (iI 0), .null, .null, .null, .null, .int (iI 0), .null, .int (iI 0), .int (iI 0), .int (iI 0), .null, .null, .null, .null, .int (iI 0), .int (iI 0), .null, .null, .int (iI 0), .null, .null, .null, .null, .null, .null, .null, .int (iI 0)]))] s.heap := hP
  have hl := lv_entry ([.ref h0]) (n := 1) (Nat.le_of_ble_eq_true rfl)
  rw [lg_entry_eq]
  generalize (lg_sl ([.ref h0]) ++ List.replicate (1 - (lg_sl ([.ref h0])).length) Slot.unset).toArray = ls at hl ⊢
  have hl : lv_has ls 1 [(0, .ref h0)] := hl
  refine lv_aload_n hx hb dX8_init_0 rfl (lv_at hl 0 rfl) ?_
  refine W.objInit hx hb hown (hts _ kw_804) (hts _ kw_80) (hts _ kw_81) rfl (by rw [hml]; exact hl.1) rfl dX8_init_1 (Nat.le_of_ble_eq_true rfl) (Nat.le_of_ble_eq_true rfl) ?_
  refine W.eq (g2 := F0 m 4 ls []) rfl ?_
  refine lv_aload_n hx hb dX8_init_4 rfl (lv_at hl 0 rfl) ?_
  refine lv_sipush hx hb dX8_init_5 (rfl : _ = iI (200)) ?_
  refine va_newa (atype := .int) hx hb (hts (Cond.arrayClass .int) kw_113) rfl hK hP hD hS hA (a0 := (200, .inl zF)) (zA_i 200) (by decide +kernel) (N' := 200) (by decide +kernel) (Nat.le_of_ble_eq_true rfl) (Nat.le_of_ble_eq_true rfl) (Nat.le_of_ble_eq_true rfl) dX8_init_8 (fun q1 c1 H hK hP hD hS => ?_)
  have hK : va_K D vwCl [(c1, .int)] s := hK
  have hP : va_P D vwCl [(h0, .inr (8, [.null, .int (iI 0), .int (iI 0), .int (iI 0), .int (iI 0), .int (iI 0), .int (iI 0), .int (iI 0), .int (iI 0), .null, .null, .null, .null, .null, .null, .null, .int (iI 0), .int (iI 0), .null, .int (iI 0), .null, .null, .null, .null, .int (iI 0), .null, .int (iI 0), .int (iI 0), .int (iI 0), .null, .null, .null, .null, .int (iI 0), .int (iI 0), .null, .null, .int (iI 0), .null, .null, .null, .null, .null, .null, .null, .int (iI 0)])), (q1, .inl (c1, 200, .inl zF))] H := hP
  have hD : va_D A [(h0, .inr (8, [.null, .int (iI 0), .int (iI 0), .int (iI 0), .int (iI 0), .int (iI 0), .int (iI 0), .int (iI 0), .int (iI 0), .null, .null, .null, .null, .null, .null, .null, .int (iI 0), .int (iI 0), .null, .int (iI 0), .null, .null, .null, .null, .int (iI 0), .null, .int (iI 0), .int (iI 0), .int (iI 0), .null, .null, .null, .null, .int (iI 0), .int (iI 0), .null, .null, .int (iI 0), .null, .null, .null, .null, .null, .null, .null, .int (iI 0)])), (q1, .inl (c1, 200, .inl zF))] := hD
  refine va_putF (D := D) (ci := 8) (v := .ref (q1)) (ty := tyX8 0) (C := RX8) (T := TX8) (N := 46) hx hb hts inGX8 tyX8 tyX8_ok nmX8 hown hK hP hD hS 0 rfl rfl 0 (by decide) (hts _ kw_805) (fun _ h9 => h9) rfl hin rfl (tyX8_ok 0 (by decide)) rfl rfl (Nat.le_of_ble_eq_true rfl) dX8_init_10 (fun H locs hP hD hS => ?_)
  have hP : va_P D vwCl [(h0, .inr (8, [.ref (q1), .int (iI 0), .int (iI 0), .int (iI 0), .int (iI 0), .int (iI 0), .int (iI 0), .int (iI 0), .int (iI 0), .null, .null, .null, .null, .null, .null, .null, .int (iI 0), .int (iI 0), .null, .int (iI 0), .null, .null, .null, .null, .int (iI 0), .null, .int (iI 0), .int (iI 0), .int (iI 0), .null, .null, .null, .null, .int (iI 0), .int (iI 0), .null, .null, .int (iI 0), .null, .null, .null, .null, .null, .null, .null, .int (iI 0)])), (q1, .inl (c1, 200, .inl zF))] H := hP
  have hD : va_D A [(h0, .inr (8, [.ref (q1), .int (iI 0), .int (iI 0), .int (iI 0), .int (iI 0), .int (iI 0), .int (iI 0), .int (iI 0), .int (iI 0), .null, .null, .null, .null, .null, .null, .null, .int (iI 0), .int (iI 0), .null, .int (iI 0), .null, .null, .null, .null, .int (iI 0), .null, .int (iI 0), .int (iI 0), .int (iI 0), .null, .null, .null, .null, .int (iI 0), .int (iI 0), .null, .null, .int (iI 0), .null, .null, .null, .null, .null, .null, .null, .int (iI 0)])), (q1, .inl (c1, 200, .inl zF))] := hD
  refine lv_aload_n hx hb dX8_init_13 rfl (lv_at hl 0 rfl) ?_
  refine lv_bipush hx hb dX8_init_14 (rfl : _ = iI (17)) ?_
  refine va_newa (atype := .int) hx hb (hts (Cond.arrayClass .int) kw_113) rfl hK hP hD hS hA (a0 := (17, .inl zF)) (zA_i 17) (by decide +kernel) (N' := 17) (by decide +kernel) (Nat.le_of_ble_eq_true rfl) (Nat.le_of_ble_eq_true rfl) (Nat.le_of_ble_eq_true rfl) dX8_init_16 (fun q2 c2 H hK hP hD hS => ?_)
  have e3 : c1 = c2 := (ka_i hK (i := 0) (j := 1) rfl rfl).symm
  subst e3
  have hK := hK.sub (tys' := [(c1, .int)]) [0] rfl
  have hP : va_P D vwCl [(h0, .inr (8, [.ref (q1), .int (iI 0), .int (iI 0), .int (iI 0), .int (iI 0), .int (iI 0), .int (iI 0), .int (iI 0), .int (iI 0), .null, .null, .null, .null, .null, .null, .null, .int (iI 0), .int (iI 0), .null, .int (iI 0), .null, .null, .null, .null, .int (iI 0), .null, .int (iI 0), .int (iI 0), .int (iI 0), .null, .null, .null, .null, .int (iI 0), .int (iI 0), .null, .null, .int (iI 0), .null, .null, .null, .null, .null, .null, .null, .int (iI 0)])), (q1, .inl (c1, 200, .inl zF)), (q2, .inl (c1, 17, .inl zF))] H := hP
  have hD : va_D A [(h0, .inr (8, [.ref (q1), .int (iI 0), .int (iI 0), .int (iI 0), .int (iI 0), .int (iI 0), .int (iI 0), .int (iI 0), .int (iI 0), .null, .null, .null, .null, .null, .null, .null, .int (iI 0), .int (iI 0), .null, .int (iI 0), .null, .null, .null, .null, .int (iI 0), .null, .int (iI 0), .int (iI 0), .int (iI 0), .null, .null, .null, .null, .int (iI 0), .int (iI 0), .null, .null, .int (iI 0), .null, .null, .null, .null, .null, .null, .null, .int (iI 0)])), (q1, .inl (c1, 200, .inl zF)), (q2, .inl (c1, 17, .inl zF))] := hD
  refine lv_dup hx hb dX8_init_18 rfl ?_
  refine lv_iconst hx hb dX8_init_19 (rfl : _ = iI (0)) ?_
  refine lv_iconst hx hb dX8_init_20 (rfl : _ = iI (0)) ?_
  obtain ⟨w9, hw9⟩ : ∃ w9 : va_W, w9 = [(h0, .inr (8, [.ref (q1), .int (iI 0), .int (iI 0), .int (iI 0), .int (iI 0), .int (iI 0), .int (iI 0), .int (iI 0), .int (iI 0), .null, .null, .null, .null, .null, .null, .null, .int (iI 0), .int (iI 0), .null, .int (iI 0), .null, .null, .null, .null, .int (iI 0), .null, .int (iI 0), .int (iI 0), .int (iI 0), .null, .null, .null, .null, .int (iI 0), .int (iI 0), .null, .null, .int (iI 0), .null, .null, .null, .null, .null, .null, .null, .int (iI 0)])), (q1, .inl (c1, 200, .inl zF))] := ⟨_, rfl⟩
  have hP : va_P D vwCl (w9 ++ [(q2, .inl (c1, 17, .inl (lF (lX8_1.take 0))))]) H := by rw [hw9]; exact hP
  have hD : va_D A (w9 ++ [(q2, .inl (c1, 17, .inl (lF (lX8_1.take 0))))]) := by rw [hw9]; exact hD
  refine k_ini lX8_1 0 hx hb hK hP hD hS 0 rfl rfl rfl (by decide) (by decide) dX8_init_21 (fun H locs hP hD hS => ?_)
  refine lv_dup hx hb dX8_init_22 rfl ?_
  refine lv_iconst hx hb dX8_init_23 (rfl : _ = iI (1)) ?_
  refine lv_iconst hx hb dX8_init_24 (rfl : _ = iI (3)) ?_
  refine k_ini lX8_1 1 hx hb hK hP hD hS 0 rfl rfl rfl (by decide) (by decide) dX8_init_25 (fun H locs hP hD hS => ?_)
  refine lv_dup hx hb dX8_init_26 rfl ?_
  refine lv_iconst hx hb dX8_init_27 (rfl : _ = iI (2)) ?_
  refine lv_bipush hx hb dX8_init_28 (rfl : _ = iI (9)) ?_
  refine k_ini lX8_1 2 hx hb hK hP hD hS 0 rfl rfl rfl (by decide) (by decide) dX8_init_30 (fun H locs hP hD hS => ?_)
  refine lv_dup hx hb dX8_init_31 rfl ?_
  refine lv_iconst hx hb dX8_init_32 (rfl : _ = iI (3)) ?_
  refine lv_bipush hx hb dX8_init_33 (rfl : _ = iI (13)) ?_
  refine k_ini lX8_1 3 hx hb hK hP hD hS 0 rfl rfl rfl (by decide) (by decide) dX8_init_35 (fun H locs hP hD hS => ?_)
  refine lv_dup hx hb dX8_init_36 rfl ?_
  refine lv_iconst hx hb dX8_init_37 (rfl : _ = iI (4)) ?_
  refine lv_bipush hx hb dX8_init_38 (rfl : _ = iI (17)) ?_
  refine k_ini lX8_1 4 hx hb hK hP hD hS 0 rfl rfl rfl (by decide) (by decide) dX8_init_40 (fun H locs hP hD hS => ?_)
  refine lv_dup hx hb dX8_init_41 rfl ?_
  refine lv_iconst hx hb dX8_init_42 (rfl : _ = iI (5)) ?_
  refine lv_bipush hx hb dX8_init_43 (rfl : _ = iI (21)) ?_
  refine k_ini lX8_1 5 hx hb hK hP hD hS 0 rfl rfl rfl (by decide) (by decide) dX8_init_45 (fun H locs hP hD hS => ?_)
  refine lv_dup hx hb dX8_init_46 rfl ?_
  refine lv_bipush hx hb dX8_init_47 (rfl : _ = iI (6)) ?_
  refine lv_bipush hx hb dX8_init_49 (rfl : _ = iI (26)) ?_
  refine k_ini lX8_1 6 hx hb hK hP hD hS 0 rfl rfl rfl (by decide) (by decide) dX8_init_51 (fun H locs hP hD hS => ?_)
  refine lv_dup hx hb dX8_init_52 rfl ?_
  refine lv_bipush hx hb dX8_init_53 (rfl : _ = iI (7)) ?_
  refine lv_bipush hx hb dX8_init_55 (rfl : _ = iI (30)) ?_
  refine k_ini lX8_1 7 hx hb hK hP hD hS 0 rfl rfl rfl (by decide) (by decide) dX8_init_57 (fun H locs hP hD hS => ?_)
  refine lv_dup hx hb dX8_init_58 rfl ?_
  refine lv_bipush hx hb dX8_init_59 (rfl : _ = iI (8)) ?_
  refine lv_bipush hx hb dX8_init_61 (rfl : _ = iI (33)) ?_
  refine k_ini lX8_1 8 hx hb hK hP hD hS 0 rfl rfl rfl (by decide) (by decide) dX8_init_63 (fun H locs hP hD hS => ?_)
  refine lv_dup hx hb dX8_init_64 rfl ?_
  refine lv_bipush hx hb dX8_init_65 (rfl : _ = iI (9)) ?_
  refine lv_bipush hx hb dX8_init_67 (rfl : _ = iI (36)) ?_
  refine k_ini lX8_1 9 hx hb hK hP hD hS 0 rfl rfl rfl (by decide) (by decide) dX8_init_69 (fun H locs hP hD hS => ?_)
  refine lv_dup hx hb dX8_init_70 rfl ?_
  refine lv_bipush hx hb dX8_init_71 (rfl : _ = iI (10)) ?_
  refine lv_bipush hx hb dX8_init_73 (rfl : _ = iI (41)) ?_
  refine k_ini lX8_1 10 hx hb hK hP hD hS 0 rfl rfl rfl (by decide) (by decide) dX8_init_75 (fun H locs hP hD hS => ?_)
  refine lv_dup hx hb dX8_init_76 rfl ?_
  refine lv_bipush hx hb dX8_init_77 (rfl : _ = iI (11)) ?_
  refine lv_bipush hx hb dX8_init_79 (rfl : _ = iI (46)) ?_
  refine k_ini lX8_1 11 hx hb hK hP hD hS 0 rfl rfl rfl (by decide) (by decide) dX8_init_81 (fun H locs hP hD hS => ?_)
  refine lv_dup hx hb dX8_init_82 rfl ?_
  refine lv_bipush hx hb dX8_init_83 (rfl : _ = iI (12)) ?_
  refine lv_bipush hx hb dX8_init_85 (rfl : _ = iI (50)) ?_
  refine k_ini lX8_1 12 hx hb hK hP hD hS 0 rfl rfl rfl (by decide) (by decide) dX8_init_87 (fun H locs hP hD hS => ?_)
  refine lv_dup hx hb dX8_init_88 rfl ?_
  refine lv_bipush hx hb dX8_init_89 (rfl : _ = iI (13)) ?_
  refine lv_bipush hx hb dX8_init_91 (rfl : _ = iI (55)) ?_
  refine k_ini lX8_1 13 hx hb hK hP hD hS 0 rfl rfl rfl (by decide) (by decide) dX8_init_93 (fun H locs hP hD hS => ?_)
  refine lv_dup hx hb dX8_init_94 rfl ?_
  refine lv_bipush hx hb dX8_init_95 (rfl : _ = iI (14)) ?_
  refine lv_bipush hx hb dX8_init_97 (rfl : _ = iI (60)) ?_
  refine k_ini lX8_1 14 hx hb hK hP hD hS 0 rfl rfl rfl (by decide) (by decide) dX8_init_99 (fun H locs hP hD hS => ?_)
  refine lv_dup hx hb dX8_init_100 rfl ?_
  refine lv_bipush hx hb dX8_init_101 (rfl : _ = iI (15)) ?_
  refine lv_bipush hx hb dX8_init_103 (rfl : _ = iI (64)) ?_
  refine k_ini lX8_1 15 hx hb hK hP hD hS 0 rfl rfl rfl (by decide) (by decide) dX8_init_105 (fun H locs hP hD hS => ?_)
  refine lv_dup hx hb dX8_init_106 rfl ?_
  refine lv_bipush hx hb dX8_init_107 (rfl : _ = iI (16)) ?_
  refine lv_bipush hx hb dX8_init_109 (rfl : _ = iI (69)) ?_
  refine k_ini lX8_1 16 hx hb hK hP hD hS 0 rfl rfl rfl (by decide) (by decide) dX8_init_111 (fun H locs hP hD hS => ?_)
  subst hw9
  have hP : va_P D vwCl [(h0, .inr (8, [.ref (q1), .int (iI 0), .int (iI 0), .int (iI 0), .int (iI 0), .int (iI 0), .int (iI 0), .int (iI 0), .int (iI 0), .null, .null, .null, .null, .null, .null, .null, .int (iI 0), .int (iI 0), .null, .int (iI 0), .null, .null, .null, .null, .int (iI 0), .null, .int (iI 0), .int (iI 0), .int (iI 0), .null, .null, .null, .null, .int (iI 0), .int (iI 0), .null, .null, .int (iI 0), .null, .null, .null, .null, .null, .null, .null, .int (iI 0)])), (q1, .inl (c1, 200, .inl zF)), (q2, .inl (c1, 17, .inl (lF lX8_1)))] H := hP
  have hD : va_D A [(h0, .inr (8, [.ref (q1), .int (iI 0), .int (iI 0), .int (iI 0), .int (iI 0), .int (iI 0), .int (iI 0), .int (iI 0), .int (iI 0), .null, .null, .null, .null, .null, .null, .null, .int (iI 0), .int (iI 0), .null, .int (iI 0), .null, .null, .null, .null, .int (iI 0), .null, .int (iI 0), .int (iI 0), .int (iI 0), .null, .null, .null, .null, .int (iI 0), .int (iI 0), .null, .null, .int (iI 0), .null, .null, .null, .null, .null, .null, .null, .int (iI 0)])), (q1, .inl (c1, 200, .inl zF)), (q2, .inl (c1, 17, .inl (lF lX8_1)))] := hD
  refine va_putF (D := D) (ci := 8) (v := .ref (q2)) (ty := tyX8 9) (C := RX8) (T := TX8) (N := 46) hx hb hts inGX8 tyX8 tyX8_ok nmX8 hown hK hP hD hS 0 rfl rfl 9 (by decide) (hts _ kw_814) (fun _ h9 => h9) rfl hin rfl (tyX8_ok 9 (by decide)) rfl rfl (Nat.le_of_ble_eq_true rfl) dX8_init_112 (fun H locs hP hD hS => ?_)
  have hP : va_P D vwCl [(h0, .inr (8, [.ref (q1), .int (iI 0), .int (iI 0), .int (iI 0), .int (iI 0), .int (iI 0), .int (iI 0), .int (iI 0), .int (iI 0), .ref (q2), .null, .null, .null, .null, .null, .null, .int (iI 0), .int (iI 0), .null, .int (iI 0), .null, .null, .null, .null, .int (iI 0), .null, .int (iI 0), .int (iI 0), .int (iI 0), .null, .null, .null, .null, .int (iI 0), .int (iI 0), .null, .null, .int (iI 0), .null, .null, .null, .null, .null, .null, .null, .int (iI 0)])), (q1, .inl (c1, 200, .inl zF)), (q2, .inl (c1, 17, .inl (lF lX8_1)))] H := hP
  have hD : va_D A [(h0, .inr (8, [.ref (q1), .int (iI 0), .int (iI 0), .int (iI 0), .int (iI 0), .int (iI 0), .int (iI 0), .int (iI 0), .int (iI 0), .ref (q2), .null, .null, .null, .null, .null, .null, .int (iI 0), .int (iI 0), .null, .int (iI 0), .null, .null, .null, .null, .int (iI 0), .null, .int (iI 0), .int (iI 0), .int (iI 0), .null, .null, .null, .null, .int (iI 0), .int (iI 0), .null, .null, .int (iI 0), .null, .null, .null, .null, .null, .null, .null, .int (iI 0)])), (q1, .inl (c1, 200, .inl zF)), (q2, .inl (c1, 17, .inl (lF lX8_1)))] := hD
  refine lv_aload_n hx hb dX8_init_115 rfl (lv_at hl 0 rfl) ?_
  refine lv_bipush hx hb dX8_init_116 (rfl : _ = iI (69)) ?_
  refine va_newa (atype := .int) hx hb (hts (Cond.arrayClass .int) kw_113) rfl hK hP hD hS hA (a0 := (69, .inl zF)) (zA_i 69) (by decide +kernel) (N' := 69) (by decide +kernel) (Nat.le_of_ble_eq_true rfl) (Nat.le_of_ble_eq_true rfl) (Nat.le_of_ble_eq_true rfl) dX8_init_118 (fun q4 c4 H hK hP hD hS => ?_)
  have e5 : c1 = c4 := (ka_i hK (i := 0) (j := 1) rfl rfl).symm
  subst e5
  have hK := hK.sub (tys' := [(c1, .int)]) [0] rfl
  have hP : va_P D vwCl [(h0, .inr (8, [.ref (q1), .int (iI 0), .int (iI 0), .int (iI 0), .int (iI 0), .int (iI 0), .int (iI 0), .int (iI 0), .int (iI 0), .ref (q2), .null, .null, .null, .null, .null, .null, .int (iI 0), .int (iI 0), .null, .int (iI 0), .null, .null, .null, .null, .int (iI 0), .null, .int (iI 0), .int (iI 0), .int (iI 0), .null, .null, .null, .null, .int (iI 0), .int (iI 0), .null, .null, .int (iI 0), .null, .null, .null, .null, .null, .null, .null, .int (iI 0)])), (q1, .inl (c1, 200, .inl zF)), (q2, .inl (c1, 17, .inl (lF lX8_1))), (q4, .inl (c1, 69, .inl zF))] H := hP
  have hD : va_D A [(h0, .inr (8, [.ref (q1), .int (iI 0), .int (iI 0), .int (iI 0), .int (iI 0), .int (iI 0), .int (iI 0), .int (iI 0), .int (iI 0), .ref (q2), .null, .null, .null, .null, .null, .null, .int (iI 0), .int (iI 0), .null, .int (iI 0), .null, .null, .null, .null, .int (iI 0), .null, .int (iI 0), .int (iI 0), .int (iI 0), .null, .null, .null, .null, .int (iI 0), .int (iI 0), .null, .null, .int (iI 0), .null, .null, .null, .null, .null, .null, .null, .int (iI 0)])), (q1, .inl (c1, 200, .inl zF)), (q2, .inl (c1, 17, .inl (lF lX8_1))), (q4, .inl (c1, 69, .inl zF))] := hD
  refine lv_dup hx hb dX8_init_120 rfl ?_
  refine lv_iconst hx hb dX8_init_121 (rfl : _ = iI (0)) ?_
  refine lv_bipush hx hb dX8_init_122 (rfl : _ = iI (119)) ?_
  obtain ⟨w9, hw9⟩ : ∃ w9 : va_W, w9 = [(h0, .inr (8, [.ref (q1), .int (iI 0), .int (iI 0), .int (iI 0), .int (iI 0), .int (iI 0), .int (iI 0), .int (iI 0), .int (iI 0), .ref (q2), .null, .null, .null, .null, .null, .null, .int (iI 0), .int (iI 0), .null, .int (iI 0), .null, .null, .null, .null, .int (iI 0), .null, .int (iI 0), .int (iI 0), .int (iI 0), .null, .null, .null, .null, .int (iI 0), .int (iI 0), .null, .null, .int (iI 0), .null, .null, .null, .null, .null, .null, .null, .int (iI 0)])), (q1, .inl (c1, 200, .inl zF)), (q2, .inl (c1, 17, .inl (lF lX8_1)))] := ⟨_, rfl⟩
  have hP : va_P D vwCl (w9 ++ [(q4, .inl (c1, 69, .inl (lF (lX8_2.take 0))))]) H := by rw [hw9]; exact hP
  have hD : va_D A (w9 ++ [(q4, .inl (c1, 69, .inl (lF (lX8_2.take 0))))]) := by rw [hw9]; exact hD
  refine k_ini lX8_2 0 hx hb hK hP hD hS 0 rfl rfl rfl (by decide) (by decide) dX8_init_124 (fun H locs hP hD hS => ?_)
  refine lv_dup hx hb dX8_init_125 rfl ?_
  refine lv_iconst hx hb dX8_init_126 (rfl : _ = iI (1)) ?_
  refine lv_bipush hx hb dX8_init_127 (rfl : _ = iI (97)) ?_
  refine k_ini lX8_2 1 hx hb hK hP hD hS 0 rfl rfl rfl (by decide) (by decide) dX8_init_129 (fun H locs hP hD hS => ?_)
  refine lv_dup hx hb dX8_init_130 rfl ?_
  refine lv_iconst hx hb dX8_init_131 (rfl : _ = iI (2)) ?_
  refine lv_bipush hx hb dX8_init_132 (rfl : _ = iI (121)) ?_
  refine k_ini lX8_2 2 hx hb hK hP hD hS 0 rfl rfl rfl (by decide) (by decide) dX8_init_134 (fun H locs hP hD hS => ?_)
  refine lv_dup hx hb dX8_init_135 rfl ?_
  refine lv_iconst hx hb dX8_init_136 (rfl : _ = iI (3)) ?_
  refine lv_bipush hx hb dX8_init_137 (rfl : _ = iI (115)) ?_
  refine k_ini lX8_2 3 hx hb hK hP hD hS 0 rfl rfl rfl (by decide) (by decide) dX8_init_139 (fun H locs hP hD hS => ?_)
  refine lv_dup hx hb dX8_init_140 rfl ?_
  refine lv_iconst hx hb dX8_init_141 (rfl : _ = iI (4)) ?_
  refine lv_bipush hx hb dX8_init_142 (rfl : _ = iI (112)) ?_
  refine k_ini lX8_2 4 hx hb hK hP hD hS 0 rfl rfl rfl (by decide) (by decide) dX8_init_144 (fun H locs hP hD hS => ?_)
  refine lv_dup hx hb dX8_init_145 rfl ?_
  refine lv_iconst hx hb dX8_init_146 (rfl : _ = iI (5)) ?_
  refine lv_bipush hx hb dX8_init_147 (rfl : _ = iI (114)) ?_
  refine k_ini lX8_2 5 hx hb hK hP hD hS 0 rfl rfl rfl (by decide) (by decide) dX8_init_149 (fun H locs hP hD hS => ?_)
  refine lv_dup hx hb dX8_init_150 rfl ?_
  refine lv_bipush hx hb dX8_init_151 (rfl : _ = iI (6)) ?_
  refine lv_bipush hx hb dX8_init_153 (rfl : _ = iI (101)) ?_
  refine k_ini lX8_2 6 hx hb hK hP hD hS 0 rfl rfl rfl (by decide) (by decide) dX8_init_155 (fun H locs hP hD hS => ?_)
  refine lv_dup hx hb dX8_init_156 rfl ?_
  refine lv_bipush hx hb dX8_init_157 (rfl : _ = iI (7)) ?_
  refine lv_bipush hx hb dX8_init_159 (rfl : _ = iI (97)) ?_
  refine k_ini lX8_2 7 hx hb hK hP hD hS 0 rfl rfl rfl (by decide) (by decide) dX8_init_161 (fun H locs hP hD hS => ?_)
  refine lv_dup hx hb dX8_init_162 rfl ?_
  refine lv_bipush hx hb dX8_init_163 (rfl : _ = iI (8)) ?_
  refine lv_bipush hx hb dX8_init_165 (rfl : _ = iI (100)) ?_
  refine k_ini lX8_2 8 hx hb hK hP hD hS 0 rfl rfl rfl (by decide) (by decide) dX8_init_167 (fun H locs hP hD hS => ?_)
  refine lv_dup hx hb dX8_init_168 rfl ?_
  refine lv_bipush hx hb dX8_init_169 (rfl : _ = iI (9)) ?_
  refine lv_bipush hx hb dX8_init_171 (rfl : _ = iI (108)) ?_
  refine k_ini lX8_2 9 hx hb hK hP hD hS 0 rfl rfl rfl (by decide) (by decide) dX8_init_173 (fun H locs hP hD hS => ?_)
  refine lv_dup hx hb dX8_init_174 rfl ?_
  refine lv_bipush hx hb dX8_init_175 (rfl : _ = iI (10)) ?_
  refine lv_bipush hx hb dX8_init_177 (rfl : _ = iI (101)) ?_
  refine k_ini lX8_2 10 hx hb hK hP hD hS 0 rfl rfl rfl (by decide) (by decide) dX8_init_179 (fun H locs hP hD hS => ?_)
  refine lv_dup hx hb dX8_init_180 rfl ?_
  refine lv_bipush hx hb dX8_init_181 (rfl : _ = iI (11)) ?_
  refine lv_bipush hx hb dX8_init_183 (rfl : _ = iI (115)) ?_
  refine k_ini lX8_2 11 hx hb hK hP hD hS 0 rfl rfl rfl (by decide) (by decide) dX8_init_185 (fun H locs hP hD hS => ?_)
  refine lv_dup hx hb dX8_init_186 rfl ?_
  refine lv_bipush hx hb dX8_init_187 (rfl : _ = iI (12)) ?_
  refine lv_bipush hx hb dX8_init_189 (rfl : _ = iI (115)) ?_
  refine k_ini lX8_2 12 hx hb hK hP hD hS 0 rfl rfl rfl (by decide) (by decide) dX8_init_191 (fun H locs hP hD hS => ?_)
  refine lv_dup hx hb dX8_init_192 rfl ?_
  refine lv_bipush hx hb dX8_init_193 (rfl : _ = iI (13)) ?_
  refine lv_bipush hx hb dX8_init_195 (rfl : _ = iI (116)) ?_
  refine k_ini lX8_2 13 hx hb hK hP hD hS 0 rfl rfl rfl (by decide) (by decide) dX8_init_197 (fun H locs hP hD hS => ?_)
  refine lv_dup hx hb dX8_init_198 rfl ?_
  refine lv_bipush hx hb dX8_init_199 (rfl : _ = iI (14)) ?_
  refine lv_bipush hx hb dX8_init_201 (rfl : _ = iI (105)) ?_
  refine k_ini lX8_2 14 hx hb hK hP hD hS 0 rfl rfl rfl (by decide) (by decide) dX8_init_203 (fun H locs hP hD hS => ?_)
  refine lv_dup hx hb dX8_init_204 rfl ?_
  refine lv_bipush hx hb dX8_init_205 (rfl : _ = iI (15)) ?_
  refine lv_bipush hx hb dX8_init_207 (rfl : _ = iI (114)) ?_
  refine k_ini lX8_2 15 hx hb hK hP hD hS 0 rfl rfl rfl (by decide) (by decide) dX8_init_209 (fun H locs hP hD hS => ?_)
  refine lv_dup hx hb dX8_init_210 rfl ?_
  refine lv_bipush hx hb dX8_init_211 (rfl : _ = iI (16)) ?_
  refine lv_bipush hx hb dX8_init_213 (rfl : _ = iI (101)) ?_
  refine k_ini lX8_2 16 hx hb hK hP hD hS 0 rfl rfl rfl (by decide) (by decide) dX8_init_215 (fun H locs hP hD hS => ?_)
  refine lv_dup hx hb dX8_init_216 rfl ?_
  refine lv_bipush hx hb dX8_init_217 (rfl : _ = iI (17)) ?_
  refine lv_bipush hx hb dX8_init_219 (rfl : _ = iI (109)) ?_
  refine k_ini lX8_2 17 hx hb hK hP hD hS 0 rfl rfl rfl (by decide) (by decide) dX8_init_221 (fun H locs hP hD hS => ?_)
  refine lv_dup hx hb dX8_init_222 rfl ?_
  refine lv_bipush hx hb dX8_init_223 (rfl : _ = iI (18)) ?_
  refine lv_bipush hx hb dX8_init_225 (rfl : _ = iI (111)) ?_
  refine k_ini lX8_2 18 hx hb hK hP hD hS 0 rfl rfl rfl (by decide) (by decide) dX8_init_227 (fun H locs hP hD hS => ?_)
  refine lv_dup hx hb dX8_init_228 rfl ?_
  refine lv_bipush hx hb dX8_init_229 (rfl : _ = iI (19)) ?_
  refine lv_bipush hx hb dX8_init_231 (rfl : _ = iI (115)) ?_
  refine k_ini lX8_2 19 hx hb hK hP hD hS 0 rfl rfl rfl (by decide) (by decide) dX8_init_233 (fun H locs hP hD hS => ?_)
  refine lv_dup hx hb dX8_init_234 rfl ?_
  refine lv_bipush hx hb dX8_init_235 (rfl : _ = iI (20)) ?_
  refine lv_bipush hx hb dX8_init_237 (rfl : _ = iI (116)) ?_
  refine k_ini lX8_2 20 hx hb hK hP hD hS 0 rfl rfl rfl (by decide) (by decide) dX8_init_239 (fun H locs hP hD hS => ?_)
  refine lv_dup hx hb dX8_init_240 rfl ?_
  refine lv_bipush hx hb dX8_init_241 (rfl : _ = iI (21)) ?_
  refine lv_bipush hx hb dX8_init_243 (rfl : _ = iI (114)) ?_
  refine k_ini lX8_2 21 hx hb hK hP hD hS 0 rfl rfl rfl (by decide) (by decide) dX8_init_245 (fun H locs hP hD hS => ?_)
  refine lv_dup hx hb dX8_init_246 rfl ?_
  refine lv_bipush hx hb dX8_init_247 (rfl : _ = iI (22)) ?_
  refine lv_bipush hx hb dX8_init_249 (rfl : _ = iI (111)) ?_
  refine k_ini lX8_2 22 hx hb hK hP hD hS 0 rfl rfl rfl (by decide) (by decide) dX8_init_251 (fun H locs hP hD hS => ?_)
  refine lv_dup hx hb dX8_init_252 rfl ?_
  refine lv_bipush hx hb dX8_init_253 (rfl : _ = iI (23)) ?_
  refine lv_bipush hx hb dX8_init_255 (rfl : _ = iI (117)) ?_
  refine k_ini lX8_2 23 hx hb hK hP hD hS 0 rfl rfl rfl (by decide) (by decide) dX8_init_257 (fun H locs hP hD hS => ?_)
  refine lv_dup hx hb dX8_init_258 rfl ?_
  refine lv_bipush hx hb dX8_init_259 (rfl : _ = iI (24)) ?_
  refine lv_bipush hx hb dX8_init_261 (rfl : _ = iI (110)) ?_
  refine k_ini lX8_2 24 hx hb hK hP hD hS 0 rfl rfl rfl (by decide) (by decide) dX8_init_263 (fun H locs hP hD hS => ?_)
  refine lv_dup hx hb dX8_init_264 rfl ?_
  refine lv_bipush hx hb dX8_init_265 (rfl : _ = iI (25)) ?_
  refine lv_bipush hx hb dX8_init_267 (rfl : _ = iI (100)) ?_
  refine k_ini lX8_2 25 hx hb hK hP hD hS 0 rfl rfl rfl (by decide) (by decide) dX8_init_269 (fun H locs hP hD hS => ?_)
  refine lv_dup hx hb dX8_init_270 rfl ?_
  refine lv_bipush hx hb dX8_init_271 (rfl : _ = iI (26)) ?_
  refine lv_bipush hx hb dX8_init_273 (rfl : _ = iI (109)) ?_
  refine k_ini lX8_2 26 hx hb hK hP hD hS 0 rfl rfl rfl (by decide) (by decide) dX8_init_275 (fun H locs hP hD hS => ?_)
  refine lv_dup hx hb dX8_init_276 rfl ?_
  refine lv_bipush hx hb dX8_init_277 (rfl : _ = iI (27)) ?_
  refine lv_bipush hx hb dX8_init_279 (rfl : _ = iI (97)) ?_
  refine k_ini lX8_2 27 hx hb hK hP hD hS 0 rfl rfl rfl (by decide) (by decide) dX8_init_281 (fun H locs hP hD hS => ?_)
  refine lv_dup hx hb dX8_init_282 rfl ?_
  refine lv_bipush hx hb dX8_init_283 (rfl : _ = iI (28)) ?_
  refine lv_bipush hx hb dX8_init_285 (rfl : _ = iI (115)) ?_
  refine k_ini lX8_2 28 hx hb hK hP hD hS 0 rfl rfl rfl (by decide) (by decide) dX8_init_287 (fun H locs hP hD hS => ?_)
  refine lv_dup hx hb dX8_init_288 rfl ?_
  refine lv_bipush hx hb dX8_init_289 (rfl : _ = iI (29)) ?_
  refine lv_bipush hx hb dX8_init_291 (rfl : _ = iI (107)) ?_
  refine k_ini lX8_2 29 hx hb hK hP hD hS 0 rfl rfl rfl (by decide) (by decide) dX8_init_293 (fun H locs hP hD hS => ?_)
  refine lv_dup hx hb dX8_init_294 rfl ?_
  refine lv_bipush hx hb dX8_init_295 (rfl : _ = iI (30)) ?_
  refine lv_bipush hx hb dX8_init_297 (rfl : _ = iI (111)) ?_
  refine k_ini lX8_2 30 hx hb hK hP hD hS 0 rfl rfl rfl (by decide) (by decide) dX8_init_299 (fun H locs hP hD hS => ?_)
  refine lv_dup hx hb dX8_init_300 rfl ?_
  refine lv_bipush hx hb dX8_init_301 (rfl : _ = iI (31)) ?_
  refine lv_bipush hx hb dX8_init_303 (rfl : _ = iI (119)) ?_
  refine k_ini lX8_2 31 hx hb hK hP hD hS 0 rfl rfl rfl (by decide) (by decide) dX8_init_305 (fun H locs hP hD hS => ?_)
  refine lv_dup hx hb dX8_init_306 rfl ?_
  refine lv_bipush hx hb dX8_init_307 (rfl : _ = iI (32)) ?_
  refine lv_bipush hx hb dX8_init_309 (rfl : _ = iI (110)) ?_
  refine k_ini lX8_2 32 hx hb hK hP hD hS 0 rfl rfl rfl (by decide) (by decide) dX8_init_311 (fun H locs hP hD hS => ?_)
  refine lv_dup hx hb dX8_init_312 rfl ?_
  refine lv_bipush hx hb dX8_init_313 (rfl : _ = iI (33)) ?_
  refine lv_bipush hx hb dX8_init_315 (rfl : _ = iI (108)) ?_
  refine k_ini lX8_2 33 hx hb hK hP hD hS 0 rfl rfl rfl (by decide) (by decide) dX8_init_317 (fun H locs hP hD hS => ?_)
  refine lv_dup hx hb dX8_init_318 rfl ?_
  refine lv_bipush hx hb dX8_init_319 (rfl : _ = iI (34)) ?_
  refine lv_bipush hx hb dX8_init_321 (rfl : _ = iI (101)) ?_
  refine k_ini lX8_2 34 hx hb hK hP hD hS 0 rfl rfl rfl (by decide) (by decide) dX8_init_323 (fun H locs hP hD hS => ?_)
  refine lv_dup hx hb dX8_init_324 rfl ?_
  refine lv_bipush hx hb dX8_init_325 (rfl : _ = iI (35)) ?_
  refine lv_bipush hx hb dX8_init_327 (rfl : _ = iI (100)) ?_
  refine k_ini lX8_2 35 hx hb hK hP hD hS 0 rfl rfl rfl (by decide) (by decide) dX8_init_329 (fun H locs hP hD hS => ?_)
  refine lv_dup hx hb dX8_init_330 rfl ?_
  refine lv_bipush hx hb dX8_init_331 (rfl : _ = iI (36)) ?_
  refine lv_bipush hx hb dX8_init_333 (rfl : _ = iI (115)) ?_
  refine k_ini lX8_2 36 hx hb hK hP hD hS 0 rfl rfl rfl (by decide) (by decide) dX8_init_335 (fun H locs hP hD hS => ?_)
  refine lv_dup hx hb dX8_init_336 rfl ?_
  refine lv_bipush hx hb dX8_init_337 (rfl : _ = iI (37)) ?_
  refine lv_bipush hx hb dX8_init_339 (rfl : _ = iI (116)) ?_
  refine k_ini lX8_2 37 hx hb hK hP hD hS 0 rfl rfl rfl (by decide) (by decide) dX8_init_341 (fun H locs hP hD hS => ?_)
  refine lv_dup hx hb dX8_init_342 rfl ?_
  refine lv_bipush hx hb dX8_init_343 (rfl : _ = iI (38)) ?_
  refine lv_bipush hx hb dX8_init_345 (rfl : _ = iI (105)) ?_
  refine k_ini lX8_2 38 hx hb hK hP hD hS 0 rfl rfl rfl (by decide) (by decide) dX8_init_347 (fun H locs hP hD hS => ?_)
  refine lv_dup hx hb dX8_init_348 rfl ?_
  refine lv_bipush hx hb dX8_init_349 (rfl : _ = iI (39)) ?_
  refine lv_bipush hx hb dX8_init_351 (rfl : _ = iI (108)) ?_
  refine k_ini lX8_2 39 hx hb hK hP hD hS 0 rfl rfl rfl (by decide) (by decide) dX8_init_353 (fun H locs hP hD hS => ?_)
  refine lv_dup hx hb dX8_init_354 rfl ?_
  refine lv_bipush hx hb dX8_init_355 (rfl : _ = iI (40)) ?_
  refine lv_bipush hx hb dX8_init_357 (rfl : _ = iI (108)) ?_
  refine k_ini lX8_2 40 hx hb hK hP hD hS 0 rfl rfl rfl (by decide) (by decide) dX8_init_359 (fun H locs hP hD hS => ?_)
  refine lv_dup hx hb dX8_init_360 rfl ?_
  refine lv_bipush hx hb dX8_init_361 (rfl : _ = iI (41)) ?_
  refine lv_bipush hx hb dX8_init_363 (rfl : _ = iI (116)) ?_
  refine k_ini lX8_2 41 hx hb hK hP hD hS 0 rfl rfl rfl (by decide) (by decide) dX8_init_365 (fun H locs hP hD hS => ?_)
  refine lv_dup hx hb dX8_init_366 rfl ?_
  refine lv_bipush hx hb dX8_init_367 (rfl : _ = iI (42)) ?_
  refine lv_bipush hx hb dX8_init_369 (rfl : _ = iI (104)) ?_
  refine k_ini lX8_2 42 hx hb hK hP hD hS 0 rfl rfl rfl (by decide) (by decide) dX8_init_371 (fun H locs hP hD hS => ?_)
  refine lv_dup hx hb dX8_init_372 rfl ?_
  refine lv_bipush hx hb dX8_init_373 (rfl : _ = iI (43)) ?_
  refine lv_bipush hx hb dX8_init_375 (rfl : _ = iI (101)) ?_
  refine k_ini lX8_2 43 hx hb hK hP hD hS 0 rfl rfl rfl (by decide) (by decide) dX8_init_377 (fun H locs hP hD hS => ?_)
  refine lv_dup hx hb dX8_init_378 rfl ?_
  refine lv_bipush hx hb dX8_init_379 (rfl : _ = iI (44)) ?_
  refine lv_bipush hx hb dX8_init_381 (rfl : _ = iI (114)) ?_
  refine k_ini lX8_2 44 hx hb hK hP hD hS 0 rfl rfl rfl (by decide) (by decide) dX8_init_383 (fun H locs hP hD hS => ?_)
  refine lv_dup hx hb dX8_init_384 rfl ?_
  refine lv_bipush hx hb dX8_init_385 (rfl : _ = iI (45)) ?_
  refine lv_bipush hx hb dX8_init_387 (rfl : _ = iI (101)) ?_
  refine k_ini lX8_2 45 hx hb hK hP hD hS 0 rfl rfl rfl (by decide) (by decide) dX8_init_389 (fun H locs hP hD hS => ?_)
  refine lv_dup hx hb dX8_init_390 rfl ?_
  refine lv_bipush hx hb dX8_init_391 (rfl : _ = iI (46)) ?_
  refine lv_bipush hx hb dX8_init_393 (rfl : _ = iI (100)) ?_
  refine k_ini lX8_2 46 hx hb hK hP hD hS 0 rfl rfl rfl (by decide) (by decide) dX8_init_395 (fun H locs hP hD hS => ?_)
  refine lv_dup hx hb dX8_init_396 rfl ?_
  refine lv_bipush hx hb dX8_init_397 (rfl : _ = iI (47)) ?_
  refine lv_bipush hx hb dX8_init_399 (rfl : _ = iI (101)) ?_
  refine k_ini lX8_2 47 hx hb hK hP hD hS 0 rfl rfl rfl (by decide) (by decide) dX8_init_401 (fun H locs hP hD hS => ?_)
  refine lv_dup hx hb dX8_init_402 rfl ?_
  refine lv_bipush hx hb dX8_init_403 (rfl : _ = iI (48)) ?_
  refine lv_bipush hx hb dX8_init_405 (rfl : _ = iI (97)) ?_
  refine k_ini lX8_2 48 hx hb hK hP hD hS 0 rfl rfl rfl (by decide) (by decide) dX8_init_407 (fun H locs hP hD hS => ?_)
  refine lv_dup hx hb dX8_init_408 rfl ?_
  refine lv_bipush hx hb dX8_init_409 (rfl : _ = iI (49)) ?_
  refine lv_bipush hx hb dX8_init_411 (rfl : _ = iI (100)) ?_
  refine k_ini lX8_2 49 hx hb hK hP hD hS 0 rfl rfl rfl (by decide) (by decide) dX8_init_413 (fun H locs hP hD hS => ?_)
  refine lv_dup hx hb dX8_init_414 rfl ?_
  refine lv_bipush hx hb dX8_init_415 (rfl : _ = iI (50)) ?_
  refine lv_bipush hx hb dX8_init_417 (rfl : _ = iI (108)) ?_
  refine k_ini lX8_2 50 hx hb hK hP hD hS 0 rfl rfl rfl (by decide) (by decide) dX8_init_419 (fun H locs hP hD hS => ?_)
  refine lv_dup hx hb dX8_init_420 rfl ?_
  refine lv_bipush hx hb dX8_init_421 (rfl : _ = iI (51)) ?_
  refine lv_bipush hx hb dX8_init_423 (rfl : _ = iI (101)) ?_
  refine k_ini lX8_2 51 hx hb hK hP hD hS 0 rfl rfl rfl (by decide) (by decide) dX8_init_425 (fun H locs hP hD hS => ?_)
  refine lv_dup hx hb dX8_init_426 rfl ?_
  refine lv_bipush hx hb dX8_init_427 (rfl : _ = iI (52)) ?_
  refine lv_bipush hx hb dX8_init_429 (rfl : _ = iI (97)) ?_
  refine k_ini lX8_2 52 hx hb hK hP hD hS 0 rfl rfl rfl (by decide) (by decide) dX8_init_431 (fun H locs hP hD hS => ?_)
  refine lv_dup hx hb dX8_init_432 rfl ?_
  refine lv_bipush hx hb dX8_init_433 (rfl : _ = iI (53)) ?_
  refine lv_bipush hx hb dX8_init_435 (rfl : _ = iI (115)) ?_
  refine k_ini lX8_2 53 hx hb hK hP hD hS 0 rfl rfl rfl (by decide) (by decide) dX8_init_437 (fun H locs hP hD hS => ?_)
  refine lv_dup hx hb dX8_init_438 rfl ?_
  refine lv_bipush hx hb dX8_init_439 (rfl : _ = iI (54)) ?_
  refine lv_bipush hx hb dX8_init_441 (rfl : _ = iI (116)) ?_
  refine k_ini lX8_2 54 hx hb hK hP hD hS 0 rfl rfl rfl (by decide) (by decide) dX8_init_443 (fun H locs hP hD hS => ?_)
  refine lv_dup hx hb dX8_init_444 rfl ?_
  refine lv_bipush hx hb dX8_init_445 (rfl : _ = iI (55)) ?_
  refine lv_bipush hx hb dX8_init_447 (rfl : _ = iI (112)) ?_
  refine k_ini lX8_2 55 hx hb hK hP hD hS 0 rfl rfl rfl (by decide) (by decide) dX8_init_449 (fun H locs hP hD hS => ?_)
  refine lv_dup hx hb dX8_init_450 rfl ?_
  refine lv_bipush hx hb dX8_init_451 (rfl : _ = iI (56)) ?_
  refine lv_bipush hx hb dX8_init_453 (rfl : _ = iI (108)) ?_
  refine k_ini lX8_2 56 hx hb hK hP hD hS 0 rfl rfl rfl (by decide) (by decide) dX8_init_455 (fun H locs hP hD hS => ?_)
  refine lv_dup hx hb dX8_init_456 rfl ?_
  refine lv_bipush hx hb dX8_init_457 (rfl : _ = iI (57)) ?_
  refine lv_bipush hx hb dX8_init_459 (rfl : _ = iI (97)) ?_
  refine k_ini lX8_2 57 hx hb hK hP hD hS 0 rfl rfl rfl (by decide) (by decide) dX8_init_461 (fun H locs hP hD hS => ?_)
  refine lv_dup hx hb dX8_init_462 rfl ?_
  refine lv_bipush hx hb dX8_init_463 (rfl : _ = iI (58)) ?_
  refine lv_bipush hx hb dX8_init_465 (rfl : _ = iI (105)) ?_
  refine k_ini lX8_2 58 hx hb hK hP hD hS 0 rfl rfl rfl (by decide) (by decide) dX8_init_467 (fun H locs hP hD hS => ?_)
  refine lv_dup hx hb dX8_init_468 rfl ?_
  refine lv_bipush hx hb dX8_init_469 (rfl : _ = iI (59)) ?_
  refine lv_bipush hx hb dX8_init_471 (rfl : _ = iI (110)) ?_
  refine k_ini lX8_2 59 hx hb hK hP hD hS 0 rfl rfl rfl (by decide) (by decide) dX8_init_473 (fun H locs hP hD hS => ?_)
  refine lv_dup hx hb dX8_init_474 rfl ?_
  refine lv_bipush hx hb dX8_init_475 (rfl : _ = iI (60)) ?_
  refine lv_bipush hx hb dX8_init_477 (rfl : _ = iI (100)) ?_
  refine k_ini lX8_2 60 hx hb hK hP hD hS 0 rfl rfl rfl (by decide) (by decide) dX8_init_479 (fun H locs hP hD hS => ?_)
  refine lv_dup hx hb dX8_init_480 rfl ?_
  refine lv_bipush hx hb dX8_init_481 (rfl : _ = iI (61)) ?_
  refine lv_bipush hx hb dX8_init_483 (rfl : _ = iI (97)) ?_
  refine k_ini lX8_2 61 hx hb hK hP hD hS 0 rfl rfl rfl (by decide) (by decide) dX8_init_485 (fun H locs hP hD hS => ?_)
  refine lv_dup hx hb dX8_init_486 rfl ?_
  refine lv_bipush hx hb dX8_init_487 (rfl : _ = iI (62)) ?_
  refine lv_bipush hx hb dX8_init_489 (rfl : _ = iI (114)) ?_
  refine k_ini lX8_2 62 hx hb hK hP hD hS 0 rfl rfl rfl (by decide) (by decide) dX8_init_491 (fun H locs hP hD hS => ?_)
  refine lv_dup hx hb dX8_init_492 rfl ?_
  refine lv_bipush hx hb dX8_init_493 (rfl : _ = iI (63)) ?_
  refine lv_bipush hx hb dX8_init_495 (rfl : _ = iI (107)) ?_
  refine k_ini lX8_2 63 hx hb hK hP hD hS 0 rfl rfl rfl (by decide) (by decide) dX8_init_497 (fun H locs hP hD hS => ?_)
  refine lv_dup hx hb dX8_init_498 rfl ?_
  refine lv_bipush hx hb dX8_init_499 (rfl : _ = iI (64)) ?_
  refine lv_bipush hx hb dX8_init_501 (rfl : _ = iI (101)) ?_
  refine k_ini lX8_2 64 hx hb hK hP hD hS 0 rfl rfl rfl (by decide) (by decide) dX8_init_503 (fun H locs hP hD hS => ?_)
  refine lv_dup hx hb dX8_init_504 rfl ?_
  refine lv_bipush hx hb dX8_init_505 (rfl : _ = iI (65)) ?_
  refine lv_bipush hx hb dX8_init_507 (rfl : _ = iI (100)) ?_
  refine k_ini lX8_2 65 hx hb hK hP hD hS 0 rfl rfl rfl (by decide) (by decide) dX8_init_509 (fun H locs hP hD hS => ?_)
  refine lv_dup hx hb dX8_init_510 rfl ?_
  refine lv_bipush hx hb dX8_init_511 (rfl : _ = iI (66)) ?_
  refine lv_bipush hx hb dX8_init_513 (rfl : _ = iI (103)) ?_
  refine k_ini lX8_2 66 hx hb hK hP hD hS 0 rfl rfl rfl (by decide) (by decide) dX8_init_515 (fun H locs hP hD hS => ?_)
  refine lv_dup hx hb dX8_init_516 rfl ?_
  refine lv_bipush hx hb dX8_init_517 (rfl : _ = iI (67)) ?_
  refine lv_bipush hx hb dX8_init_519 (rfl : _ = iI (101)) ?_
  refine k_ini lX8_2 67 hx hb hK hP hD hS 0 rfl rfl rfl (by decide) (by decide) dX8_init_521 (fun H locs hP hD hS => ?_)
  refine lv_dup hx hb dX8_init_522 rfl ?_
  refine lv_bipush hx hb dX8_init_523 (rfl : _ = iI (68)) ?_
  refine lv_bipush hx hb dX8_init_525 (rfl : _ = iI (115)) ?_
  refine k_ini lX8_2 68 hx hb hK hP hD hS 0 rfl rfl rfl (by decide) (by decide) dX8_init_527 (fun H locs hP hD hS => ?_)
  subst hw9
  have hP : va_P D vwCl [(h0, .inr (8, [.ref (q1), .int (iI 0), .int (iI 0), .int (iI 0), .int (iI 0), .int (iI 0), .int (iI 0), .int (iI 0), .int (iI 0), .ref (q2), .null, .null, .null, .null, .null, .null, .int (iI 0), .int (iI 0), .null, .int (iI 0), .null, .null, .null, .null, .int (iI 0), .null, .int (iI 0), .int (iI 0), .int (iI 0), .null, .null, .null, .null, .int (iI 0), .int (iI 0), .null, .null, .int (iI 0), .null, .null, .null, .null, .null, .null, .null, .int (iI 0)])), (q1, .inl (c1, 200, .inl zF)), (q2, .inl (c1, 17, .inl (lF lX8_1))), (q4, .inl (c1, 69, .inl (lF lX8_2)))] H := hP
  have hD : va_D A [(h0, .inr (8, [.ref (q1), .int (iI 0), .int (iI 0), .int (iI 0), .int (iI 0), .int (iI 0), .int (iI 0), .int (iI 0), .int (iI 0), .ref (q2), .null, .null, .null, .null, .null, .null, .int (iI 0), .int (iI 0), .null, .int (iI 0), .null, .null, .null, .null, .int (iI 0), .null, .int (iI 0), .int (iI 0), .int (iI 0), .null, .null, .null, .null, .int (iI 0), .int (iI 0), .null, .null, .int (iI 0), .null, .null, .null, .null, .null, .null, .null, .int (iI 0)])), (q1, .inl (c1, 200, .inl zF)), (q2, .inl (c1, 17, .inl (lF lX8_1))), (q4, .inl (c1, 69, .inl (lF lX8_2)))] := hD
  refine va_putF (D := D) (ci := 8) (v := .ref (q4)) (ty := tyX8 10) (C := RX8) (T := TX8) (N := 46) hx hb hts inGX8 tyX8 tyX8_ok nmX8 hown hK hP hD hS 0 rfl rfl 10 (by decide) (hts _ kw_815) (fun _ h9 => h9) rfl hin rfl (tyX8_ok 10 (by decide)) rfl rfl (Nat.le_of_ble_eq_true rfl) dX8_init_528 (fun H locs hP hD hS => ?_)
  have hP : va_P D vwCl [(h0, .inr (8, [.ref (q1), .int (iI 0), .int (iI 0), .int (iI 0), .int (iI 0), .int (iI 0), .int (iI 0), .int (iI 0), .int (iI 0), .ref (q2), .ref (q4), .null, .null, .null, .null, .null, .int (iI 0), .int (iI 0), .null, .int (iI 0), .null, .null, .null, .null, .int (iI 0), .null, .int (iI 0), .int (iI 0), .int (iI 0), .null, .null, .null, .null, .int (iI 0), .int (iI 0), .null, .null, .int (iI 0), .null, .null, .null, .null, .null, .null, .null, .int (iI 0)])), (q1, .inl (c1, 200, .inl zF)), (q2, .inl (c1, 17, .inl (lF lX8_1))), (q4, .inl (c1, 69, .inl (lF lX8_2)))] H := hP
  have hD : va_D A [(h0, .inr (8, [.ref (q1), .int (iI 0), .int (iI 0), .int (iI 0), .int (iI 0), .int (iI 0), .int (iI 0), .int (iI 0), .int (iI 0), .ref (q2), .ref (q4), .null, .null, .null, .null, .null, .int (iI 0), .int (iI 0), .null, .int (iI 0), .null, .null, .null, .null, .int (iI 0), .null, .int (iI 0), .int (iI 0), .int (iI 0), .null, .null, .null, .null, .int (iI 0), .int (iI 0), .null, .null, .int (iI 0), .null, .null, .null, .null, .null, .null, .null, .int (iI 0)])), (q1, .inl (c1, 200, .inl zF)), (q2, .inl (c1, 17, .inl (lF lX8_1))), (q4, .inl (c1, 69, .inl (lF lX8_2)))] := hD
  refine lv_aload_n hx hb dX8_init_531 rfl (lv_at hl 0 rfl) ?_
  refine lv_bipush hx hb dX8_init_532 (rfl : _ = iI (28)) ?_
  refine va_newa (atype := .int) hx hb (hts (Cond.arrayClass .int) kw_113) rfl hK hP hD hS hA (a0 := (28, .inl zF)) (zA_i 28) (by decide +kernel) (N' := 28) (by decide +kernel) (Nat.le_of_ble_eq_true rfl) (Nat.le_of_ble_eq_true rfl) (Nat.le_of_ble_eq_true rfl) dX8_init_534 (fun q6 c6 H hK hP hD hS => ?_)
  have e7 : c1 = c6 := (ka_i hK (i := 0) (j := 1) rfl rfl).symm
  subst e7
  have hK := hK.sub (tys' := [(c1, .int)]) [0] rfl
  have hP : va_P D vwCl [(h0, .inr (8, [.ref (q1), .int (iI 0), .int (iI 0), .int (iI 0), .int (iI 0), .int (iI 0), .int (iI 0), .int (iI 0), .int (iI 0), .ref (q2), .ref (q4), .null, .null, .null, .null, .null, .int (iI 0), .int (iI 0), .null, .int (iI 0), .null, .null, .null, .null, .int (iI 0), .null, .int (iI 0), .int (iI 0), .int (iI 0), .null, .null, .null, .null, .int (iI 0), .int (iI 0), .null, .null, .int (iI 0), .null, .null, .null, .null, .null, .null, .null, .int (iI 0)])), (q1, .inl (c1, 200, .inl zF)), (q2, .inl (c1, 17, .inl (lF lX8_1))), (q4, .inl (c1, 69, .inl (lF lX8_2))), (q6, .inl (c1, 28, .inl zF))] H := hP
  have hD : va_D A [(h0, .inr (8, [.ref (q1), .int (iI 0), .int (iI 0), .int (iI 0), .int (iI 0), .int (iI 0), .int (iI 0), .int (iI 0), .int (iI 0), .ref (q2), .ref (q4), .null, .null, .null, .null, .null, .int (iI 0), .int (iI 0), .null, .int (iI 0), .null, .null, .null, .null, .int (iI 0), .null, .int (iI 0), .int (iI 0), .int (iI 0), .null, .null, .null, .null, .int (iI 0), .int (iI 0), .null, .null, .int (iI 0), .null, .null, .null, .null, .null, .null, .null, .int (iI 0)])), (q1, .inl (c1, 200, .inl zF)), (q2, .inl (c1, 17, .inl (lF lX8_1))), (q4, .inl (c1, 69, .inl (lF lX8_2))), (q6, .inl (c1, 28, .inl zF))] := hD
  refine lv_dup hx hb dX8_init_536 rfl ?_
  refine lv_iconst hx hb dX8_init_537 (rfl : _ = iI (0)) ?_
  refine lv_iconst hx hb dX8_init_538 (rfl : _ = iI (0)) ?_
  obtain ⟨w9, hw9⟩ : ∃ w9 : va_W, w9 = [(h0, .inr (8, [.ref (q1), .int (iI 0), .int (iI 0), .int (iI 0), .int (iI 0), .int (iI 0), .int (iI 0), .int (iI 0), .int (iI 0), .ref (q2), .ref (q4), .null, .null, .null, .null, .null, .int (iI 0), .int (iI 0), .null, .int (iI 0), .null, .null, .null, .null, .int (iI 0), .null, .int (iI 0), .int (iI 0), .int (iI 0), .null, .null, .null, .null, .int (iI 0), .int (iI 0), .null, .null, .int (iI 0), .null, .null, .null, .null, .null, .null, .null, .int (iI 0)])), (q1, .inl (c1, 200, .inl zF)), (q2, .inl (c1, 17, .inl (lF lX8_1))), (q4, .inl (c1, 69, .inl (lF lX8_2)))] := ⟨_, rfl⟩
  have hP : va_P D vwCl (w9 ++ [(q6, .inl (c1, 28, .inl (lF (lX8_3.take 0))))]) H := by rw [hw9]; exact hP
  have hD : va_D A (w9 ++ [(q6, .inl (c1, 28, .inl (lF (lX8_3.take 0))))]) := by rw [hw9]; exact hD
  refine k_ini lX8_3 0 hx hb hK hP hD hS 0 rfl rfl rfl (by decide) (by decide) dX8_init_539 (fun H locs hP hD hS => ?_)
  refine lv_dup hx hb dX8_init_540 rfl ?_
  refine lv_iconst hx hb dX8_init_541 (rfl : _ = iI (1)) ?_
  refine lv_iconst hx hb dX8_init_542 (rfl : _ = iI (0)) ?_
  refine k_ini lX8_3 1 hx hb hK hP hD hS 0 rfl rfl rfl (by decide) (by decide) dX8_init_543 (fun H locs hP hD hS => ?_)
  refine lv_dup hx hb dX8_init_544 rfl ?_
  refine lv_iconst hx hb dX8_init_545 (rfl : _ = iI (2)) ?_
  refine lv_iconst hx hb dX8_init_546 (rfl : _ = iI (0)) ?_
  refine k_ini lX8_3 2 hx hb hK hP hD hS 0 rfl rfl rfl (by decide) (by decide) dX8_init_547 (fun H locs hP hD hS => ?_)
  refine lv_dup hx hb dX8_init_548 rfl ?_
  refine lv_iconst hx hb dX8_init_549 (rfl : _ = iI (3)) ?_
  refine lv_iconst hx hb dX8_init_550 (rfl : _ = iI (0)) ?_
  refine k_ini lX8_3 3 hx hb hK hP hD hS 0 rfl rfl rfl (by decide) (by decide) dX8_init_551 (fun H locs hP hD hS => ?_)
  refine lv_dup hx hb dX8_init_552 rfl ?_
  refine lv_iconst hx hb dX8_init_553 (rfl : _ = iI (4)) ?_
  refine lv_bipush hx hb dX8_init_554 (rfl : _ = iI (9)) ?_
  refine k_ini lX8_3 4 hx hb hK hP hD hS 0 rfl rfl rfl (by decide) (by decide) dX8_init_556 (fun H locs hP hD hS => ?_)
  refine lv_dup hx hb dX8_init_557 rfl ?_
  refine lv_iconst hx hb dX8_init_558 (rfl : _ = iI (5)) ?_
  refine lv_iconst hx hb dX8_init_559 (rfl : _ = iI (0)) ?_
  refine k_ini lX8_3 5 hx hb hK hP hD hS 0 rfl rfl rfl (by decide) (by decide) dX8_init_560 (fun H locs hP hD hS => ?_)
  refine lv_dup hx hb dX8_init_561 rfl ?_
  refine lv_bipush hx hb dX8_init_562 (rfl : _ = iI (6)) ?_
  refine lv_bipush hx hb dX8_init_564 (rfl : _ = iI (9)) ?_
  refine k_ini lX8_3 6 hx hb hK hP hD hS 0 rfl rfl rfl (by decide) (by decide) dX8_init_566 (fun H locs hP hD hS => ?_)
  refine lv_dup hx hb dX8_init_567 rfl ?_
  refine lv_bipush hx hb dX8_init_568 (rfl : _ = iI (7)) ?_
  refine lv_bipush hx hb dX8_init_570 (rfl : _ = iI (8)) ?_
  refine k_ini lX8_3 7 hx hb hK hP hD hS 0 rfl rfl rfl (by decide) (by decide) dX8_init_572 (fun H locs hP hD hS => ?_)
  refine lv_dup hx hb dX8_init_573 rfl ?_
  refine lv_bipush hx hb dX8_init_574 (rfl : _ = iI (8)) ?_
  refine lv_iconst hx hb dX8_init_576 (rfl : _ = iI (1)) ?_
  refine k_ini lX8_3 8 hx hb hK hP hD hS 0 rfl rfl rfl (by decide) (by decide) dX8_init_577 (fun H locs hP hD hS => ?_)
  refine lv_dup hx hb dX8_init_578 rfl ?_
  refine lv_bipush hx hb dX8_init_579 (rfl : _ = iI (9)) ?_
  refine lv_iconst hx hb dX8_init_581 (rfl : _ = iI (0)) ?_
  refine k_ini lX8_3 9 hx hb hK hP hD hS 0 rfl rfl rfl (by decide) (by decide) dX8_init_582 (fun H locs hP hD hS => ?_)
  refine lv_dup hx hb dX8_init_583 rfl ?_
  refine lv_bipush hx hb dX8_init_584 (rfl : _ = iI (10)) ?_
  refine lv_bipush hx hb dX8_init_586 (rfl : _ = iI (40)) ?_
  refine k_ini lX8_3 10 hx hb hK hP hD hS 0 rfl rfl rfl (by decide) (by decide) dX8_init_588 (fun H locs hP hD hS => ?_)
  refine lv_dup hx hb dX8_init_589 rfl ?_
  refine lv_bipush hx hb dX8_init_590 (rfl : _ = iI (11)) ?_
  refine lv_iconst hx hb dX8_init_592 (rfl : _ = iI (0)) ?_
  refine k_ini lX8_3 11 hx hb hK hP hD hS 0 rfl rfl rfl (by decide) (by decide) dX8_init_593 (fun H locs hP hD hS => ?_)
  refine lv_dup hx hb dX8_init_594 rfl ?_
  refine lv_bipush hx hb dX8_init_595 (rfl : _ = iI (12)) ?_
  refine lv_iconst hx hb dX8_init_597 (rfl : _ = iI (1)) ?_
  refine k_ini lX8_3 12 hx hb hK hP hD hS 0 rfl rfl rfl (by decide) (by decide) dX8_init_598 (fun H locs hP hD hS => ?_)
  refine lv_dup hx hb dX8_init_599 rfl ?_
  refine lv_bipush hx hb dX8_init_600 (rfl : _ = iI (13)) ?_
  refine lv_iconst hx hb dX8_init_602 (rfl : _ = iI (1)) ?_
  refine k_ini lX8_3 13 hx hb hK hP hD hS 0 rfl rfl rfl (by decide) (by decide) dX8_init_603 (fun H locs hP hD hS => ?_)
  refine lv_dup hx hb dX8_init_604 rfl ?_
  refine lv_bipush hx hb dX8_init_605 (rfl : _ = iI (14)) ?_
  refine lv_iconst hx hb dX8_init_607 (rfl : _ = iI (1)) ?_
  refine k_ini lX8_3 14 hx hb hK hP hD hS 0 rfl rfl rfl (by decide) (by decide) dX8_init_608 (fun H locs hP hD hS => ?_)
  refine lv_dup hx hb dX8_init_609 rfl ?_
  refine lv_bipush hx hb dX8_init_610 (rfl : _ = iI (15)) ?_
  refine lv_iconst hx hb dX8_init_612 (rfl : _ = iI (1)) ?_
  refine k_ini lX8_3 15 hx hb hK hP hD hS 0 rfl rfl rfl (by decide) (by decide) dX8_init_613 (fun H locs hP hD hS => ?_)
  refine lv_dup hx hb dX8_init_614 rfl ?_
  refine lv_bipush hx hb dX8_init_615 (rfl : _ = iI (16)) ?_
  refine lv_iconst hx hb dX8_init_617 (rfl : _ = iI (1)) ?_
  refine k_ini lX8_3 16 hx hb hK hP hD hS 0 rfl rfl rfl (by decide) (by decide) dX8_init_618 (fun H locs hP hD hS => ?_)
  refine lv_dup hx hb dX8_init_619 rfl ?_
  refine lv_bipush hx hb dX8_init_620 (rfl : _ = iI (17)) ?_
  refine lv_iconst hx hb dX8_init_622 (rfl : _ = iI (1)) ?_
  refine k_ini lX8_3 17 hx hb hK hP hD hS 0 rfl rfl rfl (by decide) (by decide) dX8_init_623 (fun H locs hP hD hS => ?_)
  refine lv_dup hx hb dX8_init_624 rfl ?_
  refine lv_bipush hx hb dX8_init_625 (rfl : _ = iI (18)) ?_
  refine lv_iconst hx hb dX8_init_627 (rfl : _ = iI (1)) ?_
  refine k_ini lX8_3 18 hx hb hK hP hD hS 0 rfl rfl rfl (by decide) (by decide) dX8_init_628 (fun H locs hP hD hS => ?_)
  refine lv_dup hx hb dX8_init_629 rfl ?_
  refine lv_bipush hx hb dX8_init_630 (rfl : _ = iI (19)) ?_
  refine lv_iconst hx hb dX8_init_632 (rfl : _ = iI (1)) ?_
  refine k_ini lX8_3 19 hx hb hK hP hD hS 0 rfl rfl rfl (by decide) (by decide) dX8_init_633 (fun H locs hP hD hS => ?_)
  refine lv_dup hx hb dX8_init_634 rfl ?_
  refine lv_bipush hx hb dX8_init_635 (rfl : _ = iI (20)) ?_
  refine lv_iconst hx hb dX8_init_637 (rfl : _ = iI (1)) ?_
  refine k_ini lX8_3 20 hx hb hK hP hD hS 0 rfl rfl rfl (by decide) (by decide) dX8_init_638 (fun H locs hP hD hS => ?_)
  refine lv_dup hx hb dX8_init_639 rfl ?_
  refine lv_bipush hx hb dX8_init_640 (rfl : _ = iI (21)) ?_
  refine lv_iconst hx hb dX8_init_642 (rfl : _ = iI (1)) ?_
  refine k_ini lX8_3 21 hx hb hK hP hD hS 0 rfl rfl rfl (by decide) (by decide) dX8_init_643 (fun H locs hP hD hS => ?_)
  refine lv_dup hx hb dX8_init_644 rfl ?_
  refine lv_bipush hx hb dX8_init_645 (rfl : _ = iI (22)) ?_
  refine lv_iconst hx hb dX8_init_647 (rfl : _ = iI (1)) ?_
  refine k_ini lX8_3 22 hx hb hK hP hD hS 0 rfl rfl rfl (by decide) (by decide) dX8_init_648 (fun H locs hP hD hS => ?_)
  refine lv_dup hx hb dX8_init_649 rfl ?_
  refine lv_bipush hx hb dX8_init_650 (rfl : _ = iI (23)) ?_
  refine lv_iconst hx hb dX8_init_652 (rfl : _ = iI (1)) ?_
  refine k_ini lX8_3 23 hx hb hK hP hD hS 0 rfl rfl rfl (by decide) (by decide) dX8_init_653 (fun H locs hP hD hS => ?_)
  refine lv_dup hx hb dX8_init_654 rfl ?_
  refine lv_bipush hx hb dX8_init_655 (rfl : _ = iI (24)) ?_
  refine lv_iconst hx hb dX8_init_657 (rfl : _ = iI (1)) ?_
  refine k_ini lX8_3 24 hx hb hK hP hD hS 0 rfl rfl rfl (by decide) (by decide) dX8_init_658 (fun H locs hP hD hS => ?_)
  refine lv_dup hx hb dX8_init_659 rfl ?_
  refine lv_bipush hx hb dX8_init_660 (rfl : _ = iI (25)) ?_
  refine lv_iconst hx hb dX8_init_662 (rfl : _ = iI (1)) ?_
  refine k_ini lX8_3 25 hx hb hK hP hD hS 0 rfl rfl rfl (by decide) (by decide) dX8_init_663 (fun H locs hP hD hS => ?_)
  refine lv_dup hx hb dX8_init_664 rfl ?_
  refine lv_bipush hx hb dX8_init_665 (rfl : _ = iI (26)) ?_
  refine lv_iconst hx hb dX8_init_667 (rfl : _ = iI (1)) ?_
  refine k_ini lX8_3 26 hx hb hK hP hD hS 0 rfl rfl rfl (by decide) (by decide) dX8_init_668 (fun H locs hP hD hS => ?_)
  refine lv_dup hx hb dX8_init_669 rfl ?_
  refine lv_bipush hx hb dX8_init_670 (rfl : _ = iI (27)) ?_
  refine lv_iconst hx hb dX8_init_672 (rfl : _ = iI (1)) ?_
  refine k_ini lX8_3 27 hx hb hK hP hD hS 0 rfl rfl rfl (by decide) (by decide) dX8_init_673 (fun H locs hP hD hS => ?_)
  subst hw9
  have hP : va_P D vwCl [(h0, .inr (8, [.ref (q1), .int (iI 0), .int (iI 0), .int (iI 0), .int (iI 0), .int (iI 0), .int (iI 0), .int (iI 0), .int (iI 0), .ref (q2), .ref (q4), .null, .null, .null, .null, .null, .int (iI 0), .int (iI 0), .null, .int (iI 0), .null, .null, .null, .null, .int (iI 0), .null, .int (iI 0), .int (iI 0), .int (iI 0), .null, .null, .null, .null, .int (iI 0), .int (iI 0), .null, .null, .int (iI 0), .null, .null, .null, .null, .null, .null, .null, .int (iI 0)])), (q1, .inl (c1, 200, .inl zF)), (q2, .inl (c1, 17, .inl (lF lX8_1))), (q4, .inl (c1, 69, .inl (lF lX8_2))), (q6, .inl (c1, 28, .inl (lF lX8_3)))] H := hP
  have hD : va_D A [(h0, .inr (8, [.ref (q1), .int (iI 0), .int (iI 0), .int (iI 0), .int (iI 0), .int (iI 0), .int (iI 0), .int (iI 0), .int (iI 0), .ref (q2), .ref (q4), .null, .null, .null, .null, .null, .int (iI 0), .int (iI 0), .null, .int (iI 0), .null, .null, .null, .null, .int (iI 0), .null, .int (iI 0), .int (iI 0), .int (iI 0), .null, .null, .null, .null, .int (iI 0), .int (iI 0), .null, .null, .int (iI 0), .null, .null, .null, .null, .null, .null, .null, .int (iI 0)])), (q1, .inl (c1, 200, .inl zF)), (q2, .inl (c1, 17, .inl (lF lX8_1))), (q4, .inl (c1, 69, .inl (lF lX8_2))), (q6, .inl (c1, 28, .inl (lF lX8_3)))] := hD
  refine va_putF (D := D) (ci := 8) (v := .ref (q6)) (ty := tyX8 11) (C := RX8) (T := TX8) (N := 46) hx hb hts inGX8 tyX8 tyX8_ok nmX8 hown hK hP hD hS 0 rfl rfl 11 (by decide) (hts _ kw_816) (fun _ h9 => h9) rfl hin rfl (tyX8_ok 11 (by decide)) rfl rfl (Nat.le_of_ble_eq_true rfl) dX8_init_674 (fun H locs hP hD hS => ?_)
  have hP : va_P D vwCl [(h0, .inr (8, [.ref (q1), .int (iI 0), .int (iI 0), .int (iI 0), .int (iI 0), .int (iI 0), .int (iI 0), .int (iI 0), .int (iI 0), .ref (q2), .ref (q4), .ref (q6), .null, .null, .null, .null, .int (iI 0), .int (iI 0), .null, .int (iI 0), .null, .null, .null, .null, .int (iI 0), .null, .int (iI 0), .int (iI 0), .int (iI 0), .null, .null, .null, .null, .int (iI 0), .int (iI 0), .null, .null, .int (iI 0), .null, .null, .null, .null, .null, .null, .null, .int (iI 0)])), (q1, .inl (c1, 200, .inl zF)), (q2, .inl (c1, 17, .inl (lF lX8_1))), (q4, .inl (c1, 69, .inl (lF lX8_2))), (q6, .inl (c1, 28, .inl (lF lX8_3)))] H := hP
  have hD : va_D A [(h0, .inr (8, [.ref (q1), .int (iI 0), .int (iI 0), .int (iI 0), .int (iI 0), .int (iI 0), .int (iI 0), .int (iI 0), .int (iI 0), .ref (q2), .ref (q4), .ref (q6), .null, .null, .null, .null, .int (iI 0), .int (iI 0), .null, .int (iI 0), .null, .null, .null, .null, .int (iI 0), .null, .int (iI 0), .int (iI 0), .int (iI 0), .null, .null, .null, .null, .int (iI 0), .int (iI 0), .null, .null, .int (iI 0), .null, .null, .null, .null, .null, .null, .null, .int (iI 0)])), (q1, .inl (c1, 200, .inl zF)), (q2, .inl (c1, 17, .inl (lF lX8_1))), (q4, .inl (c1, 69, .inl (lF lX8_2))), (q6, .inl (c1, 28, .inl (lF lX8_3)))] := hD
  refine lv_aload_n hx hb dX8_init_677 rfl (lv_at hl 0 rfl) ?_
  refine lv_bipush hx hb dX8_init_678 (rfl : _ = iI (13)) ?_
  refine va_newa (atype := .int) hx hb (hts (Cond.arrayClass .int) kw_113) rfl hK hP hD hS hA (a0 := (13, .inl zF)) (zA_i 13) (by decide +kernel) (N' := 13) (by decide +kernel) (Nat.le_of_ble_eq_true rfl) (Nat.le_of_ble_eq_true rfl) (Nat.le_of_ble_eq_true rfl) dX8_init_680 (fun q8 c8 H hK hP hD hS => ?_)
  have e9 : c1 = c8 := (ka_i hK (i := 0) (j := 1) rfl rfl).symm
  subst e9
  have hK := hK.sub (tys' := [(c1, .int)]) [0] rfl
  have hP : va_P D vwCl [(h0, .inr (8, [.ref (q1), .int (iI 0), .int (iI 0), .int (iI 0), .int (iI 0), .int (iI 0), .int (iI 0), .int (iI 0), .int (iI 0), .ref (q2), .ref (q4), .ref (q6), .null, .null, .null, .null, .int (iI 0), .int (iI 0), .null, .int (iI 0), .null, .null, .null, .null, .int (iI 0), .null, .int (iI 0), .int (iI 0), .int (iI 0), .null, .null, .null, .null, .int (iI 0), .int (iI 0), .null, .null, .int (iI 0), .null, .null, .null, .null, .null, .null, .null, .int (iI 0)])), (q1, .inl (c1, 200, .inl zF)), (q2, .inl (c1, 17, .inl (lF lX8_1))), (q4, .inl (c1, 69, .inl (lF lX8_2))), (q6, .inl (c1, 28, .inl (lF lX8_3))), (q8, .inl (c1, 13, .inl zF))] H := hP
  have hD : va_D A [(h0, .inr (8, [.ref (q1), .int (iI 0), .int (iI 0), .int (iI 0), .int (iI 0), .int (iI 0), .int (iI 0), .int (iI 0), .int (iI 0), .ref (q2), .ref (q4), .ref (q6), .null, .null, .null, .null, .int (iI 0), .int (iI 0), .null, .int (iI 0), .null, .null, .null, .null, .int (iI 0), .null, .int (iI 0), .int (iI 0), .int (iI 0), .null, .null, .null, .null, .int (iI 0), .int (iI 0), .null, .null, .int (iI 0), .null, .null, .null, .null, .null, .null, .null, .int (iI 0)])), (q1, .inl (c1, 200, .inl zF)), (q2, .inl (c1, 17, .inl (lF lX8_1))), (q4, .inl (c1, 69, .inl (lF lX8_2))), (q6, .inl (c1, 28, .inl (lF lX8_3))), (q8, .inl (c1, 13, .inl zF))] := hD
  refine lv_dup hx hb dX8_init_682 rfl ?_
  refine lv_iconst hx hb dX8_init_683 (rfl : _ = iI (0)) ?_
  refine lv_iconst hx hb dX8_init_684 (rfl : _ = iI (0)) ?_
  obtain ⟨w9, hw9⟩ : ∃ w9 : va_W, w9 = [(h0, .inr (8, [.ref (q1), .int (iI 0), .int (iI 0), .int (iI 0), .int (iI 0), .int (iI 0), .int (iI 0), .int (iI 0), .int (iI 0), .ref (q2), .ref (q4), .ref (q6), .null, .null, .null, .null, .int (iI 0), .int (iI 0), .null, .int (iI 0), .null, .null, .null, .null, .int (iI 0), .null, .int (iI 0), .int (iI 0), .int (iI 0), .null, .null, .null, .null, .int (iI 0), .int (iI 0), .null, .null, .int (iI 0), .null, .null, .null, .null, .null, .null, .null, .int (iI 0)])), (q1, .inl (c1, 200, .inl zF)), (q2, .inl (c1, 17, .inl (lF lX8_1))), (q4, .inl (c1, 69, .inl (lF lX8_2))), (q6, .inl (c1, 28, .inl (lF lX8_3)))] := ⟨_, rfl⟩
  have hP : va_P D vwCl (w9 ++ [(q8, .inl (c1, 13, .inl (lF (lX8_4.take 0))))]) H := by rw [hw9]; exact hP
  have hD : va_D A (w9 ++ [(q8, .inl (c1, 13, .inl (lF (lX8_4.take 0))))]) := by rw [hw9]; exact hD
  refine k_ini lX8_4 0 hx hb hK hP hD hS 0 rfl rfl rfl (by decide) (by decide) dX8_init_685 (fun H locs hP hD hS => ?_)
  refine lv_dup hx hb dX8_init_686 rfl ?_
  refine lv_iconst hx hb dX8_init_687 (rfl : _ = iI (1)) ?_
  refine lv_iconst hx hb dX8_init_688 (rfl : _ = iI (0)) ?_
  refine k_ini lX8_4 1 hx hb hK hP hD hS 0 rfl rfl rfl (by decide) (by decide) dX8_init_689 (fun H locs hP hD hS => ?_)
  refine lv_dup hx hb dX8_init_690 rfl ?_
  refine lv_iconst hx hb dX8_init_691 (rfl : _ = iI (2)) ?_
  refine lv_iconst hx hb dX8_init_692 (rfl : _ = iI (0)) ?_
  refine k_ini lX8_4 2 hx hb hK hP hD hS 0 rfl rfl rfl (by decide) (by decide) dX8_init_693 (fun H locs hP hD hS => ?_)
  refine lv_dup hx hb dX8_init_694 rfl ?_
  refine lv_iconst hx hb dX8_init_695 (rfl : _ = iI (3)) ?_
  refine lv_iconst hx hb dX8_init_696 (rfl : _ = iI (0)) ?_
  refine k_ini lX8_4 3 hx hb hK hP hD hS 0 rfl rfl rfl (by decide) (by decide) dX8_init_697 (fun H locs hP hD hS => ?_)
  refine lv_dup hx hb dX8_init_698 rfl ?_
  refine lv_iconst hx hb dX8_init_699 (rfl : _ = iI (4)) ?_
  refine lv_iconst hx hb dX8_init_700 (rfl : _ = iI (1)) ?_
  refine k_ini lX8_4 4 hx hb hK hP hD hS 0 rfl rfl rfl (by decide) (by decide) dX8_init_701 (fun H locs hP hD hS => ?_)
  refine lv_dup hx hb dX8_init_702 rfl ?_
  refine lv_iconst hx hb dX8_init_703 (rfl : _ = iI (5)) ?_
  refine lv_iconst hx hb dX8_init_704 (rfl : _ = iI (0)) ?_
  refine k_ini lX8_4 5 hx hb hK hP hD hS 0 rfl rfl rfl (by decide) (by decide) dX8_init_705 (fun H locs hP hD hS => ?_)
  refine lv_dup hx hb dX8_init_706 rfl ?_
  refine lv_bipush hx hb dX8_init_707 (rfl : _ = iI (6)) ?_
  refine lv_iconst hx hb dX8_init_709 (rfl : _ = iI (1)) ?_
  refine k_ini lX8_4 6 hx hb hK hP hD hS 0 rfl rfl rfl (by decide) (by decide) dX8_init_710 (fun H locs hP hD hS => ?_)
  refine lv_dup hx hb dX8_init_711 rfl ?_
  refine lv_bipush hx hb dX8_init_712 (rfl : _ = iI (7)) ?_
  refine lv_iconst hx hb dX8_init_714 (rfl : _ = iI (0)) ?_
  refine k_ini lX8_4 7 hx hb hK hP hD hS 0 rfl rfl rfl (by decide) (by decide) dX8_init_715 (fun H locs hP hD hS => ?_)
  refine lv_dup hx hb dX8_init_716 rfl ?_
  refine lv_bipush hx hb dX8_init_717 (rfl : _ = iI (8)) ?_
  refine lv_iconst hx hb dX8_init_719 (rfl : _ = iI (0)) ?_
  refine k_ini lX8_4 8 hx hb hK hP hD hS 0 rfl rfl rfl (by decide) (by decide) dX8_init_720 (fun H locs hP hD hS => ?_)
  refine lv_dup hx hb dX8_init_721 rfl ?_
  refine lv_bipush hx hb dX8_init_722 (rfl : _ = iI (9)) ?_
  refine lv_iconst hx hb dX8_init_724 (rfl : _ = iI (0)) ?_
  refine k_ini lX8_4 9 hx hb hK hP hD hS 0 rfl rfl rfl (by decide) (by decide) dX8_init_725 (fun H locs hP hD hS => ?_)
  refine lv_dup hx hb dX8_init_726 rfl ?_
  refine lv_bipush hx hb dX8_init_727 (rfl : _ = iI (10)) ?_
  refine lv_iconst hx hb dX8_init_729 (rfl : _ = iI (1)) ?_
  refine k_ini lX8_4 10 hx hb hK hP hD hS 0 rfl rfl rfl (by decide) (by decide) dX8_init_730 (fun H locs hP hD hS => ?_)
  refine lv_dup hx hb dX8_init_731 rfl ?_
  refine lv_bipush hx hb dX8_init_732 (rfl : _ = iI (11)) ?_
  refine lv_iconst hx hb dX8_init_734 (rfl : _ = iI (0)) ?_
  refine k_ini lX8_4 11 hx hb hK hP hD hS 0 rfl rfl rfl (by decide) (by decide) dX8_init_735 (fun H locs hP hD hS => ?_)
  refine lv_dup hx hb dX8_init_736 rfl ?_
  refine lv_bipush hx hb dX8_init_737 (rfl : _ = iI (12)) ?_
  refine lv_iconst hx hb dX8_init_739 (rfl : _ = iI (1)) ?_
  refine k_ini lX8_4 12 hx hb hK hP hD hS 0 rfl rfl rfl (by decide) (by decide) dX8_init_740 (fun H locs hP hD hS => ?_)
  subst hw9
  have hP : va_P D vwCl [(h0, .inr (8, [.ref (q1), .int (iI 0), .int (iI 0), .int (iI 0), .int (iI 0), .int (iI 0), .int (iI 0), .int (iI 0), .int (iI 0), .ref (q2), .ref (q4), .ref (q6), .null, .null, .null, .null, .int (iI 0), .int (iI 0), .null, .int (iI 0), .null, .null, .null, .null, .int (iI 0), .null, .int (iI 0), .int (iI 0), .int (iI 0), .null, .null, .null, .null, .int (iI 0), .int (iI 0), .null, .null, .int (iI 0), .null, .null, .null, .null, .null, .null, .null, .int (iI 0)])), (q1, .inl (c1, 200, .inl zF)), (q2, .inl (c1, 17, .inl (lF lX8_1))), (q4, .inl (c1, 69, .inl (lF lX8_2))), (q6, .inl (c1, 28, .inl (lF lX8_3))), (q8, .inl (c1, 13, .inl (lF lX8_4)))] H := hP
  have hD : va_D A [(h0, .inr (8, [.ref (q1), .int (iI 0), .int (iI 0), .int (iI 0), .int (iI 0), .int (iI 0), .int (iI 0), .int (iI 0), .int (iI 0), .ref (q2), .ref (q4), .ref (q6), .null, .null, .null, .null, .int (iI 0), .int (iI 0), .null, .int (iI 0), .null, .null, .null, .null, .int (iI 0), .null, .int (iI 0), .int (iI 0), .int (iI 0), .null, .null, .null, .null, .int (iI 0), .int (iI 0), .null, .null, .int (iI 0), .null, .null, .null, .null, .null, .null, .null, .int (iI 0)])), (q1, .inl (c1, 200, .inl zF)), (q2, .inl (c1, 17, .inl (lF lX8_1))), (q4, .inl (c1, 69, .inl (lF lX8_2))), (q6, .inl (c1, 28, .inl (lF lX8_3))), (q8, .inl (c1, 13, .inl (lF lX8_4)))] := hD
  refine va_putF (D := D) (ci := 8) (v := .ref (q8)) (ty := tyX8 12) (C := RX8) (T := TX8) (N := 46) hx hb hts inGX8 tyX8 tyX8_ok nmX8 hown hK hP hD hS 0 rfl rfl 12 (by decide) (hts _ kw_817) (fun _ h9 => h9) rfl hin rfl (tyX8_ok 12 (by decide)) rfl rfl (Nat.le_of_ble_eq_true rfl) dX8_init_741 (fun H locs hP hD hS => ?_)
  have hP : va_P D vwCl [(h0, .inr (8, [.ref (q1), .int (iI 0), .int (iI 0), .int (iI 0), .int (iI 0), .int (iI 0), .int (iI 0), .int (iI 0), .int (iI 0), .ref (q2), .ref (q4), .ref (q6), .ref (q8), .null, .null, .null, .int (iI 0), .int (iI 0), .null, .int (iI 0), .null, .null, .null, .null, .int (iI 0), .null, .int (iI 0), .int (iI 0), .int (iI 0), .null, .null, .null, .null, .int (iI 0), .int (iI 0), .null, .null, .int (iI 0), .null, .null, .null, .null, .null, .null, .null, .int (iI 0)])), (q1, .inl (c1, 200, .inl zF)), (q2, .inl (c1, 17, .inl (lF lX8_1))), (q4, .inl (c1, 69, .inl (lF lX8_2))), (q6, .inl (c1, 28, .inl (lF lX8_3))), (q8, .inl (c1, 13, .inl (lF lX8_4)))] H := hP
  have hD : va_D A [(h0, .inr (8, [.ref (q1), .int (iI 0), .int (iI 0), .int (iI 0), .int (iI 0), .int (iI 0), .int (iI 0), .int (iI 0), .int (iI 0), .ref (q2), .ref (q4), .ref (q6), .ref (q8), .null, .null, .null, .int (iI 0), .int (iI 0), .null, .int (iI 0), .null, .null, .null, .null, .int (iI 0), .null, .int (iI 0), .int (iI 0), .int (iI 0), .null, .null, .null, .null, .int (iI 0), .int (iI 0), .null, .null, .int (iI 0), .null, .null, .null, .null, .null, .null, .null, .int (iI 0)])), (q1, .inl (c1, 200, .inl zF)), (q2, .inl (c1, 17, .inl (lF lX8_1))), (q4, .inl (c1, 69, .inl (lF lX8_2))), (q6, .inl (c1, 28, .inl (lF lX8_3))), (q8, .inl (c1, 13, .inl (lF lX8_4)))] := hD
  refine lv_aload_n hx hb dX8_init_744 rfl (lv_at hl 0 rfl) ?_
  refine lv_bipush hx hb dX8_init_745 (rfl : _ = iI (13)) ?_
  refine va_newa (atype := .int) hx hb (hts (Cond.arrayClass .int) kw_113) rfl hK hP hD hS hA (a0 := (13, .inl zF)) (zA_i 13) (by decide +kernel) (N' := 13) (by decide +kernel) (Nat.le_of_ble_eq_true rfl) (Nat.le_of_ble_eq_true rfl) (Nat.le_of_ble_eq_true rfl) dX8_init_747 (fun q10 c10 H hK hP hD hS => ?_)
  have e11 : c1 = c10 := (ka_i hK (i := 0) (j := 1) rfl rfl).symm
  subst e11
  have hK := hK.sub (tys' := [(c1, .int)]) [0] rfl
  have hP : va_P D vwCl [(h0, .inr (8, [.ref (q1), .int (iI 0), .int (iI 0), .int (iI 0), .int (iI 0), .int (iI 0), .int (iI 0), .int (iI 0), .int (iI 0), .ref (q2), .ref (q4), .ref (q6), .ref (q8), .null, .null, .null, .int (iI 0), .int (iI 0), .null, .int (iI 0), .null, .null, .null, .null, .int (iI 0), .null, .int (iI 0), .int (iI 0), .int (iI 0), .null, .null, .null, .null, .int (iI 0), .int (iI 0), .null, .null, .int (iI 0), .null, .null, .null, .null, .null, .null, .null, .int (iI 0)])), (q1, .inl (c1, 200, .inl zF)), (q2, .inl (c1, 17, .inl (lF lX8_1))), (q4, .inl (c1, 69, .inl (lF lX8_2))), (q6, .inl (c1, 28, .inl (lF lX8_3))), (q8, .inl (c1, 13, .inl (lF lX8_4))), (q10, .inl (c1, 13, .inl zF))] H := hP
  have hD : va_D A [(h0, .inr (8, [.ref (q1), .int (iI 0), .int (iI 0), .int (iI 0), .int (iI 0), .int (iI 0), .int (iI 0), .int (iI 0), .int (iI 0), .ref (q2), .ref (q4), .ref (q6), .ref (q8), .null, .null, .null, .int (iI 0), .int (iI 0), .null, .int (iI 0), .null, .null, .null, .null, .int (iI 0), .null, .int (iI 0), .int (iI 0), .int (iI 0), .null, .null, .null, .null, .int (iI 0), .int (iI 0), .null, .null, .int (iI 0), .null, .null, .null, .null, .null, .null, .null, .int (iI 0)])), (q1, .inl (c1, 200, .inl zF)), (q2, .inl (c1, 17, .inl (lF lX8_1))), (q4, .inl (c1, 69, .inl (lF lX8_2))), (q6, .inl (c1, 28, .inl (lF lX8_3))), (q8, .inl (c1, 13, .inl (lF lX8_4))), (q10, .inl (c1, 13, .inl zF))] := hD
  refine lv_dup hx hb dX8_init_749 rfl ?_
  refine lv_iconst hx hb dX8_init_750 (rfl : _ = iI (0)) ?_
  refine lv_iconst hx hb dX8_init_751 (rfl : _ = iI (0)) ?_
  obtain ⟨w9, hw9⟩ : ∃ w9 : va_W, w9 = [(h0, .inr (8, [.ref (q1), .int (iI 0), .int (iI 0), .int (iI 0), .int (iI 0), .int (iI 0), .int (iI 0), .int (iI 0), .int (iI 0), .ref (q2), .ref (q4), .ref (q6), .ref (q8), .null, .null, .null, .int (iI 0), .int (iI 0), .null, .int (iI 0), .null, .null, .null, .null, .int (iI 0), .null, .int (iI 0), .int (iI 0), .int (iI 0), .null, .null, .null, .null, .int (iI 0), .int (iI 0), .null, .null, .int (iI 0), .null, .null, .null, .null, .null, .null, .null, .int (iI 0)])), (q1, .inl (c1, 200, .inl zF)), (q2, .inl (c1, 17, .inl (lF lX8_1))), (q4, .inl (c1, 69, .inl (lF lX8_2))), (q6, .inl (c1, 28, .inl (lF lX8_3))), (q8, .inl (c1, 13, .inl (lF lX8_4)))] := ⟨_, rfl⟩
  have hP : va_P D vwCl (w9 ++ [(q10, .inl (c1, 13, .inl (lF (lX8_5.take 0))))]) H := by rw [hw9]; exact hP
  have hD : va_D A (w9 ++ [(q10, .inl (c1, 13, .inl (lF (lX8_5.take 0))))]) := by rw [hw9]; exact hD
  refine k_ini lX8_5 0 hx hb hK hP hD hS 0 rfl rfl rfl (by decide) (by decide) dX8_init_752 (fun H locs hP hD hS => ?_)
  refine lv_dup hx hb dX8_init_753 rfl ?_
  refine lv_iconst hx hb dX8_init_754 (rfl : _ = iI (1)) ?_
  refine lv_iconst hx hb dX8_init_755 (rfl : _ = iI (4)) ?_
  refine k_ini lX8_5 1 hx hb hK hP hD hS 0 rfl rfl rfl (by decide) (by decide) dX8_init_756 (fun H locs hP hD hS => ?_)
  refine lv_dup hx hb dX8_init_757 rfl ?_
  refine lv_iconst hx hb dX8_init_758 (rfl : _ = iI (2)) ?_
  refine lv_iconst hx hb dX8_init_759 (rfl : _ = iI (3)) ?_
  refine k_ini lX8_5 2 hx hb hK hP hD hS 0 rfl rfl rfl (by decide) (by decide) dX8_init_760 (fun H locs hP hD hS => ?_)
  refine lv_dup hx hb dX8_init_761 rfl ?_
  refine lv_iconst hx hb dX8_init_762 (rfl : _ = iI (3)) ?_
  refine lv_bipush hx hb dX8_init_763 (rfl : _ = iI (9)) ?_
  refine k_ini lX8_5 3 hx hb hK hP hD hS 0 rfl rfl rfl (by decide) (by decide) dX8_init_765 (fun H locs hP hD hS => ?_)
  refine lv_dup hx hb dX8_init_766 rfl ?_
  refine lv_iconst hx hb dX8_init_767 (rfl : _ = iI (4)) ?_
  refine lv_bipush hx hb dX8_init_768 (rfl : _ = iI (9)) ?_
  refine k_ini lX8_5 4 hx hb hK hP hD hS 0 rfl rfl rfl (by decide) (by decide) dX8_init_770 (fun H locs hP hD hS => ?_)
  refine lv_dup hx hb dX8_init_771 rfl ?_
  refine lv_iconst hx hb dX8_init_772 (rfl : _ = iI (5)) ?_
  refine lv_iconst hx hb dX8_init_773 (rfl : _ = iI (0)) ?_
  refine k_ini lX8_5 5 hx hb hK hP hD hS 0 rfl rfl rfl (by decide) (by decide) dX8_init_774 (fun H locs hP hD hS => ?_)
  refine lv_dup hx hb dX8_init_775 rfl ?_
  refine lv_bipush hx hb dX8_init_776 (rfl : _ = iI (6)) ?_
  refine lv_bipush hx hb dX8_init_778 (rfl : _ = iI (9)) ?_
  refine k_ini lX8_5 6 hx hb hK hP hD hS 0 rfl rfl rfl (by decide) (by decide) dX8_init_780 (fun H locs hP hD hS => ?_)
  refine lv_dup hx hb dX8_init_781 rfl ?_
  refine lv_bipush hx hb dX8_init_782 (rfl : _ = iI (7)) ?_
  refine lv_bipush hx hb dX8_init_784 (rfl : _ = iI (20)) ?_
  refine k_ini lX8_5 7 hx hb hK hP hD hS 0 rfl rfl rfl (by decide) (by decide) dX8_init_786 (fun H locs hP hD hS => ?_)
  refine lv_dup hx hb dX8_init_787 rfl ?_
  refine lv_bipush hx hb dX8_init_788 (rfl : _ = iI (8)) ?_
  refine lv_bipush hx hb dX8_init_790 (rfl : _ = iI (20)) ?_
  refine k_ini lX8_5 8 hx hb hK hP hD hS 0 rfl rfl rfl (by decide) (by decide) dX8_init_792 (fun H locs hP hD hS => ?_)
  refine lv_dup hx hb dX8_init_793 rfl ?_
  refine lv_bipush hx hb dX8_init_794 (rfl : _ = iI (9)) ?_
  refine lv_bipush hx hb dX8_init_796 (rfl : _ = iI (20)) ?_
  refine k_ini lX8_5 9 hx hb hK hP hD hS 0 rfl rfl rfl (by decide) (by decide) dX8_init_798 (fun H locs hP hD hS => ?_)
  refine lv_dup hx hb dX8_init_799 rfl ?_
  refine lv_bipush hx hb dX8_init_800 (rfl : _ = iI (10)) ?_
  refine lv_bipush hx hb dX8_init_802 (rfl : _ = iI (99)) ?_
  refine k_ini lX8_5 10 hx hb hK hP hD hS 0 rfl rfl rfl (by decide) (by decide) dX8_init_804 (fun H locs hP hD hS => ?_)
  refine lv_dup hx hb dX8_init_805 rfl ?_
  refine lv_bipush hx hb dX8_init_806 (rfl : _ = iI (11)) ?_
  refine lv_bipush hx hb dX8_init_808 (rfl : _ = iI (15)) ?_
  refine k_ini lX8_5 11 hx hb hK hP hD hS 0 rfl rfl rfl (by decide) (by decide) dX8_init_810 (fun H locs hP hD hS => ?_)
  refine lv_dup hx hb dX8_init_811 rfl ?_
  refine lv_bipush hx hb dX8_init_812 (rfl : _ = iI (12)) ?_
  refine lv_bipush hx hb dX8_init_814 (rfl : _ = iI (9)) ?_
  refine k_ini lX8_5 12 hx hb hK hP hD hS 0 rfl rfl rfl (by decide) (by decide) dX8_init_816 (fun H locs hP hD hS => ?_)
  subst hw9
  have hP : va_P D vwCl [(h0, .inr (8, [.ref (q1), .int (iI 0), .int (iI 0), .int (iI 0), .int (iI 0), .int (iI 0), .int (iI 0), .int (iI 0), .int (iI 0), .ref (q2), .ref (q4), .ref (q6), .ref (q8), .null, .null, .null, .int (iI 0), .int (iI 0), .null, .int (iI 0), .null, .null, .null, .null, .int (iI 0), .null, .int (iI 0), .int (iI 0), .int (iI 0), .null, .null, .null, .null, .int (iI 0), .int (iI 0), .null, .null, .int (iI 0), .null, .null, .null, .null, .null, .null, .null, .int (iI 0)])), (q1, .inl (c1, 200, .inl zF)), (q2, .inl (c1, 17, .inl (lF lX8_1))), (q4, .inl (c1, 69, .inl (lF lX8_2))), (q6, .inl (c1, 28, .inl (lF lX8_3))), (q8, .inl (c1, 13, .inl (lF lX8_4))), (q10, .inl (c1, 13, .inl (lF lX8_5)))] H := hP
  have hD : va_D A [(h0, .inr (8, [.ref (q1), .int (iI 0), .int (iI 0), .int (iI 0), .int (iI 0), .int (iI 0), .int (iI 0), .int (iI 0), .int (iI 0), .ref (q2), .ref (q4), .ref (q6), .ref (q8), .null, .null, .null, .int (iI 0), .int (iI 0), .null, .int (iI 0), .null, .null, .null, .null, .int (iI 0), .null, .int (iI 0), .int (iI 0), .int (iI 0), .null, .null, .null, .null, .int (iI 0), .int (iI 0), .null, .null, .int (iI 0), .null, .null, .null, .null, .null, .null, .null, .int (iI 0)])), (q1, .inl (c1, 200, .inl zF)), (q2, .inl (c1, 17, .inl (lF lX8_1))), (q4, .inl (c1, 69, .inl (lF lX8_2))), (q6, .inl (c1, 28, .inl (lF lX8_3))), (q8, .inl (c1, 13, .inl (lF lX8_4))), (q10, .inl (c1, 13, .inl (lF lX8_5)))] := hD
  refine va_putF (D := D) (ci := 8) (v := .ref (q10)) (ty := tyX8 13) (C := RX8) (T := TX8) (N := 46) hx hb hts inGX8 tyX8 tyX8_ok nmX8 hown hK hP hD hS 0 rfl rfl 13 (by decide) (hts _ kw_818) (fun _ h9 => h9) rfl hin rfl (tyX8_ok 13 (by decide)) rfl rfl (Nat.le_of_ble_eq_true rfl) dX8_init_817 (fun H locs hP hD hS => ?_)
  have hP : va_P D vwCl [(h0, .inr (8, [.ref (q1), .int (iI 0), .int (iI 0), .int (iI 0), .int (iI 0), .int (iI 0), .int (iI 0), .int (iI 0), .int (iI 0), .ref (q2), .ref (q4), .ref (q6), .ref (q8), .ref (q10), .null, .null, .int (iI 0), .int (iI 0), .null, .int (iI 0), .null, .null, .null, .null, .int (iI 0), .null, .int (iI 0), .int (iI 0), .int (iI 0), .null, .null, .null, .null, .int (iI 0), .int (iI 0), .null, .null, .int (iI 0), .null, .null, .null, .null, .null, .null, .null, .int (iI 0)])), (q1, .inl (c1, 200, .inl zF)), (q2, .inl (c1, 17, .inl (lF lX8_1))), (q4, .inl (c1, 69, .inl (lF lX8_2))), (q6, .inl (c1, 28, .inl (lF lX8_3))), (q8, .inl (c1, 13, .inl (lF lX8_4))), (q10, .inl (c1, 13, .inl (lF lX8_5)))] H := hP
  have hD : va_D A [(h0, .inr (8, [.ref (q1), .int (iI 0), .int (iI 0), .int (iI 0), .int (iI 0), .int (iI 0), .int (iI 0), .int (iI 0), .int (iI 0), .ref (q2), .ref (q4), .ref (q6), .ref (q8), .ref (q10), .null, .null, .int (iI 0), .int (iI 0), .null, .int (iI 0), .null, .null, .null, .null, .int (iI 0), .null, .int (iI 0), .int (iI 0), .int (iI 0), .null, .null, .null, .null, .int (iI 0), .int (iI 0), .null, .null, .int (iI 0), .null, .null, .null, .null, .null, .null, .null, .int (iI 0)])), (q1, .inl (c1, 200, .inl zF)), (q2, .inl (c1, 17, .inl (lF lX8_1))), (q4, .inl (c1, 69, .inl (lF lX8_2))), (q6, .inl (c1, 28, .inl (lF lX8_3))), (q8, .inl (c1, 13, .inl (lF lX8_4))), (q10, .inl (c1, 13, .inl (lF lX8_5)))] := hD
  refine lv_aload_n hx hb dX8_init_820 rfl (lv_at hl 0 rfl) ?_
  refine lv_bipush hx hb dX8_init_821 (rfl : _ = iI (28)) ?_
  refine va_newa (atype := .int) hx hb (hts (Cond.arrayClass .int) kw_113) rfl hK hP hD hS hA (a0 := (28, .inl zF)) (zA_i 28) (by decide +kernel) (N' := 28) (by decide +kernel) (Nat.le_of_ble_eq_true rfl) (Nat.le_of_ble_eq_true rfl) (Nat.le_of_ble_eq_true rfl) dX8_init_823 (fun q12 c12 H hK hP hD hS => ?_)
  have e13 : c1 = c12 := (ka_i hK (i := 0) (j := 1) rfl rfl).symm
  subst e13
  have hK := hK.sub (tys' := [(c1, .int)]) [0] rfl
  have hP : va_P D vwCl [(h0, .inr (8, [.ref (q1), .int (iI 0), .int (iI 0), .int (iI 0), .int (iI 0), .int (iI 0), .int (iI 0), .int (iI 0), .int (iI 0), .ref (q2), .ref (q4), .ref (q6), .ref (q8), .ref (q10), .null, .null, .int (iI 0), .int (iI 0), .null, .int (iI 0), .null, .null, .null, .null, .int (iI 0), .null, .int (iI 0), .int (iI 0), .int (iI 0), .null, .null, .null, .null, .int (iI 0), .int (iI 0), .null, .null, .int (iI 0), .null, .null, .null, .null, .null, .null, .null, .int (iI 0)])), (q1, .inl (c1, 200, .inl zF)), (q2, .inl (c1, 17, .inl (lF lX8_1))), (q4, .inl (c1, 69, .inl (lF lX8_2))), (q6, .inl (c1, 28, .inl (lF lX8_3))), (q8, .inl (c1, 13, .inl (lF lX8_4))), (q10, .inl (c1, 13, .inl (lF lX8_5))), (q12, .inl (c1, 28, .inl zF))] H := hP
  have hD : va_D A [(h0, .inr (8, [.ref (q1), .int (iI 0), .int (iI 0), .int (iI 0), .int (iI 0), .int (iI 0), .int (iI 0), .int (iI 0), .int (iI 0), .ref (q2), .ref (q4), .ref (q6), .ref (q8), .ref (q10), .null, .null, .int (iI 0), .int (iI 0), .null, .int (iI 0), .null, .null, .null, .null, .int (iI 0), .null, .int (iI 0), .int (iI 0), .int (iI 0), .null, .null, .null, .null, .int (iI 0), .int (iI 0), .null, .null, .int (iI 0), .null, .null, .null, .null, .null, .null, .null, .int (iI 0)])), (q1, .inl (c1, 200, .inl zF)), (q2, .inl (c1, 17, .inl (lF lX8_1))), (q4, .inl (c1, 69, .inl (lF lX8_2))), (q6, .inl (c1, 28, .inl (lF lX8_3))), (q8, .inl (c1, 13, .inl (lF lX8_4))), (q10, .inl (c1, 13, .inl (lF lX8_5))), (q12, .inl (c1, 28, .inl zF))] := hD
  refine lv_dup hx hb dX8_init_825 rfl ?_
  refine lv_iconst hx hb dX8_init_826 (rfl : _ = iI (0)) ?_
  refine lv_iconst hx hb dX8_init_827 (rfl : _ = iI (0)) ?_
  obtain ⟨w9, hw9⟩ : ∃ w9 : va_W, w9 = [(h0, .inr (8, [.ref (q1), .int (iI 0), .int (iI 0), .int (iI 0), .int (iI 0), .int (iI 0), .int (iI 0), .int (iI 0), .int (iI 0), .ref (q2), .ref (q4), .ref (q6), .ref (q8), .ref (q10), .null, .null, .int (iI 0), .int (iI 0), .null, .int (iI 0), .null, .null, .null, .null, .int (iI 0), .null, .int (iI 0), .int (iI 0), .int (iI 0), .null, .null, .null, .null, .int (iI 0), .int (iI 0), .null, .null, .int (iI 0), .null, .null, .null, .null, .null, .null, .null, .int (iI 0)])), (q1, .inl (c1, 200, .inl zF)), (q2, .inl (c1, 17, .inl (lF lX8_1))), (q4, .inl (c1, 69, .inl (lF lX8_2))), (q6, .inl (c1, 28, .inl (lF lX8_3))), (q8, .inl (c1, 13, .inl (lF lX8_4))), (q10, .inl (c1, 13, .inl (lF lX8_5)))] := ⟨_, rfl⟩
  have hP : va_P D vwCl (w9 ++ [(q12, .inl (c1, 28, .inl (lF (lX8_6.take 0))))]) H := by rw [hw9]; exact hP
  have hD : va_D A (w9 ++ [(q12, .inl (c1, 28, .inl (lF (lX8_6.take 0))))]) := by rw [hw9]; exact hD
  refine k_ini lX8_6 0 hx hb hK hP hD hS 0 rfl rfl rfl (by decide) (by decide) dX8_init_828 (fun H locs hP hD hS => ?_)
  refine lv_dup hx hb dX8_init_829 rfl ?_
  refine lv_iconst hx hb dX8_init_830 (rfl : _ = iI (1)) ?_
  refine lv_iconst hx hb dX8_init_831 (rfl : _ = iI (0)) ?_
  refine k_ini lX8_6 1 hx hb hK hP hD hS 0 rfl rfl rfl (by decide) (by decide) dX8_init_832 (fun H locs hP hD hS => ?_)
  refine lv_dup hx hb dX8_init_833 rfl ?_
  refine lv_iconst hx hb dX8_init_834 (rfl : _ = iI (2)) ?_
  refine lv_iconst hx hb dX8_init_835 (rfl : _ = iI (0)) ?_
  refine k_ini lX8_6 2 hx hb hK hP hD hS 0 rfl rfl rfl (by decide) (by decide) dX8_init_836 (fun H locs hP hD hS => ?_)
  refine lv_dup hx hb dX8_init_837 rfl ?_
  refine lv_iconst hx hb dX8_init_838 (rfl : _ = iI (3)) ?_
  refine lv_iconst hx hb dX8_init_839 (rfl : _ = iI (0)) ?_
  refine k_ini lX8_6 3 hx hb hK hP hD hS 0 rfl rfl rfl (by decide) (by decide) dX8_init_840 (fun H locs hP hD hS => ?_)
  refine lv_dup hx hb dX8_init_841 rfl ?_
  refine lv_iconst hx hb dX8_init_842 (rfl : _ = iI (4)) ?_
  refine lv_bipush hx hb dX8_init_843 (rfl : _ = iI (9)) ?_
  refine k_ini lX8_6 4 hx hb hK hP hD hS 0 rfl rfl rfl (by decide) (by decide) dX8_init_845 (fun H locs hP hD hS => ?_)
  refine lv_dup hx hb dX8_init_846 rfl ?_
  refine lv_iconst hx hb dX8_init_847 (rfl : _ = iI (5)) ?_
  refine lv_iconst hx hb dX8_init_848 (rfl : _ = iI (0)) ?_
  refine k_ini lX8_6 5 hx hb hK hP hD hS 0 rfl rfl rfl (by decide) (by decide) dX8_init_849 (fun H locs hP hD hS => ?_)
  refine lv_dup hx hb dX8_init_850 rfl ?_
  refine lv_bipush hx hb dX8_init_851 (rfl : _ = iI (6)) ?_
  refine lv_bipush hx hb dX8_init_853 (rfl : _ = iI (9)) ?_
  refine k_ini lX8_6 6 hx hb hK hP hD hS 0 rfl rfl rfl (by decide) (by decide) dX8_init_855 (fun H locs hP hD hS => ?_)
  refine lv_dup hx hb dX8_init_856 rfl ?_
  refine lv_bipush hx hb dX8_init_857 (rfl : _ = iI (7)) ?_
  refine lv_bipush hx hb dX8_init_859 (rfl : _ = iI (8)) ?_
  refine k_ini lX8_6 7 hx hb hK hP hD hS 0 rfl rfl rfl (by decide) (by decide) dX8_init_861 (fun H locs hP hD hS => ?_)
  refine lv_dup hx hb dX8_init_862 rfl ?_
  refine lv_bipush hx hb dX8_init_863 (rfl : _ = iI (8)) ?_
  refine lv_iconst hx hb dX8_init_865 (rfl : _ = iI (1)) ?_
  refine k_ini lX8_6 8 hx hb hK hP hD hS 0 rfl rfl rfl (by decide) (by decide) dX8_init_866 (fun H locs hP hD hS => ?_)
  refine lv_dup hx hb dX8_init_867 rfl ?_
  refine lv_bipush hx hb dX8_init_868 (rfl : _ = iI (9)) ?_
  refine lv_iconst hx hb dX8_init_870 (rfl : _ = iI (0)) ?_
  refine k_ini lX8_6 9 hx hb hK hP hD hS 0 rfl rfl rfl (by decide) (by decide) dX8_init_871 (fun H locs hP hD hS => ?_)
  refine lv_dup hx hb dX8_init_872 rfl ?_
  refine lv_bipush hx hb dX8_init_873 (rfl : _ = iI (10)) ?_
  refine lv_bipush hx hb dX8_init_875 (rfl : _ = iI (40)) ?_
  refine k_ini lX8_6 10 hx hb hK hP hD hS 0 rfl rfl rfl (by decide) (by decide) dX8_init_877 (fun H locs hP hD hS => ?_)
  refine lv_dup hx hb dX8_init_878 rfl ?_
  refine lv_bipush hx hb dX8_init_879 (rfl : _ = iI (11)) ?_
  refine lv_iconst hx hb dX8_init_881 (rfl : _ = iI (0)) ?_
  refine k_ini lX8_6 11 hx hb hK hP hD hS 0 rfl rfl rfl (by decide) (by decide) dX8_init_882 (fun H locs hP hD hS => ?_)
  refine lv_dup hx hb dX8_init_883 rfl ?_
  refine lv_bipush hx hb dX8_init_884 (rfl : _ = iI (12)) ?_
  refine lv_iconst hx hb dX8_init_886 (rfl : _ = iI (1)) ?_
  refine k_ini lX8_6 12 hx hb hK hP hD hS 0 rfl rfl rfl (by decide) (by decide) dX8_init_887 (fun H locs hP hD hS => ?_)
  refine lv_dup hx hb dX8_init_888 rfl ?_
  refine lv_bipush hx hb dX8_init_889 (rfl : _ = iI (13)) ?_
  refine lv_iconst hx hb dX8_init_891 (rfl : _ = iI (1)) ?_
  refine k_ini lX8_6 13 hx hb hK hP hD hS 0 rfl rfl rfl (by decide) (by decide) dX8_init_892 (fun H locs hP hD hS => ?_)
  refine lv_dup hx hb dX8_init_893 rfl ?_
  refine lv_bipush hx hb dX8_init_894 (rfl : _ = iI (14)) ?_
  refine lv_iconst hx hb dX8_init_896 (rfl : _ = iI (1)) ?_
  refine k_ini lX8_6 14 hx hb hK hP hD hS 0 rfl rfl rfl (by decide) (by decide) dX8_init_897 (fun H locs hP hD hS => ?_)
  refine lv_dup hx hb dX8_init_898 rfl ?_
  refine lv_bipush hx hb dX8_init_899 (rfl : _ = iI (15)) ?_
  refine lv_iconst hx hb dX8_init_901 (rfl : _ = iI (1)) ?_
  refine k_ini lX8_6 15 hx hb hK hP hD hS 0 rfl rfl rfl (by decide) (by decide) dX8_init_902 (fun H locs hP hD hS => ?_)
  refine lv_dup hx hb dX8_init_903 rfl ?_
  refine lv_bipush hx hb dX8_init_904 (rfl : _ = iI (16)) ?_
  refine lv_iconst hx hb dX8_init_906 (rfl : _ = iI (1)) ?_
  refine k_ini lX8_6 16 hx hb hK hP hD hS 0 rfl rfl rfl (by decide) (by decide) dX8_init_907 (fun H locs hP hD hS => ?_)
  refine lv_dup hx hb dX8_init_908 rfl ?_
  refine lv_bipush hx hb dX8_init_909 (rfl : _ = iI (17)) ?_
  refine lv_iconst hx hb dX8_init_911 (rfl : _ = iI (1)) ?_
  refine k_ini lX8_6 17 hx hb hK hP hD hS 0 rfl rfl rfl (by decide) (by decide) dX8_init_912 (fun H locs hP hD hS => ?_)
  refine lv_dup hx hb dX8_init_913 rfl ?_
  refine lv_bipush hx hb dX8_init_914 (rfl : _ = iI (18)) ?_
  refine lv_iconst hx hb dX8_init_916 (rfl : _ = iI (1)) ?_
  refine k_ini lX8_6 18 hx hb hK hP hD hS 0 rfl rfl rfl (by decide) (by decide) dX8_init_917 (fun H locs hP hD hS => ?_)
  refine lv_dup hx hb dX8_init_918 rfl ?_
  refine lv_bipush hx hb dX8_init_919 (rfl : _ = iI (19)) ?_
  refine lv_iconst hx hb dX8_init_921 (rfl : _ = iI (1)) ?_
  refine k_ini lX8_6 19 hx hb hK hP hD hS 0 rfl rfl rfl (by decide) (by decide) dX8_init_922 (fun H locs hP hD hS => ?_)
  refine lv_dup hx hb dX8_init_923 rfl ?_
  refine lv_bipush hx hb dX8_init_924 (rfl : _ = iI (20)) ?_
  refine lv_iconst hx hb dX8_init_926 (rfl : _ = iI (1)) ?_
  refine k_ini lX8_6 20 hx hb hK hP hD hS 0 rfl rfl rfl (by decide) (by decide) dX8_init_927 (fun H locs hP hD hS => ?_)
  refine lv_dup hx hb dX8_init_928 rfl ?_
  refine lv_bipush hx hb dX8_init_929 (rfl : _ = iI (21)) ?_
  refine lv_iconst hx hb dX8_init_931 (rfl : _ = iI (1)) ?_
  refine k_ini lX8_6 21 hx hb hK hP hD hS 0 rfl rfl rfl (by decide) (by decide) dX8_init_932 (fun H locs hP hD hS => ?_)
  refine lv_dup hx hb dX8_init_933 rfl ?_
  refine lv_bipush hx hb dX8_init_934 (rfl : _ = iI (22)) ?_
  refine lv_iconst hx hb dX8_init_936 (rfl : _ = iI (1)) ?_
  refine k_ini lX8_6 22 hx hb hK hP hD hS 0 rfl rfl rfl (by decide) (by decide) dX8_init_937 (fun H locs hP hD hS => ?_)
  refine lv_dup hx hb dX8_init_938 rfl ?_
  refine lv_bipush hx hb dX8_init_939 (rfl : _ = iI (23)) ?_
  refine lv_iconst hx hb dX8_init_941 (rfl : _ = iI (1)) ?_
  refine k_ini lX8_6 23 hx hb hK hP hD hS 0 rfl rfl rfl (by decide) (by decide) dX8_init_942 (fun H locs hP hD hS => ?_)
  refine lv_dup hx hb dX8_init_943 rfl ?_
  refine lv_bipush hx hb dX8_init_944 (rfl : _ = iI (24)) ?_
  refine lv_iconst hx hb dX8_init_946 (rfl : _ = iI (1)) ?_
  refine k_ini lX8_6 24 hx hb hK hP hD hS 0 rfl rfl rfl (by decide) (by decide) dX8_init_947 (fun H locs hP hD hS => ?_)
  refine lv_dup hx hb dX8_init_948 rfl ?_
  refine lv_bipush hx hb dX8_init_949 (rfl : _ = iI (25)) ?_
  refine lv_iconst hx hb dX8_init_951 (rfl : _ = iI (1)) ?_
  refine k_ini lX8_6 25 hx hb hK hP hD hS 0 rfl rfl rfl (by decide) (by decide) dX8_init_952 (fun H locs hP hD hS => ?_)
  refine lv_dup hx hb dX8_init_953 rfl ?_
  refine lv_bipush hx hb dX8_init_954 (rfl : _ = iI (26)) ?_
  refine lv_iconst hx hb dX8_init_956 (rfl : _ = iI (1)) ?_
  refine k_ini lX8_6 26 hx hb hK hP hD hS 0 rfl rfl rfl (by decide) (by decide) dX8_init_957 (fun H locs hP hD hS => ?_)
  refine lv_dup hx hb dX8_init_958 rfl ?_
  refine lv_bipush hx hb dX8_init_959 (rfl : _ = iI (27)) ?_
  refine lv_iconst hx hb dX8_init_961 (rfl : _ = iI (1)) ?_
  refine k_ini lX8_6 27 hx hb hK hP hD hS 0 rfl rfl rfl (by decide) (by decide) dX8_init_962 (fun H locs hP hD hS => ?_)
  subst hw9
  have hP : va_P D vwCl [(h0, .inr (8, [.ref (q1), .int (iI 0), .int (iI 0), .int (iI 0), .int (iI 0), .int (iI 0), .int (iI 0), .int (iI 0), .int (iI 0), .ref (q2), .ref (q4), .ref (q6), .ref (q8), .ref (q10), .null, .null, .int (iI 0), .int (iI 0), .null, .int (iI 0), .null, .null, .null, .null, .int (iI 0), .null, .int (iI 0), .int (iI 0), .int (iI 0), .null, .null, .null, .null, .int (iI 0), .int (iI 0), .null, .null, .int (iI 0), .null, .null, .null, .null, .null, .null, .null, .int (iI 0)])), (q1, .inl (c1, 200, .inl zF)), (q2, .inl (c1, 17, .inl (lF lX8_1))), (q4, .inl (c1, 69, .inl (lF lX8_2))), (q6, .inl (c1, 28, .inl (lF lX8_3))), (q8, .inl (c1, 13, .inl (lF lX8_4))), (q10, .inl (c1, 13, .inl (lF lX8_5))), (q12, .inl (c1, 28, .inl (lF lX8_6)))] H := hP
  have hD : va_D A [(h0, .inr (8, [.ref (q1), .int (iI 0), .int (iI 0), .int (iI 0), .int (iI 0), .int (iI 0), .int (iI 0), .int (iI 0), .int (iI 0), .ref (q2), .ref (q4), .ref (q6), .ref (q8), .ref (q10), .null, .null, .int (iI 0), .int (iI 0), .null, .int (iI 0), .null, .null, .null, .null, .int (iI 0), .null, .int (iI 0), .int (iI 0), .int (iI 0), .null, .null, .null, .null, .int (iI 0), .int (iI 0), .null, .null, .int (iI 0), .null, .null, .null, .null, .null, .null, .null, .int (iI 0)])), (q1, .inl (c1, 200, .inl zF)), (q2, .inl (c1, 17, .inl (lF lX8_1))), (q4, .inl (c1, 69, .inl (lF lX8_2))), (q6, .inl (c1, 28, .inl (lF lX8_3))), (q8, .inl (c1, 13, .inl (lF lX8_4))), (q10, .inl (c1, 13, .inl (lF lX8_5))), (q12, .inl (c1, 28, .inl (lF lX8_6)))] := hD
  refine va_putF (D := D) (ci := 8) (v := .ref (q12)) (ty := tyX8 14) (C := RX8) (T := TX8) (N := 46) hx hb hts inGX8 tyX8 tyX8_ok nmX8 hown hK hP hD hS 0 rfl rfl 14 (by decide) (hts _ kw_819) (fun _ h9 => h9) rfl hin rfl (tyX8_ok 14 (by decide)) rfl rfl (Nat.le_of_ble_eq_true rfl) dX8_init_963 (fun H locs hP hD hS => ?_)
  have hP : va_P D vwCl [(h0, .inr (8, [.ref (q1), .int (iI 0), .int (iI 0), .int (iI 0), .int (iI 0), .int (iI 0), .int (iI 0), .int (iI 0), .int (iI 0), .ref (q2), .ref (q4), .ref (q6), .ref (q8), .ref (q10), .ref (q12), .null, .int (iI 0), .int (iI 0), .null, .int (iI 0), .null, .null, .null, .null, .int (iI 0), .null, .int (iI 0), .int (iI 0), .int (iI 0), .null, .null, .null, .null, .int (iI 0), .int (iI 0), .null, .null, .int (iI 0), .null, .null, .null, .null, .null, .null, .null, .int (iI 0)])), (q1, .inl (c1, 200, .inl zF)), (q2, .inl (c1, 17, .inl (lF lX8_1))), (q4, .inl (c1, 69, .inl (lF lX8_2))), (q6, .inl (c1, 28, .inl (lF lX8_3))), (q8, .inl (c1, 13, .inl (lF lX8_4))), (q10, .inl (c1, 13, .inl (lF lX8_5))), (q12, .inl (c1, 28, .inl (lF lX8_6)))] H := hP
  have hD : va_D A [(h0, .inr (8, [.ref (q1), .int (iI 0), .int (iI 0), .int (iI 0), .int (iI 0), .int (iI 0), .int (iI 0), .int (iI 0), .int (iI 0), .ref (q2), .ref (q4), .ref (q6), .ref (q8), .ref (q10), .ref (q12), .null, .int (iI 0), .int (iI 0), .null, .int (iI 0), .null, .null, .null, .null, .int (iI 0), .null, .int (iI 0), .int (iI 0), .int (iI 0), .null, .null, .null, .null, .int (iI 0), .int (iI 0), .null, .null, .int (iI 0), .null, .null, .null, .null, .null, .null, .null, .int (iI 0)])), (q1, .inl (c1, 200, .inl zF)), (q2, .inl (c1, 17, .inl (lF lX8_1))), (q4, .inl (c1, 69, .inl (lF lX8_2))), (q6, .inl (c1, 28, .inl (lF lX8_3))), (q8, .inl (c1, 13, .inl (lF lX8_4))), (q10, .inl (c1, 13, .inl (lF lX8_5))), (q12, .inl (c1, 28, .inl (lF lX8_6)))] := hD
  refine lv_aload_n hx hb dX8_init_966 rfl (lv_at hl 0 rfl) ?_
  refine lv_bipush hx hb dX8_init_967 (rfl : _ = iI (28)) ?_
  refine va_newa (atype := .int) hx hb (hts (Cond.arrayClass .int) kw_113) rfl hK hP hD hS hA (a0 := (28, .inl zF)) (zA_i 28) (by decide +kernel) (N' := 28) (by decide +kernel) (Nat.le_of_ble_eq_true rfl) (Nat.le_of_ble_eq_true rfl) (Nat.le_of_ble_eq_true rfl) dX8_init_969 (fun q14 c14 H hK hP hD hS => ?_)
  have e15 : c1 = c14 := (ka_i hK (i := 0) (j := 1) rfl rfl).symm
  subst e15
  have hK := hK.sub (tys' := [(c1, .int)]) [0] rfl
  have hP : va_P D vwCl [(h0, .inr (8, [.ref (q1), .int (iI 0), .int (iI 0), .int (iI 0), .int (iI 0), .int (iI 0), .int (iI 0), .int (iI 0), .int (iI 0), .ref (q2), .ref (q4), .ref (q6), .ref (q8), .ref (q10), .ref (q12), .null, .int (iI 0), .int (iI 0), .null, .int (iI 0), .null, .null, .null, .null, .int (iI 0), .null, .int (iI 0), .int (iI 0), .int (iI 0), .null, .null, .null, .null, .int (iI 0), .int (iI 0), .null, .null, .int (iI 0), .null, .null, .null, .null, .null, .null, .null, .int (iI 0)])), (q1, .inl (c1, 200, .inl zF)), (q2, .inl (c1, 17, .inl (lF lX8_1))), (q4, .inl (c1, 69, .inl (lF lX8_2))), (q6, .inl (c1, 28, .inl (lF lX8_3))), (q8, .inl (c1, 13, .inl (lF lX8_4))), (q10, .inl (c1, 13, .inl (lF lX8_5))), (q12, .inl (c1, 28, .inl (lF lX8_6))), (q14, .inl (c1, 28, .inl zF))] H := hP
  have hD : va_D A [(h0, .inr (8, [.ref (q1), .int (iI 0), .int (iI 0), .int (iI 0), .int (iI 0), .int (iI 0), .int (iI 0), .int (iI 0), .int (iI 0), .ref (q2), .ref (q4), .ref (q6), .ref (q8), .ref (q10), .ref (q12), .null, .int (iI 0), .int (iI 0), .null, .int (iI 0), .null, .null, .null, .null, .int (iI 0), .null, .int (iI 0), .int (iI 0), .int (iI 0), .null, .null, .null, .null, .int (iI 0), .int (iI 0), .null, .null, .int (iI 0), .null, .null, .null, .null, .null, .null, .null, .int (iI 0)])), (q1, .inl (c1, 200, .inl zF)), (q2, .inl (c1, 17, .inl (lF lX8_1))), (q4, .inl (c1, 69, .inl (lF lX8_2))), (q6, .inl (c1, 28, .inl (lF lX8_3))), (q8, .inl (c1, 13, .inl (lF lX8_4))), (q10, .inl (c1, 13, .inl (lF lX8_5))), (q12, .inl (c1, 28, .inl (lF lX8_6))), (q14, .inl (c1, 28, .inl zF))] := hD
  refine va_putF (D := D) (ci := 8) (v := .ref (q14)) (ty := tyX8 15) (C := RX8) (T := TX8) (N := 46) hx hb hts inGX8 tyX8 tyX8_ok nmX8 hown hK hP hD hS 0 rfl rfl 15 (by decide) (hts _ kw_820) (fun _ h9 => h9) rfl hin rfl (tyX8_ok 15 (by decide)) rfl rfl (Nat.le_of_ble_eq_true rfl) dX8_init_971 (fun H locs hP hD hS => ?_)
  have hP : va_P D vwCl [(h0, .inr (8, [.ref (q1), .int (iI 0), .int (iI 0), .int (iI 0), .int (iI 0), .int (iI 0), .int (iI 0), .int (iI 0), .int (iI 0), .ref (q2), .ref (q4), .ref (q6), .ref (q8), .ref (q10), .ref (q12), .ref (q14), .int (iI 0), .int (iI 0), .null, .int (iI 0), .null, .null, .null, .null, .int (iI 0), .null, .int (iI 0), .int (iI 0), .int (iI 0), .null, .null, .null, .null, .int (iI 0), .int (iI 0), .null, .null, .int (iI 0), .null, .null, .null, .null, .null, .null, .null, .int (iI 0)])), (q1, .inl (c1, 200, .inl zF)), (q2, .inl (c1, 17, .inl (lF lX8_1))), (q4, .inl (c1, 69, .inl (lF lX8_2))), (q6, .inl (c1, 28, .inl (lF lX8_3))), (q8, .inl (c1, 13, .inl (lF lX8_4))), (q10, .inl (c1, 13, .inl (lF lX8_5))), (q12, .inl (c1, 28, .inl (lF lX8_6))), (q14, .inl (c1, 28, .inl zF))] H := hP
  have hD : va_D A [(h0, .inr (8, [.ref (q1), .int (iI 0), .int (iI 0), .int (iI 0), .int (iI 0), .int (iI 0), .int (iI 0), .int (iI 0), .int (iI 0), .ref (q2), .ref (q4), .ref (q6), .ref (q8), .ref (q10), .ref (q12), .ref (q14), .int (iI 0), .int (iI 0), .null, .int (iI 0), .null, .null, .null, .null, .int (iI 0), .null, .int (iI 0), .int (iI 0), .int (iI 0), .null, .null, .null, .null, .int (iI 0), .int (iI 0), .null, .null, .int (iI 0), .null, .null, .null, .null, .null, .null, .null, .int (iI 0)])), (q1, .inl (c1, 200, .inl zF)), (q2, .inl (c1, 17, .inl (lF lX8_1))), (q4, .inl (c1, 69, .inl (lF lX8_2))), (q6, .inl (c1, 28, .inl (lF lX8_3))), (q8, .inl (c1, 13, .inl (lF lX8_4))), (q10, .inl (c1, 13, .inl (lF lX8_5))), (q12, .inl (c1, 28, .inl (lF lX8_6))), (q14, .inl (c1, 28, .inl zF))] := hD
  refine lv_aload_n hx hb dX8_init_974 rfl (lv_at hl 0 rfl) ?_
  refine lv_sipush hx hb dX8_init_975 (rfl : _ = iI (384)) ?_
  refine va_newa (atype := .int) hx hb (hts (Cond.arrayClass .int) kw_113) rfl hK hP hD hS hA (a0 := (384, .inl zF)) (zA_i 384) (by decide +kernel) (N' := 384) (by decide +kernel) (Nat.le_of_ble_eq_true rfl) (Nat.le_of_ble_eq_true rfl) (Nat.le_of_ble_eq_true rfl) dX8_init_978 (fun q16 c16 H hK hP hD hS => ?_)
  have e17 : c1 = c16 := (ka_i hK (i := 0) (j := 1) rfl rfl).symm
  subst e17
  have hK := hK.sub (tys' := [(c1, .int)]) [0] rfl
  have hP : va_P D vwCl [(h0, .inr (8, [.ref (q1), .int (iI 0), .int (iI 0), .int (iI 0), .int (iI 0), .int (iI 0), .int (iI 0), .int (iI 0), .int (iI 0), .ref (q2), .ref (q4), .ref (q6), .ref (q8), .ref (q10), .ref (q12), .ref (q14), .int (iI 0), .int (iI 0), .null, .int (iI 0), .null, .null, .null, .null, .int (iI 0), .null, .int (iI 0), .int (iI 0), .int (iI 0), .null, .null, .null, .null, .int (iI 0), .int (iI 0), .null, .null, .int (iI 0), .null, .null, .null, .null, .null, .null, .null, .int (iI 0)])), (q1, .inl (c1, 200, .inl zF)), (q2, .inl (c1, 17, .inl (lF lX8_1))), (q4, .inl (c1, 69, .inl (lF lX8_2))), (q6, .inl (c1, 28, .inl (lF lX8_3))), (q8, .inl (c1, 13, .inl (lF lX8_4))), (q10, .inl (c1, 13, .inl (lF lX8_5))), (q12, .inl (c1, 28, .inl (lF lX8_6))), (q14, .inl (c1, 28, .inl zF)), (q16, .inl (c1, 384, .inl zF))] H := hP
  have hD : va_D A [(h0, .inr (8, [.ref (q1), .int (iI 0), .int (iI 0), .int (iI 0), .int (iI 0), .int (iI 0), .int (iI 0), .int (iI 0), .int (iI 0), .ref (q2), .ref (q4), .ref (q6), .ref (q8), .ref (q10), .ref (q12), .ref (q14), .int (iI 0), .int (iI 0), .null, .int (iI 0), .null, .null, .null, .null, .int (iI 0), .null, .int (iI 0), .int (iI 0), .int (iI 0), .null, .null, .null, .null, .int (iI 0), .int (iI 0), .null, .null, .int (iI 0), .null, .null, .null, .null, .null, .null, .null, .int (iI 0)])), (q1, .inl (c1, 200, .inl zF)), (q2, .inl (c1, 17, .inl (lF lX8_1))), (q4, .inl (c1, 69, .inl (lF lX8_2))), (q6, .inl (c1, 28, .inl (lF lX8_3))), (q8, .inl (c1, 13, .inl (lF lX8_4))), (q10, .inl (c1, 13, .inl (lF lX8_5))), (q12, .inl (c1, 28, .inl (lF lX8_6))), (q14, .inl (c1, 28, .inl zF)), (q16, .inl (c1, 384, .inl zF))] := hD
  refine va_putF (D := D) (ci := 8) (v := .ref (q16)) (ty := tyX8 18) (C := RX8) (T := TX8) (N := 46) hx hb hts inGX8 tyX8 tyX8_ok nmX8 hown hK hP hD hS 0 rfl rfl 18 (by decide) (hts _ kw_823) (fun _ h9 => h9) rfl hin rfl (tyX8_ok 18 (by decide)) rfl rfl (Nat.le_of_ble_eq_true rfl) dX8_init_980 (fun H locs hP hD hS => ?_)
  have hP : va_P D vwCl [(h0, .inr (8, [.ref (q1), .int (iI 0), .int (iI 0), .int (iI 0), .int (iI 0), .int (iI 0), .int (iI 0), .int (iI 0), .int (iI 0), .ref (q2), .ref (q4), .ref (q6), .ref (q8), .ref (q10), .ref (q12), .ref (q14), .int (iI 0), .int (iI 0), .ref (q16), .int (iI 0), .null, .null, .null, .null, .int (iI 0), .null, .int (iI 0), .int (iI 0), .int (iI 0), .null, .null, .null, .null, .int (iI 0), .int (iI 0), .null, .null, .int (iI 0), .null, .null, .null, .null, .null, .null, .null, .int (iI 0)])), (q1, .inl (c1, 200, .inl zF)), (q2, .inl (c1, 17, .inl (lF lX8_1))), (q4, .inl (c1, 69, .inl (lF lX8_2))), (q6, .inl (c1, 28, .inl (lF lX8_3))), (q8, .inl (c1, 13, .inl (lF lX8_4))), (q10, .inl (c1, 13, .inl (lF lX8_5))), (q12, .inl (c1, 28, .inl (lF lX8_6))), (q14, .inl (c1, 28, .inl zF)), (q16, .inl (c1, 384, .inl zF))] H := hP
  have hD : va_D A [(h0, .inr (8, [.ref (q1), .int (iI 0), .int (iI 0), .int (iI 0), .int (iI 0), .int (iI 0), .int (iI 0), .int (iI 0), .int (iI 0), .ref (q2), .ref (q4), .ref (q6), .ref (q8), .ref (q10), .ref (q12), .ref (q14), .int (iI 0), .int (iI 0), .ref (q16), .int (iI 0), .null, .null, .null, .null, .int (iI 0), .null, .int (iI 0), .int (iI 0), .int (iI 0), .null, .null, .null, .null, .int (iI 0), .int (iI 0), .null, .null, .int (iI 0), .null, .null, .null, .null, .null, .null, .null, .int (iI 0)])), (q1, .inl (c1, 200, .inl zF)), (q2, .inl (c1, 17, .inl (lF lX8_1))), (q4, .inl (c1, 69, .inl (lF lX8_2))), (q6, .inl (c1, 28, .inl (lF lX8_3))), (q8, .inl (c1, 13, .inl (lF lX8_4))), (q10, .inl (c1, 13, .inl (lF lX8_5))), (q12, .inl (c1, 28, .inl (lF lX8_6))), (q14, .inl (c1, 28, .inl zF)), (q16, .inl (c1, 384, .inl zF))] := hD
  refine lv_aload_n hx hb dX8_init_983 rfl (lv_at hl 0 rfl) ?_
  refine lv_bipush hx hb dX8_init_984 (rfl : _ = iI (25)) ?_
  refine va_put (D := D) (ci := 8) (v := .int (iI 25)) (ty := tyX8 19) (C := RX8) (T := TX8) (N := 46) hx hb hts inGX8 tyX8 tyX8_ok nmX8 hown hK hP hD hS 0 rfl rfl 19 (by decide) (hts _ kw_824) (fun _ h9 => h9) rfl (tyX8_ok 19 (by decide)) rfl rfl (Nat.le_of_ble_eq_true rfl) dX8_init_986 (fun H locs hP hD hS => ?_)
  have hP : va_P D vwCl [(h0, .inr (8, [.ref (q1), .int (iI 0), .int (iI 0), .int (iI 0), .int (iI 0), .int (iI 0), .int (iI 0), .int (iI 0), .int (iI 0), .ref (q2), .ref (q4), .ref (q6), .ref (q8), .ref (q10), .ref (q12), .ref (q14), .int (iI 0), .int (iI 0), .ref (q16), .int (iI 25), .null, .null, .null, .null, .int (iI 0), .null, .int (iI 0), .int (iI 0), .int (iI 0), .null, .null, .null, .null, .int (iI 0), .int (iI 0), .null, .null, .int (iI 0), .null, .null, .null, .null, .null, .null, .null, .int (iI 0)])), (q1, .inl (c1, 200, .inl zF)), (q2, .inl (c1, 17, .inl (lF lX8_1))), (q4, .inl (c1, 69, .inl (lF lX8_2))), (q6, .inl (c1, 28, .inl (lF lX8_3))), (q8, .inl (c1, 13, .inl (lF lX8_4))), (q10, .inl (c1, 13, .inl (lF lX8_5))), (q12, .inl (c1, 28, .inl (lF lX8_6))), (q14, .inl (c1, 28, .inl zF)), (q16, .inl (c1, 384, .inl zF))] H := hP
  have hD : va_D A [(h0, .inr (8, [.ref (q1), .int (iI 0), .int (iI 0), .int (iI 0), .int (iI 0), .int (iI 0), .int (iI 0), .int (iI 0), .int (iI 0), .ref (q2), .ref (q4), .ref (q6), .ref (q8), .ref (q10), .ref (q12), .ref (q14), .int (iI 0), .int (iI 0), .ref (q16), .int (iI 25), .null, .null, .null, .null, .int (iI 0), .null, .int (iI 0), .int (iI 0), .int (iI 0), .null, .null, .null, .null, .int (iI 0), .int (iI 0), .null, .null, .int (iI 0), .null, .null, .null, .null, .null, .null, .null, .int (iI 0)])), (q1, .inl (c1, 200, .inl zF)), (q2, .inl (c1, 17, .inl (lF lX8_1))), (q4, .inl (c1, 69, .inl (lF lX8_2))), (q6, .inl (c1, 28, .inl (lF lX8_3))), (q8, .inl (c1, 13, .inl (lF lX8_4))), (q10, .inl (c1, 13, .inl (lF lX8_5))), (q12, .inl (c1, 28, .inl (lF lX8_6))), (q14, .inl (c1, 28, .inl zF)), (q16, .inl (c1, 384, .inl zF))] := hD
  refine lv_aload_n hx hb dX8_init_989 rfl (lv_at hl 0 rfl) ?_
  refine lv_bipush hx hb dX8_init_990 (rfl : _ = iI (16)) ?_
  refine va_newa (atype := .int) hx hb (hts (Cond.arrayClass .int) kw_113) rfl hK hP hD hS hA (a0 := (16, .inl zF)) (zA_i 16) (by decide +kernel) (N' := 16) (by decide +kernel) (Nat.le_of_ble_eq_true rfl) (Nat.le_of_ble_eq_true rfl) (Nat.le_of_ble_eq_true rfl) dX8_init_992 (fun q18 c18 H hK hP hD hS => ?_)
  have e19 : c1 = c18 := (ka_i hK (i := 0) (j := 1) rfl rfl).symm
  subst e19
  have hK := hK.sub (tys' := [(c1, .int)]) [0] rfl
  have hP : va_P D vwCl [(h0, .inr (8, [.ref (q1), .int (iI 0), .int (iI 0), .int (iI 0), .int (iI 0), .int (iI 0), .int (iI 0), .int (iI 0), .int (iI 0), .ref (q2), .ref (q4), .ref (q6), .ref (q8), .ref (q10), .ref (q12), .ref (q14), .int (iI 0), .int (iI 0), .ref (q16), .int (iI 25), .null, .null, .null, .null, .int (iI 0), .null, .int (iI 0), .int (iI 0), .int (iI 0), .null, .null, .null, .null, .int (iI 0), .int (iI 0), .null, .null, .int (iI 0), .null, .null, .null, .null, .null, .null, .null, .int (iI 0)])), (q1, .inl (c1, 200, .inl zF)), (q2, .inl (c1, 17, .inl (lF lX8_1))), (q4, .inl (c1, 69, .inl (lF lX8_2))), (q6, .inl (c1, 28, .inl (lF lX8_3))), (q8, .inl (c1, 13, .inl (lF lX8_4))), (q10, .inl (c1, 13, .inl (lF lX8_5))), (q12, .inl (c1, 28, .inl (lF lX8_6))), (q14, .inl (c1, 28, .inl zF)), (q16, .inl (c1, 384, .inl zF)), (q18, .inl (c1, 16, .inl zF))] H := hP
  have hD : va_D A [(h0, .inr (8, [.ref (q1), .int (iI 0), .int (iI 0), .int (iI 0), .int (iI 0), .int (iI 0), .int (iI 0), .int (iI 0), .int (iI 0), .ref (q2), .ref (q4), .ref (q6), .ref (q8), .ref (q10), .ref (q12), .ref (q14), .int (iI 0), .int (iI 0), .ref (q16), .int (iI 25), .null, .null, .null, .null, .int (iI 0), .null, .int (iI 0), .int (iI 0), .int (iI 0), .null, .null, .null, .null, .int (iI 0), .int (iI 0), .null, .null, .int (iI 0), .null, .null, .null, .null, .null, .null, .null, .int (iI 0)])), (q1, .inl (c1, 200, .inl zF)), (q2, .inl (c1, 17, .inl (lF lX8_1))), (q4, .inl (c1, 69, .inl (lF lX8_2))), (q6, .inl (c1, 28, .inl (lF lX8_3))), (q8, .inl (c1, 13, .inl (lF lX8_4))), (q10, .inl (c1, 13, .inl (lF lX8_5))), (q12, .inl (c1, 28, .inl (lF lX8_6))), (q14, .inl (c1, 28, .inl zF)), (q16, .inl (c1, 384, .inl zF)), (q18, .inl (c1, 16, .inl zF))] := hD
  refine va_putF (D := D) (ci := 8) (v := .ref (q18)) (ty := tyX8 20) (C := RX8) (T := TX8) (N := 46) hx hb hts inGX8 tyX8 tyX8_ok nmX8 hown hK hP hD hS 0 rfl rfl 20 (by decide) (hts _ kw_825) (fun _ h9 => h9) rfl hin rfl (tyX8_ok 20 (by decide)) rfl rfl (Nat.le_of_ble_eq_true rfl) dX8_init_994 (fun H locs hP hD hS => ?_)
  have hP : va_P D vwCl [(h0, .inr (8, [.ref (q1), .int (iI 0), .int (iI 0), .int (iI 0), .int (iI 0), .int (iI 0), .int (iI 0), .int (iI 0), .int (iI 0), .ref (q2), .ref (q4), .ref (q6), .ref (q8), .ref (q10), .ref (q12), .ref (q14), .int (iI 0), .int (iI 0), .ref (q16), .int (iI 25), .ref (q18), .null, .null, .null, .int (iI 0), .null, .int (iI 0), .int (iI 0), .int (iI 0), .null, .null, .null, .null, .int (iI 0), .int (iI 0), .null, .null, .int (iI 0), .null, .null, .null, .null, .null, .null, .null, .int (iI 0)])), (q1, .inl (c1, 200, .inl zF)), (q2, .inl (c1, 17, .inl (lF lX8_1))), (q4, .inl (c1, 69, .inl (lF lX8_2))), (q6, .inl (c1, 28, .inl (lF lX8_3))), (q8, .inl (c1, 13, .inl (lF lX8_4))), (q10, .inl (c1, 13, .inl (lF lX8_5))), (q12, .inl (c1, 28, .inl (lF lX8_6))), (q14, .inl (c1, 28, .inl zF)), (q16, .inl (c1, 384, .inl zF)), (q18, .inl (c1, 16, .inl zF))] H := hP
  have hD : va_D A [(h0, .inr (8, [.ref (q1), .int (iI 0), .int (iI 0), .int (iI 0), .int (iI 0), .int (iI 0), .int (iI 0), .int (iI 0), .int (iI 0), .ref (q2), .ref (q4), .ref (q6), .ref (q8), .ref (q10), .ref (q12), .ref (q14), .int (iI 0), .int (iI 0), .ref (q16), .int (iI 25), .ref (q18), .null, .null, .null, .int (iI 0), .null, .int (iI 0), .int (iI 0), .int (iI 0), .null, .null, .null, .null, .int (iI 0), .int (iI 0), .null, .null, .int (iI 0), .null, .null, .null, .null, .null, .null, .null, .int (iI 0)])), (q1, .inl (c1, 200, .inl zF)), (q2, .inl (c1, 17, .inl (lF lX8_1))), (q4, .inl (c1, 69, .inl (lF lX8_2))), (q6, .inl (c1, 28, .inl (lF lX8_3))), (q8, .inl (c1, 13, .inl (lF lX8_4))), (q10, .inl (c1, 13, .inl (lF lX8_5))), (q12, .inl (c1, 28, .inl (lF lX8_6))), (q14, .inl (c1, 28, .inl zF)), (q16, .inl (c1, 384, .inl zF)), (q18, .inl (c1, 16, .inl zF))] := hD
  refine lv_aload_n hx hb dX8_init_997 rfl (lv_at hl 0 rfl) ?_
  refine lv_bipush hx hb dX8_init_998 (rfl : _ = iI (16)) ?_
  refine va_newa (atype := .int) hx hb (hts (Cond.arrayClass .int) kw_113) rfl hK hP hD hS hA (a0 := (16, .inl zF)) (zA_i 16) (by decide +kernel) (N' := 16) (by decide +kernel) (Nat.le_of_ble_eq_true rfl) (Nat.le_of_ble_eq_true rfl) (Nat.le_of_ble_eq_true rfl) dX8_init_1000 (fun q20 c20 H hK hP hD hS => ?_)
  have e21 : c1 = c20 := (ka_i hK (i := 0) (j := 1) rfl rfl).symm
  subst e21
  have hK := hK.sub (tys' := [(c1, .int)]) [0] rfl
  have hP : va_P D vwCl [(h0, .inr (8, [.ref (q1), .int (iI 0), .int (iI 0), .int (iI 0), .int (iI 0), .int (iI 0), .int (iI 0), .int (iI 0), .int (iI 0), .ref (q2), .ref (q4), .ref (q6), .ref (q8), .ref (q10), .ref (q12), .ref (q14), .int (iI 0), .int (iI 0), .ref (q16), .int (iI 25), .ref (q18), .null, .null, .null, .int (iI 0), .null, .int (iI 0), .int (iI 0), .int (iI 0), .null, .null, .null, .null, .int (iI 0), .int (iI 0), .null, .null, .int (iI 0), .null, .null, .null, .null, .null, .null, .null, .int (iI 0)])), (q1, .inl (c1, 200, .inl zF)), (q2, .inl (c1, 17, .inl (lF lX8_1))), (q4, .inl (c1, 69, .inl (lF lX8_2))), (q6, .inl (c1, 28, .inl (lF lX8_3))), (q8, .inl (c1, 13, .inl (lF lX8_4))), (q10, .inl (c1, 13, .inl (lF lX8_5))), (q12, .inl (c1, 28, .inl (lF lX8_6))), (q14, .inl (c1, 28, .inl zF)), (q16, .inl (c1, 384, .inl zF)), (q18, .inl (c1, 16, .inl zF)), (q20, .inl (c1, 16, .inl zF))] H := hP
  have hD : va_D A [(h0, .inr (8, [.ref (q1), .int (iI 0), .int (iI 0), .int (iI 0), .int (iI 0), .int (iI 0), .int (iI 0), .int (iI 0), .int (iI 0), .ref (q2), .ref (q4), .ref (q6), .ref (q8), .ref (q10), .ref (q12), .ref (q14), .int (iI 0), .int (iI 0), .ref (q16), .int (iI 25), .ref (q18), .null, .null, .null, .int (iI 0), .null, .int (iI 0), .int (iI 0), .int (iI 0), .null, .null, .null, .null, .int (iI 0), .int (iI 0), .null, .null, .int (iI 0), .null, .null, .null, .null, .null, .null, .null, .int (iI 0)])), (q1, .inl (c1, 200, .inl zF)), (q2, .inl (c1, 17, .inl (lF lX8_1))), (q4, .inl (c1, 69, .inl (lF lX8_2))), (q6, .inl (c1, 28, .inl (lF lX8_3))), (q8, .inl (c1, 13, .inl (lF lX8_4))), (q10, .inl (c1, 13, .inl (lF lX8_5))), (q12, .inl (c1, 28, .inl (lF lX8_6))), (q14, .inl (c1, 28, .inl zF)), (q16, .inl (c1, 384, .inl zF)), (q18, .inl (c1, 16, .inl zF)), (q20, .inl (c1, 16, .inl zF))] := hD
  refine va_putF (D := D) (ci := 8) (v := .ref (q20)) (ty := tyX8 21) (C := RX8) (T := TX8) (N := 46) hx hb hts inGX8 tyX8 tyX8_ok nmX8 hown hK hP hD hS 0 rfl rfl 21 (by decide) (hts _ kw_826) (fun _ h9 => h9) rfl hin rfl (tyX8_ok 21 (by decide)) rfl rfl (Nat.le_of_ble_eq_true rfl) dX8_init_1002 (fun H locs hP hD hS => ?_)
  have hP : va_P D vwCl [(h0, .inr (8, [.ref (q1), .int (iI 0), .int (iI 0), .int (iI 0), .int (iI 0), .int (iI 0), .int (iI 0), .int (iI 0), .int (iI 0), .ref (q2), .ref (q4), .ref (q6), .ref (q8), .ref (q10), .ref (q12), .ref (q14), .int (iI 0), .int (iI 0), .ref (q16), .int (iI 25), .ref (q18), .ref (q20), .null, .null, .int (iI 0), .null, .int (iI 0), .int (iI 0), .int (iI 0), .null, .null, .null, .null, .int (iI 0), .int (iI 0), .null, .null, .int (iI 0), .null, .null, .null, .null, .null, .null, .null, .int (iI 0)])), (q1, .inl (c1, 200, .inl zF)), (q2, .inl (c1, 17, .inl (lF lX8_1))), (q4, .inl (c1, 69, .inl (lF lX8_2))), (q6, .inl (c1, 28, .inl (lF lX8_3))), (q8, .inl (c1, 13, .inl (lF lX8_4))), (q10, .inl (c1, 13, .inl (lF lX8_5))), (q12, .inl (c1, 28, .inl (lF lX8_6))), (q14, .inl (c1, 28, .inl zF)), (q16, .inl (c1, 384, .inl zF)), (q18, .inl (c1, 16, .inl zF)), (q20, .inl (c1, 16, .inl zF))] H := hP
  have hD : va_D A [(h0, .inr (8, [.ref (q1), .int (iI 0), .int (iI 0), .int (iI 0), .int (iI 0), .int (iI 0), .int (iI 0), .int (iI 0), .int (iI 0), .ref (q2), .ref (q4), .ref (q6), .ref (q8), .ref (q10), .ref (q12), .ref (q14), .int (iI 0), .int (iI 0), .ref (q16), .int (iI 25), .ref (q18), .ref (q20), .null, .null, .int (iI 0), .null, .int (iI 0), .int (iI 0), .int (iI 0), .null, .null, .null, .null, .int (iI 0), .int (iI 0), .null, .null, .int (iI 0), .null, .null, .null, .null, .null, .null, .null, .int (iI 0)])), (q1, .inl (c1, 200, .inl zF)), (q2, .inl (c1, 17, .inl (lF lX8_1))), (q4, .inl (c1, 69, .inl (lF lX8_2))), (q6, .inl (c1, 28, .inl (lF lX8_3))), (q8, .inl (c1, 13, .inl (lF lX8_4))), (q10, .inl (c1, 13, .inl (lF lX8_5))), (q12, .inl (c1, 28, .inl (lF lX8_6))), (q14, .inl (c1, 28, .inl zF)), (q16, .inl (c1, 384, .inl zF)), (q18, .inl (c1, 16, .inl zF)), (q20, .inl (c1, 16, .inl zF))] := hD
  refine lv_aload_n hx hb dX8_init_1005 rfl (lv_at hl 0 rfl) ?_
  refine lv_bipush hx hb dX8_init_1006 (rfl : _ = iI (16)) ?_
  refine va_newa (atype := .int) hx hb (hts (Cond.arrayClass .int) kw_113) rfl hK hP hD hS hA (a0 := (16, .inl zF)) (zA_i 16) (by decide +kernel) (N' := 16) (by decide +kernel) (Nat.le_of_ble_eq_true rfl) (Nat.le_of_ble_eq_true rfl) (Nat.le_of_ble_eq_true rfl) dX8_init_1008 (fun q22 c22 H hK hP hD hS => ?_)
  have e23 : c1 = c22 := (ka_i hK (i := 0) (j := 1) rfl rfl).symm
  subst e23
  have hK := hK.sub (tys' := [(c1, .int)]) [0] rfl
  have hP : va_P D vwCl [(h0, .inr (8, [.ref (q1), .int (iI 0), .int (iI 0), .int (iI 0), .int (iI 0), .int (iI 0), .int (iI 0), .int (iI 0), .int (iI 0), .ref (q2), .ref (q4), .ref (q6), .ref (q8), .ref (q10), .ref (q12), .ref (q14), .int (iI 0), .int (iI 0), .ref (q16), .int (iI 25), .ref (q18), .ref (q20), .null, .null, .int (iI 0), .null, .int (iI 0), .int (iI 0), .int (iI 0), .null, .null, .null, .null, .int (iI 0), .int (iI 0), .null, .null, .int (iI 0), .null, .null, .null, .null, .null, .null, .null, .int (iI 0)])), (q1, .inl (c1, 200, .inl zF)), (q2, .inl (c1, 17, .inl (lF lX8_1))), (q4, .inl (c1, 69, .inl (lF lX8_2))), (q6, .inl (c1, 28, .inl (lF lX8_3))), (q8, .inl (c1, 13, .inl (lF lX8_4))), (q10, .inl (c1, 13, .inl (lF lX8_5))), (q12, .inl (c1, 28, .inl (lF lX8_6))), (q14, .inl (c1, 28, .inl zF)), (q16, .inl (c1, 384, .inl zF)), (q18, .inl (c1, 16, .inl zF)), (q20, .inl (c1, 16, .inl zF)), (q22, .inl (c1, 16, .inl zF))] H := hP
  have hD : va_D A [(h0, .inr (8, [.ref (q1), .int (iI 0), .int (iI 0), .int (iI 0), .int (iI 0), .int (iI 0), .int (iI 0), .int (iI 0), .int (iI 0), .ref (q2), .ref (q4), .ref (q6), .ref (q8), .ref (q10), .ref (q12), .ref (q14), .int (iI 0), .int (iI 0), .ref (q16), .int (iI 25), .ref (q18), .ref (q20), .null, .null, .int (iI 0), .null, .int (iI 0), .int (iI 0), .int (iI 0), .null, .null, .null, .null, .int (iI 0), .int (iI 0), .null, .null, .int (iI 0), .null, .null, .null, .null, .null, .null, .null, .int (iI 0)])), (q1, .inl (c1, 200, .inl zF)), (q2, .inl (c1, 17, .inl (lF lX8_1))), (q4, .inl (c1, 69, .inl (lF lX8_2))), (q6, .inl (c1, 28, .inl (lF lX8_3))), (q8, .inl (c1, 13, .inl (lF lX8_4))), (q10, .inl (c1, 13, .inl (lF lX8_5))), (q12, .inl (c1, 28, .inl (lF lX8_6))), (q14, .inl (c1, 28, .inl zF)), (q16, .inl (c1, 384, .inl zF)), (q18, .inl (c1, 16, .inl zF)), (q20, .inl (c1, 16, .inl zF)), (q22, .inl (c1, 16, .inl zF))] := hD
  refine va_putF (D := D) (ci := 8) (v := .ref (q22)) (ty := tyX8 22) (C := RX8) (T := TX8) (N := 46) hx hb hts inGX8 tyX8 tyX8_ok nmX8 hown hK hP hD hS 0 rfl rfl 22 (by decide) (hts _ kw_827) (fun _ h9 => h9) rfl hin rfl (tyX8_ok 22 (by decide)) rfl rfl (Nat.le_of_ble_eq_true rfl) dX8_init_1010 (fun H locs hP hD hS => ?_)
  have hP : va_P D vwCl [(h0, .inr (8, [.ref (q1), .int (iI 0), .int (iI 0), .int (iI 0), .int (iI 0), .int (iI 0), .int (iI 0), .int (iI 0), .int (iI 0), .ref (q2), .ref (q4), .ref (q6), .ref (q8), .ref (q10), .ref (q12), .ref (q14), .int (iI 0), .int (iI 0), .ref (q16), .int (iI 25), .ref (q18), .ref (q20), .ref (q22), .null, .int (iI 0), .null, .int (iI 0), .int (iI 0), .int (iI 0), .null, .null, .null, .null, .int (iI 0), .int (iI 0), .null, .null, .int (iI 0), .null, .null, .null, .null, .null, .null, .null, .int (iI 0)])), (q1, .inl (c1, 200, .inl zF)), (q2, .inl (c1, 17, .inl (lF lX8_1))), (q4, .inl (c1, 69, .inl (lF lX8_2))), (q6, .inl (c1, 28, .inl (lF lX8_3))), (q8, .inl (c1, 13, .inl (lF lX8_4))), (q10, .inl (c1, 13, .inl (lF lX8_5))), (q12, .inl (c1, 28, .inl (lF lX8_6))), (q14, .inl (c1, 28, .inl zF)), (q16, .inl (c1, 384, .inl zF)), (q18, .inl (c1, 16, .inl zF)), (q20, .inl (c1, 16, .inl zF)), (q22, .inl (c1, 16, .inl zF))] H := hP
  have hD : va_D A [(h0, .inr (8, [.ref (q1), .int (iI 0), .int (iI 0), .int (iI 0), .int (iI 0), .int (iI 0), .int (iI 0), .int (iI 0), .int (iI 0), .ref (q2), .ref (q4), .ref (q6), .ref (q8), .ref (q10), .ref (q12), .ref (q14), .int (iI 0), .int (iI 0), .ref (q16), .int (iI 25), .ref (q18), .ref (q20), .ref (q22), .null, .int (iI 0), .null, .int (iI 0), .int (iI 0), .int (iI 0), .null, .null, .null, .null, .int (iI 0), .int (iI 0), .null, .null, .int (iI 0), .null, .null, .null, .null, .null, .null, .null, .int (iI 0)])), (q1, .inl (c1, 200, .inl zF)), (q2, .inl (c1, 17, .inl (lF lX8_1))), (q4, .inl (c1, 69, .inl (lF lX8_2))), (q6, .inl (c1, 28, .inl (lF lX8_3))), (q8, .inl (c1, 13, .inl (lF lX8_4))), (q10, .inl (c1, 13, .inl (lF lX8_5))), (q12, .inl (c1, 28, .inl (lF lX8_6))), (q14, .inl (c1, 28, .inl zF)), (q16, .inl (c1, 384, .inl zF)), (q18, .inl (c1, 16, .inl zF)), (q20, .inl (c1, 16, .inl zF)), (q22, .inl (c1, 16, .inl zF))] := hD
  refine lv_aload_n hx hb dX8_init_1013 rfl (lv_at hl 0 rfl) ?_
  refine lv_bipush hx hb dX8_init_1014 (rfl : _ = iI (16)) ?_
  refine va_newa (atype := .int) hx hb (hts (Cond.arrayClass .int) kw_113) rfl hK hP hD hS hA (a0 := (16, .inl zF)) (zA_i 16) (by decide +kernel) (N' := 16) (by decide +kernel) (Nat.le_of_ble_eq_true rfl) (Nat.le_of_ble_eq_true rfl) (Nat.le_of_ble_eq_true rfl) dX8_init_1016 (fun q24 c24 H hK hP hD hS => ?_)
  have e25 : c1 = c24 := (ka_i hK (i := 0) (j := 1) rfl rfl).symm
  subst e25
  have hK := hK.sub (tys' := [(c1, .int)]) [0] rfl
  have hP : va_P D vwCl [(h0, .inr (8, [.ref (q1), .int (iI 0), .int (iI 0), .int (iI 0), .int (iI 0), .int (iI 0), .int (iI 0), .int (iI 0), .int (iI 0), .ref (q2), .ref (q4), .ref (q6), .ref (q8), .ref (q10), .ref (q12), .ref (q14), .int (iI 0), .int (iI 0), .ref (q16), .int (iI 25), .ref (q18), .ref (q20), .ref (q22), .null, .int (iI 0), .null, .int (iI 0), .int (iI 0), .int (iI 0), .null, .null, .null, .null, .int (iI 0), .int (iI 0), .null, .null, .int (iI 0), .null, .null, .null, .null, .null, .null, .null, .int (iI 0)])), (q1, .inl (c1, 200, .inl zF)), (q2, .inl (c1, 17, .inl (lF lX8_1))), (q4, .inl (c1, 69, .inl (lF lX8_2))), (q6, .inl (c1, 28, .inl (lF lX8_3))), (q8, .inl (c1, 13, .inl (lF lX8_4))), (q10, .inl (c1, 13, .inl (lF lX8_5))), (q12, .inl (c1, 28, .inl (lF lX8_6))), (q14, .inl (c1, 28, .inl zF)), (q16, .inl (c1, 384, .inl zF)), (q18, .inl (c1, 16, .inl zF)), (q20, .inl (c1, 16, .inl zF)), (q22, .inl (c1, 16, .inl zF)), (q24, .inl (c1, 16, .inl zF))] H := hP
  have hD : va_D A [(h0, .inr (8, [.ref (q1), .int (iI 0), .int (iI 0), .int (iI 0), .int (iI 0), .int (iI 0), .int (iI 0), .int (iI 0), .int (iI 0), .ref (q2), .ref (q4), .ref (q6), .ref (q8), .ref (q10), .ref (q12), .ref (q14), .int (iI 0), .int (iI 0), .ref (q16), .int (iI 25), .ref (q18), .ref (q20), .ref (q22), .null, .int (iI 0), .null, .int (iI 0), .int (iI 0), .int (iI 0), .null, .null, .null, .null, .int (iI 0), .int (iI 0), .null, .null, .int (iI 0), .null, .null, .null, .null, .null, .null, .null, .int (iI 0)])), (q1, .inl (c1, 200, .inl zF)), (q2, .inl (c1, 17, .inl (lF lX8_1))), (q4, .inl (c1, 69, .inl (lF lX8_2))), (q6, .inl (c1, 28, .inl (lF lX8_3))), (q8, .inl (c1, 13, .inl (lF lX8_4))), (q10, .inl (c1, 13, .inl (lF lX8_5))), (q12, .inl (c1, 28, .inl (lF lX8_6))), (q14, .inl (c1, 28, .inl zF)), (q16, .inl (c1, 384, .inl zF)), (q18, .inl (c1, 16, .inl zF)), (q20, .inl (c1, 16, .inl zF)), (q22, .inl (c1, 16, .inl zF)), (q24, .inl (c1, 16, .inl zF))] := hD
  refine va_putF (D := D) (ci := 8) (v := .ref (q24)) (ty := tyX8 23) (C := RX8) (T := TX8) (N := 46) hx hb hts inGX8 tyX8 tyX8_ok nmX8 hown hK hP hD hS 0 rfl rfl 23 (by decide) (hts _ kw_828) (fun _ h9 => h9) rfl hin rfl (tyX8_ok 23 (by decide)) rfl rfl (Nat.le_of_ble_eq_true rfl) dX8_init_1018 (fun H locs hP hD hS => ?_)
  have hP : va_P D vwCl [(h0, .inr (8, [.ref (q1), .int (iI 0), .int (iI 0), .int (iI 0), .int (iI 0), .int (iI 0), .int (iI 0), .int (iI 0), .int (iI 0), .ref (q2), .ref (q4), .ref (q6), .ref (q8), .ref (q10), .ref (q12), .ref (q14), .int (iI 0), .int (iI 0), .ref (q16), .int (iI 25), .ref (q18), .ref (q20), .ref (q22), .ref (q24), .int (iI 0), .null, .int (iI 0), .int (iI 0), .int (iI 0), .null, .null, .null, .null, .int (iI 0), .int (iI 0), .null, .null, .int (iI 0), .null, .null, .null, .null, .null, .null, .null, .int (iI 0)])), (q1, .inl (c1, 200, .inl zF)), (q2, .inl (c1, 17, .inl (lF lX8_1))), (q4, .inl (c1, 69, .inl (lF lX8_2))), (q6, .inl (c1, 28, .inl (lF lX8_3))), (q8, .inl (c1, 13, .inl (lF lX8_4))), (q10, .inl (c1, 13, .inl (lF lX8_5))), (q12, .inl (c1, 28, .inl (lF lX8_6))), (q14, .inl (c1, 28, .inl zF)), (q16, .inl (c1, 384, .inl zF)), (q18, .inl (c1, 16, .inl zF)), (q20, .inl (c1, 16, .inl zF)), (q22, .inl (c1, 16, .inl zF)), (q24, .inl (c1, 16, .inl zF))] H := hP
  have hD : va_D A [(h0, .inr (8, [.ref (q1), .int (iI 0), .int (iI 0), .int (iI 0), .int (iI 0), .int (iI 0), .int (iI 0), .int (iI 0), .int (iI 0), .ref (q2), .ref (q4), .ref (q6), .ref (q8), .ref (q10), .ref (q12), .ref (q14), .int (iI 0), .int (iI 0), .ref (q16), .int (iI 25), .ref (q18), .ref (q20), .ref (q22), .ref (q24), .int (iI 0), .null, .int (iI 0), .int (iI 0), .int (iI 0), .null, .null, .null, .null, .int (iI 0), .int (iI 0), .null, .null, .int (iI 0), .null, .null, .null, .null, .null, .null, .null, .int (iI 0)])), (q1, .inl (c1, 200, .inl zF)), (q2, .inl (c1, 17, .inl (lF lX8_1))), (q4, .inl (c1, 69, .inl (lF lX8_2))), (q6, .inl (c1, 28, .inl (lF lX8_3))), (q8, .inl (c1, 13, .inl (lF lX8_4))), (q10, .inl (c1, 13, .inl (lF lX8_5))), (q12, .inl (c1, 28, .inl (lF lX8_6))), (q14, .inl (c1, 28, .inl zF)), (q16, .inl (c1, 384, .inl zF)), (q18, .inl (c1, 16, .inl zF)), (q20, .inl (c1, 16, .inl zF)), (q22, .inl (c1, 16, .inl zF)), (q24, .inl (c1, 16, .inl zF))] := hD
  refine lv_aload_n hx hb dX8_init_1021 rfl (lv_at hl 0 rfl) ?_
  refine lv_bipush hx hb dX8_init_1022 (rfl : _ = iI (16)) ?_
  refine va_newa (atype := .int) hx hb (hts (Cond.arrayClass .int) kw_113) rfl hK hP hD hS hA (a0 := (16, .inl zF)) (zA_i 16) (by decide +kernel) (N' := 16) (by decide +kernel) (Nat.le_of_ble_eq_true rfl) (Nat.le_of_ble_eq_true rfl) (Nat.le_of_ble_eq_true rfl) dX8_init_1024 (fun q26 c26 H hK hP hD hS => ?_)
  have e27 : c1 = c26 := (ka_i hK (i := 0) (j := 1) rfl rfl).symm
  subst e27
  have hK := hK.sub (tys' := [(c1, .int)]) [0] rfl
  have hP : va_P D vwCl [(h0, .inr (8, [.ref (q1), .int (iI 0), .int (iI 0), .int (iI 0), .int (iI 0), .int (iI 0), .int (iI 0), .int (iI 0), .int (iI 0), .ref (q2), .ref (q4), .ref (q6), .ref (q8), .ref (q10), .ref (q12), .ref (q14), .int (iI 0), .int (iI 0), .ref (q16), .int (iI 25), .ref (q18), .ref (q20), .ref (q22), .ref (q24), .int (iI 0), .null, .int (iI 0), .int (iI 0), .int (iI 0), .null, .null, .null, .null, .int (iI 0), .int (iI 0), .null, .null, .int (iI 0), .null, .null, .null, .null, .null, .null, .null, .int (iI 0)])), (q1, .inl (c1, 200, .inl zF)), (q2, .inl (c1, 17, .inl (lF lX8_1))), (q4, .inl (c1, 69, .inl (lF lX8_2))), (q6, .inl (c1, 28, .inl (lF lX8_3))), (q8, .inl (c1, 13, .inl (lF lX8_4))), (q10, .inl (c1, 13, .inl (lF lX8_5))), (q12, .inl (c1, 28, .inl (lF lX8_6))), (q14, .inl (c1, 28, .inl zF)), (q16, .inl (c1, 384, .inl zF)), (q18, .inl (c1, 16, .inl zF)), (q20, .inl (c1, 16, .inl zF)), (q22, .inl (c1, 16, .inl zF)), (q24, .inl (c1, 16, .inl zF)), (q26, .inl (c1, 16, .inl zF))] H := hP
  have hD : va_D A [(h0, .inr (8, [.ref (q1), .int (iI 0), .int (iI 0), .int (iI 0), .int (iI 0), .int (iI 0), .int (iI 0), .int (iI 0), .int (iI 0), .ref (q2), .ref (q4), .ref (q6), .ref (q8), .ref (q10), .ref (q12), .ref (q14), .int (iI 0), .int (iI 0), .ref (q16), .int (iI 25), .ref (q18), .ref (q20), .ref (q22), .ref (q24), .int (iI 0), .null, .int (iI 0), .int (iI 0), .int (iI 0), .null, .null, .null, .null, .int (iI 0), .int (iI 0), .null, .null, .int (iI 0), .null, .null, .null, .null, .null, .null, .null, .int (iI 0)])), (q1, .inl (c1, 200, .inl zF)), (q2, .inl (c1, 17, .inl (lF lX8_1))), (q4, .inl (c1, 69, .inl (lF lX8_2))), (q6, .inl (c1, 28, .inl (lF lX8_3))), (q8, .inl (c1, 13, .inl (lF lX8_4))), (q10, .inl (c1, 13, .inl (lF lX8_5))), (q12, .inl (c1, 28, .inl (lF lX8_6))), (q14, .inl (c1, 28, .inl zF)), (q16, .inl (c1, 384, .inl zF)), (q18, .inl (c1, 16, .inl zF)), (q20, .inl (c1, 16, .inl zF)), (q22, .inl (c1, 16, .inl zF)), (q24, .inl (c1, 16, .inl zF)), (q26, .inl (c1, 16, .inl zF))] := hD
  refine va_putF (D := D) (ci := 8) (v := .ref (q26)) (ty := tyX8 25) (C := RX8) (T := TX8) (N := 46) hx hb hts inGX8 tyX8 tyX8_ok nmX8 hown hK hP hD hS 0 rfl rfl 25 (by decide) (hts _ kw_830) (fun _ h9 => h9) rfl hin rfl (tyX8_ok 25 (by decide)) rfl rfl (Nat.le_of_ble_eq_true rfl) dX8_init_1026 (fun H locs hP hD hS => ?_)
  have hP : va_P D vwCl [(h0, .inr (8, [.ref (q1), .int (iI 0), .int (iI 0), .int (iI 0), .int (iI 0), .int (iI 0), .int (iI 0), .int (iI 0), .int (iI 0), .ref (q2), .ref (q4), .ref (q6), .ref (q8), .ref (q10), .ref (q12), .ref (q14), .int (iI 0), .int (iI 0), .ref (q16), .int (iI 25), .ref (q18), .ref (q20), .ref (q22), .ref (q24), .int (iI 0), .ref (q26), .int (iI 0), .int (iI 0), .int (iI 0), .null, .null, .null, .null, .int (iI 0), .int (iI 0), .null, .null, .int (iI 0), .null, .null, .null, .null, .null, .null, .null, .int (iI 0)])), (q1, .inl (c1, 200, .inl zF)), (q2, .inl (c1, 17, .inl (lF lX8_1))), (q4, .inl (c1, 69, .inl (lF lX8_2))), (q6, .inl (c1, 28, .inl (lF lX8_3))), (q8, .inl (c1, 13, .inl (lF lX8_4))), (q10, .inl (c1, 13, .inl (lF lX8_5))), (q12, .inl (c1, 28, .inl (lF lX8_6))), (q14, .inl (c1, 28, .inl zF)), (q16, .inl (c1, 384, .inl zF)), (q18, .inl (c1, 16, .inl zF)), (q20, .inl (c1, 16, .inl zF)), (q22, .inl (c1, 16, .inl zF)), (q24, .inl (c1, 16, .inl zF)), (q26, .inl (c1, 16, .inl zF))] H := hP
  have hD : va_D A [(h0, .inr (8, [.ref (q1), .int (iI 0), .int (iI 0), .int (iI 0), .int (iI 0), .int (iI 0), .int (iI 0), .int (iI 0), .int (iI 0), .ref (q2), .ref (q4), .ref (q6), .ref (q8), .ref (q10), .ref (q12), .ref (q14), .int (iI 0), .int (iI 0), .ref (q16), .int (iI 25), .ref (q18), .ref (q20), .ref (q22), .ref (q24), .int (iI 0), .ref (q26), .int (iI 0), .int (iI 0), .int (iI 0), .null, .null, .null, .null, .int (iI 0), .int (iI 0), .null, .null, .int (iI 0), .null, .null, .null, .null, .null, .null, .null, .int (iI 0)])), (q1, .inl (c1, 200, .inl zF)), (q2, .inl (c1, 17, .inl (lF lX8_1))), (q4, .inl (c1, 69, .inl (lF lX8_2))), (q6, .inl (c1, 28, .inl (lF lX8_3))), (q8, .inl (c1, 13, .inl (lF lX8_4))), (q10, .inl (c1, 13, .inl (lF lX8_5))), (q12, .inl (c1, 28, .inl (lF lX8_6))), (q14, .inl (c1, 28, .inl zF)), (q16, .inl (c1, 384, .inl zF)), (q18, .inl (c1, 16, .inl zF)), (q20, .inl (c1, 16, .inl zF)), (q22, .inl (c1, 16, .inl zF)), (q24, .inl (c1, 16, .inl zF)), (q26, .inl (c1, 16, .inl zF))] := hD
  refine lv_aload_n hx hb dX8_init_1029 rfl (lv_at hl 0 rfl) ?_
  refine lv_sipush hx hb dX8_init_1030 (rfl : _ = iI (156)) ?_
  refine va_newa (atype := .int) hx hb (hts (Cond.arrayClass .int) kw_113) rfl hK hP hD hS hA (a0 := (156, .inl zF)) (zA_i 156) (by decide +kernel) (N' := 156) (by decide +kernel) (Nat.le_of_ble_eq_true rfl) (Nat.le_of_ble_eq_true rfl) (Nat.le_of_ble_eq_true rfl) dX8_init_1033 (fun q28 c28 H hK hP hD hS => ?_)
  have e29 : c1 = c28 := (ka_i hK (i := 0) (j := 1) rfl rfl).symm
  subst e29
  have hK := hK.sub (tys' := [(c1, .int)]) [0] rfl
  have hP : va_P D vwCl [(h0, .inr (8, [.ref (q1), .int (iI 0), .int (iI 0), .int (iI 0), .int (iI 0), .int (iI 0), .int (iI 0), .int (iI 0), .int (iI 0), .ref (q2), .ref (q4), .ref (q6), .ref (q8), .ref (q10), .ref (q12), .ref (q14), .int (iI 0), .int (iI 0), .ref (q16), .int (iI 25), .ref (q18), .ref (q20), .ref (q22), .ref (q24), .int (iI 0), .ref (q26), .int (iI 0), .int (iI 0), .int (iI 0), .null, .null, .null, .null, .int (iI 0), .int (iI 0), .null, .null, .int (iI 0), .null, .null, .null, .null, .null, .null, .null, .int (iI 0)])), (q1, .inl (c1, 200, .inl zF)), (q2, .inl (c1, 17, .inl (lF lX8_1))), (q4, .inl (c1, 69, .inl (lF lX8_2))), (q6, .inl (c1, 28, .inl (lF lX8_3))), (q8, .inl (c1, 13, .inl (lF lX8_4))), (q10, .inl (c1, 13, .inl (lF lX8_5))), (q12, .inl (c1, 28, .inl (lF lX8_6))), (q14, .inl (c1, 28, .inl zF)), (q16, .inl (c1, 384, .inl zF)), (q18, .inl (c1, 16, .inl zF)), (q20, .inl (c1, 16, .inl zF)), (q22, .inl (c1, 16, .inl zF)), (q24, .inl (c1, 16, .inl zF)), (q26, .inl (c1, 16, .inl zF)), (q28, .inl (c1, 156, .inl zF))] H := hP
  have hD : va_D A [(h0, .inr (8, [.ref (q1), .int (iI 0), .int (iI 0), .int (iI 0), .int (iI 0), .int (iI 0), .int (iI 0), .int (iI 0), .int (iI 0), .ref (q2), .ref (q4), .ref (q6), .ref (q8), .ref (q10), .ref (q12), .ref (q14), .int (iI 0), .int (iI 0), .ref (q16), .int (iI 25), .ref (q18), .ref (q20), .ref (q22), .ref (q24), .int (iI 0), .ref (q26), .int (iI 0), .int (iI 0), .int (iI 0), .null, .null, .null, .null, .int (iI 0), .int (iI 0), .null, .null, .int (iI 0), .null, .null, .null, .null, .null, .null, .null, .int (iI 0)])), (q1, .inl (c1, 200, .inl zF)), (q2, .inl (c1, 17, .inl (lF lX8_1))), (q4, .inl (c1, 69, .inl (lF lX8_2))), (q6, .inl (c1, 28, .inl (lF lX8_3))), (q8, .inl (c1, 13, .inl (lF lX8_4))), (q10, .inl (c1, 13, .inl (lF lX8_5))), (q12, .inl (c1, 28, .inl (lF lX8_6))), (q14, .inl (c1, 28, .inl zF)), (q16, .inl (c1, 384, .inl zF)), (q18, .inl (c1, 16, .inl zF)), (q20, .inl (c1, 16, .inl zF)), (q22, .inl (c1, 16, .inl zF)), (q24, .inl (c1, 16, .inl zF)), (q26, .inl (c1, 16, .inl zF)), (q28, .inl (c1, 156, .inl zF))] := hD
  refine va_putF (D := D) (ci := 8) (v := .ref (q28)) (ty := tyX8 29) (C := RX8) (T := TX8) (N := 46) hx hb hts inGX8 tyX8 tyX8_ok nmX8 hown hK hP hD hS 0 rfl rfl 29 (by decide) (hts _ kw_834) (fun _ h9 => h9) rfl hin rfl (tyX8_ok 29 (by decide)) rfl rfl (Nat.le_of_ble_eq_true rfl) dX8_init_1035 (fun H locs hP hD hS => ?_)
  have hP : va_P D vwCl [(h0, .inr (8, [.ref (q1), .int (iI 0), .int (iI 0), .int (iI 0), .int (iI 0), .int (iI 0), .int (iI 0), .int (iI 0), .int (iI 0), .ref (q2), .ref (q4), .ref (q6), .ref (q8), .ref (q10), .ref (q12), .ref (q14), .int (iI 0), .int (iI 0), .ref (q16), .int (iI 25), .ref (q18), .ref (q20), .ref (q22), .ref (q24), .int (iI 0), .ref (q26), .int (iI 0), .int (iI 0), .int (iI 0), .ref (q28), .null, .null, .null, .int (iI 0), .int (iI 0), .null, .null, .int (iI 0), .null, .null, .null, .null, .null, .null, .null, .int (iI 0)])), (q1, .inl (c1, 200, .inl zF)), (q2, .inl (c1, 17, .inl (lF lX8_1))), (q4, .inl (c1, 69, .inl (lF lX8_2))), (q6, .inl (c1, 28, .inl (lF lX8_3))), (q8, .inl (c1, 13, .inl (lF lX8_4))), (q10, .inl (c1, 13, .inl (lF lX8_5))), (q12, .inl (c1, 28, .inl (lF lX8_6))), (q14, .inl (c1, 28, .inl zF)), (q16, .inl (c1, 384, .inl zF)), (q18, .inl (c1, 16, .inl zF)), (q20, .inl (c1, 16, .inl zF)), (q22, .inl (c1, 16, .inl zF)), (q24, .inl (c1, 16, .inl zF)), (q26, .inl (c1, 16, .inl zF)), (q28, .inl (c1, 156, .inl zF))] H := hP
  have hD : va_D A [(h0, .inr (8, [.ref (q1), .int (iI 0), .int (iI 0), .int (iI 0), .int (iI 0), .int (iI 0), .int (iI 0), .int (iI 0), .int (iI 0), .ref (q2), .ref (q4), .ref (q6), .ref (q8), .ref (q10), .ref (q12), .ref (q14), .int (iI 0), .int (iI 0), .ref (q16), .int (iI 25), .ref (q18), .ref (q20), .ref (q22), .ref (q24), .int (iI 0), .ref (q26), .int (iI 0), .int (iI 0), .int (iI 0), .ref (q28), .null, .null, .null, .int (iI 0), .int (iI 0), .null, .null, .int (iI 0), .null, .null, .null, .null, .null, .null, .null, .int (iI 0)])), (q1, .inl (c1, 200, .inl zF)), (q2, .inl (c1, 17, .inl (lF lX8_1))), (q4, .inl (c1, 69, .inl (lF lX8_2))), (q6, .inl (c1, 28, .inl (lF lX8_3))), (q8, .inl (c1, 13, .inl (lF lX8_4))), (q10, .inl (c1, 13, .inl (lF lX8_5))), (q12, .inl (c1, 28, .inl (lF lX8_6))), (q14, .inl (c1, 28, .inl zF)), (q16, .inl (c1, 384, .inl zF)), (q18, .inl (c1, 16, .inl zF)), (q20, .inl (c1, 16, .inl zF)), (q22, .inl (c1, 16, .inl zF)), (q24, .inl (c1, 16, .inl zF)), (q26, .inl (c1, 16, .inl zF)), (q28, .inl (c1, 156, .inl zF))] := hD
  refine lv_aload_n hx hb dX8_init_1038 rfl (lv_at hl 0 rfl) ?_
  refine lv_bipush hx hb dX8_init_1039 (rfl : _ = iI (16)) ?_
  refine va_newa (atype := .int) hx hb (hts (Cond.arrayClass .int) kw_113) rfl hK hP hD hS hA (a0 := (16, .inl zF)) (zA_i 16) (by decide +kernel) (N' := 16) (by decide +kernel) (Nat.le_of_ble_eq_true rfl) (Nat.le_of_ble_eq_true rfl) (Nat.le_of_ble_eq_true rfl) dX8_init_1041 (fun q30 c30 H hK hP hD hS => ?_)
  have e31 : c1 = c30 := (ka_i hK (i := 0) (j := 1) rfl rfl).symm
  subst e31
  have hK := hK.sub (tys' := [(c1, .int)]) [0] rfl
  have hP : va_P D vwCl [(h0, .inr (8, [.ref (q1), .int (iI 0), .int (iI 0), .int (iI 0), .int (iI 0), .int (iI 0), .int (iI 0), .int (iI 0), .int (iI 0), .ref (q2), .ref (q4), .ref (q6), .ref (q8), .ref (q10), .ref (q12), .ref (q14), .int (iI 0), .int (iI 0), .ref (q16), .int (iI 25), .ref (q18), .ref (q20), .ref (q22), .ref (q24), .int (iI 0), .ref (q26), .int (iI 0), .int (iI 0), .int (iI 0), .ref (q28), .null, .null, .null, .int (iI 0), .int (iI 0), .null, .null, .int (iI 0), .null, .null, .null, .null, .null, .null, .null, .int (iI 0)])), (q1, .inl (c1, 200, .inl zF)), (q2, .inl (c1, 17, .inl (lF lX8_1))), (q4, .inl (c1, 69, .inl (lF lX8_2))), (q6, .inl (c1, 28, .inl (lF lX8_3))), (q8, .inl (c1, 13, .inl (lF lX8_4))), (q10, .inl (c1, 13, .inl (lF lX8_5))), (q12, .inl (c1, 28, .inl (lF lX8_6))), (q14, .inl (c1, 28, .inl zF)), (q16, .inl (c1, 384, .inl zF)), (q18, .inl (c1, 16, .inl zF)), (q20, .inl (c1, 16, .inl zF)), (q22, .inl (c1, 16, .inl zF)), (q24, .inl (c1, 16, .inl zF)), (q26, .inl (c1, 16, .inl zF)), (q28, .inl (c1, 156, .inl zF)), (q30, .inl (c1, 16, .inl zF))] H := hP
  have hD : va_D A [(h0, .inr (8, [.ref (q1), .int (iI 0), .int (iI 0), .int (iI 0), .int (iI 0), .int (iI 0), .int (iI 0), .int (iI 0), .int (iI 0), .ref (q2), .ref (q4), .ref (q6), .ref (q8), .ref (q10), .ref (q12), .ref (q14), .int (iI 0), .int (iI 0), .ref (q16), .int (iI 25), .ref (q18), .ref (q20), .ref (q22), .ref (q24), .int (iI 0), .ref (q26), .int (iI 0), .int (iI 0), .int (iI 0), .ref (q28), .null, .null, .null, .int (iI 0), .int (iI 0), .null, .null, .int (iI 0), .null, .null, .null, .null, .null, .null, .null, .int (iI 0)])), (q1, .inl (c1, 200, .inl zF)), (q2, .inl (c1, 17, .inl (lF lX8_1))), (q4, .inl (c1, 69, .inl (lF lX8_2))), (q6, .inl (c1, 28, .inl (lF lX8_3))), (q8, .inl (c1, 13, .inl (lF lX8_4))), (q10, .inl (c1, 13, .inl (lF lX8_5))), (q12, .inl (c1, 28, .inl (lF lX8_6))), (q14, .inl (c1, 28, .inl zF)), (q16, .inl (c1, 384, .inl zF)), (q18, .inl (c1, 16, .inl zF)), (q20, .inl (c1, 16, .inl zF)), (q22, .inl (c1, 16, .inl zF)), (q24, .inl (c1, 16, .inl zF)), (q26, .inl (c1, 16, .inl zF)), (q28, .inl (c1, 156, .inl zF)), (q30, .inl (c1, 16, .inl zF))] := hD
  refine va_putF (D := D) (ci := 8) (v := .ref (q30)) (ty := tyX8 30) (C := RX8) (T := TX8) (N := 46) hx hb hts inGX8 tyX8 tyX8_ok nmX8 hown hK hP hD hS 0 rfl rfl 30 (by decide) (hts _ kw_835) (fun _ h9 => h9) rfl hin rfl (tyX8_ok 30 (by decide)) rfl rfl (Nat.le_of_ble_eq_true rfl) dX8_init_1043 (fun H locs hP hD hS => ?_)
  have hP : va_P D vwCl [(h0, .inr (8, [.ref (q1), .int (iI 0), .int (iI 0), .int (iI 0), .int (iI 0), .int (iI 0), .int (iI 0), .int (iI 0), .int (iI 0), .ref (q2), .ref (q4), .ref (q6), .ref (q8), .ref (q10), .ref (q12), .ref (q14), .int (iI 0), .int (iI 0), .ref (q16), .int (iI 25), .ref (q18), .ref (q20), .ref (q22), .ref (q24), .int (iI 0), .ref (q26), .int (iI 0), .int (iI 0), .int (iI 0), .ref (q28), .ref (q30), .null, .null, .int (iI 0), .int (iI 0), .null, .null, .int (iI 0), .null, .null, .null, .null, .null, .null, .null, .int (iI 0)])), (q1, .inl (c1, 200, .inl zF)), (q2, .inl (c1, 17, .inl (lF lX8_1))), (q4, .inl (c1, 69, .inl (lF lX8_2))), (q6, .inl (c1, 28, .inl (lF lX8_3))), (q8, .inl (c1, 13, .inl (lF lX8_4))), (q10, .inl (c1, 13, .inl (lF lX8_5))), (q12, .inl (c1, 28, .inl (lF lX8_6))), (q14, .inl (c1, 28, .inl zF)), (q16, .inl (c1, 384, .inl zF)), (q18, .inl (c1, 16, .inl zF)), (q20, .inl (c1, 16, .inl zF)), (q22, .inl (c1, 16, .inl zF)), (q24, .inl (c1, 16, .inl zF)), (q26, .inl (c1, 16, .inl zF)), (q28, .inl (c1, 156, .inl zF)), (q30, .inl (c1, 16, .inl zF))] H := hP
  have hD : va_D A [(h0, .inr (8, [.ref (q1), .int (iI 0), .int (iI 0), .int (iI 0), .int (iI 0), .int (iI 0), .int (iI 0), .int (iI 0), .int (iI 0), .ref (q2), .ref (q4), .ref (q6), .ref (q8), .ref (q10), .ref (q12), .ref (q14), .int (iI 0), .int (iI 0), .ref (q16), .int (iI 25), .ref (q18), .ref (q20), .ref (q22), .ref (q24), .int (iI 0), .ref (q26), .int (iI 0), .int (iI 0), .int (iI 0), .ref (q28), .ref (q30), .null, .null, .int (iI 0), .int (iI 0), .null, .null, .int (iI 0), .null, .null, .null, .null, .null, .null, .null, .int (iI 0)])), (q1, .inl (c1, 200, .inl zF)), (q2, .inl (c1, 17, .inl (lF lX8_1))), (q4, .inl (c1, 69, .inl (lF lX8_2))), (q6, .inl (c1, 28, .inl (lF lX8_3))), (q8, .inl (c1, 13, .inl (lF lX8_4))), (q10, .inl (c1, 13, .inl (lF lX8_5))), (q12, .inl (c1, 28, .inl (lF lX8_6))), (q14, .inl (c1, 28, .inl zF)), (q16, .inl (c1, 384, .inl zF)), (q18, .inl (c1, 16, .inl zF)), (q20, .inl (c1, 16, .inl zF)), (q22, .inl (c1, 16, .inl zF)), (q24, .inl (c1, 16, .inl zF)), (q26, .inl (c1, 16, .inl zF)), (q28, .inl (c1, 156, .inl zF)), (q30, .inl (c1, 16, .inl zF))] := hD
  refine lv_aload_n hx hb dX8_init_1046 rfl (lv_at hl 0 rfl) ?_
  refine lv_bipush hx hb dX8_init_1047 (rfl : _ = iI (26)) ?_
  refine va_newa (atype := .int) hx hb (hts (Cond.arrayClass .int) kw_113) rfl hK hP hD hS hA (a0 := (26, .inl zF)) (zA_i 26) (by decide +kernel) (N' := 26) (by decide +kernel) (Nat.le_of_ble_eq_true rfl) (Nat.le_of_ble_eq_true rfl) (Nat.le_of_ble_eq_true rfl) dX8_init_1049 (fun q32 c32 H hK hP hD hS => ?_)
  have e33 : c1 = c32 := (ka_i hK (i := 0) (j := 1) rfl rfl).symm
  subst e33
  have hK := hK.sub (tys' := [(c1, .int)]) [0] rfl
  have hP : va_P D vwCl [(h0, .inr (8, [.ref (q1), .int (iI 0), .int (iI 0), .int (iI 0), .int (iI 0), .int (iI 0), .int (iI 0), .int (iI 0), .int (iI 0), .ref (q2), .ref (q4), .ref (q6), .ref (q8), .ref (q10), .ref (q12), .ref (q14), .int (iI 0), .int (iI 0), .ref (q16), .int (iI 25), .ref (q18), .ref (q20), .ref (q22), .ref (q24), .int (iI 0), .ref (q26), .int (iI 0), .int (iI 0), .int (iI 0), .ref (q28), .ref (q30), .null, .null, .int (iI 0), .int (iI 0), .null, .null, .int (iI 0), .null, .null, .null, .null, .null, .null, .null, .int (iI 0)])), (q1, .inl (c1, 200, .inl zF)), (q2, .inl (c1, 17, .inl (lF lX8_1))), (q4, .inl (c1, 69, .inl (lF lX8_2))), (q6, .inl (c1, 28, .inl (lF lX8_3))), (q8, .inl (c1, 13, .inl (lF lX8_4))), (q10, .inl (c1, 13, .inl (lF lX8_5))), (q12, .inl (c1, 28, .inl (lF lX8_6))), (q14, .inl (c1, 28, .inl zF)), (q16, .inl (c1, 384, .inl zF)), (q18, .inl (c1, 16, .inl zF)), (q20, .inl (c1, 16, .inl zF)), (q22, .inl (c1, 16, .inl zF)), (q24, .inl (c1, 16, .inl zF)), (q26, .inl (c1, 16, .inl zF)), (q28, .inl (c1, 156, .inl zF)), (q30, .inl (c1, 16, .inl zF)), (q32, .inl (c1, 26, .inl zF))] H := hP
  have hD : va_D A [(h0, .inr (8, [.ref (q1), .int (iI 0), .int (iI 0), .int (iI 0), .int (iI 0), .int (iI 0), .int (iI 0), .int (iI 0), .int (iI 0), .ref (q2), .ref (q4), .ref (q6), .ref (q8), .ref (q10), .ref (q12), .ref (q14), .int (iI 0), .int (iI 0), .ref (q16), .int (iI 25), .ref (q18), .ref (q20), .ref (q22), .ref (q24), .int (iI 0), .ref (q26), .int (iI 0), .int (iI 0), .int (iI 0), .ref (q28), .ref (q30), .null, .null, .int (iI 0), .int (iI 0), .null, .null, .int (iI 0), .null, .null, .null, .null, .null, .null, .null, .int (iI 0)])), (q1, .inl (c1, 200, .inl zF)), (q2, .inl (c1, 17, .inl (lF lX8_1))), (q4, .inl (c1, 69, .inl (lF lX8_2))), (q6, .inl (c1, 28, .inl (lF lX8_3))), (q8, .inl (c1, 13, .inl (lF lX8_4))), (q10, .inl (c1, 13, .inl (lF lX8_5))), (q12, .inl (c1, 28, .inl (lF lX8_6))), (q14, .inl (c1, 28, .inl zF)), (q16, .inl (c1, 384, .inl zF)), (q18, .inl (c1, 16, .inl zF)), (q20, .inl (c1, 16, .inl zF)), (q22, .inl (c1, 16, .inl zF)), (q24, .inl (c1, 16, .inl zF)), (q26, .inl (c1, 16, .inl zF)), (q28, .inl (c1, 156, .inl zF)), (q30, .inl (c1, 16, .inl zF)), (q32, .inl (c1, 26, .inl zF))] := hD
  refine va_putF (D := D) (ci := 8) (v := .ref (q32)) (ty := tyX8 31) (C := RX8) (T := TX8) (N := 46) hx hb hts inGX8 tyX8 tyX8_ok nmX8 hown hK hP hD hS 0 rfl rfl 31 (by decide) (hts _ kw_836) (fun _ h9 => h9) rfl hin rfl (tyX8_ok 31 (by decide)) rfl rfl (Nat.le_of_ble_eq_true rfl) dX8_init_1051 (fun H locs hP hD hS => ?_)
  have hP : va_P D vwCl [(h0, .inr (8, [.ref (q1), .int (iI 0), .int (iI 0), .int (iI 0), .int (iI 0), .int (iI 0), .int (iI 0), .int (iI 0), .int (iI 0), .ref (q2), .ref (q4), .ref (q6), .ref (q8), .ref (q10), .ref (q12), .ref (q14), .int (iI 0), .int (iI 0), .ref (q16), .int (iI 25), .ref (q18), .ref (q20), .ref (q22), .ref (q24), .int (iI 0), .ref (q26), .int (iI 0), .int (iI 0), .int (iI 0), .ref (q28), .ref (q30), .ref (q32), .null, .int (iI 0), .int (iI 0), .null, .null, .int (iI 0), .null, .null, .null, .null, .null, .null, .null, .int (iI 0)])), (q1, .inl (c1, 200, .inl zF)), (q2, .inl (c1, 17, .inl (lF lX8_1))), (q4, .inl (c1, 69, .inl (lF lX8_2))), (q6, .inl (c1, 28, .inl (lF lX8_3))), (q8, .inl (c1, 13, .inl (lF lX8_4))), (q10, .inl (c1, 13, .inl (lF lX8_5))), (q12, .inl (c1, 28, .inl (lF lX8_6))), (q14, .inl (c1, 28, .inl zF)), (q16, .inl (c1, 384, .inl zF)), (q18, .inl (c1, 16, .inl zF)), (q20, .inl (c1, 16, .inl zF)), (q22, .inl (c1, 16, .inl zF)), (q24, .inl (c1, 16, .inl zF)), (q26, .inl (c1, 16, .inl zF)), (q28, .inl (c1, 156, .inl zF)), (q30, .inl (c1, 16, .inl zF)), (q32, .inl (c1, 26, .inl zF))] H := hP
  have hD : va_D A [(h0, .inr (8, [.ref (q1), .int (iI 0), .int (iI 0), .int (iI 0), .int (iI 0), .int (iI 0), .int (iI 0), .int (iI 0), .int (iI 0), .ref (q2), .ref (q4), .ref (q6), .ref (q8), .ref (q10), .ref (q12), .ref (q14), .int (iI 0), .int (iI 0), .ref (q16), .int (iI 25), .ref (q18), .ref (q20), .ref (q22), .ref (q24), .int (iI 0), .ref (q26), .int (iI 0), .int (iI 0), .int (iI 0), .ref (q28), .ref (q30), .ref (q32), .null, .int (iI 0), .int (iI 0), .null, .null, .int (iI 0), .null, .null, .null, .null, .null, .null, .null, .int (iI 0)])), (q1, .inl (c1, 200, .inl zF)), (q2, .inl (c1, 17, .inl (lF lX8_1))), (q4, .inl (c1, 69, .inl (lF lX8_2))), (q6, .inl (c1, 28, .inl (lF lX8_3))), (q8, .inl (c1, 13, .inl (lF lX8_4))), (q10, .inl (c1, 13, .inl (lF lX8_5))), (q12, .inl (c1, 28, .inl (lF lX8_6))), (q14, .inl (c1, 28, .inl zF)), (q16, .inl (c1, 384, .inl zF)), (q18, .inl (c1, 16, .inl zF)), (q20, .inl (c1, 16, .inl zF)), (q22, .inl (c1, 16, .inl zF)), (q24, .inl (c1, 16, .inl zF)), (q26, .inl (c1, 16, .inl zF)), (q28, .inl (c1, 156, .inl zF)), (q30, .inl (c1, 16, .inl zF)), (q32, .inl (c1, 26, .inl zF))] := hD
  refine lv_aload_n hx hb dX8_init_1054 rfl (lv_at hl 0 rfl) ?_
  refine lv_sipush hx hb dX8_init_1055 (rfl : _ = iI (6656)) ?_
  refine va_newa (atype := .int) hx hb (hts (Cond.arrayClass .int) kw_113) rfl hK hP hD hS hA (a0 := (6656, .inl zF)) (zA_i 6656) (by decide +kernel) (N' := 6656) (by decide +kernel) (Nat.le_of_ble_eq_true rfl) (Nat.le_of_ble_eq_true rfl) (Nat.le_of_ble_eq_true rfl) dX8_init_1058 (fun q34 c34 H hK hP hD hS => ?_)
  have e35 : c1 = c34 := (ka_i hK (i := 0) (j := 1) rfl rfl).symm
  subst e35
  have hK := hK.sub (tys' := [(c1, .int)]) [0] rfl
  have hP : va_P D vwCl [(h0, .inr (8, [.ref (q1), .int (iI 0), .int (iI 0), .int (iI 0), .int (iI 0), .int (iI 0), .int (iI 0), .int (iI 0), .int (iI 0), .ref (q2), .ref (q4), .ref (q6), .ref (q8), .ref (q10), .ref (q12), .ref (q14), .int (iI 0), .int (iI 0), .ref (q16), .int (iI 25), .ref (q18), .ref (q20), .ref (q22), .ref (q24), .int (iI 0), .ref (q26), .int (iI 0), .int (iI 0), .int (iI 0), .ref (q28), .ref (q30), .ref (q32), .null, .int (iI 0), .int (iI 0), .null, .null, .int (iI 0), .null, .null, .null, .null, .null, .null, .null, .int (iI 0)])), (q1, .inl (c1, 200, .inl zF)), (q2, .inl (c1, 17, .inl (lF lX8_1))), (q4, .inl (c1, 69, .inl (lF lX8_2))), (q6, .inl (c1, 28, .inl (lF lX8_3))), (q8, .inl (c1, 13, .inl (lF lX8_4))), (q10, .inl (c1, 13, .inl (lF lX8_5))), (q12, .inl (c1, 28, .inl (lF lX8_6))), (q14, .inl (c1, 28, .inl zF)), (q16, .inl (c1, 384, .inl zF)), (q18, .inl (c1, 16, .inl zF)), (q20, .inl (c1, 16, .inl zF)), (q22, .inl (c1, 16, .inl zF)), (q24, .inl (c1, 16, .inl zF)), (q26, .inl (c1, 16, .inl zF)), (q28, .inl (c1, 156, .inl zF)), (q30, .inl (c1, 16, .inl zF)), (q32, .inl (c1, 26, .inl zF)), (q34, .inl (c1, 6656, .inl zF))] H := hP
  have hD : va_D A [(h0, .inr (8, [.ref (q1), .int (iI 0), .int (iI 0), .int (iI 0), .int (iI 0), .int (iI 0), .int (iI 0), .int (iI 0), .int (iI 0), .ref (q2), .ref (q4), .ref (q6), .ref (q8), .ref (q10), .ref (q12), .ref (q14), .int (iI 0), .int (iI 0), .ref (q16), .int (iI 25), .ref (q18), .ref (q20), .ref (q22), .ref (q24), .int (iI 0), .ref (q26), .int (iI 0), .int (iI 0), .int (iI 0), .ref (q28), .ref (q30), .ref (q32), .null, .int (iI 0), .int (iI 0), .null, .null, .int (iI 0), .null, .null, .null, .null, .null, .null, .null, .int (iI 0)])), (q1, .inl (c1, 200, .inl zF)), (q2, .inl (c1, 17, .inl (lF lX8_1))), (q4, .inl (c1, 69, .inl (lF lX8_2))), (q6, .inl (c1, 28, .inl (lF lX8_3))), (q8, .inl (c1, 13, .inl (lF lX8_4))), (q10, .inl (c1, 13, .inl (lF lX8_5))), (q12, .inl (c1, 28, .inl (lF lX8_6))), (q14, .inl (c1, 28, .inl zF)), (q16, .inl (c1, 384, .inl zF)), (q18, .inl (c1, 16, .inl zF)), (q20, .inl (c1, 16, .inl zF)), (q22, .inl (c1, 16, .inl zF)), (q24, .inl (c1, 16, .inl zF)), (q26, .inl (c1, 16, .inl zF)), (q28, .inl (c1, 156, .inl zF)), (q30, .inl (c1, 16, .inl zF)), (q32, .inl (c1, 26, .inl zF)), (q34, .inl (c1, 6656, .inl zF))] := hD
  refine va_putF (D := D) (ci := 8) (v := .ref (q34)) (ty := tyX8 32) (C := RX8) (T := TX8) (N := 46) hx hb hts inGX8 tyX8 tyX8_ok nmX8 hown hK hP hD hS 0 rfl rfl 32 (by decide) (hts _ kw_837) (fun _ h9 => h9) rfl hin rfl (tyX8_ok 32 (by decide)) rfl rfl (Nat.le_of_ble_eq_true rfl) dX8_init_1060 (fun H locs hP hD hS => ?_)
  have hP : va_P D vwCl [(h0, .inr (8, [.ref (q1), .int (iI 0), .int (iI 0), .int (iI 0), .int (iI 0), .int (iI 0), .int (iI 0), .int (iI 0), .int (iI 0), .ref (q2), .ref (q4), .ref (q6), .ref (q8), .ref (q10), .ref (q12), .ref (q14), .int (iI 0), .int (iI 0), .ref (q16), .int (iI 25), .ref (q18), .ref (q20), .ref (q22), .ref (q24), .int (iI 0), .ref (q26), .int (iI 0), .int (iI 0), .int (iI 0), .ref (q28), .ref (q30), .ref (q32), .ref (q34), .int (iI 0), .int (iI 0), .null, .null, .int (iI 0), .null, .null, .null, .null, .null, .null, .null, .int (iI 0)])), (q1, .inl (c1, 200, .inl zF)), (q2, .inl (c1, 17, .inl (lF lX8_1))), (q4, .inl (c1, 69, .inl (lF lX8_2))), (q6, .inl (c1, 28, .inl (lF lX8_3))), (q8, .inl (c1, 13, .inl (lF lX8_4))), (q10, .inl (c1, 13, .inl (lF lX8_5))), (q12, .inl (c1, 28, .inl (lF lX8_6))), (q14, .inl (c1, 28, .inl zF)), (q16, .inl (c1, 384, .inl zF)), (q18, .inl (c1, 16, .inl zF)), (q20, .inl (c1, 16, .inl zF)), (q22, .inl (c1, 16, .inl zF)), (q24, .inl (c1, 16, .inl zF)), (q26, .inl (c1, 16, .inl zF)), (q28, .inl (c1, 156, .inl zF)), (q30, .inl (c1, 16, .inl zF)), (q32, .inl (c1, 26, .inl zF)), (q34, .inl (c1, 6656, .inl zF))] H := hP
  have hD : va_D A [(h0, .inr (8, [.ref (q1), .int (iI 0), .int (iI 0), .int (iI 0), .int (iI 0), .int (iI 0), .int (iI 0), .int (iI 0), .int (iI 0), .ref (q2), .ref (q4), .ref (q6), .ref (q8), .ref (q10), .ref (q12), .ref (q14), .int (iI 0), .int (iI 0), .ref (q16), .int (iI 25), .ref (q18), .ref (q20), .ref (q22), .ref (q24), .int (iI 0), .ref (q26), .int (iI 0), .int (iI 0), .int (iI 0), .ref (q28), .ref (q30), .ref (q32), .ref (q34), .int (iI 0), .int (iI 0), .null, .null, .int (iI 0), .null, .null, .null, .null, .null, .null, .null, .int (iI 0)])), (q1, .inl (c1, 200, .inl zF)), (q2, .inl (c1, 17, .inl (lF lX8_1))), (q4, .inl (c1, 69, .inl (lF lX8_2))), (q6, .inl (c1, 28, .inl (lF lX8_3))), (q8, .inl (c1, 13, .inl (lF lX8_4))), (q10, .inl (c1, 13, .inl (lF lX8_5))), (q12, .inl (c1, 28, .inl (lF lX8_6))), (q14, .inl (c1, 28, .inl zF)), (q16, .inl (c1, 384, .inl zF)), (q18, .inl (c1, 16, .inl zF)), (q20, .inl (c1, 16, .inl zF)), (q22, .inl (c1, 16, .inl zF)), (q24, .inl (c1, 16, .inl zF)), (q26, .inl (c1, 16, .inl zF)), (q28, .inl (c1, 156, .inl zF)), (q30, .inl (c1, 16, .inl zF)), (q32, .inl (c1, 26, .inl zF)), (q34, .inl (c1, 6656, .inl zF))] := hD
  refine lv_aload_n hx hb dX8_init_1063 rfl (lv_at hl 0 rfl) ?_
  refine lv_sipush hx hb dX8_init_1064 (rfl : _ = iI (793)) ?_
  refine va_newa (atype := .int) hx hb (hts (Cond.arrayClass .int) kw_113) rfl hK hP hD hS hA (a0 := (793, .inl zF)) (zA_i 793) (by decide +kernel) (N' := 793) (by decide +kernel) (Nat.le_of_ble_eq_true rfl) (Nat.le_of_ble_eq_true rfl) (Nat.le_of_ble_eq_true rfl) dX8_init_1067 (fun q36 c36 H hK hP hD hS => ?_)
  have e37 : c1 = c36 := (ka_i hK (i := 0) (j := 1) rfl rfl).symm
  subst e37
  have hK := hK.sub (tys' := [(c1, .int)]) [0] rfl
  have hP : va_P D vwCl [(h0, .inr (8, [.ref (q1), .int (iI 0), .int (iI 0), .int (iI 0), .int (iI 0), .int (iI 0), .int (iI 0), .int (iI 0), .int (iI 0), .ref (q2), .ref (q4), .ref (q6), .ref (q8), .ref (q10), .ref (q12), .ref (q14), .int (iI 0), .int (iI 0), .ref (q16), .int (iI 25), .ref (q18), .ref (q20), .ref (q22), .ref (q24), .int (iI 0), .ref (q26), .int (iI 0), .int (iI 0), .int (iI 0), .ref (q28), .ref (q30), .ref (q32), .ref (q34), .int (iI 0), .int (iI 0), .null, .null, .int (iI 0), .null, .null, .null, .null, .null, .null, .null, .int (iI 0)])), (q1, .inl (c1, 200, .inl zF)), (q2, .inl (c1, 17, .inl (lF lX8_1))), (q4, .inl (c1, 69, .inl (lF lX8_2))), (q6, .inl (c1, 28, .inl (lF lX8_3))), (q8, .inl (c1, 13, .inl (lF lX8_4))), (q10, .inl (c1, 13, .inl (lF lX8_5))), (q12, .inl (c1, 28, .inl (lF lX8_6))), (q14, .inl (c1, 28, .inl zF)), (q16, .inl (c1, 384, .inl zF)), (q18, .inl (c1, 16, .inl zF)), (q20, .inl (c1, 16, .inl zF)), (q22, .inl (c1, 16, .inl zF)), (q24, .inl (c1, 16, .inl zF)), (q26, .inl (c1, 16, .inl zF)), (q28, .inl (c1, 156, .inl zF)), (q30, .inl (c1, 16, .inl zF)), (q32, .inl (c1, 26, .inl zF)), (q34, .inl (c1, 6656, .inl zF)), (q36, .inl (c1, 793, .inl zF))] H := hP
  have hD : va_D A [(h0, .inr (8, [.ref (q1), .int (iI 0), .int (iI 0), .int (iI 0), .int (iI 0), .int (iI 0), .int (iI 0), .int (iI 0), .int (iI 0), .ref (q2), .ref (q4), .ref (q6), .ref (q8), .ref (q10), .ref (q12), .ref (q14), .int (iI 0), .int (iI 0), .ref (q16), .int (iI 25), .ref (q18), .ref (q20), .ref (q22), .ref (q24), .int (iI 0), .ref (q26), .int (iI 0), .int (iI 0), .int (iI 0), .ref (q28), .ref (q30), .ref (q32), .ref (q34), .int (iI 0), .int (iI 0), .null, .null, .int (iI 0), .null, .null, .null, .null, .null, .null, .null, .int (iI 0)])), (q1, .inl (c1, 200, .inl zF)), (q2, .inl (c1, 17, .inl (lF lX8_1))), (q4, .inl (c1, 69, .inl (lF lX8_2))), (q6, .inl (c1, 28, .inl (lF lX8_3))), (q8, .inl (c1, 13, .inl (lF lX8_4))), (q10, .inl (c1, 13, .inl (lF lX8_5))), (q12, .inl (c1, 28, .inl (lF lX8_6))), (q14, .inl (c1, 28, .inl zF)), (q16, .inl (c1, 384, .inl zF)), (q18, .inl (c1, 16, .inl zF)), (q20, .inl (c1, 16, .inl zF)), (q22, .inl (c1, 16, .inl zF)), (q24, .inl (c1, 16, .inl zF)), (q26, .inl (c1, 16, .inl zF)), (q28, .inl (c1, 156, .inl zF)), (q30, .inl (c1, 16, .inl zF)), (q32, .inl (c1, 26, .inl zF)), (q34, .inl (c1, 6656, .inl zF)), (q36, .inl (c1, 793, .inl zF))] := hD
  refine va_putF (D := D) (ci := 8) (v := .ref (q36)) (ty := tyX8 35) (C := RX8) (T := TX8) (N := 46) hx hb hts inGX8 tyX8 tyX8_ok nmX8 hown hK hP hD hS 0 rfl rfl 35 (by decide) (hts _ kw_840) (fun _ h9 => h9) rfl hin rfl (tyX8_ok 35 (by decide)) rfl rfl (Nat.le_of_ble_eq_true rfl) dX8_init_1069 (fun H locs hP hD hS => ?_)
  have hP : va_P D vwCl [(h0, .inr (8, [.ref (q1), .int (iI 0), .int (iI 0), .int (iI 0), .int (iI 0), .int (iI 0), .int (iI 0), .int (iI 0), .int (iI 0), .ref (q2), .ref (q4), .ref (q6), .ref (q8), .ref (q10), .ref (q12), .ref (q14), .int (iI 0), .int (iI 0), .ref (q16), .int (iI 25), .ref (q18), .ref (q20), .ref (q22), .ref (q24), .int (iI 0), .ref (q26), .int (iI 0), .int (iI 0), .int (iI 0), .ref (q28), .ref (q30), .ref (q32), .ref (q34), .int (iI 0), .int (iI 0), .ref (q36), .null, .int (iI 0), .null, .null, .null, .null, .null, .null, .null, .int (iI 0)])), (q1, .inl (c1, 200, .inl zF)), (q2, .inl (c1, 17, .inl (lF lX8_1))), (q4, .inl (c1, 69, .inl (lF lX8_2))), (q6, .inl (c1, 28, .inl (lF lX8_3))), (q8, .inl (c1, 13, .inl (lF lX8_4))), (q10, .inl (c1, 13, .inl (lF lX8_5))), (q12, .inl (c1, 28, .inl (lF lX8_6))), (q14, .inl (c1, 28, .inl zF)), (q16, .inl (c1, 384, .inl zF)), (q18, .inl (c1, 16, .inl zF)), (q20, .inl (c1, 16, .inl zF)), (q22, .inl (c1, 16, .inl zF)), (q24, .inl (c1, 16, .inl zF)), (q26, .inl (c1, 16, .inl zF)), (q28, .inl (c1, 156, .inl zF)), (q30, .inl (c1, 16, .inl zF)), (q32, .inl (c1, 26, .inl zF)), (q34, .inl (c1, 6656, .inl zF)), (q36, .inl (c1, 793, .inl zF))] H := hP
  have hD : va_D A [(h0, .inr (8, [.ref (q1), .int (iI 0), .int (iI 0), .int (iI 0), .int (iI 0), .int (iI 0), .int (iI 0), .int (iI 0), .int (iI 0), .ref (q2), .ref (q4), .ref (q6), .ref (q8), .ref (q10), .ref (q12), .ref (q14), .int (iI 0), .int (iI 0), .ref (q16), .int (iI 25), .ref (q18), .ref (q20), .ref (q22), .ref (q24), .int (iI 0), .ref (q26), .int (iI 0), .int (iI 0), .int (iI 0), .ref (q28), .ref (q30), .ref (q32), .ref (q34), .int (iI 0), .int (iI 0), .ref (q36), .null, .int (iI 0), .null, .null, .null, .null, .null, .null, .null, .int (iI 0)])), (q1, .inl (c1, 200, .inl zF)), (q2, .inl (c1, 17, .inl (lF lX8_1))), (q4, .inl (c1, 69, .inl (lF lX8_2))), (q6, .inl (c1, 28, .inl (lF lX8_3))), (q8, .inl (c1, 13, .inl (lF lX8_4))), (q10, .inl (c1, 13, .inl (lF lX8_5))), (q12, .inl (c1, 28, .inl (lF lX8_6))), (q14, .inl (c1, 28, .inl zF)), (q16, .inl (c1, 384, .inl zF)), (q18, .inl (c1, 16, .inl zF)), (q20, .inl (c1, 16, .inl zF)), (q22, .inl (c1, 16, .inl zF)), (q24, .inl (c1, 16, .inl zF)), (q26, .inl (c1, 16, .inl zF)), (q28, .inl (c1, 156, .inl zF)), (q30, .inl (c1, 16, .inl zF)), (q32, .inl (c1, 26, .inl zF)), (q34, .inl (c1, 6656, .inl zF)), (q36, .inl (c1, 793, .inl zF))] := hD
  refine lv_aload_n hx hb dX8_init_1072 rfl (lv_at hl 0 rfl) ?_
  refine lv_sipush hx hb dX8_init_1073 (rfl : _ = iI (793)) ?_
  refine va_newa (atype := .int) hx hb (hts (Cond.arrayClass .int) kw_113) rfl hK hP hD hS hA (a0 := (793, .inl zF)) (zA_i 793) (by decide +kernel) (N' := 793) (by decide +kernel) (Nat.le_of_ble_eq_true rfl) (Nat.le_of_ble_eq_true rfl) (Nat.le_of_ble_eq_true rfl) dX8_init_1076 (fun q38 c38 H hK hP hD hS => ?_)
  have e39 : c1 = c38 := (ka_i hK (i := 0) (j := 1) rfl rfl).symm
  subst e39
  have hK := hK.sub (tys' := [(c1, .int)]) [0] rfl
  have hP : va_P D vwCl [(h0, .inr (8, [.ref (q1), .int (iI 0), .int (iI 0), .int (iI 0), .int (iI 0), .int (iI 0), .int (iI 0), .int (iI 0), .int (iI 0), .ref (q2), .ref (q4), .ref (q6), .ref (q8), .ref (q10), .ref (q12), .ref (q14), .int (iI 0), .int (iI 0), .ref (q16), .int (iI 25), .ref (q18), .ref (q20), .ref (q22), .ref (q24), .int (iI 0), .ref (q26), .int (iI 0), .int (iI 0), .int (iI 0), .ref (q28), .ref (q30), .ref (q32), .ref (q34), .int (iI 0), .int (iI 0), .ref (q36), .null, .int (iI 0), .null, .null, .null, .null, .null, .null, .null, .int (iI 0)])), (q1, .inl (c1, 200, .inl zF)), (q2, .inl (c1, 17, .inl (lF lX8_1))), (q4, .inl (c1, 69, .inl (lF lX8_2))), (q6, .inl (c1, 28, .inl (lF lX8_3))), (q8, .inl (c1, 13, .inl (lF lX8_4))), (q10, .inl (c1, 13, .inl (lF lX8_5))), (q12, .inl (c1, 28, .inl (lF lX8_6))), (q14, .inl (c1, 28, .inl zF)), (q16, .inl (c1, 384, .inl zF)), (q18, .inl (c1, 16, .inl zF)), (q20, .inl (c1, 16, .inl zF)), (q22, .inl (c1, 16, .inl zF)), (q24, .inl (c1, 16, .inl zF)), (q26, .inl (c1, 16, .inl zF)), (q28, .inl (c1, 156, .inl zF)), (q30, .inl (c1, 16, .inl zF)), (q32, .inl (c1, 26, .inl zF)), (q34, .inl (c1, 6656, .inl zF)), (q36, .inl (c1, 793, .inl zF)), (q38, .inl (c1, 793, .inl zF))] H := hP
  have hD : va_D A [(h0, .inr (8, [.ref (q1), .int (iI 0), .int (iI 0), .int (iI 0), .int (iI 0), .int (iI 0), .int (iI 0), .int (iI 0), .int (iI 0), .ref (q2), .ref (q4), .ref (q6), .ref (q8), .ref (q10), .ref (q12), .ref (q14), .int (iI 0), .int (iI 0), .ref (q16), .int (iI 25), .ref (q18), .ref (q20), .ref (q22), .ref (q24), .int (iI 0), .ref (q26), .int (iI 0), .int (iI 0), .int (iI 0), .ref (q28), .ref (q30), .ref (q32), .ref (q34), .int (iI 0), .int (iI 0), .ref (q36), .null, .int (iI 0), .null, .null, .null, .null, .null, .null, .null, .int (iI 0)])), (q1, .inl (c1, 200, .inl zF)), (q2, .inl (c1, 17, .inl (lF lX8_1))), (q4, .inl (c1, 69, .inl (lF lX8_2))), (q6, .inl (c1, 28, .inl (lF lX8_3))), (q8, .inl (c1, 13, .inl (lF lX8_4))), (q10, .inl (c1, 13, .inl (lF lX8_5))), (q12, .inl (c1, 28, .inl (lF lX8_6))), (q14, .inl (c1, 28, .inl zF)), (q16, .inl (c1, 384, .inl zF)), (q18, .inl (c1, 16, .inl zF)), (q20, .inl (c1, 16, .inl zF)), (q22, .inl (c1, 16, .inl zF)), (q24, .inl (c1, 16, .inl zF)), (q26, .inl (c1, 16, .inl zF)), (q28, .inl (c1, 156, .inl zF)), (q30, .inl (c1, 16, .inl zF)), (q32, .inl (c1, 26, .inl zF)), (q34, .inl (c1, 6656, .inl zF)), (q36, .inl (c1, 793, .inl zF)), (q38, .inl (c1, 793, .inl zF))] := hD
  refine va_putF (D := D) (ci := 8) (v := .ref (q38)) (ty := tyX8 36) (C := RX8) (T := TX8) (N := 46) hx hb hts inGX8 tyX8 tyX8_ok nmX8 hown hK hP hD hS 0 rfl rfl 36 (by decide) (hts _ kw_841) (fun _ h9 => h9) rfl hin rfl (tyX8_ok 36 (by decide)) rfl rfl (Nat.le_of_ble_eq_true rfl) dX8_init_1078 (fun H locs hP hD hS => ?_)
  have hP : va_P D vwCl [(h0, .inr (8, [.ref (q1), .int (iI 0), .int (iI 0), .int (iI 0), .int (iI 0), .int (iI 0), .int (iI 0), .int (iI 0), .int (iI 0), .ref (q2), .ref (q4), .ref (q6), .ref (q8), .ref (q10), .ref (q12), .ref (q14), .int (iI 0), .int (iI 0), .ref (q16), .int (iI 25), .ref (q18), .ref (q20), .ref (q22), .ref (q24), .int (iI 0), .ref (q26), .int (iI 0), .int (iI 0), .int (iI 0), .ref (q28), .ref (q30), .ref (q32), .ref (q34), .int (iI 0), .int (iI 0), .ref (q36), .ref (q38), .int (iI 0), .null, .null, .null, .null, .null, .null, .null, .int (iI 0)])), (q1, .inl (c1, 200, .inl zF)), (q2, .inl (c1, 17, .inl (lF lX8_1))), (q4, .inl (c1, 69, .inl (lF lX8_2))), (q6, .inl (c1, 28, .inl (lF lX8_3))), (q8, .inl (c1, 13, .inl (lF lX8_4))), (q10, .inl (c1, 13, .inl (lF lX8_5))), (q12, .inl (c1, 28, .inl (lF lX8_6))), (q14, .inl (c1, 28, .inl zF)), (q16, .inl (c1, 384, .inl zF)), (q18, .inl (c1, 16, .inl zF)), (q20, .inl (c1, 16, .inl zF)), (q22, .inl (c1, 16, .inl zF)), (q24, .inl (c1, 16, .inl zF)), (q26, .inl (c1, 16, .inl zF)), (q28, .inl (c1, 156, .inl zF)), (q30, .inl (c1, 16, .inl zF)), (q32, .inl (c1, 26, .inl zF)), (q34, .inl (c1, 6656, .inl zF)), (q36, .inl (c1, 793, .inl zF)), (q38, .inl (c1, 793, .inl zF))] H := hP
  have hD : va_D A [(h0, .inr (8, [.ref (q1), .int (iI 0), .int (iI 0), .int (iI 0), .int (iI 0), .int (iI 0), .int (iI 0), .int (iI 0), .int (iI 0), .ref (q2), .ref (q4), .ref (q6), .ref (q8), .ref (q10), .ref (q12), .ref (q14), .int (iI 0), .int (iI 0), .ref (q16), .int (iI 25), .ref (q18), .ref (q20), .ref (q22), .ref (q24), .int (iI 0), .ref (q26), .int (iI 0), .int (iI 0), .int (iI 0), .ref (q28), .ref (q30), .ref (q32), .ref (q34), .int (iI 0), .int (iI 0), .ref (q36), .ref (q38), .int (iI 0), .null, .null, .null, .null, .null, .null, .null, .int (iI 0)])), (q1, .inl (c1, 200, .inl zF)), (q2, .inl (c1, 17, .inl (lF lX8_1))), (q4, .inl (c1, 69, .inl (lF lX8_2))), (q6, .inl (c1, 28, .inl (lF lX8_3))), (q8, .inl (c1, 13, .inl (lF lX8_4))), (q10, .inl (c1, 13, .inl (lF lX8_5))), (q12, .inl (c1, 28, .inl (lF lX8_6))), (q14, .inl (c1, 28, .inl zF)), (q16, .inl (c1, 384, .inl zF)), (q18, .inl (c1, 16, .inl zF)), (q20, .inl (c1, 16, .inl zF)), (q22, .inl (c1, 16, .inl zF)), (q24, .inl (c1, 16, .inl zF)), (q26, .inl (c1, 16, .inl zF)), (q28, .inl (c1, 156, .inl zF)), (q30, .inl (c1, 16, .inl zF)), (q32, .inl (c1, 26, .inl zF)), (q34, .inl (c1, 6656, .inl zF)), (q36, .inl (c1, 793, .inl zF)), (q38, .inl (c1, 793, .inl zF))] := hD
  refine lv_aload_n hx hb dX8_init_1081 rfl (lv_at hl 0 rfl) ?_
  refine lv_bipush hx hb dX8_init_1082 (rfl : _ = iI (12)) ?_
  refine va_newa (atype := .int) hx hb (hts (Cond.arrayClass .int) kw_113) rfl hK hP hD hS hA (a0 := (12, .inl zF)) (zA_i 12) (by decide +kernel) (N' := 12) (by decide +kernel) (Nat.le_of_ble_eq_true rfl) (Nat.le_of_ble_eq_true rfl) (Nat.le_of_ble_eq_true rfl) dX8_init_1084 (fun q40 c40 H hK hP hD hS => ?_)
  have e41 : c1 = c40 := (ka_i hK (i := 0) (j := 1) rfl rfl).symm
  subst e41
  have hK := hK.sub (tys' := [(c1, .int)]) [0] rfl
  have hP : va_P D vwCl [(h0, .inr (8, [.ref (q1), .int (iI 0), .int (iI 0), .int (iI 0), .int (iI 0), .int (iI 0), .int (iI 0), .int (iI 0), .int (iI 0), .ref (q2), .ref (q4), .ref (q6), .ref (q8), .ref (q10), .ref (q12), .ref (q14), .int (iI 0), .int (iI 0), .ref (q16), .int (iI 25), .ref (q18), .ref (q20), .ref (q22), .ref (q24), .int (iI 0), .ref (q26), .int (iI 0), .int (iI 0), .int (iI 0), .ref (q28), .ref (q30), .ref (q32), .ref (q34), .int (iI 0), .int (iI 0), .ref (q36), .ref (q38), .int (iI 0), .null, .null, .null, .null, .null, .null, .null, .int (iI 0)])), (q1, .inl (c1, 200, .inl zF)), (q2, .inl (c1, 17, .inl (lF lX8_1))), (q4, .inl (c1, 69, .inl (lF lX8_2))), (q6, .inl (c1, 28, .inl (lF lX8_3))), (q8, .inl (c1, 13, .inl (lF lX8_4))), (q10, .inl (c1, 13, .inl (lF lX8_5))), (q12, .inl (c1, 28, .inl (lF lX8_6))), (q14, .inl (c1, 28, .inl zF)), (q16, .inl (c1, 384, .inl zF)), (q18, .inl (c1, 16, .inl zF)), (q20, .inl (c1, 16, .inl zF)), (q22, .inl (c1, 16, .inl zF)), (q24, .inl (c1, 16, .inl zF)), (q26, .inl (c1, 16, .inl zF)), (q28, .inl (c1, 156, .inl zF)), (q30, .inl (c1, 16, .inl zF)), (q32, .inl (c1, 26, .inl zF)), (q34, .inl (c1, 6656, .inl zF)), (q36, .inl (c1, 793, .inl zF)), (q38, .inl (c1, 793, .inl zF)), (q40, .inl (c1, 12, .inl zF))] H := hP
  have hD : va_D A [(h0, .inr (8, [.ref (q1), .int (iI 0), .int (iI 0), .int (iI 0), .int (iI 0), .int (iI 0), .int (iI 0), .int (iI 0), .int (iI 0), .ref (q2), .ref (q4), .ref (q6), .ref (q8), .ref (q10), .ref (q12), .ref (q14), .int (iI 0), .int (iI 0), .ref (q16), .int (iI 25), .ref (q18), .ref (q20), .ref (q22), .ref (q24), .int (iI 0), .ref (q26), .int (iI 0), .int (iI 0), .int (iI 0), .ref (q28), .ref (q30), .ref (q32), .ref (q34), .int (iI 0), .int (iI 0), .ref (q36), .ref (q38), .int (iI 0), .null, .null, .null, .null, .null, .null, .null, .int (iI 0)])), (q1, .inl (c1, 200, .inl zF)), (q2, .inl (c1, 17, .inl (lF lX8_1))), (q4, .inl (c1, 69, .inl (lF lX8_2))), (q6, .inl (c1, 28, .inl (lF lX8_3))), (q8, .inl (c1, 13, .inl (lF lX8_4))), (q10, .inl (c1, 13, .inl (lF lX8_5))), (q12, .inl (c1, 28, .inl (lF lX8_6))), (q14, .inl (c1, 28, .inl zF)), (q16, .inl (c1, 384, .inl zF)), (q18, .inl (c1, 16, .inl zF)), (q20, .inl (c1, 16, .inl zF)), (q22, .inl (c1, 16, .inl zF)), (q24, .inl (c1, 16, .inl zF)), (q26, .inl (c1, 16, .inl zF)), (q28, .inl (c1, 156, .inl zF)), (q30, .inl (c1, 16, .inl zF)), (q32, .inl (c1, 26, .inl zF)), (q34, .inl (c1, 6656, .inl zF)), (q36, .inl (c1, 793, .inl zF)), (q38, .inl (c1, 793, .inl zF)), (q40, .inl (c1, 12, .inl zF))] := hD
  refine va_putF (D := D) (ci := 8) (v := .ref (q40)) (ty := tyX8 38) (C := RX8) (T := TX8) (N := 46) hx hb hts inGX8 tyX8 tyX8_ok nmX8 hown hK hP hD hS 0 rfl rfl 38 (by decide) (hts _ kw_843) (fun _ h9 => h9) rfl hin rfl (tyX8_ok 38 (by decide)) rfl rfl (Nat.le_of_ble_eq_true rfl) dX8_init_1086 (fun H locs hP hD hS => ?_)
  have hP : va_P D vwCl [(h0, .inr (8, [.ref (q1), .int (iI 0), .int (iI 0), .int (iI 0), .int (iI 0), .int (iI 0), .int (iI 0), .int (iI 0), .int (iI 0), .ref (q2), .ref (q4), .ref (q6), .ref (q8), .ref (q10), .ref (q12), .ref (q14), .int (iI 0), .int (iI 0), .ref (q16), .int (iI 25), .ref (q18), .ref (q20), .ref (q22), .ref (q24), .int (iI 0), .ref (q26), .int (iI 0), .int (iI 0), .int (iI 0), .ref (q28), .ref (q30), .ref (q32), .ref (q34), .int (iI 0), .int (iI 0), .ref (q36), .ref (q38), .int (iI 0), .ref (q40), .null, .null, .null, .null, .null, .null, .int (iI 0)])), (q1, .inl (c1, 200, .inl zF)), (q2, .inl (c1, 17, .inl (lF lX8_1))), (q4, .inl (c1, 69, .inl (lF lX8_2))), (q6, .inl (c1, 28, .inl (lF lX8_3))), (q8, .inl (c1, 13, .inl (lF lX8_4))), (q10, .inl (c1, 13, .inl (lF lX8_5))), (q12, .inl (c1, 28, .inl (lF lX8_6))), (q14, .inl (c1, 28, .inl zF)), (q16, .inl (c1, 384, .inl zF)), (q18, .inl (c1, 16, .inl zF)), (q20, .inl (c1, 16, .inl zF)), (q22, .inl (c1, 16, .inl zF)), (q24, .inl (c1, 16, .inl zF)), (q26, .inl (c1, 16, .inl zF)), (q28, .inl (c1, 156, .inl zF)), (q30, .inl (c1, 16, .inl zF)), (q32, .inl (c1, 26, .inl zF)), (q34, .inl (c1, 6656, .inl zF)), (q36, .inl (c1, 793, .inl zF)), (q38, .inl (c1, 793, .inl zF)), (q40, .inl (c1, 12, .inl zF))] H := hP
  have hD : va_D A [(h0, .inr (8, [.ref (q1), .int (iI 0), .int (iI 0), .int (iI 0), .int (iI 0), .int (iI 0), .int (iI 0), .int (iI 0), .int (iI 0), .ref (q2), .ref (q4), .ref (q6), .ref (q8), .ref (q10), .ref (q12), .ref (q14), .int (iI 0), .int (iI 0), .ref (q16), .int (iI 25), .ref (q18), .ref (q20), .ref (q22), .ref (q24), .int (iI 0), .ref (q26), .int (iI 0), .int (iI 0), .int (iI 0), .ref (q28), .ref (q30), .ref (q32), .ref (q34), .int (iI 0), .int (iI 0), .ref (q36), .ref (q38), .int (iI 0), .ref (q40), .null, .null, .null, .null, .null, .null, .int (iI 0)])), (q1, .inl (c1, 200, .inl zF)), (q2, .inl (c1, 17, .inl (lF lX8_1))), (q4, .inl (c1, 69, .inl (lF lX8_2))), (q6, .inl (c1, 28, .inl (lF lX8_3))), (q8, .inl (c1, 13, .inl (lF lX8_4))), (q10, .inl (c1, 13, .inl (lF lX8_5))), (q12, .inl (c1, 28, .inl (lF lX8_6))), (q14, .inl (c1, 28, .inl zF)), (q16, .inl (c1, 384, .inl zF)), (q18, .inl (c1, 16, .inl zF)), (q20, .inl (c1, 16, .inl zF)), (q22, .inl (c1, 16, .inl zF)), (q24, .inl (c1, 16, .inl zF)), (q26, .inl (c1, 16, .inl zF)), (q28, .inl (c1, 156, .inl zF)), (q30, .inl (c1, 16, .inl zF)), (q32, .inl (c1, 26, .inl zF)), (q34, .inl (c1, 6656, .inl zF)), (q36, .inl (c1, 793, .inl zF)), (q38, .inl (c1, 793, .inl zF)), (q40, .inl (c1, 12, .inl zF))] := hD
  refine lv_aload_n hx hb dX8_init_1089 rfl (lv_at hl 0 rfl) ?_
  refine lv_bipush hx hb dX8_init_1090 (rfl : _ = iI (12)) ?_
  refine va_newa (atype := .int) hx hb (hts (Cond.arrayClass .int) kw_113) rfl hK hP hD hS hA (a0 := (12, .inl zF)) (zA_i 12) (by decide +kernel) (N' := 12) (by decide +kernel) (Nat.le_of_ble_eq_true rfl) (Nat.le_of_ble_eq_true rfl) (Nat.le_of_ble_eq_true rfl) dX8_init_1092 (fun q42 c42 H hK hP hD hS => ?_)
  have e43 : c1 = c42 := (ka_i hK (i := 0) (j := 1) rfl rfl).symm
  subst e43
  have hK := hK.sub (tys' := [(c1, .int)]) [0] rfl
  have hP : va_P D vwCl [(h0, .inr (8, [.ref (q1), .int (iI 0), .int (iI 0), .int (iI 0), .int (iI 0), .int (iI 0), .int (iI 0), .int (iI 0), .int (iI 0), .ref (q2), .ref (q4), .ref (q6), .ref (q8), .ref (q10), .ref (q12), .ref (q14), .int (iI 0), .int (iI 0), .ref (q16), .int (iI 25), .ref (q18), .ref (q20), .ref (q22), .ref (q24), .int (iI 0), .ref (q26), .int (iI 0), .int (iI 0), .int (iI 0), .ref (q28), .ref (q30), .ref (q32), .ref (q34), .int (iI 0), .int (iI 0), .ref (q36), .ref (q38), .int (iI 0), .ref (q40), .null, .null, .null, .null, .null, .null, .int (iI 0)])), (q1, .inl (c1, 200, .inl zF)), (q2, .inl (c1, 17, .inl (lF lX8_1))), (q4, .inl (c1, 69, .inl (lF lX8_2))), (q6, .inl (c1, 28, .inl (lF lX8_3))), (q8, .inl (c1, 13, .inl (lF lX8_4))), (q10, .inl (c1, 13, .inl (lF lX8_5))), (q12, .inl (c1, 28, .inl (lF lX8_6))), (q14, .inl (c1, 28, .inl zF)), (q16, .inl (c1, 384, .inl zF)), (q18, .inl (c1, 16, .inl zF)), (q20, .inl (c1, 16, .inl zF)), (q22, .inl (c1, 16, .inl zF)), (q24, .inl (c1, 16, .inl zF)), (q26, .inl (c1, 16, .inl zF)), (q28, .inl (c1, 156, .inl zF)), (q30, .inl (c1, 16, .inl zF)), (q32, .inl (c1, 26, .inl zF)), (q34, .inl (c1, 6656, .inl zF)), (q36, .inl (c1, 793, .inl zF)), (q38, .inl (c1, 793, .inl zF)), (q40, .inl (c1, 12, .inl zF)), (q42, .inl (c1, 12, .inl zF))] H := hP
  have hD : va_D A [(h0, .inr (8, [.ref (q1), .int (iI 0), .int (iI 0), .int (iI 0), .int (iI 0), .int (iI 0), .int (iI 0), .int (iI 0), .int (iI 0), .ref (q2), .ref (q4), .ref (q6), .ref (q8), .ref (q10), .ref (q12), .ref (q14), .int (iI 0), .int (iI 0), .ref (q16), .int (iI 25), .ref (q18), .ref (q20), .ref (q22), .ref (q24), .int (iI 0), .ref (q26), .int (iI 0), .int (iI 0), .int (iI 0), .ref (q28), .ref (q30), .ref (q32), .ref (q34), .int (iI 0), .int (iI 0), .ref (q36), .ref (q38), .int (iI 0), .ref (q40), .null, .null, .null, .null, .null, .null, .int (iI 0)])), (q1, .inl (c1, 200, .inl zF)), (q2, .inl (c1, 17, .inl (lF lX8_1))), (q4, .inl (c1, 69, .inl (lF lX8_2))), (q6, .inl (c1, 28, .inl (lF lX8_3))), (q8, .inl (c1, 13, .inl (lF lX8_4))), (q10, .inl (c1, 13, .inl (lF lX8_5))), (q12, .inl (c1, 28, .inl (lF lX8_6))), (q14, .inl (c1, 28, .inl zF)), (q16, .inl (c1, 384, .inl zF)), (q18, .inl (c1, 16, .inl zF)), (q20, .inl (c1, 16, .inl zF)), (q22, .inl (c1, 16, .inl zF)), (q24, .inl (c1, 16, .inl zF)), (q26, .inl (c1, 16, .inl zF)), (q28, .inl (c1, 156, .inl zF)), (q30, .inl (c1, 16, .inl zF)), (q32, .inl (c1, 26, .inl zF)), (q34, .inl (c1, 6656, .inl zF)), (q36, .inl (c1, 793, .inl zF)), (q38, .inl (c1, 793, .inl zF)), (q40, .inl (c1, 12, .inl zF)), (q42, .inl (c1, 12, .inl zF))] := hD
  refine va_putF (D := D) (ci := 8) (v := .ref (q42)) (ty := tyX8 39) (C := RX8) (T := TX8) (N := 46) hx hb hts inGX8 tyX8 tyX8_ok nmX8 hown hK hP hD hS 0 rfl rfl 39 (by decide) (hts _ kw_844) (fun _ h9 => h9) rfl hin rfl (tyX8_ok 39 (by decide)) rfl rfl (Nat.le_of_ble_eq_true rfl) dX8_init_1094 (fun H locs hP hD hS => ?_)
  have hP : va_P D vwCl [(h0, .inr (8, [.ref (q1), .int (iI 0), .int (iI 0), .int (iI 0), .int (iI 0), .int (iI 0), .int (iI 0), .int (iI 0), .int (iI 0), .ref (q2), .ref (q4), .ref (q6), .ref (q8), .ref (q10), .ref (q12), .ref (q14), .int (iI 0), .int (iI 0), .ref (q16), .int (iI 25), .ref (q18), .ref (q20), .ref (q22), .ref (q24), .int (iI 0), .ref (q26), .int (iI 0), .int (iI 0), .int (iI 0), .ref (q28), .ref (q30), .ref (q32), .ref (q34), .int (iI 0), .int (iI 0), .ref (q36), .ref (q38), .int (iI 0), .ref (q40), .ref (q42), .null, .null, .null, .null, .null, .int (iI 0)])), (q1, .inl (c1, 200, .inl zF)), (q2, .inl (c1, 17, .inl (lF lX8_1))), (q4, .inl (c1, 69, .inl (lF lX8_2))), (q6, .inl (c1, 28, .inl (lF lX8_3))), (q8, .inl (c1, 13, .inl (lF lX8_4))), (q10, .inl (c1, 13, .inl (lF lX8_5))), (q12, .inl (c1, 28, .inl (lF lX8_6))), (q14, .inl (c1, 28, .inl zF)), (q16, .inl (c1, 384, .inl zF)), (q18, .inl (c1, 16, .inl zF)), (q20, .inl (c1, 16, .inl zF)), (q22, .inl (c1, 16, .inl zF)), (q24, .inl (c1, 16, .inl zF)), (q26, .inl (c1, 16, .inl zF)), (q28, .inl (c1, 156, .inl zF)), (q30, .inl (c1, 16, .inl zF)), (q32, .inl (c1, 26, .inl zF)), (q34, .inl (c1, 6656, .inl zF)), (q36, .inl (c1, 793, .inl zF)), (q38, .inl (c1, 793, .inl zF)), (q40, .inl (c1, 12, .inl zF)), (q42, .inl (c1, 12, .inl zF))] H := hP
  have hD : va_D A [(h0, .inr (8, [.ref (q1), .int (iI 0), .int (iI 0), .int (iI 0), .int (iI 0), .int (iI 0), .int (iI 0), .int (iI 0), .int (iI 0), .ref (q2), .ref (q4), .ref (q6), .ref (q8), .ref (q10), .ref (q12), .ref (q14), .int (iI 0), .int (iI 0), .ref (q16), .int (iI 25), .ref (q18), .ref (q20), .ref (q22), .ref (q24), .int (iI 0), .ref (q26), .int (iI 0), .int (iI 0), .int (iI 0), .ref (q28), .ref (q30), .ref (q32), .ref (q34), .int (iI 0), .int (iI 0), .ref (q36), .ref (q38), .int (iI 0), .ref (q40), .ref (q42), .null, .null, .null, .null, .null, .int (iI 0)])), (q1, .inl (c1, 200, .inl zF)), (q2, .inl (c1, 17, .inl (lF lX8_1))), (q4, .inl (c1, 69, .inl (lF lX8_2))), (q6, .inl (c1, 28, .inl (lF lX8_3))), (q8, .inl (c1, 13, .inl (lF lX8_4))), (q10, .inl (c1, 13, .inl (lF lX8_5))), (q12, .inl (c1, 28, .inl (lF lX8_6))), (q14, .inl (c1, 28, .inl zF)), (q16, .inl (c1, 384, .inl zF)), (q18, .inl (c1, 16, .inl zF)), (q20, .inl (c1, 16, .inl zF)), (q22, .inl (c1, 16, .inl zF)), (q24, .inl (c1, 16, .inl zF)), (q26, .inl (c1, 16, .inl zF)), (q28, .inl (c1, 156, .inl zF)), (q30, .inl (c1, 16, .inl zF)), (q32, .inl (c1, 26, .inl zF)), (q34, .inl (c1, 6656, .inl zF)), (q36, .inl (c1, 793, .inl zF)), (q38, .inl (c1, 793, .inl zF)), (q40, .inl (c1, 12, .inl zF)), (q42, .inl (c1, 12, .inl zF))] := hD
  refine lv_aload_n hx hb dX8_init_1097 rfl (lv_at hl 0 rfl) ?_
  refine lv_bipush hx hb dX8_init_1098 (rfl : _ = iI (12)) ?_
  refine va_newa (atype := .int) hx hb (hts (Cond.arrayClass .int) kw_113) rfl hK hP hD hS hA (a0 := (12, .inl zF)) (zA_i 12) (by decide +kernel) (N' := 12) (by decide +kernel) (Nat.le_of_ble_eq_true rfl) (Nat.le_of_ble_eq_true rfl) (Nat.le_of_ble_eq_true rfl) dX8_init_1100 (fun q44 c44 H hK hP hD hS => ?_)
  have e45 : c1 = c44 := (ka_i hK (i := 0) (j := 1) rfl rfl).symm
  subst e45
  have hK := hK.sub (tys' := [(c1, .int)]) [0] rfl
  have hP : va_P D vwCl [(h0, .inr (8, [.ref (q1), .int (iI 0), .int (iI 0), .int (iI 0), .int (iI 0), .int (iI 0), .int (iI 0), .int (iI 0), .int (iI 0), .ref (q2), .ref (q4), .ref (q6), .ref (q8), .ref (q10), .ref (q12), .ref (q14), .int (iI 0), .int (iI 0), .ref (q16), .int (iI 25), .ref (q18), .ref (q20), .ref (q22), .ref (q24), .int (iI 0), .ref (q26), .int (iI 0), .int (iI 0), .int (iI 0), .ref (q28), .ref (q30), .ref (q32), .ref (q34), .int (iI 0), .int (iI 0), .ref (q36), .ref (q38), .int (iI 0), .ref (q40), .ref (q42), .null, .null, .null, .null, .null, .int (iI 0)])), (q1, .inl (c1, 200, .inl zF)), (q2, .inl (c1, 17, .inl (lF lX8_1))), (q4, .inl (c1, 69, .inl (lF lX8_2))), (q6, .inl (c1, 28, .inl (lF lX8_3))), (q8, .inl (c1, 13, .inl (lF lX8_4))), (q10, .inl (c1, 13, .inl (lF lX8_5))), (q12, .inl (c1, 28, .inl (lF lX8_6))), (q14, .inl (c1, 28, .inl zF)), (q16, .inl (c1, 384, .inl zF)), (q18, .inl (c1, 16, .inl zF)), (q20, .inl (c1, 16, .inl zF)), (q22, .inl (c1, 16, .inl zF)), (q24, .inl (c1, 16, .inl zF)), (q26, .inl (c1, 16, .inl zF)), (q28, .inl (c1, 156, .inl zF)), (q30, .inl (c1, 16, .inl zF)), (q32, .inl (c1, 26, .inl zF)), (q34, .inl (c1, 6656, .inl zF)), (q36, .inl (c1, 793, .inl zF)), (q38, .inl (c1, 793, .inl zF)), (q40, .inl (c1, 12, .inl zF)), (q42, .inl (c1, 12, .inl zF)), (q44, .inl (c1, 12, .inl zF))] H := hP
  have hD : va_D A [(h0, .inr (8, [.ref (q1), .int (iI 0), .int (iI 0), .int (iI 0), .int (iI 0), .int (iI 0), .int (iI 0), .int (iI 0), .int (iI 0), .ref (q2), .ref (q4), .ref (q6), .ref (q8), .ref (q10), .ref (q12), .ref (q14), .int (iI 0), .int (iI 0), .ref (q16), .int (iI 25), .ref (q18), .ref (q20), .ref (q22), .ref (q24), .int (iI 0), .ref (q26), .int (iI 0), .int (iI 0), .int (iI 0), .ref (q28), .ref (q30), .ref (q32), .ref (q34), .int (iI 0), .int (iI 0), .ref (q36), .ref (q38), .int (iI 0), .ref (q40), .ref (q42), .null, .null, .null, .null, .null, .int (iI 0)])), (q1, .inl (c1, 200, .inl zF)), (q2, .inl (c1, 17, .inl (lF lX8_1))), (q4, .inl (c1, 69, .inl (lF lX8_2))), (q6, .inl (c1, 28, .inl (lF lX8_3))), (q8, .inl (c1, 13, .inl (lF lX8_4))), (q10, .inl (c1, 13, .inl (lF lX8_5))), (q12, .inl (c1, 28, .inl (lF lX8_6))), (q14, .inl (c1, 28, .inl zF)), (q16, .inl (c1, 384, .inl zF)), (q18, .inl (c1, 16, .inl zF)), (q20, .inl (c1, 16, .inl zF)), (q22, .inl (c1, 16, .inl zF)), (q24, .inl (c1, 16, .inl zF)), (q26, .inl (c1, 16, .inl zF)), (q28, .inl (c1, 156, .inl zF)), (q30, .inl (c1, 16, .inl zF)), (q32, .inl (c1, 26, .inl zF)), (q34, .inl (c1, 6656, .inl zF)), (q36, .inl (c1, 793, .inl zF)), (q38, .inl (c1, 793, .inl zF)), (q40, .inl (c1, 12, .inl zF)), (q42, .inl (c1, 12, .inl zF)), (q44, .inl (c1, 12, .inl zF))] := hD
  refine va_putF (D := D) (ci := 8) (v := .ref (q44)) (ty := tyX8 40) (C := RX8) (T := TX8) (N := 46) hx hb hts inGX8 tyX8 tyX8_ok nmX8 hown hK hP hD hS 0 rfl rfl 40 (by decide) (hts _ kw_845) (fun _ h9 => h9) rfl hin rfl (tyX8_ok 40 (by decide)) rfl rfl (Nat.le_of_ble_eq_true rfl) dX8_init_1102 (fun H locs hP hD hS => ?_)
  have hP : va_P D vwCl [(h0, .inr (8, [.ref (q1), .int (iI 0), .int (iI 0), .int (iI 0), .int (iI 0), .int (iI 0), .int (iI 0), .int (iI 0), .int (iI 0), .ref (q2), .ref (q4), .ref (q6), .ref (q8), .ref (q10), .ref (q12), .ref (q14), .int (iI 0), .int (iI 0), .ref (q16), .int (iI 25), .ref (q18), .ref (q20), .ref (q22), .ref (q24), .int (iI 0), .ref (q26), .int (iI 0), .int (iI 0), .int (iI 0), .ref (q28), .ref (q30), .ref (q32), .ref (q34), .int (iI 0), .int (iI 0), .ref (q36), .ref (q38), .int (iI 0), .ref (q40), .ref (q42), .ref (q44), .null, .null, .null, .null, .int (iI 0)])), (q1, .inl (c1, 200, .inl zF)), (q2, .inl (c1, 17, .inl (lF lX8_1))), (q4, .inl (c1, 69, .inl (lF lX8_2))), (q6, .inl (c1, 28, .inl (lF lX8_3))), (q8, .inl (c1, 13, .inl (lF lX8_4))), (q10, .inl (c1, 13, .inl (lF lX8_5))), (q12, .inl (c1, 28, .inl (lF lX8_6))), (q14, .inl (c1, 28, .inl zF)), (q16, .inl (c1, 384, .inl zF)), (q18, .inl (c1, 16, .inl zF)), (q20, .inl (c1, 16, .inl zF)), (q22, .inl (c1, 16, .inl zF)), (q24, .inl (c1, 16, .inl zF)), (q26, .inl (c1, 16, .inl zF)), (q28, .inl (c1, 156, .inl zF)), (q30, .inl (c1, 16, .inl zF)), (q32, .inl (c1, 26, .inl zF)), (q34, .inl (c1, 6656, .inl zF)), (q36, .inl (c1, 793, .inl zF)), (q38, .inl (c1, 793, .inl zF)), (q40, .inl (c1, 12, .inl zF)), (q42, .inl (c1, 12, .inl zF)), (q44, .inl (c1, 12, .inl zF))] H := hP
  have hD : va_D A [(h0, .inr (8, [.ref (q1), .int (iI 0), .int (iI 0), .int (iI 0), .int (iI 0), .int (iI 0), .int (iI 0), .int (iI 0), .int (iI 0), .ref (q2), .ref (q4), .ref (q6), .ref (q8), .ref (q10), .ref (q12), .ref (q14), .int (iI 0), .int (iI 0), .ref (q16), .int (iI 25), .ref (q18), .ref (q20), .ref (q22), .ref (q24), .int (iI 0), .ref (q26), .int (iI 0), .int (iI 0), .int (iI 0), .ref (q28), .ref (q30), .ref (q32), .ref (q34), .int (iI 0), .int (iI 0), .ref (q36), .ref (q38), .int (iI 0), .ref (q40), .ref (q42), .ref (q44), .null, .null, .null, .null, .int (iI 0)])), (q1, .inl (c1, 200, .inl zF)), (q2, .inl (c1, 17, .inl (lF lX8_1))), (q4, .inl (c1, 69, .inl (lF lX8_2))), (q6, .inl (c1, 28, .inl (lF lX8_3))), (q8, .inl (c1, 13, .inl (lF lX8_4))), (q10, .inl (c1, 13, .inl (lF lX8_5))), (q12, .inl (c1, 28, .inl (lF lX8_6))), (q14, .inl (c1, 28, .inl zF)), (q16, .inl (c1, 384, .inl zF)), (q18, .inl (c1, 16, .inl zF)), (q20, .inl (c1, 16, .inl zF)), (q22, .inl (c1, 16, .inl zF)), (q24, .inl (c1, 16, .inl zF)), (q26, .inl (c1, 16, .inl zF)), (q28, .inl (c1, 156, .inl zF)), (q30, .inl (c1, 16, .inl zF)), (q32, .inl (c1, 26, .inl zF)), (q34, .inl (c1, 6656, .inl zF)), (q36, .inl (c1, 793, .inl zF)), (q38, .inl (c1, 793, .inl zF)), (q40, .inl (c1, 12, .inl zF)), (q42, .inl (c1, 12, .inl zF)), (q44, .inl (c1, 12, .inl zF))] := hD
  refine lv_aload_n hx hb dX8_init_1105 rfl (lv_at hl 0 rfl) ?_
  refine lv_bipush hx hb dX8_init_1106 (rfl : _ = iI (12)) ?_
  refine va_newa (atype := .boolean) hx hb (hts (Cond.arrayClass .boolean) kw_263) rfl hK hP hD hS hA (a0 := (12, .inl zF)) (zA_z 12) (by decide +kernel) (N' := 12) (by decide +kernel) (Nat.le_of_ble_eq_true rfl) (Nat.le_of_ble_eq_true rfl) (Nat.le_of_ble_eq_true rfl) dX8_init_1108 (fun q46 c46 H hK hP hD hS => ?_)
  have hK : va_K D vwCl [(c1, .int), (c46, .boolean)] s := hK
  have hP : va_P D vwCl [(h0, .inr (8, [.ref (q1), .int (iI 0), .int (iI 0), .int (iI 0), .int (iI 0), .int (iI 0), .int (iI 0), .int (iI 0), .int (iI 0), .ref (q2), .ref (q4), .ref (q6), .ref (q8), .ref (q10), .ref (q12), .ref (q14), .int (iI 0), .int (iI 0), .ref (q16), .int (iI 25), .ref (q18), .ref (q20), .ref (q22), .ref (q24), .int (iI 0), .ref (q26), .int (iI 0), .int (iI 0), .int (iI 0), .ref (q28), .ref (q30), .ref (q32), .ref (q34), .int (iI 0), .int (iI 0), .ref (q36), .ref (q38), .int (iI 0), .ref (q40), .ref (q42), .ref (q44), .null, .null, .null, .null, .int (iI 0)])), (q1, .inl (c1, 200, .inl zF)), (q2, .inl (c1, 17, .inl (lF lX8_1))), (q4, .inl (c1, 69, .inl (lF lX8_2))), (q6, .inl (c1, 28, .inl (lF lX8_3))), (q8, .inl (c1, 13, .inl (lF lX8_4))), (q10, .inl (c1, 13, .inl (lF lX8_5))), (q12, .inl (c1, 28, .inl (lF lX8_6))), (q14, .inl (c1, 28, .inl zF)), (q16, .inl (c1, 384, .inl zF)), (q18, .inl (c1, 16, .inl zF)), (q20, .inl (c1, 16, .inl zF)), (q22, .inl (c1, 16, .inl zF)), (q24, .inl (c1, 16, .inl zF)), (q26, .inl (c1, 16, .inl zF)), (q28, .inl (c1, 156, .inl zF)), (q30, .inl (c1, 16, .inl zF)), (q32, .inl (c1, 26, .inl zF)), (q34, .inl (c1, 6656, .inl zF)), (q36, .inl (c1, 793, .inl zF)), (q38, .inl (c1, 793, .inl zF)), (q40, .inl (c1, 12, .inl zF)), (q42, .inl (c1, 12, .inl zF)), (q44, .inl (c1, 12, .inl zF)), (q46, .inl (c46, 12, .inl zF))] H := hP
  have hD : va_D A [(h0, .inr (8, [.ref (q1), .int (iI 0), .int (iI 0), .int (iI 0), .int (iI 0), .int (iI 0), .int (iI 0), .int (iI 0), .int (iI 0), .ref (q2), .ref (q4), .ref (q6), .ref (q8), .ref (q10), .ref (q12), .ref (q14), .int (iI 0), .int (iI 0), .ref (q16), .int (iI 25), .ref (q18), .ref (q20), .ref (q22), .ref (q24), .int (iI 0), .ref (q26), .int (iI 0), .int (iI 0), .int (iI 0), .ref (q28), .ref (q30), .ref (q32), .ref (q34), .int (iI 0), .int (iI 0), .ref (q36), .ref (q38), .int (iI 0), .ref (q40), .ref (q42), .ref (q44), .null, .null, .null, .null, .int (iI 0)])), (q1, .inl (c1, 200, .inl zF)), (q2, .inl (c1, 17, .inl (lF lX8_1))), (q4, .inl (c1, 69, .inl (lF lX8_2))), (q6, .inl (c1, 28, .inl (lF lX8_3))), (q8, .inl (c1, 13, .inl (lF lX8_4))), (q10, .inl (c1, 13, .inl (lF lX8_5))), (q12, .inl (c1, 28, .inl (lF lX8_6))), (q14, .inl (c1, 28, .inl zF)), (q16, .inl (c1, 384, .inl zF)), (q18, .inl (c1, 16, .inl zF)), (q20, .inl (c1, 16, .inl zF)), (q22, .inl (c1, 16, .inl zF)), (q24, .inl (c1, 16, .inl zF)), (q26, .inl (c1, 16, .inl zF)), (q28, .inl (c1, 156, .inl zF)), (q30, .inl (c1, 16, .inl zF)), (q32, .inl (c1, 26, .inl zF)), (q34, .inl (c1, 6656, .inl zF)), (q36, .inl (c1, 793, .inl zF)), (q38, .inl (c1, 793, .inl zF)), (q40, .inl (c1, 12, .inl zF)), (q42, .inl (c1, 12, .inl zF)), (q44, .inl (c1, 12, .inl zF)), (q46, .inl (c46, 12, .inl zF))] := hD
  refine va_putF (D := D) (ci := 8) (v := .ref (q46)) (ty := tyX8 41) (C := RX8) (T := TX8) (N := 46) hx hb hts inGX8 tyX8 tyX8_ok nmX8 hown hK hP hD hS 0 rfl rfl 41 (by decide) (hts _ kw_846) (fun _ h9 => h9) rfl hin rfl (tyX8_ok 41 (by decide)) rfl rfl (Nat.le_of_ble_eq_true rfl) dX8_init_1110 (fun H locs hP hD hS => ?_)
  have hP : va_P D vwCl [(h0, .inr (8, [.ref (q1), .int (iI 0), .int (iI 0), .int (iI 0), .int (iI 0), .int (iI 0), .int (iI 0), .int (iI 0), .int (iI 0), .ref (q2), .ref (q4), .ref (q6), .ref (q8), .ref (q10), .ref (q12), .ref (q14), .int (iI 0), .int (iI 0), .ref (q16), .int (iI 25), .ref (q18), .ref (q20), .ref (q22), .ref (q24), .int (iI 0), .ref (q26), .int (iI 0), .int (iI 0), .int (iI 0), .ref (q28), .ref (q30), .ref (q32), .ref (q34), .int (iI 0), .int (iI 0), .ref (q36), .ref (q38), .int (iI 0), .ref (q40), .ref (q42), .ref (q44), .ref (q46), .null, .null, .null, .int (iI 0)])), (q1, .inl (c1, 200, .inl zF)), (q2, .inl (c1, 17, .inl (lF lX8_1))), (q4, .inl (c1, 69, .inl (lF lX8_2))), (q6, .inl (c1, 28, .inl (lF lX8_3))), (q8, .inl (c1, 13, .inl (lF lX8_4))), (q10, .inl (c1, 13, .inl (lF lX8_5))), (q12, .inl (c1, 28, .inl (lF lX8_6))), (q14, .inl (c1, 28, .inl zF)), (q16, .inl (c1, 384, .inl zF)), (q18, .inl (c1, 16, .inl zF)), (q20, .inl (c1, 16, .inl zF)), (q22, .inl (c1, 16, .inl zF)), (q24, .inl (c1, 16, .inl zF)), (q26, .inl (c1, 16, .inl zF)), (q28, .inl (c1, 156, .inl zF)), (q30, .inl (c1, 16, .inl zF)), (q32, .inl (c1, 26, .inl zF)), (q34, .inl (c1, 6656, .inl zF)), (q36, .inl (c1, 793, .inl zF)), (q38, .inl (c1, 793, .inl zF)), (q40, .inl (c1, 12, .inl zF)), (q42, .inl (c1, 12, .inl zF)), (q44, .inl (c1, 12, .inl zF)), (q46, .inl (c46, 12, .inl zF))] H := hP
  have hD : va_D A [(h0, .inr (8, [.ref (q1), .int (iI 0), .int (iI 0), .int (iI 0), .int (iI 0), .int (iI 0), .int (iI 0), .int (iI 0), .int (iI 0), .ref (q2), .ref (q4), .ref (q6), .ref (q8), .ref (q10), .ref (q12), .ref (q14), .int (iI 0), .int (iI 0), .ref (q16), .int (iI 25), .ref (q18), .ref (q20), .ref (q22), .ref (q24), .int (iI 0), .ref (q26), .int (iI 0), .int (iI 0), .int (iI 0), .ref (q28), .ref (q30), .ref (q32), .ref (q34), .int (iI 0), .int (iI 0), .ref (q36), .ref (q38), .int (iI 0), .ref (q40), .ref (q42), .ref (q44), .ref (q46), .null, .null, .null, .int (iI 0)])), (q1, .inl (c1, 200, .inl zF)), (q2, .inl (c1, 17, .inl (lF lX8_1))), (q4, .inl (c1, 69, .inl (lF lX8_2))), (q6, .inl (c1, 28, .inl (lF lX8_3))), (q8, .inl (c1, 13, .inl (lF lX8_4))), (q10, .inl (c1, 13, .inl (lF lX8_5))), (q12, .inl (c1, 28, .inl (lF lX8_6))), (q14, .inl (c1, 28, .inl zF)), (q16, .inl (c1, 384, .inl zF)), (q18, .inl (c1, 16, .inl zF)), (q20, .inl (c1, 16, .inl zF)), (q22, .inl (c1, 16, .inl zF)), (q24, .inl (c1, 16, .inl zF)), (q26, .inl (c1, 16, .inl zF)), (q28, .inl (c1, 156, .inl zF)), (q30, .inl (c1, 16, .inl zF)), (q32, .inl (c1, 26, .inl zF)), (q34, .inl (c1, 6656, .inl zF)), (q36, .inl (c1, 793, .inl zF)), (q38, .inl (c1, 793, .inl zF)), (q40, .inl (c1, 12, .inl zF)), (q42, .inl (c1, 12, .inl zF)), (q44, .inl (c1, 12, .inl zF)), (q46, .inl (c46, 12, .inl zF))] := hD
  refine lv_aload_n hx hb dX8_init_1113 rfl (lv_at hl 0 rfl) ?_
  refine lv_iconst hx hb dX8_init_1114 (rfl : _ = iI (4)) ?_
  refine va_newa (atype := .int) hx hb (hts (Cond.arrayClass .int) kw_113) rfl hK hP hD hS hA (a0 := (4, .inl zF)) (zA_i 4) (by decide +kernel) (N' := 4) (by decide +kernel) (Nat.le_of_ble_eq_true rfl) (Nat.le_of_ble_eq_true rfl) (Nat.le_of_ble_eq_true rfl) dX8_init_1115 (fun q47 c47 H hK hP hD hS => ?_)
  have e48 : c1 = c47 := (ka_i hK (i := 0) (j := 2) rfl rfl).symm
  subst e48
  have hK := hK.sub (tys' := [(c1, .int), (c46, .boolean)]) [0, 1] rfl
  have hP : va_P D vwCl [(h0, .inr (8, [.ref (q1), .int (iI 0), .int (iI 0), .int (iI 0), .int (iI 0), .int (iI 0), .int (iI 0), .int (iI 0), .int (iI 0), .ref (q2), .ref (q4), .ref (q6), .ref (q8), .ref (q10), .ref (q12), .ref (q14), .int (iI 0), .int (iI 0), .ref (q16), .int (iI 25), .ref (q18), .ref (q20), .ref (q22), .ref (q24), .int (iI 0), .ref (q26), .int (iI 0), .int (iI 0), .int (iI 0), .ref (q28), .ref (q30), .ref (q32), .ref (q34), .int (iI 0), .int (iI 0), .ref (q36), .ref (q38), .int (iI 0), .ref (q40), .ref (q42), .ref (q44), .ref (q46), .null, .null, .null, .int (iI 0)])), (q1, .inl (c1, 200, .inl zF)), (q2, .inl (c1, 17, .inl (lF lX8_1))), (q4, .inl (c1, 69, .inl (lF lX8_2))), (q6, .inl (c1, 28, .inl (lF lX8_3))), (q8, .inl (c1, 13, .inl (lF lX8_4))), (q10, .inl (c1, 13, .inl (lF lX8_5))), (q12, .inl (c1, 28, .inl (lF lX8_6))), (q14, .inl (c1, 28, .inl zF)), (q16, .inl (c1, 384, .inl zF)), (q18, .inl (c1, 16, .inl zF)), (q20, .inl (c1, 16, .inl zF)), (q22, .inl (c1, 16, .inl zF)), (q24, .inl (c1, 16, .inl zF)), (q26, .inl (c1, 16, .inl zF)), (q28, .inl (c1, 156, .inl zF)), (q30, .inl (c1, 16, .inl zF)), (q32, .inl (c1, 26, .inl zF)), (q34, .inl (c1, 6656, .inl zF)), (q36, .inl (c1, 793, .inl zF)), (q38, .inl (c1, 793, .inl zF)), (q40, .inl (c1, 12, .inl zF)), (q42, .inl (c1, 12, .inl zF)), (q44, .inl (c1, 12, .inl zF)), (q46, .inl (c46, 12, .inl zF)), (q47, .inl (c1, 4, .inl zF))] H := hP
  have hD : va_D A [(h0, .inr (8, [.ref (q1), .int (iI 0), .int (iI 0), .int (iI 0), .int (iI 0), .int (iI 0), .int (iI 0), .int (iI 0), .int (iI 0), .ref (q2), .ref (q4), .ref (q6), .ref (q8), .ref (q10), .ref (q12), .ref (q14), .int (iI 0), .int (iI 0), .ref (q16), .int (iI 25), .ref (q18), .ref (q20), .ref (q22), .ref (q24), .int (iI 0), .ref (q26), .int (iI 0), .int (iI 0), .int (iI 0), .ref (q28), .ref (q30), .ref (q32), .ref (q34), .int (iI 0), .int (iI 0), .ref (q36), .ref (q38), .int (iI 0), .ref (q40), .ref (q42), .ref (q44), .ref (q46), .null, .null, .null, .int (iI 0)])), (q1, .inl (c1, 200, .inl zF)), (q2, .inl (c1, 17, .inl (lF lX8_1))), (q4, .inl (c1, 69, .inl (lF lX8_2))), (q6, .inl (c1, 28, .inl (lF lX8_3))), (q8, .inl (c1, 13, .inl (lF lX8_4))), (q10, .inl (c1, 13, .inl (lF lX8_5))), (q12, .inl (c1, 28, .inl (lF lX8_6))), (q14, .inl (c1, 28, .inl zF)), (q16, .inl (c1, 384, .inl zF)), (q18, .inl (c1, 16, .inl zF)), (q20, .inl (c1, 16, .inl zF)), (q22, .inl (c1, 16, .inl zF)), (q24, .inl (c1, 16, .inl zF)), (q26, .inl (c1, 16, .inl zF)), (q28, .inl (c1, 156, .inl zF)), (q30, .inl (c1, 16, .inl zF)), (q32, .inl (c1, 26, .inl zF)), (q34, .inl (c1, 6656, .inl zF)), (q36, .inl (c1, 793, .inl zF)), (q38, .inl (c1, 793, .inl zF)), (q40, .inl (c1, 12, .inl zF)), (q42, .inl (c1, 12, .inl zF)), (q44, .inl (c1, 12, .inl zF)), (q46, .inl (c46, 12, .inl zF)), (q47, .inl (c1, 4, .inl zF))] := hD
  refine lv_dup hx hb dX8_init_1117 rfl ?_
  refine lv_iconst hx hb dX8_init_1118 (rfl : _ = iI (0)) ?_
  refine lv_bipush hx hb dX8_init_1119 (rfl : _ = iI (-4)) ?_
  obtain ⟨w9, hw9⟩ : ∃ w9 : va_W, w9 = [(h0, .inr (8, [.ref (q1), .int (iI 0), .int (iI 0), .int (iI 0), .int (iI 0), .int (iI 0), .int (iI 0), .int (iI 0), .int (iI 0), .ref (q2), .ref (q4), .ref (q6), .ref (q8), .ref (q10), .ref (q12), .ref (q14), .int (iI 0), .int (iI 0), .ref (q16), .int (iI 25), .ref (q18), .ref (q20), .ref (q22), .ref (q24), .int (iI 0), .ref (q26), .int (iI 0), .int (iI 0), .int (iI 0), .ref (q28), .ref (q30), .ref (q32), .ref (q34), .int (iI 0), .int (iI 0), .ref (q36), .ref (q38), .int (iI 0), .ref (q40), .ref (q42), .ref (q44), .ref (q46), .null, .null, .null, .int (iI 0)])), (q1, .inl (c1, 200, .inl zF)), (q2, .inl (c1, 17, .inl (lF lX8_1))), (q4, .inl (c1, 69, .inl (lF lX8_2))), (q6, .inl (c1, 28, .inl (lF lX8_3))), (q8, .inl (c1, 13, .inl (lF lX8_4))), (q10, .inl (c1, 13, .inl (lF lX8_5))), (q12, .inl (c1, 28, .inl (lF lX8_6))), (q14, .inl (c1, 28, .inl zF)), (q16, .inl (c1, 384, .inl zF)), (q18, .inl (c1, 16, .inl zF)), (q20, .inl (c1, 16, .inl zF)), (q22, .inl (c1, 16, .inl zF)), (q24, .inl (c1, 16, .inl zF)), (q26, .inl (c1, 16, .inl zF)), (q28, .inl (c1, 156, .inl zF)), (q30, .inl (c1, 16, .inl zF)), (q32, .inl (c1, 26, .inl zF)), (q34, .inl (c1, 6656, .inl zF)), (q36, .inl (c1, 793, .inl zF)), (q38, .inl (c1, 793, .inl zF)), (q40, .inl (c1, 12, .inl zF)), (q42, .inl (c1, 12, .inl zF)), (q44, .inl (c1, 12, .inl zF)), (q46, .inl (c46, 12, .inl zF))] := ⟨_, rfl⟩
  have hP : va_P D vwCl (w9 ++ [(q47, .inl (c1, 4, .inl (lF (lX8_7.take 0))))]) H := by rw [hw9]; exact hP
  have hD : va_D A (w9 ++ [(q47, .inl (c1, 4, .inl (lF (lX8_7.take 0))))]) := by rw [hw9]; exact hD
  refine k_ini lX8_7 0 hx hb hK hP hD hS 0 rfl rfl rfl (by decide) (by decide) dX8_init_1121 (fun H locs hP hD hS => ?_)
  refine lv_dup hx hb dX8_init_1122 rfl ?_
  refine lv_iconst hx hb dX8_init_1123 (rfl : _ = iI (1)) ?_
  refine lv_bipush hx hb dX8_init_1124 (rfl : _ = iI (-4)) ?_
  refine k_ini lX8_7 1 hx hb hK hP hD hS 0 rfl rfl rfl (by decide) (by decide) dX8_init_1126 (fun H locs hP hD hS => ?_)
  refine lv_dup hx hb dX8_init_1127 rfl ?_
  refine lv_iconst hx hb dX8_init_1128 (rfl : _ = iI (2)) ?_
  refine lv_bipush hx hb dX8_init_1129 (rfl : _ = iI (-4)) ?_
  refine k_ini lX8_7 2 hx hb hK hP hD hS 0 rfl rfl rfl (by decide) (by decide) dX8_init_1131 (fun H locs hP hD hS => ?_)
  refine lv_dup hx hb dX8_init_1132 rfl ?_
  refine lv_iconst hx hb dX8_init_1133 (rfl : _ = iI (3)) ?_
  refine lv_bipush hx hb dX8_init_1134 (rfl : _ = iI (-4)) ?_
  refine k_ini lX8_7 3 hx hb hK hP hD hS 0 rfl rfl rfl (by decide) (by decide) dX8_init_1136 (fun H locs hP hD hS => ?_)
  subst hw9
  have hP : va_P D vwCl [(h0, .inr (8, [.ref (q1), .int (iI 0), .int (iI 0), .int (iI 0), .int (iI 0), .int (iI 0), .int (iI 0), .int (iI 0), .int (iI 0), .ref (q2), .ref (q4), .ref (q6), .ref (q8), .ref (q10), .ref (q12), .ref (q14), .int (iI 0), .int (iI 0), .ref (q16), .int (iI 25), .ref (q18), .ref (q20), .ref (q22), .ref (q24), .int (iI 0), .ref (q26), .int (iI 0), .int (iI 0), .int (iI 0), .ref (q28), .ref (q30), .ref (q32), .ref (q34), .int (iI 0), .int (iI 0), .ref (q36), .ref (q38), .int (iI 0), .ref (q40), .ref (q42), .ref (q44), .ref (q46), .null, .null, .null, .int (iI 0)])), (q1, .inl (c1, 200, .inl zF)), (q2, .inl (c1, 17, .inl (lF lX8_1))), (q4, .inl (c1, 69, .inl (lF lX8_2))), (q6, .inl (c1, 28, .inl (lF lX8_3))), (q8, .inl (c1, 13, .inl (lF lX8_4))), (q10, .inl (c1, 13, .inl (lF lX8_5))), (q12, .inl (c1, 28, .inl (lF lX8_6))), (q14, .inl (c1, 28, .inl zF)), (q16, .inl (c1, 384, .inl zF)), (q18, .inl (c1, 16, .inl zF)), (q20, .inl (c1, 16, .inl zF)), (q22, .inl (c1, 16, .inl zF)), (q24, .inl (c1, 16, .inl zF)), (q26, .inl (c1, 16, .inl zF)), (q28, .inl (c1, 156, .inl zF)), (q30, .inl (c1, 16, .inl zF)), (q32, .inl (c1, 26, .inl zF)), (q34, .inl (c1, 6656, .inl zF)), (q36, .inl (c1, 793, .inl zF)), (q38, .inl (c1, 793, .inl zF)), (q40, .inl (c1, 12, .inl zF)), (q42, .inl (c1, 12, .inl zF)), (q44, .inl (c1, 12, .inl zF)), (q46, .inl (c46, 12, .inl zF)), (q47, .inl (c1, 4, .inl (lF lX8_7)))] H := hP
  have hD : va_D A [(h0, .inr (8, [.ref (q1), .int (iI 0), .int (iI 0), .int (iI 0), .int (iI 0), .int (iI 0), .int (iI 0), .int (iI 0), .int (iI 0), .ref (q2), .ref (q4), .ref (q6), .ref (q8), .ref (q10), .ref (q12), .ref (q14), .int (iI 0), .int (iI 0), .ref (q16), .int (iI 25), .ref (q18), .ref (q20), .ref (q22), .ref (q24), .int (iI 0), .ref (q26), .int (iI 0), .int (iI 0), .int (iI 0), .ref (q28), .ref (q30), .ref (q32), .ref (q34), .int (iI 0), .int (iI 0), .ref (q36), .ref (q38), .int (iI 0), .ref (q40), .ref (q42), .ref (q44), .ref (q46), .null, .null, .null, .int (iI 0)])), (q1, .inl (c1, 200, .inl zF)), (q2, .inl (c1, 17, .inl (lF lX8_1))), (q4, .inl (c1, 69, .inl (lF lX8_2))), (q6, .inl (c1, 28, .inl (lF lX8_3))), (q8, .inl (c1, 13, .inl (lF lX8_4))), (q10, .inl (c1, 13, .inl (lF lX8_5))), (q12, .inl (c1, 28, .inl (lF lX8_6))), (q14, .inl (c1, 28, .inl zF)), (q16, .inl (c1, 384, .inl zF)), (q18, .inl (c1, 16, .inl zF)), (q20, .inl (c1, 16, .inl zF)), (q22, .inl (c1, 16, .inl zF)), (q24, .inl (c1, 16, .inl zF)), (q26, .inl (c1, 16, .inl zF)), (q28, .inl (c1, 156, .inl zF)), (q30, .inl (c1, 16, .inl zF)), (q32, .inl (c1, 26, .inl zF)), (q34, .inl (c1, 6656, .inl zF)), (q36, .inl (c1, 793, .inl zF)), (q38, .inl (c1, 793, .inl zF)), (q40, .inl (c1, 12, .inl zF)), (q42, .inl (c1, 12, .inl zF)), (q44, .inl (c1, 12, .inl zF)), (q46, .inl (c46, 12, .inl zF)), (q47, .inl (c1, 4, .inl (lF lX8_7)))] := hD
  refine va_putF (D := D) (ci := 8) (v := .ref (q47)) (ty := tyX8 42) (C := RX8) (T := TX8) (N := 46) hx hb hts inGX8 tyX8 tyX8_ok nmX8 hown hK hP hD hS 0 rfl rfl 42 (by decide) (hts _ kw_847) (fun _ h9 => h9) rfl hin rfl (tyX8_ok 42 (by decide)) rfl rfl (Nat.le_of_ble_eq_true rfl) dX8_init_1137 (fun H locs hP hD hS => ?_)
  have hP : va_P D vwCl [(h0, .inr (8, [.ref (q1), .int (iI 0), .int (iI 0), .int (iI 0), .int (iI 0), .int (iI 0), .int (iI 0), .int (iI 0), .int (iI 0), .ref (q2), .ref (q4), .ref (q6), .ref (q8), .ref (q10), .ref (q12), .ref (q14), .int (iI 0), .int (iI 0), .ref (q16), .int (iI 25), .ref (q18), .ref (q20), .ref (q22), .ref (q24), .int (iI 0), .ref (q26), .int (iI 0), .int (iI 0), .int (iI 0), .ref (q28), .ref (q30), .ref (q32), .ref (q34), .int (iI 0), .int (iI 0), .ref (q36), .ref (q38), .int (iI 0), .ref (q40), .ref (q42), .ref (q44), .ref (q46), .ref (q47), .null, .null, .int (iI 0)])), (q1, .inl (c1, 200, .inl zF)), (q2, .inl (c1, 17, .inl (lF lX8_1))), (q4, .inl (c1, 69, .inl (lF lX8_2))), (q6, .inl (c1, 28, .inl (lF lX8_3))), (q8, .inl (c1, 13, .inl (lF lX8_4))), (q10, .inl (c1, 13, .inl (lF lX8_5))), (q12, .inl (c1, 28, .inl (lF lX8_6))), (q14, .inl (c1, 28, .inl zF)), (q16, .inl (c1, 384, .inl zF)), (q18, .inl (c1, 16, .inl zF)), (q20, .inl (c1, 16, .inl zF)), (q22, .inl (c1, 16, .inl zF)), (q24, .inl (c1, 16, .inl zF)), (q26, .inl (c1, 16, .inl zF)), (q28, .inl (c1, 156, .inl zF)), (q30, .inl (c1, 16, .inl zF)), (q32, .inl (c1, 26, .inl zF)), (q34, .inl (c1, 6656, .inl zF)), (q36, .inl (c1, 793, .inl zF)), (q38, .inl (c1, 793, .inl zF)), (q40, .inl (c1, 12, .inl zF)), (q42, .inl (c1, 12, .inl zF)), (q44, .inl (c1, 12, .inl zF)), (q46, .inl (c46, 12, .inl zF)), (q47, .inl (c1, 4, .inl (lF lX8_7)))] H := hP
  have hD : va_D A [(h0, .inr (8, [.ref (q1), .int (iI 0), .int (iI 0), .int (iI 0), .int (iI 0), .int (iI 0), .int (iI 0), .int (iI 0), .int (iI 0), .ref (q2), .ref (q4), .ref (q6), .ref (q8), .ref (q10), .ref (q12), .ref (q14), .int (iI 0), .int (iI 0), .ref (q16), .int (iI 25), .ref (q18), .ref (q20), .ref (q22), .ref (q24), .int (iI 0), .ref (q26), .int (iI 0), .int (iI 0), .int (iI 0), .ref (q28), .ref (q30), .ref (q32), .ref (q34), .int (iI 0), .int (iI 0), .ref (q36), .ref (q38), .int (iI 0), .ref (q40), .ref (q42), .ref (q44), .ref (q46), .ref (q47), .null, .null, .int (iI 0)])), (q1, .inl (c1, 200, .inl zF)), (q2, .inl (c1, 17, .inl (lF lX8_1))), (q4, .inl (c1, 69, .inl (lF lX8_2))), (q6, .inl (c1, 28, .inl (lF lX8_3))), (q8, .inl (c1, 13, .inl (lF lX8_4))), (q10, .inl (c1, 13, .inl (lF lX8_5))), (q12, .inl (c1, 28, .inl (lF lX8_6))), (q14, .inl (c1, 28, .inl zF)), (q16, .inl (c1, 384, .inl zF)), (q18, .inl (c1, 16, .inl zF)), (q20, .inl (c1, 16, .inl zF)), (q22, .inl (c1, 16, .inl zF)), (q24, .inl (c1, 16, .inl zF)), (q26, .inl (c1, 16, .inl zF)), (q28, .inl (c1, 156, .inl zF)), (q30, .inl (c1, 16, .inl zF)), (q32, .inl (c1, 26, .inl zF)), (q34, .inl (c1, 6656, .inl zF)), (q36, .inl (c1, 793, .inl zF)), (q38, .inl (c1, 793, .inl zF)), (q40, .inl (c1, 12, .inl zF)), (q42, .inl (c1, 12, .inl zF)), (q44, .inl (c1, 12, .inl zF)), (q46, .inl (c46, 12, .inl zF)), (q47, .inl (c1, 4, .inl (lF lX8_7)))] := hD
  refine lv_aload_n hx hb dX8_init_1140 rfl (lv_at hl 0 rfl) ?_
  refine lv_iconst hx hb dX8_init_1141 (rfl : _ = iI (4)) ?_
  refine va_newa (atype := .int) hx hb (hts (Cond.arrayClass .int) kw_113) rfl hK hP hD hS hA (a0 := (4, .inl zF)) (zA_i 4) (by decide +kernel) (N' := 4) (by decide +kernel) (Nat.le_of_ble_eq_true rfl) (Nat.le_of_ble_eq_true rfl) (Nat.le_of_ble_eq_true rfl) dX8_init_1142 (fun q49 c49 H hK hP hD hS => ?_)
  have e50 : c1 = c49 := (ka_i hK (i := 0) (j := 2) rfl rfl).symm
  subst e50
  have hK := hK.sub (tys' := [(c1, .int), (c46, .boolean)]) [0, 1] rfl
  have hP : va_P D vwCl [(h0, .inr (8, [.ref (q1), .int (iI 0), .int (iI 0), .int (iI 0), .int (iI 0), .int (iI 0), .int (iI 0), .int (iI 0), .int (iI 0), .ref (q2), .ref (q4), .ref (q6), .ref (q8), .ref (q10), .ref (q12), .ref (q14), .int (iI 0), .int (iI 0), .ref (q16), .int (iI 25), .ref (q18), .ref (q20), .ref (q22), .ref (q24), .int (iI 0), .ref (q26), .int (iI 0), .int (iI 0), .int (iI 0), .ref (q28), .ref (q30), .ref (q32), .ref (q34), .int (iI 0), .int (iI 0), .ref (q36), .ref (q38), .int (iI 0), .ref (q40), .ref (q42), .ref (q44), .ref (q46), .ref (q47), .null, .null, .int (iI 0)])), (q1, .inl (c1, 200, .inl zF)), (q2, .inl (c1, 17, .inl (lF lX8_1))), (q4, .inl (c1, 69, .inl (lF lX8_2))), (q6, .inl (c1, 28, .inl (lF lX8_3))), (q8, .inl (c1, 13, .inl (lF lX8_4))), (q10, .inl (c1, 13, .inl (lF lX8_5))), (q12, .inl (c1, 28, .inl (lF lX8_6))), (q14, .inl (c1, 28, .inl zF)), (q16, .inl (c1, 384, .inl zF)), (q18, .inl (c1, 16, .inl zF)), (q20, .inl (c1, 16, .inl zF)), (q22, .inl (c1, 16, .inl zF)), (q24, .inl (c1, 16, .inl zF)), (q26, .inl (c1, 16, .inl zF)), (q28, .inl (c1, 156, .inl zF)), (q30, .inl (c1, 16, .inl zF)), (q32, .inl (c1, 26, .inl zF)), (q34, .inl (c1, 6656, .inl zF)), (q36, .inl (c1, 793, .inl zF)), (q38, .inl (c1, 793, .inl zF)), (q40, .inl (c1, 12, .inl zF)), (q42, .inl (c1, 12, .inl zF)), (q44, .inl (c1, 12, .inl zF)), (q46, .inl (c46, 12, .inl zF)), (q47, .inl (c1, 4, .inl (lF lX8_7))), (q49, .inl (c1, 4, .inl zF))] H := hP
  have hD : va_D A [(h0, .inr (8, [.ref (q1), .int (iI 0), .int (iI 0), .int (iI 0), .int (iI 0), .int (iI 0), .int (iI 0), .int (iI 0), .int (iI 0), .ref (q2), .ref (q4), .ref (q6), .ref (q8), .ref (q10), .ref (q12), .ref (q14), .int (iI 0), .int (iI 0), .ref (q16), .int (iI 25), .ref (q18), .ref (q20), .ref (q22), .ref (q24), .int (iI 0), .ref (q26), .int (iI 0), .int (iI 0), .int (iI 0), .ref (q28), .ref (q30), .ref (q32), .ref (q34), .int (iI 0), .int (iI 0), .ref (q36), .ref (q38), .int (iI 0), .ref (q40), .ref (q42), .ref (q44), .ref (q46), .ref (q47), .null, .null, .int (iI 0)])), (q1, .inl (c1, 200, .inl zF)), (q2, .inl (c1, 17, .inl (lF lX8_1))), (q4, .inl (c1, 69, .inl (lF lX8_2))), (q6, .inl (c1, 28, .inl (lF lX8_3))), (q8, .inl (c1, 13, .inl (lF lX8_4))), (q10, .inl (c1, 13, .inl (lF lX8_5))), (q12, .inl (c1, 28, .inl (lF lX8_6))), (q14, .inl (c1, 28, .inl zF)), (q16, .inl (c1, 384, .inl zF)), (q18, .inl (c1, 16, .inl zF)), (q20, .inl (c1, 16, .inl zF)), (q22, .inl (c1, 16, .inl zF)), (q24, .inl (c1, 16, .inl zF)), (q26, .inl (c1, 16, .inl zF)), (q28, .inl (c1, 156, .inl zF)), (q30, .inl (c1, 16, .inl zF)), (q32, .inl (c1, 26, .inl zF)), (q34, .inl (c1, 6656, .inl zF)), (q36, .inl (c1, 793, .inl zF)), (q38, .inl (c1, 793, .inl zF)), (q40, .inl (c1, 12, .inl zF)), (q42, .inl (c1, 12, .inl zF)), (q44, .inl (c1, 12, .inl zF)), (q46, .inl (c46, 12, .inl zF)), (q47, .inl (c1, 4, .inl (lF lX8_7))), (q49, .inl (c1, 4, .inl zF))] := hD
  refine va_putF (D := D) (ci := 8) (v := .ref (q49)) (ty := tyX8 43) (C := RX8) (T := TX8) (N := 46) hx hb hts inGX8 tyX8 tyX8_ok nmX8 hown hK hP hD hS 0 rfl rfl 43 (by decide) (hts _ kw_848) (fun _ h9 => h9) rfl hin rfl (tyX8_ok 43 (by decide)) rfl rfl (Nat.le_of_ble_eq_true rfl) dX8_init_1144 (fun H locs hP hD hS => ?_)
  have hP : va_P D vwCl [(h0, .inr (8, [.ref (q1), .int (iI 0), .int (iI 0), .int (iI 0), .int (iI 0), .int (iI 0), .int (iI 0), .int (iI 0), .int (iI 0), .ref (q2), .ref (q4), .ref (q6), .ref (q8), .ref (q10), .ref (q12), .ref (q14), .int (iI 0), .int (iI 0), .ref (q16), .int (iI 25), .ref (q18), .ref (q20), .ref (q22), .ref (q24), .int (iI 0), .ref (q26), .int (iI 0), .int (iI 0), .int (iI 0), .ref (q28), .ref (q30), .ref (q32), .ref (q34), .int (iI 0), .int (iI 0), .ref (q36), .ref (q38), .int (iI 0), .ref (q40), .ref (q42), .ref (q44), .ref (q46), .ref (q47), .ref (q49), .null, .int (iI 0)])), (q1, .inl (c1, 200, .inl zF)), (q2, .inl (c1, 17, .inl (lF lX8_1))), (q4, .inl (c1, 69, .inl (lF lX8_2))), (q6, .inl (c1, 28, .inl (lF lX8_3))), (q8, .inl (c1, 13, .inl (lF lX8_4))), (q10, .inl (c1, 13, .inl (lF lX8_5))), (q12, .inl (c1, 28, .inl (lF lX8_6))), (q14, .inl (c1, 28, .inl zF)), (q16, .inl (c1, 384, .inl zF)), (q18, .inl (c1, 16, .inl zF)), (q20, .inl (c1, 16, .inl zF)), (q22, .inl (c1, 16, .inl zF)), (q24, .inl (c1, 16, .inl zF)), (q26, .inl (c1, 16, .inl zF)), (q28, .inl (c1, 156, .inl zF)), (q30, .inl (c1, 16, .inl zF)), (q32, .inl (c1, 26, .inl zF)), (q34, .inl (c1, 6656, .inl zF)), (q36, .inl (c1, 793, .inl zF)), (q38, .inl (c1, 793, .inl zF)), (q40, .inl (c1, 12, .inl zF)), (q42, .inl (c1, 12, .inl zF)), (q44, .inl (c1, 12, .inl zF)), (q46, .inl (c46, 12, .inl zF)), (q47, .inl (c1, 4, .inl (lF lX8_7))), (q49, .inl (c1, 4, .inl zF))] H := hP
  have hD : va_D A [(h0, .inr (8, [.ref (q1), .int (iI 0), .int (iI 0), .int (iI 0), .int (iI 0), .int (iI 0), .int (iI 0), .int (iI 0), .int (iI 0), .ref (q2), .ref (q4), .ref (q6), .ref (q8), .ref (q10), .ref (q12), .ref (q14), .int (iI 0), .int (iI 0), .ref (q16), .int (iI 25), .ref (q18), .ref (q20), .ref (q22), .ref (q24), .int (iI 0), .ref (q26), .int (iI 0), .int (iI 0), .int (iI 0), .ref (q28), .ref (q30), .ref (q32), .ref (q34), .int (iI 0), .int (iI 0), .ref (q36), .ref (q38), .int (iI 0), .ref (q40), .ref (q42), .ref (q44), .ref (q46), .ref (q47), .ref (q49), .null, .int (iI 0)])), (q1, .inl (c1, 200, .inl zF)), (q2, .inl (c1, 17, .inl (lF lX8_1))), (q4, .inl (c1, 69, .inl (lF lX8_2))), (q6, .inl (c1, 28, .inl (lF lX8_3))), (q8, .inl (c1, 13, .inl (lF lX8_4))), (q10, .inl (c1, 13, .inl (lF lX8_5))), (q12, .inl (c1, 28, .inl (lF lX8_6))), (q14, .inl (c1, 28, .inl zF)), (q16, .inl (c1, 384, .inl zF)), (q18, .inl (c1, 16, .inl zF)), (q20, .inl (c1, 16, .inl zF)), (q22, .inl (c1, 16, .inl zF)), (q24, .inl (c1, 16, .inl zF)), (q26, .inl (c1, 16, .inl zF)), (q28, .inl (c1, 156, .inl zF)), (q30, .inl (c1, 16, .inl zF)), (q32, .inl (c1, 26, .inl zF)), (q34, .inl (c1, 6656, .inl zF)), (q36, .inl (c1, 793, .inl zF)), (q38, .inl (c1, 793, .inl zF)), (q40, .inl (c1, 12, .inl zF)), (q42, .inl (c1, 12, .inl zF)), (q44, .inl (c1, 12, .inl zF)), (q46, .inl (c46, 12, .inl zF)), (q47, .inl (c1, 4, .inl (lF lX8_7))), (q49, .inl (c1, 4, .inl zF))] := hD
  refine lv_aload_n hx hb dX8_init_1147 rfl (lv_at hl 0 rfl) ?_
  refine lv_sipush hx hb dX8_init_1148 (rfl : _ = iI (256)) ?_
  refine va_newa (atype := .int) hx hb (hts (Cond.arrayClass .int) kw_113) rfl hK hP hD hS hA (a0 := (256, .inl zF)) (zA_i 256) (by decide +kernel) (N' := 256) (by decide +kernel) (Nat.le_of_ble_eq_true rfl) (Nat.le_of_ble_eq_true rfl) (Nat.le_of_ble_eq_true rfl) dX8_init_1151 (fun q51 c51 H hK hP hD hS => ?_)
  have e52 : c1 = c51 := (ka_i hK (i := 0) (j := 2) rfl rfl).symm
  subst e52
  have hK := hK.sub (tys' := [(c1, .int), (c46, .boolean)]) [0, 1] rfl
  have hP : va_P D vwCl [(h0, .inr (8, [.ref (q1), .int (iI 0), .int (iI 0), .int (iI 0), .int (iI 0), .int (iI 0), .int (iI 0), .int (iI 0), .int (iI 0), .ref (q2), .ref (q4), .ref (q6), .ref (q8), .ref (q10), .ref (q12), .ref (q14), .int (iI 0), .int (iI 0), .ref (q16), .int (iI 25), .ref (q18), .ref (q20), .ref (q22), .ref (q24), .int (iI 0), .ref (q26), .int (iI 0), .int (iI 0), .int (iI 0), .ref (q28), .ref (q30), .ref (q32), .ref (q34), .int (iI 0), .int (iI 0), .ref (q36), .ref (q38), .int (iI 0), .ref (q40), .ref (q42), .ref (q44), .ref (q46), .ref (q47), .ref (q49), .null, .int (iI 0)])), (q1, .inl (c1, 200, .inl zF)), (q2, .inl (c1, 17, .inl (lF lX8_1))), (q4, .inl (c1, 69, .inl (lF lX8_2))), (q6, .inl (c1, 28, .inl (lF lX8_3))), (q8, .inl (c1, 13, .inl (lF lX8_4))), (q10, .inl (c1, 13, .inl (lF lX8_5))), (q12, .inl (c1, 28, .inl (lF lX8_6))), (q14, .inl (c1, 28, .inl zF)), (q16, .inl (c1, 384, .inl zF)), (q18, .inl (c1, 16, .inl zF)), (q20, .inl (c1, 16, .inl zF)), (q22, .inl (c1, 16, .inl zF)), (q24, .inl (c1, 16, .inl zF)), (q26, .inl (c1, 16, .inl zF)), (q28, .inl (c1, 156, .inl zF)), (q30, .inl (c1, 16, .inl zF)), (q32, .inl (c1, 26, .inl zF)), (q34, .inl (c1, 6656, .inl zF)), (q36, .inl (c1, 793, .inl zF)), (q38, .inl (c1, 793, .inl zF)), (q40, .inl (c1, 12, .inl zF)), (q42, .inl (c1, 12, .inl zF)), (q44, .inl (c1, 12, .inl zF)), (q46, .inl (c46, 12, .inl zF)), (q47, .inl (c1, 4, .inl (lF lX8_7))), (q49, .inl (c1, 4, .inl zF)), (q51, .inl (c1, 256, .inl zF))] H := hP
  have hD : va_D A [(h0, .inr (8, [.ref (q1), .int (iI 0), .int (iI 0), .int (iI 0), .int (iI 0), .int (iI 0), .int (iI 0), .int (iI 0), .int (iI 0), .ref (q2), .ref (q4), .ref (q6), .ref (q8), .ref (q10), .ref (q12), .ref (q14), .int (iI 0), .int (iI 0), .ref (q16), .int (iI 25), .ref (q18), .ref (q20), .ref (q22), .ref (q24), .int (iI 0), .ref (q26), .int (iI 0), .int (iI 0), .int (iI 0), .ref (q28), .ref (q30), .ref (q32), .ref (q34), .int (iI 0), .int (iI 0), .ref (q36), .ref (q38), .int (iI 0), .ref (q40), .ref (q42), .ref (q44), .ref (q46), .ref (q47), .ref (q49), .null, .int (iI 0)])), (q1, .inl (c1, 200, .inl zF)), (q2, .inl (c1, 17, .inl (lF lX8_1))), (q4, .inl (c1, 69, .inl (lF lX8_2))), (q6, .inl (c1, 28, .inl (lF lX8_3))), (q8, .inl (c1, 13, .inl (lF lX8_4))), (q10, .inl (c1, 13, .inl (lF lX8_5))), (q12, .inl (c1, 28, .inl (lF lX8_6))), (q14, .inl (c1, 28, .inl zF)), (q16, .inl (c1, 384, .inl zF)), (q18, .inl (c1, 16, .inl zF)), (q20, .inl (c1, 16, .inl zF)), (q22, .inl (c1, 16, .inl zF)), (q24, .inl (c1, 16, .inl zF)), (q26, .inl (c1, 16, .inl zF)), (q28, .inl (c1, 156, .inl zF)), (q30, .inl (c1, 16, .inl zF)), (q32, .inl (c1, 26, .inl zF)), (q34, .inl (c1, 6656, .inl zF)), (q36, .inl (c1, 793, .inl zF)), (q38, .inl (c1, 793, .inl zF)), (q40, .inl (c1, 12, .inl zF)), (q42, .inl (c1, 12, .inl zF)), (q44, .inl (c1, 12, .inl zF)), (q46, .inl (c46, 12, .inl zF)), (q47, .inl (c1, 4, .inl (lF lX8_7))), (q49, .inl (c1, 4, .inl zF)), (q51, .inl (c1, 256, .inl zF))] := hD
  refine va_putF (D := D) (ci := 8) (v := .ref (q51)) (ty := tyX8 44) (C := RX8) (T := TX8) (N := 46) hx hb hts inGX8 tyX8 tyX8_ok nmX8 hown hK hP hD hS 0 rfl rfl 44 (by decide) (hts _ kw_849) (fun _ h9 => h9) rfl hin rfl (tyX8_ok 44 (by decide)) rfl rfl (Nat.le_of_ble_eq_true rfl) dX8_init_1153 (fun H locs hP hD hS => ?_)
  have hP : va_P D vwCl [(h0, .inr (8, [.ref (q1), .int (iI 0), .int (iI 0), .int (iI 0), .int (iI 0), .int (iI 0), .int (iI 0), .int (iI 0), .int (iI 0), .ref (q2), .ref (q4), .ref (q6), .ref (q8), .ref (q10), .ref (q12), .ref (q14), .int (iI 0), .int (iI 0), .ref (q16), .int (iI 25), .ref (q18), .ref (q20), .ref (q22), .ref (q24), .int (iI 0), .ref (q26), .int (iI 0), .int (iI 0), .int (iI 0), .ref (q28), .ref (q30), .ref (q32), .ref (q34), .int (iI 0), .int (iI 0), .ref (q36), .ref (q38), .int (iI 0), .ref (q40), .ref (q42), .ref (q44), .ref (q46), .ref (q47), .ref (q49), .ref (q51), .int (iI 0)])), (q1, .inl (c1, 200, .inl zF)), (q2, .inl (c1, 17, .inl (lF lX8_1))), (q4, .inl (c1, 69, .inl (lF lX8_2))), (q6, .inl (c1, 28, .inl (lF lX8_3))), (q8, .inl (c1, 13, .inl (lF lX8_4))), (q10, .inl (c1, 13, .inl (lF lX8_5))), (q12, .inl (c1, 28, .inl (lF lX8_6))), (q14, .inl (c1, 28, .inl zF)), (q16, .inl (c1, 384, .inl zF)), (q18, .inl (c1, 16, .inl zF)), (q20, .inl (c1, 16, .inl zF)), (q22, .inl (c1, 16, .inl zF)), (q24, .inl (c1, 16, .inl zF)), (q26, .inl (c1, 16, .inl zF)), (q28, .inl (c1, 156, .inl zF)), (q30, .inl (c1, 16, .inl zF)), (q32, .inl (c1, 26, .inl zF)), (q34, .inl (c1, 6656, .inl zF)), (q36, .inl (c1, 793, .inl zF)), (q38, .inl (c1, 793, .inl zF)), (q40, .inl (c1, 12, .inl zF)), (q42, .inl (c1, 12, .inl zF)), (q44, .inl (c1, 12, .inl zF)), (q46, .inl (c46, 12, .inl zF)), (q47, .inl (c1, 4, .inl (lF lX8_7))), (q49, .inl (c1, 4, .inl zF)), (q51, .inl (c1, 256, .inl zF))] H := hP
  have hD : va_D A [(h0, .inr (8, [.ref (q1), .int (iI 0), .int (iI 0), .int (iI 0), .int (iI 0), .int (iI 0), .int (iI 0), .int (iI 0), .int (iI 0), .ref (q2), .ref (q4), .ref (q6), .ref (q8), .ref (q10), .ref (q12), .ref (q14), .int (iI 0), .int (iI 0), .ref (q16), .int (iI 25), .ref (q18), .ref (q20), .ref (q22), .ref (q24), .int (iI 0), .ref (q26), .int (iI 0), .int (iI 0), .int (iI 0), .ref (q28), .ref (q30), .ref (q32), .ref (q34), .int (iI 0), .int (iI 0), .ref (q36), .ref (q38), .int (iI 0), .ref (q40), .ref (q42), .ref (q44), .ref (q46), .ref (q47), .ref (q49), .ref (q51), .int (iI 0)])), (q1, .inl (c1, 200, .inl zF)), (q2, .inl (c1, 17, .inl (lF lX8_1))), (q4, .inl (c1, 69, .inl (lF lX8_2))), (q6, .inl (c1, 28, .inl (lF lX8_3))), (q8, .inl (c1, 13, .inl (lF lX8_4))), (q10, .inl (c1, 13, .inl (lF lX8_5))), (q12, .inl (c1, 28, .inl (lF lX8_6))), (q14, .inl (c1, 28, .inl zF)), (q16, .inl (c1, 384, .inl zF)), (q18, .inl (c1, 16, .inl zF)), (q20, .inl (c1, 16, .inl zF)), (q22, .inl (c1, 16, .inl zF)), (q24, .inl (c1, 16, .inl zF)), (q26, .inl (c1, 16, .inl zF)), (q28, .inl (c1, 156, .inl zF)), (q30, .inl (c1, 16, .inl zF)), (q32, .inl (c1, 26, .inl zF)), (q34, .inl (c1, 6656, .inl zF)), (q36, .inl (c1, 793, .inl zF)), (q38, .inl (c1, 793, .inl zF)), (q40, .inl (c1, 12, .inl zF)), (q42, .inl (c1, 12, .inl zF)), (q44, .inl (c1, 12, .inl zF)), (q46, .inl (c46, 12, .inl zF)), (q47, .inl (c1, 4, .inl (lF lX8_7))), (q49, .inl (c1, 4, .inl zF)), (q51, .inl (c1, 256, .inl zF))] := hD
  have hP := hP.sub (ws' := [(h0, .inr (8, [.ref (q1), .int (iI 0), .int (iI 0), .int (iI 0), .int (iI 0), .int (iI 0), .int (iI 0), .int (iI 0), .int (iI 0), .ref (q2), .ref (q4), .ref (q6), .ref (q8), .ref (q10), .ref (q12), .ref (q14), .int (iI 0), .int (iI 0), .ref (q16), .int (iI 25), .ref (q18), .ref (q20), .ref (q22), .ref (q24), .int (iI 0), .ref (q26), .int (iI 0), .int (iI 0), .int (iI 0), .ref (q28), .ref (q30), .ref (q32), .ref (q34), .int (iI 0), .int (iI 0), .ref (q36), .ref (q38), .int (iI 0), .ref (q40), .ref (q42), .ref (q44), .ref (q46), .ref (q47), .ref (q49), .ref (q51), .int (iI 0)])), (q1, .inl (c1, 200, .inl zF)), (q2, .inl (c1, 17, .inl (lF lX8_1))), (q4, .inl (c1, 69, .inl (lF lX8_2))), (q6, .inl (c1, 28, .inl (lF lX8_3))), (q8, .inl (c1, 13, .inl (lF lX8_4))), (q10, .inl (c1, 13, .inl (lF lX8_5))), (q12, .inl (c1, 28, .inl (lF lX8_6))), (q14, .inl (c1, 28, .inl zF)), (q16, .inl (c1, 384, .inl zF)), (q18, .inl (c1, 16, .inl zF)), (q20, .inl (c1, 16, .inl zF)), (q22, .inl (c1, 16, .inl zF)), (q24, .inl (c1, 16, .inl zF)), (q26, .inl (c1, 16, .inl zF)), (q28, .inl (c1, 156, .inl zF)), (q30, .inl (c1, 16, .inl zF)), (q32, .inl (c1, 26, .inl zF)), (q34, .inl (c1, 6656, .inl zF)), (q36, .inl (c1, 793, .inl zF)), (q38, .inl (c1, 793, .inl zF)), (q40, .inl (c1, 12, .inl zF)), (q42, .inl (c1, 12, .inl zF)), (q44, .inl (c1, 12, .inl zF)), (q46, .inl (c46, 12, .inl zF)), (q47, .inl (c1, 4, .inl (lF lX8_7))), (q49, .inl (c1, 4, .inl zF)), (q51, .inl (c1, 256, .inl zF))]) [0, 1, 2, 3, 4, 5, 6, 7, 8, 9, 10, 11, 12, 13, 14, 15, 16, 17, 18, 19, 20, 21, 22, 23, 24, 25, 26, 27] rfl
  have hD := hD.sub (ws' := [(h0, .inr (8, [.ref (q1), .int (iI 0), .int (iI 0), .int (iI 0), .int (iI 0), .int (iI 0), .int (iI 0), .int (iI 0), .int (iI 0), .ref (q2), .ref (q4), .ref (q6), .ref (q8), .ref (q10), .ref (q12), .ref (q14), .int (iI 0), .int (iI 0), .ref (q16), .int (iI 25), .ref (q18), .ref (q20), .ref (q22), .ref (q24), .int (iI 0), .ref (q26), .int (iI 0), .int (iI 0), .int (iI 0), .ref (q28), .ref (q30), .ref (q32), .ref (q34), .int (iI 0), .int (iI 0), .ref (q36), .ref (q38), .int (iI 0), .ref (q40), .ref (q42), .ref (q44), .ref (q46), .ref (q47), .ref (q49), .ref (q51), .int (iI 0)])), (q1, .inl (c1, 200, .inl zF)), (q2, .inl (c1, 17, .inl (lF lX8_1))), (q4, .inl (c1, 69, .inl (lF lX8_2))), (q6, .inl (c1, 28, .inl (lF lX8_3))), (q8, .inl (c1, 13, .inl (lF lX8_4))), (q10, .inl (c1, 13, .inl (lF lX8_5))), (q12, .inl (c1, 28, .inl (lF lX8_6))), (q14, .inl (c1, 28, .inl zF)), (q16, .inl (c1, 384, .inl zF)), (q18, .inl (c1, 16, .inl zF)), (q20, .inl (c1, 16, .inl zF)), (q22, .inl (c1, 16, .inl zF)), (q24, .inl (c1, 16, .inl zF)), (q26, .inl (c1, 16, .inl zF)), (q28, .inl (c1, 156, .inl zF)), (q30, .inl (c1, 16, .inl zF)), (q32, .inl (c1, 26, .inl zF)), (q34, .inl (c1, 6656, .inl zF)), (q36, .inl (c1, 793, .inl zF)), (q38, .inl (c1, 793, .inl zF)), (q40, .inl (c1, 12, .inl zF)), (q42, .inl (c1, 12, .inl zF)), (q44, .inl (c1, 12, .inl zF)), (q46, .inl (c46, 12, .inl zF)), (q47, .inl (c1, 4, .inl (lF lX8_7))), (q49, .inl (c1, 4, .inl zF)), (q51, .inl (c1, 256, .inl zF))]) [0, 1, 2, 3, 4, 5, 6, 7, 8, 9, 10, 11, 12, 13, 14, 15, 16, 17, 18, 19, 20, 21, 22, 23, 24, 25, 26, 27] (by decide) rfl
  exact W.vret hx hb hr (fun t ht hW => ⟨⟨((fun j => [h0, q1, q2, q4, q6, q8, q10, q12, q14, q16, q18, q20, q22, q24, q26, q28, q30, q32, q34, q36, q38, q40, q42, q44, q46, q47, q49, q51].getD j 0), (fun j => [c1, c46].getD j c1)), rfl, rfl, by rw [ht]; exact hP, va_K.moved hW.alike hK, hD⟩, hS.F ht⟩) hS.2.2 dX8_init_1156 hlocks
