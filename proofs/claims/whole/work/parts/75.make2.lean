/-- the first k numbers are v -/
def flK (k : Nat) (v : Int) (f : Nat → Int32) : Nat → Int32 := fun j => if j < k then iI v else f j
theorem flK_0 (v : Int) (f : Nat → Int32) : flK 0 v f = f := funext fun j => if_neg (by omega)
theorem flK_s (k : Nat) (v : Int) (f : Nat → Int32) : upd (flK k v f) k (iI v) = flK (k + 1) v f := by
  funext j
  unfold upd flK
  by_cases c : j = k
  · subst c
    simp
  · by_cases d : j < k
    · simp [c, d, show j < k + 1 by omega]
    · simp [c, d, show ¬ j < k + 1 by omega]
section FILL
variable {p : Program} {l : Launch} {e : Env} {R : Room} {s : State} {m : MethodId} {args : Array Value} {below : List Frame} {meth : Method} {c : Code} {cells slots : Nat} {Q : State → Prop} {A : Nat → Prop} {D : va_G}
theorem fill_loop (hx : p.tables.exec = Jvm.exec) (hb : c.code = cJ7_fill_53178) {a n : Nat} {cA : ClassId} {v : Int} {f : Nat → Int32} (hn : n ≤ 1000) (hK : va_K D vwCl [(cA, .int)] s)
    (kk : ∀ (H : Heap) (locs : List Loc) (ls : Array Slot), va_P D vwCl [(a, .inl (cA, n, .inl (flK n v f)))] H → va_D A [(a, .inl (cA, n, .inl (flK n v f)))] → va_S A s.heap H locs → W p l e R s m args below meth c H locs cells slots Q (F0 m 20 ls [])) :
    ∀ (d k : Nat), k + d = n → ∀ (H : Heap) (locs : List Loc) (ls : Array Slot), va_P D vwCl [(a, .inl (cA, n, .inl (flK k v f)))] H → va_D A [(a, .inl (cA, n, .inl (flK k v f)))] → va_S A s.heap H locs → lv_has ls 4 [(0, .ref a), (1, .int (iI v)), (2, .int (iI (k : Int))), (3, .int (iI (n : Int)))] → W p l e R s m args below meth c H locs cells slots Q (F0 m 5 ls []) := by
  intro d
  induction d with
  | zero =>
    intro k hk H locs ls hP hD hS hl
    have e : k = n := by omega
    subst e
    refine lv_iload_n hx hb dJ7_fill_53178_5 rfl (lv_at hl 2 rfl) ?_
    refine lv_iload_n hx hb dJ7_fill_53178_6 rfl (lv_at hl 3 rfl) ?_
    refine lv_icmp_ge (tgt := 20) hx hb dJ7_fill_53178_7 (by decide) (fun _ => ?_) (fun q => ?_)
    · exact kk H locs ls hP hD hS
    · exact absurd ((iI_le ⟨by omega, by omega⟩ ⟨by omega, by omega⟩).mpr (Int.le_refl _)) q
  | succ d ih =>
    intro k hk H locs ls hP hD hS hl
    have hr : Rg (k : Int) := ⟨by omega, by omega⟩
    refine lv_iload_n hx hb dJ7_fill_53178_5 rfl (lv_at hl 2 rfl) ?_
    refine lv_iload_n hx hb dJ7_fill_53178_6 rfl (lv_at hl 3 rfl) ?_
    refine lv_icmp_ge (tgt := 20) hx hb dJ7_fill_53178_7 (by decide) (fun q => ?_) (fun q => ?_)
    · have := (iI_le ⟨by omega, by omega⟩ hr).mp q
      omega
    · refine lv_aload_n hx hb dJ7_fill_53178_10 rfl (lv_at hl 0 rfl) ?_
      refine lv_iload_n hx hb dJ7_fill_53178_11 rfl (lv_at hl 2 rfl) ?_
      refine lv_iload_n hx hb dJ7_fill_53178_12 rfl (lv_at hl 1 rfl) ?_
      refine va_iast hx hb hK hP hD hS 0 0 rfl rfl (iI_in hr (by omega) (by omega)) dJ7_fill_53178_13 (fun H1 locs1 hP1 hD1 hS1 => ?_)
      rw [iI_cl hr, Int.toNat_natCast, flK_s] at hP1 hD1
      refine lv_iinc hx hb dJ7_fill_53178_14 hl (k := 2) rfl (iI_add (k : Int) 1) (by decide) rfl (fun ls1 hl1 => ?_)
      refine lv_goto (tgt := 5) hx hb dJ7_fill_53178_17 (by decide) ?_
      exact ih (k + 1) (by omega) H1 locs1 ls1 hP1 hD1 hS1 (lv_re [1, 2, 0, 3] rfl hl1)
end FILL
set_option maxHeartbeats 400000 in
theorem k_fill (l : Launch) (D : va_G) (a n sz : Nat) (cA : ClassId) (v : Int) (f : Nat → Int32) (hn : n ≤ 1000) : Met l yJ7_fill_53178 (mw yJ7_fill_53178 cJ7_fill_53178 4 none) { frames := 0, cells := 0, slots := 0, locals := 0 } (va_Pc [.ref a, .int (iI v)] (fun U => U.heap.size = sz ∧ va_P D vwCl [(a, .inl (cA, n, .inl f))] U.heap ∧ va_K D vwCl [(cA, .int)] U ∧ va_D (fun _ => True) [(a, .inl (cA, n, .inl f))])) (va_Qv (fun _ : Unit => True) (fun _ t => va_P D vwCl [(a, .inl (cA, n, .inl (flK n v f)))] t.heap ∧ va_K D vwCl [(cA, .int)] t ∧ va_D (va_A [(a, .inl (cA, n, .inl f))] sz) [(a, .inl (cA, n, .inl (flK n v f)))]) (va_A [(a, .inl (cA, n, .inl f))] sz)) 0 0 (va_A [(a, .inl (cA, n, .inl f))] sz) := by
  refine Met.ofW (cc := cJ7_fill_53178) (maxL := 4) (ret := none) (by decide) rfl ?_
  intro p e s m args below meth c s₁ B hml hv
  obtain ⟨rfl, hsz, hP, hK, hD0⟩ := hv
  have hx := B.exec
  have hb := B.bytes
  have hr := B.returns
  have hlocks := B.notSynchronized
  subst hsz
  have hD := hD0.self (sz := s.heap.size)
  generalize hAe : va_A [(a, .inl (cA, n, .inl f))] s.heap.size = A at hD ⊢
  have hS : va_S A s.heap s.heap [] := va_S.rf
  have hP : va_P D vwCl [(a, .inl (cA, n, .inl f))] s.heap := hP
  have hl := lv_entry ([.ref a, .int (iI v)]) (n := 4) (Nat.le_of_ble_eq_true rfl)
  rw [lg_entry_eq]
  generalize (lg_sl ([.ref a, .int (iI v)]) ++ List.replicate (4 - (lg_sl ([.ref a, .int (iI v)])).length) Slot.unset).toArray = ls at hl ⊢
  have hl : lv_has ls 4 [(0, .ref a), (1, .int (iI v))] := hl
  refine lv_iconst hx hb dJ7_fill_53178_0 (rfl : _ = iI ((0 : Nat) : Int)) ?_
  refine lv_istore_n hx hb dJ7_fill_53178_1 rfl hl (by decide) rfl (fun ls hl => ?_)
  have hl : lv_has ls 4 [(0, .ref a), (1, .int (iI v)), (2, .int (iI ((0 : Nat) : Int)))] := lv_re [1, 2, 0] rfl hl
  refine lv_aload_n hx hb dJ7_fill_53178_2 rfl (lv_at hl 0 rfl) ?_
  refine va_alen hx hb hK hP 0 0 rfl rfl (iI_nat n).symm dJ7_fill_53178_3 ?_
  refine lv_istore_n hx hb dJ7_fill_53178_4 rfl hl (by decide) rfl (fun ls hl => ?_)
  have hl : lv_has ls 4 [(0, .ref a), (1, .int (iI v)), (2, .int (iI ((0 : Nat) : Int))), (3, .int (iI (n : Int)))] := lv_re [1, 2, 3, 0] rfl hl
  refine fill_loop (f := f) hx hb hn hK (fun H locs ls hP hD hS => ?_) n 0 (by omega) s.heap [] ls (by rw [flK_0]; exact hP) (by rw [flK_0]; exact hD) hS hl
  exact W.vret hx hb hr (fun t ht hW => ⟨⟨(), rfl, trivial, by rw [ht]; exact hP, va_K.moved hW.alike hK, hD⟩, hS.F ht⟩) hS.2.2 dJ7_fill_53178_20 hlocks
section COPYS
variable {p : Program} {l : Launch} {e : Env} {R : Room} {s : State} {m : MethodId} {args : Array Value} {below : List Frame} {meth : Method} {c : Code} {cells slots : Nat} {Q : State → Prop} {A : Nat → Prop} {D : va_G} {H : Heap} {locs : List Loc} {ls : Array Slot} {rest : List Value} {pc : Nat} {ws : va_W} {tys : List (ClassId × FieldType)}
theorem w_copyS {cc : ByteArray} (hx : p.tables.exec = Jvm.exec) (hb : c.code = cc) (hml : c.maxLocals = ls.size) {own : String} (hown : s.vm.findClass own = some m.cls) (hts : ∀ w ∈ GW, w.before args s = true) {index : Nat} (hl : Cond.methodLink own index arraycopyName ∈ GW) (hK : va_K D vwCl tys s) (hP : va_P D vwCl ws H) (hD : va_D A ws) (hS : va_S A s.heap H locs) {t0 : Nat} {lst : List Int} (hT0 : va_T .int t0 lst.length (fun j => .int (iI (lst.getD j 0))) A s s.heap) (q1 t1 : Nat) {a : Nat} {cA : ClassId} {nd : Nat} {f : Nat → Int32} (ha1 : ws[q1]? = some (a, .inl (cA, nd, .inl f))) (ht1 : tys[t1]? = some (cA, .int)) {k : Int} (k0 : 0 ≤ k) (k1 : k.toNat ≤ lst.length) (k2 : k ≤ nd) (kr : k < 2147483648) (hf : 1 ≤ R.frames) (hlo : 26 ≤ R.locals) (hst : (rest.map fun v => v.category).sum ≤ 8) (hd : decode cc pc = .ok (.invokestatic index, 3))
    (kk : ∀ (H1 : Heap) (locs1 : List Loc), va_P D vwCl (ws.set q1 (a, .inl (cA, nd, .inl (va_cpy (fun j => iI (lst.getD j 0)) f 0 0 k.toNat)))) H1 → va_D A (ws.set q1 (a, .inl (cA, nd, .inl (va_cpy (fun j => iI (lst.getD j 0)) f 0 0 k.toNat)))) → va_S A s.heap H1 locs1 → W p l e R s m args below meth c H1 locs1 cells slots Q (F0 m (pc + 3) ls rest)) : W p l e R s m args below meth c H locs cells slots Q (F0 m pc ls (.int (iI k) :: .int (iI 0) :: .ref a :: .int (iI 0) :: .ref t0 :: rest)) := by
  have hk : Rg k := by unfold Rg; omega
  have h3 : ¬ iI k < 0 := fun h => by rw [show (0 : Int32) = iI 0 from rfl, iI_lt hk Rg_0] at h; omega
  obtain ⟨scr, hs1, hs2, hs3, hs4, -, hs5, hs7⟩ := hT0
  dsimp only at hs4 hs5
  intro T hT X
  have hc0 : H[t0]? = some scr := by rw [hS.2.1 _ (Array.getElem?_eq_some_iff.mp hs1).1 hs7]; exact hs1
  have hc1 : H[a]? = some (vp_cell cA (nd, .inl f)) := hP q1 _ ha1
  obtain ⟨hs6, k0', hk0, cm0, hkk0⟩ := hs2
  obtain ⟨-, k1', hk1, cm1, hkk1⟩ := (hK.2 t1 (cA, .int) ht1).1 nd (fun j => .int (f j))
  obtain ⟨vm', X', step⟩ := X.arraycopy hx hown (hts _ hl) (hts _ kw_96) (hts _ kw_95) (hts _ kw_59) (src := t0) (dst := a) (cs := scr) (cd := vp_cell cA (nd, .inl f)) (srcPos := iI 0) (destPos := iI 0) (n := iI k) (by rw [hT]; exact hc0) (by rw [hT]; exact hc1)
    hs6 (fun _ h => by cases h) hs3 (fun h => by cases h) hk0 hk1 hkk0 hkk1 (by simp [refKind]) nl_0 nl_0 h3
    (by rw [iI_t Rg_0, iI_t hk]; omega)
    (by rw [iI_t Rg_0, iI_t hk]; show ¬ _ > ((arrV cA nd (fun j => .int (f j))).slots.size : Int); rw [arrV_size]; omega)
    (fun vm₁ _ i hi => by
      rw [iI_cl hk] at hi
      have e : scr.slots.getD ((iI 0).toNatClampNeg + i) .null = .int (iI (lst.getD ((iI 0).toNatClampNeg + i) 0)) := by
        rw [Array.getD_eq_getD_getElem?, hs5 _ (by rw [cl_0]; omega)]
        rfl
      refine ⟨?_, ?_⟩
      · rw [e]; rfl
      · rw [e]; exact trivial)
    (g := F0 m pc ls (.int (iI k) :: .int (iI 0) :: .ref a :: .int (iI 0) :: .ref t0 :: rest)) rfl hml.symm (rest := rest) rfl (by rw [hb]; exact hd) hf (by show 2 * 0 + _ + (nativeFrameWords "java/lang/System" "arraycopy" 5 + 11) ≤ _; rw [show nativeFrameWords "java/lang/System" "arraycopy" 5 = 7 from rfl]; omega)
  have e1 : copied scr (vp_cell cA (nd, .inl f)) (iI 0) (iI 0) (iI k) = vp_cell cA (nd, .inl (va_cpy (fun j => iI (lst.getD j 0)) f (iI 0).toNatClampNeg (iI 0).toNatClampNeg (iI k).toNatClampNeg)) := va_copiedX (fun z => .int z) scr cA (fun j => iI (lst.getD j 0)) f hs5 (by rw [cl_0, iI_cl hk]; omega)
  rw [cl_0, iI_cl hk] at e1
  rw [e1] at X' step
  have hdl : a < H.size := (Array.getElem?_eq_some_iff.mp hc1).1
  generalize hnc : vp_cell cA (nd, .inl (va_cpy (fun j => iI (lst.getD j 0)) f 0 0 k.toNat)) = nc at X' step
  have hheap : ((T.setVm vm').setCell a nc).heap = H.setIfInBounds a nc := by rw [← hT]; rfl
  have oq : ∀ q' : Nat, q' ≠ a → (H.setIfInBounds a nc)[q']? = H[q']? := fun q' hq' => by simp [Array.getElem?_setIfInBounds, Ne.symm hq']
  have e9 : (H.setIfInBounds a nc)[a]? = some nc := by simp [Array.getElem?_setIfInBounds, hdl]
  have hP1 : va_P D vwCl (ws.set q1 (a, .inl (cA, nd, .inl (va_cpy (fun j => iI (lst.getD j 0)) f 0 0 k.toNat)))) (H.setIfInBounds a nc) := hP.set hD ha1 (show (H.setIfInBounds a nc)[a]? = some (vp_cell cA (nd, .inl (va_cpy (fun j => iI (lst.getD j 0)) f 0 0 k.toNat))) by rw [hnc]; exact e9) oq
  obtain ⟨t, a1, b1⟩ := kk _ _ hP1 (hD.set ha1) ⟨by simp; exact hS.1, fun q' g1 g2 => by
      rw [oq q' (fun e => g2 (by rw [e]; exact hD.2 q1 _ ha1))]
      exact hS.2.1 q' g1 g2, fun q' hq' => by
      rcases List.mem_append.mp hq' with h | h
      · exact hS.2.2 q' h
      · obtain ⟨z, -, hz⟩ := List.mem_map.mp h
        rw [← hz]
        exact hD.2 q1 _ ha1⟩ _ hheap X'
  exact ⟨t, step t a1, b1⟩
end COPYS
