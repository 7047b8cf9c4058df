/-- rows that become others at once -/
def fillM (M : Mem) (i n : Nat) (v : Int) : Mem := fun a b => if a = i ∧ b < n then v else M a b
def cpyM (M : Mem) (i n : Nat) (f : Nat → Int) : Mem := fun a b => if a = i ∧ b < n then f b else M a b
theorem fillM_s (M : Mem) (i : Nat) (k v : Int) (h0 : 0 ≤ k) : sto (fillM M i k.toNat v) i k.toNat v = fillM M i (k + 1).toNat v := by
  funext a b
  unfold sto fillM
  by_cases h1 : a = i ∧ b = k.toNat
  · rw [if_pos h1, if_pos ⟨h1.1, by omega⟩]
  · rw [if_neg h1]
    by_cases h2 : a = i ∧ b < k.toNat
    · rw [if_pos h2, if_pos ⟨h2.1, by omega⟩]
    · rw [if_neg h2, if_neg (fun q => by omega)]
theorem fillM_0 (M : Mem) (i : Nat) (v : Int) : fillM M i 0 v = M := by
  funext a b
  exact if_neg (fun q => by omega)
theorem cpyM_f (M : Mem) (i n : Nat) (f : Nat → Int) {a : Nat} (h : a ≠ i) : cpyM M i n f a = M a := funext fun b => if_neg fun q => h q.1
theorem fillM_f (M : Mem) (i n : Nat) (v : Int) {a : Nat} (h : a ≠ i) : fillM M i n v a = M a := funext fun b => if_neg fun q => h q.1
theorem cpyM_lt (M : Mem) (i n : Nat) (f : Nat → Int) {b : Nat} (h : b < n) : cpyM M i n f i b = f b := if_pos ⟨rfl, h⟩
theorem fillM_lt (M : Mem) (i n : Nat) (v : Int) {b : Nat} (h : b < n) : fillM M i n v i b = v := if_pos ⟨rfl, h⟩
theorem wf_cpy {M : Mem} (hw : wf M) {i n : Nat} {f : Nat → Int} (h : ∀ b, b < n → (rngT i b).1 ≤ f b ∧ f b ≤ (rngT i b).2) : wf (cpyM M i n f) := by
  intro a b
  unfold cpyM
  by_cases h1 : a = i ∧ b < n
  · rw [if_pos h1, h1.1]
    exact h b h1.2
  · rw [if_neg h1]
    exact hw a b
theorem cpy_row (M : Mem) (i n : Nat) (f : Nat → Int) : va_cpy (fun j => iI (f j)) (fun j => iI (M i j)) 0 0 n = fun j => iI (cpyM M i n f i j) := by
  funext q
  unfold va_cpy cpyM
  by_cases h : q < n
  · rw [if_pos ⟨Nat.zero_le _, by omega⟩, if_pos ⟨rfl, h⟩]
    simp
  · rw [if_neg (fun c => by omega), if_neg (fun c => h c.2)]
section COPY
variable {x : Cx} {E : Ev} {own : String} {cc : ByteArray} {n : Nat} {rm : Room} {M : Mem} {pc : Nat} {lv : List (Nat × Value)} {st : List Value}
theorem cl_0 : (iI 0).toNatClampNeg = 0 := by decide
theorem nl_0 : ¬ iI 0 < 0 := by decide
theorem x_copyW (B : Ok x E own cc n rm) {i d ni nd idx : Nat} {k : Int} (hd : decode cc pc = .ok (.invokestatic idx, 3)) (hl : Cond.methodLink own idx arraycopyName ∈ GW) (hi : tabT[i]? = some (0, ni, [])) (hdt : tabT[d]? = some (0, nd, [])) (k0 : 0 ≤ k) (k1 : k ≤ ni) (k2 : k ≤ nd) (kr : k < 2147483648) (hf : 1 ≤ rm.frames) (hlo : 26 ≤ rm.locals) (hst : (st.map fun v => v.category).sum ≤ 8) (hr : ∀ b, b < k.toNat → rngT i b = rngT d b) (kk : Vx x E (cpyM M d k.toNat (M i)) (pc + 3) lv st) : Vx x E M pc lv (.int (iI k) :: .int (iI 0) :: .ref (E.1 d) :: .int (iI 0) :: .ref (E.1 i) :: st) := by
  intro hw H locs ls hP hS hl'
  have w5 := B.2.2.2.2.1
  have hR := B.2.2.2.2.2.2.1
  have hk : Rg k := by unfold Rg; omega
  refine va_copyi (ty := .int) B.1 B.2.1 (B.2.2.1.trans hl'.1.symm) B.2.2.2.1 (w5 _ hl) (w5 _ kw_96) (w5 _ kw_95) (w5 _ kw_59) B.2.2.2.2.2.1.1 hP (va_D_of B.2.2.2.2.2.1 M) hS i d 0 0 (he_arr M hi (Nat.zero_le 1)) (he_arr M hdt (Nat.zero_le 1)) rfl rfl rfl nl_0 nl_0 (fun h => by rw [show (0 : Int32) = iI 0 from rfl, iI_lt hk Rg_0] at h; omega) (by rw [cl_0, iI_cl hk]; omega) (by rw [cl_0, iI_cl hk]; omega) (fun _ _ => rfl) (by rw [hR]; exact hf) (by rw [hR]; show _ + (nativeFrameWords "java/lang/System" "arraycopy" 5 + 11) ≤ _; rw [show nativeFrameWords "java/lang/System" "arraycopy" 5 = 7 from rfl]; omega) hd (fun H1 locs1 hP1 _ hS1 => kk (wf_cpy hw (fun b hb => by rw [← hr b hb]; exact hw i b)) H1 locs1 ls ?_ hS1 hl')
  rw [cl_0, iI_cl hk, cpy_row, ← shp_arr hdt (Nat.zero_le 1), wls_set (tab_len hdt) (fun a j ha => congrFun (cpyM_f M d k.toNat (M i) ha) j)] at hP1
  exact hP1
theorem x_copyS (B : Ok x E own cc n rm) (q : Nat) {d nd idx : Nat} {l : List Int} {nm : String} {k : Int} (hd : decode cc pc = .ok (.invokestatic idx, 3)) (hl : Cond.methodLink own idx arraycopyName ∈ GW) (hq : sN[q]? = some (nm, l)) (hdt : tabT[d]? = some (0, nd, [])) (k0 : 0 ≤ k) (k1 : k.toNat ≤ l.length) (k2 : k ≤ nd) (kr : k < 2147483648) (hf : 1 ≤ rm.frames) (hlo : 26 ≤ rm.locals) (hst : (st.map fun v => v.category).sum ≤ 8) (hr : ∀ b, b < k.toNat → (rngT d b).1 ≤ l.getD b 0 ∧ l.getD b 0 ≤ (rngT d b).2) (kk : Vx x E (cpyM M d k.toNat (fun b => l.getD b 0)) (pc + 3) lv st) : Vx x E M pc lv (.int (iI k) :: .int (iI 0) :: .ref (E.1 d) :: .int (iI 0) :: .ref (E.2.2.2.1 q) :: st) := by
  intro hw H locs ls hP hS hl'
  have w5 := B.2.2.2.2.1
  have hR := B.2.2.2.2.2.2.1
  have hK := B.2.2.2.2.2.1.1
  have hD := va_D_of B.2.2.2.2.2.1 M
  have hk : Rg k := by unfold Rg; omega
  have h3 : ¬ iI k < 0 := fun h => by rw [show (0 : Int32) = iI 0 from rfl, iI_lt hk Rg_0] at h; omega
  have ha1 := he_arr (E := E) M hdt (Nat.zero_le 1)
  obtain ⟨scr, hs1, hs2, hs3, hs4, -, hs5, hs7⟩ := (B.2.2.2.2.2.1.2.2.1 q _ hq).2
  dsimp only at hs4 hs5
  intro T hT X
  have hc0 : H[E.2.2.2.1 q]? = some scr := by rw [hS.2.1 _ (Array.getElem?_eq_some_iff.mp hs1).1 hs7]; exact hs1
  have hc1 : H[E.1 d]? = some (vp_cell (E.2.1 0) (nd, .inl (fun j => iI (M d j)))) := hP d _ ha1
  obtain ⟨hs6, k0', hk0, cm0, hkk0⟩ := hs2
  obtain ⟨-, k1', hk1, cm1, hkk1⟩ := (hK.2 0 (E.2.1 0, .int) rfl).1 nd (fun j => .int (iI (M d j)))
  obtain ⟨vm', X', step⟩ := X.arraycopy B.1 B.2.2.2.1 (w5 _ hl) (w5 _ kw_96) (w5 _ kw_95) (w5 _ kw_59) (src := E.2.2.2.1 q) (dst := E.1 d) (cs := scr) (cd := vp_cell (E.2.1 0) (nd, .inl (fun j => iI (M d j)))) (srcPos := iI 0) (destPos := iI 0) (n := iI k) (by rw [hT]; exact hc0) (by rw [hT]; exact hc1)
    hs6 (fun _ h => by cases h) hs3 (fun h => by cases h) hk0 hk1 hkk0 hkk1 (by simp [refKind]) nl_0 nl_0 h3
    (by rw [iI_t Rg_0, iI_t hk]; omega)
    (by rw [iI_t Rg_0, iI_t hk]; show ¬ _ > ((arrV (E.2.1 0) nd (fun j => .int (iI (M d j)))).slots.size : Int); rw [arrV_size]; omega)
    (fun vm₁ _ i hi => by
      rw [iI_cl hk] at hi
      have e : scr.slots.getD ((iI 0).toNatClampNeg + i) .null = .int (iI (l.getD ((iI 0).toNatClampNeg + i) 0)) := by
        rw [Array.getD_eq_getD_getElem?, hs5 _ (by rw [cl_0]; omega)]
        rfl
      refine ⟨?_, ?_⟩
      · rw [e]; rfl
      · rw [e]; exact trivial)
    (g := F0 x.2.1.2.1 pc ls (.int (iI k) :: .int (iI 0) :: .ref (E.1 d) :: .int (iI 0) :: .ref (E.2.2.2.1 q) :: st)) rfl (hl'.1.trans B.2.2.1.symm) (rest := st) rfl (by rw [B.2.1]; exact hd) (by rw [hR]; exact hf) (by rw [hR]; show 2 * 0 + _ + (nativeFrameWords "java/lang/System" "arraycopy" 5 + 11) ≤ _; rw [show nativeFrameWords "java/lang/System" "arraycopy" 5 = 7 from rfl]; omega)
  have e1 : copied scr (vp_cell (E.2.1 0) (nd, .inl (fun j => iI (M d j)))) (iI 0) (iI 0) (iI k) = vp_cell (E.2.1 0) (nd, .inl (va_cpy (fun j => iI (l.getD j 0)) (fun j => iI (M d j)) (iI 0).toNatClampNeg (iI 0).toNatClampNeg (iI k).toNatClampNeg)) := va_copiedX (fun z => .int z) scr (E.2.1 0) (fun j => iI (l.getD j 0)) (fun j => iI (M d j)) hs5 (by rw [cl_0, iI_cl hk]; omega)
  rw [cl_0, iI_cl hk, cpy_row M d k.toNat (fun b => l.getD b 0)] at e1
  rw [e1] at X' step
  have hdl : E.1 d < H.size := (Array.getElem?_eq_some_iff.mp hc1).1
  generalize hnc : vp_cell (E.2.1 0) (nd, .inl (fun j => iI (cpyM M d k.toNat (fun b => l.getD b 0) d j))) = nc at X' step
  have hheap : ((T.setVm vm').setCell (E.1 d) nc).heap = H.setIfInBounds (E.1 d) nc := by rw [← hT]; rfl
  have oq : ∀ q' : Nat, q' ≠ E.1 d → (H.setIfInBounds (E.1 d) nc)[q']? = H[q']? := fun q' hq' => by simp [Array.getElem?_setIfInBounds, Ne.symm hq']
  have hP1 : va_P E.2.2.1 vwCl ((wls E M).set d (E.1 d, .inl (E.2.1 0, nd, .inl (fun j => iI (cpyM M d k.toNat (fun b => l.getD b 0) d j))))) (H.setIfInBounds (E.1 d) nc) := hP.set hD ha1 (show (H.setIfInBounds (E.1 d) nc)[E.1 d]? = some _ by rw [← hnc]; simp [Array.getElem?_setIfInBounds, hdl]) oq
  rw [← shp_arr hdt (Nat.zero_le 1), wls_set (tab_len hdt) (fun a j ha => congrFun (cpyM_f M d k.toNat (fun b => l.getD b 0) ha) j)] at hP1
  obtain ⟨t, a1, b1⟩ := kk (wf_cpy hw hr) _ _ ls hP1 ⟨by simp; exact hS.1, fun q' g1 g2 => by
      rw [oq q' (fun e => g2 (by rw [e]; exact hD.2 d _ ha1))]
      exact hS.2.1 q' g1 g2, fun q' hq' => by
      rcases List.mem_append.mp hq' with h | h
      · exact hS.2.2 q' h
      · obtain ⟨z, -, hz⟩ := List.mem_map.mp h
        rw [← hz]
        exact hD.2 d _ ha1⟩ hl' _ hheap X'
  exact ⟨t, step t a1, b1⟩
end COPY
abbrev rm_J7_fill_53178 : Room := { frames := 0, cells := 0, slots := 0, locals := 0 }
theorem cs_J7_fill_53178 : Cs yJ7_fill_53178 cJ7_fill_53178 4 none 2 := ⟨kw_99, kw_98, kw_60, by decide, by decide, by decide +kernel⟩
set_option maxHeartbeats 4000000 in
set_option maxRecDepth 100000 in
theorem c_J7_fill_53178 (l : Launch) (E : Ev) (M : Mem) (a n : Nat) (v lo hi : Int) (g1 : tabT[a]? = some (0, n, [])) (g2 : ∀ j, rngT a j = (lo, hi)) (g3 : lo ≤ v) (g4 : v ≤ hi) (g5 : -2147483648 ≤ v) (g6 : v < 2147483648) : Ct l yJ7_fill_53178 cJ7_fill_53178 4 none rm_J7_fill_53178 E M [.ref (E.1 (a)), .int (iI (v))] (pV (fun M' => M' = fillM M a n v)) := by
  refine Ct_of (lv := [(0, .ref (E.1 (a))), (1, .int (iI (v)))]) (by decide) ⟨rfl, rfl⟩ (Nat.le_of_ble_eq_true rfl) rfl (fun x _ B R => ?_)
  have hnn := tab_n g1
  refine x_iconst B dJ7_fill_53178_0 ?_
  refine x_istore_n B dJ7_fill_53178_1 [1, 2, 0] rfl (by decide) (lv' := [(0, .ref (E.1 (a))), (1, .int (iI (v))), (2, .int (iI (0)))]) rfl ?_
  refine x_aload_n B dJ7_fill_53178_2 0 rfl rfl ?_
  refine x_alen B dJ7_fill_53178_3 g1 (by decide) rfl ?_
  refine x_istore_n B dJ7_fill_53178_4 [1, 2, 3, 0] rfl (by decide) (lv' := [(0, .ref (E.1 (a))), (1, .int (iI (v))), (2, .int (iI (0))), (3, .int (iI ((n : Int))))]) rfl ?_
  have L5 : ∀ (k : Int) (M1 : Mem), (0 ≤ k ∧ k ≤ n ∧ M1 = fillM M a k.toNat v) → Vx x E M1 5 [(0, .ref (E.1 (a))), (1, .int (iI (v))), (2, .int (iI (k))), (3, .int (iI ((n : Int))))] [] := by
    refine lo2 _ _ (fun k M1 => (n - k).toNat) ?_
    intro k M1 hI ih5
    obtain ⟨i1, i2, i3⟩ := hI
    refine x_iload_n B dJ7_fill_53178_5 2 rfl rfl ?_
    refine x_iload_n B dJ7_fill_53178_6 3 rfl rfl ?_
    refine x_icmp_ge B (tgt := 20) dJ7_fill_53178_7 (by decide) ⟨by omega, by omega⟩ ⟨by omega, by omega⟩ (fun c7 => ?_) (fun c7 => ?_)
    · show Vx x E M1 20 [(0, .ref (E.1 (a))), (1, .int (iI (v))), (2, .int (iI (k))), (3, .int (iI ((n : Int))))] []
      exact r_v B R dJ7_fill_53178_20 (by rw [i3, show k.toNat = n by omega])
    · show Vx x E M1 10 [(0, .ref (E.1 (a))), (1, .int (iI (v))), (2, .int (iI (k))), (3, .int (iI ((n : Int))))] []
      refine x_aload_n B dJ7_fill_53178_10 0 rfl rfl ?_
      refine x_iload_n B dJ7_fill_53178_11 2 rfl rfl ?_
      refine x_iload_n B dJ7_fill_53178_12 1 rfl rfl ?_
      refine x_iast B (lo := lo) (hi := hi) dJ7_fill_53178_13 g1 (by omega) (by omega) (g2 _) (by omega) (by omega) ?_
      refine x_iinc B (q := 2) dJ7_fill_53178_14 rfl [1, 2, 0, 3] (by decide) (lv' := [(0, .ref (E.1 (a))), (1, .int (iI (v))), (2, .int (iI (k + 1))), (3, .int (iI ((n : Int))))]) rfl ?_
      refine x_goto B (tgt := 5) dJ7_fill_53178_17 (by decide) ?_
      exact ih5 (k + 1) (sto M1 a (k).toNat v) (⟨by omega, by omega, by rw [i3]; exact fillM_s M a k v i1⟩) (by omega)
  exact L5 0 M (⟨by omega, by omega, (fillM_0 M a v).symm⟩)
