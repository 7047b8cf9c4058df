theorem x_callVe {x : Cx} {E : Ev} {own : String} {cc : ByteArray} {n : Nat} {rm : Room} {M : Mem} {pc : Nat} {lv : List (Nat × Value)} {st : List Value} (B : Ok x E own cc n rm) {y : MethodName} {bytes : ByteArray} {maxL np idx b F L : Nat} {rt : Option FieldType} {av st0 : List Value} {post' : Option Value → Mem → Prop} (hd : decode cc pc = .ok (.invokevirtual idx, 3)) (hc : Cv y bytes maxL rt np) (hl : Cond.methodLink own idx y ∈ GW) (hF : F + 1 ≤ rm.frames) (hL : 8 + (maxL + 11) + L ≤ rm.locals) (hst : st0 = av.reverse ++ .ref b :: st) (hn : av.length = np) (hW : (st.map fun v => v.category).sum ≤ 8) (hrec : ∀ (H : Heap) (locs : List Loc), va_P E.2.2.1 vwCl (wls E M) H → va_S x.2.2.2.2.1 x.2.1.1.heap H locs → ∃ cell : Cell, H[b]? = some cell ∧ cell.vm.isStatics = false ∧ x.2.1.1.vm.findClass y.cls = some cell.cls) (hC : ∃ rm' : Room, (rm'.cells = 0 ∧ rm'.slots = 0 ∧ rm'.frames ≤ F ∧ rm'.locals ≤ L) ∧ Ct x.1.2.1 y bytes maxL rt rm' E M (.ref b :: av) post')
    (kk : ∀ (v : Option Value) (M' : Mem), post' v M' → Vx x E M' (pc + 3) lv (v.toList ++ st)) : Vx x E M pc lv st0 := by
  obtain ⟨rm', ⟨h1, h2, h3, h4⟩, hC⟩ := hC
  exact x_callV B hd hc hl ⟨h1, h2, by omega, by omega⟩ hst hn hW hrec hC kk
/-- the least MOVE that is best -/
def fmK (r : Int → Int) : Nat → Int × Int
  | 0 => (0, 0)
  | k + 1 => if (fmK r k).1 < r (k : Int) then (r (k : Int), (k : Int)) else fmK r k
theorem fmK_t {r : Int → Int} {k : Int} (h0 : 0 ≤ k) (h : (fmK r k.toNat).1 < r k) : fmK r (k + 1).toNat = (r k, k) := by
  rw [show (k + 1).toNat = k.toNat + 1 by omega]
  show (if (fmK r k.toNat).1 < r ((k.toNat : Nat) : Int) then (r ((k.toNat : Nat) : Int), ((k.toNat : Nat) : Int)) else _) = _
  rw [Int.toNat_of_nonneg h0, if_pos h]
theorem fmK_f {r : Int → Int} {k : Int} (h0 : 0 ≤ k) (h : ¬ (fmK r k.toNat).1 < r k) : fmK r (k + 1).toNat = fmK r k.toNat := by
  rw [show (k + 1).toNat = k.toNat + 1 by omega]
  show (if (fmK r k.toNat).1 < r ((k.toNat : Nat) : Int) then (r ((k.toNat : Nat) : Int), ((k.toNat : Nat) : Int)) else _) = _
  rw [Int.toNat_of_nonneg h0, if_neg h]
def fmR (M : Mem) (v m q : Int) : Int := tfS (lkS M) (m - 1).toNat v.toNat (mvT (M 0 12) q)
abbrev rm_X7_firstMove : Room := { frames := 9, cells := 0, slots := 0, locals := 236 }
theorem cs_X7_firstMove : Cv yX7_firstMove cX7_firstMove 7 (some .int) 2 := ⟨kw_680, ⟨kw_679, kw_26⟩, kw_57, by decide, by decide, by decide +kernel⟩
set_option maxHeartbeats 4000000 in
set_option maxRecDepth 100000 in
theorem c_X7_firstMove (l : Launch) (E : Ev) (M : Mem) (v m : Int) (g1 : 0 ≤ v) (g2 : v < 64) (g3 : 1 ≤ m) (g4 : m ≤ 3) (g5 : LkOK M) : Ct l yX7_firstMove cX7_firstMove 7 (some .int) rm_X7_firstMove E M [.ref (E.1 (0)), .int (iI (v)), .int (iI (m))] (pI (fun z M' => offC M M' 16 57 ∧ z = (fmK (fmR M v m) 6).2 ∧ 0 ≤ z ∧ z ≤ 5)) := by
  refine Ct_of (lv := [(0, .ref (E.1 (0))), (1, .int (iI (v))), (2, .int (iI (m)))]) (by decide) ⟨rfl, rfl⟩ (Nat.le_of_ble_eq_true rfl) rfl (fun x _ B R => ?_)
  refine x_iconst B dX7_firstMove_0 ?_
  refine x_istore_n B dX7_firstMove_1 [1, 2, 3, 0] rfl (by decide) (lv' := [(0, .ref (E.1 (0))), (1, .int (iI (v))), (2, .int (iI (m))), (3, .int (iI (0)))]) rfl ?_
  refine x_iconst B dX7_firstMove_2 ?_
  refine x_istore B dX7_firstMove_3 [1, 2, 3, 4, 0] (by decide) (lv' := [(0, .ref (E.1 (0))), (1, .int (iI (v))), (2, .int (iI (m))), (3, .int (iI (0))), (4, .int (iI (0)))]) rfl ?_
  refine x_iconst B dX7_firstMove_5 ?_
  refine x_istore B dX7_firstMove_6 [1, 2, 3, 4, 5, 0] (by decide) (lv' := [(0, .ref (E.1 (0))), (1, .int (iI (v))), (2, .int (iI (m))), (3, .int (iI (0))), (4, .int (iI (0))), (5, .int (iI (0)))]) rfl ?_
  have L8 : ∀ (b : Int) (fi : Int) (k : Int) (M1 : Mem), (0 ≤ k ∧ k ≤ 6 ∧ offC M M1 16 57 ∧ LkOK M1 ∧ Is b (fmK (fmR M v m) k.toNat).1 ∧ Is fi (fmK (fmR M v m) k.toNat).2 ∧ 0 ≤ b ∧ b ≤ 1296 ∧ 0 ≤ fi ∧ fi ≤ 5) → Vx x E M1 8 [(0, .ref (E.1 (0))), (1, .int (iI (v))), (2, .int (iI (m))), (3, .int (iI (b))), (4, .int (iI (fi))), (5, .int (iI (k)))] [] := by
    refine lo4 _ _ (fun b fi k M1 => (6 - k).toNat) ?_
    intro b fi k M1 hI ih8
    obtain ⟨i1, i2, i3, i4, i5, i6, i7, i8, i9, i10⟩ := hI
    refine x_iload B dX7_firstMove_8 5 rfl ?_
    refine x_bipush B dX7_firstMove_10 rfl ?_
    refine x_icmp_ge B (tgt := 53) dX7_firstMove_12 (by decide) ⟨by omega, by omega⟩ ⟨by omega, by omega⟩ (fun c12 => ?_) (fun c12 => ?_)
    · show Vx x E M1 53 [(0, .ref (E.1 (0))), (1, .int (iI (v))), (2, .int (iI (m))), (3, .int (iI (b))), (4, .int (iI (fi))), (5, .int (iI (k)))] []
      refine x_iload B dX7_firstMove_53 4 rfl ?_
      exact r_i B R dX7_firstMove_55 (⟨i3, by rw [Is_e i6, show k.toNat = 6 by omega], by omega, by omega⟩)
    · show Vx x E M1 15 [(0, .ref (E.1 (0))), (1, .int (iI (v))), (2, .int (iI (m))), (3, .int (iI (b))), (4, .int (iI (fi))), (5, .int (iI (k)))] []
      refine x_aload_n B dX7_firstMove_15 0 rfl rfl ?_
      refine x_iload_n B dX7_firstMove_16 1 rfl rfl ?_
      refine x_aload_n B dX7_firstMove_17 0 rfl rfl ?_
      refine x_getI B (ci := 7) (k := 12) (lo := 0) (hi := 25) dX7_firstMove_18 rfl rfl rfl (by decide) inGX7 kw_295 rfl (fun z18 ez18 lz18 uz18 => ?_)
      refine x_iload B dX7_firstMove_21 5 rfl ?_
      refine x_callS B (st := [.int (iI (v)), .ref (E.1 (0))]) (av := [.int (iI (z18)), .int (iI (k))]) dX7_firstMove_23 cs_X7_placeAfter kw_518 ⟨rfl, rfl, Nat.le_of_ble_eq_true rfl, Nat.le_of_ble_eq_true rfl⟩ rfl rfl (Nat.le_of_ble_eq_true rfl) (c_X7_placeAfter _ E _ z18 k (by omega) (by omega) (by omega) (by omega)) (k_i (fun z23 Mq hz23 => ?_))
      obtain ⟨rfl, hz23⟩ := hz23
      have hmv := mvT_in (p := z18) (m := k) (by omega) (by omega)
      refine x_iload_n B dX7_firstMove_26 2 rfl rfl ?_
      refine x_iconst B dX7_firstMove_27 ?_
      refine x_isub B dX7_firstMove_28 ?_
      refine x_callVe B (st := []) (av := [.int (iI (v)), .int (iI (z23)), .int (iI (m - 1))]) dX7_firstMove_29 cs_X7_toldFrom kw_650 (by decide) (by decide) rfl rfl (Nat.le_of_ble_eq_true rfl) (rc_obj B (ci := 7) rfl rfl rfl) (c_told (E := E) (v := v) (pl := z23) (m := m - 1) (by omega) (by omega) (by omega) (by omega) (by omega) (by omega) (by assumption)) (k_i (fun z29 M29 hz29 => ?_))
      refine x_istore B dX7_firstMove_32 [1, 2, 3, 4, 5, 6, 0] (by decide) (lv' := [(0, .ref (E.1 (0))), (1, .int (iI (v))), (2, .int (iI (m))), (3, .int (iI (b))), (4, .int (iI (fi))), (5, .int (iI (k))), (6, .int (iI (z29)))]) rfl ?_
      have hr : z29 = (fmR M v m) k := by
        show z29 = tfS (lkS M) (m - 1).toNat v.toNat (mvT (M 0 12) k)
        rw [hz29.2.2.1, lkS_off i3 (by omega), hz23, Is_e ez18, i3 0 12 (by omega)]
      refine x_iload B dX7_firstMove_34 6 rfl ?_
      refine x_iload_n B dX7_firstMove_36 3 rfl rfl ?_
      refine x_icmp_le B (tgt := 47) dX7_firstMove_37 (by decide) ⟨by omega, by omega⟩ ⟨by omega, by omega⟩ (fun c37 => ?_) (fun c37 => ?_)
      · show Vx x E M29 47 [(0, .ref (E.1 (0))), (1, .int (iI (v))), (2, .int (iI (m))), (3, .int (iI (b))), (4, .int (iI (fi))), (5, .int (iI (k))), (6, .int (iI (z29)))] []
        refine x_iinc B (q := 5) dX7_firstMove_47 rfl [1, 2, 3, 4, 5, 0, 6] (by decide) (lv' := [(0, .ref (E.1 (0))), (1, .int (iI (v))), (2, .int (iI (m))), (3, .int (iI (b))), (4, .int (iI (fi))), (5, .int (iI (k + 1))), (6, .int (iI (z29)))]) rfl ?_
        refine x_goto B (tgt := 8) dX7_firstMove_50 (by decide) ?_
        refine x_lv [0, 1, 2, 3, 4, 5] (lv' := [(0, .ref (E.1 (0))), (1, .int (iI (v))), (2, .int (iI (m))), (3, .int (iI (b))), (4, .int (iI (fi))), (5, .int (iI (k + 1)))]) rfl ?_
        exact ih8 b fi (k + 1) M29 (⟨by omega, by omega, offC_tr i3 hz29.1, hz29.2.1, by show _ = _; rw [fmK_f i1 (by rw [← Is_e i5, ← hr]; omega)]; exact Is_e i5, by show _ = _; rw [fmK_f i1 (by rw [← Is_e i5, ← hr]; omega)]; exact Is_e i6, by omega, by omega, by omega, by omega⟩) (by omega)
      · show Vx x E M29 40 [(0, .ref (E.1 (0))), (1, .int (iI (v))), (2, .int (iI (m))), (3, .int (iI (b))), (4, .int (iI (fi))), (5, .int (iI (k))), (6, .int (iI (z29)))] []
        refine x_iload B dX7_firstMove_40 6 rfl ?_
        refine x_istore_n B dX7_firstMove_42 [1, 2, 3, 0, 4, 5, 6] rfl (by decide) (lv' := [(0, .ref (E.1 (0))), (1, .int (iI (v))), (2, .int (iI (m))), (3, .int (iI (z29))), (4, .int (iI (fi))), (5, .int (iI (k))), (6, .int (iI (z29)))]) rfl ?_
        refine x_iload B dX7_firstMove_43 5 rfl ?_
        refine x_istore B dX7_firstMove_45 [1, 2, 3, 4, 0, 5, 6] (by decide) (lv' := [(0, .ref (E.1 (0))), (1, .int (iI (v))), (2, .int (iI (m))), (3, .int (iI (z29))), (4, .int (iI (k))), (5, .int (iI (k))), (6, .int (iI (z29)))]) rfl ?_
        refine x_iinc B (q := 5) dX7_firstMove_47 rfl [1, 2, 3, 4, 5, 0, 6] (by decide) (lv' := [(0, .ref (E.1 (0))), (1, .int (iI (v))), (2, .int (iI (m))), (3, .int (iI (z29))), (4, .int (iI (k))), (5, .int (iI (k + 1))), (6, .int (iI (z29)))]) rfl ?_
        refine x_goto B (tgt := 8) dX7_firstMove_50 (by decide) ?_
        refine x_lv [0, 1, 2, 3, 4, 5] (lv' := [(0, .ref (E.1 (0))), (1, .int (iI (v))), (2, .int (iI (m))), (3, .int (iI (z29))), (4, .int (iI (k))), (5, .int (iI (k + 1)))]) rfl ?_
        exact ih8 z29 k (k + 1) M29 (⟨by omega, by omega, offC_tr i3 hz29.1, hz29.2.1, by show _ = _; rw [fmK_t i1 (by rw [← Is_e i5, ← hr]; omega)]; exact hr, by show _ = _; rw [fmK_t i1 (by rw [← Is_e i5, ← hr]; omega)], by omega, by omega, by omega, by omega⟩) (by omega)
  exact L8 0 0 0 M (⟨by omega, by omega, offC_rf, by assumption, rfl, rfl, by omega, by omega, by omega, by omega⟩)
/-! ===== ways: PLACES in the order in which they are reached ===== -/
abbrev Vis : Type := List (Nat × Nat × Nat)
def RtM (M : Mem) (v : Vis) : Prop := M 53 3 = (v.length : Int) ∧ (∀ (j : Nat) (q : Nat × Nat × Nat), v[j]? = some q → M 54 j = (q.1 : Int) ∧ M 55 q.1 = (q.2.1 : Int) ∧ M 56 q.1 = (q.2.2 : Int) ∧ q.1 < 26 ∧ 0 < q.2.2) ∧ ∀ p, p < 26 → (∀ q ∈ v, q.1 ≠ p) → M 56 p = 0
def hasV (v : Vis) (p : Nat) : Bool := v.any (fun q => Nat.beq q.1 p)
theorem hasV_t {v : Vis} {p : Nat} (h : hasV v p = true) : ∃ (j : Nat) (q : Nat × Nat × Nat), v[j]? = some q ∧ q.1 = p := by
  obtain ⟨q, hq, e⟩ := List.any_eq_true.mp h
  obtain ⟨j, hj⟩ := List.getElem?_of_mem hq
  exact ⟨j, q, hj, Nat.eq_of_beq_eq_true e⟩
theorem hasV_f {v : Vis} {p : Nat} (h : ¬ hasV v p = true) : ∀ q ∈ v, q.1 ≠ p := by
  intro q hq e
  exact h (List.any_eq_true.mpr ⟨q, hq, by rw [e]; exact Nat.beq_refl p⟩)
def exK (v : Vis) (pl : Int) (sp rw' : Nat) : Nat → Vis
  | 0 => v
  | k + 1 => if hasV (exK v pl sp rw' k) (mvT pl (k : Int)).toNat = true then exK v pl sp rw' k else exK v pl sp rw' k ++ [((mvT pl (k : Int)).toNat, sp + 1, rw' * 6 + k)]
theorem exK_t {v : Vis} {pl k : Int} {sp rw' : Nat} (h0 : 0 ≤ k) (h : hasV (exK v pl sp rw' k.toNat) (mvT pl k).toNat = true) : exK v pl sp rw' (k + 1).toNat = exK v pl sp rw' k.toNat := by
  rw [show (k + 1).toNat = k.toNat + 1 by omega]
  show (if hasV _ (mvT pl ((k.toNat : Nat) : Int)).toNat = true then _ else _) = _
  rw [Int.toNat_of_nonneg h0, if_pos h]
theorem exK_f {v : Vis} {pl k : Int} {sp rw' : Nat} (h0 : 0 ≤ k) (h : ¬ hasV (exK v pl sp rw' k.toNat) (mvT pl k).toNat = true) : exK v pl sp rw' (k + 1).toNat = exK v pl sp rw' k.toNat ++ [((mvT pl k).toNat, sp + 1, rw' * 6 + k.toNat)] := by
  rw [show (k + 1).toNat = k.toNat + 1 by omega]
  show (if hasV _ (mvT pl ((k.toNat : Nat) : Int)).toNat = true then _ else _ ++ [((mvT pl ((k.toNat : Nat) : Int)).toNat, _, _)]) = _
  rw [Int.toNat_of_nonneg h0, if_neg h]
theorem exK_pre (v : Vis) (pl : Int) (sp rw' : Nat) : ∀ k n, k ≤ n → ∃ w, exK v pl sp rw' n = exK v pl sp rw' k ++ w := by
  intro k n hk
  induction n with
  | zero => exact ⟨[], by rw [show k = 0 by omega, List.append_nil]⟩
  | succ n ih =>
    by_cases e : k = n + 1
    · exact ⟨[], by rw [e, List.append_nil]⟩
    · obtain ⟨w, hw⟩ := ih (by omega)
      by_cases c : hasV (exK v pl sp rw' n) (mvT pl (n : Int)).toNat = true
      · exact ⟨w, (if_pos c).trans hw⟩
      · exact ⟨w ++ [((mvT pl (n : Int)).toNat, sp + 1, rw' * 6 + n)], (if_neg c).trans (by rw [hw, List.append_assoc])⟩
/-- one more PLACE is reached -/
theorem RtM_push {M : Mem} {v : Vis} {p s r : Nat} (h : RtM M v) (hp : p < 26) (hn : ∀ q ∈ v, q.1 ≠ p) (hr : 0 < r) : RtM (sto (sto (sto (sto M 54 v.length (p : Int)) 55 p (s : Int)) 56 p (r : Int)) 53 3 ((v.length : Int) + 1)) (v ++ [(p, s, r)]) := by
  obtain ⟨h1, h2, h3⟩ := h
  refine ⟨by rw [sto_eq, List.length_append]; rfl, fun j q hj => ?_, fun p' hp' hq => ?_⟩
  · by_cases hl : j < v.length
    · rw [List.getElem?_append_left hl] at hj
      have hne : q.1 ≠ p := hn q (List.mem_of_getElem? hj)
      obtain ⟨a1, a2, a3, a4, a5⟩ := h2 j q hj
      refine ⟨?_, ?_, ?_, a4, a5⟩
      · rw [sto_ni _ _ _ _ (by decide), sto_ni _ _ _ _ (by decide), sto_ni _ _ _ _ (by decide), sto_nj _ _ _ _ (by omega)]; exact a1
      · rw [sto_ni _ _ _ _ (by decide), sto_ni _ _ _ _ (by decide), sto_nj _ _ _ _ hne, sto_ni _ _ _ _ (by decide)]; exact a2
      · rw [sto_ni _ _ _ _ (by decide), sto_nj _ _ _ _ hne, sto_ni _ _ _ _ (by decide), sto_ni _ _ _ _ (by decide)]; exact a3
    · rw [List.getElem?_append_right (by omega)] at hj
      have hz : j - v.length < 1 := (List.getElem?_eq_some_iff.mp hj).1
      have hj0 : j = v.length := by omega
      subst hj0
      rw [Nat.sub_self] at hj
      cases hj
      refine ⟨?_, ?_, ?_, hp, hr⟩
      · rw [sto_ni _ _ _ _ (by decide), sto_ni _ _ _ _ (by decide), sto_ni _ _ _ _ (by decide), sto_eq]
      · rw [sto_ni _ _ _ _ (by decide), sto_ni _ _ _ _ (by decide), sto_eq]
      · rw [sto_ni _ _ _ _ (by decide), sto_eq]
  · have hne : p' ≠ p := fun e => hq (p, s, r) (List.mem_append_right _ (List.mem_singleton.mpr rfl)) e.symm
    rw [sto_ni _ _ _ _ (by decide), sto_nj _ _ _ _ hne, sto_ni _ _ _ _ (by decide), sto_ni _ _ _ _ (by decide)]
    exact h3 p' hp' (fun q hq' => hq q (List.mem_append_left _ hq'))
theorem RtM_0 (M : Mem) {c : Int} (h0 : 0 ≤ c) (h1 : c ≤ 25) : RtM (sto (sto (sto (sto (fillM M 56 26 0) 54 0 c) 55 c.toNat 0) 56 c.toNat 1) 53 3 1) [(c.toNat, 0, 1)] := by
  refine ⟨by rw [sto_eq]; rfl, fun j q hj => ?_, fun p hp hq => ?_⟩
  · have hz : j < 1 := (List.getElem?_eq_some_iff.mp hj).1
    have hj0 : j = 0 := by omega
    subst hj0
    cases hj
    refine ⟨?_, ?_, ?_, by show c.toNat < 26; omega, Nat.one_pos⟩
    · rw [sto_ni _ _ _ _ (by decide), sto_ni _ _ _ _ (by decide), sto_ni _ _ _ _ (by decide), sto_eq]
      exact (Int.toNat_of_nonneg h0).symm
    · rw [sto_ni _ _ _ _ (by decide), sto_ni _ _ _ _ (by decide), sto_eq]; rfl
    · rw [sto_ni _ _ _ _ (by decide), sto_eq]; rfl
  · have hne : p ≠ c.toNat := fun e => hq (c.toNat, 0, 1) (List.mem_singleton.mpr rfl) e.symm
    rw [sto_ni _ _ _ _ (by decide), sto_nj _ _ _ _ hne, sto_ni _ _ _ _ (by decide), sto_ni _ _ _ _ (by decide)]
    exact fillM_lt M 56 26 0 hp
abbrev rm_X4_startAt : Room := { frames := 1, cells := 0, slots := 0, locals := 23 }
theorem cs_X4_startAt : Cv yX4_startAt cX4_startAt 2 none 1 := ⟨kw_632, ⟨kw_630, kw_631⟩, kw_64, by decide, by decide, by decide +kernel⟩
set_option maxHeartbeats 4000000 in
set_option maxRecDepth 100000 in
theorem c_X4_startAt (l : Launch) (E : Ev) (M : Mem) (c : Int) (g1 : 0 ≤ c) (g2 : c ≤ 25) : Ct l yX4_startAt cX4_startAt 2 none rm_X4_startAt E M [.ref (E.1 (53)), .int (iI (c))] (pV (fun M' => offC M M' 53 57 ∧ RtM M' [(c.toNat, 0, 1)])) := by
  refine Ct_of (lv := [(0, .ref (E.1 (53))), (1, .int (iI (c)))]) (by decide) ⟨rfl, rfl⟩ (Nat.le_of_ble_eq_true rfl) rfl (fun x _ B R => ?_)
  refine x_aload_n B dX4_startAt_0 0 rfl rfl ?_
  refine x_getR B (ci := 4) (k := 2) dX4_startAt_1 rfl rfl rfl (by decide) inGX4 kw_223 ?_
  refine x_iconst B dX4_startAt_4 ?_
  refine x_callS B (st := []) (av := [.ref (E.1 (56)), .int (iI (0))]) dX4_startAt_5 cs_J7_fill_53178 kw_633 ⟨rfl, rfl, Nat.le_of_ble_eq_true rfl, Nat.le_of_ble_eq_true rfl⟩ rfl rfl (Nat.le_of_ble_eq_true rfl) (c_J7_fill_53178 _ E _ 56 26 0 0 362797056 rfl (fun j => rfl) (by omega) (by omega) (by omega) (by omega)) (k_v (fun M5 hz5 => ?_))
  subst hz5
  refine x_aload_n B dX4_startAt_8 0 rfl rfl ?_
  refine x_getR B (ci := 4) (k := 0) dX4_startAt_9 rfl rfl rfl (by decide) inGX4 kw_219 ?_
  refine x_iconst B dX4_startAt_12 ?_
  refine x_iload_n B dX4_startAt_13 1 rfl rfl ?_
  refine x_iast B (lo := 0) (hi := 25) dX4_startAt_14 rfl (by omega) (by omega) rfl (by omega) (by omega) ?_
  refine x_aload_n B dX4_startAt_15 0 rfl rfl ?_
  refine x_getR B (ci := 4) (k := 1) dX4_startAt_16 rfl rfl rfl (by decide) inGX4 kw_221 ?_
  refine x_iload_n B dX4_startAt_19 1 rfl rfl ?_
  refine x_iconst B dX4_startAt_20 ?_
  refine x_iast B (lo := 0) (hi := 25) dX4_startAt_21 rfl (by omega) (by omega) rfl (by omega) (by omega) ?_
  refine x_aload_n B dX4_startAt_22 0 rfl rfl ?_
  refine x_getR B (ci := 4) (k := 2) dX4_startAt_23 rfl rfl rfl (by decide) inGX4 kw_223 ?_
  refine x_iload_n B dX4_startAt_26 1 rfl rfl ?_
  refine x_iconst B dX4_startAt_27 ?_
  refine x_iast B (lo := 0) (hi := 362797056) dX4_startAt_28 rfl (by omega) (by omega) rfl (by omega) (by omega) ?_
  refine x_aload_n B dX4_startAt_29 0 rfl rfl ?_
  refine x_iconst B dX4_startAt_30 ?_
  refine x_put B (ci := 4) (k := 3) (lo := 0) (hi := 26) (ty := .int) dX4_startAt_31 rfl rfl rfl (by decide) inGX4 tyX4_ok nmX4 kw_225 rfl (by decide +kernel) (nar_i _) (fit_i _) rfl (by omega) (by omega) ?_
  exact r_v B R dX4_startAt_34 (⟨offC_sto (offC_sto (offC_sto (offC_sto (fun i j h => congrFun (fillM_f M 56 26 0 (by omega)) j) (by omega)) (by omega)) (by omega)) (by omega), RtM_0 M g1 g2⟩)
abbrev rm_X4_goOnFrom : Room := { frames := 1, cells := 0, slots := 0, locals := 23 }
theorem cs_X4_goOnFrom : Cv yX4_goOnFrom cX4_goOnFrom 4 none 1 := ⟨kw_637, ⟨kw_635, kw_636⟩, kw_64, by decide, by decide, by decide +kernel⟩
set_option maxHeartbeats 4000000 in
set_option maxRecDepth 100000 in
theorem c_X4_goOnFrom (l : Launch) (E : Ev) (M : Mem) (pl : Int) (vv : Vis) (sp rr i : Nat) (g1 : 0 ≤ pl) (g2 : pl ≤ 25) (g3 : RtM M vv) (g4 : vv[i]? = some (pl.toNat, sp, rr)) (g5 : (exK vv pl sp rr 6).length ≤ 26) (g6 : sp ≤ 24) (g7 : rr ≤ 60466175) : Ct l yX4_goOnFrom cX4_goOnFrom 4 none rm_X4_goOnFrom E M [.ref (E.1 (53)), .int (iI (pl))] (pV (fun M' => offC M M' 53 57 ∧ RtM M' (exK vv pl sp rr 6))) := by
  refine Ct_of (lv := [(0, .ref (E.1 (53))), (1, .int (iI (pl)))]) (by decide) ⟨rfl, rfl⟩ (Nat.le_of_ble_eq_true rfl) rfl (fun x _ B R => ?_)
  refine x_iconst B dX4_goOnFrom_0 ?_
  refine x_istore_n B dX4_goOnFrom_1 [1, 2, 0] rfl (by decide) (lv' := [(0, .ref (E.1 (53))), (1, .int (iI (pl))), (2, .int (iI (0)))]) rfl ?_
  have L2 : ∀ (k : Int) (M1 : Mem), (0 ≤ k ∧ k ≤ 6 ∧ offC M M1 53 57 ∧ RtM M1 (exK vv pl sp rr k.toNat)) → Vx x E M1 2 [(0, .ref (E.1 (53))), (1, .int (iI (pl))), (2, .int (iI (k)))] [] := by
    refine lo2 _ _ (fun k M1 => (6 - k).toNat) ?_
    intro k M1 hI ih2
    obtain ⟨i1, i2, i3, i4⟩ := hI
    refine x_iload_n B dX4_goOnFrom_2 2 rfl rfl ?_
    refine x_bipush B dX4_goOnFrom_3 rfl ?_
    refine x_icmp_ge B (tgt := 89) dX4_goOnFrom_5 (by decide) ⟨by omega, by omega⟩ ⟨by omega, by omega⟩ (fun c5 => ?_) (fun c5 => ?_)
    · show Vx x E M1 89 [(0, .ref (E.1 (53))), (1, .int (iI (pl))), (2, .int (iI (k)))] []
      exact r_v B R dX4_goOnFrom_89 (⟨i3, by rw [show (6 : Nat) = k.toNat by omega]; exact i4⟩)
    · show Vx x E M1 8 [(0, .ref (E.1 (53))), (1, .int (iI (pl))), (2, .int (iI (k)))] []
      refine x_iload_n B dX4_goOnFrom_8 1 rfl rfl ?_
      refine x_iload_n B dX4_goOnFrom_9 2 rfl rfl ?_
      refine x_callSN B 2 (st := []) (av := [.int (iI (pl)), .int (iI (k))]) dX4_goOnFrom_10 cs_X7_placeAfter rfl ⟨rfl, rfl, Nat.le_of_ble_eq_true rfl, Nat.le_of_ble_eq_true rfl⟩ rfl rfl (Nat.le_of_ble_eq_true rfl) (c_X7_placeAfter _ E _ pl k (by omega) (by omega) (by omega) (by omega)) (k_i (fun z10 Mq hz10 => ?_))
      obtain ⟨rfl, hz10⟩ := hz10
      have hmv := mvT_in (p := pl) (m := k) (by omega) (by omega)
      refine x_istore_n B dX4_goOnFrom_13 [1, 2, 3, 0] rfl (by decide) (lv' := [(0, .ref (E.1 (53))), (1, .int (iI (pl))), (2, .int (iI (k))), (3, .int (iI (z10)))]) rfl ?_
      refine x_aload_n B dX4_goOnFrom_14 0 rfl rfl ?_
      refine x_getR B (ci := 4) (k := 2) dX4_goOnFrom_15 rfl rfl rfl (by decide) inGX4 kw_223 ?_
      refine x_iload_n B dX4_goOnFrom_18 3 rfl rfl ?_
      refine x_iald B (lo := 0) (hi := 362797056) dX4_goOnFrom_19 rfl (by omega) (by omega) rfl (fun z19 ez19 lz19 uz19 => ?_)
      refine x_if_ne B (tgt := 83) dX4_goOnFrom_20 (by decide) ⟨by omega, by omega⟩ (fun c20 => ?_) (fun c20 => ?_)
      · show Vx x E M1 83 [(0, .ref (E.1 (53))), (1, .int (iI (pl))), (2, .int (iI (k))), (3, .int (iI (z10)))] []
        refine x_iinc B (q := 2) dX4_goOnFrom_83 rfl [1, 2, 0, 3] (by decide) (lv' := [(0, .ref (E.1 (53))), (1, .int (iI (pl))), (2, .int (iI (k + 1))), (3, .int (iI (z10)))]) rfl ?_
        refine x_goto B (tgt := 2) dX4_goOnFrom_86 (by decide) ?_
        refine x_lv [0, 1, 2] (lv' := [(0, .ref (E.1 (53))), (1, .int (iI (pl))), (2, .int (iI (k + 1)))]) rfl ?_
        exact ih2 (k + 1) M1 (⟨by omega, by omega, i3, by rw [exK_t i1 (by first | assumption | exact Classical.byContradiction (fun hn => c20 (by rw [Is_e ez19, hz10]; exact i4.2.2 _ (by omega) (hasV_f hn))))]; exact i4⟩) (by omega)
      · show Vx x E M1 23 [(0, .ref (E.1 (53))), (1, .int (iI (pl))), (2, .int (iI (k))), (3, .int (iI (z10)))] []
        have hnv : ¬ hasV (exK vv pl sp rr k.toNat) (mvT pl k).toNat = true := by
          intro hh
          obtain ⟨j, q, hj, hq⟩ := hasV_t hh
          obtain ⟨-, -, a3, -, a5⟩ := i4.2.1 j q hj
          have e := Is_e ez19
          rw [hz10, ← hq, a3] at e
          omega
        have hlen : (exK vv pl sp rr k.toNat).length < 26 := by
          obtain ⟨w, hw⟩ := exK_pre vv pl sp rr (k + 1).toNat 6 (by omega)
          rw [hw, exK_f i1 hnv, List.length_append, List.length_append] at g5
          have : [((mvT pl k).toNat, sp + 1, rr * 6 + k.toNat)].length = 1 := rfl
          omega
        obtain ⟨w0, hw0⟩ := exK_pre vv pl sp rr 0 k.toNat (by omega)
        have hself := i4.2.1 i (pl.toNat, sp, rr) (by rw [hw0]; exact (List.getElem?_append_left (List.getElem?_eq_some_iff.mp g4).1).trans g4)
        dsimp only at hself
        have hne : pl.toNat ≠ (mvT pl k).toNat := fun e => hasV_f hnv (pl.toNat, sp, rr) (List.mem_of_getElem? (by rw [hw0]; exact (List.getElem?_append_left (List.getElem?_eq_some_iff.mp g4).1).trans g4)) e
        have hL := i4.1
        refine x_aload_n B dX4_goOnFrom_23 0 rfl rfl ?_
        refine x_getI B (ci := 4) (k := 3) (lo := 0) (hi := 26) dX4_goOnFrom_24 rfl rfl rfl (by decide) inGX4 kw_225 rfl (fun z24 ez24 lz24 uz24 => ?_)
        refine x_bipush B dX4_goOnFrom_27 rfl ?_
        refine x_icmp_ge B (tgt := 83) dX4_goOnFrom_29 (by decide) ⟨by omega, by omega⟩ ⟨by omega, by omega⟩ (fun c29 => ?_) (fun c29 => ?_)
        · show Vx x E M1 83 [(0, .ref (E.1 (53))), (1, .int (iI (pl))), (2, .int (iI (k))), (3, .int (iI (z10)))] []
          refine x_iinc B (q := 2) dX4_goOnFrom_83 rfl [1, 2, 0, 3] (by decide) (lv' := [(0, .ref (E.1 (53))), (1, .int (iI (pl))), (2, .int (iI (k + 1))), (3, .int (iI (z10)))]) rfl ?_
          refine x_goto B (tgt := 2) dX4_goOnFrom_86 (by decide) ?_
          refine x_lv [0, 1, 2] (lv' := [(0, .ref (E.1 (53))), (1, .int (iI (pl))), (2, .int (iI (k + 1)))]) rfl ?_
          exact ih2 (k + 1) M1 (⟨by omega, by omega, i3, by exfalso; have e := i4.1; rw [← Is_e ez24] at e; have := hlen; omega⟩) (by omega)
        · show Vx x E M1 32 [(0, .ref (E.1 (53))), (1, .int (iI (pl))), (2, .int (iI (k))), (3, .int (iI (z10)))] []
          refine x_aload_n B dX4_goOnFrom_32 0 rfl rfl ?_
          refine x_getR B (ci := 4) (k := 0) dX4_goOnFrom_33 rfl rfl rfl (by decide) inGX4 kw_219 ?_
          refine x_aload_n B dX4_goOnFrom_36 0 rfl rfl ?_
          refine x_getI B (ci := 4) (k := 3) (lo := 0) (hi := 26) dX4_goOnFrom_37 rfl rfl rfl (by decide) inGX4 kw_225 rfl (fun z37 ez37 lz37 uz37 => ?_)
          refine x_iload_n B dX4_goOnFrom_40 3 rfl rfl ?_
          have e37 := Is_e ez37
          rw [hL] at e37
          refine x_iast B (lo := 0) (hi := 25) dX4_goOnFrom_41 rfl (by omega) (by omega) rfl (by omega) (by omega) ?_
          refine x_aload_n B dX4_goOnFrom_42 0 rfl rfl ?_
          refine x_getR B (ci := 4) (k := 1) dX4_goOnFrom_43 rfl rfl rfl (by decide) inGX4 kw_221 ?_
          refine x_iload_n B dX4_goOnFrom_46 3 rfl rfl ?_
          refine x_aload_n B dX4_goOnFrom_47 0 rfl rfl ?_
          refine x_getR B (ci := 4) (k := 1) dX4_goOnFrom_48 rfl rfl rfl (by decide) inGX4 kw_221 ?_
          refine x_iload_n B dX4_goOnFrom_51 1 rfl rfl ?_
          refine x_iald B (lo := 0) (hi := 25) dX4_goOnFrom_52 rfl (by omega) (by omega) rfl (fun z52 ez52 lz52 uz52 => ?_)
          have e52 := Is_e ez52
          rw [sto_ni _ _ _ _ (by decide)] at e52
          rw [hself.2.1] at e52
          refine x_iconst B dX4_goOnFrom_53 ?_
          refine x_iadd B dX4_goOnFrom_54 ?_
          refine x_iast B (lo := 0) (hi := 25) dX4_goOnFrom_55 rfl (by omega) (by omega) rfl (by omega) (by omega) ?_
          refine x_aload_n B dX4_goOnFrom_56 0 rfl rfl ?_
          refine x_getR B (ci := 4) (k := 2) dX4_goOnFrom_57 rfl rfl rfl (by decide) inGX4 kw_223 ?_
          refine x_iload_n B dX4_goOnFrom_60 3 rfl rfl ?_
          refine x_aload_n B dX4_goOnFrom_61 0 rfl rfl ?_
          refine x_getR B (ci := 4) (k := 2) dX4_goOnFrom_62 rfl rfl rfl (by decide) inGX4 kw_223 ?_
          refine x_iload_n B dX4_goOnFrom_65 1 rfl rfl ?_
          refine x_iald B (lo := 0) (hi := 362797056) dX4_goOnFrom_66 rfl (by omega) (by omega) rfl (fun z66 ez66 lz66 uz66 => ?_)
          have e66 := Is_e ez66
          rw [sto_ni _ _ _ _ (by decide), sto_ni _ _ _ _ (by decide)] at e66
          rw [hself.2.2.1] at e66
          refine x_bipush B dX4_goOnFrom_67 rfl ?_
          refine x_imul B dX4_goOnFrom_69 ?_
          refine x_iload_n B dX4_goOnFrom_70 2 rfl rfl ?_
          refine x_iadd B dX4_goOnFrom_71 ?_
          refine x_iast B (lo := 0) (hi := 362797056) dX4_goOnFrom_72 rfl (by omega) (by omega) rfl (by omega) (by omega) ?_
          refine x_aload_n B dX4_goOnFrom_73 0 rfl rfl ?_
          refine x_dup B dX4_goOnFrom_74 rfl ?_
          refine x_getI B (ci := 4) (k := 3) (lo := 0) (hi := 26) dX4_goOnFrom_75 rfl rfl rfl (by decide) inGX4 kw_225 rfl (fun z75 ez75 lz75 uz75 => ?_)
          have e75 := Is_e ez75
          rw [sto_ni _ _ _ _ (by decide), sto_ni _ _ _ _ (by decide), sto_ni _ _ _ _ (by decide), hL] at e75
          refine x_iconst B dX4_goOnFrom_78 ?_
          refine x_iadd B dX4_goOnFrom_79 ?_
          refine x_put B (ci := 4) (k := 3) (lo := 0) (hi := 26) (ty := .int) dX4_goOnFrom_80 rfl rfl rfl (by decide) inGX4 tyX4_ok nmX4 kw_225 rfl (by decide +kernel) (nar_i _) (fit_i _) rfl (by omega) (by omega) ?_
          refine x_iinc B (q := 2) dX4_goOnFrom_83 rfl [1, 2, 0, 3] (by decide) (lv' := [(0, .ref (E.1 (53))), (1, .int (iI (pl))), (2, .int (iI (k + 1))), (3, .int (iI (z10)))]) rfl ?_
          refine x_goto B (tgt := 2) dX4_goOnFrom_86 (by decide) ?_
          refine x_lv [0, 1, 2] (lv' := [(0, .ref (E.1 (53))), (1, .int (iI (pl))), (2, .int (iI (k + 1)))]) rfl ?_
          exact ih2 (k + 1) (sto (sto (sto (sto M1 54 (z37).toNat z10) 55 (z10).toNat (z52 + 1)) 56 (z10).toNat ((z66 * 6) + k)) 53 3 (z75 + 1)) (⟨by omega, by omega, offC_sto (offC_sto (offC_sto (offC_sto i3 (by omega)) (by omega)) (by omega)) (by omega), by rw [exK_f i1 hnv]; have hpu := RtM_push (p := (mvT pl k).toNat) (s := sp + 1) (r := rr * 6 + k.toNat) i4 (by omega) (hasV_f hnv) (by omega); rw [Int.toNat_of_nonneg hmv.1, show (((sp + 1 : Nat)) : Int) = (sp : Int) + 1 by omega, show (((rr * 6 + k.toNat : Nat)) : Int) = (rr : Int) * 6 + k by omega] at hpu; rw [e37, e52, e66, e75, hz10, Int.toNat_natCast]; exact hpu⟩) (by omega)
  exact L2 0 M (⟨by omega, by omega, offC_rf, g3⟩)
