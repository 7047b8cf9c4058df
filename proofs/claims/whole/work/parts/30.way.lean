def vsK (c : Nat) : Nat → Vis
  | 0 => [(c, 0, 1)]
  | i + 1 => match (vsK c i)[i]? with
    | some q => exK (vsK c i) (q.1 : Int) q.2.1 q.2.2 6
    | none => vsK c i
def chG (i : Nat) (v : Vis) : Nat → Bool
  | 0 => true
  | n + 1 => match v[i]? with
    | some q => Nat.ble q.2.1 24 && Nat.ble q.2.2 60466175 && Nat.ble (q.1 + 1) 26 && Nat.ble (exK v (q.1 : Int) q.2.1 q.2.2 6).length 26 && chG (i + 1) (exK v (q.1 : Int) q.2.1 q.2.2 6) n
    | none => false
theorem chG_all : ∀ c, c < 26 → chG 0 [(c, 0, 1)] 26 = true := by decide +kernel
theorem chG_s {c i n : Nat} (h : chG i (vsK c i) (n + 1) = true) : ∃ q, (vsK c i)[i]? = some q ∧ q.2.1 ≤ 24 ∧ q.2.2 ≤ 60466175 ∧ q.1 < 26 ∧ vsK c (i + 1) = exK (vsK c i) (q.1 : Int) q.2.1 q.2.2 6 ∧ (vsK c (i + 1)).length ≤ 26 ∧ chG (i + 1) (vsK c (i + 1)) n = true := by
  cases hq : (vsK c i)[i]? with
  | none =>
    have h2 : (match (vsK c i)[i]? with | some q => Nat.ble q.2.1 24 && Nat.ble q.2.2 60466175 && Nat.ble (q.1 + 1) 26 && Nat.ble (exK (vsK c i) (q.1 : Int) q.2.1 q.2.2 6).length 26 && chG (i + 1) (exK (vsK c i) (q.1 : Int) q.2.1 q.2.2 6) n | none => false) = true := h
    rw [hq] at h2
    exact absurd (show false = true from h2) (by decide)
  | some q =>
    have h2 : (match (vsK c i)[i]? with | some q => Nat.ble q.2.1 24 && Nat.ble q.2.2 60466175 && Nat.ble (q.1 + 1) 26 && Nat.ble (exK (vsK c i) (q.1 : Int) q.2.1 q.2.2 6).length 26 && chG (i + 1) (exK (vsK c i) (q.1 : Int) q.2.1 q.2.2 6) n | none => false) = true := h
    rw [hq] at h2
    simp only [Bool.and_eq_true] at h2
    obtain ⟨⟨⟨⟨a1, a2⟩, a3⟩, a4⟩, a5⟩ := h2
    have e : vsK c (i + 1) = exK (vsK c i) (q.1 : Int) q.2.1 q.2.2 6 := by
      show (match (vsK c i)[i]? with | some q => exK (vsK c i) (q.1 : Int) q.2.1 q.2.2 6 | none => vsK c i) = _
      rw [hq]
    exact ⟨q, rfl, Nat.le_of_ble_eq_true a1, Nat.le_of_ble_eq_true a2, Nat.le_of_ble_eq_true a3, e, by rw [e]; exact Nat.le_of_ble_eq_true a4, by rw [e]; exact a5⟩
theorem chG_i {c : Nat} (hc : c < 26) : ∀ i, i ≤ 26 → chG i (vsK c i) (26 - i) = true := by
  intro i
  induction i with
  | zero => exact fun _ => chG_all c hc
  | succ i ih =>
    intro hi
    have h1 := ih (by omega)
    rw [show 26 - i = (26 - (i + 1)) + 1 by omega] at h1
    obtain ⟨q, -, -, -, -, -, -, h⟩ := chG_s h1
    exact h
/-- the i-th PLACE that is reached from c: the PLACE, the MOVES, their row -/
theorem vs_at {c i : Nat} (hc : c < 26) (hi : i < 26) : ∃ q, (vsK c i)[i]? = some q ∧ q.2.1 ≤ 24 ∧ q.2.2 ≤ 60466175 ∧ q.1 < 26 ∧ vsK c (i + 1) = exK (vsK c i) (q.1 : Int) q.2.1 q.2.2 6 ∧ (vsK c (i + 1)).length ≤ 26 := by
  have h1 := chG_i hc i (by omega)
  rw [show 26 - i = (26 - i - 1) + 1 by omega] at h1
  obtain ⟨q, a1, a2, a3, a4, a5, a6, -⟩ := chG_s h1
  exact ⟨q, a1, a2, a3, a4, a5, a6⟩
def vq (c i : Nat) : Nat × Nat × Nat := ((vsK c i)[i]?).getD (0, 0, 0)
/-- PARTED, as the class finds it -/
def waC (M : Mem) (a b w z : Int) : Prop := (∃ i : Nat, i < 26 ∧ (∀ j : Nat, j < i → alC M a b ((vq (M 0 12).toNat j).1 : Int) = true) ∧ ¬ alC M a b ((vq (M 0 12).toNat i).1 : Int) = true ∧ z = (if w = 0 then ((vq (M 0 12).toNat i).2.1 : Int) else ((vq (M 0 12).toNat i).2.2 : Int))) ∨ z = -4 ∧ ∀ j : Nat, j < 26 → alC M a b ((vq (M 0 12).toNat j).1 : Int) = true
theorem RtM_off {M M' : Mem} {v : Vis} (h : RtM M v) (ho : offC M M' 21 51) : RtM M' v := by
  unfold RtM
  rw [offC_f ho (i := 53) (by omega), offC_f ho (i := 54) (by omega), offC_f ho (i := 55) (by omega), offC_f ho (i := 56) (by omega)]
  exact h
abbrev rm_X7_wayApart : Room := { frames := 6, cells := 0, slots := 0, locals := 139 }
theorem cs_X7_wayApart : Cv yX7_wayApart cX7_wayApart 6 (some .int) 3 := ⟨kw_628, ⟨kw_627, kw_23⟩, kw_57, by decide, by decide, by decide +kernel⟩
set_option maxHeartbeats 4000000 in
set_option maxRecDepth 100000 in
theorem c_X7_wayApart (l : Launch) (E : Ev) (M : Mem) (a b w : Int) (g1 : 0 ≤ a) (g2 : a < 6) (g3 : 0 ≤ b) (g4 : b < 6) (g5 : 0 ≤ w) (g6 : w ≤ 1) : Ct l yX7_wayApart cX7_wayApart 6 (some .int) rm_X7_wayApart E M [.ref (E.1 (0)), .int (iI (a)), .int (iI (b)), .int (iI (w))] (pI (fun z M' => offC M M' 16 57 ∧ waC M a b w z ∧ -4 ≤ z ∧ z ≤ 60466175)) := by
  refine Ct_of (lv := [(0, .ref (E.1 (0))), (1, .int (iI (a))), (2, .int (iI (b))), (3, .int (iI (w)))]) (by decide) ⟨rfl, rfl⟩ (Nat.le_of_ble_eq_true rfl) rfl (fun x _ B R => ?_)
  refine x_aload_n B dX7_wayApart_0 0 rfl rfl ?_
  refine x_getR B (ci := 7) (k := 9) dX7_wayApart_1 rfl rfl rfl (by decide) inGX7 kw_292 ?_
  refine x_aload_n B dX7_wayApart_4 0 rfl rfl ?_
  refine x_getI B (ci := 7) (k := 12) (lo := 0) (hi := 25) dX7_wayApart_5 rfl rfl rfl (by decide) inGX7 kw_295 rfl (fun z5 ez5 lz5 uz5 => ?_)
  refine x_callV B (st := []) (av := [.int (iI (z5))]) dX7_wayApart_8 cs_X4_startAt kw_629 ⟨rfl, rfl, Nat.le_of_ble_eq_true rfl, Nat.le_of_ble_eq_true rfl⟩ rfl rfl (Nat.le_of_ble_eq_true rfl) (rc_obj B (ci := 4) rfl rfl rfl) (c_X4_startAt _ E _ z5 (by omega) (by omega)) (k_v (fun M8 hz8 => ?_))
  refine x_iconst B dX7_wayApart_11 ?_
  refine x_istore B dX7_wayApart_12 [1, 2, 3, 4, 0] (by decide) (lv' := [(0, .ref (E.1 (0))), (1, .int (iI (a))), (2, .int (iI (b))), (3, .int (iI (w))), (4, .int (iI (0)))]) rfl ?_
  have hca : (M 0 12).toNat < 26 := by
    have e := Is_e ez5
    omega
  have L14 : ∀ (i : Int) (M1 : Mem), (0 ≤ i ∧ i ≤ 26 ∧ offC M M1 16 57 ∧ RtM M1 (vsK (M 0 12).toNat i.toNat) ∧ ∀ j : Nat, (j : Int) < i → alC M a b ((vq (M 0 12).toNat j).1 : Int) = true) → Vx x E M1 14 [(0, .ref (E.1 (0))), (1, .int (iI (a))), (2, .int (iI (b))), (3, .int (iI (w))), (4, .int (iI (i)))] [] := by
    refine lo2 _ _ (fun i M1 => (26 - i).toNat) ?_
    intro i M1 hI ih14
    obtain ⟨i1, i2, i3, i4, i5⟩ := hI
    refine x_iload B dX7_wayApart_14 4 rfl ?_
    refine x_bipush B dX7_wayApart_16 rfl ?_
    refine x_icmp_ge B (tgt := 99) dX7_wayApart_18 (by decide) ⟨by omega, by omega⟩ ⟨by omega, by omega⟩ (fun c18 => ?_) (fun c18 => ?_)
    · show Vx x E M1 99 [(0, .ref (E.1 (0))), (1, .int (iI (a))), (2, .int (iI (b))), (3, .int (iI (w))), (4, .int (iI (i)))] []
      refine x_bipush B dX7_wayApart_99 rfl ?_
      exact r_i B R dX7_wayApart_101 (⟨i3, Or.inr ⟨rfl, fun j h => i5 j (by omega)⟩, by omega, by omega⟩)
    · show Vx x E M1 21 [(0, .ref (E.1 (0))), (1, .int (iI (a))), (2, .int (iI (b))), (3, .int (iI (w))), (4, .int (iI (i)))] []
      obtain ⟨q, q1, q2, q3, q4, q5, q6⟩ := vs_at hca (show i.toNat < 26 by omega)
      have hvq : vq (M 0 12).toNat i.toNat = q := by unfold vq; rw [q1]; rfl
      have hcell := i4.2.1 i.toNat q q1
      have hlen : i.toNat < (vsK (M 0 12).toNat i.toNat).length := (List.getElem?_eq_some_iff.mp q1).1
      refine x_iload B dX7_wayApart_21 4 rfl ?_
      refine x_aload_n B dX7_wayApart_23 0 rfl rfl ?_
      refine x_getR B (ci := 7) (k := 9) dX7_wayApart_24 rfl rfl rfl (by decide) inGX7 kw_292 ?_
      refine x_getI B (ci := 4) (k := 3) (lo := 0) (hi := 26) dX7_wayApart_27 rfl rfl rfl (by decide) inGX4 kw_226 rfl (fun z27 ez27 lz27 uz27 => ?_)
      have e27 := Is_e ez27
      rw [i4.1] at e27
      refine x_icmp_ge B (tgt := 99) dX7_wayApart_30 (by decide) ⟨by omega, by omega⟩ ⟨by omega, by omega⟩ (fun c30 => ?_) (fun c30 => ?_)
      · exact absurd c30 (by omega)
      · show Vx x E M1 33 [(0, .ref (E.1 (0))), (1, .int (iI (a))), (2, .int (iI (b))), (3, .int (iI (w))), (4, .int (iI (i)))] []
        refine x_aload_n B dX7_wayApart_33 0 rfl rfl ?_
        refine x_getR B (ci := 7) (k := 9) dX7_wayApart_34 rfl rfl rfl (by decide) inGX7 kw_292 ?_
        refine x_getR B (ci := 4) (k := 0) dX7_wayApart_37 rfl rfl rfl (by decide) inGX4 kw_220 ?_
        refine x_iload B dX7_wayApart_40 4 rfl ?_
        refine x_iald B (lo := 0) (hi := 25) dX7_wayApart_42 rfl (by omega) (by omega) rfl (fun z42 ez42 lz42 uz42 => ?_)
        have e42 := Is_e ez42
        rw [hcell.1] at e42
        refine x_istore B dX7_wayApart_43 [1, 2, 3, 4, 5, 0] (by decide) (lv' := [(0, .ref (E.1 (0))), (1, .int (iI (a))), (2, .int (iI (b))), (3, .int (iI (w))), (4, .int (iI (i))), (5, .int (iI (z42)))]) rfl ?_
        refine x_aload_n B dX7_wayApart_45 0 rfl rfl ?_
        refine x_iload_n B dX7_wayApart_46 1 rfl rfl ?_
        refine x_iload_n B dX7_wayApart_47 2 rfl rfl ?_
        refine x_iload B dX7_wayApart_48 5 rfl ?_
        refine x_callV B (st := []) (av := [.int (iI (a)), .int (iI (b)), .int (iI (z42))]) dX7_wayApart_50 cs_X7_feelSame kw_609 ⟨rfl, rfl, Nat.le_of_ble_eq_true rfl, Nat.le_of_ble_eq_true rfl⟩ rfl rfl (Nat.le_of_ble_eq_true rfl) (rc_obj B (ci := 7) rfl rfl rfl) (c_X7_feelSame _ E _ a b z42 (by omega) (by omega) (by omega) (by omega) (by omega) (by omega)) (k_i (fun z50 M50 hz50 => ?_))
        rw [feC_off i3 (by omega)] at hz50
        refine x_if_ne B (tgt := 84) dX7_wayApart_53 (by decide) ⟨by omega, by omega⟩ (fun c53 => ?_) (fun c53 => ?_)
        · show Vx x E M50 84 [(0, .ref (E.1 (0))), (1, .int (iI (a))), (2, .int (iI (b))), (3, .int (iI (w))), (4, .int (iI (i))), (5, .int (iI (z42)))] []
          have hal : alC M a b z42 = true := by
            rcases hz50.2 with ⟨h5, h6⟩ | ⟨h5, h6⟩
            · exact eqB_iff.mpr h6
            · omega
          refine x_aload_n B dX7_wayApart_84 0 rfl rfl ?_
          refine x_getR B (ci := 7) (k := 9) dX7_wayApart_85 rfl rfl rfl (by decide) inGX7 kw_292 ?_
          refine x_iload B dX7_wayApart_88 5 rfl ?_
          refine x_callV B (st := []) (av := [.int (iI (z42))]) dX7_wayApart_90 cs_X4_goOnFrom kw_634 ⟨rfl, rfl, Nat.le_of_ble_eq_true rfl, Nat.le_of_ble_eq_true rfl⟩ rfl rfl (Nat.le_of_ble_eq_true rfl) (rc_obj B (ci := 4) rfl rfl rfl) (c_X4_goOnFrom _ E _ z42 (vsK (M 0 12).toNat i.toNat) q.2.1 q.2.2 i.toNat (by omega) (by omega) (RtM_off i4 hz50.1) (show (vsK (M 0 12).toNat i.toNat)[i.toNat]? = some (z42.toNat, q.2.1, q.2.2) from by rw [q1, e42, Int.toNat_natCast]) (by rw [show exK (vsK (M 0 12).toNat i.toNat) z42 q.2.1 q.2.2 6 = vsK (M 0 12).toNat (i.toNat + 1) from by rw [q5, e42]]; exact q6) q2 q3) (k_v (fun M90 hz90 => ?_))
          refine x_iinc B (q := 4) dX7_wayApart_93 rfl [1, 2, 3, 4, 0, 5] (by decide) (lv' := [(0, .ref (E.1 (0))), (1, .int (iI (a))), (2, .int (iI (b))), (3, .int (iI (w))), (4, .int (iI (i + 1))), (5, .int (iI (z42)))]) rfl ?_
          refine x_goto B (tgt := 14) dX7_wayApart_96 (by decide) ?_
          refine x_lv [0, 1, 2, 3, 4] (lv' := [(0, .ref (E.1 (0))), (1, .int (iI (a))), (2, .int (iI (b))), (3, .int (iI (w))), (4, .int (iI (i + 1)))]) rfl ?_
          exact ih14 (i + 1) M90 (⟨by omega, by omega, offC_tr (offC_tr i3 (offC_w hz50.1 (by omega) (by omega))) (offC_w hz90.1 (by omega) (by omega)), by rw [show (i + 1).toNat = i.toNat + 1 by omega, q5, ← e42]; exact hz90.2, fun j h => by rcases (show (j : Int) < i ∨ j = i.toNat by omega) with h7 | h7; (exact i5 j h7); (rw [h7, hvq, ← e42]; exact hal)⟩) (by omega)
        · show Vx x E M50 56 [(0, .ref (E.1 (0))), (1, .int (iI (a))), (2, .int (iI (b))), (3, .int (iI (w))), (4, .int (iI (i))), (5, .int (iI (z42)))] []
          have hnal : ¬ alC M a b (q.1 : Int) = true := by
            rw [← e42]
            rcases hz50.2 with ⟨h5, h6⟩ | ⟨h5, h6⟩
            · omega
            · exact eqB_no h6
          have hcell5 := (RtM_off i4 hz50.1).2.1 i.toNat q q1
          refine x_iload_n B dX7_wayApart_56 3 rfl rfl ?_
          have J83 : ∀ (jr : Int), (jr = (if w = 0 then (q.2.1 : Int) else (q.2.2 : Int)) ∧ 0 ≤ jr ∧ jr ≤ 60466175) → Vx x E M50 83 [(0, .ref (E.1 (0))), (1, .int (iI (a))), (2, .int (iI (b))), (3, .int (iI (w))), (4, .int (iI (i))), (5, .int (iI (z42)))] [.int (iI (jr))] := by
            intro jr hJ
            obtain ⟨j1, j2, j3⟩ := hJ
            exact r_i B R dX7_wayApart_83 (⟨offC_tr i3 (offC_w hz50.1 (by omega) (by omega)), Or.inl ⟨i.toNat, by omega, fun j h => i5 j (by omega), by rw [hvq]; exact hnal, by rw [hvq]; exact j1⟩, by omega, by omega⟩)
          refine x_if_ne B (tgt := 73) dX7_wayApart_57 (by decide) ⟨by omega, by omega⟩ (fun c57 => ?_) (fun c57 => ?_)
          · show Vx x E M50 73 [(0, .ref (E.1 (0))), (1, .int (iI (a))), (2, .int (iI (b))), (3, .int (iI (w))), (4, .int (iI (i))), (5, .int (iI (z42)))] []
            refine x_aload_n B dX7_wayApart_73 0 rfl rfl ?_
            refine x_getR B (ci := 7) (k := 9) dX7_wayApart_74 rfl rfl rfl (by decide) inGX7 kw_292 ?_
            refine x_getR B (ci := 4) (k := 2) dX7_wayApart_77 rfl rfl rfl (by decide) inGX4 kw_224 ?_
            refine x_iload B dX7_wayApart_80 5 rfl ?_
            refine x_iald B (lo := 0) (hi := 362797056) dX7_wayApart_82 rfl (by omega) (by omega) rfl (fun z82 ez82 lz82 uz82 => ?_)
            exact J83 z82 (⟨by rw [if_neg c57, Is_e ez82, e42, Int.toNat_natCast]; exact hcell5.2.2.1, by omega, by have e := Is_e ez82; rw [e42, Int.toNat_natCast, hcell5.2.2.1] at e; omega⟩)
          · show Vx x E M50 60 [(0, .ref (E.1 (0))), (1, .int (iI (a))), (2, .int (iI (b))), (3, .int (iI (w))), (4, .int (iI (i))), (5, .int (iI (z42)))] []
            refine x_aload_n B dX7_wayApart_60 0 rfl rfl ?_
            refine x_getR B (ci := 7) (k := 9) dX7_wayApart_61 rfl rfl rfl (by decide) inGX7 kw_292 ?_
            refine x_getR B (ci := 4) (k := 1) dX7_wayApart_64 rfl rfl rfl (by decide) inGX4 kw_222 ?_
            refine x_iload B dX7_wayApart_67 5 rfl ?_
            refine x_iald B (lo := 0) (hi := 25) dX7_wayApart_69 rfl (by omega) (by omega) rfl (fun z69 ez69 lz69 uz69 => ?_)
            refine x_goto B (tgt := 83) dX7_wayApart_70 (by decide) ?_
            exact J83 z69 (⟨by rw [if_pos c57, Is_e ez69, e42, Int.toNat_natCast]; exact hcell5.2.1, by omega, by omega⟩)
  exact L14 0 M8 (⟨by omega, by omega, offC_w hz8.1 (by omega) (by omega), by have h := hz8.2; rw [Is_e ez5] at h; exact h, fun j h => by omega⟩)
