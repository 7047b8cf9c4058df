/-! ===== THE WORLD AT THE START ===== -/
def m0T : List (List Int × Int) := [([0, 0, 0, 0, 0, 0, 0, 0, 0, 0, 0, 0, 25], 0), ([], 0), ([0, 0, 0, 0, 9, 0, 9, 8, 1, 0, 40, 0], 0), ([], 1), ([], 0), ([0, 0, 0, 0, 9, 0, 9, 8, 1, 0, 40, 0], 0), ([], 1), ([], 0), ([], 0), ([0, 0, 0, 0, 9, 0, 9, 8, 1, 0, 40, 0], 0), ([], 1), ([], 0), ([], 0), ([], 0), ([], 0), ([], 0), ([], 0), ([], 0), ([], 0), ([], 0), ([], 0), ([], 0), ([], 0), ([], 0), ([], 0), ([], 0), ([], 0), ([], 0), ([], 0), ([], 0), ([], 0), ([], 0), ([], 0), ([], 0), ([], 0), ([], 0), ([], 0), ([], 0), ([], 0), ([], 0), ([], 0), ([], 0), ([], 0), ([], 0), ([], 0), ([], 0), ([], 0), ([], 0), ([], 0), ([], 0), ([], 0), ([], 0), ([], 0), ([], 0), ([], 0), ([], 0), ([], 0), ([], 0), ([], 0), ([], 0), ([], 0), ([], 0), ([], 0), ([0, -1], 0), ([], 0), ([0, -1], 0), ([], 0), ([0, -1], 0), ([], 0), ([0, -1], 0), ([], 0), ([0, 0, 0, 0, 0, 0, 0, 0, 0, 0, 0, 0, 0, 0, 0, 0, 0, 0, 0, 25], 0), ([], 0), ([0, 3, 9, 13, 17, 21, 26, 30, 33, 36, 41, 46, 50, 55, 60, 64, 69], 0), ([119, 97, 121, 115, 112, 114, 101, 97, 100, 108, 101, 115, 115, 116, 105, 114, 101, 109, 111, 115, 116, 114, 111, 117, 110, 100, 109, 97, 115, 107, 111, 119, 110, 108, 101, 100, 115, 116, 105, 108, 108, 116, 104, 101, 114, 101, 100, 101, 97, 100, 108, 101, 97, 115, 116, 112, 108, 97, 105, 110, 100, 97, 114, 107, 101, 100, 103, 101, 115], 0), ([0, 0, 0, 0, 9, 0, 9, 8, 1, 0, 40, 0, 1, 1, 1, 1, 1, 1, 1, 1, 1, 1, 1, 1, 1, 1, 1, 1], 0), ([0, 0, 0, 0, 1, 0, 1, 0, 0, 0, 1, 0, 1], 0), ([0, 4, 3, 9, 9, 0, 9, 20, 20, 20, 99, 15, 9], 0), ([0, 0, 0, 0, 9, 0, 9, 8, 1, 0, 40, 0, 1, 1, 1, 1, 1, 1, 1, 1, 1, 1, 1, 1, 1, 1, 1, 1], 0), ([], 0), ([], 0), ([], 0), ([], 0), ([], 0), ([], 0), ([], 0), ([], 0), ([], 0), ([], 0), ([], 0), ([], 0), ([], 0), ([], 0), ([], 0), ([], 0), ([], 0), ([-4, -4, -4, -4], 0), ([], 0), ([], 0)]
def M0 : Mem := fun i j => (m0T.getD i ([], 0)).1.getD j (m0T.getD i ([], 0)).2
def inR (q : Int × Int) (x : Int) : Bool := decide (q.1 ≤ x) && decide (x ≤ q.2)
def chkR (r : List (Int × Int)) (m : List Int × Int) : Bool := match r with
  | [q] => m.1.all (inR q) && inR q m.2
  | l => ((List.range (l.length + m.1.length)).all (fun j => inR (l.getD j FF) (m.1.getD j m.2))) && inR FF m.2
theorem inR_e {q : Int × Int} {x : Int} (h : inR q x = true) : q.1 ≤ x ∧ x ≤ q.2 := by
  unfold inR at h
  rw [Bool.and_eq_true, decide_eq_true_eq, decide_eq_true_eq] at h
  exact h
theorem chk_l {l : List (Int × Int)} {m : List Int × Int} (h : (((List.range (l.length + m.1.length)).all (fun j => inR (l.getD j FF) (m.1.getD j m.2))) && inR FF m.2) = true) (j : Nat) : (l.getD j FF).1 ≤ m.1.getD j m.2 ∧ m.1.getD j m.2 ≤ (l.getD j FF).2 := by
  rw [Bool.and_eq_true] at h
  by_cases hj : j < l.length + m.1.length
  · exact inR_e (List.all_eq_true.mp h.1 j (List.mem_range.mpr hj))
  · have e1 : l.getD j FF = FF := by rw [List.getD_eq_getElem?_getD, List.getElem?_eq_none (by omega)]; rfl
    have e2 : m.1.getD j m.2 = m.2 := by rw [List.getD_eq_getElem?_getD, List.getElem?_eq_none (by omega)]; rfl
    rw [e1, e2]
    exact inR_e h.2
theorem chk_1 {q : Int × Int} {m : List Int × Int} (h : (m.1.all (inR q) && inR q m.2) = true) (j : Nat) : q.1 ≤ m.1.getD j m.2 ∧ m.1.getD j m.2 ≤ q.2 := by
  rw [Bool.and_eq_true] at h
  rw [List.getD_eq_getElem?_getD]
  cases e : m.1[j]? with
  | none => exact inR_e h.2
  | some x => exact inR_e (List.all_eq_true.mp h.1 x (List.mem_of_getElem? e))
theorem chk_all : ∀ i, i < 99 → chkR (rgt.getD i []) (m0T.getD i ([], 0)) = true := by decide +kernel
theorem rgt_len : rgt.length = 99 ∧ m0T.length = 99 := by decide +kernel
theorem wf_M0 : wf M0 := by
  intro i j
  show (rngT i j).1 ≤ (m0T.getD i ([], 0)).1.getD j (m0T.getD i ([], 0)).2 ∧ (m0T.getD i ([], 0)).1.getD j (m0T.getD i ([], 0)).2 ≤ (rngT i j).2
  by_cases hi : i < 99
  · have h := chk_all i hi
    have hr : rgt[i]? = some (rgt.getD i []) := by
      rw [List.getD_eq_getElem?_getD, List.getElem?_eq_getElem (by rw [rgt_len.1]; exact hi)]
      rfl
    unfold rngT
    rw [hr]
    generalize rgt.getD i [] = r at h ⊢
    generalize m0T.getD i ([], 0) = m at h ⊢
    match r, h with
    | [], h => exact chk_l (l := []) h j
    | [q], h => exact chk_1 h j
    | q :: q2 :: r, h => exact chk_l (l := q :: q2 :: r) h j
  · have e1 : m0T.getD i ([], 0) = ([], 0) := by rw [List.getD_eq_getElem?_getD, List.getElem?_eq_none (by rw [rgt_len.2]; omega)]; rfl
    have e2 : rngT i j = FF := by
      unfold rngT
      rw [List.getElem?_eq_none (by rw [rgt_len.1]; omega)]
    rw [e1, e2]
    show (-2147483648 : Int) ≤ 0 ∧ (0 : Int) ≤ 2147483647
    exact ⟨by decide, by decide⟩
theorem RR_M0 : RR M0 := ⟨⟨rfl, by decide +kernel, by decide +kernel, fun _ _ => rfl, rfl⟩, ⟨rfl, rfl, rfl, rfl, rfl⟩, ⟨rfl, rfl, rfl, rfl, rfl⟩, rfl, rfl, by
  intro k hk
  rcases (show k = 0 ∨ k = 1 ∨ k = 2 ∨ k = 3 by omega) with rfl | rfl | rfl | rfl <;> exact ⟨by decide +kernel, by decide +kernel, fun _ _ => rfl⟩⟩
abbrev Uu : Type := (Nat → Nat) × (Nat → ClassId)
/-- the surroundings, by what the two constructors made -/
def mkE (u w : Uu) (D : va_G) (st aK aV : Nat → Nat) : Ev := (fun i => if i < 71 then u.1 i else w.1 (i - 71), fun k => if k = 0 then u.2 0 else if k = 1 then u.2 2 else if k = 2 then u.2 1 else u.2 3, D, st, aK, aV)
theorem at_ext {D : va_G} {cl : List vw_C} {a n : Nat} {cA : ClassId} {f g : Nat → Int32} {H : Heap} (e : ∀ j, j < n → f j = g j) (h : va_at D cl (a, .inl (cA, n, .inl f)) H) : va_at D cl (a, .inl (cA, n, .inl g)) H := by
  have hc : arrV cA n (fun j => .int (f j)) = arrV cA n (fun j => .int (g j)) := by
    unfold arrV
    congr 2
    funext j
    show Value.int (f j.1) = Value.int (g j.1)
    rw [e j.1 j.2]
  show H[a]? = some (arrV cA n (fun j => .int (g j)))
  rw [← hc]
  exact h
theorem at_exq {D : va_G} {cl : List vw_C} {a n : Nat} {cA : ClassId} {f g : Nat → Option Nat} {H : Heap} (e : ∀ j, j < n → f j = g j) (h : va_at D cl (a, .inl (cA, n, .inr (.inr (.inr (.inr f))))) H) : va_at D cl (a, .inl (cA, n, .inr (.inr (.inr (.inr g))))) H := by
  have hc : arrV cA n (fun j => va_rf (f j)) = arrV cA n (fun j => va_rf (g j)) := by
    unfold arrV
    congr 2
    funext j
    show va_rf (f j.1) = va_rf (g j.1)
    rw [e j.1 j.2]
  show H[a]? = some (arrV cA n (fun j => va_rf (g j)))
  rw [← hc]
  exact h
theorem fA_e {j : Nat} (h : j < 12) : fA zF j = iI (sAf.getD j 0) := by
  unfold fA va_cpy
  rw [if_pos ⟨Nat.zero_le _, by omega⟩, Nat.zero_add, Nat.sub_zero]
theorem fA_m : ∀ j, j < 12 → sAf.getD j 0 = M0 2 j := by decide +kernel
theorem cl6 : ∀ k : Nat, k < 6 → (iI (k : Int)).toNatClampNeg = k := by decide +kernel
theorem m71_1 : M0 71 1 = 0 := by decide +kernel
theorem m71_2 : M0 71 2 = 0 := by decide +kernel
theorem m71_3 : M0 71 3 = 0 := by decide +kernel
theorem m71_4 : M0 71 4 = 0 := by decide +kernel
theorem m71_5 : M0 71 5 = 0 := by decide +kernel
theorem m71_6 : M0 71 6 = 0 := by decide +kernel
theorem m71_7 : M0 71 7 = 0 := by decide +kernel
theorem m71_8 : M0 71 8 = 0 := by decide +kernel
theorem m71_16 : M0 71 16 = 0 := by decide +kernel
theorem m71_17 : M0 71 17 = 0 := by decide +kernel
theorem m71_19 : M0 71 19 = 25 := by decide +kernel
theorem m71_24 : M0 71 24 = 0 := by decide +kernel
theorem m71_26 : M0 71 26 = 0 := by decide +kernel
theorem m71_27 : M0 71 27 = 0 := by decide +kernel
theorem m71_28 : M0 71 28 = 0 := by decide +kernel
theorem m71_33 : M0 71 33 = 0 := by decide +kernel
theorem m71_34 : M0 71 34 = 0 := by decide +kernel
theorem m71_37 : M0 71 37 = 0 := by decide +kernel
theorem m71_45 : M0 71 45 = 0 := by decide +kernel
def fs71 : List (Option Nat) := [some 72, none, none, none, none, none, none, none, none, some 73, some 74, some 75, some 76, some 77, some 78, some 79, none, none, some 80, none, some 81, some 82, some 83, some 84, none, some 85, none, none, none, some 86, some 87, some 88, some 89, none, none, some 90, some 91, none, some 92, some 93, some 94, some 95, some 96, some 97, some 98, none]
theorem fl71 {D : va_G} {u w : Uu} {st aK aV : Nat → Nat} : fs71.mapIdx (fun j d => fv (mkE u w D st aK aV) M0 71 j d) = [.ref (w.1 1), .int (iI 0), .int (iI 0), .int (iI 0), .int (iI 0), .int (iI 0), .int (iI 0), .int (iI 0), .int (iI 0), .ref (w.1 2), .ref (w.1 3), .ref (w.1 4), .ref (w.1 5), .ref (w.1 6), .ref (w.1 7), .ref (w.1 8), .int (iI 0), .int (iI 0), .ref (w.1 9), .int (iI 25), .ref (w.1 10), .ref (w.1 11), .ref (w.1 12), .ref (w.1 13), .int (iI 0), .ref (w.1 14), .int (iI 0), .int (iI 0), .int (iI 0), .ref (w.1 15), .ref (w.1 16), .ref (w.1 17), .ref (w.1 18), .int (iI 0), .int (iI 0), .ref (w.1 19), .ref (w.1 20), .int (iI 0), .ref (w.1 21), .ref (w.1 22), .ref (w.1 23), .ref (w.1 24), .ref (w.1 25), .ref (w.1 26), .ref (w.1 27), .int (iI 0)] := by
  apply List.ext_getElem?
  intro j
  rw [List.getElem?_mapIdx]
  match j with
  | 0 => exact rfl
  | 1 => exact congrArg (fun z => some (Value.int (iI z))) m71_1
  | 2 => exact congrArg (fun z => some (Value.int (iI z))) m71_2
  | 3 => exact congrArg (fun z => some (Value.int (iI z))) m71_3
  | 4 => exact congrArg (fun z => some (Value.int (iI z))) m71_4
  | 5 => exact congrArg (fun z => some (Value.int (iI z))) m71_5
  | 6 => exact congrArg (fun z => some (Value.int (iI z))) m71_6
  | 7 => exact congrArg (fun z => some (Value.int (iI z))) m71_7
  | 8 => exact congrArg (fun z => some (Value.int (iI z))) m71_8
  | 9 => exact rfl
  | 10 => exact rfl
  | 11 => exact rfl
  | 12 => exact rfl
  | 13 => exact rfl
  | 14 => exact rfl
  | 15 => exact rfl
  | 16 => exact congrArg (fun z => some (Value.int (iI z))) m71_16
  | 17 => exact congrArg (fun z => some (Value.int (iI z))) m71_17
  | 18 => exact rfl
  | 19 => exact congrArg (fun z => some (Value.int (iI z))) m71_19
  | 20 => exact rfl
  | 21 => exact rfl
  | 22 => exact rfl
  | 23 => exact rfl
  | 24 => exact congrArg (fun z => some (Value.int (iI z))) m71_24
  | 25 => exact rfl
  | 26 => exact congrArg (fun z => some (Value.int (iI z))) m71_26
  | 27 => exact congrArg (fun z => some (Value.int (iI z))) m71_27
  | 28 => exact congrArg (fun z => some (Value.int (iI z))) m71_28
  | 29 => exact rfl
  | 30 => exact rfl
  | 31 => exact rfl
  | 32 => exact rfl
  | 33 => exact congrArg (fun z => some (Value.int (iI z))) m71_33
  | 34 => exact congrArg (fun z => some (Value.int (iI z))) m71_34
  | 35 => exact rfl
  | 36 => exact rfl
  | 37 => exact congrArg (fun z => some (Value.int (iI z))) m71_37
  | 38 => exact rfl
  | 39 => exact rfl
  | 40 => exact rfl
  | 41 => exact rfl
  | 42 => exact rfl
  | 43 => exact rfl
  | 44 => exact rfl
  | 45 => exact congrArg (fun z => some (Value.int (iI z))) m71_45
  | j + 46 => rfl
theorem q0_0 {D : va_G} {u w : Uu} {st aK aV : Nat → Nat} {H : Heap} (h : va_P D vwCl (wk_X7_init u) H) : va_at D vwCl ((mkE u w D st aK aV).1 0, shp (mkE u w D st aK aV) M0 0) H := by
  have h := h 0 _ rfl
  exact h
theorem q0_1 {D : va_G} {u w : Uu} {st aK aV : Nat → Nat} {H : Heap} (h : va_P D vwCl (wk_X7_init u) H) : va_at D vwCl ((mkE u w D st aK aV).1 1, shp (mkE u w D st aK aV) M0 1) H := by
  have h := h 1 _ rfl
  exact h
theorem q0_2 {D : va_G} {u w : Uu} {st aK aV : Nat → Nat} {H : Heap} (h : va_P D vwCl (wk_X7_init u) H) : va_at D vwCl ((mkE u w D st aK aV).1 2, shp (mkE u w D st aK aV) M0 2) H := by
  have h := h 2 _ rfl
  rw [show (mkE u w D st aK aV).1 2 = u.1 2 from rfl, shp_arr (E := mkE u w D st aK aV) (M := M0) (i := 2) (k := 0) (n := 12) (fs := []) rfl (by decide), show (mkE u w D st aK aV).2.1 0 = u.2 0 from rfl]
  exact at_ext (fun j hj => (fA_e hj).trans (congrArg iI (fA_m j hj))) h
theorem q0_3 {D : va_G} {u w : Uu} {st aK aV : Nat → Nat} {H : Heap} (h : va_P D vwCl (wk_X7_init u) H) : va_at D vwCl ((mkE u w D st aK aV).1 3, shp (mkE u w D st aK aV) M0 3) H := by
  have h := h 3 _ rfl
  rw [show (mkE u w D st aK aV).1 3 = u.1 3 from rfl, shp_arr (E := mkE u w D st aK aV) (M := M0) (i := 3) (k := 0) (n := 16) (fs := []) rfl (by decide), show (mkE u w D st aK aV).2.1 0 = u.2 0 from rfl]
  exact at_ext (fun j hj => if_pos hj) h
theorem q0_4 {D : va_G} {u w : Uu} {st aK aV : Nat → Nat} {H : Heap} (h : va_P D vwCl (wk_X7_init u) H) : va_at D vwCl ((mkE u w D st aK aV).1 4, shp (mkE u w D st aK aV) M0 4) H := by
  have h := h 4 _ rfl
  exact h
theorem q0_5 {D : va_G} {u w : Uu} {st aK aV : Nat → Nat} {H : Heap} (h : va_P D vwCl (wk_X7_init u) H) : va_at D vwCl ((mkE u w D st aK aV).1 5, shp (mkE u w D st aK aV) M0 5) H := by
  have h := h 5 _ rfl
  rw [show (mkE u w D st aK aV).1 5 = u.1 5 from rfl, shp_arr (E := mkE u w D st aK aV) (M := M0) (i := 5) (k := 0) (n := 12) (fs := []) rfl (by decide), show (mkE u w D st aK aV).2.1 0 = u.2 0 from rfl]
  exact at_ext (fun j hj => (fA_e hj).trans (congrArg iI (fA_m j hj))) h
theorem q0_6 {D : va_G} {u w : Uu} {st aK aV : Nat → Nat} {H : Heap} (h : va_P D vwCl (wk_X7_init u) H) : va_at D vwCl ((mkE u w D st aK aV).1 6, shp (mkE u w D st aK aV) M0 6) H := by
  have h := h 6 _ rfl
  rw [show (mkE u w D st aK aV).1 6 = u.1 6 from rfl, shp_arr (E := mkE u w D st aK aV) (M := M0) (i := 6) (k := 0) (n := 16) (fs := []) rfl (by decide), show (mkE u w D st aK aV).2.1 0 = u.2 0 from rfl]
  exact at_ext (fun j hj => if_pos hj) h
theorem q0_7 {D : va_G} {u w : Uu} {st aK aV : Nat → Nat} {H : Heap} (h : va_P D vwCl (wk_X7_init u) H) : va_at D vwCl ((mkE u w D st aK aV).1 7, shp (mkE u w D st aK aV) M0 7) H := by
  have h := h 7 _ rfl
  exact h
theorem q0_8 {D : va_G} {u w : Uu} {st aK aV : Nat → Nat} {H : Heap} (h : va_P D vwCl (wk_X7_init u) H) : va_at D vwCl ((mkE u w D st aK aV).1 8, shp (mkE u w D st aK aV) M0 8) H := by
  have h := h 8 _ rfl
  exact h
theorem q0_9 {D : va_G} {u w : Uu} {st aK aV : Nat → Nat} {H : Heap} (h : va_P D vwCl (wk_X7_init u) H) : va_at D vwCl ((mkE u w D st aK aV).1 9, shp (mkE u w D st aK aV) M0 9) H := by
  have h := h 9 _ rfl
  rw [show (mkE u w D st aK aV).1 9 = u.1 9 from rfl, shp_arr (E := mkE u w D st aK aV) (M := M0) (i := 9) (k := 0) (n := 12) (fs := []) rfl (by decide), show (mkE u w D st aK aV).2.1 0 = u.2 0 from rfl]
  exact at_ext (fun j hj => (fA_e hj).trans (congrArg iI (fA_m j hj))) h
theorem q0_10 {D : va_G} {u w : Uu} {st aK aV : Nat → Nat} {H : Heap} (h : va_P D vwCl (wk_X7_init u) H) : va_at D vwCl ((mkE u w D st aK aV).1 10, shp (mkE u w D st aK aV) M0 10) H := by
  have h := h 10 _ rfl
  rw [show (mkE u w D st aK aV).1 10 = u.1 10 from rfl, shp_arr (E := mkE u w D st aK aV) (M := M0) (i := 10) (k := 0) (n := 16) (fs := []) rfl (by decide), show (mkE u w D st aK aV).2.1 0 = u.2 0 from rfl]
  exact at_ext (fun j hj => if_pos hj) h
theorem q0_11 {D : va_G} {u w : Uu} {st aK aV : Nat → Nat} {H : Heap} (h : va_P D vwCl (wk_X7_init u) H) : va_at D vwCl ((mkE u w D st aK aV).1 11, shp (mkE u w D st aK aV) M0 11) H := by
  have h := h 11 _ rfl
  rw [show (mkE u w D st aK aV).1 11 = u.1 11 from rfl, shp_arr (E := mkE u w D st aK aV) (M := M0) (i := 11) (k := 0) (n := 200) (fs := []) rfl (by decide), show (mkE u w D st aK aV).2.1 0 = u.2 0 from rfl]
  exact at_ext (fun _ _ => rfl) h
theorem q0_12 {D : va_G} {u w : Uu} {st aK aV : Nat → Nat} {H : Heap} (h : va_P D vwCl (wk_X7_init u) H) : va_at D vwCl ((mkE u w D st aK aV).1 12, shp (mkE u w D st aK aV) M0 12) H := by
  have h := h 12 _ rfl
  rw [show (mkE u w D st aK aV).1 12 = u.1 12 from rfl, shp_arr (E := mkE u w D st aK aV) (M := M0) (i := 12) (k := 0) (n := 384) (fs := []) rfl (by decide), show (mkE u w D st aK aV).2.1 0 = u.2 0 from rfl]
  exact at_ext (fun _ _ => rfl) h
theorem q0_13 {D : va_G} {u w : Uu} {st aK aV : Nat → Nat} {H : Heap} (h : va_P D vwCl (wk_X7_init u) H) : va_at D vwCl ((mkE u w D st aK aV).1 13, shp (mkE u w D st aK aV) M0 13) H := by
  have h := h 13 _ rfl
  rw [show (mkE u w D st aK aV).1 13 = u.1 13 from rfl, shp_arr (E := mkE u w D st aK aV) (M := M0) (i := 13) (k := 0) (n := 16) (fs := []) rfl (by decide), show (mkE u w D st aK aV).2.1 0 = u.2 0 from rfl]
  exact at_ext (fun _ _ => rfl) h
theorem q0_14 {D : va_G} {u w : Uu} {st aK aV : Nat → Nat} {H : Heap} (h : va_P D vwCl (wk_X7_init u) H) : va_at D vwCl ((mkE u w D st aK aV).1 14, shp (mkE u w D st aK aV) M0 14) H := by
  have h := h 14 _ rfl
  rw [show (mkE u w D st aK aV).1 14 = u.1 14 from rfl, shp_arr (E := mkE u w D st aK aV) (M := M0) (i := 14) (k := 0) (n := 16) (fs := []) rfl (by decide), show (mkE u w D st aK aV).2.1 0 = u.2 0 from rfl]
  exact at_ext (fun _ _ => rfl) h
theorem q0_15 {D : va_G} {u w : Uu} {st aK aV : Nat → Nat} {H : Heap} (h : va_P D vwCl (wk_X7_init u) H) : va_at D vwCl ((mkE u w D st aK aV).1 15, shp (mkE u w D st aK aV) M0 15) H := by
  have h := h 15 _ rfl
  rw [shp_ref (E := mkE u w D st aK aV) (M := M0) (i := 15) (k := 2) (n := 6) (fs := [some 21, some 26, some 31, some 36, some 41, some 46]) rfl (by decide) (by decide)]
  refine at_exq (fun j hj => ?_) h
  rcases (show j = 0 ∨ j = 1 ∨ j = 2 ∨ j = 3 ∨ j = 4 ∨ j = 5 by omega) with rfl | rfl | rfl | rfl | rfl | rfl
  · refine (va_up_ne _ _ (by decide +kernel)).trans ?_; refine (va_up_ne _ _ (by decide +kernel)).trans ?_; refine (va_up_ne _ _ (by decide +kernel)).trans ?_; refine (va_up_ne _ _ (by decide +kernel)).trans ?_; refine (va_up_ne _ _ (by decide +kernel)).trans ?_; exact (if_pos (by decide +kernel))
  · refine (va_up_ne _ _ (by decide +kernel)).trans ?_; refine (va_up_ne _ _ (by decide +kernel)).trans ?_; refine (va_up_ne _ _ (by decide +kernel)).trans ?_; refine (va_up_ne _ _ (by decide +kernel)).trans ?_; exact (if_pos (by decide +kernel))
  · refine (va_up_ne _ _ (by decide +kernel)).trans ?_; refine (va_up_ne _ _ (by decide +kernel)).trans ?_; refine (va_up_ne _ _ (by decide +kernel)).trans ?_; exact (if_pos (by decide +kernel))
  · refine (va_up_ne _ _ (by decide +kernel)).trans ?_; refine (va_up_ne _ _ (by decide +kernel)).trans ?_; exact (if_pos (by decide +kernel))
  · refine (va_up_ne _ _ (by decide +kernel)).trans ?_; exact (if_pos (by decide +kernel))
  · exact (if_pos (by decide +kernel))
theorem q0_16 {D : va_G} {u w : Uu} {st aK aV : Nat → Nat} {H : Heap} (h : va_P D vwCl (wk_X7_init u) H) : va_at D vwCl ((mkE u w D st aK aV).1 16, shp (mkE u w D st aK aV) M0 16) H := by
  have h := h 16 _ rfl
  exact h
theorem q0_17 {D : va_G} {u w : Uu} {st aK aV : Nat → Nat} {H : Heap} (h : va_P D vwCl (wk_X7_init u) H) : va_at D vwCl ((mkE u w D st aK aV).1 17, shp (mkE u w D st aK aV) M0 17) H := by
  have h := h 17 _ rfl
  rw [show (mkE u w D st aK aV).1 17 = u.1 17 from rfl, shp_arr (E := mkE u w D st aK aV) (M := M0) (i := 17) (k := 0) (n := 16) (fs := []) rfl (by decide), show (mkE u w D st aK aV).2.1 0 = u.2 0 from rfl]
  exact at_ext (fun _ _ => rfl) h
theorem q0_18 {D : va_G} {u w : Uu} {st aK aV : Nat → Nat} {H : Heap} (h : va_P D vwCl (wk_X7_init u) H) : va_at D vwCl ((mkE u w D st aK aV).1 18, shp (mkE u w D st aK aV) M0 18) H := by
  have h := h 18 _ rfl
  rw [show (mkE u w D st aK aV).1 18 = u.1 18 from rfl, shp_arr (E := mkE u w D st aK aV) (M := M0) (i := 18) (k := 0) (n := 16) (fs := []) rfl (by decide), show (mkE u w D st aK aV).2.1 0 = u.2 0 from rfl]
  exact at_ext (fun _ _ => rfl) h
theorem q0_19 {D : va_G} {u w : Uu} {st aK aV : Nat → Nat} {H : Heap} (h : va_P D vwCl (wk_X7_init u) H) : va_at D vwCl ((mkE u w D st aK aV).1 19, shp (mkE u w D st aK aV) M0 19) H := by
  have h := h 19 _ rfl
  rw [show (mkE u w D st aK aV).1 19 = u.1 19 from rfl, shp_arr (E := mkE u w D st aK aV) (M := M0) (i := 19) (k := 0) (n := 16) (fs := []) rfl (by decide), show (mkE u w D st aK aV).2.1 0 = u.2 0 from rfl]
  exact at_ext (fun _ _ => rfl) h
theorem q0_20 {D : va_G} {u w : Uu} {st aK aV : Nat → Nat} {H : Heap} (h : va_P D vwCl (wk_X7_init u) H) : va_at D vwCl ((mkE u w D st aK aV).1 20, shp (mkE u w D st aK aV) M0 20) H := by
  have h := h 20 _ rfl
  rw [show (mkE u w D st aK aV).1 20 = u.1 20 from rfl, shp_arr (E := mkE u w D st aK aV) (M := M0) (i := 20) (k := 0) (n := 16) (fs := []) rfl (by decide), show (mkE u w D st aK aV).2.1 0 = u.2 0 from rfl]
  exact at_ext (fun _ _ => rfl) h
theorem q0_21 {D : va_G} {u w : Uu} {st aK aV : Nat → Nat} {H : Heap} (h : va_P D vwCl (wk_X7_init u) H) : va_at D vwCl ((mkE u w D st aK aV).1 21, shp (mkE u w D st aK aV) M0 21) H := by
  have h := h 21 _ rfl
  exact h
theorem q0_22 {D : va_G} {u w : Uu} {st aK aV : Nat → Nat} {H : Heap} (h : va_P D vwCl (wk_X7_init u) H) : va_at D vwCl ((mkE u w D st aK aV).1 22, shp (mkE u w D st aK aV) M0 22) H := by
  have h := h 22 _ rfl
  rw [show (mkE u w D st aK aV).1 22 = u.1 22 from rfl, shp_arr (E := mkE u w D st aK aV) (M := M0) (i := 22) (k := 0) (n := 16) (fs := []) rfl (by decide), show (mkE u w D st aK aV).2.1 0 = u.2 0 from rfl]
  exact at_ext (fun _ _ => rfl) h
theorem q0_23 {D : va_G} {u w : Uu} {st aK aV : Nat → Nat} {H : Heap} (h : va_P D vwCl (wk_X7_init u) H) : va_at D vwCl ((mkE u w D st aK aV).1 23, shp (mkE u w D st aK aV) M0 23) H := by
  have h := h 23 _ rfl
  rw [show (mkE u w D st aK aV).1 23 = u.1 23 from rfl, shp_arr (E := mkE u w D st aK aV) (M := M0) (i := 23) (k := 0) (n := 16) (fs := []) rfl (by decide), show (mkE u w D st aK aV).2.1 0 = u.2 0 from rfl]
  exact at_ext (fun _ _ => rfl) h
theorem q0_24 {D : va_G} {u w : Uu} {st aK aV : Nat → Nat} {H : Heap} (h : va_P D vwCl (wk_X7_init u) H) : va_at D vwCl ((mkE u w D st aK aV).1 24, shp (mkE u w D st aK aV) M0 24) H := by
  have h := h 24 _ rfl
  rw [show (mkE u w D st aK aV).1 24 = u.1 24 from rfl, shp_arr (E := mkE u w D st aK aV) (M := M0) (i := 24) (k := 0) (n := 16) (fs := []) rfl (by decide), show (mkE u w D st aK aV).2.1 0 = u.2 0 from rfl]
  exact at_ext (fun _ _ => rfl) h
theorem q0_25 {D : va_G} {u w : Uu} {st aK aV : Nat → Nat} {H : Heap} (h : va_P D vwCl (wk_X7_init u) H) : va_at D vwCl ((mkE u w D st aK aV).1 25, shp (mkE u w D st aK aV) M0 25) H := by
  have h := h 25 _ rfl
  rw [show (mkE u w D st aK aV).1 25 = u.1 25 from rfl, shp_arr (E := mkE u w D st aK aV) (M := M0) (i := 25) (k := 0) (n := 16) (fs := []) rfl (by decide), show (mkE u w D st aK aV).2.1 0 = u.2 0 from rfl]
  exact at_ext (fun _ _ => rfl) h
theorem q0_26 {D : va_G} {u w : Uu} {st aK aV : Nat → Nat} {H : Heap} (h : va_P D vwCl (wk_X7_init u) H) : va_at D vwCl ((mkE u w D st aK aV).1 26, shp (mkE u w D st aK aV) M0 26) H := by
  have h := h 26 _ rfl
  exact h
theorem q0_27 {D : va_G} {u w : Uu} {st aK aV : Nat → Nat} {H : Heap} (h : va_P D vwCl (wk_X7_init u) H) : va_at D vwCl ((mkE u w D st aK aV).1 27, shp (mkE u w D st aK aV) M0 27) H := by
  have h := h 27 _ rfl
  rw [show (mkE u w D st aK aV).1 27 = u.1 27 from rfl, shp_arr (E := mkE u w D st aK aV) (M := M0) (i := 27) (k := 0) (n := 16) (fs := []) rfl (by decide), show (mkE u w D st aK aV).2.1 0 = u.2 0 from rfl]
  exact at_ext (fun _ _ => rfl) h
theorem q0_28 {D : va_G} {u w : Uu} {st aK aV : Nat → Nat} {H : Heap} (h : va_P D vwCl (wk_X7_init u) H) : va_at D vwCl ((mkE u w D st aK aV).1 28, shp (mkE u w D st aK aV) M0 28) H := by
  have h := h 28 _ rfl
  rw [show (mkE u w D st aK aV).1 28 = u.1 28 from rfl, shp_arr (E := mkE u w D st aK aV) (M := M0) (i := 28) (k := 0) (n := 16) (fs := []) rfl (by decide), show (mkE u w D st aK aV).2.1 0 = u.2 0 from rfl]
  exact at_ext (fun _ _ => rfl) h
theorem q0_29 {D : va_G} {u w : Uu} {st aK aV : Nat → Nat} {H : Heap} (h : va_P D vwCl (wk_X7_init u) H) : va_at D vwCl ((mkE u w D st aK aV).1 29, shp (mkE u w D st aK aV) M0 29) H := by
  have h := h 29 _ rfl
  rw [show (mkE u w D st aK aV).1 29 = u.1 29 from rfl, shp_arr (E := mkE u w D st aK aV) (M := M0) (i := 29) (k := 0) (n := 16) (fs := []) rfl (by decide), show (mkE u w D st aK aV).2.1 0 = u.2 0 from rfl]
  exact at_ext (fun _ _ => rfl) h
theorem q0_30 {D : va_G} {u w : Uu} {st aK aV : Nat → Nat} {H : Heap} (h : va_P D vwCl (wk_X7_init u) H) : va_at D vwCl ((mkE u w D st aK aV).1 30, shp (mkE u w D st aK aV) M0 30) H := by
  have h := h 30 _ rfl
  rw [show (mkE u w D st aK aV).1 30 = u.1 30 from rfl, shp_arr (E := mkE u w D st aK aV) (M := M0) (i := 30) (k := 0) (n := 16) (fs := []) rfl (by decide), show (mkE u w D st aK aV).2.1 0 = u.2 0 from rfl]
  exact at_ext (fun _ _ => rfl) h
theorem q0_31 {D : va_G} {u w : Uu} {st aK aV : Nat → Nat} {H : Heap} (h : va_P D vwCl (wk_X7_init u) H) : va_at D vwCl ((mkE u w D st aK aV).1 31, shp (mkE u w D st aK aV) M0 31) H := by
  have h := h 31 _ rfl
  exact h
theorem q0_32 {D : va_G} {u w : Uu} {st aK aV : Nat → Nat} {H : Heap} (h : va_P D vwCl (wk_X7_init u) H) : va_at D vwCl ((mkE u w D st aK aV).1 32, shp (mkE u w D st aK aV) M0 32) H := by
  have h := h 32 _ rfl
  rw [show (mkE u w D st aK aV).1 32 = u.1 32 from rfl, shp_arr (E := mkE u w D st aK aV) (M := M0) (i := 32) (k := 0) (n := 16) (fs := []) rfl (by decide), show (mkE u w D st aK aV).2.1 0 = u.2 0 from rfl]
  exact at_ext (fun _ _ => rfl) h
theorem q0_33 {D : va_G} {u w : Uu} {st aK aV : Nat → Nat} {H : Heap} (h : va_P D vwCl (wk_X7_init u) H) : va_at D vwCl ((mkE u w D st aK aV).1 33, shp (mkE u w D st aK aV) M0 33) H := by
  have h := h 33 _ rfl
  rw [show (mkE u w D st aK aV).1 33 = u.1 33 from rfl, shp_arr (E := mkE u w D st aK aV) (M := M0) (i := 33) (k := 0) (n := 16) (fs := []) rfl (by decide), show (mkE u w D st aK aV).2.1 0 = u.2 0 from rfl]
  exact at_ext (fun _ _ => rfl) h
theorem q0_34 {D : va_G} {u w : Uu} {st aK aV : Nat → Nat} {H : Heap} (h : va_P D vwCl (wk_X7_init u) H) : va_at D vwCl ((mkE u w D st aK aV).1 34, shp (mkE u w D st aK aV) M0 34) H := by
  have h := h 34 _ rfl
  rw [show (mkE u w D st aK aV).1 34 = u.1 34 from rfl, shp_arr (E := mkE u w D st aK aV) (M := M0) (i := 34) (k := 0) (n := 16) (fs := []) rfl (by decide), show (mkE u w D st aK aV).2.1 0 = u.2 0 from rfl]
  exact at_ext (fun _ _ => rfl) h
theorem q0_35 {D : va_G} {u w : Uu} {st aK aV : Nat → Nat} {H : Heap} (h : va_P D vwCl (wk_X7_init u) H) : va_at D vwCl ((mkE u w D st aK aV).1 35, shp (mkE u w D st aK aV) M0 35) H := by
  have h := h 35 _ rfl
  rw [show (mkE u w D st aK aV).1 35 = u.1 35 from rfl, shp_arr (E := mkE u w D st aK aV) (M := M0) (i := 35) (k := 0) (n := 16) (fs := []) rfl (by decide), show (mkE u w D st aK aV).2.1 0 = u.2 0 from rfl]
  exact at_ext (fun _ _ => rfl) h
theorem q0_36 {D : va_G} {u w : Uu} {st aK aV : Nat → Nat} {H : Heap} (h : va_P D vwCl (wk_X7_init u) H) : va_at D vwCl ((mkE u w D st aK aV).1 36, shp (mkE u w D st aK aV) M0 36) H := by
  have h := h 36 _ rfl
  exact h
theorem q0_37 {D : va_G} {u w : Uu} {st aK aV : Nat → Nat} {H : Heap} (h : va_P D vwCl (wk_X7_init u) H) : va_at D vwCl ((mkE u w D st aK aV).1 37, shp (mkE u w D st aK aV) M0 37) H := by
  have h := h 37 _ rfl
  rw [show (mkE u w D st aK aV).1 37 = u.1 37 from rfl, shp_arr (E := mkE u w D st aK aV) (M := M0) (i := 37) (k := 0) (n := 16) (fs := []) rfl (by decide), show (mkE u w D st aK aV).2.1 0 = u.2 0 from rfl]
  exact at_ext (fun _ _ => rfl) h
theorem q0_38 {D : va_G} {u w : Uu} {st aK aV : Nat → Nat} {H : Heap} (h : va_P D vwCl (wk_X7_init u) H) : va_at D vwCl ((mkE u w D st aK aV).1 38, shp (mkE u w D st aK aV) M0 38) H := by
  have h := h 38 _ rfl
  rw [show (mkE u w D st aK aV).1 38 = u.1 38 from rfl, shp_arr (E := mkE u w D st aK aV) (M := M0) (i := 38) (k := 0) (n := 16) (fs := []) rfl (by decide), show (mkE u w D st aK aV).2.1 0 = u.2 0 from rfl]
  exact at_ext (fun _ _ => rfl) h
theorem q0_39 {D : va_G} {u w : Uu} {st aK aV : Nat → Nat} {H : Heap} (h : va_P D vwCl (wk_X7_init u) H) : va_at D vwCl ((mkE u w D st aK aV).1 39, shp (mkE u w D st aK aV) M0 39) H := by
  have h := h 39 _ rfl
  rw [show (mkE u w D st aK aV).1 39 = u.1 39 from rfl, shp_arr (E := mkE u w D st aK aV) (M := M0) (i := 39) (k := 0) (n := 16) (fs := []) rfl (by decide), show (mkE u w D st aK aV).2.1 0 = u.2 0 from rfl]
  exact at_ext (fun _ _ => rfl) h
theorem q0_40 {D : va_G} {u w : Uu} {st aK aV : Nat → Nat} {H : Heap} (h : va_P D vwCl (wk_X7_init u) H) : va_at D vwCl ((mkE u w D st aK aV).1 40, shp (mkE u w D st aK aV) M0 40) H := by
  have h := h 40 _ rfl
  rw [show (mkE u w D st aK aV).1 40 = u.1 40 from rfl, shp_arr (E := mkE u w D st aK aV) (M := M0) (i := 40) (k := 0) (n := 16) (fs := []) rfl (by decide), show (mkE u w D st aK aV).2.1 0 = u.2 0 from rfl]
  exact at_ext (fun _ _ => rfl) h
theorem q0_41 {D : va_G} {u w : Uu} {st aK aV : Nat → Nat} {H : Heap} (h : va_P D vwCl (wk_X7_init u) H) : va_at D vwCl ((mkE u w D st aK aV).1 41, shp (mkE u w D st aK aV) M0 41) H := by
  have h := h 41 _ rfl
  exact h
theorem q0_42 {D : va_G} {u w : Uu} {st aK aV : Nat → Nat} {H : Heap} (h : va_P D vwCl (wk_X7_init u) H) : va_at D vwCl ((mkE u w D st aK aV).1 42, shp (mkE u w D st aK aV) M0 42) H := by
  have h := h 42 _ rfl
  rw [show (mkE u w D st aK aV).1 42 = u.1 42 from rfl, shp_arr (E := mkE u w D st aK aV) (M := M0) (i := 42) (k := 0) (n := 16) (fs := []) rfl (by decide), show (mkE u w D st aK aV).2.1 0 = u.2 0 from rfl]
  exact at_ext (fun _ _ => rfl) h
theorem q0_43 {D : va_G} {u w : Uu} {st aK aV : Nat → Nat} {H : Heap} (h : va_P D vwCl (wk_X7_init u) H) : va_at D vwCl ((mkE u w D st aK aV).1 43, shp (mkE u w D st aK aV) M0 43) H := by
  have h := h 43 _ rfl
  rw [show (mkE u w D st aK aV).1 43 = u.1 43 from rfl, shp_arr (E := mkE u w D st aK aV) (M := M0) (i := 43) (k := 0) (n := 16) (fs := []) rfl (by decide), show (mkE u w D st aK aV).2.1 0 = u.2 0 from rfl]
  exact at_ext (fun _ _ => rfl) h
theorem q0_44 {D : va_G} {u w : Uu} {st aK aV : Nat → Nat} {H : Heap} (h : va_P D vwCl (wk_X7_init u) H) : va_at D vwCl ((mkE u w D st aK aV).1 44, shp (mkE u w D st aK aV) M0 44) H := by
  have h := h 44 _ rfl
  rw [show (mkE u w D st aK aV).1 44 = u.1 44 from rfl, shp_arr (E := mkE u w D st aK aV) (M := M0) (i := 44) (k := 0) (n := 16) (fs := []) rfl (by decide), show (mkE u w D st aK aV).2.1 0 = u.2 0 from rfl]
  exact at_ext (fun _ _ => rfl) h
theorem q0_45 {D : va_G} {u w : Uu} {st aK aV : Nat → Nat} {H : Heap} (h : va_P D vwCl (wk_X7_init u) H) : va_at D vwCl ((mkE u w D st aK aV).1 45, shp (mkE u w D st aK aV) M0 45) H := by
  have h := h 45 _ rfl
  rw [show (mkE u w D st aK aV).1 45 = u.1 45 from rfl, shp_arr (E := mkE u w D st aK aV) (M := M0) (i := 45) (k := 0) (n := 16) (fs := []) rfl (by decide), show (mkE u w D st aK aV).2.1 0 = u.2 0 from rfl]
  exact at_ext (fun _ _ => rfl) h
theorem q0_46 {D : va_G} {u w : Uu} {st aK aV : Nat → Nat} {H : Heap} (h : va_P D vwCl (wk_X7_init u) H) : va_at D vwCl ((mkE u w D st aK aV).1 46, shp (mkE u w D st aK aV) M0 46) H := by
  have h := h 46 _ rfl
  exact h
theorem q0_47 {D : va_G} {u w : Uu} {st aK aV : Nat → Nat} {H : Heap} (h : va_P D vwCl (wk_X7_init u) H) : va_at D vwCl ((mkE u w D st aK aV).1 47, shp (mkE u w D st aK aV) M0 47) H := by
  have h := h 47 _ rfl
  rw [show (mkE u w D st aK aV).1 47 = u.1 47 from rfl, shp_arr (E := mkE u w D st aK aV) (M := M0) (i := 47) (k := 0) (n := 16) (fs := []) rfl (by decide), show (mkE u w D st aK aV).2.1 0 = u.2 0 from rfl]
  exact at_ext (fun _ _ => rfl) h
theorem q0_48 {D : va_G} {u w : Uu} {st aK aV : Nat → Nat} {H : Heap} (h : va_P D vwCl (wk_X7_init u) H) : va_at D vwCl ((mkE u w D st aK aV).1 48, shp (mkE u w D st aK aV) M0 48) H := by
  have h := h 48 _ rfl
  rw [show (mkE u w D st aK aV).1 48 = u.1 48 from rfl, shp_arr (E := mkE u w D st aK aV) (M := M0) (i := 48) (k := 0) (n := 16) (fs := []) rfl (by decide), show (mkE u w D st aK aV).2.1 0 = u.2 0 from rfl]
  exact at_ext (fun _ _ => rfl) h
theorem q0_49 {D : va_G} {u w : Uu} {st aK aV : Nat → Nat} {H : Heap} (h : va_P D vwCl (wk_X7_init u) H) : va_at D vwCl ((mkE u w D st aK aV).1 49, shp (mkE u w D st aK aV) M0 49) H := by
  have h := h 49 _ rfl
  rw [show (mkE u w D st aK aV).1 49 = u.1 49 from rfl, shp_arr (E := mkE u w D st aK aV) (M := M0) (i := 49) (k := 0) (n := 16) (fs := []) rfl (by decide), show (mkE u w D st aK aV).2.1 0 = u.2 0 from rfl]
  exact at_ext (fun _ _ => rfl) h
theorem q0_50 {D : va_G} {u w : Uu} {st aK aV : Nat → Nat} {H : Heap} (h : va_P D vwCl (wk_X7_init u) H) : va_at D vwCl ((mkE u w D st aK aV).1 50, shp (mkE u w D st aK aV) M0 50) H := by
  have h := h 50 _ rfl
  rw [show (mkE u w D st aK aV).1 50 = u.1 50 from rfl, shp_arr (E := mkE u w D st aK aV) (M := M0) (i := 50) (k := 0) (n := 16) (fs := []) rfl (by decide), show (mkE u w D st aK aV).2.1 0 = u.2 0 from rfl]
  exact at_ext (fun _ _ => rfl) h
theorem q0_51 {D : va_G} {u w : Uu} {st aK aV : Nat → Nat} {H : Heap} (h : va_P D vwCl (wk_X7_init u) H) : va_at D vwCl ((mkE u w D st aK aV).1 51, shp (mkE u w D st aK aV) M0 51) H := by
  have h := h 51 _ rfl
  exact h
theorem q0_52 {D : va_G} {u w : Uu} {st aK aV : Nat → Nat} {H : Heap} (h : va_P D vwCl (wk_X7_init u) H) : va_at D vwCl ((mkE u w D st aK aV).1 52, shp (mkE u w D st aK aV) M0 52) H := by
  have h := h 52 _ rfl
  rw [show (mkE u w D st aK aV).1 52 = u.1 52 from rfl, shp_arr (E := mkE u w D st aK aV) (M := M0) (i := 52) (k := 0) (n := 156) (fs := []) rfl (by decide), show (mkE u w D st aK aV).2.1 0 = u.2 0 from rfl]
  exact at_ext (fun _ _ => rfl) h
theorem q0_53 {D : va_G} {u w : Uu} {st aK aV : Nat → Nat} {H : Heap} (h : va_P D vwCl (wk_X7_init u) H) : va_at D vwCl ((mkE u w D st aK aV).1 53, shp (mkE u w D st aK aV) M0 53) H := by
  have h := h 53 _ rfl
  exact h
theorem q0_54 {D : va_G} {u w : Uu} {st aK aV : Nat → Nat} {H : Heap} (h : va_P D vwCl (wk_X7_init u) H) : va_at D vwCl ((mkE u w D st aK aV).1 54, shp (mkE u w D st aK aV) M0 54) H := by
  have h := h 54 _ rfl
  rw [show (mkE u w D st aK aV).1 54 = u.1 54 from rfl, shp_arr (E := mkE u w D st aK aV) (M := M0) (i := 54) (k := 0) (n := 26) (fs := []) rfl (by decide), show (mkE u w D st aK aV).2.1 0 = u.2 0 from rfl]
  exact at_ext (fun _ _ => rfl) h
theorem q0_55 {D : va_G} {u w : Uu} {st aK aV : Nat → Nat} {H : Heap} (h : va_P D vwCl (wk_X7_init u) H) : va_at D vwCl ((mkE u w D st aK aV).1 55, shp (mkE u w D st aK aV) M0 55) H := by
  have h := h 55 _ rfl
  rw [show (mkE u w D st aK aV).1 55 = u.1 55 from rfl, shp_arr (E := mkE u w D st aK aV) (M := M0) (i := 55) (k := 0) (n := 26) (fs := []) rfl (by decide), show (mkE u w D st aK aV).2.1 0 = u.2 0 from rfl]
  exact at_ext (fun _ _ => rfl) h
theorem q0_56 {D : va_G} {u w : Uu} {st aK aV : Nat → Nat} {H : Heap} (h : va_P D vwCl (wk_X7_init u) H) : va_at D vwCl ((mkE u w D st aK aV).1 56, shp (mkE u w D st aK aV) M0 56) H := by
  have h := h 56 _ rfl
  rw [show (mkE u w D st aK aV).1 56 = u.1 56 from rfl, shp_arr (E := mkE u w D st aK aV) (M := M0) (i := 56) (k := 0) (n := 26) (fs := []) rfl (by decide), show (mkE u w D st aK aV).2.1 0 = u.2 0 from rfl]
  exact at_ext (fun _ _ => rfl) h
theorem q0_57 {D : va_G} {u w : Uu} {st aK aV : Nat → Nat} {H : Heap} (h : va_P D vwCl (wk_X7_init u) H) : va_at D vwCl ((mkE u w D st aK aV).1 57, shp (mkE u w D st aK aV) M0 57) H := by
  have h := h 57 _ rfl
  exact h
theorem q0_58 {D : va_G} {u w : Uu} {st aK aV : Nat → Nat} {H : Heap} (h : va_P D vwCl (wk_X7_init u) H) : va_at D vwCl ((mkE u w D st aK aV).1 58, shp (mkE u w D st aK aV) M0 58) H := by
  have h := h 58 _ rfl
  rw [show (mkE u w D st aK aV).1 58 = u.1 58 from rfl, shp_arr (E := mkE u w D st aK aV) (M := M0) (i := 58) (k := 0) (n := 12) (fs := []) rfl (by decide), show (mkE u w D st aK aV).2.1 0 = u.2 0 from rfl]
  exact at_ext (fun _ _ => rfl) h
theorem q0_59 {D : va_G} {u w : Uu} {st aK aV : Nat → Nat} {H : Heap} (h : va_P D vwCl (wk_X7_init u) H) : va_at D vwCl ((mkE u w D st aK aV).1 59, shp (mkE u w D st aK aV) M0 59) H := by
  have h := h 59 _ rfl
  rw [show (mkE u w D st aK aV).1 59 = u.1 59 from rfl, shp_arr (E := mkE u w D st aK aV) (M := M0) (i := 59) (k := 0) (n := 12) (fs := []) rfl (by decide), show (mkE u w D st aK aV).2.1 0 = u.2 0 from rfl]
  exact at_ext (fun _ _ => rfl) h
theorem q0_60 {D : va_G} {u w : Uu} {st aK aV : Nat → Nat} {H : Heap} (h : va_P D vwCl (wk_X7_init u) H) : va_at D vwCl ((mkE u w D st aK aV).1 60, shp (mkE u w D st aK aV) M0 60) H := by
  have h := h 60 _ rfl
  rw [show (mkE u w D st aK aV).1 60 = u.1 60 from rfl, shp_arr (E := mkE u w D st aK aV) (M := M0) (i := 60) (k := 0) (n := 12) (fs := []) rfl (by decide), show (mkE u w D st aK aV).2.1 0 = u.2 0 from rfl]
  exact at_ext (fun _ _ => rfl) h
theorem q0_61 {D : va_G} {u w : Uu} {st aK aV : Nat → Nat} {H : Heap} (h : va_P D vwCl (wk_X7_init u) H) : va_at D vwCl ((mkE u w D st aK aV).1 61, shp (mkE u w D st aK aV) M0 61) H := by
  have h := h 61 _ rfl
  rw [show (mkE u w D st aK aV).1 61 = u.1 61 from rfl, shp_arr (E := mkE u w D st aK aV) (M := M0) (i := 61) (k := 1) (n := 12) (fs := []) rfl (by decide), show (mkE u w D st aK aV).2.1 1 = u.2 2 from rfl]
  exact at_ext (fun _ _ => rfl) h
theorem q0_62 {D : va_G} {u w : Uu} {st aK aV : Nat → Nat} {H : Heap} (h : va_P D vwCl (wk_X7_init u) H) : va_at D vwCl ((mkE u w D st aK aV).1 62, shp (mkE u w D st aK aV) M0 62) H := by
  have h := h 62 _ rfl
  rw [shp_ref (E := mkE u w D st aK aV) (M := M0) (i := 62) (k := 3) (n := 4) (fs := [some 63, some 65, some 67, some 69]) rfl (by decide) (by decide)]
  refine at_exq (fun j hj => ?_) h
  rcases (show j = 0 ∨ j = 1 ∨ j = 2 ∨ j = 3 by omega) with rfl | rfl | rfl | rfl
  · refine (va_up_ne _ _ (by decide +kernel)).trans ?_; refine (va_up_ne _ _ (by decide +kernel)).trans ?_; refine (va_up_ne _ _ (by decide +kernel)).trans ?_; exact (if_pos (by decide +kernel))
  · refine (va_up_ne _ _ (by decide +kernel)).trans ?_; refine (va_up_ne _ _ (by decide +kernel)).trans ?_; exact (if_pos (by decide +kernel))
  · refine (va_up_ne _ _ (by decide +kernel)).trans ?_; exact (if_pos (by decide +kernel))
  · exact (if_pos (by decide +kernel))
theorem q0_63 {D : va_G} {u w : Uu} {st aK aV : Nat → Nat} {H : Heap} (h : va_P D vwCl (wk_X7_init u) H) : va_at D vwCl ((mkE u w D st aK aV).1 63, shp (mkE u w D st aK aV) M0 63) H := by
  have h := h 63 _ rfl
  exact h
theorem q0_64 {D : va_G} {u w : Uu} {st aK aV : Nat → Nat} {H : Heap} (h : va_P D vwCl (wk_X7_init u) H) : va_at D vwCl ((mkE u w D st aK aV).1 64, shp (mkE u w D st aK aV) M0 64) H := by
  have h := h 64 _ rfl
  rw [show (mkE u w D st aK aV).1 64 = u.1 64 from rfl, shp_arr (E := mkE u w D st aK aV) (M := M0) (i := 64) (k := 0) (n := 64) (fs := []) rfl (by decide), show (mkE u w D st aK aV).2.1 0 = u.2 0 from rfl]
  exact at_ext (fun _ _ => rfl) h
theorem q0_65 {D : va_G} {u w : Uu} {st aK aV : Nat → Nat} {H : Heap} (h : va_P D vwCl (wk_X7_init u) H) : va_at D vwCl ((mkE u w D st aK aV).1 65, shp (mkE u w D st aK aV) M0 65) H := by
  have h := h 65 _ rfl
  exact h
theorem q0_66 {D : va_G} {u w : Uu} {st aK aV : Nat → Nat} {H : Heap} (h : va_P D vwCl (wk_X7_init u) H) : va_at D vwCl ((mkE u w D st aK aV).1 66, shp (mkE u w D st aK aV) M0 66) H := by
  have h := h 66 _ rfl
  rw [show (mkE u w D st aK aV).1 66 = u.1 66 from rfl, shp_arr (E := mkE u w D st aK aV) (M := M0) (i := 66) (k := 0) (n := 64) (fs := []) rfl (by decide), show (mkE u w D st aK aV).2.1 0 = u.2 0 from rfl]
  exact at_ext (fun _ _ => rfl) h
theorem q0_67 {D : va_G} {u w : Uu} {st aK aV : Nat → Nat} {H : Heap} (h : va_P D vwCl (wk_X7_init u) H) : va_at D vwCl ((mkE u w D st aK aV).1 67, shp (mkE u w D st aK aV) M0 67) H := by
  have h := h 67 _ rfl
  exact h
theorem q0_68 {D : va_G} {u w : Uu} {st aK aV : Nat → Nat} {H : Heap} (h : va_P D vwCl (wk_X7_init u) H) : va_at D vwCl ((mkE u w D st aK aV).1 68, shp (mkE u w D st aK aV) M0 68) H := by
  have h := h 68 _ rfl
  rw [show (mkE u w D st aK aV).1 68 = u.1 68 from rfl, shp_arr (E := mkE u w D st aK aV) (M := M0) (i := 68) (k := 0) (n := 64) (fs := []) rfl (by decide), show (mkE u w D st aK aV).2.1 0 = u.2 0 from rfl]
  exact at_ext (fun _ _ => rfl) h
theorem q0_69 {D : va_G} {u w : Uu} {st aK aV : Nat → Nat} {H : Heap} (h : va_P D vwCl (wk_X7_init u) H) : va_at D vwCl ((mkE u w D st aK aV).1 69, shp (mkE u w D st aK aV) M0 69) H := by
  have h := h 69 _ rfl
  exact h
theorem q0_70 {D : va_G} {u w : Uu} {st aK aV : Nat → Nat} {H : Heap} (h : va_P D vwCl (wk_X7_init u) H) : va_at D vwCl ((mkE u w D st aK aV).1 70, shp (mkE u w D st aK aV) M0 70) H := by
  have h := h 70 _ rfl
  rw [show (mkE u w D st aK aV).1 70 = u.1 70 from rfl, shp_arr (E := mkE u w D st aK aV) (M := M0) (i := 70) (k := 0) (n := 64) (fs := []) rfl (by decide), show (mkE u w D st aK aV).2.1 0 = u.2 0 from rfl]
  exact at_ext (fun _ _ => rfl) h
theorem q0_71 {D : va_G} {u w : Uu} {st aK aV : Nat → Nat} {H : Heap} (c0 : w.2 0 = u.2 0) (c1 : w.2 1 = u.2 2) (h : va_P D vwCl (wk_X8_init w) H) : va_at D vwCl ((mkE u w D st aK aV).1 71, shp (mkE u w D st aK aV) M0 71) H := by
  have h := h 0 _ rfl
  rw [shp_obj (E := mkE u w D st aK aV) (M := M0) (i := 71) (ci := 8) (n := 0) (fs := fs71) rfl, fl71]
  exact h
theorem q0_72 {D : va_G} {u w : Uu} {st aK aV : Nat → Nat} {H : Heap} (c0 : w.2 0 = u.2 0) (c1 : w.2 1 = u.2 2) (h : va_P D vwCl (wk_X8_init w) H) : va_at D vwCl ((mkE u w D st aK aV).1 72, shp (mkE u w D st aK aV) M0 72) H := by
  have h := h 1 _ rfl
  rw [show (mkE u w D st aK aV).1 72 = w.1 1 from rfl, shp_arr (E := mkE u w D st aK aV) (M := M0) (i := 72) (k := 0) (n := 200) (fs := []) rfl (by decide), show (mkE u w D st aK aV).2.1 0 = w.2 0 from c0.symm]
  exact at_ext (fun _ _ => rfl) h
theorem q0_73 {D : va_G} {u w : Uu} {st aK aV : Nat → Nat} {H : Heap} (c0 : w.2 0 = u.2 0) (c1 : w.2 1 = u.2 2) (h : va_P D vwCl (wk_X8_init w) H) : va_at D vwCl ((mkE u w D st aK aV).1 73, shp (mkE u w D st aK aV) M0 73) H := by
  have h := h 2 _ rfl
  rw [show (mkE u w D st aK aV).1 73 = w.1 2 from rfl, shp_arr (E := mkE u w D st aK aV) (M := M0) (i := 73) (k := 0) (n := 17) (fs := []) rfl (by decide), show (mkE u w D st aK aV).2.1 0 = w.2 0 from c0.symm]
  exact at_ext (fun _ _ => rfl) h
theorem q0_74 {D : va_G} {u w : Uu} {st aK aV : Nat → Nat} {H : Heap} (c0 : w.2 0 = u.2 0) (c1 : w.2 1 = u.2 2) (h : va_P D vwCl (wk_X8_init w) H) : va_at D vwCl ((mkE u w D st aK aV).1 74, shp (mkE u w D st aK aV) M0 74) H := by
  have h := h 3 _ rfl
  rw [show (mkE u w D st aK aV).1 74 = w.1 3 from rfl, shp_arr (E := mkE u w D st aK aV) (M := M0) (i := 74) (k := 0) (n := 69) (fs := []) rfl (by decide), show (mkE u w D st aK aV).2.1 0 = w.2 0 from c0.symm]
  exact at_ext (fun _ _ => rfl) h
theorem q0_75 {D : va_G} {u w : Uu} {st aK aV : Nat → Nat} {H : Heap} (c0 : w.2 0 = u.2 0) (c1 : w.2 1 = u.2 2) (h : va_P D vwCl (wk_X8_init w) H) : va_at D vwCl ((mkE u w D st aK aV).1 75, shp (mkE u w D st aK aV) M0 75) H := by
  have h := h 4 _ rfl
  rw [show (mkE u w D st aK aV).1 75 = w.1 4 from rfl, shp_arr (E := mkE u w D st aK aV) (M := M0) (i := 75) (k := 0) (n := 28) (fs := []) rfl (by decide), show (mkE u w D st aK aV).2.1 0 = w.2 0 from c0.symm]
  exact at_ext (fun _ _ => rfl) h
theorem q0_76 {D : va_G} {u w : Uu} {st aK aV : Nat → Nat} {H : Heap} (c0 : w.2 0 = u.2 0) (c1 : w.2 1 = u.2 2) (h : va_P D vwCl (wk_X8_init w) H) : va_at D vwCl ((mkE u w D st aK aV).1 76, shp (mkE u w D st aK aV) M0 76) H := by
  have h := h 5 _ rfl
  rw [show (mkE u w D st aK aV).1 76 = w.1 5 from rfl, shp_arr (E := mkE u w D st aK aV) (M := M0) (i := 76) (k := 0) (n := 13) (fs := []) rfl (by decide), show (mkE u w D st aK aV).2.1 0 = w.2 0 from c0.symm]
  exact at_ext (fun _ _ => rfl) h
theorem q0_77 {D : va_G} {u w : Uu} {st aK aV : Nat → Nat} {H : Heap} (c0 : w.2 0 = u.2 0) (c1 : w.2 1 = u.2 2) (h : va_P D vwCl (wk_X8_init w) H) : va_at D vwCl ((mkE u w D st aK aV).1 77, shp (mkE u w D st aK aV) M0 77) H := by
  have h := h 6 _ rfl
  rw [show (mkE u w D st aK aV).1 77 = w.1 6 from rfl, shp_arr (E := mkE u w D st aK aV) (M := M0) (i := 77) (k := 0) (n := 13) (fs := []) rfl (by decide), show (mkE u w D st aK aV).2.1 0 = w.2 0 from c0.symm]
  exact at_ext (fun _ _ => rfl) h
theorem q0_78 {D : va_G} {u w : Uu} {st aK aV : Nat → Nat} {H : Heap} (c0 : w.2 0 = u.2 0) (c1 : w.2 1 = u.2 2) (h : va_P D vwCl (wk_X8_init w) H) : va_at D vwCl ((mkE u w D st aK aV).1 78, shp (mkE u w D st aK aV) M0 78) H := by
  have h := h 7 _ rfl
  rw [show (mkE u w D st aK aV).1 78 = w.1 7 from rfl, shp_arr (E := mkE u w D st aK aV) (M := M0) (i := 78) (k := 0) (n := 28) (fs := []) rfl (by decide), show (mkE u w D st aK aV).2.1 0 = w.2 0 from c0.symm]
  exact at_ext (fun _ _ => rfl) h
theorem q0_79 {D : va_G} {u w : Uu} {st aK aV : Nat → Nat} {H : Heap} (c0 : w.2 0 = u.2 0) (c1 : w.2 1 = u.2 2) (h : va_P D vwCl (wk_X8_init w) H) : va_at D vwCl ((mkE u w D st aK aV).1 79, shp (mkE u w D st aK aV) M0 79) H := by
  have h := h 8 _ rfl
  rw [show (mkE u w D st aK aV).1 79 = w.1 8 from rfl, shp_arr (E := mkE u w D st aK aV) (M := M0) (i := 79) (k := 0) (n := 28) (fs := []) rfl (by decide), show (mkE u w D st aK aV).2.1 0 = w.2 0 from c0.symm]
  exact at_ext (fun _ _ => rfl) h
theorem q0_80 {D : va_G} {u w : Uu} {st aK aV : Nat → Nat} {H : Heap} (c0 : w.2 0 = u.2 0) (c1 : w.2 1 = u.2 2) (h : va_P D vwCl (wk_X8_init w) H) : va_at D vwCl ((mkE u w D st aK aV).1 80, shp (mkE u w D st aK aV) M0 80) H := by
  have h := h 9 _ rfl
  rw [show (mkE u w D st aK aV).1 80 = w.1 9 from rfl, shp_arr (E := mkE u w D st aK aV) (M := M0) (i := 80) (k := 0) (n := 384) (fs := []) rfl (by decide), show (mkE u w D st aK aV).2.1 0 = w.2 0 from c0.symm]
  exact at_ext (fun _ _ => rfl) h
theorem q0_81 {D : va_G} {u w : Uu} {st aK aV : Nat → Nat} {H : Heap} (c0 : w.2 0 = u.2 0) (c1 : w.2 1 = u.2 2) (h : va_P D vwCl (wk_X8_init w) H) : va_at D vwCl ((mkE u w D st aK aV).1 81, shp (mkE u w D st aK aV) M0 81) H := by
  have h := h 10 _ rfl
  rw [show (mkE u w D st aK aV).1 81 = w.1 10 from rfl, shp_arr (E := mkE u w D st aK aV) (M := M0) (i := 81) (k := 0) (n := 16) (fs := []) rfl (by decide), show (mkE u w D st aK aV).2.1 0 = w.2 0 from c0.symm]
  exact at_ext (fun _ _ => rfl) h
theorem q0_82 {D : va_G} {u w : Uu} {st aK aV : Nat → Nat} {H : Heap} (c0 : w.2 0 = u.2 0) (c1 : w.2 1 = u.2 2) (h : va_P D vwCl (wk_X8_init w) H) : va_at D vwCl ((mkE u w D st aK aV).1 82, shp (mkE u w D st aK aV) M0 82) H := by
  have h := h 11 _ rfl
  rw [show (mkE u w D st aK aV).1 82 = w.1 11 from rfl, shp_arr (E := mkE u w D st aK aV) (M := M0) (i := 82) (k := 0) (n := 16) (fs := []) rfl (by decide), show (mkE u w D st aK aV).2.1 0 = w.2 0 from c0.symm]
  exact at_ext (fun _ _ => rfl) h
theorem q0_83 {D : va_G} {u w : Uu} {st aK aV : Nat → Nat} {H : Heap} (c0 : w.2 0 = u.2 0) (c1 : w.2 1 = u.2 2) (h : va_P D vwCl (wk_X8_init w) H) : va_at D vwCl ((mkE u w D st aK aV).1 83, shp (mkE u w D st aK aV) M0 83) H := by
  have h := h 12 _ rfl
  rw [show (mkE u w D st aK aV).1 83 = w.1 12 from rfl, shp_arr (E := mkE u w D st aK aV) (M := M0) (i := 83) (k := 0) (n := 16) (fs := []) rfl (by decide), show (mkE u w D st aK aV).2.1 0 = w.2 0 from c0.symm]
  exact at_ext (fun _ _ => rfl) h
theorem q0_84 {D : va_G} {u w : Uu} {st aK aV : Nat → Nat} {H : Heap} (c0 : w.2 0 = u.2 0) (c1 : w.2 1 = u.2 2) (h : va_P D vwCl (wk_X8_init w) H) : va_at D vwCl ((mkE u w D st aK aV).1 84, shp (mkE u w D st aK aV) M0 84) H := by
  have h := h 13 _ rfl
  rw [show (mkE u w D st aK aV).1 84 = w.1 13 from rfl, shp_arr (E := mkE u w D st aK aV) (M := M0) (i := 84) (k := 0) (n := 16) (fs := []) rfl (by decide), show (mkE u w D st aK aV).2.1 0 = w.2 0 from c0.symm]
  exact at_ext (fun _ _ => rfl) h
theorem q0_85 {D : va_G} {u w : Uu} {st aK aV : Nat → Nat} {H : Heap} (c0 : w.2 0 = u.2 0) (c1 : w.2 1 = u.2 2) (h : va_P D vwCl (wk_X8_init w) H) : va_at D vwCl ((mkE u w D st aK aV).1 85, shp (mkE u w D st aK aV) M0 85) H := by
  have h := h 14 _ rfl
  rw [show (mkE u w D st aK aV).1 85 = w.1 14 from rfl, shp_arr (E := mkE u w D st aK aV) (M := M0) (i := 85) (k := 0) (n := 16) (fs := []) rfl (by decide), show (mkE u w D st aK aV).2.1 0 = w.2 0 from c0.symm]
  exact at_ext (fun _ _ => rfl) h
theorem q0_86 {D : va_G} {u w : Uu} {st aK aV : Nat → Nat} {H : Heap} (c0 : w.2 0 = u.2 0) (c1 : w.2 1 = u.2 2) (h : va_P D vwCl (wk_X8_init w) H) : va_at D vwCl ((mkE u w D st aK aV).1 86, shp (mkE u w D st aK aV) M0 86) H := by
  have h := h 15 _ rfl
  rw [show (mkE u w D st aK aV).1 86 = w.1 15 from rfl, shp_arr (E := mkE u w D st aK aV) (M := M0) (i := 86) (k := 0) (n := 156) (fs := []) rfl (by decide), show (mkE u w D st aK aV).2.1 0 = w.2 0 from c0.symm]
  exact at_ext (fun _ _ => rfl) h
theorem q0_87 {D : va_G} {u w : Uu} {st aK aV : Nat → Nat} {H : Heap} (c0 : w.2 0 = u.2 0) (c1 : w.2 1 = u.2 2) (h : va_P D vwCl (wk_X8_init w) H) : va_at D vwCl ((mkE u w D st aK aV).1 87, shp (mkE u w D st aK aV) M0 87) H := by
  have h := h 16 _ rfl
  rw [show (mkE u w D st aK aV).1 87 = w.1 16 from rfl, shp_arr (E := mkE u w D st aK aV) (M := M0) (i := 87) (k := 0) (n := 16) (fs := []) rfl (by decide), show (mkE u w D st aK aV).2.1 0 = w.2 0 from c0.symm]
  exact at_ext (fun _ _ => rfl) h
theorem q0_88 {D : va_G} {u w : Uu} {st aK aV : Nat → Nat} {H : Heap} (c0 : w.2 0 = u.2 0) (c1 : w.2 1 = u.2 2) (h : va_P D vwCl (wk_X8_init w) H) : va_at D vwCl ((mkE u w D st aK aV).1 88, shp (mkE u w D st aK aV) M0 88) H := by
  have h := h 17 _ rfl
  rw [show (mkE u w D st aK aV).1 88 = w.1 17 from rfl, shp_arr (E := mkE u w D st aK aV) (M := M0) (i := 88) (k := 0) (n := 26) (fs := []) rfl (by decide), show (mkE u w D st aK aV).2.1 0 = w.2 0 from c0.symm]
  exact at_ext (fun _ _ => rfl) h
theorem q0_89 {D : va_G} {u w : Uu} {st aK aV : Nat → Nat} {H : Heap} (c0 : w.2 0 = u.2 0) (c1 : w.2 1 = u.2 2) (h : va_P D vwCl (wk_X8_init w) H) : va_at D vwCl ((mkE u w D st aK aV).1 89, shp (mkE u w D st aK aV) M0 89) H := by
  have h := h 18 _ rfl
  rw [show (mkE u w D st aK aV).1 89 = w.1 18 from rfl, shp_arr (E := mkE u w D st aK aV) (M := M0) (i := 89) (k := 0) (n := 6656) (fs := []) rfl (by decide), show (mkE u w D st aK aV).2.1 0 = w.2 0 from c0.symm]
  exact at_ext (fun _ _ => rfl) h
theorem q0_90 {D : va_G} {u w : Uu} {st aK aV : Nat → Nat} {H : Heap} (c0 : w.2 0 = u.2 0) (c1 : w.2 1 = u.2 2) (h : va_P D vwCl (wk_X8_init w) H) : va_at D vwCl ((mkE u w D st aK aV).1 90, shp (mkE u w D st aK aV) M0 90) H := by
  have h := h 19 _ rfl
  rw [show (mkE u w D st aK aV).1 90 = w.1 19 from rfl, shp_arr (E := mkE u w D st aK aV) (M := M0) (i := 90) (k := 0) (n := 793) (fs := []) rfl (by decide), show (mkE u w D st aK aV).2.1 0 = w.2 0 from c0.symm]
  exact at_ext (fun _ _ => rfl) h
theorem q0_91 {D : va_G} {u w : Uu} {st aK aV : Nat → Nat} {H : Heap} (c0 : w.2 0 = u.2 0) (c1 : w.2 1 = u.2 2) (h : va_P D vwCl (wk_X8_init w) H) : va_at D vwCl ((mkE u w D st aK aV).1 91, shp (mkE u w D st aK aV) M0 91) H := by
  have h := h 20 _ rfl
  rw [show (mkE u w D st aK aV).1 91 = w.1 20 from rfl, shp_arr (E := mkE u w D st aK aV) (M := M0) (i := 91) (k := 0) (n := 793) (fs := []) rfl (by decide), show (mkE u w D st aK aV).2.1 0 = w.2 0 from c0.symm]
  exact at_ext (fun _ _ => rfl) h
theorem q0_92 {D : va_G} {u w : Uu} {st aK aV : Nat → Nat} {H : Heap} (c0 : w.2 0 = u.2 0) (c1 : w.2 1 = u.2 2) (h : va_P D vwCl (wk_X8_init w) H) : va_at D vwCl ((mkE u w D st aK aV).1 92, shp (mkE u w D st aK aV) M0 92) H := by
  have h := h 21 _ rfl
  rw [show (mkE u w D st aK aV).1 92 = w.1 21 from rfl, shp_arr (E := mkE u w D st aK aV) (M := M0) (i := 92) (k := 0) (n := 12) (fs := []) rfl (by decide), show (mkE u w D st aK aV).2.1 0 = w.2 0 from c0.symm]
  exact at_ext (fun _ _ => rfl) h
theorem q0_93 {D : va_G} {u w : Uu} {st aK aV : Nat → Nat} {H : Heap} (c0 : w.2 0 = u.2 0) (c1 : w.2 1 = u.2 2) (h : va_P D vwCl (wk_X8_init w) H) : va_at D vwCl ((mkE u w D st aK aV).1 93, shp (mkE u w D st aK aV) M0 93) H := by
  have h := h 22 _ rfl
  rw [show (mkE u w D st aK aV).1 93 = w.1 22 from rfl, shp_arr (E := mkE u w D st aK aV) (M := M0) (i := 93) (k := 0) (n := 12) (fs := []) rfl (by decide), show (mkE u w D st aK aV).2.1 0 = w.2 0 from c0.symm]
  exact at_ext (fun _ _ => rfl) h
theorem q0_94 {D : va_G} {u w : Uu} {st aK aV : Nat → Nat} {H : Heap} (c0 : w.2 0 = u.2 0) (c1 : w.2 1 = u.2 2) (h : va_P D vwCl (wk_X8_init w) H) : va_at D vwCl ((mkE u w D st aK aV).1 94, shp (mkE u w D st aK aV) M0 94) H := by
  have h := h 23 _ rfl
  rw [show (mkE u w D st aK aV).1 94 = w.1 23 from rfl, shp_arr (E := mkE u w D st aK aV) (M := M0) (i := 94) (k := 0) (n := 12) (fs := []) rfl (by decide), show (mkE u w D st aK aV).2.1 0 = w.2 0 from c0.symm]
  exact at_ext (fun _ _ => rfl) h
theorem q0_95 {D : va_G} {u w : Uu} {st aK aV : Nat → Nat} {H : Heap} (c0 : w.2 0 = u.2 0) (c1 : w.2 1 = u.2 2) (h : va_P D vwCl (wk_X8_init w) H) : va_at D vwCl ((mkE u w D st aK aV).1 95, shp (mkE u w D st aK aV) M0 95) H := by
  have h := h 24 _ rfl
  rw [show (mkE u w D st aK aV).1 95 = w.1 24 from rfl, shp_arr (E := mkE u w D st aK aV) (M := M0) (i := 95) (k := 1) (n := 12) (fs := []) rfl (by decide), show (mkE u w D st aK aV).2.1 1 = w.2 1 from c1.symm]
  exact at_ext (fun _ _ => rfl) h
theorem q0_96 {D : va_G} {u w : Uu} {st aK aV : Nat → Nat} {H : Heap} (c0 : w.2 0 = u.2 0) (c1 : w.2 1 = u.2 2) (h : va_P D vwCl (wk_X8_init w) H) : va_at D vwCl ((mkE u w D st aK aV).1 96, shp (mkE u w D st aK aV) M0 96) H := by
  have h := h 25 _ rfl
  rw [show (mkE u w D st aK aV).1 96 = w.1 25 from rfl, shp_arr (E := mkE u w D st aK aV) (M := M0) (i := 96) (k := 0) (n := 4) (fs := []) rfl (by decide), show (mkE u w D st aK aV).2.1 0 = w.2 0 from c0.symm]
  exact at_ext (fun _ _ => rfl) h
theorem q0_97 {D : va_G} {u w : Uu} {st aK aV : Nat → Nat} {H : Heap} (c0 : w.2 0 = u.2 0) (c1 : w.2 1 = u.2 2) (h : va_P D vwCl (wk_X8_init w) H) : va_at D vwCl ((mkE u w D st aK aV).1 97, shp (mkE u w D st aK aV) M0 97) H := by
  have h := h 26 _ rfl
  rw [show (mkE u w D st aK aV).1 97 = w.1 26 from rfl, shp_arr (E := mkE u w D st aK aV) (M := M0) (i := 97) (k := 0) (n := 4) (fs := []) rfl (by decide), show (mkE u w D st aK aV).2.1 0 = w.2 0 from c0.symm]
  exact at_ext (fun _ _ => rfl) h
theorem q0_98 {D : va_G} {u w : Uu} {st aK aV : Nat → Nat} {H : Heap} (c0 : w.2 0 = u.2 0) (c1 : w.2 1 = u.2 2) (h : va_P D vwCl (wk_X8_init w) H) : va_at D vwCl ((mkE u w D st aK aV).1 98, shp (mkE u w D st aK aV) M0 98) H := by
  have h := h 27 _ rfl
  rw [show (mkE u w D st aK aV).1 98 = w.1 27 from rfl, shp_arr (E := mkE u w D st aK aV) (M := M0) (i := 98) (k := 0) (n := 256) (fs := []) rfl (by decide), show (mkE u w D st aK aV).2.1 0 = w.2 0 from c0.symm]
  exact at_ext (fun _ _ => rfl) h
set_option maxRecDepth 100000 in
theorem P_start {D : va_G} {u w : Uu} {st aK aV : Nat → Nat} {H : Heap} (h7 : va_P D vwCl (wk_X7_init u) H) (h8 : va_P D vwCl (wk_X8_init w) H) (c0 : w.2 0 = u.2 0) (c1 : w.2 1 = u.2 2) : va_P D vwCl (wls (mkE u w D st aK aV) M0) H := by
  intro k q hk
  obtain ⟨hk1, rfl⟩ := wls_of hk
  have key : ∀ i ∈ List.range 99, va_at D vwCl ((mkE u w D st aK aV).1 i, shp (mkE u w D st aK aV) M0 i) H := by
    rw [show List.range 99 = [0, 1, 2, 3, 4, 5, 6, 7, 8, 9, 10, 11, 12, 13, 14, 15, 16, 17, 18, 19, 20, 21, 22, 23, 24, 25, 26, 27, 28, 29, 30, 31, 32, 33, 34, 35, 36, 37, 38, 39, 40, 41, 42, 43, 44, 45, 46, 47, 48, 49, 50, 51, 52, 53, 54, 55, 56, 57, 58, 59, 60, 61, 62, 63, 64, 65, 66, 67, 68, 69, 70, 71, 72, 73, 74, 75, 76, 77, 78, 79, 80, 81, 82, 83, 84, 85, 86, 87, 88, 89, 90, 91, 92, 93, 94, 95, 96, 97, 98] from rfl]
    exact (List.forall_mem_cons.mpr ⟨q0_0 h7, (List.forall_mem_cons.mpr ⟨q0_1 h7, (List.forall_mem_cons.mpr ⟨q0_2 h7, (List.forall_mem_cons.mpr ⟨q0_3 h7, (List.forall_mem_cons.mpr ⟨q0_4 h7, (List.forall_mem_cons.mpr ⟨q0_5 h7, (List.forall_mem_cons.mpr ⟨q0_6 h7, (List.forall_mem_cons.mpr ⟨q0_7 h7, (List.forall_mem_cons.mpr ⟨q0_8 h7, (List.forall_mem_cons.mpr ⟨q0_9 h7, (List.forall_mem_cons.mpr ⟨q0_10 h7, (List.forall_mem_cons.mpr ⟨q0_11 h7, (List.forall_mem_cons.mpr ⟨q0_12 h7, (List.forall_mem_cons.mpr ⟨q0_13 h7, (List.forall_mem_cons.mpr ⟨q0_14 h7, (List.forall_mem_cons.mpr ⟨q0_15 h7, (List.forall_mem_cons.mpr ⟨q0_16 h7, (List.forall_mem_cons.mpr ⟨q0_17 h7, (List.forall_mem_cons.mpr ⟨q0_18 h7, (List.forall_mem_cons.mpr ⟨q0_19 h7, (List.forall_mem_cons.mpr ⟨q0_20 h7, (List.forall_mem_cons.mpr ⟨q0_21 h7, (List.forall_mem_cons.mpr ⟨q0_22 h7, (List.forall_mem_cons.mpr ⟨q0_23 h7, (List.forall_mem_cons.mpr ⟨q0_24 h7, (List.forall_mem_cons.mpr ⟨q0_25 h7, (List.forall_mem_cons.mpr ⟨q0_26 h7, (List.forall_mem_cons.mpr ⟨q0_27 h7, (List.forall_mem_cons.mpr ⟨q0_28 h7, (List.forall_mem_cons.mpr ⟨q0_29 h7, (List.forall_mem_cons.mpr ⟨q0_30 h7, (List.forall_mem_cons.mpr ⟨q0_31 h7, (List.forall_mem_cons.mpr ⟨q0_32 h7, (List.forall_mem_cons.mpr ⟨q0_33 h7, (List.forall_mem_cons.mpr ⟨q0_34 h7, (List.forall_mem_cons.mpr ⟨q0_35 h7, (List.forall_mem_cons.mpr ⟨q0_36 h7, (List.forall_mem_cons.mpr ⟨q0_37 h7, (List.forall_mem_cons.mpr ⟨q0_38 h7, (List.forall_mem_cons.mpr ⟨q0_39 h7, (List.forall_mem_cons.mpr ⟨q0_40 h7, (List.forall_mem_cons.mpr ⟨q0_41 h7, (List.forall_mem_cons.mpr ⟨q0_42 h7, (List.forall_mem_cons.mpr ⟨q0_43 h7, (List.forall_mem_cons.mpr ⟨q0_44 h7, (List.forall_mem_cons.mpr ⟨q0_45 h7, (List.forall_mem_cons.mpr ⟨q0_46 h7, (List.forall_mem_cons.mpr ⟨q0_47 h7, (List.forall_mem_cons.mpr ⟨q0_48 h7, (List.forall_mem_cons.mpr ⟨q0_49 h7, (List.forall_mem_cons.mpr ⟨q0_50 h7, (List.forall_mem_cons.mpr ⟨q0_51 h7, (List.forall_mem_cons.mpr ⟨q0_52 h7, (List.forall_mem_cons.mpr ⟨q0_53 h7, (List.forall_mem_cons.mpr ⟨q0_54 h7, (List.forall_mem_cons.mpr ⟨q0_55 h7, (List.forall_mem_cons.mpr ⟨q0_56 h7, (List.forall_mem_cons.mpr ⟨q0_57 h7, (List.forall_mem_cons.mpr ⟨q0_58 h7, (List.forall_mem_cons.mpr ⟨q0_59 h7, (List.forall_mem_cons.mpr ⟨q0_60 h7, (List.forall_mem_cons.mpr ⟨q0_61 h7, (List.forall_mem_cons.mpr ⟨q0_62 h7, (List.forall_mem_cons.mpr ⟨q0_63 h7, (List.forall_mem_cons.mpr ⟨q0_64 h7, (List.forall_mem_cons.mpr ⟨q0_65 h7, (List.forall_mem_cons.mpr ⟨q0_66 h7, (List.forall_mem_cons.mpr ⟨q0_67 h7, (List.forall_mem_cons.mpr ⟨q0_68 h7, (List.forall_mem_cons.mpr ⟨q0_69 h7, (List.forall_mem_cons.mpr ⟨q0_70 h7, (List.forall_mem_cons.mpr ⟨q0_71 c0 c1 h8, (List.forall_mem_cons.mpr ⟨q0_72 c0 c1 h8, (List.forall_mem_cons.mpr ⟨q0_73 c0 c1 h8, (List.forall_mem_cons.mpr ⟨q0_74 c0 c1 h8, (List.forall_mem_cons.mpr ⟨q0_75 c0 c1 h8, (List.forall_mem_cons.mpr ⟨q0_76 c0 c1 h8, (List.forall_mem_cons.mpr ⟨q0_77 c0 c1 h8, (List.forall_mem_cons.mpr ⟨q0_78 c0 c1 h8, (List.forall_mem_cons.mpr ⟨q0_79 c0 c1 h8, (List.forall_mem_cons.mpr ⟨q0_80 c0 c1 h8, (List.forall_mem_cons.mpr ⟨q0_81 c0 c1 h8, (List.forall_mem_cons.mpr ⟨q0_82 c0 c1 h8, (List.forall_mem_cons.mpr ⟨q0_83 c0 c1 h8, (List.forall_mem_cons.mpr ⟨q0_84 c0 c1 h8, (List.forall_mem_cons.mpr ⟨q0_85 c0 c1 h8, (List.forall_mem_cons.mpr ⟨q0_86 c0 c1 h8, (List.forall_mem_cons.mpr ⟨q0_87 c0 c1 h8, (List.forall_mem_cons.mpr ⟨q0_88 c0 c1 h8, (List.forall_mem_cons.mpr ⟨q0_89 c0 c1 h8, (List.forall_mem_cons.mpr ⟨q0_90 c0 c1 h8, (List.forall_mem_cons.mpr ⟨q0_91 c0 c1 h8, (List.forall_mem_cons.mpr ⟨q0_92 c0 c1 h8, (List.forall_mem_cons.mpr ⟨q0_93 c0 c1 h8, (List.forall_mem_cons.mpr ⟨q0_94 c0 c1 h8, (List.forall_mem_cons.mpr ⟨q0_95 c0 c1 h8, (List.forall_mem_cons.mpr ⟨q0_96 c0 c1 h8, (List.forall_mem_cons.mpr ⟨q0_97 c0 c1 h8, (List.forall_mem_cons.mpr ⟨q0_98 c0 c1 h8, (fun _ h => absurd h List.not_mem_nil)⟩)⟩)⟩)⟩)⟩)⟩)⟩)⟩)⟩)⟩)⟩)⟩)⟩)⟩)⟩)⟩)⟩)⟩)⟩)⟩)⟩)⟩)⟩)⟩)⟩)⟩)⟩)⟩)⟩)⟩)⟩)⟩)⟩)⟩)⟩)⟩)⟩)⟩)⟩)⟩)⟩)⟩)⟩)⟩)⟩)⟩)⟩)⟩)⟩)⟩)⟩)⟩)⟩)⟩)⟩)⟩)⟩)⟩)⟩)⟩)⟩)⟩)⟩)⟩)⟩)⟩)⟩)⟩)⟩)⟩)⟩)⟩)⟩)⟩)⟩)⟩)⟩)⟩)⟩)⟩)⟩)⟩)⟩)⟩)⟩)⟩)⟩)⟩)⟩)⟩)⟩)⟩)⟩)⟩)⟩)⟩)⟩)⟩)⟩)
  exact key k (List.mem_range.mpr hk1)
theorem fst7 (u : Uu) : (wk_X7_init u).map Prod.fst = (List.range 71).map u.1 := rfl
theorem fst8 (w : Uu) : (wk_X8_init w).map Prod.fst = (List.range 28).map w.1 := rfl
theorem at_fst {ws : va_W} {n : Nat} {f : Nat → Nat} (h : ws.map Prod.fst = (List.range n).map f) {i : Nat} (hi : i < n) : ∃ e : va_E, ws[i]? = some (f i, e) := by
  have h1 : (ws.map Prod.fst)[i]? = some (f i) := by
    rw [h, List.getElem?_map, List.getElem?_range hi]
    rfl
  rw [List.getElem?_map] at h1
  cases e : ws[i]? with
  | none => rw [e] at h1; cases h1
  | some q =>
    rw [e] at h1
    exact ⟨q.2, by rw [show f i = q.1 from (Option.some.inj h1).symm]⟩
theorem D_start {A : Nat → Prop} {D : va_G} {u w : Uu} {st aK aV : Nat → Nat} (h : va_D A (wk_X7_init u ++ wk_X8_init w)) : (∀ i j, i < 99 → j < 99 → (mkE u w D st aK aV).1 i = (mkE u w D st aK aV).1 j → i = j) ∧ ∀ q, inW (mkE u w D st aK aV) q → A q := by
  have key : ∀ i, i < 99 → ∃ e : va_E, (wk_X7_init u ++ wk_X8_init w)[i]? = some ((mkE u w D st aK aV).1 i, e) := by
    intro i hi
    have hl : (wk_X7_init u).length = 71 := rfl
    by_cases h1 : i < 71
    · obtain ⟨e, he⟩ := at_fst (fst7 u) h1
      refine ⟨e, ?_⟩
      rw [List.getElem?_append_left (by rw [hl]; exact h1), he]
      show some (u.1 i, e) = some (if i < 71 then u.1 i else w.1 (i - 71), e)
      rw [if_pos h1]
    · obtain ⟨e, he⟩ := at_fst (fst8 w) (show i - 71 < 28 by omega)
      refine ⟨e, ?_⟩
      rw [List.getElem?_append_right (by rw [hl]; omega), hl, he]
      show some (w.1 (i - 71), e) = some (if i < 71 then u.1 i else w.1 (i - 71), e)
      rw [if_neg h1]
  refine ⟨fun i j hi hj e => ?_, fun q hq => ?_⟩
  · obtain ⟨a, ha⟩ := key i hi
    obtain ⟨b, hb⟩ := key j hj
    exact h.1 i j _ _ ha hb e
  · obtain ⟨i, hi, rfl⟩ := hq
    obtain ⟨a, ha⟩ := key i hi
    exact h.2 i _ ha
