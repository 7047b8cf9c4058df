/-! ===== THE START ===== -/
abbrev gv1 : Cond := Jvm.Cond.and given_1 narrow_1
theorem z_str : Cond.arrayOf (.arg 0) .int ∈ flatC gv1 := by decide +kernel

theorem z_AT_FIRST : ∀ j : Nat, j < 12 → (Cond.eq (.elem (.static "TongueSight" "AT_FIRST" "[I") (.int (Int32.ofNat j))) (.int (iI (sAf.getD j 0)))) ∈ flatC gv1 := by decide +kernel
theorem z_LOWEST : ∀ j : Nat, j < 13 → (Cond.eq (.elem (.static "TongueSight" "LOWEST" "[I") (.int (Int32.ofNat j))) (.int (iI (sLo.getD j 0)))) ∈ flatC gv1 := by decide +kernel
theorem z_HIGHEST : ∀ j : Nat, j < 13 → (Cond.eq (.elem (.static "TongueSight" "HIGHEST" "[I") (.int (Int32.ofNat j))) (.int (iI (sHi.getD j 0)))) ∈ flatC gv1 := by decide +kernel
theorem z_BESIDE : ∀ j : Nat, j < 64 → (Cond.eq (.elem (.static "TongueSight" "BESIDE" "[I") (.int (Int32.ofNat j))) (.int (iI (sBe.getD j 0)))) ∈ flatC gv1 := by decide +kernel
abbrev tmS (i : Nat) : Term := .string "TongueSight$Script" (wIx.getD i 0)
theorem z_ex : ∀ i : Nat, i < 16 → Cond.exactly (tmS i) "java/lang/String" ∈ flatC gv1 := by decide +kernel
theorem z_co : ∀ i : Nat, i < 16 → Cond.eq (.field (tmS i) "java/lang/String" "coder" "B") (.int 0) ∈ flatC gv1 := by decide +kernel
theorem z_ar : ∀ i : Nat, i < 16 → Cond.arrayOf (.field (tmS i) "java/lang/String" "value" "[B") .byte ∈ flatC gv1 := by decide +kernel
theorem z_le : ∀ i : Nat, i < 16 → Cond.eq (.length (.field (tmS i) "java/lang/String" "value" "[B")) (.int (Int32.ofNat (wLen.getD i 0))) ∈ flatC gv1 := by decide +kernel
theorem z_el : ∀ i : Nat, i < 16 → ∀ j : Nat, j < wLen.getD i 0 → Cond.eq (.elem (.field (tmS i) "java/lang/String" "value" "[B") (.int (Int32.ofNat j))) (.int ((wBy32.getD i []).getD j 0)) ∈ flatC gv1 := by decide +kernel
theorem z_ne : ∀ i : Nat, i < 16 → ∀ j : Nat, j < i → Cond.not (Cond.eq (tmS j) (tmS i)) ∈ flatC gv1 := by decide +kernel
theorem z_sr : ∀ i : Nat, i < 16 → lw_tbl[368 + i]? = some (Cond.stringRef "TongueSight$Script" (wIx.getD i 0) (wNm.getD i "")) := by decide +kernel
def EnS (st aK aV : Nat → Nat) (A : Nat → Prop) (U : State) (H : Heap) : Prop :=
  (∀ (k : Nat) (q : String × List Int), sN[k]? = some q → va_Z "TongueSight" q.1 "[I" (.ref (st k)) A U H ∧ va_T .int (st k) q.2.length (fun j => .int (iI (q.2.getD j 0))) A U H) ∧
  (∀ q ∈ mNest, va_Nw (.methodLinkNest q.1 q.2.1 q.2.2.1 q.2.2.2) U) ∧ (∀ q ∈ fNest, va_Nw (.fieldLinkNest q.1 q.2.1 q.2.2.1 q.2.2.2.1 q.2.2.2.2.1 q.2.2.2.2.2) U) ∧
  vk_S 16 wLen wBy32 aK aV A U H ∧ (∀ i, i < 16 → vk_R "TongueSight$Script" (wIx.getD i 0) (wNm.getD i "") (aK i) U) ∧
  va_Z "java/lang/String" "COMPACT_STRINGS" "Z" (.int 1) A U H ∧ va_Zq "jdk/internal/util/Preconditions" "SIOOBE_FORMATTER" "Ljava/util/function/BiFunction;" A U H
set_option maxRecDepth 10000 in
theorem s_env {s : State} {b : Nat} {A : Nat → Prop} (hts : ∀ w ∈ lw_tbl, w.before #[Value.ref b] s = true) (hgv : gv1.before #[Value.ref b] s = true) (hA : ∀ a : Nat, a < s.heap.size → ¬ A a) : ∃ st aK aV : Nat → Nat, EnS st aK aV A s s.heap := by
  have hs := flat_of_before _ hgv
  obtain ⟨t0, e0, T0⟩ := va_Tof (tm := .static "TongueSight" "AT_FIRST" "[I") (ty := .int) (N := 12) (f := fun j => .int (iI (sAf.getD j 0))) (A := A) (by decide) (hs _ (by decide +kernel)) (va_eqt (hs _ (by decide +kernel))) (fun j hj => va_eqt (hs _ (z_AT_FIRST j hj))) hA
  have Z0 := va_Zof (A := A) (hts _ (List.mem_of_getElem? (i := 93) (by decide +kernel))) (hts _ (List.mem_of_getElem? (i := 57) (by decide +kernel))) e0 hA
  obtain ⟨t1, e1, T1⟩ := va_Tof (tm := .static "TongueSight" "LOWEST" "[I") (ty := .int) (N := 13) (f := fun j => .int (iI (sLo.getD j 0))) (A := A) (by decide) (hs _ (by decide +kernel)) (va_eqt (hs _ (by decide +kernel))) (fun j hj => va_eqt (hs _ (z_LOWEST j hj))) hA
  have Z1 := va_Zof (A := A) (hts _ (List.mem_of_getElem? (i := 475) (by decide +kernel))) (hts _ (List.mem_of_getElem? (i := 57) (by decide +kernel))) e1 hA
  obtain ⟨t2, e2, T2⟩ := va_Tof (tm := .static "TongueSight" "HIGHEST" "[I") (ty := .int) (N := 13) (f := fun j => .int (iI (sHi.getD j 0))) (A := A) (by decide) (hs _ (by decide +kernel)) (va_eqt (hs _ (by decide +kernel))) (fun j hj => va_eqt (hs _ (z_HIGHEST j hj))) hA
  have Z2 := va_Zof (A := A) (hts _ (List.mem_of_getElem? (i := 477) (by decide +kernel))) (hts _ (List.mem_of_getElem? (i := 57) (by decide +kernel))) e2 hA
  obtain ⟨t3, e3, T3⟩ := va_Tof (tm := .static "TongueSight" "BESIDE" "[I") (ty := .int) (N := 64) (f := fun j => .int (iI (sBe.getD j 0))) (A := A) (by decide) (hs _ (by decide +kernel)) (va_eqt (hs _ (by decide +kernel))) (fun j hj => va_eqt (hs _ (z_BESIDE j hj))) hA
  have Z3 := va_Zof (A := A) (hts _ (List.mem_of_getElem? (i := 545) (by decide +kernel))) (hts _ (List.mem_of_getElem? (i := 57) (by decide +kernel))) e3 hA
  obtain ⟨aK, aV, hS, hK⟩ := vk_Sof (args := #[Value.ref b]) (s := s) (N := 16) (tm := tmS) (len := wLen) (byt := wBy32) (A := A) (by decide) (fun i hi => hs _ (z_ex i hi)) (fun i hi => hs _ (z_co i hi)) (fun i hi => hs _ (z_ar i hi)) (fun i hi => hs _ (z_le i hi)) (fun i hi j hj => hs _ (z_el i hi j hj)) (fun i j hi hj hij => by rcases Nat.lt_or_gt_of_ne hij with h | h; exact Or.inl (hs _ (z_ne j hj i h)); exact Or.inr (hs _ (z_ne i hi j h))) hA
  refine ⟨fun k => [t0, t1, t2, t3].getD k 0, aK, aV, fun k q hk => ?_, ?_, ?_, hS, fun i hi => vk_R.of (hts _ (List.mem_of_getElem? (z_sr i hi))) (hK i hi), va_Zof (hts _ (List.mem_of_getElem? (i := 397) (by decide +kernel))) (hts _ (List.mem_of_getElem? (i := 68) (by decide +kernel))) (va_eqi (hs _ (by decide +kernel))) hA, va_Zqof (hts _ (List.mem_of_getElem? (i := 413) (by decide +kernel))) (hts _ (List.mem_of_getElem? (i := 70) (by decide +kernel))) (hs _ (by decide +kernel)) hA⟩
  · match k, hk with
    | 0, hk => cases hk; exact ⟨Z0, T0⟩
    | 1, hk => cases hk; exact ⟨Z1, T1⟩
    | 2, hk => cases hk; exact ⟨Z2, T2⟩
    | 3, hk => cases hk; exact ⟨Z3, T3⟩
    | k + 4, hk => simp [sN] at hk
  · exact (List.forall_mem_cons.mpr ⟨va_Nw.of rfl (hts _ (List.mem_of_getElem? (i := 455) (by decide +kernel))), (List.forall_mem_cons.mpr ⟨va_Nw.of rfl (hts _ (List.mem_of_getElem? (i := 552) (by decide +kernel))), (List.forall_mem_cons.mpr ⟨va_Nw.of rfl (hts _ (List.mem_of_getElem? (i := 638) (by decide +kernel))), (List.forall_mem_cons.mpr ⟨va_Nw.of rfl (hts _ (List.mem_of_getElem? (i := 662) (by decide +kernel))), (fun _ h => absurd h List.not_mem_nil)⟩)⟩)⟩)⟩)
  · exact (List.forall_mem_cons.mpr ⟨va_Nw.of rfl (hts _ (List.mem_of_getElem? (i := 92) (by decide +kernel))), (List.forall_mem_cons.mpr ⟨va_Nw.of rfl (hts _ (List.mem_of_getElem? (i := 474) (by decide +kernel))), (List.forall_mem_cons.mpr ⟨va_Nw.of rfl (hts _ (List.mem_of_getElem? (i := 476) (by decide +kernel))), (List.forall_mem_cons.mpr ⟨va_Nw.of rfl (hts _ (List.mem_of_getElem? (i := 544) (by decide +kernel))), (fun _ h => absurd h List.not_mem_nil)⟩)⟩)⟩)⟩)
theorem s_nest {s : State} {b : Nat} (hts : ∀ w ∈ lw_tbl, w.before #[Value.ref b] s = true) : ∀ (k : Nat) (q : Nat × MethodName), nIw[k]? = some q → va_Nw (.methodLinkNest "TongueSight" q.1 q.2 "TongueSight") s := by
  intro k q hk
  match k, hk with
  | 0, hk => cases hk; exact va_Nw.of rfl (hts _ (List.mem_of_getElem? (i := 116) (by decide +kernel)))
  | 1, hk => cases hk; exact va_Nw.of rfl (hts _ (List.mem_of_getElem? (i := 175) (by decide +kernel)))
  | 2, hk => cases hk; exact va_Nw.of rfl (hts _ (List.mem_of_getElem? (i := 201) (by decide +kernel)))
  | 3, hk => cases hk; exact va_Nw.of rfl (hts _ (List.mem_of_getElem? (i := 215) (by decide +kernel)))
  | 4, hk => cases hk; exact va_Nw.of rfl (hts _ (List.mem_of_getElem? (i := 238) (by decide +kernel)))
  | 5, hk => cases hk; exact va_Nw.of rfl (hts _ (List.mem_of_getElem? (i := 267) (by decide +kernel)))
  | k + 6, hk => simp [nIw] at hk
theorem s_ao {s : State} {b : Nat} (hts : ∀ w ∈ lw_tbl, w.before #[Value.ref b] s = true) : va_AO "TongueSight$Frame" s ∧ va_AO "TongueSight$Sheet" s := ⟨va_AO.of (hts _ (List.mem_of_getElem? (i := 173) (by decide +kernel))), va_AO.of (hts _ (List.mem_of_getElem? (i := 265) (by decide +kernel)))⟩
