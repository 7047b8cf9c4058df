theorem sto_row (M : Mem) (i j : Nat) (v : Int) : sto M i j v i = fun q => if q = j then v else M i q := by
  funext q
  unfold sto
  by_cases h : q = j
  · rw [if_pos ⟨rfl, h⟩, if_pos h]
  · rw [if_neg (fun c => h c.2), if_neg h]
def shV (fr by' : Int) (L : Nat → Int) (ce : Int) : Int := if ce % 8 < by' then 0 else L (fr * 64 + ce - by').toNat
def shK (fr to by' : Int) (L : Nat → Int) : Nat → (Nat → Int) × Int
  | 0 => (L, 0)
  | k + 1 => (fun q => if q = (to * 64 + (63 - (k : Int))).toNat then shV fr by' (shK fr to by' L k).1 (63 - (k : Int)) else (shK fr to by' L k).1 q, (shK fr to by' L k).2 + (if (shK fr to by' L k).1 (to * 64 + (63 - (k : Int))).toNat = shV fr by' (shK fr to by' L k).1 (63 - (k : Int)) then 0 else 1))
theorem shK_s {fr to by' ce : Int} {L : Nat → Int} (h0 : 0 ≤ ce) (h1 : ce ≤ 63) : shK fr to by' L (63 - (ce + -1)).toNat = (fun q => if q = (to * 64 + ce).toNat then shV fr by' (shK fr to by' L (63 - ce).toNat).1 ce else (shK fr to by' L (63 - ce).toNat).1 q, (shK fr to by' L (63 - ce).toNat).2 + (if (shK fr to by' L (63 - ce).toNat).1 (to * 64 + ce).toNat = shV fr by' (shK fr to by' L (63 - ce).toNat).1 ce then 0 else 1)) := by
  have e : (63 : Int) - (((63 - ce).toNat : Nat) : Int) = ce := by omega
  rw [show (63 - (ce + -1)).toNat = (63 - ce).toNat + 1 by omega]
  show (fun q => if q = (to * 64 + (63 - (((63 - ce).toNat : Nat) : Int))).toNat then shV fr by' _ (63 - (((63 - ce).toNat : Nat) : Int)) else _, _ + (if _ = shV fr by' _ (63 - (((63 - ce).toNat : Nat) : Int)) then 0 else 1)) = _
  rw [e]
abbrev rm_X7_shift : Room := { frames := 1, cells := 0, slots := 0, locals := 21 }
theorem cs_X7_shift : Cv yX7_shift cX7_shift 8 (some .int) 3 := ⟨kw_509, ⟨kw_507, kw_508⟩, kw_57, by decide, by decide, by decide +kernel⟩
set_option maxHeartbeats 4000000 in
set_option maxRecDepth 100000 in
theorem c_X7_shift (l : Launch) (E : Ev) (M : Mem) (fr to bb : Int) (g1 : -2147483648 ≤ fr) (g2 : fr < 2147483648) (g3 : -2147483648 ≤ to) (g4 : to < 2147483648) (g5 : -2147483648 ≤ bb) (g6 : bb < 2147483648) : Ct l yX7_shift cX7_shift 8 (some .int) rm_X7_shift E M [.ref (E.1 (0)), .int (iI (fr)), .int (iI (to)), .int (iI (bb))] (pI (fun z M' => z = -1 ∧ M' = M ∧ ¬ (0 ≤ fr ∧ fr < 6 ∧ 0 ≤ to ∧ to < 6 ∧ 0 ≤ bb ∧ bb < 8) ∨ (0 ≤ fr ∧ fr < 6 ∧ 0 ≤ to ∧ to < 6 ∧ 0 ≤ bb ∧ bb < 8) ∧ z = (shK fr to bb (M 12) 64).2 ∧ offC M M' 12 13 ∧ M' 12 = (shK fr to bb (M 12) 64).1)) := by
  refine Ct_of (lv := [(0, .ref (E.1 (0))), (1, .int (iI (fr))), (2, .int (iI (to))), (3, .int (iI (bb)))]) (by decide) ⟨rfl, rfl⟩ (Nat.le_of_ble_eq_true rfl) rfl (fun x _ B R => ?_)
  refine x_iload_n B dX7_shift_0 1 rfl rfl ?_
  refine x_bipush B dX7_shift_1 rfl ?_
  refine x_callS B (st := []) (av := [.int (iI (fr)), .int (iI (6))]) dX7_shift_3 cs_X7_within kw_495 ⟨rfl, rfl, Nat.le_of_ble_eq_true rfl, Nat.le_of_ble_eq_true rfl⟩ rfl rfl (Nat.le_of_ble_eq_true rfl) (c_X7_within _ E _ fr 6 (by omega) (by omega) (by omega) (by omega)) (k_i (fun z3 Mq hz3 => ?_))
  obtain ⟨rfl, hz3⟩ := hz3
  refine x_if_eq B (tgt := 27) dX7_shift_6 (by decide) ⟨by omega, by omega⟩ (fun c6 => ?_) (fun c6 => ?_)
  · show Vx x E M 27 [(0, .ref (E.1 (0))), (1, .int (iI (fr))), (2, .int (iI (to))), (3, .int (iI (bb)))] []
    refine x_iconst B dX7_shift_27 ?_
    exact r_i B R dX7_shift_28 (Or.inl ⟨rfl, rfl, by omega⟩)
  · show Vx x E M 9 [(0, .ref (E.1 (0))), (1, .int (iI (fr))), (2, .int (iI (to))), (3, .int (iI (bb)))] []
    refine x_iload_n B dX7_shift_9 2 rfl rfl ?_
    refine x_bipush B dX7_shift_10 rfl ?_
    refine x_callS B (st := []) (av := [.int (iI (to)), .int (iI (6))]) dX7_shift_12 cs_X7_within kw_495 ⟨rfl, rfl, Nat.le_of_ble_eq_true rfl, Nat.le_of_ble_eq_true rfl⟩ rfl rfl (Nat.le_of_ble_eq_true rfl) (c_X7_within _ E _ to 6 (by omega) (by omega) (by omega) (by omega)) (k_i (fun z12 Mq hz12 => ?_))
    obtain ⟨rfl, hz12⟩ := hz12
    refine x_if_eq B (tgt := 27) dX7_shift_15 (by decide) ⟨by omega, by omega⟩ (fun c15 => ?_) (fun c15 => ?_)
    · show Vx x E M 27 [(0, .ref (E.1 (0))), (1, .int (iI (fr))), (2, .int (iI (to))), (3, .int (iI (bb)))] []
      refine x_iconst B dX7_shift_27 ?_
      exact r_i B R dX7_shift_28 (Or.inl ⟨rfl, rfl, by omega⟩)
    · show Vx x E M 18 [(0, .ref (E.1 (0))), (1, .int (iI (fr))), (2, .int (iI (to))), (3, .int (iI (bb)))] []
      refine x_iload_n B dX7_shift_18 3 rfl rfl ?_
      refine x_bipush B dX7_shift_19 rfl ?_
      refine x_callS B (st := []) (av := [.int (iI (bb)), .int (iI (8))]) dX7_shift_21 cs_X7_within kw_495 ⟨rfl, rfl, Nat.le_of_ble_eq_true rfl, Nat.le_of_ble_eq_true rfl⟩ rfl rfl (Nat.le_of_ble_eq_true rfl) (c_X7_within _ E _ bb 8 (by omega) (by omega) (by omega) (by omega)) (k_i (fun z21 Mq hz21 => ?_))
      obtain ⟨rfl, hz21⟩ := hz21
      refine x_if_ne B (tgt := 29) dX7_shift_24 (by decide) ⟨by omega, by omega⟩ (fun c24 => ?_) (fun c24 => ?_)
      · show Vx x E M 29 [(0, .ref (E.1 (0))), (1, .int (iI (fr))), (2, .int (iI (to))), (3, .int (iI (bb)))] []
        refine x_iconst B dX7_shift_29 ?_
        refine x_istore B dX7_shift_30 [1, 2, 3, 4, 0] (by decide) (lv' := [(0, .ref (E.1 (0))), (1, .int (iI (fr))), (2, .int (iI (to))), (3, .int (iI (bb))), (4, .int (iI (0)))]) rfl ?_
        refine x_bipush B dX7_shift_32 rfl ?_
        refine x_istore B dX7_shift_34 [1, 2, 3, 4, 5, 0] (by decide) (lv' := [(0, .ref (E.1 (0))), (1, .int (iI (fr))), (2, .int (iI (to))), (3, .int (iI (bb))), (4, .int (iI (0))), (5, .int (iI (63)))]) rfl ?_
        have L36 : ∀ (o : Int) (ce : Int) (M1 : Mem), (-1 ≤ ce ∧ ce ≤ 63 ∧ offC M M1 12 13 ∧ M1 12 = (shK fr to bb (M 12) (63 - ce).toNat).1 ∧ Is o (shK fr to bb (M 12) (63 - ce).toNat).2 ∧ 0 ≤ o ∧ o ≤ 63 - ce) → Vx x E M1 36 [(0, .ref (E.1 (0))), (1, .int (iI (fr))), (2, .int (iI (to))), (3, .int (iI (bb))), (4, .int (iI (o))), (5, .int (iI (ce)))] [] := by
          refine lo3 _ _ (fun o ce M1 => (ce + 1).toNat) ?_
          intro o ce M1 hI ih36
          obtain ⟨i1, i2, i3, i4, i5, i6, i7⟩ := hI
          refine x_iload B dX7_shift_36 5 rfl ?_
          refine x_if_lt B (tgt := 109) dX7_shift_38 (by decide) ⟨by omega, by omega⟩ (fun c38 => ?_) (fun c38 => ?_)
          · show Vx x E M1 109 [(0, .ref (E.1 (0))), (1, .int (iI (fr))), (2, .int (iI (to))), (3, .int (iI (bb))), (4, .int (iI (o))), (5, .int (iI (ce)))] []
            refine x_iload B dX7_shift_109 4 rfl ?_
            exact r_i B R dX7_shift_111 (Or.inr ⟨by omega, by rw [Is_e i5, show (63 - ce).toNat = 64 by omega], i3, by rw [i4, show (63 - ce).toNat = 64 by omega]⟩)
          · show Vx x E M1 41 [(0, .ref (E.1 (0))), (1, .int (iI (fr))), (2, .int (iI (to))), (3, .int (iI (bb))), (4, .int (iI (o))), (5, .int (iI (ce)))] []
            refine x_iload B dX7_shift_41 5 rfl ?_
            refine x_bipush B dX7_shift_43 rfl ?_
            refine x_irem B dX7_shift_45 ⟨by omega, by omega⟩ (by omega) ⟨by omega, by omega⟩ (by omega) ?_
            refine x_iload_n B dX7_shift_46 3 rfl rfl ?_
            have J68 : ∀ (j : Int), (j = shV fr bb (M1 12) ce ∧ 0 ≤ j ∧ j ≤ 9) → Vx x E M1 68 [(0, .ref (E.1 (0))), (1, .int (iI (fr))), (2, .int (iI (to))), (3, .int (iI (bb))), (4, .int (iI (o))), (5, .int (iI (ce)))] [.int (iI (j))] := by
              intro j hJ
              obtain ⟨j1, j2, j3⟩ := hJ
              refine x_istore B dX7_shift_68 [1, 2, 3, 4, 5, 6, 0] (by decide) (lv' := [(0, .ref (E.1 (0))), (1, .int (iI (fr))), (2, .int (iI (to))), (3, .int (iI (bb))), (4, .int (iI (o))), (5, .int (iI (ce))), (6, .int (iI (j)))]) rfl ?_
              refine x_iload_n B dX7_shift_70 2 rfl rfl ?_
              refine x_bipush B dX7_shift_71 rfl ?_
              refine x_imul B dX7_shift_73 ?_
              refine x_iload B dX7_shift_74 5 rfl ?_
              refine x_iadd B dX7_shift_76 ?_
              refine x_istore B dX7_shift_77 [1, 2, 3, 4, 5, 6, 7, 0] (by decide) (lv' := [(0, .ref (E.1 (0))), (1, .int (iI (fr))), (2, .int (iI (to))), (3, .int (iI (bb))), (4, .int (iI (o))), (5, .int (iI (ce))), (6, .int (iI (j))), (7, .int (iI ((to * 64) + ce)))]) rfl ?_
              refine x_aload_n B dX7_shift_79 0 rfl rfl ?_
              refine x_getR B (ci := 7) (k := 3) dX7_shift_80 rfl rfl rfl (by decide) inGX7 kw_286 ?_
              refine x_iload B dX7_shift_83 7 rfl ?_
              refine x_iald B (lo := 0) (hi := 9) dX7_shift_85 rfl (by omega) (by omega) rfl (fun z85 ez85 lz85 uz85 => ?_)
              refine x_iload B dX7_shift_86 6 rfl ?_
              refine x_icmp_eq B (tgt := 94) dX7_shift_88 (by decide) ⟨by omega, by omega⟩ ⟨by omega, by omega⟩ (fun c88 => ?_) (fun c88 => ?_)
              · show Vx x E M1 94 [(0, .ref (E.1 (0))), (1, .int (iI (fr))), (2, .int (iI (to))), (3, .int (iI (bb))), (4, .int (iI (o))), (5, .int (iI (ce))), (6, .int (iI (j))), (7, .int (iI ((to * 64) + ce)))] []
                refine x_aload_n B dX7_shift_94 0 rfl rfl ?_
                refine x_getR B (ci := 7) (k := 3) dX7_shift_95 rfl rfl rfl (by decide) inGX7 kw_286 ?_
                refine x_iload B dX7_shift_98 7 rfl ?_
                refine x_iload B dX7_shift_100 6 rfl ?_
                refine x_iast B (lo := 0) (hi := 9) dX7_shift_102 rfl (by omega) (by omega) rfl (by omega) (by omega) ?_
                refine x_iinc B (q := 5) dX7_shift_103 rfl [1, 2, 3, 4, 5, 0, 6, 7] (by decide) (lv' := [(0, .ref (E.1 (0))), (1, .int (iI (fr))), (2, .int (iI (to))), (3, .int (iI (bb))), (4, .int (iI (o))), (5, .int (iI (ce + -1))), (6, .int (iI (j))), (7, .int (iI ((to * 64) + ce)))]) rfl ?_
                refine x_goto B (tgt := 36) dX7_shift_106 (by decide) ?_
                refine x_lv [0, 1, 2, 3, 4, 5] (lv' := [(0, .ref (E.1 (0))), (1, .int (iI (fr))), (2, .int (iI (to))), (3, .int (iI (bb))), (4, .int (iI (o))), (5, .int (iI (ce + -1)))]) rfl ?_
                exact ih36 o (ce + -1) (sto M1 12 ((to * 64) + ce).toNat j) (⟨by omega, by omega, offC_sto i3 (by omega), by rw [shK_s (by omega) (by omega), sto_row, ← i4, j1], by show _ = _; rw [shK_s (by omega) (by omega), ← i4, ← Is_e i5, if_pos (by rw [← j1, ← c88]; exact (Is_e ez85).symm)]; omega, by omega, by omega⟩) (by omega)
              · show Vx x E M1 91 [(0, .ref (E.1 (0))), (1, .int (iI (fr))), (2, .int (iI (to))), (3, .int (iI (bb))), (4, .int (iI (o))), (5, .int (iI (ce))), (6, .int (iI (j))), (7, .int (iI ((to * 64) + ce)))] []
                refine x_iinc B (q := 4) dX7_shift_91 rfl [1, 2, 3, 4, 0, 5, 6, 7] (by decide) (lv' := [(0, .ref (E.1 (0))), (1, .int (iI (fr))), (2, .int (iI (to))), (3, .int (iI (bb))), (4, .int (iI (o + 1))), (5, .int (iI (ce))), (6, .int (iI (j))), (7, .int (iI ((to * 64) + ce)))]) rfl ?_
                refine x_aload_n B dX7_shift_94 0 rfl rfl ?_
                refine x_getR B (ci := 7) (k := 3) dX7_shift_95 rfl rfl rfl (by decide) inGX7 kw_286 ?_
                refine x_iload B dX7_shift_98 7 rfl ?_
                refine x_iload B dX7_shift_100 6 rfl ?_
                refine x_iast B (lo := 0) (hi := 9) dX7_shift_102 rfl (by omega) (by omega) rfl (by omega) (by omega) ?_
                refine x_iinc B (q := 5) dX7_shift_103 rfl [1, 2, 3, 4, 5, 0, 6, 7] (by decide) (lv' := [(0, .ref (E.1 (0))), (1, .int (iI (fr))), (2, .int (iI (to))), (3, .int (iI (bb))), (4, .int (iI (o + 1))), (5, .int (iI (ce + -1))), (6, .int (iI (j))), (7, .int (iI ((to * 64) + ce)))]) rfl ?_
                refine x_goto B (tgt := 36) dX7_shift_106 (by decide) ?_
                refine x_lv [0, 1, 2, 3, 4, 5] (lv' := [(0, .ref (E.1 (0))), (1, .int (iI (fr))), (2, .int (iI (to))), (3, .int (iI (bb))), (4, .int (iI (o + 1))), (5, .int (iI (ce + -1)))]) rfl ?_
                exact ih36 (o + 1) (ce + -1) (sto M1 12 ((to * 64) + ce).toNat j) (⟨by omega, by omega, offC_sto i3 (by omega), by rw [shK_s (by omega) (by omega), sto_row, ← i4, j1], by show _ = _; rw [shK_s (by omega) (by omega), ← i4, ← Is_e i5, if_neg (by rw [← j1, ← Is_e ez85]; exact c88)], by omega, by omega⟩) (by omega)
            refine x_icmp_ge B (tgt := 54) dX7_shift_47 (by decide) ⟨by omega, by omega⟩ ⟨by omega, by omega⟩ (fun c47 => ?_) (fun c47 => ?_)
            · show Vx x E M1 54 [(0, .ref (E.1 (0))), (1, .int (iI (fr))), (2, .int (iI (to))), (3, .int (iI (bb))), (4, .int (iI (o))), (5, .int (iI (ce)))] []
              refine x_aload_n B dX7_shift_54 0 rfl rfl ?_
              refine x_getR B (ci := 7) (k := 3) dX7_shift_55 rfl rfl rfl (by decide) inGX7 kw_286 ?_
              refine x_iload_n B dX7_shift_58 1 rfl rfl ?_
              refine x_bipush B dX7_shift_59 rfl ?_
              refine x_imul B dX7_shift_61 ?_
              refine x_iload B dX7_shift_62 5 rfl ?_
              refine x_iadd B dX7_shift_64 ?_
              refine x_iload_n B dX7_shift_65 3 rfl rfl ?_
              refine x_isub B dX7_shift_66 ?_
              refine x_iald B (lo := 0) (hi := 9) dX7_shift_67 rfl (by omega) (by omega) rfl (fun z67 ez67 lz67 uz67 => ?_)
              exact J68 z67 (⟨by unfold shV; rw [if_neg (by omega)]; exact Is_e ez67, by omega, by omega⟩)
            · show Vx x E M1 50 [(0, .ref (E.1 (0))), (1, .int (iI (fr))), (2, .int (iI (to))), (3, .int (iI (bb))), (4, .int (iI (o))), (5, .int (iI (ce)))] []
              refine x_iconst B dX7_shift_50 ?_
              refine x_goto B (tgt := 68) dX7_shift_51 (by decide) ?_
              exact J68 0 (⟨by unfold shV; rw [if_pos (by omega)], by omega, by omega⟩)
        exact L36 0 63 M (⟨by omega, by omega, offC_rf, rfl, rfl, by omega, by omega⟩)
      · show Vx x E M 27 [(0, .ref (E.1 (0))), (1, .int (iI (fr))), (2, .int (iI (to))), (3, .int (iI (bb)))] []
        refine x_iconst B dX7_shift_27 ?_
        exact r_i B R dX7_shift_28 (Or.inl ⟨rfl, rfl, by omega⟩)
def upS (fa fb : Nat → Int) : Nat := bK (gtB fb fa) 16
theorem gtB_cg {f f' g g' : Nat → Int} (h : eqF f f') (h2 : eqF g g') : bK (gtB f g) 16 = bK (gtB f' g') 16 := bK_cg 16 (fun q hq => by unfold gtB; rw [h q hq, h2 q hq])
def mvC (M : Mem) (m : Int) : Int := mvT (M 0 12) m
/-- the two pictures of a MOVE, in the class -/
theorem mv_two {M M3 M9 : Mem} {sc m pl : Int} (s0 : 0 ≤ sc) (s1 : sc < 6) (hp : pl = M 0 12) (h3 : seeP M M3 (sc.toNat + 1) (64 * sc) pl 1 13) (h9 : seeP M3 M9 0 (64 * sc) (mvT (M3 0 12) m) 1 13) : eqF (M9 (16 + 5 * (sc.toNat + 1) + 3)) (feC M sc (M 0 12)) ∧ eqF (M9 19) (feC M sc (mvC M m)) ∧ offC M M9 16 57 := by
  rw [hp] at h3
  obtain ⟨p1, -, -, p4, -⟩ := seeP_C h3
  obtain ⟨q1, -, -, q4, -⟩ := seeP_C h9
  rw [feC_off p1 (by omega), p1 0 12 (by omega)] at q4
  refine ⟨?_, q4, ?_⟩
  · rw [offC_f q1 (by omega)]
    exact p4
  · intro i j hi
    rw [q1 i j (by omega), p1 i j (by omega)]
theorem or16N {a b : Int} (a0 : 0 ≤ a) (a1 : a ≤ 65535) (b0 : 0 ≤ b) (b1 : b ≤ 65535) : (0 : Int) ≤ ((a.toNat ||| b.toNat : Nat) : Int) ∧ ((a.toNat ||| b.toNat : Nat) : Int) ≤ 65535 := by
  have e : (2 : Nat) ^ 16 = 65536 := by decide
  have h := or_lt (a := a.toNat) (b := b.toNat) (n := 16) (by omega) (by omega)
  omega
abbrev rm_X7_move : Room := { frames := 5, cells := 0, slots := 0, locals := 116 }
theorem cs_X7_move : Cv yX7_move cX7_move 7 (some .int) 3 := ⟨kw_688, ⟨kw_686, kw_687⟩, kw_57, by decide, by decide, by decide +kernel⟩
set_option maxHeartbeats 4000000 in
set_option maxRecDepth 100000 in
theorem c_X7_move (l : Launch) (E : Ev) (M : Mem) (sc m o : Int) (g1 : -2147483648 ≤ sc) (g2 : sc < 2147483648) (g3 : -2147483648 ≤ m) (g4 : m < 2147483648) (g5 : 0 ≤ o) (g6 : o ≤ 1) : Ct l yX7_move cX7_move 7 (some .int) rm_X7_move E M [.ref (E.1 (0)), .int (iI (sc)), .int (iI (m)), .int (iI (o))] (pI (fun z M' => z = -1 ∧ M' = M ∧ ¬ (0 ≤ sc ∧ sc < 6 ∧ 0 ≤ m ∧ m < 6) ∨ (0 ≤ sc ∧ sc < 6 ∧ 0 ≤ m ∧ m < 6) ∧ z = ((upS (feC M sc (M 0 12)) (feC M sc (mvC M m)) ||| upS (feC M sc (mvC M m)) (feC M sc (M 0 12)) : Nat) : Int) ∧ offC (sto (sto M 0 12 (mvC M m)) 0 13 (min 999 (M 0 13 + (if o = 1 ∧ ¬ ((upS (feC M sc (M 0 12)) (feC M sc (mvC M m)) ||| upS (feC M sc (mvC M m)) (feC M sc (M 0 12)) : Nat) : Int) = 0 then M 2 7 else M 2 8)))) M' 16 57)) := by
  refine Ct_of (lv := [(0, .ref (E.1 (0))), (1, .int (iI (sc))), (2, .int (iI (m))), (3, .int (iI (o)))]) (by decide) ⟨rfl, rfl⟩ (Nat.le_of_ble_eq_true rfl) rfl (fun x _ B R => ?_)
  refine x_iload_n B dX7_move_0 1 rfl rfl ?_
  refine x_bipush B dX7_move_1 rfl ?_
  refine x_callS B (st := []) (av := [.int (iI (sc)), .int (iI (6))]) dX7_move_3 cs_X7_within kw_495 ⟨rfl, rfl, Nat.le_of_ble_eq_true rfl, Nat.le_of_ble_eq_true rfl⟩ rfl rfl (Nat.le_of_ble_eq_true rfl) (c_X7_within _ E _ sc 6 (by omega) (by omega) (by omega) (by omega)) (k_i (fun z3 Mq hz3 => ?_))
  obtain ⟨rfl, hz3⟩ := hz3
  refine x_if_eq B (tgt := 18) dX7_move_6 (by decide) ⟨by omega, by omega⟩ (fun c6 => ?_) (fun c6 => ?_)
  · show Vx x E M 18 [(0, .ref (E.1 (0))), (1, .int (iI (sc))), (2, .int (iI (m))), (3, .int (iI (o)))] []
    refine x_iconst B dX7_move_18 ?_
    exact r_i B R dX7_move_19 (Or.inl ⟨rfl, rfl, by omega⟩)
  · show Vx x E M 9 [(0, .ref (E.1 (0))), (1, .int (iI (sc))), (2, .int (iI (m))), (3, .int (iI (o)))] []
    refine x_iload_n B dX7_move_9 2 rfl rfl ?_
    refine x_bipush B dX7_move_10 rfl ?_
    refine x_callS B (st := []) (av := [.int (iI (m)), .int (iI (6))]) dX7_move_12 cs_X7_within kw_495 ⟨rfl, rfl, Nat.le_of_ble_eq_true rfl, Nat.le_of_ble_eq_true rfl⟩ rfl rfl (Nat.le_of_ble_eq_true rfl) (c_X7_within _ E _ m 6 (by omega) (by omega) (by omega) (by omega)) (k_i (fun z12 Mq hz12 => ?_))
    obtain ⟨rfl, hz12⟩ := hz12
    refine x_if_ne B (tgt := 20) dX7_move_15 (by decide) ⟨by omega, by omega⟩ (fun c15 => ?_) (fun c15 => ?_)
    · show Vx x E M 20 [(0, .ref (E.1 (0))), (1, .int (iI (sc))), (2, .int (iI (m))), (3, .int (iI (o)))] []
      refine x_aload_n B dX7_move_20 0 rfl rfl ?_
      refine x_iload_n B dX7_move_21 1 rfl rfl ?_
      refine x_aload_n B dX7_move_22 0 rfl rfl ?_
      refine x_getI B (ci := 7) (k := 12) (lo := 0) (hi := 25) dX7_move_23 rfl rfl rfl (by decide) inGX7 kw_295 rfl (fun z23 ez23 lz23 uz23 => ?_)
      refine x_callV B (st := []) (av := [.int (iI (sc)), .int (iI (z23))]) dX7_move_26 cs_X7_seen kw_525 ⟨rfl, rfl, Nat.le_of_ble_eq_true rfl, Nat.le_of_ble_eq_true rfl⟩ rfl rfl (Nat.le_of_ble_eq_true rfl) (rc_obj B (ci := 7) rfl rfl rfl) (c_X7_seen _ E _ sc z23 (by omega) (by omega) (by omega) (by omega)) (k_r (fun az26 M26 hz26 => ?_))
      obtain ⟨rfl, hz26⟩ := hz26
      refine x_astore B dX7_move_29 [1, 2, 3, 4, 0] (by decide) (lv' := [(0, .ref (E.1 (0))), (1, .int (iI (sc))), (2, .int (iI (m))), (3, .int (iI (o))), (4, .ref (E.1 ((16 + 5 * ((sc).toNat + 1)))))]) rfl ?_
      refine x_aload_n B dX7_move_31 0 rfl rfl ?_
      refine x_iload_n B dX7_move_32 1 rfl rfl ?_
      refine x_iload_n B dX7_move_33 2 rfl rfl ?_
      refine x_callV B (st := []) (av := [.int (iI (sc)), .int (iI (m))]) dX7_move_34 cs_X7_seenAfter kw_689 ⟨rfl, rfl, Nat.le_of_ble_eq_true rfl, Nat.le_of_ble_eq_true rfl⟩ rfl rfl (Nat.le_of_ble_eq_true rfl) (rc_obj B (ci := 7) rfl rfl rfl) (c_X7_seenAfter _ E _ sc m (by omega) (by omega) (by omega) (by omega)) (k_r (fun az34 M34 hz34 => ?_))
      obtain ⟨rfl, hz34⟩ := hz34
      refine x_astore B dX7_move_37 [1, 2, 3, 4, 5, 0] (by decide) (lv' := [(0, .ref (E.1 (0))), (1, .int (iI (sc))), (2, .int (iI (m))), (3, .int (iI (o))), (4, .ref (E.1 ((16 + 5 * ((sc).toNat + 1))))), (5, .ref (E.1 (16)))]) rfl ?_
      obtain ⟨t1, t2, t3⟩ := mv_two (by omega) (by omega) (Is_e ez23) hz26 hz34
      refine x_aload B dX7_move_39 5 rfl ?_
      refine x_getR B (ci := 0) (k := 2) dX7_move_41 rfl rfl rfl (by decide) inGX0 kw_184 ?_
      refine x_aload B dX7_move_44 4 rfl ?_
      refine x_getR B (ci := 0) (k := 2) dX7_move_46 (tF_o ((sc).toNat + 1) (by omega)) rfl rfl (by decide) inGX0 kw_184 ?_
      refine x_callS B (st := []) (av := [.ref (E.1 (19)), .ref (E.1 ((16 + 5 * ((sc).toNat + 1) + 3)))]) dX7_move_49 cs_X7_above kw_576 ⟨rfl, rfl, Nat.le_of_ble_eq_true rfl, Nat.le_of_ble_eq_true rfl⟩ rfl rfl (Nat.le_of_ble_eq_true rfl) (c_X7_above _ E _ 19 (16 + 5 * ((sc).toNat + 1) + 3) rfl (fun j => ⟨by show (0 : Int) ≤ 0; omega, by show (9 : Int) ≤ 9; omega⟩) (tF_3 ((sc).toNat + 1) (by omega)) (fun j => by rw [rF_3 ((sc).toNat + 1) j (by omega)]; exact ⟨by decide, by decide⟩)) (k_i (fun z49 Mq hz49 => ?_))
      obtain ⟨rfl, hz49⟩ := hz49
      refine x_aload B dX7_move_52 4 rfl ?_
      refine x_getR B (ci := 0) (k := 2) dX7_move_54 (tF_o ((sc).toNat + 1) (by omega)) rfl rfl (by decide) inGX0 kw_184 ?_
      refine x_aload B dX7_move_57 5 rfl ?_
      refine x_getR B (ci := 0) (k := 2) dX7_move_59 rfl rfl rfl (by decide) inGX0 kw_184 ?_
      refine x_callS B (st := [.int (iI (z49))]) (av := [.ref (E.1 ((16 + 5 * ((sc).toNat + 1) + 3))), .ref (E.1 (19))]) dX7_move_62 cs_X7_above kw_576 ⟨rfl, rfl, Nat.le_of_ble_eq_true rfl, Nat.le_of_ble_eq_true rfl⟩ rfl rfl (Nat.le_of_ble_eq_true rfl) (c_X7_above _ E _ (16 + 5 * ((sc).toNat + 1) + 3) 19 (tF_3 ((sc).toNat + 1) (by omega)) (fun j => by rw [rF_3 ((sc).toNat + 1) j (by omega)]; exact ⟨by decide, by decide⟩) rfl (fun j => ⟨by show (0 : Int) ≤ 0; omega, by show (9 : Int) ≤ 9; omega⟩)) (k_i (fun z62 Mq hz62 => ?_))
      obtain ⟨rfl, hz62⟩ := hz62
      refine x_ior B dX7_move_65 (by omega) (by omega) ?_
      refine x_istore B dX7_move_66 [1, 2, 3, 4, 5, 6, 0] (by decide) (lv' := [(0, .ref (E.1 (0))), (1, .int (iI (sc))), (2, .int (iI (m))), (3, .int (iI (o))), (4, .ref (E.1 ((16 + 5 * ((sc).toNat + 1))))), (5, .ref (E.1 (16))), (6, .int (iI ((((z49).toNat ||| (z62).toNat : Nat) : Int))))]) rfl ?_
      have hch : (((z49).toNat ||| (z62).toNat : Nat) : Int) = ((upS (feC M sc (M 0 12)) (feC M sc (mvC M m)) ||| upS (feC M sc (mvC M m)) (feC M sc (M 0 12)) : Nat) : Int) := by
        rw [hz49.1, hz62.1, Int.toNat_natCast, Int.toNat_natCast]
        unfold upS
        rw [gtB_cg t2 t1, gtB_cg t1 t2]
      have hcb := or16N (a := z49) (b := z62) (by omega) (by omega) (by omega) (by omega)
      generalize (((z49).toNat ||| (z62).toNat : Nat) : Int) = ch at hch hcb ⊢
      refine x_aload_n B dX7_move_68 0 rfl rfl ?_
      refine x_aload_n B dX7_move_69 0 rfl rfl ?_
      refine x_getI B (ci := 7) (k := 12) (lo := 0) (hi := 25) dX7_move_70 rfl rfl rfl (by decide) inGX7 kw_295 rfl (fun z70 ez70 lz70 uz70 => ?_)
      refine x_iload_n B dX7_move_73 2 rfl rfl ?_
      refine x_callS B (st := [.ref (E.1 (0))]) (av := [.int (iI (z70)), .int (iI (m))]) dX7_move_74 cs_X7_placeAfter kw_518 ⟨rfl, rfl, Nat.le_of_ble_eq_true rfl, Nat.le_of_ble_eq_true rfl⟩ rfl rfl (Nat.le_of_ble_eq_true rfl) (c_X7_placeAfter _ E _ z70 m (by omega) (by omega) (by omega) (by omega)) (k_i (fun z74 Mq hz74 => ?_))
      obtain ⟨rfl, hz74⟩ := hz74
      have hmv := mvT_in (p := z70) (m := m) (by omega) (by omega)
      have e70 : z74 = mvC M m := by
        rw [hz74, Is_e ez70, t3 0 12 (by omega)]
        rfl
      refine x_put B (ci := 7) (k := 12) (lo := 0) (hi := 25) (ty := .int) dX7_move_77 rfl rfl rfl (by decide) inGX7 tyX7_ok nmX7 kw_295 rfl (by decide +kernel) (nar_i _) (fit_i _) rfl (by omega) (by omega) ?_
      refine x_aload_n B dX7_move_80 0 rfl rfl ?_
      refine x_aload_n B dX7_move_81 0 rfl rfl ?_
      refine x_getR B (ci := 7) (k := 0) dX7_move_82 rfl rfl rfl (by decide) inGX7 kw_283 ?_
      refine x_getR B (ci := 1) (k := 0) dX7_move_85 rfl rfl rfl (by decide) inGX1 kw_103 ?_
      refine x_iload_n B dX7_move_88 3 rfl rfl ?_
      refine x_if_eq B (tgt := 102) dX7_move_89 (by decide) ⟨by omega, by omega⟩ (fun c89 => ?_) (fun c89 => ?_)
      · show Vx x E (sto M34 0 12 z74) 102 [(0, .ref (E.1 (0))), (1, .int (iI (sc))), (2, .int (iI (m))), (3, .int (iI (o))), (4, .ref (E.1 ((16 + 5 * ((sc).toNat + 1))))), (5, .ref (E.1 (16))), (6, .int (iI (ch)))] [.ref (E.1 (2)), .ref (E.1 (0))]
        refine x_bipush B dX7_move_102 rfl ?_
        refine x_iald B (lo := 0) (hi := 20) dX7_move_104 rfl (by omega) (by omega) rfl (fun z104 ez104 lz104 uz104 => ?_)
        have ez104 : Is z104 ((sto M34 0 12 z74) 2 8) := ez104
        have e104 := Is_e ez104
        rw [sto_ni _ _ _ _ (by decide), t3 _ _ (by omega)] at e104
        refine x_callV B (st := []) (av := [.int (iI (z104))]) dX7_move_105 cs_X7_learn kw_592 ⟨rfl, rfl, Nat.le_of_ble_eq_true rfl, Nat.le_of_ble_eq_true rfl⟩ rfl rfl (Nat.le_of_ble_eq_true rfl) (rc_obj B (ci := 7) rfl rfl rfl) (c_X7_learn _ E _ z104 (by omega) (by omega)) (k_v (fun M105 hz105 => ?_))
        have hE : offC (sto (sto M 0 12 (mvC M m)) 0 13 (min 999 (M 0 13 + z104))) M105 16 57 := by
          intro i j hi
          rw [hz105, e70]
          unfold sto
          rw [t3 0 13 (by omega)]
          by_cases h1 : i = 0 ∧ j = 13
          · rw [if_pos h1, if_pos h1]
            simp
          · rw [if_neg h1, if_neg h1]
            by_cases h2 : i = 0 ∧ j = 12
            · rw [if_pos h2, if_pos h2]
            · rw [if_neg h2, if_neg h2]
              exact t3 i j hi
        refine x_iload B dX7_move_108 6 rfl ?_
        exact r_i B R dX7_move_110 (Or.inr ⟨by omega, hch, by rw [if_neg (fun q => by omega), ← e104]; exact hE⟩)
      · show Vx x E (sto M34 0 12 z74) 92 [(0, .ref (E.1 (0))), (1, .int (iI (sc))), (2, .int (iI (m))), (3, .int (iI (o))), (4, .ref (E.1 ((16 + 5 * ((sc).toNat + 1))))), (5, .ref (E.1 (16))), (6, .int (iI (ch)))] [.ref (E.1 (2)), .ref (E.1 (0))]
        refine x_iload B dX7_move_92 6 rfl ?_
        refine x_if_eq B (tgt := 102) dX7_move_94 (by decide) ⟨by omega, by omega⟩ (fun c94 => ?_) (fun c94 => ?_)
        · show Vx x E (sto M34 0 12 z74) 102 [(0, .ref (E.1 (0))), (1, .int (iI (sc))), (2, .int (iI (m))), (3, .int (iI (o))), (4, .ref (E.1 ((16 + 5 * ((sc).toNat + 1))))), (5, .ref (E.1 (16))), (6, .int (iI (ch)))] [.ref (E.1 (2)), .ref (E.1 (0))]
          refine x_bipush B dX7_move_102 rfl ?_
          refine x_iald B (lo := 0) (hi := 20) dX7_move_104 rfl (by omega) (by omega) rfl (fun z104 ez104 lz104 uz104 => ?_)
          have ez104 : Is z104 ((sto M34 0 12 z74) 2 8) := ez104
          have e104 := Is_e ez104
          rw [sto_ni _ _ _ _ (by decide), t3 _ _ (by omega)] at e104
          refine x_callV B (st := []) (av := [.int (iI (z104))]) dX7_move_105 cs_X7_learn kw_592 ⟨rfl, rfl, Nat.le_of_ble_eq_true rfl, Nat.le_of_ble_eq_true rfl⟩ rfl rfl (Nat.le_of_ble_eq_true rfl) (rc_obj B (ci := 7) rfl rfl rfl) (c_X7_learn _ E _ z104 (by omega) (by omega)) (k_v (fun M105 hz105 => ?_))
          have hE : offC (sto (sto M 0 12 (mvC M m)) 0 13 (min 999 (M 0 13 + z104))) M105 16 57 := by
            intro i j hi
            rw [hz105, e70]
            unfold sto
            rw [t3 0 13 (by omega)]
            by_cases h1 : i = 0 ∧ j = 13
            · rw [if_pos h1, if_pos h1]
              simp
            · rw [if_neg h1, if_neg h1]
              by_cases h2 : i = 0 ∧ j = 12
              · rw [if_pos h2, if_pos h2]
              · rw [if_neg h2, if_neg h2]
                exact t3 i j hi
          refine x_iload B dX7_move_108 6 rfl ?_
          exact r_i B R dX7_move_110 (Or.inr ⟨by omega, hch, by rw [if_neg (fun q => q.2 (by rw [← hch]; exact c94)), ← e104]; exact hE⟩)
        · show Vx x E (sto M34 0 12 z74) 97 [(0, .ref (E.1 (0))), (1, .int (iI (sc))), (2, .int (iI (m))), (3, .int (iI (o))), (4, .ref (E.1 ((16 + 5 * ((sc).toNat + 1))))), (5, .ref (E.1 (16))), (6, .int (iI (ch)))] [.ref (E.1 (2)), .ref (E.1 (0))]
          refine x_bipush B dX7_move_97 rfl ?_
          refine x_goto B (tgt := 104) dX7_move_99 (by decide) ?_
          refine x_iald B (lo := 0) (hi := 20) dX7_move_104 rfl (by omega) (by omega) rfl (fun z104 ez104 lz104 uz104 => ?_)
          have ez104 : Is z104 ((sto M34 0 12 z74) 2 7) := ez104
          have e104 := Is_e ez104
          rw [sto_ni _ _ _ _ (by decide), t3 _ _ (by omega)] at e104
          refine x_callV B (st := []) (av := [.int (iI (z104))]) dX7_move_105 cs_X7_learn kw_592 ⟨rfl, rfl, Nat.le_of_ble_eq_true rfl, Nat.le_of_ble_eq_true rfl⟩ rfl rfl (Nat.le_of_ble_eq_true rfl) (rc_obj B (ci := 7) rfl rfl rfl) (c_X7_learn _ E _ z104 (by omega) (by omega)) (k_v (fun M105 hz105 => ?_))
          have hE : offC (sto (sto M 0 12 (mvC M m)) 0 13 (min 999 (M 0 13 + z104))) M105 16 57 := by
            intro i j hi
            rw [hz105, e70]
            unfold sto
            rw [t3 0 13 (by omega)]
            by_cases h1 : i = 0 ∧ j = 13
            · rw [if_pos h1, if_pos h1]
              simp
            · rw [if_neg h1, if_neg h1]
              by_cases h2 : i = 0 ∧ j = 12
              · rw [if_pos h2, if_pos h2]
              · rw [if_neg h2, if_neg h2]
                exact t3 i j hi
          refine x_iload B dX7_move_108 6 rfl ?_
          exact r_i B R dX7_move_110 (Or.inr ⟨by omega, hch, by rw [if_pos ⟨by omega, by rw [← hch]; exact c94⟩, ← e104]; exact hE⟩)
    · show Vx x E M 18 [(0, .ref (E.1 (0))), (1, .int (iI (sc))), (2, .int (iI (m))), (3, .int (iI (o)))] []
      refine x_iconst B dX7_move_18 ?_
      exact r_i B R dX7_move_19 (Or.inl ⟨rfl, rfl, by omega⟩)
abbrev rm_X7_foretell : Room := { frames := 5, cells := 0, slots := 0, locals := 116 }
theorem cs_X7_foretell : Cv yX7_foretell cX7_foretell 6 (some .int) 3 := ⟨kw_696, ⟨kw_694, kw_695⟩, kw_57, by decide, by decide, by decide +kernel⟩
set_option maxHeartbeats 4000000 in
set_option maxRecDepth 100000 in
theorem c_X7_foretell (l : Launch) (E : Ev) (M : Mem) (sc m w : Int) (g1 : -2147483648 ≤ sc) (g2 : sc < 2147483648) (g3 : -2147483648 ≤ m) (g4 : m < 2147483648) (g5 : -2147483648 ≤ w) (g6 : w < 2147483648) : Ct l yX7_foretell cX7_foretell 6 (some .int) rm_X7_foretell E M [.ref (E.1 (0)), .int (iI (sc)), .int (iI (m)), .int (iI (w))] (pI (fun z M' => z = -1 ∧ M' = M ∧ ¬ (0 ≤ sc ∧ sc < 6 ∧ 0 ≤ m ∧ m < 6 ∧ 0 ≤ w ∧ w < 2) ∨ (0 ≤ sc ∧ sc < 6 ∧ 0 ≤ m ∧ m < 6 ∧ 0 ≤ w ∧ w < 2) ∧ z = (if w = 0 then ((upS (feC M sc (M 0 12)) (feC M sc (mvC M m)) : Nat) : Int) else ((upS (feC M sc (mvC M m)) (feC M sc (M 0 12)) : Nat) : Int)) ∧ offC M M' 16 57)) := by
  refine Ct_of (lv := [(0, .ref (E.1 (0))), (1, .int (iI (sc))), (2, .int (iI (m))), (3, .int (iI (w)))]) (by decide) ⟨rfl, rfl⟩ (Nat.le_of_ble_eq_true rfl) rfl (fun x _ B R => ?_)
  refine x_iload_n B dX7_foretell_0 1 rfl rfl ?_
  refine x_bipush B dX7_foretell_1 rfl ?_
  refine x_callS B (st := []) (av := [.int (iI (sc)), .int (iI (6))]) dX7_foretell_3 cs_X7_within kw_495 ⟨rfl, rfl, Nat.le_of_ble_eq_true rfl, Nat.le_of_ble_eq_true rfl⟩ rfl rfl (Nat.le_of_ble_eq_true rfl) (c_X7_within _ E _ sc 6 (by omega) (by omega) (by omega) (by omega)) (k_i (fun z3 Mq hz3 => ?_))
  obtain ⟨rfl, hz3⟩ := hz3
  refine x_if_eq B (tgt := 26) dX7_foretell_6 (by decide) ⟨by omega, by omega⟩ (fun c6 => ?_) (fun c6 => ?_)
  · show Vx x E M 26 [(0, .ref (E.1 (0))), (1, .int (iI (sc))), (2, .int (iI (m))), (3, .int (iI (w)))] []
    refine x_iconst B dX7_foretell_26 ?_
    exact r_i B R dX7_foretell_27 (Or.inl ⟨rfl, rfl, by omega⟩)
  · show Vx x E M 9 [(0, .ref (E.1 (0))), (1, .int (iI (sc))), (2, .int (iI (m))), (3, .int (iI (w)))] []
    refine x_iload_n B dX7_foretell_9 2 rfl rfl ?_
    refine x_bipush B dX7_foretell_10 rfl ?_
    refine x_callS B (st := []) (av := [.int (iI (m)), .int (iI (6))]) dX7_foretell_12 cs_X7_within kw_495 ⟨rfl, rfl, Nat.le_of_ble_eq_true rfl, Nat.le_of_ble_eq_true rfl⟩ rfl rfl (Nat.le_of_ble_eq_true rfl) (c_X7_within _ E _ m 6 (by omega) (by omega) (by omega) (by omega)) (k_i (fun z12 Mq hz12 => ?_))
    obtain ⟨rfl, hz12⟩ := hz12
    refine x_if_eq B (tgt := 26) dX7_foretell_15 (by decide) ⟨by omega, by omega⟩ (fun c15 => ?_) (fun c15 => ?_)
    · show Vx x E M 26 [(0, .ref (E.1 (0))), (1, .int (iI (sc))), (2, .int (iI (m))), (3, .int (iI (w)))] []
      refine x_iconst B dX7_foretell_26 ?_
      exact r_i B R dX7_foretell_27 (Or.inl ⟨rfl, rfl, by omega⟩)
    · show Vx x E M 18 [(0, .ref (E.1 (0))), (1, .int (iI (sc))), (2, .int (iI (m))), (3, .int (iI (w)))] []
      refine x_iload_n B dX7_foretell_18 3 rfl rfl ?_
      refine x_iconst B dX7_foretell_19 ?_
      refine x_callS B (st := []) (av := [.int (iI (w)), .int (iI (2))]) dX7_foretell_20 cs_X7_within kw_495 ⟨rfl, rfl, Nat.le_of_ble_eq_true rfl, Nat.le_of_ble_eq_true rfl⟩ rfl rfl (Nat.le_of_ble_eq_true rfl) (c_X7_within _ E _ w 2 (by omega) (by omega) (by omega) (by omega)) (k_i (fun z20 Mq hz20 => ?_))
      obtain ⟨rfl, hz20⟩ := hz20
      refine x_if_ne B (tgt := 28) dX7_foretell_23 (by decide) ⟨by omega, by omega⟩ (fun c23 => ?_) (fun c23 => ?_)
      · show Vx x E M 28 [(0, .ref (E.1 (0))), (1, .int (iI (sc))), (2, .int (iI (m))), (3, .int (iI (w)))] []
        refine x_aload_n B dX7_foretell_28 0 rfl rfl ?_
        refine x_iload_n B dX7_foretell_29 1 rfl rfl ?_
        refine x_aload_n B dX7_foretell_30 0 rfl rfl ?_
        refine x_getI B (ci := 7) (k := 12) (lo := 0) (hi := 25) dX7_foretell_31 rfl rfl rfl (by decide) inGX7 kw_295 rfl (fun z31 ez31 lz31 uz31 => ?_)
        refine x_callV B (st := []) (av := [.int (iI (sc)), .int (iI (z31))]) dX7_foretell_34 cs_X7_seen kw_525 ⟨rfl, rfl, Nat.le_of_ble_eq_true rfl, Nat.le_of_ble_eq_true rfl⟩ rfl rfl (Nat.le_of_ble_eq_true rfl) (rc_obj B (ci := 7) rfl rfl rfl) (c_X7_seen _ E _ sc z31 (by omega) (by omega) (by omega) (by omega)) (k_r (fun az34 M34 hz34 => ?_))
        obtain ⟨rfl, hz34⟩ := hz34
        refine x_astore B dX7_foretell_37 [1, 2, 3, 4, 0] (by decide) (lv' := [(0, .ref (E.1 (0))), (1, .int (iI (sc))), (2, .int (iI (m))), (3, .int (iI (w))), (4, .ref (E.1 ((16 + 5 * ((sc).toNat + 1)))))]) rfl ?_
        refine x_aload_n B dX7_foretell_39 0 rfl rfl ?_
        refine x_iload_n B dX7_foretell_40 1 rfl rfl ?_
        refine x_iload_n B dX7_foretell_41 2 rfl rfl ?_
        refine x_callV B (st := []) (av := [.int (iI (sc)), .int (iI (m))]) dX7_foretell_42 cs_X7_seenAfter kw_689 ⟨rfl, rfl, Nat.le_of_ble_eq_true rfl, Nat.le_of_ble_eq_true rfl⟩ rfl rfl (Nat.le_of_ble_eq_true rfl) (rc_obj B (ci := 7) rfl rfl rfl) (c_X7_seenAfter _ E _ sc m (by omega) (by omega) (by omega) (by omega)) (k_r (fun az42 M42 hz42 => ?_))
        obtain ⟨rfl, hz42⟩ := hz42
        refine x_astore B dX7_foretell_45 [1, 2, 3, 4, 5, 0] (by decide) (lv' := [(0, .ref (E.1 (0))), (1, .int (iI (sc))), (2, .int (iI (m))), (3, .int (iI (w))), (4, .ref (E.1 ((16 + 5 * ((sc).toNat + 1))))), (5, .ref (E.1 (16)))]) rfl ?_
        obtain ⟨t1, t2, t3⟩ := mv_two (by omega) (by omega) (Is_e ez31) hz34 hz42
        refine x_iload_n B dX7_foretell_47 3 rfl rfl ?_
        refine x_if_ne B (tgt := 67) dX7_foretell_48 (by decide) ⟨by omega, by omega⟩ (fun c48 => ?_) (fun c48 => ?_)
        · show Vx x E M42 67 [(0, .ref (E.1 (0))), (1, .int (iI (sc))), (2, .int (iI (m))), (3, .int (iI (w))), (4, .ref (E.1 ((16 + 5 * ((sc).toNat + 1))))), (5, .ref (E.1 (16)))] []
          refine x_aload B dX7_foretell_67 4 rfl ?_
          refine x_getR B (ci := 0) (k := 2) dX7_foretell_69 (tF_o ((sc).toNat + 1) (by omega)) rfl rfl (by decide) inGX0 kw_184 ?_
          refine x_aload B dX7_foretell_72 5 rfl ?_
          refine x_getR B (ci := 0) (k := 2) dX7_foretell_74 rfl rfl rfl (by decide) inGX0 kw_184 ?_
          refine x_callS B (st := []) (av := [.ref (E.1 ((16 + 5 * ((sc).toNat + 1) + 3))), .ref (E.1 (19))]) dX7_foretell_77 cs_X7_above kw_576 ⟨rfl, rfl, Nat.le_of_ble_eq_true rfl, Nat.le_of_ble_eq_true rfl⟩ rfl rfl (Nat.le_of_ble_eq_true rfl) (c_X7_above _ E _ (16 + 5 * ((sc).toNat + 1) + 3) 19 (tF_3 ((sc).toNat + 1) (by omega)) (fun j => by rw [rF_3 ((sc).toNat + 1) j (by omega)]; exact ⟨by decide, by decide⟩) rfl (fun j => ⟨by show (0 : Int) ≤ 0; omega, by show (9 : Int) ≤ 9; omega⟩)) (k_i (fun z77 Mq hz77 => ?_))
          obtain ⟨rfl, hz77⟩ := hz77
          exact r_i B R dX7_foretell_80 (Or.inr ⟨by omega, by rw [if_neg c48, hz77.1]; unfold upS; rw [gtB_cg t1 t2], t3⟩)
        · show Vx x E M42 51 [(0, .ref (E.1 (0))), (1, .int (iI (sc))), (2, .int (iI (m))), (3, .int (iI (w))), (4, .ref (E.1 ((16 + 5 * ((sc).toNat + 1))))), (5, .ref (E.1 (16)))] []
          refine x_aload B dX7_foretell_51 5 rfl ?_
          refine x_getR B (ci := 0) (k := 2) dX7_foretell_53 rfl rfl rfl (by decide) inGX0 kw_184 ?_
          refine x_aload B dX7_foretell_56 4 rfl ?_
          refine x_getR B (ci := 0) (k := 2) dX7_foretell_58 (tF_o ((sc).toNat + 1) (by omega)) rfl rfl (by decide) inGX0 kw_184 ?_
          refine x_callS B (st := []) (av := [.ref (E.1 (19)), .ref (E.1 ((16 + 5 * ((sc).toNat + 1) + 3)))]) dX7_foretell_61 cs_X7_above kw_576 ⟨rfl, rfl, Nat.le_of_ble_eq_true rfl, Nat.le_of_ble_eq_true rfl⟩ rfl rfl (Nat.le_of_ble_eq_true rfl) (c_X7_above _ E _ 19 (16 + 5 * ((sc).toNat + 1) + 3) rfl (fun j => ⟨by show (0 : Int) ≤ 0; omega, by show (9 : Int) ≤ 9; omega⟩) (tF_3 ((sc).toNat + 1) (by omega)) (fun j => by rw [rF_3 ((sc).toNat + 1) j (by omega)]; exact ⟨by decide, by decide⟩)) (k_i (fun z61 Mq hz61 => ?_))
          obtain ⟨rfl, hz61⟩ := hz61
          refine x_goto B (tgt := 80) dX7_foretell_64 (by decide) ?_
          exact r_i B R dX7_foretell_80 (Or.inr ⟨by omega, by rw [if_pos c48, hz61.1]; unfold upS; rw [gtB_cg t2 t1], t3⟩)
      · show Vx x E M 26 [(0, .ref (E.1 (0))), (1, .int (iI (sc))), (2, .int (iI (m))), (3, .int (iI (w)))] []
        refine x_iconst B dX7_foretell_26 ?_
        exact r_i B R dX7_foretell_27 (Or.inl ⟨rfl, rfl, by omega⟩)
abbrev rm_X7_heard : Room := { frames := 5, cells := 0, slots := 0, locals := 116 }
theorem cs_X7_heard : Cv yX7_heard cX7_heard 4 (some .int) 3 := ⟨kw_720, ⟨kw_718, kw_719⟩, kw_57, by decide, by decide, by decide +kernel⟩
set_option maxHeartbeats 4000000 in
set_option maxRecDepth 100000 in
theorem c_X7_heard (l : Launch) (E : Ev) (M : Mem) (sc co ro : Int) (g1 : -2147483648 ≤ sc) (g2 : sc < 2147483648) (g3 : -2147483648 ≤ co) (g4 : co < 2147483648) (g5 : -2147483648 ≤ ro) (g6 : ro < 2147483648) : Ct l yX7_heard cX7_heard 4 (some .int) rm_X7_heard E M [.ref (E.1 (0)), .int (iI (sc)), .int (iI (co)), .int (iI (ro))] (pI (fun z M' => z = -1 ∧ M' = M ∧ ¬ (0 ≤ sc ∧ sc < 6 ∧ 0 ≤ co ∧ co < 4 ∧ 0 ≤ ro ∧ ro < 4) ∨ (0 ≤ sc ∧ sc < 6 ∧ 0 ≤ co ∧ co < 4 ∧ 0 ≤ ro ∧ ro < 4) ∧ z = loS (shC M sc (M 0 12)) (M 2 6) (4 * ro + co) ∧ offC M M' 16 57)) := by
  refine Ct_of (lv := [(0, .ref (E.1 (0))), (1, .int (iI (sc))), (2, .int (iI (co))), (3, .int (iI (ro)))]) (by decide) ⟨rfl, rfl⟩ (Nat.le_of_ble_eq_true rfl) rfl (fun x _ B R => ?_)
  refine x_iload_n B dX7_heard_0 1 rfl rfl ?_
  refine x_bipush B dX7_heard_1 rfl ?_
  refine x_callS B (st := []) (av := [.int (iI (sc)), .int (iI (6))]) dX7_heard_3 cs_X7_within kw_495 ⟨rfl, rfl, Nat.le_of_ble_eq_true rfl, Nat.le_of_ble_eq_true rfl⟩ rfl rfl (Nat.le_of_ble_eq_true rfl) (c_X7_within _ E _ sc 6 (by omega) (by omega) (by omega) (by omega)) (k_i (fun z3 Mq hz3 => ?_))
  obtain ⟨rfl, hz3⟩ := hz3
  refine x_if_eq B (tgt := 25) dX7_heard_6 (by decide) ⟨by omega, by omega⟩ (fun c6 => ?_) (fun c6 => ?_)
  · show Vx x E M 25 [(0, .ref (E.1 (0))), (1, .int (iI (sc))), (2, .int (iI (co))), (3, .int (iI (ro)))] []
    refine x_iconst B dX7_heard_25 ?_
    exact r_i B R dX7_heard_26 (Or.inl ⟨rfl, rfl, by omega⟩)
  · show Vx x E M 9 [(0, .ref (E.1 (0))), (1, .int (iI (sc))), (2, .int (iI (co))), (3, .int (iI (ro)))] []
    refine x_iload_n B dX7_heard_9 2 rfl rfl ?_
    refine x_iconst B dX7_heard_10 ?_
    refine x_callS B (st := []) (av := [.int (iI (co)), .int (iI (4))]) dX7_heard_11 cs_X7_within kw_495 ⟨rfl, rfl, Nat.le_of_ble_eq_true rfl, Nat.le_of_ble_eq_true rfl⟩ rfl rfl (Nat.le_of_ble_eq_true rfl) (c_X7_within _ E _ co 4 (by omega) (by omega) (by omega) (by omega)) (k_i (fun z11 Mq hz11 => ?_))
    obtain ⟨rfl, hz11⟩ := hz11
    refine x_if_eq B (tgt := 25) dX7_heard_14 (by decide) ⟨by omega, by omega⟩ (fun c14 => ?_) (fun c14 => ?_)
    · show Vx x E M 25 [(0, .ref (E.1 (0))), (1, .int (iI (sc))), (2, .int (iI (co))), (3, .int (iI (ro)))] []
      refine x_iconst B dX7_heard_25 ?_
      exact r_i B R dX7_heard_26 (Or.inl ⟨rfl, rfl, by omega⟩)
    · show Vx x E M 17 [(0, .ref (E.1 (0))), (1, .int (iI (sc))), (2, .int (iI (co))), (3, .int (iI (ro)))] []
      refine x_iload_n B dX7_heard_17 3 rfl rfl ?_
      refine x_iconst B dX7_heard_18 ?_
      refine x_callS B (st := []) (av := [.int (iI (ro)), .int (iI (4))]) dX7_heard_19 cs_X7_within kw_495 ⟨rfl, rfl, Nat.le_of_ble_eq_true rfl, Nat.le_of_ble_eq_true rfl⟩ rfl rfl (Nat.le_of_ble_eq_true rfl) (c_X7_within _ E _ ro 4 (by omega) (by omega) (by omega) (by omega)) (k_i (fun z19 Mq hz19 => ?_))
      obtain ⟨rfl, hz19⟩ := hz19
      refine x_if_ne B (tgt := 27) dX7_heard_22 (by decide) ⟨by omega, by omega⟩ (fun c22 => ?_) (fun c22 => ?_)
      · show Vx x E M 27 [(0, .ref (E.1 (0))), (1, .int (iI (sc))), (2, .int (iI (co))), (3, .int (iI (ro)))] []
        refine x_aload_n B dX7_heard_27 0 rfl rfl ?_
        refine x_iload_n B dX7_heard_28 1 rfl rfl ?_
        refine x_aload_n B dX7_heard_29 0 rfl rfl ?_
        refine x_getI B (ci := 7) (k := 12) (lo := 0) (hi := 25) dX7_heard_30 rfl rfl rfl (by decide) inGX7 kw_295 rfl (fun z30 ez30 lz30 uz30 => ?_)
        refine x_callV B (st := []) (av := [.int (iI (sc)), .int (iI (z30))]) dX7_heard_33 cs_X7_seen kw_525 ⟨rfl, rfl, Nat.le_of_ble_eq_true rfl, Nat.le_of_ble_eq_true rfl⟩ rfl rfl (Nat.le_of_ble_eq_true rfl) (rc_obj B (ci := 7) rfl rfl rfl) (c_X7_seen _ E _ sc z30 (by omega) (by omega) (by omega) (by omega)) (k_r (fun az33 M33 hz33 => ?_))
        obtain ⟨rfl, hz33⟩ := hz33
        have hof : offC M M33 16 57 := offC_w hz33.1 (by omega) (by omega)
        rw [Is_e ez30] at hz33
        obtain ⟨-, s1, s2, s3, s4⟩ := seeP_C hz33
        refine x_iconst B dX7_heard_36 ?_
        refine x_iload_n B dX7_heard_37 3 rfl rfl ?_
        refine x_imul B dX7_heard_38 ?_
        refine x_iload_n B dX7_heard_39 2 rfl rfl ?_
        refine x_iadd B dX7_heard_40 ?_
        refine x_aload_n B dX7_heard_41 0 rfl rfl ?_
        refine x_getR B (ci := 7) (k := 0) dX7_heard_42 rfl rfl rfl (by decide) inGX7 kw_283 ?_
        refine x_getR B (ci := 1) (k := 0) dX7_heard_45 rfl rfl rfl (by decide) inGX1 kw_103 ?_
        refine x_bipush B dX7_heard_48 rfl ?_
        refine x_iald B (lo := 1) (hi := 9) dX7_heard_50 rfl (by omega) (by omega) rfl (fun z50 ez50 lz50 uz50 => ?_)
        have ez50 : Is z50 (M33 2 6) := ez50
        have e50 := Is_e ez50
        rw [hof _ _ (by omega)] at e50
        refine x_callV B (st := []) (av := [.int (iI ((4 * ro) + co)), .int (iI (z50))]) dX7_heard_51 cs_X0_loudness kw_721 ⟨rfl, rfl, Nat.le_of_ble_eq_true rfl, Nat.le_of_ble_eq_true rfl⟩ rfl rfl (Nat.le_of_ble_eq_true rfl) (rc_obj B (ci := 0) (tF_o ((sc).toNat + 1) (by omega)) rfl rfl) (c_X0_loudness _ E _ ((sc).toNat + 1) ((4 * ro) + co) z50 (by omega) (by omega) (by omega) (by omega) (by omega)) (k_i (fun z51 Mq hz51 => ?_))
        obtain ⟨rfl, hz51⟩ := hz51
        exact r_i B R dX7_heard_54 (Or.inr ⟨by omega, by rw [hz51.1, e50]; exact loS_cg (by omega) (by omega) s2, hof⟩)
      · show Vx x E M 25 [(0, .ref (E.1 (0))), (1, .int (iI (sc))), (2, .int (iI (co))), (3, .int (iI (ro)))] []
        refine x_iconst B dX7_heard_25 ?_
        exact r_i B R dX7_heard_26 (Or.inl ⟨rfl, rfl, by omega⟩)
theorem fs_eqS {M M3 M9 : Mem} {a b pl : Int} (a0 : 0 ≤ a) (b0 : 0 ≤ b) (h3 : seeP M M3 (a.toNat + 1) (64 * a) pl 1 13) (h9 : seeP M3 M9 (b.toNat + 1) (64 * b) pl 1 13) : eqF (M9 (16 + 5 * (a.toNat + 1) + 2)) (shC M a pl) ∧ eqF (M9 (16 + 5 * (b.toNat + 1) + 2)) (shC M b pl) := by
  obtain ⟨p1, -, p4, -⟩ := seeP_C h3
  obtain ⟨q1, -, q4, -⟩ := seeP_C h9
  have e : shC M3 = shC M := shC_off p1 (by omega)
  rw [e] at q4
  refine ⟨?_, q4⟩
  by_cases hab : a = b
  · rw [hab]; exact q4
  · rw [offC_f q1 (by omega)]
    exact p4
theorem soE_cg {a a' b b' : Nat → Int} {m : Int} (ha : eqF a a') (hb : eqF b b') : soE a b m ↔ soE a' b' m := ⟨fun h p p0 p1 => by rw [← loS_cg p0 p1 ha, ← loS_cg p0 p1 hb]; exact h p p0 p1, fun h p p0 p1 => by rw [loS_cg p0 p1 ha, loS_cg p0 p1 hb]; exact h p p0 p1⟩
abbrev rm_X7_sounds : Room := { frames := 5, cells := 0, slots := 0, locals := 116 }
theorem cs_X7_sounds : Cv yX7_sounds cX7_sounds 3 (some .int) 2 := ⟨kw_728, ⟨kw_726, kw_727⟩, kw_57, by decide, by decide, by decide +kernel⟩
set_option maxHeartbeats 4000000 in
set_option maxRecDepth 100000 in
theorem c_X7_sounds (l : Launch) (E : Ev) (M : Mem) (a b : Int) (g1 : -2147483648 ≤ a) (g2 : a < 2147483648) (g3 : -2147483648 ≤ b) (g4 : b < 2147483648) : Ct l yX7_sounds cX7_sounds 3 (some .int) rm_X7_sounds E M [.ref (E.1 (0)), .int (iI (a)), .int (iI (b))] (pI (fun z M' => z = -1 ∧ M' = M ∧ ¬ (0 ≤ a ∧ a < 6 ∧ 0 ≤ b ∧ b < 6) ∨ (0 ≤ a ∧ a < 6 ∧ 0 ≤ b ∧ b < 6) ∧ (z = 1 ∧ soE (shC M a (M 0 12)) (shC M b (M 0 12)) (M 2 6) ∨ z = 0 ∧ ¬ soE (shC M a (M 0 12)) (shC M b (M 0 12)) (M 2 6)) ∧ offC M M' 16 57)) := by
  refine Ct_of (lv := [(0, .ref (E.1 (0))), (1, .int (iI (a))), (2, .int (iI (b)))]) (by decide) ⟨rfl, rfl⟩ (Nat.le_of_ble_eq_true rfl) rfl (fun x _ B R => ?_)
  refine x_iload_n B dX7_sounds_0 1 rfl rfl ?_
  refine x_bipush B dX7_sounds_1 rfl ?_
  refine x_callS B (st := []) (av := [.int (iI (a)), .int (iI (6))]) dX7_sounds_3 cs_X7_within kw_495 ⟨rfl, rfl, Nat.le_of_ble_eq_true rfl, Nat.le_of_ble_eq_true rfl⟩ rfl rfl (Nat.le_of_ble_eq_true rfl) (c_X7_within _ E _ a 6 (by omega) (by omega) (by omega) (by omega)) (k_i (fun z3 Mq hz3 => ?_))
  obtain ⟨rfl, hz3⟩ := hz3
  refine x_if_eq B (tgt := 18) dX7_sounds_6 (by decide) ⟨by omega, by omega⟩ (fun c6 => ?_) (fun c6 => ?_)
  · show Vx x E M 18 [(0, .ref (E.1 (0))), (1, .int (iI (a))), (2, .int (iI (b)))] []
    refine x_iconst B dX7_sounds_18 ?_
    exact r_i B R dX7_sounds_19 (Or.inl ⟨rfl, rfl, by omega⟩)
  · show Vx x E M 9 [(0, .ref (E.1 (0))), (1, .int (iI (a))), (2, .int (iI (b)))] []
    refine x_iload_n B dX7_sounds_9 2 rfl rfl ?_
    refine x_bipush B dX7_sounds_10 rfl ?_
    refine x_callS B (st := []) (av := [.int (iI (b)), .int (iI (6))]) dX7_sounds_12 cs_X7_within kw_495 ⟨rfl, rfl, Nat.le_of_ble_eq_true rfl, Nat.le_of_ble_eq_true rfl⟩ rfl rfl (Nat.le_of_ble_eq_true rfl) (c_X7_within _ E _ b 6 (by omega) (by omega) (by omega) (by omega)) (k_i (fun z12 Mq hz12 => ?_))
    obtain ⟨rfl, hz12⟩ := hz12
    refine x_if_ne B (tgt := 20) dX7_sounds_15 (by decide) ⟨by omega, by omega⟩ (fun c15 => ?_) (fun c15 => ?_)
    · show Vx x E M 20 [(0, .ref (E.1 (0))), (1, .int (iI (a))), (2, .int (iI (b)))] []
      refine x_aload_n B dX7_sounds_20 0 rfl rfl ?_
      refine x_iload_n B dX7_sounds_21 1 rfl rfl ?_
      refine x_aload_n B dX7_sounds_22 0 rfl rfl ?_
      refine x_getI B (ci := 7) (k := 12) (lo := 0) (hi := 25) dX7_sounds_23 rfl rfl rfl (by decide) inGX7 kw_295 rfl (fun z23 ez23 lz23 uz23 => ?_)
      refine x_callV B (st := []) (av := [.int (iI (a)), .int (iI (z23))]) dX7_sounds_26 cs_X7_seen kw_525 ⟨rfl, rfl, Nat.le_of_ble_eq_true rfl, Nat.le_of_ble_eq_true rfl⟩ rfl rfl (Nat.le_of_ble_eq_true rfl) (rc_obj B (ci := 7) rfl rfl rfl) (c_X7_seen _ E _ a z23 (by omega) (by omega) (by omega) (by omega)) (k_r (fun az26 M26 hz26 => ?_))
      obtain ⟨rfl, hz26⟩ := hz26
      have hof0 : offC M M26 16 57 := offC_w hz26.1 (by omega) (by omega)
      refine x_aload_n B dX7_sounds_29 0 rfl rfl ?_
      refine x_iload_n B dX7_sounds_30 2 rfl rfl ?_
      refine x_aload_n B dX7_sounds_31 0 rfl rfl ?_
      refine x_getI B (ci := 7) (k := 12) (lo := 0) (hi := 25) dX7_sounds_32 rfl rfl rfl (by decide) inGX7 kw_295 rfl (fun z32 ez32 lz32 uz32 => ?_)
      refine x_callV B (st := [.ref (E.1 ((16 + 5 * ((a).toNat + 1))))]) (av := [.int (iI (b)), .int (iI (z32))]) dX7_sounds_35 cs_X7_seen kw_525 ⟨rfl, rfl, Nat.le_of_ble_eq_true rfl, Nat.le_of_ble_eq_true rfl⟩ rfl rfl (Nat.le_of_ble_eq_true rfl) (rc_obj B (ci := 7) rfl rfl rfl) (c_X7_seen _ E _ b z32 (by omega) (by omega) (by omega) (by omega)) (k_r (fun az35 M35 hz35 => ?_))
      obtain ⟨rfl, hz35⟩ := hz35
      have e32 := Is_e ez32
      rw [hof0 0 12 (by omega)] at e32
      have e23 := Is_e ez23
      rw [e32, ← e23] at hz35
      have hss := fs_eqS (by omega) (by omega) hz26 hz35
      rw [e23] at hss
      have hof : offC M M35 16 57 := offC_tr hof0 (offC_w hz35.1 (by omega) (by omega))
      refine x_aload_n B dX7_sounds_38 0 rfl rfl ?_
      refine x_getR B (ci := 7) (k := 0) dX7_sounds_39 rfl rfl rfl (by decide) inGX7 kw_283 ?_
      refine x_getR B (ci := 1) (k := 0) dX7_sounds_42 rfl rfl rfl (by decide) inGX1 kw_103 ?_
      refine x_bipush B dX7_sounds_45 rfl ?_
      refine x_iald B (lo := 1) (hi := 9) dX7_sounds_47 rfl (by omega) (by omega) rfl (fun z47 ez47 lz47 uz47 => ?_)
      have ez47 : Is z47 (M35 2 6) := ez47
      have e47 := Is_e ez47
      rw [hof _ _ (by omega)] at e47
      refine x_callV B (st := []) (av := [.ref (E.1 ((16 + 5 * ((b).toNat + 1)))), .int (iI (z47))]) dX7_sounds_48 cs_X0_soundsAs kw_729 ⟨rfl, rfl, Nat.le_of_ble_eq_true rfl, Nat.le_of_ble_eq_true rfl⟩ rfl rfl (Nat.le_of_ble_eq_true rfl) (rc_obj B (ci := 0) (tF_o ((a).toNat + 1) (by omega)) rfl rfl) (c_X0_soundsAs _ E _ ((a).toNat + 1) ((b).toNat + 1) z47 (by omega) (by omega) (by omega) (by omega)) (k_i (fun z48 Mq hz48 => ?_))
      obtain ⟨rfl, hz48⟩ := hz48
      rw [e47, soE_cg hss.1 hss.2] at hz48
      refine x_if_eq B (tgt := 58) dX7_sounds_51 (by decide) ⟨by omega, by omega⟩ (fun c51 => ?_) (fun c51 => ?_)
      · show Vx x E M35 58 [(0, .ref (E.1 (0))), (1, .int (iI (a))), (2, .int (iI (b)))] []
        refine x_iconst B dX7_sounds_58 ?_
        exact r_i B R dX7_sounds_59 (Or.inr ⟨by omega, by rcases hz48 with ⟨h5, h6⟩ | ⟨h5, h6⟩ <;> first | omega | exact Or.inr ⟨rfl, h6⟩, hof⟩)
      · show Vx x E M35 54 [(0, .ref (E.1 (0))), (1, .int (iI (a))), (2, .int (iI (b)))] []
        refine x_iconst B dX7_sounds_54 ?_
        refine x_goto B (tgt := 59) dX7_sounds_55 (by decide) ?_
        exact r_i B R dX7_sounds_59 (Or.inr ⟨by omega, by rcases hz48 with ⟨h5, h6⟩ | ⟨h5, h6⟩ <;> first | omega | exact Or.inl ⟨rfl, h6⟩, hof⟩)
    · show Vx x E M 18 [(0, .ref (E.1 (0))), (1, .int (iI (a))), (2, .int (iI (b)))] []
      refine x_iconst B dX7_sounds_18 ?_
      exact r_i B R dX7_sounds_19 (Or.inl ⟨rfl, rfl, by omega⟩)
abbrev rm_X7_answer : Room := { frames := 1, cells := 0, slots := 0, locals := 24 }
theorem cs_X7_answer : Cv yX7_answer cX7_answer 5 (some .int) 4 := ⟨kw_741, ⟨kw_739, kw_740⟩, kw_57, by decide, by decide, by decide +kernel⟩
set_option maxHeartbeats 4000000 in
set_option maxRecDepth 100000 in
theorem c_X7_answer (l : Launch) (E : Ev) (M : Mem) (sc pl p fe : Int) (g1 : -2147483648 ≤ sc) (g2 : sc < 2147483648) (g3 : -2147483648 ≤ pl) (g4 : pl < 2147483648) (g5 : -2147483648 ≤ p) (g6 : p < 2147483648) (g7 : 0 ≤ fe) (g8 : fe ≤ 1) : Ct l yX7_answer cX7_answer 5 (some .int) rm_X7_answer E M [.ref (E.1 (0)), .int (iI (sc)), .int (iI (pl)), .int (iI (p)), .int (iI (fe))] (pI (fun z M' => z = -1 ∧ M' = M ∧ ¬ (0 ≤ sc ∧ sc < 6 ∧ 0 ≤ pl ∧ pl < 26 ∧ 0 ≤ p ∧ p < 16) ∨ (0 ≤ sc ∧ sc < 6 ∧ 0 ≤ pl ∧ pl < 26 ∧ 0 ≤ p ∧ p < 16) ∧ z = -3 ∧ M' = M ∧ 12 ≤ M 57 4 ∨ (0 ≤ sc ∧ sc < 6 ∧ 0 ≤ pl ∧ pl < 26 ∧ 0 ≤ p ∧ p < 16) ∧ z = M 57 4 + 1 ∧ M' = keepM M sc pl p fe ∧ M 57 4 < 12)) := by
  refine Ct_of (lv := [(0, .ref (E.1 (0))), (1, .int (iI (sc))), (2, .int (iI (pl))), (3, .int (iI (p))), (4, .int (iI (fe)))]) (by decide) ⟨rfl, rfl⟩ (Nat.le_of_ble_eq_true rfl) rfl (fun x _ B R => ?_)
  refine x_iload_n B dX7_answer_0 1 rfl rfl ?_
  refine x_bipush B dX7_answer_1 rfl ?_
  refine x_callS B (st := []) (av := [.int (iI (sc)), .int (iI (6))]) dX7_answer_3 cs_X7_within kw_495 ⟨rfl, rfl, Nat.le_of_ble_eq_true rfl, Nat.le_of_ble_eq_true rfl⟩ rfl rfl (Nat.le_of_ble_eq_true rfl) (c_X7_within _ E _ sc 6 (by omega) (by omega) (by omega) (by omega)) (k_i (fun z3 Mq hz3 => ?_))
  obtain ⟨rfl, hz3⟩ := hz3
  refine x_if_eq B (tgt := 27) dX7_answer_6 (by decide) ⟨by omega, by omega⟩ (fun c6 => ?_) (fun c6 => ?_)
  · show Vx x E M 27 [(0, .ref (E.1 (0))), (1, .int (iI (sc))), (2, .int (iI (pl))), (3, .int (iI (p))), (4, .int (iI (fe)))] []
    refine x_iconst B dX7_answer_27 ?_
    exact r_i B R dX7_answer_28 (Or.inl ⟨rfl, rfl, by omega⟩)
  · show Vx x E M 9 [(0, .ref (E.1 (0))), (1, .int (iI (sc))), (2, .int (iI (pl))), (3, .int (iI (p))), (4, .int (iI (fe)))] []
    refine x_iload_n B dX7_answer_9 2 rfl rfl ?_
    refine x_bipush B dX7_answer_10 rfl ?_
    refine x_callS B (st := []) (av := [.int (iI (pl)), .int (iI (26))]) dX7_answer_12 cs_X7_within kw_495 ⟨rfl, rfl, Nat.le_of_ble_eq_true rfl, Nat.le_of_ble_eq_true rfl⟩ rfl rfl (Nat.le_of_ble_eq_true rfl) (c_X7_within _ E _ pl 26 (by omega) (by omega) (by omega) (by omega)) (k_i (fun z12 Mq hz12 => ?_))
    obtain ⟨rfl, hz12⟩ := hz12
    refine x_if_eq B (tgt := 27) dX7_answer_15 (by decide) ⟨by omega, by omega⟩ (fun c15 => ?_) (fun c15 => ?_)
    · show Vx x E M 27 [(0, .ref (E.1 (0))), (1, .int (iI (sc))), (2, .int (iI (pl))), (3, .int (iI (p))), (4, .int (iI (fe)))] []
      refine x_iconst B dX7_answer_27 ?_
      exact r_i B R dX7_answer_28 (Or.inl ⟨rfl, rfl, by omega⟩)
    · show Vx x E M 18 [(0, .ref (E.1 (0))), (1, .int (iI (sc))), (2, .int (iI (pl))), (3, .int (iI (p))), (4, .int (iI (fe)))] []
      refine x_iload_n B dX7_answer_18 3 rfl rfl ?_
      refine x_bipush B dX7_answer_19 rfl ?_
      refine x_callS B (st := []) (av := [.int (iI (p)), .int (iI (16))]) dX7_answer_21 cs_X7_within kw_495 ⟨rfl, rfl, Nat.le_of_ble_eq_true rfl, Nat.le_of_ble_eq_true rfl⟩ rfl rfl (Nat.le_of_ble_eq_true rfl) (c_X7_within _ E _ p 16 (by omega) (by omega) (by omega) (by omega)) (k_i (fun z21 Mq hz21 => ?_))
      obtain ⟨rfl, hz21⟩ := hz21
      refine x_if_ne B (tgt := 29) dX7_answer_24 (by decide) ⟨by omega, by omega⟩ (fun c24 => ?_) (fun c24 => ?_)
      · show Vx x E M 29 [(0, .ref (E.1 (0))), (1, .int (iI (sc))), (2, .int (iI (pl))), (3, .int (iI (p))), (4, .int (iI (fe)))] []
        refine x_aload_n B dX7_answer_29 0 rfl rfl ?_
        refine x_getR B (ci := 7) (k := 10) dX7_answer_30 rfl rfl rfl (by decide) inGX7 kw_293 ?_
        refine x_iload_n B dX7_answer_33 1 rfl rfl ?_
        refine x_iload_n B dX7_answer_34 2 rfl rfl ?_
        refine x_iload_n B dX7_answer_35 3 rfl rfl ?_
        refine x_iload B dX7_answer_36 4 rfl ?_
        refine x_callV B (st := []) (av := [.int (iI (sc)), .int (iI (pl)), .int (iI (p)), .int (iI (fe))]) dX7_answer_38 cs_X3_keep kw_742 ⟨rfl, rfl, Nat.le_of_ble_eq_true rfl, Nat.le_of_ble_eq_true rfl⟩ rfl rfl (Nat.le_of_ble_eq_true rfl) (rc_obj B (ci := 3) rfl rfl rfl) (c_X3_keep _ E _ sc pl p fe (by omega) (by omega) (by omega) (by omega) (by omega) (by omega) (by omega) (by omega)) (k_i (fun z38 M38 hz38 => ?_))
        refine x_if_eq B (tgt := 54) dX7_answer_41 (by decide) ⟨by omega, by omega⟩ (fun c41 => ?_) (fun c41 => ?_)
        · show Vx x E M38 54 [(0, .ref (E.1 (0))), (1, .int (iI (sc))), (2, .int (iI (pl))), (3, .int (iI (p))), (4, .int (iI (fe)))] []
          refine x_bipush B dX7_answer_54 rfl ?_
          exact r_i B R dX7_answer_56 (by rcases hz38 with ⟨h5, h6, h7⟩ | ⟨h5, h6, h7⟩; exact Or.inr (Or.inl ⟨by omega, rfl, h6, h7⟩); omega)
        · show Vx x E M38 44 [(0, .ref (E.1 (0))), (1, .int (iI (sc))), (2, .int (iI (pl))), (3, .int (iI (p))), (4, .int (iI (fe)))] []
          refine x_aload_n B dX7_answer_44 0 rfl rfl ?_
          refine x_getR B (ci := 7) (k := 10) dX7_answer_45 rfl rfl rfl (by decide) inGX7 kw_293 ?_
          refine x_getI B (ci := 3) (k := 4) (lo := 0) (hi := 12) dX7_answer_48 rfl rfl rfl (by decide) inGX3 kw_251 rfl (fun z48 ez48 lz48 uz48 => ?_)
          refine x_goto B (tgt := 56) dX7_answer_51 (by decide) ?_
          exact r_i B R dX7_answer_56 (by rcases hz38 with ⟨h5, h6, h7⟩ | ⟨h5, h6, h7⟩; omega; exact Or.inr (Or.inr ⟨by omega, by rw [Is_e ez48, h6]; exact sto_eq _ _ _ _, h6, h7⟩))
      · show Vx x E M 27 [(0, .ref (E.1 (0))), (1, .int (iI (sc))), (2, .int (iI (pl))), (3, .int (iI (p))), (4, .int (iI (fe)))] []
        refine x_iconst B dX7_answer_27 ?_
        exact r_i B R dX7_answer_28 (Or.inl ⟨rfl, rfl, by omega⟩)
abbrev rm_X7_torn : Room := { frames := 0, cells := 0, slots := 0, locals := 0 }
theorem cs_X7_torn : Cv yX7_torn cX7_torn 1 (some .int) 0 := ⟨kw_790, ⟨kw_788, kw_789⟩, kw_57, by decide, by decide, by decide +kernel⟩
set_option maxHeartbeats 4000000 in
set_option maxRecDepth 100000 in
theorem c_X7_torn (l : Launch) (E : Ev) (M : Mem)   : Ct l yX7_torn cX7_torn 1 (some .int) rm_X7_torn E M [.ref (E.1 (0))] (pI (fun z M' => M = M' ∧ (z = M 0 14))) := by
  refine Ct_of (lv := [(0, .ref (E.1 (0)))]) (by decide) ⟨rfl, rfl⟩ (Nat.le_of_ble_eq_true rfl) rfl (fun x _ B R => ?_)
  refine x_aload_n B dX7_torn_0 0 rfl rfl ?_
  refine x_getI B (ci := 7) (k := 14) (lo := 0) (hi := 3) dX7_torn_1 rfl rfl rfl (by decide) inGX7 kw_297 rfl (fun z1 ez1 lz1 uz1 => ?_)
  exact r_i B R dX7_torn_4 (⟨rfl, Is_e ez1⟩)
abbrev rm_X7_sheet : Room := { frames := 2, cells := 0, slots := 0, locals := 45 }
theorem cs_X7_sheet : Cv yX7_sheet cX7_sheet 4 (some .int) 3 := ⟨kw_757, ⟨kw_755, kw_756⟩, kw_57, by decide, by decide, by decide +kernel⟩
set_option maxHeartbeats 4000000 in
set_option maxRecDepth 100000 in
theorem c_X7_sheet (l : Launch) (E : Ev) (M : Mem) (k la n : Int) (g1 : -2147483648 ≤ k) (g2 : k < 2147483648) (g3 : -2147483648 ≤ la) (g4 : la < 2147483648) (g5 : -2147483648 ≤ n) (g6 : n < 2147483648) : Ct l yX7_sheet cX7_sheet 4 (some .int) rm_X7_sheet E M [.ref (E.1 (0)), .int (iI (k)), .int (iI (la)), .int (iI (n))] (pI (fun z M' => z = -1 ∧ M' = M ∧ ¬ (0 ≤ k ∧ k < 4 ∧ 0 ≤ la ∧ la < 3 ∧ n ≤ 64) ∨ (0 ≤ k ∧ k < 4 ∧ 0 ≤ la ∧ la < 3 ∧ n ≤ 64) ∧ n < 0 ∧ z = -14 ∧ M' = M ∨ (0 ≤ k ∧ k < 4 ∧ 0 ≤ la ∧ la < 3 ∧ n ≤ 64) ∧ 0 ≤ n ∧ z = 1 ∧ M' = sto (sto (fillM M (63 + 2 * k.toNat + 1) 64 0) (63 + 2 * k.toNat) 2 la) (63 + 2 * k.toNat) 1 n)) := by
  refine Ct_of (lv := [(0, .ref (E.1 (0))), (1, .int (iI (k))), (2, .int (iI (la))), (3, .int (iI (n)))]) (by decide) ⟨rfl, rfl⟩ (Nat.le_of_ble_eq_true rfl) rfl (fun x _ B R => ?_)
  refine x_iload_n B dX7_sheet_0 1 rfl rfl ?_
  refine x_iconst B dX7_sheet_1 ?_
  refine x_callS B (st := []) (av := [.int (iI (k)), .int (iI (4))]) dX7_sheet_2 cs_X7_within kw_495 ⟨rfl, rfl, Nat.le_of_ble_eq_true rfl, Nat.le_of_ble_eq_true rfl⟩ rfl rfl (Nat.le_of_ble_eq_true rfl) (c_X7_within _ E _ k 4 (by omega) (by omega) (by omega) (by omega)) (k_i (fun z2 Mq hz2 => ?_))
  obtain ⟨rfl, hz2⟩ := hz2
  refine x_if_eq B (tgt := 22) dX7_sheet_5 (by decide) ⟨by omega, by omega⟩ (fun c5 => ?_) (fun c5 => ?_)
  · show Vx x E M 22 [(0, .ref (E.1 (0))), (1, .int (iI (k))), (2, .int (iI (la))), (3, .int (iI (n)))] []
    refine x_iconst B dX7_sheet_22 ?_
    exact r_i B R dX7_sheet_23 (Or.inl ⟨rfl, rfl, by omega⟩)
  · show Vx x E M 8 [(0, .ref (E.1 (0))), (1, .int (iI (k))), (2, .int (iI (la))), (3, .int (iI (n)))] []
    refine x_iload_n B dX7_sheet_8 2 rfl rfl ?_
    refine x_iconst B dX7_sheet_9 ?_
    refine x_callS B (st := []) (av := [.int (iI (la)), .int (iI (3))]) dX7_sheet_10 cs_X7_within kw_495 ⟨rfl, rfl, Nat.le_of_ble_eq_true rfl, Nat.le_of_ble_eq_true rfl⟩ rfl rfl (Nat.le_of_ble_eq_true rfl) (c_X7_within _ E _ la 3 (by omega) (by omega) (by omega) (by omega)) (k_i (fun z10 Mq hz10 => ?_))
    obtain ⟨rfl, hz10⟩ := hz10
    refine x_if_eq B (tgt := 22) dX7_sheet_13 (by decide) ⟨by omega, by omega⟩ (fun c13 => ?_) (fun c13 => ?_)
    · show Vx x E M 22 [(0, .ref (E.1 (0))), (1, .int (iI (k))), (2, .int (iI (la))), (3, .int (iI (n)))] []
      refine x_iconst B dX7_sheet_22 ?_
      exact r_i B R dX7_sheet_23 (Or.inl ⟨rfl, rfl, by omega⟩)
    · show Vx x E M 16 [(0, .ref (E.1 (0))), (1, .int (iI (k))), (2, .int (iI (la))), (3, .int (iI (n)))] []
      refine x_iload_n B dX7_sheet_16 3 rfl rfl ?_
      refine x_bipush B dX7_sheet_17 rfl ?_
      refine x_icmp_le B (tgt := 24) dX7_sheet_19 (by decide) ⟨by omega, by omega⟩ ⟨by omega, by omega⟩ (fun c19 => ?_) (fun c19 => ?_)
      · show Vx x E M 24 [(0, .ref (E.1 (0))), (1, .int (iI (k))), (2, .int (iI (la))), (3, .int (iI (n)))] []
        refine x_iload_n B dX7_sheet_24 3 rfl rfl ?_
        refine x_if_ge B (tgt := 31) dX7_sheet_25 (by decide) ⟨by omega, by omega⟩ (fun c25 => ?_) (fun c25 => ?_)
        · show Vx x E M 31 [(0, .ref (E.1 (0))), (1, .int (iI (k))), (2, .int (iI (la))), (3, .int (iI (n)))] []
          refine x_aload_n B dX7_sheet_31 0 rfl rfl ?_
          refine x_getR B (ci := 7) (k := 11) dX7_sheet_32 rfl rfl rfl (by decide) inGX7 kw_294 ?_
          refine x_iload_n B dX7_sheet_35 1 rfl rfl ?_
          refine x_aald B dX7_sheet_36 (k := 3) rfl (by decide) (by decide) rfl (by omega) (by omega) (sh_get (by omega) (by omega)) ?_
          refine x_iload_n B dX7_sheet_37 2 rfl rfl ?_
          refine x_iload_n B dX7_sheet_38 3 rfl rfl ?_
          refine x_callV B (st := []) (av := [.int (iI (la)), .int (iI (n))]) dX7_sheet_39 cs_X6_renew kw_758 ⟨rfl, rfl, Nat.le_of_ble_eq_true rfl, Nat.le_of_ble_eq_true rfl⟩ rfl rfl (Nat.le_of_ble_eq_true rfl) (rc_obj B (ci := 6) (tS_o ((k).toNat) (by omega)) rfl rfl) (c_X6_renew _ E _ ((k).toNat) la n (by omega) (by omega) (by omega) (by omega) (by omega)) (k_v (fun M39 hz39 => ?_))
          refine x_iconst B dX7_sheet_42 ?_
          exact r_i B R dX7_sheet_43 (Or.inr (Or.inr ⟨by omega, by omega, rfl, hz39⟩))
        · show Vx x E M 28 [(0, .ref (E.1 (0))), (1, .int (iI (k))), (2, .int (iI (la))), (3, .int (iI (n)))] []
          refine x_bipush B dX7_sheet_28 rfl ?_
          exact r_i B R dX7_sheet_30 (Or.inr (Or.inl ⟨by omega, by omega, rfl, rfl⟩))
      · show Vx x E M 22 [(0, .ref (E.1 (0))), (1, .int (iI (k))), (2, .int (iI (la))), (3, .int (iI (n)))] []
        refine x_iconst B dX7_sheet_22 ?_
        exact r_i B R dX7_sheet_23 (Or.inl ⟨rfl, rfl, by omega⟩)
abbrev rm_X7_lay : Room := { frames := 1, cells := 0, slots := 0, locals := 22 }
theorem cs_X7_lay : Cv yX7_lay cX7_lay 5 (some .int) 3 := ⟨kw_766, ⟨kw_764, kw_765⟩, kw_57, by decide, by decide, by decide +kernel⟩
set_option maxHeartbeats 4000000 in
set_option maxRecDepth 100000 in
theorem c_X7_lay (l : Launch) (E : Ev) (M : Mem) (k i v : Int) (g1 : -2147483648 ≤ k) (g2 : k < 2147483648) (g3 : -2147483648 ≤ i) (g4 : i < 2147483648) (g5 : -2147483648 ≤ v) (g6 : v < 2147483648) : Ct l yX7_lay cX7_lay 5 (some .int) rm_X7_lay E M [.ref (E.1 (0)), .int (iI (k)), .int (iI (i)), .int (iI (v))] (pI (fun z M' => z = -1 ∧ M' = M ∧ ¬ (0 ≤ k ∧ k < 4) ∨ (0 ≤ k ∧ k < 4) ∧ M' = M ∧ (z = -11 ∧ M (63 + 2 * k.toNat) 1 < 0 ∨ z = -12 ∧ 0 ≤ M (63 + 2 * k.toNat) 1 ∧ (i < 0 ∨ M (63 + 2 * k.toNat) 1 ≤ i)) ∨ (0 ≤ k ∧ k < 4) ∧ z = 1 ∧ 0 ≤ M (63 + 2 * k.toNat) 1 ∧ 0 ≤ i ∧ i < M (63 + 2 * k.toNat) 1 ∧ M' = sto M (63 + 2 * k.toNat + 1) i.toNat (putS (M (63 + 2 * k.toNat) 2) v))) := by
  refine Ct_of (lv := [(0, .ref (E.1 (0))), (1, .int (iI (k))), (2, .int (iI (i))), (3, .int (iI (v)))]) (by decide) ⟨rfl, rfl⟩ (Nat.le_of_ble_eq_true rfl) rfl (fun x _ B R => ?_)
  refine x_iload_n B dX7_lay_0 1 rfl rfl ?_
  refine x_iconst B dX7_lay_1 ?_
  refine x_callS B (st := []) (av := [.int (iI (k)), .int (iI (4))]) dX7_lay_2 cs_X7_within kw_495 ⟨rfl, rfl, Nat.le_of_ble_eq_true rfl, Nat.le_of_ble_eq_true rfl⟩ rfl rfl (Nat.le_of_ble_eq_true rfl) (c_X7_within _ E _ k 4 (by omega) (by omega) (by omega) (by omega)) (k_i (fun z2 Mq hz2 => ?_))
  obtain ⟨rfl, hz2⟩ := hz2
  refine x_if_ne B (tgt := 10) dX7_lay_5 (by decide) ⟨by omega, by omega⟩ (fun c5 => ?_) (fun c5 => ?_)
  · show Vx x E M 10 [(0, .ref (E.1 (0))), (1, .int (iI (k))), (2, .int (iI (i))), (3, .int (iI (v)))] []
    refine x_aload_n B dX7_lay_10 0 rfl rfl ?_
    refine x_getR B (ci := 7) (k := 11) dX7_lay_11 rfl rfl rfl (by decide) inGX7 kw_294 ?_
    refine x_iload_n B dX7_lay_14 1 rfl rfl ?_
    refine x_aald B dX7_lay_15 (k := 3) rfl (by decide) (by decide) rfl (by omega) (by omega) (sh_get (by omega) (by omega)) ?_
    refine x_wf (fun hwf => ?_)
    have hsz : M (63 + 2 * k.toNat) 1 ≤ 64 := by
      have h := (hwf (63 + 2 * k.toNat) 1).2
      rw [rS_o1 k.toNat (by omega)] at h
      exact h
    refine x_iload_n B dX7_lay_16 2 rfl rfl ?_
    refine x_callV B (st := []) (av := [.int (iI (i))]) dX7_lay_17 cs_X6_faultAt kw_767 ⟨rfl, rfl, Nat.le_of_ble_eq_true rfl, Nat.le_of_ble_eq_true rfl⟩ rfl rfl (Nat.le_of_ble_eq_true rfl) (rc_obj B (ci := 6) (tS_o ((k).toNat) (by omega)) rfl rfl) (c_X6_faultAt _ E _ ((k).toNat) i (by omega) (by omega) (by omega)) (k_i (fun z17 Mq hz17 => ?_))
    obtain ⟨rfl, hz17⟩ := hz17
    refine x_istore B dX7_lay_20 [1, 2, 3, 4, 0] (by decide) (lv' := [(0, .ref (E.1 (0))), (1, .int (iI (k))), (2, .int (iI (i))), (3, .int (iI (v))), (4, .int (iI (z17)))]) rfl ?_
    refine x_iload B dX7_lay_22 4 rfl ?_
    refine x_if_eq B (tgt := 33) dX7_lay_24 (by decide) ⟨by omega, by omega⟩ (fun c24 => ?_) (fun c24 => ?_)
    · show Vx x E M 33 [(0, .ref (E.1 (0))), (1, .int (iI (k))), (2, .int (iI (i))), (3, .int (iI (v))), (4, .int (iI (z17)))] []
      refine x_aload_n B dX7_lay_33 0 rfl rfl ?_
      refine x_getR B (ci := 7) (k := 11) dX7_lay_34 rfl rfl rfl (by decide) inGX7 kw_294 ?_
      refine x_iload_n B dX7_lay_37 1 rfl rfl ?_
      refine x_aald B dX7_lay_38 (k := 3) rfl (by decide) (by decide) rfl (by omega) (by omega) (sh_get (by omega) (by omega)) ?_
      refine x_iload_n B dX7_lay_39 2 rfl rfl ?_
      refine x_iload_n B dX7_lay_40 3 rfl rfl ?_
      refine x_callV B (st := []) (av := [.int (iI (i)), .int (iI (v))]) dX7_lay_41 cs_X6_put kw_771 ⟨rfl, rfl, Nat.le_of_ble_eq_true rfl, Nat.le_of_ble_eq_true rfl⟩ rfl rfl (Nat.le_of_ble_eq_true rfl) (rc_obj B (ci := 6) (tS_o ((k).toNat) (by omega)) rfl rfl) (c_X6_put _ E _ ((k).toNat) i v (by omega) (by omega) (by omega) (by omega) (by omega)) (k_v (fun M41 hz41 => ?_))
      refine x_iconst B dX7_lay_44 ?_
      exact r_i B R dX7_lay_45 (Or.inr (Or.inr ⟨by omega, rfl, by omega, by omega, by omega, hz41⟩))
    · show Vx x E M 27 [(0, .ref (E.1 (0))), (1, .int (iI (k))), (2, .int (iI (i))), (3, .int (iI (v))), (4, .int (iI (z17)))] []
      refine x_bipush B dX7_lay_27 rfl ?_
      refine x_iload B dX7_lay_29 4 rfl ?_
      refine x_isub B dX7_lay_31 ?_
      exact r_i B R dX7_lay_32 (Or.inr (Or.inl ⟨by omega, rfl, by omega⟩))
  · show Vx x E M 8 [(0, .ref (E.1 (0))), (1, .int (iI (k))), (2, .int (iI (i))), (3, .int (iI (v)))] []
    refine x_iconst B dX7_lay_8 ?_
    exact r_i B R dX7_lay_9 (Or.inl ⟨rfl, rfl, by omega⟩)
