/-! ===== THE REFERENCE: its picture ===== -/
/-- what it holds of the laws; how tired it takes the POINTS to be -/
def mV (M : Mem) (j : Nat) : Int := if j = 11 ∧ M 71 27 = 1 then 0 else M 78 j
def mL (M : Mem) (q : Nat) : Int := M 78 (12 + q)
def mD (M : Mem) (q : Nat) : Int := if M 71 26 = 1 then 0 else M 85 q
theorem mV_j {M : Mem} {j : Nat} (h : j ≠ 11) : mV M j = M 78 j := if_neg (fun c => h c.1)
def ofS (S : List Nat) (M M' : Mem) : Prop := ∀ i j, i ∉ S → ¬ (i = 71 ∧ (j = 24 ∨ j = 33 ∨ j = 34)) → M' i j = M i j
theorem ofS_rf {S : List Nat} {M : Mem} : ofS S M M := fun _ _ _ _ => rfl
theorem ofS_tr {S : List Nat} {M M1 M2 : Mem} (h1 : ofS S M M1) (h2 : ofS S M1 M2) : ofS S M M2 := fun i j a b => (h2 i j a b).trans (h1 i j a b)
theorem ofS_w {S S' : List Nat} {M M' : Mem} (h : ofS S M M') (hs : ∀ a ∈ S, a ∈ S') : ofS S' M M' := fun i j a b => h i j (fun c => a (hs i c)) b
theorem ofS_sto {S : List Nat} {M M1 : Mem} {i j : Nat} {v : Int} (h : ofS S M M1) (hi : i ∈ S) : ofS S M (sto M1 i j v) := fun i' j' a b => by
  rw [sto_ni M1 i j v (show i' ≠ i from fun e => a (by rw [e]; exact hi))]
  exact h i' j' a b
theorem ofS_put {S : List Nat} {M M1 : Mem} {j : Nat} {v : Int} (h : ofS S M M1) (hj : j = 24 ∨ j = 33 ∨ j = 34) : ofS S M (sto M1 71 j v) := fun i' j' a b => by
  have e : ¬ (i' = 71 ∧ j' = j) := fun q => b ⟨q.1, by omega⟩
  unfold sto
  rw [if_neg e]
  exact h i' j' a b
theorem ofS_f {S : List Nat} {M M' : Mem} {i : Nat} (h : ofS S M M') (hi : i ∉ S) (h7 : i ≠ 71) : M' i = M i := funext fun j => h i j hi (fun q => h7 q.1)
theorem ofS_o {S : List Nat} {M M' : Mem} {j : Nat} (h : ofS S M M') (hs : 71 ∉ S) (hj : ¬ (j = 24 ∨ j = 33 ∨ j = 34)) : M' 71 j = M 71 j := h 71 j hs (fun q => hj q.2)
theorem mV_of {S : List Nat} {M M' : Mem} (h : ofS S M M') (h1 : 71 ∉ S) (h2 : 78 ∉ S) : mV M' = mV M := by
  funext j
  unfold mV
  rw [ofS_o h h1 (by omega), ofS_f h h2 (by decide)]
theorem mL_of {S : List Nat} {M M' : Mem} (h : ofS S M M') (h2 : 78 ∉ S) : mL M' = mL M := by
  funext j
  unfold mL
  rw [ofS_f h h2 (by decide)]
theorem mD_of {S : List Nat} {M M' : Mem} (h : ofS S M M') (h1 : 71 ∉ S) (h2 : 85 ∉ S) : mD M' = mD M := by
  funext j
  unfold mD
  rw [ofS_o h h1 (by omega), ofS_f h h2 (by decide)]
theorem nbT_1 {p : Int} : nbT p 1 = if p % 4 < 3 then p + 1 else -1 := rfl
theorem nbT_3 {p : Int} : nbT p 3 = if p < 12 then p + 4 else -1 := rfl
theorem edS_1 {h : Nat → Int} {p : Int} (c : p % 4 < 3) (p0 : 0 ≤ p) : edS h p 1 = max (h p.toNat - h (p + 1).toNat) (-(h p.toNat - h (p + 1).toNat)) := by
  unfold edS
  rw [nbT_1, if_pos c, if_neg (by omega)]
theorem edS_1n {h : Nat → Int} {p : Int} (c : ¬ p % 4 < 3) : edS h p 1 = 0 := by
  unfold edS
  rw [nbT_1, if_neg c, if_pos (by omega)]
theorem edS_3 {h : Nat → Int} {p : Int} (c : p < 12) (p0 : 0 ≤ p) : edS h p 3 = max (h p.toNat - h (p + 4).toNat) (-(h p.toNat - h (p + 4).toNat)) := by
  unfold edS
  rw [nbT_3, if_pos c, if_neg (by omega)]
theorem edS_3n {h : Nat → Int} {p : Int} (c : ¬ p < 12) : edS h p 3 = 0 := by
  unfold edS
  rw [nbT_3, if_neg c, if_pos (by omega)]
theorem rH_n : ∀ q, q < 16 → rngT 78 (12 + q) = (1, 9) := by decide +kernel
theorem rH_l {p : Int} (h0 : 0 ≤ p) (h1 : p < 16) : rngT 78 (12 + p).toNat = (1, 9) := by
  rw [show (12 + p).toNat = 12 + p.toNat by omega]
  exact rH_n _ (by omega)
abbrev rm_X8_lightAt : Room := { frames := 0, cells := 0, slots := 0, locals := 0 }
theorem cs_X8_lightAt : Cv yX8_lightAt cX8_lightAt 4 (some .int) 3 := ⟨kw_1057, ⟨kw_1056, kw_40⟩, kw_67, by decide, by decide, by decide +kernel⟩
set_option maxHeartbeats 4000000 in
set_option maxRecDepth 100000 in
theorem c_X8_lightAt (l : Launch) (E : Ev) (M : Mem) (sc r c : Int) (g1 : 0 ≤ sc) (g2 : sc ≤ 5) (g3 : 0 ≤ r) (g4 : r ≤ 7) (g5 : 0 ≤ c) (g6 : c ≤ 7) : Ct l yX8_lightAt cX8_lightAt 4 (some .int) rm_X8_lightAt E M [.ref (E.1 (71)), .int (iI (sc)), .int (iI (r)), .int (iI (c))] (pI (fun z M' => M = M' ∧ (z = M 80 (64 * sc + 8 * r + c).toNat ∧ 0 ≤ z ∧ z ≤ 9))) := by
  refine Ct_of (lv := [(0, .ref (E.1 (71))), (1, .int (iI (sc))), (2, .int (iI (r))), (3, .int (iI (c)))]) (by decide) ⟨rfl, rfl⟩ (Nat.le_of_ble_eq_true rfl) rfl (fun x _ B R => ?_)
  refine x_aload_n B dX8_lightAt_0 0 rfl rfl ?_
  refine x_getR B (ci := 8) (k := 18) dX8_lightAt_1 rfl rfl rfl (by decide) inGX8 kw_823 ?_
  refine x_bipush B dX8_lightAt_4 rfl ?_
  refine x_iload_n B dX8_lightAt_6 1 rfl rfl ?_
  refine x_imul B dX8_lightAt_7 ?_
  refine x_bipush B dX8_lightAt_8 rfl ?_
  refine x_iload_n B dX8_lightAt_10 2 rfl rfl ?_
  refine x_imul B dX8_lightAt_11 ?_
  refine x_iadd B dX8_lightAt_12 ?_
  refine x_iload_n B dX8_lightAt_13 3 rfl rfl ?_
  refine x_iadd B dX8_lightAt_14 ?_
  refine x_iald B (lo := 0) (hi := 9) dX8_lightAt_15 rfl (by omega) (by omega) rfl (fun z15 ez15 lz15 uz15 => ?_)
  exact r_i B R dX8_lightAt_16 (⟨rfl, Is_e ez15, by omega, by omega⟩)
abbrev rm_X8_edge : Room := { frames := 1, cells := 0, slots := 0, locals := 20 }
theorem cs_X8_edge : Cv yX8_edge cX8_edge 4 (some .int) 1 := ⟨kw_1061, ⟨kw_1060, kw_41⟩, kw_67, by decide, by decide, by decide +kernel⟩
set_option maxHeartbeats 4000000 in
set_option maxRecDepth 100000 in
theorem c_X8_edge (l : Launch) (E : Ev) (M : Mem) (p : Int) (g1 : 0 ≤ p) (g2 : p < 16) : Ct l yX8_edge cX8_edge 4 (some .int) rm_X8_edge E M [.ref (E.1 (71)), .int (iI (p))] (pI (fun z M' => M = M' ∧ (z = max (edS (M 81) p 1) (edS (M 81) p 3) ∧ 0 ≤ z ∧ z ≤ 9))) := by
  refine Ct_of (lv := [(0, .ref (E.1 (71))), (1, .int (iI (p)))]) (by decide) ⟨rfl, rfl⟩ (Nat.le_of_ble_eq_true rfl) rfl (fun x _ B R => ?_)
  refine x_iload_n B dX8_edge_0 1 rfl rfl ?_
  refine x_iconst B dX8_edge_1 ?_
  refine x_irem B dX8_edge_2 ⟨by omega, by omega⟩ (by omega) ⟨by omega, by omega⟩ (by omega) ?_
  refine x_iconst B dX8_edge_3 ?_
  have J29 : ∀ (j : Int), (j = edS (M 81) p 1 ∧ 0 ≤ j ∧ j ≤ 9) → Vx x E M 29 [(0, .ref (E.1 (71))), (1, .int (iI (p)))] [.int (iI (j))] := by
    intro j hJ
    obtain ⟨j1, j2, j3⟩ := hJ
    refine x_istore_n B dX8_edge_29 [1, 2, 0] rfl (by decide) (lv' := [(0, .ref (E.1 (71))), (1, .int (iI (p))), (2, .int (iI (j)))]) rfl ?_
    refine x_iload_n B dX8_edge_30 1 rfl rfl ?_
    refine x_bipush B dX8_edge_31 rfl ?_
    have J58 : ∀ (n : Int), (n = edS (M 81) p 3 ∧ 0 ≤ n ∧ n ≤ 9) → Vx x E M 58 [(0, .ref (E.1 (71))), (1, .int (iI (p))), (2, .int (iI (j)))] [.int (iI (n))] := by
      intro n hJ
      obtain ⟨n1, n2, n3⟩ := hJ
      refine x_istore_n B dX8_edge_58 [1, 2, 3, 0] rfl (by decide) (lv' := [(0, .ref (E.1 (71))), (1, .int (iI (p))), (2, .int (iI (j))), (3, .int (iI (n)))]) rfl ?_
      refine x_iload_n B dX8_edge_59 2 rfl rfl ?_
      refine x_iload_n B dX8_edge_60 3 rfl rfl ?_
      refine x_icmp_le B (tgt := 68) dX8_edge_61 (by decide) ⟨by omega, by omega⟩ ⟨by omega, by omega⟩ (fun c61 => ?_) (fun c61 => ?_)
      · show Vx x E M 68 [(0, .ref (E.1 (71))), (1, .int (iI (p))), (2, .int (iI (j))), (3, .int (iI (n)))] []
        refine x_iload_n B dX8_edge_68 3 rfl rfl ?_
        exact r_i B R dX8_edge_69 (⟨rfl, by rw [← j1, ← n1]; omega, by omega, by omega⟩)
      · show Vx x E M 64 [(0, .ref (E.1 (71))), (1, .int (iI (p))), (2, .int (iI (j))), (3, .int (iI (n)))] []
        refine x_iload_n B dX8_edge_64 2 rfl rfl ?_
        refine x_goto B (tgt := 69) dX8_edge_65 (by decide) ?_
        exact r_i B R dX8_edge_69 (⟨rfl, by rw [← j1, ← n1]; omega, by omega, by omega⟩)
    refine x_icmp_ge B (tgt := 57) dX8_edge_33 (by decide) ⟨by omega, by omega⟩ ⟨by omega, by omega⟩ (fun c33 => ?_) (fun c33 => ?_)
    · show Vx x E M 57 [(0, .ref (E.1 (71))), (1, .int (iI (p))), (2, .int (iI (j)))] []
      refine x_iconst B dX8_edge_57 ?_
      exact J58 0 (by rw [edS_3n (by omega)]; omega)
    · show Vx x E M 36 [(0, .ref (E.1 (71))), (1, .int (iI (p))), (2, .int (iI (j)))] []
      refine x_aload_n B dX8_edge_36 0 rfl rfl ?_
      refine x_getR B (ci := 8) (k := 20) dX8_edge_37 rfl rfl rfl (by decide) inGX8 kw_825 ?_
      refine x_iload_n B dX8_edge_40 1 rfl rfl ?_
      refine x_iald B (lo := 0) (hi := 9) dX8_edge_41 rfl (by omega) (by omega) rfl (fun z41 ez41 lz41 uz41 => ?_)
      refine x_aload_n B dX8_edge_42 0 rfl rfl ?_
      refine x_getR B (ci := 8) (k := 20) dX8_edge_43 rfl rfl rfl (by decide) inGX8 kw_825 ?_
      refine x_iload_n B dX8_edge_46 1 rfl rfl ?_
      refine x_iconst B dX8_edge_47 ?_
      refine x_iadd B dX8_edge_48 ?_
      refine x_iald B (lo := 0) (hi := 9) dX8_edge_49 rfl (by omega) (by omega) rfl (fun z49 ez49 lz49 uz49 => ?_)
      refine x_isub B dX8_edge_50 ?_
      refine x_callS B (st := []) (av := [.int (iI (z41 - z49))]) dX8_edge_51 cs_X8_size kw_1062 ⟨rfl, rfl, Nat.le_of_ble_eq_true rfl, Nat.le_of_ble_eq_true rfl⟩ rfl rfl (Nat.le_of_ble_eq_true rfl) (c_X8_size _ E _ (z41 - z49) (by omega) (by omega)) (k_i (fun z51 Mq hz51 => ?_))
      obtain ⟨rfl, hz51⟩ := hz51
      refine x_goto B (tgt := 58) dX8_edge_54 (by decide) ?_
      exact J58 z51 (by rw [edS_3 (by omega) (by omega), ← Is_e ez41, ← Is_e ez49]; omega)
  refine x_icmp_ge B (tgt := 28) dX8_edge_4 (by decide) ⟨by omega, by omega⟩ ⟨by omega, by omega⟩ (fun c4 => ?_) (fun c4 => ?_)
  · show Vx x E M 28 [(0, .ref (E.1 (71))), (1, .int (iI (p)))] []
    refine x_iconst B dX8_edge_28 ?_
    exact J29 0 (by rw [edS_1n (by omega)]; omega)
  · show Vx x E M 7 [(0, .ref (E.1 (71))), (1, .int (iI (p)))] []
    refine x_aload_n B dX8_edge_7 0 rfl rfl ?_
    refine x_getR B (ci := 8) (k := 20) dX8_edge_8 rfl rfl rfl (by decide) inGX8 kw_825 ?_
    refine x_iload_n B dX8_edge_11 1 rfl rfl ?_
    refine x_iald B (lo := 0) (hi := 9) dX8_edge_12 rfl (by omega) (by omega) rfl (fun z12 ez12 lz12 uz12 => ?_)
    refine x_aload_n B dX8_edge_13 0 rfl rfl ?_
    refine x_getR B (ci := 8) (k := 20) dX8_edge_14 rfl rfl rfl (by decide) inGX8 kw_825 ?_
    refine x_iload_n B dX8_edge_17 1 rfl rfl ?_
    refine x_iconst B dX8_edge_18 ?_
    refine x_iadd B dX8_edge_19 ?_
    refine x_iald B (lo := 0) (hi := 9) dX8_edge_20 rfl (by omega) (by omega) rfl (fun z20 ez20 lz20 uz20 => ?_)
    refine x_isub B dX8_edge_21 ?_
    refine x_callS B (st := []) (av := [.int (iI (z12 - z20))]) dX8_edge_22 cs_X8_size kw_1062 ⟨rfl, rfl, Nat.le_of_ble_eq_true rfl, Nat.le_of_ble_eq_true rfl⟩ rfl rfl (Nat.le_of_ble_eq_true rfl) (c_X8_size _ E _ (z12 - z20) (by omega) (by omega)) (k_i (fun z22 Mq hz22 => ?_))
    obtain ⟨rfl, hz22⟩ := hz22
    refine x_goto B (tgt := 29) dX8_edge_25 (by decide) ?_
    exact J29 z22 (by rw [edS_1 (by omega) (by omega), ← Is_e ez12, ← Is_e ez20]; omega)
abbrev rm_X8_isDead : Room := { frames := 0, cells := 0, slots := 0, locals := 0 }
theorem cs_X8_isDead : Cv yX8_isDead cX8_isDead 2 (some .boolean) 1 := ⟨kw_1068, ⟨kw_1067, kw_42⟩, kw_67, by decide, by decide, by decide +kernel⟩
set_option maxHeartbeats 4000000 in
set_option maxRecDepth 100000 in
theorem c_X8_isDead (l : Launch) (E : Ev) (M : Mem) (p : Int) (g1 : 0 ≤ p) (g2 : p < 16) : Ct l yX8_isDead cX8_isDead 2 (some .boolean) rm_X8_isDead E M [.ref (E.1 (71)), .int (iI (p))] (pI (fun z M' => M = M' ∧ (z = 1 ∧ (mV M 11).toNat.testBit p.toNat = true ∨ z = 0 ∧ (mV M 11).toNat.testBit p.toNat = false))) := by
  refine Ct_of (lv := [(0, .ref (E.1 (71))), (1, .int (iI (p)))]) (by decide) ⟨rfl, rfl⟩ (Nat.le_of_ble_eq_true rfl) rfl (fun x _ B R => ?_)
  refine x_aload_n B dX8_isDead_0 0 rfl rfl ?_
  refine x_getI B (ci := 8) (k := 27) (lo := 0) (hi := 1) dX8_isDead_1 rfl rfl rfl (by decide) inGX8 kw_832 rfl (fun z1 ez1 lz1 uz1 => ?_)
  have e1 := Is_e ez1
  refine x_if_ne B (tgt := 26) dX8_isDead_4 (by decide) ⟨by omega, by omega⟩ (fun c4 => ?_) (fun c4 => ?_)
  · show Vx x E M 26 [(0, .ref (E.1 (71))), (1, .int (iI (p)))] []
    refine x_iconst B dX8_isDead_26 ?_
    exact r_z B R dX8_isDead_27 (by omega) (by omega) (⟨rfl, Or.inr ⟨rfl, by rw [show mV M 11 = 0 from if_pos ⟨rfl, by omega⟩]; simp⟩⟩)
  · show Vx x E M 7 [(0, .ref (E.1 (71))), (1, .int (iI (p)))] []
    refine x_aload_n B dX8_isDead_7 0 rfl rfl ?_
    refine x_getR B (ci := 8) (k := 14) dX8_isDead_8 rfl rfl rfl (by decide) inGX8 kw_819 ?_
    refine x_bipush B dX8_isDead_11 rfl ?_
    have m11 : mV M 11 = M 78 11 := if_neg (fun c => by omega)
    refine x_iald B (lo := 0) (hi := 65535) dX8_isDead_13 rfl (by omega) (by omega) rfl (fun z13 ez13 lz13 uz13 => ?_)
    have ez13 : Is z13 (M 78 11) := ez13
    refine x_iload_n B dX8_isDead_14 1 rfl rfl ?_
    refine x_ishr B dX8_isDead_15 (by omega) ⟨by omega, by omega⟩ (by omega) (by omega) ?_
    refine x_iconst B dX8_isDead_16 ?_
    refine x_iand B dX8_isDead_17 (Int.natCast_nonneg _) (by omega) ?_
    have b19 := bit_v z13.toNat p.toNat
    have hb19 : Rg ((((((z13).toNat >>> (p).toNat : Nat) : Int)).toNat &&& (1 : Int).toNat : Nat) : Int) := by rcases b19 with ⟨h5, h6⟩ | ⟨h5, h6⟩ <;> (rw [h5]; exact ⟨by omega, by omega⟩)
    rw [Is_e ez13, ← m11] at b19
    refine x_iconst B dX8_isDead_18 ?_
    refine x_icmp_ne B (tgt := 26) dX8_isDead_19 (by decide) hb19 ⟨by omega, by omega⟩ (fun c19 => ?_) (fun c19 => ?_)
    · show Vx x E M 26 [(0, .ref (E.1 (71))), (1, .int (iI (p)))] []
      refine x_iconst B dX8_isDead_26 ?_
      exact r_z B R dX8_isDead_27 (by omega) (by omega) (⟨rfl, by rw [Is_e ez13, ← m11] at c19; rcases b19 with ⟨h5, h6⟩ | ⟨h5, h6⟩; (exfalso; omega); (exact Or.inr ⟨rfl, h6⟩)⟩)
    · show Vx x E M 22 [(0, .ref (E.1 (71))), (1, .int (iI (p)))] []
      refine x_iconst B dX8_isDead_22 ?_
      refine x_goto B (tgt := 27) dX8_isDead_23 (by decide) ?_
      exact r_z B R dX8_isDead_27 (by omega) (by omega) (⟨rfl, by rw [Is_e ez13, ← m11] at c19; rcases b19 with ⟨h5, h6⟩ | ⟨h5, h6⟩; (exact Or.inl ⟨rfl, h6⟩); (exfalso; omega)⟩)
abbrev rm_X8_nextTo : Room := { frames := 0, cells := 0, slots := 0, locals := 0 }
theorem cs_X8_nextTo : Cs yX8_nextTo cX8_nextTo 2 (some .int) 2 := ⟨kw_1071, kw_1070, kw_67, by decide, by decide, by decide +kernel⟩
set_option maxHeartbeats 4000000 in
set_option maxRecDepth 100000 in
theorem c_X8_nextTo (l : Launch) (E : Ev) (M : Mem) (p w : Int) (g1 : 0 ≤ p) (g2 : p < 16) (g3 : 0 ≤ w) (g4 : w < 4) : Ct l yX8_nextTo cX8_nextTo 2 (some .int) rm_X8_nextTo E M [.int (iI (p)), .int (iI (w))] (pI (fun z M' => M = M' ∧ (z = -4 ∧ nbT p w = -1 ∨ z = nbT p w ∧ 0 ≤ z ∧ z < 16))) := by
  refine Ct_of (lv := [(0, .int (iI (p))), (1, .int (iI (w)))]) (by decide) ⟨rfl, rfl⟩ (Nat.le_of_ble_eq_true rfl) rfl (fun x _ B R => ?_)
  refine x_iload_n B dX8_nextTo_0 1 rfl rfl ?_
  rcases (show (w < 0 ∨ 2 < w) ∨ w = 0 ∨ w = 1 ∨ w = 2 by omega) with hsw | hsw | hsw | hsw
  · refine x_tabOut B (tgt := 73) dX8_nextTo_1 ⟨by omega, by omega⟩ (by omega) (by decide) ?_
    refine x_iload_n B dX8_nextTo_73 0 rfl rfl ?_
    refine x_bipush B dX8_nextTo_74 rfl ?_
    refine x_icmp_ge B (tgt := 85) dX8_nextTo_76 (by decide) ⟨by omega, by omega⟩ ⟨by omega, by omega⟩ (fun c76 => ?_) (fun c76 => ?_)
    · show Vx x E M 85 [(0, .int (iI (p))), (1, .int (iI (w)))] []
      refine x_bipush B dX8_nextTo_85 rfl ?_
      exact r_i B R dX8_nextTo_87 (⟨rfl, by unfold nbT; (repeat' split) <;> omega⟩)
    · show Vx x E M 79 [(0, .int (iI (p))), (1, .int (iI (w)))] []
      refine x_iload_n B dX8_nextTo_79 0 rfl rfl ?_
      refine x_iconst B dX8_nextTo_80 ?_
      refine x_iadd B dX8_nextTo_81 ?_
      refine x_goto B (tgt := 87) dX8_nextTo_82 (by decide) ?_
      exact r_i B R dX8_nextTo_87 (⟨rfl, by unfold nbT; (repeat' split) <;> omega⟩)
  · refine x_tabIn B (tgt := 28) 0 dX8_nextTo_1 ⟨by omega, by omega⟩ (by omega) (by omega) rfl (by decide) ?_
    refine x_iload_n B dX8_nextTo_28 0 rfl rfl ?_
    refine x_iconst B dX8_nextTo_29 ?_
    refine x_irem B dX8_nextTo_30 ⟨by omega, by omega⟩ (by omega) ⟨by omega, by omega⟩ (by omega) ?_
    refine x_if_le B (tgt := 40) dX8_nextTo_31 (by decide) ⟨by omega, by omega⟩ (fun c31 => ?_) (fun c31 => ?_)
    · show Vx x E M 40 [(0, .int (iI (p))), (1, .int (iI (w)))] []
      refine x_bipush B dX8_nextTo_40 rfl ?_
      exact r_i B R dX8_nextTo_42 (⟨rfl, by unfold nbT; (repeat' split) <;> omega⟩)
    · show Vx x E M 34 [(0, .int (iI (p))), (1, .int (iI (w)))] []
      refine x_iload_n B dX8_nextTo_34 0 rfl rfl ?_
      refine x_iconst B dX8_nextTo_35 ?_
      refine x_isub B dX8_nextTo_36 ?_
      refine x_goto B (tgt := 42) dX8_nextTo_37 (by decide) ?_
      exact r_i B R dX8_nextTo_42 (⟨rfl, by unfold nbT; (repeat' split) <;> omega⟩)
  · refine x_tabIn B (tgt := 43) 1 dX8_nextTo_1 ⟨by omega, by omega⟩ (by omega) (by omega) rfl (by decide) ?_
    refine x_iload_n B dX8_nextTo_43 0 rfl rfl ?_
    refine x_iconst B dX8_nextTo_44 ?_
    refine x_irem B dX8_nextTo_45 ⟨by omega, by omega⟩ (by omega) ⟨by omega, by omega⟩ (by omega) ?_
    refine x_iconst B dX8_nextTo_46 ?_
    refine x_icmp_ge B (tgt := 56) dX8_nextTo_47 (by decide) ⟨by omega, by omega⟩ ⟨by omega, by omega⟩ (fun c47 => ?_) (fun c47 => ?_)
    · show Vx x E M 56 [(0, .int (iI (p))), (1, .int (iI (w)))] []
      refine x_bipush B dX8_nextTo_56 rfl ?_
      exact r_i B R dX8_nextTo_58 (⟨rfl, by unfold nbT; (repeat' split) <;> omega⟩)
    · show Vx x E M 50 [(0, .int (iI (p))), (1, .int (iI (w)))] []
      refine x_iload_n B dX8_nextTo_50 0 rfl rfl ?_
      refine x_iconst B dX8_nextTo_51 ?_
      refine x_iadd B dX8_nextTo_52 ?_
      refine x_goto B (tgt := 58) dX8_nextTo_53 (by decide) ?_
      exact r_i B R dX8_nextTo_58 (⟨rfl, by unfold nbT; (repeat' split) <;> omega⟩)
  · refine x_tabIn B (tgt := 59) 2 dX8_nextTo_1 ⟨by omega, by omega⟩ (by omega) (by omega) rfl (by decide) ?_
    refine x_iload_n B dX8_nextTo_59 0 rfl rfl ?_
    refine x_iconst B dX8_nextTo_60 ?_
    refine x_icmp_lt B (tgt := 70) dX8_nextTo_61 (by decide) ⟨by omega, by omega⟩ ⟨by omega, by omega⟩ (fun c61 => ?_) (fun c61 => ?_)
    · show Vx x E M 70 [(0, .int (iI (p))), (1, .int (iI (w)))] []
      refine x_bipush B dX8_nextTo_70 rfl ?_
      exact r_i B R dX8_nextTo_72 (⟨rfl, by unfold nbT; (repeat' split) <;> omega⟩)
    · show Vx x E M 64 [(0, .int (iI (p))), (1, .int (iI (w)))] []
      refine x_iload_n B dX8_nextTo_64 0 rfl rfl ?_
      refine x_iconst B dX8_nextTo_65 ?_
      refine x_isub B dX8_nextTo_66 ?_
      refine x_goto B (tgt := 72) dX8_nextTo_67 (by decide) ?_
      exact r_i B R dX8_nextTo_72 (⟨rfl, by unfold nbT; (repeat' split) <;> omega⟩)
theorem hasF_far {L : Nat → Int} {sc p a b c d : Int} (s0 : 0 ≤ sc) (p0 : 0 ≤ p) (ha : a = L (64 * sc + 8 * (2 * (p / 4)) + 2 * (p % 4)).toNat) (hb : b = L (64 * sc + 8 * (2 * (p / 4)) + (2 * (p % 4) + 1)).toNat) (hc : c = L (64 * sc + 8 * (2 * (p / 4) + 1) + 2 * (p % 4)).toNat) (hd : d = L (64 * sc + 8 * (2 * (p / 4) + 1) + (2 * (p % 4) + 1)).toNat) {pl : Int} (hp : pl = 25) : (a + b + (c + d)) / 4 = hasF L (64 * sc) pl p := by
  unfold hasF
  rw [if_pos hp, show (64 * sc + 16 * (p / 4) + 2 * (p % 4)).toNat = (64 * sc + 8 * (2 * (p / 4)) + 2 * (p % 4)).toNat by omega, ← ha, show (64 * sc + 16 * (p / 4) + 2 * (p % 4) + 1).toNat = (64 * sc + 8 * (2 * (p / 4)) + (2 * (p % 4) + 1)).toNat by omega, ← hb, show (64 * sc + 16 * (p / 4) + 2 * (p % 4) + 8).toNat = (64 * sc + 8 * (2 * (p / 4) + 1) + 2 * (p % 4)).toNat by omega, ← hc, show (64 * sc + 16 * (p / 4) + 2 * (p % 4) + 8 + 1).toNat = (64 * sc + 8 * (2 * (p / 4) + 1) + (2 * (p % 4) + 1)).toNat by omega, ← hd]
  congr 1
  omega
theorem hasF_near {L : Nat → Int} {sc p pl a : Int} (hp : ¬ pl = 25) (ha : a = L (64 * sc + 8 * (pl / 5 + p / 4) + (pl % 5 + p % 4)).toNat) : a = hasF L (64 * sc) pl p := by
  unfold hasF
  rw [if_neg hp, ha, show 64 * sc + 8 * (pl / 5 + p / 4) + (pl % 5 + p % 4) = 64 * sc + 8 * (pl / 5 + p / 4) + pl % 5 + p % 4 by omega]
theorem picH_k {L : Nat → Int} {s0 pl k : Int} (h : 0 ≤ k) : picH L s0 pl k.toNat = hasF L s0 pl k := by
  unfold picH
  rw [Int.toNat_of_nonneg h]
theorem picW_k {L v : Nat → Int} {s0 pl k : Int} (h : 0 ≤ k) : picW L v s0 pl k.toNat = woS (v 0) (picH L s0 pl) k := by
  unfold picW
  rw [Int.toNat_of_nonneg h]
abbrev rm_X8_layHas : Room := { frames := 1, cells := 0, slots := 0, locals := 23 }
theorem cs_X8_layHas : Cv yX8_layHas cX8_layHas 7 none 2 := ⟨kw_1053, ⟨kw_1052, kw_39⟩, kw_67, by decide, by decide, by decide +kernel⟩
set_option maxHeartbeats 4000000 in
set_option maxRecDepth 100000 in
theorem c_X8_layHas (l : Launch) (E : Ev) (M : Mem) (sc pl : Int) (g1 : 0 ≤ sc) (g2 : sc ≤ 5) (g3 : 0 ≤ pl) (g4 : pl ≤ 25) : Ct l yX8_layHas cX8_layHas 7 none rm_X8_layHas E M [.ref (E.1 (71)), .int (iI (sc)), .int (iI (pl))] (pV (fun M' => ofS [81] M M' ∧ eqF (M' 81) (picH (M 80) (64 * sc) pl))) := by
  refine Ct_of (lv := [(0, .ref (E.1 (71))), (1, .int (iI (sc))), (2, .int (iI (pl)))]) (by decide) ⟨rfl, rfl⟩ (Nat.le_of_ble_eq_true rfl) rfl (fun x _ B R => ?_)
  refine x_iconst B dX8_layHas_0 ?_
  refine x_istore_n B dX8_layHas_1 [1, 2, 3, 0] rfl (by decide) (lv' := [(0, .ref (E.1 (71))), (1, .int (iI (sc))), (2, .int (iI (pl))), (3, .int (iI (0)))]) rfl ?_
  have L2 : ∀ (k : Int) (M1 : Mem), (0 ≤ k ∧ k ≤ 16 ∧ ofS [81] M M1 ∧ ltF (M1 81) (picH (M 80) (64 * sc) pl) k) → Vx x E M1 2 [(0, .ref (E.1 (71))), (1, .int (iI (sc))), (2, .int (iI (pl))), (3, .int (iI (k)))] [] := by
    refine lo2 _ _ (fun k M1 => (16 - k).toNat) ?_
    intro k M1 hI ih2
    obtain ⟨i1, i2, i3, i4⟩ := hI
    refine x_iload_n B dX8_layHas_2 3 rfl rfl ?_
    refine x_bipush B dX8_layHas_3 rfl ?_
    refine x_icmp_ge B (tgt := 135) dX8_layHas_5 (by decide) ⟨by omega, by omega⟩ ⟨by omega, by omega⟩ (fun c5 => ?_) (fun c5 => ?_)
    · show Vx x E M1 135 [(0, .ref (E.1 (71))), (1, .int (iI (sc))), (2, .int (iI (pl))), (3, .int (iI (k)))] []
      exact r_v B R dX8_layHas_135 (⟨i3, ltF_16 i4 (by omega)⟩)
    · show Vx x E M1 8 [(0, .ref (E.1 (71))), (1, .int (iI (sc))), (2, .int (iI (pl))), (3, .int (iI (k)))] []
      have e80 := ofS_f i3 (i := 80) (by decide) (by decide)
      refine x_iload_n B dX8_layHas_8 3 rfl rfl ?_
      refine x_iconst B dX8_layHas_9 ?_
      refine x_idiv B dX8_layHas_10 ⟨by omega, by omega⟩ (by omega) ⟨by omega, by omega⟩ (by omega) ?_
      refine x_istore B dX8_layHas_11 [1, 2, 3, 4, 0] (by decide) (lv' := [(0, .ref (E.1 (71))), (1, .int (iI (sc))), (2, .int (iI (pl))), (3, .int (iI (k))), (4, .int (iI (k / 4)))]) rfl ?_
      refine x_iload_n B dX8_layHas_13 3 rfl rfl ?_
      refine x_iconst B dX8_layHas_14 ?_
      refine x_irem B dX8_layHas_15 ⟨by omega, by omega⟩ (by omega) ⟨by omega, by omega⟩ (by omega) ?_
      refine x_istore B dX8_layHas_16 [1, 2, 3, 4, 5, 0] (by decide) (lv' := [(0, .ref (E.1 (71))), (1, .int (iI (sc))), (2, .int (iI (pl))), (3, .int (iI (k))), (4, .int (iI (k / 4))), (5, .int (iI (k % 4)))]) rfl ?_
      refine x_iload_n B dX8_layHas_18 2 rfl rfl ?_
      refine x_bipush B dX8_layHas_19 rfl ?_
      refine x_icmp_ne B (tgt := 106) dX8_layHas_21 (by decide) ⟨by omega, by omega⟩ ⟨by omega, by omega⟩ (fun c21 => ?_) (fun c21 => ?_)
      · show Vx x E M1 106 [(0, .ref (E.1 (71))), (1, .int (iI (sc))), (2, .int (iI (pl))), (3, .int (iI (k))), (4, .int (iI (k / 4))), (5, .int (iI (k % 4)))] []
        refine x_aload_n B dX8_layHas_106 0 rfl rfl ?_
        refine x_getR B (ci := 8) (k := 20) dX8_layHas_107 rfl rfl rfl (by decide) inGX8 kw_825 ?_
        refine x_iload_n B dX8_layHas_110 3 rfl rfl ?_
        refine x_aload_n B dX8_layHas_111 0 rfl rfl ?_
        refine x_iload_n B dX8_layHas_112 1 rfl rfl ?_
        refine x_iload_n B dX8_layHas_113 2 rfl rfl ?_
        refine x_iconst B dX8_layHas_114 ?_
        refine x_idiv B dX8_layHas_115 ⟨by omega, by omega⟩ (by omega) ⟨by omega, by omega⟩ (by omega) ?_
        refine x_iload B dX8_layHas_116 4 rfl ?_
        refine x_iadd B dX8_layHas_118 ?_
        refine x_iload_n B dX8_layHas_119 2 rfl rfl ?_
        refine x_iconst B dX8_layHas_120 ?_
        refine x_irem B dX8_layHas_121 ⟨by omega, by omega⟩ (by omega) ⟨by omega, by omega⟩ (by omega) ?_
        refine x_iload B dX8_layHas_122 5 rfl ?_
        refine x_iadd B dX8_layHas_124 ?_
        refine x_callV B (st := [.int (iI (k)), .ref (E.1 (81))]) (av := [.int (iI (sc)), .int (iI ((pl / 5) + (k / 4))), .int (iI ((pl % 5) + (k % 4)))]) dX8_layHas_125 cs_X8_lightAt kw_1054 ⟨rfl, rfl, Nat.le_of_ble_eq_true rfl, Nat.le_of_ble_eq_true rfl⟩ rfl rfl (Nat.le_of_ble_eq_true rfl) (rc_obj B (ci := 8) rfl rfl rfl) (c_X8_lightAt _ E _ sc ((pl / 5) + (k / 4)) ((pl % 5) + (k % 4)) (by omega) (by omega) (by omega) (by omega) (by omega) (by omega)) (k_i (fun z125 Mq hz125 => ?_))
        obtain ⟨rfl, hz125⟩ := hz125
        refine x_iast B (lo := 0) (hi := 9) dX8_layHas_128 rfl (by omega) (by omega) rfl (by omega) (by omega) ?_
        refine x_iinc B (q := 3) dX8_layHas_129 rfl [1, 2, 3, 0, 4, 5] (by decide) (lv' := [(0, .ref (E.1 (71))), (1, .int (iI (sc))), (2, .int (iI (pl))), (3, .int (iI (k + 1))), (4, .int (iI (k / 4))), (5, .int (iI (k % 4)))]) rfl ?_
        refine x_goto B (tgt := 2) dX8_layHas_132 (by decide) ?_
        refine x_lv [0, 1, 2, 3] (lv' := [(0, .ref (E.1 (71))), (1, .int (iI (sc))), (2, .int (iI (pl))), (3, .int (iI (k + 1)))]) rfl ?_
        exact ih2 (k + 1) (sto M1 81 (k).toNat z125) (⟨by omega, by omega, ofS_sto i3 (by decide), ltF_s i4 i1 (by rw [picH_k i1]; refine hasF_near c21 ?_; rw [hz125.1, e80])⟩) (by omega)
      · show Vx x E M1 24 [(0, .ref (E.1 (71))), (1, .int (iI (sc))), (2, .int (iI (pl))), (3, .int (iI (k))), (4, .int (iI (k / 4))), (5, .int (iI (k % 4)))] []
        refine x_aload_n B dX8_layHas_24 0 rfl rfl ?_
        refine x_iload_n B dX8_layHas_25 1 rfl rfl ?_
        refine x_iconst B dX8_layHas_26 ?_
        refine x_iload B dX8_layHas_27 4 rfl ?_
        refine x_imul B dX8_layHas_29 ?_
        refine x_iconst B dX8_layHas_30 ?_
        refine x_iload B dX8_layHas_31 5 rfl ?_
        refine x_imul B dX8_layHas_33 ?_
        refine x_callV B (st := []) (av := [.int (iI (sc)), .int (iI (2 * (k / 4))), .int (iI (2 * (k % 4)))]) dX8_layHas_34 cs_X8_lightAt kw_1054 ⟨rfl, rfl, Nat.le_of_ble_eq_true rfl, Nat.le_of_ble_eq_true rfl⟩ rfl rfl (Nat.le_of_ble_eq_true rfl) (rc_obj B (ci := 8) rfl rfl rfl) (c_X8_lightAt _ E _ sc (2 * (k / 4)) (2 * (k % 4)) (by omega) (by omega) (by omega) (by omega) (by omega) (by omega)) (k_i (fun z34 Mq hz34 => ?_))
        obtain ⟨rfl, hz34⟩ := hz34
        refine x_aload_n B dX8_layHas_37 0 rfl rfl ?_
        refine x_iload_n B dX8_layHas_38 1 rfl rfl ?_
        refine x_iconst B dX8_layHas_39 ?_
        refine x_iload B dX8_layHas_40 4 rfl ?_
        refine x_imul B dX8_layHas_42 ?_
        refine x_iconst B dX8_layHas_43 ?_
        refine x_iload B dX8_layHas_44 5 rfl ?_
        refine x_imul B dX8_layHas_46 ?_
        refine x_iconst B dX8_layHas_47 ?_
        refine x_iadd B dX8_layHas_48 ?_
        refine x_callV B (st := [.int (iI (z34))]) (av := [.int (iI (sc)), .int (iI (2 * (k / 4))), .int (iI ((2 * (k % 4)) + 1))]) dX8_layHas_49 cs_X8_lightAt kw_1054 ⟨rfl, rfl, Nat.le_of_ble_eq_true rfl, Nat.le_of_ble_eq_true rfl⟩ rfl rfl (Nat.le_of_ble_eq_true rfl) (rc_obj B (ci := 8) rfl rfl rfl) (c_X8_lightAt _ E _ sc (2 * (k / 4)) ((2 * (k % 4)) + 1) (by omega) (by omega) (by omega) (by omega) (by omega) (by omega)) (k_i (fun z49 Mq hz49 => ?_))
        obtain ⟨rfl, hz49⟩ := hz49
        refine x_iadd B dX8_layHas_52 ?_
        refine x_istore B dX8_layHas_53 [1, 2, 3, 4, 5, 6, 0] (by decide) (lv' := [(0, .ref (E.1 (71))), (1, .int (iI (sc))), (2, .int (iI (pl))), (3, .int (iI (k))), (4, .int (iI (k / 4))), (5, .int (iI (k % 4))), (6, .int (iI (z34 + z49)))]) rfl ?_
        refine x_iload B dX8_layHas_55 6 rfl ?_
        refine x_aload_n B dX8_layHas_57 0 rfl rfl ?_
        refine x_iload_n B dX8_layHas_58 1 rfl rfl ?_
        refine x_iconst B dX8_layHas_59 ?_
        refine x_iload B dX8_layHas_60 4 rfl ?_
        refine x_imul B dX8_layHas_62 ?_
        refine x_iconst B dX8_layHas_63 ?_
        refine x_iadd B dX8_layHas_64 ?_
        refine x_iconst B dX8_layHas_65 ?_
        refine x_iload B dX8_layHas_66 5 rfl ?_
        refine x_imul B dX8_layHas_68 ?_
        refine x_callV B (st := [.int (iI (z34 + z49))]) (av := [.int (iI (sc)), .int (iI ((2 * (k / 4)) + 1)), .int (iI (2 * (k % 4)))]) dX8_layHas_69 cs_X8_lightAt kw_1054 ⟨rfl, rfl, Nat.le_of_ble_eq_true rfl, Nat.le_of_ble_eq_true rfl⟩ rfl rfl (Nat.le_of_ble_eq_true rfl) (rc_obj B (ci := 8) rfl rfl rfl) (c_X8_lightAt _ E _ sc ((2 * (k / 4)) + 1) (2 * (k % 4)) (by omega) (by omega) (by omega) (by omega) (by omega) (by omega)) (k_i (fun z69 Mq hz69 => ?_))
        obtain ⟨rfl, hz69⟩ := hz69
        refine x_aload_n B dX8_layHas_72 0 rfl rfl ?_
        refine x_iload_n B dX8_layHas_73 1 rfl rfl ?_
        refine x_iconst B dX8_layHas_74 ?_
        refine x_iload B dX8_layHas_75 4 rfl ?_
        refine x_imul B dX8_layHas_77 ?_
        refine x_iconst B dX8_layHas_78 ?_
        refine x_iadd B dX8_layHas_79 ?_
        refine x_iconst B dX8_layHas_80 ?_
        refine x_iload B dX8_layHas_81 5 rfl ?_
        refine x_imul B dX8_layHas_83 ?_
        refine x_iconst B dX8_layHas_84 ?_
        refine x_iadd B dX8_layHas_85 ?_
        refine x_callV B (st := [.int (iI (z69)), .int (iI (z34 + z49))]) (av := [.int (iI (sc)), .int (iI ((2 * (k / 4)) + 1)), .int (iI ((2 * (k % 4)) + 1))]) dX8_layHas_86 cs_X8_lightAt kw_1054 ⟨rfl, rfl, Nat.le_of_ble_eq_true rfl, Nat.le_of_ble_eq_true rfl⟩ rfl rfl (Nat.le_of_ble_eq_true rfl) (rc_obj B (ci := 8) rfl rfl rfl) (c_X8_lightAt _ E _ sc ((2 * (k / 4)) + 1) ((2 * (k % 4)) + 1) (by omega) (by omega) (by omega) (by omega) (by omega) (by omega)) (k_i (fun z86 Mq hz86 => ?_))
        obtain ⟨rfl, hz86⟩ := hz86
        refine x_iadd B dX8_layHas_89 ?_
        refine x_iadd B dX8_layHas_90 ?_
        refine x_istore B dX8_layHas_91 [1, 2, 3, 4, 5, 6, 0] (by decide) (lv' := [(0, .ref (E.1 (71))), (1, .int (iI (sc))), (2, .int (iI (pl))), (3, .int (iI (k))), (4, .int (iI (k / 4))), (5, .int (iI (k % 4))), (6, .int (iI ((z34 + z49) + (z69 + z86))))]) rfl ?_
        refine x_aload_n B dX8_layHas_93 0 rfl rfl ?_
        refine x_getR B (ci := 8) (k := 20) dX8_layHas_94 rfl rfl rfl (by decide) inGX8 kw_825 ?_
        refine x_iload_n B dX8_layHas_97 3 rfl rfl ?_
        refine x_iload B dX8_layHas_98 6 rfl ?_
        refine x_iconst B dX8_layHas_100 ?_
        refine x_idiv B dX8_layHas_101 ⟨by omega, by omega⟩ (by omega) ⟨by omega, by omega⟩ (by omega) ?_
        refine x_iast B (lo := 0) (hi := 9) dX8_layHas_102 rfl (by omega) (by omega) rfl (by omega) (by omega) ?_
        refine x_goto B (tgt := 129) dX8_layHas_103 (by decide) ?_
        refine x_iinc B (q := 3) dX8_layHas_129 rfl [1, 2, 3, 0, 4, 5, 6] (by decide) (lv' := [(0, .ref (E.1 (71))), (1, .int (iI (sc))), (2, .int (iI (pl))), (3, .int (iI (k + 1))), (4, .int (iI (k / 4))), (5, .int (iI (k % 4))), (6, .int (iI ((z34 + z49) + (z69 + z86))))]) rfl ?_
        refine x_goto B (tgt := 2) dX8_layHas_132 (by decide) ?_
        refine x_lv [0, 1, 2, 3] (lv' := [(0, .ref (E.1 (71))), (1, .int (iI (sc))), (2, .int (iI (pl))), (3, .int (iI (k + 1)))]) rfl ?_
        exact ih2 (k + 1) (sto M1 81 (k).toNat (((z34 + z49) + (z69 + z86)) / 4)) (⟨by omega, by omega, ofS_sto i3 (by decide), ltF_s i4 i1 (by rw [picH_k i1]; refine hasF_far (by omega) i1 ?_ ?_ ?_ ?_ c21; (rw [hz34.1, e80]); (rw [hz49.1, e80]); (rw [hz69.1, e80]); (rw [hz86.1, e80]))⟩) (by omega)
  exact L2 0 M (⟨by omega, by omega, ofS_rf, ltF_0⟩)
abbrev rm_X8_layShown : Room := { frames := 2, cells := 0, slots := 0, locals := 49 }
theorem cs_X8_layShown : Cv yX8_layShown cX8_layShown 7 none 2 := ⟨kw_1049, ⟨kw_1048, kw_38⟩, kw_67, by decide, by decide, by decide +kernel⟩
set_option maxHeartbeats 4000000 in
set_option maxRecDepth 100000 in
theorem c_X8_layShown (l : Launch) (E : Ev) (M : Mem) (sc pl : Int) (g1 : 0 ≤ sc) (g2 : sc ≤ 5) (g3 : 0 ≤ pl) (g4 : pl ≤ 25) : Ct l yX8_layShown cX8_layShown 7 none rm_X8_layShown E M [.ref (E.1 (71)), .int (iI (sc)), .int (iI (pl))] (pV (fun M' => ofS [81, 82, 83] M M' ∧ eqF (M' 81) (picH (M 80) (64 * sc) pl) ∧ eqF (M' 83) (picS (M 80) (mV M) (64 * sc) pl))) := by
  refine Ct_of (lv := [(0, .ref (E.1 (71))), (1, .int (iI (sc))), (2, .int (iI (pl)))]) (by decide) ⟨rfl, rfl⟩ (Nat.le_of_ble_eq_true rfl) rfl (fun x _ B R => ?_)
  refine x_aload_n B dX8_layShown_0 0 rfl rfl ?_
  refine x_iload_n B dX8_layShown_1 1 rfl rfl ?_
  refine x_iload_n B dX8_layShown_2 2 rfl rfl ?_
  refine x_callV B (st := []) (av := [.int (iI (sc)), .int (iI (pl))]) dX8_layShown_3 cs_X8_layHas kw_1050 ⟨rfl, rfl, Nat.le_of_ble_eq_true rfl, Nat.le_of_ble_eq_true rfl⟩ rfl rfl (Nat.le_of_ble_eq_true rfl) (rc_obj B (ci := 8) rfl rfl rfl) (c_X8_layHas _ E _ sc pl (by omega) (by omega) (by omega) (by omega)) (k_v (fun M3 hz3 => ?_))
  refine x_iconst B dX8_layShown_6 ?_
  refine x_istore_n B dX8_layShown_7 [1, 2, 3, 0] rfl (by decide) (lv' := [(0, .ref (E.1 (71))), (1, .int (iI (sc))), (2, .int (iI (pl))), (3, .int (iI (0)))]) rfl ?_
  have L8 : ∀ (k : Int) (M1 : Mem), (0 ≤ k ∧ k ≤ 16 ∧ ofS [81, 82, 83] M M1 ∧ eqF (M1 81) (picH (M 80) (64 * sc) pl) ∧ ltF (M1 82) (picW (M 80) (mV M) (64 * sc) pl) k ∧ ltF (M1 83) (sh0 (mV M) (picW (M 80) (mV M) (64 * sc) pl)) k) → Vx x E M1 8 [(0, .ref (E.1 (71))), (1, .int (iI (sc))), (2, .int (iI (pl))), (3, .int (iI (k)))] [] := by
    refine lo2 _ _ (fun k M1 => (16 - k).toNat) ?_
    intro k M1 hI ih8
    obtain ⟨i1, i2, i3, i4, i5, i6⟩ := hI
    refine x_iload_n B dX8_layShown_8 3 rfl rfl ?_
    refine x_bipush B dX8_layShown_9 rfl ?_
    refine x_icmp_ge B (tgt := 95) dX8_layShown_11 (by decide) ⟨by omega, by omega⟩ ⟨by omega, by omega⟩ (fun c11 => ?_) (fun c11 => ?_)
    · show Vx x E M1 95 [(0, .ref (E.1 (71))), (1, .int (iI (sc))), (2, .int (iI (pl))), (3, .int (iI (k)))] []
      refine x_iconst B dX8_layShown_95 ?_
      refine x_istore_n B dX8_layShown_96 [1, 2, 3, 0] rfl (by decide) (lv' := [(0, .ref (E.1 (71))), (1, .int (iI (sc))), (2, .int (iI (pl))), (3, .int (iI (0)))]) rfl ?_
      have L97 : ∀ (k : Int) (M2 : Mem), (0 ≤ k ∧ k ≤ 16 ∧ (k = 0 ∨ Is (M 78 5) 1) ∧ ofS [81, 82, 83] M M2 ∧ eqF (M2 81) (picH (M 80) (64 * sc) pl) ∧ eqF (M2 82) (picW (M 80) (mV M) (64 * sc) pl) ∧ eqF (M2 83) (roS (mV M 11).toNat (picW (M 80) (mV M) (64 * sc) pl) (sh0 (mV M) (picW (M 80) (mV M) (64 * sc) pl)) k.toNat)) → Vx x E M2 97 [(0, .ref (E.1 (71))), (1, .int (iI (sc))), (2, .int (iI (pl))), (3, .int (iI (k)))] [] := by
        refine lo2 _ _ (fun k M2 => (16 - k).toNat) ?_
        intro k M2 hI ih97
        obtain ⟨q1, q2, q3, q4, q5, q6, q7⟩ := hI
        refine x_iload_n B dX8_layShown_97 3 rfl rfl ?_
        refine x_bipush B dX8_layShown_98 rfl ?_
        refine x_icmp_ge B (tgt := 220) dX8_layShown_100 (by decide) ⟨by omega, by omega⟩ ⟨by omega, by omega⟩ (fun c100 => ?_) (fun c100 => ?_)
        · show Vx x E M2 220 [(0, .ref (E.1 (71))), (1, .int (iI (sc))), (2, .int (iI (pl))), (3, .int (iI (k)))] []
          exact r_v B R dX8_layShown_220 (⟨q4, q5, fun q hq => by rw [show (picS (M 80) (mV M) (64 * sc) pl) q = shS (mV M) (picW (M 80) (mV M) (64 * sc) pl) q from rfl]; unfold shS; rw [if_pos (by rw [mV_j (by decide)]; exact Is_e (q3.resolve_left (by omega))), q7 q hq, show k = 16 by omega]; rfl⟩)
        · show Vx x E M2 103 [(0, .ref (E.1 (71))), (1, .int (iI (sc))), (2, .int (iI (pl))), (3, .int (iI (k)))] []
          refine x_aload_n B dX8_layShown_103 0 rfl rfl ?_
          refine x_getR B (ci := 8) (k := 14) dX8_layShown_104 rfl rfl rfl (by decide) inGX8 kw_819 ?_
          refine x_iconst B dX8_layShown_107 ?_
          refine x_iald B (lo := 0) (hi := 1) dX8_layShown_108 rfl (by omega) (by omega) rfl (fun z108 ez108 lz108 uz108 => ?_)
          have ez108 : Is z108 (M2 78 5) := ez108
          refine x_iconst B dX8_layShown_109 ?_
          refine x_icmp_ne B (tgt := 220) dX8_layShown_110 (by decide) ⟨by omega, by omega⟩ ⟨by omega, by omega⟩ (fun c110 => ?_) (fun c110 => ?_)
          · show Vx x E M2 220 [(0, .ref (E.1 (71))), (1, .int (iI (sc))), (2, .int (iI (pl))), (3, .int (iI (k)))] []
            exact r_v B R dX8_layShown_220 (⟨q4, q5, fun q hq => by rw [show (picS (M 80) (mV M) (64 * sc) pl) q = shS (mV M) (picW (M 80) (mV M) (64 * sc) pl) q from rfl]; unfold shS; rw [if_neg (by rw [mV_j (by decide), ← ofS_f q4 (i := 78) (by decide) (by decide), ← Is_e ez108]; exact c110), q7 q hq, show k = 0 from q3.resolve_right (fun h => by have h2 := Is_e h; rw [← ofS_f q4 (i := 78) (by decide) (by decide), ← Is_e ez108] at h2; omega)]; rfl⟩)
          · show Vx x E M2 113 [(0, .ref (E.1 (71))), (1, .int (iI (sc))), (2, .int (iI (pl))), (3, .int (iI (k)))] []
            have e108 : Is (M 78 5) 1 := by
              show _ = _
              rw [← ofS_f q4 (i := 78) (by decide) (by decide), ← Is_e ez108]
              omega
            have hv2 : mV M2 = mV M := mV_of q4 (by decide) (by decide)
            refine x_aload_n B dX8_layShown_113 0 rfl rfl ?_
            refine x_iload_n B dX8_layShown_114 3 rfl rfl ?_
            refine x_callV B (st := []) (av := [.int (iI (k))]) dX8_layShown_115 cs_X8_isDead kw_1065 ⟨rfl, rfl, Nat.le_of_ble_eq_true rfl, Nat.le_of_ble_eq_true rfl⟩ rfl rfl (Nat.le_of_ble_eq_true rfl) (rc_obj B (ci := 8) rfl rfl rfl) (c_X8_isDead _ E _ k (by omega) (by omega)) (k_i (fun z115 Mq hz115 => ?_))
            obtain ⟨rfl, hz115⟩ := hz115
            have J126 : ∀ (g0 : Int), (0 ≤ g0 ∧ g0 ≤ 1 ∧ (g0 = 0 ∧ (mV M 11).toNat.testBit k.toNat = true ∧ (∀ u : Int, 0 ≤ u → u < 0 → ¬ okL (mV M 11).toNat k u) ∧ eqF (M2 83) (roS (mV M 11).toNat (picW (M 80) (mV M) (64 * sc) pl) (sh0 (mV M) (picW (M 80) (mV M) (64 * sc) pl)) k.toNat) ∨ g0 = 1 ∧ eqF (M2 83) (roS (mV M 11).toNat (picW (M 80) (mV M) (64 * sc) pl) (sh0 (mV M) (picW (M 80) (mV M) (64 * sc) pl)) (k + 1).toNat))) → Vx x E M2 126 [(0, .ref (E.1 (71))), (1, .int (iI (sc))), (2, .int (iI (pl))), (3, .int (iI (k)))] [.int (iI (g0))] := by
              intro g0 hJ
              obtain hJ := hJ
              refine x_istore B dX8_layShown_126 [1, 2, 3, 4, 0] (by decide) (lv' := [(0, .ref (E.1 (71))), (1, .int (iI (sc))), (2, .int (iI (pl))), (3, .int (iI (k))), (4, .int (iI (g0)))]) rfl ?_
              refine x_iconst B dX8_layShown_128 ?_
              refine x_istore B dX8_layShown_129 [1, 2, 3, 4, 5, 0] (by decide) (lv' := [(0, .ref (E.1 (71))), (1, .int (iI (sc))), (2, .int (iI (pl))), (3, .int (iI (k))), (4, .int (iI (g0))), (5, .int (iI (0)))]) rfl ?_
              have L131 : ∀ (g : Int) (w : Int) (M3 : Mem), (0 ≤ w ∧ w ≤ 4 ∧ ofS [81, 82, 83] M M3 ∧ eqF (M3 81) (picH (M 80) (64 * sc) pl) ∧ eqF (M3 82) (picW (M 80) (mV M) (64 * sc) pl) ∧ 0 ≤ g ∧ g ≤ 1 ∧ (g = 0 ∧ (mV M 11).toNat.testBit k.toNat = true ∧ (∀ u : Int, 0 ≤ u → u < w → ¬ okL (mV M 11).toNat k u) ∧ eqF (M3 83) (roS (mV M 11).toNat (picW (M 80) (mV M) (64 * sc) pl) (sh0 (mV M) (picW (M 80) (mV M) (64 * sc) pl)) k.toNat) ∨ g = 1 ∧ eqF (M3 83) (roS (mV M 11).toNat (picW (M 80) (mV M) (64 * sc) pl) (sh0 (mV M) (picW (M 80) (mV M) (64 * sc) pl)) (k + 1).toNat))) → Vx x E M3 131 [(0, .ref (E.1 (71))), (1, .int (iI (sc))), (2, .int (iI (pl))), (3, .int (iI (k))), (4, .int (iI (g))), (5, .int (iI (w)))] [] := by
                refine lo3 _ _ (fun g w M3 => (4 - w).toNat) ?_
                intro g w M3 hI ih131
                obtain ⟨r1, r2, r3, r4, r5, g0, g1, r6⟩ := hI
                refine x_iload B dX8_layShown_131 5 rfl ?_
                refine x_iconst B dX8_layShown_133 ?_
                refine x_icmp_ge B (tgt := 214) dX8_layShown_134 (by decide) ⟨by omega, by omega⟩ ⟨by omega, by omega⟩ (fun c134 => ?_) (fun c134 => ?_)
                · show Vx x E M3 214 [(0, .ref (E.1 (71))), (1, .int (iI (sc))), (2, .int (iI (pl))), (3, .int (iI (k))), (4, .int (iI (g))), (5, .int (iI (w)))] []
                  have hend : eqF (M3 83) (roS (mV M 11).toNat (picW (M 80) (mV M) (64 * sc) pl) (sh0 (mV M) (picW (M 80) (mV M) (64 * sc) pl)) (k + 1).toNat) := by
                    rcases r6 with ⟨s1, s2, s3, s4⟩ | ⟨s1, s2⟩
                    · first
                      | (exfalso; omega)
                      | (rw [roS_no q1 (fun c => by rw [fiL_no (fun u u0 u1 => s3 u u0 (by omega))] at c; have := c.2; omega)]; exact s4)
                    · exact s2
                  refine x_iinc B (q := 3) dX8_layShown_214 rfl [1, 2, 3, 0, 4, 5] (by decide) (lv' := [(0, .ref (E.1 (71))), (1, .int (iI (sc))), (2, .int (iI (pl))), (3, .int (iI (k + 1))), (4, .int (iI (g))), (5, .int (iI (w)))]) rfl ?_
                  refine x_goto B (tgt := 97) dX8_layShown_217 (by decide) ?_
                  refine x_lv [0, 1, 2, 3] (lv' := [(0, .ref (E.1 (71))), (1, .int (iI (sc))), (2, .int (iI (pl))), (3, .int (iI (k + 1)))]) rfl ?_
                  exact ih97 (k + 1) M3 (⟨by omega, by omega, Or.inr e108, r3, r4, r5, hend⟩) (by omega)
                · show Vx x E M3 137 [(0, .ref (E.1 (71))), (1, .int (iI (sc))), (2, .int (iI (pl))), (3, .int (iI (k))), (4, .int (iI (g))), (5, .int (iI (w)))] []
                  refine x_iload B dX8_layShown_137 4 rfl ?_
                  refine x_if_ne B (tgt := 214) dX8_layShown_139 (by decide) ⟨by omega, by omega⟩ (fun c139 => ?_) (fun c139 => ?_)
                  · show Vx x E M3 214 [(0, .ref (E.1 (71))), (1, .int (iI (sc))), (2, .int (iI (pl))), (3, .int (iI (k))), (4, .int (iI (g))), (5, .int (iI (w)))] []
                    have hend : eqF (M3 83) (roS (mV M 11).toNat (picW (M 80) (mV M) (64 * sc) pl) (sh0 (mV M) (picW (M 80) (mV M) (64 * sc) pl)) (k + 1).toNat) := by
                      rcases r6 with ⟨s1, s2, s3, s4⟩ | ⟨s1, s2⟩
                      · first
                        | (exfalso; omega)
                        | (rw [roS_no q1 (fun c => by rw [fiL_no (fun u u0 u1 => s3 u u0 (by omega))] at c; have := c.2; omega)]; exact s4)
                      · exact s2
                    refine x_iinc B (q := 3) dX8_layShown_214 rfl [1, 2, 3, 0, 4, 5] (by decide) (lv' := [(0, .ref (E.1 (71))), (1, .int (iI (sc))), (2, .int (iI (pl))), (3, .int (iI (k + 1))), (4, .int (iI (g))), (5, .int (iI (w)))]) rfl ?_
                    refine x_goto B (tgt := 97) dX8_layShown_217 (by decide) ?_
                    refine x_lv [0, 1, 2, 3] (lv' := [(0, .ref (E.1 (71))), (1, .int (iI (sc))), (2, .int (iI (pl))), (3, .int (iI (k + 1)))]) rfl ?_
                    exact ih97 (k + 1) M3 (⟨by omega, by omega, Or.inr e108, r3, r4, r5, hend⟩) (by omega)
                  · show Vx x E M3 142 [(0, .ref (E.1 (71))), (1, .int (iI (sc))), (2, .int (iI (pl))), (3, .int (iI (k))), (4, .int (iI (g))), (5, .int (iI (w)))] []
                    have r7 := r6.resolve_right (fun h => by have := h.1; omega)
                    obtain ⟨s1, s2, s3, s4⟩ := r7
                    have hv3 : mV M3 = mV M := mV_of r3 (by decide) (by decide)
                    refine x_iload_n B dX8_layShown_142 3 rfl rfl ?_
                    refine x_iload B dX8_layShown_143 5 rfl ?_
                    refine x_callS B (st := []) (av := [.int (iI (k)), .int (iI (w))]) dX8_layShown_145 cs_X8_nextTo kw_1069 ⟨rfl, rfl, Nat.le_of_ble_eq_true rfl, Nat.le_of_ble_eq_true rfl⟩ rfl rfl (Nat.le_of_ble_eq_true rfl) (c_X8_nextTo _ E _ k w (by omega) (by omega) (by omega) (by omega)) (k_i (fun z145 Mq hz145 => ?_))
                    obtain ⟨rfl, hz145⟩ := hz145
                    refine x_istore B dX8_layShown_148 [1, 2, 3, 4, 5, 6, 0] (by decide) (lv' := [(0, .ref (E.1 (71))), (1, .int (iI (sc))), (2, .int (iI (pl))), (3, .int (iI (k))), (4, .int (iI (g))), (5, .int (iI (w))), (6, .int (iI (z145)))]) rfl ?_
                    refine x_iload B dX8_layShown_150 6 rfl ?_
                    refine x_bipush B dX8_layShown_152 rfl ?_
                    refine x_icmp_eq B (tgt := 208) dX8_layShown_154 (by decide) ⟨by omega, by omega⟩ ⟨by omega, by omega⟩ (fun c154 => ?_) (fun c154 => ?_)
                    · show Vx x E M3 208 [(0, .ref (E.1 (71))), (1, .int (iI (sc))), (2, .int (iI (pl))), (3, .int (iI (k))), (4, .int (iI (g))), (5, .int (iI (w))), (6, .int (iI (z145)))] []
                      refine x_iinc B (q := 5) dX8_layShown_208 rfl [1, 2, 3, 4, 5, 0, 6] (by decide) (lv' := [(0, .ref (E.1 (71))), (1, .int (iI (sc))), (2, .int (iI (pl))), (3, .int (iI (k))), (4, .int (iI (g))), (5, .int (iI (w + 1))), (6, .int (iI (z145)))]) rfl ?_
                      refine x_goto B (tgt := 131) dX8_layShown_211 (by decide) ?_
                      refine x_lv [0, 1, 2, 3, 4, 5] (lv' := [(0, .ref (E.1 (71))), (1, .int (iI (sc))), (2, .int (iI (pl))), (3, .int (iI (k))), (4, .int (iI (g))), (5, .int (iI (w + 1)))]) rfl ?_
                      exact ih131 g (w + 1) M3 (⟨by omega, by omega, r3, r4, r5, by omega, by omega, Or.inl ⟨by omega, s2, fun u u0 u1 => by rcases (show u < w ∨ u = w by omega) with h7 | h7; (exact s3 u u0 h7); (rw [h7]; exact fun ok => by have := ok.1; omega), s4⟩⟩) (by omega)
                    · show Vx x E M3 157 [(0, .ref (E.1 (71))), (1, .int (iI (sc))), (2, .int (iI (pl))), (3, .int (iI (k))), (4, .int (iI (g))), (5, .int (iI (w))), (6, .int (iI (z145)))] []
                      have hq := hz145.resolve_left (fun h => c154 h.1)
                      refine x_aload_n B dX8_layShown_157 0 rfl rfl ?_
                      refine x_iload B dX8_layShown_158 6 rfl ?_
                      refine x_callV B (st := []) (av := [.int (iI (z145))]) dX8_layShown_160 cs_X8_isDead kw_1065 ⟨rfl, rfl, Nat.le_of_ble_eq_true rfl, Nat.le_of_ble_eq_true rfl⟩ rfl rfl (Nat.le_of_ble_eq_true rfl) (rc_obj B (ci := 8) rfl rfl rfl) (c_X8_isDead _ E _ z145 (by omega) (by omega)) (k_i (fun z160 Mq hz160 => ?_))
                      obtain ⟨rfl, hz160⟩ := hz160
                      refine x_if_ne B (tgt := 208) dX8_layShown_163 (by decide) ⟨by omega, by omega⟩ (fun c163 => ?_) (fun c163 => ?_)
                      · show Vx x E M3 208 [(0, .ref (E.1 (71))), (1, .int (iI (sc))), (2, .int (iI (pl))), (3, .int (iI (k))), (4, .int (iI (g))), (5, .int (iI (w))), (6, .int (iI (z145)))] []
                        refine x_iinc B (q := 5) dX8_layShown_208 rfl [1, 2, 3, 4, 5, 0, 6] (by decide) (lv' := [(0, .ref (E.1 (71))), (1, .int (iI (sc))), (2, .int (iI (pl))), (3, .int (iI (k))), (4, .int (iI (g))), (5, .int (iI (w + 1))), (6, .int (iI (z145)))]) rfl ?_
                        refine x_goto B (tgt := 131) dX8_layShown_211 (by decide) ?_
                        refine x_lv [0, 1, 2, 3, 4, 5] (lv' := [(0, .ref (E.1 (71))), (1, .int (iI (sc))), (2, .int (iI (pl))), (3, .int (iI (k))), (4, .int (iI (g))), (5, .int (iI (w + 1)))]) rfl ?_
                        exact ih131 g (w + 1) M3 (⟨by omega, by omega, r3, r4, r5, by omega, by omega, Or.inl ⟨by omega, s2, fun u u0 u1 => by rcases (show u < w ∨ u = w by omega) with h7 | h7; (exact s3 u u0 h7); (rw [h7]; exact fun ok => by rcases hz160 with ⟨h8, h9⟩ | ⟨h8, h9⟩; (rw [hv3, hq.1] at h9; exact absurd (ok.2.symm.trans h9) (by decide)); (exact c163 h8)), s4⟩⟩) (by omega)
                      · show Vx x E M3 166 [(0, .ref (E.1 (71))), (1, .int (iI (sc))), (2, .int (iI (pl))), (3, .int (iI (k))), (4, .int (iI (g))), (5, .int (iI (w))), (6, .int (iI (z145)))] []
                        refine x_aload_n B dX8_layShown_166 0 rfl rfl ?_
                        refine x_getR B (ci := 8) (k := 22) dX8_layShown_167 rfl rfl rfl (by decide) inGX8 kw_827 ?_
                        refine x_iload B dX8_layShown_170 6 rfl ?_
                        refine x_aload_n B dX8_layShown_172 0 rfl rfl ?_
                        refine x_getR B (ci := 8) (k := 21) dX8_layShown_173 rfl rfl rfl (by decide) inGX8 kw_826 ?_
                        refine x_iload_n B dX8_layShown_176 3 rfl rfl ?_
                        refine x_iald B (lo := 0) (hi := 9) dX8_layShown_177 rfl (by omega) (by omega) rfl (fun z177 ez177 lz177 uz177 => ?_)
                        refine x_aload_n B dX8_layShown_178 0 rfl rfl ?_
                        refine x_getR B (ci := 8) (k := 22) dX8_layShown_179 rfl rfl rfl (by decide) inGX8 kw_827 ?_
                        refine x_iload B dX8_layShown_182 6 rfl ?_
                        refine x_iald B (lo := 0) (hi := 9) dX8_layShown_184 rfl (by omega) (by omega) rfl (fun z184 ez184 lz184 uz184 => ?_)
                        have J204 : ∀ (b : Int), (b = max (M3 83 (nbT k w).toNat) ((picW (M 80) (mV M) (64 * sc) pl) k.toNat) ∧ 0 ≤ b ∧ b ≤ 9) → Vx x E M3 204 [(0, .ref (E.1 (71))), (1, .int (iI (sc))), (2, .int (iI (pl))), (3, .int (iI (k))), (4, .int (iI (g))), (5, .int (iI (w))), (6, .int (iI (z145)))] [.int (iI (b)), .int (iI (z145)), .ref (E.1 (83))] := by
                          intro b hJ
                          obtain ⟨b1, b2, b3⟩ := hJ
                          refine x_iast B (lo := 0) (hi := 9) dX8_layShown_204 rfl (by omega) (by omega) rfl (by omega) (by omega) ?_
                          have hfe : fiL (mV M 11).toNat k = nbT k w := fiL_of r1 (by omega) ⟨by omega, by rcases hz160 with ⟨h8, h9⟩ | ⟨h8, h9⟩; omega; (rw [hv3, hq.1] at h9; exact h9)⟩ s3
                          have hro : eqF ((sto M3 83 (z145).toNat b) 83) (roS (mV M 11).toNat (picW (M 80) (mV M) (64 * sc) pl) (sh0 (mV M) (picW (M 80) (mV M) (64 * sc) pl)) (k + 1).toNat) := by
                            intro q hq2
                            rw [roS_yes q1 s2 (by omega), hfe, sto_max _ _ _ _ ((picW (M 80) (mV M) (64 * sc) pl) k.toNat) (by rw [hq.1]; exact b1)]
                            show (if q = z145.toNat then max (M3 83 q) _ else M3 83 q) = if q = (nbT k w).toNat then _ else _
                            rw [s4 q hq2, hq.1]
                          refine x_iconst B dX8_layShown_205 ?_
                          refine x_istore B dX8_layShown_206 [1, 2, 3, 4, 0, 5, 6] (by decide) (lv' := [(0, .ref (E.1 (71))), (1, .int (iI (sc))), (2, .int (iI (pl))), (3, .int (iI (k))), (4, .int (iI (1))), (5, .int (iI (w))), (6, .int (iI (z145)))]) rfl ?_
                          refine x_iinc B (q := 5) dX8_layShown_208 rfl [1, 2, 3, 4, 5, 0, 6] (by decide) (lv' := [(0, .ref (E.1 (71))), (1, .int (iI (sc))), (2, .int (iI (pl))), (3, .int (iI (k))), (4, .int (iI (1))), (5, .int (iI (w + 1))), (6, .int (iI (z145)))]) rfl ?_
                          refine x_goto B (tgt := 131) dX8_layShown_211 (by decide) ?_
                          refine x_lv [0, 1, 2, 3, 4, 5] (lv' := [(0, .ref (E.1 (71))), (1, .int (iI (sc))), (2, .int (iI (pl))), (3, .int (iI (k))), (4, .int (iI (1))), (5, .int (iI (w + 1)))]) rfl ?_
                          exact ih131 1 (w + 1) (sto M3 83 (z145).toNat b) (⟨by omega, by omega, ofS_sto r3 (by decide), eqF_o r4 (by decide), eqF_o r5 (by decide), by omega, by omega, Or.inr ⟨rfl, hro⟩⟩) (by omega)
                        refine x_icmp_le B (tgt := 197) dX8_layShown_185 (by decide) ⟨by omega, by omega⟩ ⟨by omega, by omega⟩ (fun c185 => ?_) (fun c185 => ?_)
                        · show Vx x E M3 197 [(0, .ref (E.1 (71))), (1, .int (iI (sc))), (2, .int (iI (pl))), (3, .int (iI (k))), (4, .int (iI (g))), (5, .int (iI (w))), (6, .int (iI (z145)))] [.int (iI (z145)), .ref (E.1 (83))]
                          refine x_aload_n B dX8_layShown_197 0 rfl rfl ?_
                          refine x_getR B (ci := 8) (k := 22) dX8_layShown_198 rfl rfl rfl (by decide) inGX8 kw_827 ?_
                          refine x_iload B dX8_layShown_201 6 rfl ?_
                          refine x_iald B (lo := 0) (hi := 9) dX8_layShown_203 rfl (by omega) (by omega) rfl (fun z203 ez203 lz203 uz203 => ?_)
                          exact J204 z203 (by rw [← r5 k.toNat (by omega), ← hq.1, ← Is_e ez177, ← Is_e ez184]; have e203 := Is_e ez203; rw [← Is_e ez184] at e203; omega)
                        · show Vx x E M3 188 [(0, .ref (E.1 (71))), (1, .int (iI (sc))), (2, .int (iI (pl))), (3, .int (iI (k))), (4, .int (iI (g))), (5, .int (iI (w))), (6, .int (iI (z145)))] [.int (iI (z145)), .ref (E.1 (83))]
                          refine x_aload_n B dX8_layShown_188 0 rfl rfl ?_
                          refine x_getR B (ci := 8) (k := 21) dX8_layShown_189 rfl rfl rfl (by decide) inGX8 kw_826 ?_
                          refine x_iload_n B dX8_layShown_192 3 rfl rfl ?_
                          refine x_iald B (lo := 0) (hi := 9) dX8_layShown_193 rfl (by omega) (by omega) rfl (fun z193 ez193 lz193 uz193 => ?_)
                          refine x_goto B (tgt := 204) dX8_layShown_194 (by decide) ?_
                          exact J204 z193 (by rw [← r5 k.toNat (by omega), ← hq.1, ← Is_e ez177, ← Is_e ez184]; have e193 := Is_e ez193; rw [← Is_e ez177] at e193; omega)
              exact L131 g0 0 M2 (⟨by omega, by omega, q4, q5, q6, by omega, by omega, hJ.2.2⟩)
            refine x_if_ne B (tgt := 125) dX8_layShown_118 (by decide) ⟨by omega, by omega⟩ (fun c118 => ?_) (fun c118 => ?_)
            · show Vx x E M2 125 [(0, .ref (E.1 (71))), (1, .int (iI (sc))), (2, .int (iI (pl))), (3, .int (iI (k)))] []
              refine x_iconst B dX8_layShown_125 ?_
              exact J126 0 (⟨by omega, by omega, Or.inl ⟨rfl, by rcases hz115 with ⟨h8, h9⟩ | ⟨h8, h9⟩; (rw [hv2] at h9; exact h9); omega, fun u u0 u1 => by omega, q7⟩⟩)
            · show Vx x E M2 121 [(0, .ref (E.1 (71))), (1, .int (iI (sc))), (2, .int (iI (pl))), (3, .int (iI (k)))] []
              refine x_iconst B dX8_layShown_121 ?_
              refine x_goto B (tgt := 126) dX8_layShown_122 (by decide) ?_
              exact J126 1 (⟨by omega, by omega, Or.inr ⟨rfl, by rw [roS_no q1 (fun c => by rcases hz115 with ⟨h8, h9⟩ | ⟨h8, h9⟩; omega; (rw [hv2] at h9; exact absurd (c.1.symm.trans h9) (by decide)))]; exact q7⟩⟩)
      exact L97 0 M1 (⟨by omega, by omega, Or.inl rfl, i3, i4, ltF_16 i5 (by omega), ltF_16 i6 (by omega)⟩)
    · show Vx x E M1 14 [(0, .ref (E.1 (71))), (1, .int (iI (sc))), (2, .int (iI (pl))), (3, .int (iI (k)))] []
      have hP := i4 k.toNat (by omega)
      refine x_aload_n B dX8_layShown_14 0 rfl rfl ?_
      refine x_getR B (ci := 8) (k := 21) dX8_layShown_15 rfl rfl rfl (by decide) inGX8 kw_826 ?_
      refine x_iload_n B dX8_layShown_18 3 rfl rfl ?_
      refine x_aload_n B dX8_layShown_19 0 rfl rfl ?_
      refine x_getR B (ci := 8) (k := 14) dX8_layShown_20 rfl rfl rfl (by decide) inGX8 kw_819 ?_
      refine x_iconst B dX8_layShown_23 ?_
      refine x_iald B (lo := 0) (hi := 2) dX8_layShown_24 rfl (by omega) (by omega) rfl (fun z24 ez24 lz24 uz24 => ?_)
      have ez24 : Is z24 (M1 78 0) := ez24
      have h0 : mV M 0 = z24 := by rw [mV_j (by decide), Is_e ez24, ofS_f i3 (by decide) (by decide)]
      have J64 : ∀ (j : Int), (j = (picW (M 80) (mV M) (64 * sc) pl) k.toNat ∧ 0 ≤ j ∧ j ≤ 9) → Vx x E M1 64 [(0, .ref (E.1 (71))), (1, .int (iI (sc))), (2, .int (iI (pl))), (3, .int (iI (k)))] [.int (iI (j)), .int (iI (k)), .ref (E.1 (82))] := by
        intro j hJ
        obtain ⟨j1, j2, j3⟩ := hJ
        refine x_iast B (lo := 0) (hi := 9) dX8_layShown_64 rfl (by omega) (by omega) rfl (by omega) (by omega) ?_
        have hv1 : mV (sto M1 82 (k).toNat j) = mV M := mV_of (ofS_sto i3 (by decide)) (by decide) (by decide)
        refine x_aload_n B dX8_layShown_65 0 rfl rfl ?_
        refine x_getR B (ci := 8) (k := 22) dX8_layShown_66 rfl rfl rfl (by decide) inGX8 kw_827 ?_
        refine x_iload_n B dX8_layShown_69 3 rfl rfl ?_
        refine x_aload_n B dX8_layShown_70 0 rfl rfl ?_
        refine x_iload_n B dX8_layShown_71 3 rfl rfl ?_
        refine x_callV B (st := [.int (iI (k)), .ref (E.1 (83))]) (av := [.int (iI (k))]) dX8_layShown_72 cs_X8_isDead kw_1065 ⟨rfl, rfl, Nat.le_of_ble_eq_true rfl, Nat.le_of_ble_eq_true rfl⟩ rfl rfl (Nat.le_of_ble_eq_true rfl) (rc_obj B (ci := 8) rfl rfl rfl) (c_X8_isDead _ E _ k (by omega) (by omega)) (k_i (fun z72 Mq hz72 => ?_))
        obtain ⟨rfl, hz72⟩ := hz72
        have J88 : ∀ (n : Int), (n = (sh0 (mV M) (picW (M 80) (mV M) (64 * sc) pl)) k.toNat ∧ 0 ≤ n ∧ n ≤ 9) → Vx x E (sto M1 82 (k).toNat j) 88 [(0, .ref (E.1 (71))), (1, .int (iI (sc))), (2, .int (iI (pl))), (3, .int (iI (k)))] [.int (iI (n)), .int (iI (k)), .ref (E.1 (83))] := by
          intro n hJ
          obtain ⟨n1, n2, n3⟩ := hJ
          refine x_iast B (lo := 0) (hi := 9) dX8_layShown_88 rfl (by omega) (by omega) rfl (by omega) (by omega) ?_
          refine x_iinc B (q := 3) dX8_layShown_89 rfl [1, 2, 3, 0] (by decide) (lv' := [(0, .ref (E.1 (71))), (1, .int (iI (sc))), (2, .int (iI (pl))), (3, .int (iI (k + 1)))]) rfl ?_
          refine x_goto B (tgt := 8) dX8_layShown_92 (by decide) ?_
          exact ih8 (k + 1) (sto (sto M1 82 (k).toNat j) 83 (k).toNat n) (⟨by omega, by omega, ofS_sto (ofS_sto i3 (by decide)) (by decide), eqF_o (eqF_o i4 (by decide)) (by decide), ltF_o (ltF_s i5 i1 j1) (by decide), ltF_s (ltF_o i6 (by decide)) i1 n1⟩) (by omega)
        refine x_if_eq B (tgt := 82) dX8_layShown_75 (by decide) ⟨by omega, by omega⟩ (fun c75 => ?_) (fun c75 => ?_)
        · show Vx x E (sto M1 82 (k).toNat j) 82 [(0, .ref (E.1 (71))), (1, .int (iI (sc))), (2, .int (iI (pl))), (3, .int (iI (k)))] [.int (iI (k)), .ref (E.1 (83))]
          refine x_aload_n B dX8_layShown_82 0 rfl rfl ?_
          refine x_getR B (ci := 8) (k := 21) dX8_layShown_83 rfl rfl rfl (by decide) inGX8 kw_826 ?_
          refine x_iload_n B dX8_layShown_86 3 rfl rfl ?_
          refine x_iald B (lo := 0) (hi := 9) dX8_layShown_87 rfl (by omega) (by omega) rfl (fun z87 ez87 lz87 uz87 => ?_)
          exact J88 z87 (⟨by unfold sh0; rw [if_neg (by rcases hz72 with ⟨h8, h9⟩ | ⟨h8, h9⟩; omega; (rw [hv1] at h9; rw [h9]; decide)), Is_e ez87, sto_eq]; exact j1, by omega, by omega⟩)
        · show Vx x E (sto M1 82 (k).toNat j) 78 [(0, .ref (E.1 (71))), (1, .int (iI (sc))), (2, .int (iI (pl))), (3, .int (iI (k)))] [.int (iI (k)), .ref (E.1 (83))]
          refine x_iconst B dX8_layShown_78 ?_
          refine x_goto B (tgt := 88) dX8_layShown_79 (by decide) ?_
          exact J88 0 (⟨by unfold sh0; rw [if_pos (by rcases hz72 with ⟨h8, h9⟩ | ⟨h8, h9⟩; (rw [hv1] at h9; exact h9); omega)], by omega, by omega⟩)
      refine x_if_ne B (tgt := 37) dX8_layShown_25 (by decide) ⟨by omega, by omega⟩ (fun c25 => ?_) (fun c25 => ?_)
      · show Vx x E M1 37 [(0, .ref (E.1 (71))), (1, .int (iI (sc))), (2, .int (iI (pl))), (3, .int (iI (k)))] [.int (iI (k)), .ref (E.1 (82))]
        refine x_aload_n B dX8_layShown_37 0 rfl rfl ?_
        refine x_getR B (ci := 8) (k := 14) dX8_layShown_38 rfl rfl rfl (by decide) inGX8 kw_819 ?_
        refine x_iconst B dX8_layShown_41 ?_
        refine x_iald B (lo := 0) (hi := 2) dX8_layShown_42 rfl (by omega) (by omega) rfl (fun z42 ez42 lz42 uz42 => ?_)
        have ez42 : Is z42 (M1 78 0) := ez42
        have h42 : z42 = z24 := (Is_e ez42).trans (Is_e ez24).symm
        refine x_iconst B dX8_layShown_43 ?_
        refine x_icmp_ne B (tgt := 59) dX8_layShown_44 (by decide) ⟨by omega, by omega⟩ ⟨by omega, by omega⟩ (fun c44 => ?_) (fun c44 => ?_)
        · show Vx x E M1 59 [(0, .ref (E.1 (71))), (1, .int (iI (sc))), (2, .int (iI (pl))), (3, .int (iI (k)))] [.int (iI (k)), .ref (E.1 (82))]
          refine x_aload_n B dX8_layShown_59 0 rfl rfl ?_
          refine x_iload_n B dX8_layShown_60 3 rfl rfl ?_
          refine x_callV B (st := [.int (iI (k)), .ref (E.1 (82))]) (av := [.int (iI (k))]) dX8_layShown_61 cs_X8_edge kw_1058 ⟨rfl, rfl, Nat.le_of_ble_eq_true rfl, Nat.le_of_ble_eq_true rfl⟩ rfl rfl (Nat.le_of_ble_eq_true rfl) (rc_obj B (ci := 8) rfl rfl rfl) (c_X8_edge _ E _ k (by omega) (by omega)) (k_i (fun z61 Mq hz61 => ?_))
          obtain ⟨rfl, hz61⟩ := hz61
          exact J64 z61 (⟨by rw [picW_k i1, h0]; unfold woS; rw [if_neg (by omega), if_pos (by omega), hz61.1, edS_cg i1 (by omega) i4, edS_cg i1 (by omega) i4], by omega, by omega⟩)
        · show Vx x E M1 47 [(0, .ref (E.1 (71))), (1, .int (iI (sc))), (2, .int (iI (pl))), (3, .int (iI (k)))] [.int (iI (k)), .ref (E.1 (82))]
          refine x_bipush B dX8_layShown_47 rfl ?_
          refine x_aload_n B dX8_layShown_49 0 rfl rfl ?_
          refine x_getR B (ci := 8) (k := 20) dX8_layShown_50 rfl rfl rfl (by decide) inGX8 kw_825 ?_
          refine x_iload_n B dX8_layShown_53 3 rfl rfl ?_
          refine x_iald B (lo := 0) (hi := 9) dX8_layShown_54 rfl (by omega) (by omega) rfl (fun z54 ez54 lz54 uz54 => ?_)
          refine x_isub B dX8_layShown_55 ?_
          refine x_goto B (tgt := 64) dX8_layShown_56 (by decide) ?_
          exact J64 (9 - z54) (⟨by rw [picW_k i1, h0]; unfold woS; rw [if_pos (by omega), ← hP, ← Is_e ez54], by omega, by omega⟩)
      · show Vx x E M1 28 [(0, .ref (E.1 (71))), (1, .int (iI (sc))), (2, .int (iI (pl))), (3, .int (iI (k)))] [.int (iI (k)), .ref (E.1 (82))]
        refine x_aload_n B dX8_layShown_28 0 rfl rfl ?_
        refine x_getR B (ci := 8) (k := 20) dX8_layShown_29 rfl rfl rfl (by decide) inGX8 kw_825 ?_
        refine x_iload_n B dX8_layShown_32 3 rfl rfl ?_
        refine x_iald B (lo := 0) (hi := 9) dX8_layShown_33 rfl (by omega) (by omega) rfl (fun z33 ez33 lz33 uz33 => ?_)
        refine x_goto B (tgt := 64) dX8_layShown_34 (by decide) ?_
        exact J64 z33 (⟨by rw [picW_k i1, h0]; unfold woS; rw [if_neg (by omega), if_neg (by omega), ← hP]; exact Is_e ez33, by omega, by omega⟩)
  exact L8 0 M3 (⟨by omega, by omega, ofS_w hz3.1 (by decide), hz3.2, ltF_0, ltF_0⟩)
/-- what is left of a strength: nothing of a dead POINT, nothing below the least -/
def cutS (d : Bool) (l y : Int) : Int := if d = true then 0 else if y < l then 0 else y
theorem feS_cut {v lst s td : Nat → Int} {p : Int} (h4 : 0 ≤ v 4) : feS v lst s td p = min (cutS ((v 11).toNat.testBit p.toNat) (lst p.toNat) (stS v s (td p.toNat) p)) (v 4) := by
  unfold feS cutS
  split
  · omega
  · split
    · omega
    · rfl
theorem hbS_cut {v lst s td : Nat → Int} {p : Int} (h4 : 0 ≤ v 4) : hbS v lst s td p ↔ v 4 < cutS ((v 11).toNat.testBit p.toNat) (lst p.toNat) (stS v s (td p.toNat) p) := by
  unfold hbS cutS
  cases h : (v 11).toNat.testBit p.toNat
  · rw [if_neg (by decide)]
    constructor
    · intro c
      have := c.2.1
      rw [if_neg (by omega)]
      exact c.2.2
    · intro c
      by_cases c2 : stS v s (td p.toNat) p < lst p.toNat
      · rw [if_pos c2] at c
        omega
      · rw [if_neg c2] at c
        exact ⟨rfl, by omega, c⟩
  · rw [if_pos rfl]
    constructor
    · intro c
      exact absurd c.1 (by decide)
    · intro c
      omega
theorem or16b {a b : Int} (a1 : a ≤ 65535) (b1 : b ≤ 65535) : (0 : Int) ≤ ((a.toNat ||| b.toNat : Nat) : Int) ∧ ((a.toNat ||| b.toNat : Nat) : Int) ≤ 65535 := by
  have e : (2 : Nat) ^ 16 = 65536 := by decide
  have h3 := Nat.or_lt_two_pow (x := a.toNat) (y := b.toNat) (n := 16) (by omega) (by omega)
  omega
theorem pow16 {k : Int} (h1 : k < 16) : (0 : Int) ≤ ((2 ^ k.toNat : Nat) : Int) ∧ ((2 ^ k.toNat : Nat) : Int) ≤ 65535 := by
  have h : 2 ^ k.toNat < 2 ^ 16 := Nat.pow_lt_pow_right (by omega) (by omega)
  have e : (2 : Nat) ^ 16 = 65536 := by decide
  have h2 : ((2 ^ k.toNat : Nat) : Int) ≤ ((65535 : Nat) : Int) := Int.ofNat_le.mpr (by omega)
  exact ⟨Int.natCast_nonneg _, h2⟩
abbrev rm_X8_layFelt : Room := { frames := 3, cells := 0, slots := 0, locals := 75 }
theorem cs_X8_layFelt : Cv yX8_layFelt cX8_layFelt 7 none 2 := ⟨kw_1045, ⟨kw_1044, kw_37⟩, kw_67, by decide, by decide, by decide +kernel⟩
set_option maxHeartbeats 4000000 in
set_option maxRecDepth 100000 in
theorem c_X8_layFelt (l : Launch) (E : Ev) (M : Mem) (sc pl : Int) (g1 : 0 ≤ sc) (g2 : sc ≤ 5) (g3 : 0 ≤ pl) (g4 : pl ≤ 25) : Ct l yX8_layFelt cX8_layFelt 7 none rm_X8_layFelt E M [.ref (E.1 (71)), .int (iI (sc)), .int (iI (pl))] (pV (fun M' => ofS [81, 82, 83, 84] M M' ∧ eqF (M' 81) (picH (M 80) (64 * sc) pl) ∧ eqF (M' 83) (picS (M 80) (mV M) (64 * sc) pl) ∧ eqF (M' 84) (picF (M 80) (mV M) (mL M) (mD M) (64 * sc) pl) ∧ Is (M' 71 24) (((picU (M 80) (mV M) (mL M) (mD M) (64 * sc) pl) : Nat) : Int))) := by
  refine Ct_of (lv := [(0, .ref (E.1 (71))), (1, .int (iI (sc))), (2, .int (iI (pl)))]) (by decide) ⟨rfl, rfl⟩ (Nat.le_of_ble_eq_true rfl) rfl (fun x _ B R => ?_)
  refine x_aload_n B dX8_layFelt_0 0 rfl rfl ?_
  refine x_iload_n B dX8_layFelt_1 1 rfl rfl ?_
  refine x_iload_n B dX8_layFelt_2 2 rfl rfl ?_
  refine x_callV B (st := []) (av := [.int (iI (sc)), .int (iI (pl))]) dX8_layFelt_3 cs_X8_layShown kw_1046 ⟨rfl, rfl, Nat.le_of_ble_eq_true rfl, Nat.le_of_ble_eq_true rfl⟩ rfl rfl (Nat.le_of_ble_eq_true rfl) (rc_obj B (ci := 8) rfl rfl rfl) (c_X8_layShown _ E _ sc pl (by omega) (by omega) (by omega) (by omega)) (k_v (fun M3 hz3 => ?_))
  refine x_aload_n B dX8_layFelt_6 0 rfl rfl ?_
  refine x_iconst B dX8_layFelt_7 ?_
  refine x_put B (ci := 8) (k := 24) (lo := 0) (hi := 65535) (ty := .int) dX8_layFelt_8 rfl rfl rfl (by decide) inGX8 tyX8_ok nmX8 kw_829 rfl (by decide +kernel) (nar_i _) (fit_i _) rfl (by omega) (by omega) ?_
  refine x_iconst B dX8_layFelt_11 ?_
  refine x_istore_n B dX8_layFelt_12 [1, 2, 3, 0] rfl (by decide) (lv' := [(0, .ref (E.1 (71))), (1, .int (iI (sc))), (2, .int (iI (pl))), (3, .int (iI (0)))]) rfl ?_
  have L13 : ∀ (k : Int) (M1 : Mem), (0 ≤ k ∧ k ≤ 16 ∧ ofS [81, 82, 83, 84] M M1 ∧ eqF (M1 81) (picH (M 80) (64 * sc) pl) ∧ eqF (M1 83) (picS (M 80) (mV M) (64 * sc) pl) ∧ ltF (M1 84) (picF (M 80) (mV M) (mL M) (mD M) (64 * sc) pl) k ∧ Is (M1 71 24) ((huS (mV M) (mL M) (picS (M 80) (mV M) (64 * sc) pl) (mD M) k.toNat : Nat) : Int)) → Vx x E M1 13 [(0, .ref (E.1 (71))), (1, .int (iI (sc))), (2, .int (iI (pl))), (3, .int (iI (k)))] [] := by
    refine lo2 _ _ (fun k M1 => (16 - k).toNat) ?_
    intro k M1 hI ih13
    obtain ⟨i1, i2, i3, i4, i5, i6, i7⟩ := hI
    refine x_iload_n B dX8_layFelt_13 3 rfl rfl ?_
    refine x_bipush B dX8_layFelt_14 rfl ?_
    refine x_icmp_ge B (tgt := 223) dX8_layFelt_16 (by decide) ⟨by omega, by omega⟩ ⟨by omega, by omega⟩ (fun c16 => ?_) (fun c16 => ?_)
    · show Vx x E M1 223 [(0, .ref (E.1 (71))), (1, .int (iI (sc))), (2, .int (iI (pl))), (3, .int (iI (k)))] []
      exact r_v B R dX8_layFelt_223 (⟨i3, i4, i5, ltF_16 i6 (by omega), by rw [show (picU (M 80) (mV M) (mL M) (mD M) (64 * sc) pl) = huS (mV M) (mL M) (picS (M 80) (mV M) (64 * sc) pl) (mD M) k.toNat by rw [show k = 16 by omega]; rfl]; exact i7⟩)
    · show Vx x E M1 19 [(0, .ref (E.1 (71))), (1, .int (iI (sc))), (2, .int (iI (pl))), (3, .int (iI (k)))] []
      refine x_iconst B dX8_layFelt_19 ?_
      refine x_istore B dX8_layFelt_20 [1, 2, 3, 4, 0] (by decide) (lv' := [(0, .ref (E.1 (71))), (1, .int (iI (sc))), (2, .int (iI (pl))), (3, .int (iI (k))), (4, .int (iI (0)))]) rfl ?_
      refine x_iconst B dX8_layFelt_22 ?_
      refine x_istore B dX8_layFelt_23 [1, 2, 3, 4, 5, 0] (by decide) (lv' := [(0, .ref (E.1 (71))), (1, .int (iI (sc))), (2, .int (iI (pl))), (3, .int (iI (k))), (4, .int (iI (0))), (5, .int (iI (0)))]) rfl ?_
      have L25 : ∀ (a : Int) (w : Int), (0 ≤ w ∧ w ≤ 4 ∧ Is a (besK (M1 83) k w.toNat) ∧ 0 ≤ a ∧ a ≤ 9 * w) → Vx x E M1 25 [(0, .ref (E.1 (71))), (1, .int (iI (sc))), (2, .int (iI (pl))), (3, .int (iI (k))), (4, .int (iI (a))), (5, .int (iI (w)))] [] := by
        refine lo2 _ _ (fun a w => (4 - w).toNat) ?_
        intro a w hI ih25
        obtain ⟨r1, r2, r3, r4, r5⟩ := hI
        refine x_iload B dX8_layFelt_25 5 rfl ?_
        refine x_iconst B dX8_layFelt_27 ?_
        refine x_icmp_ge B (tgt := 68) dX8_layFelt_28 (by decide) ⟨by omega, by omega⟩ ⟨by omega, by omega⟩ (fun c28 => ?_) (fun c28 => ?_)
        · show Vx x E M1 68 [(0, .ref (E.1 (71))), (1, .int (iI (sc))), (2, .int (iI (pl))), (3, .int (iI (k))), (4, .int (iI (a))), (5, .int (iI (w)))] []
          refine x_aload_n B dX8_layFelt_68 0 rfl rfl ?_
          refine x_getR B (ci := 8) (k := 22) dX8_layFelt_69 rfl rfl rfl (by decide) inGX8 kw_827 ?_
          refine x_iload_n B dX8_layFelt_72 3 rfl rfl ?_
          refine x_iald B (lo := 0) (hi := 9) dX8_layFelt_73 rfl (by omega) (by omega) rfl (fun z73 ez73 lz73 uz73 => ?_)
          refine x_aload_n B dX8_layFelt_74 0 rfl rfl ?_
          refine x_getR B (ci := 8) (k := 14) dX8_layFelt_75 rfl rfl rfl (by decide) inGX8 kw_819 ?_
          refine x_iconst B dX8_layFelt_78 ?_
          refine x_iald B (lo := 0) (hi := 4) dX8_layFelt_79 rfl (by omega) (by omega) rfl (fun z79 ez79 lz79 uz79 => ?_)
          have ez79 : Is z79 (M1 78 1) := ez79
          refine x_iload B dX8_layFelt_80 4 rfl ?_
          have m82 := mulb (a := z79) (b := a) (A := 4) (B := 36) (by omega) (by omega) (by omega) (by omega)
          refine x_imul B dX8_layFelt_82 ?_
          refine x_bipush B dX8_layFelt_83 rfl ?_
          refine x_idiv B dX8_layFelt_85 ⟨by omega, by omega⟩ (by omega) ⟨by omega, by omega⟩ (by omega) ?_
          refine x_iadd B dX8_layFelt_86 ?_
          refine x_aload_n B dX8_layFelt_87 0 rfl rfl ?_
          refine x_getR B (ci := 8) (k := 14) dX8_layFelt_88 rfl rfl rfl (by decide) inGX8 kw_819 ?_
          refine x_iconst B dX8_layFelt_91 ?_
          refine x_iald B (lo := 0) (hi := 3) dX8_layFelt_92 rfl (by omega) (by omega) rfl (fun z92 ez92 lz92 uz92 => ?_)
          have ez92 : Is z92 (M1 78 2) := ez92
          refine x_iload_n B dX8_layFelt_93 3 rfl rfl ?_
          refine x_iconst B dX8_layFelt_94 ?_
          refine x_idiv B dX8_layFelt_95 ⟨by omega, by omega⟩ (by omega) ⟨by omega, by omega⟩ (by omega) ?_
          have m96 := mulb (a := z92) (b := k / 4) (A := 3) (B := 3) (by omega) (by omega) (by omega) (by omega)
          refine x_imul B dX8_layFelt_96 ?_
          refine x_isub B dX8_layFelt_97 ?_
          refine x_istore B dX8_layFelt_98 [1, 2, 3, 4, 5, 0] (by decide) (lv' := [(0, .ref (E.1 (71))), (1, .int (iI (sc))), (2, .int (iI (pl))), (3, .int (iI (k))), (4, .int (iI (a))), (5, .int (iI ((z73 + ((z79 * a) / 16)) - (z92 * (k / 4)))))]) rfl ?_
          refine x_iload B dX8_layFelt_100 5 rfl ?_
          refine x_aload_n B dX8_layFelt_102 0 rfl rfl ?_
          refine x_getI B (ci := 8) (k := 26) (lo := 0) (hi := 1) dX8_layFelt_103 rfl rfl rfl (by decide) inGX8 kw_831 rfl (fun z103 ez103 lz103 uz103 => ?_)
          have e103 : Is z103 (M 71 26) := by
            show _ = _
            rw [Is_e ez103, ofS_o i3 (by decide) (by decide)]
          have J129 : ∀ (t : Int), (Is t (mV M 3 * mD M k.toNat / 10) ∧ 0 ≤ t ∧ t ≤ 8) → Vx x E M1 129 [(0, .ref (E.1 (71))), (1, .int (iI (sc))), (2, .int (iI (pl))), (3, .int (iI (k))), (4, .int (iI (a))), (5, .int (iI ((z73 + ((z79 * a) / 16)) - (z92 * (k / 4)))))] [.int (iI (t)), .int (iI ((z73 + ((z79 * a) / 16)) - (z92 * (k / 4))))] := by
            intro t hJ
            obtain ⟨t1, t2, t3⟩ := hJ
            refine x_isub B dX8_layFelt_129 ?_
            refine x_istore B dX8_layFelt_130 [1, 2, 3, 4, 5, 0] (by decide) (lv' := [(0, .ref (E.1 (71))), (1, .int (iI (sc))), (2, .int (iI (pl))), (3, .int (iI (k))), (4, .int (iI (a))), (5, .int (iI (((z73 + ((z79 * a) / 16)) - (z92 * (k / 4))) - t)))]) rfl ?_
            have hst : Is (((z73 + ((z79 * a) / 16)) - (z92 * (k / 4))) - t) (stS (mV M) (picS (M 80) (mV M) (64 * sc) pl) (mD M k.toNat) k) := by
              show _ = _
              unfold stS
              rw [mV_j (j := 1) (by decide), mV_j (j := 2) (by decide), ← i5 k.toNat (by omega), ← besK_cg i1 (by omega) i5 4, ← Is_e t1, ← ofS_f i3 (i := 78) (by decide) (by decide), ← Is_e ez73, ← Is_e ez79, ← Is_e ez92, Is_e r3, show w.toNat = 4 by omega]
            have hy : -60 ≤ (((z73 + ((z79 * a) / 16)) - (z92 * (k / 4))) - t) ∧ (((z73 + ((z79 * a) / 16)) - (z92 * (k / 4))) - t) ≤ 60 := by omega
            generalize (((z73 + ((z79 * a) / 16)) - (z92 * (k / 4))) - t) = y at hst hy ⊢
            have hv1 : mV M1 = mV M := mV_of i3 (by decide) (by decide)
            refine x_aload_n B dX8_layFelt_132 0 rfl rfl ?_
            refine x_iload_n B dX8_layFelt_133 3 rfl rfl ?_
            refine x_callV B (st := []) (av := [.int (iI (k))]) dX8_layFelt_134 cs_X8_isDead kw_1065 ⟨rfl, rfl, Nat.le_of_ble_eq_true rfl, Nat.le_of_ble_eq_true rfl⟩ rfl rfl (Nat.le_of_ble_eq_true rfl) (rc_obj B (ci := 8) rfl rfl rfl) (c_X8_isDead _ E _ k (by omega) (by omega)) (k_i (fun z134 Mq hz134 => ?_))
            obtain ⟨rfl, hz134⟩ := hz134
            have J160 : ∀ (u : Int), (Is u (cutS ((mV M 11).toNat.testBit k.toNat) (mL M k.toNat) y) ∧ 0 ≤ u ∧ u ≤ 60) → Vx x E M1 160 [(0, .ref (E.1 (71))), (1, .int (iI (sc))), (2, .int (iI (pl))), (3, .int (iI (k))), (4, .int (iI (a))), (5, .int (iI (y)))] [.int (iI (u))] := by
              intro u hJ
              obtain ⟨u1, u2, u3⟩ := hJ
              refine x_istore B dX8_layFelt_160 [1, 2, 3, 4, 5, 0] (by decide) (lv' := [(0, .ref (E.1 (71))), (1, .int (iI (sc))), (2, .int (iI (pl))), (3, .int (iI (k))), (4, .int (iI (a))), (5, .int (iI (u)))]) rfl ?_
              refine x_aload_n B dX8_layFelt_162 0 rfl rfl ?_
              refine x_dup B dX8_layFelt_163 rfl ?_
              refine x_getI B (ci := 8) (k := 24) (lo := 0) (hi := 65535) dX8_layFelt_164 rfl rfl rfl (by decide) inGX8 kw_829 rfl (fun z164 ez164 lz164 uz164 => ?_)
              refine x_iload B dX8_layFelt_167 5 rfl ?_
              refine x_aload_n B dX8_layFelt_169 0 rfl rfl ?_
              refine x_getR B (ci := 8) (k := 14) dX8_layFelt_170 rfl rfl rfl (by decide) inGX8 kw_819 ?_
              refine x_iconst B dX8_layFelt_173 ?_
              refine x_iald B (lo := 1) (hi := 9) dX8_layFelt_174 rfl (by omega) (by omega) rfl (fun z174 ez174 lz174 uz174 => ?_)
              have ez174 : Is z174 (M1 78 4) := ez174
              have h4 : Is z174 (mV M 4) := by
                show _ = _
                rw [mV_j (by decide), Is_e ez174, ofS_f i3 (i := 78) (by decide) (by decide)]
              have J185 : ∀ (b : Int), (b = (if z174 < u then ((2 ^ k.toNat : Nat) : Int) else 0) ∧ 0 ≤ b ∧ b ≤ 65535) → Vx x E M1 185 [(0, .ref (E.1 (71))), (1, .int (iI (sc))), (2, .int (iI (pl))), (3, .int (iI (k))), (4, .int (iI (a))), (5, .int (iI (u)))] [.int (iI (b)), .int (iI (z164)), .ref (E.1 (71))] := by
                intro b hJ
                obtain ⟨b1, b2, b3⟩ := hJ
                refine x_ior B dX8_layFelt_185 (by omega) (by omega) ?_
                have o16 := or16b (a := z164) (b := b) (by omega) (by omega)
                refine x_put B (ci := 8) (k := 24) (lo := 0) (hi := 65535) (ty := .int) dX8_layFelt_186 rfl rfl rfl (by decide) inGX8 tyX8_ok nmX8 kw_829 rfl (by decide +kernel) (nar_i _) (fit_i _) rfl o16.1 o16.2 ?_
                refine x_aload_n B dX8_layFelt_189 0 rfl rfl ?_
                refine x_getR B (ci := 8) (k := 23) dX8_layFelt_190 rfl rfl rfl (by decide) inGX8 kw_828 ?_
                refine x_iload_n B dX8_layFelt_193 3 rfl rfl ?_
                refine x_iload B dX8_layFelt_194 5 rfl ?_
                refine x_aload_n B dX8_layFelt_196 0 rfl rfl ?_
                refine x_getR B (ci := 8) (k := 14) dX8_layFelt_197 rfl rfl rfl (by decide) inGX8 kw_819 ?_
                refine x_iconst B dX8_layFelt_200 ?_
                refine x_iald B (lo := 1) (hi := 9) dX8_layFelt_201 rfl (by omega) (by omega) rfl (fun z201 ez201 lz201 uz201 => ?_)
                have ez201 : Is z201 ((sto M1 71 24 (((z164).toNat ||| (b).toNat : Nat) : Int)) 78 4) := ez201
                have e201 : z201 = z174 := by rw [Is_e ez201, Is_e ez174, sto_ni _ _ _ _ (by decide)]
                have J216 : ∀ (f : Int), (f = min u z174 ∧ 0 ≤ f ∧ f ≤ 9) → Vx x E (sto M1 71 24 (((z164).toNat ||| (b).toNat : Nat) : Int)) 216 [(0, .ref (E.1 (71))), (1, .int (iI (sc))), (2, .int (iI (pl))), (3, .int (iI (k))), (4, .int (iI (a))), (5, .int (iI (u)))] [.int (iI (f)), .int (iI (k)), .ref (E.1 (84))] := by
                  intro f hJ
                  obtain ⟨f1, f2, f3⟩ := hJ
                  refine x_iast B (lo := 0) (hi := 9) dX8_layFelt_216 rfl (by omega) (by omega) rfl (by omega) (by omega) ?_
                  have hF : f = (picF (M 80) (mV M) (mL M) (mD M) (64 * sc) pl) k.toNat := by
                    show _ = feS _ _ _ _ ((k.toNat : Nat) : Int)
                    rw [Int.toNat_of_nonneg i1, feS_cut (by rw [← Is_e h4]; omega), ← Is_e hst, ← Is_e u1, ← Is_e h4]
                    exact f1
                  have hU : Is ((sto (sto M1 71 24 (((z164).toNat ||| (b).toNat : Nat) : Int)) 84 (k).toNat f) 71 24) ((huS (mV M) (mL M) (picS (M 80) (mV M) (64 * sc) pl) (mD M) (k + 1).toNat : Nat) : Int) := by
                    show _ = _
                    rw [sto_ni _ _ _ _ (by decide), sto_eq, huS_s i1, b1, Is_e ez164, Is_e i7, Int.toNat_natCast]
                    by_cases c : z174 < u
                    · rw [if_pos c, if_pos ((hbS_cut (by rw [← Is_e h4]; omega)).mpr (by rw [← Is_e hst, ← Is_e u1, ← Is_e h4]; exact c)), Int.toNat_natCast]
                    · rw [if_neg c, if_neg (fun hb => c (by have h9 := (hbS_cut (by rw [← Is_e h4]; omega)).mp hb; rw [← Is_e hst, ← Is_e u1, ← Is_e h4] at h9; exact h9))]
                      exact congrArg _ (Nat.or_zero _)
                  refine x_iinc B (q := 3) dX8_layFelt_217 rfl [1, 2, 3, 0, 4, 5] (by decide) (lv' := [(0, .ref (E.1 (71))), (1, .int (iI (sc))), (2, .int (iI (pl))), (3, .int (iI (k + 1))), (4, .int (iI (a))), (5, .int (iI (u)))]) rfl ?_
                  refine x_goto B (tgt := 13) dX8_layFelt_220 (by decide) ?_
                  refine x_lv [0, 1, 2, 3] (lv' := [(0, .ref (E.1 (71))), (1, .int (iI (sc))), (2, .int (iI (pl))), (3, .int (iI (k + 1)))]) rfl ?_
                  exact ih13 (k + 1) (sto (sto M1 71 24 (((z164).toNat ||| (b).toNat : Nat) : Int)) 84 (k).toNat f) (⟨by omega, by omega, ofS_sto (ofS_put i3 (by decide)) (by decide), eqF_o (eqF_o i4 (by decide)) (by decide), eqF_o (eqF_o i5 (by decide)) (by decide), ltF_s (ltF_o i6 (by decide)) i1 hF, hU⟩) (by omega)
                refine x_icmp_le B (tgt := 214) dX8_layFelt_202 (by decide) ⟨by omega, by omega⟩ ⟨by omega, by omega⟩ (fun c202 => ?_) (fun c202 => ?_)
                · show Vx x E (sto M1 71 24 (((z164).toNat ||| (b).toNat : Nat) : Int)) 214 [(0, .ref (E.1 (71))), (1, .int (iI (sc))), (2, .int (iI (pl))), (3, .int (iI (k))), (4, .int (iI (a))), (5, .int (iI (u)))] [.int (iI (k)), .ref (E.1 (84))]
                  refine x_iload B dX8_layFelt_214 5 rfl ?_
                  exact J216 u (by omega)
                · show Vx x E (sto M1 71 24 (((z164).toNat ||| (b).toNat : Nat) : Int)) 205 [(0, .ref (E.1 (71))), (1, .int (iI (sc))), (2, .int (iI (pl))), (3, .int (iI (k))), (4, .int (iI (a))), (5, .int (iI (u)))] [.int (iI (k)), .ref (E.1 (84))]
                  refine x_aload_n B dX8_layFelt_205 0 rfl rfl ?_
                  refine x_getR B (ci := 8) (k := 14) dX8_layFelt_206 rfl rfl rfl (by decide) inGX8 kw_819 ?_
                  refine x_iconst B dX8_layFelt_209 ?_
                  refine x_iald B (lo := 1) (hi := 9) dX8_layFelt_210 rfl (by omega) (by omega) rfl (fun z210 ez210 lz210 uz210 => ?_)
                  have ez210 : Is z210 ((sto M1 71 24 (((z164).toNat ||| (b).toNat : Nat) : Int)) 78 4) := ez210
                  have e210 : z210 = z174 := by rw [Is_e ez210, Is_e ez174, sto_ni _ _ _ _ (by decide)]
                  refine x_goto B (tgt := 216) dX8_layFelt_211 (by decide) ?_
                  exact J216 z210 (by omega)
              refine x_icmp_le B (tgt := 184) dX8_layFelt_175 (by decide) ⟨by omega, by omega⟩ ⟨by omega, by omega⟩ (fun c175 => ?_) (fun c175 => ?_)
              · show Vx x E M1 184 [(0, .ref (E.1 (71))), (1, .int (iI (sc))), (2, .int (iI (pl))), (3, .int (iI (k))), (4, .int (iI (a))), (5, .int (iI (u)))] [.int (iI (z164)), .ref (E.1 (71))]
                refine x_iconst B dX8_layFelt_184 ?_
                exact J185 0 (⟨by rw [if_neg (by omega)], by omega, by omega⟩)
              · show Vx x E M1 178 [(0, .ref (E.1 (71))), (1, .int (iI (sc))), (2, .int (iI (pl))), (3, .int (iI (k))), (4, .int (iI (a))), (5, .int (iI (u)))] [.int (iI (z164)), .ref (E.1 (71))]
                refine x_iconst B dX8_layFelt_178 ?_
                refine x_iload_n B dX8_layFelt_179 3 rfl rfl ?_
                refine x_shl1 B dX8_layFelt_180 (by omega) (by omega) ?_
                refine x_goto B (tgt := 185) dX8_layFelt_181 (by decide) ?_
                exact J185 ((2 ^ (k).toNat : Nat) : Int) (⟨by rw [if_pos (by omega)], (pow16 (k := k) (by omega)).1, (pow16 (k := k) (by omega)).2⟩)
            refine x_if_ne B (tgt := 154) dX8_layFelt_137 (by decide) ⟨by omega, by omega⟩ (fun c137 => ?_) (fun c137 => ?_)
            · show Vx x E M1 154 [(0, .ref (E.1 (71))), (1, .int (iI (sc))), (2, .int (iI (pl))), (3, .int (iI (k))), (4, .int (iI (a))), (5, .int (iI (y)))] []
              refine x_iconst B dX8_layFelt_154 ?_
              refine x_goto B (tgt := 160) dX8_layFelt_155 (by decide) ?_
              exact J160 0 (⟨by show _ = _; unfold cutS; rw [if_pos (by rcases hz134 with ⟨h8, h9⟩ | ⟨h8, h9⟩; (rw [hv1] at h9; exact h9); omega)], by omega, by omega⟩)
            · show Vx x E M1 140 [(0, .ref (E.1 (71))), (1, .int (iI (sc))), (2, .int (iI (pl))), (3, .int (iI (k))), (4, .int (iI (a))), (5, .int (iI (y)))] []
              have hnd : ¬ (mV M 11).toNat.testBit k.toNat = true := by rcases hz134 with ⟨h8, h9⟩ | ⟨h8, h9⟩; omega; (rw [hv1] at h9; rw [h9]; decide)
              refine x_iload B dX8_layFelt_140 5 rfl ?_
              refine x_aload_n B dX8_layFelt_142 0 rfl rfl ?_
              refine x_getR B (ci := 8) (k := 14) dX8_layFelt_143 rfl rfl rfl (by decide) inGX8 kw_819 ?_
              refine x_bipush B dX8_layFelt_146 rfl ?_
              refine x_iload_n B dX8_layFelt_148 3 rfl rfl ?_
              refine x_iadd B dX8_layFelt_149 ?_
              refine x_iald B (lo := 1) (hi := 9) dX8_layFelt_150 rfl (by omega) (by omega) (rH_l (by omega) (by omega)) (fun z150 ez150 lz150 uz150 => ?_)
              have hl : Is z150 (mL M k.toNat) := by
                show _ = M 78 (12 + k.toNat)
                rw [Is_e ez150, ofS_f i3 (i := 78) (by decide) (by decide), show (12 + k).toNat = 12 + k.toNat by omega]
              refine x_icmp_ge B (tgt := 158) dX8_layFelt_151 (by decide) ⟨by omega, by omega⟩ ⟨by omega, by omega⟩ (fun c151 => ?_) (fun c151 => ?_)
              · show Vx x E M1 158 [(0, .ref (E.1 (71))), (1, .int (iI (sc))), (2, .int (iI (pl))), (3, .int (iI (k))), (4, .int (iI (a))), (5, .int (iI (y)))] []
                refine x_iload B dX8_layFelt_158 5 rfl ?_
                exact J160 y (⟨by show _ = _; unfold cutS; rw [if_neg hnd, ← Is_e hl, if_neg (by omega)], by omega, by omega⟩)
              · show Vx x E M1 154 [(0, .ref (E.1 (71))), (1, .int (iI (sc))), (2, .int (iI (pl))), (3, .int (iI (k))), (4, .int (iI (a))), (5, .int (iI (y)))] []
                refine x_iconst B dX8_layFelt_154 ?_
                refine x_goto B (tgt := 160) dX8_layFelt_155 (by decide) ?_
                exact J160 0 (⟨by show _ = _; unfold cutS; rw [if_neg hnd, ← Is_e hl, if_pos (by omega)], by omega, by omega⟩)
          refine x_if_eq B (tgt := 113) dX8_layFelt_106 (by decide) ⟨by omega, by omega⟩ (fun c106 => ?_) (fun c106 => ?_)
          · show Vx x E M1 113 [(0, .ref (E.1 (71))), (1, .int (iI (sc))), (2, .int (iI (pl))), (3, .int (iI (k))), (4, .int (iI (a))), (5, .int (iI ((z73 + ((z79 * a) / 16)) - (z92 * (k / 4)))))] [.int (iI ((z73 + ((z79 * a) / 16)) - (z92 * (k / 4))))]
            refine x_aload_n B dX8_layFelt_113 0 rfl rfl ?_
            refine x_getR B (ci := 8) (k := 14) dX8_layFelt_114 rfl rfl rfl (by decide) inGX8 kw_819 ?_
            refine x_iconst B dX8_layFelt_117 ?_
            refine x_iald B (lo := 0) (hi := 9) dX8_layFelt_118 rfl (by omega) (by omega) rfl (fun z118 ez118 lz118 uz118 => ?_)
            have ez118 : Is z118 (M1 78 3) := ez118
            refine x_aload_n B dX8_layFelt_119 0 rfl rfl ?_
            refine x_getR B (ci := 8) (k := 25) dX8_layFelt_120 rfl rfl rfl (by decide) inGX8 kw_830 ?_
            refine x_iload_n B dX8_layFelt_123 3 rfl rfl ?_
            refine x_iald B (lo := 0) (hi := 9) dX8_layFelt_124 rfl (by omega) (by omega) rfl (fun z124 ez124 lz124 uz124 => ?_)
            have m125 := mulb (a := z118) (b := z124) (A := 9) (B := 9) (by omega) (by omega) (by omega) (by omega)
            refine x_imul B dX8_layFelt_125 ?_
            refine x_bipush B dX8_layFelt_126 rfl ?_
            refine x_idiv B dX8_layFelt_128 ⟨by omega, by omega⟩ (by omega) ⟨by omega, by omega⟩ (by omega) ?_
            exact J129 ((z118 * z124) / 10) (⟨by show _ = _; rw [show mD M k.toNat = M 85 k.toNat from if_neg (by rw [← Is_e e103]; omega), mV_j (by decide), Is_e ez118, Is_e ez124, ofS_f i3 (i := 78) (by decide) (by decide), ofS_f i3 (i := 85) (by decide) (by decide)], by omega, by omega⟩)
          · show Vx x E M1 109 [(0, .ref (E.1 (71))), (1, .int (iI (sc))), (2, .int (iI (pl))), (3, .int (iI (k))), (4, .int (iI (a))), (5, .int (iI ((z73 + ((z79 * a) / 16)) - (z92 * (k / 4)))))] [.int (iI ((z73 + ((z79 * a) / 16)) - (z92 * (k / 4))))]
            refine x_iconst B dX8_layFelt_109 ?_
            refine x_goto B (tgt := 129) dX8_layFelt_110 (by decide) ?_
            exact J129 0 (⟨by show _ = _; rw [show mD M k.toNat = 0 from if_pos (by rw [← Is_e e103]; omega), Int.mul_zero]; rfl, by omega, by omega⟩)
        · show Vx x E M1 31 [(0, .ref (E.1 (71))), (1, .int (iI (sc))), (2, .int (iI (pl))), (3, .int (iI (k))), (4, .int (iI (a))), (5, .int (iI (w)))] []
          refine x_iload_n B dX8_layFelt_31 3 rfl rfl ?_
          refine x_iload B dX8_layFelt_32 5 rfl ?_
          refine x_callS B (st := []) (av := [.int (iI (k)), .int (iI (w))]) dX8_layFelt_34 cs_X8_nextTo kw_1069 ⟨rfl, rfl, Nat.le_of_ble_eq_true rfl, Nat.le_of_ble_eq_true rfl⟩ rfl rfl (Nat.le_of_ble_eq_true rfl) (c_X8_nextTo _ E _ k w (by omega) (by omega) (by omega) (by omega)) (k_i (fun z34 Mq hz34 => ?_))
          obtain ⟨rfl, hz34⟩ := hz34
          refine x_istore B dX8_layFelt_37 [1, 2, 3, 4, 5, 6, 0] (by decide) (lv' := [(0, .ref (E.1 (71))), (1, .int (iI (sc))), (2, .int (iI (pl))), (3, .int (iI (k))), (4, .int (iI (a))), (5, .int (iI (w))), (6, .int (iI (z34)))]) rfl ?_
          refine x_iload B dX8_layFelt_39 4 rfl ?_
          refine x_iload B dX8_layFelt_41 6 rfl ?_
          refine x_bipush B dX8_layFelt_43 rfl ?_
          have J59 : ∀ (j : Int), (j = bqS (M1 83) k w ∧ 0 ≤ j ∧ j ≤ 9) → Vx x E M1 59 [(0, .ref (E.1 (71))), (1, .int (iI (sc))), (2, .int (iI (pl))), (3, .int (iI (k))), (4, .int (iI (a))), (5, .int (iI (w))), (6, .int (iI (z34)))] [.int (iI (j)), .int (iI (a))] := by
            intro j hJ
            obtain ⟨j1, j2, j3⟩ := hJ
            refine x_iadd B dX8_layFelt_59 ?_
            refine x_istore B dX8_layFelt_60 [1, 2, 3, 4, 0, 5, 6] (by decide) (lv' := [(0, .ref (E.1 (71))), (1, .int (iI (sc))), (2, .int (iI (pl))), (3, .int (iI (k))), (4, .int (iI (a + j))), (5, .int (iI (w))), (6, .int (iI (z34)))]) rfl ?_
            refine x_iinc B (q := 5) dX8_layFelt_62 rfl [1, 2, 3, 4, 5, 0, 6] (by decide) (lv' := [(0, .ref (E.1 (71))), (1, .int (iI (sc))), (2, .int (iI (pl))), (3, .int (iI (k))), (4, .int (iI (a + j))), (5, .int (iI (w + 1))), (6, .int (iI (z34)))]) rfl ?_
            refine x_goto B (tgt := 25) dX8_layFelt_65 (by decide) ?_
            refine x_lv [0, 1, 2, 3, 4, 5] (lv' := [(0, .ref (E.1 (71))), (1, .int (iI (sc))), (2, .int (iI (pl))), (3, .int (iI (k))), (4, .int (iI (a + j))), (5, .int (iI (w + 1)))]) rfl ?_
            exact ih25 (a + j) (w + 1) (⟨by omega, by omega, by show _ = _; rw [besK_s r1, ← Is_e r3, ← j1], by omega, by omega⟩) (by omega)
          refine x_icmp_ne B (tgt := 52) dX8_layFelt_45 (by decide) ⟨by omega, by omega⟩ ⟨by omega, by omega⟩ (fun c45 => ?_) (fun c45 => ?_)
          · show Vx x E M1 52 [(0, .ref (E.1 (71))), (1, .int (iI (sc))), (2, .int (iI (pl))), (3, .int (iI (k))), (4, .int (iI (a))), (5, .int (iI (w))), (6, .int (iI (z34)))] [.int (iI (a))]
            have hq := hz34.resolve_left (fun h => c45 h.1)
            refine x_aload_n B dX8_layFelt_52 0 rfl rfl ?_
            refine x_getR B (ci := 8) (k := 22) dX8_layFelt_53 rfl rfl rfl (by decide) inGX8 kw_827 ?_
            refine x_iload B dX8_layFelt_56 6 rfl ?_
            refine x_iald B (lo := 0) (hi := 9) dX8_layFelt_58 rfl (by omega) (by omega) rfl (fun z58 ez58 lz58 uz58 => ?_)
            exact J59 z58 (⟨by unfold bqS; rw [if_neg (by omega), ← hq.1]; exact Is_e ez58, by omega, by omega⟩)
          · show Vx x E M1 48 [(0, .ref (E.1 (71))), (1, .int (iI (sc))), (2, .int (iI (pl))), (3, .int (iI (k))), (4, .int (iI (a))), (5, .int (iI (w))), (6, .int (iI (z34)))] [.int (iI (a))]
            refine x_iconst B dX8_layFelt_48 ?_
            refine x_goto B (tgt := 59) dX8_layFelt_49 (by decide) ?_
            exact J59 0 (⟨by unfold bqS; rw [if_pos (by omega)], by omega, by omega⟩)
      exact L25 0 0 (⟨by omega, by omega, rfl, by omega, by omega⟩)
  exact L13 0 (sto M3 71 24 0) (⟨by omega, by omega, ofS_put (ofS_w hz3.1 (by decide)) (by decide), eqF_o hz3.2.1 (by decide), eqF_o hz3.2.2 (by decide), ltF_0, sto_eq _ _ _ _⟩)
