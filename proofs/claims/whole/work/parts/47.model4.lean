/-! ===== longs as they come, shifts ===== -/
/-- a byte of a long -/
def fbS (u : Int64) (s : Int) : Int := (((u.toBitVec.toNat >>> s.toNat) % 256 : Nat) : Int)
theorem fbS_in {u : Int64} {s : Int} : 0 ≤ fbS u s ∧ fbS u s ≤ 255 := by unfold fbS; omega
theorem shU_ok : ∀ p : Fin 64, ((iI (p.val : Int)).toInt64.toUInt64 &&& Int64.toUInt64 63).toNat % 64 = p.val := by decide +kernel
theorem shS_ok : ∀ p : Fin 64, (((iI (p.val : Int)).toInt64 &&& 63).toBitVec.smod 64).toNat = p.val := by decide +kernel
theorem i255 : (iI 255).toBitVec = 255#32 := by decide +kernel
theorem fb_bit (n s i : Nat) : ((n >>> s) % 256).testBit i = (decide (i < 8) && n.testBit (s + i)) := by
  rw [show (256 : Nat) = 2 ^ 8 from rfl, Nat.testBit_mod_two_pow, Nat.testBit_shiftRight]
theorem b255 : ∀ i : Fin 32, (255#32).getLsbD i.val = decide (i.val < 8) := by decide +kernel
theorem fbU {u : Int64} {s : Int} (h0 : 0 ≤ s) (h1 : s < 64) : (u.toUInt64 >>> ((iI s).toInt64.toUInt64 &&& Int64.toUInt64 63)).toInt64.toInt32 &&& iI 255 = iI (fbS u s) := by
  have hs := shU_ok ⟨s.toNat, by omega⟩
  dsimp only at hs
  rw [← nat_of h0] at hs
  apply Int32.toBitVec_inj.mp
  rw [Int32.toBitVec_and, i255]
  unfold fbS
  rw [iI_tb]
  apply BitVec.eq_of_getLsbD_eq
  intro i hi
  rw [BitVec.getLsbD_and, b255 ⟨i, hi⟩, BitVec.getLsbD_ofNat, fb_bit]
  have e : (u.toUInt64 >>> ((iI s).toInt64.toUInt64 &&& Int64.toUInt64 63)).toInt64.toInt32.toBitVec.getLsbD i = u.toBitVec.toNat.testBit (s.toNat + i) := by
    rw [Int64.toBitVec_toInt32, BitVec.getLsbD_signExtend, if_pos (by omega)]
    show (decide (i < 32) && (u.toUInt64 >>> ((iI s).toInt64.toUInt64 &&& Int64.toUInt64 63)).toNat.testBit i) = _
    rw [UInt64.toNat_shiftRight, hs, Nat.testBit_shiftRight, decide_eq_true hi, Bool.true_and]
    rfl
  rw [e]
  simp [hi, Bool.and_comm]
theorem fbV {u : Int64} {s : Int} (h0 : 0 ≤ s) (h1 : s ≤ 56) : (u >>> ((iI s).toInt64 &&& 63)).toInt32 &&& iI 255 = iI (fbS u s) := by
  have hs := shS_ok ⟨s.toNat, by omega⟩
  dsimp only at hs
  rw [← nat_of h0] at hs
  apply Int32.toBitVec_inj.mp
  rw [Int32.toBitVec_and, i255]
  unfold fbS
  rw [iI_tb]
  apply BitVec.eq_of_getLsbD_eq
  intro i hi
  rw [BitVec.getLsbD_and, b255 ⟨i, hi⟩, BitVec.getLsbD_ofNat, fb_bit]
  by_cases h8 : i < 8
  · have e : (u >>> ((iI s).toInt64 &&& 63)).toInt32.toBitVec.getLsbD i = u.toBitVec.toNat.testBit (s.toNat + i) := by
      rw [Int64.toBitVec_toInt32, BitVec.getLsbD_signExtend, if_pos (by omega), Int64.toBitVec_shiftRight]
      show (decide (i < 32) && (u.toBitVec.sshiftRight (((iI s).toInt64 &&& 63).toBitVec.smod 64).toNat).getLsbD i) = _
      rw [hs, BitVec.getLsbD_sshiftRight, if_pos (by omega), decide_eq_true hi, Bool.true_and, show decide (64 ≤ i) = false from decide_eq_false (by omega)]
      rfl
    rw [e]
    simp [hi, h8]
  · simp [h8]
theorem sxB (bv : BitVec 32) (k w : Nat) (hk : k + w = 32) (hw : 0 < w) : (bv <<< k).sshiftRight k = (bv.signExtend w).signExtend 32 := by
  apply BitVec.eq_of_getLsbD_eq
  intro i hi
  rw [BitVec.getLsbD_sshiftRight, BitVec.getLsbD_signExtend, BitVec.msb_eq_getLsbD_last, BitVec.msb_eq_getLsbD_last, BitVec.getLsbD_shiftLeft, BitVec.getLsbD_shiftLeft, BitVec.getLsbD_signExtend, BitVec.getLsbD_signExtend]
  by_cases h : i < w
  · rw [if_pos (show k + i < 32 by omega), if_pos h, if_pos (show i < 32 by omega)]
    simp [hi, h, show ¬ (32 ≤ i) by omega, show k + i < 32 by omega]
  · rw [if_neg (show ¬ k + i < 32 by omega), if_neg h, if_pos (show w - 1 < 32 by omega)]
    simp [hi, show ¬ (32 ≤ i) by omega, show w - 1 < w by omega, show k ≤ 31 by omega, show 31 - k = w - 1 by omega]
theorem sx24 {v : Int} (h : Rg v) : (iI v <<< (iI 24 &&& 31)) >>> (iI 24 &&& 31) = iI (v.bmod 256) := by
  rw [← iI_i2b h]
  apply Int32.toBitVec_inj.mp
  rw [Int32.toBitVec_shiftRight, Int32.toBitVec_shiftLeft, Int8.toBitVec_toInt32, Int32.toBitVec_toInt8, show (iI 24 &&& 31).toBitVec.smod 32 = 24#32 by decide +kernel]
  exact sxB _ 24 8 rfl (by decide)
theorem sx16 {v : Int} (h : Rg v) : (iI v <<< (iI 16 &&& 31)) >>> (iI 16 &&& 31) = iI (v.bmod 65536) := by
  rw [← iI_i2s h]
  apply Int32.toBitVec_inj.mp
  rw [Int32.toBitVec_shiftRight, Int32.toBitVec_shiftLeft, Int16.toBitVec_toInt32, Int32.toBitVec_toInt16, show (iI 16 &&& 31).toBitVec.smod 32 = 16#32 by decide +kernel]
  exact sxB _ 16 16 rfl (by decide)
section RAW2
variable {x : Cx} {E : Ev} {own : String} {cc : ByteArray} {n : Nat} {rm : Room} {M : Mem} {pc : Nat} {lv : List (Nat × Value)} {st : List Value}
theorem y_ishl (B : Ok x E own cc n rm) {u v : Int32} (hd : decode cc pc = .ok (.ishl, 1)) (k : Vx x E M (pc + 1) lv (.int (u <<< (v &&& 31)) :: st)) : Vx x E M pc lv (.int v :: .int u :: st) := fun hw H locs ls hP hS hl => lv_ishl B.1 B.2.1 hd (k hw H locs ls hP hS hl)
theorem y_ishr (B : Ok x E own cc n rm) {u v : Int32} (hd : decode cc pc = .ok (.ishr, 1)) (k : Vx x E M (pc + 1) lv (.int (u >>> (v &&& 31)) :: st)) : Vx x E M pc lv (.int v :: .int u :: st) := fun hw H locs ls hP hS hl => lv_ishr B.1 B.2.1 hd (k hw H locs ls hP hS hl)
theorem y_lushr (B : Ok x E own cc n rm) {u : Int64} {y : Int32} (hd : decode cc pc = .ok (.lushr, 1)) (k : Vx x E M (pc + 1) lv (.long (u.toUInt64 >>> (y.toInt64.toUInt64 &&& Int64.toUInt64 63)).toInt64 :: st)) : Vx x E M pc lv (.int y :: .long u :: st) := fun hw H locs ls hP hS hl => lv_lushr B.1 B.2.1 hd rfl (k hw H locs ls hP hS hl)
theorem y_lshr (B : Ok x E own cc n rm) {u : Int64} {y : Int32} (hd : decode cc pc = .ok (.lshr, 1)) (k : Vx x E M (pc + 1) lv (.long (u >>> (y.toInt64 &&& 63)) :: st)) : Vx x E M pc lv (.int y :: .long u :: st) := fun hw H locs ls hP hS hl => lv_lshr B.1 B.2.1 hd rfl (k hw H locs ls hP hS hl)
theorem y_l2i (B : Ok x E own cc n rm) {u : Int64} (hd : decode cc pc = .ok (.l2i, 1)) (k : Vx x E M (pc + 1) lv (.int u.toInt32 :: st)) : Vx x E M pc lv (.long u :: st) := fun hw H locs ls hP hS hl => lv_l2i B.1 B.2.1 hd rfl (k hw H locs ls hP hS hl)
theorem y_iand2 (B : Ok x E own cc n rm) {u v : Int32} (hd : decode cc pc = .ok (.iand, 1)) (k : Vx x E M (pc + 1) lv (.int (u &&& v) :: st)) : Vx x E M pc lv (.int v :: .int u :: st) := fun hw H locs ls hP hS hl => lv_iand B.1 B.2.1 hd (k hw H locs ls hP hS hl)
theorem x_byU (B : Ok x E own cc n rm) {u : Int64} {s : Int} (h0 : 0 ≤ s) (h1 : s < 64) (d1 : decode cc pc = .ok (.lushr, 1)) (d2 : decode cc (pc + 1) = .ok (.l2i, 1)) (d3 : decode cc (pc + 1 + 1) = .ok (.sipush 255, 3)) (d4 : decode cc (pc + 1 + 1 + 3) = .ok (.iand, 1)) (k : Vx x E M (pc + 1 + 1 + 3 + 1) lv (.int (iI (fbS u s)) :: st)) : Vx x E M pc lv (.int (iI s) :: .long u :: st) :=
  y_lushr B d1 (y_l2i B d2 (x_sipush B d3 rfl (y_iand2 B d4 (y_raw _ (fbU h0 h1) k))))
theorem x_byV (B : Ok x E own cc n rm) {u : Int64} {s : Int} (h0 : 0 ≤ s) (h1 : s ≤ 56) (d1 : decode cc pc = .ok (.lshr, 1)) (d2 : decode cc (pc + 1) = .ok (.l2i, 1)) (d3 : decode cc (pc + 1 + 1) = .ok (.sipush 255, 3)) (d4 : decode cc (pc + 1 + 1 + 3) = .ok (.iand, 1)) (k : Vx x E M (pc + 1 + 1 + 3 + 1) lv (.int (iI (fbS u s)) :: st)) : Vx x E M pc lv (.int (iI s) :: .long u :: st) :=
  y_lshr B d1 (y_l2i B d2 (x_sipush B d3 rfl (y_iand2 B d4 (y_raw _ (fbV h0 h1) k))))
theorem x_sx24 (B : Ok x E own cc n rm) {v : Int} (h : Rg v) (d1 : decode cc pc = .ok (.bipush 24, 2)) (d2 : decode cc (pc + 2) = .ok (.ishl, 1)) (d3 : decode cc (pc + 2 + 1) = .ok (.bipush 24, 2)) (d4 : decode cc (pc + 2 + 1 + 2) = .ok (.ishr, 1)) (k : Vx x E M (pc + 2 + 1 + 2 + 1) lv (.int (iI (v.bmod 256)) :: st)) : Vx x E M pc lv (.int (iI v) :: st) :=
  x_bipush B d1 rfl (y_ishl B d2 (x_bipush B d3 rfl (y_ishr B d4 (y_raw _ (sx24 h) k))))
theorem x_sx16 (B : Ok x E own cc n rm) {v : Int} (h : Rg v) (d1 : decode cc pc = .ok (.bipush 16, 2)) (d2 : decode cc (pc + 2) = .ok (.ishl, 1)) (d3 : decode cc (pc + 2 + 1) = .ok (.bipush 16, 2)) (d4 : decode cc (pc + 2 + 1 + 2) = .ok (.ishr, 1)) (k : Vx x E M (pc + 2 + 1 + 2 + 1) lv (.int (iI (v.bmod 65536)) :: st)) : Vx x E M pc lv (.int (iI v) :: st) :=
  x_bipush B d1 rfl (y_ishl B d2 (x_bipush B d3 rfl (y_ishr B d4 (y_raw _ (sx16 h) k))))
end RAW2
/-- eight bytes of a long behind the n that lie there, the first k of them -/
def fdM (M : Mem) (c : Nat) (n : Int) (u : Int64) (k : Int) : Mem := fun a b => if a = c ∧ n ≤ (b : Int) ∧ (b : Int) < n + k then fbS u (56 - 8 * ((b : Int) - n)) else M a b
theorem fdM_0 {M : Mem} {c : Nat} {n : Int} {u : Int64} {k : Int} (h : k = 0) : fdM M c n u k = M := by
  funext a b
  unfold fdM
  rw [if_neg (by omega)]
theorem fdM_s {M : Mem} {c : Nat} {n k : Int} {u : Int64} (h0 : 0 ≤ n) (h1 : 0 ≤ k) : sto (fdM M c n u k) c (n + k).toNat (fbS u (56 - 8 * k)) = fdM M c n u (k + 1) := by
  funext a b
  unfold sto fdM
  by_cases h : a = c ∧ b = (n + k).toNat
  · rw [if_pos h, if_pos ⟨h.1, by omega, by omega⟩, show 56 - 8 * ((b : Int) - n) = 56 - 8 * k by omega]
  · rw [if_neg h]
    by_cases h2 : a = c ∧ n ≤ (b : Int) ∧ (b : Int) < n + k
    · rw [if_pos h2, if_pos ⟨h2.1, by omega, by omega⟩]
    · rw [if_neg h2, if_neg (fun q => by obtain ⟨q1, q2, q3⟩ := q; by_cases e : (b : Int) < n + k; exact h2 ⟨q1, q2, e⟩; exact h ⟨q1, by omega⟩)]
theorem fdM_m {M : Mem} {n j a b : Int} {u : Int64} (h0 : 0 ≤ n) (h1 : 0 ≤ j) : sto (sto (sto (fdM M 72 n u j) 71 1 a) 72 (n + j).toNat (fbS u (56 - 8 * j))) 71 1 b = sto (fdM M 72 n u (j + 1)) 71 1 b := by
  rw [← fdM_s h0 h1]
  funext x y
  unfold sto
  by_cases h : x = 71 ∧ y = 1
  · rw [if_pos h, if_pos h]
  · rw [if_neg h, if_neg h, if_neg h]
theorem sto_self (M : Mem) (i j : Nat) {v : Int} (h : v = M i j) : sto M i j v = M := by
  funext a b
  unfold sto
  by_cases c : a = i ∧ b = j
  · rw [if_pos c, h, c.1, c.2]
  · rw [if_neg c]
abbrev rm_X5_append : Room := { frames := 0, cells := 0, slots := 0, locals := 0 }
theorem cs_X5_append : Cv yX5_append cX5_append 4 (some .boolean) 1 := ⟨kw_336, ⟨kw_334, kw_335⟩, kw_61, by decide, by decide, by decide +kernel⟩
set_option maxHeartbeats 4000000 in
set_option maxRecDepth 100000 in
theorem c_X5_append (l : Launch) (E : Ev) (M : Mem) (u : Int64)  : Ct l yX5_append cX5_append 4 (some .boolean) rm_X5_append E M [.ref (E.1 (7)), .long u] (pI (fun z M' => z = 0 ∧ M' = M ∧ 200 < M 7 1 + 8 ∨ z = 1 ∧ M 7 1 + 8 ≤ 200 ∧ M' = sto (fdM M 11 (M 7 1) u 8) 7 1 (M 7 1 + 8))) := by
  refine Ct_of (lv := [(0, .ref (E.1 (7))), (1, .long u)]) (by decide) ⟨rfl, rfl⟩ (Nat.le_of_ble_eq_true rfl) rfl (fun x _ B R => ?_)
  refine x_aload_n B dX5_append_0 0 rfl rfl ?_
  refine x_getI B (ci := 5) (k := 1) (lo := 0) (hi := 200) dX5_append_1 rfl rfl rfl (by decide) inGX5 kw_124 rfl (fun z1 ez1 lz1 uz1 => ?_)
  have e1 := Is_e ez1
  refine x_bipush B dX5_append_4 rfl ?_
  refine x_iadd B dX5_append_6 ?_
  refine x_sipush B dX5_append_7 rfl ?_
  refine x_icmp_le B (tgt := 15) dX5_append_10 (by decide) ⟨by omega, by omega⟩ ⟨by omega, by omega⟩ (fun c10 => ?_) (fun c10 => ?_)
  · show Vx x E M 15 [(0, .ref (E.1 (7))), (1, .long u)] []
    refine x_iconst B dX5_append_15 ?_
    refine x_istore_n B dX5_append_16 [1, 2, 0] rfl (by decide) (lv' := [(0, .ref (E.1 (7))), (1, .long u), (3, .int (iI (0)))]) rfl ?_
    have L17 : ∀ (k : Int) (M1 : Mem), (0 ≤ k ∧ k ≤ 8 ∧ M1 = fdM M 11 z1 u k) → Vx x E M1 17 [(0, .ref (E.1 (7))), (1, .long u), (3, .int (iI (k)))] [] := by
      refine lo2 _ _ (fun k M1 => (8 - k).toNat) ?_
      intro k M1 hI ih17
      obtain ⟨i1, i2, i3⟩ := hI
      refine x_iload_n B dX5_append_17 2 rfl rfl ?_
      refine x_bipush B dX5_append_18 rfl ?_
      refine x_icmp_ge B (tgt := 54) dX5_append_20 (by decide) ⟨by omega, by omega⟩ ⟨by omega, by omega⟩ (fun c20 => ?_) (fun c20 => ?_)
      · show Vx x E M1 54 [(0, .ref (E.1 (7))), (1, .long u), (3, .int (iI (k)))] []
        refine x_aload_n B dX5_append_54 0 rfl rfl ?_
        refine x_dup B dX5_append_55 rfl ?_
        refine x_getI B (ci := 5) (k := 1) (lo := 0) (hi := 200) dX5_append_56 rfl rfl rfl (by decide) inGX5 kw_124 rfl (fun z56 ez56 lz56 uz56 => ?_)
        have e56 : z56 = z1 := by
          rw [Is_e ez56, i3]
          show fdM _ _ _ _ _ 7 1 = _
          unfold fdM
          rw [if_neg (by omega), e1]
        refine x_bipush B dX5_append_59 rfl ?_
        refine x_iadd B dX5_append_61 ?_
        refine x_put B (ci := 5) (k := 1) (lo := 0) (hi := 200) (ty := .int) dX5_append_62 rfl rfl rfl (by decide) inGX5 tyX5_ok nmX5 kw_124 rfl (by decide +kernel) (nar_i _) (fit_i _) rfl (by omega) (by omega) ?_
        refine x_iconst B dX5_append_65 ?_
        exact r_z B R dX5_append_66 (by omega) (by omega) (Or.inr ⟨rfl, by omega, by rw [i3, e56, show k = 8 by omega, ← e1]⟩)
      · show Vx x E M1 23 [(0, .ref (E.1 (7))), (1, .long u), (3, .int (iI (k)))] []
        refine x_aload_n B dX5_append_23 0 rfl rfl ?_
        refine x_getR B (ci := 5) (k := 4) dX5_append_24 rfl rfl rfl (by decide) inGX5 kw_130 ?_
        refine x_aload_n B dX5_append_27 0 rfl rfl ?_
        refine x_getI B (ci := 5) (k := 1) (lo := 0) (hi := 200) dX5_append_28 rfl rfl rfl (by decide) inGX5 kw_124 rfl (fun z28 ez28 lz28 uz28 => ?_)
        have e28 : z28 = z1 := by
          rw [Is_e ez28, i3]
          show fdM _ _ _ _ _ 7 1 = _
          unfold fdM
          rw [if_neg (by omega), e1]
        refine x_iload_n B dX5_append_31 2 rfl rfl ?_
        refine x_iadd B dX5_append_32 ?_
        refine x_lload_n B dX5_append_33 1 rfl rfl ?_
        refine x_bipush B dX5_append_34 rfl ?_
        refine x_bipush B dX5_append_36 rfl ?_
        refine x_iload_n B dX5_append_38 2 rfl rfl ?_
        refine x_imul B dX5_append_39 ?_
        refine x_isub B dX5_append_40 ?_
        refine x_byU B (by omega) (by omega) dX5_append_41 dX5_append_42 dX5_append_43 dX5_append_46 ?_
        refine x_iast B (lo := 0) (hi := 255) dX5_append_47 rfl (by omega) (by omega) rfl fbS_in.1 fbS_in.2 ?_
        refine x_iinc B (q := 2) dX5_append_48 rfl [1, 2, 0] (by decide) (lv' := [(0, .ref (E.1 (7))), (1, .long u), (3, .int (iI (k + 1)))]) rfl ?_
        refine x_goto B (tgt := 17) dX5_append_51 (by decide) ?_
        exact ih17 (k + 1) (sto M1 11 (z28 + k).toNat (fbS u (56 - (8 * k)))) (⟨by omega, by omega, by rw [e28, i3]; exact fdM_s (by omega) i1⟩) (by omega)
    exact L17 0 M (⟨by omega, by omega, (fdM_0 rfl).symm⟩)
  · show Vx x E M 13 [(0, .ref (E.1 (7))), (1, .long u)] []
    refine x_iconst B dX5_append_13 ?_
    exact r_z B R dX5_append_14 (by omega) (by omega) (Or.inl ⟨rfl, rfl, by omega⟩)
abbrev rm_X7_feed : Room := { frames := 1, cells := 0, slots := 0, locals := 23 }
theorem cs_X7_feed : Cv yX7_feed cX7_feed 3 (some .int) 1 := ⟨kw_332, ⟨kw_330, kw_331⟩, kw_57, by decide, by decide, by decide +kernel⟩
set_option maxHeartbeats 4000000 in
set_option maxRecDepth 100000 in
theorem c_X7_feed (l : Launch) (E : Ev) (M : Mem) (u : Int64)  : Ct l yX7_feed cX7_feed 3 (some .int) rm_X7_feed E M [.ref (E.1 (0)), .long u] (pI (fun z M' => z = -3 ∧ M' = M ∧ 200 < M 7 1 + 8 ∨ z = M 7 1 + 8 ∧ M 7 1 + 8 ≤ 200 ∧ M' = sto (fdM M 11 (M 7 1) u 8) 7 1 (M 7 1 + 8))) := by
  refine Ct_of (lv := [(0, .ref (E.1 (0))), (1, .long u)]) (by decide) ⟨rfl, rfl⟩ (Nat.le_of_ble_eq_true rfl) rfl (fun x _ B R => ?_)
  refine x_aload_n B dX7_feed_0 0 rfl rfl ?_
  refine x_getR B (ci := 7) (k := 2) dX7_feed_1 rfl rfl rfl (by decide) inGX7 kw_285 ?_
  refine x_lload_n B dX7_feed_4 1 rfl rfl ?_
  refine x_callV B (st := []) (av := [.long u]) dX7_feed_5 cs_X5_append kw_333 ⟨rfl, rfl, Nat.le_of_ble_eq_true rfl, Nat.le_of_ble_eq_true rfl⟩ rfl rfl (Nat.le_of_ble_eq_true rfl) (rc_obj B (ci := 5) rfl rfl rfl) (c_X5_append _ E _ u) (k_i (fun z5 M5 hz5 => ?_))
  refine x_if_eq B (tgt := 21) dX7_feed_8 (by decide) ⟨by omega, by omega⟩ (fun c8 => ?_) (fun c8 => ?_)
  · show Vx x E M5 21 [(0, .ref (E.1 (0))), (1, .long u)] []
    refine x_bipush B dX7_feed_21 rfl ?_
    exact r_i B R dX7_feed_23 (Or.inl ⟨rfl, by rcases hz5 with h | h; (exact h.2.1); (exact absurd (h.1.symm.trans c8) (by decide)), by rcases hz5 with h | h; (exact h.2.2); (exact absurd (h.1.symm.trans c8) (by decide))⟩)
  · show Vx x E M5 11 [(0, .ref (E.1 (0))), (1, .long u)] []
    refine x_aload_n B dX7_feed_11 0 rfl rfl ?_
    refine x_getR B (ci := 7) (k := 2) dX7_feed_12 rfl rfl rfl (by decide) inGX7 kw_285 ?_
    refine x_getI B (ci := 5) (k := 1) (lo := 0) (hi := 200) dX7_feed_15 rfl rfl rfl (by decide) inGX5 kw_125 rfl (fun z15 ez15 lz15 uz15 => ?_)
    refine x_goto B (tgt := 23) dX7_feed_18 (by decide) ?_
    exact r_i B R dX7_feed_23 (by rcases hz5 with h | h; (exact absurd h.1 c8); (exact Or.inr ⟨by rw [Is_e ez15, h.2.2, sto_eq], h.2.1, h.2.2⟩))
abbrev rm_X8_feed : Room := { frames := 0, cells := 0, slots := 0, locals := 0 }
theorem cs_X8_feed : Cv yX8_feed cX8_feed 4 (some .int) 1 := ⟨kw_947, ⟨kw_945, kw_946⟩, kw_67, by decide, by decide, by decide +kernel⟩
set_option maxHeartbeats 4000000 in
set_option maxRecDepth 100000 in
theorem c_X8_feed (l : Launch) (E : Ev) (M : Mem) (u : Int64)  : Ct l yX8_feed cX8_feed 4 (some .int) rm_X8_feed E M [.ref (E.1 (71)), .long u] (pI (fun z M' => z = -3 ∧ M' = M ∧ 200 < M 71 1 + 8 ∨ z = M 71 1 + 8 ∧ M 71 1 + 8 ≤ 200 ∧ M' = sto (fdM M 72 (M 71 1) u 8) 71 1 (M 71 1 + 8))) := by
  refine Ct_of (lv := [(0, .ref (E.1 (71))), (1, .long u)]) (by decide) ⟨rfl, rfl⟩ (Nat.le_of_ble_eq_true rfl) rfl (fun x _ B R => ?_)
  refine x_aload_n B dX8_feed_0 0 rfl rfl ?_
  refine x_getI B (ci := 8) (k := 1) (lo := 0) (hi := 200) dX8_feed_1 rfl rfl rfl (by decide) inGX8 kw_806 rfl (fun z1 ez1 lz1 uz1 => ?_)
  have e1 := Is_e ez1
  refine x_bipush B dX8_feed_4 rfl ?_
  refine x_iadd B dX8_feed_6 ?_
  refine x_sipush B dX8_feed_7 rfl ?_
  refine x_icmp_le B (tgt := 16) dX8_feed_10 (by decide) ⟨by omega, by omega⟩ ⟨by omega, by omega⟩ (fun c10 => ?_) (fun c10 => ?_)
  · show Vx x E M 16 [(0, .ref (E.1 (71))), (1, .long u)] []
    refine x_bipush B dX8_feed_16 rfl ?_
    refine x_istore_n B dX8_feed_18 [1, 2, 0] rfl (by decide) (lv' := [(0, .ref (E.1 (71))), (1, .long u), (3, .int (iI (56)))]) rfl ?_
    have L19 : ∀ (s : Int) (M1 : Mem), (-8 ≤ s ∧ s ≤ 56 ∧ s % 8 = 0 ∧ M1 = sto (fdM M 72 z1 u ((56 - s) / 8)) 71 1 (z1 + (56 - s) / 8)) → Vx x E M1 19 [(0, .ref (E.1 (71))), (1, .long u), (3, .int (iI (s)))] [] := by
      refine lo2 _ _ (fun s M1 => (s + 8).toNat) ?_
      intro s M1 hI ih19
      obtain ⟨i1, i2, i3, i4⟩ := hI
      refine x_iload_n B dX8_feed_19 2 rfl rfl ?_
      refine x_if_lt B (tgt := 56) dX8_feed_20 (by decide) ⟨by omega, by omega⟩ (fun c20 => ?_) (fun c20 => ?_)
      · show Vx x E M1 56 [(0, .ref (E.1 (71))), (1, .long u), (3, .int (iI (s)))] []
        refine x_aload_n B dX8_feed_56 0 rfl rfl ?_
        refine x_getI B (ci := 8) (k := 1) (lo := 0) (hi := 200) dX8_feed_57 rfl rfl rfl (by decide) inGX8 kw_806 rfl (fun z57 ez57 lz57 uz57 => ?_)
        exact r_i B R dX8_feed_60 (Or.inr ⟨by rw [Is_e ez57, i4, sto_eq, ← e1]; omega, by omega, by rw [i4, ← e1, show (56 - s) / 8 = 8 by omega]⟩)
      · show Vx x E M1 23 [(0, .ref (E.1 (71))), (1, .long u), (3, .int (iI (s)))] []
        refine x_aload_n B dX8_feed_23 0 rfl rfl ?_
        refine x_getR B (ci := 8) (k := 0) dX8_feed_24 rfl rfl rfl (by decide) inGX8 kw_805 ?_
        refine x_aload_n B dX8_feed_27 0 rfl rfl ?_
        refine x_getI B (ci := 8) (k := 1) (lo := 0) (hi := 200) dX8_feed_28 rfl rfl rfl (by decide) inGX8 kw_806 rfl (fun z28 ez28 lz28 uz28 => ?_)
        have e28 : z28 = z1 + (56 - s) / 8 := by rw [Is_e ez28, i4, sto_eq]
        refine x_lload_n B dX8_feed_31 1 rfl rfl ?_
        refine x_iload_n B dX8_feed_32 2 rfl rfl ?_
        refine x_byV B (by omega) (by omega) dX8_feed_33 dX8_feed_34 dX8_feed_35 dX8_feed_38 ?_
        refine x_iast B (lo := 0) (hi := 255) dX8_feed_39 rfl (by omega) (by omega) rfl fbS_in.1 fbS_in.2 ?_
        refine x_aload_n B dX8_feed_40 0 rfl rfl ?_
        refine x_dup B dX8_feed_41 rfl ?_
        refine x_getI B (ci := 8) (k := 1) (lo := 0) (hi := 200) dX8_feed_42 rfl rfl rfl (by decide) inGX8 kw_806 rfl (fun z42 ez42 lz42 uz42 => ?_)
        have e42 : z42 = z1 + (56 - s) / 8 := by rw [Is_e ez42, sto_ni _ _ _ _ (by decide), i4, sto_eq]
        refine x_iconst B dX8_feed_45 ?_
        refine x_iadd B dX8_feed_46 ?_
        refine x_put B (ci := 8) (k := 1) (lo := 0) (hi := 200) (ty := .int) dX8_feed_47 rfl rfl rfl (by decide) inGX8 tyX8_ok nmX8 kw_806 rfl (by decide +kernel) (nar_i _) (fit_i _) rfl (by omega) (by omega) ?_
        refine x_iinc B (q := 2) dX8_feed_50 rfl [1, 2, 0] (by decide) (lv' := [(0, .ref (E.1 (71))), (1, .long u), (3, .int (iI (s + -8)))]) rfl ?_
        refine x_goto B (tgt := 19) dX8_feed_53 (by decide) ?_
        exact ih19 (s + -8) (sto (sto M1 72 (z28).toNat (fbS u (s))) 71 1 (z42 + 1)) (⟨by omega, by omega, by omega, by have h := fdM_m (M := M) (n := z1) (j := (56 - s) / 8) (a := z1 + (56 - s) / 8) (b := z42 + 1) (u := u) (by omega) (by omega); rw [show 56 - 8 * ((56 - s) / 8) = s by omega] at h; rw [e28, i4, h, show (56 - (s + -8)) / 8 = (56 - s) / 8 + 1 by omega, e42, ← Int.add_assoc]⟩) (by omega)
    exact L19 56 M (⟨by omega, by omega, by omega, by rw [fdM_0 (by omega)]; exact (sto_self _ _ _ (by rw [← e1]; omega)).symm⟩)
  · show Vx x E M 13 [(0, .ref (E.1 (71))), (1, .long u)] []
    refine x_bipush B dX8_feed_13 rfl ?_
    exact r_i B R dX8_feed_15 (Or.inl ⟨rfl, rfl, by omega⟩)
