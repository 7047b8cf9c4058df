/-! ===== THE LAW'S LOOP ===== -/
/-- a number of the script -/
def sX (xs : Nat → Int32) (z : Int) : Int := (xs z.toNat).toInt
theorem sX_r (xs : Nat → Int32) (z : Int) : -2147483648 ≤ sX xs z ∧ sX xs z < 2147483648 := by
  have a := Int32.toInt_lt (xs z.toNat)
  have b := Int32.le_toInt (xs z.toNat)
  unfold sX
  omega
theorem sX_e (xs : Nat → Int32) (z : Int) : iI (sX xs z) = xs z.toNat := Int32.ofInt_toInt _
theorem and63i (a : Int) : iI a &&& iI 63 = iI (a % 64) := by
  apply Int32.toBitVec_inj.mp
  rw [Int32.toBitVec_and]
  apply BitVec.eq_of_toNat_eq
  have e1 : (iI a).toBitVec = BitVec.ofInt 32 a := rfl
  have e2 : (iI (a % 64)).toBitVec = BitVec.ofInt 32 (a % 64) := rfl
  rw [BitVec.toNat_and, show (iI 63).toBitVec = 63#32 by decide +kernel, e1, e2, BitVec.toNat_ofInt, BitVec.toNat_ofInt]
  show (a % 4294967296).toNat &&& 63 = (a % 64 % 4294967296).toNat
  rw [show (63 : Nat) = 2 ^ 6 - 1 from rfl, Nat.and_two_pow_sub_one_eq_mod]
  omega
def nz (v : Int) : Int := if v = 0 then 0 else 1
def uX (a b : Int) : Int64 := ((iI a).toInt64 <<< ((iI 32).toInt64 &&& 63)) ||| ((iI b).toInt64 &&& iL 4294967295)
/-- the script at its cell, which nothing writes -/
def Scr (x : Cx) (b L : Nat) (xs : Nat → Int32) : Prop := va_X b L xs x.2.1.1 x.2.1.1.heap ∧ b < x.2.1.1.heap.size ∧ ¬ x.2.2.2.2.1 b ∧ L ≤ 3584
section LAWROWS
variable {x : Cx} {E : Ev} {own : String} {cc : ByteArray} {n : Nat} {rm : Room} {M : Mem} {pc : Nat} {lv : List (Nat × Value)} {st : List Value} {b L : Nat} {xs : Nat → Int32}
theorem x_sld (B : Ok x E own cc n rm) (S : Scr x b L xs) {z : Int} (hd : decode cc pc = .ok (.iaload, 1)) (h0 : 0 ≤ z) (h1 : z < (L : Int)) (k : Vx x E M (pc + 1) lv (.int (iI (sX xs z)) :: st)) : Vx x E M pc lv (.int (iI z) :: .ref b :: st) := by
  intro hw H locs ls hP hS hl
  have hL := S.2.2.2
  have hr : Rg z := ⟨by omega, by omega⟩
  refine va_sld B.1 B.2.1 S.1 S.2.1 S.2.2.1 hS (i := iI z) ?_ hd ?_
  · intro q
    rcases q with q | q
    · have := (iI_lt hr Rg_0).mp q
      omega
    · rw [iI_cl hr] at q
      omega
  · rw [iI_cl hr, ← sX_e xs z]
    exact k hw H locs ls hP hS hl
theorem x_slen (B : Ok x E own cc n rm) (S : Scr x b L xs) (hd : decode cc pc = .ok (.arraylength, 1)) (k : Vx x E M (pc + 1) lv (.int (iI (L : Int)) :: st)) : Vx x E M pc lv (.ref b :: st) := by
  intro hw H locs ls hP hS hl
  refine va_slen B.1 B.2.1 S.1 S.2.1 S.2.2.1 hS hd ?_
  have h := k hw H locs ls hP hS hl
  rw [iI_nat] at h
  exact h
theorem x_and63 (B : Ok x E own cc n rm) {a : Int} (hd : decode cc pc = .ok (.iand, 1)) (k : Vx x E M (pc + 1) lv (.int (iI (a % 64)) :: st)) : Vx x E M pc lv (.int (iI 63) :: .int (iI a) :: st) := fun hw H locs ls hP hS hl => lv_iand B.1 B.2.1 hd (by rw [and63i]; exact k hw H locs ls hP hS hl)
theorem y_i2l (B : Ok x E own cc n rm) {u : Int32} (hd : decode cc pc = .ok (.i2l, 1)) (k : Vx x E M (pc + 1) lv (.long u.toInt64 :: st)) : Vx x E M pc lv (.int u :: st) := fun hw H locs ls hP hS hl => lv_i2l B.1 B.2.1 hd rfl (k hw H locs ls hP hS hl)
theorem y_lshl (B : Ok x E own cc n rm) {u : Int64} {y : Int32} (hd : decode cc pc = .ok (.lshl, 1)) (k : Vx x E M (pc + 1) lv (.long (u <<< (y.toInt64 &&& 63)) :: st)) : Vx x E M pc lv (.int y :: .long u :: st) := fun hw H locs ls hP hS hl => lv_lshl B.1 B.2.1 hd rfl (k hw H locs ls hP hS hl)
theorem y_land (B : Ok x E own cc n rm) {u v : Int64} (hd : decode cc pc = .ok (.land, 1)) (k : Vx x E M (pc + 1) lv (.long (u &&& v) :: st)) : Vx x E M pc lv (.long v :: .long u :: st) := fun hw H locs ls hP hS hl => lv_land B.1 B.2.1 hd (k hw H locs ls hP hS hl)
theorem y_lor (B : Ok x E own cc n rm) {u v : Int64} (hd : decode cc pc = .ok (.lor, 1)) (k : Vx x E M (pc + 1) lv (.long (u ||| v) :: st)) : Vx x E M pc lv (.long v :: .long u :: st) := fun hw H locs ls hP hS hl => lv_lor B.1 B.2.1 hd (k hw H locs ls hP hS hl)
theorem x_same (B : Ok x E own cc n rm) {a b' off : Int} {tgt : Nat} (hd : decode cc pc = .ok (.if_icmp .eq off, 3)) (ht : (pc : Int) + off = (tgt : Int)) (h : a = b') (k : Vx x E M tgt lv st) : Vx x E M pc lv (.int (iI b') :: .int (iI a) :: st) := fun hw H locs ls hP hS hl => lv_icmp_eq B.1 B.2.1 hd ht (fun _ => k hw H locs ls hP hS hl) (fun c => absurd (by rw [h]) c)
end LAWROWS
theorem pre_tenths {M M1 : Mem} {z1 sc n : Int} (hR : RR M) (h : z1 = -1 ∧ M1 = M ∧ ¬ (0 ≤ sc ∧ sc < 6 ∧ 1 ≤ n ∧ n ≤ 20) ∨ (0 ≤ sc ∧ sc < 6 ∧ 1 ≤ n ∧ n ≤ 20) ∧ z1 = ((bK (poB (tnC M sc n.toNat)) 16 : Nat) : Int) ∧ M1 0 13 = min 999 (M 0 13 + n * M 2 9) ∧ eqF (M1 13) (tnC M sc n.toNat) ∧ ∀ i j, i ≠ 13 → (i < 16 ∨ 57 ≤ i) → ¬ (i = 0 ∧ j = 13) → M1 i j = M i j) : Is (M1 71 26) 0 := by
  rcases h with ⟨a, b, c⟩ | ⟨a, b, c, d, e⟩
  · rw [b]
    exact hR.2.2.2.1
  · rw [e 71 26 (by decide) (by omega) (by omega)]
    exact hR.2.2.2.1
theorem pre_dead {M M1 : Mem} {z1 : Int} (hR : RR M) (h : z1 = ((ndf (dms M (M 57 4).toNat) (dfl M (M 57 4).toNat) : Nat) : Int) ∧ offC (unM M) M1 16 21) : Is (M1 71 26) 0 ∧ Is (M1 71 27) 0 := by
  have k := RR_keep hR (keep_un h.2)
  exact ⟨k.2.2.2.1, k.2.2.2.2.1⟩
set_option maxHeartbeats 8000000 in
set_option maxRecDepth 100000 in
theorem law_loop {x : Cx} {E : Ev} {M : Mem} {b L : Nat} {xs : Nat → Int32} (B : Ok x E "TongueSightLaw" cL_law 4 room_1) (S : Scr x b L xs) (hR : RR M) (hend : ∀ (N : Mem) (lv : List (Nat × Value)), Vx x E N 1407 lv [.int (iI 1)]) : Vx x E M 18 [(0, .ref b), (1, .ref (E.1 (0))), (2, .ref (E.1 (71))), (3, .int (iI (0)))] [] := by
  have hL := S.2.2.2
  have L18 : ∀ (i : Int) (N : Mem), (0 ≤ i ∧ i ≤ (L : Int) ∧ RR N) → Vx x E N 18 [(0, .ref b), (1, .ref (E.1 (0))), (2, .ref (E.1 (71))), (3, .int (iI (i)))] [] := by
    refine lo2 _ _ (fun i N => ((L : Int) - i).toNat) ?_
    intro i N hI ih18
    obtain ⟨i1, i2, i3⟩ := hI
    refine x_iload_n B dL_law_18 3 rfl rfl ?_
    refine x_aload_n B dL_law_19 0 rfl rfl ?_
    refine x_slen B S dL_law_20 ?_
    refine x_bipush B dL_law_21 rfl ?_
    refine x_isub B dL_law_23 ?_
    refine x_icmp_gt B (tgt := 1406) dL_law_24 (by decide) ⟨by omega, by omega⟩ ⟨by omega, by omega⟩ (fun c24 => ?_) (fun c24 => ?_)
    · show Vx x E N 1406 [(0, .ref b), (1, .ref (E.1 (0))), (2, .ref (E.1 (71))), (3, .int (iI (i)))] []
      refine x_iconst B dL_law_1406 ?_
      exact hend _ _
    · show Vx x E N 27 [(0, .ref b), (1, .ref (E.1 (0))), (2, .ref (E.1 (71))), (3, .int (iI (i)))] []
      refine x_aload_n B dL_law_27 0 rfl rfl ?_
      refine x_iload_n B dL_law_28 3 rfl rfl ?_
      refine x_sld B S dL_law_29 (by omega) (by omega) ?_
      refine x_bipush B dL_law_30 rfl ?_
      refine x_and63 B dL_law_32 ?_
      have r1 := sX_r xs (i + 1)
      have r2 := sX_r xs (i + 2)
      have r3 := sX_r xs (i + 3)
      have r4 := sX_r xs (i + 4)
      have r5 := sX_r xs (i + 5)
      have r6 := sX_r xs (i + 6)
      have r0 := sX_r xs i
      refine x_wf (fun hwN => ?_)
      rcases (show (((sX xs (i)) % 64) < 0 ∨ 35 < ((sX xs (i)) % 64)) ∨ ((sX xs (i)) % 64) = 0 ∨ ((sX xs (i)) % 64) = 1 ∨ ((sX xs (i)) % 64) = 2 ∨ ((sX xs (i)) % 64) = 3 ∨ ((sX xs (i)) % 64) = 4 ∨ ((sX xs (i)) % 64) = 5 ∨ ((sX xs (i)) % 64) = 6 ∨ ((sX xs (i)) % 64) = 7 ∨ ((sX xs (i)) % 64) = 8 ∨ ((sX xs (i)) % 64) = 9 ∨ ((sX xs (i)) % 64) = 10 ∨ ((sX xs (i)) % 64) = 11 ∨ ((sX xs (i)) % 64) = 12 ∨ ((sX xs (i)) % 64) = 13 ∨ ((sX xs (i)) % 64) = 14 ∨ ((sX xs (i)) % 64) = 15 ∨ ((sX xs (i)) % 64) = 16 ∨ ((sX xs (i)) % 64) = 17 ∨ ((sX xs (i)) % 64) = 18 ∨ ((sX xs (i)) % 64) = 19 ∨ ((sX xs (i)) % 64) = 20 ∨ ((sX xs (i)) % 64) = 21 ∨ ((sX xs (i)) % 64) = 22 ∨ ((sX xs (i)) % 64) = 23 ∨ ((sX xs (i)) % 64) = 24 ∨ ((sX xs (i)) % 64) = 25 ∨ ((sX xs (i)) % 64) = 26 ∨ ((sX xs (i)) % 64) = 27 ∨ ((sX xs (i)) % 64) = 28 ∨ ((sX xs (i)) % 64) = 29 ∨ ((sX xs (i)) % 64) = 30 ∨ ((sX xs (i)) % 64) = 31 ∨ ((sX xs (i)) % 64) = 32 ∨ ((sX xs (i)) % 64) = 33 ∨ ((sX xs (i)) % 64) = 34 ∨ ((sX xs (i)) % 64) = 35 by omega) with hsw | hsw | hsw | hsw | hsw | hsw | hsw | hsw | hsw | hsw | hsw | hsw | hsw | hsw | hsw | hsw | hsw | hsw | hsw | hsw | hsw | hsw | hsw | hsw | hsw | hsw | hsw | hsw | hsw | hsw | hsw | hsw | hsw | hsw | hsw | hsw | hsw
      · refine x_tabOut B (tgt := 1400) dL_law_33 ⟨by omega, by omega⟩ (by omega) (by decide) ?_
        refine x_iinc B (q := 3) dL_law_1400 rfl [1, 2, 3, 0] (by decide) (lv' := [(0, .ref b), (1, .ref (E.1 (0))), (2, .ref (E.1 (71))), (3, .int (iI (i + 7)))]) rfl ?_
        refine x_goto B (tgt := 18) dL_law_1403 (by decide) ?_
        exact ih18 (i + 7) N (⟨by omega, by omega, i3⟩) (by omega)
      · refine x_tabIn B (tgt := 192) 0 dL_law_33 ⟨by omega, by omega⟩ (by omega) (by omega) rfl (by decide) ?_
        refine x_aload_n B dL_law_192 1 rfl rfl ?_
        refine x_aload_n B dL_law_193 0 rfl rfl ?_
        refine x_iload_n B dL_law_194 3 rfl rfl ?_
        refine x_iconst B dL_law_195 ?_
        refine x_iadd B dL_law_196 ?_
        refine x_sld B S dL_law_197 (by omega) (by omega) ?_
        refine y_i2l B dL_law_198 ?_
        refine x_bipush B dL_law_199 rfl ?_
        refine y_lshl B dL_law_201 ?_
        refine x_aload_n B dL_law_202 0 rfl rfl ?_
        refine x_iload_n B dL_law_203 3 rfl rfl ?_
        refine x_iconst B dL_law_204 ?_
        refine x_iadd B dL_law_205 ?_
        refine x_sld B S dL_law_206 (by omega) (by omega) ?_
        refine y_i2l B dL_law_207 ?_
        refine x_ldc2 B (z := 4294967295) dL_law_208 kw_1232 rfl ?_
        refine y_land B dL_law_211 ?_
        refine y_lor B dL_law_212 ?_
        show Vx x E N 213 [(0, .ref b), (1, .ref (E.1 (0))), (2, .ref (E.1 (71))), (3, .int (iI (i)))] [.long (uX (sX xs (i + 1)) (sX xs (i + 2))), .ref (E.1 (0))]
        refine x_callV B (st := []) (av := [.long (uX (sX xs (i + 1)) (sX xs (i + 2)))]) dL_law_213 cs_X7_feed kw_329 ⟨rfl, rfl, Nat.le_of_ble_eq_true rfl, Nat.le_of_ble_eq_true rfl⟩ rfl rfl (Nat.le_of_ble_eq_true rfl) (rc_obj B (ci := 7) rfl rfl rfl) (c_X7_feed _ E _ (uX (sX xs (i + 1)) (sX xs (i + 2)))) (k_i (fun z213 M213 hz213 => ?_))
        refine x_aload_n B dL_law_216 2 rfl rfl ?_
        refine x_aload_n B dL_law_217 0 rfl rfl ?_
        refine x_iload_n B dL_law_218 3 rfl rfl ?_
        refine x_iconst B dL_law_219 ?_
        refine x_iadd B dL_law_220 ?_
        refine x_sld B S dL_law_221 (by omega) (by omega) ?_
        refine y_i2l B dL_law_222 ?_
        refine x_bipush B dL_law_223 rfl ?_
        refine y_lshl B dL_law_225 ?_
        refine x_aload_n B dL_law_226 0 rfl rfl ?_
        refine x_iload_n B dL_law_227 3 rfl rfl ?_
        refine x_iconst B dL_law_228 ?_
        refine x_iadd B dL_law_229 ?_
        refine x_sld B S dL_law_230 (by omega) (by omega) ?_
        refine y_i2l B dL_law_231 ?_
        refine x_ldc2 B (z := 4294967295) dL_law_232 kw_1232 rfl ?_
        refine y_land B dL_law_235 ?_
        refine y_lor B dL_law_236 ?_
        show Vx x E M213 237 [(0, .ref b), (1, .ref (E.1 (0))), (2, .ref (E.1 (71))), (3, .int (iI (i)))] [.long (uX (sX xs (i + 1)) (sX xs (i + 2))), .ref (E.1 (71)), .int (iI (z213))]
        refine x_callV B (st := [.int (iI (z213))]) (av := [.long (uX (sX xs (i + 1)) (sX xs (i + 2)))]) dL_law_237 cs_X8_feed kw_944 ⟨rfl, rfl, Nat.le_of_ble_eq_true rfl, Nat.le_of_ble_eq_true rfl⟩ rfl rfl (Nat.le_of_ble_eq_true rfl) (rc_obj B (ci := 8) rfl rfl rfl) (c_X8_feed _ E _ (uX (sX xs (i + 1)) (sX xs (i + 2)))) (k_i (fun z237 M237 hz237 => ?_))
        have hs := st_feed hwN i3 hz213 hz237
        refine x_same B (tgt := 1400) dL_law_240 (by decide) hs.1 ?_
        refine x_iinc B (q := 3) dL_law_1400 rfl [1, 2, 3, 0] (by decide) (lv' := [(0, .ref b), (1, .ref (E.1 (0))), (2, .ref (E.1 (71))), (3, .int (iI (i + 7)))]) rfl ?_
        refine x_goto B (tgt := 18) dL_law_1403 (by decide) ?_
        exact ih18 (i + 7) M237 (⟨by omega, by omega, hs.2⟩) (by omega)
      · refine x_tabIn B (tgt := 245) 1 dL_law_33 ⟨by omega, by omega⟩ (by omega) (by omega) rfl (by decide) ?_
        refine x_aload_n B dL_law_245 1 rfl rfl ?_
        refine x_aload_n B dL_law_246 0 rfl rfl ?_
        refine x_iload_n B dL_law_247 3 rfl rfl ?_
        refine x_iconst B dL_law_248 ?_
        refine x_iadd B dL_law_249 ?_
        refine x_sld B S dL_law_250 (by omega) (by omega) ?_
        refine x_callV B (st := []) (av := [.int (iI (sX xs (i + 1)))]) dL_law_251 cs_X7_end kw_337 ⟨rfl, rfl, Nat.le_of_ble_eq_true rfl, Nat.le_of_ble_eq_true rfl⟩ rfl rfl (Nat.le_of_ble_eq_true rfl) (rc_obj B (ci := 7) rfl rfl rfl) (c_X7_end _ E _ (sX xs (i + 1)) (by omega) (by omega)) (k_i (fun z251 M251 hz251 => ?_))
        refine x_aload_n B dL_law_254 2 rfl rfl ?_
        refine x_aload_n B dL_law_255 0 rfl rfl ?_
        refine x_iload_n B dL_law_256 3 rfl rfl ?_
        refine x_iconst B dL_law_257 ?_
        refine x_iadd B dL_law_258 ?_
        refine x_sld B S dL_law_259 (by omega) (by omega) ?_
        refine x_callV B (st := [.int (iI (z251))]) (av := [.int (iI (sX xs (i + 1)))]) dL_law_260 cs_X8_end kw_948 ⟨rfl, rfl, Nat.le_of_ble_eq_true rfl, Nat.le_of_ble_eq_true rfl⟩ rfl rfl (Nat.le_of_ble_eq_true rfl) (rc_obj B (ci := 8) rfl rfl rfl) (c_X8_end _ E _ (sX xs (i + 1)) (by omega) (by omega)) (k_i (fun z260 M260 hz260 => ?_))
        have hs := st_end hwN i3 hz251 hz260
        refine x_same B (tgt := 1400) dL_law_263 (by decide) hs.1 ?_
        refine x_iinc B (q := 3) dL_law_1400 rfl [1, 2, 3, 0] (by decide) (lv' := [(0, .ref b), (1, .ref (E.1 (0))), (2, .ref (E.1 (71))), (3, .int (iI (i + 7)))]) rfl ?_
        refine x_goto B (tgt := 18) dL_law_1403 (by decide) ?_
        exact ih18 (i + 7) M260 (⟨by omega, by omega, hs.2⟩) (by omega)
      · refine x_tabIn B (tgt := 268) 2 dL_law_33 ⟨by omega, by omega⟩ (by omega) (by omega) rfl (by decide) ?_
        refine x_aload_n B dL_law_268 1 rfl rfl ?_
        refine x_callV B (st := []) (av := []) dL_law_269 cs_X7_text kw_341 ⟨rfl, rfl, Nat.le_of_ble_eq_true rfl, Nat.le_of_ble_eq_true rfl⟩ rfl rfl (Nat.le_of_ble_eq_true rfl) (rc_obj B (ci := 7) rfl rfl rfl) (c_X7_text _ E _ ) (k_i (fun z269 M269 hz269 => ?_))
        refine x_aload_n B dL_law_272 2 rfl rfl ?_
        refine x_callV B (st := [.int (iI (z269))]) (av := []) dL_law_273 cs_X8_text kw_955 ⟨rfl, rfl, Nat.le_of_ble_eq_true rfl, Nat.le_of_ble_eq_true rfl⟩ rfl rfl (Nat.le_of_ble_eq_true rfl) (rc_obj B (ci := 8) rfl rfl rfl) (c_X8_text _ E _ ) (k_i (fun z273 M273 hz273 => ?_))
        have hs := st_text hwN i3 hz269 hz273
        refine x_same B (tgt := 1400) dL_law_276 (by decide) hs.1 ?_
        refine x_iinc B (q := 3) dL_law_1400 rfl [1, 2, 3, 0] (by decide) (lv' := [(0, .ref b), (1, .ref (E.1 (0))), (2, .ref (E.1 (71))), (3, .int (iI (i + 7)))]) rfl ?_
        refine x_goto B (tgt := 18) dL_law_1403 (by decide) ?_
        exact ih18 (i + 7) M273 (⟨by omega, by omega, hs.2⟩) (by omega)
      · refine x_tabIn B (tgt := 281) 3 dL_law_33 ⟨by omega, by omega⟩ (by omega) (by omega) rfl (by decide) ?_
        refine x_aload_n B dL_law_281 1 rfl rfl ?_
        refine x_callV B (st := []) (av := []) dL_law_282 cs_X7_fault kw_487 ⟨rfl, rfl, Nat.le_of_ble_eq_true rfl, Nat.le_of_ble_eq_true rfl⟩ rfl rfl (Nat.le_of_ble_eq_true rfl) (rc_obj B (ci := 7) rfl rfl rfl) (c_X7_fault _ E _ ) (k_i (fun z282 Mq hz282 => ?_))
        obtain ⟨rfl, hz282⟩ := hz282
        refine x_aload_n B dL_law_285 2 rfl rfl ?_
        refine x_callV B (st := [.int (iI (z282))]) (av := []) dL_law_286 cs_X8_fault kw_991 ⟨rfl, rfl, Nat.le_of_ble_eq_true rfl, Nat.le_of_ble_eq_true rfl⟩ rfl rfl (Nat.le_of_ble_eq_true rfl) (rc_obj B (ci := 8) rfl rfl rfl) (c_X8_fault _ E _ ) (k_i (fun z286 Mq hz286 => ?_))
        obtain ⟨rfl, hz286⟩ := hz286
        have hs := st_fault hwN i3 ⟨rfl, hz282⟩ ⟨rfl, hz286⟩
        refine x_same B (tgt := 1400) dL_law_289 (by decide) hs.1 ?_
        refine x_iinc B (q := 3) dL_law_1400 rfl [1, 2, 3, 0] (by decide) (lv' := [(0, .ref b), (1, .ref (E.1 (0))), (2, .ref (E.1 (71))), (3, .int (iI (i + 7)))]) rfl ?_
        refine x_goto B (tgt := 18) dL_law_1403 (by decide) ?_
        exact ih18 (i + 7) N (⟨by omega, by omega, hs.2⟩) (by omega)
      · refine x_tabIn B (tgt := 294) 4 dL_law_33 ⟨by omega, by omega⟩ (by omega) (by omega) rfl (by decide) ?_
        refine x_aload_n B dL_law_294 1 rfl rfl ?_
        refine x_aload_n B dL_law_295 0 rfl rfl ?_
        refine x_iload_n B dL_law_296 3 rfl rfl ?_
        refine x_iconst B dL_law_297 ?_
        refine x_iadd B dL_law_298 ?_
        refine x_sld B S dL_law_299 (by omega) (by omega) ?_
        refine x_callV B (st := []) (av := [.int (iI (sX xs (i + 1)))]) dL_law_300 cs_X7_rule kw_491 ⟨rfl, rfl, Nat.le_of_ble_eq_true rfl, Nat.le_of_ble_eq_true rfl⟩ rfl rfl (Nat.le_of_ble_eq_true rfl) (rc_obj B (ci := 7) rfl rfl rfl) (c_X7_rule _ E _ (sX xs (i + 1)) (by omega) (by omega)) (k_i (fun z300 Mq hz300 => ?_))
        obtain ⟨rfl, hz300⟩ := hz300
        refine x_aload_n B dL_law_303 2 rfl rfl ?_
        refine x_aload_n B dL_law_304 0 rfl rfl ?_
        refine x_iload_n B dL_law_305 3 rfl rfl ?_
        refine x_iconst B dL_law_306 ?_
        refine x_iadd B dL_law_307 ?_
        refine x_sld B S dL_law_308 (by omega) (by omega) ?_
        refine x_callV B (st := [.int (iI (z300))]) (av := [.int (iI (sX xs (i + 1)))]) dL_law_309 cs_X8_rule kw_995 ⟨rfl, rfl, Nat.le_of_ble_eq_true rfl, Nat.le_of_ble_eq_true rfl⟩ rfl rfl (Nat.le_of_ble_eq_true rfl) (rc_obj B (ci := 8) rfl rfl rfl) (c_X8_rule _ E _ (sX xs (i + 1)) (by omega) (by omega)) (k_i (fun z309 Mq hz309 => ?_))
        obtain ⟨rfl, hz309⟩ := hz309
        have hs := st_rule hwN i3 ⟨rfl, hz300⟩ ⟨rfl, hz309⟩
        refine x_same B (tgt := 1400) dL_law_312 (by decide) hs.1 ?_
        refine x_iinc B (q := 3) dL_law_1400 rfl [1, 2, 3, 0] (by decide) (lv' := [(0, .ref b), (1, .ref (E.1 (0))), (2, .ref (E.1 (71))), (3, .int (iI (i + 7)))]) rfl ?_
        refine x_goto B (tgt := 18) dL_law_1403 (by decide) ?_
        exact ih18 (i + 7) N (⟨by omega, by omega, hs.2⟩) (by omega)
      · refine x_tabIn B (tgt := 317) 5 dL_law_33 ⟨by omega, by omega⟩ (by omega) (by omega) rfl (by decide) ?_
        refine x_aload_n B dL_law_317 1 rfl rfl ?_
        refine x_aload_n B dL_law_318 0 rfl rfl ?_
        refine x_iload_n B dL_law_319 3 rfl rfl ?_
        refine x_iconst B dL_law_320 ?_
        refine x_iadd B dL_law_321 ?_
        refine x_sld B S dL_law_322 (by omega) (by omega) ?_
        refine x_aload_n B dL_law_323 0 rfl rfl ?_
        refine x_iload_n B dL_law_324 3 rfl rfl ?_
        refine x_iconst B dL_law_325 ?_
        refine x_iadd B dL_law_326 ?_
        refine x_sld B S dL_law_327 (by omega) (by omega) ?_
        refine x_aload_n B dL_law_328 0 rfl rfl ?_
        refine x_iload_n B dL_law_329 3 rfl rfl ?_
        refine x_iconst B dL_law_330 ?_
        refine x_iadd B dL_law_331 ?_
        refine x_sld B S dL_law_332 (by omega) (by omega) ?_
        refine x_callV B (st := []) (av := [.int (iI (sX xs (i + 1))), .int (iI (sX xs (i + 2))), .int (iI (sX xs (i + 3)))]) dL_law_333 cs_X7_light kw_498 ⟨rfl, rfl, Nat.le_of_ble_eq_true rfl, Nat.le_of_ble_eq_true rfl⟩ rfl rfl (Nat.le_of_ble_eq_true rfl) (rc_obj B (ci := 7) rfl rfl rfl) (c_X7_light _ E _ (sX xs (i + 1)) (sX xs (i + 2)) (sX xs (i + 3)) (by omega) (by omega) (by omega) (by omega) (by omega) (by omega)) (k_i (fun z333 M333 hz333 => ?_))
        refine x_aload_n B dL_law_336 2 rfl rfl ?_
        refine x_aload_n B dL_law_337 0 rfl rfl ?_
        refine x_iload_n B dL_law_338 3 rfl rfl ?_
        refine x_iconst B dL_law_339 ?_
        refine x_iadd B dL_law_340 ?_
        refine x_sld B S dL_law_341 (by omega) (by omega) ?_
        refine x_aload_n B dL_law_342 0 rfl rfl ?_
        refine x_iload_n B dL_law_343 3 rfl rfl ?_
        refine x_iconst B dL_law_344 ?_
        refine x_iadd B dL_law_345 ?_
        refine x_sld B S dL_law_346 (by omega) (by omega) ?_
        refine x_aload_n B dL_law_347 0 rfl rfl ?_
        refine x_iload_n B dL_law_348 3 rfl rfl ?_
        refine x_iconst B dL_law_349 ?_
        refine x_iadd B dL_law_350 ?_
        refine x_sld B S dL_law_351 (by omega) (by omega) ?_
        refine x_callV B (st := [.int (iI (z333))]) (av := [.int (iI (sX xs (i + 1))), .int (iI (sX xs (i + 2))), .int (iI (sX xs (i + 3)))]) dL_law_352 cs_X8_light kw_1002 ⟨rfl, rfl, Nat.le_of_ble_eq_true rfl, Nat.le_of_ble_eq_true rfl⟩ rfl rfl (Nat.le_of_ble_eq_true rfl) (rc_obj B (ci := 8) rfl rfl rfl) (c_X8_light _ E _ (sX xs (i + 1)) (sX xs (i + 2)) (sX xs (i + 3)) (by omega) (by omega) (by omega) (by omega) (by omega) (by omega)) (k_i (fun z352 M352 hz352 => ?_))
        have hs := st_light hwN i3 hz333 hz352
        refine x_same B (tgt := 1400) dL_law_355 (by decide) hs.1 ?_
        refine x_iinc B (q := 3) dL_law_1400 rfl [1, 2, 3, 0] (by decide) (lv' := [(0, .ref b), (1, .ref (E.1 (0))), (2, .ref (E.1 (71))), (3, .int (iI (i + 7)))]) rfl ?_
        refine x_goto B (tgt := 18) dL_law_1403 (by decide) ?_
        exact ih18 (i + 7) M352 (⟨by omega, by omega, hs.2⟩) (by omega)
      · refine x_tabIn B (tgt := 360) 6 dL_law_33 ⟨by omega, by omega⟩ (by omega) (by omega) rfl (by decide) ?_
        refine x_aload_n B dL_law_360 1 rfl rfl ?_
        refine x_aload_n B dL_law_361 0 rfl rfl ?_
        refine x_iload_n B dL_law_362 3 rfl rfl ?_
        refine x_iconst B dL_law_363 ?_
        refine x_iadd B dL_law_364 ?_
        refine x_sld B S dL_law_365 (by omega) (by omega) ?_
        refine x_aload_n B dL_law_366 0 rfl rfl ?_
        refine x_iload_n B dL_law_367 3 rfl rfl ?_
        refine x_iconst B dL_law_368 ?_
        refine x_iadd B dL_law_369 ?_
        refine x_sld B S dL_law_370 (by omega) (by omega) ?_
        refine x_callV B (st := []) (av := [.int (iI (sX xs (i + 1))), .int (iI (sX xs (i + 2)))]) dL_law_371 cs_X7_lightOf kw_502 ⟨rfl, rfl, Nat.le_of_ble_eq_true rfl, Nat.le_of_ble_eq_true rfl⟩ rfl rfl (Nat.le_of_ble_eq_true rfl) (rc_obj B (ci := 7) rfl rfl rfl) (c_X7_lightOf _ E _ (sX xs (i + 1)) (sX xs (i + 2)) (by omega) (by omega) (by omega) (by omega)) (k_i (fun z371 Mq hz371 => ?_))
        obtain ⟨rfl, hz371⟩ := hz371
        refine x_aload_n B dL_law_374 2 rfl rfl ?_
        refine x_aload_n B dL_law_375 0 rfl rfl ?_
        refine x_iload_n B dL_law_376 3 rfl rfl ?_
        refine x_iconst B dL_law_377 ?_
        refine x_iadd B dL_law_378 ?_
        refine x_sld B S dL_law_379 (by omega) (by omega) ?_
        refine x_aload_n B dL_law_380 0 rfl rfl ?_
        refine x_iload_n B dL_law_381 3 rfl rfl ?_
        refine x_iconst B dL_law_382 ?_
        refine x_iadd B dL_law_383 ?_
        refine x_sld B S dL_law_384 (by omega) (by omega) ?_
        refine x_callV B (st := [.int (iI (z371))]) (av := [.int (iI (sX xs (i + 1))), .int (iI (sX xs (i + 2)))]) dL_law_385 cs_X8_lightOf kw_1012 ⟨rfl, rfl, Nat.le_of_ble_eq_true rfl, Nat.le_of_ble_eq_true rfl⟩ rfl rfl (Nat.le_of_ble_eq_true rfl) (rc_obj B (ci := 8) rfl rfl rfl) (c_X8_lightOf _ E _ (sX xs (i + 1)) (sX xs (i + 2)) (by omega) (by omega) (by omega) (by omega)) (k_i (fun z385 Mq hz385 => ?_))
        obtain ⟨rfl, hz385⟩ := hz385
        have hs := st_lightOf hwN i3 ⟨rfl, hz371⟩ ⟨rfl, hz385⟩
        refine x_same B (tgt := 1400) dL_law_388 (by decide) hs.1 ?_
        refine x_iinc B (q := 3) dL_law_1400 rfl [1, 2, 3, 0] (by decide) (lv' := [(0, .ref b), (1, .ref (E.1 (0))), (2, .ref (E.1 (71))), (3, .int (iI (i + 7)))]) rfl ?_
        refine x_goto B (tgt := 18) dL_law_1403 (by decide) ?_
        exact ih18 (i + 7) N (⟨by omega, by omega, hs.2⟩) (by omega)
      · refine x_tabIn B (tgt := 393) 7 dL_law_33 ⟨by omega, by omega⟩ (by omega) (by omega) rfl (by decide) ?_
        refine x_aload_n B dL_law_393 1 rfl rfl ?_
        refine x_aload_n B dL_law_394 0 rfl rfl ?_
        refine x_iload_n B dL_law_395 3 rfl rfl ?_
        refine x_iconst B dL_law_396 ?_
        refine x_iadd B dL_law_397 ?_
        refine x_sld B S dL_law_398 (by omega) (by omega) ?_
        refine x_aload_n B dL_law_399 0 rfl rfl ?_
        refine x_iload_n B dL_law_400 3 rfl rfl ?_
        refine x_iconst B dL_law_401 ?_
        refine x_iadd B dL_law_402 ?_
        refine x_sld B S dL_law_403 (by omega) (by omega) ?_
        refine x_aload_n B dL_law_404 0 rfl rfl ?_
        refine x_iload_n B dL_law_405 3 rfl rfl ?_
        refine x_iconst B dL_law_406 ?_
        refine x_iadd B dL_law_407 ?_
        refine x_sld B S dL_law_408 (by omega) (by omega) ?_
        refine x_callV B (st := []) (av := [.int (iI (sX xs (i + 1))), .int (iI (sX xs (i + 2))), .int (iI (sX xs (i + 3)))]) dL_law_409 cs_X7_shift kw_506 ⟨rfl, rfl, Nat.le_of_ble_eq_true rfl, Nat.le_of_ble_eq_true rfl⟩ rfl rfl (Nat.le_of_ble_eq_true rfl) (rc_obj B (ci := 7) rfl rfl rfl) (c_X7_shift _ E _ (sX xs (i + 1)) (sX xs (i + 2)) (sX xs (i + 3)) (by omega) (by omega) (by omega) (by omega) (by omega) (by omega)) (k_i (fun z409 M409 hz409 => ?_))
        refine x_aload_n B dL_law_412 2 rfl rfl ?_
        refine x_aload_n B dL_law_413 0 rfl rfl ?_
        refine x_iload_n B dL_law_414 3 rfl rfl ?_
        refine x_iconst B dL_law_415 ?_
        refine x_iadd B dL_law_416 ?_
        refine x_sld B S dL_law_417 (by omega) (by omega) ?_
        refine x_aload_n B dL_law_418 0 rfl rfl ?_
        refine x_iload_n B dL_law_419 3 rfl rfl ?_
        refine x_iconst B dL_law_420 ?_
        refine x_iadd B dL_law_421 ?_
        refine x_sld B S dL_law_422 (by omega) (by omega) ?_
        refine x_aload_n B dL_law_423 0 rfl rfl ?_
        refine x_iload_n B dL_law_424 3 rfl rfl ?_
        refine x_iconst B dL_law_425 ?_
        refine x_iadd B dL_law_426 ?_
        refine x_sld B S dL_law_427 (by omega) (by omega) ?_
        refine x_callV B (st := [.int (iI (z409))]) (av := [.int (iI (sX xs (i + 1))), .int (iI (sX xs (i + 2))), .int (iI (sX xs (i + 3)))]) dL_law_428 cs_X8_shift kw_1016 ⟨rfl, rfl, Nat.le_of_ble_eq_true rfl, Nat.le_of_ble_eq_true rfl⟩ rfl rfl (Nat.le_of_ble_eq_true rfl) (rc_obj B (ci := 8) rfl rfl rfl) (c_X8_shift _ E _ (sX xs (i + 1)) (sX xs (i + 2)) (sX xs (i + 3)) (by omega) (by omega) (by omega) (by omega) (by omega) (by omega)) (k_i (fun z428 M428 hz428 => ?_))
        have hs := st_shift hwN i3 hz409 hz428
        refine x_same B (tgt := 1400) dL_law_431 (by decide) hs.1 ?_
        refine x_iinc B (q := 3) dL_law_1400 rfl [1, 2, 3, 0] (by decide) (lv' := [(0, .ref b), (1, .ref (E.1 (0))), (2, .ref (E.1 (71))), (3, .int (iI (i + 7)))]) rfl ?_
        refine x_goto B (tgt := 18) dL_law_1403 (by decide) ?_
        exact ih18 (i + 7) M428 (⟨by omega, by omega, hs.2⟩) (by omega)
      · refine x_tabIn B (tgt := 436) 8 dL_law_33 ⟨by omega, by omega⟩ (by omega) (by omega) rfl (by decide) ?_
        refine x_aload_n B dL_law_436 1 rfl rfl ?_
        refine x_aload_n B dL_law_437 0 rfl rfl ?_
        refine x_iload_n B dL_law_438 3 rfl rfl ?_
        refine x_iconst B dL_law_439 ?_
        refine x_iadd B dL_law_440 ?_
        refine x_sld B S dL_law_441 (by omega) (by omega) ?_
        refine x_callV B (st := []) (av := [.int (iI (sX xs (i + 1)))]) dL_law_442 cs_X7_place kw_510 ⟨rfl, rfl, Nat.le_of_ble_eq_true rfl, Nat.le_of_ble_eq_true rfl⟩ rfl rfl (Nat.le_of_ble_eq_true rfl) (rc_obj B (ci := 7) rfl rfl rfl) (c_X7_place _ E _ (sX xs (i + 1)) (by omega) (by omega)) (k_i (fun z442 M442 hz442 => ?_))
        refine x_aload_n B dL_law_445 2 rfl rfl ?_
        refine x_aload_n B dL_law_446 0 rfl rfl ?_
        refine x_iload_n B dL_law_447 3 rfl rfl ?_
        refine x_iconst B dL_law_448 ?_
        refine x_iadd B dL_law_449 ?_
        refine x_sld B S dL_law_450 (by omega) (by omega) ?_
        refine x_callV B (st := [.int (iI (z442))]) (av := [.int (iI (sX xs (i + 1)))]) dL_law_451 cs_X8_place kw_1021 ⟨rfl, rfl, Nat.le_of_ble_eq_true rfl, Nat.le_of_ble_eq_true rfl⟩ rfl rfl (Nat.le_of_ble_eq_true rfl) (rc_obj B (ci := 8) rfl rfl rfl) (c_X8_place _ E _ (sX xs (i + 1)) (by omega) (by omega)) (k_i (fun z451 M451 hz451 => ?_))
        have hs := st_place hwN i3 hz442 hz451
        refine x_same B (tgt := 1400) dL_law_454 (by decide) hs.1 ?_
        refine x_iinc B (q := 3) dL_law_1400 rfl [1, 2, 3, 0] (by decide) (lv' := [(0, .ref b), (1, .ref (E.1 (0))), (2, .ref (E.1 (71))), (3, .int (iI (i + 7)))]) rfl ?_
        refine x_goto B (tgt := 18) dL_law_1403 (by decide) ?_
        exact ih18 (i + 7) M451 (⟨by omega, by omega, hs.2⟩) (by omega)
      · refine x_tabIn B (tgt := 459) 9 dL_law_33 ⟨by omega, by omega⟩ (by omega) (by omega) rfl (by decide) ?_
        refine x_aload_n B dL_law_459 1 rfl rfl ?_
        refine x_aload_n B dL_law_460 0 rfl rfl ?_
        refine x_iload_n B dL_law_461 3 rfl rfl ?_
        refine x_iconst B dL_law_462 ?_
        refine x_iadd B dL_law_463 ?_
        refine x_sld B S dL_law_464 (by omega) (by omega) ?_
        refine x_aload_n B dL_law_465 0 rfl rfl ?_
        refine x_iload_n B dL_law_466 3 rfl rfl ?_
        refine x_iconst B dL_law_467 ?_
        refine x_iadd B dL_law_468 ?_
        refine x_sld B S dL_law_469 (by omega) (by omega) ?_
        refine x_callV B (st := []) (av := [.int (iI (sX xs (i + 1))), .int (iI (sX xs (i + 2)))]) dL_law_470 cs_X7_leads kw_514 ⟨rfl, rfl, Nat.le_of_ble_eq_true rfl, Nat.le_of_ble_eq_true rfl⟩ rfl rfl (Nat.le_of_ble_eq_true rfl) (rc_obj B (ci := 7) rfl rfl rfl) (c_X7_leads _ E _ (sX xs (i + 1)) (sX xs (i + 2)) (by omega) (by omega) (by omega) (by omega)) (k_i (fun z470 Mq hz470 => ?_))
        obtain ⟨rfl, hz470⟩ := hz470
        refine x_aload_n B dL_law_473 2 rfl rfl ?_
        refine x_aload_n B dL_law_474 0 rfl rfl ?_
        refine x_iload_n B dL_law_475 3 rfl rfl ?_
        refine x_iconst B dL_law_476 ?_
        refine x_iadd B dL_law_477 ?_
        refine x_sld B S dL_law_478 (by omega) (by omega) ?_
        refine x_aload_n B dL_law_479 0 rfl rfl ?_
        refine x_iload_n B dL_law_480 3 rfl rfl ?_
        refine x_iconst B dL_law_481 ?_
        refine x_iadd B dL_law_482 ?_
        refine x_sld B S dL_law_483 (by omega) (by omega) ?_
        refine x_callV B (st := [.int (iI (z470))]) (av := [.int (iI (sX xs (i + 1))), .int (iI (sX xs (i + 2)))]) dL_law_484 cs_X8_leads kw_1026 ⟨rfl, rfl, Nat.le_of_ble_eq_true rfl, Nat.le_of_ble_eq_true rfl⟩ rfl rfl (Nat.le_of_ble_eq_true rfl) (rc_obj B (ci := 8) rfl rfl rfl) (c_X8_leads _ E _ (sX xs (i + 1)) (sX xs (i + 2)) (by omega) (by omega) (by omega) (by omega)) (k_i (fun z484 Mq hz484 => ?_))
        obtain ⟨rfl, hz484⟩ := hz484
        have hs := st_leads hwN i3 ⟨rfl, hz470⟩ ⟨rfl, hz484⟩
        refine x_same B (tgt := 1400) dL_law_487 (by decide) hs.1 ?_
        refine x_iinc B (q := 3) dL_law_1400 rfl [1, 2, 3, 0] (by decide) (lv' := [(0, .ref b), (1, .ref (E.1 (0))), (2, .ref (E.1 (71))), (3, .int (iI (i + 7)))]) rfl ?_
        refine x_goto B (tgt := 18) dL_law_1403 (by decide) ?_
        exact ih18 (i + 7) N (⟨by omega, by omega, hs.2⟩) (by omega)
      · refine x_tabIn B (tgt := 492) 10 dL_law_33 ⟨by omega, by omega⟩ (by omega) (by omega) rfl (by decide) ?_
        refine x_aload_n B dL_law_492 1 rfl rfl ?_
        refine x_aload_n B dL_law_493 0 rfl rfl ?_
        refine x_iload_n B dL_law_494 3 rfl rfl ?_
        refine x_iconst B dL_law_495 ?_
        refine x_iadd B dL_law_496 ?_
        refine x_sld B S dL_law_497 (by omega) (by omega) ?_
        refine x_aload_n B dL_law_498 0 rfl rfl ?_
        refine x_iload_n B dL_law_499 3 rfl rfl ?_
        refine x_iconst B dL_law_500 ?_
        refine x_iadd B dL_law_501 ?_
        refine x_sld B S dL_law_502 (by omega) (by omega) ?_
        refine x_aload_n B dL_law_503 0 rfl rfl ?_
        refine x_iload_n B dL_law_504 3 rfl rfl ?_
        refine x_iconst B dL_law_505 ?_
        refine x_iadd B dL_law_506 ?_
        refine x_sld B S dL_law_507 (by omega) (by omega) ?_
        refine x_callV B (st := []) (av := [.int (iI (sX xs (i + 1))), .int (iI (sX xs (i + 2))), .int (iI (sX xs (i + 3)))]) dL_law_508 cs_X7_point kw_521 ⟨rfl, rfl, Nat.le_of_ble_eq_true rfl, Nat.le_of_ble_eq_true rfl⟩ rfl rfl (Nat.le_of_ble_eq_true rfl) (rc_obj B (ci := 7) rfl rfl rfl) (c_X7_point _ E _ (sX xs (i + 1)) (sX xs (i + 2)) (sX xs (i + 3)) (by omega) (by omega) (by omega) (by omega) (by omega) (by omega)) (k_i (fun z508 M508 hz508 => ?_))
        refine x_aload_n B dL_law_511 2 rfl rfl ?_
        refine x_aload_n B dL_law_512 0 rfl rfl ?_
        refine x_iload_n B dL_law_513 3 rfl rfl ?_
        refine x_iconst B dL_law_514 ?_
        refine x_iadd B dL_law_515 ?_
        refine x_sld B S dL_law_516 (by omega) (by omega) ?_
        refine x_aload_n B dL_law_517 0 rfl rfl ?_
        refine x_iload_n B dL_law_518 3 rfl rfl ?_
        refine x_iconst B dL_law_519 ?_
        refine x_iadd B dL_law_520 ?_
        refine x_sld B S dL_law_521 (by omega) (by omega) ?_
        refine x_aload_n B dL_law_522 0 rfl rfl ?_
        refine x_iload_n B dL_law_523 3 rfl rfl ?_
        refine x_iconst B dL_law_524 ?_
        refine x_iadd B dL_law_525 ?_
        refine x_sld B S dL_law_526 (by omega) (by omega) ?_
        refine x_callV B (st := [.int (iI (z508))]) (av := [.int (iI (sX xs (i + 1))), .int (iI (sX xs (i + 2))), .int (iI (sX xs (i + 3)))]) dL_law_527 cs_X8_point kw_1033 ⟨rfl, rfl, Nat.le_of_ble_eq_true rfl, Nat.le_of_ble_eq_true rfl⟩ rfl rfl (Nat.le_of_ble_eq_true rfl) (rc_obj B (ci := 8) rfl rfl rfl) (c_X8_point _ E _ (sX xs (i + 1)) (sX xs (i + 2)) (sX xs (i + 3)) (by omega) (by omega) (by omega) (by omega) (by omega) (by omega)) (k_i (fun z527 M527 hz527 => ?_))
        have hs := st_point hwN i3 hz508 hz527
        refine x_same B (tgt := 1400) dL_law_530 (by decide) hs.1 ?_
        refine x_iinc B (q := 3) dL_law_1400 rfl [1, 2, 3, 0] (by decide) (lv' := [(0, .ref b), (1, .ref (E.1 (0))), (2, .ref (E.1 (71))), (3, .int (iI (i + 7)))]) rfl ?_
        refine x_goto B (tgt := 18) dL_law_1403 (by decide) ?_
        exact ih18 (i + 7) M527 (⟨by omega, by omega, hs.2⟩) (by omega)
      · refine x_tabIn B (tgt := 535) 11 dL_law_33 ⟨by omega, by omega⟩ (by omega) (by omega) rfl (by decide) ?_
        refine x_aload_n B dL_law_535 1 rfl rfl ?_
        refine x_aload_n B dL_law_536 0 rfl rfl ?_
        refine x_iload_n B dL_law_537 3 rfl rfl ?_
        refine x_iconst B dL_law_538 ?_
        refine x_iadd B dL_law_539 ?_
        refine x_sld B S dL_law_540 (by omega) (by omega) ?_
        refine x_aload_n B dL_law_541 0 rfl rfl ?_
        refine x_iload_n B dL_law_542 3 rfl rfl ?_
        refine x_iconst B dL_law_543 ?_
        refine x_iadd B dL_law_544 ?_
        refine x_sld B S dL_law_545 (by omega) (by omega) ?_
        refine x_callV B (st := []) (av := [.int (iI (sX xs (i + 1))), .int (iI (sX xs (i + 2)))]) dL_law_546 cs_X7_feels kw_572 ⟨rfl, rfl, Nat.le_of_ble_eq_true rfl, Nat.le_of_ble_eq_true rfl⟩ rfl rfl (Nat.le_of_ble_eq_true rfl) (rc_obj B (ci := 7) rfl rfl rfl) (c_X7_feels _ E _ (sX xs (i + 1)) (sX xs (i + 2)) (by omega) (by omega) (by omega) (by omega)) (k_i (fun z546 M546 hz546 => ?_))
        refine x_aload_n B dL_law_549 2 rfl rfl ?_
        refine x_aload_n B dL_law_550 0 rfl rfl ?_
        refine x_iload_n B dL_law_551 3 rfl rfl ?_
        refine x_iconst B dL_law_552 ?_
        refine x_iadd B dL_law_553 ?_
        refine x_sld B S dL_law_554 (by omega) (by omega) ?_
        refine x_aload_n B dL_law_555 0 rfl rfl ?_
        refine x_iload_n B dL_law_556 3 rfl rfl ?_
        refine x_iconst B dL_law_557 ?_
        refine x_iadd B dL_law_558 ?_
        refine x_sld B S dL_law_559 (by omega) (by omega) ?_
        refine x_callV B (st := [.int (iI (z546))]) (av := [.int (iI (sX xs (i + 1))), .int (iI (sX xs (i + 2)))]) dL_law_560 cs_X8_feels kw_1072 ⟨rfl, rfl, Nat.le_of_ble_eq_true rfl, Nat.le_of_ble_eq_true rfl⟩ rfl rfl (Nat.le_of_ble_eq_true rfl) (rc_obj B (ci := 8) rfl rfl rfl) (c_X8_feels _ E _ (sX xs (i + 1)) (sX xs (i + 2)) (by omega) (by omega) (by omega) (by omega)) (k_i (fun z560 M560 hz560 => ?_))
        have hs := st_feels hwN i3 hz546 hz560
        refine x_same B (tgt := 1400) dL_law_563 (by decide) hs.1 ?_
        refine x_iinc B (q := 3) dL_law_1400 rfl [1, 2, 3, 0] (by decide) (lv' := [(0, .ref b), (1, .ref (E.1 (0))), (2, .ref (E.1 (71))), (3, .int (iI (i + 7)))]) rfl ?_
        refine x_goto B (tgt := 18) dL_law_1403 (by decide) ?_
        exact ih18 (i + 7) M560 (⟨by omega, by omega, hs.2⟩) (by omega)
      · refine x_tabIn B (tgt := 568) 12 dL_law_33 ⟨by omega, by omega⟩ (by omega) (by omega) rfl (by decide) ?_
        refine x_aload_n B dL_law_568 1 rfl rfl ?_
        refine x_aload_n B dL_law_569 0 rfl rfl ?_
        refine x_iload_n B dL_law_570 3 rfl rfl ?_
        refine x_iconst B dL_law_571 ?_
        refine x_iadd B dL_law_572 ?_
        refine x_sld B S dL_law_573 (by omega) (by omega) ?_
        refine x_aload_n B dL_law_574 0 rfl rfl ?_
        refine x_iload_n B dL_law_575 3 rfl rfl ?_
        refine x_iconst B dL_law_576 ?_
        refine x_iadd B dL_law_577 ?_
        refine x_sld B S dL_law_578 (by omega) (by omega) ?_
        refine x_callV B (st := []) (av := [.int (iI (sX xs (i + 1))), .int (iI (sX xs (i + 2)))]) dL_law_579 cs_X7_tenths kw_582 ⟨rfl, rfl, Nat.le_of_ble_eq_true rfl, Nat.le_of_ble_eq_true rfl⟩ rfl rfl (Nat.le_of_ble_eq_true rfl) (rc_obj B (ci := 7) rfl rfl rfl) (c_X7_tenths _ E _ (sX xs (i + 1)) (sX xs (i + 2)) (by omega) (by omega) (by omega) (by omega)) (k_i (fun z579 M579 hz579 => ?_))
        refine x_aload_n B dL_law_582 2 rfl rfl ?_
        refine x_aload_n B dL_law_583 0 rfl rfl ?_
        refine x_iload_n B dL_law_584 3 rfl rfl ?_
        refine x_iconst B dL_law_585 ?_
        refine x_iadd B dL_law_586 ?_
        refine x_sld B S dL_law_587 (by omega) (by omega) ?_
        refine x_aload_n B dL_law_588 0 rfl rfl ?_
        refine x_iload_n B dL_law_589 3 rfl rfl ?_
        refine x_iconst B dL_law_590 ?_
        refine x_iadd B dL_law_591 ?_
        refine x_sld B S dL_law_592 (by omega) (by omega) ?_
        refine x_callV B (st := [.int (iI (z579))]) (av := [.int (iI (sX xs (i + 1))), .int (iI (sX xs (i + 2)))]) dL_law_593 cs_X8_tenths kw_1081 ⟨rfl, rfl, Nat.le_of_ble_eq_true rfl, Nat.le_of_ble_eq_true rfl⟩ rfl rfl (Nat.le_of_ble_eq_true rfl) (rc_obj B (ci := 8) rfl rfl rfl) (c_X8_tenths _ E _ (sX xs (i + 1)) (sX xs (i + 2)) (by omega) (by omega) (by omega) (by omega) (pre_tenths i3 hz579)) (k_i (fun z593 M593 hz593 => ?_))
        have hs := st_tenths hwN i3 hz579 hz593
        refine x_same B (tgt := 1400) dL_law_596 (by decide) hs.1 ?_
        refine x_iinc B (q := 3) dL_law_1400 rfl [1, 2, 3, 0] (by decide) (lv' := [(0, .ref b), (1, .ref (E.1 (0))), (2, .ref (E.1 (71))), (3, .int (iI (i + 7)))]) rfl ?_
        refine x_goto B (tgt := 18) dL_law_1403 (by decide) ?_
        exact ih18 (i + 7) M593 (⟨by omega, by omega, hs.2⟩) (by omega)
      · refine x_tabIn B (tgt := 601) 13 dL_law_33 ⟨by omega, by omega⟩ (by omega) (by omega) rfl (by decide) ?_
        refine x_aload_n B dL_law_601 1 rfl rfl ?_
        refine x_aload_n B dL_law_602 0 rfl rfl ?_
        refine x_iload_n B dL_law_603 3 rfl rfl ?_
        refine x_iconst B dL_law_604 ?_
        refine x_iadd B dL_law_605 ?_
        refine x_sld B S dL_law_606 (by omega) (by omega) ?_
        refine x_callV B (st := []) (av := [.int (iI (sX xs (i + 1)))]) dL_law_607 cs_X7_tired kw_596 ⟨rfl, rfl, Nat.le_of_ble_eq_true rfl, Nat.le_of_ble_eq_true rfl⟩ rfl rfl (Nat.le_of_ble_eq_true rfl) (rc_obj B (ci := 7) rfl rfl rfl) (c_X7_tired _ E _ (sX xs (i + 1)) (by omega) (by omega)) (k_i (fun z607 Mq hz607 => ?_))
        obtain ⟨rfl, hz607⟩ := hz607
        refine x_aload_n B dL_law_610 2 rfl rfl ?_
        refine x_aload_n B dL_law_611 0 rfl rfl ?_
        refine x_iload_n B dL_law_612 3 rfl rfl ?_
        refine x_iconst B dL_law_613 ?_
        refine x_iadd B dL_law_614 ?_
        refine x_sld B S dL_law_615 (by omega) (by omega) ?_
        refine x_callV B (st := [.int (iI (z607))]) (av := [.int (iI (sX xs (i + 1)))]) dL_law_616 cs_X8_tired kw_1093 ⟨rfl, rfl, Nat.le_of_ble_eq_true rfl, Nat.le_of_ble_eq_true rfl⟩ rfl rfl (Nat.le_of_ble_eq_true rfl) (rc_obj B (ci := 8) rfl rfl rfl) (c_X8_tired _ E _ (sX xs (i + 1)) (by omega) (by omega)) (k_i (fun z616 Mq hz616 => ?_))
        obtain ⟨rfl, hz616⟩ := hz616
        have hs := st_tired hwN i3 ⟨rfl, hz607⟩ ⟨rfl, hz616⟩
        refine x_same B (tgt := 1400) dL_law_619 (by decide) hs.1 ?_
        refine x_iinc B (q := 3) dL_law_1400 rfl [1, 2, 3, 0] (by decide) (lv' := [(0, .ref b), (1, .ref (E.1 (0))), (2, .ref (E.1 (71))), (3, .int (iI (i + 7)))]) rfl ?_
        refine x_goto B (tgt := 18) dL_law_1403 (by decide) ?_
        exact ih18 (i + 7) N (⟨by omega, by omega, hs.2⟩) (by omega)
      · refine x_tabIn B (tgt := 624) 14 dL_law_33 ⟨by omega, by omega⟩ (by omega) (by omega) rfl (by decide) ?_
        refine x_aload_n B dL_law_624 1 rfl rfl ?_
        refine x_callV B (st := []) (av := []) dL_law_625 cs_X7_rest kw_600 ⟨rfl, rfl, Nat.le_of_ble_eq_true rfl, Nat.le_of_ble_eq_true rfl⟩ rfl rfl (Nat.le_of_ble_eq_true rfl) (rc_obj B (ci := 7) rfl rfl rfl) (c_X7_rest _ E _ ) (k_i (fun z625 M625 hz625 => ?_))
        refine x_aload_n B dL_law_628 2 rfl rfl ?_
        refine x_callV B (st := [.int (iI (z625))]) (av := []) dL_law_629 cs_X8_rest kw_1097 ⟨rfl, rfl, Nat.le_of_ble_eq_true rfl, Nat.le_of_ble_eq_true rfl⟩ rfl rfl (Nat.le_of_ble_eq_true rfl) (rc_obj B (ci := 8) rfl rfl rfl) (c_X8_rest _ E _ ) (k_i (fun z629 M629 hz629 => ?_))
        have hs := st_rest hwN i3 hz625 hz629
        refine x_same B (tgt := 1400) dL_law_632 (by decide) hs.1 ?_
        refine x_iinc B (q := 3) dL_law_1400 rfl [1, 2, 3, 0] (by decide) (lv' := [(0, .ref b), (1, .ref (E.1 (0))), (2, .ref (E.1 (71))), (3, .int (iI (i + 7)))]) rfl ?_
        refine x_goto B (tgt := 18) dL_law_1403 (by decide) ?_
        exact ih18 (i + 7) M629 (⟨by omega, by omega, hs.2⟩) (by omega)
      · refine x_tabIn B (tgt := 637) 15 dL_law_33 ⟨by omega, by omega⟩ (by omega) (by omega) rfl (by decide) ?_
        refine x_aload_n B dL_law_637 1 rfl rfl ?_
        refine x_aload_n B dL_law_638 0 rfl rfl ?_
        refine x_iload_n B dL_law_639 3 rfl rfl ?_
        refine x_iconst B dL_law_640 ?_
        refine x_iadd B dL_law_641 ?_
        refine x_sld B S dL_law_642 (by omega) (by omega) ?_
        refine x_aload_n B dL_law_643 0 rfl rfl ?_
        refine x_iload_n B dL_law_644 3 rfl rfl ?_
        refine x_iconst B dL_law_645 ?_
        refine x_iadd B dL_law_646 ?_
        refine x_sld B S dL_law_647 (by omega) (by omega) ?_
        refine x_callV B (st := []) (av := [.int (iI (sX xs (i + 1))), .int (iI (sX xs (i + 2)))]) dL_law_648 cs_X7_alike kw_605 ⟨rfl, rfl, Nat.le_of_ble_eq_true rfl, Nat.le_of_ble_eq_true rfl⟩ rfl rfl (Nat.le_of_ble_eq_true rfl) (rc_obj B (ci := 7) rfl rfl rfl) (c_X7_alike _ E _ (sX xs (i + 1)) (sX xs (i + 2)) (by omega) (by omega) (by omega) (by omega)) (k_i (fun z648 M648 hz648 => ?_))
        refine x_aload_n B dL_law_651 2 rfl rfl ?_
        refine x_aload_n B dL_law_652 0 rfl rfl ?_
        refine x_iload_n B dL_law_653 3 rfl rfl ?_
        refine x_iconst B dL_law_654 ?_
        refine x_iadd B dL_law_655 ?_
        refine x_sld B S dL_law_656 (by omega) (by omega) ?_
        refine x_aload_n B dL_law_657 0 rfl rfl ?_
        refine x_iload_n B dL_law_658 3 rfl rfl ?_
        refine x_iconst B dL_law_659 ?_
        refine x_iadd B dL_law_660 ?_
        refine x_sld B S dL_law_661 (by omega) (by omega) ?_
        refine x_callV B (st := [.int (iI (z648))]) (av := [.int (iI (sX xs (i + 1))), .int (iI (sX xs (i + 2)))]) dL_law_662 cs_X8_alike kw_1101 ⟨rfl, rfl, Nat.le_of_ble_eq_true rfl, Nat.le_of_ble_eq_true rfl⟩ rfl rfl (Nat.le_of_ble_eq_true rfl) (rc_obj B (ci := 8) rfl rfl rfl) (c_X8_alike _ E _ (sX xs (i + 1)) (sX xs (i + 2)) (by omega) (by omega) (by omega) (by omega)) (k_i (fun z662 M662 hz662 => ?_))
        have hs := st_alike hwN i3 hz648 hz662
        refine x_same B (tgt := 1400) dL_law_665 (by decide) hs.1 ?_
        refine x_iinc B (q := 3) dL_law_1400 rfl [1, 2, 3, 0] (by decide) (lv' := [(0, .ref b), (1, .ref (E.1 (0))), (2, .ref (E.1 (71))), (3, .int (iI (i + 7)))]) rfl ?_
        refine x_goto B (tgt := 18) dL_law_1403 (by decide) ?_
        exact ih18 (i + 7) M662 (⟨by omega, by omega, hs.2⟩) (by omega)
      · refine x_tabIn B (tgt := 670) 16 dL_law_33 ⟨by omega, by omega⟩ (by omega) (by omega) rfl (by decide) ?_
        refine x_aload_n B dL_law_670 1 rfl rfl ?_
        refine x_aload_n B dL_law_671 0 rfl rfl ?_
        refine x_iload_n B dL_law_672 3 rfl rfl ?_
        refine x_iconst B dL_law_673 ?_
        refine x_iadd B dL_law_674 ?_
        refine x_sld B S dL_law_675 (by omega) (by omega) ?_
        refine x_aload_n B dL_law_676 0 rfl rfl ?_
        refine x_iload_n B dL_law_677 3 rfl rfl ?_
        refine x_iconst B dL_law_678 ?_
        refine x_iadd B dL_law_679 ?_
        refine x_sld B S dL_law_680 (by omega) (by omega) ?_
        refine x_aload_n B dL_law_681 0 rfl rfl ?_
        refine x_iload_n B dL_law_682 3 rfl rfl ?_
        refine x_iconst B dL_law_683 ?_
        refine x_iadd B dL_law_684 ?_
        refine x_sld B S dL_law_685 (by omega) (by omega) ?_
        refine x_callV B (st := []) (av := [.int (iI (sX xs (i + 1))), .int (iI (sX xs (i + 2))), .int (iI (sX xs (i + 3)))]) dL_law_686 cs_X7_parted kw_617 ⟨rfl, rfl, Nat.le_of_ble_eq_true rfl, Nat.le_of_ble_eq_true rfl⟩ rfl rfl (Nat.le_of_ble_eq_true rfl) (rc_obj B (ci := 7) rfl rfl rfl) (c_X7_parted _ E _ (sX xs (i + 1)) (sX xs (i + 2)) (sX xs (i + 3)) (by omega) (by omega) (by omega) (by omega) (by omega) (by omega)) (k_i (fun z686 M686 hz686 => ?_))
        refine x_aload_n B dL_law_689 2 rfl rfl ?_
        refine x_aload_n B dL_law_690 0 rfl rfl ?_
        refine x_iload_n B dL_law_691 3 rfl rfl ?_
        refine x_iconst B dL_law_692 ?_
        refine x_iadd B dL_law_693 ?_
        refine x_sld B S dL_law_694 (by omega) (by omega) ?_
        refine x_aload_n B dL_law_695 0 rfl rfl ?_
        refine x_iload_n B dL_law_696 3 rfl rfl ?_
        refine x_iconst B dL_law_697 ?_
        refine x_iadd B dL_law_698 ?_
        refine x_sld B S dL_law_699 (by omega) (by omega) ?_
        refine x_aload_n B dL_law_700 0 rfl rfl ?_
        refine x_iload_n B dL_law_701 3 rfl rfl ?_
        refine x_iconst B dL_law_702 ?_
        refine x_iadd B dL_law_703 ?_
        refine x_sld B S dL_law_704 (by omega) (by omega) ?_
        refine x_callV B (st := [.int (iI (z686))]) (av := [.int (iI (sX xs (i + 1))), .int (iI (sX xs (i + 2))), .int (iI (sX xs (i + 3)))]) dL_law_705 cs_X8_parted kw_1109 ⟨rfl, rfl, Nat.le_of_ble_eq_true rfl, Nat.le_of_ble_eq_true rfl⟩ rfl rfl (Nat.le_of_ble_eq_true rfl) (rc_obj B (ci := 8) rfl rfl rfl) (c_X8_parted _ E _ (sX xs (i + 1)) (sX xs (i + 2)) (sX xs (i + 3)) (by omega) (by omega) (by omega) (by omega) (by omega) (by omega)) (k_i (fun z705 M705 hz705 => ?_))
        have hs := st_parted hwN i3 hz686 hz705
        refine x_same B (tgt := 1400) dL_law_708 (by decide) hs.1 ?_
        refine x_iinc B (q := 3) dL_law_1400 rfl [1, 2, 3, 0] (by decide) (lv' := [(0, .ref b), (1, .ref (E.1 (0))), (2, .ref (E.1 (71))), (3, .int (iI (i + 7)))]) rfl ?_
        refine x_goto B (tgt := 18) dL_law_1403 (by decide) ?_
        exact ih18 (i + 7) M705 (⟨by omega, by omega, hs.2⟩) (by omega)
      · refine x_tabIn B (tgt := 713) 17 dL_law_33 ⟨by omega, by omega⟩ (by omega) (by omega) rfl (by decide) ?_
        refine x_aload_n B dL_law_713 1 rfl rfl ?_
        refine x_aload_n B dL_law_714 0 rfl rfl ?_
        refine x_iload_n B dL_law_715 3 rfl rfl ?_
        refine x_iconst B dL_law_716 ?_
        refine x_iadd B dL_law_717 ?_
        refine x_sld B S dL_law_718 (by omega) (by omega) ?_
        refine x_aload_n B dL_law_719 0 rfl rfl ?_
        refine x_iload_n B dL_law_720 3 rfl rfl ?_
        refine x_iconst B dL_law_721 ?_
        refine x_iadd B dL_law_722 ?_
        refine x_sld B S dL_law_723 (by omega) (by omega) ?_
        refine x_aload_n B dL_law_724 0 rfl rfl ?_
        refine x_iload_n B dL_law_725 3 rfl rfl ?_
        refine x_iconst B dL_law_726 ?_
        refine x_iadd B dL_law_727 ?_
        refine x_sld B S dL_law_728 (by omega) (by omega) ?_
        refine x_callV B (st := []) (av := [.int (iI (sX xs (i + 1))), .int (iI (sX xs (i + 2))), .int (iI (sX xs (i + 3)))]) dL_law_729 cs_X7_right kw_639 ⟨rfl, rfl, Nat.le_of_ble_eq_true rfl, Nat.le_of_ble_eq_true rfl⟩ rfl rfl (Nat.le_of_ble_eq_true rfl) (rc_obj B (ci := 7) rfl rfl rfl) (c_X7_right _ E _ (sX xs (i + 1)) (sX xs (i + 2)) (sX xs (i + 3)) (by omega) (by omega) (by omega) (by omega) (by omega) (by omega)) (k_i (fun z729 M729 hz729 => ?_))
        refine x_aload_n B dL_law_732 2 rfl rfl ?_
        refine x_aload_n B dL_law_733 0 rfl rfl ?_
        refine x_iload_n B dL_law_734 3 rfl rfl ?_
        refine x_iconst B dL_law_735 ?_
        refine x_iadd B dL_law_736 ?_
        refine x_sld B S dL_law_737 (by omega) (by omega) ?_
        refine x_aload_n B dL_law_738 0 rfl rfl ?_
        refine x_iload_n B dL_law_739 3 rfl rfl ?_
        refine x_iconst B dL_law_740 ?_
        refine x_iadd B dL_law_741 ?_
        refine x_sld B S dL_law_742 (by omega) (by omega) ?_
        refine x_aload_n B dL_law_743 0 rfl rfl ?_
        refine x_iload_n B dL_law_744 3 rfl rfl ?_
        refine x_iconst B dL_law_745 ?_
        refine x_iadd B dL_law_746 ?_
        refine x_sld B S dL_law_747 (by omega) (by omega) ?_
        refine x_callV B (st := [.int (iI (z729))]) (av := [.int (iI (sX xs (i + 1))), .int (iI (sX xs (i + 2))), .int (iI (sX xs (i + 3)))]) dL_law_748 cs_X8_right kw_1117 ⟨rfl, rfl, Nat.le_of_ble_eq_true rfl, Nat.le_of_ble_eq_true rfl⟩ rfl rfl (Nat.le_of_ble_eq_true rfl) (rc_obj B (ci := 8) rfl rfl rfl) (c_X8_right _ E _ (sX xs (i + 1)) (sX xs (i + 2)) (sX xs (i + 3)) (by omega) (by omega) (by omega) (by omega) (by omega) (by omega)) (k_i (fun z748 M748 hz748 => ?_))
        have hs := st_right hwN i3 hz729 hz748
        refine x_same B (tgt := 1400) dL_law_751 (by decide) hs.1 ?_
        refine x_iinc B (q := 3) dL_law_1400 rfl [1, 2, 3, 0] (by decide) (lv' := [(0, .ref b), (1, .ref (E.1 (0))), (2, .ref (E.1 (71))), (3, .int (iI (i + 7)))]) rfl ?_
        refine x_goto B (tgt := 18) dL_law_1403 (by decide) ?_
        exact ih18 (i + 7) M748 (⟨by omega, by omega, hs.2⟩) (by omega)
      · refine x_tabIn B (tgt := 756) 18 dL_law_33 ⟨by omega, by omega⟩ (by omega) (by omega) rfl (by decide) ?_
        refine x_aload_n B dL_law_756 1 rfl rfl ?_
        refine x_aload_n B dL_law_757 0 rfl rfl ?_
        refine x_iload_n B dL_law_758 3 rfl rfl ?_
        refine x_iconst B dL_law_759 ?_
        refine x_iadd B dL_law_760 ?_
        refine x_sld B S dL_law_761 (by omega) (by omega) ?_
        refine x_callV B (st := []) (av := [.int (iI (sX xs (i + 1)))]) dL_law_762 cs_X7_needs kw_681 ⟨rfl, rfl, Nat.le_of_ble_eq_true rfl, Nat.le_of_ble_eq_true rfl⟩ rfl rfl (Nat.le_of_ble_eq_true rfl) (rc_obj B (ci := 7) rfl rfl rfl) (c_X7_needs _ E _ (sX xs (i + 1)) (by omega) (by omega)) (k_i (fun z762 M762 hz762 => ?_))
        refine x_aload_n B dL_law_765 2 rfl rfl ?_
        refine x_aload_n B dL_law_766 0 rfl rfl ?_
        refine x_iload_n B dL_law_767 3 rfl rfl ?_
        refine x_iconst B dL_law_768 ?_
        refine x_iadd B dL_law_769 ?_
        refine x_sld B S dL_law_770 (by omega) (by omega) ?_
        refine x_callV B (st := [.int (iI (z762))]) (av := [.int (iI (sX xs (i + 1)))]) dL_law_771 cs_X8_needs kw_1136 ⟨rfl, rfl, Nat.le_of_ble_eq_true rfl, Nat.le_of_ble_eq_true rfl⟩ rfl rfl (Nat.le_of_ble_eq_true rfl) (rc_obj B (ci := 8) rfl rfl rfl) (c_X8_needs _ E _ (sX xs (i + 1)) (by omega) (by omega)) (k_i (fun z771 M771 hz771 => ?_))
        have hs := st_needs hwN i3 hz762 hz771
        refine x_same B (tgt := 1400) dL_law_774 (by decide) hs.1 ?_
        refine x_iinc B (q := 3) dL_law_1400 rfl [1, 2, 3, 0] (by decide) (lv' := [(0, .ref b), (1, .ref (E.1 (0))), (2, .ref (E.1 (71))), (3, .int (iI (i + 7)))]) rfl ?_
        refine x_goto B (tgt := 18) dL_law_1403 (by decide) ?_
        exact ih18 (i + 7) M771 (⟨by omega, by omega, hs.2⟩) (by omega)
      · refine x_tabIn B (tgt := 779) 19 dL_law_33 ⟨by omega, by omega⟩ (by omega) (by omega) rfl (by decide) ?_
        refine x_aload_n B dL_law_779 1 rfl rfl ?_
        refine x_aload_n B dL_law_780 0 rfl rfl ?_
        refine x_iload_n B dL_law_781 3 rfl rfl ?_
        refine x_iconst B dL_law_782 ?_
        refine x_iadd B dL_law_783 ?_
        refine x_sld B S dL_law_784 (by omega) (by omega) ?_
        refine x_aload_n B dL_law_785 0 rfl rfl ?_
        refine x_iload_n B dL_law_786 3 rfl rfl ?_
        refine x_iconst B dL_law_787 ?_
        refine x_iadd B dL_law_788 ?_
        refine x_sld B S dL_law_789 (by omega) (by omega) ?_
        refine x_aload_n B dL_law_790 0 rfl rfl ?_
        refine x_iload_n B dL_law_791 3 rfl rfl ?_
        refine x_iconst B dL_law_792 ?_
        refine x_iadd B dL_law_793 ?_
        refine x_sld B S dL_law_794 (by omega) (by omega) ?_
        have J803 : ∀ (j795 : Int), (j795 = nz (sX xs (i + 3)) ∧ 0 ≤ j795 ∧ j795 ≤ 1) → Vx x E N 803 [(0, .ref b), (1, .ref (E.1 (0))), (2, .ref (E.1 (71))), (3, .int (iI (i)))] [.int (iI (j795)), .int (iI (sX xs (i + 2))), .int (iI (sX xs (i + 1))), .ref (E.1 (0))] := by
          intro j795 hJ
          obtain ⟨e795, l795, u795⟩ := hJ
          refine x_callV B (st := []) (av := [.int (iI (sX xs (i + 1))), .int (iI (sX xs (i + 2))), .int (iI (j795))]) dL_law_803 cs_X7_move kw_685 ⟨rfl, rfl, Nat.le_of_ble_eq_true rfl, Nat.le_of_ble_eq_true rfl⟩ rfl rfl (Nat.le_of_ble_eq_true rfl) (rc_obj B (ci := 7) rfl rfl rfl) (c_X7_move _ E _ (sX xs (i + 1)) (sX xs (i + 2)) j795 (by omega) (by omega) (by omega) (by omega) (by omega) (by omega)) (k_i (fun z803 M803 hz803 => ?_))
          refine x_aload_n B dL_law_806 2 rfl rfl ?_
          refine x_aload_n B dL_law_807 0 rfl rfl ?_
          refine x_iload_n B dL_law_808 3 rfl rfl ?_
          refine x_iconst B dL_law_809 ?_
          refine x_iadd B dL_law_810 ?_
          refine x_sld B S dL_law_811 (by omega) (by omega) ?_
          refine x_aload_n B dL_law_812 0 rfl rfl ?_
          refine x_iload_n B dL_law_813 3 rfl rfl ?_
          refine x_iconst B dL_law_814 ?_
          refine x_iadd B dL_law_815 ?_
          refine x_sld B S dL_law_816 (by omega) (by omega) ?_
          refine x_aload_n B dL_law_817 0 rfl rfl ?_
          refine x_iload_n B dL_law_818 3 rfl rfl ?_
          refine x_iconst B dL_law_819 ?_
          refine x_iadd B dL_law_820 ?_
          refine x_sld B S dL_law_821 (by omega) (by omega) ?_
          have J830 : ∀ (j822 : Int), (j822 = nz (sX xs (i + 3)) ∧ 0 ≤ j822 ∧ j822 ≤ 1) → Vx x E M803 830 [(0, .ref b), (1, .ref (E.1 (0))), (2, .ref (E.1 (71))), (3, .int (iI (i)))] [.int (iI (j822)), .int (iI (sX xs (i + 2))), .int (iI (sX xs (i + 1))), .ref (E.1 (71)), .int (iI (z803))] := by
            intro j822 hJ
            obtain ⟨e822, l822, u822⟩ := hJ
            refine x_callV B (st := [.int (iI (z803))]) (av := [.int (iI (sX xs (i + 1))), .int (iI (sX xs (i + 2))), .int (iI (j822))]) dL_law_830 cs_X8_move kw_1143 ⟨rfl, rfl, Nat.le_of_ble_eq_true rfl, Nat.le_of_ble_eq_true rfl⟩ rfl rfl (Nat.le_of_ble_eq_true rfl) (rc_obj B (ci := 8) rfl rfl rfl) (c_X8_move _ E _ (sX xs (i + 1)) (sX xs (i + 2)) j822 (by omega) (by omega) (by omega) (by omega) (by omega) (by omega)) (k_i (fun z830 M830 hz830 => ?_))
            rw [e795] at hz803
            rw [e822] at hz830
            have hs := st_move hwN i3 hz803 hz830
            refine x_same B (tgt := 1400) dL_law_833 (by decide) hs.1 ?_
            refine x_iinc B (q := 3) dL_law_1400 rfl [1, 2, 3, 0] (by decide) (lv' := [(0, .ref b), (1, .ref (E.1 (0))), (2, .ref (E.1 (71))), (3, .int (iI (i + 7)))]) rfl ?_
            refine x_goto B (tgt := 18) dL_law_1403 (by decide) ?_
            exact ih18 (i + 7) M830 (⟨by omega, by omega, hs.2⟩) (by omega)
          refine x_if_eq B (tgt := 829) dL_law_822 (by decide) ⟨by omega, by omega⟩ (fun c822 => ?_) (fun c822 => ?_)
          · show Vx x E M803 829 [(0, .ref b), (1, .ref (E.1 (0))), (2, .ref (E.1 (71))), (3, .int (iI (i)))] [.int (iI (sX xs (i + 2))), .int (iI (sX xs (i + 1))), .ref (E.1 (71)), .int (iI (z803))]
            refine x_iconst B dL_law_829 ?_
            exact J830 0 (⟨by unfold nz; rw [if_pos c822], by omega, by omega⟩)
          · show Vx x E M803 825 [(0, .ref b), (1, .ref (E.1 (0))), (2, .ref (E.1 (71))), (3, .int (iI (i)))] [.int (iI (sX xs (i + 2))), .int (iI (sX xs (i + 1))), .ref (E.1 (71)), .int (iI (z803))]
            refine x_iconst B dL_law_825 ?_
            refine x_goto B (tgt := 830) dL_law_826 (by decide) ?_
            exact J830 1 (⟨by unfold nz; rw [if_neg c822], by omega, by omega⟩)
        refine x_if_eq B (tgt := 802) dL_law_795 (by decide) ⟨by omega, by omega⟩ (fun c795 => ?_) (fun c795 => ?_)
        · show Vx x E N 802 [(0, .ref b), (1, .ref (E.1 (0))), (2, .ref (E.1 (71))), (3, .int (iI (i)))] [.int (iI (sX xs (i + 2))), .int (iI (sX xs (i + 1))), .ref (E.1 (0))]
          refine x_iconst B dL_law_802 ?_
          exact J803 0 (⟨by unfold nz; rw [if_pos c795], by omega, by omega⟩)
        · show Vx x E N 798 [(0, .ref b), (1, .ref (E.1 (0))), (2, .ref (E.1 (71))), (3, .int (iI (i)))] [.int (iI (sX xs (i + 2))), .int (iI (sX xs (i + 1))), .ref (E.1 (0))]
          refine x_iconst B dL_law_798 ?_
          refine x_goto B (tgt := 803) dL_law_799 (by decide) ?_
          exact J803 1 (⟨by unfold nz; rw [if_neg c795], by omega, by omega⟩)
      · refine x_tabIn B (tgt := 838) 20 dL_law_33 ⟨by omega, by omega⟩ (by omega) (by omega) rfl (by decide) ?_
        refine x_aload_n B dL_law_838 1 rfl rfl ?_
        refine x_aload_n B dL_law_839 0 rfl rfl ?_
        refine x_iload_n B dL_law_840 3 rfl rfl ?_
        refine x_iconst B dL_law_841 ?_
        refine x_iadd B dL_law_842 ?_
        refine x_sld B S dL_law_843 (by omega) (by omega) ?_
        refine x_aload_n B dL_law_844 0 rfl rfl ?_
        refine x_iload_n B dL_law_845 3 rfl rfl ?_
        refine x_iconst B dL_law_846 ?_
        refine x_iadd B dL_law_847 ?_
        refine x_sld B S dL_law_848 (by omega) (by omega) ?_
        refine x_aload_n B dL_law_849 0 rfl rfl ?_
        refine x_iload_n B dL_law_850 3 rfl rfl ?_
        refine x_iconst B dL_law_851 ?_
        refine x_iadd B dL_law_852 ?_
        refine x_sld B S dL_law_853 (by omega) (by omega) ?_
        refine x_callV B (st := []) (av := [.int (iI (sX xs (i + 1))), .int (iI (sX xs (i + 2))), .int (iI (sX xs (i + 3)))]) dL_law_854 cs_X7_foretell kw_693 ⟨rfl, rfl, Nat.le_of_ble_eq_true rfl, Nat.le_of_ble_eq_true rfl⟩ rfl rfl (Nat.le_of_ble_eq_true rfl) (rc_obj B (ci := 7) rfl rfl rfl) (c_X7_foretell _ E _ (sX xs (i + 1)) (sX xs (i + 2)) (sX xs (i + 3)) (by omega) (by omega) (by omega) (by omega) (by omega) (by omega)) (k_i (fun z854 M854 hz854 => ?_))
        refine x_aload_n B dL_law_857 2 rfl rfl ?_
        refine x_aload_n B dL_law_858 0 rfl rfl ?_
        refine x_iload_n B dL_law_859 3 rfl rfl ?_
        refine x_iconst B dL_law_860 ?_
        refine x_iadd B dL_law_861 ?_
        refine x_sld B S dL_law_862 (by omega) (by omega) ?_
        refine x_aload_n B dL_law_863 0 rfl rfl ?_
        refine x_iload_n B dL_law_864 3 rfl rfl ?_
        refine x_iconst B dL_law_865 ?_
        refine x_iadd B dL_law_866 ?_
        refine x_sld B S dL_law_867 (by omega) (by omega) ?_
        refine x_aload_n B dL_law_868 0 rfl rfl ?_
        refine x_iload_n B dL_law_869 3 rfl rfl ?_
        refine x_iconst B dL_law_870 ?_
        refine x_iadd B dL_law_871 ?_
        refine x_sld B S dL_law_872 (by omega) (by omega) ?_
        refine x_callV B (st := [.int (iI (z854))]) (av := [.int (iI (sX xs (i + 1))), .int (iI (sX xs (i + 2))), .int (iI (sX xs (i + 3)))]) dL_law_873 cs_X8_foretell kw_1151 ⟨rfl, rfl, Nat.le_of_ble_eq_true rfl, Nat.le_of_ble_eq_true rfl⟩ rfl rfl (Nat.le_of_ble_eq_true rfl) (rc_obj B (ci := 8) rfl rfl rfl) (c_X8_foretell _ E _ (sX xs (i + 1)) (sX xs (i + 2)) (sX xs (i + 3)) (by omega) (by omega) (by omega) (by omega) (by omega) (by omega)) (k_i (fun z873 M873 hz873 => ?_))
        have hs := st_foretell hwN i3 hz854 hz873
        refine x_same B (tgt := 1400) dL_law_876 (by decide) hs.1 ?_
        refine x_iinc B (q := 3) dL_law_1400 rfl [1, 2, 3, 0] (by decide) (lv' := [(0, .ref b), (1, .ref (E.1 (0))), (2, .ref (E.1 (71))), (3, .int (iI (i + 7)))]) rfl ?_
        refine x_goto B (tgt := 18) dL_law_1403 (by decide) ?_
        exact ih18 (i + 7) M873 (⟨by omega, by omega, hs.2⟩) (by omega)
      · refine x_tabIn B (tgt := 881) 21 dL_law_33 ⟨by omega, by omega⟩ (by omega) (by omega) rfl (by decide) ?_
        refine x_aload_n B dL_law_881 1 rfl rfl ?_
        refine x_aload_n B dL_law_882 0 rfl rfl ?_
        refine x_iload_n B dL_law_883 3 rfl rfl ?_
        refine x_iconst B dL_law_884 ?_
        refine x_iadd B dL_law_885 ?_
        refine x_sld B S dL_law_886 (by omega) (by omega) ?_
        refine x_callV B (st := []) (av := [.int (iI (sX xs (i + 1)))]) dL_law_887 cs_X7_head kw_697 ⟨rfl, rfl, Nat.le_of_ble_eq_true rfl, Nat.le_of_ble_eq_true rfl⟩ rfl rfl (Nat.le_of_ble_eq_true rfl) (rc_obj B (ci := 7) rfl rfl rfl) (c_X7_head _ E _ (sX xs (i + 1)) (by omega) (by omega)) (k_i (fun z887 Mq hz887 => ?_))
        obtain ⟨rfl, hz887⟩ := hz887
        refine x_aload_n B dL_law_890 2 rfl rfl ?_
        refine x_aload_n B dL_law_891 0 rfl rfl ?_
        refine x_iload_n B dL_law_892 3 rfl rfl ?_
        refine x_iconst B dL_law_893 ?_
        refine x_iadd B dL_law_894 ?_
        refine x_sld B S dL_law_895 (by omega) (by omega) ?_
        refine x_callV B (st := [.int (iI (z887))]) (av := [.int (iI (sX xs (i + 1)))]) dL_law_896 cs_X8_head kw_1155 ⟨rfl, rfl, Nat.le_of_ble_eq_true rfl, Nat.le_of_ble_eq_true rfl⟩ rfl rfl (Nat.le_of_ble_eq_true rfl) (rc_obj B (ci := 8) rfl rfl rfl) (c_X8_head _ E _ (sX xs (i + 1)) (by omega) (by omega)) (k_i (fun z896 Mq hz896 => ?_))
        obtain ⟨rfl, hz896⟩ := hz896
        have hs := st_head hwN i3 ⟨rfl, hz887⟩ ⟨rfl, hz896⟩
        refine x_same B (tgt := 1400) dL_law_899 (by decide) hs.1 ?_
        refine x_iinc B (q := 3) dL_law_1400 rfl [1, 2, 3, 0] (by decide) (lv' := [(0, .ref b), (1, .ref (E.1 (0))), (2, .ref (E.1 (71))), (3, .int (iI (i + 7)))]) rfl ?_
        refine x_goto B (tgt := 18) dL_law_1403 (by decide) ?_
        exact ih18 (i + 7) N (⟨by omega, by omega, hs.2⟩) (by omega)
      · refine x_tabIn B (tgt := 904) 22 dL_law_33 ⟨by omega, by omega⟩ (by omega) (by omega) rfl (by decide) ?_
        refine x_aload_n B dL_law_904 1 rfl rfl ?_
        refine x_callV B (st := []) (av := []) dL_law_905 cs_X7_forget kw_701 ⟨rfl, rfl, Nat.le_of_ble_eq_true rfl, Nat.le_of_ble_eq_true rfl⟩ rfl rfl (Nat.le_of_ble_eq_true rfl) (rc_obj B (ci := 7) rfl rfl rfl) (c_X7_forget _ E _ ) (k_i (fun z905 M905 hz905 => ?_))
        refine x_aload_n B dL_law_908 2 rfl rfl ?_
        refine x_callV B (st := [.int (iI (z905))]) (av := []) dL_law_909 cs_X8_forget kw_1159 ⟨rfl, rfl, Nat.le_of_ble_eq_true rfl, Nat.le_of_ble_eq_true rfl⟩ rfl rfl (Nat.le_of_ble_eq_true rfl) (rc_obj B (ci := 8) rfl rfl rfl) (c_X8_forget _ E _ ) (k_i (fun z909 M909 hz909 => ?_))
        have hs := st_forget hwN i3 hz905 hz909
        refine x_same B (tgt := 1400) dL_law_912 (by decide) hs.1 ?_
        refine x_iinc B (q := 3) dL_law_1400 rfl [1, 2, 3, 0] (by decide) (lv' := [(0, .ref b), (1, .ref (E.1 (0))), (2, .ref (E.1 (71))), (3, .int (iI (i + 7)))]) rfl ?_
        refine x_goto B (tgt := 18) dL_law_1403 (by decide) ?_
        exact ih18 (i + 7) M909 (⟨by omega, by omega, hs.2⟩) (by omega)
      · refine x_tabIn B (tgt := 917) 23 dL_law_33 ⟨by omega, by omega⟩ (by omega) (by omega) rfl (by decide) ?_
        refine x_aload_n B dL_law_917 1 rfl rfl ?_
        refine x_aload_n B dL_law_918 0 rfl rfl ?_
        refine x_iload_n B dL_law_919 3 rfl rfl ?_
        refine x_iconst B dL_law_920 ?_
        refine x_iadd B dL_law_921 ?_
        refine x_sld B S dL_law_922 (by omega) (by omega) ?_
        refine x_callV B (st := []) (av := [.int (iI (sX xs (i + 1)))]) dL_law_923 cs_X7_lessons kw_705 ⟨rfl, rfl, Nat.le_of_ble_eq_true rfl, Nat.le_of_ble_eq_true rfl⟩ rfl rfl (Nat.le_of_ble_eq_true rfl) (rc_obj B (ci := 7) rfl rfl rfl) (c_X7_lessons _ E _ (sX xs (i + 1)) (by omega) (by omega)) (k_i (fun z923 Mq hz923 => ?_))
        obtain ⟨rfl, hz923⟩ := hz923
        refine x_aload_n B dL_law_926 2 rfl rfl ?_
        refine x_aload_n B dL_law_927 0 rfl rfl ?_
        refine x_iload_n B dL_law_928 3 rfl rfl ?_
        refine x_iconst B dL_law_929 ?_
        refine x_iadd B dL_law_930 ?_
        refine x_sld B S dL_law_931 (by omega) (by omega) ?_
        refine x_callV B (st := [.int (iI (z923))]) (av := [.int (iI (sX xs (i + 1)))]) dL_law_932 cs_X8_lessons kw_1163 ⟨rfl, rfl, Nat.le_of_ble_eq_true rfl, Nat.le_of_ble_eq_true rfl⟩ rfl rfl (Nat.le_of_ble_eq_true rfl) (rc_obj B (ci := 8) rfl rfl rfl) (c_X8_lessons _ E _ (sX xs (i + 1)) (by omega) (by omega)) (k_i (fun z932 M932 hz932 => ?_))
        have hs := st_lessons hwN i3 ⟨rfl, hz923⟩ hz932
        refine x_same B (tgt := 1400) dL_law_935 (by decide) hs.1 ?_
        refine x_iinc B (q := 3) dL_law_1400 rfl [1, 2, 3, 0] (by decide) (lv' := [(0, .ref b), (1, .ref (E.1 (0))), (2, .ref (E.1 (71))), (3, .int (iI (i + 7)))]) rfl ?_
        refine x_goto B (tgt := 18) dL_law_1403 (by decide) ?_
        exact ih18 (i + 7) M932 (⟨by omega, by omega, hs.2⟩) (by omega)
      · refine x_tabIn B (tgt := 940) 24 dL_law_33 ⟨by omega, by omega⟩ (by omega) (by omega) rfl (by decide) ?_
        refine x_aload_n B dL_law_940 1 rfl rfl ?_
        refine x_aload_n B dL_law_941 0 rfl rfl ?_
        refine x_iload_n B dL_law_942 3 rfl rfl ?_
        refine x_iconst B dL_law_943 ?_
        refine x_iadd B dL_law_944 ?_
        refine x_sld B S dL_law_945 (by omega) (by omega) ?_
        refine x_aload_n B dL_law_946 0 rfl rfl ?_
        refine x_iload_n B dL_law_947 3 rfl rfl ?_
        refine x_iconst B dL_law_948 ?_
        refine x_iadd B dL_law_949 ?_
        refine x_sld B S dL_law_950 (by omega) (by omega) ?_
        refine x_callV B (st := []) (av := [.int (iI (sX xs (i + 1))), .int (iI (sX xs (i + 2)))]) dL_law_951 cs_X7_asks kw_713 ⟨rfl, rfl, Nat.le_of_ble_eq_true rfl, Nat.le_of_ble_eq_true rfl⟩ rfl rfl (Nat.le_of_ble_eq_true rfl) (rc_obj B (ci := 7) rfl rfl rfl) (c_X7_asks _ E _ (sX xs (i + 1)) (sX xs (i + 2)) (by omega) (by omega) (by omega) (by omega)) (k_i (fun z951 Mq hz951 => ?_))
        obtain ⟨rfl, hz951⟩ := hz951
        refine x_aload_n B dL_law_954 2 rfl rfl ?_
        refine x_aload_n B dL_law_955 0 rfl rfl ?_
        refine x_iload_n B dL_law_956 3 rfl rfl ?_
        refine x_iconst B dL_law_957 ?_
        refine x_iadd B dL_law_958 ?_
        refine x_sld B S dL_law_959 (by omega) (by omega) ?_
        refine x_aload_n B dL_law_960 0 rfl rfl ?_
        refine x_iload_n B dL_law_961 3 rfl rfl ?_
        refine x_iconst B dL_law_962 ?_
        refine x_iadd B dL_law_963 ?_
        refine x_sld B S dL_law_964 (by omega) (by omega) ?_
        refine x_callV B (st := [.int (iI (z951))]) (av := [.int (iI (sX xs (i + 1))), .int (iI (sX xs (i + 2)))]) dL_law_965 cs_X8_asks kw_1175 ⟨rfl, rfl, Nat.le_of_ble_eq_true rfl, Nat.le_of_ble_eq_true rfl⟩ rfl rfl (Nat.le_of_ble_eq_true rfl) (rc_obj B (ci := 8) rfl rfl rfl) (c_X8_asks _ E _ (sX xs (i + 1)) (sX xs (i + 2)) (by omega) (by omega) (by omega) (by omega)) (k_i (fun z965 Mq hz965 => ?_))
        obtain ⟨rfl, hz965⟩ := hz965
        have hs := st_asks hwN i3 ⟨rfl, hz951⟩ ⟨rfl, hz965⟩
        refine x_same B (tgt := 1400) dL_law_968 (by decide) hs.1 ?_
        refine x_iinc B (q := 3) dL_law_1400 rfl [1, 2, 3, 0] (by decide) (lv' := [(0, .ref b), (1, .ref (E.1 (0))), (2, .ref (E.1 (71))), (3, .int (iI (i + 7)))]) rfl ?_
        refine x_goto B (tgt := 18) dL_law_1403 (by decide) ?_
        exact ih18 (i + 7) N (⟨by omega, by omega, hs.2⟩) (by omega)
      · refine x_tabIn B (tgt := 973) 25 dL_law_33 ⟨by omega, by omega⟩ (by omega) (by omega) rfl (by decide) ?_
        refine x_aload_n B dL_law_973 1 rfl rfl ?_
        refine x_aload_n B dL_law_974 0 rfl rfl ?_
        refine x_iload_n B dL_law_975 3 rfl rfl ?_
        refine x_iconst B dL_law_976 ?_
        refine x_iadd B dL_law_977 ?_
        refine x_sld B S dL_law_978 (by omega) (by omega) ?_
        refine x_aload_n B dL_law_979 0 rfl rfl ?_
        refine x_iload_n B dL_law_980 3 rfl rfl ?_
        refine x_iconst B dL_law_981 ?_
        refine x_iadd B dL_law_982 ?_
        refine x_sld B S dL_law_983 (by omega) (by omega) ?_
        refine x_aload_n B dL_law_984 0 rfl rfl ?_
        refine x_iload_n B dL_law_985 3 rfl rfl ?_
        refine x_iconst B dL_law_986 ?_
        refine x_iadd B dL_law_987 ?_
        refine x_sld B S dL_law_988 (by omega) (by omega) ?_
        refine x_callV B (st := []) (av := [.int (iI (sX xs (i + 1))), .int (iI (sX xs (i + 2))), .int (iI (sX xs (i + 3)))]) dL_law_989 cs_X7_heard kw_717 ⟨rfl, rfl, Nat.le_of_ble_eq_true rfl, Nat.le_of_ble_eq_true rfl⟩ rfl rfl (Nat.le_of_ble_eq_true rfl) (rc_obj B (ci := 7) rfl rfl rfl) (c_X7_heard _ E _ (sX xs (i + 1)) (sX xs (i + 2)) (sX xs (i + 3)) (by omega) (by omega) (by omega) (by omega) (by omega) (by omega)) (k_i (fun z989 M989 hz989 => ?_))
        refine x_aload_n B dL_law_992 2 rfl rfl ?_
        refine x_aload_n B dL_law_993 0 rfl rfl ?_
        refine x_iload_n B dL_law_994 3 rfl rfl ?_
        refine x_iconst B dL_law_995 ?_
        refine x_iadd B dL_law_996 ?_
        refine x_sld B S dL_law_997 (by omega) (by omega) ?_
        refine x_aload_n B dL_law_998 0 rfl rfl ?_
        refine x_iload_n B dL_law_999 3 rfl rfl ?_
        refine x_iconst B dL_law_1000 ?_
        refine x_iadd B dL_law_1001 ?_
        refine x_sld B S dL_law_1002 (by omega) (by omega) ?_
        refine x_aload_n B dL_law_1003 0 rfl rfl ?_
        refine x_iload_n B dL_law_1004 3 rfl rfl ?_
        refine x_iconst B dL_law_1005 ?_
        refine x_iadd B dL_law_1006 ?_
        refine x_sld B S dL_law_1007 (by omega) (by omega) ?_
        refine x_callV B (st := [.int (iI (z989))]) (av := [.int (iI (sX xs (i + 1))), .int (iI (sX xs (i + 2))), .int (iI (sX xs (i + 3)))]) dL_law_1008 cs_X8_heard kw_1179 ⟨rfl, rfl, Nat.le_of_ble_eq_true rfl, Nat.le_of_ble_eq_true rfl⟩ rfl rfl (Nat.le_of_ble_eq_true rfl) (rc_obj B (ci := 8) rfl rfl rfl) (c_X8_heard _ E _ (sX xs (i + 1)) (sX xs (i + 2)) (sX xs (i + 3)) (by omega) (by omega) (by omega) (by omega) (by omega) (by omega)) (k_i (fun z1008 M1008 hz1008 => ?_))
        have hs := st_heard hwN i3 hz989 hz1008
        refine x_same B (tgt := 1400) dL_law_1011 (by decide) hs.1 ?_
        refine x_iinc B (q := 3) dL_law_1400 rfl [1, 2, 3, 0] (by decide) (lv' := [(0, .ref b), (1, .ref (E.1 (0))), (2, .ref (E.1 (71))), (3, .int (iI (i + 7)))]) rfl ?_
        refine x_goto B (tgt := 18) dL_law_1403 (by decide) ?_
        exact ih18 (i + 7) M1008 (⟨by omega, by omega, hs.2⟩) (by omega)
      · refine x_tabIn B (tgt := 1016) 26 dL_law_33 ⟨by omega, by omega⟩ (by omega) (by omega) rfl (by decide) ?_
        refine x_aload_n B dL_law_1016 1 rfl rfl ?_
        refine x_aload_n B dL_law_1017 0 rfl rfl ?_
        refine x_iload_n B dL_law_1018 3 rfl rfl ?_
        refine x_iconst B dL_law_1019 ?_
        refine x_iadd B dL_law_1020 ?_
        refine x_sld B S dL_law_1021 (by omega) (by omega) ?_
        refine x_aload_n B dL_law_1022 0 rfl rfl ?_
        refine x_iload_n B dL_law_1023 3 rfl rfl ?_
        refine x_iconst B dL_law_1024 ?_
        refine x_iadd B dL_law_1025 ?_
        refine x_sld B S dL_law_1026 (by omega) (by omega) ?_
        refine x_callV B (st := []) (av := [.int (iI (sX xs (i + 1))), .int (iI (sX xs (i + 2)))]) dL_law_1027 cs_X7_sounds kw_725 ⟨rfl, rfl, Nat.le_of_ble_eq_true rfl, Nat.le_of_ble_eq_true rfl⟩ rfl rfl (Nat.le_of_ble_eq_true rfl) (rc_obj B (ci := 7) rfl rfl rfl) (c_X7_sounds _ E _ (sX xs (i + 1)) (sX xs (i + 2)) (by omega) (by omega) (by omega) (by omega)) (k_i (fun z1027 M1027 hz1027 => ?_))
        refine x_aload_n B dL_law_1030 2 rfl rfl ?_
        refine x_aload_n B dL_law_1031 0 rfl rfl ?_
        refine x_iload_n B dL_law_1032 3 rfl rfl ?_
        refine x_iconst B dL_law_1033 ?_
        refine x_iadd B dL_law_1034 ?_
        refine x_sld B S dL_law_1035 (by omega) (by omega) ?_
        refine x_aload_n B dL_law_1036 0 rfl rfl ?_
        refine x_iload_n B dL_law_1037 3 rfl rfl ?_
        refine x_iconst B dL_law_1038 ?_
        refine x_iadd B dL_law_1039 ?_
        refine x_sld B S dL_law_1040 (by omega) (by omega) ?_
        refine x_callV B (st := [.int (iI (z1027))]) (av := [.int (iI (sX xs (i + 1))), .int (iI (sX xs (i + 2)))]) dL_law_1041 cs_X8_sounds kw_1187 ⟨rfl, rfl, Nat.le_of_ble_eq_true rfl, Nat.le_of_ble_eq_true rfl⟩ rfl rfl (Nat.le_of_ble_eq_true rfl) (rc_obj B (ci := 8) rfl rfl rfl) (c_X8_sounds _ E _ (sX xs (i + 1)) (sX xs (i + 2)) (by omega) (by omega) (by omega) (by omega)) (k_i (fun z1041 M1041 hz1041 => ?_))
        have hs := st_sounds hwN i3 hz1027 hz1041
        refine x_same B (tgt := 1400) dL_law_1044 (by decide) hs.1 ?_
        refine x_iinc B (q := 3) dL_law_1400 rfl [1, 2, 3, 0] (by decide) (lv' := [(0, .ref b), (1, .ref (E.1 (0))), (2, .ref (E.1 (71))), (3, .int (iI (i + 7)))]) rfl ?_
        refine x_goto B (tgt := 18) dL_law_1403 (by decide) ?_
        exact ih18 (i + 7) M1041 (⟨by omega, by omega, hs.2⟩) (by omega)
      · refine x_tabIn B (tgt := 1049) 27 dL_law_33 ⟨by omega, by omega⟩ (by omega) (by omega) rfl (by decide) ?_
        refine x_aload_n B dL_law_1049 1 rfl rfl ?_
        refine x_aload_n B dL_law_1050 0 rfl rfl ?_
        refine x_iload_n B dL_law_1051 3 rfl rfl ?_
        refine x_iconst B dL_law_1052 ?_
        refine x_iadd B dL_law_1053 ?_
        refine x_sld B S dL_law_1054 (by omega) (by omega) ?_
        refine x_callV B (st := []) (av := [.int (iI (sX xs (i + 1)))]) dL_law_1055 cs_X7_beside kw_734 ⟨rfl, rfl, Nat.le_of_ble_eq_true rfl, Nat.le_of_ble_eq_true rfl⟩ rfl rfl (Nat.le_of_ble_eq_true rfl) (rc_obj B (ci := 7) rfl rfl rfl) (c_X7_beside _ E _ (sX xs (i + 1)) (by omega) (by omega)) (k_i (fun z1055 M1055 hz1055 => ?_))
        refine x_aload_n B dL_law_1058 2 rfl rfl ?_
        refine x_aload_n B dL_law_1059 0 rfl rfl ?_
        refine x_iload_n B dL_law_1060 3 rfl rfl ?_
        refine x_iconst B dL_law_1061 ?_
        refine x_iadd B dL_law_1062 ?_
        refine x_sld B S dL_law_1063 (by omega) (by omega) ?_
        refine x_callV B (st := [.int (iI (z1055))]) (av := [.int (iI (sX xs (i + 1)))]) dL_law_1064 cs_X8_beside kw_1195 ⟨rfl, rfl, Nat.le_of_ble_eq_true rfl, Nat.le_of_ble_eq_true rfl⟩ rfl rfl (Nat.le_of_ble_eq_true rfl) (rc_obj B (ci := 8) rfl rfl rfl) (c_X8_beside _ E _ (sX xs (i + 1)) (by omega) (by omega)) (k_i (fun z1064 M1064 hz1064 => ?_))
        have hs := st_beside hwN i3 hz1055 hz1064
        refine x_same B (tgt := 1400) dL_law_1067 (by decide) hs.1 ?_
        refine x_iinc B (q := 3) dL_law_1400 rfl [1, 2, 3, 0] (by decide) (lv' := [(0, .ref b), (1, .ref (E.1 (0))), (2, .ref (E.1 (71))), (3, .int (iI (i + 7)))]) rfl ?_
        refine x_goto B (tgt := 18) dL_law_1403 (by decide) ?_
        exact ih18 (i + 7) M1064 (⟨by omega, by omega, hs.2⟩) (by omega)
      · refine x_tabIn B (tgt := 1072) 28 dL_law_33 ⟨by omega, by omega⟩ (by omega) (by omega) rfl (by decide) ?_
        refine x_aload_n B dL_law_1072 1 rfl rfl ?_
        refine x_aload_n B dL_law_1073 0 rfl rfl ?_
        refine x_iload_n B dL_law_1074 3 rfl rfl ?_
        refine x_iconst B dL_law_1075 ?_
        refine x_iadd B dL_law_1076 ?_
        refine x_sld B S dL_law_1077 (by omega) (by omega) ?_
        refine x_aload_n B dL_law_1078 0 rfl rfl ?_
        refine x_iload_n B dL_law_1079 3 rfl rfl ?_
        refine x_iconst B dL_law_1080 ?_
        refine x_iadd B dL_law_1081 ?_
        refine x_sld B S dL_law_1082 (by omega) (by omega) ?_
        refine x_aload_n B dL_law_1083 0 rfl rfl ?_
        refine x_iload_n B dL_law_1084 3 rfl rfl ?_
        refine x_iconst B dL_law_1085 ?_
        refine x_iadd B dL_law_1086 ?_
        refine x_sld B S dL_law_1087 (by omega) (by omega) ?_
        refine x_aload_n B dL_law_1088 0 rfl rfl ?_
        refine x_iload_n B dL_law_1089 3 rfl rfl ?_
        refine x_iconst B dL_law_1090 ?_
        refine x_iadd B dL_law_1091 ?_
        refine x_sld B S dL_law_1092 (by omega) (by omega) ?_
        have J1101 : ∀ (j1093 : Int), (j1093 = nz (sX xs (i + 4)) ∧ 0 ≤ j1093 ∧ j1093 ≤ 1) → Vx x E N 1101 [(0, .ref b), (1, .ref (E.1 (0))), (2, .ref (E.1 (71))), (3, .int (iI (i)))] [.int (iI (j1093)), .int (iI (sX xs (i + 3))), .int (iI (sX xs (i + 2))), .int (iI (sX xs (i + 1))), .ref (E.1 (0))] := by
          intro j1093 hJ
          obtain ⟨e1093, l1093, u1093⟩ := hJ
          refine x_callV B (st := []) (av := [.int (iI (sX xs (i + 1))), .int (iI (sX xs (i + 2))), .int (iI (sX xs (i + 3))), .int (iI (j1093))]) dL_law_1101 cs_X7_answer kw_738 ⟨rfl, rfl, Nat.le_of_ble_eq_true rfl, Nat.le_of_ble_eq_true rfl⟩ rfl rfl (Nat.le_of_ble_eq_true rfl) (rc_obj B (ci := 7) rfl rfl rfl) (c_X7_answer _ E _ (sX xs (i + 1)) (sX xs (i + 2)) (sX xs (i + 3)) j1093 (by omega) (by omega) (by omega) (by omega) (by omega) (by omega) (by omega) (by omega)) (k_i (fun z1101 M1101 hz1101 => ?_))
          refine x_aload_n B dL_law_1104 2 rfl rfl ?_
          refine x_aload_n B dL_law_1105 0 rfl rfl ?_
          refine x_iload_n B dL_law_1106 3 rfl rfl ?_
          refine x_iconst B dL_law_1107 ?_
          refine x_iadd B dL_law_1108 ?_
          refine x_sld B S dL_law_1109 (by omega) (by omega) ?_
          refine x_aload_n B dL_law_1110 0 rfl rfl ?_
          refine x_iload_n B dL_law_1111 3 rfl rfl ?_
          refine x_iconst B dL_law_1112 ?_
          refine x_iadd B dL_law_1113 ?_
          refine x_sld B S dL_law_1114 (by omega) (by omega) ?_
          refine x_aload_n B dL_law_1115 0 rfl rfl ?_
          refine x_iload_n B dL_law_1116 3 rfl rfl ?_
          refine x_iconst B dL_law_1117 ?_
          refine x_iadd B dL_law_1118 ?_
          refine x_sld B S dL_law_1119 (by omega) (by omega) ?_
          refine x_aload_n B dL_law_1120 0 rfl rfl ?_
          refine x_iload_n B dL_law_1121 3 rfl rfl ?_
          refine x_iconst B dL_law_1122 ?_
          refine x_iadd B dL_law_1123 ?_
          refine x_sld B S dL_law_1124 (by omega) (by omega) ?_
          have J1133 : ∀ (j1125 : Int), (j1125 = nz (sX xs (i + 4)) ∧ 0 ≤ j1125 ∧ j1125 ≤ 1) → Vx x E M1101 1133 [(0, .ref b), (1, .ref (E.1 (0))), (2, .ref (E.1 (71))), (3, .int (iI (i)))] [.int (iI (j1125)), .int (iI (sX xs (i + 3))), .int (iI (sX xs (i + 2))), .int (iI (sX xs (i + 1))), .ref (E.1 (71)), .int (iI (z1101))] := by
            intro j1125 hJ
            obtain ⟨e1125, l1125, u1125⟩ := hJ
            refine x_callV B (st := [.int (iI (z1101))]) (av := [.int (iI (sX xs (i + 1))), .int (iI (sX xs (i + 2))), .int (iI (sX xs (i + 3))), .int (iI (j1125))]) dL_law_1133 cs_X8_answer kw_1199 ⟨rfl, rfl, Nat.le_of_ble_eq_true rfl, Nat.le_of_ble_eq_true rfl⟩ rfl rfl (Nat.le_of_ble_eq_true rfl) (rc_obj B (ci := 8) rfl rfl rfl) (c_X8_answer _ E _ (sX xs (i + 1)) (sX xs (i + 2)) (sX xs (i + 3)) j1125 (by omega) (by omega) (by omega) (by omega) (by omega) (by omega) (by omega) (by omega)) (k_i (fun z1133 M1133 hz1133 => ?_))
            rw [e1093] at hz1101
            rw [e1125] at hz1133
            have hs := st_answer hwN i3 hz1101 hz1133
            refine x_same B (tgt := 1400) dL_law_1136 (by decide) hs.1 ?_
            refine x_iinc B (q := 3) dL_law_1400 rfl [1, 2, 3, 0] (by decide) (lv' := [(0, .ref b), (1, .ref (E.1 (0))), (2, .ref (E.1 (71))), (3, .int (iI (i + 7)))]) rfl ?_
            refine x_goto B (tgt := 18) dL_law_1403 (by decide) ?_
            exact ih18 (i + 7) M1133 (⟨by omega, by omega, hs.2⟩) (by omega)
          refine x_if_eq B (tgt := 1132) dL_law_1125 (by decide) ⟨by omega, by omega⟩ (fun c1125 => ?_) (fun c1125 => ?_)
          · show Vx x E M1101 1132 [(0, .ref b), (1, .ref (E.1 (0))), (2, .ref (E.1 (71))), (3, .int (iI (i)))] [.int (iI (sX xs (i + 3))), .int (iI (sX xs (i + 2))), .int (iI (sX xs (i + 1))), .ref (E.1 (71)), .int (iI (z1101))]
            refine x_iconst B dL_law_1132 ?_
            exact J1133 0 (⟨by unfold nz; rw [if_pos c1125], by omega, by omega⟩)
          · show Vx x E M1101 1128 [(0, .ref b), (1, .ref (E.1 (0))), (2, .ref (E.1 (71))), (3, .int (iI (i)))] [.int (iI (sX xs (i + 3))), .int (iI (sX xs (i + 2))), .int (iI (sX xs (i + 1))), .ref (E.1 (71)), .int (iI (z1101))]
            refine x_iconst B dL_law_1128 ?_
            refine x_goto B (tgt := 1133) dL_law_1129 (by decide) ?_
            exact J1133 1 (⟨by unfold nz; rw [if_neg c1125], by omega, by omega⟩)
        refine x_if_eq B (tgt := 1100) dL_law_1093 (by decide) ⟨by omega, by omega⟩ (fun c1093 => ?_) (fun c1093 => ?_)
        · show Vx x E N 1100 [(0, .ref b), (1, .ref (E.1 (0))), (2, .ref (E.1 (71))), (3, .int (iI (i)))] [.int (iI (sX xs (i + 3))), .int (iI (sX xs (i + 2))), .int (iI (sX xs (i + 1))), .ref (E.1 (0))]
          refine x_iconst B dL_law_1100 ?_
          exact J1101 0 (⟨by unfold nz; rw [if_pos c1093], by omega, by omega⟩)
        · show Vx x E N 1096 [(0, .ref b), (1, .ref (E.1 (0))), (2, .ref (E.1 (71))), (3, .int (iI (i)))] [.int (iI (sX xs (i + 3))), .int (iI (sX xs (i + 2))), .int (iI (sX xs (i + 1))), .ref (E.1 (0))]
          refine x_iconst B dL_law_1096 ?_
          refine x_goto B (tgt := 1101) dL_law_1097 (by decide) ?_
          exact J1101 1 (⟨by unfold nz; rw [if_neg c1093], by omega, by omega⟩)
      · refine x_tabIn B (tgt := 1141) 29 dL_law_33 ⟨by omega, by omega⟩ (by omega) (by omega) rfl (by decide) ?_
        refine x_aload_n B dL_law_1141 1 rfl rfl ?_
        refine x_callV B (st := []) (av := []) dL_law_1142 cs_X7_dead kw_746 ⟨rfl, rfl, Nat.le_of_ble_eq_true rfl, Nat.le_of_ble_eq_true rfl⟩ rfl rfl (Nat.le_of_ble_eq_true rfl) (rc_obj B (ci := 7) rfl rfl rfl) (c_X7_dead _ E _ ) (k_i (fun z1142 M1142 hz1142 => ?_))
        refine x_aload_n B dL_law_1145 2 rfl rfl ?_
        refine x_callV B (st := [.int (iI (z1142))]) (av := []) dL_law_1146 cs_X8_dead kw_1203 ⟨rfl, rfl, Nat.le_of_ble_eq_true rfl, Nat.le_of_ble_eq_true rfl⟩ rfl rfl (Nat.le_of_ble_eq_true rfl) (rc_obj B (ci := 8) rfl rfl rfl) (c_X8_dead _ E _  (pre_dead i3 hz1142).1 (pre_dead i3 hz1142).2) (k_i (fun z1146 M1146 hz1146 => ?_))
        have hs := st_dead hwN i3 hz1142 hz1146
        refine x_same B (tgt := 1400) dL_law_1149 (by decide) hs.1 ?_
        refine x_iinc B (q := 3) dL_law_1400 rfl [1, 2, 3, 0] (by decide) (lv' := [(0, .ref b), (1, .ref (E.1 (0))), (2, .ref (E.1 (71))), (3, .int (iI (i + 7)))]) rfl ?_
        refine x_goto B (tgt := 18) dL_law_1403 (by decide) ?_
        exact ih18 (i + 7) M1146 (⟨by omega, by omega, hs.2⟩) (by omega)
      · refine x_tabIn B (tgt := 1154) 30 dL_law_33 ⟨by omega, by omega⟩ (by omega) (by omega) rfl (by decide) ?_
        refine x_aload_n B dL_law_1154 1 rfl rfl ?_
        refine x_aload_n B dL_law_1155 0 rfl rfl ?_
        refine x_iload_n B dL_law_1156 3 rfl rfl ?_
        refine x_iconst B dL_law_1157 ?_
        refine x_iadd B dL_law_1158 ?_
        refine x_sld B S dL_law_1159 (by omega) (by omega) ?_
        refine x_aload_n B dL_law_1160 0 rfl rfl ?_
        refine x_iload_n B dL_law_1161 3 rfl rfl ?_
        refine x_iconst B dL_law_1162 ?_
        refine x_iadd B dL_law_1163 ?_
        refine x_sld B S dL_law_1164 (by omega) (by omega) ?_
        have J1173 : ∀ (j1165 : Int), (j1165 = nz (sX xs (i + 2)) ∧ 0 ≤ j1165 ∧ j1165 ≤ 1) → Vx x E N 1173 [(0, .ref b), (1, .ref (E.1 (0))), (2, .ref (E.1 (71))), (3, .int (iI (i)))] [.int (iI (j1165)), .int (iI (sX xs (i + 1))), .ref (E.1 (0))] := by
          intro j1165 hJ
          obtain ⟨e1165, l1165, u1165⟩ := hJ
          refine x_callV B (st := []) (av := [.int (iI (sX xs (i + 1))), .int (iI (j1165))]) dL_law_1173 cs_X7_kill kw_750 ⟨rfl, rfl, Nat.le_of_ble_eq_true rfl, Nat.le_of_ble_eq_true rfl⟩ rfl rfl (Nat.le_of_ble_eq_true rfl) (rc_obj B (ci := 7) rfl rfl rfl) (c_X7_kill _ E _ (sX xs (i + 1)) j1165 (by omega) (by omega) (by omega) (by omega)) (k_i (fun z1173 M1173 hz1173 => ?_))
          refine x_aload_n B dL_law_1176 2 rfl rfl ?_
          refine x_aload_n B dL_law_1177 0 rfl rfl ?_
          refine x_iload_n B dL_law_1178 3 rfl rfl ?_
          refine x_iconst B dL_law_1179 ?_
          refine x_iadd B dL_law_1180 ?_
          refine x_sld B S dL_law_1181 (by omega) (by omega) ?_
          refine x_aload_n B dL_law_1182 0 rfl rfl ?_
          refine x_iload_n B dL_law_1183 3 rfl rfl ?_
          refine x_iconst B dL_law_1184 ?_
          refine x_iadd B dL_law_1185 ?_
          refine x_sld B S dL_law_1186 (by omega) (by omega) ?_
          have J1195 : ∀ (j1187 : Int), (j1187 = nz (sX xs (i + 2)) ∧ 0 ≤ j1187 ∧ j1187 ≤ 1) → Vx x E M1173 1195 [(0, .ref b), (1, .ref (E.1 (0))), (2, .ref (E.1 (71))), (3, .int (iI (i)))] [.int (iI (j1187)), .int (iI (sX xs (i + 1))), .ref (E.1 (71)), .int (iI (z1173))] := by
            intro j1187 hJ
            obtain ⟨e1187, l1187, u1187⟩ := hJ
            refine x_callV B (st := [.int (iI (z1173))]) (av := [.int (iI (sX xs (i + 1))), .int (iI (j1187))]) dL_law_1195 cs_X8_kill kw_1207 ⟨rfl, rfl, Nat.le_of_ble_eq_true rfl, Nat.le_of_ble_eq_true rfl⟩ rfl rfl (Nat.le_of_ble_eq_true rfl) (rc_obj B (ci := 8) rfl rfl rfl) (c_X8_kill _ E _ (sX xs (i + 1)) j1187 (by omega) (by omega) (by omega) (by omega)) (k_i (fun z1195 M1195 hz1195 => ?_))
            rw [e1165] at hz1173
            rw [e1187] at hz1195
            have hs := st_kill hwN i3 hz1173 hz1195
            refine x_same B (tgt := 1400) dL_law_1198 (by decide) hs.1 ?_
            refine x_iinc B (q := 3) dL_law_1400 rfl [1, 2, 3, 0] (by decide) (lv' := [(0, .ref b), (1, .ref (E.1 (0))), (2, .ref (E.1 (71))), (3, .int (iI (i + 7)))]) rfl ?_
            refine x_goto B (tgt := 18) dL_law_1403 (by decide) ?_
            exact ih18 (i + 7) M1195 (⟨by omega, by omega, hs.2⟩) (by omega)
          refine x_if_eq B (tgt := 1194) dL_law_1187 (by decide) ⟨by omega, by omega⟩ (fun c1187 => ?_) (fun c1187 => ?_)
          · show Vx x E M1173 1194 [(0, .ref b), (1, .ref (E.1 (0))), (2, .ref (E.1 (71))), (3, .int (iI (i)))] [.int (iI (sX xs (i + 1))), .ref (E.1 (71)), .int (iI (z1173))]
            refine x_iconst B dL_law_1194 ?_
            exact J1195 0 (⟨by unfold nz; rw [if_pos c1187], by omega, by omega⟩)
          · show Vx x E M1173 1190 [(0, .ref b), (1, .ref (E.1 (0))), (2, .ref (E.1 (71))), (3, .int (iI (i)))] [.int (iI (sX xs (i + 1))), .ref (E.1 (71)), .int (iI (z1173))]
            refine x_iconst B dL_law_1190 ?_
            refine x_goto B (tgt := 1195) dL_law_1191 (by decide) ?_
            exact J1195 1 (⟨by unfold nz; rw [if_neg c1187], by omega, by omega⟩)
        refine x_if_eq B (tgt := 1172) dL_law_1165 (by decide) ⟨by omega, by omega⟩ (fun c1165 => ?_) (fun c1165 => ?_)
        · show Vx x E N 1172 [(0, .ref b), (1, .ref (E.1 (0))), (2, .ref (E.1 (71))), (3, .int (iI (i)))] [.int (iI (sX xs (i + 1))), .ref (E.1 (0))]
          refine x_iconst B dL_law_1172 ?_
          exact J1173 0 (⟨by unfold nz; rw [if_pos c1165], by omega, by omega⟩)
        · show Vx x E N 1168 [(0, .ref b), (1, .ref (E.1 (0))), (2, .ref (E.1 (71))), (3, .int (iI (i)))] [.int (iI (sX xs (i + 1))), .ref (E.1 (0))]
          refine x_iconst B dL_law_1168 ?_
          refine x_goto B (tgt := 1173) dL_law_1169 (by decide) ?_
          exact J1173 1 (⟨by unfold nz; rw [if_neg c1165], by omega, by omega⟩)
      · refine x_tabIn B (tgt := 1203) 31 dL_law_33 ⟨by omega, by omega⟩ (by omega) (by omega) rfl (by decide) ?_
        refine x_aload_n B dL_law_1203 1 rfl rfl ?_
        refine x_aload_n B dL_law_1204 0 rfl rfl ?_
        refine x_iload_n B dL_law_1205 3 rfl rfl ?_
        refine x_iconst B dL_law_1206 ?_
        refine x_iadd B dL_law_1207 ?_
        refine x_sld B S dL_law_1208 (by omega) (by omega) ?_
        refine x_aload_n B dL_law_1209 0 rfl rfl ?_
        refine x_iload_n B dL_law_1210 3 rfl rfl ?_
        refine x_iconst B dL_law_1211 ?_
        refine x_iadd B dL_law_1212 ?_
        refine x_sld B S dL_law_1213 (by omega) (by omega) ?_
        refine x_aload_n B dL_law_1214 0 rfl rfl ?_
        refine x_iload_n B dL_law_1215 3 rfl rfl ?_
        refine x_iconst B dL_law_1216 ?_
        refine x_iadd B dL_law_1217 ?_
        refine x_sld B S dL_law_1218 (by omega) (by omega) ?_
        refine x_callV B (st := []) (av := [.int (iI (sX xs (i + 1))), .int (iI (sX xs (i + 2))), .int (iI (sX xs (i + 3)))]) dL_law_1219 cs_X7_sheet kw_754 ⟨rfl, rfl, Nat.le_of_ble_eq_true rfl, Nat.le_of_ble_eq_true rfl⟩ rfl rfl (Nat.le_of_ble_eq_true rfl) (rc_obj B (ci := 7) rfl rfl rfl) (c_X7_sheet _ E _ (sX xs (i + 1)) (sX xs (i + 2)) (sX xs (i + 3)) (by omega) (by omega) (by omega) (by omega) (by omega) (by omega)) (k_i (fun z1219 M1219 hz1219 => ?_))
        refine x_aload_n B dL_law_1222 2 rfl rfl ?_
        refine x_aload_n B dL_law_1223 0 rfl rfl ?_
        refine x_iload_n B dL_law_1224 3 rfl rfl ?_
        refine x_iconst B dL_law_1225 ?_
        refine x_iadd B dL_law_1226 ?_
        refine x_sld B S dL_law_1227 (by omega) (by omega) ?_
        refine x_aload_n B dL_law_1228 0 rfl rfl ?_
        refine x_iload_n B dL_law_1229 3 rfl rfl ?_
        refine x_iconst B dL_law_1230 ?_
        refine x_iadd B dL_law_1231 ?_
        refine x_sld B S dL_law_1232 (by omega) (by omega) ?_
        refine x_aload_n B dL_law_1233 0 rfl rfl ?_
        refine x_iload_n B dL_law_1234 3 rfl rfl ?_
        refine x_iconst B dL_law_1235 ?_
        refine x_iadd B dL_law_1236 ?_
        refine x_sld B S dL_law_1237 (by omega) (by omega) ?_
        refine x_callV B (st := [.int (iI (z1219))]) (av := [.int (iI (sX xs (i + 1))), .int (iI (sX xs (i + 2))), .int (iI (sX xs (i + 3)))]) dL_law_1238 cs_X8_sheet kw_1211 ⟨rfl, rfl, Nat.le_of_ble_eq_true rfl, Nat.le_of_ble_eq_true rfl⟩ rfl rfl (Nat.le_of_ble_eq_true rfl) (rc_obj B (ci := 8) rfl rfl rfl) (c_X8_sheet _ E _ (sX xs (i + 1)) (sX xs (i + 2)) (sX xs (i + 3)) (by omega) (by omega) (by omega) (by omega) (by omega) (by omega)) (k_i (fun z1238 M1238 hz1238 => ?_))
        have hs := st_sheet hwN i3 hz1219 hz1238
        refine x_same B (tgt := 1400) dL_law_1241 (by decide) hs.1 ?_
        refine x_iinc B (q := 3) dL_law_1400 rfl [1, 2, 3, 0] (by decide) (lv' := [(0, .ref b), (1, .ref (E.1 (0))), (2, .ref (E.1 (71))), (3, .int (iI (i + 7)))]) rfl ?_
        refine x_goto B (tgt := 18) dL_law_1403 (by decide) ?_
        exact ih18 (i + 7) M1238 (⟨by omega, by omega, hs.2⟩) (by omega)
      · refine x_tabIn B (tgt := 1246) 32 dL_law_33 ⟨by omega, by omega⟩ (by omega) (by omega) rfl (by decide) ?_
        refine x_aload_n B dL_law_1246 1 rfl rfl ?_
        refine x_aload_n B dL_law_1247 0 rfl rfl ?_
        refine x_iload_n B dL_law_1248 3 rfl rfl ?_
        refine x_iconst B dL_law_1249 ?_
        refine x_iadd B dL_law_1250 ?_
        refine x_sld B S dL_law_1251 (by omega) (by omega) ?_
        refine x_aload_n B dL_law_1252 0 rfl rfl ?_
        refine x_iload_n B dL_law_1253 3 rfl rfl ?_
        refine x_iconst B dL_law_1254 ?_
        refine x_iadd B dL_law_1255 ?_
        refine x_sld B S dL_law_1256 (by omega) (by omega) ?_
        refine x_aload_n B dL_law_1257 0 rfl rfl ?_
        refine x_iload_n B dL_law_1258 3 rfl rfl ?_
        refine x_iconst B dL_law_1259 ?_
        refine x_iadd B dL_law_1260 ?_
        refine x_sld B S dL_law_1261 (by omega) (by omega) ?_
        refine x_callV B (st := []) (av := [.int (iI (sX xs (i + 1))), .int (iI (sX xs (i + 2))), .int (iI (sX xs (i + 3)))]) dL_law_1262 cs_X7_lay kw_763 ⟨rfl, rfl, Nat.le_of_ble_eq_true rfl, Nat.le_of_ble_eq_true rfl⟩ rfl rfl (Nat.le_of_ble_eq_true rfl) (rc_obj B (ci := 7) rfl rfl rfl) (c_X7_lay _ E _ (sX xs (i + 1)) (sX xs (i + 2)) (sX xs (i + 3)) (by omega) (by omega) (by omega) (by omega) (by omega) (by omega)) (k_i (fun z1262 M1262 hz1262 => ?_))
        refine x_aload_n B dL_law_1265 2 rfl rfl ?_
        refine x_aload_n B dL_law_1266 0 rfl rfl ?_
        refine x_iload_n B dL_law_1267 3 rfl rfl ?_
        refine x_iconst B dL_law_1268 ?_
        refine x_iadd B dL_law_1269 ?_
        refine x_sld B S dL_law_1270 (by omega) (by omega) ?_
        refine x_aload_n B dL_law_1271 0 rfl rfl ?_
        refine x_iload_n B dL_law_1272 3 rfl rfl ?_
        refine x_iconst B dL_law_1273 ?_
        refine x_iadd B dL_law_1274 ?_
        refine x_sld B S dL_law_1275 (by omega) (by omega) ?_
        refine x_aload_n B dL_law_1276 0 rfl rfl ?_
        refine x_iload_n B dL_law_1277 3 rfl rfl ?_
        refine x_iconst B dL_law_1278 ?_
        refine x_iadd B dL_law_1279 ?_
        refine x_sld B S dL_law_1280 (by omega) (by omega) ?_
        refine x_callV B (st := [.int (iI (z1262))]) (av := [.int (iI (sX xs (i + 1))), .int (iI (sX xs (i + 2))), .int (iI (sX xs (i + 3)))]) dL_law_1281 cs_X8_lay kw_1215 ⟨rfl, rfl, Nat.le_of_ble_eq_true rfl, Nat.le_of_ble_eq_true rfl⟩ rfl rfl (Nat.le_of_ble_eq_true rfl) (rc_obj B (ci := 8) rfl rfl rfl) (c_X8_lay _ E _ (sX xs (i + 1)) (sX xs (i + 2)) (sX xs (i + 3)) (by omega) (by omega) (by omega) (by omega) (by omega) (by omega)) (k_i (fun z1281 M1281 hz1281 => ?_))
        have hs := st_lay hwN i3 hz1262 hz1281
        refine x_same B (tgt := 1400) dL_law_1284 (by decide) hs.1 ?_
        refine x_iinc B (q := 3) dL_law_1400 rfl [1, 2, 3, 0] (by decide) (lv' := [(0, .ref b), (1, .ref (E.1 (0))), (2, .ref (E.1 (71))), (3, .int (iI (i + 7)))]) rfl ?_
        refine x_goto B (tgt := 18) dL_law_1403 (by decide) ?_
        exact ih18 (i + 7) M1281 (⟨by omega, by omega, hs.2⟩) (by omega)
      · refine x_tabIn B (tgt := 1289) 33 dL_law_33 ⟨by omega, by omega⟩ (by omega) (by omega) rfl (by decide) ?_
        refine x_aload_n B dL_law_1289 1 rfl rfl ?_
        refine x_aload_n B dL_law_1290 0 rfl rfl ?_
        refine x_iload_n B dL_law_1291 3 rfl rfl ?_
        refine x_iconst B dL_law_1292 ?_
        refine x_iadd B dL_law_1293 ?_
        refine x_sld B S dL_law_1294 (by omega) (by omega) ?_
        refine x_aload_n B dL_law_1295 0 rfl rfl ?_
        refine x_iload_n B dL_law_1296 3 rfl rfl ?_
        refine x_iconst B dL_law_1297 ?_
        refine x_iadd B dL_law_1298 ?_
        refine x_sld B S dL_law_1299 (by omega) (by omega) ?_
        refine x_aload_n B dL_law_1300 0 rfl rfl ?_
        refine x_iload_n B dL_law_1301 3 rfl rfl ?_
        refine x_iconst B dL_law_1302 ?_
        refine x_iadd B dL_law_1303 ?_
        refine x_sld B S dL_law_1304 (by omega) (by omega) ?_
        refine x_aload_n B dL_law_1305 0 rfl rfl ?_
        refine x_iload_n B dL_law_1306 3 rfl rfl ?_
        refine x_iconst B dL_law_1307 ?_
        refine x_iadd B dL_law_1308 ?_
        refine x_sld B S dL_law_1309 (by omega) (by omega) ?_
        refine x_aload_n B dL_law_1310 0 rfl rfl ?_
        refine x_iload_n B dL_law_1311 3 rfl rfl ?_
        refine x_iconst B dL_law_1312 ?_
        refine x_iadd B dL_law_1313 ?_
        refine x_sld B S dL_law_1314 (by omega) (by omega) ?_
        refine x_aload_n B dL_law_1315 0 rfl rfl ?_
        refine x_iload_n B dL_law_1316 3 rfl rfl ?_
        refine x_bipush B dL_law_1317 rfl ?_
        refine x_iadd B dL_law_1319 ?_
        refine x_sld B S dL_law_1320 (by omega) (by omega) ?_
        refine x_callV B (st := []) (av := [.int (iI (sX xs (i + 1))), .int (iI (sX xs (i + 2))), .int (iI (sX xs (i + 3))), .int (iI (sX xs (i + 4))), .int (iI (sX xs (i + 5))), .int (iI (sX xs (i + 6)))]) dL_law_1321 cs_X7_read kw_775 ⟨rfl, rfl, Nat.le_of_ble_eq_true rfl, Nat.le_of_ble_eq_true rfl⟩ rfl rfl (Nat.le_of_ble_eq_true rfl) (rc_obj B (ci := 7) rfl rfl rfl) (c_X7_read _ E _ (sX xs (i + 1)) (sX xs (i + 2)) (sX xs (i + 3)) (sX xs (i + 4)) (sX xs (i + 5)) (sX xs (i + 6)) (by omega) (by omega) (by omega) (by omega) (by omega) (by omega) (by omega) (by omega) (by omega) (by omega) (by omega) (by omega)) (k_i (fun z1321 M1321 hz1321 => ?_))
        refine x_aload_n B dL_law_1324 2 rfl rfl ?_
        refine x_aload_n B dL_law_1325 0 rfl rfl ?_
        refine x_iload_n B dL_law_1326 3 rfl rfl ?_
        refine x_iconst B dL_law_1327 ?_
        refine x_iadd B dL_law_1328 ?_
        refine x_sld B S dL_law_1329 (by omega) (by omega) ?_
        refine x_aload_n B dL_law_1330 0 rfl rfl ?_
        refine x_iload_n B dL_law_1331 3 rfl rfl ?_
        refine x_iconst B dL_law_1332 ?_
        refine x_iadd B dL_law_1333 ?_
        refine x_sld B S dL_law_1334 (by omega) (by omega) ?_
        refine x_aload_n B dL_law_1335 0 rfl rfl ?_
        refine x_iload_n B dL_law_1336 3 rfl rfl ?_
        refine x_iconst B dL_law_1337 ?_
        refine x_iadd B dL_law_1338 ?_
        refine x_sld B S dL_law_1339 (by omega) (by omega) ?_
        refine x_aload_n B dL_law_1340 0 rfl rfl ?_
        refine x_iload_n B dL_law_1341 3 rfl rfl ?_
        refine x_iconst B dL_law_1342 ?_
        refine x_iadd B dL_law_1343 ?_
        refine x_sld B S dL_law_1344 (by omega) (by omega) ?_
        refine x_aload_n B dL_law_1345 0 rfl rfl ?_
        refine x_iload_n B dL_law_1346 3 rfl rfl ?_
        refine x_iconst B dL_law_1347 ?_
        refine x_iadd B dL_law_1348 ?_
        refine x_sld B S dL_law_1349 (by omega) (by omega) ?_
        refine x_aload_n B dL_law_1350 0 rfl rfl ?_
        refine x_iload_n B dL_law_1351 3 rfl rfl ?_
        refine x_bipush B dL_law_1352 rfl ?_
        refine x_iadd B dL_law_1354 ?_
        refine x_sld B S dL_law_1355 (by omega) (by omega) ?_
        refine x_callV B (st := [.int (iI (z1321))]) (av := [.int (iI (sX xs (i + 1))), .int (iI (sX xs (i + 2))), .int (iI (sX xs (i + 3))), .int (iI (sX xs (i + 4))), .int (iI (sX xs (i + 5))), .int (iI (sX xs (i + 6)))]) dL_law_1356 cs_X8_read kw_1219 ⟨rfl, rfl, Nat.le_of_ble_eq_true rfl, Nat.le_of_ble_eq_true rfl⟩ rfl rfl (Nat.le_of_ble_eq_true rfl) (rc_obj B (ci := 8) rfl rfl rfl) (c_X8_read _ E _ (sX xs (i + 1)) (sX xs (i + 2)) (sX xs (i + 3)) (sX xs (i + 4)) (sX xs (i + 5)) (sX xs (i + 6)) (by omega) (by omega) (by omega) (by omega) (by omega) (by omega) (by omega) (by omega) (by omega) (by omega) (by omega) (by omega)) (k_i (fun z1356 M1356 hz1356 => ?_))
        have hs := st_read hwN i3 hz1321 hz1356
        refine x_same B (tgt := 1400) dL_law_1359 (by decide) hs.1 ?_
        refine x_iinc B (q := 3) dL_law_1400 rfl [1, 2, 3, 0] (by decide) (lv' := [(0, .ref b), (1, .ref (E.1 (0))), (2, .ref (E.1 (71))), (3, .int (iI (i + 7)))]) rfl ?_
        refine x_goto B (tgt := 18) dL_law_1403 (by decide) ?_
        exact ih18 (i + 7) M1356 (⟨by omega, by omega, hs.2⟩) (by omega)
      · refine x_tabIn B (tgt := 1364) 34 dL_law_33 ⟨by omega, by omega⟩ (by omega) (by omega) rfl (by decide) ?_
        refine x_aload_n B dL_law_1364 1 rfl rfl ?_
        refine x_callV B (st := []) (av := []) dL_law_1365 cs_X7_torn kw_787 ⟨rfl, rfl, Nat.le_of_ble_eq_true rfl, Nat.le_of_ble_eq_true rfl⟩ rfl rfl (Nat.le_of_ble_eq_true rfl) (rc_obj B (ci := 7) rfl rfl rfl) (c_X7_torn _ E _ ) (k_i (fun z1365 Mq hz1365 => ?_))
        obtain ⟨rfl, hz1365⟩ := hz1365
        refine x_aload_n B dL_law_1368 2 rfl rfl ?_
        refine x_callV B (st := [.int (iI (z1365))]) (av := []) dL_law_1369 cs_X8_torn kw_1224 ⟨rfl, rfl, Nat.le_of_ble_eq_true rfl, Nat.le_of_ble_eq_true rfl⟩ rfl rfl (Nat.le_of_ble_eq_true rfl) (rc_obj B (ci := 8) rfl rfl rfl) (c_X8_torn _ E _ ) (k_i (fun z1369 Mq hz1369 => ?_))
        obtain ⟨rfl, hz1369⟩ := hz1369
        have hs := st_torn hwN i3 ⟨rfl, hz1365⟩ ⟨rfl, hz1369⟩
        refine x_same B (tgt := 1400) dL_law_1372 (by decide) hs.1 ?_
        refine x_iinc B (q := 3) dL_law_1400 rfl [1, 2, 3, 0] (by decide) (lv' := [(0, .ref b), (1, .ref (E.1 (0))), (2, .ref (E.1 (71))), (3, .int (iI (i + 7)))]) rfl ?_
        refine x_goto B (tgt := 18) dL_law_1403 (by decide) ?_
        exact ih18 (i + 7) N (⟨by omega, by omega, hs.2⟩) (by omega)
      · refine x_tabIn B (tgt := 1377) 35 dL_law_33 ⟨by omega, by omega⟩ (by omega) (by omega) rfl (by decide) ?_
        refine x_aload_n B dL_law_1377 1 rfl rfl ?_
        refine x_aload_n B dL_law_1378 0 rfl rfl ?_
        refine x_iload_n B dL_law_1379 3 rfl rfl ?_
        refine x_iconst B dL_law_1380 ?_
        refine x_iadd B dL_law_1381 ?_
        refine x_sld B S dL_law_1382 (by omega) (by omega) ?_
        refine x_callV B (st := []) (av := [.int (iI (sX xs (i + 1)))]) dL_law_1383 cs_X7_count kw_791 ⟨rfl, rfl, Nat.le_of_ble_eq_true rfl, Nat.le_of_ble_eq_true rfl⟩ rfl rfl (Nat.le_of_ble_eq_true rfl) (rc_obj B (ci := 7) rfl rfl rfl) (c_X7_count _ E _ (sX xs (i + 1)) (by omega) (by omega)) (k_i (fun z1383 Mq hz1383 => ?_))
        obtain ⟨rfl, hz1383⟩ := hz1383
        refine x_aload_n B dL_law_1386 2 rfl rfl ?_
        refine x_aload_n B dL_law_1387 0 rfl rfl ?_
        refine x_iload_n B dL_law_1388 3 rfl rfl ?_
        refine x_iconst B dL_law_1389 ?_
        refine x_iadd B dL_law_1390 ?_
        refine x_sld B S dL_law_1391 (by omega) (by omega) ?_
        refine x_callV B (st := [.int (iI (z1383))]) (av := [.int (iI (sX xs (i + 1)))]) dL_law_1392 cs_X8_count kw_1228 ⟨rfl, rfl, Nat.le_of_ble_eq_true rfl, Nat.le_of_ble_eq_true rfl⟩ rfl rfl (Nat.le_of_ble_eq_true rfl) (rc_obj B (ci := 8) rfl rfl rfl) (c_X8_count _ E _ (sX xs (i + 1)) (by omega) (by omega)) (k_i (fun z1392 Mq hz1392 => ?_))
        obtain ⟨rfl, hz1392⟩ := hz1392
        have hs := st_count hwN i3 ⟨rfl, hz1383⟩ ⟨rfl, hz1392⟩
        refine x_same B (tgt := 1400) dL_law_1395 (by decide) hs.1 ?_
        refine x_iinc B (q := 3) dL_law_1400 rfl [1, 2, 3, 0] (by decide) (lv' := [(0, .ref b), (1, .ref (E.1 (0))), (2, .ref (E.1 (71))), (3, .int (iI (i + 7)))]) rfl ?_
        refine x_goto B (tgt := 18) dL_law_1403 (by decide) ?_
        exact ih18 (i + 7) N (⟨by omega, by omega, hs.2⟩) (by omega)
  exact L18 0 M (⟨by omega, by omega, hR⟩)
