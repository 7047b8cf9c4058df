theorem faN {sz0 ln0 la i g : Int} {M : Mem} {k : Nat} (h1 : sz0 = M 97 k) (h2 : ln0 = M 96 k) (hs : 0 ≤ sz0) (hg : ln0 = -4 ∧ g = 1 ∨ ¬ ln0 = -4 ∧ (¬ ln0 = la ∧ g = 3 ∨ ln0 = la ∧ (¬ (0 ≤ i ∧ i ≤ sz0 - 1) ∧ g = 2 ∨ (0 ≤ i ∧ i ≤ sz0 - 1) ∧ g = 0))) : Is g (faS (mSz M k) (M 96 k) la i) := by
  show g = _
  unfold faS mSz
  rw [← h1, ← h2]
  rcases hg with ⟨a, b⟩ | ⟨a, b⟩
  · rw [if_pos a, if_neg (by omega), if_pos (by omega)]
    exact b
  · rw [if_neg a]
    rcases b with ⟨c, d⟩ | ⟨c, d⟩
    · rw [if_pos ⟨hs, c⟩]
      exact d
    · rw [if_neg (fun q => q.2 c), if_neg (by omega)]
      rcases d with ⟨e, f⟩ | ⟨e, f⟩
      · rw [if_pos (by omega)]
        exact f
      · rw [if_neg (by omega)]
        exact f
theorem toOK_s {sz ln la f : Int} {ce : Nat → Int} {t : Int} (h : toOK sz ln la f ce t) (h1 : faS sz ln la (f + t) = 0) (h2 : 0 ≤ ce (f + t).toNat ∧ ce (f + t).toNat ≤ 9) : toOK sz ln la f ce (t + 1) := fun i i0 i1 => by
  rcases (show i < t ∨ i = t by omega) with h7 | h7
  · exact h i i0 h7
  · rw [h7]
    exact ⟨h1, h2⟩
theorem toOK_0 {sz ln la f : Int} {ce : Nat → Int} : toOK sz ln la f ce 0 := fun i i0 i1 => by omega
abbrev rm_X8_read : Room := { frames := 2, cells := 0, slots := 0, locals := 45 }
theorem cs_X8_read : Cv yX8_read cX8_read 10 (some .int) 6 := ⟨kw_1222, ⟨kw_1220, kw_1221⟩, kw_67, by decide, by decide, by decide +kernel⟩
set_option maxHeartbeats 4000000 in
set_option maxRecDepth 100000 in
theorem c_X8_read (l : Launch) (E : Ev) (M : Mem) (sc k la f c n : Int) (g1 : -2147483648 ≤ sc) (g2 : sc < 2147483648) (g3 : -2147483648 ≤ k) (g4 : k < 2147483648) (g5 : -2147483648 ≤ la) (g6 : la < 2147483648) (g7 : -2147483648 ≤ f) (g8 : f < 2147483648) (g9 : -2147483648 ≤ c) (g10 : c < 2147483648) (g11 : -2147483648 ≤ n) (g12 : n < 2147483648) : Ct l yX8_read cX8_read 10 (some .int) rm_X8_read E M [.ref (E.1 (71)), .int (iI (sc)), .int (iI (k)), .int (iI (la)), .int (iI (f)), .int (iI (c)), .int (iI (n))] (pI (fun z M' => z = -1 ∧ M' = M ∧ ¬ (0 ≤ sc ∧ sc < 6 ∧ 0 ≤ k ∧ k < 4 ∧ 0 ≤ la ∧ la < 3 ∧ 0 ≤ c ∧ 0 ≤ n ∧ c + n ≤ 64) ∨ (0 ≤ sc ∧ sc < 6 ∧ 0 ≤ k ∧ k < 4 ∧ 0 ≤ la ∧ la < 3 ∧ 0 ≤ c ∧ 0 ≤ n ∧ c + n ≤ 64) ∧ ∃ t : Int, 0 ≤ t ∧ t ≤ n ∧ toOK (mSz M k.toNat) (M 96 k.toNat) la f (mCe M k) t ∧ (t < n ∧ faS (mSz M k.toNat) (M 96 k.toNat) la (f + t) = 0 ∧ ¬ (0 ≤ (mCe M k) (f + t).toNat ∧ (mCe M k) (f + t).toNat ≤ 9) ∧ z = -20 - t ∧ M' = M ∨ ∃ r : Int, (t = n ∧ r = 0 ∨ t < n ∧ r = faS (mSz M k.toNat) (M 96 k.toNat) la (f + t) ∧ ¬ r = 0) ∧ z = t ∧ M' = sto (rdN M (64 * sc + c) n t f (mCe M k)) 71 45 r))) := by
  refine Ct_of (lv := [(0, .ref (E.1 (71))), (1, .int (iI (sc))), (2, .int (iI (k))), (3, .int (iI (la))), (4, .int (iI (f))), (5, .int (iI (c))), (6, .int (iI (n)))]) (by decide) ⟨rfl, rfl⟩ (Nat.le_of_ble_eq_true rfl) rfl (fun x _ B R => ?_)
  refine x_wf (fun hwf => ?_)
  have hs64 : (mSz M k.toNat) ≤ 64 := mSz_le hwf _
  refine x_iload_n B dX8_read_0 1 rfl rfl ?_
  refine x_callS B (st := []) (av := [.int (iI (sc))]) dX8_read_1 cs_X8_isScene kw_1006 ⟨rfl, rfl, Nat.le_of_ble_eq_true rfl, Nat.le_of_ble_eq_true rfl⟩ rfl rfl (Nat.le_of_ble_eq_true rfl) (c_X8_isScene _ E _ sc (by omega) (by omega)) (k_i (fun z1 Mq hz1 => ?_))
  obtain ⟨rfl, hz1⟩ := hz1
  refine x_if_eq B (tgt := 55) dX8_read_4 (by decide) ⟨by omega, by omega⟩ (fun c4 => ?_) (fun c4 => ?_)
  · show Vx x E M 55 [(0, .ref (E.1 (71))), (1, .int (iI (sc))), (2, .int (iI (k))), (3, .int (iI (la))), (4, .int (iI (f))), (5, .int (iI (c))), (6, .int (iI (n)))] []
    refine x_iconst B dX8_read_55 ?_
    exact r_i B R dX8_read_56 (Or.inl ⟨rfl, rfl, by omega⟩)
  · show Vx x E M 7 [(0, .ref (E.1 (71))), (1, .int (iI (sc))), (2, .int (iI (k))), (3, .int (iI (la))), (4, .int (iI (f))), (5, .int (iI (c))), (6, .int (iI (n)))] []
    refine x_iload_n B dX8_read_7 2 rfl rfl ?_
    refine x_i2l B dX8_read_8 ⟨by omega, by omega⟩ ?_
    refine x_lconst B (z := 0) dX8_read_9 rfl ?_
    refine x_ldc2 B (z := 3) dX8_read_10 kw_1041 rfl ?_
    refine x_callS B (st := []) (av := [.long (iL (k)), .long (iL (0)), .long (iL (3))]) dX8_read_13 cs_X8_in kw_952 ⟨rfl, rfl, Nat.le_of_ble_eq_true rfl, Nat.le_of_ble_eq_true rfl⟩ rfl rfl (Nat.le_of_ble_eq_true rfl) (c_X8_in _ E _ k 0 3 (by omega) (by omega) (by omega) (by omega) (by omega) (by omega)) (k_i (fun z13 Mq hz13 => ?_))
    obtain ⟨rfl, hz13⟩ := hz13
    refine x_if_eq B (tgt := 55) dX8_read_16 (by decide) ⟨by omega, by omega⟩ (fun c16 => ?_) (fun c16 => ?_)
    · show Vx x E M 55 [(0, .ref (E.1 (71))), (1, .int (iI (sc))), (2, .int (iI (k))), (3, .int (iI (la))), (4, .int (iI (f))), (5, .int (iI (c))), (6, .int (iI (n)))] []
      refine x_iconst B dX8_read_55 ?_
      exact r_i B R dX8_read_56 (Or.inl ⟨rfl, rfl, by omega⟩)
    · show Vx x E M 19 [(0, .ref (E.1 (71))), (1, .int (iI (sc))), (2, .int (iI (k))), (3, .int (iI (la))), (4, .int (iI (f))), (5, .int (iI (c))), (6, .int (iI (n)))] []
      refine x_iload_n B dX8_read_19 3 rfl rfl ?_
      refine x_i2l B dX8_read_20 ⟨by omega, by omega⟩ ?_
      refine x_lconst B (z := 0) dX8_read_21 rfl ?_
      refine x_ldc2 B (z := 2) dX8_read_22 kw_1076 rfl ?_
      refine x_callS B (st := []) (av := [.long (iL (la)), .long (iL (0)), .long (iL (2))]) dX8_read_25 cs_X8_in kw_952 ⟨rfl, rfl, Nat.le_of_ble_eq_true rfl, Nat.le_of_ble_eq_true rfl⟩ rfl rfl (Nat.le_of_ble_eq_true rfl) (c_X8_in _ E _ la 0 2 (by omega) (by omega) (by omega) (by omega) (by omega) (by omega)) (k_i (fun z25 Mq hz25 => ?_))
      obtain ⟨rfl, hz25⟩ := hz25
      refine x_if_eq B (tgt := 55) dX8_read_28 (by decide) ⟨by omega, by omega⟩ (fun c28 => ?_) (fun c28 => ?_)
      · show Vx x E M 55 [(0, .ref (E.1 (71))), (1, .int (iI (sc))), (2, .int (iI (k))), (3, .int (iI (la))), (4, .int (iI (f))), (5, .int (iI (c))), (6, .int (iI (n)))] []
        refine x_iconst B dX8_read_55 ?_
        exact r_i B R dX8_read_56 (Or.inl ⟨rfl, rfl, by omega⟩)
      · show Vx x E M 31 [(0, .ref (E.1 (71))), (1, .int (iI (sc))), (2, .int (iI (k))), (3, .int (iI (la))), (4, .int (iI (f))), (5, .int (iI (c))), (6, .int (iI (n)))] []
        refine x_iload B dX8_read_31 6 rfl ?_
        refine x_if_lt B (tgt := 55) dX8_read_33 (by decide) ⟨by omega, by omega⟩ (fun c33 => ?_) (fun c33 => ?_)
        · show Vx x E M 55 [(0, .ref (E.1 (71))), (1, .int (iI (sc))), (2, .int (iI (k))), (3, .int (iI (la))), (4, .int (iI (f))), (5, .int (iI (c))), (6, .int (iI (n)))] []
          refine x_iconst B dX8_read_55 ?_
          exact r_i B R dX8_read_56 (Or.inl ⟨rfl, rfl, by omega⟩)
        · show Vx x E M 36 [(0, .ref (E.1 (71))), (1, .int (iI (sc))), (2, .int (iI (k))), (3, .int (iI (la))), (4, .int (iI (f))), (5, .int (iI (c))), (6, .int (iI (n)))] []
          refine x_iload B dX8_read_36 5 rfl ?_
          refine x_if_lt B (tgt := 55) dX8_read_38 (by decide) ⟨by omega, by omega⟩ (fun c38 => ?_) (fun c38 => ?_)
          · show Vx x E M 55 [(0, .ref (E.1 (71))), (1, .int (iI (sc))), (2, .int (iI (k))), (3, .int (iI (la))), (4, .int (iI (f))), (5, .int (iI (c))), (6, .int (iI (n)))] []
            refine x_iconst B dX8_read_55 ?_
            exact r_i B R dX8_read_56 (Or.inl ⟨rfl, rfl, by omega⟩)
          · show Vx x E M 41 [(0, .ref (E.1 (71))), (1, .int (iI (sc))), (2, .int (iI (k))), (3, .int (iI (la))), (4, .int (iI (f))), (5, .int (iI (c))), (6, .int (iI (n)))] []
            refine x_iload B dX8_read_41 5 rfl ?_
            refine x_i2l B dX8_read_43 ⟨by omega, by omega⟩ ?_
            refine x_iload B dX8_read_44 6 rfl ?_
            refine x_i2l B dX8_read_46 ⟨by omega, by omega⟩ ?_
            refine x_ladd B dX8_read_47 ?_
            refine x_ldc2 B (z := 64) dX8_read_48 kw_1223 rfl ?_
            refine x_lcmp B dX8_read_51 ⟨by omega, by omega⟩ ⟨by omega, by omega⟩ (fun c51 hc51 => ?_)
            refine x_if_le B (tgt := 57) dX8_read_52 (by decide) ⟨by omega, by omega⟩ (fun c52 => ?_) (fun c52 => ?_)
            · show Vx x E M 57 [(0, .ref (E.1 (71))), (1, .int (iI (sc))), (2, .int (iI (k))), (3, .int (iI (la))), (4, .int (iI (f))), (5, .int (iI (c))), (6, .int (iI (n)))] []
              refine x_iconst B dX8_read_57 ?_
              refine x_istore B dX8_read_58 [1, 2, 3, 4, 5, 6, 7, 0] (by decide) (lv' := [(0, .ref (E.1 (71))), (1, .int (iI (sc))), (2, .int (iI (k))), (3, .int (iI (la))), (4, .int (iI (f))), (5, .int (iI (c))), (6, .int (iI (n))), (7, .int (iI (0)))]) rfl ?_
              refine x_iconst B dX8_read_60 ?_
              refine x_istore B dX8_read_61 [1, 2, 3, 4, 5, 6, 7, 8, 0] (by decide) (lv' := [(0, .ref (E.1 (71))), (1, .int (iI (sc))), (2, .int (iI (k))), (3, .int (iI (la))), (4, .int (iI (f))), (5, .int (iI (c))), (6, .int (iI (n))), (7, .int (iI (0))), (8, .int (iI (0)))]) rfl ?_
              refine x_iconst B dX8_read_63 ?_
              refine x_istore B dX8_read_64 [1, 2, 3, 4, 5, 6, 7, 8, 9, 0] (by decide) (lv' := [(0, .ref (E.1 (71))), (1, .int (iI (sc))), (2, .int (iI (k))), (3, .int (iI (la))), (4, .int (iI (f))), (5, .int (iI (c))), (6, .int (iI (n))), (7, .int (iI (0))), (8, .int (iI (0))), (9, .int (iI (0)))]) rfl ?_
              have L66 : ∀ (y : Int) (wh : Int) (i : Int), (0 ≤ i ∧ i ≤ n ∧ 0 ≤ y ∧ y ≤ 3 ∧ (y = 0 ∧ wh = i ∨ ¬ y = 0 ∧ wh = i - 1) ∧ 0 ≤ wh ∧ toOK (mSz M k.toNat) (M 96 k.toNat) la f (mCe M k) wh ∧ (y = 0 ∨ Is y (faS (mSz M k.toNat) (M 96 k.toNat) la (f + wh)))) → Vx x E M 66 [(0, .ref (E.1 (71))), (1, .int (iI (sc))), (2, .int (iI (k))), (3, .int (iI (la))), (4, .int (iI (f))), (5, .int (iI (c))), (6, .int (iI (n))), (7, .int (iI (y))), (8, .int (iI (wh))), (9, .int (iI (i)))] [] := by
                refine lo3 _ _ (fun y wh i => (n - i).toNat) ?_
                intro y wh i hI ih66
                obtain ⟨i1, i2, i3, i4, i5, i6, i7, i8⟩ := hI
                refine x_iload B dX8_read_66 9 rfl ?_
                refine x_iload B dX8_read_68 6 rfl ?_
                refine x_icmp_ge B (tgt := 195) dX8_read_70 (by decide) ⟨by omega, by omega⟩ ⟨by omega, by omega⟩ (fun c70 => ?_) (fun c70 => ?_)
                · show Vx x E M 195 [(0, .ref (E.1 (71))), (1, .int (iI (sc))), (2, .int (iI (k))), (3, .int (iI (la))), (4, .int (iI (f))), (5, .int (iI (c))), (6, .int (iI (n))), (7, .int (iI (y))), (8, .int (iI (wh))), (9, .int (iI (i)))] []
                  refine x_iconst B dX8_read_195 ?_
                  refine x_istore B dX8_read_196 [1, 2, 3, 4, 5, 6, 7, 8, 9, 0] (by decide) (lv' := [(0, .ref (E.1 (71))), (1, .int (iI (sc))), (2, .int (iI (k))), (3, .int (iI (la))), (4, .int (iI (f))), (5, .int (iI (c))), (6, .int (iI (n))), (7, .int (iI (y))), (8, .int (iI (wh))), (9, .int (iI (0)))]) rfl ?_
                  have L198 : ∀ (i2 : Int) (M1 : Mem), (0 ≤ i2 ∧ i2 ≤ n ∧ M1 = rdN M (64 * sc + c) i2 wh f (mCe M k)) → Vx x E M1 198 [(0, .ref (E.1 (71))), (1, .int (iI (sc))), (2, .int (iI (k))), (3, .int (iI (la))), (4, .int (iI (f))), (5, .int (iI (c))), (6, .int (iI (n))), (7, .int (iI (y))), (8, .int (iI (wh))), (9, .int (iI (i2)))] [] := by
                    refine lo2 _ _ (fun i2 M1 => (n - i2).toNat) ?_
                    intro i2 M1 hI ih198
                    obtain ⟨n1, n2, n3⟩ := hI
                    refine x_iload B dX8_read_198 9 rfl ?_
                    refine x_iload B dX8_read_200 6 rfl ?_
                    refine x_icmp_ge B (tgt := 252) dX8_read_202 (by decide) ⟨by omega, by omega⟩ ⟨by omega, by omega⟩ (fun c202 => ?_) (fun c202 => ?_)
                    · show Vx x E M1 252 [(0, .ref (E.1 (71))), (1, .int (iI (sc))), (2, .int (iI (k))), (3, .int (iI (la))), (4, .int (iI (f))), (5, .int (iI (c))), (6, .int (iI (n))), (7, .int (iI (y))), (8, .int (iI (wh))), (9, .int (iI (i2)))] []
                      refine x_aload_n B dX8_read_252 0 rfl rfl ?_
                      refine x_iload B dX8_read_253 7 rfl ?_
                      refine x_put B (ci := 8) (k := 45) (lo := 0) (hi := 3) (ty := .int) dX8_read_255 rfl rfl rfl (by decide) inGX8 tyX8_ok nmX8 kw_850 rfl (by decide +kernel) (nar_i _) (fit_i _) rfl (by omega) (by omega) ?_
                      refine x_iload B dX8_read_258 8 rfl ?_
                      exact r_i B R dX8_read_260 (Or.inr ⟨by omega, wh, by omega, by omega, i7, Or.inr ⟨y, by rcases i8 with h | h; (exact Or.inl ⟨by omega, h⟩); (by_cases hy : y = 0; (exact Or.inl ⟨by omega, hy⟩); (exact Or.inr ⟨by omega, Is_e h, hy⟩)), rfl, by rw [n3, show i2 = n by omega]⟩⟩)
                    · show Vx x E M1 205 [(0, .ref (E.1 (71))), (1, .int (iI (sc))), (2, .int (iI (k))), (3, .int (iI (la))), (4, .int (iI (f))), (5, .int (iI (c))), (6, .int (iI (n))), (7, .int (iI (y))), (8, .int (iI (wh))), (9, .int (iI (i2)))] []
                      refine x_aload_n B dX8_read_205 0 rfl rfl ?_
                      refine x_getR B (ci := 8) (k := 18) dX8_read_206 rfl rfl rfl (by decide) inGX8 kw_823 ?_
                      refine x_bipush B dX8_read_209 rfl ?_
                      refine x_iload_n B dX8_read_211 1 rfl rfl ?_
                      refine x_imul B dX8_read_212 ?_
                      refine x_iload B dX8_read_213 5 rfl ?_
                      refine x_iadd B dX8_read_215 ?_
                      refine x_iload B dX8_read_216 9 rfl ?_
                      refine x_iadd B dX8_read_218 ?_
                      refine x_iload B dX8_read_219 9 rfl ?_
                      refine x_iload B dX8_read_221 8 rfl ?_
                      have J245 : ∀ (j : Int), (j = (if i2 < wh then (mCe M k) (f + i2).toNat else 0) ∧ 0 ≤ j ∧ j ≤ 9) → Vx x E M1 245 [(0, .ref (E.1 (71))), (1, .int (iI (sc))), (2, .int (iI (k))), (3, .int (iI (la))), (4, .int (iI (f))), (5, .int (iI (c))), (6, .int (iI (n))), (7, .int (iI (y))), (8, .int (iI (wh))), (9, .int (iI (i2)))] [.int (iI (j)), .int (iI (((64 * sc) + c) + i2)), .ref (E.1 (80))] := by
                        intro j hJ
                        obtain ⟨j1, j2, j3⟩ := hJ
                        refine x_iast B (lo := 0) (hi := 9) dX8_read_245 rfl (by omega) (by omega) rfl (by omega) (by omega) ?_
                        refine x_iinc B (q := 9) dX8_read_246 rfl [1, 2, 3, 4, 5, 6, 7, 8, 9, 0] (by decide) (lv' := [(0, .ref (E.1 (71))), (1, .int (iI (sc))), (2, .int (iI (k))), (3, .int (iI (la))), (4, .int (iI (f))), (5, .int (iI (c))), (6, .int (iI (n))), (7, .int (iI (y))), (8, .int (iI (wh))), (9, .int (iI (i2 + 1)))]) rfl ?_
                        refine x_goto B (tgt := 198) dX8_read_249 (by decide) ?_
                        exact ih198 (i2 + 1) (sto M1 80 (((64 * sc) + c) + i2).toNat j) (⟨by omega, by omega, by rw [n3]; exact rdN_s (by omega) n1 j1⟩) (by omega)
                      refine x_icmp_ge B (tgt := 244) dX8_read_223 (by decide) ⟨by omega, by omega⟩ ⟨by omega, by omega⟩ (fun c223 => ?_) (fun c223 => ?_)
                      · show Vx x E M1 244 [(0, .ref (E.1 (71))), (1, .int (iI (sc))), (2, .int (iI (k))), (3, .int (iI (la))), (4, .int (iI (f))), (5, .int (iI (c))), (6, .int (iI (n))), (7, .int (iI (y))), (8, .int (iI (wh))), (9, .int (iI (i2)))] [.int (iI (((64 * sc) + c) + i2)), .ref (E.1 (80))]
                        refine x_iconst B dX8_read_244 ?_
                        exact J245 0 (⟨by rw [if_neg (by omega)], by omega, by omega⟩)
                      · show Vx x E M1 226 [(0, .ref (E.1 (71))), (1, .int (iI (sc))), (2, .int (iI (k))), (3, .int (iI (la))), (4, .int (iI (f))), (5, .int (iI (c))), (6, .int (iI (n))), (7, .int (iI (y))), (8, .int (iI (wh))), (9, .int (iI (i2)))] [.int (iI (((64 * sc) + c) + i2)), .ref (E.1 (80))]
                        have hf2 := faS_0 (i7 i2 (by omega) (by omega)).1
                        refine x_aload_n B dX8_read_226 0 rfl rfl ?_
                        refine x_getR B (ci := 8) (k := 44) dX8_read_227 rfl rfl rfl (by decide) inGX8 kw_849 ?_
                        refine x_bipush B dX8_read_230 rfl ?_
                        refine x_iload_n B dX8_read_232 2 rfl rfl ?_
                        refine x_imul B dX8_read_233 ?_
                        refine x_iload B dX8_read_234 4 rfl ?_
                        refine x_iadd B dX8_read_236 ?_
                        refine x_iload B dX8_read_237 9 rfl ?_
                        refine x_iadd B dX8_read_239 ?_
                        refine x_iald B (lo := -2147483648) (hi := 2147483647) dX8_read_240 rfl (by omega) (by omega) rfl (fun z240 ez240 lz240 uz240 => ?_)
                        have e240 : Is z240 ((mCe M k) (f + i2).toNat) := by
                          show _ = M 98 (64 * k + (((f + i2).toNat : Nat) : Int)).toNat
                          rw [Is_e ez240, n3, rdN_f (by decide), show (64 * k + (((f + i2).toNat : Nat) : Int)).toNat = (64 * k + f + i2).toNat by omega]
                        refine x_goto B (tgt := 245) dX8_read_241 (by decide) ?_
                        exact J245 z240 (by rw [if_pos (by omega), ← Is_e e240]; have h := (i7 i2 (by omega) (by omega)).2; rw [← Is_e e240] at h; exact ⟨rfl, h.1, h.2⟩)
                  exact L198 0 M (⟨by omega, by omega, rdN_0⟩)
                · show Vx x E M 73 [(0, .ref (E.1 (71))), (1, .int (iI (sc))), (2, .int (iI (k))), (3, .int (iI (la))), (4, .int (iI (f))), (5, .int (iI (c))), (6, .int (iI (n))), (7, .int (iI (y))), (8, .int (iI (wh))), (9, .int (iI (i)))] []
                  have hwi0 : True := trivial
                  refine x_iload B dX8_read_73 7 rfl ?_
                  refine x_if_ne B (tgt := 195) dX8_read_75 (by decide) ⟨by omega, by omega⟩ (fun c75 => ?_) (fun c75 => ?_)
                  · show Vx x E M 195 [(0, .ref (E.1 (71))), (1, .int (iI (sc))), (2, .int (iI (k))), (3, .int (iI (la))), (4, .int (iI (f))), (5, .int (iI (c))), (6, .int (iI (n))), (7, .int (iI (y))), (8, .int (iI (wh))), (9, .int (iI (i)))] []
                    refine x_iconst B dX8_read_195 ?_
                    refine x_istore B dX8_read_196 [1, 2, 3, 4, 5, 6, 7, 8, 9, 0] (by decide) (lv' := [(0, .ref (E.1 (71))), (1, .int (iI (sc))), (2, .int (iI (k))), (3, .int (iI (la))), (4, .int (iI (f))), (5, .int (iI (c))), (6, .int (iI (n))), (7, .int (iI (y))), (8, .int (iI (wh))), (9, .int (iI (0)))]) rfl ?_
                    have L198 : ∀ (i2 : Int) (M1 : Mem), (0 ≤ i2 ∧ i2 ≤ n ∧ M1 = rdN M (64 * sc + c) i2 wh f (mCe M k)) → Vx x E M1 198 [(0, .ref (E.1 (71))), (1, .int (iI (sc))), (2, .int (iI (k))), (3, .int (iI (la))), (4, .int (iI (f))), (5, .int (iI (c))), (6, .int (iI (n))), (7, .int (iI (y))), (8, .int (iI (wh))), (9, .int (iI (i2)))] [] := by
                      refine lo2 _ _ (fun i2 M1 => (n - i2).toNat) ?_
                      intro i2 M1 hI ih198
                      obtain ⟨n1, n2, n3⟩ := hI
                      refine x_iload B dX8_read_198 9 rfl ?_
                      refine x_iload B dX8_read_200 6 rfl ?_
                      refine x_icmp_ge B (tgt := 252) dX8_read_202 (by decide) ⟨by omega, by omega⟩ ⟨by omega, by omega⟩ (fun c202 => ?_) (fun c202 => ?_)
                      · show Vx x E M1 252 [(0, .ref (E.1 (71))), (1, .int (iI (sc))), (2, .int (iI (k))), (3, .int (iI (la))), (4, .int (iI (f))), (5, .int (iI (c))), (6, .int (iI (n))), (7, .int (iI (y))), (8, .int (iI (wh))), (9, .int (iI (i2)))] []
                        refine x_aload_n B dX8_read_252 0 rfl rfl ?_
                        refine x_iload B dX8_read_253 7 rfl ?_
                        refine x_put B (ci := 8) (k := 45) (lo := 0) (hi := 3) (ty := .int) dX8_read_255 rfl rfl rfl (by decide) inGX8 tyX8_ok nmX8 kw_850 rfl (by decide +kernel) (nar_i _) (fit_i _) rfl (by omega) (by omega) ?_
                        refine x_iload B dX8_read_258 8 rfl ?_
                        exact r_i B R dX8_read_260 (Or.inr ⟨by omega, wh, by omega, by omega, i7, Or.inr ⟨y, by rcases i8 with h | h; (exact Or.inl ⟨by omega, h⟩); (by_cases hy : y = 0; (exact Or.inl ⟨by omega, hy⟩); (exact Or.inr ⟨by omega, Is_e h, hy⟩)), rfl, by rw [n3, show i2 = n by omega]⟩⟩)
                      · show Vx x E M1 205 [(0, .ref (E.1 (71))), (1, .int (iI (sc))), (2, .int (iI (k))), (3, .int (iI (la))), (4, .int (iI (f))), (5, .int (iI (c))), (6, .int (iI (n))), (7, .int (iI (y))), (8, .int (iI (wh))), (9, .int (iI (i2)))] []
                        refine x_aload_n B dX8_read_205 0 rfl rfl ?_
                        refine x_getR B (ci := 8) (k := 18) dX8_read_206 rfl rfl rfl (by decide) inGX8 kw_823 ?_
                        refine x_bipush B dX8_read_209 rfl ?_
                        refine x_iload_n B dX8_read_211 1 rfl rfl ?_
                        refine x_imul B dX8_read_212 ?_
                        refine x_iload B dX8_read_213 5 rfl ?_
                        refine x_iadd B dX8_read_215 ?_
                        refine x_iload B dX8_read_216 9 rfl ?_
                        refine x_iadd B dX8_read_218 ?_
                        refine x_iload B dX8_read_219 9 rfl ?_
                        refine x_iload B dX8_read_221 8 rfl ?_
                        have J245 : ∀ (j : Int), (j = (if i2 < wh then (mCe M k) (f + i2).toNat else 0) ∧ 0 ≤ j ∧ j ≤ 9) → Vx x E M1 245 [(0, .ref (E.1 (71))), (1, .int (iI (sc))), (2, .int (iI (k))), (3, .int (iI (la))), (4, .int (iI (f))), (5, .int (iI (c))), (6, .int (iI (n))), (7, .int (iI (y))), (8, .int (iI (wh))), (9, .int (iI (i2)))] [.int (iI (j)), .int (iI (((64 * sc) + c) + i2)), .ref (E.1 (80))] := by
                          intro j hJ
                          obtain ⟨j1, j2, j3⟩ := hJ
                          refine x_iast B (lo := 0) (hi := 9) dX8_read_245 rfl (by omega) (by omega) rfl (by omega) (by omega) ?_
                          refine x_iinc B (q := 9) dX8_read_246 rfl [1, 2, 3, 4, 5, 6, 7, 8, 9, 0] (by decide) (lv' := [(0, .ref (E.1 (71))), (1, .int (iI (sc))), (2, .int (iI (k))), (3, .int (iI (la))), (4, .int (iI (f))), (5, .int (iI (c))), (6, .int (iI (n))), (7, .int (iI (y))), (8, .int (iI (wh))), (9, .int (iI (i2 + 1)))]) rfl ?_
                          refine x_goto B (tgt := 198) dX8_read_249 (by decide) ?_
                          exact ih198 (i2 + 1) (sto M1 80 (((64 * sc) + c) + i2).toNat j) (⟨by omega, by omega, by rw [n3]; exact rdN_s (by omega) n1 j1⟩) (by omega)
                        refine x_icmp_ge B (tgt := 244) dX8_read_223 (by decide) ⟨by omega, by omega⟩ ⟨by omega, by omega⟩ (fun c223 => ?_) (fun c223 => ?_)
                        · show Vx x E M1 244 [(0, .ref (E.1 (71))), (1, .int (iI (sc))), (2, .int (iI (k))), (3, .int (iI (la))), (4, .int (iI (f))), (5, .int (iI (c))), (6, .int (iI (n))), (7, .int (iI (y))), (8, .int (iI (wh))), (9, .int (iI (i2)))] [.int (iI (((64 * sc) + c) + i2)), .ref (E.1 (80))]
                          refine x_iconst B dX8_read_244 ?_
                          exact J245 0 (⟨by rw [if_neg (by omega)], by omega, by omega⟩)
                        · show Vx x E M1 226 [(0, .ref (E.1 (71))), (1, .int (iI (sc))), (2, .int (iI (k))), (3, .int (iI (la))), (4, .int (iI (f))), (5, .int (iI (c))), (6, .int (iI (n))), (7, .int (iI (y))), (8, .int (iI (wh))), (9, .int (iI (i2)))] [.int (iI (((64 * sc) + c) + i2)), .ref (E.1 (80))]
                          have hf2 := faS_0 (i7 i2 (by omega) (by omega)).1
                          refine x_aload_n B dX8_read_226 0 rfl rfl ?_
                          refine x_getR B (ci := 8) (k := 44) dX8_read_227 rfl rfl rfl (by decide) inGX8 kw_849 ?_
                          refine x_bipush B dX8_read_230 rfl ?_
                          refine x_iload_n B dX8_read_232 2 rfl rfl ?_
                          refine x_imul B dX8_read_233 ?_
                          refine x_iload B dX8_read_234 4 rfl ?_
                          refine x_iadd B dX8_read_236 ?_
                          refine x_iload B dX8_read_237 9 rfl ?_
                          refine x_iadd B dX8_read_239 ?_
                          refine x_iald B (lo := -2147483648) (hi := 2147483647) dX8_read_240 rfl (by omega) (by omega) rfl (fun z240 ez240 lz240 uz240 => ?_)
                          have e240 : Is z240 ((mCe M k) (f + i2).toNat) := by
                            show _ = M 98 (64 * k + (((f + i2).toNat : Nat) : Int)).toNat
                            rw [Is_e ez240, n3, rdN_f (by decide), show (64 * k + (((f + i2).toNat : Nat) : Int)).toNat = (64 * k + f + i2).toNat by omega]
                          refine x_goto B (tgt := 245) dX8_read_241 (by decide) ?_
                          exact J245 z240 (by rw [if_pos (by omega), ← Is_e e240]; have h := (i7 i2 (by omega) (by omega)).2; rw [← Is_e e240] at h; exact ⟨rfl, h.1, h.2⟩)
                    exact L198 0 M (⟨by omega, by omega, rdN_0⟩)
                  · show Vx x E M 78 [(0, .ref (E.1 (71))), (1, .int (iI (sc))), (2, .int (iI (k))), (3, .int (iI (la))), (4, .int (iI (f))), (5, .int (iI (c))), (6, .int (iI (n))), (7, .int (iI (y))), (8, .int (iI (wh))), (9, .int (iI (i)))] []
                    have hwi : wh = i := by omega
                    refine x_aload_n B dX8_read_78 0 rfl rfl ?_
                    refine x_getR B (ci := 8) (k := 42) dX8_read_79 rfl rfl rfl (by decide) inGX8 kw_847 ?_
                    refine x_iload_n B dX8_read_82 2 rfl rfl ?_
                    refine x_iald B (lo := -4) (hi := 2) dX8_read_83 rfl (by omega) (by omega) rfl (fun z83 ez83 lz83 uz83 => ?_)
                    refine x_bipush B dX8_read_84 rfl ?_
                    have J135 : ∀ (g : Int), (Is g (faS (mSz M k.toNat) (M 96 k.toNat) la (f + i)) ∧ 0 ≤ g ∧ g ≤ 3) → Vx x E M 135 [(0, .ref (E.1 (71))), (1, .int (iI (sc))), (2, .int (iI (k))), (3, .int (iI (la))), (4, .int (iI (f))), (5, .int (iI (c))), (6, .int (iI (n))), (7, .int (iI (y))), (8, .int (iI (wh))), (9, .int (iI (i)))] [.int (iI (g))] := by
                      intro g hJ
                      obtain ⟨q1, q2, q3⟩ := hJ
                      refine x_istore B dX8_read_135 [1, 2, 3, 4, 5, 6, 7, 0, 8, 9] (by decide) (lv' := [(0, .ref (E.1 (71))), (1, .int (iI (sc))), (2, .int (iI (k))), (3, .int (iI (la))), (4, .int (iI (f))), (5, .int (iI (c))), (6, .int (iI (n))), (7, .int (iI (g))), (8, .int (iI (wh))), (9, .int (iI (i)))]) rfl ?_
                      refine x_iload B dX8_read_137 7 rfl ?_
                      refine x_if_ne B (tgt := 174) dX8_read_139 (by decide) ⟨by omega, by omega⟩ (fun c139 => ?_) (fun c139 => ?_)
                      · show Vx x E M 174 [(0, .ref (E.1 (71))), (1, .int (iI (sc))), (2, .int (iI (k))), (3, .int (iI (la))), (4, .int (iI (f))), (5, .int (iI (c))), (6, .int (iI (n))), (7, .int (iI (g))), (8, .int (iI (wh))), (9, .int (iI (i)))] []
                        refine x_iload B dX8_read_174 8 rfl ?_
                        refine x_iload B dX8_read_176 7 rfl ?_
                        refine x_if_ne B (tgt := 185) dX8_read_178 (by decide) ⟨by omega, by omega⟩ (fun c178 => ?_) (fun c178 => ?_)
                        · show Vx x E M 185 [(0, .ref (E.1 (71))), (1, .int (iI (sc))), (2, .int (iI (k))), (3, .int (iI (la))), (4, .int (iI (f))), (5, .int (iI (c))), (6, .int (iI (n))), (7, .int (iI (g))), (8, .int (iI (wh))), (9, .int (iI (i)))] [.int (iI (wh))]
                          refine x_iconst B dX8_read_185 ?_
                          refine x_iadd B dX8_read_186 ?_
                          refine x_istore B dX8_read_187 [1, 2, 3, 4, 5, 6, 7, 8, 0, 9] (by decide) (lv' := [(0, .ref (E.1 (71))), (1, .int (iI (sc))), (2, .int (iI (k))), (3, .int (iI (la))), (4, .int (iI (f))), (5, .int (iI (c))), (6, .int (iI (n))), (7, .int (iI (g))), (8, .int (iI (wh + 0))), (9, .int (iI (i)))]) rfl ?_
                          refine x_iinc B (q := 9) dX8_read_189 rfl [1, 2, 3, 4, 5, 6, 7, 8, 9, 0] (by decide) (lv' := [(0, .ref (E.1 (71))), (1, .int (iI (sc))), (2, .int (iI (k))), (3, .int (iI (la))), (4, .int (iI (f))), (5, .int (iI (c))), (6, .int (iI (n))), (7, .int (iI (g))), (8, .int (iI (wh + 0))), (9, .int (iI (i + 1)))]) rfl ?_
                          refine x_goto B (tgt := 66) dX8_read_192 (by decide) ?_
                          exact ih66 g (wh + 0) (i + 1) (⟨by omega, by omega, by omega, by omega, Or.inr ⟨c178, by omega⟩, by omega, by rw [Int.add_zero]; exact i7, Or.inr (by rw [Int.add_zero, hwi]; exact q1)⟩) (by omega)
                        · show Vx x E M 181 [(0, .ref (E.1 (71))), (1, .int (iI (sc))), (2, .int (iI (k))), (3, .int (iI (la))), (4, .int (iI (f))), (5, .int (iI (c))), (6, .int (iI (n))), (7, .int (iI (g))), (8, .int (iI (wh))), (9, .int (iI (i)))] [.int (iI (wh))]
                          refine x_iconst B dX8_read_181 ?_
                          refine x_goto B (tgt := 186) dX8_read_182 (by decide) ?_
                          refine x_iadd B dX8_read_186 ?_
                          refine x_istore B dX8_read_187 [1, 2, 3, 4, 5, 6, 7, 8, 0, 9] (by decide) (lv' := [(0, .ref (E.1 (71))), (1, .int (iI (sc))), (2, .int (iI (k))), (3, .int (iI (la))), (4, .int (iI (f))), (5, .int (iI (c))), (6, .int (iI (n))), (7, .int (iI (g))), (8, .int (iI (wh + 1))), (9, .int (iI (i)))]) rfl ?_
                          refine x_iinc B (q := 9) dX8_read_189 rfl [1, 2, 3, 4, 5, 6, 7, 8, 9, 0] (by decide) (lv' := [(0, .ref (E.1 (71))), (1, .int (iI (sc))), (2, .int (iI (k))), (3, .int (iI (la))), (4, .int (iI (f))), (5, .int (iI (c))), (6, .int (iI (n))), (7, .int (iI (g))), (8, .int (iI (wh + 1))), (9, .int (iI (i + 1)))]) rfl ?_
                          refine x_goto B (tgt := 66) dX8_read_192 (by decide) ?_
                          exact ih66 g (wh + 1) (i + 1) (by first | (exfalso; omega) | exact ⟨by omega, by omega, by omega, by omega, Or.inl ⟨by omega, by omega⟩, by omega, toOK_s i7 (by rw [hwi, ← Is_e q1]; omega) (by rw [hwi, ← Is_e e156]; omega), Or.inl (by omega)⟩) (by omega)
                      · show Vx x E M 142 [(0, .ref (E.1 (71))), (1, .int (iI (sc))), (2, .int (iI (k))), (3, .int (iI (la))), (4, .int (iI (f))), (5, .int (iI (c))), (6, .int (iI (n))), (7, .int (iI (g))), (8, .int (iI (wh))), (9, .int (iI (i)))] []
                        have hf := faS_0 (show faS (mSz M k.toNat) (M 96 k.toNat) la (f + i) = 0 by rw [← Is_e q1]; omega)
                        refine x_aload_n B dX8_read_142 0 rfl rfl ?_
                        refine x_getR B (ci := 8) (k := 44) dX8_read_143 rfl rfl rfl (by decide) inGX8 kw_849 ?_
                        refine x_bipush B dX8_read_146 rfl ?_
                        refine x_iload_n B dX8_read_148 2 rfl rfl ?_
                        refine x_imul B dX8_read_149 ?_
                        refine x_iload B dX8_read_150 4 rfl ?_
                        refine x_iadd B dX8_read_152 ?_
                        refine x_iload B dX8_read_153 9 rfl ?_
                        refine x_iadd B dX8_read_155 ?_
                        refine x_iald B (lo := -2147483648) (hi := 2147483647) dX8_read_156 rfl (by omega) (by omega) rfl (fun z156 ez156 lz156 uz156 => ?_)
                        have e156 : Is z156 ((mCe M k) (f + i).toNat) := by
                          show _ = M 98 (64 * k + (((f + i).toNat : Nat) : Int)).toNat
                          rw [Is_e ez156, show (64 * k + (((f + i).toNat : Nat) : Int)).toNat = (64 * k + f + i).toNat by omega]
                        refine x_i2l B dX8_read_157 ⟨by omega, by omega⟩ ?_
                        refine x_lconst B (z := 0) dX8_read_158 rfl ?_
                        refine x_ldc2 B (z := 9) dX8_read_159 kw_1011 rfl ?_
                        refine x_callS B (st := []) (av := [.long (iL (z156)), .long (iL (0)), .long (iL (9))]) dX8_read_162 cs_X8_in kw_952 ⟨rfl, rfl, Nat.le_of_ble_eq_true rfl, Nat.le_of_ble_eq_true rfl⟩ rfl rfl (Nat.le_of_ble_eq_true rfl) (c_X8_in _ E _ z156 0 9 (by omega) (by omega) (by omega) (by omega) (by omega) (by omega)) (k_i (fun z162 Mq hz162 => ?_))
                        obtain ⟨rfl, hz162⟩ := hz162
                        refine x_if_ne B (tgt := 174) dX8_read_165 (by decide) ⟨by omega, by omega⟩ (fun c165 => ?_) (fun c165 => ?_)
                        · show Vx x E M 174 [(0, .ref (E.1 (71))), (1, .int (iI (sc))), (2, .int (iI (k))), (3, .int (iI (la))), (4, .int (iI (f))), (5, .int (iI (c))), (6, .int (iI (n))), (7, .int (iI (g))), (8, .int (iI (wh))), (9, .int (iI (i)))] []
                          refine x_iload B dX8_read_174 8 rfl ?_
                          refine x_iload B dX8_read_176 7 rfl ?_
                          refine x_if_ne B (tgt := 185) dX8_read_178 (by decide) ⟨by omega, by omega⟩ (fun c178 => ?_) (fun c178 => ?_)
                          · show Vx x E M 185 [(0, .ref (E.1 (71))), (1, .int (iI (sc))), (2, .int (iI (k))), (3, .int (iI (la))), (4, .int (iI (f))), (5, .int (iI (c))), (6, .int (iI (n))), (7, .int (iI (g))), (8, .int (iI (wh))), (9, .int (iI (i)))] [.int (iI (wh))]
                            refine x_iconst B dX8_read_185 ?_
                            refine x_iadd B dX8_read_186 ?_
                            refine x_istore B dX8_read_187 [1, 2, 3, 4, 5, 6, 7, 8, 0, 9] (by decide) (lv' := [(0, .ref (E.1 (71))), (1, .int (iI (sc))), (2, .int (iI (k))), (3, .int (iI (la))), (4, .int (iI (f))), (5, .int (iI (c))), (6, .int (iI (n))), (7, .int (iI (g))), (8, .int (iI (wh + 0))), (9, .int (iI (i)))]) rfl ?_
                            refine x_iinc B (q := 9) dX8_read_189 rfl [1, 2, 3, 4, 5, 6, 7, 8, 9, 0] (by decide) (lv' := [(0, .ref (E.1 (71))), (1, .int (iI (sc))), (2, .int (iI (k))), (3, .int (iI (la))), (4, .int (iI (f))), (5, .int (iI (c))), (6, .int (iI (n))), (7, .int (iI (g))), (8, .int (iI (wh + 0))), (9, .int (iI (i + 1)))]) rfl ?_
                            refine x_goto B (tgt := 66) dX8_read_192 (by decide) ?_
                            exact ih66 g (wh + 0) (i + 1) (⟨by omega, by omega, by omega, by omega, Or.inr ⟨c178, by omega⟩, by omega, by rw [Int.add_zero]; exact i7, Or.inr (by rw [Int.add_zero, hwi]; exact q1)⟩) (by omega)
                          · show Vx x E M 181 [(0, .ref (E.1 (71))), (1, .int (iI (sc))), (2, .int (iI (k))), (3, .int (iI (la))), (4, .int (iI (f))), (5, .int (iI (c))), (6, .int (iI (n))), (7, .int (iI (g))), (8, .int (iI (wh))), (9, .int (iI (i)))] [.int (iI (wh))]
                            refine x_iconst B dX8_read_181 ?_
                            refine x_goto B (tgt := 186) dX8_read_182 (by decide) ?_
                            refine x_iadd B dX8_read_186 ?_
                            refine x_istore B dX8_read_187 [1, 2, 3, 4, 5, 6, 7, 8, 0, 9] (by decide) (lv' := [(0, .ref (E.1 (71))), (1, .int (iI (sc))), (2, .int (iI (k))), (3, .int (iI (la))), (4, .int (iI (f))), (5, .int (iI (c))), (6, .int (iI (n))), (7, .int (iI (g))), (8, .int (iI (wh + 1))), (9, .int (iI (i)))]) rfl ?_
                            refine x_iinc B (q := 9) dX8_read_189 rfl [1, 2, 3, 4, 5, 6, 7, 8, 9, 0] (by decide) (lv' := [(0, .ref (E.1 (71))), (1, .int (iI (sc))), (2, .int (iI (k))), (3, .int (iI (la))), (4, .int (iI (f))), (5, .int (iI (c))), (6, .int (iI (n))), (7, .int (iI (g))), (8, .int (iI (wh + 1))), (9, .int (iI (i + 1)))]) rfl ?_
                            refine x_goto B (tgt := 66) dX8_read_192 (by decide) ?_
                            exact ih66 g (wh + 1) (i + 1) (by first | (exfalso; omega) | exact ⟨by omega, by omega, by omega, by omega, Or.inl ⟨by omega, by omega⟩, by omega, toOK_s i7 (by rw [hwi, ← Is_e q1]; omega) (by rw [hwi, ← Is_e e156]; omega), Or.inl (by omega)⟩) (by omega)
                        · show Vx x E M 168 [(0, .ref (E.1 (71))), (1, .int (iI (sc))), (2, .int (iI (k))), (3, .int (iI (la))), (4, .int (iI (f))), (5, .int (iI (c))), (6, .int (iI (n))), (7, .int (iI (g))), (8, .int (iI (wh))), (9, .int (iI (i)))] []
                          refine x_bipush B dX8_read_168 rfl ?_
                          refine x_iload B dX8_read_170 9 rfl ?_
                          refine x_isub B dX8_read_172 ?_
                          exact r_i B R dX8_read_173 (Or.inr ⟨by omega, i, by omega, by omega, by rw [← hwi]; exact i7, Or.inl ⟨by omega, by rw [← Is_e q1]; omega, by rw [← Is_e e156]; omega, rfl, rfl⟩⟩)
                    refine x_icmp_ne B (tgt := 93) dX8_read_86 (by decide) ⟨by omega, by omega⟩ ⟨by omega, by omega⟩ (fun c86 => ?_) (fun c86 => ?_)
                    · show Vx x E M 93 [(0, .ref (E.1 (71))), (1, .int (iI (sc))), (2, .int (iI (k))), (3, .int (iI (la))), (4, .int (iI (f))), (5, .int (iI (c))), (6, .int (iI (n))), (7, .int (iI (y))), (8, .int (iI (wh))), (9, .int (iI (i)))] []
                      refine x_aload_n B dX8_read_93 0 rfl rfl ?_
                      refine x_getR B (ci := 8) (k := 42) dX8_read_94 rfl rfl rfl (by decide) inGX8 kw_847 ?_
                      refine x_iload_n B dX8_read_97 2 rfl rfl ?_
                      skip
                      refine x_iald B (lo := -4) (hi := 2) dX8_read_98 rfl (by omega) (by omega) rfl (fun z98 ez98 lz98 uz98 => ?_)
                      have e98 : z98 = z83 := (Is_e ez98).trans (Is_e ez83).symm
                      refine x_iload_n B dX8_read_99 3 rfl rfl ?_
                      refine x_icmp_eq B (tgt := 107) dX8_read_100 (by decide) ⟨by omega, by omega⟩ ⟨by omega, by omega⟩ (fun c100 => ?_) (fun c100 => ?_)
                      · show Vx x E M 107 [(0, .ref (E.1 (71))), (1, .int (iI (sc))), (2, .int (iI (k))), (3, .int (iI (la))), (4, .int (iI (f))), (5, .int (iI (c))), (6, .int (iI (n))), (7, .int (iI (y))), (8, .int (iI (wh))), (9, .int (iI (i)))] []
                        refine x_iload B dX8_read_107 4 rfl ?_
                        refine x_i2l B dX8_read_109 ⟨by omega, by omega⟩ ?_
                        refine x_iload B dX8_read_110 9 rfl ?_
                        refine x_i2l B dX8_read_112 ⟨by omega, by omega⟩ ?_
                        refine x_ladd B dX8_read_113 ?_
                        refine x_lconst B (z := 0) dX8_read_114 rfl ?_
                        refine x_aload_n B dX8_read_115 0 rfl rfl ?_
                        refine x_getR B (ci := 8) (k := 43) dX8_read_116 rfl rfl rfl (by decide) inGX8 kw_848 ?_
                        refine x_iload_n B dX8_read_119 2 rfl rfl ?_
                        refine x_iald B (lo := 0) (hi := 64) dX8_read_120 rfl (by omega) (by omega) rfl (fun z120 ez120 lz120 uz120 => ?_)
                        refine x_iconst B dX8_read_121 ?_
                        refine x_isub B dX8_read_122 ?_
                        refine x_i2l B dX8_read_123 ⟨by omega, by omega⟩ ?_
                        refine x_callS B (st := []) (av := [.long (iL (f + i)), .long (iL (0)), .long (iL (z120 - 1))]) dX8_read_124 cs_X8_in kw_952 ⟨rfl, rfl, Nat.le_of_ble_eq_true rfl, Nat.le_of_ble_eq_true rfl⟩ rfl rfl (Nat.le_of_ble_eq_true rfl) (c_X8_in _ E _ (f + i) 0 (z120 - 1) (by omega) (by omega) (by omega) (by omega) (by omega) (by omega)) (k_i (fun z124 Mq hz124 => ?_))
                        obtain ⟨rfl, hz124⟩ := hz124
                        refine x_if_ne B (tgt := 134) dX8_read_127 (by decide) ⟨by omega, by omega⟩ (fun c127 => ?_) (fun c127 => ?_)
                        · show Vx x E M 134 [(0, .ref (E.1 (71))), (1, .int (iI (sc))), (2, .int (iI (k))), (3, .int (iI (la))), (4, .int (iI (f))), (5, .int (iI (c))), (6, .int (iI (n))), (7, .int (iI (y))), (8, .int (iI (wh))), (9, .int (iI (i)))] []
                          refine x_iconst B dX8_read_134 ?_
                          exact J135 0 (⟨faN (Is_e ez120) (Is_e ez83) (by omega) (by omega), by omega, by omega⟩)
                        · show Vx x E M 130 [(0, .ref (E.1 (71))), (1, .int (iI (sc))), (2, .int (iI (k))), (3, .int (iI (la))), (4, .int (iI (f))), (5, .int (iI (c))), (6, .int (iI (n))), (7, .int (iI (y))), (8, .int (iI (wh))), (9, .int (iI (i)))] []
                          refine x_iconst B dX8_read_130 ?_
                          refine x_goto B (tgt := 135) dX8_read_131 (by decide) ?_
                          exact J135 2 (⟨faN (Is_e ez120) (Is_e ez83) (by omega) (by omega), by omega, by omega⟩)
                      · show Vx x E M 103 [(0, .ref (E.1 (71))), (1, .int (iI (sc))), (2, .int (iI (k))), (3, .int (iI (la))), (4, .int (iI (f))), (5, .int (iI (c))), (6, .int (iI (n))), (7, .int (iI (y))), (8, .int (iI (wh))), (9, .int (iI (i)))] []
                        refine x_iconst B dX8_read_103 ?_
                        refine x_goto B (tgt := 135) dX8_read_104 (by decide) ?_
                        exact J135 3 (⟨by show _ = _; unfold faS mSz; rw [← Is_e ez83, if_neg c86, if_pos ⟨by have h : (0 : Int) ≤ M 97 k.toNat := (hwf 97 _).1; exact h, by omega⟩], by omega, by omega⟩)
                    · show Vx x E M 89 [(0, .ref (E.1 (71))), (1, .int (iI (sc))), (2, .int (iI (k))), (3, .int (iI (la))), (4, .int (iI (f))), (5, .int (iI (c))), (6, .int (iI (n))), (7, .int (iI (y))), (8, .int (iI (wh))), (9, .int (iI (i)))] []
                      refine x_iconst B dX8_read_89 ?_
                      refine x_goto B (tgt := 135) dX8_read_90 (by decide) ?_
                      exact J135 1 (⟨by show _ = _; unfold faS mSz; rw [← Is_e ez83, if_pos c86, if_neg (by omega), if_pos (by omega)], by omega, by omega⟩)
              exact L66 0 0 0 (⟨by omega, by omega, by omega, by omega, Or.inl ⟨rfl, rfl⟩, by omega, toOK_0, Or.inl rfl⟩)
            · show Vx x E M 55 [(0, .ref (E.1 (71))), (1, .int (iI (sc))), (2, .int (iI (k))), (3, .int (iI (la))), (4, .int (iI (f))), (5, .int (iI (c))), (6, .int (iI (n)))] []
              refine x_iconst B dX8_read_55 ?_
              exact r_i B R dX8_read_56 (Or.inl ⟨rfl, rfl, by omega⟩)
def coM (M : Mem) (w : Int) : Int := if w = 0 then M 71 19 else if w = 1 then ((popN (M 78 11).toNat 16 : Nat) : Int) else if w = 2 then ((popN (bK (poB (M 85)) 16) 16 : Nat) : Int) else if w = 3 then M 71 37 else if w = 4 then suK (fun j => if 0 < M 80 j then 1 else 0) 384 else if w = 5 then M 71 1 else if w = 6 then (if M 96 0 = -4 then -4 else M 97 0) else -1
abbrev rm_X8_count : Room := { frames := 1, cells := 0, slots := 0, locals := 22 }
theorem cs_X8_count : Cv yX8_count cX8_count 4 (some .int) 1 := ⟨kw_1231, ⟨kw_1229, kw_1230⟩, kw_67, by decide, by decide, by decide +kernel⟩
set_option maxHeartbeats 4000000 in
set_option maxRecDepth 100000 in
theorem c_X8_count (l : Launch) (E : Ev) (M : Mem) (w : Int) (g1 : -2147483648 ≤ w) (g2 : w < 2147483648) : Ct l yX8_count cX8_count 4 (some .int) rm_X8_count E M [.ref (E.1 (71)), .int (iI (w))] (pI (fun z M' => M = M' ∧ (z = coM M w))) := by
  refine Ct_of (lv := [(0, .ref (E.1 (71))), (1, .int (iI (w)))]) (by decide) ⟨rfl, rfl⟩ (Nat.le_of_ble_eq_true rfl) rfl (fun x _ B R => ?_)
  refine x_iconst B dX8_count_0 ?_
  refine x_istore_n B dX8_count_1 [1, 2, 0] rfl (by decide) (lv' := [(0, .ref (E.1 (71))), (1, .int (iI (w))), (2, .int (iI (0)))]) rfl ?_
  refine x_iconst B dX8_count_2 ?_
  refine x_istore_n B dX8_count_3 [1, 2, 3, 0] rfl (by decide) (lv' := [(0, .ref (E.1 (71))), (1, .int (iI (w))), (2, .int (iI (0))), (3, .int (iI (0)))]) rfl ?_
  have L4 : ∀ (a : Int) (k : Int), (0 ≤ k ∧ k ≤ 384 ∧ Is a (suK (fun j => if 0 < M 80 j then 1 else 0) k.toNat) ∧ 0 ≤ a ∧ a ≤ k) → Vx x E M 4 [(0, .ref (E.1 (71))), (1, .int (iI (w))), (2, .int (iI (a))), (3, .int (iI (k)))] [] := by
    refine lo2 _ _ (fun a k => (384 - k).toNat) ?_
    intro a k hI ih4
    obtain ⟨i1, i2, i3, i4, i5⟩ := hI
    refine x_iload_n B dX8_count_4 3 rfl rfl ?_
    refine x_sipush B dX8_count_5 rfl ?_
    refine x_icmp_ge B (tgt := 34) dX8_count_8 (by decide) ⟨by omega, by omega⟩ ⟨by omega, by omega⟩ (fun c8 => ?_) (fun c8 => ?_)
    · show Vx x E M 34 [(0, .ref (E.1 (71))), (1, .int (iI (w))), (2, .int (iI (a))), (3, .int (iI (k)))] []
      refine x_iload_n B dX8_count_34 1 rfl rfl ?_
      rcases (show (w < 0 ∨ 6 < w) ∨ w = 0 ∨ w = 1 ∨ w = 2 ∨ w = 3 ∨ w = 4 ∨ w = 5 ∨ w = 6 by omega) with hsw | hsw | hsw | hsw | hsw | hsw | hsw | hsw
      · refine x_tabOut B (tgt := 135) dX8_count_35 ⟨by omega, by omega⟩ (by omega) (by decide) ?_
        refine x_iconst B dX8_count_135 ?_
        exact r_i B R dX8_count_136 (⟨rfl, by unfold coM; rw [if_neg (by omega), if_neg (by omega), if_neg (by omega), if_neg (by omega), if_neg (by omega), if_neg (by omega), if_neg (by omega)]⟩)
      · refine x_tabIn B (tgt := 76) 0 dX8_count_35 ⟨by omega, by omega⟩ (by omega) (by omega) rfl (by decide) ?_
        refine x_aload_n B dX8_count_76 0 rfl rfl ?_
        refine x_getI B (ci := 8) (k := 19) (lo := 0) (hi := 25) dX8_count_77 rfl rfl rfl (by decide) inGX8 kw_824 rfl (fun z77 ez77 lz77 uz77 => ?_)
        exact r_i B R dX8_count_80 (⟨rfl, by unfold coM; rw [if_pos hsw]; exact Is_e ez77⟩)
      · refine x_tabIn B (tgt := 81) 1 dX8_count_35 ⟨by omega, by omega⟩ (by omega) (by omega) rfl (by decide) ?_
        refine x_aload_n B dX8_count_81 0 rfl rfl ?_
        refine x_getR B (ci := 8) (k := 14) dX8_count_82 rfl rfl rfl (by decide) inGX8 kw_819 ?_
        refine x_bipush B dX8_count_85 rfl ?_
        refine x_iald B (lo := 0) (hi := 65535) dX8_count_87 rfl (by omega) (by omega) rfl (fun z87 ez87 lz87 uz87 => ?_)
        have ez87 : Is z87 (M 78 11) := ez87
        refine x_callS B (st := []) (av := [.int (iI (z87))]) dX8_count_88 cs_X8_countOf kw_1140 ⟨rfl, rfl, Nat.le_of_ble_eq_true rfl, Nat.le_of_ble_eq_true rfl⟩ rfl rfl (Nat.le_of_ble_eq_true rfl) (c_X8_countOf _ E _ z87 (by omega) (by omega)) (k_i (fun z88 Mq hz88 => ?_))
        obtain ⟨rfl, hz88⟩ := hz88
        exact r_i B R dX8_count_91 (⟨rfl, by unfold coM; rw [if_neg (by omega), if_pos hsw, hz88.1, Is_e ez87]⟩)
      · refine x_tabIn B (tgt := 92) 2 dX8_count_35 ⟨by omega, by omega⟩ (by omega) (by omega) rfl (by decide) ?_
        refine x_aload_n B dX8_count_92 0 rfl rfl ?_
        refine x_callV B (st := []) (av := []) dX8_count_93 cs_X8_tiredSome kw_1089 ⟨rfl, rfl, Nat.le_of_ble_eq_true rfl, Nat.le_of_ble_eq_true rfl⟩ rfl rfl (Nat.le_of_ble_eq_true rfl) (rc_obj B (ci := 8) rfl rfl rfl) (c_X8_tiredSome _ E _ ) (k_i (fun z93 Mq hz93 => ?_))
        obtain ⟨rfl, hz93⟩ := hz93
        refine x_callS B (st := []) (av := [.int (iI (z93))]) dX8_count_96 cs_X8_countOf kw_1140 ⟨rfl, rfl, Nat.le_of_ble_eq_true rfl, Nat.le_of_ble_eq_true rfl⟩ rfl rfl (Nat.le_of_ble_eq_true rfl) (c_X8_countOf _ E _ z93 (by omega) (by omega)) (k_i (fun z96 Mq hz96 => ?_))
        obtain ⟨rfl, hz96⟩ := hz96
        exact r_i B R dX8_count_99 (⟨rfl, by unfold coM; rw [if_neg (by omega), if_neg (by omega), if_pos hsw, hz96.1, hz93.1, Int.toNat_natCast]⟩)
      · refine x_tabIn B (tgt := 100) 3 dX8_count_35 ⟨by omega, by omega⟩ (by omega) (by omega) rfl (by decide) ?_
        refine x_aload_n B dX8_count_100 0 rfl rfl ?_
        refine x_getI B (ci := 8) (k := 37) (lo := 0) (hi := 12) dX8_count_101 rfl rfl rfl (by decide) inGX8 kw_842 rfl (fun z101 ez101 lz101 uz101 => ?_)
        exact r_i B R dX8_count_104 (⟨rfl, by unfold coM; rw [if_neg (by omega), if_neg (by omega), if_neg (by omega), if_pos hsw]; exact Is_e ez101⟩)
      · refine x_tabIn B (tgt := 105) 4 dX8_count_35 ⟨by omega, by omega⟩ (by omega) (by omega) rfl (by decide) ?_
        refine x_iload_n B dX8_count_105 2 rfl rfl ?_
        exact r_i B R dX8_count_106 (⟨rfl, by unfold coM; rw [if_neg (by omega), if_neg (by omega), if_neg (by omega), if_neg (by omega), if_pos hsw, Is_e i3, show k = 384 by omega]; rfl⟩)
      · refine x_tabIn B (tgt := 107) 5 dX8_count_35 ⟨by omega, by omega⟩ (by omega) (by omega) rfl (by decide) ?_
        refine x_aload_n B dX8_count_107 0 rfl rfl ?_
        refine x_getI B (ci := 8) (k := 1) (lo := 0) (hi := 200) dX8_count_108 rfl rfl rfl (by decide) inGX8 kw_806 rfl (fun z108 ez108 lz108 uz108 => ?_)
        exact r_i B R dX8_count_111 (⟨rfl, by unfold coM; rw [if_neg (by omega), if_neg (by omega), if_neg (by omega), if_neg (by omega), if_neg (by omega), if_pos hsw]; exact Is_e ez108⟩)
      · refine x_tabIn B (tgt := 112) 6 dX8_count_35 ⟨by omega, by omega⟩ (by omega) (by omega) rfl (by decide) ?_
        refine x_aload_n B dX8_count_112 0 rfl rfl ?_
        refine x_getR B (ci := 8) (k := 42) dX8_count_113 rfl rfl rfl (by decide) inGX8 kw_847 ?_
        refine x_iconst B dX8_count_116 ?_
        refine x_iald B (lo := -4) (hi := 2) dX8_count_117 rfl (by omega) (by omega) rfl (fun z117 ez117 lz117 uz117 => ?_)
        have ez117 : Is z117 (M 96 0) := ez117
        refine x_bipush B dX8_count_118 rfl ?_
        refine x_icmp_ne B (tgt := 128) dX8_count_120 (by decide) ⟨by omega, by omega⟩ ⟨by omega, by omega⟩ (fun c120 => ?_) (fun c120 => ?_)
        · show Vx x E M 128 [(0, .ref (E.1 (71))), (1, .int (iI (w))), (2, .int (iI (a))), (3, .int (iI (k)))] []
          refine x_aload_n B dX8_count_128 0 rfl rfl ?_
          refine x_getR B (ci := 8) (k := 43) dX8_count_129 rfl rfl rfl (by decide) inGX8 kw_848 ?_
          refine x_iconst B dX8_count_132 ?_
          refine x_iald B (lo := 0) (hi := 64) dX8_count_133 rfl (by omega) (by omega) rfl (fun z133 ez133 lz133 uz133 => ?_)
          have ez133 : Is z133 (M 97 0) := ez133
          exact r_i B R dX8_count_134 (⟨rfl, by unfold coM; rw [if_neg (by omega), if_neg (by omega), if_neg (by omega), if_neg (by omega), if_neg (by omega), if_neg (by omega), if_pos hsw, if_neg (by rw [← Is_e ez117]; exact c120)]; exact Is_e ez133⟩)
        · show Vx x E M 123 [(0, .ref (E.1 (71))), (1, .int (iI (w))), (2, .int (iI (a))), (3, .int (iI (k)))] []
          refine x_bipush B dX8_count_123 rfl ?_
          refine x_goto B (tgt := 134) dX8_count_125 (by decide) ?_
          exact r_i B R dX8_count_134 (⟨rfl, by unfold coM; rw [if_neg (by omega), if_neg (by omega), if_neg (by omega), if_neg (by omega), if_neg (by omega), if_neg (by omega), if_pos hsw, if_pos (by rw [← Is_e ez117]; exact c120)]⟩)
    · show Vx x E M 11 [(0, .ref (E.1 (71))), (1, .int (iI (w))), (2, .int (iI (a))), (3, .int (iI (k)))] []
      refine x_iload_n B dX8_count_11 2 rfl rfl ?_
      refine x_aload_n B dX8_count_12 0 rfl rfl ?_
      refine x_getR B (ci := 8) (k := 18) dX8_count_13 rfl rfl rfl (by decide) inGX8 kw_823 ?_
      refine x_iload_n B dX8_count_16 3 rfl rfl ?_
      refine x_iald B (lo := 0) (hi := 9) dX8_count_17 rfl (by omega) (by omega) rfl (fun z17 ez17 lz17 uz17 => ?_)
      refine x_if_le B (tgt := 25) dX8_count_18 (by decide) ⟨by omega, by omega⟩ (fun c18 => ?_) (fun c18 => ?_)
      · show Vx x E M 25 [(0, .ref (E.1 (71))), (1, .int (iI (w))), (2, .int (iI (a))), (3, .int (iI (k)))] [.int (iI (a))]
        refine x_iconst B dX8_count_25 ?_
        refine x_iadd B dX8_count_26 ?_
        refine x_istore_n B dX8_count_27 [1, 2, 0, 3] rfl (by decide) (lv' := [(0, .ref (E.1 (71))), (1, .int (iI (w))), (2, .int (iI (a + 0))), (3, .int (iI (k)))]) rfl ?_
        refine x_iinc B (q := 3) dX8_count_28 rfl [1, 2, 3, 0] (by decide) (lv' := [(0, .ref (E.1 (71))), (1, .int (iI (w))), (2, .int (iI (a + 0))), (3, .int (iI (k + 1)))]) rfl ?_
        refine x_goto B (tgt := 4) dX8_count_31 (by decide) ?_
        exact ih4 (a + 0) (k + 1) (⟨by omega, by omega, by show _ = _; rw [suK_s i1, ← Is_e i3, if_neg (by rw [← Is_e ez17]; omega)], by omega, by omega⟩) (by omega)
      · show Vx x E M 21 [(0, .ref (E.1 (71))), (1, .int (iI (w))), (2, .int (iI (a))), (3, .int (iI (k)))] [.int (iI (a))]
        refine x_iconst B dX8_count_21 ?_
        refine x_goto B (tgt := 26) dX8_count_22 (by decide) ?_
        refine x_iadd B dX8_count_26 ?_
        refine x_istore_n B dX8_count_27 [1, 2, 0, 3] rfl (by decide) (lv' := [(0, .ref (E.1 (71))), (1, .int (iI (w))), (2, .int (iI (a + 1))), (3, .int (iI (k)))]) rfl ?_
        refine x_iinc B (q := 3) dX8_count_28 rfl [1, 2, 3, 0] (by decide) (lv' := [(0, .ref (E.1 (71))), (1, .int (iI (w))), (2, .int (iI (a + 1))), (3, .int (iI (k + 1)))]) rfl ?_
        refine x_goto B (tgt := 4) dX8_count_31 (by decide) ?_
        exact ih4 (a + 1) (k + 1) (⟨by omega, by omega, by show _ = _; rw [suK_s i1, ← Is_e i3, if_pos (by rw [← Is_e ez17]; omega)], by omega, by omega⟩) (by omega)
  exact L4 0 0 (⟨by omega, by omega, rfl, by omega, by omega⟩)
