/-! ===== THE TEXT in the reference ===== -/
noncomputable def TM (M : Mem) : Int → Tk := fun nx => tkF (M 72) (M 71 1) nx
def mA (M : Mem) (nt lt : Int) (v l : Nat → Int) : Prop := M 71 16 = nt ∧ M 71 17 = lt ∧ (∀ j, j < 12 → M 79 j = v j) ∧ ∀ q, q < 16 → M 79 (12 + q) = l q
def mK (M : Mem) (t : Tk) : Prop := M 71 3 = 0 ∧ M 71 5 = t.2.2.2 ∧ M 71 6 = t.1 ∧ M 71 7 = t.2.1 ∧ M 71 8 = t.2.2.1
def mE (M : Mem) (w a : Int) : Prop := M 71 3 = w ∧ ¬ w = 0 ∧ M 71 4 = a
def mLk (M : Mem) (t : Tk) (nt lt : Int) (v l : Nat → Int) : Prop := t.2.1 = 4 ∧ mE M 1 t.1 ∨ ¬ t.2.1 = 4 ∧ mK M t ∧ mA M nt lt v l
def mF (M M' : Mem) : Prop := (∀ i j, i ≠ 71 → i ≠ 79 → M' i j = M i j) ∧ ∀ j, (j < 3 ∨ 8 < j) → j ≠ 16 → j ≠ 17 → M' 71 j = M 71 j
def mQ (T : Int → Tk) (M : Mem) (s : Ps) : Prop := ¬ s.1 = 0 ∧ mE M s.1 s.2.1 ∨ s.1 = 0 ∧ mLk M (T s.2.2.1) s.2.2.2.1 s.2.2.2.2.1 s.2.2.2.2.2.1 s.2.2.2.2.2.2
theorem mQ_X {T : Int → Tk} {M : Mem} {w a : Int} (h : mE M w a) : mQ T M (pX w a) := Or.inl ⟨h.2.1, h⟩
theorem mQ_O {T : Int → Tk} {M : Mem} {nx nt lt : Int} {v l : Nat → Int} (h : mLk M (T nx) nt lt v l) : mQ T M (pO nx nt lt v l) := Or.inr ⟨rfl, h⟩
theorem mF_rf {M : Mem} : mF M M := ⟨fun _ _ _ _ => rfl, fun _ _ _ _ => rfl⟩
theorem mF_tr {M M1 M2 : Mem} (h1 : mF M M1) (h2 : mF M1 M2) : mF M M2 := ⟨fun i j a b => (h2.1 i j a b).trans (h1.1 i j a b), fun j a b c => (h2.2 j a b c).trans (h1.2 j a b c)⟩
theorem mF_nk {M : Mem} {a b c d e f : Int} : mF M (nkM M a b c d e f) := ⟨fun i j h _ => if_neg h, fun j h _ _ => nk_o h⟩
theorem mF_79 {M : Mem} {j : Nat} {v : Int} : mF M (sto M 79 j v) := ⟨fun i k _ b => sto_ni _ _ _ _ b, fun k _ _ _ => sto_ni _ _ _ _ (by decide)⟩
theorem mF_16 {M : Mem} {v : Int} : mF M (sto M 71 16 v) := ⟨fun i k a _ => sto_ni _ _ _ _ a, fun k _ a _ => sto_nj _ _ _ _ a⟩
theorem mF_17 {M : Mem} {v : Int} : mF M (sto M 71 17 v) := ⟨fun i k a _ => sto_ni _ _ _ _ a, fun k _ _ b => sto_nj _ _ _ _ b⟩
theorem TM_F {M M' : Mem} (h : mF M M') : TM M' = TM M := by
  unfold TM
  rw [h.2 1 (by omega) (by decide) (by decide), show M' 72 = M 72 from funext fun j => h.1 72 j (by decide) (by decide)]
theorem TM_G (M : Mem) : tkG (TM M) (M 71 1) := tkG_F (M 72) (M 71 1)
theorem mA_nk {M : Mem} {nt lt a b c d e f : Int} {v l : Nat → Int} (h : mA M nt lt v l) : mA (nkM M a b c d e f) nt lt v l := ⟨h.1, h.2.1, h.2.2.1, h.2.2.2⟩
theorem mA_79 {M : Mem} {nt lt x : Int} {v l : Nat → Int} {k : Nat} (h : mA M nt lt v l) (hk : k < 12) : mA (sto M 79 k x) nt lt (udI v k x) l := by
  refine ⟨?_, ?_, fun j hj => ?_, fun q hq => ?_⟩
  · rw [sto_ni _ _ _ _ (by decide)]; exact h.1
  · rw [sto_ni _ _ _ _ (by decide)]; exact h.2.1
  · rw [sto_row]
    show (if j = k then x else M 79 j) = if j = k then x else v j
    rw [h.2.2.1 j hj]
  · rw [sto_nj _ _ _ _ (by omega)]; exact h.2.2.2 q hq
theorem mA_79l {M : Mem} {nt lt x : Int} {v l : Nat → Int} {k : Nat} (h : mA M nt lt v l) : mA (sto M 79 (12 + k) x) nt lt v (udI l k x) := by
  refine ⟨?_, ?_, fun j hj => ?_, fun q hq => ?_⟩
  · rw [sto_ni _ _ _ _ (by decide)]; exact h.1
  · rw [sto_ni _ _ _ _ (by decide)]; exact h.2.1
  · rw [sto_nj _ _ _ _ (by omega)]; exact h.2.2.1 j hj
  · rw [sto_row]
    show (if 12 + q = 12 + k then x else M 79 (12 + q)) = if q = k then x else l q
    rw [h.2.2.2 q hq]
    by_cases c : q = k
    · rw [if_pos c, if_pos (by omega)]
    · rw [if_neg c, if_neg (by omega)]
theorem mA_16 {M : Mem} {nt lt x : Int} {v l : Nat → Int} (h : mA M nt lt v l) : mA (sto M 71 16 x) x lt v l := ⟨sto_eq _ _ _ _, by rw [sto_nj _ _ _ _ (by decide)]; exact h.2.1, fun j hj => by rw [sto_ni _ _ _ _ (by decide)]; exact h.2.2.1 j hj, fun j hj => by rw [sto_ni _ _ _ _ (by decide)]; exact h.2.2.2 j hj⟩
theorem mA_17 {M : Mem} {nt lt x : Int} {v l : Nat → Int} (h : mA M nt lt v l) : mA (sto M 71 17 x) nt x v l := ⟨by rw [sto_nj _ _ _ _ (by decide)]; exact h.1, sto_eq _ _ _ _, fun j hj => by rw [sto_ni _ _ _ _ (by decide)]; exact h.2.2.1 j hj, fun j hj => by rw [sto_ni _ _ _ _ (by decide)]; exact h.2.2.2 j hj⟩
theorem mE_79 {M : Mem} {w a x : Int} {k : Nat} (h : mE M w a) : mE (sto M 79 k x) w a := ⟨by rw [sto_ni _ _ _ _ (by decide)]; exact h.1, h.2.1, by rw [sto_ni _ _ _ _ (by decide)]; exact h.2.2⟩
theorem mE_17 {M : Mem} {w a x : Int} {k : Nat} (hk : 8 < k) (h : mE M w a) : mE (sto M 71 k x) w a := ⟨by rw [sto_nj _ _ _ _ (by omega)]; exact h.1, h.2.1, by rw [sto_nj _ _ _ _ (by omega)]; exact h.2.2⟩
theorem mK_79 {M : Mem} {t : Tk} {x : Int} {k : Nat} (h : mK M t) : mK (sto M 79 k x) t := by
  have e : sto M 79 k x 71 = M 71 := sto_f _ _ _ _ (by decide)
  unfold mK
  rw [e]
  exact h
theorem mK_17 {M : Mem} {t : Tk} {x : Int} {k : Nat} (hk : 8 < k) (h : mK M t) : mK (sto M 71 k x) t := ⟨by rw [sto_nj _ _ _ _ (by omega)]; exact h.1, by rw [sto_nj _ _ _ _ (by omega)]; exact h.2.1, by rw [sto_nj _ _ _ _ (by omega)]; exact h.2.2.1, by rw [sto_nj _ _ _ _ (by omega)]; exact h.2.2.2.1, by rw [sto_nj _ _ _ _ (by omega)]; exact h.2.2.2.2⟩
/-- a step to the next token -/
def nxR (M M' : Mem) : Prop := ¬ M 71 3 = 0 ∧ M' = M ∨ M 71 3 = 0 ∧ ∃ t : Tk, tkT (M 72) (M 71 1) (M 71 5) t ∧ tkN M t M'
theorem nx_m {M M' : Mem} {nx nt lt : Int} {v l : Nat → Int} (h0 : M 71 3 = 0) (h5 : M 71 5 = nx) (hA : mA M nt lt v l) (hr : nxR M M') : mF M M' ∧ mLk M' (TM M nx) nt lt v l := by
  rcases hr with ⟨a, -⟩ | ⟨-, t, a1, sp, pl, tk, va, wr, wa, a2, a3⟩
  · exact absurd h0 a
  · rw [h5] at a1
    have e : TM M nx = t := tkF_e a1
    rw [e]
    subst a2
    refine ⟨mF_nk, ?_⟩
    rcases a3 with ⟨b1, b2, b3⟩ | ⟨b1, b2, b3, b4, b5, b6, b7⟩
    · exact Or.inl ⟨b1, by rw [b2, b3]; exact ⟨rfl, by decide, rfl⟩⟩
    · exact Or.inr ⟨b1, ⟨by rw [b2]; rfl, b4, b5, b6, b7⟩, mA_nk hA⟩
theorem nx_e {M M' : Mem} {w a : Int} (h : mE M w a) (hr : nxR M M') : M' = M := by
  rcases hr with ⟨-, b⟩ | ⟨b, -⟩
  · exact b
  · exact absurd (h.1.symm.trans b) h.2.1
theorem nu_L {M M' : Mem} {T : Int → Tk} {lo hi z nx nt lt : Int} {v l : Nat → Int} (h : mLk M (T nx) nt lt v l) (hr : nuR M lo hi M' z) : mF M M' ∧ z = (gGet T lo hi nx).2.2.2 ∧ ((gGet T lo hi nx).1 = 0 ∧ M' = M ∧ mK M (T nx) ∧ mA M nt lt v l ∧ (gGet T lo hi nx).2.2.1 = (T nx).2.2.2 ∨ ¬ (gGet T lo hi nx).1 = 0 ∧ mE M' (gGet T lo hi nx).1 (gGet T lo hi nx).2.1) := by
  rcases h with ⟨a, b⟩ | ⟨a, b, c⟩
  · have e : gGet T lo hi nx = (1, (T nx).1, 0, lo) := if_pos a
    rw [e]
    rcases hr with ⟨-, r2, r3⟩ | ⟨r1, -⟩
    · rw [r2]
      exact ⟨mF_rf, r3, Or.inr ⟨b.2.1, b⟩⟩
    · exact absurd (b.1.symm.trans r1) (by decide)
  · rcases hr with ⟨r1, -⟩ | ⟨-, r⟩
    · exact absurd b.1 r1
    · rcases r with ⟨r1, r2, r3⟩ | ⟨r1, r2, r3, r4⟩ | ⟨r1, r2, r3, r4⟩
      · have e : gGet T lo hi nx = (2, (T nx).1, 0, lo) := by unfold gGet; rw [if_neg a, if_pos (by rw [← b.2.2.2.1]; exact r1)]
        rw [e, r2]
        exact ⟨mF_nk, r3, Or.inr ⟨by show ¬ (2 : Int) = 0; decide, rfl, by show ¬ (2 : Int) = 0; decide, b.2.2.1⟩⟩
      · have e : gGet T lo hi nx = (3, (T nx).1, 0, lo) := by unfold gGet; rw [if_neg a, if_neg (by rw [← b.2.2.2.1]; exact fun q => q r1), if_pos (by rw [← b.2.2.2.2]; exact r2)]
        rw [e, r3]
        exact ⟨mF_nk, r4, Or.inr ⟨by show ¬ (3 : Int) = 0; decide, rfl, by show ¬ (3 : Int) = 0; decide, b.2.2.1⟩⟩
      · have e : gGet T lo hi nx = (0, 0, (T nx).2.2.2, (T nx).2.2.1) := by unfold gGet; rw [if_neg a, if_neg (by rw [← b.2.2.2.1]; exact fun q => q r1), if_neg (by rw [← b.2.2.2.2]; exact fun q => q r2)]
        rw [e, r3]
        exact ⟨mF_rf, by rw [r4]; exact b.2.2.2.2, Or.inl ⟨rfl, rfl, b, c, rfl⟩⟩
theorem nu_e {M M' : Mem} {w a lo hi z : Int} (h : mE M w a) (hr : nuR M lo hi M' z) : M' = M ∧ z = lo := by
  rcases hr with ⟨-, b, c⟩ | ⟨b, -⟩
  · exact ⟨b, c⟩
  · exact absurd (h.1.symm.trans b) h.2.1
/-- a fault told -/
def faR (M : Mem) (c : Int) (M' : Mem) : Prop := M 71 3 = 0 ∧ M' = nkM M (M 71 5) (M 71 6) (M 71 7) (M 71 8) c (M 71 6) ∨ ¬ M 71 3 = 0 ∧ M' = M
theorem fa_m {M M' : Mem} {c : Int} (h0 : M 71 3 = 0) (hc : ¬ c = 0) (hr : faR M c M') : mF M M' ∧ mE M' c (M 71 6) := by
  rcases hr with ⟨-, b⟩ | ⟨a, -⟩
  · rw [b]
    exact ⟨mF_nk, rfl, hc, rfl⟩
  · exact absurd h0 a

theorem r79_n : ∀ q, q < 16 → rngT 79 (12 + q) = (0, 9) := by decide +kernel
theorem r79l {p : Int} (h0 : 0 ≤ p) (h1 : p < 16) : rngT 79 (12 + p).toNat = (0, 9) := by
  rw [show (12 + p).toNat = 12 + p.toNat by omega]
  exact r79_n _ (by omega)
theorem rp_11 {T : Int → Tk} {N N' : Mem} {nx nt lt x : Int} {v l : Nat → Int} (hT : TM N = T) (hp : ¬ (gGet T 0 15 nx).1 = 0 ∧ mE N (gGet T 0 15 nx).1 (gGet T 0 15 nx).2.1 ∨ (gGet T 0 15 nx).1 = 0 ∧ ((v 11).toNat.testBit (gGet T 0 15 nx).2.2.2.toNat = true ∧ mE N 4 (T nx).1 ∨ (v 11).toNat.testBit (gGet T 0 15 nx).2.2.2.toNat = false ∧ mK N (T nx) ∧ mA N nt lt v l)) (hg : (gGet T 0 15 nx).1 = 0 → (gGet T 0 15 nx).2.2.1 = (T nx).2.2.2) (hx : N 71 3 = 0 → N 79 11 = v 11 → x = orP (v 11) (gGet T 0 15 nx).2.2.2) (hr : nxR (sto N 79 11 x) N') : mF N N' ∧ mQ T N' (gBd T 11 nx nt lt v l) := by
  unfold gBd
  rw [if_neg (by decide), if_neg (by decide), if_pos rfl]
  rcases hp with ⟨a, b⟩ | ⟨a, b⟩
  · rw [if_neg a, nx_e (mE_79 b) hr]
    exact ⟨mF_79, mQ_X (mE_79 b)⟩
  · rw [if_pos a]
    rcases b with ⟨b, c⟩ | ⟨b, c, d⟩
    · rw [if_pos b, nx_e (mE_79 c) hr]
      exact ⟨mF_79, mQ_X (mE_79 c)⟩
    · rw [if_neg (by rw [b]; decide), hg a, ← hx c.1 (d.2.2.1 11 (by decide))]
      have k := mK_79 (k := 11) (x := x) c
      obtain ⟨r1, r2⟩ := nx_m k.1 k.2.1 (mA_79 (k := 11) (x := x) d (by decide)) hr
      rw [TM_F mF_79, hT] at r2
      exact ⟨mF_tr mF_79 r1, mQ_O r2⟩
theorem rp_12 {T : Int → Tk} {N M1 M2 N' : Mem} {nx nt lt x z : Int} {v l : Nat → Int} (hT : TM N = T) (hp : ¬ (gGet T 0 15 nx).1 = 0 ∧ mE N (gGet T 0 15 nx).1 (gGet T 0 15 nx).2.1 ∨ (gGet T 0 15 nx).1 = 0 ∧ (lt.toNat.testBit (gGet T 0 15 nx).2.2.2.toNat = true ∧ mE N 4 (T nx).1 ∨ lt.toNat.testBit (gGet T 0 15 nx).2.2.2.toNat = false ∧ mK N (T nx) ∧ mA N nt lt v l)) (hg : (gGet T 0 15 nx).1 = 0 → (gGet T 0 15 nx).2.2.1 = (T nx).2.2.2) (hx : N 71 17 = lt → x = orP lt (gGet T 0 15 nx).2.2.2) (h1 : nxR (sto N 71 17 x) M1) (h2 : nuR M1 1 9 M2 z) (h3 : nxR (sto M2 79 (12 + (gGet T 0 15 nx).2.2.2.toNat) z) N') : mF N N' ∧ mQ T N' (gBd T 12 nx nt lt v l) := by
  unfold gBd
  rw [if_neg (by decide), if_neg (by decide), if_neg (by decide), if_pos rfl]
  rcases hp with ⟨a, b⟩ | ⟨a, b⟩
  · have b1 := mE_17 (k := 17) (x := x) (by decide) b
    have e1 := nx_e b1 h1
    subst e1
    obtain ⟨e2, -⟩ := nu_e b1 h2
    subst e2
    rw [if_neg a, nx_e (mE_79 b1) h3]
    exact ⟨mF_tr mF_17 mF_79, mQ_X (mE_79 b1)⟩
  · rw [if_pos a]
    rcases b with ⟨b, c⟩ | ⟨b, c, d⟩
    · have b1 := mE_17 (k := 17) (x := x) (by decide) c
      have e1 := nx_e b1 h1
      subst e1
      obtain ⟨e2, -⟩ := nu_e b1 h2
      subst e2
      rw [if_pos b, nx_e (mE_79 b1) h3]
      exact ⟨mF_tr mF_17 mF_79, mQ_X (mE_79 b1)⟩
    · rw [if_neg (by rw [b]; decide)]
      have k := mK_17 (k := 17) (x := x) (by decide) c
      have k2 := mA_17 (x := x) d
      obtain ⟨r1, r2⟩ := nx_m k.1 k.2.1 k2 h1
      rw [TM_F mF_17, hT, ← hg a, hx d.2.1] at r2
      obtain ⟨s1, s2, s3⟩ := nu_L r2 h2
      have f2 : mF N M2 := mF_tr (mF_tr mF_17 r1) s1
      rcases s3 with ⟨t1, t2, t3, t4, t5⟩ | ⟨t1, t2⟩
      · subst t2
        rw [if_pos t1, t5, ← s2]
        have q := mK_79 (k := 12 + (gGet T 0 15 nx).2.2.2.toNat) (x := z) t3
        obtain ⟨u1, u2⟩ := nx_m q.1 q.2.1 (mA_79l (x := z) t4) h3
        rw [TM_F (mF_tr f2 mF_79), hT] at u2
        exact ⟨mF_tr (mF_tr f2 mF_79) u1, mQ_O u2⟩
      · rw [if_neg t1, nx_e (mE_79 t2) h3]
        exact ⟨mF_tr f2 mF_79, mQ_X (mE_79 t2)⟩
abbrev rm_X8_readPoint : Room := { frames := 3, cells := 0, slots := 0, locals := 67 }
theorem cs_X8_readPoint : Cv yX8_readPoint cX8_readPoint 4 none 1 := ⟨kw_986, ⟨kw_985, kw_35⟩, kw_67, by decide, by decide, by decide +kernel⟩
set_option maxHeartbeats 4000000 in
set_option maxRecDepth 100000 in
theorem c_X8_readPoint (l : Launch) (E : Ev) (M : Mem) (n nx nt lt : Int) (v lb : Nat → Int) (g1 : n = 11 ∨ n = 12) (g2 : Is (M 71 3) 0) (g3 : Is (M 71 5) nx) (g4 : mA M nt lt v lb) : Ct l yX8_readPoint cX8_readPoint 4 none rm_X8_readPoint E M [.ref (E.1 (71)), .int (iI (n))] (pV (fun M' => mF M M' ∧ mQ (TM M) M' (gBd (TM M) n nx nt lt v lb))) := by
  refine Ct_of (lv := [(0, .ref (E.1 (71))), (1, .int (iI (n)))]) (by decide) ⟨rfl, rfl⟩ (Nat.le_of_ble_eq_true rfl) rfl (fun x _ B R => ?_)
  refine x_aload_n B dX8_readPoint_0 0 rfl rfl ?_
  refine x_callV B (st := []) (av := []) dX8_readPoint_1 cs_X8_next kw_959 ⟨rfl, rfl, Nat.le_of_ble_eq_true rfl, Nat.le_of_ble_eq_true rfl⟩ rfl rfl (Nat.le_of_ble_eq_true rfl) (rc_obj B (ci := 8) rfl rfl rfl) (c_X8_next _ E _ ) (k_v (fun M1 hz1 => ?_))
  refine x_aload_n B dX8_readPoint_4 0 rfl rfl ?_
  refine x_iconst B dX8_readPoint_5 ?_
  refine x_bipush B dX8_readPoint_6 rfl ?_
  refine x_callV B (st := []) (av := [.int (iI (0)), .int (iI (15))]) dX8_readPoint_8 cs_X8_number kw_987 ⟨rfl, rfl, Nat.le_of_ble_eq_true rfl, Nat.le_of_ble_eq_true rfl⟩ rfl rfl (Nat.le_of_ble_eq_true rfl) (rc_obj B (ci := 8) rfl rfl rfl) (c_X8_number _ E _ 0 15 (by omega) (by omega) (by omega) (by omega)) (k_i (fun z8 M8 hz8 => ?_))
  refine x_istore_n B dX8_readPoint_11 [1, 2, 0] rfl (by decide) (lv' := [(0, .ref (E.1 (71))), (1, .int (iI (n))), (2, .int (iI (z8)))]) rfl ?_
  have h1 := nx_m (Is_e g2) (Is_e g3) g4 hz1
  have h8 := nu_L (T := TM M) h1.2 hz8.1
  have hz15 : 0 ≤ z8 ∧ z8 ≤ 15 := by have := hz8.2; omega
  have fM8 : mF M M8 := mF_tr h1.1 h8.1
  have hgo : (gGet (TM M) 0 15 nx).1 = 0 → mA M8 nt lt v lb := fun q => by
    rcases h8.2.2 with r | r
    · rw [r.2.1]
      exact r.2.2.2.1
    · exact absurd q r.1
  refine x_iload_n B dX8_readPoint_12 1 rfl rfl ?_
  refine x_bipush B dX8_readPoint_13 rfl ?_
  have J32 : ∀ (tl : Int), (0 ≤ tl ∧ tl ≤ 65535 ∧ ((gGet (TM M) 0 15 nx).1 = 0 → Is tl (if n = 11 then v 11 else lt))) → Vx x E M8 32 [(0, .ref (E.1 (71))), (1, .int (iI (n))), (2, .int (iI (z8)))] [.int (iI (tl))] := by
    intro tl hJ
    obtain ⟨t1, t2, t3⟩ := hJ
    refine x_istore_n B dX8_readPoint_32 [1, 2, 3, 0] rfl (by decide) (lv' := [(0, .ref (E.1 (71))), (1, .int (iI (n))), (2, .int (iI (z8))), (3, .int (iI (tl)))]) rfl ?_
    refine x_aload_n B dX8_readPoint_33 0 rfl rfl ?_
    refine x_getI B (ci := 8) (k := 3) (lo := 0) (hi := 4) dX8_readPoint_34 rfl rfl rfl (by decide) inGX8 kw_808 rfl (fun z34 ez34 lz34 uz34 => ?_)
    have J54 : ∀ (N3 : Mem), (mF M N3 ∧ (¬ (gGet (TM M) 0 15 nx).1 = 0 ∧ mE N3 (gGet (TM M) 0 15 nx).1 (gGet (TM M) 0 15 nx).2.1 ∨ (gGet (TM M) 0 15 nx).1 = 0 ∧ (Is tl (if n = 11 then v 11 else lt)) ∧ (tl.toNat.testBit z8.toNat = true ∧ mE N3 4 (TM M nx).1 ∨ tl.toNat.testBit z8.toNat = false ∧ mK N3 (TM M nx) ∧ mA N3 nt lt v lb))) → Vx x E N3 54 [(0, .ref (E.1 (71))), (1, .int (iI (n))), (2, .int (iI (z8))), (3, .int (iI (tl)))] [] := by
      intro N3 hJ
      obtain ⟨p1, p2⟩ := hJ
      have hgn : (gGet (TM M) 0 15 nx).1 = 0 → (gGet (TM M) 0 15 nx).2.2.1 = (TM M nx).2.2.2 := fun q => by
        rcases h8.2.2 with r | r
        · exact r.2.2.2.2
        · exact absurd q r.1
      refine x_iload_n B dX8_readPoint_54 1 rfl rfl ?_
      refine x_bipush B dX8_readPoint_55 rfl ?_
      refine x_icmp_ne B (tgt := 87) dX8_readPoint_57 (by decide) ⟨by omega, by omega⟩ ⟨by omega, by omega⟩ (fun c57 => ?_) (fun c57 => ?_)
      · show Vx x E N3 87 [(0, .ref (E.1 (71))), (1, .int (iI (n))), (2, .int (iI (z8))), (3, .int (iI (tl)))] []
        refine x_aload_n B dX8_readPoint_87 0 rfl rfl ?_
        refine x_dup B dX8_readPoint_88 rfl ?_
        refine x_getI B (ci := 8) (k := 17) (lo := 0) (hi := 65535) dX8_readPoint_89 rfl rfl rfl (by decide) inGX8 kw_822 rfl (fun z89 ez89 lz89 uz89 => ?_)
        refine x_iconst B dX8_readPoint_92 ?_
        refine x_iload_n B dX8_readPoint_93 2 rfl rfl ?_
        refine x_shl1 B dX8_readPoint_94 (by omega) (by omega) ?_
        refine x_ior B dX8_readPoint_95 (by omega) (Int.natCast_nonneg _) ?_
        refine x_put B (ci := 8) (k := 17) (lo := 0) (hi := 65535) (ty := .int) dX8_readPoint_96 rfl rfl rfl (by decide) inGX8 tyX8_ok nmX8 kw_822 rfl (by decide +kernel) (nar_i _) (fit_i _) rfl (or16 (a := z89) (p := z8) (by omega) (by omega) (by omega) (by omega)).1 (or16 (a := z89) (p := z8) (by omega) (by omega) (by omega) (by omega)).2 ?_
        refine x_aload_n B dX8_readPoint_99 0 rfl rfl ?_
        refine x_callV B (st := []) (av := []) dX8_readPoint_100 cs_X8_next kw_959 ⟨rfl, rfl, Nat.le_of_ble_eq_true rfl, Nat.le_of_ble_eq_true rfl⟩ rfl rfl (Nat.le_of_ble_eq_true rfl) (rc_obj B (ci := 8) rfl rfl rfl) (c_X8_next _ E _ ) (k_v (fun M100 hz100 => ?_))
        refine x_aload_n B dX8_readPoint_103 0 rfl rfl ?_
        refine x_getR B (ci := 8) (k := 15) dX8_readPoint_104 rfl rfl rfl (by decide) inGX8 kw_820 ?_
        refine x_bipush B dX8_readPoint_107 rfl ?_
        refine x_iload_n B dX8_readPoint_109 2 rfl rfl ?_
        refine x_iadd B dX8_readPoint_110 ?_
        refine x_aload_n B dX8_readPoint_111 0 rfl rfl ?_
        refine x_iconst B dX8_readPoint_112 ?_
        refine x_bipush B dX8_readPoint_113 rfl ?_
        refine x_callV B (st := [.int (iI (12 + z8)), .ref (E.1 (79))]) (av := [.int (iI (1)), .int (iI (9))]) dX8_readPoint_115 cs_X8_number kw_987 ⟨rfl, rfl, Nat.le_of_ble_eq_true rfl, Nat.le_of_ble_eq_true rfl⟩ rfl rfl (Nat.le_of_ble_eq_true rfl) (rc_obj B (ci := 8) rfl rfl rfl) (c_X8_number _ E _ 1 9 (by omega) (by omega) (by omega) (by omega)) (k_i (fun z115 M115 hz115 => ?_))
        refine x_iast B (lo := 0) (hi := 9) dX8_readPoint_118 rfl (by omega) (by omega) (r79l (by omega) (by omega)) (by omega) (by omega) ?_
        refine x_aload_n B dX8_readPoint_119 0 rfl rfl ?_
        refine x_callV B (st := []) (av := []) dX8_readPoint_120 cs_X8_next kw_959 ⟨rfl, rfl, Nat.le_of_ble_eq_true rfl, Nat.le_of_ble_eq_true rfl⟩ rfl rfl (Nat.le_of_ble_eq_true rfl) (rc_obj B (ci := 8) rfl rfl rfl) (c_X8_next _ E _ ) (k_v (fun M120 hz120 => ?_))
        exact r_v B R dX8_readPoint_123 (by have n12 : n = 12 := by {omega}; subst n12; have e12 : (12 + z8).toNat = 12 + (gGet (TM M) 0 15 nx).2.2.2.toNat := by {rw [← h8.2.1]; omega}; have hz120b := hz120; rw [e12] at hz120b; have hp3 := rp_12 (T := TM M) (N := N3) (v := v) (l := lb) (nx := nx) (nt := nt) (lt := lt) (TM_F p1) (by rcases p2 with q | ⟨q1, q2, q3⟩; (exact Or.inl q); (rw [h8.2.1] at q3; rw [Is_e q2, if_neg (by decide)] at q3; exact Or.inr ⟨q1, q3⟩)) hgn (fun q => by rw [Is_e ez89, q, h8.2.1]; unfold orP; rw [Int.toNat_natCast]) hz100 hz115.1 hz120b; exact ⟨mF_tr p1 hp3.1, hp3.2⟩)
      · show Vx x E N3 60 [(0, .ref (E.1 (71))), (1, .int (iI (n))), (2, .int (iI (z8))), (3, .int (iI (tl)))] []
        refine x_aload_n B dX8_readPoint_60 0 rfl rfl ?_
        refine x_getR B (ci := 8) (k := 15) dX8_readPoint_61 rfl rfl rfl (by decide) inGX8 kw_820 ?_
        refine x_bipush B dX8_readPoint_64 rfl ?_
        refine x_dup2 B dX8_readPoint_66 rfl rfl ?_
        refine x_iald B (lo := 0) (hi := 65535) dX8_readPoint_67 rfl (by omega) (by omega) rfl (fun z67 ez67 lz67 uz67 => ?_)
        have ez67 : Is z67 (N3 79 11) := ez67
        refine x_aload_n B dX8_readPoint_68 0 rfl rfl ?_
        refine x_getI B (ci := 8) (k := 3) (lo := 0) (hi := 4) dX8_readPoint_69 rfl rfl rfl (by decide) inGX8 kw_808 rfl (fun z69 ez69 lz69 uz69 => ?_)
        have J82 : ∀ (b : Int), (0 ≤ b ∧ b ≤ 65535 ∧ (N3 71 3 = 0 → b = ((2 ^ z8.toNat : Nat) : Int))) → Vx x E N3 82 [(0, .ref (E.1 (71))), (1, .int (iI (n))), (2, .int (iI (z8))), (3, .int (iI (tl)))] [.int (iI (b)), .int (iI (z67)), .int (iI (11)), .ref (E.1 (79))] := by
          intro b hJ
          obtain ⟨b1, b2, b3⟩ := hJ
          refine x_ior B dX8_readPoint_82 (by omega) (by omega) ?_
          refine x_iast B (lo := 0) (hi := 65535) dX8_readPoint_83 rfl (by omega) (by omega) rfl (or16b (a := z67) (b := b) (by omega) (by omega)).1 (or16b (a := z67) (b := b) (by omega) (by omega)).2 ?_
          refine x_goto B (tgt := 119) dX8_readPoint_84 (by decide) ?_
          refine x_aload_n B dX8_readPoint_119 0 rfl rfl ?_
          refine x_callV B (st := []) (av := []) dX8_readPoint_120 cs_X8_next kw_959 ⟨rfl, rfl, Nat.le_of_ble_eq_true rfl, Nat.le_of_ble_eq_true rfl⟩ rfl rfl (Nat.le_of_ble_eq_true rfl) (rc_obj B (ci := 8) rfl rfl rfl) (c_X8_next _ E _ ) (k_v (fun M120 hz120 => ?_))
          exact r_v B R dX8_readPoint_123 (by subst c57; have hp3 := rp_11 (T := TM M) (N := N3) (v := v) (l := lb) (nx := nx) (nt := nt) (lt := lt) (TM_F p1) (by rcases p2 with q | ⟨q1, q2, q3⟩; (exact Or.inl q); (rw [h8.2.1] at q3; rw [Is_e q2, if_pos rfl] at q3; exact Or.inr ⟨q1, q3⟩)) hgn (fun q q2 => by rw [b3 q, Is_e ez67, q2, h8.2.1]; unfold orP; rw [Int.toNat_natCast]) hz120; exact ⟨mF_tr p1 hp3.1, hp3.2⟩)
        refine x_if_ne B (tgt := 81) dX8_readPoint_72 (by decide) ⟨by omega, by omega⟩ (fun c72 => ?_) (fun c72 => ?_)
        · show Vx x E N3 81 [(0, .ref (E.1 (71))), (1, .int (iI (n))), (2, .int (iI (z8))), (3, .int (iI (tl)))] [.int (iI (z67)), .int (iI (11)), .ref (E.1 (79))]
          refine x_iconst B dX8_readPoint_81 ?_
          exact J82 0 (⟨by omega, by omega, fun q => absurd (by rw [Is_e ez69]; exact q) c72⟩)
        · show Vx x E N3 75 [(0, .ref (E.1 (71))), (1, .int (iI (n))), (2, .int (iI (z8))), (3, .int (iI (tl)))] [.int (iI (z67)), .int (iI (11)), .ref (E.1 (79))]
          refine x_iconst B dX8_readPoint_75 ?_
          refine x_iload_n B dX8_readPoint_76 2 rfl rfl ?_
          refine x_shl1 B dX8_readPoint_77 (by omega) (by omega) ?_
          refine x_goto B (tgt := 82) dX8_readPoint_78 (by decide) ?_
          exact J82 ((2 ^ (z8).toNat : Nat) : Int) (⟨(pow16 (k := z8) (by omega)).1, (pow16 (k := z8) (by omega)).2, fun _ => rfl⟩)
    refine x_if_ne B (tgt := 54) dX8_readPoint_37 (by decide) ⟨by omega, by omega⟩ (fun c37 => ?_) (fun c37 => ?_)
    · show Vx x E M8 54 [(0, .ref (E.1 (71))), (1, .int (iI (n))), (2, .int (iI (z8))), (3, .int (iI (tl)))] []
      exact J54 M8 (⟨fM8, by rcases h8.2.2 with q | q; (exact absurd (by rw [Is_e ez34, q.2.1]; exact q.2.2.1.1) c37); (exact Or.inl q)⟩)
    · show Vx x E M8 40 [(0, .ref (E.1 (71))), (1, .int (iI (n))), (2, .int (iI (z8))), (3, .int (iI (tl)))] []
      have hg0 : (gGet (TM M) 0 15 nx).1 = 0 ∧ M8 = M1 ∧ mK M1 (TM M nx) ∧ mA M1 nt lt v lb ∧ (gGet (TM M) 0 15 nx).2.2.1 = (TM M nx).2.2.2 := by
        rcases h8.2.2 with r | r
        · exact r
        · exact absurd (r.2.1.symm.trans (by rw [← Is_e ez34]; exact c37)) r.1
      refine x_iload_n B dX8_readPoint_40 3 rfl rfl ?_
      refine x_iload_n B dX8_readPoint_41 2 rfl rfl ?_
      refine x_ishr B dX8_readPoint_42 (by omega) ⟨by omega, by omega⟩ (by omega) (by omega) ?_
      refine x_iconst B dX8_readPoint_43 ?_
      refine x_iand B dX8_readPoint_44 (Int.natCast_nonneg _) (by omega) ?_
      have b46 := bit_v tl.toNat z8.toNat
      have hb46 : Rg ((((((tl).toNat >>> (z8).toNat : Nat) : Int)).toNat &&& (1 : Int).toNat : Nat) : Int) := by rcases b46 with ⟨h5, h6⟩ | ⟨h5, h6⟩ <;> (rw [h5]; exact ⟨by omega, by omega⟩)
      refine x_iconst B dX8_readPoint_45 ?_
      refine x_icmp_ne B (tgt := 54) dX8_readPoint_46 (by decide) hb46 ⟨by omega, by omega⟩ (fun c46 => ?_) (fun c46 => ?_)
      · show Vx x E M8 54 [(0, .ref (E.1 (71))), (1, .int (iI (n))), (2, .int (iI (z8))), (3, .int (iI (tl)))] []
        exact J54 M8 (⟨fM8, Or.inr ⟨hg0.1, t3 hg0.1, Or.inr ⟨by rcases b46 with ⟨h5, h6⟩ | ⟨h5, h6⟩; (exact absurd h5 c46); (exact h6), by rw [hg0.2.1]; exact hg0.2.2.1, hgo hg0.1⟩⟩⟩)
      · show Vx x E M8 49 [(0, .ref (E.1 (71))), (1, .int (iI (n))), (2, .int (iI (z8))), (3, .int (iI (tl)))] []
        refine x_aload_n B dX8_readPoint_49 0 rfl rfl ?_
        refine x_iconst B dX8_readPoint_50 ?_
        refine x_callV B (st := []) (av := [.int (iI (4))]) dX8_readPoint_51 cs_X8_fails kw_973 ⟨rfl, rfl, Nat.le_of_ble_eq_true rfl, Nat.le_of_ble_eq_true rfl⟩ rfl rfl (Nat.le_of_ble_eq_true rfl) (rc_obj B (ci := 8) rfl rfl rfl) (c_X8_fails _ E _ 4 (by omega) (by omega)) (k_v (fun M51 hz51 => ?_))
        exact J54 M51 (by have hfa := fa_m (c := 4) (by rw [← Is_e ez34]; exact c37) (by decide) hz51; refine ⟨mF_tr fM8 hfa.1, Or.inr ⟨hg0.1, t3 hg0.1, Or.inl ⟨by rcases b46 with ⟨h5, h6⟩ | ⟨h5, h6⟩; (exact h6); (rw [h5] at c46; exact absurd c46 (by decide)), ?_⟩⟩⟩; have h9 := hfa.2; rw [hg0.2.1, hg0.2.2.1.2.2.1] at h9; exact h9)
  refine x_icmp_ne B (tgt := 28) dX8_readPoint_15 (by decide) ⟨by omega, by omega⟩ ⟨by omega, by omega⟩ (fun c15 => ?_) (fun c15 => ?_)
  · show Vx x E M8 28 [(0, .ref (E.1 (71))), (1, .int (iI (n))), (2, .int (iI (z8)))] []
    refine x_aload_n B dX8_readPoint_28 0 rfl rfl ?_
    refine x_getI B (ci := 8) (k := 17) (lo := 0) (hi := 65535) dX8_readPoint_29 rfl rfl rfl (by decide) inGX8 kw_822 rfl (fun z29 ez29 lz29 uz29 => ?_)
    exact J32 z29 (⟨by omega, by omega, fun q => by show _ = _; rw [if_neg c15, Is_e ez29]; exact (hgo q).2.1⟩)
  · show Vx x E M8 18 [(0, .ref (E.1 (71))), (1, .int (iI (n))), (2, .int (iI (z8)))] []
    refine x_aload_n B dX8_readPoint_18 0 rfl rfl ?_
    refine x_getR B (ci := 8) (k := 15) dX8_readPoint_19 rfl rfl rfl (by decide) inGX8 kw_820 ?_
    refine x_bipush B dX8_readPoint_22 rfl ?_
    refine x_iald B (lo := 0) (hi := 65535) dX8_readPoint_24 rfl (by omega) (by omega) rfl (fun z24 ez24 lz24 uz24 => ?_)
    have ez24 : Is z24 (M8 79 11) := ez24
    refine x_goto B (tgt := 32) dX8_readPoint_25 (by decide) ?_
    exact J32 z24 (⟨by omega, by omega, fun q => by show _ = _; rw [if_pos c15, Is_e ez24]; exact (hgo q).2.2.1 11 (by decide)⟩)
