theorem stop_m {T : Int → Tk} {N N1 N' : Mem} {s : Ps} (hT : TM N = T) (hq : mQ T N s) (hj : ¬ N 71 3 = 0 ∧ N1 = N ∨ N 71 3 = 0 ∧ N 71 7 = 3 ∧ N1 = N ∨ N 71 3 = 0 ∧ ¬ N 71 7 = 3 ∧ faR N 2 N1) (hr : nxR N1 N') : mF N N' ∧ mQ T N' (gThen T s) := by
  rcases hq with ⟨a, b⟩ | ⟨a, b⟩
  · have e : gThen T s = s := if_neg a
    rw [e]
    rcases hj with ⟨c, d⟩ | ⟨c, -⟩ | ⟨c, -⟩
    · subst d
      rw [nx_e b hr]
      exact ⟨mF_rf, Or.inl ⟨a, b⟩⟩
    · exact absurd (b.1.symm.trans c) a
    · exact absurd (b.1.symm.trans c) a
  · have e : gThen T s = gStop T s.2.2.1 s.2.2.2.1 s.2.2.2.2.1 s.2.2.2.2.2.1 s.2.2.2.2.2.2 := if_pos a
    rw [e]
    unfold gStop
    rcases b with ⟨b1, b2⟩ | ⟨b1, b2, b3⟩
    · rw [if_pos b1]
      rcases hj with ⟨c, d⟩ | ⟨c, -⟩ | ⟨c, -⟩
      · subst d
        rw [nx_e b2 hr]
        exact ⟨mF_rf, mQ_X b2⟩
      · exact absurd (b2.1.symm.trans c) (by decide)
      · exact absurd (b2.1.symm.trans c) (by decide)
    · rw [if_neg b1]
      rcases hj with ⟨c, d⟩ | ⟨c, d, f⟩ | ⟨c, d, f⟩
      · exact absurd b2.1 c
      · subst f
        rw [if_neg (by rw [← b2.2.2.2.1]; exact fun q => q d)]
        obtain ⟨r1, r2⟩ := nx_m b2.1 b2.2.1 b3 hr
        rw [hT] at r2
        exact ⟨r1, mQ_O r2⟩
      · rw [if_pos (by rw [← b2.2.2.2.1]; exact d)]
        obtain ⟨r1, r2⟩ := fa_m b2.1 (by decide) f
        rw [nx_e r2 hr]
        rw [b2.2.2.1] at r2
        exact ⟨r1, mQ_X r2⟩
theorem way_m {T : Int → Tk} {N N3 N' : Mem} {nx nt lt j : Int} {v l : Nat → Int} (hT : TM N = T) (hq : mLk N (T nx) nt lt v l) (hj : ¬ N 71 3 = 0 ∧ N3 = N ∨ N 71 3 = 0 ∧ (N 71 7 = 1 ∧ 13 ≤ N 71 8) ∧ N3 = N ∨ N 71 3 = 0 ∧ ¬ (N 71 7 = 1 ∧ 13 ≤ N 71 8) ∧ faR N 2 N3) (hv : N3 71 3 = 0 → j = N3 71 8 - 13) (hr : nxR (sto N3 79 0 j) N') : mF N N' ∧ mQ T N' (gBd T 0 nx nt lt v l) := by
  unfold gBd
  rw [if_pos rfl]
  rcases hq with ⟨b1, b2⟩ | ⟨b1, b2, b3⟩
  · rw [if_pos b1]
    rcases hj with ⟨c, d⟩ | ⟨c, -⟩ | ⟨c, -⟩
    · subst d
      rw [nx_e (mE_79 b2) hr]
      exact ⟨mF_79, mQ_X (mE_79 b2)⟩
    · exact absurd (b2.1.symm.trans c) (by decide)
    · exact absurd (b2.1.symm.trans c) (by decide)
  · rw [if_neg b1]
    rcases hj with ⟨c, d⟩ | ⟨c, d, f⟩ | ⟨c, d, f⟩
    · exact absurd b2.1 c
    · subst f
      rw [if_neg (by rw [← b2.2.2.2.1, ← b2.2.2.2.2]; exact fun q => q d), ← b2.2.2.2.2, ← hv b2.1]
      have k := mK_79 (k := 0) (x := j) b2
      obtain ⟨r1, r2⟩ := nx_m k.1 k.2.1 (mA_79 (k := 0) (x := j) b3 (by decide)) hr
      rw [TM_F mF_79, hT] at r2
      exact ⟨mF_tr mF_79 r1, mQ_O r2⟩
    · rw [if_pos (by rw [← b2.2.2.2.1, ← b2.2.2.2.2]; exact d)]
      obtain ⟨r1, r2⟩ := fa_m b2.1 (by decide) f
      rw [nx_e (mE_79 r2) hr]
      rw [b2.2.2.1] at r2
      exact ⟨mF_tr r1 mF_79, mQ_X (mE_79 r2)⟩
theorem way_b {T : Int → Tk} {len : Int} {N N3 : Mem} {nx nt lt : Int} {v l : Nat → Int} {P : Prop} {w a : Int} (hG : tkG T len) (hq : P ∧ mE N w a ∨ ¬ P ∧ mLk N (T nx) nt lt v l) (hj : ¬ N 71 3 = 0 ∧ N3 = N ∨ N 71 3 = 0 ∧ (N 71 7 = 1 ∧ 13 ≤ N 71 8) ∧ N3 = N ∨ N 71 3 = 0 ∧ ¬ (N 71 7 = 1 ∧ 13 ≤ N 71 8) ∧ faR N 2 N3) (h0 : N3 71 3 = 0) : 13 ≤ N3 71 8 ∧ N3 71 8 ≤ 15 := by
  rcases hj with ⟨c, d⟩ | ⟨c, d, f⟩ | ⟨c, d, f⟩
  · subst d
    exact absurd h0 c
  · subst f
    rcases hq with ⟨-, q⟩ | ⟨-, q⟩
    · exact absurd (q.1.symm.trans c) q.2.1
    · rcases q with ⟨b1, b2⟩ | ⟨b1, b2, b3⟩
      · exact absurd (b2.1.symm.trans c) (by decide)
      · have k1 : (T nx).2.1 = 1 := b2.2.2.2.1.symm.trans d.1
        have k2 := (hG nx (by rw [k1]; decide) b1).2.2 k1
        rw [← b2.2.2.2.2] at k2
        exact ⟨d.2, k2.2⟩
  · have k := (fa_m c (by decide) f).2
    exact absurd (k.1.symm.trans h0) (by decide)
theorem way_e {N N3 N' : Mem} {w a j : Int} (hq : mE N w a) (hj : ¬ N 71 3 = 0 ∧ N3 = N ∨ N 71 3 = 0 ∧ (N 71 7 = 1 ∧ 13 ≤ N 71 8) ∧ N3 = N ∨ N 71 3 = 0 ∧ ¬ (N 71 7 = 1 ∧ 13 ≤ N 71 8) ∧ faR N 2 N3) (hr : nxR (sto N3 79 0 j) N') : mF N N' ∧ mE N' w a := by
  rcases hj with ⟨c, d⟩ | ⟨c, -⟩ | ⟨c, -⟩
  · subst d
    rw [nx_e (mE_79 hq) hr]
    exact ⟨mF_79, mE_79 hq⟩
  · exact absurd (hq.1.symm.trans c) hq.2.1
  · exact absurd (hq.1.symm.trans c) hq.2.1
theorem num_m {T : Int → Tk} {N M2 N' : Mem} {n nx nt lt z : Int} {v l : Nat → Int} (hT : TM N = T) (hn : ¬ n = 0 ∧ ¬ n = 5 ∧ n < 11 ∧ 0 ≤ n) (hq : mLk N (T nx) nt lt v l) (h2 : nuR N (sLo.getD n.toNat 0) (sHi.getD n.toNat 0) M2 z) (hr : nxR (sto M2 79 n.toNat z) N') : mF N N' ∧ mQ T N' (gBd T n nx nt lt v l) := by
  unfold gBd
  rw [if_neg hn.1, if_neg hn.2.1, if_neg (by omega), if_neg (by omega)]
  obtain ⟨s1, s2, s3⟩ := nu_L hq h2
  rcases s3 with ⟨t1, t2, t3, t4, t5⟩ | ⟨t1, t2⟩
  · subst t2
    rw [if_pos t1, t5, ← s2]
    have q := mK_79 (k := n.toNat) (x := z) t3
    obtain ⟨u1, u2⟩ := nx_m q.1 q.2.1 (mA_79 (k := n.toNat) (x := z) t4 (by omega)) hr
    rw [TM_F (mF_tr s1 mF_79), hT] at u2
    exact ⟨mF_tr (mF_tr s1 mF_79) u1, mQ_O u2⟩
  · rw [if_neg t1, nx_e (mE_79 t2) hr]
    exact ⟨mF_tr s1 mF_79, mQ_X (mE_79 t2)⟩
theorem num_e {N M2 N' : Mem} {w a lo hi z : Int} {k : Nat} (hq : mE N w a) (h2 : nuR N lo hi M2 z) (hr : nxR (sto M2 79 k z) N') : mF N N' ∧ mE N' w a := by
  obtain ⟨e, -⟩ := nu_e hq h2
  subst e
  rw [nx_e (mE_79 hq) hr]
  exact ⟨mF_79, mE_79 hq⟩
theorem round_m {T : Int → Tk} {N : Mem} {nx nt lt : Int} {v l : Nat → Int} (hq : mLk N (T nx) nt lt v l) : mQ T (sto N 79 5 1) (gBd T 5 nx nt lt v l) := by
  unfold gBd
  rw [if_neg (by decide), if_pos rfl]
  refine mQ_O ?_
  rcases hq with ⟨b1, b2⟩ | ⟨b1, b2, b3⟩
  · exact Or.inl ⟨b1, mE_79 b2⟩
  · exact Or.inr ⟨b1, mK_79 b2, mA_79 b3 (by decide)⟩
def wyJ (N N3 : Mem) : Prop := ¬ N 71 3 = 0 ∧ N3 = N ∨ N 71 3 = 0 ∧ (N 71 7 = 1 ∧ 13 ≤ N 71 8) ∧ N3 = N ∨ N 71 3 = 0 ∧ ¬ (N 71 7 = 1 ∧ 13 ≤ N 71 8) ∧ faR N 2 N3
def wyV (N3 : Mem) (j : Int) : Prop := N3 71 3 = 0 → j = N3 71 8 - 13
def stJ (N N1 : Mem) : Prop := ¬ N 71 3 = 0 ∧ N1 = N ∨ N 71 3 = 0 ∧ N 71 7 = 3 ∧ N1 = N ∨ N 71 3 = 0 ∧ ¬ N 71 7 = 3 ∧ faR N 2 N1
/-- what stands ahead of the stop, or the fault of a name that was told -/
def gPre (T : Int → Tk) (nx nt lt : Int) (v l : Nat → Int) : Ps := if (T nx).2.2.1 < 11 ∧ nt.toNat.testBit (T nx).2.2.1.toNat = true then pX 4 (T nx).1 else gBd T (T nx).2.2.1 (T nx).2.2.2 (if (T nx).2.2.1 < 11 then orP nt (T nx).2.2.1 else nt) lt v l
theorem gPre_t {T : Int → Tk} {nx nt lt : Int} {v l : Nat → Int} (h4 : ¬ (T nx).2.1 = 4) (h1 : (T nx).2.1 = 1 ∧ (T nx).2.2.1 ≤ 12) : gLine T nx nt lt v l = gThen T (gPre T nx nt lt v l) := by
  unfold gLine gPre
  rw [if_neg h4, if_neg (fun q => q h1)]
  by_cases c : (T nx).2.2.1 < 11 ∧ nt.toNat.testBit (T nx).2.2.1.toNat = true
  · rw [if_pos c, if_pos c, gThen_X (by decide)]
  · rw [if_neg c, if_neg c, gBody_t]
theorem nm_p : ∀ n, n < 11 → n = 0 ∨ n = 5 ∨ (rngT 79 n = (0, sHi.getD n 0) ∧ rngT 76 n = (sLo.getD n 0, sLo.getD n 0) ∧ rngT 77 n = (sHi.getD n 0, sHi.getD n 0) ∧ 0 ≤ sLo.getD n 0 ∧ sLo.getD n 0 ≤ sHi.getD n 0 ∧ sHi.getD n 0 ≤ 99) := by decide +kernel
theorem nm_q (n : Nat) (h : n < 11) (h0 : n ≠ 0) (h5 : n ≠ 5) : rngT 79 n = (0, sHi.getD n 0) ∧ rngT 76 n = (sLo.getD n 0, sLo.getD n 0) ∧ rngT 77 n = (sHi.getD n 0, sHi.getD n 0) ∧ 0 ≤ sLo.getD n 0 ∧ sLo.getD n 0 ≤ sHi.getD n 0 ∧ sHi.getD n 0 ≤ 99 := ((nm_p n h).resolve_left h0).resolve_left h5
abbrev rm_X8_readLine : Room := { frames := 4, cells := 0, slots := 0, locals := 90 }
theorem cs_X8_readLine : Cv yX8_readLine cX8_readLine 2 none 0 := ⟨kw_982, ⟨kw_981, kw_34⟩, kw_67, by decide, by decide, by decide +kernel⟩
set_option maxHeartbeats 4000000 in
set_option maxRecDepth 100000 in
theorem c_X8_readLine (l : Launch) (E : Ev) (M : Mem) (nx nt lt : Int) (v lb : Nat → Int) (g1 : ¬ (TM M nx).2.1 = 4 ∧ mK M (TM M nx) ∧ mA M nt lt v lb) : Ct l yX8_readLine cX8_readLine 2 none rm_X8_readLine E M [.ref (E.1 (71))] (pV (fun M' => mF M M' ∧ mQ (TM M) M' (gLine (TM M) nx nt lt v lb))) := by
  refine Ct_of (lv := [(0, .ref (E.1 (71)))]) (by decide) ⟨rfl, rfl⟩ (Nat.le_of_ble_eq_true rfl) rfl (fun x _ B R => ?_)
  obtain ⟨p1, p2, p3⟩ := g1
  have hG := TM_G M
  refine x_aload_n B dX8_readLine_0 0 rfl rfl ?_
  refine x_getI B (ci := 8) (k := 8) (lo := -4) (hi := 99) dX8_readLine_1 rfl rfl rfl (by decide) inGX8 kw_813 rfl (fun z1 ez1 lz1 uz1 => ?_)
  have e1 : Is z1 (TM M nx).2.2.1 := (Is_e ez1).trans p2.2.2.2.2
  refine x_istore_n B dX8_readLine_4 [1, 0] rfl (by decide) (lv' := [(0, .ref (E.1 (71))), (1, .int (iI (z1)))]) rfl ?_
  refine x_aload_n B dX8_readLine_5 0 rfl rfl ?_
  refine x_getI B (ci := 8) (k := 7) (lo := 0) (hi := 3) dX8_readLine_6 rfl rfl rfl (by decide) inGX8 kw_812 rfl (fun z6 ez6 lz6 uz6 => ?_)
  have e6 : Is z6 (TM M nx).2.1 := (Is_e ez6).trans p2.2.2.2.1
  refine x_iconst B dX8_readLine_9 ?_
  refine x_icmp_ne B (tgt := 19) dX8_readLine_10 (by decide) ⟨by omega, by omega⟩ ⟨by omega, by omega⟩ (fun c10 => ?_) (fun c10 => ?_)
  · show Vx x E M 19 [(0, .ref (E.1 (71))), (1, .int (iI (z1)))] []
    refine x_aload_n B dX8_readLine_19 0 rfl rfl ?_
    refine x_iconst B dX8_readLine_20 ?_
    refine x_callV B (st := []) (av := [.int (iI (2))]) dX8_readLine_21 cs_X8_fails kw_973 ⟨rfl, rfl, Nat.le_of_ble_eq_true rfl, Nat.le_of_ble_eq_true rfl⟩ rfl rfl (Nat.le_of_ble_eq_true rfl) (rc_obj B (ci := 8) rfl rfl rfl) (c_X8_fails _ E _ 2 (by omega) (by omega)) (k_v (fun M21 hz21 => ?_))
    exact r_v B R dX8_readLine_24 (by obtain ⟨r1, r2⟩ := fa_m p2.1 (by decide) hz21; rw [p2.2.2.1] at r2; refine ⟨r1, ?_⟩; unfold gLine; rw [if_neg p1, if_pos (fun q => c10 (by rw [Is_e e6]; exact q.1))]; exact mQ_X r2)
  · show Vx x E M 13 [(0, .ref (E.1 (71))), (1, .int (iI (z1)))] []
    refine x_iload_n B dX8_readLine_13 1 rfl rfl ?_
    refine x_bipush B dX8_readLine_14 rfl ?_
    refine x_icmp_lt B (tgt := 25) dX8_readLine_16 (by decide) ⟨by omega, by omega⟩ ⟨by omega, by omega⟩ (fun c16 => ?_) (fun c16 => ?_)
    · show Vx x E M 25 [(0, .ref (E.1 (71))), (1, .int (iI (z1)))] []
      have k3 : Is ((TM M nx).2.1) 1 ∧ 0 ≤ z1 ∧ z1 ≤ 15 := by
        have k1 : (TM M nx).2.1 = 1 := by
          rw [← Is_e e6]
          omega
        have k2 := (hG nx (by rw [k1]; decide) p1).2.2 k1
        rw [← Is_e e1] at k2
        exact ⟨k1, k2⟩
      refine x_iload_n B dX8_readLine_25 1 rfl rfl ?_
      refine x_bipush B dX8_readLine_26 rfl ?_
      have J177 : ∀ (N9 : Mem), (mF M N9 ∧ mQ (TM M) N9 (gPre (TM M) nx nt lt v lb)) → Vx x E N9 177 [(0, .ref (E.1 (71))), (1, .int (iI (z1)))] [] := by
        intro N9 hJ
        obtain ⟨w1, w2⟩ := hJ
        refine x_aload_n B dX8_readLine_177 0 rfl rfl ?_
        refine x_getI B (ci := 8) (k := 3) (lo := 0) (hi := 4) dX8_readLine_178 rfl rfl rfl (by decide) inGX8 kw_808 rfl (fun z178 ez178 lz178 uz178 => ?_)
        have J197 : ∀ (N10 : Mem), (stJ N9 N10) → Vx x E N10 197 [(0, .ref (E.1 (71))), (1, .int (iI (z1)))] [] := by
          intro N10 hJ
          obtain hJ := hJ
          refine x_aload_n B dX8_readLine_197 0 rfl rfl ?_
          refine x_callV B (st := []) (av := []) dX8_readLine_198 cs_X8_next kw_959 ⟨rfl, rfl, Nat.le_of_ble_eq_true rfl, Nat.le_of_ble_eq_true rfl⟩ rfl rfl (Nat.le_of_ble_eq_true rfl) (rc_obj B (ci := 8) rfl rfl rfl) (c_X8_next _ E _ ) (k_v (fun M198 hz198 => ?_))
          exact r_v B R dX8_readLine_201 (by obtain ⟨r1, r2⟩ := stop_m (TM_F w1) w2 hJ hz198; rw [gPre_t p1 ⟨k3.1, by rw [← Is_e e1]; omega⟩]; exact ⟨mF_tr w1 r1, r2⟩)
        refine x_if_ne B (tgt := 197) dX8_readLine_181 (by decide) ⟨by omega, by omega⟩ (fun c181 => ?_) (fun c181 => ?_)
        · show Vx x E N9 197 [(0, .ref (E.1 (71))), (1, .int (iI (z1)))] []
          exact J197 N9 (Or.inl ⟨by rw [← Is_e ez178]; exact c181, rfl⟩)
        · show Vx x E N9 184 [(0, .ref (E.1 (71))), (1, .int (iI (z1)))] []
          refine x_aload_n B dX8_readLine_184 0 rfl rfl ?_
          refine x_getI B (ci := 8) (k := 7) (lo := 0) (hi := 3) dX8_readLine_185 rfl rfl rfl (by decide) inGX8 kw_812 rfl (fun z185 ez185 lz185 uz185 => ?_)
          refine x_iconst B dX8_readLine_188 ?_
          refine x_icmp_eq B (tgt := 197) dX8_readLine_189 (by decide) ⟨by omega, by omega⟩ ⟨by omega, by omega⟩ (fun c189 => ?_) (fun c189 => ?_)
          · show Vx x E N9 197 [(0, .ref (E.1 (71))), (1, .int (iI (z1)))] []
            exact J197 N9 (Or.inr (Or.inl ⟨by rw [← Is_e ez178]; exact c181, by rw [← Is_e ez185]; exact c189, rfl⟩))
          · show Vx x E N9 192 [(0, .ref (E.1 (71))), (1, .int (iI (z1)))] []
            refine x_aload_n B dX8_readLine_192 0 rfl rfl ?_
            refine x_iconst B dX8_readLine_193 ?_
            refine x_callV B (st := []) (av := [.int (iI (2))]) dX8_readLine_194 cs_X8_fails kw_973 ⟨rfl, rfl, Nat.le_of_ble_eq_true rfl, Nat.le_of_ble_eq_true rfl⟩ rfl rfl (Nat.le_of_ble_eq_true rfl) (rc_obj B (ci := 8) rfl rfl rfl) (c_X8_fails _ E _ 2 (by omega) (by omega)) (k_v (fun M194 hz194 => ?_))
            exact J197 M194 (Or.inr (Or.inr ⟨by rw [← Is_e ez178]; exact c181, by rw [← Is_e ez185]; exact c189, hz194⟩))
      refine x_icmp_lt B (tgt := 39) dX8_readLine_28 (by decide) ⟨by omega, by omega⟩ ⟨by omega, by omega⟩ (fun c28 => ?_) (fun c28 => ?_)
      · show Vx x E M 39 [(0, .ref (E.1 (71))), (1, .int (iI (z1)))] []
        refine x_aload_n B dX8_readLine_39 0 rfl rfl ?_
        refine x_getI B (ci := 8) (k := 16) (lo := 0) (hi := 65535) dX8_readLine_40 rfl rfl rfl (by decide) inGX8 kw_821 rfl (fun z40 ez40 lz40 uz40 => ?_)
        have e40 : Is z40 nt := (Is_e ez40).trans p3.1
        refine x_iload_n B dX8_readLine_43 1 rfl rfl ?_
        refine x_ishr B dX8_readLine_44 (by omega) ⟨by omega, by omega⟩ (by omega) (by omega) ?_
        refine x_iconst B dX8_readLine_45 ?_
        refine x_iand B dX8_readLine_46 (Int.natCast_nonneg _) (by omega) ?_
        have b48 := bit_v z40.toNat z1.toNat
        have hb48 : Rg ((((((z40).toNat >>> (z1).toNat : Nat) : Int)).toNat &&& (1 : Int).toNat : Nat) : Int) := by rcases b48 with ⟨h5, h6⟩ | ⟨h5, h6⟩ <;> (rw [h5]; exact ⟨by omega, by omega⟩)
        refine x_iconst B dX8_readLine_47 ?_
        have J56 : ∀ (N1 : Mem), (mF M N1 ∧ (nt.toNat.testBit (TM M nx).2.2.1.toNat = true ∧ mE N1 4 (TM M nx).1 ∨ ¬ nt.toNat.testBit (TM M nx).2.2.1.toNat = true ∧ N1 = M)) → Vx x E N1 56 [(0, .ref (E.1 (71))), (1, .int (iI (z1)))] [] := by
          intro N1 hJ
          obtain ⟨q1, q2⟩ := hJ
          refine x_aload_n B dX8_readLine_56 0 rfl rfl ?_
          refine x_dup B dX8_readLine_57 rfl ?_
          refine x_getI B (ci := 8) (k := 16) (lo := 0) (hi := 65535) dX8_readLine_58 rfl rfl rfl (by decide) inGX8 kw_821 rfl (fun z58 ez58 lz58 uz58 => ?_)
          refine x_iconst B dX8_readLine_61 ?_
          refine x_iload_n B dX8_readLine_62 1 rfl rfl ?_
          refine x_shl1 B dX8_readLine_63 (by omega) (by omega) ?_
          refine x_ior B dX8_readLine_64 (by omega) (Int.natCast_nonneg _) ?_
          refine x_put B (ci := 8) (k := 16) (lo := 0) (hi := 65535) (ty := .int) dX8_readLine_65 rfl rfl rfl (by decide) inGX8 tyX8_ok nmX8 kw_821 rfl (by decide +kernel) (nar_i _) (fit_i _) rfl (or16 (a := z58) (p := z1) (by omega) (by omega) (by omega) (by omega)).1 (or16 (a := z58) (p := z1) (by omega) (by omega) (by omega) (by omega)).2 ?_
          refine x_aload_n B dX8_readLine_68 0 rfl rfl ?_
          refine x_callV B (st := []) (av := []) dX8_readLine_69 cs_X8_next kw_959 ⟨rfl, rfl, Nat.le_of_ble_eq_true rfl, Nat.le_of_ble_eq_true rfl⟩ rfl rfl (Nat.le_of_ble_eq_true rfl) (rc_obj B (ci := 8) rfl rfl rfl) (c_X8_next _ E _ ) (k_v (fun M69 hz69 => ?_))
          have h69 : mF M M69 ∧ (nt.toNat.testBit (TM M nx).2.2.1.toNat = true ∧ mE M69 4 (TM M nx).1 ∨ ¬ nt.toNat.testBit (TM M nx).2.2.1.toNat = true ∧ mLk M69 (TM M (TM M nx).2.2.2) (orP nt (TM M nx).2.2.1) lt v lb) := by
            rcases q2 with ⟨a, b⟩ | ⟨a, b⟩
            · have b2 := mE_17 (k := 16) (x := (((z58).toNat ||| (((2 ^ (z1).toNat : Nat) : Int)).toNat : Nat) : Int)) (by decide) b
              rw [nx_e b2 hz69]
              exact ⟨mF_tr q1 mF_16, Or.inl ⟨a, b2⟩⟩
            · rw [b] at hz69 ez58
              have eor : (((z58).toNat ||| (((2 ^ (z1).toNat : Nat) : Int)).toNat : Nat) : Int) = (orP nt (TM M nx).2.2.1) := by
                rw [(Is_e ez58).trans p3.1, Is_e e1, Int.toNat_natCast]
                rfl
              rw [eor] at hz69
              have kk := mK_17 (k := 16) (x := (orP nt (TM M nx).2.2.1)) (by decide) p2
              obtain ⟨r1, r2⟩ := nx_m kk.1 kk.2.1 (mA_16 (x := (orP nt (TM M nx).2.2.1)) p3) hz69
              rw [TM_F mF_16] at r2
              exact ⟨mF_tr mF_16 r1, Or.inr ⟨a, r2⟩⟩
          have hT69 : TM M69 = TM M := TM_F h69.1
          have hpre : gPre (TM M) nx nt lt v lb = if (TM M nx).2.2.1 < 11 ∧ nt.toNat.testBit (TM M nx).2.2.1.toNat = true then pX 4 (TM M nx).1 else gBd (TM M) (TM M nx).2.2.1 (TM M nx).2.2.2 (orP nt (TM M nx).2.2.1) lt v lb := by
            unfold gPre
            rw [if_pos (show (TM M nx).2.2.1 < 11 by rw [← Is_e e1]; omega)]
          refine x_iload_n B dX8_readLine_72 1 rfl rfl ?_
          refine x_if_ne B (tgt := 136) dX8_readLine_73 (by decide) ⟨by omega, by omega⟩ (fun c73 => ?_) (fun c73 => ?_)
          · show Vx x E M69 136 [(0, .ref (E.1 (71))), (1, .int (iI (z1)))] []
            refine x_iload_n B dX8_readLine_136 1 rfl rfl ?_
            refine x_iconst B dX8_readLine_137 ?_
            refine x_icmp_ne B (tgt := 151) dX8_readLine_138 (by decide) ⟨by omega, by omega⟩ ⟨by omega, by omega⟩ (fun c138 => ?_) (fun c138 => ?_)
            · show Vx x E M69 151 [(0, .ref (E.1 (71))), (1, .int (iI (z1)))] []
              have hnm := nm_q z1.toNat (by omega) (by omega) (by omega)
              refine x_aload_n B dX8_readLine_151 0 rfl rfl ?_
              refine x_getR B (ci := 8) (k := 15) dX8_readLine_152 rfl rfl rfl (by decide) inGX8 kw_820 ?_
              refine x_iload_n B dX8_readLine_155 1 rfl rfl ?_
              refine x_aload_n B dX8_readLine_156 0 rfl rfl ?_
              refine x_aload_n B dX8_readLine_157 0 rfl rfl ?_
              refine x_getR B (ci := 8) (k := 12) dX8_readLine_158 rfl rfl rfl (by decide) inGX8 kw_817 ?_
              refine x_iload_n B dX8_readLine_161 1 rfl rfl ?_
              refine x_iald B (lo := (sLo.getD z1.toNat 0)) (hi := (sLo.getD z1.toNat 0)) dX8_readLine_162 rfl (by omega) (by omega) hnm.2.1 (fun z162 ez162 lz162 uz162 => ?_)
              refine x_aload_n B dX8_readLine_163 0 rfl rfl ?_
              refine x_getR B (ci := 8) (k := 13) dX8_readLine_164 rfl rfl rfl (by decide) inGX8 kw_818 ?_
              refine x_iload_n B dX8_readLine_167 1 rfl rfl ?_
              refine x_iald B (lo := (sHi.getD z1.toNat 0)) (hi := (sHi.getD z1.toNat 0)) dX8_readLine_168 rfl (by omega) (by omega) hnm.2.2.1 (fun z168 ez168 lz168 uz168 => ?_)
              refine x_callV B (st := [.int (iI (z1)), .ref (E.1 (79))]) (av := [.int (iI (z162)), .int (iI (z168))]) dX8_readLine_169 cs_X8_number kw_987 ⟨rfl, rfl, Nat.le_of_ble_eq_true rfl, Nat.le_of_ble_eq_true rfl⟩ rfl rfl (Nat.le_of_ble_eq_true rfl) (rc_obj B (ci := 8) rfl rfl rfl) (c_X8_number _ E _ z162 z168 (by omega) (by omega) (by omega) (by omega)) (k_i (fun z169 M169 hz169 => ?_))
              refine x_iast B (lo := 0) (hi := (sHi.getD z1.toNat 0)) dX8_readLine_172 rfl (by omega) (by omega) hnm.1 (by omega) (by omega) ?_
              refine x_aload_n B dX8_readLine_173 0 rfl rfl ?_
              refine x_callV B (st := []) (av := []) dX8_readLine_174 cs_X8_next kw_959 ⟨rfl, rfl, Nat.le_of_ble_eq_true rfl, Nat.le_of_ble_eq_true rfl⟩ rfl rfl (Nat.le_of_ble_eq_true rfl) (rc_obj B (ci := 8) rfl rfl rfl) (c_X8_next _ E _ ) (k_v (fun M174 hz174 => ?_))
              exact J177 M174 (by have e162 : z162 = sLo.getD z1.toNat 0 := by {omega}; have e168 : z168 = sHi.getD z1.toNat 0 := by {omega}; have h169 := hz169.1; rw [e162, e168] at h169; rw [hpre]; rcases h69.2 with ⟨a, b⟩ | ⟨a, b⟩; (obtain ⟨r1, r2⟩ := num_e b h169 hz174; rw [if_pos ⟨by rw [← Is_e e1]; omega, a⟩]; exact ⟨mF_tr h69.1 r1, mQ_X r2⟩); (rw [if_neg (fun q => a q.2), ← Is_e e1]; rw [← Is_e e1] at b; obtain ⟨r1, r2⟩ := num_m (n := z1) hT69 ⟨by omega, by omega, by omega, by omega⟩ b h169 hz174; exact ⟨mF_tr h69.1 r1, r2⟩))
            · show Vx x E M69 141 [(0, .ref (E.1 (71))), (1, .int (iI (z1)))] []
              refine x_aload_n B dX8_readLine_141 0 rfl rfl ?_
              refine x_getR B (ci := 8) (k := 15) dX8_readLine_142 rfl rfl rfl (by decide) inGX8 kw_820 ?_
              refine x_iconst B dX8_readLine_145 ?_
              refine x_iconst B dX8_readLine_146 ?_
              refine x_iast B (lo := 0) (hi := 1) dX8_readLine_147 rfl (by omega) (by omega) rfl (by omega) (by omega) ?_
              refine x_goto B (tgt := 177) dX8_readLine_148 (by decide) ?_
              exact J177 (sto M69 79 (5 : Int).toNat 1) (by rw [hpre]; rcases h69.2 with ⟨a, b⟩ | ⟨a, b⟩; (rw [if_pos ⟨by rw [← Is_e e1]; omega, a⟩]; exact ⟨mF_tr h69.1 mF_79, mQ_X (mE_79 b)⟩); (rw [if_neg (fun q => a q.2), show (TM M nx).2.2.1 = 5 by rw [← Is_e e1]; omega]; rw [show (TM M nx).2.2.1 = 5 by rw [← Is_e e1]; omega] at b; exact ⟨mF_tr h69.1 mF_79, round_m b⟩))
          · show Vx x E M69 76 [(0, .ref (E.1 (71))), (1, .int (iI (z1)))] []
            refine x_aload_n B dX8_readLine_76 0 rfl rfl ?_
            refine x_getI B (ci := 8) (k := 3) (lo := 0) (hi := 4) dX8_readLine_77 rfl rfl rfl (by decide) inGX8 kw_808 rfl (fun z77 ez77 lz77 uz77 => ?_)
            have J105 : ∀ (N3 : Mem), (wyJ M69 N3) → Vx x E N3 105 [(0, .ref (E.1 (71))), (1, .int (iI (z1)))] [] := by
              intro N3 hJ
              obtain y1 := hJ
              refine x_aload_n B dX8_readLine_105 0 rfl rfl ?_
              refine x_getR B (ci := 8) (k := 15) dX8_readLine_106 rfl rfl rfl (by decide) inGX8 kw_820 ?_
              refine x_iconst B dX8_readLine_109 ?_
              refine x_aload_n B dX8_readLine_110 0 rfl rfl ?_
              refine x_getI B (ci := 8) (k := 3) (lo := 0) (hi := 4) dX8_readLine_111 rfl rfl rfl (by decide) inGX8 kw_808 rfl (fun z111 ez111 lz111 uz111 => ?_)
              have J128 : ∀ (j : Int), (wyJ M69 N3 ∧ wyV N3 j ∧ 0 ≤ j ∧ j ≤ 2) → Vx x E N3 128 [(0, .ref (E.1 (71))), (1, .int (iI (z1)))] [.int (iI (j)), .int (iI (0)), .ref (E.1 (79))] := by
                intro j hJ
                obtain ⟨y1, y2, y3, y4⟩ := hJ
                refine x_iast B (lo := 0) (hi := 2) dX8_readLine_128 rfl (by omega) (by omega) rfl (by omega) (by omega) ?_
                refine x_aload_n B dX8_readLine_129 0 rfl rfl ?_
                refine x_callV B (st := []) (av := []) dX8_readLine_130 cs_X8_next kw_959 ⟨rfl, rfl, Nat.le_of_ble_eq_true rfl, Nat.le_of_ble_eq_true rfl⟩ rfl rfl (Nat.le_of_ble_eq_true rfl) (rc_obj B (ci := 8) rfl rfl rfl) (c_X8_next _ E _ ) (k_v (fun M130 hz130 => ?_))
                refine x_goto B (tgt := 177) dX8_readLine_133 (by decide) ?_
                exact J177 M130 (by rw [hpre]; rcases h69.2 with ⟨a, b⟩ | ⟨a, b⟩; (obtain ⟨r1, r2⟩ := way_e b y1 hz130; rw [if_pos ⟨by rw [← Is_e e1]; omega, a⟩]; exact ⟨mF_tr h69.1 r1, mQ_X r2⟩); (rw [if_neg (fun q => a q.2), show (TM M nx).2.2.1 = 0 by rw [← Is_e e1]; omega]; rw [show (TM M nx).2.2.1 = 0 by rw [← Is_e e1]; omega] at b; obtain ⟨r1, r2⟩ := way_m hT69 b y1 y2 hz130; exact ⟨mF_tr h69.1 r1, r2⟩))
              refine x_if_ne B (tgt := 127) dX8_readLine_114 (by decide) ⟨by omega, by omega⟩ (fun c114 => ?_) (fun c114 => ?_)
              · show Vx x E N3 127 [(0, .ref (E.1 (71))), (1, .int (iI (z1)))] [.int (iI (0)), .ref (E.1 (79))]
                refine x_iconst B dX8_readLine_127 ?_
                exact J128 0 (⟨hJ, fun q => absurd (by rw [Is_e ez111]; exact q) c114, by omega, by omega⟩)
              · show Vx x E N3 117 [(0, .ref (E.1 (71))), (1, .int (iI (z1)))] [.int (iI (0)), .ref (E.1 (79))]
                refine x_aload_n B dX8_readLine_117 0 rfl rfl ?_
                refine x_getI B (ci := 8) (k := 8) (lo := -4) (hi := 99) dX8_readLine_118 rfl rfl rfl (by decide) inGX8 kw_813 rfl (fun z118 ez118 lz118 uz118 => ?_)
                refine x_bipush B dX8_readLine_121 rfl ?_
                refine x_isub B dX8_readLine_123 ?_
                refine x_goto B (tgt := 128) dX8_readLine_124 (by decide) ?_
                exact J128 (z118 - 13) (⟨hJ, fun _ => by rw [Is_e ez118], by have hb3 := way_b hG h69.2 hJ (by rw [← Is_e ez111]; exact c114); rw [← Is_e ez118] at hb3; omega, by have hb3 := way_b hG h69.2 hJ (by rw [← Is_e ez111]; exact c114); rw [← Is_e ez118] at hb3; omega⟩)
            refine x_if_ne B (tgt := 105) dX8_readLine_80 (by decide) ⟨by omega, by omega⟩ (fun c80 => ?_) (fun c80 => ?_)
            · show Vx x E M69 105 [(0, .ref (E.1 (71))), (1, .int (iI (z1)))] []
              exact J105 M69 (Or.inl ⟨by rw [← Is_e ez77]; exact c80, rfl⟩)
            · show Vx x E M69 83 [(0, .ref (E.1 (71))), (1, .int (iI (z1)))] []
              refine x_aload_n B dX8_readLine_83 0 rfl rfl ?_
              refine x_getI B (ci := 8) (k := 7) (lo := 0) (hi := 3) dX8_readLine_84 rfl rfl rfl (by decide) inGX8 kw_812 rfl (fun z84 ez84 lz84 uz84 => ?_)
              refine x_iconst B dX8_readLine_87 ?_
              refine x_icmp_ne B (tgt := 100) dX8_readLine_88 (by decide) ⟨by omega, by omega⟩ ⟨by omega, by omega⟩ (fun c88 => ?_) (fun c88 => ?_)
              · show Vx x E M69 100 [(0, .ref (E.1 (71))), (1, .int (iI (z1)))] []
                refine x_aload_n B dX8_readLine_100 0 rfl rfl ?_
                refine x_iconst B dX8_readLine_101 ?_
                refine x_callV B (st := []) (av := [.int (iI (2))]) dX8_readLine_102 cs_X8_fails kw_973 ⟨rfl, rfl, Nat.le_of_ble_eq_true rfl, Nat.le_of_ble_eq_true rfl⟩ rfl rfl (Nat.le_of_ble_eq_true rfl) (rc_obj B (ci := 8) rfl rfl rfl) (c_X8_fails _ E _ 2 (by omega) (by omega)) (k_v (fun M102 hz102 => ?_))
                exact J105 M102 (Or.inr (Or.inr ⟨by rw [← Is_e ez77]; exact c80, fun q => c88 (by rw [Is_e ez84]; exact q.1), hz102⟩))
              · show Vx x E M69 91 [(0, .ref (E.1 (71))), (1, .int (iI (z1)))] []
                refine x_aload_n B dX8_readLine_91 0 rfl rfl ?_
                refine x_getI B (ci := 8) (k := 8) (lo := -4) (hi := 99) dX8_readLine_92 rfl rfl rfl (by decide) inGX8 kw_813 rfl (fun z92 ez92 lz92 uz92 => ?_)
                refine x_bipush B dX8_readLine_95 rfl ?_
                refine x_icmp_ge B (tgt := 105) dX8_readLine_97 (by decide) ⟨by omega, by omega⟩ ⟨by omega, by omega⟩ (fun c97 => ?_) (fun c97 => ?_)
                · show Vx x E M69 105 [(0, .ref (E.1 (71))), (1, .int (iI (z1)))] []
                  exact J105 M69 (Or.inr (Or.inl ⟨by rw [← Is_e ez77]; exact c80, ⟨by rw [← Is_e ez84]; exact c88, by rw [← Is_e ez92]; omega⟩, rfl⟩))
                · show Vx x E M69 100 [(0, .ref (E.1 (71))), (1, .int (iI (z1)))] []
                  refine x_aload_n B dX8_readLine_100 0 rfl rfl ?_
                  refine x_iconst B dX8_readLine_101 ?_
                  refine x_callV B (st := []) (av := [.int (iI (2))]) dX8_readLine_102 cs_X8_fails kw_973 ⟨rfl, rfl, Nat.le_of_ble_eq_true rfl, Nat.le_of_ble_eq_true rfl⟩ rfl rfl (Nat.le_of_ble_eq_true rfl) (rc_obj B (ci := 8) rfl rfl rfl) (c_X8_fails _ E _ 2 (by omega) (by omega)) (k_v (fun M102 hz102 => ?_))
                  exact J105 M102 (Or.inr (Or.inr ⟨by rw [← Is_e ez77]; exact c80, fun q => by have := q.2; rw [← Is_e ez92] at this; omega, hz102⟩))
        refine x_icmp_ne B (tgt := 56) dX8_readLine_48 (by decide) hb48 ⟨by omega, by omega⟩ (fun c48 => ?_) (fun c48 => ?_)
        · show Vx x E M 56 [(0, .ref (E.1 (71))), (1, .int (iI (z1)))] []
          exact J56 M (⟨mF_rf, Or.inr ⟨by rcases b48 with ⟨h5, h6⟩ | ⟨h5, h6⟩; (exact absurd h5 c48); (rw [Is_e e40, Is_e e1] at h6; rw [h6]; decide), rfl⟩⟩)
        · show Vx x E M 51 [(0, .ref (E.1 (71))), (1, .int (iI (z1)))] []
          refine x_aload_n B dX8_readLine_51 0 rfl rfl ?_
          refine x_iconst B dX8_readLine_52 ?_
          refine x_callV B (st := []) (av := [.int (iI (4))]) dX8_readLine_53 cs_X8_fails kw_973 ⟨rfl, rfl, Nat.le_of_ble_eq_true rfl, Nat.le_of_ble_eq_true rfl⟩ rfl rfl (Nat.le_of_ble_eq_true rfl) (rc_obj B (ci := 8) rfl rfl rfl) (c_X8_fails _ E _ 4 (by omega) (by omega)) (k_v (fun M53 hz53 => ?_))
          exact J56 M53 (by obtain ⟨r1, r2⟩ := fa_m p2.1 (by decide) hz53; rw [p2.2.2.1] at r2; exact ⟨r1, Or.inl ⟨by rcases b48 with ⟨h5, h6⟩ | ⟨h5, h6⟩; (rw [Is_e e40, Is_e e1] at h6; exact h6); (rw [h5] at c48; exact absurd c48 (by decide)), r2⟩⟩)
      · show Vx x E M 31 [(0, .ref (E.1 (71))), (1, .int (iI (z1)))] []
        refine x_aload_n B dX8_readLine_31 0 rfl rfl ?_
        refine x_iload_n B dX8_readLine_32 1 rfl rfl ?_
        refine x_callV B (st := []) (av := [.int (iI (z1))]) dX8_readLine_33 cs_X8_readPoint kw_983 ⟨rfl, rfl, Nat.le_of_ble_eq_true rfl, Nat.le_of_ble_eq_true rfl⟩ rfl rfl (Nat.le_of_ble_eq_true rfl) (rc_obj B (ci := 8) rfl rfl rfl) (c_X8_readPoint _ E _ z1 ((TM M nx).2.2.2) nt lt v lb (by omega) (p2.1) (p2.2.1) p3) (k_v (fun M33 hz33 => ?_))
        refine x_goto B (tgt := 177) dX8_readLine_36 (by decide) ?_
        exact J177 M33 (by refine ⟨hz33.1, ?_⟩; have h := hz33.2; rw [Is_e e1] at h; unfold gPre; rw [if_neg (fun q => by have h7 := q.1; rw [← Is_e e1] at h7; omega), if_neg (by rw [← Is_e e1]; omega)]; exact h)
    · show Vx x E M 19 [(0, .ref (E.1 (71))), (1, .int (iI (z1)))] []
      refine x_aload_n B dX8_readLine_19 0 rfl rfl ?_
      refine x_iconst B dX8_readLine_20 ?_
      refine x_callV B (st := []) (av := [.int (iI (2))]) dX8_readLine_21 cs_X8_fails kw_973 ⟨rfl, rfl, Nat.le_of_ble_eq_true rfl, Nat.le_of_ble_eq_true rfl⟩ rfl rfl (Nat.le_of_ble_eq_true rfl) (rc_obj B (ci := 8) rfl rfl rfl) (c_X8_fails _ E _ 2 (by omega) (by omega)) (k_v (fun M21 hz21 => ?_))
      exact r_v B R dX8_readLine_24 (by obtain ⟨r1, r2⟩ := fa_m p2.1 (by decide) hz21; rw [p2.2.2.1] at r2; refine ⟨r1, ?_⟩; unfold gLine; rw [if_neg p1, if_pos (fun q => by have h7 := q.2; rw [← Is_e e1] at h7; omega)]; exact mQ_X r2)
