/-- a contract with a weaker post -/
theorem Ct_wk {l : Launch} {y : MethodName} {cc : ByteArray} {n : Nat} {r : Option FieldType} {rm : Room} {E : Ev} {M : Mem} {av : List Value} {p q : Option Value → Mem → Prop} (h : ∀ v M', p v M' → q v M') (hC : Ct l y cc n r rm E M av p) : Ct l y cc n r rm E M av q := by
  intro hw p' e ha hc hk s m args below hf happ hP hK
  obtain ⟨n', o, h1, h2, h3, ⟨⟨v, M', ev, w, hp, hP'⟩, hF⟩, h5⟩ := hC hw p' e ha hc hk s m args below hf happ hP hK
  exact ⟨n', o, h1, h2, h3, ⟨⟨v, M', ev, w, h v M' hp, hP'⟩, hF⟩, h5⟩
/-! ===== TOLD RIGHT, as the class finds it ===== -/
def moK (rec : Int → Int) (all pl : Int) : Nat → Int
  | 0 => 1
  | k + 1 => if moK rec all pl k < all then max (moK rec all pl k) (rec (mvT pl (k : Int))) else moK rec all pl k
def toK (lk : Int → Int → Nat) (f : Nat → Int) (set : Nat) (pl : Int) : Nat → Nat × Int
  | 0 => (set, 0)
  | k + 1 => if (toK lk f set pl k).1.testBit k = true then (ndf (toK lk f set pl k).1 (set &&& lk (k : Int) pl), (toK lk f set pl k).2 + f (set &&& lk (k : Int) pl)) else toK lk f set pl k
def tfS (lk : Int → Int → Nat) : Nat → Nat → Int → Int
  | 0 => fun set pl => (toK lk (fun _ => 1) set pl 6).2
  | m + 1 => fun set pl => (toK lk (fun like => moK (fun p => tfS lk m like p) ((popN like 16 : Nat) : Int) pl 6) set pl 6).2
theorem moK_y {rec : Int → Int} {all pl q : Int} (h0 : 0 ≤ q) (h : moK rec all pl q.toNat < all) : moK rec all pl (q + 1).toNat = max (moK rec all pl q.toNat) (rec (mvT pl q)) := by
  rw [show (q + 1).toNat = q.toNat + 1 by omega]
  show (if moK rec all pl q.toNat < all then max _ (rec (mvT pl ((q.toNat : Nat) : Int))) else _) = _
  rw [if_pos h, Int.toNat_of_nonneg h0]
theorem moK_st {rec : Int → Int} {all pl : Int} {k : Nat} (h : ¬ moK rec all pl k < all) : ∀ n, k ≤ n → moK rec all pl n = moK rec all pl k := by
  intro n hn
  induction n with
  | zero => rw [show k = 0 by omega]
  | succ n ih =>
    by_cases e : k = n + 1
    · rw [e]
    · have h1 := ih (by omega)
      show (if moK rec all pl n < all then _ else _) = _
      rw [h1, if_neg h]
theorem toK_t {lk : Int → Int → Nat} {f : Nat → Int} {set : Nat} {pl k : Int} (h0 : 0 ≤ k) (h : (toK lk f set pl k.toNat).1.testBit k.toNat = true) : toK lk f set pl (k + 1).toNat = (ndf (toK lk f set pl k.toNat).1 (set &&& lk k pl), (toK lk f set pl k.toNat).2 + f (set &&& lk k pl)) := by
  rw [show (k + 1).toNat = k.toNat + 1 by omega]
  show (if (toK lk f set pl k.toNat).1.testBit k.toNat = true then (ndf _ (set &&& lk ((k.toNat : Nat) : Int) pl), _ + f (set &&& lk ((k.toNat : Nat) : Int) pl)) else _) = _
  rw [if_pos h, Int.toNat_of_nonneg h0]
theorem toK_f {lk : Int → Int → Nat} {f : Nat → Int} {set : Nat} {pl k : Int} (h0 : 0 ≤ k) (h : ¬ (toK lk f set pl k.toNat).1.testBit k.toNat = true) : toK lk f set pl (k + 1).toNat = toK lk f set pl k.toNat := by
  rw [show (k + 1).toNat = k.toNat + 1 by omega]
  show (if (toK lk f set pl k.toNat).1.testBit k.toNat = true then _ else _) = _
  rw [if_neg h]
theorem ndf_le {a b : Nat} (h : a < 64) : ndf a b < 64 := by
  have e : (2 : Nat) ^ 6 = 64 := by decide
  have h1 : a < 2 ^ 6 := by omega
  have h2 : a &&& b < 2 ^ 6 := Nat.lt_of_le_of_lt Nat.and_le_left h1
  have h3 := Nat.xor_lt_two_pow h1 h2
  unfold ndf
  omega
theorem and63 {v z : Int} (v0 : 0 ≤ v) (v1 : v < 64) : (0 : Int) ≤ ((v.toNat &&& z.toNat : Nat) : Int) ∧ ((v.toNat &&& z.toNat : Nat) : Int) < 64 := by
  have : v.toNat &&& z.toNat ≤ v.toNat := Nat.and_le_left
  omega
abbrev rm_X7_toldFrom_0 : Room := { frames := 5, cells := 0, slots := 0, locals := 116 }
theorem cs_X7_toldFrom : Cv yX7_toldFrom cX7_toldFrom 11 (some .int) 3 := ⟨kw_653, ⟨kw_652, kw_24⟩, kw_57, by decide, by decide, by decide +kernel⟩
set_option maxHeartbeats 4000000 in
set_option maxRecDepth 100000 in
theorem c_X7_toldFrom_0 (l : Launch) (E : Ev) (M : Mem) (v pl : Int) (g1 : 0 ≤ v) (g2 : v < 64) (g3 : 0 ≤ pl) (g4 : pl ≤ 25) (g5 : LkOK M) : Ct l yX7_toldFrom cX7_toldFrom 11 (some .int) rm_X7_toldFrom_0 E M [.ref (E.1 (0)), .int (iI (v)), .int (iI (pl)), .int (iI (0))] (pI (fun z M' => offC M M' 16 57 ∧ LkOK M' ∧ z = tfS (lkS M) 0 v.toNat pl ∧ 0 ≤ z ∧ z ≤ 6)) := by
  refine Ct_of (lv := [(0, .ref (E.1 (0))), (1, .int (iI (v))), (2, .int (iI (pl))), (3, .int (iI (0)))]) (by decide) ⟨rfl, rfl⟩ (Nat.le_of_ble_eq_true rfl) rfl (fun x _ B R => ?_)
  refine x_iconst B dX7_toldFrom_0 ?_
  refine x_istore B dX7_toldFrom_1 [1, 2, 3, 4, 0] (by decide) (lv' := [(0, .ref (E.1 (0))), (1, .int (iI (v))), (2, .int (iI (pl))), (3, .int (iI (0))), (4, .int (iI (0)))]) rfl ?_
  refine x_iload_n B dX7_toldFrom_3 1 rfl rfl ?_
  refine x_istore B dX7_toldFrom_4 [1, 2, 3, 4, 5, 0] (by decide) (lv' := [(0, .ref (E.1 (0))), (1, .int (iI (v))), (2, .int (iI (pl))), (3, .int (iI (0))), (4, .int (iI (0))), (5, .int (iI (v)))]) rfl ?_
  refine x_iconst B dX7_toldFrom_6 ?_
  refine x_istore B dX7_toldFrom_7 [1, 2, 3, 4, 5, 6, 0] (by decide) (lv' := [(0, .ref (E.1 (0))), (1, .int (iI (v))), (2, .int (iI (pl))), (3, .int (iI (0))), (4, .int (iI (0))), (5, .int (iI (v))), (6, .int (iI (0)))]) rfl ?_
  have L9 : ∀ (t : Int) (lf : Int) (k : Int) (M1 : Mem), (0 ≤ k ∧ k ≤ 6 ∧ offC M M1 16 57 ∧ LkOK M1 ∧ 0 ≤ lf ∧ lf < 64 ∧ Is lf (((toK (lkS M) (fun _ => 1) v.toNat pl k.toNat).1 : Nat) : Int) ∧ Is t (toK (lkS M) (fun _ => 1) v.toNat pl k.toNat).2 ∧ 0 ≤ t ∧ t ≤ 1 * k) → Vx x E M1 9 [(0, .ref (E.1 (0))), (1, .int (iI (v))), (2, .int (iI (pl))), (3, .int (iI (0))), (4, .int (iI (t))), (5, .int (iI (lf))), (6, .int (iI (k)))] [] := by
    refine lo4 _ _ (fun t lf k M1 => (6 - k).toNat) ?_
    intro t lf k M1 hI ih9
    obtain ⟨i1, i2, i3, i4, i5, i6, i7, i8, i9, i10⟩ := hI
    refine x_iload B dX7_toldFrom_9 6 rfl ?_
    refine x_bipush B dX7_toldFrom_11 rfl ?_
    refine x_icmp_ge B (tgt := 119) dX7_toldFrom_13 (by decide) ⟨by omega, by omega⟩ ⟨by omega, by omega⟩ (fun c13 => ?_) (fun c13 => ?_)
    · show Vx x E M1 119 [(0, .ref (E.1 (0))), (1, .int (iI (v))), (2, .int (iI (pl))), (3, .int (iI (0))), (4, .int (iI (t))), (5, .int (iI (lf))), (6, .int (iI (k)))] []
      refine x_iload B dX7_toldFrom_119 4 rfl ?_
      exact r_i B R dX7_toldFrom_121 (⟨i3, i4, by rw [Is_e i8, show k.toNat = 6 by omega]; rfl, by omega, by omega⟩)
    · show Vx x E M1 16 [(0, .ref (E.1 (0))), (1, .int (iI (v))), (2, .int (iI (pl))), (3, .int (iI (0))), (4, .int (iI (t))), (5, .int (iI (lf))), (6, .int (iI (k)))] []
      refine x_iload B dX7_toldFrom_16 5 rfl ?_
      refine x_iload B dX7_toldFrom_18 6 rfl ?_
      refine x_callS B (st := []) (av := [.int (iI (lf)), .int (iI (k))]) dX7_toldFrom_20 cs_X7_bit kw_571 ⟨rfl, rfl, Nat.le_of_ble_eq_true rfl, Nat.le_of_ble_eq_true rfl⟩ rfl rfl (Nat.le_of_ble_eq_true rfl) (c_X7_bit _ E _ lf k (by omega) (by omega) (by omega) (by omega)) (k_i (fun z20 Mq hz20 => ?_))
      obtain ⟨rfl, hz20⟩ := hz20
      refine x_iconst B dX7_toldFrom_23 ?_
      refine x_icmp_ne B (tgt := 113) dX7_toldFrom_24 (by decide) ⟨by omega, by omega⟩ ⟨by omega, by omega⟩ (fun c24 => ?_) (fun c24 => ?_)
      · show Vx x E M1 113 [(0, .ref (E.1 (0))), (1, .int (iI (v))), (2, .int (iI (pl))), (3, .int (iI (0))), (4, .int (iI (t))), (5, .int (iI (lf))), (6, .int (iI (k)))] []
        refine x_iinc B (q := 6) dX7_toldFrom_113 rfl [1, 2, 3, 4, 5, 6, 0] (by decide) (lv' := [(0, .ref (E.1 (0))), (1, .int (iI (v))), (2, .int (iI (pl))), (3, .int (iI (0))), (4, .int (iI (t))), (5, .int (iI (lf))), (6, .int (iI (k + 1)))]) rfl ?_
        refine x_goto B (tgt := 9) dX7_toldFrom_116 (by decide) ?_
        exact ih9 t lf (k + 1) M1 (⟨by omega, by omega, i3, i4, i5, i6, by show _ = _; rw [toK_f i1 (by have e := Is_e i7; rcases hz20 with ⟨h5, h6⟩ | ⟨h5, h6⟩ <;> first | omega | (rw [e, Int.toNat_natCast] at h6; rw [h6]; decide))]; exact Is_e i7, by show _ = _; rw [toK_f i1 (by have e := Is_e i7; rcases hz20 with ⟨h5, h6⟩ | ⟨h5, h6⟩ <;> first | omega | (rw [e, Int.toNat_natCast] at h6; rw [h6]; decide))]; exact Is_e i8, by omega, by omega⟩) (by omega)
      · show Vx x E M1 27 [(0, .ref (E.1 (0))), (1, .int (iI (v))), (2, .int (iI (pl))), (3, .int (iI (0))), (4, .int (iI (t))), (5, .int (iI (lf))), (6, .int (iI (k)))] []
        have htb : (toK (lkS M) (fun _ => 1) v.toNat pl k.toNat).1.testBit k.toNat = true := by
          have e := Is_e i7
          rcases hz20 with ⟨h5, h6⟩ | ⟨h5, h6⟩
          · rw [e, Int.toNat_natCast] at h6
            exact h6
          · omega
        refine x_iload_n B dX7_toldFrom_27 1 rfl rfl ?_
        refine x_aload_n B dX7_toldFrom_28 0 rfl rfl ?_
        refine x_iload_n B dX7_toldFrom_29 2 rfl rfl ?_
        refine x_iload B dX7_toldFrom_30 6 rfl ?_
        refine x_callV B (st := [.int (iI (v))]) (av := [.int (iI (pl)), .int (iI (k))]) dX7_toldFrom_32 cs_X7_likeHere kw_654 ⟨rfl, rfl, Nat.le_of_ble_eq_true rfl, Nat.le_of_ble_eq_true rfl⟩ rfl rfl (Nat.le_of_ble_eq_true rfl) (rc_obj B (ci := 7) rfl rfl rfl) (c_X7_likeHere _ E _ pl k (by omega) (by omega) (by omega) (by omega) (by assumption)) (k_i (fun z32 M32 hz32 => ?_))
        refine x_iand B dX7_toldFrom_35 (by omega) (by omega) ?_
        refine x_istore B dX7_toldFrom_36 [1, 2, 3, 4, 5, 6, 7, 0] (by decide) (lv' := [(0, .ref (E.1 (0))), (1, .int (iI (v))), (2, .int (iI (pl))), (3, .int (iI (0))), (4, .int (iI (t))), (5, .int (iI (lf))), (6, .int (iI (k))), (7, .int (iI ((((v).toNat &&& (z32).toNat : Nat) : Int))))]) rfl ?_
        have a63 := and63 (v := v) (z := z32) (by omega) (by omega)
        have hlk2 : ((((v).toNat &&& (z32).toNat : Nat) : Int)).toNat = v.toNat &&& lkS M k pl := by rw [Int.toNat_natCast, hz32.2.2.1, Int.toNat_natCast, lkS_off i3 (by omega)]
        generalize (((v).toNat &&& (z32).toNat : Nat) : Int) = lk7 at a63 hlk2 ⊢
        refine x_iload B dX7_toldFrom_38 5 rfl ?_
        refine x_iload B dX7_toldFrom_40 7 rfl ?_
        refine x_iconst B dX7_toldFrom_42 ?_
        refine x_inot B dX7_toldFrom_43 ?_
        refine x_iandn B dX7_toldFrom_44 (by omega) (by omega) ?_
        refine x_istore B dX7_toldFrom_45 [1, 2, 3, 4, 5, 0, 6, 7] (by decide) (lv' := [(0, .ref (E.1 (0))), (1, .int (iI (v))), (2, .int (iI (pl))), (3, .int (iI (0))), (4, .int (iI (t))), (5, .int (iI (((ndf (lf).toNat (lk7).toNat : Nat) : Int)))), (6, .int (iI (k))), (7, .int (iI (lk7)))]) rfl ?_
        have hlf : Is (((ndf (lf).toNat (lk7).toNat : Nat) : Int)) ((ndf (toK (lkS M) (fun _ => 1) v.toNat pl k.toNat).1 (v.toNat &&& lkS M k pl) : Nat) : Int) := by
          show _ = _
          rw [hlk2, Is_e i7, Int.toNat_natCast]
        have n63 : 0 ≤ ((ndf (lf).toNat (lk7).toNat : Nat) : Int) ∧ ((ndf (lf).toNat (lk7).toNat : Nat) : Int) < 64 := by
          have h := ndf_le (a := lf.toNat) (b := lk7.toNat) (by omega)
          omega
        generalize ((ndf (lf).toNat (lk7).toNat : Nat) : Int) = lf2 at hlf n63 ⊢
        refine x_iload B dX7_toldFrom_47 7 rfl ?_
        refine x_callS B (st := []) (av := [.int (iI (lk7))]) dX7_toldFrom_49 cs_J6_bitCount_0f7a4 kw_668 ⟨rfl, rfl, Nat.le_of_ble_eq_true rfl, Nat.le_of_ble_eq_true rfl⟩ rfl rfl (Nat.le_of_ble_eq_true rfl) (c_J6_bitCount_0f7a4 _ E _ lk7 (by omega) (by omega)) (k_i (fun z49 Mq hz49 => ?_))
        obtain ⟨rfl, hz49⟩ := hz49
        refine x_istore B dX7_toldFrom_52 [1, 2, 3, 4, 5, 6, 7, 8, 0] (by decide) (lv' := [(0, .ref (E.1 (0))), (1, .int (iI (v))), (2, .int (iI (pl))), (3, .int (iI (0))), (4, .int (iI (t))), (5, .int (iI (lf2))), (6, .int (iI (k))), (7, .int (iI (lk7))), (8, .int (iI (z49)))]) rfl ?_
        refine x_iconst B dX7_toldFrom_54 ?_
        refine x_istore B dX7_toldFrom_55 [1, 2, 3, 4, 5, 6, 7, 8, 9, 0] (by decide) (lv' := [(0, .ref (E.1 (0))), (1, .int (iI (v))), (2, .int (iI (pl))), (3, .int (iI (0))), (4, .int (iI (t))), (5, .int (iI (lf2))), (6, .int (iI (k))), (7, .int (iI (lk7))), (8, .int (iI (z49))), (9, .int (iI (1)))]) rfl ?_
        refine x_iconst B dX7_toldFrom_57 ?_
        refine x_istore B dX7_toldFrom_58 [1, 2, 3, 4, 5, 6, 7, 8, 9, 10, 0] (by decide) (lv' := [(0, .ref (E.1 (0))), (1, .int (iI (v))), (2, .int (iI (pl))), (3, .int (iI (0))), (4, .int (iI (t))), (5, .int (iI (lf2))), (6, .int (iI (k))), (7, .int (iI (lk7))), (8, .int (iI (z49))), (9, .int (iI (1))), (10, .int (iI (0)))]) rfl ?_
        have L60 : ∀ (mo : Int) (q : Int) (M2 : Mem), (0 ≤ q ∧ q ≤ 6 ∧ offC M M2 16 57 ∧ LkOK M2 ∧ mo = 1) → Vx x E M2 60 [(0, .ref (E.1 (0))), (1, .int (iI (v))), (2, .int (iI (pl))), (3, .int (iI (0))), (4, .int (iI (t))), (5, .int (iI (lf2))), (6, .int (iI (k))), (7, .int (iI (lk7))), (8, .int (iI (z49))), (9, .int (iI (mo))), (10, .int (iI (q)))] [] := by
          refine lo3 _ _ (fun mo q M2 => (6 - q).toNat) ?_
          intro mo q M2 hI ih60
          obtain ⟨n1, n2, n3, n4, n5⟩ := hI
          refine x_iload B dX7_toldFrom_60 10 rfl ?_
          refine x_bipush B dX7_toldFrom_62 rfl ?_
          refine x_icmp_ge B (tgt := 106) dX7_toldFrom_64 (by decide) ⟨by omega, by omega⟩ ⟨by omega, by omega⟩ (fun c64 => ?_) (fun c64 => ?_)
          · show Vx x E M2 106 [(0, .ref (E.1 (0))), (1, .int (iI (v))), (2, .int (iI (pl))), (3, .int (iI (0))), (4, .int (iI (t))), (5, .int (iI (lf2))), (6, .int (iI (k))), (7, .int (iI (lk7))), (8, .int (iI (z49))), (9, .int (iI (mo))), (10, .int (iI (q)))] []
            refine x_iload B dX7_toldFrom_106 4 rfl ?_
            refine x_iload B dX7_toldFrom_108 9 rfl ?_
            refine x_iadd B dX7_toldFrom_110 ?_
            refine x_istore B dX7_toldFrom_111 [1, 2, 3, 4, 0, 5, 6, 7, 8, 9, 10] (by decide) (lv' := [(0, .ref (E.1 (0))), (1, .int (iI (v))), (2, .int (iI (pl))), (3, .int (iI (0))), (4, .int (iI (t + mo))), (5, .int (iI (lf2))), (6, .int (iI (k))), (7, .int (iI (lk7))), (8, .int (iI (z49))), (9, .int (iI (mo))), (10, .int (iI (q)))]) rfl ?_
            refine x_iinc B (q := 6) dX7_toldFrom_113 rfl [1, 2, 3, 4, 5, 6, 0, 7, 8, 9, 10] (by decide) (lv' := [(0, .ref (E.1 (0))), (1, .int (iI (v))), (2, .int (iI (pl))), (3, .int (iI (0))), (4, .int (iI (t + mo))), (5, .int (iI (lf2))), (6, .int (iI (k + 1))), (7, .int (iI (lk7))), (8, .int (iI (z49))), (9, .int (iI (mo))), (10, .int (iI (q)))]) rfl ?_
            refine x_goto B (tgt := 9) dX7_toldFrom_116 (by decide) ?_
            refine x_lv [0, 1, 2, 3, 4, 5, 6] (lv' := [(0, .ref (E.1 (0))), (1, .int (iI (v))), (2, .int (iI (pl))), (3, .int (iI (0))), (4, .int (iI (t + mo))), (5, .int (iI (lf2))), (6, .int (iI (k + 1)))]) rfl ?_
            exact ih9 (t + mo) lf2 (k + 1) M2 (⟨by omega, by omega, n3, n4, by omega, by omega, by show _ = _; rw [toK_t i1 htb]; exact Is_e hlf, by show _ = _; rw [toK_t i1 htb, ← Is_e i8, n5], by omega, by omega⟩) (by omega)
          · show Vx x E M2 67 [(0, .ref (E.1 (0))), (1, .int (iI (v))), (2, .int (iI (pl))), (3, .int (iI (0))), (4, .int (iI (t))), (5, .int (iI (lf2))), (6, .int (iI (k))), (7, .int (iI (lk7))), (8, .int (iI (z49))), (9, .int (iI (mo))), (10, .int (iI (q)))] []
            refine x_iload_n B dX7_toldFrom_67 3 rfl rfl ?_
            refine x_if_le B (tgt := 106) dX7_toldFrom_68 (by decide) ⟨by omega, by omega⟩ (fun c68 => ?_) (fun c68 => ?_)
            · show Vx x E M2 106 [(0, .ref (E.1 (0))), (1, .int (iI (v))), (2, .int (iI (pl))), (3, .int (iI (0))), (4, .int (iI (t))), (5, .int (iI (lf2))), (6, .int (iI (k))), (7, .int (iI (lk7))), (8, .int (iI (z49))), (9, .int (iI (mo))), (10, .int (iI (q)))] []
              refine x_iload B dX7_toldFrom_106 4 rfl ?_
              refine x_iload B dX7_toldFrom_108 9 rfl ?_
              refine x_iadd B dX7_toldFrom_110 ?_
              refine x_istore B dX7_toldFrom_111 [1, 2, 3, 4, 0, 5, 6, 7, 8, 9, 10] (by decide) (lv' := [(0, .ref (E.1 (0))), (1, .int (iI (v))), (2, .int (iI (pl))), (3, .int (iI (0))), (4, .int (iI (t + mo))), (5, .int (iI (lf2))), (6, .int (iI (k))), (7, .int (iI (lk7))), (8, .int (iI (z49))), (9, .int (iI (mo))), (10, .int (iI (q)))]) rfl ?_
              refine x_iinc B (q := 6) dX7_toldFrom_113 rfl [1, 2, 3, 4, 5, 6, 0, 7, 8, 9, 10] (by decide) (lv' := [(0, .ref (E.1 (0))), (1, .int (iI (v))), (2, .int (iI (pl))), (3, .int (iI (0))), (4, .int (iI (t + mo))), (5, .int (iI (lf2))), (6, .int (iI (k + 1))), (7, .int (iI (lk7))), (8, .int (iI (z49))), (9, .int (iI (mo))), (10, .int (iI (q)))]) rfl ?_
              refine x_goto B (tgt := 9) dX7_toldFrom_116 (by decide) ?_
              refine x_lv [0, 1, 2, 3, 4, 5, 6] (lv' := [(0, .ref (E.1 (0))), (1, .int (iI (v))), (2, .int (iI (pl))), (3, .int (iI (0))), (4, .int (iI (t + mo))), (5, .int (iI (lf2))), (6, .int (iI (k + 1)))]) rfl ?_
              exact ih9 (t + mo) lf2 (k + 1) M2 (⟨by omega, by omega, n3, n4, by omega, by omega, by show _ = _; rw [toK_t i1 htb]; exact Is_e hlf, by show _ = _; rw [toK_t i1 htb, ← Is_e i8, n5], by omega, by omega⟩) (by omega)
            · exact absurd (show (0 : Int) ≤ 0 by omega) c68
        exact L60 1 0 M32 (⟨by omega, by omega, offC_tr i3 hz32.1, hz32.2.1, rfl⟩)
  exact L9 0 v 0 M (⟨by omega, by omega, offC_rf, by assumption, by omega, by omega, (by show v = ((v.toNat : Nat) : Int); omega), rfl, by omega, by omega⟩)
abbrev rm_X7_toldFrom_1 : Room := { frames := 6, cells := 0, slots := 0, locals := 146 }
set_option maxHeartbeats 4000000 in
set_option maxRecDepth 100000 in
theorem c_X7_toldFrom_1 (l : Launch) (E : Ev) (M : Mem) (v pl : Int) (g1 : 0 ≤ v) (g2 : v < 64) (g3 : 0 ≤ pl) (g4 : pl ≤ 25) (g5 : LkOK M) : Ct l yX7_toldFrom cX7_toldFrom 11 (some .int) rm_X7_toldFrom_1 E M [.ref (E.1 (0)), .int (iI (v)), .int (iI (pl)), .int (iI (1))] (pI (fun z M' => offC M M' 16 57 ∧ LkOK M' ∧ z = tfS (lkS M) 1 v.toNat pl ∧ 0 ≤ z ∧ z ≤ 36)) := by
  refine Ct_of (lv := [(0, .ref (E.1 (0))), (1, .int (iI (v))), (2, .int (iI (pl))), (3, .int (iI (1)))]) (by decide) ⟨rfl, rfl⟩ (Nat.le_of_ble_eq_true rfl) rfl (fun x _ B R => ?_)
  refine x_iconst B dX7_toldFrom_0 ?_
  refine x_istore B dX7_toldFrom_1 [1, 2, 3, 4, 0] (by decide) (lv' := [(0, .ref (E.1 (0))), (1, .int (iI (v))), (2, .int (iI (pl))), (3, .int (iI (1))), (4, .int (iI (0)))]) rfl ?_
  refine x_iload_n B dX7_toldFrom_3 1 rfl rfl ?_
  refine x_istore B dX7_toldFrom_4 [1, 2, 3, 4, 5, 0] (by decide) (lv' := [(0, .ref (E.1 (0))), (1, .int (iI (v))), (2, .int (iI (pl))), (3, .int (iI (1))), (4, .int (iI (0))), (5, .int (iI (v)))]) rfl ?_
  refine x_iconst B dX7_toldFrom_6 ?_
  refine x_istore B dX7_toldFrom_7 [1, 2, 3, 4, 5, 6, 0] (by decide) (lv' := [(0, .ref (E.1 (0))), (1, .int (iI (v))), (2, .int (iI (pl))), (3, .int (iI (1))), (4, .int (iI (0))), (5, .int (iI (v))), (6, .int (iI (0)))]) rfl ?_
  have L9 : ∀ (t : Int) (lf : Int) (k : Int) (M1 : Mem), (0 ≤ k ∧ k ≤ 6 ∧ offC M M1 16 57 ∧ LkOK M1 ∧ 0 ≤ lf ∧ lf < 64 ∧ Is lf (((toK (lkS M) (fun like => moK (fun p => tfS (lkS M) 0 like p) ((popN like 16 : Nat) : Int) pl 6) v.toNat pl k.toNat).1 : Nat) : Int) ∧ Is t (toK (lkS M) (fun like => moK (fun p => tfS (lkS M) 0 like p) ((popN like 16 : Nat) : Int) pl 6) v.toNat pl k.toNat).2 ∧ 0 ≤ t ∧ t ≤ 6 * k) → Vx x E M1 9 [(0, .ref (E.1 (0))), (1, .int (iI (v))), (2, .int (iI (pl))), (3, .int (iI (1))), (4, .int (iI (t))), (5, .int (iI (lf))), (6, .int (iI (k)))] [] := by
    refine lo4 _ _ (fun t lf k M1 => (6 - k).toNat) ?_
    intro t lf k M1 hI ih9
    obtain ⟨i1, i2, i3, i4, i5, i6, i7, i8, i9, i10⟩ := hI
    refine x_iload B dX7_toldFrom_9 6 rfl ?_
    refine x_bipush B dX7_toldFrom_11 rfl ?_
    refine x_icmp_ge B (tgt := 119) dX7_toldFrom_13 (by decide) ⟨by omega, by omega⟩ ⟨by omega, by omega⟩ (fun c13 => ?_) (fun c13 => ?_)
    · show Vx x E M1 119 [(0, .ref (E.1 (0))), (1, .int (iI (v))), (2, .int (iI (pl))), (3, .int (iI (1))), (4, .int (iI (t))), (5, .int (iI (lf))), (6, .int (iI (k)))] []
      refine x_iload B dX7_toldFrom_119 4 rfl ?_
      exact r_i B R dX7_toldFrom_121 (⟨i3, i4, by rw [Is_e i8, show k.toNat = 6 by omega]; rfl, by omega, by omega⟩)
    · show Vx x E M1 16 [(0, .ref (E.1 (0))), (1, .int (iI (v))), (2, .int (iI (pl))), (3, .int (iI (1))), (4, .int (iI (t))), (5, .int (iI (lf))), (6, .int (iI (k)))] []
      refine x_iload B dX7_toldFrom_16 5 rfl ?_
      refine x_iload B dX7_toldFrom_18 6 rfl ?_
      refine x_callS B (st := []) (av := [.int (iI (lf)), .int (iI (k))]) dX7_toldFrom_20 cs_X7_bit kw_571 ⟨rfl, rfl, Nat.le_of_ble_eq_true rfl, Nat.le_of_ble_eq_true rfl⟩ rfl rfl (Nat.le_of_ble_eq_true rfl) (c_X7_bit _ E _ lf k (by omega) (by omega) (by omega) (by omega)) (k_i (fun z20 Mq hz20 => ?_))
      obtain ⟨rfl, hz20⟩ := hz20
      refine x_iconst B dX7_toldFrom_23 ?_
      refine x_icmp_ne B (tgt := 113) dX7_toldFrom_24 (by decide) ⟨by omega, by omega⟩ ⟨by omega, by omega⟩ (fun c24 => ?_) (fun c24 => ?_)
      · show Vx x E M1 113 [(0, .ref (E.1 (0))), (1, .int (iI (v))), (2, .int (iI (pl))), (3, .int (iI (1))), (4, .int (iI (t))), (5, .int (iI (lf))), (6, .int (iI (k)))] []
        refine x_iinc B (q := 6) dX7_toldFrom_113 rfl [1, 2, 3, 4, 5, 6, 0] (by decide) (lv' := [(0, .ref (E.1 (0))), (1, .int (iI (v))), (2, .int (iI (pl))), (3, .int (iI (1))), (4, .int (iI (t))), (5, .int (iI (lf))), (6, .int (iI (k + 1)))]) rfl ?_
        refine x_goto B (tgt := 9) dX7_toldFrom_116 (by decide) ?_
        exact ih9 t lf (k + 1) M1 (⟨by omega, by omega, i3, i4, i5, i6, by show _ = _; rw [toK_f i1 (by have e := Is_e i7; rcases hz20 with ⟨h5, h6⟩ | ⟨h5, h6⟩ <;> first | omega | (rw [e, Int.toNat_natCast] at h6; rw [h6]; decide))]; exact Is_e i7, by show _ = _; rw [toK_f i1 (by have e := Is_e i7; rcases hz20 with ⟨h5, h6⟩ | ⟨h5, h6⟩ <;> first | omega | (rw [e, Int.toNat_natCast] at h6; rw [h6]; decide))]; exact Is_e i8, by omega, by omega⟩) (by omega)
      · show Vx x E M1 27 [(0, .ref (E.1 (0))), (1, .int (iI (v))), (2, .int (iI (pl))), (3, .int (iI (1))), (4, .int (iI (t))), (5, .int (iI (lf))), (6, .int (iI (k)))] []
        have htb : (toK (lkS M) (fun like => moK (fun p => tfS (lkS M) 0 like p) ((popN like 16 : Nat) : Int) pl 6) v.toNat pl k.toNat).1.testBit k.toNat = true := by
          have e := Is_e i7
          rcases hz20 with ⟨h5, h6⟩ | ⟨h5, h6⟩
          · rw [e, Int.toNat_natCast] at h6
            exact h6
          · omega
        refine x_iload_n B dX7_toldFrom_27 1 rfl rfl ?_
        refine x_aload_n B dX7_toldFrom_28 0 rfl rfl ?_
        refine x_iload_n B dX7_toldFrom_29 2 rfl rfl ?_
        refine x_iload B dX7_toldFrom_30 6 rfl ?_
        refine x_callV B (st := [.int (iI (v))]) (av := [.int (iI (pl)), .int (iI (k))]) dX7_toldFrom_32 cs_X7_likeHere kw_654 ⟨rfl, rfl, Nat.le_of_ble_eq_true rfl, Nat.le_of_ble_eq_true rfl⟩ rfl rfl (Nat.le_of_ble_eq_true rfl) (rc_obj B (ci := 7) rfl rfl rfl) (c_X7_likeHere _ E _ pl k (by omega) (by omega) (by omega) (by omega) (by assumption)) (k_i (fun z32 M32 hz32 => ?_))
        refine x_iand B dX7_toldFrom_35 (by omega) (by omega) ?_
        refine x_istore B dX7_toldFrom_36 [1, 2, 3, 4, 5, 6, 7, 0] (by decide) (lv' := [(0, .ref (E.1 (0))), (1, .int (iI (v))), (2, .int (iI (pl))), (3, .int (iI (1))), (4, .int (iI (t))), (5, .int (iI (lf))), (6, .int (iI (k))), (7, .int (iI ((((v).toNat &&& (z32).toNat : Nat) : Int))))]) rfl ?_
        have a63 := and63 (v := v) (z := z32) (by omega) (by omega)
        have hlk2 : ((((v).toNat &&& (z32).toNat : Nat) : Int)).toNat = v.toNat &&& lkS M k pl := by rw [Int.toNat_natCast, hz32.2.2.1, Int.toNat_natCast, lkS_off i3 (by omega)]
        generalize (((v).toNat &&& (z32).toNat : Nat) : Int) = lk7 at a63 hlk2 ⊢
        refine x_iload B dX7_toldFrom_38 5 rfl ?_
        refine x_iload B dX7_toldFrom_40 7 rfl ?_
        refine x_iconst B dX7_toldFrom_42 ?_
        refine x_inot B dX7_toldFrom_43 ?_
        refine x_iandn B dX7_toldFrom_44 (by omega) (by omega) ?_
        refine x_istore B dX7_toldFrom_45 [1, 2, 3, 4, 5, 0, 6, 7] (by decide) (lv' := [(0, .ref (E.1 (0))), (1, .int (iI (v))), (2, .int (iI (pl))), (3, .int (iI (1))), (4, .int (iI (t))), (5, .int (iI (((ndf (lf).toNat (lk7).toNat : Nat) : Int)))), (6, .int (iI (k))), (7, .int (iI (lk7)))]) rfl ?_
        have hlf : Is (((ndf (lf).toNat (lk7).toNat : Nat) : Int)) ((ndf (toK (lkS M) (fun like => moK (fun p => tfS (lkS M) 0 like p) ((popN like 16 : Nat) : Int) pl 6) v.toNat pl k.toNat).1 (v.toNat &&& lkS M k pl) : Nat) : Int) := by
          show _ = _
          rw [hlk2, Is_e i7, Int.toNat_natCast]
        have n63 : 0 ≤ ((ndf (lf).toNat (lk7).toNat : Nat) : Int) ∧ ((ndf (lf).toNat (lk7).toNat : Nat) : Int) < 64 := by
          have h := ndf_le (a := lf.toNat) (b := lk7.toNat) (by omega)
          omega
        generalize ((ndf (lf).toNat (lk7).toNat : Nat) : Int) = lf2 at hlf n63 ⊢
        refine x_iload B dX7_toldFrom_47 7 rfl ?_
        refine x_callS B (st := []) (av := [.int (iI (lk7))]) dX7_toldFrom_49 cs_J6_bitCount_0f7a4 kw_668 ⟨rfl, rfl, Nat.le_of_ble_eq_true rfl, Nat.le_of_ble_eq_true rfl⟩ rfl rfl (Nat.le_of_ble_eq_true rfl) (c_J6_bitCount_0f7a4 _ E _ lk7 (by omega) (by omega)) (k_i (fun z49 Mq hz49 => ?_))
        obtain ⟨rfl, hz49⟩ := hz49
        refine x_istore B dX7_toldFrom_52 [1, 2, 3, 4, 5, 6, 7, 8, 0] (by decide) (lv' := [(0, .ref (E.1 (0))), (1, .int (iI (v))), (2, .int (iI (pl))), (3, .int (iI (1))), (4, .int (iI (t))), (5, .int (iI (lf2))), (6, .int (iI (k))), (7, .int (iI (lk7))), (8, .int (iI (z49)))]) rfl ?_
        refine x_iconst B dX7_toldFrom_54 ?_
        refine x_istore B dX7_toldFrom_55 [1, 2, 3, 4, 5, 6, 7, 8, 9, 0] (by decide) (lv' := [(0, .ref (E.1 (0))), (1, .int (iI (v))), (2, .int (iI (pl))), (3, .int (iI (1))), (4, .int (iI (t))), (5, .int (iI (lf2))), (6, .int (iI (k))), (7, .int (iI (lk7))), (8, .int (iI (z49))), (9, .int (iI (1)))]) rfl ?_
        refine x_iconst B dX7_toldFrom_57 ?_
        refine x_istore B dX7_toldFrom_58 [1, 2, 3, 4, 5, 6, 7, 8, 9, 10, 0] (by decide) (lv' := [(0, .ref (E.1 (0))), (1, .int (iI (v))), (2, .int (iI (pl))), (3, .int (iI (1))), (4, .int (iI (t))), (5, .int (iI (lf2))), (6, .int (iI (k))), (7, .int (iI (lk7))), (8, .int (iI (z49))), (9, .int (iI (1))), (10, .int (iI (0)))]) rfl ?_
        have L60 : ∀ (mo : Int) (q : Int) (M2 : Mem), (0 ≤ q ∧ q ≤ 6 ∧ offC M M2 16 57 ∧ LkOK M2 ∧ Is mo (moK (fun p => tfS (lkS M) 0 lk7.toNat p) z49 pl q.toNat) ∧ 1 ≤ mo ∧ mo ≤ 6) → Vx x E M2 60 [(0, .ref (E.1 (0))), (1, .int (iI (v))), (2, .int (iI (pl))), (3, .int (iI (1))), (4, .int (iI (t))), (5, .int (iI (lf2))), (6, .int (iI (k))), (7, .int (iI (lk7))), (8, .int (iI (z49))), (9, .int (iI (mo))), (10, .int (iI (q)))] [] := by
          refine lo3 _ _ (fun mo q M2 => (6 - q).toNat) ?_
          intro mo q M2 hI ih60
          obtain ⟨n1, n2, n3, n4, n5, n6, n7⟩ := hI
          refine x_iload B dX7_toldFrom_60 10 rfl ?_
          refine x_bipush B dX7_toldFrom_62 rfl ?_
          refine x_icmp_ge B (tgt := 106) dX7_toldFrom_64 (by decide) ⟨by omega, by omega⟩ ⟨by omega, by omega⟩ (fun c64 => ?_) (fun c64 => ?_)
          · show Vx x E M2 106 [(0, .ref (E.1 (0))), (1, .int (iI (v))), (2, .int (iI (pl))), (3, .int (iI (1))), (4, .int (iI (t))), (5, .int (iI (lf2))), (6, .int (iI (k))), (7, .int (iI (lk7))), (8, .int (iI (z49))), (9, .int (iI (mo))), (10, .int (iI (q)))] []
            refine x_iload B dX7_toldFrom_106 4 rfl ?_
            refine x_iload B dX7_toldFrom_108 9 rfl ?_
            refine x_iadd B dX7_toldFrom_110 ?_
            refine x_istore B dX7_toldFrom_111 [1, 2, 3, 4, 0, 5, 6, 7, 8, 9, 10] (by decide) (lv' := [(0, .ref (E.1 (0))), (1, .int (iI (v))), (2, .int (iI (pl))), (3, .int (iI (1))), (4, .int (iI (t + mo))), (5, .int (iI (lf2))), (6, .int (iI (k))), (7, .int (iI (lk7))), (8, .int (iI (z49))), (9, .int (iI (mo))), (10, .int (iI (q)))]) rfl ?_
            refine x_iinc B (q := 6) dX7_toldFrom_113 rfl [1, 2, 3, 4, 5, 6, 0, 7, 8, 9, 10] (by decide) (lv' := [(0, .ref (E.1 (0))), (1, .int (iI (v))), (2, .int (iI (pl))), (3, .int (iI (1))), (4, .int (iI (t + mo))), (5, .int (iI (lf2))), (6, .int (iI (k + 1))), (7, .int (iI (lk7))), (8, .int (iI (z49))), (9, .int (iI (mo))), (10, .int (iI (q)))]) rfl ?_
            refine x_goto B (tgt := 9) dX7_toldFrom_116 (by decide) ?_
            refine x_lv [0, 1, 2, 3, 4, 5, 6] (lv' := [(0, .ref (E.1 (0))), (1, .int (iI (v))), (2, .int (iI (pl))), (3, .int (iI (1))), (4, .int (iI (t + mo))), (5, .int (iI (lf2))), (6, .int (iI (k + 1)))]) rfl ?_
            exact ih9 (t + mo) lf2 (k + 1) M2 (⟨by omega, by omega, n3, n4, by omega, by omega, by show _ = _; rw [toK_t i1 htb]; exact Is_e hlf, by show _ = _; rw [toK_t i1 htb, ← Is_e i8]; show _ = t + moK (fun p => tfS (lkS M) 0 _ p) _ pl 6; rw [← hlk2, ← hz49.1, show moK (fun p => tfS (lkS M) 0 lk7.toNat p) z49 pl 6 = mo from by rw [Is_e n5, show q.toNat = 6 by omega]], by omega, by omega⟩) (by omega)
          · show Vx x E M2 67 [(0, .ref (E.1 (0))), (1, .int (iI (v))), (2, .int (iI (pl))), (3, .int (iI (1))), (4, .int (iI (t))), (5, .int (iI (lf2))), (6, .int (iI (k))), (7, .int (iI (lk7))), (8, .int (iI (z49))), (9, .int (iI (mo))), (10, .int (iI (q)))] []
            refine x_iload_n B dX7_toldFrom_67 3 rfl rfl ?_
            refine x_if_le B (tgt := 106) dX7_toldFrom_68 (by decide) ⟨by omega, by omega⟩ (fun c68 => ?_) (fun c68 => ?_)
            · exact absurd c68 (by decide)
            · show Vx x E M2 71 [(0, .ref (E.1 (0))), (1, .int (iI (v))), (2, .int (iI (pl))), (3, .int (iI (1))), (4, .int (iI (t))), (5, .int (iI (lf2))), (6, .int (iI (k))), (7, .int (iI (lk7))), (8, .int (iI (z49))), (9, .int (iI (mo))), (10, .int (iI (q)))] []
              refine x_iload B dX7_toldFrom_71 9 rfl ?_
              refine x_iload B dX7_toldFrom_73 8 rfl ?_
              refine x_icmp_ge B (tgt := 106) dX7_toldFrom_75 (by decide) ⟨by omega, by omega⟩ ⟨by omega, by omega⟩ (fun c75 => ?_) (fun c75 => ?_)
              · show Vx x E M2 106 [(0, .ref (E.1 (0))), (1, .int (iI (v))), (2, .int (iI (pl))), (3, .int (iI (1))), (4, .int (iI (t))), (5, .int (iI (lf2))), (6, .int (iI (k))), (7, .int (iI (lk7))), (8, .int (iI (z49))), (9, .int (iI (mo))), (10, .int (iI (q)))] []
                refine x_iload B dX7_toldFrom_106 4 rfl ?_
                refine x_iload B dX7_toldFrom_108 9 rfl ?_
                refine x_iadd B dX7_toldFrom_110 ?_
                refine x_istore B dX7_toldFrom_111 [1, 2, 3, 4, 0, 5, 6, 7, 8, 9, 10] (by decide) (lv' := [(0, .ref (E.1 (0))), (1, .int (iI (v))), (2, .int (iI (pl))), (3, .int (iI (1))), (4, .int (iI (t + mo))), (5, .int (iI (lf2))), (6, .int (iI (k))), (7, .int (iI (lk7))), (8, .int (iI (z49))), (9, .int (iI (mo))), (10, .int (iI (q)))]) rfl ?_
                refine x_iinc B (q := 6) dX7_toldFrom_113 rfl [1, 2, 3, 4, 5, 6, 0, 7, 8, 9, 10] (by decide) (lv' := [(0, .ref (E.1 (0))), (1, .int (iI (v))), (2, .int (iI (pl))), (3, .int (iI (1))), (4, .int (iI (t + mo))), (5, .int (iI (lf2))), (6, .int (iI (k + 1))), (7, .int (iI (lk7))), (8, .int (iI (z49))), (9, .int (iI (mo))), (10, .int (iI (q)))]) rfl ?_
                refine x_goto B (tgt := 9) dX7_toldFrom_116 (by decide) ?_
                refine x_lv [0, 1, 2, 3, 4, 5, 6] (lv' := [(0, .ref (E.1 (0))), (1, .int (iI (v))), (2, .int (iI (pl))), (3, .int (iI (1))), (4, .int (iI (t + mo))), (5, .int (iI (lf2))), (6, .int (iI (k + 1)))]) rfl ?_
                exact ih9 (t + mo) lf2 (k + 1) M2 (⟨by omega, by omega, n3, n4, by omega, by omega, by show _ = _; rw [toK_t i1 htb]; exact Is_e hlf, by show _ = _; rw [toK_t i1 htb, ← Is_e i8]; show _ = t + moK (fun p => tfS (lkS M) 0 _ p) _ pl 6; rw [← hlk2, ← hz49.1, show moK (fun p => tfS (lkS M) 0 lk7.toNat p) z49 pl 6 = mo from by rw [Is_e n5]; exact moK_st (by rw [← Is_e n5]; omega) 6 (by omega)], by omega, by omega⟩) (by omega)
              · show Vx x E M2 78 [(0, .ref (E.1 (0))), (1, .int (iI (v))), (2, .int (iI (pl))), (3, .int (iI (1))), (4, .int (iI (t))), (5, .int (iI (lf2))), (6, .int (iI (k))), (7, .int (iI (lk7))), (8, .int (iI (z49))), (9, .int (iI (mo))), (10, .int (iI (q)))] []
                refine x_iload B dX7_toldFrom_78 9 rfl ?_
                refine x_aload_n B dX7_toldFrom_80 0 rfl rfl ?_
                refine x_iload B dX7_toldFrom_81 7 rfl ?_
                refine x_iload_n B dX7_toldFrom_83 2 rfl rfl ?_
                refine x_iload B dX7_toldFrom_84 10 rfl ?_
                refine x_callS B (st := [.int (iI (lk7)), .ref (E.1 (0)), .int (iI (mo))]) (av := [.int (iI (pl)), .int (iI (q))]) dX7_toldFrom_86 cs_X7_placeAfter kw_518 ⟨rfl, rfl, Nat.le_of_ble_eq_true rfl, Nat.le_of_ble_eq_true rfl⟩ rfl rfl (Nat.le_of_ble_eq_true rfl) (c_X7_placeAfter _ E _ pl q (by omega) (by omega) (by omega) (by omega)) (k_i (fun z86 Mq hz86 => ?_))
                obtain ⟨rfl, hz86⟩ := hz86
                have hmv := mvT_in (p := pl) (m := q) (by omega) (by omega)
                refine x_iload_n B dX7_toldFrom_89 3 rfl rfl ?_
                refine x_iconst B dX7_toldFrom_90 ?_
                refine x_isub B dX7_toldFrom_91 ?_
                refine x_top (0) (by omega) ?_
                refine x_callV B (st := [.int (iI (mo))]) (av := [.int (iI (lk7)), .int (iI (z86)), .int (iI (0))]) dX7_toldFrom_92 cs_X7_toldFrom kw_650 ⟨rfl, rfl, Nat.le_of_ble_eq_true rfl, Nat.le_of_ble_eq_true rfl⟩ rfl rfl (Nat.le_of_ble_eq_true rfl) (rc_obj B (ci := 7) rfl rfl rfl) (c_X7_toldFrom_0 _ E _ lk7 z86 (by omega) (by omega) (by omega) (by omega) (by assumption)) (k_i (fun z92 M92 hz92 => ?_))
                refine x_mmax B (st := []) dX7_toldFrom_95 kw_591 (Nat.le_of_ble_eq_true rfl) (Nat.le_of_ble_eq_true rfl) (Nat.le_of_ble_eq_true rfl) ⟨by omega, by omega⟩ ⟨by omega, by omega⟩ (fun z95 ez95 => ?_)
                refine x_istore B dX7_toldFrom_98 [1, 2, 3, 4, 5, 6, 7, 8, 9, 0, 10] (by decide) (lv' := [(0, .ref (E.1 (0))), (1, .int (iI (v))), (2, .int (iI (pl))), (3, .int (iI (1))), (4, .int (iI (t))), (5, .int (iI (lf2))), (6, .int (iI (k))), (7, .int (iI (lk7))), (8, .int (iI (z49))), (9, .int (iI (z95))), (10, .int (iI (q)))]) rfl ?_
                refine x_iinc B (q := 10) dX7_toldFrom_100 rfl [1, 2, 3, 4, 5, 6, 7, 8, 9, 10, 0] (by decide) (lv' := [(0, .ref (E.1 (0))), (1, .int (iI (v))), (2, .int (iI (pl))), (3, .int (iI (1))), (4, .int (iI (t))), (5, .int (iI (lf2))), (6, .int (iI (k))), (7, .int (iI (lk7))), (8, .int (iI (z49))), (9, .int (iI (z95))), (10, .int (iI (q + 1)))]) rfl ?_
                refine x_goto B (tgt := 60) dX7_toldFrom_103 (by decide) ?_
                exact ih60 z95 (q + 1) M92 (⟨by omega, by omega, offC_tr n3 hz92.1, hz92.2.1, by show _ = _; rw [moK_y n1 (by rw [← Is_e n5]; omega), ← Is_e n5, ez95, hz92.2.2.1, hz86, lkS_off n3 (by omega)], by omega, by omega⟩) (by omega)
        exact L60 1 0 M32 (⟨by omega, by omega, offC_tr i3 hz32.1, hz32.2.1, rfl, by omega, by omega⟩)
  exact L9 0 v 0 M (⟨by omega, by omega, offC_rf, by assumption, by omega, by omega, (by show v = ((v.toNat : Nat) : Int); omega), rfl, by omega, by omega⟩)
abbrev rm_X7_toldFrom_2 : Room := { frames := 7, cells := 0, slots := 0, locals := 176 }
set_option maxHeartbeats 4000000 in
set_option maxRecDepth 100000 in
theorem c_X7_toldFrom_2 (l : Launch) (E : Ev) (M : Mem) (v pl : Int) (g1 : 0 ≤ v) (g2 : v < 64) (g3 : 0 ≤ pl) (g4 : pl ≤ 25) (g5 : LkOK M) : Ct l yX7_toldFrom cX7_toldFrom 11 (some .int) rm_X7_toldFrom_2 E M [.ref (E.1 (0)), .int (iI (v)), .int (iI (pl)), .int (iI (2))] (pI (fun z M' => offC M M' 16 57 ∧ LkOK M' ∧ z = tfS (lkS M) 2 v.toNat pl ∧ 0 ≤ z ∧ z ≤ 216)) := by
  refine Ct_of (lv := [(0, .ref (E.1 (0))), (1, .int (iI (v))), (2, .int (iI (pl))), (3, .int (iI (2)))]) (by decide) ⟨rfl, rfl⟩ (Nat.le_of_ble_eq_true rfl) rfl (fun x _ B R => ?_)
  refine x_iconst B dX7_toldFrom_0 ?_
  refine x_istore B dX7_toldFrom_1 [1, 2, 3, 4, 0] (by decide) (lv' := [(0, .ref (E.1 (0))), (1, .int (iI (v))), (2, .int (iI (pl))), (3, .int (iI (2))), (4, .int (iI (0)))]) rfl ?_
  refine x_iload_n B dX7_toldFrom_3 1 rfl rfl ?_
  refine x_istore B dX7_toldFrom_4 [1, 2, 3, 4, 5, 0] (by decide) (lv' := [(0, .ref (E.1 (0))), (1, .int (iI (v))), (2, .int (iI (pl))), (3, .int (iI (2))), (4, .int (iI (0))), (5, .int (iI (v)))]) rfl ?_
  refine x_iconst B dX7_toldFrom_6 ?_
  refine x_istore B dX7_toldFrom_7 [1, 2, 3, 4, 5, 6, 0] (by decide) (lv' := [(0, .ref (E.1 (0))), (1, .int (iI (v))), (2, .int (iI (pl))), (3, .int (iI (2))), (4, .int (iI (0))), (5, .int (iI (v))), (6, .int (iI (0)))]) rfl ?_
  have L9 : ∀ (t : Int) (lf : Int) (k : Int) (M1 : Mem), (0 ≤ k ∧ k ≤ 6 ∧ offC M M1 16 57 ∧ LkOK M1 ∧ 0 ≤ lf ∧ lf < 64 ∧ Is lf (((toK (lkS M) (fun like => moK (fun p => tfS (lkS M) 1 like p) ((popN like 16 : Nat) : Int) pl 6) v.toNat pl k.toNat).1 : Nat) : Int) ∧ Is t (toK (lkS M) (fun like => moK (fun p => tfS (lkS M) 1 like p) ((popN like 16 : Nat) : Int) pl 6) v.toNat pl k.toNat).2 ∧ 0 ≤ t ∧ t ≤ 36 * k) → Vx x E M1 9 [(0, .ref (E.1 (0))), (1, .int (iI (v))), (2, .int (iI (pl))), (3, .int (iI (2))), (4, .int (iI (t))), (5, .int (iI (lf))), (6, .int (iI (k)))] [] := by
    refine lo4 _ _ (fun t lf k M1 => (6 - k).toNat) ?_
    intro t lf k M1 hI ih9
    obtain ⟨i1, i2, i3, i4, i5, i6, i7, i8, i9, i10⟩ := hI
    refine x_iload B dX7_toldFrom_9 6 rfl ?_
    refine x_bipush B dX7_toldFrom_11 rfl ?_
    refine x_icmp_ge B (tgt := 119) dX7_toldFrom_13 (by decide) ⟨by omega, by omega⟩ ⟨by omega, by omega⟩ (fun c13 => ?_) (fun c13 => ?_)
    · show Vx x E M1 119 [(0, .ref (E.1 (0))), (1, .int (iI (v))), (2, .int (iI (pl))), (3, .int (iI (2))), (4, .int (iI (t))), (5, .int (iI (lf))), (6, .int (iI (k)))] []
      refine x_iload B dX7_toldFrom_119 4 rfl ?_
      exact r_i B R dX7_toldFrom_121 (⟨i3, i4, by rw [Is_e i8, show k.toNat = 6 by omega]; rfl, by omega, by omega⟩)
    · show Vx x E M1 16 [(0, .ref (E.1 (0))), (1, .int (iI (v))), (2, .int (iI (pl))), (3, .int (iI (2))), (4, .int (iI (t))), (5, .int (iI (lf))), (6, .int (iI (k)))] []
      refine x_iload B dX7_toldFrom_16 5 rfl ?_
      refine x_iload B dX7_toldFrom_18 6 rfl ?_
      refine x_callS B (st := []) (av := [.int (iI (lf)), .int (iI (k))]) dX7_toldFrom_20 cs_X7_bit kw_571 ⟨rfl, rfl, Nat.le_of_ble_eq_true rfl, Nat.le_of_ble_eq_true rfl⟩ rfl rfl (Nat.le_of_ble_eq_true rfl) (c_X7_bit _ E _ lf k (by omega) (by omega) (by omega) (by omega)) (k_i (fun z20 Mq hz20 => ?_))
      obtain ⟨rfl, hz20⟩ := hz20
      refine x_iconst B dX7_toldFrom_23 ?_
      refine x_icmp_ne B (tgt := 113) dX7_toldFrom_24 (by decide) ⟨by omega, by omega⟩ ⟨by omega, by omega⟩ (fun c24 => ?_) (fun c24 => ?_)
      · show Vx x E M1 113 [(0, .ref (E.1 (0))), (1, .int (iI (v))), (2, .int (iI (pl))), (3, .int (iI (2))), (4, .int (iI (t))), (5, .int (iI (lf))), (6, .int (iI (k)))] []
        refine x_iinc B (q := 6) dX7_toldFrom_113 rfl [1, 2, 3, 4, 5, 6, 0] (by decide) (lv' := [(0, .ref (E.1 (0))), (1, .int (iI (v))), (2, .int (iI (pl))), (3, .int (iI (2))), (4, .int (iI (t))), (5, .int (iI (lf))), (6, .int (iI (k + 1)))]) rfl ?_
        refine x_goto B (tgt := 9) dX7_toldFrom_116 (by decide) ?_
        exact ih9 t lf (k + 1) M1 (⟨by omega, by omega, i3, i4, i5, i6, by show _ = _; rw [toK_f i1 (by have e := Is_e i7; rcases hz20 with ⟨h5, h6⟩ | ⟨h5, h6⟩ <;> first | omega | (rw [e, Int.toNat_natCast] at h6; rw [h6]; decide))]; exact Is_e i7, by show _ = _; rw [toK_f i1 (by have e := Is_e i7; rcases hz20 with ⟨h5, h6⟩ | ⟨h5, h6⟩ <;> first | omega | (rw [e, Int.toNat_natCast] at h6; rw [h6]; decide))]; exact Is_e i8, by omega, by omega⟩) (by omega)
      · show Vx x E M1 27 [(0, .ref (E.1 (0))), (1, .int (iI (v))), (2, .int (iI (pl))), (3, .int (iI (2))), (4, .int (iI (t))), (5, .int (iI (lf))), (6, .int (iI (k)))] []
        have htb : (toK (lkS M) (fun like => moK (fun p => tfS (lkS M) 1 like p) ((popN like 16 : Nat) : Int) pl 6) v.toNat pl k.toNat).1.testBit k.toNat = true := by
          have e := Is_e i7
          rcases hz20 with ⟨h5, h6⟩ | ⟨h5, h6⟩
          · rw [e, Int.toNat_natCast] at h6
            exact h6
          · omega
        refine x_iload_n B dX7_toldFrom_27 1 rfl rfl ?_
        refine x_aload_n B dX7_toldFrom_28 0 rfl rfl ?_
        refine x_iload_n B dX7_toldFrom_29 2 rfl rfl ?_
        refine x_iload B dX7_toldFrom_30 6 rfl ?_
        refine x_callV B (st := [.int (iI (v))]) (av := [.int (iI (pl)), .int (iI (k))]) dX7_toldFrom_32 cs_X7_likeHere kw_654 ⟨rfl, rfl, Nat.le_of_ble_eq_true rfl, Nat.le_of_ble_eq_true rfl⟩ rfl rfl (Nat.le_of_ble_eq_true rfl) (rc_obj B (ci := 7) rfl rfl rfl) (c_X7_likeHere _ E _ pl k (by omega) (by omega) (by omega) (by omega) (by assumption)) (k_i (fun z32 M32 hz32 => ?_))
        refine x_iand B dX7_toldFrom_35 (by omega) (by omega) ?_
        refine x_istore B dX7_toldFrom_36 [1, 2, 3, 4, 5, 6, 7, 0] (by decide) (lv' := [(0, .ref (E.1 (0))), (1, .int (iI (v))), (2, .int (iI (pl))), (3, .int (iI (2))), (4, .int (iI (t))), (5, .int (iI (lf))), (6, .int (iI (k))), (7, .int (iI ((((v).toNat &&& (z32).toNat : Nat) : Int))))]) rfl ?_
        have a63 := and63 (v := v) (z := z32) (by omega) (by omega)
        have hlk2 : ((((v).toNat &&& (z32).toNat : Nat) : Int)).toNat = v.toNat &&& lkS M k pl := by rw [Int.toNat_natCast, hz32.2.2.1, Int.toNat_natCast, lkS_off i3 (by omega)]
        generalize (((v).toNat &&& (z32).toNat : Nat) : Int) = lk7 at a63 hlk2 ⊢
        refine x_iload B dX7_toldFrom_38 5 rfl ?_
        refine x_iload B dX7_toldFrom_40 7 rfl ?_
        refine x_iconst B dX7_toldFrom_42 ?_
        refine x_inot B dX7_toldFrom_43 ?_
        refine x_iandn B dX7_toldFrom_44 (by omega) (by omega) ?_
        refine x_istore B dX7_toldFrom_45 [1, 2, 3, 4, 5, 0, 6, 7] (by decide) (lv' := [(0, .ref (E.1 (0))), (1, .int (iI (v))), (2, .int (iI (pl))), (3, .int (iI (2))), (4, .int (iI (t))), (5, .int (iI (((ndf (lf).toNat (lk7).toNat : Nat) : Int)))), (6, .int (iI (k))), (7, .int (iI (lk7)))]) rfl ?_
        have hlf : Is (((ndf (lf).toNat (lk7).toNat : Nat) : Int)) ((ndf (toK (lkS M) (fun like => moK (fun p => tfS (lkS M) 1 like p) ((popN like 16 : Nat) : Int) pl 6) v.toNat pl k.toNat).1 (v.toNat &&& lkS M k pl) : Nat) : Int) := by
          show _ = _
          rw [hlk2, Is_e i7, Int.toNat_natCast]
        have n63 : 0 ≤ ((ndf (lf).toNat (lk7).toNat : Nat) : Int) ∧ ((ndf (lf).toNat (lk7).toNat : Nat) : Int) < 64 := by
          have h := ndf_le (a := lf.toNat) (b := lk7.toNat) (by omega)
          omega
        generalize ((ndf (lf).toNat (lk7).toNat : Nat) : Int) = lf2 at hlf n63 ⊢
        refine x_iload B dX7_toldFrom_47 7 rfl ?_
        refine x_callS B (st := []) (av := [.int (iI (lk7))]) dX7_toldFrom_49 cs_J6_bitCount_0f7a4 kw_668 ⟨rfl, rfl, Nat.le_of_ble_eq_true rfl, Nat.le_of_ble_eq_true rfl⟩ rfl rfl (Nat.le_of_ble_eq_true rfl) (c_J6_bitCount_0f7a4 _ E _ lk7 (by omega) (by omega)) (k_i (fun z49 Mq hz49 => ?_))
        obtain ⟨rfl, hz49⟩ := hz49
        refine x_istore B dX7_toldFrom_52 [1, 2, 3, 4, 5, 6, 7, 8, 0] (by decide) (lv' := [(0, .ref (E.1 (0))), (1, .int (iI (v))), (2, .int (iI (pl))), (3, .int (iI (2))), (4, .int (iI (t))), (5, .int (iI (lf2))), (6, .int (iI (k))), (7, .int (iI (lk7))), (8, .int (iI (z49)))]) rfl ?_
        refine x_iconst B dX7_toldFrom_54 ?_
        refine x_istore B dX7_toldFrom_55 [1, 2, 3, 4, 5, 6, 7, 8, 9, 0] (by decide) (lv' := [(0, .ref (E.1 (0))), (1, .int (iI (v))), (2, .int (iI (pl))), (3, .int (iI (2))), (4, .int (iI (t))), (5, .int (iI (lf2))), (6, .int (iI (k))), (7, .int (iI (lk7))), (8, .int (iI (z49))), (9, .int (iI (1)))]) rfl ?_
        refine x_iconst B dX7_toldFrom_57 ?_
        refine x_istore B dX7_toldFrom_58 [1, 2, 3, 4, 5, 6, 7, 8, 9, 10, 0] (by decide) (lv' := [(0, .ref (E.1 (0))), (1, .int (iI (v))), (2, .int (iI (pl))), (3, .int (iI (2))), (4, .int (iI (t))), (5, .int (iI (lf2))), (6, .int (iI (k))), (7, .int (iI (lk7))), (8, .int (iI (z49))), (9, .int (iI (1))), (10, .int (iI (0)))]) rfl ?_
        have L60 : ∀ (mo : Int) (q : Int) (M2 : Mem), (0 ≤ q ∧ q ≤ 6 ∧ offC M M2 16 57 ∧ LkOK M2 ∧ Is mo (moK (fun p => tfS (lkS M) 1 lk7.toNat p) z49 pl q.toNat) ∧ 1 ≤ mo ∧ mo ≤ 36) → Vx x E M2 60 [(0, .ref (E.1 (0))), (1, .int (iI (v))), (2, .int (iI (pl))), (3, .int (iI (2))), (4, .int (iI (t))), (5, .int (iI (lf2))), (6, .int (iI (k))), (7, .int (iI (lk7))), (8, .int (iI (z49))), (9, .int (iI (mo))), (10, .int (iI (q)))] [] := by
          refine lo3 _ _ (fun mo q M2 => (6 - q).toNat) ?_
          intro mo q M2 hI ih60
          obtain ⟨n1, n2, n3, n4, n5, n6, n7⟩ := hI
          refine x_iload B dX7_toldFrom_60 10 rfl ?_
          refine x_bipush B dX7_toldFrom_62 rfl ?_
          refine x_icmp_ge B (tgt := 106) dX7_toldFrom_64 (by decide) ⟨by omega, by omega⟩ ⟨by omega, by omega⟩ (fun c64 => ?_) (fun c64 => ?_)
          · show Vx x E M2 106 [(0, .ref (E.1 (0))), (1, .int (iI (v))), (2, .int (iI (pl))), (3, .int (iI (2))), (4, .int (iI (t))), (5, .int (iI (lf2))), (6, .int (iI (k))), (7, .int (iI (lk7))), (8, .int (iI (z49))), (9, .int (iI (mo))), (10, .int (iI (q)))] []
            refine x_iload B dX7_toldFrom_106 4 rfl ?_
            refine x_iload B dX7_toldFrom_108 9 rfl ?_
            refine x_iadd B dX7_toldFrom_110 ?_
            refine x_istore B dX7_toldFrom_111 [1, 2, 3, 4, 0, 5, 6, 7, 8, 9, 10] (by decide) (lv' := [(0, .ref (E.1 (0))), (1, .int (iI (v))), (2, .int (iI (pl))), (3, .int (iI (2))), (4, .int (iI (t + mo))), (5, .int (iI (lf2))), (6, .int (iI (k))), (7, .int (iI (lk7))), (8, .int (iI (z49))), (9, .int (iI (mo))), (10, .int (iI (q)))]) rfl ?_
            refine x_iinc B (q := 6) dX7_toldFrom_113 rfl [1, 2, 3, 4, 5, 6, 0, 7, 8, 9, 10] (by decide) (lv' := [(0, .ref (E.1 (0))), (1, .int (iI (v))), (2, .int (iI (pl))), (3, .int (iI (2))), (4, .int (iI (t + mo))), (5, .int (iI (lf2))), (6, .int (iI (k + 1))), (7, .int (iI (lk7))), (8, .int (iI (z49))), (9, .int (iI (mo))), (10, .int (iI (q)))]) rfl ?_
            refine x_goto B (tgt := 9) dX7_toldFrom_116 (by decide) ?_
            refine x_lv [0, 1, 2, 3, 4, 5, 6] (lv' := [(0, .ref (E.1 (0))), (1, .int (iI (v))), (2, .int (iI (pl))), (3, .int (iI (2))), (4, .int (iI (t + mo))), (5, .int (iI (lf2))), (6, .int (iI (k + 1)))]) rfl ?_
            exact ih9 (t + mo) lf2 (k + 1) M2 (⟨by omega, by omega, n3, n4, by omega, by omega, by show _ = _; rw [toK_t i1 htb]; exact Is_e hlf, by show _ = _; rw [toK_t i1 htb, ← Is_e i8]; show _ = t + moK (fun p => tfS (lkS M) 1 _ p) _ pl 6; rw [← hlk2, ← hz49.1, show moK (fun p => tfS (lkS M) 1 lk7.toNat p) z49 pl 6 = mo from by rw [Is_e n5, show q.toNat = 6 by omega]], by omega, by omega⟩) (by omega)
          · show Vx x E M2 67 [(0, .ref (E.1 (0))), (1, .int (iI (v))), (2, .int (iI (pl))), (3, .int (iI (2))), (4, .int (iI (t))), (5, .int (iI (lf2))), (6, .int (iI (k))), (7, .int (iI (lk7))), (8, .int (iI (z49))), (9, .int (iI (mo))), (10, .int (iI (q)))] []
            refine x_iload_n B dX7_toldFrom_67 3 rfl rfl ?_
            refine x_if_le B (tgt := 106) dX7_toldFrom_68 (by decide) ⟨by omega, by omega⟩ (fun c68 => ?_) (fun c68 => ?_)
            · exact absurd c68 (by decide)
            · show Vx x E M2 71 [(0, .ref (E.1 (0))), (1, .int (iI (v))), (2, .int (iI (pl))), (3, .int (iI (2))), (4, .int (iI (t))), (5, .int (iI (lf2))), (6, .int (iI (k))), (7, .int (iI (lk7))), (8, .int (iI (z49))), (9, .int (iI (mo))), (10, .int (iI (q)))] []
              refine x_iload B dX7_toldFrom_71 9 rfl ?_
              refine x_iload B dX7_toldFrom_73 8 rfl ?_
              refine x_icmp_ge B (tgt := 106) dX7_toldFrom_75 (by decide) ⟨by omega, by omega⟩ ⟨by omega, by omega⟩ (fun c75 => ?_) (fun c75 => ?_)
              · show Vx x E M2 106 [(0, .ref (E.1 (0))), (1, .int (iI (v))), (2, .int (iI (pl))), (3, .int (iI (2))), (4, .int (iI (t))), (5, .int (iI (lf2))), (6, .int (iI (k))), (7, .int (iI (lk7))), (8, .int (iI (z49))), (9, .int (iI (mo))), (10, .int (iI (q)))] []
                refine x_iload B dX7_toldFrom_106 4 rfl ?_
                refine x_iload B dX7_toldFrom_108 9 rfl ?_
                refine x_iadd B dX7_toldFrom_110 ?_
                refine x_istore B dX7_toldFrom_111 [1, 2, 3, 4, 0, 5, 6, 7, 8, 9, 10] (by decide) (lv' := [(0, .ref (E.1 (0))), (1, .int (iI (v))), (2, .int (iI (pl))), (3, .int (iI (2))), (4, .int (iI (t + mo))), (5, .int (iI (lf2))), (6, .int (iI (k))), (7, .int (iI (lk7))), (8, .int (iI (z49))), (9, .int (iI (mo))), (10, .int (iI (q)))]) rfl ?_
                refine x_iinc B (q := 6) dX7_toldFrom_113 rfl [1, 2, 3, 4, 5, 6, 0, 7, 8, 9, 10] (by decide) (lv' := [(0, .ref (E.1 (0))), (1, .int (iI (v))), (2, .int (iI (pl))), (3, .int (iI (2))), (4, .int (iI (t + mo))), (5, .int (iI (lf2))), (6, .int (iI (k + 1))), (7, .int (iI (lk7))), (8, .int (iI (z49))), (9, .int (iI (mo))), (10, .int (iI (q)))]) rfl ?_
                refine x_goto B (tgt := 9) dX7_toldFrom_116 (by decide) ?_
                refine x_lv [0, 1, 2, 3, 4, 5, 6] (lv' := [(0, .ref (E.1 (0))), (1, .int (iI (v))), (2, .int (iI (pl))), (3, .int (iI (2))), (4, .int (iI (t + mo))), (5, .int (iI (lf2))), (6, .int (iI (k + 1)))]) rfl ?_
                exact ih9 (t + mo) lf2 (k + 1) M2 (⟨by omega, by omega, n3, n4, by omega, by omega, by show _ = _; rw [toK_t i1 htb]; exact Is_e hlf, by show _ = _; rw [toK_t i1 htb, ← Is_e i8]; show _ = t + moK (fun p => tfS (lkS M) 1 _ p) _ pl 6; rw [← hlk2, ← hz49.1, show moK (fun p => tfS (lkS M) 1 lk7.toNat p) z49 pl 6 = mo from by rw [Is_e n5]; exact moK_st (by rw [← Is_e n5]; omega) 6 (by omega)], by omega, by omega⟩) (by omega)
              · show Vx x E M2 78 [(0, .ref (E.1 (0))), (1, .int (iI (v))), (2, .int (iI (pl))), (3, .int (iI (2))), (4, .int (iI (t))), (5, .int (iI (lf2))), (6, .int (iI (k))), (7, .int (iI (lk7))), (8, .int (iI (z49))), (9, .int (iI (mo))), (10, .int (iI (q)))] []
                refine x_iload B dX7_toldFrom_78 9 rfl ?_
                refine x_aload_n B dX7_toldFrom_80 0 rfl rfl ?_
                refine x_iload B dX7_toldFrom_81 7 rfl ?_
                refine x_iload_n B dX7_toldFrom_83 2 rfl rfl ?_
                refine x_iload B dX7_toldFrom_84 10 rfl ?_
                refine x_callS B (st := [.int (iI (lk7)), .ref (E.1 (0)), .int (iI (mo))]) (av := [.int (iI (pl)), .int (iI (q))]) dX7_toldFrom_86 cs_X7_placeAfter kw_518 ⟨rfl, rfl, Nat.le_of_ble_eq_true rfl, Nat.le_of_ble_eq_true rfl⟩ rfl rfl (Nat.le_of_ble_eq_true rfl) (c_X7_placeAfter _ E _ pl q (by omega) (by omega) (by omega) (by omega)) (k_i (fun z86 Mq hz86 => ?_))
                obtain ⟨rfl, hz86⟩ := hz86
                have hmv := mvT_in (p := pl) (m := q) (by omega) (by omega)
                refine x_iload_n B dX7_toldFrom_89 3 rfl rfl ?_
                refine x_iconst B dX7_toldFrom_90 ?_
                refine x_isub B dX7_toldFrom_91 ?_
                refine x_top (1) (by omega) ?_
                refine x_callV B (st := [.int (iI (mo))]) (av := [.int (iI (lk7)), .int (iI (z86)), .int (iI (1))]) dX7_toldFrom_92 cs_X7_toldFrom kw_650 ⟨rfl, rfl, Nat.le_of_ble_eq_true rfl, Nat.le_of_ble_eq_true rfl⟩ rfl rfl (Nat.le_of_ble_eq_true rfl) (rc_obj B (ci := 7) rfl rfl rfl) (c_X7_toldFrom_1 _ E _ lk7 z86 (by omega) (by omega) (by omega) (by omega) (by assumption)) (k_i (fun z92 M92 hz92 => ?_))
                refine x_mmax B (st := []) dX7_toldFrom_95 kw_591 (Nat.le_of_ble_eq_true rfl) (Nat.le_of_ble_eq_true rfl) (Nat.le_of_ble_eq_true rfl) ⟨by omega, by omega⟩ ⟨by omega, by omega⟩ (fun z95 ez95 => ?_)
                refine x_istore B dX7_toldFrom_98 [1, 2, 3, 4, 5, 6, 7, 8, 9, 0, 10] (by decide) (lv' := [(0, .ref (E.1 (0))), (1, .int (iI (v))), (2, .int (iI (pl))), (3, .int (iI (2))), (4, .int (iI (t))), (5, .int (iI (lf2))), (6, .int (iI (k))), (7, .int (iI (lk7))), (8, .int (iI (z49))), (9, .int (iI (z95))), (10, .int (iI (q)))]) rfl ?_
                refine x_iinc B (q := 10) dX7_toldFrom_100 rfl [1, 2, 3, 4, 5, 6, 7, 8, 9, 10, 0] (by decide) (lv' := [(0, .ref (E.1 (0))), (1, .int (iI (v))), (2, .int (iI (pl))), (3, .int (iI (2))), (4, .int (iI (t))), (5, .int (iI (lf2))), (6, .int (iI (k))), (7, .int (iI (lk7))), (8, .int (iI (z49))), (9, .int (iI (z95))), (10, .int (iI (q + 1)))]) rfl ?_
                refine x_goto B (tgt := 60) dX7_toldFrom_103 (by decide) ?_
                exact ih60 z95 (q + 1) M92 (⟨by omega, by omega, offC_tr n3 hz92.1, hz92.2.1, by show _ = _; rw [moK_y n1 (by rw [← Is_e n5]; omega), ← Is_e n5, ez95, hz92.2.2.1, hz86, lkS_off n3 (by omega)], by omega, by omega⟩) (by omega)
        exact L60 1 0 M32 (⟨by omega, by omega, offC_tr i3 hz32.1, hz32.2.1, rfl, by omega, by omega⟩)
  exact L9 0 v 0 M (⟨by omega, by omega, offC_rf, by assumption, by omega, by omega, (by show v = ((v.toNat : Nat) : Int); omega), rfl, by omega, by omega⟩)
abbrev rm_X7_toldFrom_3 : Room := { frames := 8, cells := 0, slots := 0, locals := 206 }
set_option maxHeartbeats 4000000 in
set_option maxRecDepth 100000 in
theorem c_X7_toldFrom_3 (l : Launch) (E : Ev) (M : Mem) (v pl : Int) (g1 : 0 ≤ v) (g2 : v < 64) (g3 : 0 ≤ pl) (g4 : pl ≤ 25) (g5 : LkOK M) : Ct l yX7_toldFrom cX7_toldFrom 11 (some .int) rm_X7_toldFrom_3 E M [.ref (E.1 (0)), .int (iI (v)), .int (iI (pl)), .int (iI (3))] (pI (fun z M' => offC M M' 16 57 ∧ LkOK M' ∧ z = tfS (lkS M) 3 v.toNat pl ∧ 0 ≤ z ∧ z ≤ 1296)) := by
  refine Ct_of (lv := [(0, .ref (E.1 (0))), (1, .int (iI (v))), (2, .int (iI (pl))), (3, .int (iI (3)))]) (by decide) ⟨rfl, rfl⟩ (Nat.le_of_ble_eq_true rfl) rfl (fun x _ B R => ?_)
  refine x_iconst B dX7_toldFrom_0 ?_
  refine x_istore B dX7_toldFrom_1 [1, 2, 3, 4, 0] (by decide) (lv' := [(0, .ref (E.1 (0))), (1, .int (iI (v))), (2, .int (iI (pl))), (3, .int (iI (3))), (4, .int (iI (0)))]) rfl ?_
  refine x_iload_n B dX7_toldFrom_3 1 rfl rfl ?_
  refine x_istore B dX7_toldFrom_4 [1, 2, 3, 4, 5, 0] (by decide) (lv' := [(0, .ref (E.1 (0))), (1, .int (iI (v))), (2, .int (iI (pl))), (3, .int (iI (3))), (4, .int (iI (0))), (5, .int (iI (v)))]) rfl ?_
  refine x_iconst B dX7_toldFrom_6 ?_
  refine x_istore B dX7_toldFrom_7 [1, 2, 3, 4, 5, 6, 0] (by decide) (lv' := [(0, .ref (E.1 (0))), (1, .int (iI (v))), (2, .int (iI (pl))), (3, .int (iI (3))), (4, .int (iI (0))), (5, .int (iI (v))), (6, .int (iI (0)))]) rfl ?_
  have L9 : ∀ (t : Int) (lf : Int) (k : Int) (M1 : Mem), (0 ≤ k ∧ k ≤ 6 ∧ offC M M1 16 57 ∧ LkOK M1 ∧ 0 ≤ lf ∧ lf < 64 ∧ Is lf (((toK (lkS M) (fun like => moK (fun p => tfS (lkS M) 2 like p) ((popN like 16 : Nat) : Int) pl 6) v.toNat pl k.toNat).1 : Nat) : Int) ∧ Is t (toK (lkS M) (fun like => moK (fun p => tfS (lkS M) 2 like p) ((popN like 16 : Nat) : Int) pl 6) v.toNat pl k.toNat).2 ∧ 0 ≤ t ∧ t ≤ 216 * k) → Vx x E M1 9 [(0, .ref (E.1 (0))), (1, .int (iI (v))), (2, .int (iI (pl))), (3, .int (iI (3))), (4, .int (iI (t))), (5, .int (iI (lf))), (6, .int (iI (k)))] [] := by
    refine lo4 _ _ (fun t lf k M1 => (6 - k).toNat) ?_
    intro t lf k M1 hI ih9
    obtain ⟨i1, i2, i3, i4, i5, i6, i7, i8, i9, i10⟩ := hI
    refine x_iload B dX7_toldFrom_9 6 rfl ?_
    refine x_bipush B dX7_toldFrom_11 rfl ?_
    refine x_icmp_ge B (tgt := 119) dX7_toldFrom_13 (by decide) ⟨by omega, by omega⟩ ⟨by omega, by omega⟩ (fun c13 => ?_) (fun c13 => ?_)
    · show Vx x E M1 119 [(0, .ref (E.1 (0))), (1, .int (iI (v))), (2, .int (iI (pl))), (3, .int (iI (3))), (4, .int (iI (t))), (5, .int (iI (lf))), (6, .int (iI (k)))] []
      refine x_iload B dX7_toldFrom_119 4 rfl ?_
      exact r_i B R dX7_toldFrom_121 (⟨i3, i4, by rw [Is_e i8, show k.toNat = 6 by omega]; rfl, by omega, by omega⟩)
    · show Vx x E M1 16 [(0, .ref (E.1 (0))), (1, .int (iI (v))), (2, .int (iI (pl))), (3, .int (iI (3))), (4, .int (iI (t))), (5, .int (iI (lf))), (6, .int (iI (k)))] []
      refine x_iload B dX7_toldFrom_16 5 rfl ?_
      refine x_iload B dX7_toldFrom_18 6 rfl ?_
      refine x_callS B (st := []) (av := [.int (iI (lf)), .int (iI (k))]) dX7_toldFrom_20 cs_X7_bit kw_571 ⟨rfl, rfl, Nat.le_of_ble_eq_true rfl, Nat.le_of_ble_eq_true rfl⟩ rfl rfl (Nat.le_of_ble_eq_true rfl) (c_X7_bit _ E _ lf k (by omega) (by omega) (by omega) (by omega)) (k_i (fun z20 Mq hz20 => ?_))
      obtain ⟨rfl, hz20⟩ := hz20
      refine x_iconst B dX7_toldFrom_23 ?_
      refine x_icmp_ne B (tgt := 113) dX7_toldFrom_24 (by decide) ⟨by omega, by omega⟩ ⟨by omega, by omega⟩ (fun c24 => ?_) (fun c24 => ?_)
      · show Vx x E M1 113 [(0, .ref (E.1 (0))), (1, .int (iI (v))), (2, .int (iI (pl))), (3, .int (iI (3))), (4, .int (iI (t))), (5, .int (iI (lf))), (6, .int (iI (k)))] []
        refine x_iinc B (q := 6) dX7_toldFrom_113 rfl [1, 2, 3, 4, 5, 6, 0] (by decide) (lv' := [(0, .ref (E.1 (0))), (1, .int (iI (v))), (2, .int (iI (pl))), (3, .int (iI (3))), (4, .int (iI (t))), (5, .int (iI (lf))), (6, .int (iI (k + 1)))]) rfl ?_
        refine x_goto B (tgt := 9) dX7_toldFrom_116 (by decide) ?_
        exact ih9 t lf (k + 1) M1 (⟨by omega, by omega, i3, i4, i5, i6, by show _ = _; rw [toK_f i1 (by have e := Is_e i7; rcases hz20 with ⟨h5, h6⟩ | ⟨h5, h6⟩ <;> first | omega | (rw [e, Int.toNat_natCast] at h6; rw [h6]; decide))]; exact Is_e i7, by show _ = _; rw [toK_f i1 (by have e := Is_e i7; rcases hz20 with ⟨h5, h6⟩ | ⟨h5, h6⟩ <;> first | omega | (rw [e, Int.toNat_natCast] at h6; rw [h6]; decide))]; exact Is_e i8, by omega, by omega⟩) (by omega)
      · show Vx x E M1 27 [(0, .ref (E.1 (0))), (1, .int (iI (v))), (2, .int (iI (pl))), (3, .int (iI (3))), (4, .int (iI (t))), (5, .int (iI (lf))), (6, .int (iI (k)))] []
        have htb : (toK (lkS M) (fun like => moK (fun p => tfS (lkS M) 2 like p) ((popN like 16 : Nat) : Int) pl 6) v.toNat pl k.toNat).1.testBit k.toNat = true := by
          have e := Is_e i7
          rcases hz20 with ⟨h5, h6⟩ | ⟨h5, h6⟩
          · rw [e, Int.toNat_natCast] at h6
            exact h6
          · omega
        refine x_iload_n B dX7_toldFrom_27 1 rfl rfl ?_
        refine x_aload_n B dX7_toldFrom_28 0 rfl rfl ?_
        refine x_iload_n B dX7_toldFrom_29 2 rfl rfl ?_
        refine x_iload B dX7_toldFrom_30 6 rfl ?_
        refine x_callV B (st := [.int (iI (v))]) (av := [.int (iI (pl)), .int (iI (k))]) dX7_toldFrom_32 cs_X7_likeHere kw_654 ⟨rfl, rfl, Nat.le_of_ble_eq_true rfl, Nat.le_of_ble_eq_true rfl⟩ rfl rfl (Nat.le_of_ble_eq_true rfl) (rc_obj B (ci := 7) rfl rfl rfl) (c_X7_likeHere _ E _ pl k (by omega) (by omega) (by omega) (by omega) (by assumption)) (k_i (fun z32 M32 hz32 => ?_))
        refine x_iand B dX7_toldFrom_35 (by omega) (by omega) ?_
        refine x_istore B dX7_toldFrom_36 [1, 2, 3, 4, 5, 6, 7, 0] (by decide) (lv' := [(0, .ref (E.1 (0))), (1, .int (iI (v))), (2, .int (iI (pl))), (3, .int (iI (3))), (4, .int (iI (t))), (5, .int (iI (lf))), (6, .int (iI (k))), (7, .int (iI ((((v).toNat &&& (z32).toNat : Nat) : Int))))]) rfl ?_
        have a63 := and63 (v := v) (z := z32) (by omega) (by omega)
        have hlk2 : ((((v).toNat &&& (z32).toNat : Nat) : Int)).toNat = v.toNat &&& lkS M k pl := by rw [Int.toNat_natCast, hz32.2.2.1, Int.toNat_natCast, lkS_off i3 (by omega)]
        generalize (((v).toNat &&& (z32).toNat : Nat) : Int) = lk7 at a63 hlk2 ⊢
        refine x_iload B dX7_toldFrom_38 5 rfl ?_
        refine x_iload B dX7_toldFrom_40 7 rfl ?_
        refine x_iconst B dX7_toldFrom_42 ?_
        refine x_inot B dX7_toldFrom_43 ?_
        refine x_iandn B dX7_toldFrom_44 (by omega) (by omega) ?_
        refine x_istore B dX7_toldFrom_45 [1, 2, 3, 4, 5, 0, 6, 7] (by decide) (lv' := [(0, .ref (E.1 (0))), (1, .int (iI (v))), (2, .int (iI (pl))), (3, .int (iI (3))), (4, .int (iI (t))), (5, .int (iI (((ndf (lf).toNat (lk7).toNat : Nat) : Int)))), (6, .int (iI (k))), (7, .int (iI (lk7)))]) rfl ?_
        have hlf : Is (((ndf (lf).toNat (lk7).toNat : Nat) : Int)) ((ndf (toK (lkS M) (fun like => moK (fun p => tfS (lkS M) 2 like p) ((popN like 16 : Nat) : Int) pl 6) v.toNat pl k.toNat).1 (v.toNat &&& lkS M k pl) : Nat) : Int) := by
          show _ = _
          rw [hlk2, Is_e i7, Int.toNat_natCast]
        have n63 : 0 ≤ ((ndf (lf).toNat (lk7).toNat : Nat) : Int) ∧ ((ndf (lf).toNat (lk7).toNat : Nat) : Int) < 64 := by
          have h := ndf_le (a := lf.toNat) (b := lk7.toNat) (by omega)
          omega
        generalize ((ndf (lf).toNat (lk7).toNat : Nat) : Int) = lf2 at hlf n63 ⊢
        refine x_iload B dX7_toldFrom_47 7 rfl ?_
        refine x_callS B (st := []) (av := [.int (iI (lk7))]) dX7_toldFrom_49 cs_J6_bitCount_0f7a4 kw_668 ⟨rfl, rfl, Nat.le_of_ble_eq_true rfl, Nat.le_of_ble_eq_true rfl⟩ rfl rfl (Nat.le_of_ble_eq_true rfl) (c_J6_bitCount_0f7a4 _ E _ lk7 (by omega) (by omega)) (k_i (fun z49 Mq hz49 => ?_))
        obtain ⟨rfl, hz49⟩ := hz49
        refine x_istore B dX7_toldFrom_52 [1, 2, 3, 4, 5, 6, 7, 8, 0] (by decide) (lv' := [(0, .ref (E.1 (0))), (1, .int (iI (v))), (2, .int (iI (pl))), (3, .int (iI (3))), (4, .int (iI (t))), (5, .int (iI (lf2))), (6, .int (iI (k))), (7, .int (iI (lk7))), (8, .int (iI (z49)))]) rfl ?_
        refine x_iconst B dX7_toldFrom_54 ?_
        refine x_istore B dX7_toldFrom_55 [1, 2, 3, 4, 5, 6, 7, 8, 9, 0] (by decide) (lv' := [(0, .ref (E.1 (0))), (1, .int (iI (v))), (2, .int (iI (pl))), (3, .int (iI (3))), (4, .int (iI (t))), (5, .int (iI (lf2))), (6, .int (iI (k))), (7, .int (iI (lk7))), (8, .int (iI (z49))), (9, .int (iI (1)))]) rfl ?_
        refine x_iconst B dX7_toldFrom_57 ?_
        refine x_istore B dX7_toldFrom_58 [1, 2, 3, 4, 5, 6, 7, 8, 9, 10, 0] (by decide) (lv' := [(0, .ref (E.1 (0))), (1, .int (iI (v))), (2, .int (iI (pl))), (3, .int (iI (3))), (4, .int (iI (t))), (5, .int (iI (lf2))), (6, .int (iI (k))), (7, .int (iI (lk7))), (8, .int (iI (z49))), (9, .int (iI (1))), (10, .int (iI (0)))]) rfl ?_
        have L60 : ∀ (mo : Int) (q : Int) (M2 : Mem), (0 ≤ q ∧ q ≤ 6 ∧ offC M M2 16 57 ∧ LkOK M2 ∧ Is mo (moK (fun p => tfS (lkS M) 2 lk7.toNat p) z49 pl q.toNat) ∧ 1 ≤ mo ∧ mo ≤ 216) → Vx x E M2 60 [(0, .ref (E.1 (0))), (1, .int (iI (v))), (2, .int (iI (pl))), (3, .int (iI (3))), (4, .int (iI (t))), (5, .int (iI (lf2))), (6, .int (iI (k))), (7, .int (iI (lk7))), (8, .int (iI (z49))), (9, .int (iI (mo))), (10, .int (iI (q)))] [] := by
          refine lo3 _ _ (fun mo q M2 => (6 - q).toNat) ?_
          intro mo q M2 hI ih60
          obtain ⟨n1, n2, n3, n4, n5, n6, n7⟩ := hI
          refine x_iload B dX7_toldFrom_60 10 rfl ?_
          refine x_bipush B dX7_toldFrom_62 rfl ?_
          refine x_icmp_ge B (tgt := 106) dX7_toldFrom_64 (by decide) ⟨by omega, by omega⟩ ⟨by omega, by omega⟩ (fun c64 => ?_) (fun c64 => ?_)
          · show Vx x E M2 106 [(0, .ref (E.1 (0))), (1, .int (iI (v))), (2, .int (iI (pl))), (3, .int (iI (3))), (4, .int (iI (t))), (5, .int (iI (lf2))), (6, .int (iI (k))), (7, .int (iI (lk7))), (8, .int (iI (z49))), (9, .int (iI (mo))), (10, .int (iI (q)))] []
            refine x_iload B dX7_toldFrom_106 4 rfl ?_
            refine x_iload B dX7_toldFrom_108 9 rfl ?_
            refine x_iadd B dX7_toldFrom_110 ?_
            refine x_istore B dX7_toldFrom_111 [1, 2, 3, 4, 0, 5, 6, 7, 8, 9, 10] (by decide) (lv' := [(0, .ref (E.1 (0))), (1, .int (iI (v))), (2, .int (iI (pl))), (3, .int (iI (3))), (4, .int (iI (t + mo))), (5, .int (iI (lf2))), (6, .int (iI (k))), (7, .int (iI (lk7))), (8, .int (iI (z49))), (9, .int (iI (mo))), (10, .int (iI (q)))]) rfl ?_
            refine x_iinc B (q := 6) dX7_toldFrom_113 rfl [1, 2, 3, 4, 5, 6, 0, 7, 8, 9, 10] (by decide) (lv' := [(0, .ref (E.1 (0))), (1, .int (iI (v))), (2, .int (iI (pl))), (3, .int (iI (3))), (4, .int (iI (t + mo))), (5, .int (iI (lf2))), (6, .int (iI (k + 1))), (7, .int (iI (lk7))), (8, .int (iI (z49))), (9, .int (iI (mo))), (10, .int (iI (q)))]) rfl ?_
            refine x_goto B (tgt := 9) dX7_toldFrom_116 (by decide) ?_
            refine x_lv [0, 1, 2, 3, 4, 5, 6] (lv' := [(0, .ref (E.1 (0))), (1, .int (iI (v))), (2, .int (iI (pl))), (3, .int (iI (3))), (4, .int (iI (t + mo))), (5, .int (iI (lf2))), (6, .int (iI (k + 1)))]) rfl ?_
            exact ih9 (t + mo) lf2 (k + 1) M2 (⟨by omega, by omega, n3, n4, by omega, by omega, by show _ = _; rw [toK_t i1 htb]; exact Is_e hlf, by show _ = _; rw [toK_t i1 htb, ← Is_e i8]; show _ = t + moK (fun p => tfS (lkS M) 2 _ p) _ pl 6; rw [← hlk2, ← hz49.1, show moK (fun p => tfS (lkS M) 2 lk7.toNat p) z49 pl 6 = mo from by rw [Is_e n5, show q.toNat = 6 by omega]], by omega, by omega⟩) (by omega)
          · show Vx x E M2 67 [(0, .ref (E.1 (0))), (1, .int (iI (v))), (2, .int (iI (pl))), (3, .int (iI (3))), (4, .int (iI (t))), (5, .int (iI (lf2))), (6, .int (iI (k))), (7, .int (iI (lk7))), (8, .int (iI (z49))), (9, .int (iI (mo))), (10, .int (iI (q)))] []
            refine x_iload_n B dX7_toldFrom_67 3 rfl rfl ?_
            refine x_if_le B (tgt := 106) dX7_toldFrom_68 (by decide) ⟨by omega, by omega⟩ (fun c68 => ?_) (fun c68 => ?_)
            · exact absurd c68 (by decide)
            · show Vx x E M2 71 [(0, .ref (E.1 (0))), (1, .int (iI (v))), (2, .int (iI (pl))), (3, .int (iI (3))), (4, .int (iI (t))), (5, .int (iI (lf2))), (6, .int (iI (k))), (7, .int (iI (lk7))), (8, .int (iI (z49))), (9, .int (iI (mo))), (10, .int (iI (q)))] []
              refine x_iload B dX7_toldFrom_71 9 rfl ?_
              refine x_iload B dX7_toldFrom_73 8 rfl ?_
              refine x_icmp_ge B (tgt := 106) dX7_toldFrom_75 (by decide) ⟨by omega, by omega⟩ ⟨by omega, by omega⟩ (fun c75 => ?_) (fun c75 => ?_)
              · show Vx x E M2 106 [(0, .ref (E.1 (0))), (1, .int (iI (v))), (2, .int (iI (pl))), (3, .int (iI (3))), (4, .int (iI (t))), (5, .int (iI (lf2))), (6, .int (iI (k))), (7, .int (iI (lk7))), (8, .int (iI (z49))), (9, .int (iI (mo))), (10, .int (iI (q)))] []
                refine x_iload B dX7_toldFrom_106 4 rfl ?_
                refine x_iload B dX7_toldFrom_108 9 rfl ?_
                refine x_iadd B dX7_toldFrom_110 ?_
                refine x_istore B dX7_toldFrom_111 [1, 2, 3, 4, 0, 5, 6, 7, 8, 9, 10] (by decide) (lv' := [(0, .ref (E.1 (0))), (1, .int (iI (v))), (2, .int (iI (pl))), (3, .int (iI (3))), (4, .int (iI (t + mo))), (5, .int (iI (lf2))), (6, .int (iI (k))), (7, .int (iI (lk7))), (8, .int (iI (z49))), (9, .int (iI (mo))), (10, .int (iI (q)))]) rfl ?_
                refine x_iinc B (q := 6) dX7_toldFrom_113 rfl [1, 2, 3, 4, 5, 6, 0, 7, 8, 9, 10] (by decide) (lv' := [(0, .ref (E.1 (0))), (1, .int (iI (v))), (2, .int (iI (pl))), (3, .int (iI (3))), (4, .int (iI (t + mo))), (5, .int (iI (lf2))), (6, .int (iI (k + 1))), (7, .int (iI (lk7))), (8, .int (iI (z49))), (9, .int (iI (mo))), (10, .int (iI (q)))]) rfl ?_
                refine x_goto B (tgt := 9) dX7_toldFrom_116 (by decide) ?_
                refine x_lv [0, 1, 2, 3, 4, 5, 6] (lv' := [(0, .ref (E.1 (0))), (1, .int (iI (v))), (2, .int (iI (pl))), (3, .int (iI (3))), (4, .int (iI (t + mo))), (5, .int (iI (lf2))), (6, .int (iI (k + 1)))]) rfl ?_
                exact ih9 (t + mo) lf2 (k + 1) M2 (⟨by omega, by omega, n3, n4, by omega, by omega, by show _ = _; rw [toK_t i1 htb]; exact Is_e hlf, by show _ = _; rw [toK_t i1 htb, ← Is_e i8]; show _ = t + moK (fun p => tfS (lkS M) 2 _ p) _ pl 6; rw [← hlk2, ← hz49.1, show moK (fun p => tfS (lkS M) 2 lk7.toNat p) z49 pl 6 = mo from by rw [Is_e n5]; exact moK_st (by rw [← Is_e n5]; omega) 6 (by omega)], by omega, by omega⟩) (by omega)
              · show Vx x E M2 78 [(0, .ref (E.1 (0))), (1, .int (iI (v))), (2, .int (iI (pl))), (3, .int (iI (3))), (4, .int (iI (t))), (5, .int (iI (lf2))), (6, .int (iI (k))), (7, .int (iI (lk7))), (8, .int (iI (z49))), (9, .int (iI (mo))), (10, .int (iI (q)))] []
                refine x_iload B dX7_toldFrom_78 9 rfl ?_
                refine x_aload_n B dX7_toldFrom_80 0 rfl rfl ?_
                refine x_iload B dX7_toldFrom_81 7 rfl ?_
                refine x_iload_n B dX7_toldFrom_83 2 rfl rfl ?_
                refine x_iload B dX7_toldFrom_84 10 rfl ?_
                refine x_callS B (st := [.int (iI (lk7)), .ref (E.1 (0)), .int (iI (mo))]) (av := [.int (iI (pl)), .int (iI (q))]) dX7_toldFrom_86 cs_X7_placeAfter kw_518 ⟨rfl, rfl, Nat.le_of_ble_eq_true rfl, Nat.le_of_ble_eq_true rfl⟩ rfl rfl (Nat.le_of_ble_eq_true rfl) (c_X7_placeAfter _ E _ pl q (by omega) (by omega) (by omega) (by omega)) (k_i (fun z86 Mq hz86 => ?_))
                obtain ⟨rfl, hz86⟩ := hz86
                have hmv := mvT_in (p := pl) (m := q) (by omega) (by omega)
                refine x_iload_n B dX7_toldFrom_89 3 rfl rfl ?_
                refine x_iconst B dX7_toldFrom_90 ?_
                refine x_isub B dX7_toldFrom_91 ?_
                refine x_top (2) (by omega) ?_
                refine x_callV B (st := [.int (iI (mo))]) (av := [.int (iI (lk7)), .int (iI (z86)), .int (iI (2))]) dX7_toldFrom_92 cs_X7_toldFrom kw_650 ⟨rfl, rfl, Nat.le_of_ble_eq_true rfl, Nat.le_of_ble_eq_true rfl⟩ rfl rfl (Nat.le_of_ble_eq_true rfl) (rc_obj B (ci := 7) rfl rfl rfl) (c_X7_toldFrom_2 _ E _ lk7 z86 (by omega) (by omega) (by omega) (by omega) (by assumption)) (k_i (fun z92 M92 hz92 => ?_))
                refine x_mmax B (st := []) dX7_toldFrom_95 kw_591 (Nat.le_of_ble_eq_true rfl) (Nat.le_of_ble_eq_true rfl) (Nat.le_of_ble_eq_true rfl) ⟨by omega, by omega⟩ ⟨by omega, by omega⟩ (fun z95 ez95 => ?_)
                refine x_istore B dX7_toldFrom_98 [1, 2, 3, 4, 5, 6, 7, 8, 9, 0, 10] (by decide) (lv' := [(0, .ref (E.1 (0))), (1, .int (iI (v))), (2, .int (iI (pl))), (3, .int (iI (3))), (4, .int (iI (t))), (5, .int (iI (lf2))), (6, .int (iI (k))), (7, .int (iI (lk7))), (8, .int (iI (z49))), (9, .int (iI (z95))), (10, .int (iI (q)))]) rfl ?_
                refine x_iinc B (q := 10) dX7_toldFrom_100 rfl [1, 2, 3, 4, 5, 6, 7, 8, 9, 10, 0] (by decide) (lv' := [(0, .ref (E.1 (0))), (1, .int (iI (v))), (2, .int (iI (pl))), (3, .int (iI (3))), (4, .int (iI (t))), (5, .int (iI (lf2))), (6, .int (iI (k))), (7, .int (iI (lk7))), (8, .int (iI (z49))), (9, .int (iI (z95))), (10, .int (iI (q + 1)))]) rfl ?_
                refine x_goto B (tgt := 60) dX7_toldFrom_103 (by decide) ?_
                exact ih60 z95 (q + 1) M92 (⟨by omega, by omega, offC_tr n3 hz92.1, hz92.2.1, by show _ = _; rw [moK_y n1 (by rw [← Is_e n5]; omega), ← Is_e n5, ez95, hz92.2.2.1, hz86, lkS_off n3 (by omega)], by omega, by omega⟩) (by omega)
        exact L60 1 0 M32 (⟨by omega, by omega, offC_tr i3 hz32.1, hz32.2.1, rfl, by omega, by omega⟩)
  exact L9 0 v 0 M (⟨by omega, by omega, offC_rf, by assumption, by omega, by omega, (by show v = ((v.toNat : Nat) : Int); omega), rfl, by omega, by omega⟩)
/-- toldFrom with m MOVES, 0 to 3 -/
theorem c_told {l : Launch} {E : Ev} {M : Mem} {v pl m : Int} (g1 : 0 ≤ v) (g2 : v < 64) (g3 : 0 ≤ pl) (g4 : pl ≤ 25) (hm0 : 0 ≤ m) (hm1 : m ≤ 3) (g5 : LkOK M) : ∃ rm' : Room, (rm'.cells = 0 ∧ rm'.slots = 0 ∧ rm'.frames ≤ rm_X7_toldFrom_3.frames ∧ rm'.locals ≤ rm_X7_toldFrom_3.locals) ∧ Ct l yX7_toldFrom cX7_toldFrom 11 (some .int) rm' E M [.ref (E.1 0), .int (iI v), .int (iI pl), .int (iI m)] (pI (fun z M' => offC M M' 16 57 ∧ LkOK M' ∧ z = tfS (lkS M) m.toNat v.toNat pl ∧ 0 ≤ z ∧ z ≤ 1296)) := by
  have wk : ∀ (k : Nat) (B : Int), B ≤ 1296 → m.toNat = k → ∀ (r : Option Value) (M' : Mem), pI (fun z M' => offC M M' 16 57 ∧ LkOK M' ∧ z = tfS (lkS M) k v.toNat pl ∧ 0 ≤ z ∧ z ≤ B) r M' → pI (fun z M' => offC M M' 16 57 ∧ LkOK M' ∧ z = tfS (lkS M) m.toNat v.toNat pl ∧ 0 ≤ z ∧ z ≤ 1296) r M' := by
    intro k B hB hk r M' h
    obtain ⟨z, e, a1, a2, a3, a4, a5⟩ := h
    exact ⟨z, e, a1, a2, by rw [hk]; exact a3, a4, by omega⟩
  rcases (show m = 0 ∨ m = 1 ∨ m = 2 ∨ m = 3 by omega) with rfl | rfl | rfl | rfl
  · exact ⟨rm_X7_toldFrom_0, by decide, Ct_wk (wk 0 6 (by omega) rfl) (c_X7_toldFrom_0 l E M v pl g1 g2 g3 g4 g5)⟩
  · exact ⟨rm_X7_toldFrom_1, by decide, Ct_wk (wk 1 36 (by omega) rfl) (c_X7_toldFrom_1 l E M v pl g1 g2 g3 g4 g5)⟩
  · exact ⟨rm_X7_toldFrom_2, by decide, Ct_wk (wk 2 216 (by omega) rfl) (c_X7_toldFrom_2 l E M v pl g1 g2 g3 g4 g5)⟩
  · exact ⟨rm_X7_toldFrom_3, by decide, Ct_wk (wk 3 1296 (by omega) rfl) (c_X7_toldFrom_3 l E M v pl g1 g2 g3 g4 g5)⟩
