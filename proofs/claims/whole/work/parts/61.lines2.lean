/-- the reading line by line -/
def gIt (T : Int → Tk) : Nat → Ps
  | 0 => pO 0 0 0 (fun b => sAf.getD b 0) (fun _ => 1)
  | k + 1 => gLine T (gIt T k).2.2.1 (gIt T k).2.2.2.1 (gIt T k).2.2.2.2.1 (gIt T k).2.2.2.2.2.1 (gIt T k).2.2.2.2.2.2
abbrev cI (M : Mem) (s : Ps) : Prop := cO M s.2.2.1 s.2.2.2.1 s.2.2.2.2.1 s.2.2.2.2.2.1 s.2.2.2.2.2.2
def gFin (T : Int → Tk) (n : Nat) : Prop := (∀ i, i ≤ n → (gIt T i).1 = 0) ∧ (∀ i, i < n → ¬ (T (gIt T i).2.2.1).2.1 = 0) ∧ ((T (gIt T n).2.2.1).2.1 = 0 ∨ ¬ (gIt T (n + 1)).1 = 0)
theorem gFin_u {T : Int → Tk} {n n' : Nat} (h : gFin T n) (h' : gFin T n') : n = n' := by
  rcases (show n < n' ∨ n = n' ∨ n' < n by omega) with c | c | c
  · rcases h.2.2 with d | d
    · exact absurd d (h'.2.1 n c)
    · exact absurd (h'.1 (n + 1) c) d
  · exact c
  · rcases h'.2.2 with d | d
    · exact absurd d (h.2.1 n' c)
    · exact absurd (h.1 (n' + 1) c) d
theorem el_c {T : Int → Tk} {M M' : Mem} {nx nt lt : Int} {v l : Nat → Int} (h : aT T M nx nt lt v l) (hr : elR M M') : ¬ (gStop T nx nt lt v l).1 = 0 ∧ cE M' (gStop T nx nt lt v l).1 (gStop T nx nt lt v l).2.1 ∧ M' 7 12 = M 7 12 ∨ (gStop T nx nt lt v l).1 = 0 ∧ M' 7 9 = 0 ∧ M' 7 12 = M 7 12 + 1 ∧ cI M' (gStop T nx nt lt v l) := by
  obtain ⟨h4, hO, h6, h7, h8⟩ := h
  unfold gStop
  rw [if_neg h4]
  rcases hr with ⟨a, b⟩ | ⟨a, b⟩
  · subst b
    rw [if_pos (by rw [← h6]; exact a)]
    exact Or.inl ⟨by show ¬ (2 : Int) = 0; decide, rf_E h8 (by decide), rfl⟩
  · subst b
    rw [if_neg (by rw [← h6]; exact fun q => q a)]
    exact Or.inr ⟨rfl, rfl, rfl, cO_w (cO_7 (by decide) hO)⟩
theorem bl_c {T : Int → Tk} {M M' : Mem} {nx nt lt : Int} {v l : Nat → Int} (h : aT T M nx nt lt v l) (hr : blR M M') : (T nx).2.1 = 0 ∧ M' 7 9 = 5 ∧ M' 7 12 = M 7 12 ∧ cO M' (T nx).2.2.2 nt lt v l ∨ ¬ (T nx).2.1 = 0 ∧ mid T M' (M 7 12) (gLine T nx nt lt v l) := by
  obtain ⟨h4, hO, h6, h7, h8⟩ := h
  rcases hr with ⟨a, b⟩ | ⟨a, hr⟩
  · subst b
    exact Or.inl ⟨h6.symm.trans a, rfl, rfl, cO_w hO⟩
  · refine Or.inr ⟨by rw [← h6]; exact a, ?_⟩
    unfold gLine
    rw [if_neg h4]
    rcases hr with ⟨b, c⟩ | ⟨b, hr⟩
    · subst c
      rw [if_pos (fun c => b ⟨h6.trans c.1, by rw [h7 (Or.inl c.1)]; exact c.2⟩)]
      exact mid_X (rf_E h8 (by decide)) rfl
    · have k1 : (T nx).2.1 = 1 := h6.symm.trans b.1
      have k2 := h7 (Or.inl k1)
      rw [← k2, if_neg (fun c => c ⟨k1, b.2⟩)]
      rcases hr with ⟨c, d, e⟩ | ⟨c, hr⟩
      · subst e
        rw [if_pos ⟨c, by rw [← hO.2.2.1 (M 7 7).toNat (by omega)]; exact d⟩]
        exact mid_X (rf_E h8 (by decide)) rfl
      · rw [if_neg (fun q => c ⟨q.1, by rw [hO.2.2.1 (M 7 7).toNat (by have := q.1; omega)]; exact q.2⟩)]
        have hN : cO (nmM M) (T nx).2.2.2 (if M 7 7 < 11 then orP nt (M 7 7) else nt) lt v l := cO_nt (cO_7 (by decide) hO) (or_bit hO.2.2.1)
        unfold gBody
        rcases hr with ⟨n, e⟩ | ⟨n, e⟩ | ⟨n, e⟩ | ⟨n, e⟩
        · subst e
          rw [if_pos n]
          exact Or.inr ⟨by show (1 : Int) ≤ 1 ∧ (1 : Int) ≤ 4; decide, fun q => absurd (show (1 : Int) = 2 from q) (by decide), rfl, _, _, _, _, _, cO_w (cO_w hN), (gRes1 rfl).symm⟩
        · subst e
          rw [if_neg (by omega), if_pos n]
          exact mid_4 rfl rfl (cO_w (cO_9 (cO_w hN)))
        · have e0 : M' 7 9 = 2 := by rw [e]; rfl
          have e1 : M' 7 10 = M 7 7 := by rw [e]; rfl
          have e3 : M' 7 12 = M 7 12 := by rw [e]; rfl
          have eO : cO M' (T nx).2.2.2 (if M 7 7 < 11 then orP nt (M 7 7) else nt) lt v l := by rw [e]; exact cO_w hN
          rcases n with n | n
          · rw [if_neg (by omega), if_neg (by omega), if_pos n]
            exact Or.inr ⟨by omega, fun _ => by omega, e3, _, _, _, _, _, eO, by rw [gRes2 e0, if_pos (show M' 7 10 = 11 by omega)]⟩
          · rw [if_neg (by omega), if_neg (by omega), if_neg (by omega), if_pos n]
            exact Or.inr ⟨by omega, fun _ => by omega, e3, _, _, _, _, _, eO, by rw [gRes2 e0, if_neg (show ¬ M' 7 10 = 11 by omega)]⟩
        · have e0 : M' 7 9 = 3 := by rw [e]; rfl
          have e1 : M' 7 10 = M 7 7 := by rw [e]; rfl
          have e3 : M' 7 12 = M 7 12 := by rw [e]; rfl
          have eO : cO M' (T nx).2.2.2 (if M 7 7 < 11 then orP nt (M 7 7) else nt) lt v l := by rw [e]; exact cO_w hN
          rw [if_neg n.1, if_neg n.2.1, if_neg (by omega), if_neg (by omega)]
          exact Or.inr ⟨by omega, fun _ => by omega, e3, _, _, _, _, _, eO, by rw [gRes3 e0, if_neg (show ¬ M' 7 10 = 12 by omega), e1]⟩
theorem nb_F {M M' : Mem} {lo hi z : Int} (h : nbR M lo hi M' z) : cF M M' ∧ M' 7 5 = M 7 5 := by
  rcases h with ⟨-, -, h2⟩ | ⟨-, -, -, h2⟩ | ⟨-, -, -, h2⟩
  · rw [h2]
    exact ⟨cF_rfM, rfl⟩
  · rw [h2]
    exact ⟨cF_rfM, rfl⟩
  · rw [h2]
    exact ⟨cF_rf, rfl⟩
theorem ut_F {M M' : Mem} (h : utR M M') : cF M M' ∧ M' 7 5 = M 7 5 := by
  have w9 : ∀ (N : Mem) (x : Int), cF M N → cF M (sto N 7 9 x) := fun N x q => cF_tr q (cF_s7 (by decide))
  rcases h with ⟨-, h⟩ | ⟨-, h⟩ | ⟨-, M1, z, h0, h⟩ | ⟨-, M1, z, h0, h⟩ | ⟨-, h⟩
  · rcases h with ⟨-, h⟩ | ⟨-, ⟨-, h⟩ | ⟨-, ⟨-, -, h⟩ | ⟨-, ⟨-, h⟩ | ⟨-, h⟩ | ⟨-, h⟩ | ⟨-, h⟩⟩⟩⟩
    · rw [h]
      exact ⟨w9 _ _ cF_rf, rfl⟩
    · rw [h]
      exact ⟨cF_rfM, rfl⟩
    · rw [h]
      exact ⟨cF_tr (cF_s7 (by decide)) cF_rfM, rfl⟩
    · rw [h]
      exact ⟨w9 _ _ (w9 _ _ cF_nm), rfl⟩
    · rw [h]
      exact ⟨w9 _ _ (cF_tr (w9 _ _ cF_nm) cF_s9), rfl⟩
    · rw [h]
      exact ⟨w9 _ _ cF_nm, rfl⟩
    · rw [h]
      exact ⟨w9 _ _ cF_nm, rfl⟩
  · rcases h with ⟨-, h⟩ | ⟨-, h⟩
    · rw [h]
      exact ⟨cF_rfM, rfl⟩
    · rw [h]
      exact ⟨w9 _ _ cF_s9, rfl⟩
  · rcases h with ⟨-, h⟩ | ⟨-, ⟨-, ⟨-, h⟩ | ⟨-, h⟩⟩ | ⟨-, ⟨-, h⟩ | ⟨-, h⟩⟩⟩
    · rw [h]
      exact nb_F h0
    · rw [h]
      exact ⟨cF_rfM, rfl⟩
    · rw [h]
      exact ⟨w9 _ _ cF_s9, rfl⟩
    · rw [h]
      exact ⟨cF_rfM, rfl⟩
    · rw [h]
      exact ⟨w9 _ _ (cF_tr (cF_s7 (by decide)) (cF_s7 (by decide))), rfl⟩
  · rcases h with ⟨-, h⟩ | ⟨-, ⟨-, h⟩ | ⟨-, h⟩⟩
    · rw [h]
      exact nb_F h0
    · rw [h]
      exact ⟨w9 _ _ cF_s10, rfl⟩
    · rw [h]
      exact ⟨w9 _ _ cF_s9, rfl⟩
  · rcases h with ⟨-, h⟩ | ⟨-, h⟩
    · rw [h]
      exact ⟨cF_rfM, rfl⟩
    · rw [h]
      exact ⟨w9 _ _ (cF_s7 (by decide)), rfl⟩
theorem nb_0 {M M' : Mem} {lo hi z : Int} (h : nbR M lo hi M' z) (h6 : M 7 6 = 0) : z = 0 ∧ ¬ M' 7 2 = 0 := by
  rcases h with ⟨-, h1, h2⟩ | ⟨h1, -⟩ | ⟨h1, -⟩
  · rw [h2]
    exact ⟨h1, by show ¬ (2 : Int) = 0; decide⟩
  · omega
  · omega
/-- at the end of the tape -/
theorem ut_e {M M' : Mem} (h : utR M M') (h6 : M 7 6 = 0) : M' 7 9 = 5 ∨ ¬ M' 7 2 = 0 := by
  rcases h with ⟨-, h⟩ | ⟨-, h⟩ | ⟨-, M1, z, h0, h⟩ | ⟨-, M1, z, h0, h⟩ | ⟨-, h⟩
  · rcases h with ⟨-, h⟩ | ⟨q, -⟩
    · left
      rw [h]
      rfl
    · exact absurd h6 q
  · rcases h with ⟨-, h⟩ | ⟨q, -⟩
    · right
      rw [h]
      show ¬ (2 : Int) = 0
      decide
    · have := q.1
      omega
  · obtain ⟨a, b⟩ := nb_0 h0 h6
    rcases h with ⟨-, h⟩ | ⟨q, -⟩
    · right
      rw [h]
      exact b
    · exact absurd a q
  · obtain ⟨a, b⟩ := nb_0 h0 h6
    rcases h with ⟨-, h⟩ | ⟨q, -⟩
    · right
      rw [h]
      exact b
    · exact absurd a q
  · rcases h with ⟨-, h⟩ | ⟨q, -⟩
    · right
      rw [h]
      show ¬ (2 : Int) = 0
      decide
    · omega
/-- where the code's reading stands: n lines are read -/
def inC (T : Int → Tk) (M : Mem) (n : Nat) : Prop := M 7 12 = (n : Int) ∧ (∀ i, i ≤ n → (gIt T i).1 = 0) ∧ (∀ i, i < n → ¬ (T (gIt T i).2.2.1).2.1 = 0) ∧ (¬ (T (gIt T n).2.2.1).2.1 = 0 ∧ ¬ (gIt T (n + 1)).1 = 0 ∧ cE M (gIt T (n + 1)).1 (gIt T (n + 1)).2.1 ∨ M 7 9 = 0 ∧ cI M (gIt T n) ∨ (¬ (T (gIt T n).2.2.1).2.1 = 0 ∧ (1 ≤ M 7 9 ∧ M 7 9 ≤ 4) ∧ (M 7 9 = 2 → M 7 10 = 11 ∨ M 7 10 = 12) ∧ ∃ (nx nt lt : Int) (v l : Nat → Int), cO M nx nt lt v l ∧ gIt T (n + 1) = gRes T (M 7 9) (M 7 10) (M 7 11) nx nt lt v l) ∨ (T (gIt T n).2.2.1).2.1 = 0 ∧ M 7 9 = 5 ∧ ∃ nx, cO M nx (gIt T n).2.2.2.1 (gIt T n).2.2.2.2.1 (gIt T n).2.2.2.2.2.1 (gIt T n).2.2.2.2.2.2)
theorem in_mid {T : Int → Tk} {M : Mem} {n : Nat} {k : Int} (hk : k = (n : Int)) (a : ∀ i, i ≤ n → (gIt T i).1 = 0) (b : ∀ i, i < n → ¬ (T (gIt T i).2.2.1).2.1 = 0) (c : ¬ (T (gIt T n).2.2.1).2.1 = 0) (h : mid T M k (gIt T (n + 1))) : inC T M n := by
  rcases h with ⟨m1, m2, m3⟩ | ⟨m1, m2, m3, m4⟩
  · exact ⟨m3.trans hk, a, b, Or.inl ⟨c, m1, m2⟩⟩
  · exact ⟨m3.trans hk, a, b, Or.inr (Or.inr (Or.inl ⟨c, m1, m2, m4⟩))⟩
theorem in_0 {T : Int → Tk} {M : Mem} {n : Nat} (h : M 7 12 = (n : Int) + 1) (a : ∀ i, i ≤ n → (gIt T i).1 = 0) (b : ∀ i, i < n → ¬ (T (gIt T i).2.2.1).2.1 = 0) (c : ¬ (T (gIt T n).2.2.1).2.1 = 0) (h1 : (gIt T (n + 1)).1 = 0) (h9 : M 7 9 = 0) (h2 : cI M (gIt T (n + 1))) : inC T M (n + 1) := by
  refine ⟨by omega, fun i hi => ?_, fun i hi => ?_, Or.inr (Or.inl ⟨h9, h2⟩)⟩
  · by_cases e : i = n + 1
    · rw [e]
      exact h1
    · exact a i (by omega)
  · by_cases e : i = n
    · rw [e]
      exact c
    · exact b i (by omega)
/-- a TOKEN that is used -/
theorem us_c {T : Int → Tk} {M2 M' : Mem} {n : Nat} {nx nt lt : Int} {v l : Nat → Int} (e12 : M2 7 12 = (n : Int)) (a : ∀ i, i ≤ n → (gIt T i).1 = 0) (b : ∀ i, i < n → ¬ (T (gIt T i).2.2.1).2.1 = 0) (c : ¬ (T (gIt T n).2.2.1).2.1 = 0) (h9 : 1 ≤ M2 7 9 ∧ M2 7 9 ≤ 4) (hp : M2 7 9 = 2 → M2 7 10 = 11 ∨ M2 7 10 = 12) (h : aT T M2 nx nt lt v l) (hg : gIt T (n + 1) = gRes T (M2 7 9) (M2 7 10) (M2 7 11) nx nt lt v l) (hu : utR M2 M') : ∃ n', inC T M' n' := by
  rcases hu with ⟨w, -⟩ | ⟨w, hu⟩ | ⟨w, hu⟩ | ⟨w, hu⟩ | ⟨w, hu⟩
  · omega
  · refine ⟨n, in_mid e12 a b c ?_⟩
    rw [hg, gRes1 w]
    exact tw_c h hu
  · refine ⟨n, in_mid e12 a b c ?_⟩
    rw [hg, gRes2 w]
    exact tp_c h (hp w) hu
  · refine ⟨n, in_mid e12 a b c ?_⟩
    rw [hg, gRes3 w]
    exact tn_c h hu
  · rw [gRes4 (by omega)] at hg
    rcases el_c h hu with ⟨q1, q2, q3⟩ | ⟨q1, q2, q3, q4⟩
    · refine ⟨n, in_mid e12 a b c ?_⟩
      rw [hg]
      exact Or.inl ⟨q1, q2, q3⟩
    · exact ⟨n + 1, in_0 (by omega) a b c (by rw [hg]; exact q1) q2 (by rw [hg]; exact q4)⟩
