/-! ===== NUMBERS: an Int32 as a whole number ===== -/
abbrev Mem : Type := Nat → Nat → Int
def iI (z : Int) : Int32 := Int32.ofInt z
def Rg (z : Int) : Prop := -2147483648 ≤ z ∧ z < 2147483648
theorem iI_t {z : Int} (h : Rg z) : (iI z).toInt = z := Int32.toInt_ofInt_of_le (by unfold Rg at h; omega) (by unfold Rg at h; omega)
theorem iI_of (x : Int32) : iI x.toInt = x := Int32.ofInt_toInt x
theorem Rg_of (x : Int32) : Rg x.toInt := by
  have h1 := Int32.toInt_lt x
  have h2 := Int32.le_toInt x
  unfold Rg
  omega
theorem iI_add (a b : Int) : iI a + iI b = iI (a + b) := (Int32.ofInt_add a b).symm
theorem iI_sub (a b : Int) : iI a - iI b = iI (a - b) := (Int32.ofInt_sub a b).symm
theorem iI_mul (a b : Int) : iI a * iI b = iI (a * b) := (Int32.ofInt_mul a b).symm
theorem iI_neg (a : Int) : - iI a = iI (-a) := (Int32.ofInt_neg a).symm
theorem iI_lt {a b : Int} (ha : Rg a) (hb : Rg b) : iI a < iI b ↔ a < b := by rw [Int32.lt_iff_toInt_lt, iI_t ha, iI_t hb]
theorem iI_le {a b : Int} (ha : Rg a) (hb : Rg b) : iI a ≤ iI b ↔ a ≤ b := by rw [Int32.le_iff_toInt_le, iI_t ha, iI_t hb]
theorem iI_eq {a b : Int} (ha : Rg a) (hb : Rg b) : iI a = iI b ↔ a = b := by rw [← Int32.toInt_inj, iI_t ha, iI_t hb]
theorem Rg_0 : Rg 0 := by unfold Rg; omega
theorem iI_0 : iI 0 = 0 := rfl
theorem Rg_div {a b : Int} (ha : Rg a) (h0 : 0 ≤ a) (hp : 0 < b) : Rg (a / b) := by
  have h1 : 0 ≤ a / b := Int.ediv_nonneg h0 (by omega)
  have h2 : a / b ≤ a := Int.ediv_le_self b h0
  unfold Rg at *
  omega
theorem iI_div {a b : Int} (ha : Rg a) (h0 : 0 ≤ a) (hb : Rg b) (hp : 0 < b) : iI a / iI b = iI (a / b) := by
  have hne : iI b ≠ -1 := by
    intro h
    have h2 : (iI b).toInt = (-1 : Int32).toInt := by rw [h]
    rw [iI_t hb] at h2
    have h3 : (-1 : Int32).toInt = -1 := by decide
    omega
  rw [← Int32.toInt_inj, Int32.toInt_div_of_ne_right _ _ hne, iI_t ha, iI_t hb, iI_t (Rg_div ha h0 hp), Int.tdiv_eq_ediv_of_nonneg h0]
theorem iI_rem {a b : Int} (ha : Rg a) (h0 : 0 ≤ a) (hb : Rg b) (hp : 0 < b) : iI a - iI a / iI b * iI b = iI (a % b) := by
  rw [iI_div ha h0 hb hp, iI_mul, iI_sub]
  congr 1
  rw [Int.emod_def, Int.mul_comm]
theorem iI_ne0 {b : Int} (hb : Rg b) (hp : ¬ b = 0) : ¬ iI b = 0 := fun h => hp ((iI_eq hb Rg_0).mp h)
theorem iI_cl {z : Int} (h : Rg z) : (iI z).toNatClampNeg = z.toNat := by
  show (iI z).toInt.toNat = z.toNat
  rw [iI_t h]
theorem iI_in {z : Int} {n : Nat} (hz : Rg z) (h0 : 0 ≤ z) (h1 : z < n) : vp_in (iI z) n := by
  rw [vp_in_iff, iI_t hz]
  exact ⟨h0, h1⟩
/-- bits: numbers that are not below 0 as natural ones -/
theorem iI_nat (n : Nat) : iI (n : Int) = Int32.ofNat n := Int32.ofInt_eq_ofNat
/-! ===== THE WORLD: 99 cells, each of a shape ===== -/
abbrev Sp : Type := Nat × Nat × List (Option Nat)
def tabT : List Sp := [(11, 0, [some 1, some 4, some 7, some 12, some 13, some 14, some 15, some 16, some 51, some 53, some 57, some 62, none, none, none]), (5, 0, [some 2, some 3]), (0, 12, []), (0, 16, []), (5, 0, [some 5, some 6]), (0, 12, []), (0, 16, []), (9, 0, [some 8, none, none, none, some 11, none, none, none, none, none, none, none, none, none, none]), (5, 0, [some 9, some 10]), (0, 12, []), (0, 16, []), (0, 200, []), (0, 384, []), (0, 16, []), (0, 16, []), (2, 6, [some 21, some 26, some 31, some 36, some 41, some 46]), (4, 0, [some 17, some 18, some 19, none, some 20]), (0, 16, []), (0, 16, []), (0, 16, []), (0, 16, []), (4, 0, [some 22, some 23, some 24, none, some 25]), (0, 16, []), (0, 16, []), (0, 16, []), (0, 16, []), (4, 0, [some 27, some 28, some 29, none, some 30]), (0, 16, []), (0, 16, []), (0, 16, []), (0, 16, []), (4, 0, [some 32, some 33, some 34, none, some 35]), (0, 16, []), (0, 16, []), (0, 16, []), (0, 16, []), (4, 0, [some 37, some 38, some 39, none, some 40]), (0, 16, []), (0, 16, []), (0, 16, []), (0, 16, []), (4, 0, [some 42, some 43, some 44, none, some 45]), (0, 16, []), (0, 16, []), (0, 16, []), (0, 16, []), (4, 0, [some 47, some 48, some 49, none, some 50]), (0, 16, []), (0, 16, []), (0, 16, []), (0, 16, []), (6, 0, [some 52, none]), (0, 156, []), (8, 0, [some 54, some 55, some 56, none]), (0, 26, []), (0, 26, []), (0, 26, []), (7, 0, [some 58, some 59, some 60, some 61, none]), (0, 12, []), (0, 12, []), (0, 12, []), (1, 12, []), (3, 4, [some 63, some 65, some 67, some 69]), (10, 0, [some 64, none, none]), (0, 64, []), (10, 0, [some 66, none, none]), (0, 64, []), (10, 0, [some 68, none, none]), (0, 64, []), (10, 0, [some 70, none, none]), (0, 64, []), (12, 0, [some 72, none, none, none, none, none, none, none, none, some 73, some 74, some 75, some 76, some 77, some 78, some 79, none, none, some 80, none, some 81, some 82, some 83, some 84, none, some 85, none, none, none, some 86, some 87, some 88, some 89, none, none, some 90, some 91, none, some 92, some 93, some 94, some 95, some 96, some 97, some 98, none]), (0, 200, []), (0, 17, []), (0, 69, []), (0, 28, []), (0, 13, []), (0, 13, []), (0, 28, []), (0, 28, []), (0, 384, []), (0, 16, []), (0, 16, []), (0, 16, []), (0, 16, []), (0, 16, []), (0, 156, []), (0, 16, []), (0, 26, []), (0, 6656, []), (0, 793, []), (0, 793, []), (0, 12, []), (0, 12, []), (0, 12, []), (1, 12, []), (0, 4, []), (0, 4, []), (0, 256, [])]
def FF : Int × Int := (-2147483648, 2147483647)
def rgt : List (List (Int × Int)) := [[FF, FF, FF, FF, FF, FF, FF, FF, FF, FF, FF, FF, (0, 25), (0, 999), (0, 3)], [], [(0, 2), (0, 4), (0, 3), (0, 9), (1, 9), (0, 1), (1, 9), (0, 20), (0, 20), (0, 20), (1, 99), (0, 65535)], [(1, 9)], [], [(0, 2), (0, 4), (0, 3), (0, 9), (1, 9), (0, 1), (1, 9), (0, 20), (0, 20), (0, 20), (1, 99), (0, 65535)], [(1, 9)], [FF, (0, 200), (0, 4), (0, 200), FF, (0, 200), (0, 3), (0, 999), (0, 200), (0, 5), (0, 12), (0, 15), (0, 201), (0, 65535), (0, 65535)], [], [(0, 2), (0, 4), (0, 3), (0, 9), (1, 9), (0, 1), (1, 9), (0, 20), (0, 20), (0, 20), (1, 99), (0, 65535)], [(1, 9)], [(0, 255)], [(0, 9)], [(0, 9)], [(0, 0)], [], [FF, FF, FF, (0, 65535), FF], [(0, 9)], [(0, 9)], [(0, 9)], [(0, 9)], [FF, FF, FF, (0, 65535), FF], [(0, 9)], [(0, 9)], [(0, 9)], [(0, 9)], [FF, FF, FF, (0, 65535), FF], [(0, 9)], [(0, 9)], [(0, 9)], [(0, 9)], [FF, FF, FF, (0, 65535), FF], [(0, 9)], [(0, 9)], [(0, 9)], [(0, 9)], [FF, FF, FF, (0, 65535), FF], [(0, 9)], [(0, 9)], [(0, 9)], [(0, 9)], [FF, FF, FF, (0, 65535), FF], [(0, 9)], [(0, 9)], [(0, 9)], [(0, 9)], [FF, FF, FF, (0, 65535), FF], [(0, 9)], [(0, 9)], [(0, 9)], [(0, 9)], [FF, (0, 67108863)], [(0, 63)], [FF, FF, FF, (0, 26)], [(0, 25)], [(0, 25)], [(0, 362797056)], [FF, FF, FF, FF, (0, 12)], [(0, 5)], [(0, 25)], [(0, 15)], [(0, 1)], [], [FF, (-1, 64), (0, 2)], [], [FF, (-1, 64), (0, 2)], [], [FF, (-1, 64), (0, 2)], [], [FF, (-1, 64), (0, 2)], [], [FF, (0, 200), (0, 4), (0, 4), (0, 200), (0, 200), (0, 200), (0, 3), (-4, 99), FF, FF, FF, FF, FF, FF, FF, (0, 65535), (0, 65535), FF, (0, 25), FF, FF, FF, FF, (0, 65535), FF, (0, 1), (0, 1), (0, 999), FF, FF, FF, FF, (0, 65535), (0, 65535), FF, FF, (0, 12), FF, FF, FF, FF, FF, FF, FF, (0, 3)], [(0, 255)], [(0, 0), (3, 3), (9, 9), (13, 13), (17, 17), (21, 21), (26, 26), (30, 30), (33, 33), (36, 36), (41, 41), (46, 46), (50, 50), (55, 55), (60, 60), (64, 64), (69, 69)], [(119, 119), (97, 97), (121, 121), (115, 115), (112, 112), (114, 114), (101, 101), (97, 97), (100, 100), (108, 108), (101, 101), (115, 115), (115, 115), (116, 116), (105, 105), (114, 114), (101, 101), (109, 109), (111, 111), (115, 115), (116, 116), (114, 114), (111, 111), (117, 117), (110, 110), (100, 100), (109, 109), (97, 97), (115, 115), (107, 107), (111, 111), (119, 119), (110, 110), (108, 108), (101, 101), (100, 100), (115, 115), (116, 116), (105, 105), (108, 108), (108, 108), (116, 116), (104, 104), (101, 101), (114, 114), (101, 101), (100, 100), (101, 101), (97, 97), (100, 100), (108, 108), (101, 101), (97, 97), (115, 115), (116, 116), (112, 112), (108, 108), (97, 97), (105, 105), (110, 110), (100, 100), (97, 97), (114, 114), (107, 107), (101, 101), (100, 100), (103, 103), (101, 101), (115, 115)], [(0, 0), (0, 0), (0, 0), (0, 0), (9, 9), (0, 0), (9, 9), (8, 8), (1, 1), (0, 0), (40, 40), (0, 0), (1, 1), (1, 1), (1, 1), (1, 1), (1, 1), (1, 1), (1, 1), (1, 1), (1, 1), (1, 1), (1, 1), (1, 1), (1, 1), (1, 1), (1, 1), (1, 1)], [(0, 0), (0, 0), (0, 0), (0, 0), (1, 1), (0, 0), (1, 1), (0, 0), (0, 0), (0, 0), (1, 1), (0, 0), (1, 1)], [(0, 0), (4, 4), (3, 3), (9, 9), (9, 9), (0, 0), (9, 9), (20, 20), (20, 20), (20, 20), (99, 99), (15, 15), (9, 9)], [(0, 2), (0, 4), (0, 3), (0, 9), (1, 9), (0, 1), (1, 9), (0, 20), (0, 20), (0, 20), (1, 99), (0, 65535), (1, 9), (1, 9), (1, 9), (1, 9), (1, 9), (1, 9), (1, 9), (1, 9), (1, 9), (1, 9), (1, 9), (1, 9), (1, 9), (1, 9), (1, 9), (1, 9)], [(0, 2), (0, 4), (0, 3), (0, 9), (0, 9), (0, 1), (0, 9), (0, 20), (0, 20), (0, 20), (0, 99), (0, 65535), (0, 9), (0, 9), (0, 9), (0, 9), (0, 9), (0, 9), (0, 9), (0, 9), (0, 9), (0, 9), (0, 9), (0, 9), (0, 9), (0, 9), (0, 9), (0, 9)], [(0, 9)], [(0, 9)], [(0, 9)], [(0, 9)], [(0, 9)], [(0, 9)], [(0, 63)], [(0, 9)], [(0, 100)], [(0, 6)], [(-4, 1200)], [(-4, 1200)], [(0, 5)], [(0, 25)], [(0, 15)], [(0, 1)], [(-4, 2)], [(0, 64)], []]
def rngT (i j : Nat) : Int × Int := match rgt[i]? with
  | some [r] => r
  | some l => l.getD j FF
  | none => FF
def wf (M : Mem) : Prop := ∀ i j : Nat, (rngT i j).1 ≤ M i j ∧ M i j ≤ (rngT i j).2
def sto (M : Mem) (i j : Nat) (v : Int) : Mem := fun a b => if a = i ∧ b = j then v else M a b
theorem sto_eq (M : Mem) (i j : Nat) (v : Int) : sto M i j v i j = v := if_pos ⟨rfl, rfl⟩
theorem sto_ni (M : Mem) (i j : Nat) (v : Int) {a b : Nat} (h : a ≠ i) : sto M i j v a b = M a b := if_neg fun q => h q.1
theorem sto_nj (M : Mem) (i j : Nat) (v : Int) {a b : Nat} (h : b ≠ j) : sto M i j v a b = M a b := if_neg fun q => h q.2
theorem wf_sto {M : Mem} (h : wf M) {i j : Nat} {v lo hi : Int} (hr : rngT i j = (lo, hi)) (h1 : lo ≤ v) (h2 : v ≤ hi) : wf (sto M i j v) := by
  intro a b
  by_cases hab : a = i ∧ b = j
  · obtain ⟨rfl, rfl⟩ := hab
    rw [sto_eq, hr]
    exact ⟨h1, h2⟩
  · rw [show sto M i j v a b = M a b from if_neg hab]
    exact h a b
/-- the surroundings: addresses of the cells, classes of the arrays, the classes' slots, the static arrays, the Strings and their bytes -/
abbrev Ev : Type := (Nat → Nat) × (Nat → ClassId) × va_G × (Nat → Nat) × (Nat → Nat) × (Nat → Nat)
def fv (E : Ev) (M : Mem) (i j : Nat) (d : Option Nat) : Value := match d with
  | some t => .ref (E.1 t)
  | none => .int (iI (M i j))
def shp (E : Ev) (M : Mem) (i : Nat) : va_E := match tabT[i]? with
  | some (k, n, fs) => if k ≤ 1 then .inl (E.2.1 k, n, .inl (fun j => iI (M i j))) else if k ≤ 3 then .inl (E.2.1 k, n, .inr (.inr (.inr (.inr (fun j => (fs.getD j none).map E.1))))) else .inr (k - 4, fs.mapIdx (fun j d => fv E M i j d))
  | none => .inr (0, [])
def wls (E : Ev) (M : Mem) : va_W := (List.range 99).map (fun i => (E.1 i, shp E M i))
theorem tab_len {i : Nat} {q : Sp} (h : tabT[i]? = some q) : i < 99 := (List.getElem?_eq_some_iff.mp h).1
theorem wls_at (E : Ev) (M : Mem) {i : Nat} (h : i < 99) : (wls E M)[i]? = some (E.1 i, shp E M i) := by
  unfold wls
  rw [List.getElem?_map, List.getElem?_range h]
  rfl
theorem wls_of {E : Ev} {M : Mem} {i : Nat} {q : Nat × va_E} (h : (wls E M)[i]? = some q) : i < 99 ∧ q = (E.1 i, shp E M i) := by
  have hi : i < (wls E M).length := (List.getElem?_eq_some_iff.mp h).1
  have h9 : i < 99 := by simpa [wls] using hi
  rw [wls_at E M h9] at h
  exact ⟨h9, (Option.some.inj h).symm⟩
theorem shp_off {E : Ev} {M M' : Mem} {i : Nat} (h : ∀ j, M' i j = M i j) : shp E M' i = shp E M i := by
  unfold shp fv
  simp only [h]
theorem wls_set {E : Ev} {M M' : Mem} {i : Nat} (hi : i < 99) (h : ∀ a j, a ≠ i → M' a j = M a j) : (wls E M).set i (E.1 i, shp E M' i) = wls E M' := by
  apply List.ext_getElem?
  intro k
  by_cases hk : k = i
  · subst hk
    rw [List.getElem?_set_self (by simpa [wls] using hi), wls_at E M' hi]
  · rw [List.getElem?_set_ne (Ne.symm hk)]
    by_cases h9 : k < 99
    · rw [wls_at E M h9, wls_at E M' h9, shp_off (fun j => h k j hk)]
    · rw [List.getElem?_eq_none (by simpa [wls] using h9), List.getElem?_eq_none (by simpa [wls] using h9)]
theorem shp_arr {E : Ev} {M : Mem} {i k n : Nat} {fs : List (Option Nat)} (ht : tabT[i]? = some (k, n, fs)) (hk : k ≤ 1) : shp E M i = .inl (E.2.1 k, n, .inl (fun j => iI (M i j))) := by
  unfold shp
  rw [ht]
  exact if_pos hk
theorem shp_ref {E : Ev} {M : Mem} {i k n : Nat} {fs : List (Option Nat)} (ht : tabT[i]? = some (k, n, fs)) (h1 : ¬ k ≤ 1) (h3 : k ≤ 3) : shp E M i = .inl (E.2.1 k, n, .inr (.inr (.inr (.inr (fun j => (fs.getD j none).map E.1))))) := by
  unfold shp
  rw [ht]
  exact (if_neg h1).trans (if_pos h3)
theorem shp_obj {E : Ev} {M : Mem} {i ci n : Nat} {fs : List (Option Nat)} (ht : tabT[i]? = some (ci + 4, n, fs)) : shp E M i = .inr (ci, fs.mapIdx (fun j d => fv E M i j d)) := by
  unfold shp
  rw [ht]
  exact (if_neg (by omega)).trans (if_neg (by omega))
theorem upd_sto (M : Mem) (i j : Nat) (v : Int) : upd (fun q => iI (M i q)) j (iI v) = fun q => iI (sto M i j v i q) := by
  funext q
  unfold upd sto
  by_cases h : q = j
  · simp [h]
  · simp [h]
theorem fs_sto (E : Ev) (M : Mem) (i k : Nat) (v : Int) {fs : List (Option Nat)} (h : fs[k]? = some none) : (fs.mapIdx (fun j d => fv E M i j d)).set k (.int (iI v)) = fs.mapIdx (fun j d => fv E (sto M i k v) i j d) := by
  apply List.ext_getElem?
  intro q
  rw [List.getElem?_mapIdx]
  by_cases hq : q = k
  · subst hq
    rw [List.getElem?_set_self (by simpa using (List.getElem?_eq_some_iff.mp h).1), h]
    simp [fv, sto_eq]
  · rw [List.getElem?_set_ne (Ne.symm hq), List.getElem?_mapIdx]
    cases hf : fs[q]? with
    | none => rfl
    | some d =>
      cases d with
      | none => simp [fv, sto_nj M i k v hq]
      | some t => simp [fv]
/-- addresses of the world -/
def inW (E : Ev) : Nat → Prop := fun q => ∃ i, i < 99 ∧ E.1 i = q
def tyL (E : Ev) : List (ClassId × FieldType) := [(E.2.1 0, .int), (E.2.1 1, .boolean), (E.2.1 2, .object "TongueSight$Frame"), (E.2.1 3, .object "TongueSight$Sheet")]
/-- the static arrays -/
def sAf : List Int := [0, 0, 0, 0, 9, 0, 9, 8, 1, 0, 40, 0]
def sLo : List Int := [0, 0, 0, 0, 1, 0, 1, 0, 0, 0, 1, 0, 1]
def sHi : List Int := [2, 4, 3, 9, 9, 1, 9, 20, 20, 20, 99, 15, 9]
def sBe : List Int := [-1, 1, -1, 4, 0, 2, -1, 5, 1, 3, -1, 6, 2, -1, -1, 7, -1, 5, 0, 8, 4, 6, 1, 9, 5, 7, 2, 10, 6, -1, 3, 11, -1, 9, 4, 12, 8, 10, 5, 13, 9, 11, 6, 14, 10, -1, 7, 15, -1, 13, 8, -1, 12, 14, 9, -1, 13, 15, 10, -1, 14, -1, 11, -1]
def sN : List (String × List Int) := [("AT_FIRST", sAf), ("LOWEST", sLo), ("HIGHEST", sHi), ("BESIDE", sBe)]
def mNest : List (String × Nat × MethodName × String) := [("TongueSight$Script", 84, yX7_bit, "TongueSight"), ("TongueSight$Frame", 37, yX7_bit, "TongueSight"), ("TongueSight$Route", 31, yX7_placeAfter, "TongueSight"), ("TongueSight$Likeness", 19, yX7_bit, "TongueSight")]
def fNest : List (String × Nat × String × String × String × String) := [("TongueSight$Laws", 21, "TongueSight", "AT_FIRST", "[I", "TongueSight"), ("TongueSight$Script", 98, "TongueSight", "LOWEST", "[I", "TongueSight"), ("TongueSight$Script", 101, "TongueSight", "HIGHEST", "[I", "TongueSight"), ("TongueSight$Frame", 55, "TongueSight", "BESIDE", "[I", "TongueSight")]
def wNm : List String := ["way", "spread", "less", "tire", "most", "round", "mask", "own", "led", "still", "there", "dead", "least", "plain", "dark", "edges"]
def wIx : List Nat := [143, 145, 147, 149, 151, 153, 155, 157, 159, 161, 163, 165, 167, 168, 170, 172]
def wBy : List (List Int) := [[119, 97, 121], [115, 112, 114, 101, 97, 100], [108, 101, 115, 115], [116, 105, 114, 101], [109, 111, 115, 116], [114, 111, 117, 110, 100], [109, 97, 115, 107], [111, 119, 110], [108, 101, 100], [115, 116, 105, 108, 108], [116, 104, 101, 114, 101], [100, 101, 97, 100], [108, 101, 97, 115, 116], [112, 108, 97, 105, 110], [100, 97, 114, 107], [101, 100, 103, 101, 115]]
def wLen : List Nat := wBy.map List.length
def wBy32 : List (List Int32) := wBy.map (fun l => l.map iI)
def EnvOK (E : Ev) (A : Nat → Prop) (U : State) (H : Heap) : Prop :=
  va_K E.2.2.1 vwCl (tyL E) U ∧
  ((∀ i j, i < 99 → j < 99 → E.1 i = E.1 j → i = j) ∧ ∀ q, inW E q → A q) ∧
  (∀ (k : Nat) (q : String × List Int), sN[k]? = some q → va_Z "TongueSight" q.1 "[I" (.ref (E.2.2.2.1 k)) A U H ∧ va_T .int (E.2.2.2.1 k) q.2.length (fun j => .int (iI (q.2.getD j 0))) A U H) ∧
  (∀ q ∈ mNest, va_Nw (.methodLinkNest q.1 q.2.1 q.2.2.1 q.2.2.2) U) ∧ (∀ q ∈ fNest, va_Nw (.fieldLinkNest q.1 q.2.1 q.2.2.1 q.2.2.2.1 q.2.2.2.2.1 q.2.2.2.2.2) U) ∧
  vk_S 16 wLen wBy32 E.2.2.2.2.1 E.2.2.2.2.2 A U H ∧ (∀ i, i < 16 → vk_R "TongueSight$Script" (wIx.getD i 0) (wNm.getD i "") (E.2.2.2.2.1 i) U) ∧
  va_Z "java/lang/String" "COMPACT_STRINGS" "Z" (.int 1) A U H ∧ va_Zq "jdk/internal/util/Preconditions" "SIOOBE_FORMATTER" "Ljava/util/function/BiFunction;" A U H
theorem EnvOK_call {E : Ev} {A : Nat → Prop} {s U : State} {H : Heap} {locs : List Loc} (h : EnvOK E A s s.heap) (hS : va_S A s.heap H locs) (hW : s.WarmedH U.vm) : EnvOK E (inW E) U H := by
  obtain ⟨h1, ⟨h2, h3⟩, h4, h5, h6, h7, h8, h9, h10⟩ := h
  have hq : ∀ a : Nat, a < s.heap.size → ¬ A a → H[a]? = s.heap[a]? := fun a g1 g2 => hS.2.1 a g1 g2
  refine ⟨va_K.moved hW.alike h1, ⟨h2, fun q h => h⟩, fun k q hk => ?_, fun q hq' => va_Nw.warmM hW (h5 q hq'), fun q hq' => va_Nw.warmF hW (h6 q hq'), ((vk_S.moved hW.alike h7).kept hq).narrow h3, fun i hi => (h8 i hi).warm hW, ((va_Z.moved hW.alike h9).kept hq).narrow h3, ((va_Zq.moved hW.alike h10).kept hq).narrow h3⟩
  exact ⟨((va_Z.moved hW.alike (h4 k q hk).1).kept hq).narrow h3, ((va_T.moved hW.alike (h4 k q hk).2).kept hq).narrow h3⟩
theorem EnvOK_blind {E : Ev} {A : Nat → Prop} {U : State} {H : Heap} (g : JFrame) (mk : MethodId) (a : Array Value) (h : EnvOK E A U H) : EnvOK E A (U.calling g mk a) H := by
  obtain ⟨h1, h2, h4, h5, h6, h7, h8, h9, h10⟩ := h
  have hv : (U.calling g mk a).vm = U.vm := rfl
  have ha : U.vm.Alike (U.calling g mk a).vm := Vm.Alike.refl U.vm
  refine ⟨va_K.moved (u := U) (U := U.calling g mk a) ha h1, h2, fun k q hk => ⟨va_Z.moved (u := U) ha (h4 k q hk).1, va_T.moved (u := U) ha (h4 k q hk).2⟩, fun q hq' => va_Nw.same rfl rfl (h5 q hq'), fun q hq' => va_Nw.same rfl rfl (h6 q hq'), vk_S.moved (u := U) ha h7, fun i hi => (h8 i hi).same rfl, va_Z.moved (u := U) ha h9, va_Zq.moved (u := U) ha h10⟩
