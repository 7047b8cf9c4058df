theorem wLen_i : ∀ i, i < 16 → Int32.ofNat (wLen.getD i 0) = iI ((wLen.getD i 0 : Nat) : Int) := fun i _ => (iI_nat _).symm
theorem wLen_6 : ∀ i, i < 16 → wLen.getD i 0 ≤ 6 := by decide +kernel
theorem wB_i : ∀ i, i < 16 → ∀ j, j < 6 → (wBy32.getD i []).getD j 0 = iI ((wBy.getD i []).getD j 0) := by decide +kernel
theorem wB_r : ∀ i, i < 16 → ∀ j, j < 6 → 0 ≤ (wBy.getD i []).getD j 0 ∧ (wBy.getD i []).getD j 0 ≤ 122 := by decide +kernel
theorem iI_i2c {z : Int} (h0 : 0 ≤ z) (h1 : z < 65536) : ((iI z).toUInt32 % 65536).toInt32 = iI z := by
  have hr : Rg z := by unfold Rg; omega
  rw [lg_i2c_nf, lg_i2c_small (by rw [iI_t hr]; exact h0) (by rw [iI_t hr]; exact h1)]
section STR
variable {x : Cx} {E : Ev} {own : String} {cc : ByteArray} {n : Nat} {rm : Room} {M : Mem} {pc : Nat} {lv : List (Nat × Value)} {st : List Value}
theorem x_ldcS (B : Ok x E own cc n rm) (i : Nat) {idx : Nat} (ho : own = "TongueSight$Script") (hi : i < 16) (hx : wIx.getD i 0 = idx) (hd : decode cc pc = .ok (.ldc idx, 2)) (kk : Vx x E M (pc + 2) lv (.ref (E.2.2.2.2.1 i) :: st)) : Vx x E M pc lv st := by
  intro hw H locs ls hP hS hl'
  obtain ⟨-, -, -, -, -, -, h8, -⟩ := B.2.2.2.2.2.1
  have h := h8 i hi
  rw [hx, ← ho] at h
  exact va_ldcS B.1 B.2.1 B.2.2.2.1 h hd (kk hw H locs ls hP hS hl')
theorem x_strV (B : Ok x E own cc n rm) {i idx : Nat} (hi : i < 16) (hd : decode cc pc = .ok (.getfield idx, 3)) (hl : Cond.fieldLink own idx "java/lang/String" "value" "[B" ∈ GW) (kk : Vx x E M (pc + 3) lv (.ref (E.2.2.2.2.2 i) :: st)) : Vx x E M pc lv (.ref (E.2.2.2.2.1 i) :: st) := by
  intro hw H locs ls hP hS hl'
  obtain ⟨-, -, -, -, -, h7, -⟩ := B.2.2.2.2.2.1
  exact vk_getf B.1 B.2.1 (h7.1 i hi).2.2.1 hS B.2.2.2.1 (B.2.2.2.2.1 _ hl) (fun _ h => h) hd (kk hw H locs ls hP hS hl')
theorem x_strC (B : Ok x E own cc n rm) {i idx : Nat} (hi : i < 16) (hd : decode cc pc = .ok (.getfield idx, 3)) (hl : Cond.fieldLink own idx "java/lang/String" "coder" "B" ∈ GW) (kk : Vx x E M (pc + 3) lv (.int (iI 0) :: st)) : Vx x E M pc lv (.ref (E.2.2.2.2.1 i) :: st) := by
  intro hw H locs ls hP hS hl'
  obtain ⟨-, -, -, -, -, h7, -⟩ := B.2.2.2.2.2.1
  exact vk_getf B.1 B.2.1 (h7.1 i hi).2.1 hS B.2.2.2.1 (B.2.2.2.2.1 _ hl) (fun _ h => h) hd (kk hw H locs ls hP hS hl')
theorem x_strL (B : Ok x E own cc n rm) {i : Nat} (hi : i < 16) (hd : decode cc pc = .ok (.arraylength, 1)) (kk : Vx x E M (pc + 1) lv (.int (iI ((wLen.getD i 0 : Nat) : Int)) :: st)) : Vx x E M pc lv (.ref (E.2.2.2.2.2 i) :: st) := by
  intro hw H locs ls hP hS hl'
  obtain ⟨-, -, -, -, -, h7, -⟩ := B.2.2.2.2.2.1
  exact va_tlen B.1 B.2.1 (h7.1 i hi).2.2.2 hS (wLen_i i hi) hd (kk hw H locs ls hP hS hl')
theorem x_strB (B : Ok x E own cc n rm) {i : Nat} {z : Int} (hi : i < 16) (h0 : 0 ≤ z) (h1 : z < (wLen.getD i 0 : Nat)) (hd : decode cc pc = .ok (.baload, 1)) (kk : ∀ w : Int, Is w ((wBy.getD i []).getD z.toNat 0) → 0 ≤ w → w ≤ 122 → Vx x E M (pc + 1) lv (.int (iI w) :: st)) : Vx x E M pc lv (.int (iI z) :: .ref (E.2.2.2.2.2 i) :: st) := by
  intro hw H locs ls hP hS hl'
  obtain ⟨-, -, -, -, -, h7, -⟩ := B.2.2.2.2.2.1
  have h6 := wLen_6 i hi
  have hz : Rg z := by unfold Rg; omega
  have hb := wB_r i hi z.toNat (by omega)
  exact va_tb B.1 B.2.1 (h7.1 i hi).2.2.2 hS (iI_in hz h0 h1) (v := .int (iI ((wBy.getD i []).getD z.toNat 0))) (by rw [iI_cl hz, wB_i i hi z.toNat (by omega)]) hd (kk _ rfl hb.1 hb.2 hw H locs ls hP hS hl')
theorem x_getCS (B : Ok x E own cc n rm) {idx : Nat} (hd : decode cc pc = .ok (.getstatic idx, 3)) (hl : Cond.fieldLink own idx "java/lang/String" "COMPACT_STRINGS" "Z" ∈ GW) (kk : Vx x E M (pc + 3) lv (.int (iI 1) :: st)) : Vx x E M pc lv st := by
  intro hw H locs ls hP hS hl'
  obtain ⟨-, -, -, -, -, -, -, h9, -⟩ := B.2.2.2.2.2.1
  exact va_gets B.1 B.2.1 h9 hS B.2.2.2.1 (B.2.2.2.2.1 _ hl) (fun _ h => h) hd (kk hw H locs ls hP hS hl')
theorem x_getFo (B : Ok x E own cc n rm) {idx : Nat} (hd : decode cc pc = .ok (.getstatic idx, 3)) (hl : Cond.fieldLink own idx "jdk/internal/util/Preconditions" "SIOOBE_FORMATTER" "Ljava/util/function/BiFunction;" ∈ GW) (kk : ∀ v : Value, v = .null ∨ (∃ a, v = .ref a) → Vx x E M (pc + 3) lv (v :: st)) : Vx x E M pc lv st := by
  intro hw H locs ls hP hS hl'
  obtain ⟨-, -, -, -, -, -, -, -, h10⟩ := B.2.2.2.2.2.1
  rcases h10 with h | ⟨t, h⟩
  · exact va_gets B.1 B.2.1 h hS B.2.2.2.1 (B.2.2.2.2.1 _ hl) (fun _ h => h) hd (kk _ (Or.inl rfl) hw H locs ls hP hS hl')
  · exact va_gets B.1 B.2.1 h hS B.2.2.2.1 (B.2.2.2.2.1 _ hl) (fun _ h => h) hd (kk _ (Or.inr ⟨t, rfl⟩) hw H locs ls hP hS hl')
theorem x_i2c (B : Ok x E own cc n rm) {z : Int} (hd : decode cc pc = .ok (.i2c, 1)) (h0 : 0 ≤ z) (h1 : z < 65536) (k : Vx x E M (pc + 1) lv (.int (iI z) :: st)) : Vx x E M pc lv (.int (iI z) :: st) := fun hw H locs ls hP hS hl => lv_i2c B.1 B.2.1 hd (iI_i2c h0 h1) (k hw H locs ls hP hS hl)
theorem rc_str (B : Ok x E own cc n rm) {i : Nat} (hi : i < 16) : ∀ (H : Heap) (locs : List Loc), va_P E.2.2.1 vwCl (wls E M) H → va_S x.2.2.2.2.1 x.2.1.1.heap H locs → ∃ cell : Cell, H[E.2.2.2.2.1 i]? = some cell ∧ cell.vm.isStatics = false ∧ x.2.1.1.vm.findClass "java/lang/String" = some cell.cls := by
  intro H locs hP hS
  obtain ⟨-, -, -, -, -, h7, -⟩ := B.2.2.2.2.2.1
  exact vk_recv h7 hi hS
end STR
theorem nar_b0 : narrow .byte (.int (iI 0)) = .int (iI 0) := by decide
