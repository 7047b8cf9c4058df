/-! ===== THE JUDGEMENT: the memory M, the pc, locals, operand stack ===== -/
abbrev Cx : Type := (Program × Launch × Jvm.Env × Room) × (State × MethodId × Array Value × List Frame) × (Method × Code) × (State → Prop) × (Nat → Prop) × (Nat × Nat × Nat)
def Vx (x : Cx) (E : Ev) (M : Mem) (pc : Nat) (lv : List (Nat × Value)) (st : List Value) : Prop :=
  wf M → ∀ (H : Heap) (locs : List Loc) (ls : Array Slot), va_P E.2.2.1 vwCl (wls E M) H → va_S x.2.2.2.2.1 x.2.1.1.heap H locs → lv_has ls x.2.2.2.2.2.1 lv → W x.1.1 x.1.2.1 x.1.2.2.1 x.1.2.2.2 x.2.1.1 x.2.1.2.1 x.2.1.2.2.1 x.2.1.2.2.2 x.2.2.1.1 x.2.2.1.2 H locs x.2.2.2.2.2.2.1 x.2.2.2.2.2.2.2 x.2.2.2.1 (F0 x.2.1.2.1 pc ls st)
/-- an equation that number-tactics do not look into -/
def Is (a b : Int) : Prop := a = b
theorem Is_e {a b : Int} (h : Is a b) : a = b := h
/-- what holds of the surroundings through a whole method -/
def Ok (x : Cx) (E : Ev) (own : String) (cc : ByteArray) (n : Nat) (rm : Room) : Prop :=
  x.1.1.tables.exec = Jvm.exec ∧ x.2.2.1.2.code = cc ∧ x.2.2.1.2.maxLocals = x.2.2.2.2.2.1 ∧ x.2.1.1.vm.findClass own = some x.2.1.2.1.cls ∧ (∀ w ∈ GW, w.before x.2.1.2.2.1 x.2.1.1 = true) ∧ EnvOK E x.2.2.2.2.1 x.2.1.1 x.2.1.1.heap ∧ x.1.2.2.2 = rm ∧ (x.2.2.2.2.2.2.1 ≤ rm.cells ∧ x.2.2.2.2.2.2.2 ≤ rm.slots) ∧ x.2.2.2.2.2.1 = n
/-- the end of a method: the post of its contract -/
def Qcg (E : Ev) (post : Option Value → Mem → Prop) : Array Value → State → Outcome → State → Prop := fun _ st oc t => (∃ (v : Option Value) (M' : Mem), oc = .returned v ∧ wf M' ∧ post v M' ∧ va_P E.2.2.1 vwCl (wls E M') t.heap) ∧ va_F (inW E) st t
def Pcg (E : Ev) (M : Mem) (av : List Value) : Array Value → State → Prop := va_Pc av (fun U => va_P E.2.2.1 vwCl (wls E M) U.heap ∧ EnvOK E (inW E) U U.heap)
def mw (y : MethodName) (cc : ByteArray) (n : Nat) (r : Option FieldType) : List Cond := .code y cc n r :: GW
/-- a CONTRACT: from the memory M, called with av: it returns, and 'post' holds of what it answers and of the memory then -/
def Ct (l : Launch) (y : MethodName) (cc : ByteArray) (n : Nat) (r : Option FieldType) (rm : Room) (E : Ev) (M : Mem) (av : List Value) (post : Option Value → Mem → Prop) : Prop :=
  wf M → Met l y (mw y cc n r) rm (Pcg E M av) (Qcg E post) 0 0 (inW E)
def Rt (x : Cx) (E : Ev) (r : Option FieldType) (post : Option Value → Mem → Prop) : Prop :=
  x.2.2.1.1.sig.returnType = r ∧ x.2.2.1.1.locks = false ∧ x.2.2.2.2.1 = inW E ∧ x.2.2.2.1 = MQ x.2.1.2.2.2 (Qcg E post) x.2.1.2.2.1 x.2.1.1 x.2.2.2.2.2.2.1 x.2.2.2.2.2.2.2 (inW E)
theorem va_D_of {E : Ev} {A : Nat → Prop} {U : State} {H : Heap} (h : EnvOK E A U H) (M : Mem) : va_D A (wls E M) := by
  obtain ⟨-, ⟨h2, h3⟩, -⟩ := h
  refine ⟨fun i j p q hi hj hpq => ?_, fun k q hk => ?_⟩
  · obtain ⟨a1, rfl⟩ := wls_of hi
    obtain ⟨a2, rfl⟩ := wls_of hj
    exact h2 i j a1 a2 hpq
  · obtain ⟨a1, rfl⟩ := wls_of hk
    exact h3 _ ⟨k, a1, rfl⟩
theorem Ct_of {l : Launch} {y : MethodName} {cc : ByteArray} {n : Nat} {r : Option FieldType} {rm : Room} {E : Ev} {M : Mem} {av : List Value} {post : Option Value → Mem → Prop} {lv : List (Nat × Value)} (hy : plainName y.cls = true) (hrm : rm.cells = 0 ∧ rm.slots = 0) (hn : (lg_sl av).length ≤ n) (hlv : lv_args 0 av = lv)
    (body : ∀ x : Cx, x.1.2.1 = l → Ok x E y.cls cc n rm → Rt x E r post → Vx x E M 0 lv []) : Ct l y cc n r rm E M av post := by
  intro hwf
  refine Met.ofW (cc := cc) (maxL := n) (ret := r) hy rfl ?_
  intro p e s m args below meth c s₁ B hml hv
  obtain ⟨rfl, hP, hE⟩ := hv
  have hts := atoms_spec (ws := mw y cc n r) B.pre
  have hl := lv_entry av (n := n) hn
  rw [lg_entry_eq]
  rw [hlv] at hl
  have key := body ((p, l, e, (headSpec (mw y cc n r) rm).room), (s, m, av.toArray, below), (meth, c), MQ below (Qcg E post) av.toArray s 0 0 (inW E), inW E, (n, 0, 0)) rfl
    ⟨B.exec, B.bytes, hml, findClass_of_methodNamed B.named, fun w hw => hts w (List.mem_cons_of_mem _ hw), hE, rfl, by rw [hrm.1, hrm.2]; exact ⟨Nat.le_refl 0, Nat.le_refl 0⟩, rfl⟩
    ⟨B.returns, B.notSynchronized, rfl, rfl⟩
  exact key hwf s.heap [] _ hP va_S.rf hl
section ROWS
variable {x : Cx} {E : Ev} {own : String} {cc : ByteArray} {n : Nat} {rm : Room} {M : Mem} {pc : Nat} {lv : List (Nat × Value)} {st : List Value} {r : Option FieldType} {post : Option Value → Mem → Prop}
theorem x_iconst (B : Ok x E own cc n rm) {z : Int} (hd : decode cc pc = .ok (.iconst z, 1)) (k : Vx x E M (pc + 1) lv (.int (iI z) :: st)) : Vx x E M pc lv st := fun hw H locs ls hP hS hl => lv_iconst B.1 B.2.1 hd rfl (k hw H locs ls hP hS hl)
theorem x_bipush (B : Ok x E own cc n rm) {z : Int} (hd : decode cc pc = .ok (.bipush z, 2)) (hz : (Int8.ofInt z).toInt32 = iI z) (k : Vx x E M (pc + 2) lv (.int (iI z) :: st)) : Vx x E M pc lv st := fun hw H locs ls hP hS hl => lv_bipush B.1 B.2.1 hd hz (k hw H locs ls hP hS hl)
theorem x_sipush (B : Ok x E own cc n rm) {z : Int} (hd : decode cc pc = .ok (.sipush z, 3)) (hz : (Int16.ofInt z).toInt32 = iI z) (k : Vx x E M (pc + 3) lv (.int (iI z) :: st)) : Vx x E M pc lv st := fun hw H locs ls hP hS hl => lv_sipush B.1 B.2.1 hd hz (k hw H locs ls hP hS hl)
theorem x_ldc (B : Ok x E own cc n rm) {i : Nat} {z : Int} (hd : decode cc pc = .ok (.ldc i, 2)) (hk : Cond.constant own i (iI z) ∈ GW) (k : Vx x E M (pc + 2) lv (.int (iI z) :: st)) : Vx x E M pc lv st := fun hw H locs ls hP hS hl => lv_ldc B.1 B.2.1 B.2.2.2.1 (B.2.2.2.2.1 _ hk) hd (k hw H locs ls hP hS hl)
theorem x_ldcw (B : Ok x E own cc n rm) {i : Nat} {z : Int} (hd : decode cc pc = .ok (.ldc_w i, 3)) (hk : Cond.constant own i (iI z) ∈ GW) (k : Vx x E M (pc + 3) lv (.int (iI z) :: st)) : Vx x E M pc lv st := fun hw H locs ls hP hS hl => lv_ldcw B.1 B.2.1 B.2.2.2.1 (B.2.2.2.2.1 _ hk) hd (k hw H locs ls hP hS hl)
theorem x_iload_n (B : Ok x E own cc n rm) {f : Fin 4} {i : Nat} {v : Int32} (hd : decode cc pc = .ok (.iload_n f, 1)) (q : Nat) (hi : (f : Nat) = i) (hq : lv[q]? = some (i, .int v)) (k : Vx x E M (pc + 1) lv (.int v :: st)) : Vx x E M pc lv st := fun hw H locs ls hP hS hl => lv_iload_n B.1 B.2.1 hd hi (lv_at hl q hq) (k hw H locs ls hP hS hl)
theorem x_iload (B : Ok x E own cc n rm) {i : Nat} {v : Int32} (hd : decode cc pc = .ok (.iload i, 2)) (q : Nat) (hq : lv[q]? = some (i, .int v)) (k : Vx x E M (pc + 2) lv (.int v :: st)) : Vx x E M pc lv st := fun hw H locs ls hP hS hl => lv_iload B.1 B.2.1 hd (lv_at hl q hq) (k hw H locs ls hP hS hl)
theorem x_lload_n (B : Ok x E own cc n rm) {f : Fin 4} {i : Nat} {v : Int64} (hd : decode cc pc = .ok (.lload_n f, 1)) (q : Nat) (hi : (f : Nat) = i) (hq : lv[q]? = some (i, .long v)) (k : Vx x E M (pc + 1) lv (.long v :: st)) : Vx x E M pc lv st := fun hw H locs ls hP hS hl => lv_lload_n B.1 B.2.1 hd hi (lv_at hl q hq) (k hw H locs ls hP hS hl)
theorem x_lload (B : Ok x E own cc n rm) {i : Nat} {v : Int64} (hd : decode cc pc = .ok (.lload i, 2)) (q : Nat) (hq : lv[q]? = some (i, .long v)) (k : Vx x E M (pc + 2) lv (.long v :: st)) : Vx x E M pc lv st := fun hw H locs ls hP hS hl => lv_lload B.1 B.2.1 hd (lv_at hl q hq) (k hw H locs ls hP hS hl)
theorem x_aload_n (B : Ok x E own cc n rm) {f : Fin 4} {i : Nat} {v : Nat} (hd : decode cc pc = .ok (.aload_n f, 1)) (q : Nat) (hi : (f : Nat) = i) (hq : lv[q]? = some (i, .ref v)) (k : Vx x E M (pc + 1) lv (.ref v :: st)) : Vx x E M pc lv st := fun hw H locs ls hP hS hl => lv_aload_n B.1 B.2.1 hd hi (lv_at hl q hq) (k hw H locs ls hP hS hl)
theorem x_aload (B : Ok x E own cc n rm) {i : Nat} {v : Nat} (hd : decode cc pc = .ok (.aload i, 2)) (q : Nat) (hq : lv[q]? = some (i, .ref v)) (k : Vx x E M (pc + 2) lv (.ref v :: st)) : Vx x E M pc lv st := fun hw H locs ls hP hS hl => lv_aload B.1 B.2.1 hd (lv_at hl q hq) (k hw H locs ls hP hS hl)
/-- new locals: by places of the old ones; 'none' is the new value -/
theorem lv_re {ls : Array Slot} {nL : Nat} {l l' : List (Nat × Value)} (ks : List Nat) (hl : lv_pick l ks = l') (h : lv_has ls nL l) : lv_has ls nL l' := lv_sub h ks hl
theorem x_istore_n (B : Ok x E own cc n rm) {f : Fin 4} {i : Nat} {v : Int32} {lv' : List (Nat × Value)} (hd : decode cc pc = .ok (.istore_n f, 1)) (ks : List Nat) (hi : (f : Nat) = i) (hn : i < n) (hks : lv_pick ((i, Value.int v) :: lv.filter (fun q => !(q.1 == i) && !(q.1 + 1 == i && q.2.category == 2))) ks = lv') (k : Vx x E M (pc + 1) lv' st) : Vx x E M pc lv (.int v :: st) := fun hw H locs ls hP hS hl => lv_istore_n B.1 B.2.1 hd hi hl (B.2.2.2.2.2.2.2.2 ▸ hn) rfl (fun ls' hl' => k hw H locs ls' hP hS (lv_re ks hks hl'))
theorem x_istore (B : Ok x E own cc n rm) {i : Nat} {v : Int32} {lv' : List (Nat × Value)} (hd : decode cc pc = .ok (.istore i, 2)) (ks : List Nat) (hn : i < n) (hks : lv_pick ((i, Value.int v) :: lv.filter (fun q => !(q.1 == i) && !(q.1 + 1 == i && q.2.category == 2))) ks = lv') (k : Vx x E M (pc + 2) lv' st) : Vx x E M pc lv (.int v :: st) := fun hw H locs ls hP hS hl => lv_istore B.1 B.2.1 hd hl (B.2.2.2.2.2.2.2.2 ▸ hn) rfl (fun ls' hl' => k hw H locs ls' hP hS (lv_re ks hks hl'))
theorem x_astore_n (B : Ok x E own cc n rm) {f : Fin 4} {i : Nat} {v : Nat} {lv' : List (Nat × Value)} (hd : decode cc pc = .ok (.astore_n f, 1)) (ks : List Nat) (hi : (f : Nat) = i) (hn : i < n) (hks : lv_pick ((i, Value.ref v) :: lv.filter (fun q => !(q.1 == i) && !(q.1 + 1 == i && q.2.category == 2))) ks = lv') (k : Vx x E M (pc + 1) lv' st) : Vx x E M pc lv (.ref v :: st) := fun hw H locs ls hP hS hl => lv_astore_n B.1 B.2.1 hd hi hl (B.2.2.2.2.2.2.2.2 ▸ hn) rfl (fun ls' hl' => k hw H locs ls' hP hS (lv_re ks hks hl'))
theorem x_astore (B : Ok x E own cc n rm) {i : Nat} {v : Nat} {lv' : List (Nat × Value)} (hd : decode cc pc = .ok (.astore i, 2)) (ks : List Nat) (hn : i < n) (hks : lv_pick ((i, Value.ref v) :: lv.filter (fun q => !(q.1 == i) && !(q.1 + 1 == i && q.2.category == 2))) ks = lv') (k : Vx x E M (pc + 2) lv' st) : Vx x E M pc lv (.ref v :: st) := fun hw H locs ls hP hS hl => lv_astore B.1 B.2.1 hd hl (B.2.2.2.2.2.2.2.2 ▸ hn) rfl (fun ls' hl' => k hw H locs ls' hP hS (lv_re ks hks hl'))
theorem x_iinc (B : Ok x E own cc n rm) {i q : Nat} {nn z : Int} {lv' : List (Nat × Value)} (hd : decode cc pc = .ok (.iinc i nn, 3)) (hq : lv[q]? = some (i, .int (iI z))) (ks : List Nat) (hn : i < n) (hks : lv_pick ((i, Value.int (iI (z + nn))) :: lv.filter (fun q => !(q.1 == i) && !(q.1 + 1 == i && q.2.category == 2))) ks = lv') (k : Vx x E M (pc + 3) lv' st) : Vx x E M pc lv st := fun hw H locs ls hP hS hl => lv_iinc B.1 B.2.1 hd hl hq (iI_add z nn) (B.2.2.2.2.2.2.2.2 ▸ hn) rfl (fun ls' hl' => k hw H locs ls' hP hS (lv_re ks hks hl'))
theorem x_iadd (B : Ok x E own cc n rm) {a b : Int} (hd : decode cc pc = .ok (.iadd, 1)) (k : Vx x E M (pc + 1) lv (.int (iI (a + b)) :: st)) : Vx x E M pc lv (.int (iI b) :: .int (iI a) :: st) := fun hw H locs ls hP hS hl => lv_iadd B.1 B.2.1 hd (by rw [iI_add]; exact k hw H locs ls hP hS hl)
theorem x_isub (B : Ok x E own cc n rm) {a b : Int} (hd : decode cc pc = .ok (.isub, 1)) (k : Vx x E M (pc + 1) lv (.int (iI (a - b)) :: st)) : Vx x E M pc lv (.int (iI b) :: .int (iI a) :: st) := fun hw H locs ls hP hS hl => lv_isub B.1 B.2.1 hd (by rw [iI_sub]; exact k hw H locs ls hP hS hl)
theorem x_imul (B : Ok x E own cc n rm) {a b : Int} (hd : decode cc pc = .ok (.imul, 1)) (k : Vx x E M (pc + 1) lv (.int (iI (a * b)) :: st)) : Vx x E M pc lv (.int (iI b) :: .int (iI a) :: st) := fun hw H locs ls hP hS hl => lv_imul B.1 B.2.1 hd (by rw [iI_mul]; exact k hw H locs ls hP hS hl)
theorem x_ineg (B : Ok x E own cc n rm) {a : Int} (hd : decode cc pc = .ok (.ineg, 1)) (k : Vx x E M (pc + 1) lv (.int (iI (-a)) :: st)) : Vx x E M pc lv (.int (iI a) :: st) := fun hw H locs ls hP hS hl => lv_ineg B.1 B.2.1 hd (by rw [iI_neg]; exact k hw H locs ls hP hS hl)
theorem x_idiv (B : Ok x E own cc n rm) {a b : Int} (hd : decode cc pc = .ok (.idiv, 1)) (ha : Rg a) (h0 : 0 ≤ a) (hb : Rg b) (hp : 0 < b) (k : Vx x E M (pc + 1) lv (.int (iI (a / b)) :: st)) : Vx x E M pc lv (.int (iI b) :: .int (iI a) :: st) := fun hw H locs ls hP hS hl => lv_idiv B.1 B.2.1 hd (iI_ne0 hb (by omega)) (by rw [iI_div ha h0 hb hp]; exact k hw H locs ls hP hS hl)
theorem x_irem (B : Ok x E own cc n rm) {a b : Int} (hd : decode cc pc = .ok (.irem, 1)) (ha : Rg a) (h0 : 0 ≤ a) (hb : Rg b) (hp : 0 < b) (k : Vx x E M (pc + 1) lv (.int (iI (a % b)) :: st)) : Vx x E M pc lv (.int (iI b) :: .int (iI a) :: st) := fun hw H locs ls hP hS hl => lv_irem B.1 B.2.1 hd (iI_ne0 hb (by omega)) (by rw [iI_rem ha h0 hb hp]; exact k hw H locs ls hP hS hl)
theorem x_dup (B : Ok x E own cc n rm) {v : Value} (hd : decode cc pc = .ok (.dup, 1)) (hv : v.category = 1) (k : Vx x E M (pc + 1) lv (v :: v :: st)) : Vx x E M pc lv (v :: st) := fun hw H locs ls hP hS hl => lv_dup B.1 B.2.1 hd hv (k hw H locs ls hP hS hl)
theorem x_dup2 (B : Ok x E own cc n rm) {v w : Value} (hd : decode cc pc = .ok (.dup2, 1)) (hv : v.category = 1) (hw' : w.category = 1) (k : Vx x E M (pc + 1) lv (v :: w :: v :: w :: st)) : Vx x E M pc lv (v :: w :: st) := fun hw H locs ls hP hS hl => lv_dup2_11 B.1 B.2.1 hd hv hw' (k hw H locs ls hP hS hl)
theorem x_pop (B : Ok x E own cc n rm) {v : Value} (hd : decode cc pc = .ok (.pop, 1)) (hv : v.category = 1) (k : Vx x E M (pc + 1) lv st) : Vx x E M pc lv (v :: st) := fun hw H locs ls hP hS hl => lv_pop B.1 B.2.1 hd hv (k hw H locs ls hP hS hl)
theorem x_goto (B : Ok x E own cc n rm) {off : Int} {tgt : Nat} (hd : decode cc pc = .ok (.goto off, 3)) (ht : (pc : Int) + off = (tgt : Int)) (k : Vx x E M tgt lv st) : Vx x E M pc lv st := fun hw H locs ls hP hS hl => lv_goto B.1 B.2.1 hd ht (k hw H locs ls hP hS hl)
theorem x_if_eq (B : Ok x E own cc n rm) {a off : Int} {tgt : Nat} (hd : decode cc pc = .ok (.ifCond .eq off, 3)) (ht : (pc : Int) + off = (tgt : Int)) (ha : Rg a) (kt : a = 0 → Vx x E M tgt lv st) (kf : ¬ (a = 0) → Vx x E M (pc + 3) lv st) : Vx x E M pc lv (.int (iI a) :: st) := fun hw H locs ls hP hS hl => lv_if_eq B.1 B.2.1 hd ht (fun c => kt ((iI_eq ha Rg_0).mp c) hw H locs ls hP hS hl) (fun c => kf (fun q => c ((iI_eq ha Rg_0).mpr q)) hw H locs ls hP hS hl)
theorem x_icmp_eq (B : Ok x E own cc n rm) {a b off : Int} {tgt : Nat} (hd : decode cc pc = .ok (.if_icmp .eq off, 3)) (ht : (pc : Int) + off = (tgt : Int)) (ha : Rg a) (hb : Rg b) (kt : a = b → Vx x E M tgt lv st) (kf : ¬ (a = b) → Vx x E M (pc + 3) lv st) : Vx x E M pc lv (.int (iI b) :: .int (iI a) :: st) := fun hw H locs ls hP hS hl => lv_icmp_eq B.1 B.2.1 hd ht (fun c => kt ((iI_eq ha hb).mp c) hw H locs ls hP hS hl) (fun c => kf (fun q => c ((iI_eq ha hb).mpr q)) hw H locs ls hP hS hl)
theorem x_if_ne (B : Ok x E own cc n rm) {a off : Int} {tgt : Nat} (hd : decode cc pc = .ok (.ifCond .ne off, 3)) (ht : (pc : Int) + off = (tgt : Int)) (ha : Rg a) (kt : ¬ a = 0 → Vx x E M tgt lv st) (kf : a = 0 → Vx x E M (pc + 3) lv st) : Vx x E M pc lv (.int (iI a) :: st) := fun hw H locs ls hP hS hl => lv_if_ne B.1 B.2.1 hd ht (fun c => kt ((not_congr (iI_eq ha Rg_0)).mp c) hw H locs ls hP hS hl) (fun c => kf ((iI_eq ha Rg_0).mp c) hw H locs ls hP hS hl)
theorem x_icmp_ne (B : Ok x E own cc n rm) {a b off : Int} {tgt : Nat} (hd : decode cc pc = .ok (.if_icmp .ne off, 3)) (ht : (pc : Int) + off = (tgt : Int)) (ha : Rg a) (hb : Rg b) (kt : ¬ a = b → Vx x E M tgt lv st) (kf : a = b → Vx x E M (pc + 3) lv st) : Vx x E M pc lv (.int (iI b) :: .int (iI a) :: st) := fun hw H locs ls hP hS hl => lv_icmp_ne B.1 B.2.1 hd ht (fun c => kt ((not_congr (iI_eq ha hb)).mp c) hw H locs ls hP hS hl) (fun c => kf ((iI_eq ha hb).mp c) hw H locs ls hP hS hl)
theorem x_if_lt (B : Ok x E own cc n rm) {a off : Int} {tgt : Nat} (hd : decode cc pc = .ok (.ifCond .lt off, 3)) (ht : (pc : Int) + off = (tgt : Int)) (ha : Rg a) (kt : a < 0 → Vx x E M tgt lv st) (kf : ¬ (a < 0) → Vx x E M (pc + 3) lv st) : Vx x E M pc lv (.int (iI a) :: st) := fun hw H locs ls hP hS hl => lv_if_lt B.1 B.2.1 hd ht (fun c => kt ((iI_lt ha Rg_0).mp c) hw H locs ls hP hS hl) (fun c => kf (fun q => c ((iI_lt ha Rg_0).mpr q)) hw H locs ls hP hS hl)
theorem x_icmp_lt (B : Ok x E own cc n rm) {a b off : Int} {tgt : Nat} (hd : decode cc pc = .ok (.if_icmp .lt off, 3)) (ht : (pc : Int) + off = (tgt : Int)) (ha : Rg a) (hb : Rg b) (kt : a < b → Vx x E M tgt lv st) (kf : ¬ (a < b) → Vx x E M (pc + 3) lv st) : Vx x E M pc lv (.int (iI b) :: .int (iI a) :: st) := fun hw H locs ls hP hS hl => lv_icmp_lt B.1 B.2.1 hd ht (fun c => kt ((iI_lt ha hb).mp c) hw H locs ls hP hS hl) (fun c => kf (fun q => c ((iI_lt ha hb).mpr q)) hw H locs ls hP hS hl)
theorem x_if_ge (B : Ok x E own cc n rm) {a off : Int} {tgt : Nat} (hd : decode cc pc = .ok (.ifCond .ge off, 3)) (ht : (pc : Int) + off = (tgt : Int)) (ha : Rg a) (kt : 0 ≤ a → Vx x E M tgt lv st) (kf : ¬ (0 ≤ a) → Vx x E M (pc + 3) lv st) : Vx x E M pc lv (.int (iI a) :: st) := fun hw H locs ls hP hS hl => lv_if_ge B.1 B.2.1 hd ht (fun c => kt ((iI_le Rg_0 ha).mp c) hw H locs ls hP hS hl) (fun c => kf (fun q => c ((iI_le Rg_0 ha).mpr q)) hw H locs ls hP hS hl)
theorem x_icmp_ge (B : Ok x E own cc n rm) {a b off : Int} {tgt : Nat} (hd : decode cc pc = .ok (.if_icmp .ge off, 3)) (ht : (pc : Int) + off = (tgt : Int)) (ha : Rg a) (hb : Rg b) (kt : b ≤ a → Vx x E M tgt lv st) (kf : ¬ (b ≤ a) → Vx x E M (pc + 3) lv st) : Vx x E M pc lv (.int (iI b) :: .int (iI a) :: st) := fun hw H locs ls hP hS hl => lv_icmp_ge B.1 B.2.1 hd ht (fun c => kt ((iI_le hb ha).mp c) hw H locs ls hP hS hl) (fun c => kf (fun q => c ((iI_le hb ha).mpr q)) hw H locs ls hP hS hl)
theorem x_if_gt (B : Ok x E own cc n rm) {a off : Int} {tgt : Nat} (hd : decode cc pc = .ok (.ifCond .gt off, 3)) (ht : (pc : Int) + off = (tgt : Int)) (ha : Rg a) (kt : 0 < a → Vx x E M tgt lv st) (kf : ¬ (0 < a) → Vx x E M (pc + 3) lv st) : Vx x E M pc lv (.int (iI a) :: st) := fun hw H locs ls hP hS hl => lv_if_gt B.1 B.2.1 hd ht (fun c => kt ((iI_lt Rg_0 ha).mp c) hw H locs ls hP hS hl) (fun c => kf (fun q => c ((iI_lt Rg_0 ha).mpr q)) hw H locs ls hP hS hl)
theorem x_icmp_gt (B : Ok x E own cc n rm) {a b off : Int} {tgt : Nat} (hd : decode cc pc = .ok (.if_icmp .gt off, 3)) (ht : (pc : Int) + off = (tgt : Int)) (ha : Rg a) (hb : Rg b) (kt : b < a → Vx x E M tgt lv st) (kf : ¬ (b < a) → Vx x E M (pc + 3) lv st) : Vx x E M pc lv (.int (iI b) :: .int (iI a) :: st) := fun hw H locs ls hP hS hl => lv_icmp_gt B.1 B.2.1 hd ht (fun c => kt ((iI_lt hb ha).mp c) hw H locs ls hP hS hl) (fun c => kf (fun q => c ((iI_lt hb ha).mpr q)) hw H locs ls hP hS hl)
theorem x_if_le (B : Ok x E own cc n rm) {a off : Int} {tgt : Nat} (hd : decode cc pc = .ok (.ifCond .le off, 3)) (ht : (pc : Int) + off = (tgt : Int)) (ha : Rg a) (kt : a ≤ 0 → Vx x E M tgt lv st) (kf : ¬ (a ≤ 0) → Vx x E M (pc + 3) lv st) : Vx x E M pc lv (.int (iI a) :: st) := fun hw H locs ls hP hS hl => lv_if_le B.1 B.2.1 hd ht (fun c => kt ((iI_le ha Rg_0).mp c) hw H locs ls hP hS hl) (fun c => kf (fun q => c ((iI_le ha Rg_0).mpr q)) hw H locs ls hP hS hl)
theorem x_icmp_le (B : Ok x E own cc n rm) {a b off : Int} {tgt : Nat} (hd : decode cc pc = .ok (.if_icmp .le off, 3)) (ht : (pc : Int) + off = (tgt : Int)) (ha : Rg a) (hb : Rg b) (kt : a ≤ b → Vx x E M tgt lv st) (kf : ¬ (a ≤ b) → Vx x E M (pc + 3) lv st) : Vx x E M pc lv (.int (iI b) :: .int (iI a) :: st) := fun hw H locs ls hP hS hl => lv_icmp_le B.1 B.2.1 hd ht (fun c => kt ((iI_le ha hb).mp c) hw H locs ls hP hS hl) (fun c => kf (fun q => c ((iI_le ha hb).mpr q)) hw H locs ls hP hS hl)
theorem bip_ok : ∀ n : Fin 256, (Int8.ofInt ((n : Int) - 128)).toInt32 = iI ((n : Int) - 128) := by decide +kernel
/-! memory -/
theorem he_obj {E : Ev} (M : Mem) {i ci : Nat} {fs : List (Option Nat)} (ht : tabT[i]? = some (ci + 4, 0, fs)) : (wls E M)[i]? = some (E.1 i, .inr (ci, fs.mapIdx (fun j d => fv E M i j d))) := by
  rw [wls_at E M (tab_len ht), shp_obj ht]
theorem he_arr {E : Ev} (M : Mem) {i k n : Nat} (ht : tabT[i]? = some (k, n, [])) (hk : k ≤ 1) : (wls E M)[i]? = some (E.1 i, .inl (E.2.1 k, n, .inl (fun j => iI (M i j)))) := by
  rw [wls_at E M (tab_len ht), shp_arr ht hk]
theorem he_ref {E : Ev} (M : Mem) {i k n : Nat} {fs : List (Option Nat)} (ht : tabT[i]? = some (k, n, fs)) (h1 : ¬ k ≤ 1) (h3 : k ≤ 3) : (wls E M)[i]? = some (E.1 i, .inl (E.2.1 k, n, .inr (.inr (.inr (.inr (fun j => (fs.getD j none).map E.1)))))) := by
  rw [wls_at E M (tab_len ht), shp_ref ht h1 h3]
theorem x_getI (B : Ok x E own cc n rm) {i k ci N idx : Nat} {fs : List (Option Nat)} {C : String} {T : u_T} {lo hi : Int} (hd : decode cc pc = .ok (.getfield idx, 3)) (ht : tabT[i]? = some (ci + 4, 0, fs)) (hf : fs[k]? = some none) (hc : vwCl[ci]? = some (C, T, N)) (hk : k < N) (hin : ∀ w ∈ u_ws C T N, w ∈ GW) (hl : Cond.fieldLink own idx (T k).1 (T k).2.1 (T k).2.2.1 ∈ GW) (hr : rngT i k = (lo, hi)) (kk : ∀ z : Int, Is z (M i k) → lo ≤ z → z ≤ hi → Vx x E M (pc + 3) lv (.int (iI z) :: st)) : Vx x E M pc lv (.ref (E.1 i) :: st) := by
  intro hw H locs ls hP hS hl'
  have hz := hw i k
  rw [hr] at hz
  exact va_get B.1 B.2.1 B.2.2.2.2.1 hin B.2.2.2.1 B.2.2.2.2.2.1.1 hP i (he_obj M ht) hc k hk (B.2.2.2.2.1 _ hl) (fun _ h => h) (v := .int (iI (M i k))) (by rw [List.getElem?_mapIdx, hf]; rfl) hd (kk _ rfl hz.1 hz.2 hw H locs ls hP hS hl')
theorem x_getR (B : Ok x E own cc n rm) {i k ci N idx t : Nat} {fs : List (Option Nat)} {C : String} {T : u_T} (hd : decode cc pc = .ok (.getfield idx, 3)) (ht : tabT[i]? = some (ci + 4, 0, fs)) (hf : fs[k]? = some (some t)) (hc : vwCl[ci]? = some (C, T, N)) (hk : k < N) (hin : ∀ w ∈ u_ws C T N, w ∈ GW) (hl : Cond.fieldLink own idx (T k).1 (T k).2.1 (T k).2.2.1 ∈ GW) (kk : Vx x E M (pc + 3) lv (.ref (E.1 t) :: st)) : Vx x E M pc lv (.ref (E.1 i) :: st) := by
  intro hw H locs ls hP hS hl'
  exact va_get B.1 B.2.1 B.2.2.2.2.1 hin B.2.2.2.1 B.2.2.2.2.2.1.1 hP i (he_obj M ht) hc k hk (B.2.2.2.2.1 _ hl) (fun _ h => h) (v := .ref (E.1 t)) (by rw [List.getElem?_mapIdx, hf]; rfl) hd (kk hw H locs ls hP hS hl')
theorem x_put (B : Ok x E own cc n rm) {i k ci N idx : Nat} {fs : List (Option Nat)} {C : String} {T : u_T} {ty0 : Nat → FieldType} {ty : FieldType} {lo hi z : Int} (hd : decode cc pc = .ok (.putfield idx, 3)) (ht : tabT[i]? = some (ci + 4, 0, fs)) (hf : fs[k]? = some none) (hc : vwCl[ci]? = some (C, T, N)) (hk : k < N) (hin : ∀ w ∈ u_ws C T N, w ∈ GW) (hty : ∀ k, k < N → parseFieldDescriptor (T k).2.2.1 = some (ty0 k)) (hnm : ∀ a, a < N → ∀ b, b < N → a ≠ b → (T a).2.1 ≠ (T b).2.1) (hl : Cond.fieldLink own idx (T k).1 (T k).2.1 (T k).2.2.1 ∈ GW) (hfin : (T k).2.2.2 = false) (hpd : parseFieldDescriptor (T k).2.2.1 = some ty) (hn : narrow ty (.int (iI z)) = .int (iI z)) (hft : fits ty (.int (iI z)) = true) (hr : rngT i k = (lo, hi)) (h1 : lo ≤ z) (h2 : z ≤ hi) (kk : Vx x E (sto M i k z) (pc + 3) lv st) : Vx x E M pc lv (.int (iI z) :: .ref (E.1 i) :: st) := by
  intro hw H locs ls hP hS hl'
  refine va_put B.1 B.2.1 B.2.2.2.2.1 hin ty0 hty hnm B.2.2.2.1 B.2.2.2.2.2.1.1 hP (va_D_of B.2.2.2.2.2.1 M) hS i (he_obj M ht) hc k hk (B.2.2.2.2.1 _ hl) (fun _ h => h) hfin hpd hn hft (by simpa using (List.getElem?_eq_some_iff.mp hf).1) hd (fun H1 locs1 hP1 _ hS1 => kk (wf_sto hw hr h1 h2) H1 locs1 ls ?_ hS1 hl')
  rw [fs_sto E M i k z hf, ← shp_obj ht, wls_set (tab_len ht) (fun a j ha => sto_ni M i k z ha)] at hP1
  exact hP1
theorem nar_i (z : Int) : narrow .int (.int (iI z)) = .int (iI z) := rfl
theorem fit_i (z : Int) : fits .int (.int (iI z)) = true := rfl
theorem nar_z {z : Int} (h0 : 0 ≤ z) (h1 : z ≤ 1) : narrow .boolean (.int (iI z)) = .int (iI z) := by
  rcases (show z = 0 ∨ z = 1 by omega) with rfl | rfl <;> rfl
theorem fit_z {z : Int} (h0 : 0 ≤ z) (h1 : z ≤ 1) : fits .boolean (.int (iI z)) = true := by
  rcases (show z = 0 ∨ z = 1 by omega) with rfl | rfl <;> rfl
theorem tab_lt : ∀ q ∈ tabT, q.2.1 < 2147483648 := by decide +kernel
theorem tab_n {i k n : Nat} {fs : List (Option Nat)} (ht : tabT[i]? = some (k, n, fs)) : n < 2147483648 := tab_lt _ (List.mem_of_getElem? ht)
theorem x_iald (B : Ok x E own cc n rm) {i nn : Nat} {z lo hi : Int} (hd : decode cc pc = .ok (.iaload, 1)) (ht : tabT[i]? = some (0, nn, [])) (h0 : 0 ≤ z) (h1 : z < nn) (hr : rngT i z.toNat = (lo, hi)) (kk : ∀ w : Int, Is w (M i z.toNat) → lo ≤ w → w ≤ hi → Vx x E M (pc + 1) lv (.int (iI w) :: st)) : Vx x E M pc lv (.int (iI z) :: .ref (E.1 i) :: st) := by
  intro hw H locs ls hP hS hl'
  have hn := tab_n ht
  have hz : Rg z := by unfold Rg; omega
  have hb := hw i z.toNat
  rw [hr] at hb
  refine va_iald B.1 B.2.1 B.2.2.2.2.2.1.1 hP i 0 (he_arr M ht (Nat.zero_le 1)) rfl (iI_in hz h0 h1) hd ?_
  rw [iI_cl hz]
  exact kk _ rfl hb.1 hb.2 hw H locs ls hP hS hl'
theorem x_zald (B : Ok x E own cc n rm) {i nn : Nat} {z lo hi : Int} (hd : decode cc pc = .ok (.baload, 1)) (ht : tabT[i]? = some (1, nn, [])) (h0 : 0 ≤ z) (h1 : z < nn) (hr : rngT i z.toNat = (lo, hi)) (kk : ∀ w : Int, Is w (M i z.toNat) → lo ≤ w → w ≤ hi → Vx x E M (pc + 1) lv (.int (iI w) :: st)) : Vx x E M pc lv (.int (iI z) :: .ref (E.1 i) :: st) := by
  intro hw H locs ls hP hS hl'
  have hn := tab_n ht
  have hz : Rg z := by unfold Rg; omega
  have hb := hw i z.toNat
  rw [hr] at hb
  refine va_zald B.1 B.2.1 B.2.2.2.2.2.1.1 hP i 1 (he_arr M ht (Nat.le_refl 1)) rfl (iI_in hz h0 h1) hd ?_
  rw [iI_cl hz]
  exact kk _ rfl hb.1 hb.2 hw H locs ls hP hS hl'
theorem x_iast (B : Ok x E own cc n rm) {i nn : Nat} {z w lo hi : Int} (hd : decode cc pc = .ok (.iastore, 1)) (ht : tabT[i]? = some (0, nn, [])) (h0 : 0 ≤ z) (h1 : z < nn) (hr : rngT i z.toNat = (lo, hi)) (h2 : lo ≤ w) (h3 : w ≤ hi) (kk : Vx x E (sto M i z.toNat w) (pc + 1) lv st) : Vx x E M pc lv (.int (iI w) :: .int (iI z) :: .ref (E.1 i) :: st) := by
  intro hw H locs ls hP hS hl'
  have hn := tab_n ht
  have hz : Rg z := by unfold Rg; omega
  refine va_iast B.1 B.2.1 B.2.2.2.2.2.1.1 hP (va_D_of B.2.2.2.2.2.1 M) hS i 0 (he_arr M ht (Nat.zero_le 1)) rfl (iI_in hz h0 h1) hd (fun H1 locs1 hP1 _ hS1 => kk (wf_sto hw hr h2 h3) H1 locs1 ls ?_ hS1 hl')
  rw [iI_cl hz, upd_sto, ← shp_arr ht (Nat.zero_le 1), wls_set (tab_len ht) (fun a j ha => sto_ni M i z.toNat w ha)] at hP1
  exact hP1
theorem x_zast (B : Ok x E own cc n rm) {i nn : Nat} {z w lo hi : Int} (hd : decode cc pc = .ok (.bastore, 1)) (ht : tabT[i]? = some (1, nn, [])) (h0 : 0 ≤ z) (h1 : z < nn) (hr : rngT i z.toNat = (lo, hi)) (h2 : lo ≤ w) (h3 : w ≤ hi) (h4 : 0 ≤ w) (h5 : w ≤ 1) (kk : Vx x E (sto M i z.toNat w) (pc + 1) lv st) : Vx x E M pc lv (.int (iI w) :: .int (iI z) :: .ref (E.1 i) :: st) := by
  intro hw H locs ls hP hS hl'
  have hn := tab_n ht
  have hz : Rg z := by unfold Rg; omega
  have hnar : vp_nar .boolean (iI w) = iI w := by unfold vp_nar; rw [nar_z h4 h5]
  refine va_zast B.1 B.2.1 B.2.2.2.2.2.1.1 hP (va_D_of B.2.2.2.2.2.1 M) hS i 1 (he_arr M ht (Nat.le_refl 1)) rfl (iI_in hz h0 h1) hd (fun H1 locs1 hP1 _ hS1 => kk (wf_sto hw hr h2 h3) H1 locs1 ls ?_ hS1 hl')
  rw [hnar, iI_cl hz, upd_sto, ← shp_arr ht (Nat.le_refl 1), wls_set (tab_len ht) (fun a j ha => sto_ni M i z.toNat w ha)] at hP1
  exact hP1
theorem x_aald (B : Ok x E own cc n rm) {i k nn t : Nat} {z : Int} {fs : List (Option Nat)} {C : String} (hd : decode cc pc = .ok (.aaload, 1)) (ht : tabT[i]? = some (k, nn, fs)) (hk1 : ¬ k ≤ 1) (hk3 : k ≤ 3) (hC : (tyL E)[k]? = some (E.2.1 k, .object C)) (h0 : 0 ≤ z) (h1 : z < nn) (hf : fs.getD z.toNat none = some t) (kk : Vx x E M (pc + 1) lv (.ref (E.1 t) :: st)) : Vx x E M pc lv (.int (iI z) :: .ref (E.1 i) :: st) := by
  intro hw H locs ls hP hS hl'
  have hn := tab_n ht
  have hz : Rg z := by unfold Rg; omega
  refine va_aldq B.1 B.2.1 B.2.2.2.2.2.1.1 hP i k (he_ref M ht hk1 hk3) hC (iI_in hz h0 h1) hd ?_
  rw [iI_cl hz, hf]
  exact kk hw H locs ls hP hS hl'
theorem x_alen (B : Ok x E own cc n rm) {i k nn : Nat} {ty : FieldType} (hd : decode cc pc = .ok (.arraylength, 1)) (ht : tabT[i]? = some (k, nn, [])) (hk : k ≤ 1) (hC : (tyL E)[k]? = some (E.2.1 k, ty)) (kk : Vx x E M (pc + 1) lv (.int (iI (nn : Int)) :: st)) : Vx x E M pc lv (.ref (E.1 i) :: st) := by
  intro hw H locs ls hP hS hl'
  exact va_alen B.1 B.2.1 B.2.2.2.2.2.1.1 hP i k (he_arr M ht hk) hC (iI_nat nn).symm hd (kk hw H locs ls hP hS hl')
/-- a static array, by a nest mate's link -/
theorem x_getsN (B : Ok x E own cc n rm) (k j : Nat) {idx : Nat} {l : List Int} {nm : String} (hd : decode cc pc = .ok (.getstatic idx, 3)) (hk : sN[k]? = some (nm, l)) (hj : fNest[j]? = some (own, idx, "TongueSight", nm, "[I", "TongueSight")) (kk : Vx x E M (pc + 3) lv (.ref (E.2.2.2.1 k) :: st)) : Vx x E M pc lv st := by
  intro hw H locs ls hP hS hl'
  obtain ⟨-, -, h4, -, h6, -⟩ := B.2.2.2.2.2.1
  exact va_getsN B.1 B.2.1 (h4 k _ hk).1 hS B.2.2.2.1 (va_Nw.use rfl (h6 _ (List.mem_of_getElem? hj))) (fun _ h => h) hd (kk hw H locs ls hP hS hl')
theorem x_sald (B : Ok x E own cc n rm) (k : Nat) {l : List Int} {nm : String} {z : Int} (hd : decode cc pc = .ok (.iaload, 1)) (hk : sN[k]? = some (nm, l)) (h0 : 0 ≤ z) (h1 : z < l.length) (hn : (l.length : Int) < 2147483648) (kk : ∀ w : Int, Is w (l.getD z.toNat 0) → Vx x E M (pc + 1) lv (.int (iI w) :: st)) : Vx x E M pc lv (.int (iI z) :: .ref (E.2.2.2.1 k) :: st) := by
  intro hw H locs ls hP hS hl'
  obtain ⟨-, -, h4, -⟩ := B.2.2.2.2.2.1
  have hz : Rg z := by unfold Rg; omega
  exact va_ti B.1 B.2.1 (h4 k _ hk).2 hS (iI_in hz h0 h1) (v := .int (iI (l.getD z.toNat 0))) (by rw [iI_cl hz]) hd (kk _ rfl hw H locs ls hP hS hl')
/-! returns -/
theorem x_ret0 (R : Rt x E r post) {v : Option Value} (hp : post v M) (hw : wf M) {H : Heap} {locs : List Loc} (hP : va_P E.2.2.1 vwCl (wls E M) H) (hS : va_S x.2.2.2.2.1 x.2.1.1.heap H locs) : ∀ t : State, t.heap = H → x.2.1.1.WarmedH t.vm → Qcg E post x.2.1.2.2.1 x.2.1.1 (.returned v) t := by
  intro t ht _
  refine ⟨⟨v, M, rfl, hw, hp, by rw [ht]; exact hP⟩, ?_⟩
  rw [← R.2.2.1]
  exact hS.F ht
theorem x_iret (B : Ok x E own cc n rm) (R : Rt x E (some .int) post) {z : Int} (hd : decode cc pc = .ok (.ireturn, 1)) (hp : post (some (.int (iI z))) M) : Vx x E M pc lv [.int (iI z)] := by
  intro hw H locs ls hP hS hl'
  rw [R.2.2.2]
  exact W.iret B.1 B.2.1 R.1 (x_ret0 R hp hw hP hS) (by rw [← R.2.2.1]; exact hS.2.2) hd R.2.1
theorem x_zret (B : Ok x E own cc n rm) {ty : FieldType} (R : Rt x E (some ty) post) {z : Int} (hd : decode cc pc = .ok (.ireturn, 1)) (hn : narrow ty (.int (iI z)) = .int (iI z)) (hp : post (some (.int (iI z))) M) : Vx x E M pc lv [.int (iI z)] := by
  intro hw H locs ls hP hS hl'
  rw [R.2.2.2]
  exact W.zret B.1 B.2.1 R.1 hn (x_ret0 R hp hw hP hS) (by rw [← R.2.2.1]; exact hS.2.2) hd R.2.1
theorem x_vret (B : Ok x E own cc n rm) (R : Rt x E none post) (hd : decode cc pc = .ok (.return_, 1)) (hp : post none M) : Vx x E M pc lv [] := by
  intro hw H locs ls hP hS hl'
  rw [R.2.2.2]
  exact W.vret B.1 B.2.1 R.1 (x_ret0 R hp hw hP hS) (by rw [← R.2.2.1]; exact hS.2.2) hd R.2.1
theorem x_aret (B : Ok x E own cc n rm) {c : String} (R : Rt x E (some (.object c)) post) {a : Nat} (hd : decode cc pc = .ok (.areturn, 1)) (hp : post (some (.ref a)) M) : Vx x E M pc lv [.ref a] := by
  intro hw H locs ls hP hS hl'
  rw [R.2.2.2]
  exact W.aret B.1 B.2.1 R.1 (Or.inl ⟨_, rfl⟩) (Or.inr ⟨_, rfl⟩) (x_ret0 R hp hw hP hS) (by rw [← R.2.2.1]; exact hS.2.2) hd R.2.1
/-! switches -/
theorem x_tabOut (B : Ok x E own cc n rm) {z dflt lo hi : Int} {offs : Array Int} {len tgt : Nat} (hd : decode cc pc = .ok (.tableswitch dflt lo hi offs, len)) (hz : Rg z) (h : z < lo ∨ hi < z) (ht : (pc : Int) + dflt = (tgt : Int)) (k : Vx x E M tgt lv st) : Vx x E M pc lv (.int (iI z) :: st) := fun hw H locs ls hP hS hl => lv_tableOut B.1 B.2.1 hd (by rw [iI_t hz]; exact h) ht (k hw H locs ls hP hS hl)
theorem x_tabIn (B : Ok x E own cc n rm) {z dflt lo hi off : Int} {offs : Array Int} {len tgt : Nat} (q : Nat) (hd : decode cc pc = .ok (.tableswitch dflt lo hi offs, len)) (hz : Rg z) (hq : z = lo + q) (h2 : z ≤ hi) (ho : offs[q]? = some off) (ht : (pc : Int) + off = (tgt : Int)) (k : Vx x E M tgt lv st) : Vx x E M pc lv (.int (iI z) :: st) := fun hw H locs ls hP hS hl => lv_tableIn B.1 B.2.1 hd (by rw [iI_t hz]; omega) (by rw [iI_t hz]; omega) (by rw [iI_t hz, show (z - lo).toNat = q by omega]; exact ho) ht (k hw H locs ls hP hS hl)
theorem x_look (B : Ok x E own cc n rm) {z dflt off : Int} {ps : Array (Int × Int)} {len tgt : Nat} (hd : decode cc pc = .ok (.lookupswitch dflt ps, len)) (hp : (ps.toList.zip (ps.toList.drop 1)).all (fun (a, next) => a.1 < next.1) = true) (hz : Rg z) (ho : Op.lookupswitch.offset ps.toList dflt z = off) (ht : (pc : Int) + off = (tgt : Int)) (k : Vx x E M tgt lv st) : Vx x E M pc lv (.int (iI z) :: st) := fun hw H locs ls hP hS hl => lv_lookup B.1 B.2.1 hd hp (by rw [iI_t hz]; exact ho) ht (k hw H locs ls hP hS hl)
/-! calls -/
/-- what the tables say of a method that is called: its code, its kind, its class; the number of its parameters -/
def Cs (y : MethodName) (bytes : ByteArray) (maxL : Nat) (rt : Option FieldType) (np : Nat) : Prop := Cond.code y bytes maxL rt ∈ GW ∧ Cond.static y ∈ GW ∧ Cond.initialized y.cls ∈ GW ∧ (y.cls ≠ "java/lang/invoke/MethodHandle" ∧ y.cls ≠ "java/lang/invoke/VarHandle" ∧ (parseMethodDescriptor y.desc).map (fun d => d.parameters.length) = some np)
def Cv (y : MethodName) (bytes : ByteArray) (maxL : Nat) (rt : Option FieldType) (np : Nat) : Prop := Cond.code y bytes maxL rt ∈ GW ∧ (Cond.instanceMethod y ∈ GW ∧ Cond.selects y.cls y y ∈ GW) ∧ Cond.initialized y.cls ∈ GW ∧ (y.cls ≠ "java/lang/invoke/MethodHandle" ∧ y.cls ≠ "java/lang/invoke/VarHandle" ∧ (parseMethodDescriptor y.desc).map (fun d => d.parameters.length) = some np)
def Rm (rm' rm : Room) (maxL : Nat) : Prop := rm'.cells = 0 ∧ rm'.slots = 0 ∧ rm'.frames + 1 ≤ rm.frames ∧ 8 + (maxL + 11) + rm'.locals ≤ rm.locals
theorem mw_good {y : MethodName} {bytes : ByteArray} {maxL : Nat} {rt : Option FieldType} (h : Cond.code y bytes maxL rt ∈ GW) : GoodIn GW (mw y bytes maxL rt) := by
  intro w hw
  rcases List.mem_cons.mp hw with rfl | h1
  · exact ⟨h, GW_good _ h⟩
  · exact ⟨h1, GW_good _ h1⟩
theorem Pcg_blind (E : Ev) (M : Mem) (av : List Value) : FrameBlind (Pcg E M av) := by
  intro a U g mk h
  obtain ⟨h1, h2, h3⟩ := h
  exact ⟨h1, h2, EnvOK_blind g mk a h3⟩
theorem x_cont {H : Heap} {locs : List Loc} {ls : Array Slot} {st0 : List Value} {a : Array Value} {post' : Option Value → Mem → Prop} (B : Ok x E own cc n rm) (hr : va_Run x.1.1 x.1.2.1 x.1.2.2.1 x.1.2.2.2 x.2.1.1 x.2.1.2.1 x.2.1.2.2.1 x.2.1.2.2.2 x.2.2.1.1 x.2.2.1.2 H locs x.2.2.2.2.2.2.1 x.2.2.2.2.2.2.2 0 0 (F0 x.2.1.2.1 pc ls st0) st (Qcg E post' a) (inW E)) (hS : va_S x.2.2.2.2.1 x.2.1.1.heap H locs) (hl : lv_has ls x.2.2.2.2.2.1 lv)
    (kk : ∀ (v : Option Value) (M' : Mem), post' v M' → Vx x E M' (pc + 3) lv (v.toList ++ st)) : W x.1.1 x.1.2.1 x.1.2.2.1 x.1.2.2.2 x.2.1.1 x.2.1.2.1 x.2.1.2.2.1 x.2.1.2.2.2 x.2.2.1.1 x.2.2.1.2 H locs x.2.2.2.2.2.2.1 x.2.2.2.2.2.2.2 x.2.2.2.1 (F0 x.2.1.2.1 pc ls st0) := by
  intro T hT X
  obtain ⟨v, st₀, t, T', L, h0, X', hL, e1, e2, ⟨⟨v', M', hv, hwf, hp, hP⟩, hz, hk⟩, stp⟩ := hr T hT X
  cases hv
  rw [h0] at hz hk
  have hA : ∀ q, inW E q → x.2.2.2.2.1 q := B.2.2.2.2.2.1.2.1.2
  have key := kk v M' hp hwf T'.heap (locs ++ L) ls (by rw [e1]; exact hP) ⟨Nat.le_trans hS.1 (by rw [e1]; exact hz), fun q h1 h2 => by rw [e1, hk q (Nat.lt_of_lt_of_le h1 hS.1) (fun z => h2 (hA q z))]; exact hS.2.1 q h1 h2, fun q hq => by
      rcases List.mem_append.mp hq with h | h
      · exact hS.2.2 q h
      · exact hA _ (hL q h)⟩ hl
  obtain ⟨t2, a1, b1⟩ := key T' rfl X'
  exact ⟨t2, stp t2 a1, b1⟩
theorem x_pre (B : Ok x E own cc n rm) (av : List Value) {H : Heap} {locs : List Loc} (hP : va_P E.2.2.1 vwCl (wls E M) H) (hS : va_S x.2.2.2.2.1 x.2.1.1.heap H locs) : ∀ U : State, U.heap = H → x.2.1.1.WarmedH U.vm → Pcg E M av av.toArray U := by
  intro U hU hW
  exact ⟨rfl, by rw [hU]; exact hP, by rw [hU]; exact EnvOK_call B.2.2.2.2.2.1 hS hW⟩
theorem x_callS (B : Ok x E own cc n rm) {y : MethodName} {bytes : ByteArray} {maxL np idx : Nat} {rt : Option FieldType} {rm' : Room} {av st0 : List Value} {post' : Option Value → Mem → Prop} (hd : decode cc pc = .ok (.invokestatic idx, 3)) (hc : Cs y bytes maxL rt np) (hl : Cond.methodLink own idx y ∈ GW) (hR : Rm rm' rm maxL) (hst : st0 = av.reverse ++ st) (hn : av.length = np) (hW : (st.map fun v => v.category).sum ≤ 8) (hC : Ct x.1.2.1 y bytes maxL rt rm' E M av post')
    (kk : ∀ (v : Option Value) (M' : Mem), post' v M' → Vx x E M' (pc + 3) lv (v.toList ++ st)) : Vx x E M pc lv st0 := by
  intro hw H locs ls hP hS hl'
  obtain ⟨c1, c2, c3, c4⟩ := hc
  have hw5 := B.2.2.2.2.1
  refine x_cont B (va_runS (As := av) (rest := st) (bytes := bytes) (maxL := maxL) (ret := rt) (n := np) (index := idx) ⟨B.1, B.2.1, rfl, B.2.2.2.1, hw5⟩ (hC hw) ⟨callB_of np hw5 (mw_good c1) rfl hR.1 hR.2.1 (hw5 _ c3) (hw5 _ hl) c4 (by rw [B.2.2.2.2.2.2.1]; exact ⟨hR.2.2.1, hR.2.2.2⟩), hw5 _ c2⟩ ⟨Pcg_blind E M av, x_pre B av hP hS⟩ rfl hn (hl'.1.trans B.2.2.1.symm) hst (lv_room hW) hd (by rw [B.2.2.2.2.2.2.1]; exact B.2.2.2.2.2.2.2.1)) hS hl' kk
theorem x_callSN (B : Ok x E own cc n rm) (j : Nat) {y : MethodName} {bytes : ByteArray} {maxL np idx : Nat} {rt : Option FieldType} {rm' : Room} {av st0 : List Value} {post' : Option Value → Mem → Prop} (hd : decode cc pc = .ok (.invokestatic idx, 3)) (hc : Cs y bytes maxL rt np) (hj : mNest[j]? = some (own, idx, y, "TongueSight")) (hR : Rm rm' rm maxL) (hst : st0 = av.reverse ++ st) (hn : av.length = np) (hW : (st.map fun v => v.category).sum ≤ 8) (hC : Ct x.1.2.1 y bytes maxL rt rm' E M av post')
    (kk : ∀ (v : Option Value) (M' : Mem), post' v M' → Vx x E M' (pc + 3) lv (v.toList ++ st)) : Vx x E M pc lv st0 := by
  intro hw H locs ls hP hS hl'
  obtain ⟨c1, c2, c3, c4⟩ := hc
  have hw5 := B.2.2.2.2.1
  refine x_cont B (va_runSN (As := av) (rest := st) (bytes := bytes) (maxL := maxL) (ret := rt) (n := np) (index := idx) (host := "TongueSight") ⟨B.1, B.2.1, rfl, B.2.2.2.1, hw5⟩ (hC hw) ⟨va_cnB np hw5 (mw_good c1) rfl hR.1 hR.2.1 (B.2.2.2.2.2.1.2.2.2.1 _ (List.mem_of_getElem? hj)) (hw5 _ c3) c4 (by rw [B.2.2.2.2.2.2.1]; exact ⟨hR.2.2.1, hR.2.2.2⟩), hw5 _ c2, trivial⟩ ⟨Pcg_blind E M av, x_pre B av hP hS⟩ rfl hn (hl'.1.trans B.2.2.1.symm) hst (lv_room hW) hd (by rw [B.2.2.2.2.2.2.1]; exact B.2.2.2.2.2.2.2.1)) hS hl' kk
theorem x_callV (B : Ok x E own cc n rm) {y : MethodName} {bytes : ByteArray} {maxL np idx b : Nat} {rt : Option FieldType} {rm' : Room} {av st0 : List Value} {post' : Option Value → Mem → Prop} (hd : decode cc pc = .ok (.invokevirtual idx, 3)) (hc : Cv y bytes maxL rt np) (hl : Cond.methodLink own idx y ∈ GW) (hR : Rm rm' rm maxL) (hst : st0 = av.reverse ++ .ref b :: st) (hn : av.length = np) (hW : (st.map fun v => v.category).sum ≤ 8) (hrec : ∀ (H : Heap) (locs : List Loc), va_P E.2.2.1 vwCl (wls E M) H → va_S x.2.2.2.2.1 x.2.1.1.heap H locs → ∃ cell : Cell, H[b]? = some cell ∧ cell.vm.isStatics = false ∧ x.2.1.1.vm.findClass y.cls = some cell.cls) (hC : Ct x.1.2.1 y bytes maxL rt rm' E M (.ref b :: av) post')
    (kk : ∀ (v : Option Value) (M' : Mem), post' v M' → Vx x E M' (pc + 3) lv (v.toList ++ st)) : Vx x E M pc lv st0 := by
  intro hw H locs ls hP hS hl'
  obtain ⟨c1, ⟨c2, c5⟩, c3, c4⟩ := hc
  have hw5 := B.2.2.2.2.1
  refine x_cont B (va_runV (As := av) (rest := st) (bytes := bytes) (maxL := maxL) (ret := rt) (n := np) (index := idx) (C := y.cls) ⟨B.1, B.2.1, rfl, B.2.2.2.1, hw5⟩ (hC hw) ⟨callB_of np hw5 (mw_good c1) rfl hR.1 hR.2.1 (hw5 _ c3) (hw5 _ hl) c4 (by rw [B.2.2.2.2.2.2.1]; exact ⟨hR.2.2.1, hR.2.2.2⟩), hw5 _ c2, hw5 _ c5⟩ ⟨Pcg_blind E M (.ref b :: av), hrec H locs hP hS, x_pre B (.ref b :: av) hP hS⟩ rfl hn (hl'.1.trans B.2.2.1.symm) hst (lv_room hW) hd (by rw [B.2.2.2.2.2.2.1]; exact B.2.2.2.2.2.2.2.1)) hS hl' kk
theorem rc_obj (B : Ok x E own cc n rm) {i ci : Nat} {fs : List (Option Nat)} {q : vw_C} {C : String} (ht : tabT[i]? = some (ci + 4, 0, fs)) (hc : vwCl[ci]? = some q) (hC : q.1 = C) : ∀ (H : Heap) (locs : List Loc), va_P E.2.2.1 vwCl (wls E M) H → va_S x.2.2.2.2.1 x.2.1.1.heap H locs → ∃ cell : Cell, H[E.1 i]? = some cell ∧ cell.vm.isStatics = false ∧ x.2.1.1.vm.findClass C = some cell.cls := by
  intro H locs hP hS
  rw [← hC]
  exact va_recv B.2.2.2.2.2.1.1 hP hc (he_obj M ht)
end ROWS
