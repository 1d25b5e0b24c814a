/-! gW: the machine at a frame over a world 'va_pl L f'; gC: what stands throughout a method; gR: what its end asks; gCt: a method's contract over a world -/
abbrev gX : Type := (Program × Launch × Env × Room) × (State × MethodId × Array Value × List Frame × Method × Code) × (State → Prop) × (Nat → Prop) × va_G
abbrev gKt : Type := (Nat → Prop) → State → Prop
def gW (X : gX) (cl : List vw_C) (nL : Nat) (L : List Nat) (f : Nat → va_E) (cells slots pc : Nat) (lv : List (Nat × Value)) (st : List Value) : Prop :=
  ∀ (H : Heap) (locs : List Loc) (ls : Array Slot), va_P X.2.2.2.2 cl (va_pl L f) H → va_D X.2.2.2.1 (va_pl L f) → va_S X.2.2.2.1 X.2.1.1.heap H locs → lv_has ls nL lv →
    W X.1.1 X.1.2.1 X.1.2.2.1 X.1.2.2.2 X.2.1.1 X.2.1.2.1 X.2.1.2.2.1 X.2.1.2.2.2.1 X.2.1.2.2.2.2.1 X.2.1.2.2.2.2.2 H locs cells slots X.2.2.1 (F0 X.2.1.2.1 pc ls st)
/-- what is known of the machine throughout (of the state, apart from the cells of A): it gives the tables of classes, and goes along into calls -/
def gKok (D : va_G) (cl : List vw_C) (tys : List (ClassId × FieldType)) (K : gKt) : Prop :=
  (∀ A s, K A s → va_K D cl tys s) ∧ ∀ (A A1 : Nat → Prop) (s U : State), K A s → s.WarmedH U.vm → s.heap.size ≤ U.heap.size → (∀ q : Nat, q < s.heap.size → ¬ A q → U.heap[q]? = s.heap[q]?) → (∀ q, A1 q → A q) → K A1 U
def gC (X : gX) (l : Launch) (R : Room) (D : va_G) (cl : List vw_C) (tys : List (ClassId × FieldType)) (K : gKt) (cc : ByteArray) (nL : Nat) (Ts : List Cond) (own : String) : Prop :=
  CallFix X.1.1 X.2.1.2.1 X.2.1.2.2.2.2.2 cc nL X.2.1.1 X.2.1.2.2.1 Ts own ∧ gKok D cl tys K ∧ K X.2.2.2.1 X.2.1.1 ∧ (∀ q, X.2.1.1.heap.size ≤ q → X.2.2.2.1 q) ∧ X.1.2.1 = l ∧ X.1.2.2.2 = R ∧ X.2.2.2.2 = D
abbrev gPost : Type := Option Value → List Nat → (Nat → va_E) → Prop
def gQ (D : va_G) (cl : List vw_C) (A : Nat → Prop) (post : gPost) : Array Value → State → Outcome → State → Prop := fun _ st oc t =>
  (∃ (v : Option Value) (L : List Nat) (f : Nat → va_E), oc = .returned v ∧ post v L f ∧ va_P D cl (va_pl L f) t.heap ∧ va_D A (va_pl L f)) ∧ va_F A st t
def gR (X : gX) (D : va_G) (cl : List vw_C) (rt : Option FieldType) (mc ms : Nat) (post : gPost) : Prop :=
  X.2.1.2.2.2.2.1.sig.returnType = rt ∧ X.2.1.2.2.2.2.1.locks = false ∧ X.2.2.1 = MQ X.2.1.2.2.2.1 (gQ D cl X.2.2.2.1 post) X.2.1.2.2.1 X.2.1.1 mc ms X.2.2.2.1
def gPre (D : va_G) (cl : List vw_C) (K : gKt) (L : List Nat) (f : Nat → va_E) (sz : Nat) (U : State) : Prop :=
  U.heap.size = sz ∧ va_P D cl (va_pl L f) U.heap ∧ K (va_A (va_pl L f) sz) U ∧ va_D (fun _ => True) (va_pl L f)
def gCt (l : Launch) (D : va_G) (cl : List vw_C) (K : gKt) (y : MethodName) (ws : List Cond) (rm : Room) (av : List Value) (L : List Nat) (f : Nat → va_E) (post : gPost) : Prop :=
  ∀ sz : Nat, Met l y ws rm (va_Pc av (gPre D cl K L f sz)) (gQ D cl (va_A (va_pl L f) sz) post) rm.cells rm.slots (va_A (va_pl L f) sz)
theorem gCt.of {l : Launch} {D : va_G} {cl : List vw_C} {tys : List (ClassId × FieldType)} {K : gKt} {y : MethodName} {ws ws' : List Cond} {rm : Room} {av : List Value} {L : List Nat} {f : Nat → va_E} {post : gPost} {cc : ByteArray} {maxL : Nat} {ret : Option FieldType}
    (hok : gKok D cl tys K) (hy : plainName y.cls = true) (hw : ws = Cond.code y cc maxL ret :: ws') (hn : Nat.ble (lg_sl av).length maxL = true)
    (body : ∀ X : gX, gC X l rm D cl tys K cc maxL ws y.cls → gR X D cl ret rm.cells rm.slots post → X.2.1.2.2.2.2.1.name = y.name → gW X cl maxL L f 0 0 0 (lv_args 0 av) []) : gCt l D cl K y ws rm av L f post := by
  intro sz
  refine Met.ofW (cc := cc) (maxL := maxL) (ret := ret) hy hw ?_
  intro p e s m args below meth c s₁ B hml hv
  obtain ⟨rfl, hsz, hP, hK, hD0⟩ := hv
  have hts := atoms_spec (ws := ws) B.pre
  have hown : s.vm.findClass y.cls = some m.cls := findClass_of_methodNamed B.named
  subst hsz
  have hD := hD0.self (sz := s.heap.size)
  have hA : ∀ q : Nat, s.heap.size ≤ q → va_A (va_pl L f) s.heap.size q := fun q h => Or.inr h
  have hl := lv_entry av (n := maxL) (Nat.le_of_ble_eq_true hn)
  rw [lg_entry_eq]
  exact body ((p, l, e, rm), (s, m, av.toArray, below, meth, c), MQ below (gQ D cl (va_A (va_pl L f) s.heap.size) post) av.toArray s rm.cells rm.slots (va_A (va_pl L f) s.heap.size), va_A (va_pl L f) s.heap.size, D)
    ⟨⟨B.exec, B.bytes, hml, hown, hts⟩, hok, hK, hA, rfl, rfl, rfl⟩ ⟨B.returns, B.notSynchronized, rfl⟩ (name_of_methodNamed B.named B.method).1 s.heap [] _ hP hD va_S.rf hl
theorem pl_at {L : List Nat} {f : Nat → va_E} {a : Nat} {e : va_E} (hL : a ∈ L) (hf : f a = e) : ∃ k : Nat, (va_pl L f)[k]? = some (a, e) := by
  obtain ⟨k, hk⟩ := va_pl_get (X := []) (f := f) hL
  exact ⟨k, by rw [← hf]; exact hk⟩
theorem pl_set {A : Nat → Prop} {L : List Nat} {f : Nat → va_E} {a k : Nat} {e e' : va_E} (hD : va_D A (va_pl L f)) (hL : a ∈ L) (hf : f a = e') (hk : (va_pl L f)[k]? = some (a, e')) : (va_pl L f).set k (a, e) = va_pl L (va_up f a e) :=
  va_pl_set (X := []) hD hL (by rw [hf]; exact hk)
theorem pl_nin {A : Nat → Prop} {L : List Nat} {f : Nat → va_E} {q : Nat} {e : va_E} (hD : va_D A (va_pl L f ++ [(q, e)])) : q ∉ L := by
  intro h
  obtain ⟨k, hk⟩ := pl_at (f := f) h rfl
  have hl := (List.getElem?_eq_some_iff.mp hk).1
  have h1 : (va_pl L f ++ [(q, e)])[k]? = some (q, f q) := by rw [List.getElem?_append_left hl]; exact hk
  have h2 : (va_pl L f ++ [(q, e)])[(va_pl L f).length]? = some (q, e) := by rw [List.getElem?_append_right (Nat.le_refl _)]; simp
  have := hD.1 _ _ _ _ h1 h2 rfl
  omega
theorem pl_A {L : List Nat} {f : Nat → va_E} {sz q : Nat} (h : va_A (va_pl L f) sz q) : q ∈ L ∨ sz ≤ q := by
  rcases h with ⟨k, e, h⟩ | h
  · left
    obtain ⟨a, ha, he⟩ := List.mem_map.mp (List.mem_of_getElem? h)
    cases he
    exact ha
  · exact Or.inr h
theorem pl_free {A : Nat → Prop} {L : List Nat} {f : Nat → va_E} {H0 H : Heap} {locs : List Loc} (hD : va_D A (va_pl L f)) (hS : va_S A H0 H locs) (hA : ∀ q, H0.size ≤ q → A q) : ∀ q, va_A (va_pl L f) H.size q → A q := by
  intro q h
  rcases pl_A h with h | h
  · obtain ⟨k, hk⟩ := pl_at (f := f) h rfl
    exact hD.2 k _ hk
  · exact hA q (Nat.le_trans hS.1 h)
theorem ra_uniq {s : State} {c1 c2 : ClassId} {ty : FieldType} (h1 : va_RA s c1 ty) (h2 : va_RA s c2 ty) : c1 = c2 := by
  cases ty with
  | object C =>
    obtain ⟨_, _, _, _, _, h1⟩ := h1
    obtain ⟨_, _, _, _, _, h2⟩ := h2
    exact Option.some.inj (h1.symm.trans h2)
  | _ => exact Option.some.inj (Eq.trans (Eq.symm h1) h2)
def gst (v : Option Value) (st : List Value) : List Value := match v with
  | none => st
  | some x => x :: st
theorem gst_eq (v : Option Value) (st : List Value) : v.toList ++ st = gst v st := by cases v <;> rfl

section GWR
variable {X : gX} {l : Launch} {R : Room} {D : va_G} {cl : List vw_C} {tys : List (ClassId × FieldType)} {K : gKt} {cc : ByteArray} {nL : Nat} {Ts : List Cond} {own : String} {L : List Nat} {f : Nat → va_E} {cells slots pc : Nat} {lv lv' : List (Nat × Value)} {st : List Value}
theorem g_iconst (hC : gC X l R D cl tys K cc nL Ts own) {n : Int} {v : Int32} (hd : decode cc pc = .ok (.iconst n, 1)) (hv : Int32.ofInt n = v) (k : gW X cl nL L f cells slots (pc + 1) lv (.int v :: st)) : gW X cl nL L f cells slots pc lv st := by
  obtain ⟨⟨p, l9, e, R9⟩, ⟨s, m, args, below, meth, c⟩, Q, A, D9⟩ := X
  obtain ⟨⟨hx, hb, hml, hown, hts⟩, hok, hKA, hA, h1, h2, h3⟩ := hC
  dsimp only at hx hb hml hown hts hKA hA h1 h2 h3
  subst h1 h2 h3
  have hK := hok.1 _ _ hKA
  intro H locs ls hP hD hS hl
  dsimp only at hP hD hS ⊢
  exact lv_iconst hx hb hd hv (k H locs ls hP hD hS hl)
theorem g_bipush (hC : gC X l R D cl tys K cc nL Ts own) {n : Int} {v : Int32} (hd : decode cc pc = .ok (.bipush n, 2)) (hv : (Int8.ofInt n).toInt32 = v) (k : gW X cl nL L f cells slots (pc + 2) lv (.int v :: st)) : gW X cl nL L f cells slots pc lv st := by
  obtain ⟨⟨p, l9, e, R9⟩, ⟨s, m, args, below, meth, c⟩, Q, A, D9⟩ := X
  obtain ⟨⟨hx, hb, hml, hown, hts⟩, hok, hKA, hA, h1, h2, h3⟩ := hC
  dsimp only at hx hb hml hown hts hKA hA h1 h2 h3
  subst h1 h2 h3
  have hK := hok.1 _ _ hKA
  intro H locs ls hP hD hS hl
  dsimp only at hP hD hS ⊢
  exact lv_bipush hx hb hd hv (k H locs ls hP hD hS hl)
theorem g_sipush (hC : gC X l R D cl tys K cc nL Ts own) {n : Int} {v : Int32} (hd : decode cc pc = .ok (.sipush n, 3)) (hv : (Int16.ofInt n).toInt32 = v) (k : gW X cl nL L f cells slots (pc + 3) lv (.int v :: st)) : gW X cl nL L f cells slots pc lv st := by
  obtain ⟨⟨p, l9, e, R9⟩, ⟨s, m, args, below, meth, c⟩, Q, A, D9⟩ := X
  obtain ⟨⟨hx, hb, hml, hown, hts⟩, hok, hKA, hA, h1, h2, h3⟩ := hC
  dsimp only at hx hb hml hown hts hKA hA h1 h2 h3
  subst h1 h2 h3
  have hK := hok.1 _ _ hKA
  intro H locs ls hP hD hS hl
  dsimp only at hP hD hS ⊢
  exact lv_sipush hx hb hd hv (k H locs ls hP hD hS hl)
theorem g_lconst (hC : gC X l R D cl tys K cc nL Ts own) {n : Fin 2} {v : Int64} (hd : decode cc pc = .ok (.lconst n, 1)) (hv : Int64.ofNat (n : Nat) = v) (k : gW X cl nL L f cells slots (pc + 1) lv (.long v :: st)) : gW X cl nL L f cells slots pc lv st := by
  obtain ⟨⟨p, l9, e, R9⟩, ⟨s, m, args, below, meth, c⟩, Q, A, D9⟩ := X
  obtain ⟨⟨hx, hb, hml, hown, hts⟩, hok, hKA, hA, h1, h2, h3⟩ := hC
  dsimp only at hx hb hml hown hts hKA hA h1 h2 h3
  subst h1 h2 h3
  have hK := hok.1 _ _ hKA
  intro H locs ls hP hD hS hl
  dsimp only at hP hD hS ⊢
  exact lv_lconst hx hb hd hv (k H locs ls hP hD hS hl)
theorem g_null (hC : gC X l R D cl tys K cc nL Ts own)  (hd : decode cc pc = .ok (.aconst_null, 1))  (k : gW X cl nL L f cells slots (pc + 1) lv (.null :: st)) : gW X cl nL L f cells slots pc lv st := by
  obtain ⟨⟨p, l9, e, R9⟩, ⟨s, m, args, below, meth, c⟩, Q, A, D9⟩ := X
  obtain ⟨⟨hx, hb, hml, hown, hts⟩, hok, hKA, hA, h1, h2, h3⟩ := hC
  dsimp only at hx hb hml hown hts hKA hA h1 h2 h3
  subst h1 h2 h3
  have hK := hok.1 _ _ hKA
  intro H locs ls hP hD hS hl
  dsimp only at hP hD hS ⊢
  exact lv_null hx hb hd  (k H locs ls hP hD hS hl)
theorem g_iload_n (hC : gC X l R D cl tys K cc nL Ts own) {q : Fin 4} {i : Nat} {x : Int32} (hd : decode cc pc = .ok (.iload_n q, 1)) (hi : (q : Nat) = i) (j : Nat) (hj : lv[j]? = some (i, .int x)) (k : gW X cl nL L f cells slots (pc + 1) lv (.int x :: st)) : gW X cl nL L f cells slots pc lv st := by
  obtain ⟨⟨p, l9, e, R9⟩, ⟨s, m, args, below, meth, c⟩, Q, A, D9⟩ := X
  obtain ⟨⟨hx, hb, hml, hown, hts⟩, hok, hKA, hA, h1, h2, h3⟩ := hC
  dsimp only at hx hb hml hown hts hKA hA h1 h2 h3
  subst h1 h2 h3
  have hK := hok.1 _ _ hKA
  intro H locs ls hP hD hS hl
  dsimp only at hP hD hS ⊢
  exact lv_iload_n hx hb hd hi (lv_at hl j hj) (k H locs ls hP hD hS hl)
theorem g_iload (hC : gC X l R D cl tys K cc nL Ts own) {i : Nat} {x : Int32} (hd : decode cc pc = .ok (.iload i, 2)) (j : Nat) (hj : lv[j]? = some (i, .int x)) (k : gW X cl nL L f cells slots (pc + 2) lv (.int x :: st)) : gW X cl nL L f cells slots pc lv st := by
  obtain ⟨⟨p, l9, e, R9⟩, ⟨s, m, args, below, meth, c⟩, Q, A, D9⟩ := X
  obtain ⟨⟨hx, hb, hml, hown, hts⟩, hok, hKA, hA, h1, h2, h3⟩ := hC
  dsimp only at hx hb hml hown hts hKA hA h1 h2 h3
  subst h1 h2 h3
  have hK := hok.1 _ _ hKA
  intro H locs ls hP hD hS hl
  dsimp only at hP hD hS ⊢
  exact lv_iload hx hb hd (lv_at hl j hj) (k H locs ls hP hD hS hl)
theorem g_lload_n (hC : gC X l R D cl tys K cc nL Ts own) {q : Fin 4} {i : Nat} {x : Int64} (hd : decode cc pc = .ok (.lload_n q, 1)) (hi : (q : Nat) = i) (j : Nat) (hj : lv[j]? = some (i, .long x)) (k : gW X cl nL L f cells slots (pc + 1) lv (.long x :: st)) : gW X cl nL L f cells slots pc lv st := by
  obtain ⟨⟨p, l9, e, R9⟩, ⟨s, m, args, below, meth, c⟩, Q, A, D9⟩ := X
  obtain ⟨⟨hx, hb, hml, hown, hts⟩, hok, hKA, hA, h1, h2, h3⟩ := hC
  dsimp only at hx hb hml hown hts hKA hA h1 h2 h3
  subst h1 h2 h3
  have hK := hok.1 _ _ hKA
  intro H locs ls hP hD hS hl
  dsimp only at hP hD hS ⊢
  exact lv_lload_n hx hb hd hi (lv_at hl j hj) (k H locs ls hP hD hS hl)
theorem g_lload (hC : gC X l R D cl tys K cc nL Ts own) {i : Nat} {x : Int64} (hd : decode cc pc = .ok (.lload i, 2)) (j : Nat) (hj : lv[j]? = some (i, .long x)) (k : gW X cl nL L f cells slots (pc + 2) lv (.long x :: st)) : gW X cl nL L f cells slots pc lv st := by
  obtain ⟨⟨p, l9, e, R9⟩, ⟨s, m, args, below, meth, c⟩, Q, A, D9⟩ := X
  obtain ⟨⟨hx, hb, hml, hown, hts⟩, hok, hKA, hA, h1, h2, h3⟩ := hC
  dsimp only at hx hb hml hown hts hKA hA h1 h2 h3
  subst h1 h2 h3
  have hK := hok.1 _ _ hKA
  intro H locs ls hP hD hS hl
  dsimp only at hP hD hS ⊢
  exact lv_lload hx hb hd (lv_at hl j hj) (k H locs ls hP hD hS hl)
theorem g_aload_n (hC : gC X l R D cl tys K cc nL Ts own) {q : Fin 4} {i : Nat} {v : Value} (hd : decode cc pc = .ok (.aload_n q, 1)) (hi : (q : Nat) = i) (j : Nat) (hj : lv[j]? = some (i, v)) (hv : v = .null ∨ ∃ a, v = .ref a) (k : gW X cl nL L f cells slots (pc + 1) lv (v :: st)) : gW X cl nL L f cells slots pc lv st := by
  obtain ⟨⟨p, l9, e, R9⟩, ⟨s, m, args, below, meth, c⟩, Q, A, D9⟩ := X
  obtain ⟨⟨hx, hb, hml, hown, hts⟩, hok, hKA, hA, h1, h2, h3⟩ := hC
  dsimp only at hx hb hml hown hts hKA hA h1 h2 h3
  subst h1 h2 h3
  have hK := hok.1 _ _ hKA
  intro H locs ls hP hD hS hl
  dsimp only at hP hD hS ⊢
  rcases hv with rfl | ⟨a, rfl⟩
  · exact lv_aload_nN hx hb hd hi (lv_at hl j hj) (k H locs ls hP hD hS hl)
  · exact lv_aload_n hx hb hd hi (lv_at hl j hj) (k H locs ls hP hD hS hl)
theorem g_astore_n (hC : gC X l R D cl tys K cc nL Ts own) {q : Fin 4} {i : Nat} {v : Value} (hd : decode cc pc = .ok (.astore_n q, 1)) (hi : (q : Nat) = i) (hn : i < nL) (hl9 : (i, v) :: lv.filter (fun q => !(q.1 == i) && !(q.1 + 1 == i && q.2.category == 2)) = lv') (hv : v = .null ∨ ∃ a, v = .ref a) (k : gW X cl nL L f cells slots (pc + 1) lv' st) : gW X cl nL L f cells slots pc lv (v :: st) := by
  obtain ⟨⟨p, l9, e, R9⟩, ⟨s, m, args, below, meth, c⟩, Q, A, D9⟩ := X
  obtain ⟨⟨hx, hb, hml, hown, hts⟩, hok, hKA, hA, h1, h2, h3⟩ := hC
  dsimp only at hx hb hml hown hts hKA hA h1 h2 h3
  subst h1 h2 h3
  have hK := hok.1 _ _ hKA
  intro H locs ls hP hD hS hl
  dsimp only at hP hD hS ⊢
  rcases hv with rfl | ⟨a, rfl⟩
  · exact lv_astore_nN hx hb hd hi hl hn hl9 (fun ls' hl' => k H locs ls' hP hD hS hl')
  · exact lv_astore_n hx hb hd hi hl hn hl9 (fun ls' hl' => k H locs ls' hP hD hS hl')
theorem g_istore_n (hC : gC X l R D cl tys K cc nL Ts own) {q : Fin 4} {i : Nat} {x : Int32} (hd : decode cc pc = .ok (.istore_n q, 1)) (hi : (q : Nat) = i) (hn : i < nL) (hl9 : (i, .int x) :: lv.filter (fun q => !(q.1 == i) && !(q.1 + 1 == i && q.2.category == 2)) = lv') (k : gW X cl nL L f cells slots (pc + 1) lv' st) : gW X cl nL L f cells slots pc lv (.int x :: st) := by
  obtain ⟨⟨p, l9, e, R9⟩, ⟨s, m, args, below, meth, c⟩, Q, A, D9⟩ := X
  obtain ⟨⟨hx, hb, hml, hown, hts⟩, hok, hKA, hA, h1, h2, h3⟩ := hC
  dsimp only at hx hb hml hown hts hKA hA h1 h2 h3
  subst h1 h2 h3
  have hK := hok.1 _ _ hKA
  intro H locs ls hP hD hS hl
  dsimp only at hP hD hS ⊢
  exact lv_istore_n hx hb hd hi hl hn hl9 (fun ls' hl' => k H locs ls' hP hD hS hl')
theorem g_aload (hC : gC X l R D cl tys K cc nL Ts own) {i : Nat} {v : Value} (hd : decode cc pc = .ok (.aload i, 2)) (j : Nat) (hj : lv[j]? = some (i, v)) (hv : v = .null ∨ ∃ a, v = .ref a) (k : gW X cl nL L f cells slots (pc + 2) lv (v :: st)) : gW X cl nL L f cells slots pc lv st := by
  obtain ⟨⟨p, l9, e, R9⟩, ⟨s, m, args, below, meth, c⟩, Q, A, D9⟩ := X
  obtain ⟨⟨hx, hb, hml, hown, hts⟩, hok, hKA, hA, h1, h2, h3⟩ := hC
  dsimp only at hx hb hml hown hts hKA hA h1 h2 h3
  subst h1 h2 h3
  have hK := hok.1 _ _ hKA
  intro H locs ls hP hD hS hl
  dsimp only at hP hD hS ⊢
  rcases hv with rfl | ⟨a, rfl⟩
  · exact lv_aloadN hx hb hd (lv_at hl j hj) (k H locs ls hP hD hS hl)
  · exact lv_aload hx hb hd (lv_at hl j hj) (k H locs ls hP hD hS hl)
theorem g_astore (hC : gC X l R D cl tys K cc nL Ts own) {i : Nat} {v : Value} (hd : decode cc pc = .ok (.astore i, 2)) (hn : i < nL) (hl9 : (i, v) :: lv.filter (fun q => !(q.1 == i) && !(q.1 + 1 == i && q.2.category == 2)) = lv') (hv : v = .null ∨ ∃ a, v = .ref a) (k : gW X cl nL L f cells slots (pc + 2) lv' st) : gW X cl nL L f cells slots pc lv (v :: st) := by
  obtain ⟨⟨p, l9, e, R9⟩, ⟨s, m, args, below, meth, c⟩, Q, A, D9⟩ := X
  obtain ⟨⟨hx, hb, hml, hown, hts⟩, hok, hKA, hA, h1, h2, h3⟩ := hC
  dsimp only at hx hb hml hown hts hKA hA h1 h2 h3
  subst h1 h2 h3
  have hK := hok.1 _ _ hKA
  intro H locs ls hP hD hS hl
  dsimp only at hP hD hS ⊢
  rcases hv with rfl | ⟨a, rfl⟩
  · exact lv_astoreN hx hb hd hl hn hl9 (fun ls' hl' => k H locs ls' hP hD hS hl')
  · exact lv_astore hx hb hd hl hn hl9 (fun ls' hl' => k H locs ls' hP hD hS hl')
theorem g_istore (hC : gC X l R D cl tys K cc nL Ts own) {i : Nat} {x : Int32} (hd : decode cc pc = .ok (.istore i, 2)) (hn : i < nL) (hl9 : (i, .int x) :: lv.filter (fun q => !(q.1 == i) && !(q.1 + 1 == i && q.2.category == 2)) = lv') (k : gW X cl nL L f cells slots (pc + 2) lv' st) : gW X cl nL L f cells slots pc lv (.int x :: st) := by
  obtain ⟨⟨p, l9, e, R9⟩, ⟨s, m, args, below, meth, c⟩, Q, A, D9⟩ := X
  obtain ⟨⟨hx, hb, hml, hown, hts⟩, hok, hKA, hA, h1, h2, h3⟩ := hC
  dsimp only at hx hb hml hown hts hKA hA h1 h2 h3
  subst h1 h2 h3
  have hK := hok.1 _ _ hKA
  intro H locs ls hP hD hS hl
  dsimp only at hP hD hS ⊢
  exact lv_istore hx hb hd hl hn hl9 (fun ls' hl' => k H locs ls' hP hD hS hl')
theorem g_iinc (hC : gC X l R D cl tys K cc nL Ts own) {i : Nat} {n : Int} {x v : Int32} (hd : decode cc pc = .ok (.iinc i n, 3)) (j : Nat) (hj : lv[j]? = some (i, .int x)) (hv : x + Int32.ofInt n = v) (hn : i < nL) (hl9 : (i, .int v) :: lv.filter (fun q => !(q.1 == i) && !(q.1 + 1 == i && q.2.category == 2)) = lv') (k : gW X cl nL L f cells slots (pc + 3) lv' st) : gW X cl nL L f cells slots pc lv st := by
  obtain ⟨⟨p, l9, e, R9⟩, ⟨s, m, args, below, meth, c⟩, Q, A, D9⟩ := X
  obtain ⟨⟨hx, hb, hml, hown, hts⟩, hok, hKA, hA, h1, h2, h3⟩ := hC
  dsimp only at hx hb hml hown hts hKA hA h1 h2 h3
  subst h1 h2 h3
  have hK := hok.1 _ _ hKA
  intro H locs ls hP hD hS hl
  dsimp only at hP hD hS ⊢
  exact lv_iinc hx hb hd hl hj hv hn hl9 (fun ls' hl' => k H locs ls' hP hD hS hl')
theorem g_iadd (hC : gC X l R D cl tys K cc nL Ts own) {x y : Int32} (hd : decode cc pc = .ok (.iadd, 1))  (k : gW X cl nL L f cells slots (pc + 1) lv (.int (x + y) :: st)) : gW X cl nL L f cells slots pc lv (.int y :: .int x :: st) := by
  obtain ⟨⟨p, l9, e, R9⟩, ⟨s, m, args, below, meth, c⟩, Q, A, D9⟩ := X
  obtain ⟨⟨hx, hb, hml, hown, hts⟩, hok, hKA, hA, h1, h2, h3⟩ := hC
  dsimp only at hx hb hml hown hts hKA hA h1 h2 h3
  subst h1 h2 h3
  have hK := hok.1 _ _ hKA
  intro H locs ls hP hD hS hl
  dsimp only at hP hD hS ⊢
  exact lv_iadd hx hb hd  (k H locs ls hP hD hS hl)
theorem g_isub (hC : gC X l R D cl tys K cc nL Ts own) {x y : Int32} (hd : decode cc pc = .ok (.isub, 1))  (k : gW X cl nL L f cells slots (pc + 1) lv (.int (x - y) :: st)) : gW X cl nL L f cells slots pc lv (.int y :: .int x :: st) := by
  obtain ⟨⟨p, l9, e, R9⟩, ⟨s, m, args, below, meth, c⟩, Q, A, D9⟩ := X
  obtain ⟨⟨hx, hb, hml, hown, hts⟩, hok, hKA, hA, h1, h2, h3⟩ := hC
  dsimp only at hx hb hml hown hts hKA hA h1 h2 h3
  subst h1 h2 h3
  have hK := hok.1 _ _ hKA
  intro H locs ls hP hD hS hl
  dsimp only at hP hD hS ⊢
  exact lv_isub hx hb hd  (k H locs ls hP hD hS hl)
theorem g_imul (hC : gC X l R D cl tys K cc nL Ts own) {x y : Int32} (hd : decode cc pc = .ok (.imul, 1))  (k : gW X cl nL L f cells slots (pc + 1) lv (.int (x * y) :: st)) : gW X cl nL L f cells slots pc lv (.int y :: .int x :: st) := by
  obtain ⟨⟨p, l9, e, R9⟩, ⟨s, m, args, below, meth, c⟩, Q, A, D9⟩ := X
  obtain ⟨⟨hx, hb, hml, hown, hts⟩, hok, hKA, hA, h1, h2, h3⟩ := hC
  dsimp only at hx hb hml hown hts hKA hA h1 h2 h3
  subst h1 h2 h3
  have hK := hok.1 _ _ hKA
  intro H locs ls hP hD hS hl
  dsimp only at hP hD hS ⊢
  exact lv_imul hx hb hd  (k H locs ls hP hD hS hl)
theorem g_iand (hC : gC X l R D cl tys K cc nL Ts own) {x y : Int32} (hd : decode cc pc = .ok (.iand, 1))  (k : gW X cl nL L f cells slots (pc + 1) lv (.int (x &&& y) :: st)) : gW X cl nL L f cells slots pc lv (.int y :: .int x :: st) := by
  obtain ⟨⟨p, l9, e, R9⟩, ⟨s, m, args, below, meth, c⟩, Q, A, D9⟩ := X
  obtain ⟨⟨hx, hb, hml, hown, hts⟩, hok, hKA, hA, h1, h2, h3⟩ := hC
  dsimp only at hx hb hml hown hts hKA hA h1 h2 h3
  subst h1 h2 h3
  have hK := hok.1 _ _ hKA
  intro H locs ls hP hD hS hl
  dsimp only at hP hD hS ⊢
  exact lv_iand hx hb hd  (k H locs ls hP hD hS hl)
theorem g_ior (hC : gC X l R D cl tys K cc nL Ts own) {x y : Int32} (hd : decode cc pc = .ok (.ior, 1))  (k : gW X cl nL L f cells slots (pc + 1) lv (.int (x ||| y) :: st)) : gW X cl nL L f cells slots pc lv (.int y :: .int x :: st) := by
  obtain ⟨⟨p, l9, e, R9⟩, ⟨s, m, args, below, meth, c⟩, Q, A, D9⟩ := X
  obtain ⟨⟨hx, hb, hml, hown, hts⟩, hok, hKA, hA, h1, h2, h3⟩ := hC
  dsimp only at hx hb hml hown hts hKA hA h1 h2 h3
  subst h1 h2 h3
  have hK := hok.1 _ _ hKA
  intro H locs ls hP hD hS hl
  dsimp only at hP hD hS ⊢
  exact lv_ior hx hb hd  (k H locs ls hP hD hS hl)
theorem g_ixor (hC : gC X l R D cl tys K cc nL Ts own) {x y : Int32} (hd : decode cc pc = .ok (.ixor, 1))  (k : gW X cl nL L f cells slots (pc + 1) lv (.int (x ^^^ y) :: st)) : gW X cl nL L f cells slots pc lv (.int y :: .int x :: st) := by
  obtain ⟨⟨p, l9, e, R9⟩, ⟨s, m, args, below, meth, c⟩, Q, A, D9⟩ := X
  obtain ⟨⟨hx, hb, hml, hown, hts⟩, hok, hKA, hA, h1, h2, h3⟩ := hC
  dsimp only at hx hb hml hown hts hKA hA h1 h2 h3
  subst h1 h2 h3
  have hK := hok.1 _ _ hKA
  intro H locs ls hP hD hS hl
  dsimp only at hP hD hS ⊢
  exact lv_ixor hx hb hd  (k H locs ls hP hD hS hl)
theorem g_idiv (hC : gC X l R D cl tys K cc nL Ts own) {x y : Int32} (hd : decode cc pc = .ok (.idiv, 1)) (hne : ¬ y = 0) (k : gW X cl nL L f cells slots (pc + 1) lv (.int (x / y) :: st)) : gW X cl nL L f cells slots pc lv (.int y :: .int x :: st) := by
  obtain ⟨⟨p, l9, e, R9⟩, ⟨s, m, args, below, meth, c⟩, Q, A, D9⟩ := X
  obtain ⟨⟨hx, hb, hml, hown, hts⟩, hok, hKA, hA, h1, h2, h3⟩ := hC
  dsimp only at hx hb hml hown hts hKA hA h1 h2 h3
  subst h1 h2 h3
  have hK := hok.1 _ _ hKA
  intro H locs ls hP hD hS hl
  dsimp only at hP hD hS ⊢
  exact lv_idiv hx hb hd hne (k H locs ls hP hD hS hl)
theorem g_ladd (hC : gC X l R D cl tys K cc nL Ts own) {x y : Int64} (hd : decode cc pc = .ok (.ladd, 1))  (k : gW X cl nL L f cells slots (pc + 1) lv (.long (x + y) :: st)) : gW X cl nL L f cells slots pc lv (.long y :: .long x :: st) := by
  obtain ⟨⟨p, l9, e, R9⟩, ⟨s, m, args, below, meth, c⟩, Q, A, D9⟩ := X
  obtain ⟨⟨hx, hb, hml, hown, hts⟩, hok, hKA, hA, h1, h2, h3⟩ := hC
  dsimp only at hx hb hml hown hts hKA hA h1 h2 h3
  subst h1 h2 h3
  have hK := hok.1 _ _ hKA
  intro H locs ls hP hD hS hl
  dsimp only at hP hD hS ⊢
  exact lv_ladd hx hb hd  (k H locs ls hP hD hS hl)
theorem g_ldiv (hC : gC X l R D cl tys K cc nL Ts own) {x y : Int64} (hd : decode cc pc = .ok (.ldiv, 1)) (hne : ¬ y = 0) (k : gW X cl nL L f cells slots (pc + 1) lv (.long (x / y) :: st)) : gW X cl nL L f cells slots pc lv (.long y :: .long x :: st) := by
  obtain ⟨⟨p, l9, e, R9⟩, ⟨s, m, args, below, meth, c⟩, Q, A, D9⟩ := X
  obtain ⟨⟨hx, hb, hml, hown, hts⟩, hok, hKA, hA, h1, h2, h3⟩ := hC
  dsimp only at hx hb hml hown hts hKA hA h1 h2 h3
  subst h1 h2 h3
  have hK := hok.1 _ _ hKA
  intro H locs ls hP hD hS hl
  dsimp only at hP hD hS ⊢
  exact lv_ldiv hx hb hd hne (k H locs ls hP hD hS hl)
theorem g_ishl (hC : gC X l R D cl tys K cc nL Ts own) {x y : Int32} (hd : decode cc pc = .ok (.ishl, 1))  (k : gW X cl nL L f cells slots (pc + 1) lv (.int (x <<< (y &&& 31)) :: st)) : gW X cl nL L f cells slots pc lv (.int y :: .int x :: st) := by
  obtain ⟨⟨p, l9, e, R9⟩, ⟨s, m, args, below, meth, c⟩, Q, A, D9⟩ := X
  obtain ⟨⟨hx, hb, hml, hown, hts⟩, hok, hKA, hA, h1, h2, h3⟩ := hC
  dsimp only at hx hb hml hown hts hKA hA h1 h2 h3
  subst h1 h2 h3
  have hK := hok.1 _ _ hKA
  intro H locs ls hP hD hS hl
  dsimp only at hP hD hS ⊢
  exact lv_ishl hx hb hd  (k H locs ls hP hD hS hl)
theorem g_ishr (hC : gC X l R D cl tys K cc nL Ts own) {x y : Int32} (hd : decode cc pc = .ok (.ishr, 1))  (k : gW X cl nL L f cells slots (pc + 1) lv (.int (x >>> (y &&& 31)) :: st)) : gW X cl nL L f cells slots pc lv (.int y :: .int x :: st) := by
  obtain ⟨⟨p, l9, e, R9⟩, ⟨s, m, args, below, meth, c⟩, Q, A, D9⟩ := X
  obtain ⟨⟨hx, hb, hml, hown, hts⟩, hok, hKA, hA, h1, h2, h3⟩ := hC
  dsimp only at hx hb hml hown hts hKA hA h1 h2 h3
  subst h1 h2 h3
  have hK := hok.1 _ _ hKA
  intro H locs ls hP hD hS hl
  dsimp only at hP hD hS ⊢
  exact lv_ishr hx hb hd  (k H locs ls hP hD hS hl)
theorem g_iushr (hC : gC X l R D cl tys K cc nL Ts own) {x y v : Int32} (hd : decode cc pc = .ok (.iushr, 1)) (hv : (x.toUInt32 >>> (y.toUInt32 &&& Int32.toUInt32 31)).toInt32 = v) (k : gW X cl nL L f cells slots (pc + 1) lv (.int v :: st)) : gW X cl nL L f cells slots pc lv (.int y :: .int x :: st) := by
  obtain ⟨⟨p, l9, e, R9⟩, ⟨s, m, args, below, meth, c⟩, Q, A, D9⟩ := X
  obtain ⟨⟨hx, hb, hml, hown, hts⟩, hok, hKA, hA, h1, h2, h3⟩ := hC
  dsimp only at hx hb hml hown hts hKA hA h1 h2 h3
  subst h1 h2 h3
  have hK := hok.1 _ _ hKA
  intro H locs ls hP hD hS hl
  dsimp only at hP hD hS ⊢
  exact lv_iushr hx hb hd hv (k H locs ls hP hD hS hl)
theorem g_i2l (hC : gC X l R D cl tys K cc nL Ts own) {x : Int32} {v : Int64} (hd : decode cc pc = .ok (.i2l, 1)) (hv : x.toInt64 = v) (k : gW X cl nL L f cells slots (pc + 1) lv (.long v :: st)) : gW X cl nL L f cells slots pc lv (.int x :: st) := by
  obtain ⟨⟨p, l9, e, R9⟩, ⟨s, m, args, below, meth, c⟩, Q, A, D9⟩ := X
  obtain ⟨⟨hx, hb, hml, hown, hts⟩, hok, hKA, hA, h1, h2, h3⟩ := hC
  dsimp only at hx hb hml hown hts hKA hA h1 h2 h3
  subst h1 h2 h3
  have hK := hok.1 _ _ hKA
  intro H locs ls hP hD hS hl
  dsimp only at hP hD hS ⊢
  exact lv_i2l hx hb hd hv (k H locs ls hP hD hS hl)
theorem g_l2i (hC : gC X l R D cl tys K cc nL Ts own) {x : Int64} {v : Int32} (hd : decode cc pc = .ok (.l2i, 1)) (hv : x.toInt32 = v) (k : gW X cl nL L f cells slots (pc + 1) lv (.int v :: st)) : gW X cl nL L f cells slots pc lv (.long x :: st) := by
  obtain ⟨⟨p, l9, e, R9⟩, ⟨s, m, args, below, meth, c⟩, Q, A, D9⟩ := X
  obtain ⟨⟨hx, hb, hml, hown, hts⟩, hok, hKA, hA, h1, h2, h3⟩ := hC
  dsimp only at hx hb hml hown hts hKA hA h1 h2 h3
  subst h1 h2 h3
  have hK := hok.1 _ _ hKA
  intro H locs ls hP hD hS hl
  dsimp only at hP hD hS ⊢
  exact lv_l2i hx hb hd hv (k H locs ls hP hD hS hl)
theorem g_i2b (hC : gC X l R D cl tys K cc nL Ts own) {x v : Int32} (hd : decode cc pc = .ok (.i2b, 1)) (hv : x.toInt8.toInt32 = v) (k : gW X cl nL L f cells slots (pc + 1) lv (.int v :: st)) : gW X cl nL L f cells slots pc lv (.int x :: st) := by
  obtain ⟨⟨p, l9, e, R9⟩, ⟨s, m, args, below, meth, c⟩, Q, A, D9⟩ := X
  obtain ⟨⟨hx, hb, hml, hown, hts⟩, hok, hKA, hA, h1, h2, h3⟩ := hC
  dsimp only at hx hb hml hown hts hKA hA h1 h2 h3
  subst h1 h2 h3
  have hK := hok.1 _ _ hKA
  intro H locs ls hP hD hS hl
  dsimp only at hP hD hS ⊢
  exact lv_i2b hx hb hd hv (k H locs ls hP hD hS hl)
theorem g_i2c (hC : gC X l R D cl tys K cc nL Ts own) {x v : Int32} (hd : decode cc pc = .ok (.i2c, 1)) (hv : (x.toUInt32 % 65536).toInt32 = v) (k : gW X cl nL L f cells slots (pc + 1) lv (.int v :: st)) : gW X cl nL L f cells slots pc lv (.int x :: st) := by
  obtain ⟨⟨p, l9, e, R9⟩, ⟨s, m, args, below, meth, c⟩, Q, A, D9⟩ := X
  obtain ⟨⟨hx, hb, hml, hown, hts⟩, hok, hKA, hA, h1, h2, h3⟩ := hC
  dsimp only at hx hb hml hown hts hKA hA h1 h2 h3
  subst h1 h2 h3
  have hK := hok.1 _ _ hKA
  intro H locs ls hP hD hS hl
  dsimp only at hP hD hS ⊢
  exact lv_i2c hx hb hd hv (k H locs ls hP hD hS hl)
theorem g_dup (hC : gC X l R D cl tys K cc nL Ts own) {v : Value} (hd : decode cc pc = .ok (.dup, 1)) (hv : v.category = 1) (k : gW X cl nL L f cells slots (pc + 1) lv (v :: v :: st)) : gW X cl nL L f cells slots pc lv (v :: st) := by
  obtain ⟨⟨p, l9, e, R9⟩, ⟨s, m, args, below, meth, c⟩, Q, A, D9⟩ := X
  obtain ⟨⟨hx, hb, hml, hown, hts⟩, hok, hKA, hA, h1, h2, h3⟩ := hC
  dsimp only at hx hb hml hown hts hKA hA h1 h2 h3
  subst h1 h2 h3
  have hK := hok.1 _ _ hKA
  intro H locs ls hP hD hS hl
  dsimp only at hP hD hS ⊢
  exact lv_dup hx hb hd hv (k H locs ls hP hD hS hl)
theorem g_pop (hC : gC X l R D cl tys K cc nL Ts own) {v : Value} (hd : decode cc pc = .ok (.pop, 1)) (hv : v.category = 1) (k : gW X cl nL L f cells slots (pc + 1) lv st) : gW X cl nL L f cells slots pc lv (v :: st) := by
  obtain ⟨⟨p, l9, e, R9⟩, ⟨s, m, args, below, meth, c⟩, Q, A, D9⟩ := X
  obtain ⟨⟨hx, hb, hml, hown, hts⟩, hok, hKA, hA, h1, h2, h3⟩ := hC
  dsimp only at hx hb hml hown hts hKA hA h1 h2 h3
  subst h1 h2 h3
  have hK := hok.1 _ _ hKA
  intro H locs ls hP hD hS hl
  dsimp only at hP hD hS ⊢
  exact lv_pop hx hb hd hv (k H locs ls hP hD hS hl)
theorem g_dup2 (hC : gC X l R D cl tys K cc nL Ts own) {v w : Value} (hd : decode cc pc = .ok (.dup2, 1)) (hv : v.category = 1) (hw : w.category = 1) (k : gW X cl nL L f cells slots (pc + 1) lv (v :: w :: v :: w :: st)) : gW X cl nL L f cells slots pc lv (v :: w :: st) := by
  obtain ⟨⟨p, l9, e, R9⟩, ⟨s, m, args, below, meth, c⟩, Q, A, D9⟩ := X
  obtain ⟨⟨hx, hb, hml, hown, hts⟩, hok, hKA, hA, h1, h2, h3⟩ := hC
  dsimp only at hx hb hml hown hts hKA hA h1 h2 h3
  subst h1 h2 h3
  have hK := hok.1 _ _ hKA
  intro H locs ls hP hD hS hl
  dsimp only at hP hD hS ⊢
  exact lv_dup2_11 hx hb hd hv hw (k H locs ls hP hD hS hl)
theorem g_if_eq (hC : gC X l R D cl tys K cc nL Ts own) {x : Int32} {off : Int} {tgt : Nat} (hd : decode cc pc = .ok (.ifCond .eq off, 3)) (ht : (pc : Int) + off = (tgt : Int)) (kt : x = 0 → gW X cl nL L f cells slots tgt lv st) (kf : ¬ x = 0 → gW X cl nL L f cells slots (pc + 3) lv st) : gW X cl nL L f cells slots pc lv (.int x :: st) := by
  obtain ⟨⟨p, l9, e, R9⟩, ⟨s, m, args, below, meth, c⟩, Q, A, D9⟩ := X
  obtain ⟨⟨hx, hb, hml, hown, hts⟩, hok, hKA, hA, h1, h2, h3⟩ := hC
  dsimp only at hx hb hml hown hts hKA hA h1 h2 h3
  subst h1 h2 h3
  have hK := hok.1 _ _ hKA
  intro H locs ls hP hD hS hl
  dsimp only at hP hD hS ⊢
  exact lv_if_eq hx hb hd ht (fun h => kt h H locs ls hP hD hS hl) (fun h => kf h H locs ls hP hD hS hl)
theorem g_if_ne (hC : gC X l R D cl tys K cc nL Ts own) {x : Int32} {off : Int} {tgt : Nat} (hd : decode cc pc = .ok (.ifCond .ne off, 3)) (ht : (pc : Int) + off = (tgt : Int)) (kt : ¬ x = 0 → gW X cl nL L f cells slots tgt lv st) (kf : x = 0 → gW X cl nL L f cells slots (pc + 3) lv st) : gW X cl nL L f cells slots pc lv (.int x :: st) := by
  obtain ⟨⟨p, l9, e, R9⟩, ⟨s, m, args, below, meth, c⟩, Q, A, D9⟩ := X
  obtain ⟨⟨hx, hb, hml, hown, hts⟩, hok, hKA, hA, h1, h2, h3⟩ := hC
  dsimp only at hx hb hml hown hts hKA hA h1 h2 h3
  subst h1 h2 h3
  have hK := hok.1 _ _ hKA
  intro H locs ls hP hD hS hl
  dsimp only at hP hD hS ⊢
  exact lv_if_ne hx hb hd ht (fun h => kt h H locs ls hP hD hS hl) (fun h => kf h H locs ls hP hD hS hl)
theorem g_if_lt (hC : gC X l R D cl tys K cc nL Ts own) {x : Int32} {off : Int} {tgt : Nat} (hd : decode cc pc = .ok (.ifCond .lt off, 3)) (ht : (pc : Int) + off = (tgt : Int)) (kt : x < 0 → gW X cl nL L f cells slots tgt lv st) (kf : ¬ x < 0 → gW X cl nL L f cells slots (pc + 3) lv st) : gW X cl nL L f cells slots pc lv (.int x :: st) := by
  obtain ⟨⟨p, l9, e, R9⟩, ⟨s, m, args, below, meth, c⟩, Q, A, D9⟩ := X
  obtain ⟨⟨hx, hb, hml, hown, hts⟩, hok, hKA, hA, h1, h2, h3⟩ := hC
  dsimp only at hx hb hml hown hts hKA hA h1 h2 h3
  subst h1 h2 h3
  have hK := hok.1 _ _ hKA
  intro H locs ls hP hD hS hl
  dsimp only at hP hD hS ⊢
  exact lv_if_lt hx hb hd ht (fun h => kt h H locs ls hP hD hS hl) (fun h => kf h H locs ls hP hD hS hl)
theorem g_if_ge (hC : gC X l R D cl tys K cc nL Ts own) {x : Int32} {off : Int} {tgt : Nat} (hd : decode cc pc = .ok (.ifCond .ge off, 3)) (ht : (pc : Int) + off = (tgt : Int)) (kt : 0 ≤ x → gW X cl nL L f cells slots tgt lv st) (kf : ¬ 0 ≤ x → gW X cl nL L f cells slots (pc + 3) lv st) : gW X cl nL L f cells slots pc lv (.int x :: st) := by
  obtain ⟨⟨p, l9, e, R9⟩, ⟨s, m, args, below, meth, c⟩, Q, A, D9⟩ := X
  obtain ⟨⟨hx, hb, hml, hown, hts⟩, hok, hKA, hA, h1, h2, h3⟩ := hC
  dsimp only at hx hb hml hown hts hKA hA h1 h2 h3
  subst h1 h2 h3
  have hK := hok.1 _ _ hKA
  intro H locs ls hP hD hS hl
  dsimp only at hP hD hS ⊢
  exact lv_if_ge hx hb hd ht (fun h => kt h H locs ls hP hD hS hl) (fun h => kf h H locs ls hP hD hS hl)
theorem g_if_gt (hC : gC X l R D cl tys K cc nL Ts own) {x : Int32} {off : Int} {tgt : Nat} (hd : decode cc pc = .ok (.ifCond .gt off, 3)) (ht : (pc : Int) + off = (tgt : Int)) (kt : 0 < x → gW X cl nL L f cells slots tgt lv st) (kf : ¬ 0 < x → gW X cl nL L f cells slots (pc + 3) lv st) : gW X cl nL L f cells slots pc lv (.int x :: st) := by
  obtain ⟨⟨p, l9, e, R9⟩, ⟨s, m, args, below, meth, c⟩, Q, A, D9⟩ := X
  obtain ⟨⟨hx, hb, hml, hown, hts⟩, hok, hKA, hA, h1, h2, h3⟩ := hC
  dsimp only at hx hb hml hown hts hKA hA h1 h2 h3
  subst h1 h2 h3
  have hK := hok.1 _ _ hKA
  intro H locs ls hP hD hS hl
  dsimp only at hP hD hS ⊢
  exact lv_if_gt hx hb hd ht (fun h => kt h H locs ls hP hD hS hl) (fun h => kf h H locs ls hP hD hS hl)
theorem g_if_le (hC : gC X l R D cl tys K cc nL Ts own) {x : Int32} {off : Int} {tgt : Nat} (hd : decode cc pc = .ok (.ifCond .le off, 3)) (ht : (pc : Int) + off = (tgt : Int)) (kt : x ≤ 0 → gW X cl nL L f cells slots tgt lv st) (kf : ¬ x ≤ 0 → gW X cl nL L f cells slots (pc + 3) lv st) : gW X cl nL L f cells slots pc lv (.int x :: st) := by
  obtain ⟨⟨p, l9, e, R9⟩, ⟨s, m, args, below, meth, c⟩, Q, A, D9⟩ := X
  obtain ⟨⟨hx, hb, hml, hown, hts⟩, hok, hKA, hA, h1, h2, h3⟩ := hC
  dsimp only at hx hb hml hown hts hKA hA h1 h2 h3
  subst h1 h2 h3
  have hK := hok.1 _ _ hKA
  intro H locs ls hP hD hS hl
  dsimp only at hP hD hS ⊢
  exact lv_if_le hx hb hd ht (fun h => kt h H locs ls hP hD hS hl) (fun h => kf h H locs ls hP hD hS hl)
theorem g_icmp_eq (hC : gC X l R D cl tys K cc nL Ts own) {x y : Int32} {off : Int} {tgt : Nat} (hd : decode cc pc = .ok (.if_icmp .eq off, 3)) (ht : (pc : Int) + off = (tgt : Int)) (kt : x = y → gW X cl nL L f cells slots tgt lv st) (kf : ¬ x = y → gW X cl nL L f cells slots (pc + 3) lv st) : gW X cl nL L f cells slots pc lv (.int y :: .int x :: st) := by
  obtain ⟨⟨p, l9, e, R9⟩, ⟨s, m, args, below, meth, c⟩, Q, A, D9⟩ := X
  obtain ⟨⟨hx, hb, hml, hown, hts⟩, hok, hKA, hA, h1, h2, h3⟩ := hC
  dsimp only at hx hb hml hown hts hKA hA h1 h2 h3
  subst h1 h2 h3
  have hK := hok.1 _ _ hKA
  intro H locs ls hP hD hS hl
  dsimp only at hP hD hS ⊢
  exact lv_icmp_eq hx hb hd ht (fun h => kt h H locs ls hP hD hS hl) (fun h => kf h H locs ls hP hD hS hl)
theorem g_icmp_ne (hC : gC X l R D cl tys K cc nL Ts own) {x y : Int32} {off : Int} {tgt : Nat} (hd : decode cc pc = .ok (.if_icmp .ne off, 3)) (ht : (pc : Int) + off = (tgt : Int)) (kt : ¬ x = y → gW X cl nL L f cells slots tgt lv st) (kf : x = y → gW X cl nL L f cells slots (pc + 3) lv st) : gW X cl nL L f cells slots pc lv (.int y :: .int x :: st) := by
  obtain ⟨⟨p, l9, e, R9⟩, ⟨s, m, args, below, meth, c⟩, Q, A, D9⟩ := X
  obtain ⟨⟨hx, hb, hml, hown, hts⟩, hok, hKA, hA, h1, h2, h3⟩ := hC
  dsimp only at hx hb hml hown hts hKA hA h1 h2 h3
  subst h1 h2 h3
  have hK := hok.1 _ _ hKA
  intro H locs ls hP hD hS hl
  dsimp only at hP hD hS ⊢
  exact lv_icmp_ne hx hb hd ht (fun h => kt h H locs ls hP hD hS hl) (fun h => kf h H locs ls hP hD hS hl)
theorem g_icmp_lt (hC : gC X l R D cl tys K cc nL Ts own) {x y : Int32} {off : Int} {tgt : Nat} (hd : decode cc pc = .ok (.if_icmp .lt off, 3)) (ht : (pc : Int) + off = (tgt : Int)) (kt : x < y → gW X cl nL L f cells slots tgt lv st) (kf : ¬ x < y → gW X cl nL L f cells slots (pc + 3) lv st) : gW X cl nL L f cells slots pc lv (.int y :: .int x :: st) := by
  obtain ⟨⟨p, l9, e, R9⟩, ⟨s, m, args, below, meth, c⟩, Q, A, D9⟩ := X
  obtain ⟨⟨hx, hb, hml, hown, hts⟩, hok, hKA, hA, h1, h2, h3⟩ := hC
  dsimp only at hx hb hml hown hts hKA hA h1 h2 h3
  subst h1 h2 h3
  have hK := hok.1 _ _ hKA
  intro H locs ls hP hD hS hl
  dsimp only at hP hD hS ⊢
  exact lv_icmp_lt hx hb hd ht (fun h => kt h H locs ls hP hD hS hl) (fun h => kf h H locs ls hP hD hS hl)
theorem g_icmp_ge (hC : gC X l R D cl tys K cc nL Ts own) {x y : Int32} {off : Int} {tgt : Nat} (hd : decode cc pc = .ok (.if_icmp .ge off, 3)) (ht : (pc : Int) + off = (tgt : Int)) (kt : y ≤ x → gW X cl nL L f cells slots tgt lv st) (kf : ¬ y ≤ x → gW X cl nL L f cells slots (pc + 3) lv st) : gW X cl nL L f cells slots pc lv (.int y :: .int x :: st) := by
  obtain ⟨⟨p, l9, e, R9⟩, ⟨s, m, args, below, meth, c⟩, Q, A, D9⟩ := X
  obtain ⟨⟨hx, hb, hml, hown, hts⟩, hok, hKA, hA, h1, h2, h3⟩ := hC
  dsimp only at hx hb hml hown hts hKA hA h1 h2 h3
  subst h1 h2 h3
  have hK := hok.1 _ _ hKA
  intro H locs ls hP hD hS hl
  dsimp only at hP hD hS ⊢
  exact lv_icmp_ge hx hb hd ht (fun h => kt h H locs ls hP hD hS hl) (fun h => kf h H locs ls hP hD hS hl)
theorem g_icmp_gt (hC : gC X l R D cl tys K cc nL Ts own) {x y : Int32} {off : Int} {tgt : Nat} (hd : decode cc pc = .ok (.if_icmp .gt off, 3)) (ht : (pc : Int) + off = (tgt : Int)) (kt : y < x → gW X cl nL L f cells slots tgt lv st) (kf : ¬ y < x → gW X cl nL L f cells slots (pc + 3) lv st) : gW X cl nL L f cells slots pc lv (.int y :: .int x :: st) := by
  obtain ⟨⟨p, l9, e, R9⟩, ⟨s, m, args, below, meth, c⟩, Q, A, D9⟩ := X
  obtain ⟨⟨hx, hb, hml, hown, hts⟩, hok, hKA, hA, h1, h2, h3⟩ := hC
  dsimp only at hx hb hml hown hts hKA hA h1 h2 h3
  subst h1 h2 h3
  have hK := hok.1 _ _ hKA
  intro H locs ls hP hD hS hl
  dsimp only at hP hD hS ⊢
  exact lv_icmp_gt hx hb hd ht (fun h => kt h H locs ls hP hD hS hl) (fun h => kf h H locs ls hP hD hS hl)
theorem g_icmp_le (hC : gC X l R D cl tys K cc nL Ts own) {x y : Int32} {off : Int} {tgt : Nat} (hd : decode cc pc = .ok (.if_icmp .le off, 3)) (ht : (pc : Int) + off = (tgt : Int)) (kt : x ≤ y → gW X cl nL L f cells slots tgt lv st) (kf : ¬ x ≤ y → gW X cl nL L f cells slots (pc + 3) lv st) : gW X cl nL L f cells slots pc lv (.int y :: .int x :: st) := by
  obtain ⟨⟨p, l9, e, R9⟩, ⟨s, m, args, below, meth, c⟩, Q, A, D9⟩ := X
  obtain ⟨⟨hx, hb, hml, hown, hts⟩, hok, hKA, hA, h1, h2, h3⟩ := hC
  dsimp only at hx hb hml hown hts hKA hA h1 h2 h3
  subst h1 h2 h3
  have hK := hok.1 _ _ hKA
  intro H locs ls hP hD hS hl
  dsimp only at hP hD hS ⊢
  exact lv_icmp_le hx hb hd ht (fun h => kt h H locs ls hP hD hS hl) (fun h => kf h H locs ls hP hD hS hl)
theorem g_acmp_eq (hC : gC X l R D cl tys K cc nL Ts own) {rx ry : Option Nat} {off : Int} {tgt : Nat} (hd : decode cc pc = .ok (.if_acmp .eq off, 3)) (ht : (pc : Int) + off = (tgt : Int)) (kt : rx = ry → gW X cl nL L f cells slots tgt lv st) (kf : ¬ rx = ry → gW X cl nL L f cells slots (pc + 3) lv st) : gW X cl nL L f cells slots pc lv (va_rf ry :: va_rf rx :: st) := by
  obtain ⟨⟨p, l9, e, R9⟩, ⟨s, m, args, below, meth, c⟩, Q, A, D9⟩ := X
  obtain ⟨⟨hx, hb, hml, hown, hts⟩, hok, hKA, hA, h1, h2, h3⟩ := hC
  dsimp only at hx hb hml hown hts hKA hA h1 h2 h3
  subst h1 h2 h3
  have hK := hok.1 _ _ hKA
  intro H locs ls hP hD hS hl
  dsimp only at hP hD hS ⊢
  exact lv_acmp_eq hx hb hd ht (fun h => kt h H locs ls hP hD hS hl) (fun h => kf h H locs ls hP hD hS hl)
theorem g_acmp_ne (hC : gC X l R D cl tys K cc nL Ts own) {rx ry : Option Nat} {off : Int} {tgt : Nat} (hd : decode cc pc = .ok (.if_acmp .ne off, 3)) (ht : (pc : Int) + off = (tgt : Int)) (kt : ¬ rx = ry → gW X cl nL L f cells slots tgt lv st) (kf : rx = ry → gW X cl nL L f cells slots (pc + 3) lv st) : gW X cl nL L f cells slots pc lv (va_rf ry :: va_rf rx :: st) := by
  obtain ⟨⟨p, l9, e, R9⟩, ⟨s, m, args, below, meth, c⟩, Q, A, D9⟩ := X
  obtain ⟨⟨hx, hb, hml, hown, hts⟩, hok, hKA, hA, h1, h2, h3⟩ := hC
  dsimp only at hx hb hml hown hts hKA hA h1 h2 h3
  subst h1 h2 h3
  have hK := hok.1 _ _ hKA
  intro H locs ls hP hD hS hl
  dsimp only at hP hD hS ⊢
  exact lv_acmp_ne hx hb hd ht (fun h => kt h H locs ls hP hD hS hl) (fun h => kf h H locs ls hP hD hS hl)
theorem g_ifnull (hC : gC X l R D cl tys K cc nL Ts own) {o : Option Nat} {off : Int} {tgt : Nat} (hd : decode cc pc = .ok (.ifnull off, 3)) (ht : (pc : Int) + off = (tgt : Int)) (kt : o = none → gW X cl nL L f cells slots tgt lv st) (kf : ∀ a, o = some a → gW X cl nL L f cells slots (pc + 3) lv st) : gW X cl nL L f cells slots pc lv (va_rf o :: st) := by
  obtain ⟨⟨p, l9, e, R9⟩, ⟨s, m, args, below, meth, c⟩, Q, A, D9⟩ := X
  obtain ⟨⟨hx, hb, hml, hown, hts⟩, hok, hKA, hA, h1, h2, h3⟩ := hC
  dsimp only at hx hb hml hown hts hKA hA h1 h2 h3
  subst h1 h2 h3
  have hK := hok.1 _ _ hKA
  intro H locs ls hP hD hS hl
  dsimp only at hP hD hS ⊢
  cases o with
  | none => exact lv_ifnullN hx hb hd ht (kt rfl H locs ls hP hD hS hl)
  | some a => exact lv_ifnull hx hb hd (kf a rfl H locs ls hP hD hS hl)
theorem g_ifnonnull (hC : gC X l R D cl tys K cc nL Ts own) {o : Option Nat} {off : Int} {tgt : Nat} (hd : decode cc pc = .ok (.ifnonnull off, 3)) (ht : (pc : Int) + off = (tgt : Int)) (kt : ∀ a, o = some a → gW X cl nL L f cells slots tgt lv st) (kf : o = none → gW X cl nL L f cells slots (pc + 3) lv st) : gW X cl nL L f cells slots pc lv (va_rf o :: st) := by
  obtain ⟨⟨p, l9, e, R9⟩, ⟨s, m, args, below, meth, c⟩, Q, A, D9⟩ := X
  obtain ⟨⟨hx, hb, hml, hown, hts⟩, hok, hKA, hA, h1, h2, h3⟩ := hC
  dsimp only at hx hb hml hown hts hKA hA h1 h2 h3
  subst h1 h2 h3
  have hK := hok.1 _ _ hKA
  intro H locs ls hP hD hS hl
  dsimp only at hP hD hS ⊢
  cases o with
  | none => exact lv_ifnonnullN hx hb hd (kf rfl H locs ls hP hD hS hl)
  | some a => exact lv_ifnonnull hx hb hd ht (kt a rfl H locs ls hP hD hS hl)
theorem g_goto (hC : gC X l R D cl tys K cc nL Ts own) {off : Int} {tgt : Nat} (hd : decode cc pc = .ok (.goto off, 3)) (ht : (pc : Int) + off = (tgt : Int)) (k : gW X cl nL L f cells slots tgt lv st) : gW X cl nL L f cells slots pc lv st := by
  obtain ⟨⟨p, l9, e, R9⟩, ⟨s, m, args, below, meth, c⟩, Q, A, D9⟩ := X
  obtain ⟨⟨hx, hb, hml, hown, hts⟩, hok, hKA, hA, h1, h2, h3⟩ := hC
  dsimp only at hx hb hml hown hts hKA hA h1 h2 h3
  subst h1 h2 h3
  have hK := hok.1 _ _ hKA
  intro H locs ls hP hD hS hl
  dsimp only at hP hD hS ⊢
  exact lv_goto hx hb hd ht (k H locs ls hP hD hS hl)
theorem g_tableIn (hC : gC X l R D cl tys K cc nL Ts own) {dflt lo hi : Int} {offs : Array Int} {len : Nat} {x : Int32} {off : Int} {tgt : Nat} (hd : decode cc pc = .ok (.tableswitch dflt lo hi offs, len)) (h1 : ¬ x.toInt < lo) (h2 : ¬ hi < x.toInt) (ho : offs[(x.toInt - lo).toNat]? = some off) (ht : (pc : Int) + off = (tgt : Int)) (k : gW X cl nL L f cells slots tgt lv st) : gW X cl nL L f cells slots pc lv (.int x :: st) := by
  obtain ⟨⟨p, l9, e, R9⟩, ⟨s, m, args, below, meth, c⟩, Q, A, D9⟩ := X
  obtain ⟨⟨hx, hb, hml, hown, hts⟩, hok, hKA, hA, h1, h2, h3⟩ := hC
  dsimp only at hx hb hml hown hts hKA hA h1 h2 h3
  subst h1 h2 h3
  have hK := hok.1 _ _ hKA
  intro H locs ls hP hD hS hl
  dsimp only at hP hD hS ⊢
  exact lv_tableIn hx hb hd h1 h2 ho ht (k H locs ls hP hD hS hl)
theorem g_tableOut (hC : gC X l R D cl tys K cc nL Ts own) {dflt lo hi : Int} {offs : Array Int} {len : Nat} {x : Int32} {tgt : Nat} (hd : decode cc pc = .ok (.tableswitch dflt lo hi offs, len)) (h : x.toInt < lo ∨ hi < x.toInt) (ht : (pc : Int) + dflt = (tgt : Int)) (k : gW X cl nL L f cells slots tgt lv st) : gW X cl nL L f cells slots pc lv (.int x :: st) := by
  obtain ⟨⟨p, l9, e, R9⟩, ⟨s, m, args, below, meth, c⟩, Q, A, D9⟩ := X
  obtain ⟨⟨hx, hb, hml, hown, hts⟩, hok, hKA, hA, h1, h2, h3⟩ := hC
  dsimp only at hx hb hml hown hts hKA hA h1 h2 h3
  subst h1 h2 h3
  have hK := hok.1 _ _ hKA
  intro H locs ls hP hD hS hl
  dsimp only at hP hD hS ⊢
  exact lv_tableOut hx hb hd h ht (k H locs ls hP hD hS hl)
theorem g_ldc (hC : gC X l R D cl tys K cc nL Ts own) {index : Nat} {v : Int32} (hc : Jvm.Cond.constant own index v ∈ Ts) (hd : decode cc pc = .ok (.ldc index, 2)) (k : gW X cl nL L f cells slots (pc + 2) lv (.int v :: st)) : gW X cl nL L f cells slots pc lv st := by
  obtain ⟨⟨p, l9, e, R9⟩, ⟨s, m, args, below, meth, c⟩, Q, A, D9⟩ := X
  obtain ⟨⟨hx, hb, hml, hown, hts⟩, hok, hKA, hA, h1, h2, h3⟩ := hC
  dsimp only at hx hb hml hown hts hKA hA h1 h2 h3
  subst h1 h2 h3
  have hK := hok.1 _ _ hKA
  intro H locs ls hP hD hS hl
  dsimp only at hP hD hS ⊢
  exact lv_ldc hx hb hown (hts _ hc) hd (k H locs ls hP hD hS hl)
theorem g_ldc2 (hC : gC X l R D cl tys K cc nL Ts own) {index : Nat} {v : Int64} (hc : Jvm.Cond.constantLong own index v ∈ Ts) (hd : decode cc pc = .ok (.ldc2_w index, 3)) (k : gW X cl nL L f cells slots (pc + 3) lv (.long v :: st)) : gW X cl nL L f cells slots pc lv st := by
  obtain ⟨⟨p, l9, e, R9⟩, ⟨s, m, args, below, meth, c⟩, Q, A, D9⟩ := X
  obtain ⟨⟨hx, hb, hml, hown, hts⟩, hok, hKA, hA, h1, h2, h3⟩ := hC
  dsimp only at hx hb hml hown hts hKA hA h1 h2 h3
  subst h1 h2 h3
  have hK := hok.1 _ _ hKA
  intro H locs ls hP hD hS hl
  dsimp only at hP hD hS ⊢
  exact lv_ldc2 hx hb hown (hts _ hc) hd (k H locs ls hP hD hS hl)
theorem g_lcmp (hC : gC X l R D cl tys K cc nL Ts own) {x y : Int64} (hd : decode cc pc = .ok (.lcmp, 1)) (k : gW X cl nL L f cells slots (pc + 1) lv (.int (lg_cmp x y) :: st)) : gW X cl nL L f cells slots pc lv (.long y :: .long x :: st) := by
  obtain ⟨⟨p, l9, e, R9⟩, ⟨s, m, args, below, meth, c⟩, Q, A, D9⟩ := X
  obtain ⟨⟨hx, hb, hml, hown, hts⟩, hok, hKA, hA, h1, h2, h3⟩ := hC
  dsimp only at hx hb hml hown hts hKA hA h1 h2 h3
  subst h1 h2 h3
  have hK := hok.1 _ _ hKA
  intro H locs ls hP hD hS hl
  dsimp only at hP hD hS ⊢
  exact W.lcmp hx hb hd (k H locs ls hP hD hS hl)
theorem g_get (hC : gC X l R D cl tys K cc nL Ts own) {ref C : String} {T : u_T} {N ci index : Nat} {a : Nat} {fs : List Value} (hin : ∀ w ∈ u_ws C T N, w ∈ Ts) (hc : cl[ci]? = some (C, T, N)) (hL : a ∈ L) (hf : f a = .inr (ci, fs)) (i : Nat) (hi : i < N) (hlink : Cond.fieldLink own index ref (T i).2.1 (T i).2.2.1 ∈ Ts) (hsame : ref = (T i).1 ∨ Cond.sameField ref (T i).1 (T i).2.1 (T i).2.2.1 ∈ Ts) {v : Value} (hv : fs[i]? = some v) (hd : decode cc pc = .ok (.getfield index, 3)) (k : gW X cl nL L f cells slots (pc + 3) lv (v :: st)) : gW X cl nL L f cells slots pc lv (.ref a :: st) := by
  obtain ⟨⟨p, l9, e, R9⟩, ⟨s, m, args, below, meth, c⟩, Q, A, D9⟩ := X
  obtain ⟨⟨hx, hb, hml, hown, hts⟩, hok, hKA, hA, h1, h2, h3⟩ := hC
  dsimp only at hx hb hml hown hts hKA hA h1 h2 h3
  subst h1 h2 h3
  have hK := hok.1 _ _ hKA
  intro H locs ls hP hD hS hl
  dsimp only at hP hD hS ⊢
  obtain ⟨q0, he⟩ := pl_at hL hf
  exact va_get hx hb hts hin hown hK hP q0 he hc i hi (hts _ hlink) (fun x9 h9 => hsame.elim (fun e9 => by rw [e9]; exact h9) (fun e9 => u_same (hts _ e9) x9 h9)) hv hd (k H locs ls hP hD hS hl)
theorem g_put (hC : gC X l R D cl tys K cc nL Ts own) {ref C : String} {T : u_T} {N ci index : Nat} {a : Nat} {fs : List Value} (hin : ∀ w ∈ u_ws C T N, w ∈ Ts) (ty0 : Nat → FieldType) (hty : ∀ k, k < N → parseFieldDescriptor (T k).2.2.1 = some (ty0 k)) (hnm : ∀ a, a < N → ∀ b, b < N → a ≠ b → (T a).2.1 ≠ (T b).2.1) (hc : cl[ci]? = some (C, T, N)) (hL : a ∈ L) (hf : f a = .inr (ci, fs)) (i : Nat) (hi : i < N) (hlink : Cond.fieldLink own index ref (T i).2.1 (T i).2.2.1 ∈ Ts) (hsame : ref = (T i).1 ∨ Cond.sameField ref (T i).1 (T i).2.1 (T i).2.2.1 ∈ Ts) (hfin : (T i).2.2.2 = false) {ty : FieldType} {v : Value} (hpd : parseFieldDescriptor (T i).2.2.1 = some ty) (hn : narrow ty v = v) (hfit : fits ty v = true) (hln : i < fs.length) (hd : decode cc pc = .ok (.putfield index, 3)) (k : gW X cl nL L (va_up f a (.inr (ci, fs.set i v))) cells slots (pc + 3) lv st) : gW X cl nL L f cells slots pc lv (v :: .ref a :: st) := by
  obtain ⟨⟨p, l9, e, R9⟩, ⟨s, m, args, below, meth, c⟩, Q, A, D9⟩ := X
  obtain ⟨⟨hx, hb, hml, hown, hts⟩, hok, hKA, hA, h1, h2, h3⟩ := hC
  dsimp only at hx hb hml hown hts hKA hA h1 h2 h3
  subst h1 h2 h3
  have hK := hok.1 _ _ hKA
  intro H locs ls hP hD hS hl
  dsimp only at hP hD hS ⊢
  obtain ⟨q0, he⟩ := pl_at hL hf
  have e0 := pl_set (e := .inr (ci, fs.set i v)) hD hL hf he
  refine va_put hx hb hts hin ty0 hty hnm hown hK hP hD hS q0 he hc i hi (hts _ hlink) (fun x9 h9 => hsame.elim (fun e9 => by rw [e9]; exact h9) (fun e9 => u_same (hts _ e9) x9 h9)) hfin hpd hn hfit hln hd (fun H1 locs1 hP1 hD1 hS1 => ?_)
  rw [e0] at hP1 hD1
  exact k H1 locs1 ls hP1 hD1 hS1 hl
theorem g_getN (hC : gC X l R D cl tys K cc nL Ts own) {ref C : String} {T : u_T} {N ci index : Nat} {a : Nat} {fs : List Value} {host : String} (hin : ∀ w ∈ u_ws C T N, w ∈ Ts) (hc : cl[ci]? = some (C, T, N)) (hL : a ∈ L) (hf : f a = .inr (ci, fs)) (i : Nat) (hi : i < N) (hlink : ∀ A s, K A s → va_Nw (.fieldLinkNest own index ref (T i).2.1 (T i).2.2.1 host) s) (hsame : ref = (T i).1 ∨ Cond.sameField ref (T i).1 (T i).2.1 (T i).2.2.1 ∈ Ts) {v : Value} (hv : fs[i]? = some v) (hd : decode cc pc = .ok (.getfield index, 3)) (k : gW X cl nL L f cells slots (pc + 3) lv (v :: st)) : gW X cl nL L f cells slots pc lv (.ref a :: st) := by
  obtain ⟨⟨p, l9, e, R9⟩, ⟨s, m, args, below, meth, c⟩, Q, A, D9⟩ := X
  obtain ⟨⟨hx, hb, hml, hown, hts⟩, hok, hKA, hA, h1, h2, h3⟩ := hC
  dsimp only at hx hb hml hown hts hKA hA h1 h2 h3
  subst h1 h2 h3
  have hK := hok.1 _ _ hKA
  intro H locs ls hP hD hS hl
  dsimp only at hP hD hS ⊢
  obtain ⟨q0, he⟩ := pl_at hL hf
  exact va_getN hx hb hts hin hown hK hP q0 he hc i hi (va_Nw.use rfl (hlink _ _ hKA)) (fun x9 h9 => hsame.elim (fun e9 => by rw [e9]; exact h9) (fun e9 => u_same (hts _ e9) x9 h9)) hv hd (k H locs ls hP hD hS hl)
theorem g_putN (hC : gC X l R D cl tys K cc nL Ts own) {ref C : String} {T : u_T} {N ci index : Nat} {a : Nat} {fs : List Value} {host : String} (hin : ∀ w ∈ u_ws C T N, w ∈ Ts) (ty0 : Nat → FieldType) (hty : ∀ k, k < N → parseFieldDescriptor (T k).2.2.1 = some (ty0 k)) (hnm : ∀ a, a < N → ∀ b, b < N → a ≠ b → (T a).2.1 ≠ (T b).2.1) (hc : cl[ci]? = some (C, T, N)) (hL : a ∈ L) (hf : f a = .inr (ci, fs)) (i : Nat) (hi : i < N) (hlink : ∀ A s, K A s → va_Nw (.fieldLinkNest own index ref (T i).2.1 (T i).2.2.1 host) s) (hsame : ref = (T i).1 ∨ Cond.sameField ref (T i).1 (T i).2.1 (T i).2.2.1 ∈ Ts) (hfin : (T i).2.2.2 = false) {ty : FieldType} {v : Value} (hpd : parseFieldDescriptor (T i).2.2.1 = some ty) (hn : narrow ty v = v) (hfit : fits ty v = true) (hln : i < fs.length) (hd : decode cc pc = .ok (.putfield index, 3)) (k : gW X cl nL L (va_up f a (.inr (ci, fs.set i v))) cells slots (pc + 3) lv st) : gW X cl nL L f cells slots pc lv (v :: .ref a :: st) := by
  obtain ⟨⟨p, l9, e, R9⟩, ⟨s, m, args, below, meth, c⟩, Q, A, D9⟩ := X
  obtain ⟨⟨hx, hb, hml, hown, hts⟩, hok, hKA, hA, h1, h2, h3⟩ := hC
  dsimp only at hx hb hml hown hts hKA hA h1 h2 h3
  subst h1 h2 h3
  have hK := hok.1 _ _ hKA
  intro H locs ls hP hD hS hl
  dsimp only at hP hD hS ⊢
  obtain ⟨q0, he⟩ := pl_at hL hf
  have e0 := pl_set (e := .inr (ci, fs.set i v)) hD hL hf he
  refine va_putN hx hb hts hin ty0 hty hnm hown hK hP hD hS q0 he hc i hi (va_Nw.use rfl (hlink _ _ hKA)) (fun x9 h9 => hsame.elim (fun e9 => by rw [e9]; exact h9) (fun e9 => u_same (hts _ e9) x9 h9)) hfin hpd hn hfit hln hd (fun H1 locs1 hP1 hD1 hS1 => ?_)
  rw [e0] at hP1 hD1
  exact k H1 locs1 ls hP1 hD1 hS1 hl
theorem g_putF (hC : gC X l R D cl tys K cc nL Ts own) {ref C : String} {T : u_T} {N ci index : Nat} {a : Nat} {fs : List Value} (hin : ∀ w ∈ u_ws C T N, w ∈ Ts) (ty0 : Nat → FieldType) (hty : ∀ k, k < N → parseFieldDescriptor (T k).2.2.1 = some (ty0 k)) (hnm : ∀ a, a < N → ∀ b, b < N → a ≠ b → (T a).2.1 ≠ (T b).2.1) (hc : cl[ci]? = some (C, T, N)) (hL : a ∈ L) (hf : f a = .inr (ci, fs)) (i : Nat) (hi : i < N) (hlink : Cond.fieldLink own index ref (T i).2.1 (T i).2.2.1 ∈ Ts) (hsame : ref = (T i).1 ∨ Cond.sameField ref (T i).1 (T i).2.1 (T i).2.2.1 ∈ Ts) (hfin : (T i).2.2.2 = true) (hin2 : X.2.1.2.2.2.2.1.name = "<init>") (hdecl : (T i).1 = own) {ty : FieldType} {v : Value} (hpd : parseFieldDescriptor (T i).2.2.1 = some ty) (hn : narrow ty v = v) (hfit : fits ty v = true) (hln : i < fs.length) (hd : decode cc pc = .ok (.putfield index, 3)) (k : gW X cl nL L (va_up f a (.inr (ci, fs.set i v))) cells slots (pc + 3) lv st) : gW X cl nL L f cells slots pc lv (v :: .ref a :: st) := by
  obtain ⟨⟨p, l9, e, R9⟩, ⟨s, m, args, below, meth, c⟩, Q, A, D9⟩ := X
  obtain ⟨⟨hx, hb, hml, hown, hts⟩, hok, hKA, hA, h1, h2, h3⟩ := hC
  dsimp only at hx hb hml hown hts hKA hA h1 h2 h3
  subst h1 h2 h3
  have hK := hok.1 _ _ hKA
  intro H locs ls hP hD hS hl
  dsimp only at hP hD hS ⊢
  obtain ⟨q0, he⟩ := pl_at hL hf
  have e0 := pl_set (e := .inr (ci, fs.set i v)) hD hL hf he
  refine va_putF hx hb hts hin ty0 hty hnm hown hK hP hD hS q0 he hc i hi (hts _ hlink) (fun x9 h9 => hsame.elim (fun e9 => by rw [e9]; exact h9) (fun e9 => u_same (hts _ e9) x9 h9)) hfin hin2 hdecl hpd hn hfit hln hd (fun H1 locs1 hP1 hD1 hS1 => ?_)
  rw [e0] at hP1 hD1
  exact k H1 locs1 ls hP1 hD1 hS1 hl
theorem g_iald (hC : gC X l R D cl tys K cc nL Ts own) {a : Nat} {cA : ClassId} {n : Nat} {g : Nat → Int32} {i : Int32} (t0 : Nat) (ht : tys[t0]? = some (cA, .int)) (hL : a ∈ L) (hf : f a = .inl (cA, n, .inl g)) (j : Nat) (hj : i = nI j) (hjn : j < n) (hn : n < 2 ^ 31) (hd : decode cc pc = .ok (.iaload, 1)) (k : gW X cl nL L f cells slots (pc + 1) lv (.int (g j) :: st)) : gW X cl nL L f cells slots pc lv (.int i :: .ref a :: st) := by
  obtain ⟨⟨p, l9, e, R9⟩, ⟨s, m, args, below, meth, c⟩, Q, A, D9⟩ := X
  obtain ⟨⟨hx, hb, hml, hown, hts⟩, hok, hKA, hA, h1, h2, h3⟩ := hC
  dsimp only at hx hb hml hown hts hKA hA h1 h2 h3
  subst h1 h2 h3
  have hK := hok.1 _ _ hKA
  intro H locs ls hP hD hS hl
  dsimp only at hP hD hS ⊢
  obtain ⟨q0, he⟩ := pl_at hL hf
  subst hj
  refine va_iald hx hb hK hP q0 t0 he ht (vp_in_nI hjn hn) hd ?_
  rw [nI_clamp (Nat.lt_trans hjn hn)]
  exact k H locs ls hP hD hS hl
theorem g_bald (hC : gC X l R D cl tys K cc nL Ts own) {a : Nat} {cA : ClassId} {n : Nat} {g : Nat → Int32} {i : Int32} (t0 : Nat) (ht : tys[t0]? = some (cA, .byte)) (hL : a ∈ L) (hf : f a = .inl (cA, n, .inl g)) (j : Nat) (hj : i = nI j) (hjn : j < n) (hn : n < 2 ^ 31) (hd : decode cc pc = .ok (.baload, 1)) (k : gW X cl nL L f cells slots (pc + 1) lv (.int (g j) :: st)) : gW X cl nL L f cells slots pc lv (.int i :: .ref a :: st) := by
  obtain ⟨⟨p, l9, e, R9⟩, ⟨s, m, args, below, meth, c⟩, Q, A, D9⟩ := X
  obtain ⟨⟨hx, hb, hml, hown, hts⟩, hok, hKA, hA, h1, h2, h3⟩ := hC
  dsimp only at hx hb hml hown hts hKA hA h1 h2 h3
  subst h1 h2 h3
  have hK := hok.1 _ _ hKA
  intro H locs ls hP hD hS hl
  dsimp only at hP hD hS ⊢
  obtain ⟨q0, he⟩ := pl_at hL hf
  subst hj
  refine va_bald hx hb hK hP q0 t0 he ht (vp_in_nI hjn hn) hd ?_
  rw [nI_clamp (Nat.lt_trans hjn hn)]
  exact k H locs ls hP hD hS hl
theorem g_zald (hC : gC X l R D cl tys K cc nL Ts own) {a : Nat} {cA : ClassId} {n : Nat} {g : Nat → Int32} {i : Int32} (t0 : Nat) (ht : tys[t0]? = some (cA, .boolean)) (hL : a ∈ L) (hf : f a = .inl (cA, n, .inl g)) (j : Nat) (hj : i = nI j) (hjn : j < n) (hn : n < 2 ^ 31) (hd : decode cc pc = .ok (.baload, 1)) (k : gW X cl nL L f cells slots (pc + 1) lv (.int (g j) :: st)) : gW X cl nL L f cells slots pc lv (.int i :: .ref a :: st) := by
  obtain ⟨⟨p, l9, e, R9⟩, ⟨s, m, args, below, meth, c⟩, Q, A, D9⟩ := X
  obtain ⟨⟨hx, hb, hml, hown, hts⟩, hok, hKA, hA, h1, h2, h3⟩ := hC
  dsimp only at hx hb hml hown hts hKA hA h1 h2 h3
  subst h1 h2 h3
  have hK := hok.1 _ _ hKA
  intro H locs ls hP hD hS hl
  dsimp only at hP hD hS ⊢
  obtain ⟨q0, he⟩ := pl_at hL hf
  subst hj
  refine va_zald hx hb hK hP q0 t0 he ht (vp_in_nI hjn hn) hd ?_
  rw [nI_clamp (Nat.lt_trans hjn hn)]
  exact k H locs ls hP hD hS hl
theorem g_cald (hC : gC X l R D cl tys K cc nL Ts own) {a : Nat} {cA : ClassId} {n : Nat} {g : Nat → Int32} {i : Int32} (t0 : Nat) (ht : tys[t0]? = some (cA, .char)) (hL : a ∈ L) (hf : f a = .inl (cA, n, .inl g)) (j : Nat) (hj : i = nI j) (hjn : j < n) (hn : n < 2 ^ 31) (hd : decode cc pc = .ok (.caload, 1)) (k : gW X cl nL L f cells slots (pc + 1) lv (.int (g j) :: st)) : gW X cl nL L f cells slots pc lv (.int i :: .ref a :: st) := by
  obtain ⟨⟨p, l9, e, R9⟩, ⟨s, m, args, below, meth, c⟩, Q, A, D9⟩ := X
  obtain ⟨⟨hx, hb, hml, hown, hts⟩, hok, hKA, hA, h1, h2, h3⟩ := hC
  dsimp only at hx hb hml hown hts hKA hA h1 h2 h3
  subst h1 h2 h3
  have hK := hok.1 _ _ hKA
  intro H locs ls hP hD hS hl
  dsimp only at hP hD hS ⊢
  obtain ⟨q0, he⟩ := pl_at hL hf
  subst hj
  refine va_cald hx hb hK hP q0 t0 he ht (vp_in_nI hjn hn) hd ?_
  rw [nI_clamp (Nat.lt_trans hjn hn)]
  exact k H locs ls hP hD hS hl
theorem g_iast (hC : gC X l R D cl tys K cc nL Ts own) {a : Nat} {cA : ClassId} {n : Nat} {g : Nat → Int32} {i : Int32} {x : Int32} (t0 : Nat) (ht : tys[t0]? = some (cA, .int)) (hL : a ∈ L) (hf : f a = .inl (cA, n, .inl g)) (j : Nat) (hj : i = nI j) (hjn : j < n) (hn : n < 2 ^ 31) (hd : decode cc pc = .ok (.iastore, 1)) (k : gW X cl nL L (va_up f a (.inl (cA, n, .inl (upd g j x)))) cells slots (pc + 1) lv st) : gW X cl nL L f cells slots pc lv (.int x :: .int i :: .ref a :: st) := by
  obtain ⟨⟨p, l9, e, R9⟩, ⟨s, m, args, below, meth, c⟩, Q, A, D9⟩ := X
  obtain ⟨⟨hx, hb, hml, hown, hts⟩, hok, hKA, hA, h1, h2, h3⟩ := hC
  dsimp only at hx hb hml hown hts hKA hA h1 h2 h3
  subst h1 h2 h3
  have hK := hok.1 _ _ hKA
  intro H locs ls hP hD hS hl
  dsimp only at hP hD hS ⊢
  obtain ⟨q0, he⟩ := pl_at hL hf
  subst hj
  refine va_iast hx hb hK hP hD hS q0 t0 he ht (vp_in_nI hjn hn) hd (fun H1 locs1 hP1 hD1 hS1 => ?_)
  rw [pl_set hD hL hf he, nI_clamp (Nat.lt_trans hjn hn)] at hP1 hD1
  exact k H1 locs1 ls hP1 hD1 hS1 hl
theorem g_bast (hC : gC X l R D cl tys K cc nL Ts own) {a : Nat} {cA : ClassId} {n : Nat} {g : Nat → Int32} {i : Int32} {x : Int32} (t0 : Nat) (ht : tys[t0]? = some (cA, .byte)) (hL : a ∈ L) (hf : f a = .inl (cA, n, .inl g)) (j : Nat) (hj : i = nI j) (hjn : j < n) (hn : n < 2 ^ 31) (hd : decode cc pc = .ok (.bastore, 1)) (k : gW X cl nL L (va_up f a (.inl (cA, n, .inl (upd g j (vp_nar .byte x))))) cells slots (pc + 1) lv st) : gW X cl nL L f cells slots pc lv (.int x :: .int i :: .ref a :: st) := by
  obtain ⟨⟨p, l9, e, R9⟩, ⟨s, m, args, below, meth, c⟩, Q, A, D9⟩ := X
  obtain ⟨⟨hx, hb, hml, hown, hts⟩, hok, hKA, hA, h1, h2, h3⟩ := hC
  dsimp only at hx hb hml hown hts hKA hA h1 h2 h3
  subst h1 h2 h3
  have hK := hok.1 _ _ hKA
  intro H locs ls hP hD hS hl
  dsimp only at hP hD hS ⊢
  obtain ⟨q0, he⟩ := pl_at hL hf
  subst hj
  refine va_bast hx hb hK hP hD hS q0 t0 he ht (vp_in_nI hjn hn) hd (fun H1 locs1 hP1 hD1 hS1 => ?_)
  rw [pl_set hD hL hf he, nI_clamp (Nat.lt_trans hjn hn)] at hP1 hD1
  exact k H1 locs1 ls hP1 hD1 hS1 hl
theorem g_zast (hC : gC X l R D cl tys K cc nL Ts own) {a : Nat} {cA : ClassId} {n : Nat} {g : Nat → Int32} {i : Int32} {x : Int32} (t0 : Nat) (ht : tys[t0]? = some (cA, .boolean)) (hL : a ∈ L) (hf : f a = .inl (cA, n, .inl g)) (j : Nat) (hj : i = nI j) (hjn : j < n) (hn : n < 2 ^ 31) (hd : decode cc pc = .ok (.bastore, 1)) (k : gW X cl nL L (va_up f a (.inl (cA, n, .inl (upd g j (vp_nar .boolean x))))) cells slots (pc + 1) lv st) : gW X cl nL L f cells slots pc lv (.int x :: .int i :: .ref a :: st) := by
  obtain ⟨⟨p, l9, e, R9⟩, ⟨s, m, args, below, meth, c⟩, Q, A, D9⟩ := X
  obtain ⟨⟨hx, hb, hml, hown, hts⟩, hok, hKA, hA, h1, h2, h3⟩ := hC
  dsimp only at hx hb hml hown hts hKA hA h1 h2 h3
  subst h1 h2 h3
  have hK := hok.1 _ _ hKA
  intro H locs ls hP hD hS hl
  dsimp only at hP hD hS ⊢
  obtain ⟨q0, he⟩ := pl_at hL hf
  subst hj
  refine va_zast hx hb hK hP hD hS q0 t0 he ht (vp_in_nI hjn hn) hd (fun H1 locs1 hP1 hD1 hS1 => ?_)
  rw [pl_set hD hL hf he, nI_clamp (Nat.lt_trans hjn hn)] at hP1 hD1
  exact k H1 locs1 ls hP1 hD1 hS1 hl
theorem g_cast (hC : gC X l R D cl tys K cc nL Ts own) {a : Nat} {cA : ClassId} {n : Nat} {g : Nat → Int32} {i : Int32} {x : Int32} (t0 : Nat) (ht : tys[t0]? = some (cA, .char)) (hL : a ∈ L) (hf : f a = .inl (cA, n, .inl g)) (j : Nat) (hj : i = nI j) (hjn : j < n) (hn : n < 2 ^ 31) (hd : decode cc pc = .ok (.castore, 1)) (k : gW X cl nL L (va_up f a (.inl (cA, n, .inl (upd g j (vp_nar .char x))))) cells slots (pc + 1) lv st) : gW X cl nL L f cells slots pc lv (.int x :: .int i :: .ref a :: st) := by
  obtain ⟨⟨p, l9, e, R9⟩, ⟨s, m, args, below, meth, c⟩, Q, A, D9⟩ := X
  obtain ⟨⟨hx, hb, hml, hown, hts⟩, hok, hKA, hA, h1, h2, h3⟩ := hC
  dsimp only at hx hb hml hown hts hKA hA h1 h2 h3
  subst h1 h2 h3
  have hK := hok.1 _ _ hKA
  intro H locs ls hP hD hS hl
  dsimp only at hP hD hS ⊢
  obtain ⟨q0, he⟩ := pl_at hL hf
  subst hj
  refine va_cast hx hb hK hP hD hS q0 t0 he ht (vp_in_nI hjn hn) hd (fun H1 locs1 hP1 hD1 hS1 => ?_)
  rw [pl_set hD hL hf he, nI_clamp (Nat.lt_trans hjn hn)] at hP1 hD1
  exact k H1 locs1 ls hP1 hD1 hS1 hl
theorem g_lald (hC : gC X l R D cl tys K cc nL Ts own) {a : Nat} {cA : ClassId} {n : Nat} {g : Nat → Int64} {i : Int32} (t0 : Nat) (ht : tys[t0]? = some (cA, .long)) (hL : a ∈ L) (hf : f a = .inl (cA, n, .inr (.inl g))) (j : Nat) (hj : i = nI j) (hjn : j < n) (hn : n < 2 ^ 31) (hd : decode cc pc = .ok (.laload, 1)) (k : gW X cl nL L f cells slots (pc + 1) lv (.long (g j) :: st)) : gW X cl nL L f cells slots pc lv (.int i :: .ref a :: st) := by
  obtain ⟨⟨p, l9, e, R9⟩, ⟨s, m, args, below, meth, c⟩, Q, A, D9⟩ := X
  obtain ⟨⟨hx, hb, hml, hown, hts⟩, hok, hKA, hA, h1, h2, h3⟩ := hC
  dsimp only at hx hb hml hown hts hKA hA h1 h2 h3
  subst h1 h2 h3
  have hK := hok.1 _ _ hKA
  intro H locs ls hP hD hS hl
  dsimp only at hP hD hS ⊢
  obtain ⟨q0, he⟩ := pl_at hL hf
  subst hj
  refine va_lald hx hb hK hP q0 t0 he ht (vp_in_nI hjn hn) hd ?_
  rw [nI_clamp (Nat.lt_trans hjn hn)]
  exact k H locs ls hP hD hS hl
theorem g_last (hC : gC X l R D cl tys K cc nL Ts own) {a : Nat} {cA : ClassId} {n : Nat} {g : Nat → Int64} {i : Int32} {x : Int64} (t0 : Nat) (ht : tys[t0]? = some (cA, .long)) (hL : a ∈ L) (hf : f a = .inl (cA, n, .inr (.inl g))) (j : Nat) (hj : i = nI j) (hjn : j < n) (hn : n < 2 ^ 31) (hd : decode cc pc = .ok (.lastore, 1)) (k : gW X cl nL L (va_up f a (.inl (cA, n, .inr (.inl (vp_updL g j x))))) cells slots (pc + 1) lv st) : gW X cl nL L f cells slots pc lv (.long x :: .int i :: .ref a :: st) := by
  obtain ⟨⟨p, l9, e, R9⟩, ⟨s, m, args, below, meth, c⟩, Q, A, D9⟩ := X
  obtain ⟨⟨hx, hb, hml, hown, hts⟩, hok, hKA, hA, h1, h2, h3⟩ := hC
  dsimp only at hx hb hml hown hts hKA hA h1 h2 h3
  subst h1 h2 h3
  have hK := hok.1 _ _ hKA
  intro H locs ls hP hD hS hl
  dsimp only at hP hD hS ⊢
  obtain ⟨q0, he⟩ := pl_at hL hf
  subst hj
  refine va_last hx hb hK hP hD hS q0 t0 he ht (vp_in_nI hjn hn) hd (fun H1 locs1 hP1 hD1 hS1 => ?_)
  rw [pl_set hD hL hf he, nI_clamp (Nat.lt_trans hjn hn)] at hP1 hD1
  exact k H1 locs1 ls hP1 hD1 hS1 hl
theorem g_alen (hC : gC X l R D cl tys K cc nL Ts own) {a : Nat} {cA : ClassId} {x : vp_A} {ty : FieldType} (t0 : Nat) (ht : tys[t0]? = some (cA, ty)) (hL : a ∈ L) (hf : f a = .inl (cA, x)) (hd : decode cc pc = .ok (.arraylength, 1)) (k : gW X cl nL L f cells slots (pc + 1) lv (.int (nI x.1) :: st)) : gW X cl nL L f cells slots pc lv (.ref a :: st) := by
  obtain ⟨⟨p, l9, e, R9⟩, ⟨s, m, args, below, meth, c⟩, Q, A, D9⟩ := X
  obtain ⟨⟨hx, hb, hml, hown, hts⟩, hok, hKA, hA, h1, h2, h3⟩ := hC
  dsimp only at hx hb hml hown hts hKA hA h1 h2 h3
  subst h1 h2 h3
  have hK := hok.1 _ _ hKA
  intro H locs ls hP hD hS hl
  dsimp only at hP hD hS ⊢
  obtain ⟨q0, he⟩ := pl_at hL hf
  exact va_alen hx hb hK hP q0 t0 he ht rfl hd (k H locs ls hP hD hS hl)
theorem g_aald (hC : gC X l R D cl tys K cc nL Ts own) {a : Nat} {cA : ClassId} {n : Nat} {C : String} {g : Nat → Option Nat} {i : Int32} (t0 : Nat) (ht : tys[t0]? = some (cA, .object C)) (hL : a ∈ L) (hf : f a = .inl (cA, n, .inr (.inr (.inr (.inr g))))) (j : Nat) (hj : i = nI j) (hjn : j < n) (hn : n < 2 ^ 31) (hd : decode cc pc = .ok (.aaload, 1)) (k : gW X cl nL L f cells slots (pc + 1) lv (va_rf (g j) :: st)) : gW X cl nL L f cells slots pc lv (.int i :: .ref a :: st) := by
  obtain ⟨⟨p, l9, e, R9⟩, ⟨s, m, args, below, meth, c⟩, Q, A, D9⟩ := X
  obtain ⟨⟨hx, hb, hml, hown, hts⟩, hok, hKA, hA, h1, h2, h3⟩ := hC
  dsimp only at hx hb hml hown hts hKA hA h1 h2 h3
  subst h1 h2 h3
  have hK := hok.1 _ _ hKA
  intro H locs ls hP hD hS hl
  dsimp only at hP hD hS ⊢
  obtain ⟨q0, he⟩ := pl_at hL hf
  subst hj
  refine va_aldq hx hb hK hP q0 t0 he ht (vp_in_nI hjn hn) hd ?_
  rw [nI_clamp (Nat.lt_trans hjn hn)]
  exact k H locs ls hP hD hS hl
theorem g_aastN (hC : gC X l R D cl tys K cc nL Ts own) {a : Nat} {cA : ClassId} {n : Nat} {C : String} {g : Nat → Option Nat} {i : Int32} (t0 : Nat) (ht : tys[t0]? = some (cA, .object C)) (hL : a ∈ L) (hf : f a = .inl (cA, n, .inr (.inr (.inr (.inr g))))) (j : Nat) (hj : i = nI j) (hjn : j < n) (hn : n < 2 ^ 31) (hd : decode cc pc = .ok (.aastore, 1)) (k : gW X cl nL L (va_up f a (.inl (cA, n, .inr (.inr (.inr (.inr (va_up g j none))))))) cells slots (pc + 1) lv st) : gW X cl nL L f cells slots pc lv (.null :: .int i :: .ref a :: st) := by
  obtain ⟨⟨p, l9, e, R9⟩, ⟨s, m, args, below, meth, c⟩, Q, A, D9⟩ := X
  obtain ⟨⟨hx, hb, hml, hown, hts⟩, hok, hKA, hA, h1, h2, h3⟩ := hC
  dsimp only at hx hb hml hown hts hKA hA h1 h2 h3
  subst h1 h2 h3
  have hK := hok.1 _ _ hKA
  intro H locs ls hP hD hS hl
  dsimp only at hP hD hS ⊢
  obtain ⟨q0, he⟩ := pl_at hL hf
  subst hj
  refine va_astqN hx hb hK hP hD hS q0 t0 he ht (vp_in_nI hjn hn) hd (fun H1 locs1 hP1 hD1 hS1 => ?_)
  rw [pl_set hD hL hf he, nI_clamp (Nat.lt_trans hjn hn)] at hP1 hD1
  exact k H1 locs1 ls hP1 hD1 hS1 hl
theorem g_aast (hC : gC X l R D cl tys K cc nL Ts own) {a b ci : Nat} {cA : ClassId} {n : Nat} {r : vw_C} {vs : List Value} {g : Nat → Option Nat} {i : Int32} (t0 : Nat) (ht : tys[t0]? = some (cA, .object r.1)) (hc : cl[ci]? = some r) (hLb : b ∈ L) (hfb : f b = .inr (ci, vs)) (hL : a ∈ L) (hf : f a = .inl (cA, n, .inr (.inr (.inr (.inr g))))) (j : Nat) (hj : i = nI j) (hjn : j < n) (hn : n < 2 ^ 31) (hd : decode cc pc = .ok (.aastore, 1)) (k : gW X cl nL L (va_up f a (.inl (cA, n, .inr (.inr (.inr (.inr (va_up g j (some b)))))))) cells slots (pc + 1) lv st) : gW X cl nL L f cells slots pc lv (.ref b :: .int i :: .ref a :: st) := by
  obtain ⟨⟨p, l9, e, R9⟩, ⟨s, m, args, below, meth, c⟩, Q, A, D9⟩ := X
  obtain ⟨⟨hx, hb, hml, hown, hts⟩, hok, hKA, hA, h1, h2, h3⟩ := hC
  dsimp only at hx hb hml hown hts hKA hA h1 h2 h3
  subst h1 h2 h3
  have hK := hok.1 _ _ hKA
  intro H locs ls hP hD hS hl
  dsimp only at hP hD hS ⊢
  obtain ⟨q0, he⟩ := pl_at hL hf
  obtain ⟨q1, he1⟩ := pl_at hLb hfb
  subst hj
  refine va_astq hx hb hK hP hD hS q0 t0 q1 ci he ht he1 hc (vp_in_nI hjn hn) hd (fun H1 locs1 hP1 hD1 hS1 => ?_)
  rw [pl_set hD hL hf he, nI_clamp (Nat.lt_trans hjn hn)] at hP1 hD1
  exact k H1 locs1 ls hP1 hD1 hS1 hl
theorem g_new (hC : gC X l R D cl tys K cc nL Ts own) {C : String} {T : u_T} {N ci index : Nat} {fs : List Value} (hin : ∀ w ∈ u_ws C T N, w ∈ Ts) (ty : Nat → FieldType) (hty : ∀ k, k < N → parseFieldDescriptor (T k).2.2.1 = some (ty k)) (hcl : Cond.classLink own index C ∈ Ts) (hinst : Cond.instantiable C N ∈ Ts) (hini : Cond.initialized C ∈ Ts) (hc : cl[ci]? = some (C, T, N)) (hfs : ∀ j, j < N → defaultValue (ty j) = vp_V fs j) (hcells : cells + 1 ≤ R.cells) (hslots : slots + N ≤ R.slots) (hd : decode cc pc = .ok (.new index, 3)) (k : ∀ q, q ∉ L → gW X cl nL (L ++ [q]) (va_up f q (.inr (ci, fs))) (cells + 1) (slots + N) (pc + 3) lv (.ref q :: st)) : gW X cl nL L f cells slots pc lv st := by
  obtain ⟨⟨p, l9, e, R9⟩, ⟨s, m, args, below, meth, c⟩, Q, A, D9⟩ := X
  obtain ⟨⟨hx, hb, hml, hown, hts⟩, hok, hKA, hA, h1, h2, h3⟩ := hC
  dsimp only at hx hb hml hown hts hKA hA h1 h2 h3
  subst h1 h2 h3
  have hK := hok.1 _ _ hKA
  intro H locs ls hP hD hS hl
  dsimp only at hP hD hS ⊢
  refine va_new hx hb hts hin ty hty hown (hts _ hcl) (hts _ hinst) (hts _ hini) hK hP hD hS hA hc hfs hcells hslots hd (fun q H1 hP1 hD1 hS1 => ?_)
  have hq := pl_nin hD1
  rw [va_pl_push hq] at hP1 hD1
  exact k q hq H1 locs ls hP1 hD1 hS1 hl
theorem g_newa (hC : gC X l R D cl tys K cc nL Ts own) {atype : ArrayType} {ty : FieldType} {cA : ClassId} {n : Int32} {N : Nat} {a0 : vp_A} (t0 : Nat) (ht : tys[t0]? = some (cA, ty)) (harr : Cond.arrayClass (newarray.typeOf atype) ∈ Ts) (hty : newarray.typeOf atype = ty) (ha : ∀ cA : ClassId, vp_cell cA a0 = arrV cA N (fun _ => defaultValue ty)) (hn : n = nI N) (hN : N < 2 ^ 31) (hbytes : N * componentBytes ty ≤ 536870912) (hcells : cells + 1 ≤ R.cells) (hslots : slots + N ≤ R.slots) (hd : decode cc pc = .ok (.newarray atype, 2)) (k : ∀ q, q ∉ L → gW X cl nL (L ++ [q]) (va_up f q (.inl (cA, a0))) (cells + 1) (slots + N) (pc + 2) lv (.ref q :: st)) : gW X cl nL L f cells slots pc lv (.int n :: st) := by
  obtain ⟨⟨p, l9, e, R9⟩, ⟨s, m, args, below, meth, c⟩, Q, A, D9⟩ := X
  obtain ⟨⟨hx, hb, hml, hown, hts⟩, hok, hKA, hA, h1, h2, h3⟩ := hC
  dsimp only at hx hb hml hown hts hKA hA h1 h2 h3
  subst h1 h2 h3
  have hK := hok.1 _ _ hKA
  intro H locs ls hP hD hS hl
  dsimp only at hP hD hS ⊢
  refine va_newa hx hb (hts _ harr) hty hK hP hD hS hA ha (by rw [hn]; exact nI_pos hN) (by rw [hn]; exact nI_clamp hN) hbytes hcells hslots hd (fun q cA1 H1 hK1 hP1 hD1 hS1 => ?_)
  have e1 : cA1 = cA := ra_uniq (hK1.2 tys.length (cA1, ty) (by simp)).2 (hK.2 t0 _ ht).2
  subst e1
  have hq := pl_nin hD1
  rw [va_pl_push hq] at hP1 hD1
  exact k q hq H1 locs ls hP1 hD1 hS1 hl
theorem g_newq (hC : gC X l R D cl tys K cc nL Ts own) {C : String} {cA : ClassId} {n : Int32} {N index : Nat} (t0 : Nat) (ht : tys[t0]? = some (cA, .object C)) (hcl : Cond.classLink own index C ∈ Ts) (hao : ∀ A s, K A s → va_AO C s) (hn : n = nI N) (hN : N < 2 ^ 31) (hbytes : N * 4 ≤ 536870912) (hcells : cells + 1 ≤ R.cells) (hslots : slots + N ≤ R.slots) (hd : decode cc pc = .ok (.anewarray index, 3)) (k : ∀ q, q ∉ L → gW X cl nL (L ++ [q]) (va_up f q (.inl (cA, N, .inr (.inr (.inr (.inr (fun _ => none))))))) (cells + 1) (slots + N) (pc + 3) lv (.ref q :: st)) : gW X cl nL L f cells slots pc lv (.int n :: st) := by
  obtain ⟨⟨p, l9, e, R9⟩, ⟨s, m, args, below, meth, c⟩, Q, A, D9⟩ := X
  obtain ⟨⟨hx, hb, hml, hown, hts⟩, hok, hKA, hA, h1, h2, h3⟩ := hC
  dsimp only at hx hb hml hown hts hKA hA h1 h2 h3
  subst h1 h2 h3
  have hK := hok.1 _ _ hKA
  intro H locs ls hP hD hS hl
  dsimp only at hP hD hS ⊢
  refine va_newq hx hb hown (hts _ hcl) (hao _ _ hKA) hK hP hD hS hA (by rw [hn]; exact nI_pos hN) (by rw [hn]; exact nI_clamp hN) hbytes hcells hslots hd (fun q cA1 H1 hK1 hP1 hD1 hS1 => ?_)
  have e1 : cA1 = cA := ra_uniq (hK1.2 tys.length (cA1, .object C) (by simp)).2 (hK.2 t0 _ ht).2
  subst e1
  have hq := pl_nin hD1
  rw [va_pl_push hq] at hP1 hD1
  exact k q hq H1 locs ls hP1 hD1 hS1 hl
theorem g_castY (hC : gC X l R D cl tys K cc nL Ts own) {C nm : String} {T : u_T} {N ci index a : Nat} {fs : List Value} (hcl : Cond.classLink own index nm ∈ Ts) (hcast : ∀ A s, K A s → va_Nw (.castable C nm) s) (hc : cl[ci]? = some (C, T, N)) (hL : a ∈ L) (hf : f a = .inr (ci, fs)) (hd : decode cc pc = .ok (.checkcast index, 3)) (k : gW X cl nL L f cells slots (pc + 3) lv (.ref a :: st)) : gW X cl nL L f cells slots pc lv (.ref a :: st) := by
  obtain ⟨⟨p, l9, e, R9⟩, ⟨s, m, args, below, meth, c⟩, Q, A, D9⟩ := X
  obtain ⟨⟨hx, hb, hml, hown, hts⟩, hok, hKA, hA, h1, h2, h3⟩ := hC
  dsimp only at hx hb hml hown hts hKA hA h1 h2 h3
  subst h1 h2 h3
  have hK := hok.1 _ _ hKA
  intro H locs ls hP hD hS hl
  dsimp only at hP hD hS ⊢
  obtain ⟨q0, he⟩ := pl_at hL hf
  exact va_castY hx hb hown (hts _ hcl) (hcast _ _ hKA) (va_recv hK hP hc he) hd (k H locs ls hP hD hS hl)
theorem g_castN (hC : gC X l R D cl tys K cc nL Ts own) {index : Nat} (hd : decode cc pc = .ok (.checkcast index, 3)) (k : gW X cl nL L f cells slots (pc + 3) lv (.null :: st)) : gW X cl nL L f cells slots pc lv (.null :: st) := by
  obtain ⟨⟨p, l9, e, R9⟩, ⟨s, m, args, below, meth, c⟩, Q, A, D9⟩ := X
  obtain ⟨⟨hx, hb, hml, hown, hts⟩, hok, hKA, hA, h1, h2, h3⟩ := hC
  dsimp only at hx hb hml hown hts hKA hA h1 h2 h3
  subst h1 h2 h3
  have hK := hok.1 _ _ hKA
  intro H locs ls hP hD hS hl
  dsimp only at hP hD hS ⊢
  exact lv_castN hx hb hd (k H locs ls hP hD hS hl)
theorem g_castA (hC : gC X l R D cl tys K cc nL Ts own) {nm : String} {index a : Nat} {cA : ClassId} {x : vp_A} (hcl : Cond.classLink own index nm ∈ Ts) (hnm : ∀ s, va_K D cl tys s → s.vm.findClass nm = some cA) (hL : a ∈ L) (hf : f a = .inl (cA, x)) (hd : decode cc pc = .ok (.checkcast index, 3)) (k : gW X cl nL L f cells slots (pc + 3) lv (.ref a :: st)) : gW X cl nL L f cells slots pc lv (.ref a :: st) := by
  obtain ⟨⟨p, l9, e, R9⟩, ⟨s, m, args, below, meth, c⟩, Q, A, D9⟩ := X
  obtain ⟨⟨hx, hb, hml, hown, hts⟩, hok, hKA, hA, h1, h2, h3⟩ := hC
  dsimp only at hx hb hml hown hts hKA hA h1 h2 h3
  subst h1 h2 h3
  have hK := hok.1 _ _ hKA
  intro H locs ls hP hD hS hl
  dsimp only at hP hD hS ⊢
  obtain ⟨q0, he⟩ := pl_at hL hf
  exact va_castA hx hb hown (hts _ hcl) hP q0 he (hnm _ hK) hd (k H locs ls hP hD hS hl)
theorem g_instY (hC : gC X l R D cl tys K cc nL Ts own) {C nm : String} {T : u_T} {N ci index a : Nat} {fs : List Value} (hcl : Cond.classLink own index nm ∈ Ts) (hcast : ∀ A s, K A s → va_Nw (.castable C nm) s) (hc : cl[ci]? = some (C, T, N)) (hL : a ∈ L) (hf : f a = .inr (ci, fs)) (hd : decode cc pc = .ok (.instanceof index, 3)) (k : gW X cl nL L f cells slots (pc + 3) lv (.int 1 :: st)) : gW X cl nL L f cells slots pc lv (.ref a :: st) := by
  obtain ⟨⟨p, l9, e, R9⟩, ⟨s, m, args, below, meth, c⟩, Q, A, D9⟩ := X
  obtain ⟨⟨hx, hb, hml, hown, hts⟩, hok, hKA, hA, h1, h2, h3⟩ := hC
  dsimp only at hx hb hml hown hts hKA hA h1 h2 h3
  subst h1 h2 h3
  have hK := hok.1 _ _ hKA
  intro H locs ls hP hD hS hl
  dsimp only at hP hD hS ⊢
  obtain ⟨q0, he⟩ := pl_at hL hf
  exact va_instY hx hb hown (hts _ hcl) (hcast _ _ hKA) (va_recv hK hP hc he) hd (k H locs ls hP hD hS hl)
theorem g_instNo (hC : gC X l R D cl tys K cc nL Ts own) {C nm : String} {T : u_T} {N ci index a : Nat} {fs : List Value} (hcl : Cond.classLink own index nm ∈ Ts) (hcast : ∀ A s, K A s → va_Nc C nm s) (hc : cl[ci]? = some (C, T, N)) (hL : a ∈ L) (hf : f a = .inr (ci, fs)) (hd : decode cc pc = .ok (.instanceof index, 3)) (k : gW X cl nL L f cells slots (pc + 3) lv (.int 0 :: st)) : gW X cl nL L f cells slots pc lv (.ref a :: st) := by
  obtain ⟨⟨p, l9, e, R9⟩, ⟨s, m, args, below, meth, c⟩, Q, A, D9⟩ := X
  obtain ⟨⟨hx, hb, hml, hown, hts⟩, hok, hKA, hA, h1, h2, h3⟩ := hC
  dsimp only at hx hb hml hown hts hKA hA h1 h2 h3
  subst h1 h2 h3
  have hK := hok.1 _ _ hKA
  intro H locs ls hP hD hS hl
  dsimp only at hP hD hS ⊢
  obtain ⟨q0, he⟩ := pl_at hL hf
  exact va_instNo hx hb hown (hts _ hcl) (hcast _ _ hKA) (va_recv hK hP hc he) hd (k H locs ls hP hD hS hl)
theorem g_instN (hC : gC X l R D cl tys K cc nL Ts own) {index : Nat} (hd : decode cc pc = .ok (.instanceof index, 3)) (k : gW X cl nL L f cells slots (pc + 3) lv (.int 0 :: st)) : gW X cl nL L f cells slots pc lv (.null :: st) := by
  obtain ⟨⟨p, l9, e, R9⟩, ⟨s, m, args, below, meth, c⟩, Q, A, D9⟩ := X
  obtain ⟨⟨hx, hb, hml, hown, hts⟩, hok, hKA, hA, h1, h2, h3⟩ := hC
  dsimp only at hx hb hml hown hts hKA hA h1 h2 h3
  subst h1 h2 h3
  have hK := hok.1 _ _ hKA
  intro H locs ls hP hD hS hl
  dsimp only at hP hD hS ⊢
  exact lv_instN hx hb hd (k H locs ls hP hD hS hl)
theorem g_objInit (hC : gC X l R D cl tys K cc nL Ts own) {a : Nat} {index : Nat} (h1 : Cond.methodLink own index objectInit ∈ Ts) (h2 : Cond.instanceMethod objectInit ∈ Ts) (h3 : Cond.code objectInit ⟨#[0xb1]⟩ 1 none ∈ Ts) (hfr : 1 ≤ R.frames) (hlo : (st.map fun v => v.category).sum + 12 ≤ R.locals) (hd : decode cc pc = .ok (.invokespecial index, 3)) (k : gW X cl nL L f cells slots (pc + 3) lv st) : gW X cl nL L f cells slots pc lv (.ref a :: st) := by
  obtain ⟨⟨p, l9, e, R9⟩, ⟨s, m, args, below, meth, c⟩, Q, A, D9⟩ := X
  obtain ⟨⟨hx, hb, hml, hown, hts⟩, hok, hKA, hA, h1, h2, h3⟩ := hC
  dsimp only at hx hb hml hown hts hKA hA h1 h2 h3
  subst h1 h2 h3
  have hK := hok.1 _ _ hKA
  intro H locs ls hP hD hS hl
  dsimp only at hP hD hS ⊢
  refine W.objInit hx hb hown (hts _ h1) (hts _ h2) (hts _ h3) rfl (by rw [hml]; exact hl.1) rfl hd hfr (by have h0 : (F0 m pc ls (Value.ref a :: st)).monitorRoom = 0 := rfl; omega) ?_
  exact k H locs ls hP hD hS hl
theorem g_widen {c2 s2 : Nat} (h1 : cells ≤ c2) (h2 : slots ≤ s2) (k : gW X cl nL L f c2 s2 pc lv st) : gW X cl nL L f cells slots pc lv st := fun H locs ls hP hD hS hl => W.widen h1 h2 (k H locs ls hP hD hS hl)
theorem g_lv (js : List Nat) (hj : js.filterMap (fun i => lv[i]?) = lv') (k : gW X cl nL L f cells slots pc lv' st) : gW X cl nL L f cells slots pc lv st := fun H locs ls hP hD hS hl => k H locs ls hP hD hS (lv_sub hl js hj)
theorem g_topi {x : Int32} (k : ∀ y : Int32, y = x → gW X cl nL L f cells slots pc lv (.int y :: st)) : gW X cl nL L f cells slots pc lv (.int x :: st) := k x rfl
theorem g_val {v w : Value} (h : v = w) (k : gW X cl nL L f cells slots pc lv (w :: st)) : gW X cl nL L f cells slots pc lv (v :: st) := by rw [h]; exact k
theorem g_world {L' : List Nat} {f' : Nat → va_E} (hL : L = L') (hf : ∀ a, f a = f' a) (k : gW X cl nL L' f' cells slots pc lv st) : gW X cl nL L f cells slots pc lv st := by rw [hL, funext hf]; exact k
theorem g_iret (hC : gC X l R D cl tys K cc nL Ts own) {mc ms : Nat} {post : gPost} (hR : gR X D cl (some .int) mc ms post) {v : Int32} (hd : decode cc pc = .ok (.ireturn, 1)) (hp : post (some (.int v)) L f) : gW X cl nL L f mc ms pc lv [.int v] := by
  obtain ⟨⟨p, l9, e, R9⟩, ⟨s, m, args, below, meth, c⟩, Q, A, D9⟩ := X
  obtain ⟨⟨hx, hb, hml, hown, hts⟩, hok, hKA, hA, h1, h2, h3⟩ := hC
  dsimp only at hx hb hml hown hts hKA hA h1 h2 h3
  subst h1 h2 h3
  have hK := hok.1 _ _ hKA
  intro H locs ls hP hD hS hl
  dsimp only at hP hD hS ⊢
  obtain ⟨hr, hlocks, hQ⟩ := hR
  dsimp only at hr hlocks hQ
  subst hQ
  exact W.iret hx hb hr (fun t ht hW => ⟨⟨_, L, f, rfl, hp, by rw [ht]; exact hP, hD⟩, hS.F ht⟩) hS.2.2 hd hlocks
theorem g_lret (hC : gC X l R D cl tys K cc nL Ts own) {mc ms : Nat} {post : gPost} (hR : gR X D cl (some .long) mc ms post) {v : Int64} (hd : decode cc pc = .ok (.lreturn, 1)) (hp : post (some (.long v)) L f) : gW X cl nL L f mc ms pc lv [.long v] := by
  obtain ⟨⟨p, l9, e, R9⟩, ⟨s, m, args, below, meth, c⟩, Q, A, D9⟩ := X
  obtain ⟨⟨hx, hb, hml, hown, hts⟩, hok, hKA, hA, h1, h2, h3⟩ := hC
  dsimp only at hx hb hml hown hts hKA hA h1 h2 h3
  subst h1 h2 h3
  have hK := hok.1 _ _ hKA
  intro H locs ls hP hD hS hl
  dsimp only at hP hD hS ⊢
  obtain ⟨hr, hlocks, hQ⟩ := hR
  dsimp only at hr hlocks hQ
  subst hQ
  exact W.lret hx hb hr (fun t ht hW => ⟨⟨_, L, f, rfl, hp, by rw [ht]; exact hP, hD⟩, hS.F ht⟩) hS.2.2 hd hlocks
theorem g_zret (hC : gC X l R D cl tys K cc nL Ts own) {mc ms : Nat} {post : gPost} {ty : FieldType} (hR : gR X D cl (some ty) mc ms post) {v : Int32} (hn : narrow ty (.int v) = .int v) (hd : decode cc pc = .ok (.ireturn, 1)) (hp : post (some (.int v)) L f) : gW X cl nL L f mc ms pc lv [.int v] := by
  obtain ⟨⟨p, l9, e, R9⟩, ⟨s, m, args, below, meth, c⟩, Q, A, D9⟩ := X
  obtain ⟨⟨hx, hb, hml, hown, hts⟩, hok, hKA, hA, h1, h2, h3⟩ := hC
  dsimp only at hx hb hml hown hts hKA hA h1 h2 h3
  subst h1 h2 h3
  have hK := hok.1 _ _ hKA
  intro H locs ls hP hD hS hl
  dsimp only at hP hD hS ⊢
  obtain ⟨hr, hlocks, hQ⟩ := hR
  dsimp only at hr hlocks hQ
  subst hQ
  exact W.zret hx hb hr hn (fun t ht hW => ⟨⟨_, L, f, rfl, hp, by rw [ht]; exact hP, hD⟩, hS.F ht⟩) hS.2.2 hd hlocks
theorem g_aret (hC : gC X l R D cl tys K cc nL Ts own) {mc ms : Nat} {post : gPost} {ty : FieldType} (hR : gR X D cl (some ty) mc ms post) (hty : (∃ n, ty = .object n) ∨ ∃ t, ty = .array t) {v : Value} (hv : v = .null ∨ ∃ a, v = .ref a) (hd : decode cc pc = .ok (.areturn, 1)) (hp : post (some v) L f) : gW X cl nL L f mc ms pc lv [v] := by
  obtain ⟨⟨p, l9, e, R9⟩, ⟨s, m, args, below, meth, c⟩, Q, A, D9⟩ := X
  obtain ⟨⟨hx, hb, hml, hown, hts⟩, hok, hKA, hA, h1, h2, h3⟩ := hC
  dsimp only at hx hb hml hown hts hKA hA h1 h2 h3
  subst h1 h2 h3
  have hK := hok.1 _ _ hKA
  intro H locs ls hP hD hS hl
  dsimp only at hP hD hS ⊢
  obtain ⟨hr, hlocks, hQ⟩ := hR
  dsimp only at hr hlocks hQ
  subst hQ
  exact W.aret hx hb hr hty hv (fun t ht hW => ⟨⟨_, L, f, rfl, hp, by rw [ht]; exact hP, hD⟩, hS.F ht⟩) hS.2.2 hd hlocks
theorem g_vret (hC : gC X l R D cl tys K cc nL Ts own) {mc ms : Nat} {post : gPost} (hR : gR X D cl none mc ms post) (hd : decode cc pc = .ok (.return_, 1)) (hp : post none L f) : gW X cl nL L f mc ms pc lv [] := by
  obtain ⟨⟨p, l9, e, R9⟩, ⟨s, m, args, below, meth, c⟩, Q, A, D9⟩ := X
  obtain ⟨⟨hx, hb, hml, hown, hts⟩, hok, hKA, hA, h1, h2, h3⟩ := hC
  dsimp only at hx hb hml hown hts hKA hA h1 h2 h3
  subst h1 h2 h3
  have hK := hok.1 _ _ hKA
  intro H locs ls hP hD hS hl
  dsimp only at hP hD hS ⊢
  obtain ⟨hr, hlocks, hQ⟩ := hR
  dsimp only at hr hlocks hQ
  subst hQ
  exact W.vret hx hb hr (fun t ht hW => ⟨⟨_, L, f, rfl, hp, by rw [ht]; exact hP, hD⟩, hS.F ht⟩) hS.2.2 hd hlocks
end GWR
section GCALL
variable {p : Program} {l : Launch} {e : Env} {R : Room} {s : State} {m : MethodId} {args : Array Value} {below : List Frame} {meth : Method} {c : Code} {Q : State → Prop} {H : Heap} {locs : List Loc} {cells slots mc ms pc : Nat} {ls : Array Slot} {st0 rest : List Value} {D : va_G} {cl : List vw_C} {A : Nat → Prop}
theorem g_run {L : List Nat} {f : Nat → va_E} {a : Array Value} {post : gPost} (hr : va_Run p l e R s m args below meth c H locs cells slots mc ms (F0 m pc ls st0) rest (gQ D cl (va_A (va_pl L f) H.size) post a) (va_A (va_pl L f) H.size)) (hD : va_D A (va_pl L f)) (hS : va_S A s.heap H locs) (hA : ∀ q, s.heap.size ≤ q → A q)
    (kk : ∀ (v : Option Value) (L' : List Nat) (f' : Nat → va_E), post v L' f' → ∀ (H1 : Heap) (locs1 : List Loc), va_P D cl (va_pl L' f') H1 → va_D A (va_pl L' f') → va_S A s.heap H1 locs1 → W p l e R s m args below meth c H1 locs1 (cells + mc) (slots + ms) Q (F0 m (pc + 3) ls (gst v rest))) : W p l e R s m args below meth c H locs cells slots Q (F0 m pc ls st0) := by
  have hF := pl_free hD hS hA
  intro T hT X
  obtain ⟨v, st₀, t, T', Lc, h0, X', hL, e1, e2, ⟨⟨v', L', f', hv, hp, hP1, hD1⟩, hz, hk⟩, stp⟩ := hr T hT X
  cases hv
  rw [h0] at hz hk
  rw [gst_eq] at stp
  obtain ⟨t2, a1, b1⟩ := kk v L' f' hp T'.heap (locs ++ Lc) (by rw [e1]; exact hP1) (hD1.weaken (fun _ q _ h => hF q.1 h))
    ⟨Nat.le_trans hS.1 (by rw [e1]; exact hz), fun q h1 h2 => by rw [e1, hk q (Nat.lt_of_lt_of_le h1 hS.1) (fun z => h2 (hF q z))]; exact hS.2.1 q h1 h2, fun q hq => by
      rcases List.mem_append.mp hq with h | h
      · exact hS.2.2 q h
      · exact hF _ (hL q h)⟩ T' rfl X'
  exact ⟨t2, stp t2 a1, b1⟩
theorem gPre_blind {K : gKt} {tys : List (ClassId × FieldType)} (hok : gKok D cl tys K) {L : List Nat} {f : Nat → va_E} {sz : Nat} {av : List Value} : FrameBlind (va_Pc av (gPre D cl K L f sz)) := by
  intro a U g mk h
  obtain ⟨h1, h2, h3, h4, h5⟩ := h
  exact ⟨h1, h2, h3, hok.2 _ _ U _ h4 (State.WarmedH.refl U) (Nat.le_refl _) (fun _ _ _ => rfl) (fun _ h => h), h5⟩
theorem gPre_at {K : gKt} {tys : List (ClassId × FieldType)} (hok : gKok D cl tys K) (hKA : K A s) {L : List Nat} {f : Nat → va_E} (hP : va_P D cl (va_pl L f) H) (hD : va_D A (va_pl L f)) (hS : va_S A s.heap H locs) (hA : ∀ q, s.heap.size ≤ q → A q) {av : List Value} : ∀ U : State, U.heap = H → s.WarmedH U.vm → va_Pc av (gPre D cl K L f H.size) av.toArray U := by
  intro U hU hW
  refine ⟨rfl, by rw [hU], by rw [hU]; exact hP, hok.2 _ _ s U hKA hW (by rw [hU]; exact hS.1) (fun q h1 h2 => by rw [hU]; exact hS.2.1 q h1 h2) ?_, hD.weaken (fun _ _ _ _ => trivial)⟩
  exact pl_free hD hS hA
end GCALL

section GWR
variable {X : gX} {l : Launch} {R : Room} {D : va_G} {cl : List vw_C} {tys : List (ClassId × FieldType)} {K : gKt} {cc : ByteArray} {nL : Nat} {Ts : List Cond} {own : String} {L : List Nat} {f : Nat → va_E} {cells slots pc : Nat} {lv lv' : List (Nat × Value)} {st : List Value}
theorem g_callS (hC : gC X l R D cl tys K cc nL Ts own) {y : MethodName} {bytes : ByteArray} {maxL n index : Nat} {ret : Option FieldType} {ws : List Cond} {rm : Room} {As : List Value} {post : gPost}  (hM : gCt l D cl K y ws rm As L f post) (cw : CallB R X.2.1.1 X.2.1.2.2.1 own index y bytes maxL ret ws rm rm.cells rm.slots n ∧ (Cond.static y).before X.2.1.2.2.1 X.2.1.1 = true) (hn : As.length = n) (hst : (st.map fun v => v.category).sum ≤ 8) (hd : decode cc pc = .ok (.invokestatic index, 3)) (hf9 : cells + rm.cells ≤ R.cells ∧ slots + rm.slots ≤ R.slots) (k : ∀ v L' f', post v L' f' → gW X cl nL L' f' (cells + rm.cells) (slots + rm.slots) (pc + 3) lv (gst v st)) : gW X cl nL L f cells slots pc lv (As.reverse ++ st) := by
  obtain ⟨⟨p, l9, e, R9⟩, ⟨s, m, args, below, meth, c⟩, Q, A, D9⟩ := X
  obtain ⟨⟨hx, hb, hml, hown, hts⟩, hok, hKA, hA, h1, h2, h3⟩ := hC
  dsimp only at hx hb hml hown hts hKA hA h1 h2 h3
  subst h1 h2 h3
  have hK := hok.1 _ _ hKA
  intro H locs ls hP hD hS hl
  dsimp only at hP hD hS ⊢
  refine g_run (va_runS (As := As) (rest := st) ⟨hx, hb, hml, hown, hts⟩ (hM H.size) cw ⟨gPre_blind hok, gPre_at hok hKA hP hD hS hA⟩ rfl hn hl.1 rfl (lv_room hst) hd hf9) hD hS hA (fun v L' f' hp H1 locs1 hP1 hD1 hS1 => ?_)
  exact k v L' f' hp H1 locs1 ls hP1 hD1 hS1 hl
theorem g_callV (hC : gC X l R D cl tys K cc nL Ts own) {y : MethodName} {bytes : ByteArray} {maxL n index : Nat} {ret : Option FieldType} {ws : List Cond} {rm : Room} {As : List Value} {post : gPost} {C : String} {T : u_T} {N ci a : Nat} {fs : List Value} (hc : cl[ci]? = some (C, T, N)) (hL : a ∈ L) (hf : f a = .inr (ci, fs)) (hM : gCt l D cl K y ws rm (.ref a :: As) L f post) (cw : CallW R X.2.1.1 X.2.1.2.2.1 own C index y bytes maxL ret ws rm rm.cells rm.slots n) (hn : As.length = n) (hst : (st.map fun v => v.category).sum ≤ 8) (hd : decode cc pc = .ok (.invokevirtual index, 3)) (hf9 : cells + rm.cells ≤ R.cells ∧ slots + rm.slots ≤ R.slots) (k : ∀ v L' f', post v L' f' → gW X cl nL L' f' (cells + rm.cells) (slots + rm.slots) (pc + 3) lv (gst v st)) : gW X cl nL L f cells slots pc lv (As.reverse ++ .ref a :: st) := by
  obtain ⟨⟨p, l9, e, R9⟩, ⟨s, m, args, below, meth, c⟩, Q, A, D9⟩ := X
  obtain ⟨⟨hx, hb, hml, hown, hts⟩, hok, hKA, hA, h1, h2, h3⟩ := hC
  dsimp only at hx hb hml hown hts hKA hA h1 h2 h3
  subst h1 h2 h3
  have hK := hok.1 _ _ hKA
  intro H locs ls hP hD hS hl
  dsimp only at hP hD hS ⊢
  obtain ⟨q0, he⟩ := pl_at hL hf
  refine g_run (va_runV (As := As) (rest := st) ⟨hx, hb, hml, hown, hts⟩ (hM H.size) cw ⟨gPre_blind hok, va_recv hK hP hc he, gPre_at hok hKA hP hD hS hA⟩ rfl hn hl.1 rfl (lv_room hst) hd hf9) hD hS hA (fun v L' f' hp H1 locs1 hP1 hD1 hS1 => ?_)
  exact k v L' f' hp H1 locs1 ls hP1 hD1 hS1 hl
theorem g_callVN (hC : gC X l R D cl tys K cc nL Ts own) {y : MethodName} {bytes : ByteArray} {maxL n index : Nat} {ret : Option FieldType} {ws : List Cond} {rm : Room} {As : List Value} {post : gPost} {C : String} {T : u_T} {N ci a : Nat} {fs : List Value} {host : String} (hc : cl[ci]? = some (C, T, N)) (hL : a ∈ L) (hf : f a = .inr (ci, fs)) (hM : gCt l D cl K y ws rm (.ref a :: As) L f post) (cw : va_CN R X.2.1.1 X.2.1.2.2.1 own index y host bytes maxL ret ws rm rm.cells rm.slots n ∧ (Cond.instanceMethod y).before X.2.1.2.2.1 X.2.1.1 = true ∧ (Cond.selects C y y).before X.2.1.2.2.1 X.2.1.1 = true) (hn : As.length = n) (hst : (st.map fun v => v.category).sum ≤ 8) (hd : decode cc pc = .ok (.invokevirtual index, 3)) (hf9 : cells + rm.cells ≤ R.cells ∧ slots + rm.slots ≤ R.slots) (k : ∀ v L' f', post v L' f' → gW X cl nL L' f' (cells + rm.cells) (slots + rm.slots) (pc + 3) lv (gst v st)) : gW X cl nL L f cells slots pc lv (As.reverse ++ .ref a :: st) := by
  obtain ⟨⟨p, l9, e, R9⟩, ⟨s, m, args, below, meth, c⟩, Q, A, D9⟩ := X
  obtain ⟨⟨hx, hb, hml, hown, hts⟩, hok, hKA, hA, h1, h2, h3⟩ := hC
  dsimp only at hx hb hml hown hts hKA hA h1 h2 h3
  subst h1 h2 h3
  have hK := hok.1 _ _ hKA
  intro H locs ls hP hD hS hl
  dsimp only at hP hD hS ⊢
  obtain ⟨q0, he⟩ := pl_at hL hf
  refine g_run (va_runVN (As := As) (rest := st) ⟨hx, hb, hml, hown, hts⟩ (hM H.size) cw ⟨gPre_blind hok, va_recv hK hP hc he, gPre_at hok hKA hP hD hS hA⟩ rfl hn hl.1 rfl (lv_room hst) hd hf9) hD hS hA (fun v L' f' hp H1 locs1 hP1 hD1 hS1 => ?_)
  exact k v L' f' hp H1 locs1 ls hP1 hD1 hS1 hl
theorem g_callU (hC : gC X l R D cl tys K cc nL Ts own) {y : MethodName} {bytes : ByteArray} {maxL n index : Nat} {ret : Option FieldType} {ws : List Cond} {rm : Room} {As : List Value} {post : gPost} {C : String} {T : u_T} {N ci a : Nat} {fs : List Value} {owner : String} {x : MethodName} (hc : cl[ci]? = some (C, T, N)) (hL : a ∈ L) (hf : f a = .inr (ci, fs)) (hM : gCt l D cl K y ws rm (.ref a :: As) L f post) (cw : va_CU R X.2.1.1 X.2.1.2.2.1 own C owner index x y bytes maxL ret ws rm rm.cells rm.slots n) (hn : As.length = n) (hst : (st.map fun v => v.category).sum ≤ 8) (hd : decode cc pc = .ok (.invokevirtual index, 3)) (hf9 : cells + rm.cells ≤ R.cells ∧ slots + rm.slots ≤ R.slots) (k : ∀ v L' f', post v L' f' → gW X cl nL L' f' (cells + rm.cells) (slots + rm.slots) (pc + 3) lv (gst v st)) : gW X cl nL L f cells slots pc lv (As.reverse ++ .ref a :: st) := by
  obtain ⟨⟨p, l9, e, R9⟩, ⟨s, m, args, below, meth, c⟩, Q, A, D9⟩ := X
  obtain ⟨⟨hx, hb, hml, hown, hts⟩, hok, hKA, hA, h1, h2, h3⟩ := hC
  dsimp only at hx hb hml hown hts hKA hA h1 h2 h3
  subst h1 h2 h3
  have hK := hok.1 _ _ hKA
  intro H locs ls hP hD hS hl
  dsimp only at hP hD hS ⊢
  obtain ⟨q0, he⟩ := pl_at hL hf
  refine g_run (va_runU (As := As) (rest := st) ⟨hx, hb, hml, hown, hts⟩ (hM H.size) cw ⟨gPre_blind hok, va_recv hK hP hc he, gPre_at hok hKA hP hD hS hA⟩ rfl hn hl.1 rfl (lv_room hst) hd hf9) hD hS hA (fun v L' f' hp H1 locs1 hP1 hD1 hS1 => ?_)
  exact k v L' f' hp H1 locs1 ls hP1 hD1 hS1 hl
theorem g_callI (hC : gC X l R D cl tys K cc nL Ts own) {y : MethodName} {bytes : ByteArray} {maxL n index : Nat} {ret : Option FieldType} {ws : List Cond} {rm : Room} {As : List Value} {post : gPost} {a : Nat} (hM : gCt l D cl K y ws rm (.ref a :: As) L f post) (cw : CallB R X.2.1.1 X.2.1.2.2.1 own index y bytes maxL none ws rm rm.cells rm.slots n ∧ y.name = "<init>" ∧ (Cond.instanceMethod y).before X.2.1.2.2.1 X.2.1.1 = true) (hn : As.length = n) (hst : (st.map fun v => v.category).sum ≤ 8) (hd : decode cc pc = .ok (.invokespecial index, 3)) (hf9 : cells + rm.cells ≤ R.cells ∧ slots + rm.slots ≤ R.slots) (k : ∀ v L' f', post v L' f' → gW X cl nL L' f' (cells + rm.cells) (slots + rm.slots) (pc + 3) lv (gst v st)) : gW X cl nL L f cells slots pc lv (As.reverse ++ .ref a :: st) := by
  obtain ⟨⟨p, l9, e, R9⟩, ⟨s, m, args, below, meth, c⟩, Q, A, D9⟩ := X
  obtain ⟨⟨hx, hb, hml, hown, hts⟩, hok, hKA, hA, h1, h2, h3⟩ := hC
  dsimp only at hx hb hml hown hts hKA hA h1 h2 h3
  subst h1 h2 h3
  have hK := hok.1 _ _ hKA
  intro H locs ls hP hD hS hl
  dsimp only at hP hD hS ⊢
  refine g_run (va_runI (As := As) (rest := st) ⟨hx, hb, hml, hown, hts⟩ (hM H.size) cw ⟨gPre_blind hok, gPre_at hok hKA hP hD hS hA⟩ rfl hn hl.1 rfl (lv_room hst) hd hf9) hD hS hA (fun v L' f' hp H1 locs1 hP1 hD1 hS1 => ?_)
  exact k v L' f' hp H1 locs1 ls hP1 hD1 hS1 hl
theorem g_callIN (hC : gC X l R D cl tys K cc nL Ts own) {y : MethodName} {bytes : ByteArray} {maxL n index : Nat} {ret : Option FieldType} {ws : List Cond} {rm : Room} {As : List Value} {post : gPost} {a : Nat} {host : String} (hM : gCt l D cl K y ws rm (.ref a :: As) L f post) (cw : va_CN R X.2.1.1 X.2.1.2.2.1 own index y host bytes maxL none ws rm rm.cells rm.slots n ∧ y.name = "<init>" ∧ (Cond.instanceMethod y).before X.2.1.2.2.1 X.2.1.1 = true) (hn : As.length = n) (hst : (st.map fun v => v.category).sum ≤ 8) (hd : decode cc pc = .ok (.invokespecial index, 3)) (hf9 : cells + rm.cells ≤ R.cells ∧ slots + rm.slots ≤ R.slots) (k : ∀ v L' f', post v L' f' → gW X cl nL L' f' (cells + rm.cells) (slots + rm.slots) (pc + 3) lv (gst v st)) : gW X cl nL L f cells slots pc lv (As.reverse ++ .ref a :: st) := by
  obtain ⟨⟨p, l9, e, R9⟩, ⟨s, m, args, below, meth, c⟩, Q, A, D9⟩ := X
  obtain ⟨⟨hx, hb, hml, hown, hts⟩, hok, hKA, hA, h1, h2, h3⟩ := hC
  dsimp only at hx hb hml hown hts hKA hA h1 h2 h3
  subst h1 h2 h3
  have hK := hok.1 _ _ hKA
  intro H locs ls hP hD hS hl
  dsimp only at hP hD hS ⊢
  refine g_run (va_runIN (As := As) (rest := st) ⟨hx, hb, hml, hown, hts⟩ (hM H.size) cw ⟨gPre_blind hok, gPre_at hok hKA hP hD hS hA⟩ rfl hn hl.1 rfl (lv_room hst) hd hf9) hD hS hA (fun v L' f' hp H1 locs1 hP1 hD1 hS1 => ?_)
  exact k v L' f' hp H1 locs1 ls hP1 hD1 hS1 hl
end GWR
