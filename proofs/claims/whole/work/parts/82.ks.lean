section GWR
variable {X : gX} {l : Launch} {R : Room} {D : va_G} {cl : List vw_C} {tys : List (ClassId × FieldType)} {K : gKt} {cc : ByteArray} {nL : Nat} {Ts : List Cond} {own : String} {L : List Nat} {f : Nat → va_E} {cells slots pc : Nat} {lv lv' : List (Nat × Value)} {st : List Value}
theorem g_ldcS (hC : gC X l R D cl tys K cc nL Ts own) {index q : Nat} {tx : String} (hZ : ∀ A s, K A s → vk_R own index tx q s) (hd : decode cc pc = .ok (.ldc index, 2)) (k : gW X cl nL L f cells slots (pc + 2) lv (.ref q :: st)) : gW X cl nL L f cells slots pc lv st := by
  obtain ⟨⟨p, l9, e, R9⟩, ⟨s, m, args, below, meth, c⟩, Q, A, D9⟩ := X
  obtain ⟨⟨hx, hb, hml, hown, hts⟩, hok, hKA, hA, h1, h2, h3⟩ := hC
  dsimp only at hx hb hml hown hts hKA hA h1 h2 h3
  subst h1 h2 h3
  have hK := hok.1 _ _ hKA
  intro H locs ls hP hD hS hl
  dsimp only at hP hD hS ⊢
  refine va_ldcS hx hb hown (hZ _ _ hKA) hd ?_
  exact k H locs ls hP hD hS hl
theorem g_gets (hC : gC X l R D cl tys K cc nL Ts own) {index : Nat} {C n d : String} {v : Value} (hZ : ∀ A s, K A s → va_Z C n d v A s s.heap) (hl9 : Cond.fieldLink own index C n d ∈ Ts) (hd : decode cc pc = .ok (.getstatic index, 3)) (k : gW X cl nL L f cells slots (pc + 3) lv (v :: st)) : gW X cl nL L f cells slots pc lv st := by
  obtain ⟨⟨p, l9, e, R9⟩, ⟨s, m, args, below, meth, c⟩, Q, A, D9⟩ := X
  obtain ⟨⟨hx, hb, hml, hown, hts⟩, hok, hKA, hA, h1, h2, h3⟩ := hC
  dsimp only at hx hb hml hown hts hKA hA h1 h2 h3
  subst h1 h2 h3
  have hK := hok.1 _ _ hKA
  intro H locs ls hP hD hS hl
  dsimp only at hP hD hS ⊢
  refine va_gets hx hb (hZ _ _ hKA) hS hown (hts _ hl9) (fun _ h => h) hd ?_
  exact k H locs ls hP hD hS hl
theorem g_getq (hC : gC X l R D cl tys K cc nL Ts own) {index : Nat} {C n d : String} (hZ : ∀ A s, K A s → va_Zq C n d A s s.heap) (hl9 : Cond.fieldLink own index C n d ∈ Ts) (hd : decode cc pc = .ok (.getstatic index, 3)) (k : ∀ o : Option Nat, gW X cl nL L f cells slots (pc + 3) lv (va_rf o :: st)) : gW X cl nL L f cells slots pc lv st := by
  obtain ⟨⟨p, l9, e, R9⟩, ⟨s, m, args, below, meth, c⟩, Q, A, D9⟩ := X
  obtain ⟨⟨hx, hb, hml, hown, hts⟩, hok, hKA, hA, h1, h2, h3⟩ := hC
  dsimp only at hx hb hml hown hts hKA hA h1 h2 h3
  subst h1 h2 h3
  have hK := hok.1 _ _ hKA
  intro H locs ls hP hD hS hl
  dsimp only at hP hD hS ⊢
  rcases hZ _ _ hKA with h9 | ⟨t9, h9⟩
  · refine va_gets hx hb h9 hS hown (hts _ hl9) (fun _ h => h) hd ?_
    exact k none H locs ls hP hD hS hl
  · refine va_gets hx hb h9 hS hown (hts _ hl9) (fun _ h => h) hd ?_
    exact k (some t9) H locs ls hP hD hS hl
theorem g_getO (hC : gC X l R D cl tys K cc nL Ts own) {index q : Nat} {o n d : String} {v : Value} (hE : ∀ A s, K A s → va_OF o n d v q A s s.heap) (hl9 : Cond.fieldLink own index o n d ∈ Ts) (hd : decode cc pc = .ok (.getfield index, 3)) (k : gW X cl nL L f cells slots (pc + 3) lv (v :: st)) : gW X cl nL L f cells slots pc lv (.ref q :: st) := by
  obtain ⟨⟨p, l9, e, R9⟩, ⟨s, m, args, below, meth, c⟩, Q, A, D9⟩ := X
  obtain ⟨⟨hx, hb, hml, hown, hts⟩, hok, hKA, hA, h1, h2, h3⟩ := hC
  dsimp only at hx hb hml hown hts hKA hA h1 h2 h3
  subst h1 h2 h3
  have hK := hok.1 _ _ hKA
  intro H locs ls hP hD hS hl
  dsimp only at hP hD hS ⊢
  refine vk_getf hx hb (hE _ _ hKA) hS hown (hts _ hl9) (fun _ h => h) hd ?_
  exact k H locs ls hP hD hS hl
theorem g_tb (hC : gC X l R D cl tys K cc nL Ts own) {t N : Nat} {F : Nat → Value} {i : Int32} (hT : ∀ A s, K A s → va_T .byte t N F A s s.heap) (j : Nat) (hj : i = nI j) (hjn : j < N) (hn : N < 2 ^ 31) (hd : decode cc pc = .ok (.baload, 1)) (k : gW X cl nL L f cells slots (pc + 1) lv (F j :: st)) : gW X cl nL L f cells slots pc lv (.int i :: .ref t :: st) := by
  obtain ⟨⟨p, l9, e, R9⟩, ⟨s, m, args, below, meth, c⟩, Q, A, D9⟩ := X
  obtain ⟨⟨hx, hb, hml, hown, hts⟩, hok, hKA, hA, h1, h2, h3⟩ := hC
  dsimp only at hx hb hml hown hts hKA hA h1 h2 h3
  subst h1 h2 h3
  have hK := hok.1 _ _ hKA
  intro H locs ls hP hD hS hl
  dsimp only at hP hD hS ⊢
  subst hj
  refine va_tb hx hb (hT _ _ hKA) hS (vp_in_nI hjn hn) rfl hd ?_
  rw [nI_clamp (Nat.lt_trans hjn hn)]
  exact k H locs ls hP hD hS hl
theorem g_tlen (hC : gC X l R D cl tys K cc nL Ts own) {t N : Nat} {F : Nat → Value} (hT : ∀ A s, K A s → va_T .byte t N F A s s.heap) (hd : decode cc pc = .ok (.arraylength, 1)) (k : gW X cl nL L f cells slots (pc + 1) lv (.int (nI N) :: st)) : gW X cl nL L f cells slots pc lv (.ref t :: st) := by
  obtain ⟨⟨p, l9, e, R9⟩, ⟨s, m, args, below, meth, c⟩, Q, A, D9⟩ := X
  obtain ⟨⟨hx, hb, hml, hown, hts⟩, hok, hKA, hA, h1, h2, h3⟩ := hC
  dsimp only at hx hb hml hown hts hKA hA h1 h2 h3
  subst h1 h2 h3
  have hK := hok.1 _ _ hKA
  intro H locs ls hP hD hS hl
  dsimp only at hP hD hS ⊢
  refine va_tlen hx hb (hT _ _ hKA) hS rfl hd ?_
  exact k H locs ls hP hD hS hl
theorem g_callVK (hC : gC X l R D cl tys K cc nL Ts own) {y : MethodName} {bytes : ByteArray} {maxL n index : Nat} {ret : Option FieldType} {ws : List Cond} {rm : Room} {As : List Value} {post : gPost} {C : String} {a : Nat} (hr : ∀ (A : Nat → Prop) (s : State) (H : Heap) (locs : List Loc), K A s → va_S A s.heap H locs → ∃ cell : Cell, H[a]? = some cell ∧ cell.vm.isStatics = false ∧ s.vm.findClass C = some cell.cls) (hM : gCt l D cl K y ws rm (.ref a :: As) L f post) (cw : CallW R X.2.1.1 X.2.1.2.2.1 own C index y bytes maxL ret ws rm rm.cells rm.slots n) (hn : As.length = n) (hst : (st.map fun v => v.category).sum ≤ 8) (hd : decode cc pc = .ok (.invokevirtual index, 3)) (hf9 : cells + rm.cells ≤ R.cells ∧ slots + rm.slots ≤ R.slots) (k : ∀ v L' f', post v L' f' → gW X cl nL L' f' (cells + rm.cells) (slots + rm.slots) (pc + 3) lv (gst v st)) : gW X cl nL L f cells slots pc lv (As.reverse ++ .ref a :: st) := by
  obtain ⟨⟨p, l9, e, R9⟩, ⟨s, m, args, below, meth, c⟩, Q, A, D9⟩ := X
  obtain ⟨⟨hx, hb, hml, hown, hts⟩, hok, hKA, hA, h1, h2, h3⟩ := hC
  dsimp only at hx hb hml hown hts hKA hA h1 h2 h3
  subst h1 h2 h3
  have hK := hok.1 _ _ hKA
  intro H locs ls hP hD hS hl
  dsimp only at hP hD hS ⊢
  refine g_run (va_runV (As := As) (rest := st) ⟨hx, hb, hml, hown, hts⟩ (hM H.size) cw ⟨gPre_blind hok, hr _ _ _ _ hKA hS, gPre_at hok hKA hP hD hS hA⟩ rfl hn hl.1 rfl (lv_room hst) hd hf9) hD hS hA (fun v L' f' hp H1 locs1 hP1 hD1 hS1 => ?_)
  exact k v L' f' hp H1 locs1 ls hP1 hD1 hS1 hl
theorem g_VK (hC : gC X l R D cl tys K cc nL Ts own) {y : MethodName} {bytes : ByteArray} {maxL index : Nat} {ret : Option FieldType} {ws ws' : List Cond} {rm : Room} {As : List Value} {L2 : List Nat} {f2 : Nat → va_E} {c2 s2 : Nat} {w : Value} (n : Nat) (hd : decode cc pc = .ok (.invokevirtual index, 3)) {C : String} {a : Nat} (hr : ∀ (A : Nat → Prop) (s : State) (H : Heap) (locs : List Loc), K A s → va_S A s.heap H locs → ∃ cell : Cell, H[a]? = some cell ∧ cell.vm.isStatics = false ∧ s.vm.findClass C = some cell.cls) (hT : GoodIn Ts (wsV own index C y ws)) (hw : ws = Cond.code y bytes maxL ret :: ws') (hyd : y.cls = C ∧ y.cls ≠ "java/lang/invoke/MethodHandle" ∧ y.cls ≠ "java/lang/invoke/VarHandle" ∧ (parseMethodDescriptor y.desc).map (fun d => d.parameters.length) = some n) (hRm : rm.frames + 1 ≤ R.frames ∧ 8 + (maxL + 11) + rm.locals ≤ R.locals) (hn : As.length = n) (hst : (st.map fun v => v.category).sum ≤ 8) (hf9 : cells + rm.cells ≤ R.cells ∧ slots + rm.slots ≤ R.slots) (hc2 : cells + rm.cells = c2) (hs2 : slots + rm.slots = s2) (hM : gCt l D cl K y ws rm (.ref a :: As) L f (pE (some w) L2 f2)) (k : gW X cl nL L2 f2 c2 s2 (pc + 3) lv (w :: st)) : gW X cl nL L f cells slots pc lv (As.reverse ++ .ref a :: st) :=
  g_callVK hC hr hM (cwV n hC.1.2.2.2.2 hT hw rfl rfl hyd hRm) hn hst hd hf9 (fun v L' f' hp => by obtain ⟨rfl, rfl, rfl⟩ := hp; subst hc2 hs2; exact k)
end GWR
/-- what is known for the texts: besides gKK, the formatter that a wrong index would ask for -/
def gKS (D : va_G) (cy adK adV : Nat → Nat) : gKt := fun A s => gKK D cy adK adV A s ∧ va_Zq "jdk/internal/util/Preconditions" "SIOOBE_FORMATTER" "Ljava/util/function/BiFunction;" A s s.heap
theorem gKS_ok {D : va_G} {cy adK adV : Nat → Nat} : gKok D vwCl (cyT cy) (gKS D cy adK adV) := by
  refine ⟨fun A s h => gKK_ok.1 A s h.1, fun A A1 s U h hW hz hk hA => ⟨gKK_ok.2 A A1 s U h.1 hW hz hk hA, ?_⟩⟩
  exact (va_Zq.moved hW.alike (va_Zq.kept h.2 hk)).narrow hA
theorem gCt.K {l : Launch} {D : va_G} {cl : List vw_C} {K K' : gKt} {y : MethodName} {ws : List Cond} {rm : Room} {av : List Value} {L : List Nat} {f : Nat → va_E} {post : gPost} (h : gCt l D cl K y ws rm av L f post) (hK : ∀ A s, K' A s → K A s) : gCt l D cl K' y ws rm av L f post := by
  intro sz
  refine MetFree.mono (h sz) (fun a s hp => ?_) (fun _ _ _ _ _ _ => trivial) (fun _ _ _ _ _ hq => hq)
  obtain ⟨p1, p2, p3, p4, p5⟩ := hp
  exact ⟨p1, p2, p3, hK _ _ p4, p5⟩
section KSP
variable {D : va_G} {cy adK adV : Nat → Nat}
theorem gKS_K : ∀ A s, gKS D cy adK adV A s → gKK D cy adK adV A s := fun _ _ h => h.1
theorem gKS_T {i : Nat} (hi : i < 8) : ∀ A s, gKS D cy adK adV A s → va_T .byte (adV i) (kLen.getD i 0) (fun j => .int ((kByt.getD i []).getD j 0)) A s s.heap := fun A s h => (h.1.2.2.2.2.2.2.2.1.1 i hi).2.2.2
theorem gKS_c {i : Nat} (hi : i < 8) : ∀ A s, gKS D cy adK adV A s → va_OF "java/lang/String" "coder" "B" (.int 0) (adK i) A s s.heap := fun A s h => (h.1.2.2.2.2.2.2.2.1.1 i hi).2.1
theorem gKS_v {i : Nat} (hi : i < 8) : ∀ A s, gKS D cy adK adV A s → va_OF "java/lang/String" "value" "[B" (.ref (adV i)) (adK i) A s s.heap := fun A s h => (h.1.2.2.2.2.2.2.2.1.1 i hi).2.2.1
theorem gKS_r {i : Nat} (hi : i < 8) : ∀ (A : Nat → Prop) (s : State) (H : Heap) (locs : List Loc), gKS D cy adK adV A s → va_S A s.heap H locs → ∃ cell : Cell, H[adK i]? = some cell ∧ cell.vm.isStatics = false ∧ s.vm.findClass "java/lang/String" = some cell.cls := fun A s H locs h hS => vk_recv h.1.2.2.2.2.2.2.2.1 hi hS
theorem gKS_R {i : Nat} (hi : i < 8) : ∀ A s, gKS D cy adK adV A s → vk_R "KeptTerms" (kIx.getD i 0) (kTx.getD i "") (adK i) s := fun A s h => h.1.2.2.2.2.2.2.2.2.1 i hi
theorem gKS_z : ∀ A s, gKS D cy adK adV A s → va_Z "java/lang/String" "COMPACT_STRINGS" "Z" (.int 1) A s s.heap := fun A s h => h.1.2.2.2.2.2.2.2.2.2
theorem gKS_q : ∀ A s, gKS D cy adK adV A s → va_Zq "jdk/internal/util/Preconditions" "SIOOBE_FORMATTER" "Ljava/util/function/BiFunction;" A s s.heap := fun A s h => h.2
end KSP
theorem kB_c : ∀ i, i < 8 → ∀ j, j < kLen.getD i 0 → ((((kByt.getD i []).getD j 0) &&& nI 255).toUInt32 % 65536).toInt32 = (kByt.getD i []).getD j 0 ∧ narrow .char (.int ((kByt.getD i []).getD j 0)) = .int ((kByt.getD i []).getD j 0) := by decide
theorem kL_b : ∀ i, i < 8 → kLen.getD i 0 ≤ 4 := by decide
/-- a row spells text i -/
def spT (h : Nat → Int32) (n i : Nat) : Prop := n = kLen.getD i 0 ∧ ∀ j, j < n → h j = (kByt.getD i []).getD j 0
