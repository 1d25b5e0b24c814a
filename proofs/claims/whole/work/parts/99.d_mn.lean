section MNW
variable {X : gX} {l : Launch} {R : Room} {D : va_G} {cl : List vw_C} {tys : List (ClassId × FieldType)} {K : gKt} {cc : ByteArray} {nL : Nat} {Ts : List Cond} {own : String} {L : List Nat} {f : Nat → va_E} {cells slots pc : Nat} {lv lv' : List (Nat × Value)} {st : List Value}
theorem g_pick (ks : List Nat) (hl : lv_pick lv ks = lv') (k : gW X cl nL L f cells slots pc lv' st) : gW X cl nL L f cells slots pc lv st := fun H locs ls hP hD hS h => k H locs ls hP hD hS (lv_sub h ks hl)
/-- a contract of a method with handlers -/
theorem gCt.ofH {y : MethodName} {ws ws' : List Cond} {rm : Room} {av : List Value} {post : gPost} {maxL : Nat} {ret : Option FieldType} {hh : List (Nat × Nat × Nat × Nat)}
    (hok : gKok D cl tys K) (hy : plainName y.cls = true) (hw : ws = Cond.codeWith y cc maxL ret hh :: ws') (hn : Nat.ble (lg_sl av).length maxL = true)
    (body : ∀ X : gX, gC X l rm D cl tys K cc maxL ws y.cls → gR X D cl ret rm.cells rm.slots post → X.2.1.2.2.2.2.2.exceptionTable.toList = tableOf hh → gW X cl maxL L f 0 0 0 (lv_args 0 av) []) : gCt l D cl K y ws rm av L f post := by
  intro sz
  have h : vx_Met l y ws rm (va_Pc av (gPre D cl K L f sz)) (gQ D cl (va_A (va_pl L f) sz) post) (fun _ _ _ => False) rm.cells rm.slots (va_A (va_pl L f) sz) := by
    refine vx_ofWH (cc := cc) (maxL := maxL) (ret := ret) (hh := hh) hy hw ?_
    intro p e s m args below meth c s₁ B hml hv
    obtain ⟨rfl, hsz, hP, hK, hD0⟩ := hv
    have hts := atoms_spec (ws := ws) B.pre
    have hown : s.vm.findClass y.cls = some m.cls := findClass_of_methodNamed B.named
    have htb : c.exceptionTable.toList = tableOf hh := vx_table (x := y) B (hts _ (by rw [hw]; exact List.mem_cons_self))
    subst hsz
    have hD := hD0.self (sz := s.heap.size)
    have hA : ∀ q : Nat, s.heap.size ≤ q → va_A (va_pl L f) s.heap.size q := fun q h => Or.inr h
    have hl := lv_entry av (n := maxL) (Nat.le_of_ble_eq_true hn)
    rw [lg_entry_eq]
    refine vx_ret ?_
    exact body ((p, l, e, rm), (s, m, av.toArray, below, meth, c), MQ below (gQ D cl (va_A (va_pl L f) s.heap.size) post) av.toArray s rm.cells rm.slots (va_A (va_pl L f) s.heap.size), va_A (va_pl L f) s.heap.size, D)
      ⟨⟨B.exec, B.bytes, hml, hown, hts⟩, hok, hK, hA, rfl, rfl, rfl⟩ ⟨B.returns, B.notSynchronized, rfl⟩ htb s.heap [] _ hP hD va_S.rf hl
  refine MetFree.mono h (fun a s hp => hp) (fun _ _ _ _ _ _ => trivial) (fun _ _ _ _ _ hq => ?_)
  rcases hq with hq | ⟨q, _, E, ce, L', hx, _⟩
  · exact hq
  · exact hx.elim
/-- where a method has thrown E, its world as it was -/
def gXC (E : String) (D : va_G) (cl : List vw_C) (A : Nat → Prop) (L : List Nat) (f : Nat → va_E) : String → State → State → Prop := fun E' st t => E' = E ∧ va_P D cl (va_pl L f) t.heap ∧ va_D A (va_pl L f) ∧ va_F A st t
/-- a call that throws, caught here -/
theorem g_VX (hC : gC X l R D cl tys K cc nL Ts own) {y : MethodName} {bytes : ByteArray} {maxL index : Nat} {ret : Option FieldType} {ws ws' : List Cond} {rm : Room} {As : List Value} {c2 s2 : Nat} {E name : String} (n : Nat) (hd : decode cc pc = .ok (.invokevirtual index, 3)) {C : String} {T : u_T} {N ci a : Nat} {fs : List Value} (hc : cl[ci]? = some (C, T, N)) (hL : a ∈ L) (hf : f a = .inr (ci, fs)) (hT : GoodIn Ts (wsV own index C y ws)) (hw : ws = Cond.code y bytes maxL ret :: ws') (hyd : y.cls = C ∧ y.cls ≠ "java/lang/invoke/MethodHandle" ∧ y.cls ≠ "java/lang/invoke/VarHandle" ∧ (parseMethodDescriptor y.desc).map (fun d => d.parameters.length) = some n) (hRm : rm.frames + 1 ≤ R.frames ∧ 8 + (maxL + 11) + rm.locals ≤ R.locals) (hn : As.length = n) (hst : (st.map fun v => v.category).sum ≤ 8) (hf9 : cells + rm.cells ≤ R.cells ∧ slots + rm.slots ≤ R.slots) (hc2 : cells + rm.cells = c2) (hs2 : slots + rm.slots = s2)
    (hM : ∀ sz, vx_Met l y ws rm (va_Pc (.ref a :: As) (gPre D cl K L f sz)) (fun _ _ _ _ => False) (gXC E D cl (va_A (va_pl L f) sz) L f) rm.cells rm.slots (va_A (va_pl L f) sz))
    {x : ExceptionTableEntry} (htb : X.2.1.2.2.2.2.2.exceptionTable.toList = [x]) (hcov : covers x pc = true) (h0 : x.catchType ≠ 0) (hlink : Cond.classLink own x.catchType name ∈ Ts) (hcast : ∀ A s, K A s → va_Nw (.castable E name) s) (k : ∀ q, gW X cl nL L f c2 s2 x.handlerPc lv [.ref q]) : gW X cl nL L f cells slots pc lv (As.reverse ++ .ref a :: st) := by
  have cw := cwV (bytes := bytes) (maxL := maxL) (ret := ret) (R := R) n hC.1.2.2.2.2 hT hw rfl rfl hyd hRm
  subst hc2 hs2
  obtain ⟨⟨p, l9, e, R9⟩, ⟨s, m, args, below, meth, c⟩, Q, A, D9⟩ := X
  obtain ⟨⟨hx, hb, hml, hown, hts⟩, hok, hKA, hA, h1, h2, h3⟩ := hC
  dsimp only at hx hb hml hown hts hKA hA h1 h2 h3 htb cw
  subst h1 h2 h3
  have hK := hok.1 _ _ hKA
  intro H locs ls hP hD hS hl
  dsimp only at hP hD hS ⊢
  obtain ⟨q0, he⟩ := pl_at hL hf
  have hr := vx_runV (As := As) (rest := st) (g := F0 m pc ls (As.reverse ++ .ref a :: st)) ⟨hx, hb, hml, hown, hts⟩ (hM H.size) cw ⟨gPre_blind hok, va_recv hK hP hc he, gPre_at hok hKA hP hD hS hA⟩ rfl hn hl.1 rfl (lv_room hst) hd hf9 (locs := locs) (meth := meth) (e := e) (below := below) (cells := cells) (slots := slots)
  intro T hT XX
  rcases hr T hT XX with ⟨v, st₀, t, T', Lc, h0, X', hL, e1, e2, hq, stp⟩ | ⟨q, st₀, t, T', Lc, E', ce, h00, X', hLc, e1, e2, hxc, hce, hcv, hcl, stp⟩
  · exact hq.elim
  · obtain ⟨rfl, hP1, hD1, hz, hk⟩ := hxc
    have hF := pl_free hD hS hA
    rw [h00] at hz hk
    have W1 := vx_catch (p := p) (e := e) (below := below) (meth := meth) (R := R9) (locs := locs ++ Lc) (cells := cells + rm.cells) (slots := slots + rm.slots) (Q := Q) (ls := ls) (rest := st) (H := T'.heap) hown [] x [] htb (fun _ h => nomatch h) hcov h0 (hts _ hlink) (va_Nw.use rfl (hcast _ _ hKA)) (by rw [e1]; exact hce) hcv hcl (k q T'.heap (locs ++ Lc) ls (by rw [e1]; exact hP1) (hD1.weaken (fun _ q _ h => hF q.1 h))
      ⟨Nat.le_trans hS.1 (by rw [e1]; exact hz), fun q h1 h2 => by rw [e1, hk q (Nat.lt_of_lt_of_le h1 hS.1) (fun z => h2 (hF q z))]; exact hS.2.1 q h1 h2, fun q hq => by
        rcases List.mem_append.mp hq with h | h
        · exact hS.2.2 q h
        · exact hF _ (hLc q h)⟩ hl)
    obtain ⟨t2, a1, b1⟩ := W1 T' rfl X'
    exact ⟨t2, stp.trans a1, b1⟩
/-- a static call of a method with handlers -/
theorem g_SW (hC : gC X l R D cl tys K cc nL Ts own) {y : MethodName} {bytes : ByteArray} {maxL index : Nat} {ret : Option FieldType} {hh : List (Nat × Nat × Nat × Nat)} {ws ws' : List Cond} {rm : Room} {As : List Value} {L2 : List Nat} {f2 : Nat → va_E} {c2 s2 : Nat} {w : Value} (n : Nat) (hd : decode cc pc = .ok (.invokestatic index, 3)) (hT : GoodIn Ts (va_wsS own index y ws)) (hw : ws = Cond.codeWith y bytes maxL ret hh :: ws') (hyd : y.cls ≠ "java/lang/invoke/MethodHandle" ∧ y.cls ≠ "java/lang/invoke/VarHandle" ∧ (parseMethodDescriptor y.desc).map (fun d => d.parameters.length) = some n) (hRm : rm.frames + 1 ≤ R.frames ∧ 8 + (maxL + 11) + rm.locals ≤ R.locals) (hn : As.length = n) (hst : (st.map fun v => v.category).sum ≤ 8) (hf9 : cells + rm.cells ≤ R.cells ∧ slots + rm.slots ≤ R.slots) (hc2 : cells + rm.cells = c2) (hs2 : slots + rm.slots = s2) (hM : gCt l D cl K y ws rm As L f (pE (some w) L2 f2)) (k : gW X cl nL L2 f2 c2 s2 (pc + 3) lv (w :: st)) : gW X cl nL L f cells slots pc lv (As.reverse ++ st) := by
  have cw := vx_cwSW (bytes := bytes) (maxL := maxL) (ret := ret) (hh := hh) (R := R) n hC.1.2.2.2.2 hT hw rfl rfl hyd hRm
  subst hc2 hs2
  obtain ⟨⟨p, l9, e, R9⟩, ⟨s, m, args, below, meth, c⟩, Q, A, D9⟩ := X
  obtain ⟨⟨hx, hb, hml, hown, hts⟩, hok, hKA, hA, h1, h2, h3⟩ := hC
  dsimp only at hx hb hml hown hts hKA hA h1 h2 h3 cw
  subst h1 h2 h3
  have hK := hok.1 _ _ hKA
  intro H locs ls hP hD hS hl
  dsimp only at hP hD hS ⊢
  refine g_run (vx_runSW (As := As) (rest := st) ⟨hx, hb, hml, hown, hts⟩ (hM H.size) cw ⟨gPre_blind hok, gPre_at hok hKA hP hD hS hA⟩ rfl hn hl.1 rfl (lv_room hst) hd hf9) hD hS hA (fun v L' f' hp H1 locs1 hP1 hD1 hS1 => ?_)
  obtain ⟨rfl, rfl, rfl⟩ := hp
  exact k H1 locs1 ls hP1 hD1 hS1 hl
end MNW
def kDx : List MethodName := [⟨"java/lang/RuntimeException", "<init>", "(Ljava/lang/String;)V"⟩, ⟨"java/lang/Exception", "<init>", "(Ljava/lang/String;)V"⟩, ⟨"java/lang/Throwable", "<init>", "(Ljava/lang/String;)V"⟩]
/-- what is known where mean() may throw: besides gKS, Throwable's statics, the text, the exception's own cast -/
def gKM (D : va_G) (cy adK adV : Nat → Nat) (sa : Nat) : gKt := fun A s => gKS D cy adK adV A s ∧ vx_Zq Bundle.tN "UNASSIGNED_STACK" Bundle.steD A s s.heap ∧ vx_Zq Bundle.tN "SUPPRESSED_SENTINEL" Bundle.listD A s s.heap ∧ vk_R "KeptTerms" 201 "no add() or find() was done" sa s ∧ va_Nw (.castable "java/lang/ArithmeticException" "java/lang/ArithmeticException") s ∧ ∀ y ∈ kDx, va_Nw (.declares y) s
section MN
variable {l : Launch} {D : va_G} {cy adK adV : Nat → Nat} {sa M u : Nat} {S : aS} {b : xB} {L : List Nat} {f : Nat → va_E}
theorem gKM_ok : gKok D vwCl (cyT cy) (gKM D cy adK adV sa) := by
  refine ⟨fun A s h => gKS_ok.1 A s h.1, fun A A1 s U h hW hz hk hA => ⟨gKS_ok.2 A A1 s U h.1 hW hz hk hA, ?_, ?_, vk_R.warm hW h.2.2.2.1, va_Nw.warmC hW h.2.2.2.2.1, fun y hy => va_Nw.warmD hW (h.2.2.2.2.2 y hy)⟩⟩
  · exact (vx_Zq.moved hW.alike (vx_Zq.kept h.2.1 hk)).narrow hA
  · exact (vx_Zq.moved hW.alike (vx_Zq.kept h.2.2.1 hk)).narrow hA
theorem lg_cmp_0 {x y : Int64} (h : lg_cmp x y = 0) : x = y := by
  unfold lg_cmp at h
  split at h
  · exact absurd h (by decide)
  · split at h
    · assumption
    · exact absurd h (by decide)
set_option maxRecDepth 20000 in
set_option maxHeartbeats 4000000 in
theorem x_mean1 (hL : M ∈ L) (hf : f M = .inr (6, ktF S b)) (h23 : S.1 23 < 2 ^ 62) (h24 : S.1 24 < 2 ^ 31) (hz : ¬ S.1 24 = 0) : gCt l D vwCl (gKK D cy adK adV) yX9_mean wsX9_mean { frames := 0, cells := 0, slots := 0, locals := 0 } [.ref M] L f (pE (some (.int (nI (S.1 23 / S.1 24)))) L f) := by
  refine gCt.of gKK_ok (by decide) rfl rfl (fun X hC hR hnm => ?_)
  have hC : gC X l _ D vwCl (cyT cy) (gKK D cy adK adV) cX9_mean 1 wsX9_mean RX9 := hC
  show gW X vwCl 1 L f 0 0 0 [(0, .ref M)] []
  refine g_aload_n hC dX9_mean_0 rfl 0 rfl (Or.inr ⟨_, rfl⟩) ?_
  refine g_get hC (by decide +kernel) rfl hL hf 5 (by decide) (by decide +kernel) (Or.inl rfl) rfl dX9_mean_1 ?_
  refine g_lconst hC dX9_mean_4 (v := lN 0) (by decide) ?_
  refine g_lcmp hC dX9_mean_5 ?_
  refine g_if_ne (tgt := 19) hC dX9_mean_6 (by decide) (fun _ => ?_) (fun h9 => absurd ((pk_lEQ (a := S.1 24) (b := 0) (by omega) (by decide)).mp (lg_cmp_0 h9)) hz)
  refine g_aload_n hC dX9_mean_19 rfl 0 rfl (Or.inr ⟨_, rfl⟩) ?_
  refine g_get hC (by decide +kernel) rfl hL hf 4 (by decide) (by decide +kernel) (Or.inl rfl) rfl dX9_mean_20 ?_
  refine g_aload_n hC dX9_mean_23 rfl 0 rfl (Or.inr ⟨_, rfl⟩) ?_
  refine g_get hC (by decide +kernel) rfl hL hf 5 (by decide) (by decide +kernel) (Or.inl rfl) rfl dX9_mean_24 ?_
  refine g_ldivN (a := S.1 23) (b := S.1 24) hC (by omega) (by omega) (by omega) dX9_mean_27 ?_
  refine g_l2i hC dX9_mean_28 (v := nI ((S.1 23) / (S.1 24))) (lN_i _) ?_
  exact g_iret hC hR dX9_mean_29 ⟨rfl, rfl, rfl⟩
set_option maxRecDepth 20000 in
set_option maxHeartbeats 4000000 in
theorem x_mean0 (hL : M ∈ L) (hf : f M = .inr (6, ktF S b)) (hz : S.1 24 = 0) (hlt : l.stackTraces = false) (sz : Nat) : vx_Met l yX9_mean wsX9_mean { frames := 6, cells := 1, slots := 6, locals := 82 } (va_Pc [.ref M] (gPre D vwCl (gKM D cy adK adV sa) L f sz)) (fun _ _ _ _ => False) (gXC "java/lang/ArithmeticException" D vwCl (va_A (va_pl L f) sz) L f) 1 6 (va_A (va_pl L f) sz) := by
  refine vx_ofW (cc := cX9_mean) (maxL := 1) (ret := some .int) (by decide) rfl ?_
  intro p e s m args below meth c s₁ B hml ht hv
  obtain ⟨rfl, hsz, hP, hK, hD0⟩ := hv
  have hts := atoms_spec (ws := wsX9_mean) B.pre
  have hown : s.vm.findClass RX9 = some m.cls := findClass_of_methodNamed B.named
  subst hsz
  have hD := hD0.self (sz := s.heap.size)
  have hA : ∀ q : Nat, s.heap.size ≤ q → va_A (va_pl L f) s.heap.size q := fun q h => Or.inr h
  have hl9 := lv_entry [Value.ref M] (n := 1) (Nat.le_of_ble_eq_true rfl)
  rw [lg_entry_eq]
  have hC : gC ((p, l, e, { frames := 6, cells := 1, slots := 6, locals := 82 }), (s, m, [Value.ref M].toArray, below, meth, c), vx_MQ below (fun _ _ _ _ => False) (gXC "java/lang/ArithmeticException" D vwCl (va_A (va_pl L f) s.heap.size) L f) [Value.ref M].toArray s 1 6 (va_A (va_pl L f) s.heap.size), va_A (va_pl L f) s.heap.size, D) l { frames := 6, cells := 1, slots := 6, locals := 82 } D vwCl (cyT cy) (gKM D cy adK adV sa) cX9_mean 1 wsX9_mean RX9 := ⟨⟨B.exec, B.bytes, hml, hown, hts⟩, gKM_ok, hK, hA, rfl, rfl, rfl⟩
  have k : gW ((p, l, e, { frames := 6, cells := 1, slots := 6, locals := 82 }), (s, m, [Value.ref M].toArray, below, meth, c), vx_MQ below (fun _ _ _ _ => False) (gXC "java/lang/ArithmeticException" D vwCl (va_A (va_pl L f) s.heap.size) L f) [Value.ref M].toArray s 1 6 (va_A (va_pl L f) s.heap.size), va_A (va_pl L f) s.heap.size, D) vwCl 1 L f 0 0 0 [(0, .ref M)] [] := by
    refine g_aload_n hC dX9_mean_0 rfl 0 rfl (Or.inr ⟨_, rfl⟩) ?_
    refine g_get hC (by decide +kernel) rfl hL hf 5 (by decide) (by decide +kernel) (Or.inl rfl) rfl dX9_mean_1 ?_
    refine g_lconst hC dX9_mean_4 (v := lN 0) (by decide) ?_
    refine g_lcmp hC dX9_mean_5 ?_
    refine g_val (w := .int (nI 0)) ((congrArg (fun z => Value.int (lg_cmp (lN z) (lN 0))) hz).trans (congrArg Value.int (lg_cmp_self _))) ?_
    refine g_ifN_ne (a := 0) (tgt := 19) hC dX9_mean_6 (by decide) (by decide) (fun h => absurd rfl h) (fun _ => ?_)
    intro H locs ls hP1 hD1 hS1 hl1
    dsimp only at hP1 hD1 hS1 ⊢
    refine vx_throwS (own := RX9) (cls := "java/lang/ArithmeticException") (text := "no add() or find() was done") (names := ["java/lang/RuntimeException", "java/lang/Exception"]) (ik := 199) (is := 201) (ic := 203) (sa := sa) (A := va_A (va_pl L f) s.heap.size) B.exec B.bytes hlt hown (by decide +kernel) (by decide +kernel) (hts _ (by decide +kernel)) (hts _ (by decide +kernel)) hK.2.2.2.1 (vx_hat (B := [.castable "java/lang/ArithmeticException" "java/lang/ArithmeticException", .declares ⟨"java/lang/RuntimeException", "<init>", "(Ljava/lang/String;)V"⟩, .declares ⟨"java/lang/Exception", "<init>", "(Ljava/lang/String;)V"⟩, .declares ⟨"java/lang/Throwable", "<init>", "(Ljava/lang/String;)V"⟩]) (fun w hw => hts w (List.mem_cons_of_mem _ (List.mem_append_right _ hw))) (by decide +kernel) (vx_c (va_Nw.use rfl hK.2.2.2.2.1) (vx_c (va_Nw.use rfl (hK.2.2.2.2.2 _ (by decide))) (vx_c (va_Nw.use rfl (hK.2.2.2.2.2 _ (by decide))) (vx_c (va_Nw.use rfl (hK.2.2.2.2.2 _ (by decide))) vx_n))))) (by decide +kernel) hK.2.1 hK.2.2.1 hS1 (hl1.1.trans hml.symm) dX9_mean_9 dX9_mean_12 dX9_mean_13 dX9_mean_15 dX9_mean_18 (fun x hx => (ht x hx).elim) (by decide) (by decide) (by decide) (by decide) B.notSynchronized (fun t _ h1 h2 => ⟨rfl, hP1.kept (fun k q hk => h2 q.1 (vx_lt hP1 hk)), hD1, Nat.le_trans hS1.1 h1, fun q hq hn => (h2 q (Nat.lt_of_lt_of_le hq hS1.1)).trans (hS1.2.1 q hq hn)⟩) hS1.2.2 (by decide) (by decide)
  exact k s.heap [] _ hP hD va_S.rf hl9
set_option maxRecDepth 20000 in
set_option maxHeartbeats 4000000 in
theorem y_lm0 (hL : M ∈ L) (hf : f M = .inr (6, ktF S b)) (hz : S.1 24 = 0) (hlt : l.stackTraces = false) : gCt l D vwCl (gKM D cy adK adV sa) yL_mean wsL_mean { frames := 7, cells := 1, slots := 6, locals := 110 } [.ref M, .ref u] L f (pE (some (.int (nI 1))) L f) := by
  refine gCt.ofH gKM_ok (by decide) rfl rfl (fun X hC hR htb => ?_)
  have hC : gC X l _ D vwCl (cyT cy) (gKM D cy adK adV sa) cL_mean 3 wsL_mean RL := hC
  show gW X vwCl 3 L f 0 0 0 [(0, .ref M), (1, .ref u)] []
  refine g_aload_n hC dL_mean_0 rfl 1 rfl (Or.inr ⟨_, rfl⟩) ?_
  refine g_iconst hC dL_mean_1 (v := nI 0) (by decide) ?_
  refine g_aload_n hC dL_mean_2 rfl 0 rfl (Or.inr ⟨_, rfl⟩) ?_
  refine g_VX (As := []) (st := [.int (nI 0), .ref u]) (E := "java/lang/ArithmeticException") (name := "java/lang/ArithmeticException") hC 0 dL_mean_3 (C := RX9) (ci := 6) rfl hL hf gL_mean_X9_mean rfl (by decide +kernel) ⟨Nat.le_of_ble_eq_true rfl, Nat.le_of_ble_eq_true rfl⟩ rfl (Nat.le_of_ble_eq_true rfl) ⟨Nat.le_of_ble_eq_true rfl, Nat.le_of_ble_eq_true rfl⟩ (c2 := 1) (s2 := 6) rfl rfl (x_mean0 hL hf hz hlt) (htb.trans rfl) (by decide) (by decide) (by decide +kernel) (fun _ _ h => h.2.2.2.2.1) (fun q => ?_)
  show gW X vwCl 3 L f 1 6 11 [(0, .ref M), (1, .ref u)] [.ref q]
  refine g_astore_n hC dL_mean_11 rfl (by decide) rfl (Or.inr ⟨_, rfl⟩) ?_
  refine g_iconst hC dL_mean_12 (v := nI 1) (by decide) ?_
  exact g_iret hC hR dL_mean_13 ⟨rfl, rfl, rfl⟩
set_option maxRecDepth 20000 in
set_option maxHeartbeats 4000000 in
theorem y_lm1 (hL : M ∈ L) (hf : f M = .inr (6, ktF S b)) (h23 : S.1 23 < 2 ^ 62) (h24 : S.1 24 < 2 ^ 31) (hz : ¬ S.1 24 = 0) {gl : Nat → Int64} (hu : u ∈ L) (hfu : f u = .inl (cy 6, 1, .inr (.inl gl))) : gCt l D vwCl (gKM D cy adK adV sa) yL_mean wsL_mean { frames := 7, cells := 0, slots := 0, locals := 110 } [.ref M, .ref u] L f (pE (some (.int (nI 0))) L (va_up f u (.inl (cy 6, 1, .inr (.inl (vp_updL gl 0 (nI (S.1 23 / S.1 24)).toInt64)))))) := by
  refine gCt.ofH gKM_ok (by decide) rfl rfl (fun X hC hR htb => ?_)
  have hC : gC X l _ D vwCl (cyT cy) (gKM D cy adK adV sa) cL_mean 3 wsL_mean RL := hC
  show gW X vwCl 3 L f 0 0 0 [(0, .ref M), (1, .ref u)] []
  refine g_aload_n hC dL_mean_0 rfl 1 rfl (Or.inr ⟨_, rfl⟩) ?_
  refine g_iconst hC dL_mean_1 (v := nI 0) (by decide) ?_
  refine g_aload_n hC dL_mean_2 rfl 0 rfl (Or.inr ⟨_, rfl⟩) ?_
  refine g_V (As := []) (st := [.int (nI 0), .ref u]) hC 0 dL_mean_3 (C := RX9) (ci := 6) rfl hL hf gL_mean_X9_mean rfl (by decide +kernel) ⟨Nat.le_of_ble_eq_true rfl, Nat.le_of_ble_eq_true rfl⟩ rfl (Nat.le_of_ble_eq_true rfl) ⟨Nat.le_of_ble_eq_true rfl, Nat.le_of_ble_eq_true rfl⟩ (c2 := 0) (s2 := 0) rfl rfl ((x_mean1 hL hf h23 h24 hz).K (fun _ _ h => h.1.1)) ?_
  refine g_i2l hC dL_mean_6 rfl ?_
  refine g_last hC 6 rfl hu hfu 0 rfl (by decide) (by decide) dL_mean_7 ?_
  refine g_goto (tgt := 14) hC dL_mean_8 (by decide) ?_
  refine g_iconst hC dL_mean_14 (v := nI 0) (by decide) ?_
  exact g_iret hC hR dL_mean_15 ⟨rfl, rfl, rfl⟩
end MN
section LCM
variable {X : gX} {l : Launch} {D : va_G} {cy adK adV : Nat → Nat} {sa x o u bs N : Nat} {ad : Nat → Nat} {xs : Nat → Int32} {gl : Nat → Int64} {k : Nat} {S : aS} {b : xB} {Lx : List Nat} {F : Nat → va_E}
set_option maxRecDepth 20000 in
set_option maxHeartbeats 4000000 in
theorem lc_mean2 (hC : gC X l room_1 D vwCl (cyT cy) (gKS D cy adK adV) cL_law 7 wsL_law RL) (hI : lwI cy x o u ad k S b Lx F gl) (hk : k ≤ 511) (t : Int32) (ht : t = nI ((s_mean S).2.1 0)) (hgl : t = 0 → gl 0 = (s_mean S).1.toInt64) (kk : ∀ S' b' L' F' gl', lwI cy x o u ad (k + 1) S' b' L' F' gl' → gW X vwCl 7 (L' ++ (mL o ad ++ [u])) F' (40 + 3 * (k + 1) + rmC aS0 S') (930000 + 400 * (k + 1) + rmS aS0 S') 1261 [(4, .int (nI (6 * k))), (3, .ref u), (2, .ref o), (1, .ref x), (0, .ref bs)] []) : gW X vwCl 7 (Lx ++ (mL o ad ++ [u])) F (40 + 3 * k + rmC aS0 S + 1) (930000 + 400 * k + rmS aS0 S + 6) 1222 [(4, .int (nI (6 * k))), (3, .ref u), (2, .ref o), (1, .ref x), (0, .ref bs)] [.int t] := by
  obtain ⟨h1, h2, h3, h4, h5, h7, h8, h9, h10, h11⟩ := hI
  have hL9 : LI (k + 1) (s_mean S).2 := h1.st q_mean
  have hmo : mo S (s_mean S).2 := mo.qt q_mean
  have hra := rm_add h9 hmo
  have hbd := rm_bd hL9 (by omega)
  have hx' : xR cy (s_mean S).2 b Lx F := by
    unfold s_mean
    split
    · exact h2
    · exact h2
  have hp23 : (s_mean S).2.1 23 = S.1 23 ∧ (s_mean S).2.1 24 = S.1 24 := by unfold s_mean; (repeat' split) <;> exact ⟨rfl, rfl⟩
  refine g_istore hC dL_law_1222 (by decide) rfl ?_
  show gW X vwCl 7 (Lx ++ (mL o ad ++ [u])) F (40 + 3 * k + rmC aS0 S + 1) (930000 + 400 * k + rmS aS0 S + 6) 1224 [(5, .int t), (4, .int (nI (6 * k))), (3, .ref u), (2, .ref o), (1, .ref x), (0, .ref bs)] []
  refine g_aload_n hC dL_law_1224 rfl 3 rfl (Or.inr ⟨_, rfl⟩) ?_
  refine g_ref (As := []) (st := []) hC 0 dL_law_1225 h4 gL_law_X10_mean rfl (by decide +kernel) ⟨Nat.le_of_ble_eq_true rfl, Nat.le_of_ble_eq_true rfl⟩ rfl (Nat.le_of_ble_eq_true rfl) ⟨(show (40 + 3 * k + rmC aS0 S + 1) + 0 ≤ 601024 by omega), (show (930000 + 400 * k + rmS aS0 S + 6) + 0 ≤ 7293034 by omega)⟩ (c2 := 40 + 3 * k + rmC aS0 S + 1) (s2 := 930000 + 400 * k + rmS aS0 S + 6) rfl rfl (c_mean gKS_ok h8 h1.1 (by omega) (by omega)) (fun f5 q1 q2 q3 => ?_)
  refine g_istore hC dL_law_1228 (by decide) rfl ?_
  show gW X vwCl 7 (Lx ++ (mL o ad ++ [u])) f5 (40 + 3 * k + rmC aS0 S + 1) (930000 + 400 * k + rmS aS0 S + 6) 1230 [(6, .int (s_mean S).1), (5, .int t), (4, .int (nI (6 * k))), (3, .ref u), (2, .ref o), (1, .ref x), (0, .ref bs)] []
  refine g_aload_n hC dL_law_1230 rfl 4 rfl (Or.inr ⟨_, rfl⟩) ?_
  refine g_ref (As := []) (st := []) hC 0 dL_law_1231 q1 gL_law_X10_thrown rfl (by decide +kernel) ⟨Nat.le_of_ble_eq_true rfl, Nat.le_of_ble_eq_true rfl⟩ rfl (Nat.le_of_ble_eq_true rfl) ⟨(show (40 + 3 * k + rmC aS0 S + 1) + 0 ≤ 601024 by omega), (show (930000 + 400 * k + rmS aS0 S + 6) + 0 ≤ 7293034 by omega)⟩ (c2 := 40 + 3 * k + rmC aS0 S + 1) (s2 := 930000 + 400 * k + rmS aS0 S + 6) rfl rfl (c_thrown gKS_ok h8) (fun f6 r1 r2 r3 => ?_)
  have hu6 : f6 u = .inl (cy 6, 1, .inr (.inl gl)) := (r3.trans q3).trans h5
  have K2 : gW X vwCl 7 (Lx ++ (mL o ad ++ [u])) f6 (40 + 3 * k + rmC aS0 S + 1) (930000 + 400 * k + rmS aS0 S + 6) 1258 [(6, .int (s_mean S).1), (5, .int t), (4, .int (nI (6 * k))), (3, .ref u), (2, .ref o), (1, .ref x), (0, .ref bs)] [] := by
    refine g_goto (tgt := 1261) hC dL_law_1258 (by decide) ?_
    refine g_pick [2, 3, 4, 5, 6] rfl ?_
    refine g_widen (c2 := 40 + 3 * (k + 1) + rmC aS0 (s_mean S).2) (s2 := 930000 + 400 * (k + 1) + rmS aS0 (s_mean S).2) (by omega) (by omega) ?_
    exact kk _ b Lx f6 gl ⟨hL9, hx'.cg (fun a ha => (r2 a ha).trans (q2 a ha)), h3, r1, hu6, h7, h8, h9.tr hmo, by omega, by omega⟩
  refine g_iload hC dL_law_1234 1 rfl ?_
  refine g_icmp_eq (tgt := 1241) hC dL_law_1236 (by decide) (fun _ => ?_) (fun h => absurd ht.symm h)
  refine g_iload hC dL_law_1241 1 rfl ?_
  refine g_if_ne (tgt := 1258) hC dL_law_1243 (by decide) (fun _ => K2) (fun h0 => ?_)
  refine g_aload_n hC dL_law_1246 rfl 3 rfl (Or.inr ⟨_, rfl⟩) ?_
  refine g_iconst hC dL_law_1247 (v := nI 0) (by decide) ?_
  refine g_lald hC 6 rfl (by simp) hu6 0 rfl (by decide) (by decide) dL_law_1248 ?_
  refine g_iload hC dL_law_1249 0 rfl ?_
  refine g_i2l hC dL_law_1251 rfl ?_
  refine g_lcmp hC dL_law_1252 ?_
  refine g_val (w := .int (nI 0)) (by rw [hgl h0]; exact congrArg Value.int (lg_cmp_self _)) ?_
  exact g_ifN_eq (a := 0) (tgt := 1258) hC dL_law_1253 (by decide) (by decide) (fun _ => K2) (fun h => absurd rfl h)
set_option maxRecDepth 20000 in
set_option maxHeartbeats 4000000 in
theorem lc_mean (hC : gC X l room_1 D vwCl (cyT cy) (gKS D cy adK adV) cL_law 7 wsL_law RL) (hKM : gKM D cy adK adV sa X.2.2.2.1 X.2.1.1) (hlt : l.stackTraces = false) (hI : lwI cy x o u ad k S b Lx F gl) (hk : k ≤ 511) (kk : ∀ S' b' L' F' gl', lwI cy x o u ad (k + 1) S' b' L' F' gl' → gW X vwCl 7 (L' ++ (mL o ad ++ [u])) F' (40 + 3 * (k + 1) + rmC aS0 S') (930000 + 400 * (k + 1) + rmS aS0 S') 1261 [(4, .int (nI (6 * k))), (3, .ref u), (2, .ref o), (1, .ref x), (0, .ref bs)] []) : gW X vwCl 7 (Lx ++ (mL o ad ++ [u])) F (40 + 3 * k + rmC aS0 S) (930000 + 400 * k + rmS aS0 S) 1217 [(4, .int (nI (6 * k))), (3, .ref u), (2, .ref o), (1, .ref x), (0, .ref bs)] [] := by
  have hCM : gC X l room_1 D vwCl (cyT cy) (gKM D cy adK adV sa) cL_law 7 wsL_law RL := ⟨hC.1, gKM_ok, hKM, hC.2.2.2⟩
  have hI0 := hI
  obtain ⟨h1, h2, h3, h4, h5, h7, h8, h9, h10, h11⟩ := hI
  have hbd := rm_bd h1 (by omega)
  have hxm := h2.M h3
  refine g_aload_n hC dL_law_1217 rfl 3 rfl (Or.inr ⟨_, rfl⟩) ?_
  refine g_aload_n hC dL_law_1218 rfl 1 rfl (Or.inr ⟨_, rfl⟩) ?_
  by_cases hz : S.1 24 = 0
  · refine g_SW (As := [.ref x, .ref u]) (st := []) hCM 2 dL_law_1219 gL_law_L_mean rfl (by decide +kernel) ⟨Nat.le_of_ble_eq_true rfl, Nat.le_of_ble_eq_true rfl⟩ rfl (Nat.le_of_ble_eq_true rfl) ⟨(show (40 + 3 * k + rmC aS0 S) + 1 ≤ 601024 by omega), (show (930000 + 400 * k + rmS aS0 S) + 6 ≤ 7293034 by omega)⟩ (c2 := 40 + 3 * k + rmC aS0 S + 1) (s2 := 930000 + 400 * k + rmS aS0 S + 6) rfl rfl (y_lm0 (List.mem_append_left _ hxm.1) hxm.2 hz hlt) ?_
    refine lc_mean2 hC hI0 hk (nI 1) ?_ (fun h => absurd h (by decide)) kk
    unfold s_mean
    rw [if_pos hz]
    rfl
  · have hun : u ∉ Lx := fun h => h7 u h (by simp)
    refine g_nd (fun hnd => ?_)
    have hum : u ∉ mL o ad := fun h => (List.nodup_append.mp (List.nodup_append.mp hnd).2.1).2.2 u h u (by simp) rfl
    refine g_SW (As := [.ref x, .ref u]) (st := []) hCM 2 dL_law_1219 gL_law_L_mean rfl (by decide +kernel) ⟨Nat.le_of_ble_eq_true rfl, Nat.le_of_ble_eq_true rfl⟩ rfl (Nat.le_of_ble_eq_true rfl) ⟨(show (40 + 3 * k + rmC aS0 S) + 0 ≤ 601024 by omega), (show (930000 + 400 * k + rmS aS0 S) + 0 ≤ 7293034 by omega)⟩ (c2 := 40 + 3 * k + rmC aS0 S) (s2 := 930000 + 400 * k + rmS aS0 S) rfl rfl (y_lm1 (List.mem_append_left _ hxm.1) hxm.2 (by omega) (by omega) hz (by simp) h5) ?_
    refine g_widen (c2 := 40 + 3 * k + rmC aS0 S + 1) (s2 := 930000 + 400 * k + rmS aS0 S + 6) (by omega) (by omega) ?_
    refine lc_mean2 (gl := vp_updL gl 0 (nI (S.1 23 / S.1 24)).toInt64) hC ⟨h1, h2.cg (fun a ha => va_up_ne (k := u) _ _ (fun z => hun (z ▸ ha))), h3, fun a ha => (va_up_ne (k := u) _ _ (fun z => hum (z ▸ ha))).trans (h4 a ha), va_up_self _ _ _, h7, h8, h9, h10, h11⟩ hk (nI 0) ?_ (fun _ => ?_) kk
    · unfold s_mean
      rw [if_neg hz]
      rfl
    · unfold s_mean
      rw [if_neg hz]
      rfl
end LCM
