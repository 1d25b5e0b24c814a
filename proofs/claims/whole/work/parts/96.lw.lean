theorem g_cls {X : gX} {l : Launch} {R : Room} {D : va_G} {cy adK adV : Nat → Nat} {cc : ByteArray} {nL : Nat} {Ts : List Cond} {own : String} {cells slots pc : Nat} {lv : List (Nat × Value)} {st : List Value} (hC : gC X l R D vwCl (cyT cy) (gKS D cy adK adV) cc nL Ts own) {y : MethodName} {bytes : ByteArray} {maxL index : Nat} {ret : Option FieldType} {ws ws' : List Cond} {rm : Room} {As : List Value} {c2 s2 : Nat} {w : Value} (n : Nat) (hd : decode cc pc = .ok (.invokevirtual index, 3)) {S S' : aS} {b : xB} {Lx M : List Nat} {F : Nat → va_E} {x : Nat} (hxr : xR cy S b Lx F) (hxo : b.1 9 0 = x) (hd1 : ∀ a, a ∈ Lx → a ∉ M) (hT : GoodIn Ts (wsV own index RX9 y ws)) (hw : ws = Cond.code y bytes maxL ret :: ws') (hyd : y.cls = RX9 ∧ y.cls ≠ "java/lang/invoke/MethodHandle" ∧ y.cls ≠ "java/lang/invoke/VarHandle" ∧ (parseMethodDescriptor y.desc).map (fun d => d.parameters.length) = some n) (hRm : rm.frames + 1 ≤ R.frames ∧ 8 + (maxL + 11) + rm.locals ≤ R.locals) (hn : As.length = n) (hst : (st.map fun v => v.category).sum ≤ 8) (hf9 : cells + rm.cells ≤ R.cells ∧ slots + rm.slots ≤ R.slots) (hc2 : cells + rm.cells = c2) (hs2 : slots + rm.slots = s2) (hM : gCt l D vwCl (gKS D cy adK adV) y ws rm (.ref x :: As) Lx F (xP cy S b S' (fun _ => some w))) (k : ∀ L1 f2 b1, xR cy S' b1 L1 f2 → b1.1 9 0 = x → (∀ a, a ∈ M → f2 a = F a) → (∀ a, a ∈ L1 → a ∉ M) → gW X vwCl nL (L1 ++ M) f2 c2 s2 (pc + 3) lv (w :: st)) : gW X vwCl nL (Lx ++ M) F cells slots pc lv (As.reverse ++ .ref x :: st) :=
  g_Vx hC n hd (C := RX9) (ci := 6) rfl (List.mem_append_left _ (hxr.M hxo).1) (hxr.M hxo).2 hT hw hyd hRm hn hst hf9 hc2 hs2 (hM.fr hC.2.1 (fun _ _ => rfl) hd1) (fun v L2 f2 hp => by
    obtain ⟨L1, f1, ⟨b1, rfl, hx1, hg1⟩, rfl, hf1, hf2, hd2⟩ := hp
    exact k L1 f2 b1 (hx1.cg hf1) ((hg1 9 0 (by decide) (by decide) (show 0 < 4 by decide)).trans hxo) hf2 hd2)
theorem g_ref {X : gX} {l : Launch} {R : Room} {D : va_G} {cy adK adV : Nat → Nat} {cc : ByteArray} {nL : Nat} {Ts : List Cond} {own : String} {cells slots pc : Nat} {lv : List (Nat × Value)} {st : List Value} (hC : gC X l R D vwCl (cyT cy) (gKS D cy adK adV) cc nL Ts own) {y : MethodName} {bytes : ByteArray} {maxL index : Nat} {ret : Option FieldType} {ws ws' : List Cond} {rm : Room} {As : List Value} {c2 s2 : Nat} {w : Value} (n : Nat) (hd : decode cc pc = .ok (.invokevirtual index, 3)) {S S' : aS} {L1 : List Nat} {f2 : Nat → va_E} {o u : Nat} {ad : Nat → Nat} (hFm : ∀ a, a ∈ mL o ad → f2 a = mW o ad cy S a) (hT : GoodIn Ts (wsV own index RX10 y ws)) (hw : ws = Cond.code y bytes maxL ret :: ws') (hyd : y.cls = RX10 ∧ y.cls ≠ "java/lang/invoke/MethodHandle" ∧ y.cls ≠ "java/lang/invoke/VarHandle" ∧ (parseMethodDescriptor y.desc).map (fun d => d.parameters.length) = some n) (hRm : rm.frames + 1 ≤ R.frames ∧ 8 + (maxL + 11) + rm.locals ≤ R.locals) (hn : As.length = n) (hst : (st.map fun v => v.category).sum ≤ 8) (hf9 : cells + rm.cells ≤ R.cells ∧ slots + rm.slots ≤ R.slots) (hc2 : cells + rm.cells = c2) (hs2 : slots + rm.slots = s2) (hM : gCt l D vwCl (gKS D cy adK adV) y ws rm (.ref o :: As) (mL o ad) (mW o ad cy S) (pE (some w) (mL o ad) (mW o ad cy S'))) (k : ∀ f5, (∀ a, a ∈ mL o ad → f5 a = mW o ad cy S' a) → (∀ a, a ∈ L1 → f5 a = f2 a) → f5 u = f2 u → gW X vwCl nL (L1 ++ (mL o ad ++ [u])) f5 c2 s2 (pc + 3) lv (w :: st)) : gW X vwCl nL (L1 ++ (mL o ad ++ [u])) f2 cells slots pc lv (As.reverse ++ .ref o :: st) := by
  refine g_nd (fun hnd => ?_)
  have hpm := List.perm_append_comm_assoc L1 (mL o ad) [u]
  have hp1 : (mL o ad ++ (L1 ++ [u])).Nodup := hpm.nodup_iff.mp hnd
  refine g_mem (L' := mL o ad ++ (L1 ++ [u])) (fun a ha => hpm.mem_iff.mpr ha) hp1 ?_
  have hdm : ∀ a, a ∈ mL o ad → a ∉ L1 ++ [u] := fun a ha hb => (List.nodup_append.mp hp1).2.2 a ha a hb rfl
  refine g_Vx hC n hd (C := RX10) (ci := 7) rfl (List.mem_append_left _ mL_o) ((hFm o mL_o).trans mW_o) hT hw hyd hRm hn hst hf9 hc2 hs2 (hM.fr hC.2.1 hFm hdm) (fun v L2 f5 hp => ?_)
  obtain ⟨L3, f3, ⟨rfl, rfl, rfl⟩, rfl, hf3, hf4, hd3⟩ := hp
  exact g_mem (L' := L1 ++ (mL o ad ++ [u])) (fun a ha => hpm.mem_iff.mp ha) hnd (k f5 hf3 (fun a ha => hf4 a (List.mem_append_left _ ha)) (hf4 u (by simp)))
/-- the script's own cells -/
theorem g_sld {X : gX} {l : Launch} {R : Room} {D : va_G} {cy adK adV : Nat → Nat} {cc : ByteArray} {nL : Nat} {Ts : List Cond} {own : String} {cells slots pc : Nat} {lv : List (Nat × Value)} {st : List Value} (hC : gC X l R D vwCl (cyT cy) (gKS D cy adK adV) cc nL Ts own) {L : List Nat} {f : Nat → va_E} {bs N : Nat} {xs : Nat → Int32} (hX : va_X bs N xs X.2.1.1 X.2.1.1.heap) (hbl : bs < X.2.1.1.heap.size) (hbA : ¬ X.2.2.2.1 bs) {i : Int32} (j : Nat) (hj : i = nI j) (hjn : j < N) (hn : N < 2 ^ 31) (hd : decode cc pc = .ok (.iaload, 1)) (k : gW X vwCl nL L f cells slots (pc + 1) lv (.int (xs j) :: st)) : gW X vwCl nL L f cells slots pc lv (.int i :: .ref bs :: st) := by
  obtain ⟨⟨p, l9, e, R9⟩, ⟨s, m, args, below, meth, c⟩, Q, A, D9⟩ := X
  obtain ⟨⟨hx, hb, hml, hown, hts⟩, hok, hKA, hA, h1, h2, h3⟩ := hC
  dsimp only at hx hb hml hown hts hKA hA h1 h2 h3 hX hbl hbA
  intro H locs ls hP hD hS hl
  dsimp only at hP hD hS ⊢
  subst hj
  refine va_sld hx hb hX hbl hbA hS (vp_in_nI hjn hn) hd ?_
  rw [nI_clamp (Nat.lt_trans hjn hn)]
  exact k H locs ls hP hD hS hl
theorem g_slen {X : gX} {l : Launch} {R : Room} {D : va_G} {cy adK adV : Nat → Nat} {cc : ByteArray} {nL : Nat} {Ts : List Cond} {own : String} {cells slots pc : Nat} {lv : List (Nat × Value)} {st : List Value} (hC : gC X l R D vwCl (cyT cy) (gKS D cy adK adV) cc nL Ts own) {L : List Nat} {f : Nat → va_E} {bs N : Nat} {xs : Nat → Int32} (hX : va_X bs N xs X.2.1.1 X.2.1.1.heap) (hbl : bs < X.2.1.1.heap.size) (hbA : ¬ X.2.2.2.1 bs) (hd : decode cc pc = .ok (.arraylength, 1)) (k : gW X vwCl nL L f cells slots (pc + 1) lv (.int (nI N) :: st)) : gW X vwCl nL L f cells slots pc lv (.ref bs :: st) := by
  obtain ⟨⟨p, l9, e, R9⟩, ⟨s, m, args, below, meth, c⟩, Q, A, D9⟩ := X
  obtain ⟨⟨hx, hb, hml, hown, hts⟩, hok, hKA, hA, h1, h2, h3⟩ := hC
  dsimp only at hx hb hml hown hts hKA hA h1 h2 h3 hX hbl hbA
  intro H locs ls hP hD hS hl
  dsimp only at hP hD hS ⊢
  refine va_slen hx hb hX hbl hbA hS hd ?_
  exact k H locs ls hP hD hS hl
/-- the law's world after k calls -/
def lwI (cy : Nat → ClassId) (x o u : Nat) (ad : Nat → Nat) (k : Nat) (S : aS) (b : xB) (Lx : List Nat) (F : Nat → va_E) (gl : Nat → Int64) : Prop := LI k S ∧ xR cy S b Lx F ∧ b.1 9 0 = x ∧ (∀ a, a ∈ mL o ad → F a = mW o ad cy S a) ∧ F u = .inl (cy 6, 1, .inr (.inl gl)) ∧ (∀ a, a ∈ Lx → a ∉ mL o ad ++ [u]) ∧ mOk o ad ∧ mo aS0 S ∧ S.1 23 ≤ 51300 * k ∧ S.1 24 ≤ 100 * k
abbrev lC (k : Nat) (S : aS) : Nat := 40 + 3 * k + rmC aS0 S
abbrev lS (k : Nat) (S : aS) : Nat := 930000 + 400 * k + rmS aS0 S
