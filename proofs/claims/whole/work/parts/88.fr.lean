/-! A contract over a part of the world: the rest stays -/
theorem pl_app {L M : List Nat} {f g : Nat → va_E} (h : ∀ a, a ∈ L → g a = f a) : va_pl (L ++ M) g = va_pl L f ++ va_pl M g := by
  unfold va_pl
  rw [List.map_append]
  congr 1
  exact List.map_congr_left (fun a ha => by rw [h a ha])
theorem app_l {α : Type} {l1 l2 : List α} {k : Nat} {q : α} (h : l1[k]? = some q) : (l1 ++ l2)[k]? = some q := by
  rw [List.getElem?_append_left (List.getElem?_eq_some_iff.mp h).1]
  exact h
theorem app_r {α : Type} {l1 l2 : List α} {k : Nat} {q : α} (h : l2[k]? = some q) : (l1 ++ l2)[l1.length + k]? = some q := by
  rw [List.getElem?_append_right (by omega), show l1.length + k - l1.length = k by omega]
  exact h
theorem pl_mem {L : List Nat} {f : Nat → va_E} {k : Nat} {q : Nat × va_E} (h : (va_pl L f)[k]? = some q) : q.1 ∈ L ∧ q.2 = f q.1 := by
  obtain ⟨a, ha, he⟩ := List.mem_map.mp (List.mem_of_getElem? h)
  subst he
  exact ⟨ha, rfl⟩
def frP (M : List Nat) (g : Nat → va_E) (post : gPost) : gPost := fun v L' f' => ∃ L1 f1, post v L1 f1 ∧ L' = L1 ++ M ∧ (∀ a, a ∈ L1 → f' a = f1 a) ∧ (∀ a, a ∈ M → f' a = g a) ∧ ∀ a, a ∈ L1 → a ∉ M
theorem gCt.fr {l : Launch} {D : va_G} {cl : List vw_C} {tys : List (ClassId × FieldType)} {K : gKt} {y : MethodName} {ws : List Cond} {rm : Room} {av : List Value} {L M : List Nat} {f g : Nat → va_E} {post : gPost} (hok : gKok D cl tys K) (h : gCt l D cl K y ws rm av L f post) (hLg : ∀ a, a ∈ L → g a = f a) (hLM : ∀ a, a ∈ L → a ∉ M) : gCt l D cl K y ws rm av (L ++ M) g (frP M g post) := by
  intro sz
  have hpl := pl_app (M := M) hLg
  have hsub : ∀ q, va_A (va_pl L f) sz q → va_A (va_pl (L ++ M) g) sz q := by
    intro q hq
    rw [hpl]
    rcases hq with ⟨k, e, hk⟩ | hq
    · exact Or.inl ⟨k, e, app_l hk⟩
    · exact Or.inr hq
  refine MetFree.mono (h sz) (fun a s hp => ?_) (fun _ _ _ _ _ _ => trivial) (fun a s o t hp hq => ?_)
  · obtain ⟨p1, p2, p3, p4, p5⟩ := hp
    rw [hpl] at p3 p5
    exact ⟨p1, p2, fun k q hk => p3 k q (app_l hk), hok.2 _ _ s s p4 (State.WarmedH.refl s) (Nat.le_refl _) (fun _ _ _ => rfl) hsub, fun i j p q hi hj => p5.1 i j p q (app_l hi) (app_l hj), fun _ _ _ => trivial⟩
  · obtain ⟨p1, p2, p3, p4, p5⟩ := hp
    obtain ⟨⟨⟨v, L1, f1, ho, hpo, hP1, hD1⟩, hF⟩, Lc, hfe, hLc⟩ := hq
    rw [hpl] at p3 p5
    have hM : ∀ a, a ∈ M → a < s.heap.size := fun a ha => va_pl_lt p3 ha
    have hnA : ∀ a, a ∈ M → ¬ va_A (va_pl L f) sz a := by
      intro a ha hA
      rcases hA with ⟨k, e, hk⟩ | hA
      · exact hLM a (pl_mem hk).1 ha
      · have := hM a ha
        omega
    have hd1 : ∀ a, a ∈ L1 → a ∉ M := by
      intro a ha hm
      obtain ⟨k, hk⟩ := va_pl_get (X := []) (f := f1) ha
      exact hnA a hm (hD1.2 k _ hk)
    have hMP : va_P D cl (va_pl M g) t.heap := va_P.kept (fun k q hk => p3 _ q (app_r hk)) (fun k q hk => hF.2 q.1 (hM _ (pl_mem hk).1) (hnA _ (pl_mem hk).1))
    have hMD : va_D (va_A (va_pl (L ++ M) g) sz) (va_pl M g) := ⟨fun i j p q hi hj he => by
      have := p5.1 _ _ p q (app_r (l1 := va_pl L f) hi) (app_r (l1 := va_pl L f) hj) he
      omega, fun k q hk => Or.inl ⟨_, q.2, by rw [hpl]; exact app_r (l1 := va_pl L f) hk⟩⟩
    have hpl2 : va_pl (L1 ++ M) (fun a => if a ∈ M then g a else f1 a) = va_pl L1 f1 ++ va_pl M g := by
      unfold va_pl
      rw [List.map_append]
      congr 1
      · exact List.map_congr_left (fun a ha => congrArg (Prod.mk a) (if_neg (hd1 a ha)))
      · exact List.map_congr_left (fun a ha => congrArg (Prod.mk a) (if_pos ha))
    refine ⟨⟨⟨v, L1 ++ M, fun a => if a ∈ M then g a else f1 a, ho, ⟨L1, f1, hpo, rfl, fun a ha => if_neg (hd1 a ha), fun a ha => if_pos ha, hd1⟩, ?_, ?_⟩, hF.1, fun q hq hA => hF.2 q hq (fun z => hA (hsub q z))⟩, Lc, hfe, fun q hq => hsub _ (hLc q hq)⟩
    · rw [hpl2]; exact hP1.app hMP
    · rw [hpl2]
      exact (hD1.weaken (fun _ q _ z => hsub _ z)).app hMD (fun i j p q hi hj he => hd1 _ (pl_mem hi).1 (he ▸ (pl_mem hj).1))
theorem nd_ix : ∀ {L : List Nat}, L.Nodup → ∀ {i j a : Nat}, L[i]? = some a → L[j]? = some a → i = j
  | [], _, i, j, a, h, _ => by simp at h
  | b :: L, hn, i, j, a, hi, hj => by
    have hc := List.nodup_cons.mp hn
    cases i with
    | zero =>
      cases j with
      | zero => rfl
      | succ j =>
        simp at hi hj
        subst hi
        exact absurd (List.mem_of_getElem? hj) hc.1
    | succ i =>
      cases j with
      | zero =>
        simp at hi hj
        subst hj
        exact absurd (List.mem_of_getElem? hi) hc.1
      | succ j =>
        simp at hi hj
        have := nd_ix hc.2 hi hj
        omega
theorem ix_nd : ∀ {L : List Nat}, (∀ i j a : Nat, L[i]? = some a → L[j]? = some a → i = j) → L.Nodup
  | [], _ => List.nodup_nil
  | b :: L, h => List.nodup_cons.mpr ⟨fun hb => by
      obtain ⟨k, hk⟩ := List.getElem?_of_mem hb
      have := h 0 (k + 1) b rfl (by simpa using hk)
      omega, ix_nd (fun i j a hi hj => by
      have := h (i + 1) (j + 1) a (by simpa using hi) (by simpa using hj)
      omega)⟩
theorem pl_ix {L : List Nat} {f : Nat → va_E} {k : Nat} {q : Nat × va_E} (h : (va_pl L f)[k]? = some q) : L[k]? = some q.1 := by
  unfold va_pl at h
  rw [List.getElem?_map] at h
  cases e : L[k]? with
  | none => rw [e] at h; cases h
  | some a => rw [e] at h; cases h; rfl
/-- the world's cells in another order, or fewer of them -/
theorem g_mem {X : gX} {cl : List vw_C} {nL : Nat} {L L' : List Nat} {f : Nat → va_E} {cells slots pc : Nat} {lv : List (Nat × Value)} {st : List Value} (h : ∀ a, a ∈ L' → a ∈ L) (hn : L'.Nodup) (k : gW X cl nL L' f cells slots pc lv st) : gW X cl nL L f cells slots pc lv st := by
  intro H locs ls hP hD hS hl
  refine k H locs ls (fun i q hi => ?_) ⟨fun i j p q hi hj he => ?_, fun i q hi => ?_⟩ hS hl
  · obtain ⟨m1, m2⟩ := pl_mem hi
    obtain ⟨k9, hk9⟩ := va_pl_get (X := []) (f := f) (h _ m1)
    rw [show q = (q.1, f q.1) from Prod.ext rfl m2]
    exact hP k9 _ hk9
  · exact nd_ix hn (pl_ix hi) (he ▸ pl_ix hj)
  · obtain ⟨m1, m2⟩ := pl_mem hi
    obtain ⟨k9, hk9⟩ := va_pl_get (X := []) (f := f) (h _ m1)
    exact hD.2 k9 (q.1, f q.1) hk9
theorem g_nd {X : gX} {cl : List vw_C} {nL : Nat} {L : List Nat} {f : Nat → va_E} {cells slots pc : Nat} {lv : List (Nat × Value)} {st : List Value} (k : L.Nodup → gW X cl nL L f cells slots pc lv st) : gW X cl nL L f cells slots pc lv st := by
  intro H locs ls hP hD hS hl
  refine k (ix_nd (fun i j a hi hj => hD.1 i j (a, f a) (a, f a) ?_ ?_ rfl)) H locs ls hP hD hS hl
  · unfold va_pl; rw [List.getElem?_map, hi]; rfl
  · unfold va_pl; rw [List.getElem?_map, hj]; rfl
theorem xR.cg {cy : Nat → ClassId} {S : aS} {b : xB} {L : List Nat} {f g : Nat → va_E} (h : xR cy S b L f) (hg : ∀ a, a ∈ L → g a = f a) : xR cy S b L g := ⟨fun k r hk => ⟨(h.1 k r hk).1, (hg _ (h.1 k r hk).1).trans (h.1 k r hk).2⟩, h.2⟩
