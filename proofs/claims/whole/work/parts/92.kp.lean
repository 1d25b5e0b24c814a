/-! WHAT HOLDS BETWEEN CALLS, call by call: k calls were made -/
def tmS (S : aS) : Nat → Nat
  | 0 => 0
  | t + 1 => tmS S t + S.2.1 16 t
theorem tmS_eq {S S' : aS} : ∀ n, (∀ t, t < n → S'.2.1 16 t = S.2.1 16 t) → tmS S' n = tmS S n
  | 0, _ => rfl
  | n + 1, h => by rw [tmS, tmS, tmS_eq n (fun t ht => h t (by omega)), h n (by omega)]
theorem tmS_up {S S' : aS} {t v : Nat} (h : S'.2.1 16 = va_up (S.2.1 16) t v) : ∀ n, tmS S' n + (if t < n then S.2.1 16 t else 0) = tmS S n + (if t < n then v else 0)
  | 0 => rfl
  | n + 1 => by
    have ih := tmS_up h n
    rw [tmS, tmS, h]
    by_cases e : n = t
    · subst e
      rw [va_up_self]
      rw [if_neg (by omega), if_neg (by omega)] at ih
      rw [if_pos (by omega), if_pos (by omega)]
      omega
    · rw [va_up_ne _ _ e]
      by_cases e2 : t < n
      · rw [if_pos e2, if_pos e2] at ih
        rw [if_pos (by omega), if_pos (by omega)]
        omega
      · rw [if_neg e2, if_neg e2] at ih
        rw [if_neg (by omega), if_neg (by omega)]
        omega
theorem tmS_le {S : aS} : ∀ n, (∀ t, t < n → S.2.1 16 t ≤ 100) → tmS S n ≤ 100 * n
  | 0, _ => Nat.le_refl _
  | n + 1, h => by
    have := tmS_le n (fun t ht => h t (by omega))
    have := h n (by omega)
    rw [tmS]
    omega
def LI (k : Nat) (S : aS) : Prop := aI S ∧ (S.1 7 ≤ k ∧ S.1 10 ≤ k ∧ S.1 13 ≤ k ∧ S.1 4 ≤ 100 * (k - S.1 13) ∧ S.1 4 + S.1 13 ≤ k + tmS S (S.1 13)) ∧ ∃ G X, Jk G X S ∧ G.length ≤ k ∧ X.length ≤ k
theorem LI.up {k : Nat} {S : aS} (h : LI k S) : LI (k + 1) S := by
  obtain ⟨h1, h2, G, X, h3, h4, h5⟩ := h
  exact ⟨h1, by omega, G, X, h3, by omega, by omega⟩
theorem LI.b4 {k : Nat} {S : aS} (h : LI k S) (hk : k ≤ 512) : S.1 4 ≤ 26000 := by
  obtain ⟨h1, h2, -⟩ := h
  have := tmS_le (S := S) (S.1 13) (fun t ht => (h1.tk ht).2.1)
  omega
theorem LI.pool {k : Nat} {S : aS} (h : LI k S) : S.1 21 ≤ 2 * k := by
  obtain ⟨h1, h2, G, X, h3, h4, h5⟩ := h
  have := h3.bd
  omega
/-- nothing of weight has changed -/
def Qt (S S' : aS) : Prop := (∀ k, k ∈ [4, 7, 10, 13, 21] → S'.1 k = S.1 k) ∧ (∀ k, k ∈ [2, 3, 5, 8, 11, 12, 14, 15, 16, 19, 20, 22] → S'.2.1 k = S.2.1 k) ∧ S'.2.2 6 = S.2.2 6 ∧ S'.2.2 9 = S.2.2 9
theorem Qt.sc {S : aS} {i v : Nat} (hi : i ∉ [4, 7, 10, 13, 21]) : Qt S (aSc S i v) := ⟨fun k hk => va_up_ne _ _ (fun z => hi (z ▸ hk)), fun _ _ => rfl, rfl, rfl⟩
theorem Qt.n {S : aS} {i j v : Nat} (hi : i ∉ [2, 3, 5, 8, 11, 12, 14, 15, 16, 19, 20, 22]) : Qt S (aN S i j v) := ⟨fun _ _ => rfl, fun k hk => va_up_ne _ _ (fun z => hi (z ▸ hk)), rfl, rfl⟩
theorem Qt.tr {S S' S'' : aS} (h : Qt S S') (h2 : Qt S' S'') : Qt S S'' := ⟨fun k hk => (h2.1 k hk).trans (h.1 k hk), fun k hk => (h2.2.1 k hk).trans (h.2.1 k hk), h2.2.2.1.trans h.2.2.1, h2.2.2.2.trans h.2.2.2⟩
theorem Qt.th {S : aS} : Qt S (thS S) := Qt.sc (by decide)
theorem Qt.fl {S : aS} {f : Nat} : Qt S (fltS (thS S) f) := Qt.th.tr (Qt.sc (by decide))
theorem Qt.lk {S : aS} {t r : Nat} : Qt S (lkS (thS S) t r) := ((Qt.th.tr (Qt.n (by decide))).tr (Qt.sc (by decide))).tr (Qt.sc (by decide))
theorem LI.qt {k : Nat} {S S' : aS} (h : LI k S) (q : Qt S S') : LI k S' := by
  obtain ⟨h1, h2, G, X, h3, h4, h5⟩ := h
  have e4 := q.1 4 (by decide)
  have e7 := q.1 7 (by decide)
  have e10 := q.1 10 (by decide)
  have e13 := q.1 13 (by decide)
  have e21 := q.1 21 (by decide)
  have et : tmS S' (S.1 13) = tmS S (S.1 13) := tmS_eq _ (fun t _ => by rw [q.2.1 16 (by decide)])
  refine ⟨aI.of_eq q.1 q.2.1 q.2.2.1 q.2.2.2 h1, ?_, G, X, h3.eq e4 e21 (q.2.1 5 (by decide)) (q.2.1 22 (by decide)) q.2.2.1, h4, h5⟩
  rw [e4, e7, e10, e13, et]
  exact h2
theorem mo.qt {S S' : aS} (q : Qt S S') : mo S S' := mo.cg (q.1 4 (by decide)) (q.1 21 (by decide)) (q.1 13 (by decide)) (q.2.1 15 (by decide))
section Quiet
variable {S : aS}
theorem q_fault : Qt S (s_fault S).2 := Qt.th
theorem q_kept : Qt S (s_kept S).2 := Qt.th
theorem q_held (p w : Int32) : Qt S (s_held S p w).2 := by unfold s_held; (repeat' split) <;> first | exact Qt.th | exact Qt.fl
theorem q_same (p q : Int32) : Qt S (s_same S p q).2 := by unfold s_same; (repeat' split) <;> first | exact Qt.th | exact Qt.fl
theorem q_length (p t : Int32) : Qt S (s_length S p t).2 := by unfold s_length; (repeat' split) <;> first | exact Qt.th | exact Qt.fl
theorem q_get (p t i : Int32) : Qt S (s_get S p t i).2 := by unfold s_get; (repeat' split) <;> first | exact Qt.th | exact Qt.fl
theorem q_cell (p i j : Int32) : Qt S (s_cell S p i j).2 := by unfold s_cell; (repeat' split) <;> first | exact Qt.th | exact Qt.fl
theorem q_like (p q : Int32) : Qt S (s_like S p q).2 := by unfold s_like; (repeat' split) <;> first | exact Qt.th | exact Qt.fl
theorem q_hash (p : Int32) : Qt S (s_hash S p).2 := by unfold s_hash; (repeat' split) <;> first | exact Qt.th | exact Qt.fl
theorem q_order (p q : Int32) : Qt S (s_order S p q).2 := by unfold s_order; (repeat' split) <;> first | exact Qt.th | exact Qt.fl
theorem q_named (p : Int32) : Qt S (s_named S p).2 := by unfold s_named; (repeat' split) <;> first | exact Qt.th | exact Qt.fl
theorem q_find (p q : Int32) : Qt S (s_find S p q).2 := by unfold s_find; (repeat' split) <;> first | exact Qt.th | exact Qt.fl | exact Qt.lk
theorem q_told (p w : Int32) : Qt S (s_told S p w).2 := by unfold s_told; (repeat' split) <;> first | exact Qt.th | exact Qt.fl
theorem q_slot (p i : Int32) : Qt S (s_slot S p i).2 := by unfold s_slot; (repeat' split) <;> first | exact Qt.th | exact Qt.fl
theorem q_ranked (p i : Int32) : Qt S (s_ranked S p i).2 := by unfold s_ranked; (repeat' split) <;> first | exact Qt.th | exact Qt.fl
theorem q_mean : Qt S (s_mean S).2 := by unfold s_mean; (repeat' split) <;> first | exact Qt.th | exact Qt.th.tr (Qt.sc (by decide))
end Quiet
/-- what a place may hold -/
def vOk (S : aS) (kk w : Nat) : Prop := kk ≤ 5 ∧ (kk = 0 → w = 0) ∧ (kk = 1 → w < S.1 4) ∧ (kk = 2 → w < S.1 7) ∧ (kk = 3 → w < S.1 10) ∧ (3 < kk → w < S.1 13 ∧ kk = 4 + S.2.1 14 w)
theorem pOk.v {S : aS} {j : Nat} (h : pOk S j) : vOk S (kd S j) (wh S j) := h
theorem pOk.mo {S S' : aS} {j : Nat} (h : pOk S j) (h2 : S'.2.1 2 j = S.2.1 2 j) (h3 : S'.2.1 3 j = S.2.1 3 j) (h4 : S.1 4 ≤ S'.1 4) (h7 : S.1 7 ≤ S'.1 7) (h10 : S.1 10 ≤ S'.1 10) (h13 : S.1 13 ≤ S'.1 13) (h14 : ∀ t, t < S.1 13 → S'.2.1 14 t = S.2.1 14 t) : pOk S' j := by
  obtain ⟨a0, a1, a2, a3, a4, a5⟩ := h
  unfold pOk kd wh at *
  rw [h2, h3]
  refine ⟨a0, a1, fun q => ?_, fun q => ?_, fun q => ?_, fun q => ?_⟩
  · have := a2 q; omega
  · have := a3 q; omega
  · have := a4 q; omega
  · obtain ⟨z1, z2⟩ := a5 q
    rw [h14 _ z1]
    exact ⟨by omega, z2⟩
theorem aI.hold {S : aS} {j kk w : Nat} (h : aI S) (hv : vOk S kk w) : aI (holdS S j kk w) := by
  obtain ⟨h1, h2, h3, h4, h5, h6, h7, h8⟩ := h
  refine ⟨h1, fun i hi => ?_, h3, h4, h5, h6, fun t ht => tOk.of_eq (S := S) (Nat.le_refl _) rfl rfl rfl (fun _ _ => rfl) (fun _ _ => rfl) (h7 t ht), h8⟩
  by_cases e : i = j
  · subst e
    have e1 : kd (holdS S i kk w) i = kk := va_up_self _ _ _
    have e2 : wh (holdS S i kk w) i = w := va_up_self _ _ _
    unfold pOk
    rw [e1, e2]
    exact hv
  · exact pOk.mo (S := S) (h2 i hi) (va_up_ne _ _ e) (va_up_ne _ _ e) (Nat.le_refl _) (Nat.le_refl _) (Nat.le_refl _) (Nat.le_refl _) (fun _ _ => rfl)
theorem LI.hold {k : Nat} {S : aS} {j kk w : Nat} (h : LI k S) (hv : vOk S kk w) : LI k (holdS S j kk w) := by
  obtain ⟨h1, h2, G, X, h3, h4, h5⟩ := h
  exact ⟨h1.hold hv, by rw [show tmS (holdS S j kk w) ((holdS S j kk w).1 13) = tmS S (S.1 13) from tmS_eq _ (fun _ _ => rfl)]; exact h2, G, X, h3.eq rfl rfl rfl rfl rfl, h4, h5⟩
/-! new rows and tables -/
theorem aI.nB {S : aS} {n : Nat} (h : aI S) (hn : n ≤ 16) (hb : S.1 4 + 1 ≤ 39000) : aI (newB S n) := by
  obtain ⟨h1, h2, h3, h4, h5, h6, h7, h8, h9, h10⟩ := h
  have c4 : (newB S n).1 4 = S.1 4 + 1 := rfl
  refine ⟨⟨by omega, h1.2.1, h1.2.2.1, h1.2.2.2.1, by rw [c4]; exact Nat.le_succ_of_le h1.2.2.2.2⟩, fun j hj => pOk.mo (S := S) (h2 j hj) rfl rfl (Nat.le_succ _) (Nat.le_refl _) (Nat.le_refl _) (Nat.le_refl _) (fun _ _ => rfl), fun r hr => ?_, h4, h5, fun i hi => Nat.le_succ_of_le (h6 i hi), fun t ht => tOk.of_eq (S := S) (Nat.le_succ _) rfl rfl rfl (fun _ _ => rfl) (fun _ _ => rfl) (h7 t ht), fun k hk => Nat.lt_succ_of_lt (h8 k hk), fun i hi => ?_, h10⟩
  · have hr : r < S.1 4 + 1 := hr
    show va_up (S.2.1 5) (S.1 4) n r ≤ 16
    by_cases e : r = S.1 4
    · rw [e, va_up_self]; exact hn
    · rw [va_up_ne _ _ e]; exact h3 r (by omega)
  · have hi : i < 16 * (S.1 4 + 1) := hi
    have e : (newB S n).2.2 6 i = if 16 * S.1 4 ≤ i ∧ i < 16 * S.1 4 + 16 then 0 else S.2.2 6 i := rfl
    rw [e]
    by_cases c : 16 * S.1 4 ≤ i ∧ i < 16 * S.1 4 + 16
    · rw [if_pos c]; rfl
    · rw [if_neg c]; exact h9 i (by omega)
theorem aI.nG {S : aS} {n : Nat} {g : Nat → Int32} (h : aI S) (hn : n ≤ 16) (hb : S.1 7 + 1 ≤ 590) (hg : ∀ i, i < 16 → (g i).toUInt32.toUInt16.toUInt32.toInt32 = g i) : aI (aSc (newSg S n g) 7 (S.1 7 + 1)) := by
  obtain ⟨h1, h2, h3, h4, h5, h6, h7, h8, h9, h10⟩ := h
  refine ⟨⟨h1.1, hb, h1.2.2.1, h1.2.2.2.1, h1.2.2.2.2⟩, fun j hj => pOk.mo (S := S) (h2 j hj) rfl rfl (Nat.le_refl _) (Nat.le_succ _) (Nat.le_refl _) (Nat.le_refl _) (fun _ _ => rfl), h3, fun r hr => ?_, h5, h6, fun t ht => tOk.of_eq (S := S) (Nat.le_refl _) rfl rfl rfl (fun _ _ => rfl) (fun _ _ => rfl) (h7 t ht), h8, h9, fun i hi => ?_⟩
  · have hr : r < S.1 7 + 1 := hr
    show va_up (S.2.1 8) (S.1 7) n r ≤ 16
    by_cases e : r = S.1 7
    · rw [e, va_up_self]; exact hn
    · rw [va_up_ne _ _ e]; exact h4 r (by omega)
  · have hi : i < 16 * (S.1 7 + 1) := hi
    have e : (aSc (newSg S n g) 7 (S.1 7 + 1)).2.2 9 i = if 16 * S.1 7 ≤ i ∧ i < 16 * S.1 7 + 16 then g (i - 16 * S.1 7) else S.2.2 9 i := rfl
    rw [e]
    by_cases c : 16 * S.1 7 ≤ i ∧ i < 16 * S.1 7 + 16
    · rw [if_pos c]; exact hg _ (by omega)
    · rw [if_neg c]; exact h10 i (by omega)
theorem aI.nW {S : aS} {n : Nat} {g : Nat → Nat} (h : aI S) (hn : n ≤ 16) (hb : S.1 10 + 1 ≤ 590) (hg : ∀ i, i < 16 → g i ≤ S.1 4) : aI (aSc (newRw S n g) 10 (S.1 10 + 1)) := by
  obtain ⟨h1, h2, h3, h4, h5, h6, h7, h8, h9, h10⟩ := h
  refine ⟨⟨h1.1, h1.2.1, hb, h1.2.2.2.1, h1.2.2.2.2⟩, fun j hj => pOk.mo (S := S) (h2 j hj) rfl rfl (Nat.le_refl _) (Nat.le_refl _) (Nat.le_succ _) (Nat.le_refl _) (fun _ _ => rfl), h3, h4, fun r hr => ?_, fun i hi => ?_, fun t ht => tOk.of_eq (S := S) (Nat.le_refl _) rfl rfl rfl (fun _ _ => rfl) (fun _ _ => rfl) (h7 t ht), h8, h9, h10⟩
  · have hr : r < S.1 10 + 1 := hr
    show va_up (S.2.1 11) (S.1 10) n r ≤ 16
    by_cases e : r = S.1 10
    · rw [e, va_up_self]; exact hn
    · rw [va_up_ne _ _ e]; exact h5 r (by omega)
  · have hi : i < 16 * (S.1 10 + 1) := hi
    have e : (aSc (newRw S n g) 10 (S.1 10 + 1)).2.1 12 i = if 16 * S.1 10 ≤ i ∧ i < 16 * S.1 10 + 16 then g (i - 16 * S.1 10) else S.2.1 12 i := rfl
    rw [e]
    show _ ≤ S.1 4
    by_cases c : 16 * S.1 10 ≤ i ∧ i < 16 * S.1 10 + 16
    · rw [if_pos c]; exact hg _ (by omega)
    · rw [if_neg c]; exact h6 i (by omega)
theorem szF_e {n : Nat} : ∃ e, 2 ≤ e ∧ e ≤ 8 ∧ szF n = 2 ^ e := by
  unfold szF
  split
  · exact ⟨2, by decide, by decide, rfl⟩
  · split
    · exact ⟨3, by decide, by decide, rfl⟩
    · split
      · exact ⟨4, by decide, by decide, rfl⟩
      · split
        · exact ⟨5, by decide, by decide, rfl⟩
        · exact ⟨6, by decide, by decide, rfl⟩
theorem aI.nT {S : aS} {kb n : Nat} (h : aI S) (hk : kb < 2) (hb : S.1 13 + 1 ≤ 515) : aI (newT S kb (szF n)) := by
  obtain ⟨h1, h2, h3, h4, h5, h6, h7, h8, h9, h10⟩ := h
  have hz := szF_b (n := n)
  refine ⟨⟨h1.1, h1.2.1, h1.2.2.1, hb, h1.2.2.2.2⟩, fun j hj => pOk.mo (S := S) (h2 j hj) rfl rfl (Nat.le_refl _) (Nat.le_refl _) (Nat.le_refl _) (Nat.le_succ _) (fun t ht => va_up_ne _ _ (show t ≠ S.1 13 by omega)), h3, h4, h5, h6, fun t ht => ?_, h8, h9, h10⟩
  have ht : t < S.1 13 + 1 := ht
  by_cases e : t = S.1 13
  · subst e
    have e14 : (newT S kb (szF n)).2.1 14 (S.1 13) = kb := va_up_self _ _ _
    have e15 : (newT S kb (szF n)).2.1 15 (S.1 13) = szF n := va_up_self _ _ _
    have e16 : (newT S kb (szF n)).2.1 16 (S.1 13) = 0 := va_up_self _ _ _
    have e19 : ∀ i, i < szF n → (newT S kb (szF n)).2.1 19 (256 * S.1 13 + i) = 0 := fun i hi => if_pos (by omega)
    unfold tOk
    rw [e14, e15, e16]
    exact ⟨szF_e, by omega, by omega, by omega, fun k hk => absurd hk (by omega), fun i hi => by rw [e19 i hi]; exact Nat.le_refl _, by rw [cnz_0 _ e19]; exact Nat.le_refl _⟩
  · refine tOk.of_eq (S := S) (Nat.le_refl _) (va_up_ne _ _ e) (va_up_ne _ _ e) (va_up_ne _ _ e) (fun i hi => if_neg (by omega)) (fun _ _ => rfl) (h7 t (by omega))
