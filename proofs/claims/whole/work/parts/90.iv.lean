/-! WHAT THE POOL CAN COME TO: contents that came up, and kept rows that lost theirs -/
theorem pigeon {α : Type} [DecidableEq α] (c : Nat → α) : ∀ (K : Nat) (G : List α) (X : List Nat), (∀ k, k < K → k ∉ X → c k ∈ G) → (∀ k k', k < K → k' < K → k ∉ X → k' ∉ X → c k = c k' → k = k') → K ≤ G.length + X.length
  | 0, _, _, _, _ => Nat.zero_le _
  | K + 1, G, X, h1, h2 => by
    by_cases hK : K ∈ X
    · have ih := pigeon c K G (X.erase K) (fun k hk hx => h1 k (by omega) (fun z => hx ((List.mem_erase_of_ne (show k ≠ K by omega)).mpr z))) (fun k k' hk hk' hx hx' => h2 k k' (by omega) (by omega) (fun z => hx ((List.mem_erase_of_ne (show k ≠ K by omega)).mpr z)) (fun z => hx' ((List.mem_erase_of_ne (show k' ≠ K by omega)).mpr z)))
      have e1 := List.length_erase_of_mem hK
      have e2 := List.length_pos_of_mem hK
      omega
    · have hm := h1 K (by omega) hK
      have ih := pigeon c K (G.erase (c K)) X (fun k hk hx => (List.mem_erase_of_ne (fun z => absurd (h2 k K (by omega) (by omega) hx hK z) (by omega))).mpr (h1 k (by omega) hx)) (fun k k' hk hk' => h2 k k' (by omega) (by omega))
      have e1 := List.length_erase_of_mem hm
      have e2 := List.length_pos_of_mem hm
      omega
def con (S : aS) (r : Nat) : List Int32 := (List.range (S.2.1 5 r)).map (fun i => S.2.2 6 (16 * r + i))
theorem con_eq {S S' : aS} {r r' : Nat} (h1 : S'.2.1 5 r' = S.2.1 5 r) (h2 : ∀ i, i < S.2.1 5 r → S'.2.2 6 (16 * r' + i) = S.2.2 6 (16 * r + i)) : con S' r' = con S r := by
  unfold con
  rw [h1]
  exact List.map_congr_left (fun i hi => h2 i (List.mem_range.mp hi))
theorem con_lik {S : aS} {a b : Nat} (h : con S a = con S b) : likB S a b := by
  have h1 := congrArg List.length h
  unfold con at h h1
  rw [List.length_map, List.length_map, List.length_range, List.length_range] at h1
  refine ⟨h1, fun k hk => ?_⟩
  have h2 := congrArg (fun l => l[k]?) h
  simp only [List.getElem?_map] at h2
  rw [List.getElem?_range hk, List.getElem?_range (by omega)] at h2
  exact Option.some.inj h2
/-- the contents are among G; kept rows but for X differ -/
def Jk (G : List (List Int32)) (X : List Nat) (S : aS) : Prop := (∀ r, r < S.1 4 → con S r ∈ G) ∧ (∀ r, r < S.1 4 → S.2.1 5 r ≤ 16) ∧ (∀ k, k < S.1 21 → S.2.1 22 k < S.1 4) ∧ (∀ k k', k < S.1 21 → k' < S.1 21 → S.2.1 22 k = S.2.1 22 k' → k = k') ∧ ∀ k k', k < S.1 21 → k' < S.1 21 → k ∉ X → k' ∉ X → con S (S.2.1 22 k) = con S (S.2.1 22 k') → k = k'
theorem Jk.bd {G : List (List Int32)} {X : List Nat} {S : aS} (h : Jk G X S) : S.1 21 ≤ G.length + X.length := pigeon (fun k => con S (S.2.1 22 k)) _ G X (fun k hk _ => h.1 _ (h.2.2.1 k hk)) (fun k k' a b c d e => h.2.2.2.2 k k' a b c d e)
theorem Jk.eq {G : List (List Int32)} {X : List Nat} {S S' : aS} (h : Jk G X S) (h4 : S'.1 4 = S.1 4) (h21 : S'.1 21 = S.1 21) (h5 : S'.2.1 5 = S.2.1 5) (h22 : S'.2.1 22 = S.2.1 22) (h6 : S'.2.2 6 = S.2.2 6) : Jk G X S' := by
  have hc : ∀ r, con S' r = con S r := fun r => con_eq (by rw [h5]) (fun i _ => by rw [h6])
  unfold Jk
  rw [h4, h21, h5, h22]
  simp only [hc]
  exact h
theorem twin_con {S : aS} {r q : Nat} (hl : ∀ r, r < S.1 4 → S.2.1 5 r ≤ 16) (hr : r < S.1 4) (hq : q < S.1 4) : con (twinB S r) q = con S q := by
  have := hl q hq
  refine con_eq (va_up_ne _ _ (by omega)) (fun i hi => ?_)
  show (if 16 * S.1 4 ≤ 16 * q + i ∧ 16 * q + i < 16 * S.1 4 + 16 then _ else (if 16 * S.1 4 ≤ 16 * q + i ∧ 16 * q + i < 16 * S.1 4 + 16 then _ else S.2.2 6 (16 * q + i))) = _
  rw [if_neg (by omega), if_neg (by omega)]
theorem twin_new {S : aS} {r : Nat} (hl : ∀ r, r < S.1 4 → S.2.1 5 r ≤ 16) (hr : r < S.1 4) : con (twinB S r) (S.1 4) = con S r := by
  have := hl r hr
  refine con_eq (va_up_self _ _ _) (fun i hi => ?_)
  show (if 16 * S.1 4 ≤ 16 * S.1 4 + i ∧ 16 * S.1 4 + i < 16 * S.1 4 + 16 then S.2.2 6 (16 * r + (16 * S.1 4 + i - 16 * S.1 4)) else _) = _
  rw [if_pos (by omega), show 16 * S.1 4 + i - 16 * S.1 4 = i by omega]
theorem Jk.twin {G : List (List Int32)} {X : List Nat} {S : aS} {r : Nat} (h : Jk G X S) (hr : r < S.1 4) : Jk G X (twinB S r) := by
  obtain ⟨h1, h2, h3, h4, h5⟩ := h
  refine ⟨fun q hq => ?_, fun q hq => ?_, fun k hk => Nat.lt_succ_of_lt (h3 k hk), h4, fun k k' hk hk' hx hx' he => h5 k k' hk hk' hx hx' ?_⟩
  · have hq : q < S.1 4 + 1 := hq
    by_cases e : q = S.1 4
    · rw [e, twin_new h2 hr]; exact h1 r hr
    · rw [twin_con h2 hr (by omega)]; exact h1 q (by omega)
  · have hq : q < S.1 4 + 1 := hq
    show va_up (S.2.1 5) (S.1 4) (S.2.1 5 r) q ≤ 16
    by_cases e : q = S.1 4
    · rw [e, va_up_self]; exact h2 r hr
    · rw [va_up_ne _ _ e]; exact h2 q (by omega)
  · have z1 := twin_con h2 hr (h3 k hk)
    have z2 := twin_con h2 hr (h3 k' hk')
    exact z1.symm.trans (he.trans z2)
theorem kpG_none {S : aS} {r : Nat} : ∀ m k, kpG S r m k = none → ∀ j, k ≤ j → j < k + m → ¬ likB S (S.2.1 22 j) r
  | 0, _, _, _, _, _ => by omega
  | m + 1, k, h, j, h1, h2 => by
    rw [kpG] at h
    by_cases e : likB S (S.2.1 22 k) r
    · rw [if_pos e] at h; cases h
    · rw [if_neg e] at h
      by_cases e2 : j = k
      · rw [e2]; exact e
      · exact kpG_none m (k + 1) h j (by omega) (by omega)
theorem Jk.row {G : List (List Int32)} {X : List Nat} {S : aS} {t r : Nat} (h : Jk G X S) (hr : r < S.1 4) : Jk G X (rowF S t r).2 := by
  unfold rowF
  by_cases e : S.2.1 14 t = 0
  · rw [if_pos e]; exact h.twin hr
  · rw [if_neg e]
    unfold keptS
    cases hk : kpG S r (S.1 21) 0 with
    | some w => exact h
    | none =>
      show Jk G X (kpS (twinB S r) (S.1 4))
      have hn := kpG_none _ _ hk
      obtain ⟨g1, g2, g3, g4, g5⟩ := h.twin hr
      obtain ⟨h1, h2, h3, h4, h5⟩ := h
      have c0 : ∀ q, con (kpS (twinB S r) (S.1 4)) q = con (twinB S r) q := fun q => rfl
      have v : ∀ k, k < S.1 21 + 1 → (kpS (twinB S r) (S.1 4)).2.1 22 k = if k = S.1 21 then S.1 4 else S.2.1 22 k := fun k _ => rfl
      refine ⟨g1, g2, fun k hk => ?_, fun k k' hk hk' he => ?_, fun k k' hk hk' hx hx' he => ?_⟩
      · have hk : k < S.1 21 + 1 := hk
        rw [v k hk]
        show _ < S.1 4 + 1
        by_cases e1 : k = S.1 21
        · rw [if_pos e1]; omega
        · rw [if_neg e1]; have := h3 k (by omega); omega
      · have hk : k < S.1 21 + 1 := hk
        have hk' : k' < S.1 21 + 1 := hk'
        rw [v k hk, v k' hk'] at he
        by_cases e1 : k = S.1 21
        · by_cases e2 : k' = S.1 21
          · omega
          · rw [if_pos e1, if_neg e2] at he; have := h3 k' (by omega); omega
        · by_cases e2 : k' = S.1 21
          · rw [if_neg e1, if_pos e2] at he; have := h3 k (by omega); omega
          · rw [if_neg e1, if_neg e2] at he; exact h4 k k' (by omega) (by omega) he
      · have hk : k < S.1 21 + 1 := hk
        have hk' : k' < S.1 21 + 1 := hk'
        rw [v k hk, v k' hk', c0, c0] at he
        by_cases e1 : k = S.1 21
        · by_cases e2 : k' = S.1 21
          · omega
          · rw [if_pos e1, if_neg e2, twin_new h2 hr, twin_con h2 hr (h3 k' (by omega))] at he
            exact absurd (con_lik he.symm) (hn k' (by omega) (by omega))
        · by_cases e2 : k' = S.1 21
          · rw [if_neg e1, if_pos e2, twin_new h2 hr, twin_con h2 hr (h3 k (by omega))] at he
            exact absurd (con_lik he) (hn k (by omega) (by omega))
          · rw [if_neg e1, if_neg e2, twin_con h2 hr (h3 k (by omega)), twin_con h2 hr (h3 k' (by omega))] at he
            exact h5 k k' (by omega) (by omega) hx hx' he
theorem Jk.com {G : List (List Int32)} {X : List Nat} {S : aS} {t r : Nat} (h : Jk G X S) (hr : r < S.1 4) : Jk G X (comS S t r).2 := by
  have hl : Jk G X (lkS S t r) := h.eq rfl rfl rfl rfl rfl
  unfold comS
  by_cases e : 0 < S.2.1 19 (256 * t + (lk S t r).1)
  · rw [if_pos e]; exact hl
  · rw [if_neg e]
    by_cases e2 : S.2.1 16 t = 100
    · rw [if_pos e2]; exact hl
    · rw [if_neg e2]
      have h1 : Jk G X (newTm (rowF (lkS S t r) t r).2 t (rowF (lkS S t r) t r).1 (lk S t r).1) := (hl.row (t := t) (show r < (lkS S t r).1 4 from hr)).eq rfl rfl rfl rfl rfl
      show Jk G X (grwS _ t)
      unfold grwS
      split
      · have hg := growS_f (S := newTm (rowF (lkS S t r) t r).2 t (rowF (lkS S t r) t r).1 (lk S t r).1) (t := t)
        exact h1.eq (by rw [hg.1]) (by rw [hg.1]) (hg.2.2.1 5 (by decide) (by decide) (by decide)) (hg.2.2.1 22 (by decide) (by decide) (by decide)) (by rw [hg.2.1])
      · exact h1
theorem Jk.more {G : List (List Int32)} {X : List Nat} {S : aS} (h : Jk G X S) (c : List Int32) : Jk (c :: G) X S := ⟨fun r hr => List.mem_cons_of_mem _ (h.1 r hr), h.2⟩
/-- one row's cells are others now -/
theorem Jk.put {G : List (List Int32)} {X : List Nat} {S S' : aS} {r : Nat} (h : Jk G X S) (h4 : S'.1 4 = S.1 4) (h21 : S'.1 21 = S.1 21) (h5 : S'.2.1 5 = S.2.1 5) (h22 : S'.2.1 22 = S.2.1 22) (h6 : ∀ q, q < S.1 4 → q ≠ r → con S' q = con S q) : ∃ x, Jk (con S' r :: G) (x :: X) S' := by
  obtain ⟨h1, h2, h3, hi, h7⟩ := h
  have hx : ∃ x, ∀ k, k < S.1 21 → S.2.1 22 k = r → k = x := by
    by_cases e : ∃ k, k < S.1 21 ∧ S.2.1 22 k = r
    · obtain ⟨x, a1, a2⟩ := e
      exact ⟨x, fun k hk hr => hi k x hk a1 (by rw [hr, a2])⟩
    · exact ⟨0, fun k hk hr => absurd ⟨k, hk, hr⟩ e⟩
  obtain ⟨x, hx⟩ := hx
  refine ⟨x, fun q hq => ?_, by rw [h4, h5]; exact h2, by rw [h21, h22, h4]; exact h3, by rw [h21, h22]; exact hi, ?_⟩
  · rw [h4] at hq
    by_cases e : q = r
    · rw [e]; exact List.mem_cons_self
    · rw [h6 q hq e]; exact List.mem_cons_of_mem _ (h1 q hq)
  · rw [h21, h22]
    intro k k' hk hk' hx1 hx2 he
    have n1 : S.2.1 22 k ≠ r := fun z => hx1 (by rw [hx k hk z]; exact List.mem_cons_self)
    have n2 : S.2.1 22 k' ≠ r := fun z => hx2 (by rw [hx k' hk' z]; exact List.mem_cons_self)
    rw [h6 _ (h3 k hk) n1, h6 _ (h3 k' hk') n2] at he
    exact h7 k k' hk hk' (fun z => hx1 (List.mem_cons_of_mem _ z)) (fun z => hx2 (List.mem_cons_of_mem _ z)) he
theorem Jk.make {G : List (List Int32)} {X : List Nat} {S : aS} {n : Nat} (h : Jk G X S) (hn : n ≤ 16) : Jk (con (newB S n) (S.1 4) :: G) X (newB S n) := by
  obtain ⟨h1, h2, h3, h4, h5⟩ := h
  have hc : ∀ q, q < S.1 4 → con (newB S n) q = con S q := fun q hq => by
    have := h2 q hq
    refine con_eq (va_up_ne _ _ (by omega)) (fun i hi => ?_)
    show (if 16 * S.1 4 ≤ 16 * q + i ∧ 16 * q + i < 16 * S.1 4 + 16 then _ else S.2.2 6 (16 * q + i)) = _
    rw [if_neg (by omega)]
  refine ⟨fun q hq => ?_, fun q hq => ?_, fun k hk => Nat.lt_succ_of_lt (h3 k hk), h4, fun k k' hk hk' hx hx' he => h5 k k' hk hk' hx hx' ((hc _ (h3 k hk)).symm.trans (he.trans (hc _ (h3 k' hk'))))⟩
  · have hq : q < S.1 4 + 1 := hq
    by_cases e : q = S.1 4
    · rw [e]; exact List.mem_cons_self
    · rw [hc q (by omega)]; exact List.mem_cons_of_mem _ (h1 q (by omega))
  · have hq : q < S.1 4 + 1 := hq
    show va_up (S.2.1 5) (S.1 4) n q ≤ 16
    by_cases e : q = S.1 4
    · rw [e, va_up_self]; exact hn
    · rw [va_up_ne _ _ e]; exact h2 q (by omega)
