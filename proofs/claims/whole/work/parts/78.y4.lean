theorem up_cm {α : Type} {f : Nat → α} {i j : Nat} {x y : α} (h : i ≠ j) : va_up (va_up f i x) j y = va_up (va_up f j y) i x := by
  funext z
  unfold va_up
  by_cases e1 : z = i <;> by_cases e2 : z = j <;> first | omega | simp_all
abbrev sc2 (S : aS) (x y : Nat) : aS := aSc (aSc S 23 x) 24 y
theorem twinB_sc {S : aS} {r x y : Nat} : twinB (sc2 S x y) r = sc2 (twinB S r) x y := by
  show (va_up (va_up (va_up S.1 23 x) 24 y) 4 (S.1 4 + 1), _, _) = (va_up (va_up (va_up S.1 4 (S.1 4 + 1)) 23 x) 24 y, _, _)
  rw [up_cm (i := 24) (j := 4) (by decide), up_cm (i := 23) (j := 4) (by decide)]
  rfl
theorem kpG_sc {S : aS} {r x y : Nat} : ∀ m k, kpG (sc2 S x y) r m k = kpG S r m k
  | 0, _ => rfl
  | m + 1, k => by
    show (if likB S (S.2.1 22 k) r then some (S.2.1 22 k) else kpG (sc2 S x y) r m (k + 1)) = _
    rw [kpG_sc m (k + 1)]
    rfl
theorem kpS_sc {S : aS} {w x y : Nat} : kpS (sc2 S x y) w = sc2 (kpS S w) x y := by
  show (va_up (va_up (va_up S.1 23 x) 24 y) 21 (S.1 21 + 1), _, _) = (va_up (va_up (va_up S.1 21 (S.1 21 + 1)) 23 x) 24 y, _, _)
  rw [up_cm (i := 24) (j := 21) (by decide), up_cm (i := 23) (j := 21) (by decide)]
  rfl
theorem rowF_sc {S : aS} {t r x y : Nat} : rowF (sc2 S x y) t r = ((rowF S t r).1, sc2 (rowF S t r).2 x y) := by
  unfold rowF
  by_cases e : S.2.1 14 t = 0
  · rw [if_pos e, if_pos (show (sc2 S x y).2.1 14 t = 0 from e), twinB_sc]; rfl
  · rw [if_neg e, if_neg (show ¬ (sc2 S x y).2.1 14 t = 0 from e)]
    unfold keptS
    rw [show kpG (sc2 S x y) r ((sc2 S x y).1 21) 0 = kpG S r (S.1 21) 0 from kpG_sc _ _]
    cases kpG S r (S.1 21) 0 with
    | some w => rfl
    | none =>
      show (S.1 4, kpS (twinB (sc2 S x y) r) (S.1 4)) = (S.1 4, sc2 (kpS (twinB S r) (S.1 4)) x y)
      rw [twinB_sc, kpS_sc]
theorem frG_sc {S : aS} {t x y : Nat} : ∀ m i, frG (sc2 S x y) t m i = frG S t m i
  | 0, _ => rfl
  | m + 1, i => by
    show (if S.2.1 19 (256 * t + i) = 0 then i else frG (sc2 S x y) t m ((i + 1) % S.2.1 15 t)) = _
    rw [frG_sc m]
    rfl
theorem putT_sc {S : aS} {t k x y : Nat} : putT (sc2 S x y) t k = sc2 (putT S t k) x y := by
  show aN (sc2 S x y) 19 (256 * t + frG (sc2 S x y) t (S.2.1 15 t) (fst0 S t (S.2.1 20 (100 * t + k)))) (k + 1) = _
  rw [frG_sc]
  rfl
theorem putsT_sc {S : aS} {t x y : Nat} : ∀ k, putsT (sc2 S x y) t k = sc2 (putsT S t k) x y
  | 0 => rfl
  | k + 1 => by
    show putT (putsT (sc2 S x y) t k) t k = _
    rw [putsT_sc k, putT_sc]
    rfl
theorem grwS_sc {S : aS} {t x y : Nat} : grwS (sc2 S x y) t = sc2 (grwS S t) x y := by
  unfold grwS
  by_cases e : 3 * S.2.1 15 t < 4 * S.2.1 16 t
  · rw [if_pos e, if_pos (show 3 * (sc2 S x y).2.1 15 t < 4 * (sc2 S x y).2.1 16 t from e)]
    show putsT (sc2 (clrT S t) x y) t (S.2.1 16 t) = _
    rw [putsT_sc]
    rfl
  · rw [if_neg e, if_neg (show ¬ 3 * (sc2 S x y).2.1 15 t < 4 * (sc2 S x y).2.1 16 t from e)]
theorem com_A {S : aS} {t r : Nat} : comS S t r = ((comA S t r).1, sc2 (comA S t r).2 (S.1 23 + (lk S t r).2) (S.1 24 + 1)) := by
  unfold comS comA
  by_cases e : 0 < S.2.1 19 (256 * t + (lk S t r).1)
  · rw [if_pos e, if_pos e]; rfl
  · rw [if_neg e, if_neg e]
    by_cases e2 : S.2.1 16 t = 100
    · rw [if_pos e2, if_pos e2]; rfl
    · rw [if_neg e2, if_neg e2]
      rw [show lkS S t r = sc2 (lkA S t r) (S.1 23 + (lk S t r).2) (S.1 24 + 1) from rfl, rowF_sc]
      show (_, grwS (sc2 (newTm (rowF (lkA S t r) t r).2 t (rowF (lkA S t r) t r).1 (lk S t r).1) (S.1 23 + (lk S t r).2) (S.1 24 + 1)) t) = _
      rw [grwS_sc]
theorem comA_f {S : aS} {t r : Nat} (hI : aI S) (hr : r < S.1 4) : (∀ k, k ≠ 4 → k ≠ 21 → (comA S t r).2.1 k = S.1 k) ∧ (comA S t r).2.2.1 14 = S.2.1 14 ∧ (comA S t r).2.2.1 17 t = (lk S t r).2 ∧ S.1 4 ≤ (comA S t r).2.1 4 := by
  have h0 : (∀ k, k ≠ 4 → k ≠ 21 → (lkA S t r).1 k = S.1 k) ∧ (lkA S t r).2.1 14 = S.2.1 14 ∧ (lkA S t r).2.1 17 t = (lk S t r).2 ∧ S.1 4 ≤ (lkA S t r).1 4 := ⟨fun _ _ _ => rfl, rfl, va_up_self _ _ _, Nat.le_refl _⟩
  have hf := rowF_f (t := t) (hI.lkA t r) (show r < (lkA S t r).1 4 from hr)
  have h1 := rowF_1 (S := lkA S t r) (t := t) (r := r)
  unfold comA
  by_cases e : 0 < S.2.1 19 (256 * t + (lk S t r).1)
  · rw [if_pos e]; exact h0
  · rw [if_neg e]
    by_cases e2 : S.2.1 16 t = 100
    · rw [if_pos e2]; exact h0
    · rw [if_neg e2]
      have hn := newTm_f (S := (rowF (lkA S t r) t r).2) (t := t) (w := (rowF (lkA S t r) t r).1) (i := (lk S t r).1)
      have hg := growS_f (S := newTm (rowF (lkA S t r) t r).2 t (rowF (lkA S t r) t r).1 (lk S t r).1) (t := t)
      have hN : (∀ k, k ≠ 4 → k ≠ 21 → (newTm (rowF (lkA S t r) t r).2 t (rowF (lkA S t r) t r).1 (lk S t r).1).1 k = S.1 k) ∧ (newTm (rowF (lkA S t r) t r).2 t (rowF (lkA S t r) t r).1 (lk S t r).1).2.1 14 = S.2.1 14 ∧ (newTm (rowF (lkA S t r) t r).2 t (rowF (lkA S t r) t r).1 (lk S t r).1).2.1 17 t = (lk S t r).2 ∧ S.1 4 ≤ (newTm (rowF (lkA S t r) t r).2 t (rowF (lkA S t r) t r).1 (lk S t r).1).1 4 := by
        rw [hn.1, hn.2.2.1 14 (by decide) (by decide) (by decide), hn.2.2.1 17 (by decide) (by decide) (by decide), hf.1 14 (by decide) (by decide), hf.1 17 (by decide) (by decide)]
        exact ⟨h1, h0.2.1, h0.2.2.1, hf.2.2.1⟩
      show (∀ k, k ≠ 4 → k ≠ 21 → (grwS _ t).1 k = S.1 k) ∧ (grwS _ t).2.1 14 = S.2.1 14 ∧ (grwS _ t).2.1 17 t = _ ∧ S.1 4 ≤ (grwS _ t).1 4
      unfold grwS
      split
      · rw [hg.1, hg.2.2.1 14 (by decide) (by decide) (by decide), hg.2.2.1 17 (by decide) (by decide) (by decide)]
        exact hN
      · exact hN
theorem szF_b {n : Nat} : 4 ≤ szF n ∧ szF n ≤ 64 := by unfold szF; (repeat' split) <;> omega
theorem cp_if {α : Type} {a e n : Int32} {x y : α} {l l2 : Nat} (h1 : l ≤ 16) (h2 : l2 ≤ 16) : (if a < 0 then x else if e < 0 then x else if n < 0 then x else if nI l - n < a then x else if ¬ e ≤ nI l2 - n then x else y) = if hcs a n l ∧ hcs e n l2 then y else x := by
  have n0 : ∀ z : Int32, z < 0 ↔ z.toInt < 0 := fun z => by rw [Int32.lt_iff_toInt_lt, Int32.toInt_zero]
  have hs : ∀ m : Nat, m ≤ 16 → ¬ n < 0 → (nI m - n).toInt = (m : Int) - n.toInt := fun m hm hn => by
    obtain ⟨nj, q1, rfl⟩ := nI_of hn
    rw [sub_ti hm q1, nI_toInt q1]
  unfold hcs
  simp only [Int32.le_iff_toInt_le, Int32.lt_iff_toInt_lt, Int32.toInt_zero]
  by_cases c1 : a.toInt < 0
  · rw [if_pos c1, if_neg (by omega)]
  · rw [if_neg c1]
    by_cases c2 : e.toInt < 0
    · rw [if_pos c2, if_neg (by omega)]
    · rw [if_neg c2]
      by_cases c3 : n.toInt < 0
      · rw [if_pos c3, if_neg (by omega)]
      · rw [if_neg c3]
        have hn : ¬ n < 0 := fun z => c3 ((n0 n).mp z)
        rw [hs l h1 hn, hs l2 h2 hn, nI_toInt (show l < 2 ^ 31 by omega), nI_toInt (show l2 < 2 ^ 31 by omega)]
        by_cases c4 : (l : Int) - n.toInt < a.toInt
        · rw [if_pos c4, if_neg (by omega)]
        · rw [if_neg c4]
          by_cases c5 : e.toInt ≤ (l2 : Int) - n.toInt
          · rw [if_neg (by omega), if_pos (by omega)]
          · rw [if_pos (by omega), if_neg (by omega)]
section Y4
variable {l : Launch} {D : va_G} {cy adK adV : Nat → Nat} {L : List Nat} {f : Nat → va_E}
set_option maxRecDepth 20000 in
set_option maxHeartbeats 4000000 in
theorem y_copy {S : aS} {b : xB} (hx : xR cy S b L f) (hI : aI S) (M : Nat) (hM : b.1 9 0 = M) (p a q e n : Int32) : gCt l D vwCl (gKK D cy adK adV) yX9_copy wsX9_copy { frames := 2, cells := 1, slots := 16, locals := 44 } [.ref M, .int p, .int a, .int q, .int e, .int n] L f (xP cy S b (s_copy S p a q e n).2 (fun _ => some (.int (s_copy S p a q e n).1))) := by
  refine gCt.of gKK_ok (by decide) rfl rfl (fun X hC hR hnm => ?_)
  have hC : gC X l _ D vwCl (cyT cy) (gKK D cy adK adV) cX9_copy 8 wsX9_copy RX9 := hC
  have hx0 := hx.th0
  have hI0 := hI.th
  show gW X vwCl 8 L f 0 0 0 [(0, .ref M), (1, .int p), (2, .int a), (3, .int q), (4, .int e), (5, .int n)] []
  refine g_iload_n hC dX9_copy_0 rfl 1 rfl ?_
  refine g_S (As := [.int p]) (st := []) hC 1 dX9_copy_1 gX9_copy_X9_isPlace rfl (by decide +kernel) ⟨Nat.le_of_ble_eq_true rfl, Nat.le_of_ble_eq_true rfl⟩ rfl (Nat.le_of_ble_eq_true rfl) ⟨Nat.le_of_ble_eq_true rfl, Nat.le_of_ble_eq_true rfl⟩ (c2 := 0) (s2 := 0) rfl rfl (x_isPlace _) ?_
  refine g_ifB_eq (P := isP p) (tgt := 14) hC dX9_copy_4 (by decide) (fun h4 => ?_) (fun h4 => ?_)
  · refine g_iconst hC dX9_copy_14 (v := (-1)) (by decide) ?_
    have hE : s_copy S p a q e n = ((-1), (thS S)) := by
      unfold s_copy
      rw [if_neg h4] <;> rfl
    refine g_widen (c2 := 1) (s2 := 16) (Nat.le_of_ble_eq_true rfl) (Nat.le_of_ble_eq_true rfl) ?_
    exact g_iret hC hR dX9_copy_15 ⟨b, congrArg (fun z => some (Value.int (Prod.fst z))) hE.symm, by rw [hE]; exact hx0, xG.rf⟩
  · obtain ⟨pj, hpj, rfl⟩ := isP_j h4
    have hpl_p : pl (nI pj) = pj := nI_clamp (by omega)
    refine g_iload_n hC dX9_copy_7 rfl 3 rfl ?_
    refine g_S (As := [.int q]) (st := []) hC 1 dX9_copy_8 gX9_copy_X9_isPlace rfl (by decide +kernel) ⟨Nat.le_of_ble_eq_true rfl, Nat.le_of_ble_eq_true rfl⟩ rfl (Nat.le_of_ble_eq_true rfl) ⟨Nat.le_of_ble_eq_true rfl, Nat.le_of_ble_eq_true rfl⟩ (c2 := 0) (s2 := 0) rfl rfl (x_isPlace _) ?_
    refine g_ifB_ne (P := isP q) (tgt := 16) hC dX9_copy_11 (by decide) (fun h11 => ?_) (fun h11 => ?_)
    · obtain ⟨qj, hqj, rfl⟩ := isP_j h11
      have hpl_q : pl (nI qj) = qj := nI_clamp (by omega)
      refine g_aload_n hC dX9_copy_16 rfl 0 rfl (Or.inr ⟨_, rfl⟩) ?_
      refine g_get hC (by decide +kernel) rfl (hx0.M hM).1 (hx0.M hM).2 0 (by decide) (by decide +kernel) (Or.inl rfl) rfl dX9_copy_17 ?_
      refine g_iload_n hC dX9_copy_20 rfl 1 rfl ?_
      have h5_p := hI.k5 hpj
      rcases (show kd S pj = 0 ∨ kd S pj = 1 ∨ kd S pj = 2 ∨ kd S pj = 3 ∨ kd S pj = 4 ∨ kd S pj = 5 by omega) with hk_p | hk_p | hk_p | hk_p | hk_p | hk_p
      · have hp0_p : plcF (thS S) b pj = none := plc_0 hpj hk_p
        refine g_aald hC 5 rfl (hx0.Mp rfl).1 (hx0.Mp rfl).2 (pj) rfl (show pj < 10 by omega) (by decide) dX9_copy_21 ?_
        refine g_val (w := .null) (congrArg va_rf hp0_p) ?_
        refine g_ifnull (o := none) (tgt := 34) hC dX9_copy_22 (by decide) (fun h22 => ?_) (fun a22 h22 => ?_)
        · refine g_aload_n hC dX9_copy_34 rfl 0 rfl (Or.inr ⟨_, rfl⟩) ?_
          refine g_iconst hC dX9_copy_35 (v := nI 1) (by decide) ?_
          refine g_Vx (As := [.int (nI 1)]) (st := []) hC 1 dX9_copy_36 rfl (hx0.M hM).1 (hx0.M hM).2 gX9_copy_X9_failed rfl (by decide +kernel) ⟨Nat.le_of_ble_eq_true rfl, Nat.le_of_ble_eq_true rfl⟩ rfl (Nat.le_of_ble_eq_true rfl) ⟨(Nat.le_of_ble_eq_true rfl), (Nat.le_of_ble_eq_true rfl)⟩ (c2 := 0) (s2 := 0) rfl rfl (x_failed hx0 M hM 1) (fun v1 L1 f1 hp1 => ?_)
          obtain ⟨rfl, hx1⟩ := hp1
          show gW X vwCl 8 L1 f1 0 0 39 [(0, .ref M), (1, .int (nI pj)), (2, .int a), (3, .int (nI qj)), (4, .int e), (5, .int n)] [.int (fA 1)]
          have hE : s_copy S (nI pj) a (nI qj) e n = (fA 1, (aSc (thS S) 1 1)) := by
            unfold s_copy
            rw [if_pos h4, if_pos h11, hpl_p, hpl_q, if_pos (Or.inl hk_p)] <;> rfl
          refine g_widen (c2 := 1) (s2 := 16) (Nat.le_of_ble_eq_true rfl) (Nat.le_of_ble_eq_true rfl) ?_
          exact g_iret hC hR dX9_copy_39 ⟨b, congrArg (fun z => some (Value.int (Prod.fst z))) hE.symm, by rw [hE]; exact hx1, xG.rf⟩
        · cases h22
      · have hw_p : wh S pj < S.1 4 := hI.wl hpj hk_p
        have hp0_p : plcF (thS S) b pj = some (b.1 0 (wh S pj)) := plc_k hpj hk_p (by decide)
        refine g_aald hC 5 rfl (hx0.Mp rfl).1 (hx0.Mp rfl).2 (pj) rfl (show pj < 10 by omega) (by decide) dX9_copy_21 ?_
        refine g_val (w := .ref (b.1 0 (wh S pj))) (congrArg va_rf hp0_p) ?_
        refine g_ifnull (o := some (b.1 0 (wh S pj))) (tgt := 34) hC dX9_copy_22 (by decide) (fun h22 => ?_) (fun a22 h22 => ?_)
        · cases h22
        · refine g_aload_n hC dX9_copy_25 rfl 0 rfl (Or.inr ⟨_, rfl⟩) ?_
          refine g_get hC (by decide +kernel) rfl (hx0.M hM).1 (hx0.M hM).2 0 (by decide) (by decide +kernel) (Or.inl rfl) rfl dX9_copy_26 ?_
          refine g_iload_n hC dX9_copy_29 rfl 3 rfl ?_
          have h5_q := hI.k5 hqj
          rcases (show kd S qj = 0 ∨ kd S qj = 1 ∨ kd S qj = 2 ∨ kd S qj = 3 ∨ kd S qj = 4 ∨ kd S qj = 5 by omega) with hk_q | hk_q | hk_q | hk_q | hk_q | hk_q
          · have hp0_q : plcF (thS S) b qj = none := plc_0 hqj hk_q
            refine g_aald hC 5 rfl (hx0.Mp rfl).1 (hx0.Mp rfl).2 (qj) rfl (show qj < 10 by omega) (by decide) dX9_copy_30 ?_
            refine g_val (w := .null) (congrArg va_rf hp0_q) ?_
            refine g_ifnonnull (o := none) (tgt := 40) hC dX9_copy_31 (by decide) (fun a31 h31 => ?_) (fun h31 => ?_)
            · cases h31
            · refine g_aload_n hC dX9_copy_34 rfl 0 rfl (Or.inr ⟨_, rfl⟩) ?_
              refine g_iconst hC dX9_copy_35 (v := nI 1) (by decide) ?_
              refine g_Vx (As := [.int (nI 1)]) (st := []) hC 1 dX9_copy_36 rfl (hx0.M hM).1 (hx0.M hM).2 gX9_copy_X9_failed rfl (by decide +kernel) ⟨Nat.le_of_ble_eq_true rfl, Nat.le_of_ble_eq_true rfl⟩ rfl (Nat.le_of_ble_eq_true rfl) ⟨(Nat.le_of_ble_eq_true rfl), (Nat.le_of_ble_eq_true rfl)⟩ (c2 := 0) (s2 := 0) rfl rfl (x_failed hx0 M hM 1) (fun v1 L1 f1 hp1 => ?_)
              obtain ⟨rfl, hx1⟩ := hp1
              show gW X vwCl 8 L1 f1 0 0 39 [(0, .ref M), (1, .int (nI pj)), (2, .int a), (3, .int (nI qj)), (4, .int e), (5, .int n)] [.int (fA 1)]
              have hE : s_copy S (nI pj) a (nI qj) e n = (fA 1, (aSc (thS S) 1 1)) := by
                unfold s_copy
                rw [if_pos h4, if_pos h11, hpl_p, hpl_q, if_pos (Or.inr hk_q)] <;> rfl
              refine g_widen (c2 := 1) (s2 := 16) (Nat.le_of_ble_eq_true rfl) (Nat.le_of_ble_eq_true rfl) ?_
              exact g_iret hC hR dX9_copy_39 ⟨b, congrArg (fun z => some (Value.int (Prod.fst z))) hE.symm, by rw [hE]; exact hx1, xG.rf⟩
          · have hw_q : wh S qj < S.1 4 := hI.wl hqj hk_q
            have hp0_q : plcF (thS S) b qj = some (b.1 0 (wh S qj)) := plc_k hqj hk_q (by decide)
            refine g_aald hC 5 rfl (hx0.Mp rfl).1 (hx0.Mp rfl).2 (qj) rfl (show qj < 10 by omega) (by decide) dX9_copy_30 ?_
            refine g_val (w := .ref (b.1 0 (wh S qj))) (congrArg va_rf hp0_q) ?_
            refine g_ifnonnull (o := some (b.1 0 (wh S qj))) (tgt := 40) hC dX9_copy_31 (by decide) (fun a31 h31 => ?_) (fun h31 => ?_)
            · refine g_aload_n hC dX9_copy_40 rfl 0 rfl (Or.inr ⟨_, rfl⟩) ?_
              refine g_get hC (by decide +kernel) rfl (hx0.M hM).1 (hx0.M hM).2 0 (by decide) (by decide +kernel) (Or.inl rfl) rfl dX9_copy_41 ?_
              refine g_iload_n hC dX9_copy_44 rfl 1 rfl ?_
              refine g_aald hC 5 rfl (hx0.Mp rfl).1 (hx0.Mp rfl).2 (pj) rfl (show pj < 10 by omega) (by decide) dX9_copy_45 ?_
              refine g_val (w := .ref (b.1 0 (wh S pj))) (congrArg va_rf hp0_p) ?_
              refine g_S (As := [.ref (b.1 0 (wh S pj))]) (st := []) hC 1 dX9_copy_46 gX9_copy_X9_asRow rfl (by decide +kernel) ⟨Nat.le_of_ble_eq_true rfl, Nat.le_of_ble_eq_true rfl⟩ rfl (Nat.le_of_ble_eq_true rfl) ⟨Nat.le_of_ble_eq_true rfl, Nat.le_of_ble_eq_true rfl⟩ (c2 := 0) (s2 := 0) rfl rfl (x_asRow (some (b.1 0 (wh S pj))) 1 (Or.inr ⟨_, 0, _, rfl, (hx0.B hw_p rfl), Or.inl ⟨rfl, rfl⟩⟩)) ?_
              refine g_astore (lv' := [(6, .ref (b.1 0 (wh S pj))), (0, .ref M), (1, .int (nI pj)), (2, .int a), (3, .int (nI qj)), (4, .int e), (5, .int n)]) hC dX9_copy_49 (by decide) rfl (Or.inr ⟨_, rfl⟩) ?_
              refine g_aload_n hC dX9_copy_51 rfl 1 rfl (Or.inr ⟨_, rfl⟩) ?_
              refine g_get hC (by decide +kernel) rfl (hx0.M hM).1 (hx0.M hM).2 0 (by decide) (by decide +kernel) (Or.inl rfl) rfl dX9_copy_52 ?_
              refine g_iload_n hC dX9_copy_55 rfl 4 rfl ?_
              refine g_aald hC 5 rfl (hx0.Mp rfl).1 (hx0.Mp rfl).2 (qj) rfl (show qj < 10 by omega) (by decide) dX9_copy_56 ?_
              refine g_val (w := .ref (b.1 0 (wh S qj))) (congrArg va_rf hp0_q) ?_
              refine g_S (As := [.ref (b.1 0 (wh S qj))]) (st := []) hC 1 dX9_copy_57 gX9_copy_X9_asRow rfl (by decide +kernel) ⟨Nat.le_of_ble_eq_true rfl, Nat.le_of_ble_eq_true rfl⟩ rfl (Nat.le_of_ble_eq_true rfl) ⟨Nat.le_of_ble_eq_true rfl, Nat.le_of_ble_eq_true rfl⟩ (c2 := 0) (s2 := 0) rfl rfl (x_asRow (some (b.1 0 (wh S qj))) 1 (Or.inr ⟨_, 0, _, rfl, (hx0.B hw_q rfl), Or.inl ⟨rfl, rfl⟩⟩)) ?_
              refine g_astore (lv' := [(7, .ref (b.1 0 (wh S qj))), (6, .ref (b.1 0 (wh S pj))), (0, .ref M), (1, .int (nI pj)), (2, .int a), (3, .int (nI qj)), (4, .int e), (5, .int n)]) hC dX9_copy_60 (by decide) rfl (Or.inr ⟨_, rfl⟩) ?_
              refine g_aload hC dX9_copy_62 1 rfl (Or.inr ⟨_, rfl⟩) ?_
              refine g_ifnull (o := some (b.1 0 (wh S pj))) (tgt := 85) hC dX9_copy_64 (by decide) (fun h64 => ?_) (fun a64 h64 => ?_)
              · cases h64
              · refine g_aload hC dX9_copy_67 0 rfl (Or.inr ⟨_, rfl⟩) ?_
                refine g_ifnull (o := some (b.1 0 (wh S qj))) (tgt := 85) hC dX9_copy_69 (by decide) (fun h69 => ?_) (fun a69 h69 => ?_)
                · cases h69
                · refine g_aload hC dX9_copy_72 1 rfl (Or.inr ⟨_, rfl⟩) ?_
                  refine g_A (As := []) (st := []) hC 0 dX9_copy_74 rfl (hx0.B hw_p rfl).1 (hx0.B hw_p rfl).2 gX9_copy_X0_kind_u125X0 rfl (gKK_D ⟨"KeptTerms$Thing", "kind", "()I"⟩ (by decide)) (by decide +kernel) ⟨Nat.le_of_ble_eq_true rfl, Nat.le_of_ble_eq_true rfl⟩ rfl (Nat.le_of_ble_eq_true rfl) ⟨Nat.le_of_ble_eq_true rfl, Nat.le_of_ble_eq_true rfl⟩ (c2 := 0) (s2 := 0) rfl rfl (x_0_kind _) ?_
                  refine g_aload hC dX9_copy_77 0 rfl (Or.inr ⟨_, rfl⟩) ?_
                  refine g_A (As := []) (st := [.int (nI 1)]) hC 0 dX9_copy_79 rfl (hx0.B hw_q rfl).1 (hx0.B hw_q rfl).2 gX9_copy_X0_kind_u125X0 rfl (gKK_D ⟨"KeptTerms$Thing", "kind", "()I"⟩ (by decide)) (by decide +kernel) ⟨Nat.le_of_ble_eq_true rfl, Nat.le_of_ble_eq_true rfl⟩ rfl (Nat.le_of_ble_eq_true rfl) ⟨Nat.le_of_ble_eq_true rfl, Nat.le_of_ble_eq_true rfl⟩ (c2 := 0) (s2 := 0) rfl rfl (x_0_kind _) ?_
                  refine g_icmpN_eq (a := 1) (b := 1) (tgt := 91) hC dX9_copy_82 (by decide) (by omega) (by omega) (fun h82 => ?_) (fun h82 => ?_)
                  · refine g_aload hC dX9_copy_91 1 rfl (Or.inr ⟨_, rfl⟩) ?_
                    refine g_iload_n hC dX9_copy_93 rfl 4 rfl ?_
                    refine g_iload hC dX9_copy_94 7 rfl ?_
                    refine g_U (As := [.int a, .int n]) (st := []) hC 2 dX9_copy_96 rfl (hx0.B hw_p rfl).1 (hx0.B hw_p rfl).2 gX9_copy_X4_hasCells_u128X0 rfl rfl (by decide +kernel) ⟨Nat.le_of_ble_eq_true rfl, Nat.le_of_ble_eq_true rfl⟩ rfl (Nat.le_of_ble_eq_true rfl) ⟨Nat.le_of_ble_eq_true rfl, Nat.le_of_ble_eq_true rfl⟩ (c2 := 0) (s2 := 0) rfl rfl (x_4_hasCells_B _ _ _ _ (hx0.isB hw_p rfl (hI.bl hw_p)) _ _) ?_
                    refine g_ifB_eq (P := hcs a n (S.2.1 5 (wh S pj))) (tgt := 114) hC dX9_copy_99 (by decide) (fun h99 => ?_) (fun h99 => ?_)
                    · refine g_aload_n hC dX9_copy_114 rfl 2 rfl (Or.inr ⟨_, rfl⟩) ?_
                      refine g_iconst hC dX9_copy_115 (v := nI 3) (by decide) ?_
                      refine g_Vx (As := [.int (nI 3)]) (st := []) hC 1 dX9_copy_116 rfl (hx0.M hM).1 (hx0.M hM).2 gX9_copy_X9_failed rfl (by decide +kernel) ⟨Nat.le_of_ble_eq_true rfl, Nat.le_of_ble_eq_true rfl⟩ rfl (Nat.le_of_ble_eq_true rfl) ⟨(Nat.le_of_ble_eq_true rfl), (Nat.le_of_ble_eq_true rfl)⟩ (c2 := 0) (s2 := 0) rfl rfl (x_failed hx0 M hM 3) (fun v1 L1 f1 hp1 => ?_)
                      obtain ⟨rfl, hx1⟩ := hp1
                      show gW X vwCl 8 L1 f1 0 0 119 [(7, .ref (b.1 0 (wh S qj))), (6, .ref (b.1 0 (wh S pj))), (0, .ref M), (1, .int (nI pj)), (2, .int a), (3, .int (nI qj)), (4, .int e), (5, .int n)] [.int (fA 3)]
                      have hlp := hI.bl hw_p
                      have hlq := hI.bl hw_q
                      have hlg_p : longS S pj = S.2.1 5 (wh S pj) := by unfold longS; rw [hk_p] <;> rfl
                      have hlg_q : longS S qj = S.2.1 5 (wh S qj) := by unfold longS; rw [hk_q] <;> rfl
                      have hE : s_copy S (nI pj) a (nI qj) e n = (fA 3, (aSc (thS S) 1 3)) := by
                        unfold s_copy
                        rw [if_pos h4, if_pos h11, hpl_p, hpl_q, if_neg (show ¬ (kd S pj = 0 ∨ kd S qj = 0) by omega), if_neg (show ¬ (3 < kd S pj ∨ kd S pj ≠ kd S qj) by omega), hlg_p, hlg_q, cp_if hlp hlq, if_neg (fun z => h99 z.1)] <;> rfl
                      refine g_widen (c2 := 1) (s2 := 16) (Nat.le_of_ble_eq_true rfl) (Nat.le_of_ble_eq_true rfl) ?_
                      exact g_iret hC hR dX9_copy_119 ⟨b, congrArg (fun z => some (Value.int (Prod.fst z))) hE.symm, by rw [hE]; exact hx1, xG.rf⟩
                    · refine g_aload hC dX9_copy_102 0 rfl (Or.inr ⟨_, rfl⟩) ?_
                      refine g_iload hC dX9_copy_104 6 rfl ?_
                      refine g_iload hC dX9_copy_106 7 rfl ?_
                      refine g_U (As := [.int e, .int n]) (st := []) hC 2 dX9_copy_108 rfl (hx0.B hw_q rfl).1 (hx0.B hw_q rfl).2 gX9_copy_X4_hasCells_u128X0 rfl rfl (by decide +kernel) ⟨Nat.le_of_ble_eq_true rfl, Nat.le_of_ble_eq_true rfl⟩ rfl (Nat.le_of_ble_eq_true rfl) ⟨Nat.le_of_ble_eq_true rfl, Nat.le_of_ble_eq_true rfl⟩ (c2 := 0) (s2 := 0) rfl rfl (x_4_hasCells_B _ _ _ _ (hx0.isB hw_q rfl (hI.bl hw_q)) _ _) ?_
                      refine g_ifB_ne (P := hcs e n (S.2.1 5 (wh S qj))) (tgt := 120) hC dX9_copy_111 (by decide) (fun h111 => ?_) (fun h111 => ?_)
                      · have hlp := hI.bl hw_p
                        have hlq := hI.bl hw_q
                        have hcs9 : hcs a n (S.2.1 5 (wh S pj)) ∧ hcs e n (S.2.1 5 (wh S qj)) := ⟨h99, h111⟩
                        obtain ⟨aj, nj, han, rfl, rfl⟩ := cpy_of hlp (Int32.not_lt.mpr h99.1) (Int32.not_lt.mpr h99.2.1) h99.2.2.2
                        obtain ⟨ej, n9, hen, rfl, hn9⟩ := cpy_of hlq (Int32.not_lt.mpr h111.1) (Int32.not_lt.mpr h111.2.1) h111.2.2.2
                        have hn9 : nj = n9 := by
                          have z := congrArg Int32.toNatClampNeg hn9
                          rwa [nI_clamp (by omega), nI_clamp (by omega)] at z
                        subst hn9
                        have hpl_a : pl (nI aj) = aj := nI_clamp (by omega)
                        have hpl_e : pl (nI ej) = ej := nI_clamp (by omega)
                        have hpl_n : pl (nI nj) = nj := nI_clamp (by omega)
                        refine g_aload hC dX9_copy_120 1 rfl (Or.inr ⟨_, rfl⟩) ?_
                        refine g_aload hC dX9_copy_122 0 rfl (Or.inr ⟨_, rfl⟩) ?_
                        refine g_iload_n hC dX9_copy_124 rfl 4 rfl ?_
                        refine g_iload hC dX9_copy_125 6 rfl ?_
                        refine g_iload hC dX9_copy_127 7 rfl ?_
                        refine g_Ax (As := [.ref (b.1 0 (wh S qj)), .int (nI aj), .int (nI ej), .int (nI nj)]) (st := []) hC 4 dX9_copy_129 rfl (hx0.B hw_p rfl).1 (hx0.B hw_p rfl).2 gX9_copy_X0_passTo_u132X0 rfl (gKK_D ⟨"KeptTerms$Row", "passTo", "(LKeptTerms$Row;III)V"⟩ (by decide)) (by decide +kernel) ⟨Nat.le_of_ble_eq_true rfl, Nat.le_of_ble_eq_true rfl⟩ rfl (Nat.le_of_ble_eq_true rfl) ⟨(Nat.le_of_ble_eq_true rfl), (Nat.le_of_ble_eq_true rfl)⟩ (c2 := 0) (s2 := 0) rfl rfl (x_passTo_B (S := thS S) hx0 hI0 _ _ hw_p rfl _ _ hw_q rfl aj ej nj (show aj + nj ≤ S.2.1 5 (wh S pj) by omega) (show ej + nj ≤ S.2.1 5 (wh S qj) by omega)) (fun v1 L1 f1 hp1 => ?_)
                        obtain ⟨rfl, hx1⟩ := hp1
                        show gW X vwCl 8 L1 f1 0 0 132 [(7, .ref (b.1 0 (wh S qj))), (6, .ref (b.1 0 (wh S pj))), (0, .ref M), (1, .int (nI pj)), (2, .int (nI aj)), (3, .int (nI qj)), (4, .int (nI ej)), (5, .int (nI nj))] []
                        have hx9 : xR cy (aWr (aWr (thS S) 25 0 nj (fun i => S.2.2 6 (16 * wh S pj + (aj + i)))) 6 (16 * wh S qj + ej) nj (fun i => S.2.2 6 (16 * wh S pj + (aj + i)))) b L1 f1 := hx1.eqv ⟨⟨rfl, rfl, rfl, rfl⟩, fun _ _ => ⟨rfl, fun _ _ => rfl⟩, fun _ _ => ⟨rfl, fun _ _ => rfl⟩, fun _ _ => ⟨rfl, fun _ _ => rfl⟩, fun _ _ => ⟨rfl, rfl, rfl, rfl, rfl, fun _ _ => rfl, fun _ _ => rfl⟩, fun _ _ => rfl, fun _ _ => ⟨rfl, rfl⟩⟩ (xF.of (S := thS S) hI0) rfl rfl rfl rfl
                        refine g_iconst hC dX9_copy_132 (v := nI 1) (by decide) ?_
                        have hlg_p : longS S pj = S.2.1 5 (wh S pj) := by unfold longS; rw [hk_p] <;> rfl
                        have hlg_q : longS S qj = S.2.1 5 (wh S qj) := by unfold longS; rw [hk_q] <;> rfl
                        have hcpy : cpyS (thS S) pj aj qj ej nj = (aWr (aWr (thS S) 25 0 nj (fun i => S.2.2 6 (16 * wh S pj + (aj + i)))) 6 (16 * wh S qj + ej) nj (fun i => S.2.2 6 (16 * wh S pj + (aj + i)))) := by
                          unfold cpyS
                          rw [show kd (thS S) pj = 1 from hk_p]
                          rw [show (fun i => atS (thS S) pj (aj + i)) = fun i => S.2.2 6 (16 * wh S pj + (aj + i)) from funext fun i => by unfold atS; rw [show kd (thS S) pj = 1 from hk_p] <;> rfl] <;> rfl
                        have hE : s_copy S (nI pj) (nI aj) (nI qj) (nI ej) (nI nj) = (nI 1, (aWr (aWr (thS S) 25 0 nj (fun i => S.2.2 6 (16 * wh S pj + (aj + i)))) 6 (16 * wh S qj + ej) nj (fun i => S.2.2 6 (16 * wh S pj + (aj + i))))) := by
                          unfold s_copy
                          rw [if_pos h4, if_pos h11, hpl_p, hpl_q, if_neg (show ¬ (kd S pj = 0 ∨ kd S qj = 0) by omega), if_neg (show ¬ (3 < kd S pj ∨ kd S pj ≠ kd S qj) by omega), hlg_p, hlg_q, cp_if hlp hlq, if_pos hcs9, hpl_a, hpl_e, hpl_n, hcpy] <;> rfl
                        refine g_widen (c2 := 1) (s2 := 16) (Nat.le_of_ble_eq_true rfl) (Nat.le_of_ble_eq_true rfl) ?_
                        exact g_iret hC hR dX9_copy_133 ⟨b, congrArg (fun z => some (Value.int (Prod.fst z))) hE.symm, by rw [hE]; exact hx9, xG.rf⟩
                      · refine g_aload_n hC dX9_copy_114 rfl 2 rfl (Or.inr ⟨_, rfl⟩) ?_
                        refine g_iconst hC dX9_copy_115 (v := nI 3) (by decide) ?_
                        refine g_Vx (As := [.int (nI 3)]) (st := []) hC 1 dX9_copy_116 rfl (hx0.M hM).1 (hx0.M hM).2 gX9_copy_X9_failed rfl (by decide +kernel) ⟨Nat.le_of_ble_eq_true rfl, Nat.le_of_ble_eq_true rfl⟩ rfl (Nat.le_of_ble_eq_true rfl) ⟨(Nat.le_of_ble_eq_true rfl), (Nat.le_of_ble_eq_true rfl)⟩ (c2 := 0) (s2 := 0) rfl rfl (x_failed hx0 M hM 3) (fun v1 L1 f1 hp1 => ?_)
                        obtain ⟨rfl, hx1⟩ := hp1
                        show gW X vwCl 8 L1 f1 0 0 119 [(7, .ref (b.1 0 (wh S qj))), (6, .ref (b.1 0 (wh S pj))), (0, .ref M), (1, .int (nI pj)), (2, .int a), (3, .int (nI qj)), (4, .int e), (5, .int n)] [.int (fA 3)]
                        have hlp := hI.bl hw_p
                        have hlq := hI.bl hw_q
                        have hlg_p : longS S pj = S.2.1 5 (wh S pj) := by unfold longS; rw [hk_p] <;> rfl
                        have hlg_q : longS S qj = S.2.1 5 (wh S qj) := by unfold longS; rw [hk_q] <;> rfl
                        have hE : s_copy S (nI pj) a (nI qj) e n = (fA 3, (aSc (thS S) 1 3)) := by
                          unfold s_copy
                          rw [if_pos h4, if_pos h11, hpl_p, hpl_q, if_neg (show ¬ (kd S pj = 0 ∨ kd S qj = 0) by omega), if_neg (show ¬ (3 < kd S pj ∨ kd S pj ≠ kd S qj) by omega), hlg_p, hlg_q, cp_if hlp hlq, if_neg (fun z => h111 z.2)] <;> rfl
                        refine g_widen (c2 := 1) (s2 := 16) (Nat.le_of_ble_eq_true rfl) (Nat.le_of_ble_eq_true rfl) ?_
                        exact g_iret hC hR dX9_copy_119 ⟨b, congrArg (fun z => some (Value.int (Prod.fst z))) hE.symm, by rw [hE]; exact hx1, xG.rf⟩
                  · exfalso; omega
            · cases h31
          · have hw_q : wh S qj < S.1 7 := hI.ws hqj hk_q
            have hp0_q : plcF (thS S) b qj = some (b.1 2 (wh S qj)) := plc_k hqj hk_q (by decide)
            refine g_aald hC 5 rfl (hx0.Mp rfl).1 (hx0.Mp rfl).2 (qj) rfl (show qj < 10 by omega) (by decide) dX9_copy_30 ?_
            refine g_val (w := .ref (b.1 2 (wh S qj))) (congrArg va_rf hp0_q) ?_
            refine g_ifnonnull (o := some (b.1 2 (wh S qj))) (tgt := 40) hC dX9_copy_31 (by decide) (fun a31 h31 => ?_) (fun h31 => ?_)
            · refine g_aload_n hC dX9_copy_40 rfl 0 rfl (Or.inr ⟨_, rfl⟩) ?_
              refine g_get hC (by decide +kernel) rfl (hx0.M hM).1 (hx0.M hM).2 0 (by decide) (by decide +kernel) (Or.inl rfl) rfl dX9_copy_41 ?_
              refine g_iload_n hC dX9_copy_44 rfl 1 rfl ?_
              refine g_aald hC 5 rfl (hx0.Mp rfl).1 (hx0.Mp rfl).2 (pj) rfl (show pj < 10 by omega) (by decide) dX9_copy_45 ?_
              refine g_val (w := .ref (b.1 0 (wh S pj))) (congrArg va_rf hp0_p) ?_
              refine g_S (As := [.ref (b.1 0 (wh S pj))]) (st := []) hC 1 dX9_copy_46 gX9_copy_X9_asRow rfl (by decide +kernel) ⟨Nat.le_of_ble_eq_true rfl, Nat.le_of_ble_eq_true rfl⟩ rfl (Nat.le_of_ble_eq_true rfl) ⟨Nat.le_of_ble_eq_true rfl, Nat.le_of_ble_eq_true rfl⟩ (c2 := 0) (s2 := 0) rfl rfl (x_asRow (some (b.1 0 (wh S pj))) 1 (Or.inr ⟨_, 0, _, rfl, (hx0.B hw_p rfl), Or.inl ⟨rfl, rfl⟩⟩)) ?_
              refine g_astore (lv' := [(6, .ref (b.1 0 (wh S pj))), (0, .ref M), (1, .int (nI pj)), (2, .int a), (3, .int (nI qj)), (4, .int e), (5, .int n)]) hC dX9_copy_49 (by decide) rfl (Or.inr ⟨_, rfl⟩) ?_
              refine g_aload_n hC dX9_copy_51 rfl 1 rfl (Or.inr ⟨_, rfl⟩) ?_
              refine g_get hC (by decide +kernel) rfl (hx0.M hM).1 (hx0.M hM).2 0 (by decide) (by decide +kernel) (Or.inl rfl) rfl dX9_copy_52 ?_
              refine g_iload_n hC dX9_copy_55 rfl 4 rfl ?_
              refine g_aald hC 5 rfl (hx0.Mp rfl).1 (hx0.Mp rfl).2 (qj) rfl (show qj < 10 by omega) (by decide) dX9_copy_56 ?_
              refine g_val (w := .ref (b.1 2 (wh S qj))) (congrArg va_rf hp0_q) ?_
              refine g_S (As := [.ref (b.1 2 (wh S qj))]) (st := []) hC 1 dX9_copy_57 gX9_copy_X9_asRow rfl (by decide +kernel) ⟨Nat.le_of_ble_eq_true rfl, Nat.le_of_ble_eq_true rfl⟩ rfl (Nat.le_of_ble_eq_true rfl) ⟨Nat.le_of_ble_eq_true rfl, Nat.le_of_ble_eq_true rfl⟩ (c2 := 0) (s2 := 0) rfl rfl (x_asRow (some (b.1 2 (wh S qj))) 2 (Or.inr ⟨_, 4, _, rfl, (hx0.G hw_q rfl), Or.inr (Or.inl ⟨rfl, rfl⟩)⟩)) ?_
              refine g_astore (lv' := [(7, .ref (b.1 2 (wh S qj))), (6, .ref (b.1 0 (wh S pj))), (0, .ref M), (1, .int (nI pj)), (2, .int a), (3, .int (nI qj)), (4, .int e), (5, .int n)]) hC dX9_copy_60 (by decide) rfl (Or.inr ⟨_, rfl⟩) ?_
              refine g_aload hC dX9_copy_62 1 rfl (Or.inr ⟨_, rfl⟩) ?_
              refine g_ifnull (o := some (b.1 0 (wh S pj))) (tgt := 85) hC dX9_copy_64 (by decide) (fun h64 => ?_) (fun a64 h64 => ?_)
              · cases h64
              · refine g_aload hC dX9_copy_67 0 rfl (Or.inr ⟨_, rfl⟩) ?_
                refine g_ifnull (o := some (b.1 2 (wh S qj))) (tgt := 85) hC dX9_copy_69 (by decide) (fun h69 => ?_) (fun a69 h69 => ?_)
                · cases h69
                · refine g_aload hC dX9_copy_72 1 rfl (Or.inr ⟨_, rfl⟩) ?_
                  refine g_A (As := []) (st := []) hC 0 dX9_copy_74 rfl (hx0.B hw_p rfl).1 (hx0.B hw_p rfl).2 gX9_copy_X0_kind_u125X0 rfl (gKK_D ⟨"KeptTerms$Thing", "kind", "()I"⟩ (by decide)) (by decide +kernel) ⟨Nat.le_of_ble_eq_true rfl, Nat.le_of_ble_eq_true rfl⟩ rfl (Nat.le_of_ble_eq_true rfl) ⟨Nat.le_of_ble_eq_true rfl, Nat.le_of_ble_eq_true rfl⟩ (c2 := 0) (s2 := 0) rfl rfl (x_0_kind _) ?_
                  refine g_aload hC dX9_copy_77 0 rfl (Or.inr ⟨_, rfl⟩) ?_
                  refine g_A (As := []) (st := [.int (nI 1)]) hC 0 dX9_copy_79 rfl (hx0.G hw_q rfl).1 (hx0.G hw_q rfl).2 gX9_copy_X6_kind_u125X6 rfl (gKK_D ⟨"KeptTerms$Thing", "kind", "()I"⟩ (by decide)) (by decide +kernel) ⟨Nat.le_of_ble_eq_true rfl, Nat.le_of_ble_eq_true rfl⟩ rfl (Nat.le_of_ble_eq_true rfl) ⟨Nat.le_of_ble_eq_true rfl, Nat.le_of_ble_eq_true rfl⟩ (c2 := 0) (s2 := 0) rfl rfl (x_6_kind _) ?_
                  refine g_icmpN_eq (a := 1) (b := 2) (tgt := 91) hC dX9_copy_82 (by decide) (by omega) (by omega) (fun h82 => ?_) (fun h82 => ?_)
                  · exfalso; omega
                  · refine g_aload_n hC dX9_copy_85 rfl 2 rfl (Or.inr ⟨_, rfl⟩) ?_
                    refine g_iconst hC dX9_copy_86 (v := nI 4) (by decide) ?_
                    refine g_Vx (As := [.int (nI 4)]) (st := []) hC 1 dX9_copy_87 rfl (hx0.M hM).1 (hx0.M hM).2 gX9_copy_X9_failed rfl (by decide +kernel) ⟨Nat.le_of_ble_eq_true rfl, Nat.le_of_ble_eq_true rfl⟩ rfl (Nat.le_of_ble_eq_true rfl) ⟨(Nat.le_of_ble_eq_true rfl), (Nat.le_of_ble_eq_true rfl)⟩ (c2 := 0) (s2 := 0) rfl rfl (x_failed hx0 M hM 4) (fun v1 L1 f1 hp1 => ?_)
                    obtain ⟨rfl, hx1⟩ := hp1
                    show gW X vwCl 8 L1 f1 0 0 90 [(7, .ref (b.1 2 (wh S qj))), (6, .ref (b.1 0 (wh S pj))), (0, .ref M), (1, .int (nI pj)), (2, .int a), (3, .int (nI qj)), (4, .int e), (5, .int n)] [.int (fA 4)]
                    have hE : s_copy S (nI pj) a (nI qj) e n = (fA 4, (aSc (thS S) 1 4)) := by
                      unfold s_copy
                      rw [if_pos h4, if_pos h11, hpl_p, hpl_q, if_neg (show ¬ (kd S pj = 0 ∨ kd S qj = 0) by omega), if_pos (show 3 < kd S pj ∨ kd S pj ≠ kd S qj by omega)] <;> rfl
                    refine g_widen (c2 := 1) (s2 := 16) (Nat.le_of_ble_eq_true rfl) (Nat.le_of_ble_eq_true rfl) ?_
                    exact g_iret hC hR dX9_copy_90 ⟨b, congrArg (fun z => some (Value.int (Prod.fst z))) hE.symm, by rw [hE]; exact hx1, xG.rf⟩
            · cases h31
          · have hw_q : wh S qj < S.1 10 := hI.wr hqj hk_q
            have hp0_q : plcF (thS S) b qj = some (b.1 4 (wh S qj)) := plc_k hqj hk_q (by decide)
            refine g_aald hC 5 rfl (hx0.Mp rfl).1 (hx0.Mp rfl).2 (qj) rfl (show qj < 10 by omega) (by decide) dX9_copy_30 ?_
            refine g_val (w := .ref (b.1 4 (wh S qj))) (congrArg va_rf hp0_q) ?_
            refine g_ifnonnull (o := some (b.1 4 (wh S qj))) (tgt := 40) hC dX9_copy_31 (by decide) (fun a31 h31 => ?_) (fun h31 => ?_)
            · refine g_aload_n hC dX9_copy_40 rfl 0 rfl (Or.inr ⟨_, rfl⟩) ?_
              refine g_get hC (by decide +kernel) rfl (hx0.M hM).1 (hx0.M hM).2 0 (by decide) (by decide +kernel) (Or.inl rfl) rfl dX9_copy_41 ?_
              refine g_iload_n hC dX9_copy_44 rfl 1 rfl ?_
              refine g_aald hC 5 rfl (hx0.Mp rfl).1 (hx0.Mp rfl).2 (pj) rfl (show pj < 10 by omega) (by decide) dX9_copy_45 ?_
              refine g_val (w := .ref (b.1 0 (wh S pj))) (congrArg va_rf hp0_p) ?_
              refine g_S (As := [.ref (b.1 0 (wh S pj))]) (st := []) hC 1 dX9_copy_46 gX9_copy_X9_asRow rfl (by decide +kernel) ⟨Nat.le_of_ble_eq_true rfl, Nat.le_of_ble_eq_true rfl⟩ rfl (Nat.le_of_ble_eq_true rfl) ⟨Nat.le_of_ble_eq_true rfl, Nat.le_of_ble_eq_true rfl⟩ (c2 := 0) (s2 := 0) rfl rfl (x_asRow (some (b.1 0 (wh S pj))) 1 (Or.inr ⟨_, 0, _, rfl, (hx0.B hw_p rfl), Or.inl ⟨rfl, rfl⟩⟩)) ?_
              refine g_astore (lv' := [(6, .ref (b.1 0 (wh S pj))), (0, .ref M), (1, .int (nI pj)), (2, .int a), (3, .int (nI qj)), (4, .int e), (5, .int n)]) hC dX9_copy_49 (by decide) rfl (Or.inr ⟨_, rfl⟩) ?_
              refine g_aload_n hC dX9_copy_51 rfl 1 rfl (Or.inr ⟨_, rfl⟩) ?_
              refine g_get hC (by decide +kernel) rfl (hx0.M hM).1 (hx0.M hM).2 0 (by decide) (by decide +kernel) (Or.inl rfl) rfl dX9_copy_52 ?_
              refine g_iload_n hC dX9_copy_55 rfl 4 rfl ?_
              refine g_aald hC 5 rfl (hx0.Mp rfl).1 (hx0.Mp rfl).2 (qj) rfl (show qj < 10 by omega) (by decide) dX9_copy_56 ?_
              refine g_val (w := .ref (b.1 4 (wh S qj))) (congrArg va_rf hp0_q) ?_
              refine g_S (As := [.ref (b.1 4 (wh S qj))]) (st := []) hC 1 dX9_copy_57 gX9_copy_X9_asRow rfl (by decide +kernel) ⟨Nat.le_of_ble_eq_true rfl, Nat.le_of_ble_eq_true rfl⟩ rfl (Nat.le_of_ble_eq_true rfl) ⟨Nat.le_of_ble_eq_true rfl, Nat.le_of_ble_eq_true rfl⟩ (c2 := 0) (s2 := 0) rfl rfl (x_asRow (some (b.1 4 (wh S qj))) 3 (Or.inr ⟨_, 3, _, rfl, (hx0.W hw_q rfl), Or.inr (Or.inr (Or.inl ⟨rfl, rfl⟩))⟩)) ?_
              refine g_astore (lv' := [(7, .ref (b.1 4 (wh S qj))), (6, .ref (b.1 0 (wh S pj))), (0, .ref M), (1, .int (nI pj)), (2, .int a), (3, .int (nI qj)), (4, .int e), (5, .int n)]) hC dX9_copy_60 (by decide) rfl (Or.inr ⟨_, rfl⟩) ?_
              refine g_aload hC dX9_copy_62 1 rfl (Or.inr ⟨_, rfl⟩) ?_
              refine g_ifnull (o := some (b.1 0 (wh S pj))) (tgt := 85) hC dX9_copy_64 (by decide) (fun h64 => ?_) (fun a64 h64 => ?_)
              · cases h64
              · refine g_aload hC dX9_copy_67 0 rfl (Or.inr ⟨_, rfl⟩) ?_
                refine g_ifnull (o := some (b.1 4 (wh S qj))) (tgt := 85) hC dX9_copy_69 (by decide) (fun h69 => ?_) (fun a69 h69 => ?_)
                · cases h69
                · refine g_aload hC dX9_copy_72 1 rfl (Or.inr ⟨_, rfl⟩) ?_
                  refine g_A (As := []) (st := []) hC 0 dX9_copy_74 rfl (hx0.B hw_p rfl).1 (hx0.B hw_p rfl).2 gX9_copy_X0_kind_u125X0 rfl (gKK_D ⟨"KeptTerms$Thing", "kind", "()I"⟩ (by decide)) (by decide +kernel) ⟨Nat.le_of_ble_eq_true rfl, Nat.le_of_ble_eq_true rfl⟩ rfl (Nat.le_of_ble_eq_true rfl) ⟨Nat.le_of_ble_eq_true rfl, Nat.le_of_ble_eq_true rfl⟩ (c2 := 0) (s2 := 0) rfl rfl (x_0_kind _) ?_
                  refine g_aload hC dX9_copy_77 0 rfl (Or.inr ⟨_, rfl⟩) ?_
                  refine g_A (As := []) (st := [.int (nI 1)]) hC 0 dX9_copy_79 rfl (hx0.W hw_q rfl).1 (hx0.W hw_q rfl).2 gX9_copy_X5_kind_u125X5 rfl (gKK_D ⟨"KeptTerms$Thing", "kind", "()I"⟩ (by decide)) (by decide +kernel) ⟨Nat.le_of_ble_eq_true rfl, Nat.le_of_ble_eq_true rfl⟩ rfl (Nat.le_of_ble_eq_true rfl) ⟨Nat.le_of_ble_eq_true rfl, Nat.le_of_ble_eq_true rfl⟩ (c2 := 0) (s2 := 0) rfl rfl (x_5_kind _) ?_
                  refine g_icmpN_eq (a := 1) (b := 3) (tgt := 91) hC dX9_copy_82 (by decide) (by omega) (by omega) (fun h82 => ?_) (fun h82 => ?_)
                  · exfalso; omega
                  · refine g_aload_n hC dX9_copy_85 rfl 2 rfl (Or.inr ⟨_, rfl⟩) ?_
                    refine g_iconst hC dX9_copy_86 (v := nI 4) (by decide) ?_
                    refine g_Vx (As := [.int (nI 4)]) (st := []) hC 1 dX9_copy_87 rfl (hx0.M hM).1 (hx0.M hM).2 gX9_copy_X9_failed rfl (by decide +kernel) ⟨Nat.le_of_ble_eq_true rfl, Nat.le_of_ble_eq_true rfl⟩ rfl (Nat.le_of_ble_eq_true rfl) ⟨(Nat.le_of_ble_eq_true rfl), (Nat.le_of_ble_eq_true rfl)⟩ (c2 := 0) (s2 := 0) rfl rfl (x_failed hx0 M hM 4) (fun v1 L1 f1 hp1 => ?_)
                    obtain ⟨rfl, hx1⟩ := hp1
                    show gW X vwCl 8 L1 f1 0 0 90 [(7, .ref (b.1 4 (wh S qj))), (6, .ref (b.1 0 (wh S pj))), (0, .ref M), (1, .int (nI pj)), (2, .int a), (3, .int (nI qj)), (4, .int e), (5, .int n)] [.int (fA 4)]
                    have hE : s_copy S (nI pj) a (nI qj) e n = (fA 4, (aSc (thS S) 1 4)) := by
                      unfold s_copy
                      rw [if_pos h4, if_pos h11, hpl_p, hpl_q, if_neg (show ¬ (kd S pj = 0 ∨ kd S qj = 0) by omega), if_pos (show 3 < kd S pj ∨ kd S pj ≠ kd S qj by omega)] <;> rfl
                    refine g_widen (c2 := 1) (s2 := 16) (Nat.le_of_ble_eq_true rfl) (Nat.le_of_ble_eq_true rfl) ?_
                    exact g_iret hC hR dX9_copy_90 ⟨b, congrArg (fun z => some (Value.int (Prod.fst z))) hE.symm, by rw [hE]; exact hx1, xG.rf⟩
            · cases h31
          · have hw_q : wh S qj < S.1 13 := hI.wt hqj (by omega)
            have hb_q : S.2.1 14 (wh S qj) = 0 := by have := ((hI.2.1 _ hqj).2.2.2.2.2 (by omega)).2; omega
            have hp0_q : plcF (thS S) b qj = some (b.1 6 (wh S qj)) := plc_k hqj hk_q (by decide)
            refine g_aald hC 5 rfl (hx0.Mp rfl).1 (hx0.Mp rfl).2 (qj) rfl (show qj < 10 by omega) (by decide) dX9_copy_30 ?_
            refine g_val (w := .ref (b.1 6 (wh S qj))) (congrArg va_rf hp0_q) ?_
            refine g_ifnonnull (o := some (b.1 6 (wh S qj))) (tgt := 40) hC dX9_copy_31 (by decide) (fun a31 h31 => ?_) (fun h31 => ?_)
            · refine g_aload_n hC dX9_copy_40 rfl 0 rfl (Or.inr ⟨_, rfl⟩) ?_
              refine g_get hC (by decide +kernel) rfl (hx0.M hM).1 (hx0.M hM).2 0 (by decide) (by decide +kernel) (Or.inl rfl) rfl dX9_copy_41 ?_
              refine g_iload_n hC dX9_copy_44 rfl 1 rfl ?_
              refine g_aald hC 5 rfl (hx0.Mp rfl).1 (hx0.Mp rfl).2 (pj) rfl (show pj < 10 by omega) (by decide) dX9_copy_45 ?_
              refine g_val (w := .ref (b.1 0 (wh S pj))) (congrArg va_rf hp0_p) ?_
              refine g_S (As := [.ref (b.1 0 (wh S pj))]) (st := []) hC 1 dX9_copy_46 gX9_copy_X9_asRow rfl (by decide +kernel) ⟨Nat.le_of_ble_eq_true rfl, Nat.le_of_ble_eq_true rfl⟩ rfl (Nat.le_of_ble_eq_true rfl) ⟨Nat.le_of_ble_eq_true rfl, Nat.le_of_ble_eq_true rfl⟩ (c2 := 0) (s2 := 0) rfl rfl (x_asRow (some (b.1 0 (wh S pj))) 1 (Or.inr ⟨_, 0, _, rfl, (hx0.B hw_p rfl), Or.inl ⟨rfl, rfl⟩⟩)) ?_
              refine g_astore (lv' := [(6, .ref (b.1 0 (wh S pj))), (0, .ref M), (1, .int (nI pj)), (2, .int a), (3, .int (nI qj)), (4, .int e), (5, .int n)]) hC dX9_copy_49 (by decide) rfl (Or.inr ⟨_, rfl⟩) ?_
              refine g_aload_n hC dX9_copy_51 rfl 1 rfl (Or.inr ⟨_, rfl⟩) ?_
              refine g_get hC (by decide +kernel) rfl (hx0.M hM).1 (hx0.M hM).2 0 (by decide) (by decide +kernel) (Or.inl rfl) rfl dX9_copy_52 ?_
              refine g_iload_n hC dX9_copy_55 rfl 4 rfl ?_
              refine g_aald hC 5 rfl (hx0.Mp rfl).1 (hx0.Mp rfl).2 (qj) rfl (show qj < 10 by omega) (by decide) dX9_copy_56 ?_
              refine g_val (w := .ref (b.1 6 (wh S qj))) (congrArg va_rf hp0_q) ?_
              refine g_S (As := [.ref (b.1 6 (wh S qj))]) (st := []) hC 1 dX9_copy_57 gX9_copy_X9_asRow rfl (by decide +kernel) ⟨Nat.le_of_ble_eq_true rfl, Nat.le_of_ble_eq_true rfl⟩ rfl (Nat.le_of_ble_eq_true rfl) ⟨Nat.le_of_ble_eq_true rfl, Nat.le_of_ble_eq_true rfl⟩ (c2 := 0) (s2 := 0) rfl rfl (x_asRow (some (b.1 6 (wh S qj))) 4 (Or.inr ⟨_, 5, _, rfl, (hx0.T hw_q rfl hb_q), Or.inr (Or.inr (Or.inr (Or.inl ⟨rfl, rfl⟩)))⟩)) ?_
              refine g_astore (lv' := [(7, .null), (6, .ref (b.1 0 (wh S pj))), (0, .ref M), (1, .int (nI pj)), (2, .int a), (3, .int (nI qj)), (4, .int e), (5, .int n)]) hC dX9_copy_60 (by decide) rfl (Or.inl rfl) ?_
              refine g_aload hC dX9_copy_62 1 rfl (Or.inr ⟨_, rfl⟩) ?_
              refine g_ifnull (o := some (b.1 0 (wh S pj))) (tgt := 85) hC dX9_copy_64 (by decide) (fun h64 => ?_) (fun a64 h64 => ?_)
              · cases h64
              · refine g_aload hC dX9_copy_67 0 rfl (Or.inl rfl) ?_
                refine g_ifnull (o := none) (tgt := 85) hC dX9_copy_69 (by decide) (fun h69 => ?_) (fun a69 h69 => ?_)
                · refine g_aload_n hC dX9_copy_85 rfl 2 rfl (Or.inr ⟨_, rfl⟩) ?_
                  refine g_iconst hC dX9_copy_86 (v := nI 4) (by decide) ?_
                  refine g_Vx (As := [.int (nI 4)]) (st := []) hC 1 dX9_copy_87 rfl (hx0.M hM).1 (hx0.M hM).2 gX9_copy_X9_failed rfl (by decide +kernel) ⟨Nat.le_of_ble_eq_true rfl, Nat.le_of_ble_eq_true rfl⟩ rfl (Nat.le_of_ble_eq_true rfl) ⟨(Nat.le_of_ble_eq_true rfl), (Nat.le_of_ble_eq_true rfl)⟩ (c2 := 0) (s2 := 0) rfl rfl (x_failed hx0 M hM 4) (fun v1 L1 f1 hp1 => ?_)
                  obtain ⟨rfl, hx1⟩ := hp1
                  show gW X vwCl 8 L1 f1 0 0 90 [(7, .null), (6, .ref (b.1 0 (wh S pj))), (0, .ref M), (1, .int (nI pj)), (2, .int a), (3, .int (nI qj)), (4, .int e), (5, .int n)] [.int (fA 4)]
                  have hE : s_copy S (nI pj) a (nI qj) e n = (fA 4, (aSc (thS S) 1 4)) := by
                    unfold s_copy
                    rw [if_pos h4, if_pos h11, hpl_p, hpl_q, if_neg (show ¬ (kd S pj = 0 ∨ kd S qj = 0) by omega), if_pos (show 3 < kd S pj ∨ kd S pj ≠ kd S qj by omega)] <;> rfl
                  refine g_widen (c2 := 1) (s2 := 16) (Nat.le_of_ble_eq_true rfl) (Nat.le_of_ble_eq_true rfl) ?_
                  exact g_iret hC hR dX9_copy_90 ⟨b, congrArg (fun z => some (Value.int (Prod.fst z))) hE.symm, by rw [hE]; exact hx1, xG.rf⟩
                · cases h69
            · cases h31
          · have hw_q : wh S qj < S.1 13 := hI.wt hqj (by omega)
            have hb_q : S.2.1 14 (wh S qj) ≠ 0 := by have := ((hI.2.1 _ hqj).2.2.2.2.2 (by omega)).2; omega
            have hp0_q : plcF (thS S) b qj = some (b.1 6 (wh S qj)) := plc_k hqj hk_q (by decide)
            refine g_aald hC 5 rfl (hx0.Mp rfl).1 (hx0.Mp rfl).2 (qj) rfl (show qj < 10 by omega) (by decide) dX9_copy_30 ?_
            refine g_val (w := .ref (b.1 6 (wh S qj))) (congrArg va_rf hp0_q) ?_
            refine g_ifnonnull (o := some (b.1 6 (wh S qj))) (tgt := 40) hC dX9_copy_31 (by decide) (fun a31 h31 => ?_) (fun h31 => ?_)
            · refine g_aload_n hC dX9_copy_40 rfl 0 rfl (Or.inr ⟨_, rfl⟩) ?_
              refine g_get hC (by decide +kernel) rfl (hx0.M hM).1 (hx0.M hM).2 0 (by decide) (by decide +kernel) (Or.inl rfl) rfl dX9_copy_41 ?_
              refine g_iload_n hC dX9_copy_44 rfl 1 rfl ?_
              refine g_aald hC 5 rfl (hx0.Mp rfl).1 (hx0.Mp rfl).2 (pj) rfl (show pj < 10 by omega) (by decide) dX9_copy_45 ?_
              refine g_val (w := .ref (b.1 0 (wh S pj))) (congrArg va_rf hp0_p) ?_
              refine g_S (As := [.ref (b.1 0 (wh S pj))]) (st := []) hC 1 dX9_copy_46 gX9_copy_X9_asRow rfl (by decide +kernel) ⟨Nat.le_of_ble_eq_true rfl, Nat.le_of_ble_eq_true rfl⟩ rfl (Nat.le_of_ble_eq_true rfl) ⟨Nat.le_of_ble_eq_true rfl, Nat.le_of_ble_eq_true rfl⟩ (c2 := 0) (s2 := 0) rfl rfl (x_asRow (some (b.1 0 (wh S pj))) 1 (Or.inr ⟨_, 0, _, rfl, (hx0.B hw_p rfl), Or.inl ⟨rfl, rfl⟩⟩)) ?_
              refine g_astore (lv' := [(6, .ref (b.1 0 (wh S pj))), (0, .ref M), (1, .int (nI pj)), (2, .int a), (3, .int (nI qj)), (4, .int e), (5, .int n)]) hC dX9_copy_49 (by decide) rfl (Or.inr ⟨_, rfl⟩) ?_
              refine g_aload_n hC dX9_copy_51 rfl 1 rfl (Or.inr ⟨_, rfl⟩) ?_
              refine g_get hC (by decide +kernel) rfl (hx0.M hM).1 (hx0.M hM).2 0 (by decide) (by decide +kernel) (Or.inl rfl) rfl dX9_copy_52 ?_
              refine g_iload_n hC dX9_copy_55 rfl 4 rfl ?_
              refine g_aald hC 5 rfl (hx0.Mp rfl).1 (hx0.Mp rfl).2 (qj) rfl (show qj < 10 by omega) (by decide) dX9_copy_56 ?_
              refine g_val (w := .ref (b.1 6 (wh S qj))) (congrArg va_rf hp0_q) ?_
              refine g_S (As := [.ref (b.1 6 (wh S qj))]) (st := []) hC 1 dX9_copy_57 gX9_copy_X9_asRow rfl (by decide +kernel) ⟨Nat.le_of_ble_eq_true rfl, Nat.le_of_ble_eq_true rfl⟩ rfl (Nat.le_of_ble_eq_true rfl) ⟨Nat.le_of_ble_eq_true rfl, Nat.le_of_ble_eq_true rfl⟩ (c2 := 0) (s2 := 0) rfl rfl (x_asRow (some (b.1 6 (wh S qj))) 5 (Or.inr ⟨_, 1, _, rfl, (hx0.K hw_q rfl hb_q), Or.inr (Or.inr (Or.inr (Or.inr ⟨rfl, rfl⟩)))⟩)) ?_
              refine g_astore (lv' := [(7, .null), (6, .ref (b.1 0 (wh S pj))), (0, .ref M), (1, .int (nI pj)), (2, .int a), (3, .int (nI qj)), (4, .int e), (5, .int n)]) hC dX9_copy_60 (by decide) rfl (Or.inl rfl) ?_
              refine g_aload hC dX9_copy_62 1 rfl (Or.inr ⟨_, rfl⟩) ?_
              refine g_ifnull (o := some (b.1 0 (wh S pj))) (tgt := 85) hC dX9_copy_64 (by decide) (fun h64 => ?_) (fun a64 h64 => ?_)
              · cases h64
              · refine g_aload hC dX9_copy_67 0 rfl (Or.inl rfl) ?_
                refine g_ifnull (o := none) (tgt := 85) hC dX9_copy_69 (by decide) (fun h69 => ?_) (fun a69 h69 => ?_)
                · refine g_aload_n hC dX9_copy_85 rfl 2 rfl (Or.inr ⟨_, rfl⟩) ?_
                  refine g_iconst hC dX9_copy_86 (v := nI 4) (by decide) ?_
                  refine g_Vx (As := [.int (nI 4)]) (st := []) hC 1 dX9_copy_87 rfl (hx0.M hM).1 (hx0.M hM).2 gX9_copy_X9_failed rfl (by decide +kernel) ⟨Nat.le_of_ble_eq_true rfl, Nat.le_of_ble_eq_true rfl⟩ rfl (Nat.le_of_ble_eq_true rfl) ⟨(Nat.le_of_ble_eq_true rfl), (Nat.le_of_ble_eq_true rfl)⟩ (c2 := 0) (s2 := 0) rfl rfl (x_failed hx0 M hM 4) (fun v1 L1 f1 hp1 => ?_)
                  obtain ⟨rfl, hx1⟩ := hp1
                  show gW X vwCl 8 L1 f1 0 0 90 [(7, .null), (6, .ref (b.1 0 (wh S pj))), (0, .ref M), (1, .int (nI pj)), (2, .int a), (3, .int (nI qj)), (4, .int e), (5, .int n)] [.int (fA 4)]
                  have hE : s_copy S (nI pj) a (nI qj) e n = (fA 4, (aSc (thS S) 1 4)) := by
                    unfold s_copy
                    rw [if_pos h4, if_pos h11, hpl_p, hpl_q, if_neg (show ¬ (kd S pj = 0 ∨ kd S qj = 0) by omega), if_pos (show 3 < kd S pj ∨ kd S pj ≠ kd S qj by omega)] <;> rfl
                  refine g_widen (c2 := 1) (s2 := 16) (Nat.le_of_ble_eq_true rfl) (Nat.le_of_ble_eq_true rfl) ?_
                  exact g_iret hC hR dX9_copy_90 ⟨b, congrArg (fun z => some (Value.int (Prod.fst z))) hE.symm, by rw [hE]; exact hx1, xG.rf⟩
                · cases h69
            · cases h31
      · have hw_p : wh S pj < S.1 7 := hI.ws hpj hk_p
        have hp0_p : plcF (thS S) b pj = some (b.1 2 (wh S pj)) := plc_k hpj hk_p (by decide)
        refine g_aald hC 5 rfl (hx0.Mp rfl).1 (hx0.Mp rfl).2 (pj) rfl (show pj < 10 by omega) (by decide) dX9_copy_21 ?_
        refine g_val (w := .ref (b.1 2 (wh S pj))) (congrArg va_rf hp0_p) ?_
        refine g_ifnull (o := some (b.1 2 (wh S pj))) (tgt := 34) hC dX9_copy_22 (by decide) (fun h22 => ?_) (fun a22 h22 => ?_)
        · cases h22
        · refine g_aload_n hC dX9_copy_25 rfl 0 rfl (Or.inr ⟨_, rfl⟩) ?_
          refine g_get hC (by decide +kernel) rfl (hx0.M hM).1 (hx0.M hM).2 0 (by decide) (by decide +kernel) (Or.inl rfl) rfl dX9_copy_26 ?_
          refine g_iload_n hC dX9_copy_29 rfl 3 rfl ?_
          have h5_q := hI.k5 hqj
          rcases (show kd S qj = 0 ∨ kd S qj = 1 ∨ kd S qj = 2 ∨ kd S qj = 3 ∨ kd S qj = 4 ∨ kd S qj = 5 by omega) with hk_q | hk_q | hk_q | hk_q | hk_q | hk_q
          · have hp0_q : plcF (thS S) b qj = none := plc_0 hqj hk_q
            refine g_aald hC 5 rfl (hx0.Mp rfl).1 (hx0.Mp rfl).2 (qj) rfl (show qj < 10 by omega) (by decide) dX9_copy_30 ?_
            refine g_val (w := .null) (congrArg va_rf hp0_q) ?_
            refine g_ifnonnull (o := none) (tgt := 40) hC dX9_copy_31 (by decide) (fun a31 h31 => ?_) (fun h31 => ?_)
            · cases h31
            · refine g_aload_n hC dX9_copy_34 rfl 0 rfl (Or.inr ⟨_, rfl⟩) ?_
              refine g_iconst hC dX9_copy_35 (v := nI 1) (by decide) ?_
              refine g_Vx (As := [.int (nI 1)]) (st := []) hC 1 dX9_copy_36 rfl (hx0.M hM).1 (hx0.M hM).2 gX9_copy_X9_failed rfl (by decide +kernel) ⟨Nat.le_of_ble_eq_true rfl, Nat.le_of_ble_eq_true rfl⟩ rfl (Nat.le_of_ble_eq_true rfl) ⟨(Nat.le_of_ble_eq_true rfl), (Nat.le_of_ble_eq_true rfl)⟩ (c2 := 0) (s2 := 0) rfl rfl (x_failed hx0 M hM 1) (fun v1 L1 f1 hp1 => ?_)
              obtain ⟨rfl, hx1⟩ := hp1
              show gW X vwCl 8 L1 f1 0 0 39 [(0, .ref M), (1, .int (nI pj)), (2, .int a), (3, .int (nI qj)), (4, .int e), (5, .int n)] [.int (fA 1)]
              have hE : s_copy S (nI pj) a (nI qj) e n = (fA 1, (aSc (thS S) 1 1)) := by
                unfold s_copy
                rw [if_pos h4, if_pos h11, hpl_p, hpl_q, if_pos (Or.inr hk_q)] <;> rfl
              refine g_widen (c2 := 1) (s2 := 16) (Nat.le_of_ble_eq_true rfl) (Nat.le_of_ble_eq_true rfl) ?_
              exact g_iret hC hR dX9_copy_39 ⟨b, congrArg (fun z => some (Value.int (Prod.fst z))) hE.symm, by rw [hE]; exact hx1, xG.rf⟩
          · have hw_q : wh S qj < S.1 4 := hI.wl hqj hk_q
            have hp0_q : plcF (thS S) b qj = some (b.1 0 (wh S qj)) := plc_k hqj hk_q (by decide)
            refine g_aald hC 5 rfl (hx0.Mp rfl).1 (hx0.Mp rfl).2 (qj) rfl (show qj < 10 by omega) (by decide) dX9_copy_30 ?_
            refine g_val (w := .ref (b.1 0 (wh S qj))) (congrArg va_rf hp0_q) ?_
            refine g_ifnonnull (o := some (b.1 0 (wh S qj))) (tgt := 40) hC dX9_copy_31 (by decide) (fun a31 h31 => ?_) (fun h31 => ?_)
            · refine g_aload_n hC dX9_copy_40 rfl 0 rfl (Or.inr ⟨_, rfl⟩) ?_
              refine g_get hC (by decide +kernel) rfl (hx0.M hM).1 (hx0.M hM).2 0 (by decide) (by decide +kernel) (Or.inl rfl) rfl dX9_copy_41 ?_
              refine g_iload_n hC dX9_copy_44 rfl 1 rfl ?_
              refine g_aald hC 5 rfl (hx0.Mp rfl).1 (hx0.Mp rfl).2 (pj) rfl (show pj < 10 by omega) (by decide) dX9_copy_45 ?_
              refine g_val (w := .ref (b.1 2 (wh S pj))) (congrArg va_rf hp0_p) ?_
              refine g_S (As := [.ref (b.1 2 (wh S pj))]) (st := []) hC 1 dX9_copy_46 gX9_copy_X9_asRow rfl (by decide +kernel) ⟨Nat.le_of_ble_eq_true rfl, Nat.le_of_ble_eq_true rfl⟩ rfl (Nat.le_of_ble_eq_true rfl) ⟨Nat.le_of_ble_eq_true rfl, Nat.le_of_ble_eq_true rfl⟩ (c2 := 0) (s2 := 0) rfl rfl (x_asRow (some (b.1 2 (wh S pj))) 2 (Or.inr ⟨_, 4, _, rfl, (hx0.G hw_p rfl), Or.inr (Or.inl ⟨rfl, rfl⟩)⟩)) ?_
              refine g_astore (lv' := [(6, .ref (b.1 2 (wh S pj))), (0, .ref M), (1, .int (nI pj)), (2, .int a), (3, .int (nI qj)), (4, .int e), (5, .int n)]) hC dX9_copy_49 (by decide) rfl (Or.inr ⟨_, rfl⟩) ?_
              refine g_aload_n hC dX9_copy_51 rfl 1 rfl (Or.inr ⟨_, rfl⟩) ?_
              refine g_get hC (by decide +kernel) rfl (hx0.M hM).1 (hx0.M hM).2 0 (by decide) (by decide +kernel) (Or.inl rfl) rfl dX9_copy_52 ?_
              refine g_iload_n hC dX9_copy_55 rfl 4 rfl ?_
              refine g_aald hC 5 rfl (hx0.Mp rfl).1 (hx0.Mp rfl).2 (qj) rfl (show qj < 10 by omega) (by decide) dX9_copy_56 ?_
              refine g_val (w := .ref (b.1 0 (wh S qj))) (congrArg va_rf hp0_q) ?_
              refine g_S (As := [.ref (b.1 0 (wh S qj))]) (st := []) hC 1 dX9_copy_57 gX9_copy_X9_asRow rfl (by decide +kernel) ⟨Nat.le_of_ble_eq_true rfl, Nat.le_of_ble_eq_true rfl⟩ rfl (Nat.le_of_ble_eq_true rfl) ⟨Nat.le_of_ble_eq_true rfl, Nat.le_of_ble_eq_true rfl⟩ (c2 := 0) (s2 := 0) rfl rfl (x_asRow (some (b.1 0 (wh S qj))) 1 (Or.inr ⟨_, 0, _, rfl, (hx0.B hw_q rfl), Or.inl ⟨rfl, rfl⟩⟩)) ?_
              refine g_astore (lv' := [(7, .ref (b.1 0 (wh S qj))), (6, .ref (b.1 2 (wh S pj))), (0, .ref M), (1, .int (nI pj)), (2, .int a), (3, .int (nI qj)), (4, .int e), (5, .int n)]) hC dX9_copy_60 (by decide) rfl (Or.inr ⟨_, rfl⟩) ?_
              refine g_aload hC dX9_copy_62 1 rfl (Or.inr ⟨_, rfl⟩) ?_
              refine g_ifnull (o := some (b.1 2 (wh S pj))) (tgt := 85) hC dX9_copy_64 (by decide) (fun h64 => ?_) (fun a64 h64 => ?_)
              · cases h64
              · refine g_aload hC dX9_copy_67 0 rfl (Or.inr ⟨_, rfl⟩) ?_
                refine g_ifnull (o := some (b.1 0 (wh S qj))) (tgt := 85) hC dX9_copy_69 (by decide) (fun h69 => ?_) (fun a69 h69 => ?_)
                · cases h69
                · refine g_aload hC dX9_copy_72 1 rfl (Or.inr ⟨_, rfl⟩) ?_
                  refine g_A (As := []) (st := []) hC 0 dX9_copy_74 rfl (hx0.G hw_p rfl).1 (hx0.G hw_p rfl).2 gX9_copy_X6_kind_u125X6 rfl (gKK_D ⟨"KeptTerms$Thing", "kind", "()I"⟩ (by decide)) (by decide +kernel) ⟨Nat.le_of_ble_eq_true rfl, Nat.le_of_ble_eq_true rfl⟩ rfl (Nat.le_of_ble_eq_true rfl) ⟨Nat.le_of_ble_eq_true rfl, Nat.le_of_ble_eq_true rfl⟩ (c2 := 0) (s2 := 0) rfl rfl (x_6_kind _) ?_
                  refine g_aload hC dX9_copy_77 0 rfl (Or.inr ⟨_, rfl⟩) ?_
                  refine g_A (As := []) (st := [.int (nI 2)]) hC 0 dX9_copy_79 rfl (hx0.B hw_q rfl).1 (hx0.B hw_q rfl).2 gX9_copy_X0_kind_u125X0 rfl (gKK_D ⟨"KeptTerms$Thing", "kind", "()I"⟩ (by decide)) (by decide +kernel) ⟨Nat.le_of_ble_eq_true rfl, Nat.le_of_ble_eq_true rfl⟩ rfl (Nat.le_of_ble_eq_true rfl) ⟨Nat.le_of_ble_eq_true rfl, Nat.le_of_ble_eq_true rfl⟩ (c2 := 0) (s2 := 0) rfl rfl (x_0_kind _) ?_
                  refine g_icmpN_eq (a := 2) (b := 1) (tgt := 91) hC dX9_copy_82 (by decide) (by omega) (by omega) (fun h82 => ?_) (fun h82 => ?_)
                  · exfalso; omega
                  · refine g_aload_n hC dX9_copy_85 rfl 2 rfl (Or.inr ⟨_, rfl⟩) ?_
                    refine g_iconst hC dX9_copy_86 (v := nI 4) (by decide) ?_
                    refine g_Vx (As := [.int (nI 4)]) (st := []) hC 1 dX9_copy_87 rfl (hx0.M hM).1 (hx0.M hM).2 gX9_copy_X9_failed rfl (by decide +kernel) ⟨Nat.le_of_ble_eq_true rfl, Nat.le_of_ble_eq_true rfl⟩ rfl (Nat.le_of_ble_eq_true rfl) ⟨(Nat.le_of_ble_eq_true rfl), (Nat.le_of_ble_eq_true rfl)⟩ (c2 := 0) (s2 := 0) rfl rfl (x_failed hx0 M hM 4) (fun v1 L1 f1 hp1 => ?_)
                    obtain ⟨rfl, hx1⟩ := hp1
                    show gW X vwCl 8 L1 f1 0 0 90 [(7, .ref (b.1 0 (wh S qj))), (6, .ref (b.1 2 (wh S pj))), (0, .ref M), (1, .int (nI pj)), (2, .int a), (3, .int (nI qj)), (4, .int e), (5, .int n)] [.int (fA 4)]
                    have hE : s_copy S (nI pj) a (nI qj) e n = (fA 4, (aSc (thS S) 1 4)) := by
                      unfold s_copy
                      rw [if_pos h4, if_pos h11, hpl_p, hpl_q, if_neg (show ¬ (kd S pj = 0 ∨ kd S qj = 0) by omega), if_pos (show 3 < kd S pj ∨ kd S pj ≠ kd S qj by omega)] <;> rfl
                    refine g_widen (c2 := 1) (s2 := 16) (Nat.le_of_ble_eq_true rfl) (Nat.le_of_ble_eq_true rfl) ?_
                    exact g_iret hC hR dX9_copy_90 ⟨b, congrArg (fun z => some (Value.int (Prod.fst z))) hE.symm, by rw [hE]; exact hx1, xG.rf⟩
            · cases h31
          · have hw_q : wh S qj < S.1 7 := hI.ws hqj hk_q
            have hp0_q : plcF (thS S) b qj = some (b.1 2 (wh S qj)) := plc_k hqj hk_q (by decide)
            refine g_aald hC 5 rfl (hx0.Mp rfl).1 (hx0.Mp rfl).2 (qj) rfl (show qj < 10 by omega) (by decide) dX9_copy_30 ?_
            refine g_val (w := .ref (b.1 2 (wh S qj))) (congrArg va_rf hp0_q) ?_
            refine g_ifnonnull (o := some (b.1 2 (wh S qj))) (tgt := 40) hC dX9_copy_31 (by decide) (fun a31 h31 => ?_) (fun h31 => ?_)
            · refine g_aload_n hC dX9_copy_40 rfl 0 rfl (Or.inr ⟨_, rfl⟩) ?_
              refine g_get hC (by decide +kernel) rfl (hx0.M hM).1 (hx0.M hM).2 0 (by decide) (by decide +kernel) (Or.inl rfl) rfl dX9_copy_41 ?_
              refine g_iload_n hC dX9_copy_44 rfl 1 rfl ?_
              refine g_aald hC 5 rfl (hx0.Mp rfl).1 (hx0.Mp rfl).2 (pj) rfl (show pj < 10 by omega) (by decide) dX9_copy_45 ?_
              refine g_val (w := .ref (b.1 2 (wh S pj))) (congrArg va_rf hp0_p) ?_
              refine g_S (As := [.ref (b.1 2 (wh S pj))]) (st := []) hC 1 dX9_copy_46 gX9_copy_X9_asRow rfl (by decide +kernel) ⟨Nat.le_of_ble_eq_true rfl, Nat.le_of_ble_eq_true rfl⟩ rfl (Nat.le_of_ble_eq_true rfl) ⟨Nat.le_of_ble_eq_true rfl, Nat.le_of_ble_eq_true rfl⟩ (c2 := 0) (s2 := 0) rfl rfl (x_asRow (some (b.1 2 (wh S pj))) 2 (Or.inr ⟨_, 4, _, rfl, (hx0.G hw_p rfl), Or.inr (Or.inl ⟨rfl, rfl⟩)⟩)) ?_
              refine g_astore (lv' := [(6, .ref (b.1 2 (wh S pj))), (0, .ref M), (1, .int (nI pj)), (2, .int a), (3, .int (nI qj)), (4, .int e), (5, .int n)]) hC dX9_copy_49 (by decide) rfl (Or.inr ⟨_, rfl⟩) ?_
              refine g_aload_n hC dX9_copy_51 rfl 1 rfl (Or.inr ⟨_, rfl⟩) ?_
              refine g_get hC (by decide +kernel) rfl (hx0.M hM).1 (hx0.M hM).2 0 (by decide) (by decide +kernel) (Or.inl rfl) rfl dX9_copy_52 ?_
              refine g_iload_n hC dX9_copy_55 rfl 4 rfl ?_
              refine g_aald hC 5 rfl (hx0.Mp rfl).1 (hx0.Mp rfl).2 (qj) rfl (show qj < 10 by omega) (by decide) dX9_copy_56 ?_
              refine g_val (w := .ref (b.1 2 (wh S qj))) (congrArg va_rf hp0_q) ?_
              refine g_S (As := [.ref (b.1 2 (wh S qj))]) (st := []) hC 1 dX9_copy_57 gX9_copy_X9_asRow rfl (by decide +kernel) ⟨Nat.le_of_ble_eq_true rfl, Nat.le_of_ble_eq_true rfl⟩ rfl (Nat.le_of_ble_eq_true rfl) ⟨Nat.le_of_ble_eq_true rfl, Nat.le_of_ble_eq_true rfl⟩ (c2 := 0) (s2 := 0) rfl rfl (x_asRow (some (b.1 2 (wh S qj))) 2 (Or.inr ⟨_, 4, _, rfl, (hx0.G hw_q rfl), Or.inr (Or.inl ⟨rfl, rfl⟩)⟩)) ?_
              refine g_astore (lv' := [(7, .ref (b.1 2 (wh S qj))), (6, .ref (b.1 2 (wh S pj))), (0, .ref M), (1, .int (nI pj)), (2, .int a), (3, .int (nI qj)), (4, .int e), (5, .int n)]) hC dX9_copy_60 (by decide) rfl (Or.inr ⟨_, rfl⟩) ?_
              refine g_aload hC dX9_copy_62 1 rfl (Or.inr ⟨_, rfl⟩) ?_
              refine g_ifnull (o := some (b.1 2 (wh S pj))) (tgt := 85) hC dX9_copy_64 (by decide) (fun h64 => ?_) (fun a64 h64 => ?_)
              · cases h64
              · refine g_aload hC dX9_copy_67 0 rfl (Or.inr ⟨_, rfl⟩) ?_
                refine g_ifnull (o := some (b.1 2 (wh S qj))) (tgt := 85) hC dX9_copy_69 (by decide) (fun h69 => ?_) (fun a69 h69 => ?_)
                · cases h69
                · refine g_aload hC dX9_copy_72 1 rfl (Or.inr ⟨_, rfl⟩) ?_
                  refine g_A (As := []) (st := []) hC 0 dX9_copy_74 rfl (hx0.G hw_p rfl).1 (hx0.G hw_p rfl).2 gX9_copy_X6_kind_u125X6 rfl (gKK_D ⟨"KeptTerms$Thing", "kind", "()I"⟩ (by decide)) (by decide +kernel) ⟨Nat.le_of_ble_eq_true rfl, Nat.le_of_ble_eq_true rfl⟩ rfl (Nat.le_of_ble_eq_true rfl) ⟨Nat.le_of_ble_eq_true rfl, Nat.le_of_ble_eq_true rfl⟩ (c2 := 0) (s2 := 0) rfl rfl (x_6_kind _) ?_
                  refine g_aload hC dX9_copy_77 0 rfl (Or.inr ⟨_, rfl⟩) ?_
                  refine g_A (As := []) (st := [.int (nI 2)]) hC 0 dX9_copy_79 rfl (hx0.G hw_q rfl).1 (hx0.G hw_q rfl).2 gX9_copy_X6_kind_u125X6 rfl (gKK_D ⟨"KeptTerms$Thing", "kind", "()I"⟩ (by decide)) (by decide +kernel) ⟨Nat.le_of_ble_eq_true rfl, Nat.le_of_ble_eq_true rfl⟩ rfl (Nat.le_of_ble_eq_true rfl) ⟨Nat.le_of_ble_eq_true rfl, Nat.le_of_ble_eq_true rfl⟩ (c2 := 0) (s2 := 0) rfl rfl (x_6_kind _) ?_
                  refine g_icmpN_eq (a := 2) (b := 2) (tgt := 91) hC dX9_copy_82 (by decide) (by omega) (by omega) (fun h82 => ?_) (fun h82 => ?_)
                  · refine g_aload hC dX9_copy_91 1 rfl (Or.inr ⟨_, rfl⟩) ?_
                    refine g_iload_n hC dX9_copy_93 rfl 4 rfl ?_
                    refine g_iload hC dX9_copy_94 7 rfl ?_
                    refine g_U (As := [.int a, .int n]) (st := []) hC 2 dX9_copy_96 rfl (hx0.G hw_p rfl).1 (hx0.G hw_p rfl).2 gX9_copy_X4_hasCells_u128X6 rfl rfl (by decide +kernel) ⟨Nat.le_of_ble_eq_true rfl, Nat.le_of_ble_eq_true rfl⟩ rfl (Nat.le_of_ble_eq_true rfl) ⟨Nat.le_of_ble_eq_true rfl, Nat.le_of_ble_eq_true rfl⟩ (c2 := 0) (s2 := 0) rfl rfl (x_4_hasCells_S _ _ _ _ (hx0.isS hw_p rfl (hI.2.2.2.1 _ hw_p)) _ _) ?_
                    refine g_ifB_eq (P := hcs a n (S.2.1 8 (wh S pj))) (tgt := 114) hC dX9_copy_99 (by decide) (fun h99 => ?_) (fun h99 => ?_)
                    · refine g_aload_n hC dX9_copy_114 rfl 2 rfl (Or.inr ⟨_, rfl⟩) ?_
                      refine g_iconst hC dX9_copy_115 (v := nI 3) (by decide) ?_
                      refine g_Vx (As := [.int (nI 3)]) (st := []) hC 1 dX9_copy_116 rfl (hx0.M hM).1 (hx0.M hM).2 gX9_copy_X9_failed rfl (by decide +kernel) ⟨Nat.le_of_ble_eq_true rfl, Nat.le_of_ble_eq_true rfl⟩ rfl (Nat.le_of_ble_eq_true rfl) ⟨(Nat.le_of_ble_eq_true rfl), (Nat.le_of_ble_eq_true rfl)⟩ (c2 := 0) (s2 := 0) rfl rfl (x_failed hx0 M hM 3) (fun v1 L1 f1 hp1 => ?_)
                      obtain ⟨rfl, hx1⟩ := hp1
                      show gW X vwCl 8 L1 f1 0 0 119 [(7, .ref (b.1 2 (wh S qj))), (6, .ref (b.1 2 (wh S pj))), (0, .ref M), (1, .int (nI pj)), (2, .int a), (3, .int (nI qj)), (4, .int e), (5, .int n)] [.int (fA 3)]
                      have hlp := hI.2.2.2.1 _ hw_p
                      have hlq := hI.2.2.2.1 _ hw_q
                      have hlg_p : longS S pj = S.2.1 8 (wh S pj) := by unfold longS; rw [hk_p] <;> rfl
                      have hlg_q : longS S qj = S.2.1 8 (wh S qj) := by unfold longS; rw [hk_q] <;> rfl
                      have hE : s_copy S (nI pj) a (nI qj) e n = (fA 3, (aSc (thS S) 1 3)) := by
                        unfold s_copy
                        rw [if_pos h4, if_pos h11, hpl_p, hpl_q, if_neg (show ¬ (kd S pj = 0 ∨ kd S qj = 0) by omega), if_neg (show ¬ (3 < kd S pj ∨ kd S pj ≠ kd S qj) by omega), hlg_p, hlg_q, cp_if hlp hlq, if_neg (fun z => h99 z.1)] <;> rfl
                      refine g_widen (c2 := 1) (s2 := 16) (Nat.le_of_ble_eq_true rfl) (Nat.le_of_ble_eq_true rfl) ?_
                      exact g_iret hC hR dX9_copy_119 ⟨b, congrArg (fun z => some (Value.int (Prod.fst z))) hE.symm, by rw [hE]; exact hx1, xG.rf⟩
                    · refine g_aload hC dX9_copy_102 0 rfl (Or.inr ⟨_, rfl⟩) ?_
                      refine g_iload hC dX9_copy_104 6 rfl ?_
                      refine g_iload hC dX9_copy_106 7 rfl ?_
                      refine g_U (As := [.int e, .int n]) (st := []) hC 2 dX9_copy_108 rfl (hx0.G hw_q rfl).1 (hx0.G hw_q rfl).2 gX9_copy_X4_hasCells_u128X6 rfl rfl (by decide +kernel) ⟨Nat.le_of_ble_eq_true rfl, Nat.le_of_ble_eq_true rfl⟩ rfl (Nat.le_of_ble_eq_true rfl) ⟨Nat.le_of_ble_eq_true rfl, Nat.le_of_ble_eq_true rfl⟩ (c2 := 0) (s2 := 0) rfl rfl (x_4_hasCells_S _ _ _ _ (hx0.isS hw_q rfl (hI.2.2.2.1 _ hw_q)) _ _) ?_
                      refine g_ifB_ne (P := hcs e n (S.2.1 8 (wh S qj))) (tgt := 120) hC dX9_copy_111 (by decide) (fun h111 => ?_) (fun h111 => ?_)
                      · have hlp := hI.2.2.2.1 _ hw_p
                        have hlq := hI.2.2.2.1 _ hw_q
                        have hcs9 : hcs a n (S.2.1 8 (wh S pj)) ∧ hcs e n (S.2.1 8 (wh S qj)) := ⟨h99, h111⟩
                        obtain ⟨aj, nj, han, rfl, rfl⟩ := cpy_of hlp (Int32.not_lt.mpr h99.1) (Int32.not_lt.mpr h99.2.1) h99.2.2.2
                        obtain ⟨ej, n9, hen, rfl, hn9⟩ := cpy_of hlq (Int32.not_lt.mpr h111.1) (Int32.not_lt.mpr h111.2.1) h111.2.2.2
                        have hn9 : nj = n9 := by
                          have z := congrArg Int32.toNatClampNeg hn9
                          rwa [nI_clamp (by omega), nI_clamp (by omega)] at z
                        subst hn9
                        have hpl_a : pl (nI aj) = aj := nI_clamp (by omega)
                        have hpl_e : pl (nI ej) = ej := nI_clamp (by omega)
                        have hpl_n : pl (nI nj) = nj := nI_clamp (by omega)
                        refine g_aload hC dX9_copy_120 1 rfl (Or.inr ⟨_, rfl⟩) ?_
                        refine g_aload hC dX9_copy_122 0 rfl (Or.inr ⟨_, rfl⟩) ?_
                        refine g_iload_n hC dX9_copy_124 rfl 4 rfl ?_
                        refine g_iload hC dX9_copy_125 6 rfl ?_
                        refine g_iload hC dX9_copy_127 7 rfl ?_
                        refine g_Ax (As := [.ref (b.1 2 (wh S qj)), .int (nI aj), .int (nI ej), .int (nI nj)]) (st := []) hC 4 dX9_copy_129 rfl (hx0.G hw_p rfl).1 (hx0.G hw_p rfl).2 gX9_copy_X6_passTo_u132X6 rfl (gKK_D ⟨"KeptTerms$Row", "passTo", "(LKeptTerms$Row;III)V"⟩ (by decide)) (by decide +kernel) ⟨Nat.le_of_ble_eq_true rfl, Nat.le_of_ble_eq_true rfl⟩ rfl (Nat.le_of_ble_eq_true rfl) ⟨(Nat.le_of_ble_eq_true rfl), (Nat.le_of_ble_eq_true rfl)⟩ (c2 := 0) (s2 := 0) rfl rfl (x_passTo_S (S := thS S) hx0 hI0 _ _ hw_p rfl _ _ hw_q rfl aj ej nj (show aj + nj ≤ S.2.1 8 (wh S pj) by omega) (show ej + nj ≤ S.2.1 8 (wh S qj) by omega)) (fun v1 L1 f1 hp1 => ?_)
                        obtain ⟨rfl, hx1⟩ := hp1
                        show gW X vwCl 8 L1 f1 0 0 132 [(7, .ref (b.1 2 (wh S qj))), (6, .ref (b.1 2 (wh S pj))), (0, .ref M), (1, .int (nI pj)), (2, .int (nI aj)), (3, .int (nI qj)), (4, .int (nI ej)), (5, .int (nI nj))] []
                        have hx9 : xR cy (aWr (aWr (thS S) 25 0 nj (fun i => S.2.2 9 (16 * wh S pj + (aj + i)))) 9 (16 * wh S qj + ej) nj (fun i => S.2.2 9 (16 * wh S pj + (aj + i)))) b L1 f1 := hx1.eqv ⟨⟨rfl, rfl, rfl, rfl⟩, fun _ _ => ⟨rfl, fun _ _ => rfl⟩, fun _ _ => ⟨rfl, fun _ _ => rfl⟩, fun _ _ => ⟨rfl, fun _ _ => rfl⟩, fun _ _ => ⟨rfl, rfl, rfl, rfl, rfl, fun _ _ => rfl, fun _ _ => rfl⟩, fun _ _ => rfl, fun _ _ => ⟨rfl, rfl⟩⟩ (xF.of (S := thS S) hI0) rfl rfl rfl rfl
                        refine g_iconst hC dX9_copy_132 (v := nI 1) (by decide) ?_
                        have hlg_p : longS S pj = S.2.1 8 (wh S pj) := by unfold longS; rw [hk_p] <;> rfl
                        have hlg_q : longS S qj = S.2.1 8 (wh S qj) := by unfold longS; rw [hk_q] <;> rfl
                        have hcpy : cpyS (thS S) pj aj qj ej nj = (aWr (aWr (thS S) 25 0 nj (fun i => S.2.2 9 (16 * wh S pj + (aj + i)))) 9 (16 * wh S qj + ej) nj (fun i => S.2.2 9 (16 * wh S pj + (aj + i)))) := by
                          unfold cpyS
                          rw [show kd (thS S) pj = 2 from hk_p]
                          rw [show (fun i => atS (thS S) pj (aj + i)) = fun i => S.2.2 9 (16 * wh S pj + (aj + i)) from funext fun i => by unfold atS; rw [show kd (thS S) pj = 2 from hk_p] <;> rfl] <;> rfl
                        have hE : s_copy S (nI pj) (nI aj) (nI qj) (nI ej) (nI nj) = (nI 1, (aWr (aWr (thS S) 25 0 nj (fun i => S.2.2 9 (16 * wh S pj + (aj + i)))) 9 (16 * wh S qj + ej) nj (fun i => S.2.2 9 (16 * wh S pj + (aj + i))))) := by
                          unfold s_copy
                          rw [if_pos h4, if_pos h11, hpl_p, hpl_q, if_neg (show ¬ (kd S pj = 0 ∨ kd S qj = 0) by omega), if_neg (show ¬ (3 < kd S pj ∨ kd S pj ≠ kd S qj) by omega), hlg_p, hlg_q, cp_if hlp hlq, if_pos hcs9, hpl_a, hpl_e, hpl_n, hcpy] <;> rfl
                        refine g_widen (c2 := 1) (s2 := 16) (Nat.le_of_ble_eq_true rfl) (Nat.le_of_ble_eq_true rfl) ?_
                        exact g_iret hC hR dX9_copy_133 ⟨b, congrArg (fun z => some (Value.int (Prod.fst z))) hE.symm, by rw [hE]; exact hx9, xG.rf⟩
                      · refine g_aload_n hC dX9_copy_114 rfl 2 rfl (Or.inr ⟨_, rfl⟩) ?_
                        refine g_iconst hC dX9_copy_115 (v := nI 3) (by decide) ?_
                        refine g_Vx (As := [.int (nI 3)]) (st := []) hC 1 dX9_copy_116 rfl (hx0.M hM).1 (hx0.M hM).2 gX9_copy_X9_failed rfl (by decide +kernel) ⟨Nat.le_of_ble_eq_true rfl, Nat.le_of_ble_eq_true rfl⟩ rfl (Nat.le_of_ble_eq_true rfl) ⟨(Nat.le_of_ble_eq_true rfl), (Nat.le_of_ble_eq_true rfl)⟩ (c2 := 0) (s2 := 0) rfl rfl (x_failed hx0 M hM 3) (fun v1 L1 f1 hp1 => ?_)
                        obtain ⟨rfl, hx1⟩ := hp1
                        show gW X vwCl 8 L1 f1 0 0 119 [(7, .ref (b.1 2 (wh S qj))), (6, .ref (b.1 2 (wh S pj))), (0, .ref M), (1, .int (nI pj)), (2, .int a), (3, .int (nI qj)), (4, .int e), (5, .int n)] [.int (fA 3)]
                        have hlp := hI.2.2.2.1 _ hw_p
                        have hlq := hI.2.2.2.1 _ hw_q
                        have hlg_p : longS S pj = S.2.1 8 (wh S pj) := by unfold longS; rw [hk_p] <;> rfl
                        have hlg_q : longS S qj = S.2.1 8 (wh S qj) := by unfold longS; rw [hk_q] <;> rfl
                        have hE : s_copy S (nI pj) a (nI qj) e n = (fA 3, (aSc (thS S) 1 3)) := by
                          unfold s_copy
                          rw [if_pos h4, if_pos h11, hpl_p, hpl_q, if_neg (show ¬ (kd S pj = 0 ∨ kd S qj = 0) by omega), if_neg (show ¬ (3 < kd S pj ∨ kd S pj ≠ kd S qj) by omega), hlg_p, hlg_q, cp_if hlp hlq, if_neg (fun z => h111 z.2)] <;> rfl
                        refine g_widen (c2 := 1) (s2 := 16) (Nat.le_of_ble_eq_true rfl) (Nat.le_of_ble_eq_true rfl) ?_
                        exact g_iret hC hR dX9_copy_119 ⟨b, congrArg (fun z => some (Value.int (Prod.fst z))) hE.symm, by rw [hE]; exact hx1, xG.rf⟩
                  · exfalso; omega
            · cases h31
          · have hw_q : wh S qj < S.1 10 := hI.wr hqj hk_q
            have hp0_q : plcF (thS S) b qj = some (b.1 4 (wh S qj)) := plc_k hqj hk_q (by decide)
            refine g_aald hC 5 rfl (hx0.Mp rfl).1 (hx0.Mp rfl).2 (qj) rfl (show qj < 10 by omega) (by decide) dX9_copy_30 ?_
            refine g_val (w := .ref (b.1 4 (wh S qj))) (congrArg va_rf hp0_q) ?_
            refine g_ifnonnull (o := some (b.1 4 (wh S qj))) (tgt := 40) hC dX9_copy_31 (by decide) (fun a31 h31 => ?_) (fun h31 => ?_)
            · refine g_aload_n hC dX9_copy_40 rfl 0 rfl (Or.inr ⟨_, rfl⟩) ?_
              refine g_get hC (by decide +kernel) rfl (hx0.M hM).1 (hx0.M hM).2 0 (by decide) (by decide +kernel) (Or.inl rfl) rfl dX9_copy_41 ?_
              refine g_iload_n hC dX9_copy_44 rfl 1 rfl ?_
              refine g_aald hC 5 rfl (hx0.Mp rfl).1 (hx0.Mp rfl).2 (pj) rfl (show pj < 10 by omega) (by decide) dX9_copy_45 ?_
              refine g_val (w := .ref (b.1 2 (wh S pj))) (congrArg va_rf hp0_p) ?_
              refine g_S (As := [.ref (b.1 2 (wh S pj))]) (st := []) hC 1 dX9_copy_46 gX9_copy_X9_asRow rfl (by decide +kernel) ⟨Nat.le_of_ble_eq_true rfl, Nat.le_of_ble_eq_true rfl⟩ rfl (Nat.le_of_ble_eq_true rfl) ⟨Nat.le_of_ble_eq_true rfl, Nat.le_of_ble_eq_true rfl⟩ (c2 := 0) (s2 := 0) rfl rfl (x_asRow (some (b.1 2 (wh S pj))) 2 (Or.inr ⟨_, 4, _, rfl, (hx0.G hw_p rfl), Or.inr (Or.inl ⟨rfl, rfl⟩)⟩)) ?_
              refine g_astore (lv' := [(6, .ref (b.1 2 (wh S pj))), (0, .ref M), (1, .int (nI pj)), (2, .int a), (3, .int (nI qj)), (4, .int e), (5, .int n)]) hC dX9_copy_49 (by decide) rfl (Or.inr ⟨_, rfl⟩) ?_
              refine g_aload_n hC dX9_copy_51 rfl 1 rfl (Or.inr ⟨_, rfl⟩) ?_
              refine g_get hC (by decide +kernel) rfl (hx0.M hM).1 (hx0.M hM).2 0 (by decide) (by decide +kernel) (Or.inl rfl) rfl dX9_copy_52 ?_
              refine g_iload_n hC dX9_copy_55 rfl 4 rfl ?_
              refine g_aald hC 5 rfl (hx0.Mp rfl).1 (hx0.Mp rfl).2 (qj) rfl (show qj < 10 by omega) (by decide) dX9_copy_56 ?_
              refine g_val (w := .ref (b.1 4 (wh S qj))) (congrArg va_rf hp0_q) ?_
              refine g_S (As := [.ref (b.1 4 (wh S qj))]) (st := []) hC 1 dX9_copy_57 gX9_copy_X9_asRow rfl (by decide +kernel) ⟨Nat.le_of_ble_eq_true rfl, Nat.le_of_ble_eq_true rfl⟩ rfl (Nat.le_of_ble_eq_true rfl) ⟨Nat.le_of_ble_eq_true rfl, Nat.le_of_ble_eq_true rfl⟩ (c2 := 0) (s2 := 0) rfl rfl (x_asRow (some (b.1 4 (wh S qj))) 3 (Or.inr ⟨_, 3, _, rfl, (hx0.W hw_q rfl), Or.inr (Or.inr (Or.inl ⟨rfl, rfl⟩))⟩)) ?_
              refine g_astore (lv' := [(7, .ref (b.1 4 (wh S qj))), (6, .ref (b.1 2 (wh S pj))), (0, .ref M), (1, .int (nI pj)), (2, .int a), (3, .int (nI qj)), (4, .int e), (5, .int n)]) hC dX9_copy_60 (by decide) rfl (Or.inr ⟨_, rfl⟩) ?_
              refine g_aload hC dX9_copy_62 1 rfl (Or.inr ⟨_, rfl⟩) ?_
              refine g_ifnull (o := some (b.1 2 (wh S pj))) (tgt := 85) hC dX9_copy_64 (by decide) (fun h64 => ?_) (fun a64 h64 => ?_)
              · cases h64
              · refine g_aload hC dX9_copy_67 0 rfl (Or.inr ⟨_, rfl⟩) ?_
                refine g_ifnull (o := some (b.1 4 (wh S qj))) (tgt := 85) hC dX9_copy_69 (by decide) (fun h69 => ?_) (fun a69 h69 => ?_)
                · cases h69
                · refine g_aload hC dX9_copy_72 1 rfl (Or.inr ⟨_, rfl⟩) ?_
                  refine g_A (As := []) (st := []) hC 0 dX9_copy_74 rfl (hx0.G hw_p rfl).1 (hx0.G hw_p rfl).2 gX9_copy_X6_kind_u125X6 rfl (gKK_D ⟨"KeptTerms$Thing", "kind", "()I"⟩ (by decide)) (by decide +kernel) ⟨Nat.le_of_ble_eq_true rfl, Nat.le_of_ble_eq_true rfl⟩ rfl (Nat.le_of_ble_eq_true rfl) ⟨Nat.le_of_ble_eq_true rfl, Nat.le_of_ble_eq_true rfl⟩ (c2 := 0) (s2 := 0) rfl rfl (x_6_kind _) ?_
                  refine g_aload hC dX9_copy_77 0 rfl (Or.inr ⟨_, rfl⟩) ?_
                  refine g_A (As := []) (st := [.int (nI 2)]) hC 0 dX9_copy_79 rfl (hx0.W hw_q rfl).1 (hx0.W hw_q rfl).2 gX9_copy_X5_kind_u125X5 rfl (gKK_D ⟨"KeptTerms$Thing", "kind", "()I"⟩ (by decide)) (by decide +kernel) ⟨Nat.le_of_ble_eq_true rfl, Nat.le_of_ble_eq_true rfl⟩ rfl (Nat.le_of_ble_eq_true rfl) ⟨Nat.le_of_ble_eq_true rfl, Nat.le_of_ble_eq_true rfl⟩ (c2 := 0) (s2 := 0) rfl rfl (x_5_kind _) ?_
                  refine g_icmpN_eq (a := 2) (b := 3) (tgt := 91) hC dX9_copy_82 (by decide) (by omega) (by omega) (fun h82 => ?_) (fun h82 => ?_)
                  · exfalso; omega
                  · refine g_aload_n hC dX9_copy_85 rfl 2 rfl (Or.inr ⟨_, rfl⟩) ?_
                    refine g_iconst hC dX9_copy_86 (v := nI 4) (by decide) ?_
                    refine g_Vx (As := [.int (nI 4)]) (st := []) hC 1 dX9_copy_87 rfl (hx0.M hM).1 (hx0.M hM).2 gX9_copy_X9_failed rfl (by decide +kernel) ⟨Nat.le_of_ble_eq_true rfl, Nat.le_of_ble_eq_true rfl⟩ rfl (Nat.le_of_ble_eq_true rfl) ⟨(Nat.le_of_ble_eq_true rfl), (Nat.le_of_ble_eq_true rfl)⟩ (c2 := 0) (s2 := 0) rfl rfl (x_failed hx0 M hM 4) (fun v1 L1 f1 hp1 => ?_)
                    obtain ⟨rfl, hx1⟩ := hp1
                    show gW X vwCl 8 L1 f1 0 0 90 [(7, .ref (b.1 4 (wh S qj))), (6, .ref (b.1 2 (wh S pj))), (0, .ref M), (1, .int (nI pj)), (2, .int a), (3, .int (nI qj)), (4, .int e), (5, .int n)] [.int (fA 4)]
                    have hE : s_copy S (nI pj) a (nI qj) e n = (fA 4, (aSc (thS S) 1 4)) := by
                      unfold s_copy
                      rw [if_pos h4, if_pos h11, hpl_p, hpl_q, if_neg (show ¬ (kd S pj = 0 ∨ kd S qj = 0) by omega), if_pos (show 3 < kd S pj ∨ kd S pj ≠ kd S qj by omega)] <;> rfl
                    refine g_widen (c2 := 1) (s2 := 16) (Nat.le_of_ble_eq_true rfl) (Nat.le_of_ble_eq_true rfl) ?_
                    exact g_iret hC hR dX9_copy_90 ⟨b, congrArg (fun z => some (Value.int (Prod.fst z))) hE.symm, by rw [hE]; exact hx1, xG.rf⟩
            · cases h31
          · have hw_q : wh S qj < S.1 13 := hI.wt hqj (by omega)
            have hb_q : S.2.1 14 (wh S qj) = 0 := by have := ((hI.2.1 _ hqj).2.2.2.2.2 (by omega)).2; omega
            have hp0_q : plcF (thS S) b qj = some (b.1 6 (wh S qj)) := plc_k hqj hk_q (by decide)
            refine g_aald hC 5 rfl (hx0.Mp rfl).1 (hx0.Mp rfl).2 (qj) rfl (show qj < 10 by omega) (by decide) dX9_copy_30 ?_
            refine g_val (w := .ref (b.1 6 (wh S qj))) (congrArg va_rf hp0_q) ?_
            refine g_ifnonnull (o := some (b.1 6 (wh S qj))) (tgt := 40) hC dX9_copy_31 (by decide) (fun a31 h31 => ?_) (fun h31 => ?_)
            · refine g_aload_n hC dX9_copy_40 rfl 0 rfl (Or.inr ⟨_, rfl⟩) ?_
              refine g_get hC (by decide +kernel) rfl (hx0.M hM).1 (hx0.M hM).2 0 (by decide) (by decide +kernel) (Or.inl rfl) rfl dX9_copy_41 ?_
              refine g_iload_n hC dX9_copy_44 rfl 1 rfl ?_
              refine g_aald hC 5 rfl (hx0.Mp rfl).1 (hx0.Mp rfl).2 (pj) rfl (show pj < 10 by omega) (by decide) dX9_copy_45 ?_
              refine g_val (w := .ref (b.1 2 (wh S pj))) (congrArg va_rf hp0_p) ?_
              refine g_S (As := [.ref (b.1 2 (wh S pj))]) (st := []) hC 1 dX9_copy_46 gX9_copy_X9_asRow rfl (by decide +kernel) ⟨Nat.le_of_ble_eq_true rfl, Nat.le_of_ble_eq_true rfl⟩ rfl (Nat.le_of_ble_eq_true rfl) ⟨Nat.le_of_ble_eq_true rfl, Nat.le_of_ble_eq_true rfl⟩ (c2 := 0) (s2 := 0) rfl rfl (x_asRow (some (b.1 2 (wh S pj))) 2 (Or.inr ⟨_, 4, _, rfl, (hx0.G hw_p rfl), Or.inr (Or.inl ⟨rfl, rfl⟩)⟩)) ?_
              refine g_astore (lv' := [(6, .ref (b.1 2 (wh S pj))), (0, .ref M), (1, .int (nI pj)), (2, .int a), (3, .int (nI qj)), (4, .int e), (5, .int n)]) hC dX9_copy_49 (by decide) rfl (Or.inr ⟨_, rfl⟩) ?_
              refine g_aload_n hC dX9_copy_51 rfl 1 rfl (Or.inr ⟨_, rfl⟩) ?_
              refine g_get hC (by decide +kernel) rfl (hx0.M hM).1 (hx0.M hM).2 0 (by decide) (by decide +kernel) (Or.inl rfl) rfl dX9_copy_52 ?_
              refine g_iload_n hC dX9_copy_55 rfl 4 rfl ?_
              refine g_aald hC 5 rfl (hx0.Mp rfl).1 (hx0.Mp rfl).2 (qj) rfl (show qj < 10 by omega) (by decide) dX9_copy_56 ?_
              refine g_val (w := .ref (b.1 6 (wh S qj))) (congrArg va_rf hp0_q) ?_
              refine g_S (As := [.ref (b.1 6 (wh S qj))]) (st := []) hC 1 dX9_copy_57 gX9_copy_X9_asRow rfl (by decide +kernel) ⟨Nat.le_of_ble_eq_true rfl, Nat.le_of_ble_eq_true rfl⟩ rfl (Nat.le_of_ble_eq_true rfl) ⟨Nat.le_of_ble_eq_true rfl, Nat.le_of_ble_eq_true rfl⟩ (c2 := 0) (s2 := 0) rfl rfl (x_asRow (some (b.1 6 (wh S qj))) 4 (Or.inr ⟨_, 5, _, rfl, (hx0.T hw_q rfl hb_q), Or.inr (Or.inr (Or.inr (Or.inl ⟨rfl, rfl⟩)))⟩)) ?_
              refine g_astore (lv' := [(7, .null), (6, .ref (b.1 2 (wh S pj))), (0, .ref M), (1, .int (nI pj)), (2, .int a), (3, .int (nI qj)), (4, .int e), (5, .int n)]) hC dX9_copy_60 (by decide) rfl (Or.inl rfl) ?_
              refine g_aload hC dX9_copy_62 1 rfl (Or.inr ⟨_, rfl⟩) ?_
              refine g_ifnull (o := some (b.1 2 (wh S pj))) (tgt := 85) hC dX9_copy_64 (by decide) (fun h64 => ?_) (fun a64 h64 => ?_)
              · cases h64
              · refine g_aload hC dX9_copy_67 0 rfl (Or.inl rfl) ?_
                refine g_ifnull (o := none) (tgt := 85) hC dX9_copy_69 (by decide) (fun h69 => ?_) (fun a69 h69 => ?_)
                · refine g_aload_n hC dX9_copy_85 rfl 2 rfl (Or.inr ⟨_, rfl⟩) ?_
                  refine g_iconst hC dX9_copy_86 (v := nI 4) (by decide) ?_
                  refine g_Vx (As := [.int (nI 4)]) (st := []) hC 1 dX9_copy_87 rfl (hx0.M hM).1 (hx0.M hM).2 gX9_copy_X9_failed rfl (by decide +kernel) ⟨Nat.le_of_ble_eq_true rfl, Nat.le_of_ble_eq_true rfl⟩ rfl (Nat.le_of_ble_eq_true rfl) ⟨(Nat.le_of_ble_eq_true rfl), (Nat.le_of_ble_eq_true rfl)⟩ (c2 := 0) (s2 := 0) rfl rfl (x_failed hx0 M hM 4) (fun v1 L1 f1 hp1 => ?_)
                  obtain ⟨rfl, hx1⟩ := hp1
                  show gW X vwCl 8 L1 f1 0 0 90 [(7, .null), (6, .ref (b.1 2 (wh S pj))), (0, .ref M), (1, .int (nI pj)), (2, .int a), (3, .int (nI qj)), (4, .int e), (5, .int n)] [.int (fA 4)]
                  have hE : s_copy S (nI pj) a (nI qj) e n = (fA 4, (aSc (thS S) 1 4)) := by
                    unfold s_copy
                    rw [if_pos h4, if_pos h11, hpl_p, hpl_q, if_neg (show ¬ (kd S pj = 0 ∨ kd S qj = 0) by omega), if_pos (show 3 < kd S pj ∨ kd S pj ≠ kd S qj by omega)] <;> rfl
                  refine g_widen (c2 := 1) (s2 := 16) (Nat.le_of_ble_eq_true rfl) (Nat.le_of_ble_eq_true rfl) ?_
                  exact g_iret hC hR dX9_copy_90 ⟨b, congrArg (fun z => some (Value.int (Prod.fst z))) hE.symm, by rw [hE]; exact hx1, xG.rf⟩
                · cases h69
            · cases h31
          · have hw_q : wh S qj < S.1 13 := hI.wt hqj (by omega)
            have hb_q : S.2.1 14 (wh S qj) ≠ 0 := by have := ((hI.2.1 _ hqj).2.2.2.2.2 (by omega)).2; omega
            have hp0_q : plcF (thS S) b qj = some (b.1 6 (wh S qj)) := plc_k hqj hk_q (by decide)
            refine g_aald hC 5 rfl (hx0.Mp rfl).1 (hx0.Mp rfl).2 (qj) rfl (show qj < 10 by omega) (by decide) dX9_copy_30 ?_
            refine g_val (w := .ref (b.1 6 (wh S qj))) (congrArg va_rf hp0_q) ?_
            refine g_ifnonnull (o := some (b.1 6 (wh S qj))) (tgt := 40) hC dX9_copy_31 (by decide) (fun a31 h31 => ?_) (fun h31 => ?_)
            · refine g_aload_n hC dX9_copy_40 rfl 0 rfl (Or.inr ⟨_, rfl⟩) ?_
              refine g_get hC (by decide +kernel) rfl (hx0.M hM).1 (hx0.M hM).2 0 (by decide) (by decide +kernel) (Or.inl rfl) rfl dX9_copy_41 ?_
              refine g_iload_n hC dX9_copy_44 rfl 1 rfl ?_
              refine g_aald hC 5 rfl (hx0.Mp rfl).1 (hx0.Mp rfl).2 (pj) rfl (show pj < 10 by omega) (by decide) dX9_copy_45 ?_
              refine g_val (w := .ref (b.1 2 (wh S pj))) (congrArg va_rf hp0_p) ?_
              refine g_S (As := [.ref (b.1 2 (wh S pj))]) (st := []) hC 1 dX9_copy_46 gX9_copy_X9_asRow rfl (by decide +kernel) ⟨Nat.le_of_ble_eq_true rfl, Nat.le_of_ble_eq_true rfl⟩ rfl (Nat.le_of_ble_eq_true rfl) ⟨Nat.le_of_ble_eq_true rfl, Nat.le_of_ble_eq_true rfl⟩ (c2 := 0) (s2 := 0) rfl rfl (x_asRow (some (b.1 2 (wh S pj))) 2 (Or.inr ⟨_, 4, _, rfl, (hx0.G hw_p rfl), Or.inr (Or.inl ⟨rfl, rfl⟩)⟩)) ?_
              refine g_astore (lv' := [(6, .ref (b.1 2 (wh S pj))), (0, .ref M), (1, .int (nI pj)), (2, .int a), (3, .int (nI qj)), (4, .int e), (5, .int n)]) hC dX9_copy_49 (by decide) rfl (Or.inr ⟨_, rfl⟩) ?_
              refine g_aload_n hC dX9_copy_51 rfl 1 rfl (Or.inr ⟨_, rfl⟩) ?_
              refine g_get hC (by decide +kernel) rfl (hx0.M hM).1 (hx0.M hM).2 0 (by decide) (by decide +kernel) (Or.inl rfl) rfl dX9_copy_52 ?_
              refine g_iload_n hC dX9_copy_55 rfl 4 rfl ?_
              refine g_aald hC 5 rfl (hx0.Mp rfl).1 (hx0.Mp rfl).2 (qj) rfl (show qj < 10 by omega) (by decide) dX9_copy_56 ?_
              refine g_val (w := .ref (b.1 6 (wh S qj))) (congrArg va_rf hp0_q) ?_
              refine g_S (As := [.ref (b.1 6 (wh S qj))]) (st := []) hC 1 dX9_copy_57 gX9_copy_X9_asRow rfl (by decide +kernel) ⟨Nat.le_of_ble_eq_true rfl, Nat.le_of_ble_eq_true rfl⟩ rfl (Nat.le_of_ble_eq_true rfl) ⟨Nat.le_of_ble_eq_true rfl, Nat.le_of_ble_eq_true rfl⟩ (c2 := 0) (s2 := 0) rfl rfl (x_asRow (some (b.1 6 (wh S qj))) 5 (Or.inr ⟨_, 1, _, rfl, (hx0.K hw_q rfl hb_q), Or.inr (Or.inr (Or.inr (Or.inr ⟨rfl, rfl⟩)))⟩)) ?_
              refine g_astore (lv' := [(7, .null), (6, .ref (b.1 2 (wh S pj))), (0, .ref M), (1, .int (nI pj)), (2, .int a), (3, .int (nI qj)), (4, .int e), (5, .int n)]) hC dX9_copy_60 (by decide) rfl (Or.inl rfl) ?_
              refine g_aload hC dX9_copy_62 1 rfl (Or.inr ⟨_, rfl⟩) ?_
              refine g_ifnull (o := some (b.1 2 (wh S pj))) (tgt := 85) hC dX9_copy_64 (by decide) (fun h64 => ?_) (fun a64 h64 => ?_)
              · cases h64
              · refine g_aload hC dX9_copy_67 0 rfl (Or.inl rfl) ?_
                refine g_ifnull (o := none) (tgt := 85) hC dX9_copy_69 (by decide) (fun h69 => ?_) (fun a69 h69 => ?_)
                · refine g_aload_n hC dX9_copy_85 rfl 2 rfl (Or.inr ⟨_, rfl⟩) ?_
                  refine g_iconst hC dX9_copy_86 (v := nI 4) (by decide) ?_
                  refine g_Vx (As := [.int (nI 4)]) (st := []) hC 1 dX9_copy_87 rfl (hx0.M hM).1 (hx0.M hM).2 gX9_copy_X9_failed rfl (by decide +kernel) ⟨Nat.le_of_ble_eq_true rfl, Nat.le_of_ble_eq_true rfl⟩ rfl (Nat.le_of_ble_eq_true rfl) ⟨(Nat.le_of_ble_eq_true rfl), (Nat.le_of_ble_eq_true rfl)⟩ (c2 := 0) (s2 := 0) rfl rfl (x_failed hx0 M hM 4) (fun v1 L1 f1 hp1 => ?_)
                  obtain ⟨rfl, hx1⟩ := hp1
                  show gW X vwCl 8 L1 f1 0 0 90 [(7, .null), (6, .ref (b.1 2 (wh S pj))), (0, .ref M), (1, .int (nI pj)), (2, .int a), (3, .int (nI qj)), (4, .int e), (5, .int n)] [.int (fA 4)]
                  have hE : s_copy S (nI pj) a (nI qj) e n = (fA 4, (aSc (thS S) 1 4)) := by
                    unfold s_copy
                    rw [if_pos h4, if_pos h11, hpl_p, hpl_q, if_neg (show ¬ (kd S pj = 0 ∨ kd S qj = 0) by omega), if_pos (show 3 < kd S pj ∨ kd S pj ≠ kd S qj by omega)] <;> rfl
                  refine g_widen (c2 := 1) (s2 := 16) (Nat.le_of_ble_eq_true rfl) (Nat.le_of_ble_eq_true rfl) ?_
                  exact g_iret hC hR dX9_copy_90 ⟨b, congrArg (fun z => some (Value.int (Prod.fst z))) hE.symm, by rw [hE]; exact hx1, xG.rf⟩
                · cases h69
            · cases h31
      · have hw_p : wh S pj < S.1 10 := hI.wr hpj hk_p
        have hp0_p : plcF (thS S) b pj = some (b.1 4 (wh S pj)) := plc_k hpj hk_p (by decide)
        refine g_aald hC 5 rfl (hx0.Mp rfl).1 (hx0.Mp rfl).2 (pj) rfl (show pj < 10 by omega) (by decide) dX9_copy_21 ?_
        refine g_val (w := .ref (b.1 4 (wh S pj))) (congrArg va_rf hp0_p) ?_
        refine g_ifnull (o := some (b.1 4 (wh S pj))) (tgt := 34) hC dX9_copy_22 (by decide) (fun h22 => ?_) (fun a22 h22 => ?_)
        · cases h22
        · refine g_aload_n hC dX9_copy_25 rfl 0 rfl (Or.inr ⟨_, rfl⟩) ?_
          refine g_get hC (by decide +kernel) rfl (hx0.M hM).1 (hx0.M hM).2 0 (by decide) (by decide +kernel) (Or.inl rfl) rfl dX9_copy_26 ?_
          refine g_iload_n hC dX9_copy_29 rfl 3 rfl ?_
          have h5_q := hI.k5 hqj
          rcases (show kd S qj = 0 ∨ kd S qj = 1 ∨ kd S qj = 2 ∨ kd S qj = 3 ∨ kd S qj = 4 ∨ kd S qj = 5 by omega) with hk_q | hk_q | hk_q | hk_q | hk_q | hk_q
          · have hp0_q : plcF (thS S) b qj = none := plc_0 hqj hk_q
            refine g_aald hC 5 rfl (hx0.Mp rfl).1 (hx0.Mp rfl).2 (qj) rfl (show qj < 10 by omega) (by decide) dX9_copy_30 ?_
            refine g_val (w := .null) (congrArg va_rf hp0_q) ?_
            refine g_ifnonnull (o := none) (tgt := 40) hC dX9_copy_31 (by decide) (fun a31 h31 => ?_) (fun h31 => ?_)
            · cases h31
            · refine g_aload_n hC dX9_copy_34 rfl 0 rfl (Or.inr ⟨_, rfl⟩) ?_
              refine g_iconst hC dX9_copy_35 (v := nI 1) (by decide) ?_
              refine g_Vx (As := [.int (nI 1)]) (st := []) hC 1 dX9_copy_36 rfl (hx0.M hM).1 (hx0.M hM).2 gX9_copy_X9_failed rfl (by decide +kernel) ⟨Nat.le_of_ble_eq_true rfl, Nat.le_of_ble_eq_true rfl⟩ rfl (Nat.le_of_ble_eq_true rfl) ⟨(Nat.le_of_ble_eq_true rfl), (Nat.le_of_ble_eq_true rfl)⟩ (c2 := 0) (s2 := 0) rfl rfl (x_failed hx0 M hM 1) (fun v1 L1 f1 hp1 => ?_)
              obtain ⟨rfl, hx1⟩ := hp1
              show gW X vwCl 8 L1 f1 0 0 39 [(0, .ref M), (1, .int (nI pj)), (2, .int a), (3, .int (nI qj)), (4, .int e), (5, .int n)] [.int (fA 1)]
              have hE : s_copy S (nI pj) a (nI qj) e n = (fA 1, (aSc (thS S) 1 1)) := by
                unfold s_copy
                rw [if_pos h4, if_pos h11, hpl_p, hpl_q, if_pos (Or.inr hk_q)] <;> rfl
              refine g_widen (c2 := 1) (s2 := 16) (Nat.le_of_ble_eq_true rfl) (Nat.le_of_ble_eq_true rfl) ?_
              exact g_iret hC hR dX9_copy_39 ⟨b, congrArg (fun z => some (Value.int (Prod.fst z))) hE.symm, by rw [hE]; exact hx1, xG.rf⟩
          · have hw_q : wh S qj < S.1 4 := hI.wl hqj hk_q
            have hp0_q : plcF (thS S) b qj = some (b.1 0 (wh S qj)) := plc_k hqj hk_q (by decide)
            refine g_aald hC 5 rfl (hx0.Mp rfl).1 (hx0.Mp rfl).2 (qj) rfl (show qj < 10 by omega) (by decide) dX9_copy_30 ?_
            refine g_val (w := .ref (b.1 0 (wh S qj))) (congrArg va_rf hp0_q) ?_
            refine g_ifnonnull (o := some (b.1 0 (wh S qj))) (tgt := 40) hC dX9_copy_31 (by decide) (fun a31 h31 => ?_) (fun h31 => ?_)
            · refine g_aload_n hC dX9_copy_40 rfl 0 rfl (Or.inr ⟨_, rfl⟩) ?_
              refine g_get hC (by decide +kernel) rfl (hx0.M hM).1 (hx0.M hM).2 0 (by decide) (by decide +kernel) (Or.inl rfl) rfl dX9_copy_41 ?_
              refine g_iload_n hC dX9_copy_44 rfl 1 rfl ?_
              refine g_aald hC 5 rfl (hx0.Mp rfl).1 (hx0.Mp rfl).2 (pj) rfl (show pj < 10 by omega) (by decide) dX9_copy_45 ?_
              refine g_val (w := .ref (b.1 4 (wh S pj))) (congrArg va_rf hp0_p) ?_
              refine g_S (As := [.ref (b.1 4 (wh S pj))]) (st := []) hC 1 dX9_copy_46 gX9_copy_X9_asRow rfl (by decide +kernel) ⟨Nat.le_of_ble_eq_true rfl, Nat.le_of_ble_eq_true rfl⟩ rfl (Nat.le_of_ble_eq_true rfl) ⟨Nat.le_of_ble_eq_true rfl, Nat.le_of_ble_eq_true rfl⟩ (c2 := 0) (s2 := 0) rfl rfl (x_asRow (some (b.1 4 (wh S pj))) 3 (Or.inr ⟨_, 3, _, rfl, (hx0.W hw_p rfl), Or.inr (Or.inr (Or.inl ⟨rfl, rfl⟩))⟩)) ?_
              refine g_astore (lv' := [(6, .ref (b.1 4 (wh S pj))), (0, .ref M), (1, .int (nI pj)), (2, .int a), (3, .int (nI qj)), (4, .int e), (5, .int n)]) hC dX9_copy_49 (by decide) rfl (Or.inr ⟨_, rfl⟩) ?_
              refine g_aload_n hC dX9_copy_51 rfl 1 rfl (Or.inr ⟨_, rfl⟩) ?_
              refine g_get hC (by decide +kernel) rfl (hx0.M hM).1 (hx0.M hM).2 0 (by decide) (by decide +kernel) (Or.inl rfl) rfl dX9_copy_52 ?_
              refine g_iload_n hC dX9_copy_55 rfl 4 rfl ?_
              refine g_aald hC 5 rfl (hx0.Mp rfl).1 (hx0.Mp rfl).2 (qj) rfl (show qj < 10 by omega) (by decide) dX9_copy_56 ?_
              refine g_val (w := .ref (b.1 0 (wh S qj))) (congrArg va_rf hp0_q) ?_
              refine g_S (As := [.ref (b.1 0 (wh S qj))]) (st := []) hC 1 dX9_copy_57 gX9_copy_X9_asRow rfl (by decide +kernel) ⟨Nat.le_of_ble_eq_true rfl, Nat.le_of_ble_eq_true rfl⟩ rfl (Nat.le_of_ble_eq_true rfl) ⟨Nat.le_of_ble_eq_true rfl, Nat.le_of_ble_eq_true rfl⟩ (c2 := 0) (s2 := 0) rfl rfl (x_asRow (some (b.1 0 (wh S qj))) 1 (Or.inr ⟨_, 0, _, rfl, (hx0.B hw_q rfl), Or.inl ⟨rfl, rfl⟩⟩)) ?_
              refine g_astore (lv' := [(7, .ref (b.1 0 (wh S qj))), (6, .ref (b.1 4 (wh S pj))), (0, .ref M), (1, .int (nI pj)), (2, .int a), (3, .int (nI qj)), (4, .int e), (5, .int n)]) hC dX9_copy_60 (by decide) rfl (Or.inr ⟨_, rfl⟩) ?_
              refine g_aload hC dX9_copy_62 1 rfl (Or.inr ⟨_, rfl⟩) ?_
              refine g_ifnull (o := some (b.1 4 (wh S pj))) (tgt := 85) hC dX9_copy_64 (by decide) (fun h64 => ?_) (fun a64 h64 => ?_)
              · cases h64
              · refine g_aload hC dX9_copy_67 0 rfl (Or.inr ⟨_, rfl⟩) ?_
                refine g_ifnull (o := some (b.1 0 (wh S qj))) (tgt := 85) hC dX9_copy_69 (by decide) (fun h69 => ?_) (fun a69 h69 => ?_)
                · cases h69
                · refine g_aload hC dX9_copy_72 1 rfl (Or.inr ⟨_, rfl⟩) ?_
                  refine g_A (As := []) (st := []) hC 0 dX9_copy_74 rfl (hx0.W hw_p rfl).1 (hx0.W hw_p rfl).2 gX9_copy_X5_kind_u125X5 rfl (gKK_D ⟨"KeptTerms$Thing", "kind", "()I"⟩ (by decide)) (by decide +kernel) ⟨Nat.le_of_ble_eq_true rfl, Nat.le_of_ble_eq_true rfl⟩ rfl (Nat.le_of_ble_eq_true rfl) ⟨Nat.le_of_ble_eq_true rfl, Nat.le_of_ble_eq_true rfl⟩ (c2 := 0) (s2 := 0) rfl rfl (x_5_kind _) ?_
                  refine g_aload hC dX9_copy_77 0 rfl (Or.inr ⟨_, rfl⟩) ?_
                  refine g_A (As := []) (st := [.int (nI 3)]) hC 0 dX9_copy_79 rfl (hx0.B hw_q rfl).1 (hx0.B hw_q rfl).2 gX9_copy_X0_kind_u125X0 rfl (gKK_D ⟨"KeptTerms$Thing", "kind", "()I"⟩ (by decide)) (by decide +kernel) ⟨Nat.le_of_ble_eq_true rfl, Nat.le_of_ble_eq_true rfl⟩ rfl (Nat.le_of_ble_eq_true rfl) ⟨Nat.le_of_ble_eq_true rfl, Nat.le_of_ble_eq_true rfl⟩ (c2 := 0) (s2 := 0) rfl rfl (x_0_kind _) ?_
                  refine g_icmpN_eq (a := 3) (b := 1) (tgt := 91) hC dX9_copy_82 (by decide) (by omega) (by omega) (fun h82 => ?_) (fun h82 => ?_)
                  · exfalso; omega
                  · refine g_aload_n hC dX9_copy_85 rfl 2 rfl (Or.inr ⟨_, rfl⟩) ?_
                    refine g_iconst hC dX9_copy_86 (v := nI 4) (by decide) ?_
                    refine g_Vx (As := [.int (nI 4)]) (st := []) hC 1 dX9_copy_87 rfl (hx0.M hM).1 (hx0.M hM).2 gX9_copy_X9_failed rfl (by decide +kernel) ⟨Nat.le_of_ble_eq_true rfl, Nat.le_of_ble_eq_true rfl⟩ rfl (Nat.le_of_ble_eq_true rfl) ⟨(Nat.le_of_ble_eq_true rfl), (Nat.le_of_ble_eq_true rfl)⟩ (c2 := 0) (s2 := 0) rfl rfl (x_failed hx0 M hM 4) (fun v1 L1 f1 hp1 => ?_)
                    obtain ⟨rfl, hx1⟩ := hp1
                    show gW X vwCl 8 L1 f1 0 0 90 [(7, .ref (b.1 0 (wh S qj))), (6, .ref (b.1 4 (wh S pj))), (0, .ref M), (1, .int (nI pj)), (2, .int a), (3, .int (nI qj)), (4, .int e), (5, .int n)] [.int (fA 4)]
                    have hE : s_copy S (nI pj) a (nI qj) e n = (fA 4, (aSc (thS S) 1 4)) := by
                      unfold s_copy
                      rw [if_pos h4, if_pos h11, hpl_p, hpl_q, if_neg (show ¬ (kd S pj = 0 ∨ kd S qj = 0) by omega), if_pos (show 3 < kd S pj ∨ kd S pj ≠ kd S qj by omega)] <;> rfl
                    refine g_widen (c2 := 1) (s2 := 16) (Nat.le_of_ble_eq_true rfl) (Nat.le_of_ble_eq_true rfl) ?_
                    exact g_iret hC hR dX9_copy_90 ⟨b, congrArg (fun z => some (Value.int (Prod.fst z))) hE.symm, by rw [hE]; exact hx1, xG.rf⟩
            · cases h31
          · have hw_q : wh S qj < S.1 7 := hI.ws hqj hk_q
            have hp0_q : plcF (thS S) b qj = some (b.1 2 (wh S qj)) := plc_k hqj hk_q (by decide)
            refine g_aald hC 5 rfl (hx0.Mp rfl).1 (hx0.Mp rfl).2 (qj) rfl (show qj < 10 by omega) (by decide) dX9_copy_30 ?_
            refine g_val (w := .ref (b.1 2 (wh S qj))) (congrArg va_rf hp0_q) ?_
            refine g_ifnonnull (o := some (b.1 2 (wh S qj))) (tgt := 40) hC dX9_copy_31 (by decide) (fun a31 h31 => ?_) (fun h31 => ?_)
            · refine g_aload_n hC dX9_copy_40 rfl 0 rfl (Or.inr ⟨_, rfl⟩) ?_
              refine g_get hC (by decide +kernel) rfl (hx0.M hM).1 (hx0.M hM).2 0 (by decide) (by decide +kernel) (Or.inl rfl) rfl dX9_copy_41 ?_
              refine g_iload_n hC dX9_copy_44 rfl 1 rfl ?_
              refine g_aald hC 5 rfl (hx0.Mp rfl).1 (hx0.Mp rfl).2 (pj) rfl (show pj < 10 by omega) (by decide) dX9_copy_45 ?_
              refine g_val (w := .ref (b.1 4 (wh S pj))) (congrArg va_rf hp0_p) ?_
              refine g_S (As := [.ref (b.1 4 (wh S pj))]) (st := []) hC 1 dX9_copy_46 gX9_copy_X9_asRow rfl (by decide +kernel) ⟨Nat.le_of_ble_eq_true rfl, Nat.le_of_ble_eq_true rfl⟩ rfl (Nat.le_of_ble_eq_true rfl) ⟨Nat.le_of_ble_eq_true rfl, Nat.le_of_ble_eq_true rfl⟩ (c2 := 0) (s2 := 0) rfl rfl (x_asRow (some (b.1 4 (wh S pj))) 3 (Or.inr ⟨_, 3, _, rfl, (hx0.W hw_p rfl), Or.inr (Or.inr (Or.inl ⟨rfl, rfl⟩))⟩)) ?_
              refine g_astore (lv' := [(6, .ref (b.1 4 (wh S pj))), (0, .ref M), (1, .int (nI pj)), (2, .int a), (3, .int (nI qj)), (4, .int e), (5, .int n)]) hC dX9_copy_49 (by decide) rfl (Or.inr ⟨_, rfl⟩) ?_
              refine g_aload_n hC dX9_copy_51 rfl 1 rfl (Or.inr ⟨_, rfl⟩) ?_
              refine g_get hC (by decide +kernel) rfl (hx0.M hM).1 (hx0.M hM).2 0 (by decide) (by decide +kernel) (Or.inl rfl) rfl dX9_copy_52 ?_
              refine g_iload_n hC dX9_copy_55 rfl 4 rfl ?_
              refine g_aald hC 5 rfl (hx0.Mp rfl).1 (hx0.Mp rfl).2 (qj) rfl (show qj < 10 by omega) (by decide) dX9_copy_56 ?_
              refine g_val (w := .ref (b.1 2 (wh S qj))) (congrArg va_rf hp0_q) ?_
              refine g_S (As := [.ref (b.1 2 (wh S qj))]) (st := []) hC 1 dX9_copy_57 gX9_copy_X9_asRow rfl (by decide +kernel) ⟨Nat.le_of_ble_eq_true rfl, Nat.le_of_ble_eq_true rfl⟩ rfl (Nat.le_of_ble_eq_true rfl) ⟨Nat.le_of_ble_eq_true rfl, Nat.le_of_ble_eq_true rfl⟩ (c2 := 0) (s2 := 0) rfl rfl (x_asRow (some (b.1 2 (wh S qj))) 2 (Or.inr ⟨_, 4, _, rfl, (hx0.G hw_q rfl), Or.inr (Or.inl ⟨rfl, rfl⟩)⟩)) ?_
              refine g_astore (lv' := [(7, .ref (b.1 2 (wh S qj))), (6, .ref (b.1 4 (wh S pj))), (0, .ref M), (1, .int (nI pj)), (2, .int a), (3, .int (nI qj)), (4, .int e), (5, .int n)]) hC dX9_copy_60 (by decide) rfl (Or.inr ⟨_, rfl⟩) ?_
              refine g_aload hC dX9_copy_62 1 rfl (Or.inr ⟨_, rfl⟩) ?_
              refine g_ifnull (o := some (b.1 4 (wh S pj))) (tgt := 85) hC dX9_copy_64 (by decide) (fun h64 => ?_) (fun a64 h64 => ?_)
              · cases h64
              · refine g_aload hC dX9_copy_67 0 rfl (Or.inr ⟨_, rfl⟩) ?_
                refine g_ifnull (o := some (b.1 2 (wh S qj))) (tgt := 85) hC dX9_copy_69 (by decide) (fun h69 => ?_) (fun a69 h69 => ?_)
                · cases h69
                · refine g_aload hC dX9_copy_72 1 rfl (Or.inr ⟨_, rfl⟩) ?_
                  refine g_A (As := []) (st := []) hC 0 dX9_copy_74 rfl (hx0.W hw_p rfl).1 (hx0.W hw_p rfl).2 gX9_copy_X5_kind_u125X5 rfl (gKK_D ⟨"KeptTerms$Thing", "kind", "()I"⟩ (by decide)) (by decide +kernel) ⟨Nat.le_of_ble_eq_true rfl, Nat.le_of_ble_eq_true rfl⟩ rfl (Nat.le_of_ble_eq_true rfl) ⟨Nat.le_of_ble_eq_true rfl, Nat.le_of_ble_eq_true rfl⟩ (c2 := 0) (s2 := 0) rfl rfl (x_5_kind _) ?_
                  refine g_aload hC dX9_copy_77 0 rfl (Or.inr ⟨_, rfl⟩) ?_
                  refine g_A (As := []) (st := [.int (nI 3)]) hC 0 dX9_copy_79 rfl (hx0.G hw_q rfl).1 (hx0.G hw_q rfl).2 gX9_copy_X6_kind_u125X6 rfl (gKK_D ⟨"KeptTerms$Thing", "kind", "()I"⟩ (by decide)) (by decide +kernel) ⟨Nat.le_of_ble_eq_true rfl, Nat.le_of_ble_eq_true rfl⟩ rfl (Nat.le_of_ble_eq_true rfl) ⟨Nat.le_of_ble_eq_true rfl, Nat.le_of_ble_eq_true rfl⟩ (c2 := 0) (s2 := 0) rfl rfl (x_6_kind _) ?_
                  refine g_icmpN_eq (a := 3) (b := 2) (tgt := 91) hC dX9_copy_82 (by decide) (by omega) (by omega) (fun h82 => ?_) (fun h82 => ?_)
                  · exfalso; omega
                  · refine g_aload_n hC dX9_copy_85 rfl 2 rfl (Or.inr ⟨_, rfl⟩) ?_
                    refine g_iconst hC dX9_copy_86 (v := nI 4) (by decide) ?_
                    refine g_Vx (As := [.int (nI 4)]) (st := []) hC 1 dX9_copy_87 rfl (hx0.M hM).1 (hx0.M hM).2 gX9_copy_X9_failed rfl (by decide +kernel) ⟨Nat.le_of_ble_eq_true rfl, Nat.le_of_ble_eq_true rfl⟩ rfl (Nat.le_of_ble_eq_true rfl) ⟨(Nat.le_of_ble_eq_true rfl), (Nat.le_of_ble_eq_true rfl)⟩ (c2 := 0) (s2 := 0) rfl rfl (x_failed hx0 M hM 4) (fun v1 L1 f1 hp1 => ?_)
                    obtain ⟨rfl, hx1⟩ := hp1
                    show gW X vwCl 8 L1 f1 0 0 90 [(7, .ref (b.1 2 (wh S qj))), (6, .ref (b.1 4 (wh S pj))), (0, .ref M), (1, .int (nI pj)), (2, .int a), (3, .int (nI qj)), (4, .int e), (5, .int n)] [.int (fA 4)]
                    have hE : s_copy S (nI pj) a (nI qj) e n = (fA 4, (aSc (thS S) 1 4)) := by
                      unfold s_copy
                      rw [if_pos h4, if_pos h11, hpl_p, hpl_q, if_neg (show ¬ (kd S pj = 0 ∨ kd S qj = 0) by omega), if_pos (show 3 < kd S pj ∨ kd S pj ≠ kd S qj by omega)] <;> rfl
                    refine g_widen (c2 := 1) (s2 := 16) (Nat.le_of_ble_eq_true rfl) (Nat.le_of_ble_eq_true rfl) ?_
                    exact g_iret hC hR dX9_copy_90 ⟨b, congrArg (fun z => some (Value.int (Prod.fst z))) hE.symm, by rw [hE]; exact hx1, xG.rf⟩
            · cases h31
          · have hw_q : wh S qj < S.1 10 := hI.wr hqj hk_q
            have hp0_q : plcF (thS S) b qj = some (b.1 4 (wh S qj)) := plc_k hqj hk_q (by decide)
            refine g_aald hC 5 rfl (hx0.Mp rfl).1 (hx0.Mp rfl).2 (qj) rfl (show qj < 10 by omega) (by decide) dX9_copy_30 ?_
            refine g_val (w := .ref (b.1 4 (wh S qj))) (congrArg va_rf hp0_q) ?_
            refine g_ifnonnull (o := some (b.1 4 (wh S qj))) (tgt := 40) hC dX9_copy_31 (by decide) (fun a31 h31 => ?_) (fun h31 => ?_)
            · refine g_aload_n hC dX9_copy_40 rfl 0 rfl (Or.inr ⟨_, rfl⟩) ?_
              refine g_get hC (by decide +kernel) rfl (hx0.M hM).1 (hx0.M hM).2 0 (by decide) (by decide +kernel) (Or.inl rfl) rfl dX9_copy_41 ?_
              refine g_iload_n hC dX9_copy_44 rfl 1 rfl ?_
              refine g_aald hC 5 rfl (hx0.Mp rfl).1 (hx0.Mp rfl).2 (pj) rfl (show pj < 10 by omega) (by decide) dX9_copy_45 ?_
              refine g_val (w := .ref (b.1 4 (wh S pj))) (congrArg va_rf hp0_p) ?_
              refine g_S (As := [.ref (b.1 4 (wh S pj))]) (st := []) hC 1 dX9_copy_46 gX9_copy_X9_asRow rfl (by decide +kernel) ⟨Nat.le_of_ble_eq_true rfl, Nat.le_of_ble_eq_true rfl⟩ rfl (Nat.le_of_ble_eq_true rfl) ⟨Nat.le_of_ble_eq_true rfl, Nat.le_of_ble_eq_true rfl⟩ (c2 := 0) (s2 := 0) rfl rfl (x_asRow (some (b.1 4 (wh S pj))) 3 (Or.inr ⟨_, 3, _, rfl, (hx0.W hw_p rfl), Or.inr (Or.inr (Or.inl ⟨rfl, rfl⟩))⟩)) ?_
              refine g_astore (lv' := [(6, .ref (b.1 4 (wh S pj))), (0, .ref M), (1, .int (nI pj)), (2, .int a), (3, .int (nI qj)), (4, .int e), (5, .int n)]) hC dX9_copy_49 (by decide) rfl (Or.inr ⟨_, rfl⟩) ?_
              refine g_aload_n hC dX9_copy_51 rfl 1 rfl (Or.inr ⟨_, rfl⟩) ?_
              refine g_get hC (by decide +kernel) rfl (hx0.M hM).1 (hx0.M hM).2 0 (by decide) (by decide +kernel) (Or.inl rfl) rfl dX9_copy_52 ?_
              refine g_iload_n hC dX9_copy_55 rfl 4 rfl ?_
              refine g_aald hC 5 rfl (hx0.Mp rfl).1 (hx0.Mp rfl).2 (qj) rfl (show qj < 10 by omega) (by decide) dX9_copy_56 ?_
              refine g_val (w := .ref (b.1 4 (wh S qj))) (congrArg va_rf hp0_q) ?_
              refine g_S (As := [.ref (b.1 4 (wh S qj))]) (st := []) hC 1 dX9_copy_57 gX9_copy_X9_asRow rfl (by decide +kernel) ⟨Nat.le_of_ble_eq_true rfl, Nat.le_of_ble_eq_true rfl⟩ rfl (Nat.le_of_ble_eq_true rfl) ⟨Nat.le_of_ble_eq_true rfl, Nat.le_of_ble_eq_true rfl⟩ (c2 := 0) (s2 := 0) rfl rfl (x_asRow (some (b.1 4 (wh S qj))) 3 (Or.inr ⟨_, 3, _, rfl, (hx0.W hw_q rfl), Or.inr (Or.inr (Or.inl ⟨rfl, rfl⟩))⟩)) ?_
              refine g_astore (lv' := [(7, .ref (b.1 4 (wh S qj))), (6, .ref (b.1 4 (wh S pj))), (0, .ref M), (1, .int (nI pj)), (2, .int a), (3, .int (nI qj)), (4, .int e), (5, .int n)]) hC dX9_copy_60 (by decide) rfl (Or.inr ⟨_, rfl⟩) ?_
              refine g_aload hC dX9_copy_62 1 rfl (Or.inr ⟨_, rfl⟩) ?_
              refine g_ifnull (o := some (b.1 4 (wh S pj))) (tgt := 85) hC dX9_copy_64 (by decide) (fun h64 => ?_) (fun a64 h64 => ?_)
              · cases h64
              · refine g_aload hC dX9_copy_67 0 rfl (Or.inr ⟨_, rfl⟩) ?_
                refine g_ifnull (o := some (b.1 4 (wh S qj))) (tgt := 85) hC dX9_copy_69 (by decide) (fun h69 => ?_) (fun a69 h69 => ?_)
                · cases h69
                · refine g_aload hC dX9_copy_72 1 rfl (Or.inr ⟨_, rfl⟩) ?_
                  refine g_A (As := []) (st := []) hC 0 dX9_copy_74 rfl (hx0.W hw_p rfl).1 (hx0.W hw_p rfl).2 gX9_copy_X5_kind_u125X5 rfl (gKK_D ⟨"KeptTerms$Thing", "kind", "()I"⟩ (by decide)) (by decide +kernel) ⟨Nat.le_of_ble_eq_true rfl, Nat.le_of_ble_eq_true rfl⟩ rfl (Nat.le_of_ble_eq_true rfl) ⟨Nat.le_of_ble_eq_true rfl, Nat.le_of_ble_eq_true rfl⟩ (c2 := 0) (s2 := 0) rfl rfl (x_5_kind _) ?_
                  refine g_aload hC dX9_copy_77 0 rfl (Or.inr ⟨_, rfl⟩) ?_
                  refine g_A (As := []) (st := [.int (nI 3)]) hC 0 dX9_copy_79 rfl (hx0.W hw_q rfl).1 (hx0.W hw_q rfl).2 gX9_copy_X5_kind_u125X5 rfl (gKK_D ⟨"KeptTerms$Thing", "kind", "()I"⟩ (by decide)) (by decide +kernel) ⟨Nat.le_of_ble_eq_true rfl, Nat.le_of_ble_eq_true rfl⟩ rfl (Nat.le_of_ble_eq_true rfl) ⟨Nat.le_of_ble_eq_true rfl, Nat.le_of_ble_eq_true rfl⟩ (c2 := 0) (s2 := 0) rfl rfl (x_5_kind _) ?_
                  refine g_icmpN_eq (a := 3) (b := 3) (tgt := 91) hC dX9_copy_82 (by decide) (by omega) (by omega) (fun h82 => ?_) (fun h82 => ?_)
                  · refine g_aload hC dX9_copy_91 1 rfl (Or.inr ⟨_, rfl⟩) ?_
                    refine g_iload_n hC dX9_copy_93 rfl 4 rfl ?_
                    refine g_iload hC dX9_copy_94 7 rfl ?_
                    refine g_U (As := [.int a, .int n]) (st := []) hC 2 dX9_copy_96 rfl (hx0.W hw_p rfl).1 (hx0.W hw_p rfl).2 gX9_copy_X4_hasCells_u128X5 rfl rfl (by decide +kernel) ⟨Nat.le_of_ble_eq_true rfl, Nat.le_of_ble_eq_true rfl⟩ rfl (Nat.le_of_ble_eq_true rfl) ⟨Nat.le_of_ble_eq_true rfl, Nat.le_of_ble_eq_true rfl⟩ (c2 := 0) (s2 := 0) rfl rfl (x_4_hasCells_R _ _ _ _ (isR.B hx0 hw_p rfl (hI.2.2.2.2.1 _ hw_p)) _ _) ?_
                    refine g_ifB_eq (P := hcs a n (S.2.1 11 (wh S pj))) (tgt := 114) hC dX9_copy_99 (by decide) (fun h99 => ?_) (fun h99 => ?_)
                    · refine g_aload_n hC dX9_copy_114 rfl 2 rfl (Or.inr ⟨_, rfl⟩) ?_
                      refine g_iconst hC dX9_copy_115 (v := nI 3) (by decide) ?_
                      refine g_Vx (As := [.int (nI 3)]) (st := []) hC 1 dX9_copy_116 rfl (hx0.M hM).1 (hx0.M hM).2 gX9_copy_X9_failed rfl (by decide +kernel) ⟨Nat.le_of_ble_eq_true rfl, Nat.le_of_ble_eq_true rfl⟩ rfl (Nat.le_of_ble_eq_true rfl) ⟨(Nat.le_of_ble_eq_true rfl), (Nat.le_of_ble_eq_true rfl)⟩ (c2 := 0) (s2 := 0) rfl rfl (x_failed hx0 M hM 3) (fun v1 L1 f1 hp1 => ?_)
                      obtain ⟨rfl, hx1⟩ := hp1
                      show gW X vwCl 8 L1 f1 0 0 119 [(7, .ref (b.1 4 (wh S qj))), (6, .ref (b.1 4 (wh S pj))), (0, .ref M), (1, .int (nI pj)), (2, .int a), (3, .int (nI qj)), (4, .int e), (5, .int n)] [.int (fA 3)]
                      have hlp := hI.2.2.2.2.1 _ hw_p
                      have hlq := hI.2.2.2.2.1 _ hw_q
                      have hlg_p : longS S pj = S.2.1 11 (wh S pj) := by unfold longS; rw [hk_p] <;> rfl
                      have hlg_q : longS S qj = S.2.1 11 (wh S qj) := by unfold longS; rw [hk_q] <;> rfl
                      have hE : s_copy S (nI pj) a (nI qj) e n = (fA 3, (aSc (thS S) 1 3)) := by
                        unfold s_copy
                        rw [if_pos h4, if_pos h11, hpl_p, hpl_q, if_neg (show ¬ (kd S pj = 0 ∨ kd S qj = 0) by omega), if_neg (show ¬ (3 < kd S pj ∨ kd S pj ≠ kd S qj) by omega), hlg_p, hlg_q, cp_if hlp hlq, if_neg (fun z => h99 z.1)] <;> rfl
                      refine g_widen (c2 := 1) (s2 := 16) (Nat.le_of_ble_eq_true rfl) (Nat.le_of_ble_eq_true rfl) ?_
                      exact g_iret hC hR dX9_copy_119 ⟨b, congrArg (fun z => some (Value.int (Prod.fst z))) hE.symm, by rw [hE]; exact hx1, xG.rf⟩
                    · refine g_aload hC dX9_copy_102 0 rfl (Or.inr ⟨_, rfl⟩) ?_
                      refine g_iload hC dX9_copy_104 6 rfl ?_
                      refine g_iload hC dX9_copy_106 7 rfl ?_
                      refine g_U (As := [.int e, .int n]) (st := []) hC 2 dX9_copy_108 rfl (hx0.W hw_q rfl).1 (hx0.W hw_q rfl).2 gX9_copy_X4_hasCells_u128X5 rfl rfl (by decide +kernel) ⟨Nat.le_of_ble_eq_true rfl, Nat.le_of_ble_eq_true rfl⟩ rfl (Nat.le_of_ble_eq_true rfl) ⟨Nat.le_of_ble_eq_true rfl, Nat.le_of_ble_eq_true rfl⟩ (c2 := 0) (s2 := 0) rfl rfl (x_4_hasCells_R _ _ _ _ (isR.B hx0 hw_q rfl (hI.2.2.2.2.1 _ hw_q)) _ _) ?_
                      refine g_ifB_ne (P := hcs e n (S.2.1 11 (wh S qj))) (tgt := 120) hC dX9_copy_111 (by decide) (fun h111 => ?_) (fun h111 => ?_)
                      · have hlp := hI.2.2.2.2.1 _ hw_p
                        have hlq := hI.2.2.2.2.1 _ hw_q
                        have hcs9 : hcs a n (S.2.1 11 (wh S pj)) ∧ hcs e n (S.2.1 11 (wh S qj)) := ⟨h99, h111⟩
                        obtain ⟨aj, nj, han, rfl, rfl⟩ := cpy_of hlp (Int32.not_lt.mpr h99.1) (Int32.not_lt.mpr h99.2.1) h99.2.2.2
                        obtain ⟨ej, n9, hen, rfl, hn9⟩ := cpy_of hlq (Int32.not_lt.mpr h111.1) (Int32.not_lt.mpr h111.2.1) h111.2.2.2
                        have hn9 : nj = n9 := by
                          have z := congrArg Int32.toNatClampNeg hn9
                          rwa [nI_clamp (by omega), nI_clamp (by omega)] at z
                        subst hn9
                        have hpl_a : pl (nI aj) = aj := nI_clamp (by omega)
                        have hpl_e : pl (nI ej) = ej := nI_clamp (by omega)
                        have hpl_n : pl (nI nj) = nj := nI_clamp (by omega)
                        refine g_aload hC dX9_copy_120 1 rfl (Or.inr ⟨_, rfl⟩) ?_
                        refine g_aload hC dX9_copy_122 0 rfl (Or.inr ⟨_, rfl⟩) ?_
                        refine g_iload_n hC dX9_copy_124 rfl 4 rfl ?_
                        refine g_iload hC dX9_copy_125 6 rfl ?_
                        refine g_iload hC dX9_copy_127 7 rfl ?_
                        refine g_Ax (As := [.ref (b.1 4 (wh S qj)), .int (nI aj), .int (nI ej), .int (nI nj)]) (st := []) hC 4 dX9_copy_129 rfl (hx0.W hw_p rfl).1 (hx0.W hw_p rfl).2 gX9_copy_X5_passTo_u132X5 rfl (gKK_D ⟨"KeptTerms$Row", "passTo", "(LKeptTerms$Row;III)V"⟩ (by decide)) (by decide +kernel) ⟨Nat.le_of_ble_eq_true rfl, Nat.le_of_ble_eq_true rfl⟩ rfl (Nat.le_of_ble_eq_true rfl) ⟨(Nat.le_of_ble_eq_true rfl), (Nat.le_of_ble_eq_true rfl)⟩ (c2 := 1) (s2 := 16) rfl rfl (x_passTo_R (S := thS S) hx0 (xF.of hI0) hI.2.2.2.2.1 _ _ hw_p rfl _ _ hw_q rfl aj ej nj (show aj + nj ≤ S.2.1 11 (wh S pj) by omega) (show ej + nj ≤ S.2.1 11 (wh S qj) by omega)) (fun v1 L1 f1 hp1 => ?_)
                        obtain ⟨rfl, hx1⟩ := hp1
                        show gW X vwCl 8 L1 f1 1 16 132 [(7, .ref (b.1 4 (wh S qj))), (6, .ref (b.1 4 (wh S pj))), (0, .ref M), (1, .int (nI pj)), (2, .int (nI aj)), (3, .int (nI qj)), (4, .int (nI ej)), (5, .int (nI nj))] []
                        have hx9 : xR cy (aNr (aWr (thS S) 25 0 nj (fun i => atS (thS S) pj (aj + i))) 12 (16 * wh S qj + ej) nj (fun i => S.2.1 12 (16 * wh S pj + (aj + i)))) b L1 f1 := hx1.eqv ⟨⟨rfl, rfl, rfl, rfl⟩, fun _ _ => ⟨rfl, fun _ _ => rfl⟩, fun _ _ => ⟨rfl, fun _ _ => rfl⟩, fun _ _ => ⟨rfl, fun _ _ => rfl⟩, fun _ _ => ⟨rfl, rfl, rfl, rfl, rfl, fun _ _ => rfl, fun _ _ => rfl⟩, fun _ _ => rfl, fun _ _ => ⟨rfl, rfl⟩⟩ ((xF.of hI0).aNr12 (fun i hi => (xF.of hI).2.1 _ hw_p (aj + i) (by omega))) rfl rfl rfl rfl
                        refine g_iconst hC dX9_copy_132 (v := nI 1) (by decide) ?_
                        have hlg_p : longS S pj = S.2.1 11 (wh S pj) := by unfold longS; rw [hk_p] <;> rfl
                        have hlg_q : longS S qj = S.2.1 11 (wh S qj) := by unfold longS; rw [hk_q] <;> rfl
                        have hcpy : cpyS (thS S) pj aj qj ej nj = (aNr (aWr (thS S) 25 0 nj (fun i => atS (thS S) pj (aj + i))) 12 (16 * wh S qj + ej) nj (fun i => S.2.1 12 (16 * wh S pj + (aj + i)))) := by
                          unfold cpyS
                          rw [show kd (thS S) pj = 3 from hk_p]
                          rfl
                        have hE : s_copy S (nI pj) (nI aj) (nI qj) (nI ej) (nI nj) = (nI 1, (aNr (aWr (thS S) 25 0 nj (fun i => atS (thS S) pj (aj + i))) 12 (16 * wh S qj + ej) nj (fun i => S.2.1 12 (16 * wh S pj + (aj + i))))) := by
                          unfold s_copy
                          rw [if_pos h4, if_pos h11, hpl_p, hpl_q, if_neg (show ¬ (kd S pj = 0 ∨ kd S qj = 0) by omega), if_neg (show ¬ (3 < kd S pj ∨ kd S pj ≠ kd S qj) by omega), hlg_p, hlg_q, cp_if hlp hlq, if_pos hcs9, hpl_a, hpl_e, hpl_n, hcpy] <;> rfl
                        exact g_iret hC hR dX9_copy_133 ⟨b, congrArg (fun z => some (Value.int (Prod.fst z))) hE.symm, by rw [hE]; exact hx9, xG.rf⟩
                      · refine g_aload_n hC dX9_copy_114 rfl 2 rfl (Or.inr ⟨_, rfl⟩) ?_
                        refine g_iconst hC dX9_copy_115 (v := nI 3) (by decide) ?_
                        refine g_Vx (As := [.int (nI 3)]) (st := []) hC 1 dX9_copy_116 rfl (hx0.M hM).1 (hx0.M hM).2 gX9_copy_X9_failed rfl (by decide +kernel) ⟨Nat.le_of_ble_eq_true rfl, Nat.le_of_ble_eq_true rfl⟩ rfl (Nat.le_of_ble_eq_true rfl) ⟨(Nat.le_of_ble_eq_true rfl), (Nat.le_of_ble_eq_true rfl)⟩ (c2 := 0) (s2 := 0) rfl rfl (x_failed hx0 M hM 3) (fun v1 L1 f1 hp1 => ?_)
                        obtain ⟨rfl, hx1⟩ := hp1
                        show gW X vwCl 8 L1 f1 0 0 119 [(7, .ref (b.1 4 (wh S qj))), (6, .ref (b.1 4 (wh S pj))), (0, .ref M), (1, .int (nI pj)), (2, .int a), (3, .int (nI qj)), (4, .int e), (5, .int n)] [.int (fA 3)]
                        have hlp := hI.2.2.2.2.1 _ hw_p
                        have hlq := hI.2.2.2.2.1 _ hw_q
                        have hlg_p : longS S pj = S.2.1 11 (wh S pj) := by unfold longS; rw [hk_p] <;> rfl
                        have hlg_q : longS S qj = S.2.1 11 (wh S qj) := by unfold longS; rw [hk_q] <;> rfl
                        have hE : s_copy S (nI pj) a (nI qj) e n = (fA 3, (aSc (thS S) 1 3)) := by
                          unfold s_copy
                          rw [if_pos h4, if_pos h11, hpl_p, hpl_q, if_neg (show ¬ (kd S pj = 0 ∨ kd S qj = 0) by omega), if_neg (show ¬ (3 < kd S pj ∨ kd S pj ≠ kd S qj) by omega), hlg_p, hlg_q, cp_if hlp hlq, if_neg (fun z => h111 z.2)] <;> rfl
                        refine g_widen (c2 := 1) (s2 := 16) (Nat.le_of_ble_eq_true rfl) (Nat.le_of_ble_eq_true rfl) ?_
                        exact g_iret hC hR dX9_copy_119 ⟨b, congrArg (fun z => some (Value.int (Prod.fst z))) hE.symm, by rw [hE]; exact hx1, xG.rf⟩
                  · exfalso; omega
            · cases h31
          · have hw_q : wh S qj < S.1 13 := hI.wt hqj (by omega)
            have hb_q : S.2.1 14 (wh S qj) = 0 := by have := ((hI.2.1 _ hqj).2.2.2.2.2 (by omega)).2; omega
            have hp0_q : plcF (thS S) b qj = some (b.1 6 (wh S qj)) := plc_k hqj hk_q (by decide)
            refine g_aald hC 5 rfl (hx0.Mp rfl).1 (hx0.Mp rfl).2 (qj) rfl (show qj < 10 by omega) (by decide) dX9_copy_30 ?_
            refine g_val (w := .ref (b.1 6 (wh S qj))) (congrArg va_rf hp0_q) ?_
            refine g_ifnonnull (o := some (b.1 6 (wh S qj))) (tgt := 40) hC dX9_copy_31 (by decide) (fun a31 h31 => ?_) (fun h31 => ?_)
            · refine g_aload_n hC dX9_copy_40 rfl 0 rfl (Or.inr ⟨_, rfl⟩) ?_
              refine g_get hC (by decide +kernel) rfl (hx0.M hM).1 (hx0.M hM).2 0 (by decide) (by decide +kernel) (Or.inl rfl) rfl dX9_copy_41 ?_
              refine g_iload_n hC dX9_copy_44 rfl 1 rfl ?_
              refine g_aald hC 5 rfl (hx0.Mp rfl).1 (hx0.Mp rfl).2 (pj) rfl (show pj < 10 by omega) (by decide) dX9_copy_45 ?_
              refine g_val (w := .ref (b.1 4 (wh S pj))) (congrArg va_rf hp0_p) ?_
              refine g_S (As := [.ref (b.1 4 (wh S pj))]) (st := []) hC 1 dX9_copy_46 gX9_copy_X9_asRow rfl (by decide +kernel) ⟨Nat.le_of_ble_eq_true rfl, Nat.le_of_ble_eq_true rfl⟩ rfl (Nat.le_of_ble_eq_true rfl) ⟨Nat.le_of_ble_eq_true rfl, Nat.le_of_ble_eq_true rfl⟩ (c2 := 0) (s2 := 0) rfl rfl (x_asRow (some (b.1 4 (wh S pj))) 3 (Or.inr ⟨_, 3, _, rfl, (hx0.W hw_p rfl), Or.inr (Or.inr (Or.inl ⟨rfl, rfl⟩))⟩)) ?_
              refine g_astore (lv' := [(6, .ref (b.1 4 (wh S pj))), (0, .ref M), (1, .int (nI pj)), (2, .int a), (3, .int (nI qj)), (4, .int e), (5, .int n)]) hC dX9_copy_49 (by decide) rfl (Or.inr ⟨_, rfl⟩) ?_
              refine g_aload_n hC dX9_copy_51 rfl 1 rfl (Or.inr ⟨_, rfl⟩) ?_
              refine g_get hC (by decide +kernel) rfl (hx0.M hM).1 (hx0.M hM).2 0 (by decide) (by decide +kernel) (Or.inl rfl) rfl dX9_copy_52 ?_
              refine g_iload_n hC dX9_copy_55 rfl 4 rfl ?_
              refine g_aald hC 5 rfl (hx0.Mp rfl).1 (hx0.Mp rfl).2 (qj) rfl (show qj < 10 by omega) (by decide) dX9_copy_56 ?_
              refine g_val (w := .ref (b.1 6 (wh S qj))) (congrArg va_rf hp0_q) ?_
              refine g_S (As := [.ref (b.1 6 (wh S qj))]) (st := []) hC 1 dX9_copy_57 gX9_copy_X9_asRow rfl (by decide +kernel) ⟨Nat.le_of_ble_eq_true rfl, Nat.le_of_ble_eq_true rfl⟩ rfl (Nat.le_of_ble_eq_true rfl) ⟨Nat.le_of_ble_eq_true rfl, Nat.le_of_ble_eq_true rfl⟩ (c2 := 0) (s2 := 0) rfl rfl (x_asRow (some (b.1 6 (wh S qj))) 4 (Or.inr ⟨_, 5, _, rfl, (hx0.T hw_q rfl hb_q), Or.inr (Or.inr (Or.inr (Or.inl ⟨rfl, rfl⟩)))⟩)) ?_
              refine g_astore (lv' := [(7, .null), (6, .ref (b.1 4 (wh S pj))), (0, .ref M), (1, .int (nI pj)), (2, .int a), (3, .int (nI qj)), (4, .int e), (5, .int n)]) hC dX9_copy_60 (by decide) rfl (Or.inl rfl) ?_
              refine g_aload hC dX9_copy_62 1 rfl (Or.inr ⟨_, rfl⟩) ?_
              refine g_ifnull (o := some (b.1 4 (wh S pj))) (tgt := 85) hC dX9_copy_64 (by decide) (fun h64 => ?_) (fun a64 h64 => ?_)
              · cases h64
              · refine g_aload hC dX9_copy_67 0 rfl (Or.inl rfl) ?_
                refine g_ifnull (o := none) (tgt := 85) hC dX9_copy_69 (by decide) (fun h69 => ?_) (fun a69 h69 => ?_)
                · refine g_aload_n hC dX9_copy_85 rfl 2 rfl (Or.inr ⟨_, rfl⟩) ?_
                  refine g_iconst hC dX9_copy_86 (v := nI 4) (by decide) ?_
                  refine g_Vx (As := [.int (nI 4)]) (st := []) hC 1 dX9_copy_87 rfl (hx0.M hM).1 (hx0.M hM).2 gX9_copy_X9_failed rfl (by decide +kernel) ⟨Nat.le_of_ble_eq_true rfl, Nat.le_of_ble_eq_true rfl⟩ rfl (Nat.le_of_ble_eq_true rfl) ⟨(Nat.le_of_ble_eq_true rfl), (Nat.le_of_ble_eq_true rfl)⟩ (c2 := 0) (s2 := 0) rfl rfl (x_failed hx0 M hM 4) (fun v1 L1 f1 hp1 => ?_)
                  obtain ⟨rfl, hx1⟩ := hp1
                  show gW X vwCl 8 L1 f1 0 0 90 [(7, .null), (6, .ref (b.1 4 (wh S pj))), (0, .ref M), (1, .int (nI pj)), (2, .int a), (3, .int (nI qj)), (4, .int e), (5, .int n)] [.int (fA 4)]
                  have hE : s_copy S (nI pj) a (nI qj) e n = (fA 4, (aSc (thS S) 1 4)) := by
                    unfold s_copy
                    rw [if_pos h4, if_pos h11, hpl_p, hpl_q, if_neg (show ¬ (kd S pj = 0 ∨ kd S qj = 0) by omega), if_pos (show 3 < kd S pj ∨ kd S pj ≠ kd S qj by omega)] <;> rfl
                  refine g_widen (c2 := 1) (s2 := 16) (Nat.le_of_ble_eq_true rfl) (Nat.le_of_ble_eq_true rfl) ?_
                  exact g_iret hC hR dX9_copy_90 ⟨b, congrArg (fun z => some (Value.int (Prod.fst z))) hE.symm, by rw [hE]; exact hx1, xG.rf⟩
                · cases h69
            · cases h31
          · have hw_q : wh S qj < S.1 13 := hI.wt hqj (by omega)
            have hb_q : S.2.1 14 (wh S qj) ≠ 0 := by have := ((hI.2.1 _ hqj).2.2.2.2.2 (by omega)).2; omega
            have hp0_q : plcF (thS S) b qj = some (b.1 6 (wh S qj)) := plc_k hqj hk_q (by decide)
            refine g_aald hC 5 rfl (hx0.Mp rfl).1 (hx0.Mp rfl).2 (qj) rfl (show qj < 10 by omega) (by decide) dX9_copy_30 ?_
            refine g_val (w := .ref (b.1 6 (wh S qj))) (congrArg va_rf hp0_q) ?_
            refine g_ifnonnull (o := some (b.1 6 (wh S qj))) (tgt := 40) hC dX9_copy_31 (by decide) (fun a31 h31 => ?_) (fun h31 => ?_)
            · refine g_aload_n hC dX9_copy_40 rfl 0 rfl (Or.inr ⟨_, rfl⟩) ?_
              refine g_get hC (by decide +kernel) rfl (hx0.M hM).1 (hx0.M hM).2 0 (by decide) (by decide +kernel) (Or.inl rfl) rfl dX9_copy_41 ?_
              refine g_iload_n hC dX9_copy_44 rfl 1 rfl ?_
              refine g_aald hC 5 rfl (hx0.Mp rfl).1 (hx0.Mp rfl).2 (pj) rfl (show pj < 10 by omega) (by decide) dX9_copy_45 ?_
              refine g_val (w := .ref (b.1 4 (wh S pj))) (congrArg va_rf hp0_p) ?_
              refine g_S (As := [.ref (b.1 4 (wh S pj))]) (st := []) hC 1 dX9_copy_46 gX9_copy_X9_asRow rfl (by decide +kernel) ⟨Nat.le_of_ble_eq_true rfl, Nat.le_of_ble_eq_true rfl⟩ rfl (Nat.le_of_ble_eq_true rfl) ⟨Nat.le_of_ble_eq_true rfl, Nat.le_of_ble_eq_true rfl⟩ (c2 := 0) (s2 := 0) rfl rfl (x_asRow (some (b.1 4 (wh S pj))) 3 (Or.inr ⟨_, 3, _, rfl, (hx0.W hw_p rfl), Or.inr (Or.inr (Or.inl ⟨rfl, rfl⟩))⟩)) ?_
              refine g_astore (lv' := [(6, .ref (b.1 4 (wh S pj))), (0, .ref M), (1, .int (nI pj)), (2, .int a), (3, .int (nI qj)), (4, .int e), (5, .int n)]) hC dX9_copy_49 (by decide) rfl (Or.inr ⟨_, rfl⟩) ?_
              refine g_aload_n hC dX9_copy_51 rfl 1 rfl (Or.inr ⟨_, rfl⟩) ?_
              refine g_get hC (by decide +kernel) rfl (hx0.M hM).1 (hx0.M hM).2 0 (by decide) (by decide +kernel) (Or.inl rfl) rfl dX9_copy_52 ?_
              refine g_iload_n hC dX9_copy_55 rfl 4 rfl ?_
              refine g_aald hC 5 rfl (hx0.Mp rfl).1 (hx0.Mp rfl).2 (qj) rfl (show qj < 10 by omega) (by decide) dX9_copy_56 ?_
              refine g_val (w := .ref (b.1 6 (wh S qj))) (congrArg va_rf hp0_q) ?_
              refine g_S (As := [.ref (b.1 6 (wh S qj))]) (st := []) hC 1 dX9_copy_57 gX9_copy_X9_asRow rfl (by decide +kernel) ⟨Nat.le_of_ble_eq_true rfl, Nat.le_of_ble_eq_true rfl⟩ rfl (Nat.le_of_ble_eq_true rfl) ⟨Nat.le_of_ble_eq_true rfl, Nat.le_of_ble_eq_true rfl⟩ (c2 := 0) (s2 := 0) rfl rfl (x_asRow (some (b.1 6 (wh S qj))) 5 (Or.inr ⟨_, 1, _, rfl, (hx0.K hw_q rfl hb_q), Or.inr (Or.inr (Or.inr (Or.inr ⟨rfl, rfl⟩)))⟩)) ?_
              refine g_astore (lv' := [(7, .null), (6, .ref (b.1 4 (wh S pj))), (0, .ref M), (1, .int (nI pj)), (2, .int a), (3, .int (nI qj)), (4, .int e), (5, .int n)]) hC dX9_copy_60 (by decide) rfl (Or.inl rfl) ?_
              refine g_aload hC dX9_copy_62 1 rfl (Or.inr ⟨_, rfl⟩) ?_
              refine g_ifnull (o := some (b.1 4 (wh S pj))) (tgt := 85) hC dX9_copy_64 (by decide) (fun h64 => ?_) (fun a64 h64 => ?_)
              · cases h64
              · refine g_aload hC dX9_copy_67 0 rfl (Or.inl rfl) ?_
                refine g_ifnull (o := none) (tgt := 85) hC dX9_copy_69 (by decide) (fun h69 => ?_) (fun a69 h69 => ?_)
                · refine g_aload_n hC dX9_copy_85 rfl 2 rfl (Or.inr ⟨_, rfl⟩) ?_
                  refine g_iconst hC dX9_copy_86 (v := nI 4) (by decide) ?_
                  refine g_Vx (As := [.int (nI 4)]) (st := []) hC 1 dX9_copy_87 rfl (hx0.M hM).1 (hx0.M hM).2 gX9_copy_X9_failed rfl (by decide +kernel) ⟨Nat.le_of_ble_eq_true rfl, Nat.le_of_ble_eq_true rfl⟩ rfl (Nat.le_of_ble_eq_true rfl) ⟨(Nat.le_of_ble_eq_true rfl), (Nat.le_of_ble_eq_true rfl)⟩ (c2 := 0) (s2 := 0) rfl rfl (x_failed hx0 M hM 4) (fun v1 L1 f1 hp1 => ?_)
                  obtain ⟨rfl, hx1⟩ := hp1
                  show gW X vwCl 8 L1 f1 0 0 90 [(7, .null), (6, .ref (b.1 4 (wh S pj))), (0, .ref M), (1, .int (nI pj)), (2, .int a), (3, .int (nI qj)), (4, .int e), (5, .int n)] [.int (fA 4)]
                  have hE : s_copy S (nI pj) a (nI qj) e n = (fA 4, (aSc (thS S) 1 4)) := by
                    unfold s_copy
                    rw [if_pos h4, if_pos h11, hpl_p, hpl_q, if_neg (show ¬ (kd S pj = 0 ∨ kd S qj = 0) by omega), if_pos (show 3 < kd S pj ∨ kd S pj ≠ kd S qj by omega)] <;> rfl
                  refine g_widen (c2 := 1) (s2 := 16) (Nat.le_of_ble_eq_true rfl) (Nat.le_of_ble_eq_true rfl) ?_
                  exact g_iret hC hR dX9_copy_90 ⟨b, congrArg (fun z => some (Value.int (Prod.fst z))) hE.symm, by rw [hE]; exact hx1, xG.rf⟩
                · cases h69
            · cases h31
      · have hw_p : wh S pj < S.1 13 := hI.wt hpj (by omega)
        have hb_p : S.2.1 14 (wh S pj) = 0 := by have := ((hI.2.1 _ hpj).2.2.2.2.2 (by omega)).2; omega
        have hp0_p : plcF (thS S) b pj = some (b.1 6 (wh S pj)) := plc_k hpj hk_p (by decide)
        refine g_aald hC 5 rfl (hx0.Mp rfl).1 (hx0.Mp rfl).2 (pj) rfl (show pj < 10 by omega) (by decide) dX9_copy_21 ?_
        refine g_val (w := .ref (b.1 6 (wh S pj))) (congrArg va_rf hp0_p) ?_
        refine g_ifnull (o := some (b.1 6 (wh S pj))) (tgt := 34) hC dX9_copy_22 (by decide) (fun h22 => ?_) (fun a22 h22 => ?_)
        · cases h22
        · refine g_aload_n hC dX9_copy_25 rfl 0 rfl (Or.inr ⟨_, rfl⟩) ?_
          refine g_get hC (by decide +kernel) rfl (hx0.M hM).1 (hx0.M hM).2 0 (by decide) (by decide +kernel) (Or.inl rfl) rfl dX9_copy_26 ?_
          refine g_iload_n hC dX9_copy_29 rfl 3 rfl ?_
          have h5_q := hI.k5 hqj
          rcases (show kd S qj = 0 ∨ kd S qj = 1 ∨ kd S qj = 2 ∨ kd S qj = 3 ∨ kd S qj = 4 ∨ kd S qj = 5 by omega) with hk_q | hk_q | hk_q | hk_q | hk_q | hk_q
          · have hp0_q : plcF (thS S) b qj = none := plc_0 hqj hk_q
            refine g_aald hC 5 rfl (hx0.Mp rfl).1 (hx0.Mp rfl).2 (qj) rfl (show qj < 10 by omega) (by decide) dX9_copy_30 ?_
            refine g_val (w := .null) (congrArg va_rf hp0_q) ?_
            refine g_ifnonnull (o := none) (tgt := 40) hC dX9_copy_31 (by decide) (fun a31 h31 => ?_) (fun h31 => ?_)
            · cases h31
            · refine g_aload_n hC dX9_copy_34 rfl 0 rfl (Or.inr ⟨_, rfl⟩) ?_
              refine g_iconst hC dX9_copy_35 (v := nI 1) (by decide) ?_
              refine g_Vx (As := [.int (nI 1)]) (st := []) hC 1 dX9_copy_36 rfl (hx0.M hM).1 (hx0.M hM).2 gX9_copy_X9_failed rfl (by decide +kernel) ⟨Nat.le_of_ble_eq_true rfl, Nat.le_of_ble_eq_true rfl⟩ rfl (Nat.le_of_ble_eq_true rfl) ⟨(Nat.le_of_ble_eq_true rfl), (Nat.le_of_ble_eq_true rfl)⟩ (c2 := 0) (s2 := 0) rfl rfl (x_failed hx0 M hM 1) (fun v1 L1 f1 hp1 => ?_)
              obtain ⟨rfl, hx1⟩ := hp1
              show gW X vwCl 8 L1 f1 0 0 39 [(0, .ref M), (1, .int (nI pj)), (2, .int a), (3, .int (nI qj)), (4, .int e), (5, .int n)] [.int (fA 1)]
              have hE : s_copy S (nI pj) a (nI qj) e n = (fA 1, (aSc (thS S) 1 1)) := by
                unfold s_copy
                rw [if_pos h4, if_pos h11, hpl_p, hpl_q, if_pos (Or.inr hk_q)] <;> rfl
              refine g_widen (c2 := 1) (s2 := 16) (Nat.le_of_ble_eq_true rfl) (Nat.le_of_ble_eq_true rfl) ?_
              exact g_iret hC hR dX9_copy_39 ⟨b, congrArg (fun z => some (Value.int (Prod.fst z))) hE.symm, by rw [hE]; exact hx1, xG.rf⟩
          · have hw_q : wh S qj < S.1 4 := hI.wl hqj hk_q
            have hp0_q : plcF (thS S) b qj = some (b.1 0 (wh S qj)) := plc_k hqj hk_q (by decide)
            refine g_aald hC 5 rfl (hx0.Mp rfl).1 (hx0.Mp rfl).2 (qj) rfl (show qj < 10 by omega) (by decide) dX9_copy_30 ?_
            refine g_val (w := .ref (b.1 0 (wh S qj))) (congrArg va_rf hp0_q) ?_
            refine g_ifnonnull (o := some (b.1 0 (wh S qj))) (tgt := 40) hC dX9_copy_31 (by decide) (fun a31 h31 => ?_) (fun h31 => ?_)
            · refine g_aload_n hC dX9_copy_40 rfl 0 rfl (Or.inr ⟨_, rfl⟩) ?_
              refine g_get hC (by decide +kernel) rfl (hx0.M hM).1 (hx0.M hM).2 0 (by decide) (by decide +kernel) (Or.inl rfl) rfl dX9_copy_41 ?_
              refine g_iload_n hC dX9_copy_44 rfl 1 rfl ?_
              refine g_aald hC 5 rfl (hx0.Mp rfl).1 (hx0.Mp rfl).2 (pj) rfl (show pj < 10 by omega) (by decide) dX9_copy_45 ?_
              refine g_val (w := .ref (b.1 6 (wh S pj))) (congrArg va_rf hp0_p) ?_
              refine g_S (As := [.ref (b.1 6 (wh S pj))]) (st := []) hC 1 dX9_copy_46 gX9_copy_X9_asRow rfl (by decide +kernel) ⟨Nat.le_of_ble_eq_true rfl, Nat.le_of_ble_eq_true rfl⟩ rfl (Nat.le_of_ble_eq_true rfl) ⟨Nat.le_of_ble_eq_true rfl, Nat.le_of_ble_eq_true rfl⟩ (c2 := 0) (s2 := 0) rfl rfl (x_asRow (some (b.1 6 (wh S pj))) 4 (Or.inr ⟨_, 5, _, rfl, (hx0.T hw_p rfl hb_p), Or.inr (Or.inr (Or.inr (Or.inl ⟨rfl, rfl⟩)))⟩)) ?_
              refine g_astore (lv' := [(6, .null), (0, .ref M), (1, .int (nI pj)), (2, .int a), (3, .int (nI qj)), (4, .int e), (5, .int n)]) hC dX9_copy_49 (by decide) rfl (Or.inl rfl) ?_
              refine g_aload_n hC dX9_copy_51 rfl 1 rfl (Or.inr ⟨_, rfl⟩) ?_
              refine g_get hC (by decide +kernel) rfl (hx0.M hM).1 (hx0.M hM).2 0 (by decide) (by decide +kernel) (Or.inl rfl) rfl dX9_copy_52 ?_
              refine g_iload_n hC dX9_copy_55 rfl 4 rfl ?_
              refine g_aald hC 5 rfl (hx0.Mp rfl).1 (hx0.Mp rfl).2 (qj) rfl (show qj < 10 by omega) (by decide) dX9_copy_56 ?_
              refine g_val (w := .ref (b.1 0 (wh S qj))) (congrArg va_rf hp0_q) ?_
              refine g_S (As := [.ref (b.1 0 (wh S qj))]) (st := []) hC 1 dX9_copy_57 gX9_copy_X9_asRow rfl (by decide +kernel) ⟨Nat.le_of_ble_eq_true rfl, Nat.le_of_ble_eq_true rfl⟩ rfl (Nat.le_of_ble_eq_true rfl) ⟨Nat.le_of_ble_eq_true rfl, Nat.le_of_ble_eq_true rfl⟩ (c2 := 0) (s2 := 0) rfl rfl (x_asRow (some (b.1 0 (wh S qj))) 1 (Or.inr ⟨_, 0, _, rfl, (hx0.B hw_q rfl), Or.inl ⟨rfl, rfl⟩⟩)) ?_
              refine g_astore (lv' := [(7, .ref (b.1 0 (wh S qj))), (6, .null), (0, .ref M), (1, .int (nI pj)), (2, .int a), (3, .int (nI qj)), (4, .int e), (5, .int n)]) hC dX9_copy_60 (by decide) rfl (Or.inr ⟨_, rfl⟩) ?_
              refine g_aload hC dX9_copy_62 1 rfl (Or.inl rfl) ?_
              refine g_ifnull (o := none) (tgt := 85) hC dX9_copy_64 (by decide) (fun h64 => ?_) (fun a64 h64 => ?_)
              · refine g_aload_n hC dX9_copy_85 rfl 2 rfl (Or.inr ⟨_, rfl⟩) ?_
                refine g_iconst hC dX9_copy_86 (v := nI 4) (by decide) ?_
                refine g_Vx (As := [.int (nI 4)]) (st := []) hC 1 dX9_copy_87 rfl (hx0.M hM).1 (hx0.M hM).2 gX9_copy_X9_failed rfl (by decide +kernel) ⟨Nat.le_of_ble_eq_true rfl, Nat.le_of_ble_eq_true rfl⟩ rfl (Nat.le_of_ble_eq_true rfl) ⟨(Nat.le_of_ble_eq_true rfl), (Nat.le_of_ble_eq_true rfl)⟩ (c2 := 0) (s2 := 0) rfl rfl (x_failed hx0 M hM 4) (fun v1 L1 f1 hp1 => ?_)
                obtain ⟨rfl, hx1⟩ := hp1
                show gW X vwCl 8 L1 f1 0 0 90 [(7, .ref (b.1 0 (wh S qj))), (6, .null), (0, .ref M), (1, .int (nI pj)), (2, .int a), (3, .int (nI qj)), (4, .int e), (5, .int n)] [.int (fA 4)]
                have hE : s_copy S (nI pj) a (nI qj) e n = (fA 4, (aSc (thS S) 1 4)) := by
                  unfold s_copy
                  rw [if_pos h4, if_pos h11, hpl_p, hpl_q, if_neg (show ¬ (kd S pj = 0 ∨ kd S qj = 0) by omega), if_pos (show 3 < kd S pj ∨ kd S pj ≠ kd S qj by omega)] <;> rfl
                refine g_widen (c2 := 1) (s2 := 16) (Nat.le_of_ble_eq_true rfl) (Nat.le_of_ble_eq_true rfl) ?_
                exact g_iret hC hR dX9_copy_90 ⟨b, congrArg (fun z => some (Value.int (Prod.fst z))) hE.symm, by rw [hE]; exact hx1, xG.rf⟩
              · cases h64
            · cases h31
          · have hw_q : wh S qj < S.1 7 := hI.ws hqj hk_q
            have hp0_q : plcF (thS S) b qj = some (b.1 2 (wh S qj)) := plc_k hqj hk_q (by decide)
            refine g_aald hC 5 rfl (hx0.Mp rfl).1 (hx0.Mp rfl).2 (qj) rfl (show qj < 10 by omega) (by decide) dX9_copy_30 ?_
            refine g_val (w := .ref (b.1 2 (wh S qj))) (congrArg va_rf hp0_q) ?_
            refine g_ifnonnull (o := some (b.1 2 (wh S qj))) (tgt := 40) hC dX9_copy_31 (by decide) (fun a31 h31 => ?_) (fun h31 => ?_)
            · refine g_aload_n hC dX9_copy_40 rfl 0 rfl (Or.inr ⟨_, rfl⟩) ?_
              refine g_get hC (by decide +kernel) rfl (hx0.M hM).1 (hx0.M hM).2 0 (by decide) (by decide +kernel) (Or.inl rfl) rfl dX9_copy_41 ?_
              refine g_iload_n hC dX9_copy_44 rfl 1 rfl ?_
              refine g_aald hC 5 rfl (hx0.Mp rfl).1 (hx0.Mp rfl).2 (pj) rfl (show pj < 10 by omega) (by decide) dX9_copy_45 ?_
              refine g_val (w := .ref (b.1 6 (wh S pj))) (congrArg va_rf hp0_p) ?_
              refine g_S (As := [.ref (b.1 6 (wh S pj))]) (st := []) hC 1 dX9_copy_46 gX9_copy_X9_asRow rfl (by decide +kernel) ⟨Nat.le_of_ble_eq_true rfl, Nat.le_of_ble_eq_true rfl⟩ rfl (Nat.le_of_ble_eq_true rfl) ⟨Nat.le_of_ble_eq_true rfl, Nat.le_of_ble_eq_true rfl⟩ (c2 := 0) (s2 := 0) rfl rfl (x_asRow (some (b.1 6 (wh S pj))) 4 (Or.inr ⟨_, 5, _, rfl, (hx0.T hw_p rfl hb_p), Or.inr (Or.inr (Or.inr (Or.inl ⟨rfl, rfl⟩)))⟩)) ?_
              refine g_astore (lv' := [(6, .null), (0, .ref M), (1, .int (nI pj)), (2, .int a), (3, .int (nI qj)), (4, .int e), (5, .int n)]) hC dX9_copy_49 (by decide) rfl (Or.inl rfl) ?_
              refine g_aload_n hC dX9_copy_51 rfl 1 rfl (Or.inr ⟨_, rfl⟩) ?_
              refine g_get hC (by decide +kernel) rfl (hx0.M hM).1 (hx0.M hM).2 0 (by decide) (by decide +kernel) (Or.inl rfl) rfl dX9_copy_52 ?_
              refine g_iload_n hC dX9_copy_55 rfl 4 rfl ?_
              refine g_aald hC 5 rfl (hx0.Mp rfl).1 (hx0.Mp rfl).2 (qj) rfl (show qj < 10 by omega) (by decide) dX9_copy_56 ?_
              refine g_val (w := .ref (b.1 2 (wh S qj))) (congrArg va_rf hp0_q) ?_
              refine g_S (As := [.ref (b.1 2 (wh S qj))]) (st := []) hC 1 dX9_copy_57 gX9_copy_X9_asRow rfl (by decide +kernel) ⟨Nat.le_of_ble_eq_true rfl, Nat.le_of_ble_eq_true rfl⟩ rfl (Nat.le_of_ble_eq_true rfl) ⟨Nat.le_of_ble_eq_true rfl, Nat.le_of_ble_eq_true rfl⟩ (c2 := 0) (s2 := 0) rfl rfl (x_asRow (some (b.1 2 (wh S qj))) 2 (Or.inr ⟨_, 4, _, rfl, (hx0.G hw_q rfl), Or.inr (Or.inl ⟨rfl, rfl⟩)⟩)) ?_
              refine g_astore (lv' := [(7, .ref (b.1 2 (wh S qj))), (6, .null), (0, .ref M), (1, .int (nI pj)), (2, .int a), (3, .int (nI qj)), (4, .int e), (5, .int n)]) hC dX9_copy_60 (by decide) rfl (Or.inr ⟨_, rfl⟩) ?_
              refine g_aload hC dX9_copy_62 1 rfl (Or.inl rfl) ?_
              refine g_ifnull (o := none) (tgt := 85) hC dX9_copy_64 (by decide) (fun h64 => ?_) (fun a64 h64 => ?_)
              · refine g_aload_n hC dX9_copy_85 rfl 2 rfl (Or.inr ⟨_, rfl⟩) ?_
                refine g_iconst hC dX9_copy_86 (v := nI 4) (by decide) ?_
                refine g_Vx (As := [.int (nI 4)]) (st := []) hC 1 dX9_copy_87 rfl (hx0.M hM).1 (hx0.M hM).2 gX9_copy_X9_failed rfl (by decide +kernel) ⟨Nat.le_of_ble_eq_true rfl, Nat.le_of_ble_eq_true rfl⟩ rfl (Nat.le_of_ble_eq_true rfl) ⟨(Nat.le_of_ble_eq_true rfl), (Nat.le_of_ble_eq_true rfl)⟩ (c2 := 0) (s2 := 0) rfl rfl (x_failed hx0 M hM 4) (fun v1 L1 f1 hp1 => ?_)
                obtain ⟨rfl, hx1⟩ := hp1
                show gW X vwCl 8 L1 f1 0 0 90 [(7, .ref (b.1 2 (wh S qj))), (6, .null), (0, .ref M), (1, .int (nI pj)), (2, .int a), (3, .int (nI qj)), (4, .int e), (5, .int n)] [.int (fA 4)]
                have hE : s_copy S (nI pj) a (nI qj) e n = (fA 4, (aSc (thS S) 1 4)) := by
                  unfold s_copy
                  rw [if_pos h4, if_pos h11, hpl_p, hpl_q, if_neg (show ¬ (kd S pj = 0 ∨ kd S qj = 0) by omega), if_pos (show 3 < kd S pj ∨ kd S pj ≠ kd S qj by omega)] <;> rfl
                refine g_widen (c2 := 1) (s2 := 16) (Nat.le_of_ble_eq_true rfl) (Nat.le_of_ble_eq_true rfl) ?_
                exact g_iret hC hR dX9_copy_90 ⟨b, congrArg (fun z => some (Value.int (Prod.fst z))) hE.symm, by rw [hE]; exact hx1, xG.rf⟩
              · cases h64
            · cases h31
          · have hw_q : wh S qj < S.1 10 := hI.wr hqj hk_q
            have hp0_q : plcF (thS S) b qj = some (b.1 4 (wh S qj)) := plc_k hqj hk_q (by decide)
            refine g_aald hC 5 rfl (hx0.Mp rfl).1 (hx0.Mp rfl).2 (qj) rfl (show qj < 10 by omega) (by decide) dX9_copy_30 ?_
            refine g_val (w := .ref (b.1 4 (wh S qj))) (congrArg va_rf hp0_q) ?_
            refine g_ifnonnull (o := some (b.1 4 (wh S qj))) (tgt := 40) hC dX9_copy_31 (by decide) (fun a31 h31 => ?_) (fun h31 => ?_)
            · refine g_aload_n hC dX9_copy_40 rfl 0 rfl (Or.inr ⟨_, rfl⟩) ?_
              refine g_get hC (by decide +kernel) rfl (hx0.M hM).1 (hx0.M hM).2 0 (by decide) (by decide +kernel) (Or.inl rfl) rfl dX9_copy_41 ?_
              refine g_iload_n hC dX9_copy_44 rfl 1 rfl ?_
              refine g_aald hC 5 rfl (hx0.Mp rfl).1 (hx0.Mp rfl).2 (pj) rfl (show pj < 10 by omega) (by decide) dX9_copy_45 ?_
              refine g_val (w := .ref (b.1 6 (wh S pj))) (congrArg va_rf hp0_p) ?_
              refine g_S (As := [.ref (b.1 6 (wh S pj))]) (st := []) hC 1 dX9_copy_46 gX9_copy_X9_asRow rfl (by decide +kernel) ⟨Nat.le_of_ble_eq_true rfl, Nat.le_of_ble_eq_true rfl⟩ rfl (Nat.le_of_ble_eq_true rfl) ⟨Nat.le_of_ble_eq_true rfl, Nat.le_of_ble_eq_true rfl⟩ (c2 := 0) (s2 := 0) rfl rfl (x_asRow (some (b.1 6 (wh S pj))) 4 (Or.inr ⟨_, 5, _, rfl, (hx0.T hw_p rfl hb_p), Or.inr (Or.inr (Or.inr (Or.inl ⟨rfl, rfl⟩)))⟩)) ?_
              refine g_astore (lv' := [(6, .null), (0, .ref M), (1, .int (nI pj)), (2, .int a), (3, .int (nI qj)), (4, .int e), (5, .int n)]) hC dX9_copy_49 (by decide) rfl (Or.inl rfl) ?_
              refine g_aload_n hC dX9_copy_51 rfl 1 rfl (Or.inr ⟨_, rfl⟩) ?_
              refine g_get hC (by decide +kernel) rfl (hx0.M hM).1 (hx0.M hM).2 0 (by decide) (by decide +kernel) (Or.inl rfl) rfl dX9_copy_52 ?_
              refine g_iload_n hC dX9_copy_55 rfl 4 rfl ?_
              refine g_aald hC 5 rfl (hx0.Mp rfl).1 (hx0.Mp rfl).2 (qj) rfl (show qj < 10 by omega) (by decide) dX9_copy_56 ?_
              refine g_val (w := .ref (b.1 4 (wh S qj))) (congrArg va_rf hp0_q) ?_
              refine g_S (As := [.ref (b.1 4 (wh S qj))]) (st := []) hC 1 dX9_copy_57 gX9_copy_X9_asRow rfl (by decide +kernel) ⟨Nat.le_of_ble_eq_true rfl, Nat.le_of_ble_eq_true rfl⟩ rfl (Nat.le_of_ble_eq_true rfl) ⟨Nat.le_of_ble_eq_true rfl, Nat.le_of_ble_eq_true rfl⟩ (c2 := 0) (s2 := 0) rfl rfl (x_asRow (some (b.1 4 (wh S qj))) 3 (Or.inr ⟨_, 3, _, rfl, (hx0.W hw_q rfl), Or.inr (Or.inr (Or.inl ⟨rfl, rfl⟩))⟩)) ?_
              refine g_astore (lv' := [(7, .ref (b.1 4 (wh S qj))), (6, .null), (0, .ref M), (1, .int (nI pj)), (2, .int a), (3, .int (nI qj)), (4, .int e), (5, .int n)]) hC dX9_copy_60 (by decide) rfl (Or.inr ⟨_, rfl⟩) ?_
              refine g_aload hC dX9_copy_62 1 rfl (Or.inl rfl) ?_
              refine g_ifnull (o := none) (tgt := 85) hC dX9_copy_64 (by decide) (fun h64 => ?_) (fun a64 h64 => ?_)
              · refine g_aload_n hC dX9_copy_85 rfl 2 rfl (Or.inr ⟨_, rfl⟩) ?_
                refine g_iconst hC dX9_copy_86 (v := nI 4) (by decide) ?_
                refine g_Vx (As := [.int (nI 4)]) (st := []) hC 1 dX9_copy_87 rfl (hx0.M hM).1 (hx0.M hM).2 gX9_copy_X9_failed rfl (by decide +kernel) ⟨Nat.le_of_ble_eq_true rfl, Nat.le_of_ble_eq_true rfl⟩ rfl (Nat.le_of_ble_eq_true rfl) ⟨(Nat.le_of_ble_eq_true rfl), (Nat.le_of_ble_eq_true rfl)⟩ (c2 := 0) (s2 := 0) rfl rfl (x_failed hx0 M hM 4) (fun v1 L1 f1 hp1 => ?_)
                obtain ⟨rfl, hx1⟩ := hp1
                show gW X vwCl 8 L1 f1 0 0 90 [(7, .ref (b.1 4 (wh S qj))), (6, .null), (0, .ref M), (1, .int (nI pj)), (2, .int a), (3, .int (nI qj)), (4, .int e), (5, .int n)] [.int (fA 4)]
                have hE : s_copy S (nI pj) a (nI qj) e n = (fA 4, (aSc (thS S) 1 4)) := by
                  unfold s_copy
                  rw [if_pos h4, if_pos h11, hpl_p, hpl_q, if_neg (show ¬ (kd S pj = 0 ∨ kd S qj = 0) by omega), if_pos (show 3 < kd S pj ∨ kd S pj ≠ kd S qj by omega)] <;> rfl
                refine g_widen (c2 := 1) (s2 := 16) (Nat.le_of_ble_eq_true rfl) (Nat.le_of_ble_eq_true rfl) ?_
                exact g_iret hC hR dX9_copy_90 ⟨b, congrArg (fun z => some (Value.int (Prod.fst z))) hE.symm, by rw [hE]; exact hx1, xG.rf⟩
              · cases h64
            · cases h31
          · have hw_q : wh S qj < S.1 13 := hI.wt hqj (by omega)
            have hb_q : S.2.1 14 (wh S qj) = 0 := by have := ((hI.2.1 _ hqj).2.2.2.2.2 (by omega)).2; omega
            have hp0_q : plcF (thS S) b qj = some (b.1 6 (wh S qj)) := plc_k hqj hk_q (by decide)
            refine g_aald hC 5 rfl (hx0.Mp rfl).1 (hx0.Mp rfl).2 (qj) rfl (show qj < 10 by omega) (by decide) dX9_copy_30 ?_
            refine g_val (w := .ref (b.1 6 (wh S qj))) (congrArg va_rf hp0_q) ?_
            refine g_ifnonnull (o := some (b.1 6 (wh S qj))) (tgt := 40) hC dX9_copy_31 (by decide) (fun a31 h31 => ?_) (fun h31 => ?_)
            · refine g_aload_n hC dX9_copy_40 rfl 0 rfl (Or.inr ⟨_, rfl⟩) ?_
              refine g_get hC (by decide +kernel) rfl (hx0.M hM).1 (hx0.M hM).2 0 (by decide) (by decide +kernel) (Or.inl rfl) rfl dX9_copy_41 ?_
              refine g_iload_n hC dX9_copy_44 rfl 1 rfl ?_
              refine g_aald hC 5 rfl (hx0.Mp rfl).1 (hx0.Mp rfl).2 (pj) rfl (show pj < 10 by omega) (by decide) dX9_copy_45 ?_
              refine g_val (w := .ref (b.1 6 (wh S pj))) (congrArg va_rf hp0_p) ?_
              refine g_S (As := [.ref (b.1 6 (wh S pj))]) (st := []) hC 1 dX9_copy_46 gX9_copy_X9_asRow rfl (by decide +kernel) ⟨Nat.le_of_ble_eq_true rfl, Nat.le_of_ble_eq_true rfl⟩ rfl (Nat.le_of_ble_eq_true rfl) ⟨Nat.le_of_ble_eq_true rfl, Nat.le_of_ble_eq_true rfl⟩ (c2 := 0) (s2 := 0) rfl rfl (x_asRow (some (b.1 6 (wh S pj))) 4 (Or.inr ⟨_, 5, _, rfl, (hx0.T hw_p rfl hb_p), Or.inr (Or.inr (Or.inr (Or.inl ⟨rfl, rfl⟩)))⟩)) ?_
              refine g_astore (lv' := [(6, .null), (0, .ref M), (1, .int (nI pj)), (2, .int a), (3, .int (nI qj)), (4, .int e), (5, .int n)]) hC dX9_copy_49 (by decide) rfl (Or.inl rfl) ?_
              refine g_aload_n hC dX9_copy_51 rfl 1 rfl (Or.inr ⟨_, rfl⟩) ?_
              refine g_get hC (by decide +kernel) rfl (hx0.M hM).1 (hx0.M hM).2 0 (by decide) (by decide +kernel) (Or.inl rfl) rfl dX9_copy_52 ?_
              refine g_iload_n hC dX9_copy_55 rfl 4 rfl ?_
              refine g_aald hC 5 rfl (hx0.Mp rfl).1 (hx0.Mp rfl).2 (qj) rfl (show qj < 10 by omega) (by decide) dX9_copy_56 ?_
              refine g_val (w := .ref (b.1 6 (wh S qj))) (congrArg va_rf hp0_q) ?_
              refine g_S (As := [.ref (b.1 6 (wh S qj))]) (st := []) hC 1 dX9_copy_57 gX9_copy_X9_asRow rfl (by decide +kernel) ⟨Nat.le_of_ble_eq_true rfl, Nat.le_of_ble_eq_true rfl⟩ rfl (Nat.le_of_ble_eq_true rfl) ⟨Nat.le_of_ble_eq_true rfl, Nat.le_of_ble_eq_true rfl⟩ (c2 := 0) (s2 := 0) rfl rfl (x_asRow (some (b.1 6 (wh S qj))) 4 (Or.inr ⟨_, 5, _, rfl, (hx0.T hw_q rfl hb_q), Or.inr (Or.inr (Or.inr (Or.inl ⟨rfl, rfl⟩)))⟩)) ?_
              refine g_astore (lv' := [(7, .null), (6, .null), (0, .ref M), (1, .int (nI pj)), (2, .int a), (3, .int (nI qj)), (4, .int e), (5, .int n)]) hC dX9_copy_60 (by decide) rfl (Or.inl rfl) ?_
              refine g_aload hC dX9_copy_62 1 rfl (Or.inl rfl) ?_
              refine g_ifnull (o := none) (tgt := 85) hC dX9_copy_64 (by decide) (fun h64 => ?_) (fun a64 h64 => ?_)
              · refine g_aload_n hC dX9_copy_85 rfl 2 rfl (Or.inr ⟨_, rfl⟩) ?_
                refine g_iconst hC dX9_copy_86 (v := nI 4) (by decide) ?_
                refine g_Vx (As := [.int (nI 4)]) (st := []) hC 1 dX9_copy_87 rfl (hx0.M hM).1 (hx0.M hM).2 gX9_copy_X9_failed rfl (by decide +kernel) ⟨Nat.le_of_ble_eq_true rfl, Nat.le_of_ble_eq_true rfl⟩ rfl (Nat.le_of_ble_eq_true rfl) ⟨(Nat.le_of_ble_eq_true rfl), (Nat.le_of_ble_eq_true rfl)⟩ (c2 := 0) (s2 := 0) rfl rfl (x_failed hx0 M hM 4) (fun v1 L1 f1 hp1 => ?_)
                obtain ⟨rfl, hx1⟩ := hp1
                show gW X vwCl 8 L1 f1 0 0 90 [(7, .null), (6, .null), (0, .ref M), (1, .int (nI pj)), (2, .int a), (3, .int (nI qj)), (4, .int e), (5, .int n)] [.int (fA 4)]
                have hE : s_copy S (nI pj) a (nI qj) e n = (fA 4, (aSc (thS S) 1 4)) := by
                  unfold s_copy
                  rw [if_pos h4, if_pos h11, hpl_p, hpl_q, if_neg (show ¬ (kd S pj = 0 ∨ kd S qj = 0) by omega), if_pos (show 3 < kd S pj ∨ kd S pj ≠ kd S qj by omega)] <;> rfl
                refine g_widen (c2 := 1) (s2 := 16) (Nat.le_of_ble_eq_true rfl) (Nat.le_of_ble_eq_true rfl) ?_
                exact g_iret hC hR dX9_copy_90 ⟨b, congrArg (fun z => some (Value.int (Prod.fst z))) hE.symm, by rw [hE]; exact hx1, xG.rf⟩
              · cases h64
            · cases h31
          · have hw_q : wh S qj < S.1 13 := hI.wt hqj (by omega)
            have hb_q : S.2.1 14 (wh S qj) ≠ 0 := by have := ((hI.2.1 _ hqj).2.2.2.2.2 (by omega)).2; omega
            have hp0_q : plcF (thS S) b qj = some (b.1 6 (wh S qj)) := plc_k hqj hk_q (by decide)
            refine g_aald hC 5 rfl (hx0.Mp rfl).1 (hx0.Mp rfl).2 (qj) rfl (show qj < 10 by omega) (by decide) dX9_copy_30 ?_
            refine g_val (w := .ref (b.1 6 (wh S qj))) (congrArg va_rf hp0_q) ?_
            refine g_ifnonnull (o := some (b.1 6 (wh S qj))) (tgt := 40) hC dX9_copy_31 (by decide) (fun a31 h31 => ?_) (fun h31 => ?_)
            · refine g_aload_n hC dX9_copy_40 rfl 0 rfl (Or.inr ⟨_, rfl⟩) ?_
              refine g_get hC (by decide +kernel) rfl (hx0.M hM).1 (hx0.M hM).2 0 (by decide) (by decide +kernel) (Or.inl rfl) rfl dX9_copy_41 ?_
              refine g_iload_n hC dX9_copy_44 rfl 1 rfl ?_
              refine g_aald hC 5 rfl (hx0.Mp rfl).1 (hx0.Mp rfl).2 (pj) rfl (show pj < 10 by omega) (by decide) dX9_copy_45 ?_
              refine g_val (w := .ref (b.1 6 (wh S pj))) (congrArg va_rf hp0_p) ?_
              refine g_S (As := [.ref (b.1 6 (wh S pj))]) (st := []) hC 1 dX9_copy_46 gX9_copy_X9_asRow rfl (by decide +kernel) ⟨Nat.le_of_ble_eq_true rfl, Nat.le_of_ble_eq_true rfl⟩ rfl (Nat.le_of_ble_eq_true rfl) ⟨Nat.le_of_ble_eq_true rfl, Nat.le_of_ble_eq_true rfl⟩ (c2 := 0) (s2 := 0) rfl rfl (x_asRow (some (b.1 6 (wh S pj))) 4 (Or.inr ⟨_, 5, _, rfl, (hx0.T hw_p rfl hb_p), Or.inr (Or.inr (Or.inr (Or.inl ⟨rfl, rfl⟩)))⟩)) ?_
              refine g_astore (lv' := [(6, .null), (0, .ref M), (1, .int (nI pj)), (2, .int a), (3, .int (nI qj)), (4, .int e), (5, .int n)]) hC dX9_copy_49 (by decide) rfl (Or.inl rfl) ?_
              refine g_aload_n hC dX9_copy_51 rfl 1 rfl (Or.inr ⟨_, rfl⟩) ?_
              refine g_get hC (by decide +kernel) rfl (hx0.M hM).1 (hx0.M hM).2 0 (by decide) (by decide +kernel) (Or.inl rfl) rfl dX9_copy_52 ?_
              refine g_iload_n hC dX9_copy_55 rfl 4 rfl ?_
              refine g_aald hC 5 rfl (hx0.Mp rfl).1 (hx0.Mp rfl).2 (qj) rfl (show qj < 10 by omega) (by decide) dX9_copy_56 ?_
              refine g_val (w := .ref (b.1 6 (wh S qj))) (congrArg va_rf hp0_q) ?_
              refine g_S (As := [.ref (b.1 6 (wh S qj))]) (st := []) hC 1 dX9_copy_57 gX9_copy_X9_asRow rfl (by decide +kernel) ⟨Nat.le_of_ble_eq_true rfl, Nat.le_of_ble_eq_true rfl⟩ rfl (Nat.le_of_ble_eq_true rfl) ⟨Nat.le_of_ble_eq_true rfl, Nat.le_of_ble_eq_true rfl⟩ (c2 := 0) (s2 := 0) rfl rfl (x_asRow (some (b.1 6 (wh S qj))) 5 (Or.inr ⟨_, 1, _, rfl, (hx0.K hw_q rfl hb_q), Or.inr (Or.inr (Or.inr (Or.inr ⟨rfl, rfl⟩)))⟩)) ?_
              refine g_astore (lv' := [(7, .null), (6, .null), (0, .ref M), (1, .int (nI pj)), (2, .int a), (3, .int (nI qj)), (4, .int e), (5, .int n)]) hC dX9_copy_60 (by decide) rfl (Or.inl rfl) ?_
              refine g_aload hC dX9_copy_62 1 rfl (Or.inl rfl) ?_
              refine g_ifnull (o := none) (tgt := 85) hC dX9_copy_64 (by decide) (fun h64 => ?_) (fun a64 h64 => ?_)
              · refine g_aload_n hC dX9_copy_85 rfl 2 rfl (Or.inr ⟨_, rfl⟩) ?_
                refine g_iconst hC dX9_copy_86 (v := nI 4) (by decide) ?_
                refine g_Vx (As := [.int (nI 4)]) (st := []) hC 1 dX9_copy_87 rfl (hx0.M hM).1 (hx0.M hM).2 gX9_copy_X9_failed rfl (by decide +kernel) ⟨Nat.le_of_ble_eq_true rfl, Nat.le_of_ble_eq_true rfl⟩ rfl (Nat.le_of_ble_eq_true rfl) ⟨(Nat.le_of_ble_eq_true rfl), (Nat.le_of_ble_eq_true rfl)⟩ (c2 := 0) (s2 := 0) rfl rfl (x_failed hx0 M hM 4) (fun v1 L1 f1 hp1 => ?_)
                obtain ⟨rfl, hx1⟩ := hp1
                show gW X vwCl 8 L1 f1 0 0 90 [(7, .null), (6, .null), (0, .ref M), (1, .int (nI pj)), (2, .int a), (3, .int (nI qj)), (4, .int e), (5, .int n)] [.int (fA 4)]
                have hE : s_copy S (nI pj) a (nI qj) e n = (fA 4, (aSc (thS S) 1 4)) := by
                  unfold s_copy
                  rw [if_pos h4, if_pos h11, hpl_p, hpl_q, if_neg (show ¬ (kd S pj = 0 ∨ kd S qj = 0) by omega), if_pos (show 3 < kd S pj ∨ kd S pj ≠ kd S qj by omega)] <;> rfl
                refine g_widen (c2 := 1) (s2 := 16) (Nat.le_of_ble_eq_true rfl) (Nat.le_of_ble_eq_true rfl) ?_
                exact g_iret hC hR dX9_copy_90 ⟨b, congrArg (fun z => some (Value.int (Prod.fst z))) hE.symm, by rw [hE]; exact hx1, xG.rf⟩
              · cases h64
            · cases h31
      · have hw_p : wh S pj < S.1 13 := hI.wt hpj (by omega)
        have hb_p : S.2.1 14 (wh S pj) ≠ 0 := by have := ((hI.2.1 _ hpj).2.2.2.2.2 (by omega)).2; omega
        have hp0_p : plcF (thS S) b pj = some (b.1 6 (wh S pj)) := plc_k hpj hk_p (by decide)
        refine g_aald hC 5 rfl (hx0.Mp rfl).1 (hx0.Mp rfl).2 (pj) rfl (show pj < 10 by omega) (by decide) dX9_copy_21 ?_
        refine g_val (w := .ref (b.1 6 (wh S pj))) (congrArg va_rf hp0_p) ?_
        refine g_ifnull (o := some (b.1 6 (wh S pj))) (tgt := 34) hC dX9_copy_22 (by decide) (fun h22 => ?_) (fun a22 h22 => ?_)
        · cases h22
        · refine g_aload_n hC dX9_copy_25 rfl 0 rfl (Or.inr ⟨_, rfl⟩) ?_
          refine g_get hC (by decide +kernel) rfl (hx0.M hM).1 (hx0.M hM).2 0 (by decide) (by decide +kernel) (Or.inl rfl) rfl dX9_copy_26 ?_
          refine g_iload_n hC dX9_copy_29 rfl 3 rfl ?_
          have h5_q := hI.k5 hqj
          rcases (show kd S qj = 0 ∨ kd S qj = 1 ∨ kd S qj = 2 ∨ kd S qj = 3 ∨ kd S qj = 4 ∨ kd S qj = 5 by omega) with hk_q | hk_q | hk_q | hk_q | hk_q | hk_q
          · have hp0_q : plcF (thS S) b qj = none := plc_0 hqj hk_q
            refine g_aald hC 5 rfl (hx0.Mp rfl).1 (hx0.Mp rfl).2 (qj) rfl (show qj < 10 by omega) (by decide) dX9_copy_30 ?_
            refine g_val (w := .null) (congrArg va_rf hp0_q) ?_
            refine g_ifnonnull (o := none) (tgt := 40) hC dX9_copy_31 (by decide) (fun a31 h31 => ?_) (fun h31 => ?_)
            · cases h31
            · refine g_aload_n hC dX9_copy_34 rfl 0 rfl (Or.inr ⟨_, rfl⟩) ?_
              refine g_iconst hC dX9_copy_35 (v := nI 1) (by decide) ?_
              refine g_Vx (As := [.int (nI 1)]) (st := []) hC 1 dX9_copy_36 rfl (hx0.M hM).1 (hx0.M hM).2 gX9_copy_X9_failed rfl (by decide +kernel) ⟨Nat.le_of_ble_eq_true rfl, Nat.le_of_ble_eq_true rfl⟩ rfl (Nat.le_of_ble_eq_true rfl) ⟨(Nat.le_of_ble_eq_true rfl), (Nat.le_of_ble_eq_true rfl)⟩ (c2 := 0) (s2 := 0) rfl rfl (x_failed hx0 M hM 1) (fun v1 L1 f1 hp1 => ?_)
              obtain ⟨rfl, hx1⟩ := hp1
              show gW X vwCl 8 L1 f1 0 0 39 [(0, .ref M), (1, .int (nI pj)), (2, .int a), (3, .int (nI qj)), (4, .int e), (5, .int n)] [.int (fA 1)]
              have hE : s_copy S (nI pj) a (nI qj) e n = (fA 1, (aSc (thS S) 1 1)) := by
                unfold s_copy
                rw [if_pos h4, if_pos h11, hpl_p, hpl_q, if_pos (Or.inr hk_q)] <;> rfl
              refine g_widen (c2 := 1) (s2 := 16) (Nat.le_of_ble_eq_true rfl) (Nat.le_of_ble_eq_true rfl) ?_
              exact g_iret hC hR dX9_copy_39 ⟨b, congrArg (fun z => some (Value.int (Prod.fst z))) hE.symm, by rw [hE]; exact hx1, xG.rf⟩
          · have hw_q : wh S qj < S.1 4 := hI.wl hqj hk_q
            have hp0_q : plcF (thS S) b qj = some (b.1 0 (wh S qj)) := plc_k hqj hk_q (by decide)
            refine g_aald hC 5 rfl (hx0.Mp rfl).1 (hx0.Mp rfl).2 (qj) rfl (show qj < 10 by omega) (by decide) dX9_copy_30 ?_
            refine g_val (w := .ref (b.1 0 (wh S qj))) (congrArg va_rf hp0_q) ?_
            refine g_ifnonnull (o := some (b.1 0 (wh S qj))) (tgt := 40) hC dX9_copy_31 (by decide) (fun a31 h31 => ?_) (fun h31 => ?_)
            · refine g_aload_n hC dX9_copy_40 rfl 0 rfl (Or.inr ⟨_, rfl⟩) ?_
              refine g_get hC (by decide +kernel) rfl (hx0.M hM).1 (hx0.M hM).2 0 (by decide) (by decide +kernel) (Or.inl rfl) rfl dX9_copy_41 ?_
              refine g_iload_n hC dX9_copy_44 rfl 1 rfl ?_
              refine g_aald hC 5 rfl (hx0.Mp rfl).1 (hx0.Mp rfl).2 (pj) rfl (show pj < 10 by omega) (by decide) dX9_copy_45 ?_
              refine g_val (w := .ref (b.1 6 (wh S pj))) (congrArg va_rf hp0_p) ?_
              refine g_S (As := [.ref (b.1 6 (wh S pj))]) (st := []) hC 1 dX9_copy_46 gX9_copy_X9_asRow rfl (by decide +kernel) ⟨Nat.le_of_ble_eq_true rfl, Nat.le_of_ble_eq_true rfl⟩ rfl (Nat.le_of_ble_eq_true rfl) ⟨Nat.le_of_ble_eq_true rfl, Nat.le_of_ble_eq_true rfl⟩ (c2 := 0) (s2 := 0) rfl rfl (x_asRow (some (b.1 6 (wh S pj))) 5 (Or.inr ⟨_, 1, _, rfl, (hx0.K hw_p rfl hb_p), Or.inr (Or.inr (Or.inr (Or.inr ⟨rfl, rfl⟩)))⟩)) ?_
              refine g_astore (lv' := [(6, .null), (0, .ref M), (1, .int (nI pj)), (2, .int a), (3, .int (nI qj)), (4, .int e), (5, .int n)]) hC dX9_copy_49 (by decide) rfl (Or.inl rfl) ?_
              refine g_aload_n hC dX9_copy_51 rfl 1 rfl (Or.inr ⟨_, rfl⟩) ?_
              refine g_get hC (by decide +kernel) rfl (hx0.M hM).1 (hx0.M hM).2 0 (by decide) (by decide +kernel) (Or.inl rfl) rfl dX9_copy_52 ?_
              refine g_iload_n hC dX9_copy_55 rfl 4 rfl ?_
              refine g_aald hC 5 rfl (hx0.Mp rfl).1 (hx0.Mp rfl).2 (qj) rfl (show qj < 10 by omega) (by decide) dX9_copy_56 ?_
              refine g_val (w := .ref (b.1 0 (wh S qj))) (congrArg va_rf hp0_q) ?_
              refine g_S (As := [.ref (b.1 0 (wh S qj))]) (st := []) hC 1 dX9_copy_57 gX9_copy_X9_asRow rfl (by decide +kernel) ⟨Nat.le_of_ble_eq_true rfl, Nat.le_of_ble_eq_true rfl⟩ rfl (Nat.le_of_ble_eq_true rfl) ⟨Nat.le_of_ble_eq_true rfl, Nat.le_of_ble_eq_true rfl⟩ (c2 := 0) (s2 := 0) rfl rfl (x_asRow (some (b.1 0 (wh S qj))) 1 (Or.inr ⟨_, 0, _, rfl, (hx0.B hw_q rfl), Or.inl ⟨rfl, rfl⟩⟩)) ?_
              refine g_astore (lv' := [(7, .ref (b.1 0 (wh S qj))), (6, .null), (0, .ref M), (1, .int (nI pj)), (2, .int a), (3, .int (nI qj)), (4, .int e), (5, .int n)]) hC dX9_copy_60 (by decide) rfl (Or.inr ⟨_, rfl⟩) ?_
              refine g_aload hC dX9_copy_62 1 rfl (Or.inl rfl) ?_
              refine g_ifnull (o := none) (tgt := 85) hC dX9_copy_64 (by decide) (fun h64 => ?_) (fun a64 h64 => ?_)
              · refine g_aload_n hC dX9_copy_85 rfl 2 rfl (Or.inr ⟨_, rfl⟩) ?_
                refine g_iconst hC dX9_copy_86 (v := nI 4) (by decide) ?_
                refine g_Vx (As := [.int (nI 4)]) (st := []) hC 1 dX9_copy_87 rfl (hx0.M hM).1 (hx0.M hM).2 gX9_copy_X9_failed rfl (by decide +kernel) ⟨Nat.le_of_ble_eq_true rfl, Nat.le_of_ble_eq_true rfl⟩ rfl (Nat.le_of_ble_eq_true rfl) ⟨(Nat.le_of_ble_eq_true rfl), (Nat.le_of_ble_eq_true rfl)⟩ (c2 := 0) (s2 := 0) rfl rfl (x_failed hx0 M hM 4) (fun v1 L1 f1 hp1 => ?_)
                obtain ⟨rfl, hx1⟩ := hp1
                show gW X vwCl 8 L1 f1 0 0 90 [(7, .ref (b.1 0 (wh S qj))), (6, .null), (0, .ref M), (1, .int (nI pj)), (2, .int a), (3, .int (nI qj)), (4, .int e), (5, .int n)] [.int (fA 4)]
                have hE : s_copy S (nI pj) a (nI qj) e n = (fA 4, (aSc (thS S) 1 4)) := by
                  unfold s_copy
                  rw [if_pos h4, if_pos h11, hpl_p, hpl_q, if_neg (show ¬ (kd S pj = 0 ∨ kd S qj = 0) by omega), if_pos (show 3 < kd S pj ∨ kd S pj ≠ kd S qj by omega)] <;> rfl
                refine g_widen (c2 := 1) (s2 := 16) (Nat.le_of_ble_eq_true rfl) (Nat.le_of_ble_eq_true rfl) ?_
                exact g_iret hC hR dX9_copy_90 ⟨b, congrArg (fun z => some (Value.int (Prod.fst z))) hE.symm, by rw [hE]; exact hx1, xG.rf⟩
              · cases h64
            · cases h31
          · have hw_q : wh S qj < S.1 7 := hI.ws hqj hk_q
            have hp0_q : plcF (thS S) b qj = some (b.1 2 (wh S qj)) := plc_k hqj hk_q (by decide)
            refine g_aald hC 5 rfl (hx0.Mp rfl).1 (hx0.Mp rfl).2 (qj) rfl (show qj < 10 by omega) (by decide) dX9_copy_30 ?_
            refine g_val (w := .ref (b.1 2 (wh S qj))) (congrArg va_rf hp0_q) ?_
            refine g_ifnonnull (o := some (b.1 2 (wh S qj))) (tgt := 40) hC dX9_copy_31 (by decide) (fun a31 h31 => ?_) (fun h31 => ?_)
            · refine g_aload_n hC dX9_copy_40 rfl 0 rfl (Or.inr ⟨_, rfl⟩) ?_
              refine g_get hC (by decide +kernel) rfl (hx0.M hM).1 (hx0.M hM).2 0 (by decide) (by decide +kernel) (Or.inl rfl) rfl dX9_copy_41 ?_
              refine g_iload_n hC dX9_copy_44 rfl 1 rfl ?_
              refine g_aald hC 5 rfl (hx0.Mp rfl).1 (hx0.Mp rfl).2 (pj) rfl (show pj < 10 by omega) (by decide) dX9_copy_45 ?_
              refine g_val (w := .ref (b.1 6 (wh S pj))) (congrArg va_rf hp0_p) ?_
              refine g_S (As := [.ref (b.1 6 (wh S pj))]) (st := []) hC 1 dX9_copy_46 gX9_copy_X9_asRow rfl (by decide +kernel) ⟨Nat.le_of_ble_eq_true rfl, Nat.le_of_ble_eq_true rfl⟩ rfl (Nat.le_of_ble_eq_true rfl) ⟨Nat.le_of_ble_eq_true rfl, Nat.le_of_ble_eq_true rfl⟩ (c2 := 0) (s2 := 0) rfl rfl (x_asRow (some (b.1 6 (wh S pj))) 5 (Or.inr ⟨_, 1, _, rfl, (hx0.K hw_p rfl hb_p), Or.inr (Or.inr (Or.inr (Or.inr ⟨rfl, rfl⟩)))⟩)) ?_
              refine g_astore (lv' := [(6, .null), (0, .ref M), (1, .int (nI pj)), (2, .int a), (3, .int (nI qj)), (4, .int e), (5, .int n)]) hC dX9_copy_49 (by decide) rfl (Or.inl rfl) ?_
              refine g_aload_n hC dX9_copy_51 rfl 1 rfl (Or.inr ⟨_, rfl⟩) ?_
              refine g_get hC (by decide +kernel) rfl (hx0.M hM).1 (hx0.M hM).2 0 (by decide) (by decide +kernel) (Or.inl rfl) rfl dX9_copy_52 ?_
              refine g_iload_n hC dX9_copy_55 rfl 4 rfl ?_
              refine g_aald hC 5 rfl (hx0.Mp rfl).1 (hx0.Mp rfl).2 (qj) rfl (show qj < 10 by omega) (by decide) dX9_copy_56 ?_
              refine g_val (w := .ref (b.1 2 (wh S qj))) (congrArg va_rf hp0_q) ?_
              refine g_S (As := [.ref (b.1 2 (wh S qj))]) (st := []) hC 1 dX9_copy_57 gX9_copy_X9_asRow rfl (by decide +kernel) ⟨Nat.le_of_ble_eq_true rfl, Nat.le_of_ble_eq_true rfl⟩ rfl (Nat.le_of_ble_eq_true rfl) ⟨Nat.le_of_ble_eq_true rfl, Nat.le_of_ble_eq_true rfl⟩ (c2 := 0) (s2 := 0) rfl rfl (x_asRow (some (b.1 2 (wh S qj))) 2 (Or.inr ⟨_, 4, _, rfl, (hx0.G hw_q rfl), Or.inr (Or.inl ⟨rfl, rfl⟩)⟩)) ?_
              refine g_astore (lv' := [(7, .ref (b.1 2 (wh S qj))), (6, .null), (0, .ref M), (1, .int (nI pj)), (2, .int a), (3, .int (nI qj)), (4, .int e), (5, .int n)]) hC dX9_copy_60 (by decide) rfl (Or.inr ⟨_, rfl⟩) ?_
              refine g_aload hC dX9_copy_62 1 rfl (Or.inl rfl) ?_
              refine g_ifnull (o := none) (tgt := 85) hC dX9_copy_64 (by decide) (fun h64 => ?_) (fun a64 h64 => ?_)
              · refine g_aload_n hC dX9_copy_85 rfl 2 rfl (Or.inr ⟨_, rfl⟩) ?_
                refine g_iconst hC dX9_copy_86 (v := nI 4) (by decide) ?_
                refine g_Vx (As := [.int (nI 4)]) (st := []) hC 1 dX9_copy_87 rfl (hx0.M hM).1 (hx0.M hM).2 gX9_copy_X9_failed rfl (by decide +kernel) ⟨Nat.le_of_ble_eq_true rfl, Nat.le_of_ble_eq_true rfl⟩ rfl (Nat.le_of_ble_eq_true rfl) ⟨(Nat.le_of_ble_eq_true rfl), (Nat.le_of_ble_eq_true rfl)⟩ (c2 := 0) (s2 := 0) rfl rfl (x_failed hx0 M hM 4) (fun v1 L1 f1 hp1 => ?_)
                obtain ⟨rfl, hx1⟩ := hp1
                show gW X vwCl 8 L1 f1 0 0 90 [(7, .ref (b.1 2 (wh S qj))), (6, .null), (0, .ref M), (1, .int (nI pj)), (2, .int a), (3, .int (nI qj)), (4, .int e), (5, .int n)] [.int (fA 4)]
                have hE : s_copy S (nI pj) a (nI qj) e n = (fA 4, (aSc (thS S) 1 4)) := by
                  unfold s_copy
                  rw [if_pos h4, if_pos h11, hpl_p, hpl_q, if_neg (show ¬ (kd S pj = 0 ∨ kd S qj = 0) by omega), if_pos (show 3 < kd S pj ∨ kd S pj ≠ kd S qj by omega)] <;> rfl
                refine g_widen (c2 := 1) (s2 := 16) (Nat.le_of_ble_eq_true rfl) (Nat.le_of_ble_eq_true rfl) ?_
                exact g_iret hC hR dX9_copy_90 ⟨b, congrArg (fun z => some (Value.int (Prod.fst z))) hE.symm, by rw [hE]; exact hx1, xG.rf⟩
              · cases h64
            · cases h31
          · have hw_q : wh S qj < S.1 10 := hI.wr hqj hk_q
            have hp0_q : plcF (thS S) b qj = some (b.1 4 (wh S qj)) := plc_k hqj hk_q (by decide)
            refine g_aald hC 5 rfl (hx0.Mp rfl).1 (hx0.Mp rfl).2 (qj) rfl (show qj < 10 by omega) (by decide) dX9_copy_30 ?_
            refine g_val (w := .ref (b.1 4 (wh S qj))) (congrArg va_rf hp0_q) ?_
            refine g_ifnonnull (o := some (b.1 4 (wh S qj))) (tgt := 40) hC dX9_copy_31 (by decide) (fun a31 h31 => ?_) (fun h31 => ?_)
            · refine g_aload_n hC dX9_copy_40 rfl 0 rfl (Or.inr ⟨_, rfl⟩) ?_
              refine g_get hC (by decide +kernel) rfl (hx0.M hM).1 (hx0.M hM).2 0 (by decide) (by decide +kernel) (Or.inl rfl) rfl dX9_copy_41 ?_
              refine g_iload_n hC dX9_copy_44 rfl 1 rfl ?_
              refine g_aald hC 5 rfl (hx0.Mp rfl).1 (hx0.Mp rfl).2 (pj) rfl (show pj < 10 by omega) (by decide) dX9_copy_45 ?_
              refine g_val (w := .ref (b.1 6 (wh S pj))) (congrArg va_rf hp0_p) ?_
              refine g_S (As := [.ref (b.1 6 (wh S pj))]) (st := []) hC 1 dX9_copy_46 gX9_copy_X9_asRow rfl (by decide +kernel) ⟨Nat.le_of_ble_eq_true rfl, Nat.le_of_ble_eq_true rfl⟩ rfl (Nat.le_of_ble_eq_true rfl) ⟨Nat.le_of_ble_eq_true rfl, Nat.le_of_ble_eq_true rfl⟩ (c2 := 0) (s2 := 0) rfl rfl (x_asRow (some (b.1 6 (wh S pj))) 5 (Or.inr ⟨_, 1, _, rfl, (hx0.K hw_p rfl hb_p), Or.inr (Or.inr (Or.inr (Or.inr ⟨rfl, rfl⟩)))⟩)) ?_
              refine g_astore (lv' := [(6, .null), (0, .ref M), (1, .int (nI pj)), (2, .int a), (3, .int (nI qj)), (4, .int e), (5, .int n)]) hC dX9_copy_49 (by decide) rfl (Or.inl rfl) ?_
              refine g_aload_n hC dX9_copy_51 rfl 1 rfl (Or.inr ⟨_, rfl⟩) ?_
              refine g_get hC (by decide +kernel) rfl (hx0.M hM).1 (hx0.M hM).2 0 (by decide) (by decide +kernel) (Or.inl rfl) rfl dX9_copy_52 ?_
              refine g_iload_n hC dX9_copy_55 rfl 4 rfl ?_
              refine g_aald hC 5 rfl (hx0.Mp rfl).1 (hx0.Mp rfl).2 (qj) rfl (show qj < 10 by omega) (by decide) dX9_copy_56 ?_
              refine g_val (w := .ref (b.1 4 (wh S qj))) (congrArg va_rf hp0_q) ?_
              refine g_S (As := [.ref (b.1 4 (wh S qj))]) (st := []) hC 1 dX9_copy_57 gX9_copy_X9_asRow rfl (by decide +kernel) ⟨Nat.le_of_ble_eq_true rfl, Nat.le_of_ble_eq_true rfl⟩ rfl (Nat.le_of_ble_eq_true rfl) ⟨Nat.le_of_ble_eq_true rfl, Nat.le_of_ble_eq_true rfl⟩ (c2 := 0) (s2 := 0) rfl rfl (x_asRow (some (b.1 4 (wh S qj))) 3 (Or.inr ⟨_, 3, _, rfl, (hx0.W hw_q rfl), Or.inr (Or.inr (Or.inl ⟨rfl, rfl⟩))⟩)) ?_
              refine g_astore (lv' := [(7, .ref (b.1 4 (wh S qj))), (6, .null), (0, .ref M), (1, .int (nI pj)), (2, .int a), (3, .int (nI qj)), (4, .int e), (5, .int n)]) hC dX9_copy_60 (by decide) rfl (Or.inr ⟨_, rfl⟩) ?_
              refine g_aload hC dX9_copy_62 1 rfl (Or.inl rfl) ?_
              refine g_ifnull (o := none) (tgt := 85) hC dX9_copy_64 (by decide) (fun h64 => ?_) (fun a64 h64 => ?_)
              · refine g_aload_n hC dX9_copy_85 rfl 2 rfl (Or.inr ⟨_, rfl⟩) ?_
                refine g_iconst hC dX9_copy_86 (v := nI 4) (by decide) ?_
                refine g_Vx (As := [.int (nI 4)]) (st := []) hC 1 dX9_copy_87 rfl (hx0.M hM).1 (hx0.M hM).2 gX9_copy_X9_failed rfl (by decide +kernel) ⟨Nat.le_of_ble_eq_true rfl, Nat.le_of_ble_eq_true rfl⟩ rfl (Nat.le_of_ble_eq_true rfl) ⟨(Nat.le_of_ble_eq_true rfl), (Nat.le_of_ble_eq_true rfl)⟩ (c2 := 0) (s2 := 0) rfl rfl (x_failed hx0 M hM 4) (fun v1 L1 f1 hp1 => ?_)
                obtain ⟨rfl, hx1⟩ := hp1
                show gW X vwCl 8 L1 f1 0 0 90 [(7, .ref (b.1 4 (wh S qj))), (6, .null), (0, .ref M), (1, .int (nI pj)), (2, .int a), (3, .int (nI qj)), (4, .int e), (5, .int n)] [.int (fA 4)]
                have hE : s_copy S (nI pj) a (nI qj) e n = (fA 4, (aSc (thS S) 1 4)) := by
                  unfold s_copy
                  rw [if_pos h4, if_pos h11, hpl_p, hpl_q, if_neg (show ¬ (kd S pj = 0 ∨ kd S qj = 0) by omega), if_pos (show 3 < kd S pj ∨ kd S pj ≠ kd S qj by omega)] <;> rfl
                refine g_widen (c2 := 1) (s2 := 16) (Nat.le_of_ble_eq_true rfl) (Nat.le_of_ble_eq_true rfl) ?_
                exact g_iret hC hR dX9_copy_90 ⟨b, congrArg (fun z => some (Value.int (Prod.fst z))) hE.symm, by rw [hE]; exact hx1, xG.rf⟩
              · cases h64
            · cases h31
          · have hw_q : wh S qj < S.1 13 := hI.wt hqj (by omega)
            have hb_q : S.2.1 14 (wh S qj) = 0 := by have := ((hI.2.1 _ hqj).2.2.2.2.2 (by omega)).2; omega
            have hp0_q : plcF (thS S) b qj = some (b.1 6 (wh S qj)) := plc_k hqj hk_q (by decide)
            refine g_aald hC 5 rfl (hx0.Mp rfl).1 (hx0.Mp rfl).2 (qj) rfl (show qj < 10 by omega) (by decide) dX9_copy_30 ?_
            refine g_val (w := .ref (b.1 6 (wh S qj))) (congrArg va_rf hp0_q) ?_
            refine g_ifnonnull (o := some (b.1 6 (wh S qj))) (tgt := 40) hC dX9_copy_31 (by decide) (fun a31 h31 => ?_) (fun h31 => ?_)
            · refine g_aload_n hC dX9_copy_40 rfl 0 rfl (Or.inr ⟨_, rfl⟩) ?_
              refine g_get hC (by decide +kernel) rfl (hx0.M hM).1 (hx0.M hM).2 0 (by decide) (by decide +kernel) (Or.inl rfl) rfl dX9_copy_41 ?_
              refine g_iload_n hC dX9_copy_44 rfl 1 rfl ?_
              refine g_aald hC 5 rfl (hx0.Mp rfl).1 (hx0.Mp rfl).2 (pj) rfl (show pj < 10 by omega) (by decide) dX9_copy_45 ?_
              refine g_val (w := .ref (b.1 6 (wh S pj))) (congrArg va_rf hp0_p) ?_
              refine g_S (As := [.ref (b.1 6 (wh S pj))]) (st := []) hC 1 dX9_copy_46 gX9_copy_X9_asRow rfl (by decide +kernel) ⟨Nat.le_of_ble_eq_true rfl, Nat.le_of_ble_eq_true rfl⟩ rfl (Nat.le_of_ble_eq_true rfl) ⟨Nat.le_of_ble_eq_true rfl, Nat.le_of_ble_eq_true rfl⟩ (c2 := 0) (s2 := 0) rfl rfl (x_asRow (some (b.1 6 (wh S pj))) 5 (Or.inr ⟨_, 1, _, rfl, (hx0.K hw_p rfl hb_p), Or.inr (Or.inr (Or.inr (Or.inr ⟨rfl, rfl⟩)))⟩)) ?_
              refine g_astore (lv' := [(6, .null), (0, .ref M), (1, .int (nI pj)), (2, .int a), (3, .int (nI qj)), (4, .int e), (5, .int n)]) hC dX9_copy_49 (by decide) rfl (Or.inl rfl) ?_
              refine g_aload_n hC dX9_copy_51 rfl 1 rfl (Or.inr ⟨_, rfl⟩) ?_
              refine g_get hC (by decide +kernel) rfl (hx0.M hM).1 (hx0.M hM).2 0 (by decide) (by decide +kernel) (Or.inl rfl) rfl dX9_copy_52 ?_
              refine g_iload_n hC dX9_copy_55 rfl 4 rfl ?_
              refine g_aald hC 5 rfl (hx0.Mp rfl).1 (hx0.Mp rfl).2 (qj) rfl (show qj < 10 by omega) (by decide) dX9_copy_56 ?_
              refine g_val (w := .ref (b.1 6 (wh S qj))) (congrArg va_rf hp0_q) ?_
              refine g_S (As := [.ref (b.1 6 (wh S qj))]) (st := []) hC 1 dX9_copy_57 gX9_copy_X9_asRow rfl (by decide +kernel) ⟨Nat.le_of_ble_eq_true rfl, Nat.le_of_ble_eq_true rfl⟩ rfl (Nat.le_of_ble_eq_true rfl) ⟨Nat.le_of_ble_eq_true rfl, Nat.le_of_ble_eq_true rfl⟩ (c2 := 0) (s2 := 0) rfl rfl (x_asRow (some (b.1 6 (wh S qj))) 4 (Or.inr ⟨_, 5, _, rfl, (hx0.T hw_q rfl hb_q), Or.inr (Or.inr (Or.inr (Or.inl ⟨rfl, rfl⟩)))⟩)) ?_
              refine g_astore (lv' := [(7, .null), (6, .null), (0, .ref M), (1, .int (nI pj)), (2, .int a), (3, .int (nI qj)), (4, .int e), (5, .int n)]) hC dX9_copy_60 (by decide) rfl (Or.inl rfl) ?_
              refine g_aload hC dX9_copy_62 1 rfl (Or.inl rfl) ?_
              refine g_ifnull (o := none) (tgt := 85) hC dX9_copy_64 (by decide) (fun h64 => ?_) (fun a64 h64 => ?_)
              · refine g_aload_n hC dX9_copy_85 rfl 2 rfl (Or.inr ⟨_, rfl⟩) ?_
                refine g_iconst hC dX9_copy_86 (v := nI 4) (by decide) ?_
                refine g_Vx (As := [.int (nI 4)]) (st := []) hC 1 dX9_copy_87 rfl (hx0.M hM).1 (hx0.M hM).2 gX9_copy_X9_failed rfl (by decide +kernel) ⟨Nat.le_of_ble_eq_true rfl, Nat.le_of_ble_eq_true rfl⟩ rfl (Nat.le_of_ble_eq_true rfl) ⟨(Nat.le_of_ble_eq_true rfl), (Nat.le_of_ble_eq_true rfl)⟩ (c2 := 0) (s2 := 0) rfl rfl (x_failed hx0 M hM 4) (fun v1 L1 f1 hp1 => ?_)
                obtain ⟨rfl, hx1⟩ := hp1
                show gW X vwCl 8 L1 f1 0 0 90 [(7, .null), (6, .null), (0, .ref M), (1, .int (nI pj)), (2, .int a), (3, .int (nI qj)), (4, .int e), (5, .int n)] [.int (fA 4)]
                have hE : s_copy S (nI pj) a (nI qj) e n = (fA 4, (aSc (thS S) 1 4)) := by
                  unfold s_copy
                  rw [if_pos h4, if_pos h11, hpl_p, hpl_q, if_neg (show ¬ (kd S pj = 0 ∨ kd S qj = 0) by omega), if_pos (show 3 < kd S pj ∨ kd S pj ≠ kd S qj by omega)] <;> rfl
                refine g_widen (c2 := 1) (s2 := 16) (Nat.le_of_ble_eq_true rfl) (Nat.le_of_ble_eq_true rfl) ?_
                exact g_iret hC hR dX9_copy_90 ⟨b, congrArg (fun z => some (Value.int (Prod.fst z))) hE.symm, by rw [hE]; exact hx1, xG.rf⟩
              · cases h64
            · cases h31
          · have hw_q : wh S qj < S.1 13 := hI.wt hqj (by omega)
            have hb_q : S.2.1 14 (wh S qj) ≠ 0 := by have := ((hI.2.1 _ hqj).2.2.2.2.2 (by omega)).2; omega
            have hp0_q : plcF (thS S) b qj = some (b.1 6 (wh S qj)) := plc_k hqj hk_q (by decide)
            refine g_aald hC 5 rfl (hx0.Mp rfl).1 (hx0.Mp rfl).2 (qj) rfl (show qj < 10 by omega) (by decide) dX9_copy_30 ?_
            refine g_val (w := .ref (b.1 6 (wh S qj))) (congrArg va_rf hp0_q) ?_
            refine g_ifnonnull (o := some (b.1 6 (wh S qj))) (tgt := 40) hC dX9_copy_31 (by decide) (fun a31 h31 => ?_) (fun h31 => ?_)
            · refine g_aload_n hC dX9_copy_40 rfl 0 rfl (Or.inr ⟨_, rfl⟩) ?_
              refine g_get hC (by decide +kernel) rfl (hx0.M hM).1 (hx0.M hM).2 0 (by decide) (by decide +kernel) (Or.inl rfl) rfl dX9_copy_41 ?_
              refine g_iload_n hC dX9_copy_44 rfl 1 rfl ?_
              refine g_aald hC 5 rfl (hx0.Mp rfl).1 (hx0.Mp rfl).2 (pj) rfl (show pj < 10 by omega) (by decide) dX9_copy_45 ?_
              refine g_val (w := .ref (b.1 6 (wh S pj))) (congrArg va_rf hp0_p) ?_
              refine g_S (As := [.ref (b.1 6 (wh S pj))]) (st := []) hC 1 dX9_copy_46 gX9_copy_X9_asRow rfl (by decide +kernel) ⟨Nat.le_of_ble_eq_true rfl, Nat.le_of_ble_eq_true rfl⟩ rfl (Nat.le_of_ble_eq_true rfl) ⟨Nat.le_of_ble_eq_true rfl, Nat.le_of_ble_eq_true rfl⟩ (c2 := 0) (s2 := 0) rfl rfl (x_asRow (some (b.1 6 (wh S pj))) 5 (Or.inr ⟨_, 1, _, rfl, (hx0.K hw_p rfl hb_p), Or.inr (Or.inr (Or.inr (Or.inr ⟨rfl, rfl⟩)))⟩)) ?_
              refine g_astore (lv' := [(6, .null), (0, .ref M), (1, .int (nI pj)), (2, .int a), (3, .int (nI qj)), (4, .int e), (5, .int n)]) hC dX9_copy_49 (by decide) rfl (Or.inl rfl) ?_
              refine g_aload_n hC dX9_copy_51 rfl 1 rfl (Or.inr ⟨_, rfl⟩) ?_
              refine g_get hC (by decide +kernel) rfl (hx0.M hM).1 (hx0.M hM).2 0 (by decide) (by decide +kernel) (Or.inl rfl) rfl dX9_copy_52 ?_
              refine g_iload_n hC dX9_copy_55 rfl 4 rfl ?_
              refine g_aald hC 5 rfl (hx0.Mp rfl).1 (hx0.Mp rfl).2 (qj) rfl (show qj < 10 by omega) (by decide) dX9_copy_56 ?_
              refine g_val (w := .ref (b.1 6 (wh S qj))) (congrArg va_rf hp0_q) ?_
              refine g_S (As := [.ref (b.1 6 (wh S qj))]) (st := []) hC 1 dX9_copy_57 gX9_copy_X9_asRow rfl (by decide +kernel) ⟨Nat.le_of_ble_eq_true rfl, Nat.le_of_ble_eq_true rfl⟩ rfl (Nat.le_of_ble_eq_true rfl) ⟨Nat.le_of_ble_eq_true rfl, Nat.le_of_ble_eq_true rfl⟩ (c2 := 0) (s2 := 0) rfl rfl (x_asRow (some (b.1 6 (wh S qj))) 5 (Or.inr ⟨_, 1, _, rfl, (hx0.K hw_q rfl hb_q), Or.inr (Or.inr (Or.inr (Or.inr ⟨rfl, rfl⟩)))⟩)) ?_
              refine g_astore (lv' := [(7, .null), (6, .null), (0, .ref M), (1, .int (nI pj)), (2, .int a), (3, .int (nI qj)), (4, .int e), (5, .int n)]) hC dX9_copy_60 (by decide) rfl (Or.inl rfl) ?_
              refine g_aload hC dX9_copy_62 1 rfl (Or.inl rfl) ?_
              refine g_ifnull (o := none) (tgt := 85) hC dX9_copy_64 (by decide) (fun h64 => ?_) (fun a64 h64 => ?_)
              · refine g_aload_n hC dX9_copy_85 rfl 2 rfl (Or.inr ⟨_, rfl⟩) ?_
                refine g_iconst hC dX9_copy_86 (v := nI 4) (by decide) ?_
                refine g_Vx (As := [.int (nI 4)]) (st := []) hC 1 dX9_copy_87 rfl (hx0.M hM).1 (hx0.M hM).2 gX9_copy_X9_failed rfl (by decide +kernel) ⟨Nat.le_of_ble_eq_true rfl, Nat.le_of_ble_eq_true rfl⟩ rfl (Nat.le_of_ble_eq_true rfl) ⟨(Nat.le_of_ble_eq_true rfl), (Nat.le_of_ble_eq_true rfl)⟩ (c2 := 0) (s2 := 0) rfl rfl (x_failed hx0 M hM 4) (fun v1 L1 f1 hp1 => ?_)
                obtain ⟨rfl, hx1⟩ := hp1
                show gW X vwCl 8 L1 f1 0 0 90 [(7, .null), (6, .null), (0, .ref M), (1, .int (nI pj)), (2, .int a), (3, .int (nI qj)), (4, .int e), (5, .int n)] [.int (fA 4)]
                have hE : s_copy S (nI pj) a (nI qj) e n = (fA 4, (aSc (thS S) 1 4)) := by
                  unfold s_copy
                  rw [if_pos h4, if_pos h11, hpl_p, hpl_q, if_neg (show ¬ (kd S pj = 0 ∨ kd S qj = 0) by omega), if_pos (show 3 < kd S pj ∨ kd S pj ≠ kd S qj by omega)] <;> rfl
                refine g_widen (c2 := 1) (s2 := 16) (Nat.le_of_ble_eq_true rfl) (Nat.le_of_ble_eq_true rfl) ?_
                exact g_iret hC hR dX9_copy_90 ⟨b, congrArg (fun z => some (Value.int (Prod.fst z))) hE.symm, by rw [hE]; exact hx1, xG.rf⟩
              · cases h64
            · cases h31
    · refine g_iconst hC dX9_copy_14 (v := (-1)) (by decide) ?_
      have hE : s_copy S (nI pj) a q e n = ((-1), (thS S)) := by
        unfold s_copy
        rw [if_pos h4, if_neg h11] <;> rfl
      refine g_widen (c2 := 1) (s2 := 16) (Nat.le_of_ble_eq_true rfl) (Nat.le_of_ble_eq_true rfl) ?_
      exact g_iret hC hR dX9_copy_15 ⟨b, congrArg (fun z => some (Value.int (Prod.fst z))) hE.symm, by rw [hE]; exact hx0, xG.rf⟩
end Y4
