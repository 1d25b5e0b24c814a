theorem xF.aNr12 {S : aS} {base len : Nat} {g : Nat → Nat} (h : xF S) (hg : ∀ i, i < len → g i ≤ S.1 4) : xF (aNr S 12 base len g) := by
  refine ⟨h.1, fun r hr i hi => ?_, h.2.2.1, h.2.2.2⟩
  show (if base ≤ 16 * r + i ∧ 16 * r + i < base + len then g (16 * r + i - base) else S.2.1 12 (16 * r + i)) ≤ S.1 4
  split
  · exact hg _ (by omega)
  · exact h.2.1 r hr i hi
theorem xF.newW0 {S : aS} {n : Nat} (h : xF S) (hl : ∀ r, r < S.1 10 → S.2.1 11 r ≤ 16) (hn : n ≤ 16) : xF (aSc (newRw S n (fun _ => 0)) 10 (S.1 10 + 1)) := by
  refine ⟨fun j hj h0 => ?_, fun r hr i hi => ?_, h.2.2.1, h.2.2.2⟩
  · have z := h.1 j hj h0
    exact z.cs (P := fun k r => xV (aSc (newRw S n (fun _ => 0)) 10 (S.1 10 + 1)) k r) (fun h => h) (fun h => h) (fun h => h) (fun h => h) (fun h => Nat.lt_succ_of_lt h) (fun h => Nat.lt_succ_of_lt h) (fun h => h) (fun h => h) (fun h => h) (show 0 < 4 by decide) (show 1 < 4 by decide) (show 2 < 4 by decide) (show 3 < 4 by decide) (show 0 < 1 by decide)
  · have hr : r < S.1 10 + 1 := hr
    have hi : i < va_up (S.2.1 11) (S.1 10) n r := hi
    show (if 16 * S.1 10 ≤ 16 * r + i ∧ 16 * r + i < 16 * S.1 10 + 16 then 0 else S.2.1 12 (16 * r + i)) ≤ S.1 4
    by_cases e : r = S.1 10
    · subst e
      rw [va_up_self] at hi
      rw [if_pos (by omega)]
      omega
    · rw [va_up_ne _ _ e] at hi
      have := hl r (by omega)
      rw [if_neg (by omega)]
      exact h.2.1 r (by omega) i hi
theorem xA.tw {S : aS} {r : Nat} (hl : ∀ r, r < S.1 10 → S.2.1 11 r ≤ 16) (hr : r < S.1 10) : xA (aNr (aSc (newRw S (S.2.1 11 r) (fun _ => 0)) 10 (S.1 10 + 1)) 12 (16 * S.1 10 + 0) (S.2.1 11 r) (fun i => (aSc (newRw S (S.2.1 11 r) (fun _ => 0)) 10 (S.1 10 + 1)).2.1 12 (16 * r + (0 + i)))) (aSc (newRw S (S.2.1 11 r) (fun k => S.2.1 12 (16 * r + k))) 10 (S.1 10 + 1)) := by
  refine ⟨⟨rfl, rfl, rfl, rfl⟩, fun _ _ => ⟨rfl, fun _ _ => rfl⟩, fun _ _ => ⟨rfl, fun _ _ => rfl⟩, fun r9 hr9 => ⟨rfl, fun i hi => ?_⟩, fun _ _ => ⟨rfl, rfl, rfl, rfl, rfl, fun _ _ => rfl, fun _ _ => rfl⟩, fun _ _ => rfl, fun _ _ => ⟨rfl, rfl⟩⟩
  have hr9 : r9 < S.1 10 + 1 := hr9
  have hi : i < va_up (S.2.1 11) (S.1 10) (S.2.1 11 r) r9 := hi
  have hlr := hl r hr
  show (if 16 * S.1 10 ≤ 16 * r9 + i ∧ 16 * r9 + i < 16 * S.1 10 + 16 then S.2.1 12 (16 * r + (16 * r9 + i - 16 * S.1 10)) else S.2.1 12 (16 * r9 + i)) = (if 16 * S.1 10 + 0 ≤ 16 * r9 + i ∧ 16 * r9 + i < 16 * S.1 10 + 0 + S.2.1 11 r then (if 16 * S.1 10 ≤ 16 * r + (0 + (16 * r9 + i - (16 * S.1 10 + 0))) ∧ 16 * r + (0 + (16 * r9 + i - (16 * S.1 10 + 0))) < 16 * S.1 10 + 16 then 0 else S.2.1 12 (16 * r + (0 + (16 * r9 + i - (16 * S.1 10 + 0))))) else (if 16 * S.1 10 ≤ 16 * r9 + i ∧ 16 * r9 + i < 16 * S.1 10 + 16 then 0 else S.2.1 12 (16 * r9 + i)))
  by_cases e : r9 = S.1 10
  · subst e
    rw [va_up_self] at hi
    rw [if_pos (by omega), if_pos (by omega), if_neg (by omega)]
    rw [show 16 * S.1 10 + i - 16 * S.1 10 = 0 + (16 * S.1 10 + i - (16 * S.1 10 + 0)) by omega]
  · rw [va_up_ne _ _ e] at hi
    have := hl r9 (by omega)
    rw [if_neg (by omega), if_neg (by omega), if_neg (by omega)]
section X6b
variable {l : Launch} {D : va_G} {cy adK adV : Nat → Nat} {L : List Nat} {f : Nat → va_E}
set_option maxRecDepth 20000 in
set_option maxHeartbeats 4000000 in
theorem x_newTwin_R {S : aS} {b : xB} (hx : xR cy S b L f) (hI : aI S) (r A : Nat) (hr : r < S.1 10) (hA : b.1 4 r = A) : gCt l D vwCl (gKK D cy adK adV) yX5_newTwin wsX5_newTwin { frames := 4, cells := 3, slots := 33, locals := 81 } [.ref A] L f (xP cy S b ((aSc (newRw S (S.2.1 11 r) (fun k => S.2.1 12 (16 * r + k))) 10 (S.1 10 + 1))) (fun b9 => some (.ref (b9.1 4 (S.1 10))))) := by
  refine gCt.of gKK_ok (by decide) rfl rfl (fun X hC hR hnm => ?_)
  have hC : gC X l _ D vwCl (cyT cy) (gKK D cy adK adV) cX5_newTwin 2 wsX5_newTwin RX5 := hC
  show gW X vwCl 2 L f 0 0 0 [(0, .ref A)] []
  have hl : ∀ r, r < S.1 10 → S.2.1 11 r ≤ 16 := hI.2.2.2.2.1
  have hlr := hl r hr
  refine g_new hC (fs := [.null]) (by decide +kernel) tyX5 tyX5_ok (by decide +kernel) (by decide +kernel) (by decide +kernel) (ci := 3) rfl (fun j hj => by
    rcases (show j = 0 by omega) with rfl <;> rfl) (Nat.le_of_ble_eq_true rfl) (Nat.le_of_ble_eq_true rfl) dX5_newTwin_0 (fun q0 hq0 => ?_)
  refine g_wx (P := fun L9 f9 => xR cy S b L9 f9 ∧ xN cy S b L9 f9 q0 (.inr (3, [.null]))) ⟨hx.more hq0, xN.new hx hq0⟩ (fun L1 f1 hw1 => ?_)
  obtain ⟨hx1, hq0_1⟩ := hw1
  show gW X vwCl 2 L1 f1 1 1 3 [(0, .ref A)] [.ref q0]
  refine g_dup hC dX5_newTwin_3 rfl ?_
  refine g_aload_n hC dX5_newTwin_4 rfl 0 rfl (Or.inr ⟨_, rfl⟩) ?_
  refine g_get hC (by decide +kernel) rfl (hx1.W hr hA).1 (hx1.W hr hA).2 0 (by decide) (by decide +kernel) (Or.inl rfl) rfl dX5_newTwin_5 ?_
  refine g_alen hC 4 rfl (hx1.Wc hr rfl).1 (hx1.Wc hr rfl).2 dX5_newTwin_8 ?_
  refine g_newq hC (N := S.2.1 11 r) 4 rfl (by decide +kernel) gKK_B rfl (show S.2.1 11 r < 2 ^ 31 by omega) (show S.2.1 11 r * 4 ≤ 536870912 by omega) (Nat.le_of_ble_eq_true rfl) (show 1 + S.2.1 11 r ≤ 33 by omega) dX5_newTwin_9 (fun q9 hq9 => ?_)
  have hne_q0_q9 : q0 ≠ q9 := hq0_1.ne hq9
  refine g_wx (P := fun L9 f9 => xR cy S b L9 f9 ∧ xN cy S b L9 f9 q0 (.inr (3, [.null])) ∧ xN cy S b L9 f9 q9 (qA (cy 4) (S.2.1 11 r) (fun _ => none))) ⟨hx1.more hq9, hq0_1.more hq9, xN.new hx1 hq9⟩ (fun L2 f2 hw2 => ?_)
  obtain ⟨hx2, hq0_2, hq9_2⟩ := hw2
  show gW X vwCl 2 L2 f2 2 (1 + S.2.1 11 r) 12 [(0, .ref A)] [.ref q9, .ref q0, .ref q0]
  refine g_widen (c2 := 2) (s2 := 17) (Nat.le_of_ble_eq_true rfl) (show (1 + S.2.1 11 r) ≤ 17 by omega) ?_
  refine g_I (As := [.ref q9]) (st := [.ref q0]) hC 1 dX5_newTwin_12 ggX5_newTwin_X5_init rfl (by decide +kernel) (by decide +kernel) (by decide +kernel) rfl (by decide +kernel) ⟨Nat.le_of_ble_eq_true rfl, Nat.le_of_ble_eq_true rfl⟩ rfl (Nat.le_of_ble_eq_true rfl) ⟨(Nat.le_of_ble_eq_true rfl), (Nat.le_of_ble_eq_true rfl)⟩ (c2 := 2) (s2 := 17) rfl rfl (x_5_init q0 q9 hq0_2.1) ?_
  refine g_wx (P := fun L9 f9 => xR cy S b L9 f9 ∧ xN cy S b L9 f9 q0 (.inr (3, [.ref q9])) ∧ xN cy S b L9 f9 q9 (qA (cy 4) (S.2.1 11 r) (fun _ => none))) ⟨hx2.put hq0_2, hq0_2.put, hq9_2.keep hne_q0_q9.symm⟩ (fun L3 f3 hw3 => ?_)
  obtain ⟨hx3, hq0_3, hq9_3⟩ := hw3
  obtain ⟨hy1, hy2⟩ := hx3.rowW hI hlr (g := fun _ => 0) (fun _ _ => rfl) (fun _ _ => rfl) hq0_3 hq9_3 hne_q0_q9
  refine g_wx (P := fun L9 f9 => ∃ b9, b9.1 4 (S.1 10) = q0 ∧ xR cy (aSc (newRw S (S.2.1 11 r) (fun _ => 0)) 10 (S.1 10 + 1)) b9 L9 f9 ∧ xG S b b9) ⟨_, bkU_q, hy1, hy2⟩ (fun L5 f5 hw5 => ?_)
  obtain ⟨b5, hq5, hx5, hg5⟩ := hw5
  have hA5 : b5.1 4 r = A := (hg5 4 r (by decide) (by decide) hr).trans hA
  have h11 : (aSc (newRw S (S.2.1 11 r) (fun _ => 0)) 10 (S.1 10 + 1)).2.1 11 r = S.2.1 11 r := va_up_ne _ _ (show r ≠ S.1 10 by omega)
  have hr5 : r < S.1 10 + 1 := by omega
  show gW X vwCl 2 L5 f5 2 17 15 [(0, .ref A)] [.ref q0]
  refine g_astore_n (lv' := [(1, .ref q0), (0, .ref A)]) hC dX5_newTwin_15 rfl (by decide) rfl (Or.inr ⟨_, rfl⟩) ?_
  refine g_aload_n hC dX5_newTwin_16 rfl 1 rfl (Or.inr ⟨_, rfl⟩) ?_
  refine g_aload_n hC dX5_newTwin_17 rfl 0 rfl (Or.inr ⟨_, rfl⟩) ?_
  refine g_iconst hC dX5_newTwin_18 (v := nI 0) (by decide) ?_
  refine g_iconst hC dX5_newTwin_19 (v := nI 0) (by decide) ?_
  refine g_aload_n hC dX5_newTwin_20 rfl 1 rfl (Or.inr ⟨_, rfl⟩) ?_
  refine g_get hC (by decide +kernel) rfl (hx5.W hr5 hA5).1 (hx5.W hr5 hA5).2 0 (by decide) (by decide +kernel) (Or.inl rfl) rfl dX5_newTwin_21 ?_
  refine g_alen hC 4 rfl (hx5.Wc hr5 rfl).1 (hx5.Wc hr5 rfl).2 dX5_newTwin_24 ?_
  have hl5 : ∀ r9, r9 < (aSc (newRw S (S.2.1 11 r) (fun _ => 0)) 10 (S.1 10 + 1)).1 10 → (aSc (newRw S (S.2.1 11 r) (fun _ => 0)) 10 (S.1 10 + 1)).2.1 11 r9 ≤ 16 := fun r9 hr9 => by
    have hr9 : r9 < S.1 10 + 1 := hr9
    show va_up (S.2.1 11) (S.1 10) (S.2.1 11 r) r9 ≤ 16
    by_cases e : r9 = S.1 10
    · rw [e, va_up_self]; exact hlr
    · rw [va_up_ne _ _ e]; exact hl r9 (by omega)
  refine g_Vx (As := [.ref q0, .int (nI 0), .int (nI 0), .int (nI (((aSc (newRw S (S.2.1 11 r) (fun _ => 0)) 10 (S.1 10 + 1))).2.1 11 r))]) (st := []) hC 4 dX5_newTwin_25 rfl (hx5.W hr5 hA5).1 (hx5.W hr5 hA5).2 gX5_newTwin_X5_passTo rfl (by decide +kernel) ⟨Nat.le_of_ble_eq_true rfl, Nat.le_of_ble_eq_true rfl⟩ rfl (Nat.le_of_ble_eq_true rfl) ⟨(Nat.le_of_ble_eq_true rfl), (Nat.le_of_ble_eq_true rfl)⟩ (c2 := 3) (s2 := 33) rfl rfl (x_passTo_R (S := (aSc (newRw S (S.2.1 11 r) (fun _ => 0)) 10 (S.1 10 + 1))) hx5 ((xF.of hI).newW0 hl hlr) hl5 r A hr5 hA5 (S.1 10) q0 (show S.1 10 < S.1 10 + 1 by omega) hq5 0 0 ((aSc (newRw S (S.2.1 11 r) (fun _ => 0)) 10 (S.1 10 + 1)).2.1 11 r) (by omega) (show 0 + (aSc (newRw S (S.2.1 11 r) (fun _ => 0)) 10 (S.1 10 + 1)).2.1 11 r ≤ va_up (S.2.1 11) (S.1 10) (S.2.1 11 r) (S.1 10) by rw [va_up_self, h11]; omega)) (fun v6 L6 f6 hp6 => ?_)
  obtain ⟨rfl, hx6⟩ := hp6
  show gW X vwCl 2 L6 f6 3 33 28 [(1, .ref q0), (0, .ref A)] []
  refine g_aload_n hC dX5_newTwin_28 rfl 0 rfl (Or.inr ⟨_, rfl⟩) ?_
  rw [h11] at hx6
  exact g_aret hC hR (Or.inl ⟨_, rfl⟩) (Or.inr ⟨_, rfl⟩) dX5_newTwin_29 ⟨b5, congrArg (fun z => some (Value.ref z)) hq5.symm, hx6.eqv (xA.tw hl hr) (((xF.of hI).newW0 hl hlr).aNr12 (fun i hi => by
    show (if 16 * S.1 10 ≤ 16 * r + (0 + i) ∧ 16 * r + (0 + i) < 16 * S.1 10 + 16 then 0 else S.2.1 12 (16 * r + (0 + i))) ≤ S.1 4
    rw [if_neg (by omega)]
    exact (xF.of hI).2.1 r hr (0 + i) (by omega))) rfl rfl rfl rfl, hg5⟩
set_option maxRecDepth 20000 in
set_option maxHeartbeats 4000000 in
theorem x_newTwin__R {S : aS} {b : xB} (hx : xR cy S b L f) (hI : aI S) (r A : Nat) (hr : r < S.1 10) (hA : b.1 4 r = A) : gCt l D vwCl (gKK D cy adK adV) yX5_newTwin_ wsX5_newTwin_ { frames := 5, cells := 3, slots := 33, locals := 102 } [.ref A] L f (xP cy S b ((aSc (newRw S (S.2.1 11 r) (fun k => S.2.1 12 (16 * r + k))) 10 (S.1 10 + 1))) (fun b9 => some (.ref (b9.1 4 (S.1 10))))) := by
  refine gCt.of gKK_ok (by decide) rfl rfl (fun X hC hR hnm => ?_)
  have hC : gC X l _ D vwCl (cyT cy) (gKK D cy adK adV) cX5_newTwin_ 1 wsX5_newTwin_ RX5 := hC
  show gW X vwCl 1 L f 0 0 0 [(0, .ref A)] []
  refine g_aload_n hC dX5_newTwin__0 rfl 0 rfl (Or.inr ⟨_, rfl⟩) ?_
  refine g_Vx (As := []) (st := []) hC 0 dX5_newTwin__1 rfl (hx.W hr hA).1 (hx.W hr hA).2 gX5_newTwin__X5_newTwin rfl (by decide +kernel) ⟨Nat.le_of_ble_eq_true rfl, Nat.le_of_ble_eq_true rfl⟩ rfl (Nat.le_of_ble_eq_true rfl) ⟨(Nat.le_of_ble_eq_true rfl), (Nat.le_of_ble_eq_true rfl)⟩ (c2 := 3) (s2 := 33) rfl rfl (x_newTwin_R hx hI r A hr hA) (fun v1 L1 f1 hp1 => ?_)
  obtain ⟨b1, rfl, hx1, hg1⟩ := hp1
  show gW X vwCl 1 L1 f1 3 33 4 [(0, .ref A)] [.ref (b1.1 4 (S.1 10))]
  exact g_aret hC hR (Or.inl ⟨_, rfl⟩) (Or.inr ⟨_, rfl⟩) dX5_newTwin__4 ⟨b1, rfl, hx1, hg1⟩
end X6b
