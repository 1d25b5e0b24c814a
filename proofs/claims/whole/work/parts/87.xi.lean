/-- a cell of the world -/
def cE (L : List Nat) (f : Nat → va_E) (q : Nat) (e : va_E) : Prop := q ∈ L ∧ f q = e
section CE
variable {L : List Nat} {f : Nat → va_E} {p q : Nat} {e e2 : va_E}
theorem cE.new (hq : q ∉ L) : cE (L ++ [q]) (va_up f q e) q e := ⟨by simp, va_up_self _ _ _⟩
theorem cE.ne (h : cE L f p e) (hq : q ∉ L) : p ≠ q := fun z => hq (z ▸ h.1)
theorem cE.more (h : cE L f p e) (hq : q ∉ L) : cE (L ++ [q]) (va_up f q e2) p e := ⟨List.mem_append_left _ h.1, (va_up_ne _ _ (h.ne hq)).trans h.2⟩
theorem cE.put (h : cE L f q e) : cE L (va_up f q e2) q e2 := ⟨h.1, va_up_self _ _ _⟩
theorem cE.keep (h : cE L f p e) (hpq : p ≠ q) : cE L (va_up f q e2) p e := ⟨h.1, (va_up_ne _ _ hpq).trans h.2⟩
end CE
def bk0 (a p c r w : Nat) : xB := (fun k i => if k = 10 then w else if i = 0 then a else if i = 1 then p else if i = 2 then c else r, fun _ => 0)
theorem xR0 {cy : Nat → ClassId} {L : List Nat} {f : Nat → va_E} {a p c r w : Nat} (ha : cE L f a (.inr (6, [.ref p, .ref c, .ref r, .int (nI 0), .long (lN 0), .long (lN 0)]))) (hp : cE L f p (qA (cy 5) 10 (fun _ => none))) (hc : cE L f c (.inr (2, [.ref w, .int (nI 0)]))) (hr : cE L f r (iA (cy 2) 100 (fun _ => 0))) (hw : cE L f w (qA (cy 4) 16 (fun _ => none))) (n : a ≠ p ∧ a ≠ c ∧ a ≠ r ∧ a ≠ w ∧ p ≠ c ∧ p ≠ r ∧ p ≠ w ∧ c ≠ r ∧ c ≠ w ∧ r ≠ w) : xR cy aS0 (bk0 a p c r w) L f := by
  have n0 : ∀ r, ¬ r < aS0.1 4 := fun r h => absurd (show r < 0 from h) (by omega)
  refine ⟨fun k i hk => ?_, fun k i k' i' hk hk' => ?_⟩
  · refine hk.cs (P := fun k i => (bk0 a p c r w).1 k i ∈ L ∧ f ((bk0 a p c r w).1 k i) = xE cy aS0 (bk0 a p c r w) k i) (fun h => absurd h (n0 i)) (fun h => absurd h (n0 i)) (fun h => absurd h (n0 i)) (fun h => absurd h (n0 i)) (fun h => absurd h (n0 i)) (fun h => absurd h (n0 i)) (fun h => absurd h (n0 i)) (fun h => absurd h (n0 i)) (fun h => absurd h (n0 i)) ha ⟨hp.1, hp.2.trans ?_⟩ hc hr ⟨hw.1, hw.2.trans ?_⟩
    · show _ = qA (cy 5) 10 (plcF aS0 (bk0 a p c r w))
      refine congrArg (qA (cy 5) 10) (funext fun j => ?_)
      unfold plcF pvo
      by_cases e : j < 10
      · rw [if_pos e]; rfl
      · rw [if_neg e]
    · rfl
  · revert hk'
    refine hk.cs (P := fun k i => xV aS0 k' i' → (bk0 a p c r w).1 k i = (bk0 a p c r w).1 k' i' → k = k' ∧ i = i') (fun h => absurd h (n0 i)) (fun h => absurd h (n0 i)) (fun h => absurd h (n0 i)) (fun h => absurd h (n0 i)) (fun h => absurd h (n0 i)) (fun h => absurd h (n0 i)) (fun h => absurd h (n0 i)) (fun h => absurd h (n0 i)) (fun h => absurd h (n0 i)) ?_ ?_ ?_ ?_ ?_
    all_goals
      intro hk'
      refine hk'.cs (P := fun k' i' => _ = (bk0 a p c r w).1 k' i' → _ = k' ∧ _ = i') (fun h => absurd h (n0 i')) (fun h => absurd h (n0 i')) (fun h => absurd h (n0 i')) (fun h => absurd h (n0 i')) (fun h => absurd h (n0 i')) (fun h => absurd h (n0 i')) (fun h => absurd h (n0 i')) (fun h => absurd h (n0 i')) (fun h => absurd h (n0 i')) ?_ ?_ ?_ ?_ ?_
      all_goals
        intro z
        first
        | exact ⟨rfl, rfl⟩
        | exact absurd (show a = p from z) n.1
        | exact absurd (show a = c from z) n.2.1
        | exact absurd (show a = r from z) n.2.2.1
        | exact absurd (show a = w from z) n.2.2.2.1
        | exact absurd (show p = c from z) n.2.2.2.2.1
        | exact absurd (show p = r from z) n.2.2.2.2.2.1
        | exact absurd (show p = w from z) n.2.2.2.2.2.2.1
        | exact absurd (show c = r from z) n.2.2.2.2.2.2.2.1
        | exact absurd (show c = w from z) n.2.2.2.2.2.2.2.2.1
        | exact absurd (show r = w from z) n.2.2.2.2.2.2.2.2.2
        | exact absurd (show p = a from z).symm n.1
        | exact absurd (show c = a from z).symm n.2.1
        | exact absurd (show r = a from z).symm n.2.2.1
        | exact absurd (show w = a from z).symm n.2.2.2.1
        | exact absurd (show c = p from z).symm n.2.2.2.2.1
        | exact absurd (show r = p from z).symm n.2.2.2.2.2.1
        | exact absurd (show w = p from z).symm n.2.2.2.2.2.2.1
        | exact absurd (show r = c from z).symm n.2.2.2.2.2.2.2.1
        | exact absurd (show w = c from z).symm n.2.2.2.2.2.2.2.2.1
        | exact absurd (show w = r from z).symm n.2.2.2.2.2.2.2.2.2
section XI
variable {l : Launch} {D : va_G} {cy adK adV : Nat → Nat} {L : List Nat} {f : Nat → va_E}
set_option maxRecDepth 20000 in
set_option maxHeartbeats 4000000 in
theorem x_9_init (a : Nat) (ha : cE L f a (.inr (6, [.null, .null, .null, .int (nI 0), .long (lN 0), .long (lN 0)]))) : gCt l D vwCl (gKK D cy adK adV) yX9_init wsX9_init { frames := 2, cells := 4, slots := 128, locals := 40 } [.ref a] L f (fun w9 L9 f9 => w9 = none ∧ ∃ b, b.1 9 0 = a ∧ xR cy aS0 b L9 f9) := by
  refine gCt.of gKK_ok (by decide) rfl rfl (fun X hC hR hnm => ?_)
  have hC : gC X l _ D vwCl (cyT cy) (gKK D cy adK adV) cX9_init 1 wsX9_init RX9 := hC
  show gW X vwCl 1 L f 0 0 0 [(0, .ref a)] []
  refine g_aload_n hC dX9_init_0 rfl 0 rfl (Or.inr ⟨_, rfl⟩) ?_
  refine g_objInit hC (by decide +kernel) (by decide +kernel) (by decide +kernel) (Nat.le_of_ble_eq_true rfl) (Nat.le_of_ble_eq_true rfl) dX9_init_1 ?_
  refine g_aload_n hC dX9_init_4 rfl 0 rfl (Or.inr ⟨_, rfl⟩) ?_
  refine g_bipush hC dX9_init_5 (v := nI 10) (by decide) ?_
  refine g_newq hC (N := 10) 5 rfl (by decide +kernel) gKK_T rfl (show 10 < 2 ^ 31 by omega) (show 10 * 4 ≤ 536870912 by omega) (Nat.le_of_ble_eq_true rfl) (Nat.le_of_ble_eq_true rfl) dX9_init_7 (fun q7 hq7 => ?_)
  have hne_a_q7 : a ≠ q7 := ha.ne hq7
  refine g_wx (P := fun L9 f9 => cE L9 f9 a (.inr (6, [.null, .null, .null, .int (nI 0), .long (lN 0), .long (lN 0)])) ∧ cE L9 f9 q7 (qA (cy 5) 10 (fun _ => none))) ⟨ha.more hq7, cE.new hq7⟩ (fun L1 f1 hw1 => ?_)
  obtain ⟨ha_1, hq7_1⟩ := hw1
  show gW X vwCl 1 L1 f1 1 10 10 [(0, .ref a)] [.ref q7, .ref a]
  refine g_putF hC (by decide +kernel) tyX9 tyX9_ok nmX9 rfl ha_1.1 ha_1.2 0 (by decide) (by decide +kernel) (Or.inl rfl) rfl hnm rfl (tyX9_ok 0 (by decide)) rfl rfl (show 0 < 6 by decide) dX9_init_10 ?_
  refine g_wx (P := fun L9 f9 => cE L9 f9 a (.inr (6, [.ref q7, .null, .null, .int (nI 0), .long (lN 0), .long (lN 0)])) ∧ cE L9 f9 q7 (qA (cy 5) 10 (fun _ => none))) ⟨ha_1.put, hq7_1.keep hne_a_q7.symm⟩ (fun L2 f2 hw2 => ?_)
  obtain ⟨ha_2, hq7_2⟩ := hw2
  show gW X vwCl 1 L2 f2 1 10 13 [(0, .ref a)] []
  refine g_aload_n hC dX9_init_13 rfl 0 rfl (Or.inr ⟨_, rfl⟩) ?_
  refine g_new hC (fs := [.null, .int (nI 0)]) (by decide +kernel) tyX3 tyX3_ok (by decide +kernel) (by decide +kernel) (by decide +kernel) (ci := 2) rfl (fun j hj => by
    rcases (show j = 0 ∨ j = 1 by omega) with rfl | rfl <;> rfl) (Nat.le_of_ble_eq_true rfl) (Nat.le_of_ble_eq_true rfl) dX9_init_14 (fun q14 hq14 => ?_)
  have hne_a_q14 : a ≠ q14 := ha_2.ne hq14
  have hne_q7_q14 : q7 ≠ q14 := hq7_2.ne hq14
  refine g_wx (P := fun L9 f9 => cE L9 f9 a (.inr (6, [.ref q7, .null, .null, .int (nI 0), .long (lN 0), .long (lN 0)])) ∧ cE L9 f9 q7 (qA (cy 5) 10 (fun _ => none)) ∧ cE L9 f9 q14 (.inr (2, [.null, .int (nI 0)]))) ⟨ha_2.more hq14, hq7_2.more hq14, cE.new hq14⟩ (fun L3 f3 hw3 => ?_)
  obtain ⟨ha_3, hq7_3, hq14_3⟩ := hw3
  show gW X vwCl 1 L3 f3 2 12 17 [(0, .ref a)] [.ref q14, .ref a]
  refine g_dup hC dX9_init_17 rfl ?_
  refine g_Ix (As := []) (st := [.ref q14, .ref a]) hC 0 dX9_init_18 ggX9_init_X3_init rfl (by decide +kernel) (by decide +kernel) (by decide +kernel) rfl (by decide +kernel) ⟨Nat.le_of_ble_eq_true rfl, Nat.le_of_ble_eq_true rfl⟩ rfl (Nat.le_of_ble_eq_true rfl) ⟨(Nat.le_of_ble_eq_true rfl), (Nat.le_of_ble_eq_true rfl)⟩ (c2 := 3) (s2 := 28) rfl rfl (x_3_init q14 hq14_3) (fun v5 L5 f5 hp5 => ?_)
  obtain ⟨rfl, qw, hqw, rfl, rfl⟩ := hp5
  have hne_a_qw : a ≠ qw := ha_3.ne hqw
  have hne_q7_qw : q7 ≠ qw := hq7_3.ne hqw
  have hne_q14_qw : q14 ≠ qw := hq14_3.ne hqw
  refine g_wx (P := fun L9 f9 => cE L9 f9 a (.inr (6, [.ref q7, .null, .null, .int (nI 0), .long (lN 0), .long (lN 0)])) ∧ cE L9 f9 q7 (qA (cy 5) 10 (fun _ => none)) ∧ cE L9 f9 q14 (.inr (2, [.ref qw, .int (nI 0)])) ∧ cE L9 f9 qw (qA (cy 4) 16 (fun _ => none))) ⟨(ha_3.more hqw).keep hne_a_q14, (hq7_3.more hqw).keep hne_q7_q14, (hq14_3.more hqw).put, (cE.new hqw).keep hne_q14_qw.symm⟩ (fun L6 f6 hw6 => ?_)
  obtain ⟨ha_6, hq7_6, hq14_6, hqw_6⟩ := hw6
  show gW X vwCl 1 L6 f6 3 28 21 [(0, .ref a)] [.ref q14, .ref a]
  refine g_putF hC (by decide +kernel) tyX9 tyX9_ok nmX9 rfl ha_6.1 ha_6.2 1 (by decide) (by decide +kernel) (Or.inl rfl) rfl hnm rfl (tyX9_ok 1 (by decide)) rfl rfl (show 1 < 6 by decide) dX9_init_21 ?_
  refine g_wx (P := fun L9 f9 => cE L9 f9 a (.inr (6, [.ref q7, .ref q14, .null, .int (nI 0), .long (lN 0), .long (lN 0)])) ∧ cE L9 f9 q7 (qA (cy 5) 10 (fun _ => none)) ∧ cE L9 f9 q14 (.inr (2, [.ref qw, .int (nI 0)])) ∧ cE L9 f9 qw (qA (cy 4) 16 (fun _ => none))) ⟨ha_6.put, hq7_6.keep hne_a_q7.symm, hq14_6.keep hne_a_q14.symm, hqw_6.keep hne_a_qw.symm⟩ (fun L7 f7 hw7 => ?_)
  obtain ⟨ha_7, hq7_7, hq14_7, hqw_7⟩ := hw7
  show gW X vwCl 1 L7 f7 3 28 24 [(0, .ref a)] []
  refine g_aload_n hC dX9_init_24 rfl 0 rfl (Or.inr ⟨_, rfl⟩) ?_
  refine g_bipush hC dX9_init_25 (v := nI 100) (by decide) ?_
  refine g_newa hC (a0 := (100, .inl (fun _ => 0))) (N := 100) 2 rfl (by decide +kernel) rfl (fun _ => rfl) rfl (show 100 < 2 ^ 31 by omega) (show 100 * 4 ≤ 536870912 by omega) (Nat.le_of_ble_eq_true rfl) (Nat.le_of_ble_eq_true rfl) dX9_init_27 (fun q27 hq27 => ?_)
  have hne_a_q27 : a ≠ q27 := ha_7.ne hq27
  have hne_q7_q27 : q7 ≠ q27 := hq7_7.ne hq27
  have hne_q14_q27 : q14 ≠ q27 := hq14_7.ne hq27
  have hne_qw_q27 : qw ≠ q27 := hqw_7.ne hq27
  refine g_wx (P := fun L9 f9 => cE L9 f9 a (.inr (6, [.ref q7, .ref q14, .null, .int (nI 0), .long (lN 0), .long (lN 0)])) ∧ cE L9 f9 q7 (qA (cy 5) 10 (fun _ => none)) ∧ cE L9 f9 q14 (.inr (2, [.ref qw, .int (nI 0)])) ∧ cE L9 f9 qw (qA (cy 4) 16 (fun _ => none)) ∧ cE L9 f9 q27 (iA (cy 2) 100 (fun _ => 0))) ⟨ha_7.more hq27, hq7_7.more hq27, hq14_7.more hq27, hqw_7.more hq27, cE.new hq27⟩ (fun L8 f8 hw8 => ?_)
  obtain ⟨ha_8, hq7_8, hq14_8, hqw_8, hq27_8⟩ := hw8
  show gW X vwCl 1 L8 f8 4 128 29 [(0, .ref a)] [.ref q27, .ref a]
  refine g_putF hC (by decide +kernel) tyX9 tyX9_ok nmX9 rfl ha_8.1 ha_8.2 2 (by decide) (by decide +kernel) (Or.inl rfl) rfl hnm rfl (tyX9_ok 2 (by decide)) rfl rfl (show 2 < 6 by decide) dX9_init_29 ?_
  refine g_wx (P := fun L9 f9 => cE L9 f9 a (.inr (6, [.ref q7, .ref q14, .ref q27, .int (nI 0), .long (lN 0), .long (lN 0)])) ∧ cE L9 f9 q7 (qA (cy 5) 10 (fun _ => none)) ∧ cE L9 f9 q14 (.inr (2, [.ref qw, .int (nI 0)])) ∧ cE L9 f9 qw (qA (cy 4) 16 (fun _ => none)) ∧ cE L9 f9 q27 (iA (cy 2) 100 (fun _ => 0))) ⟨ha_8.put, hq7_8.keep hne_a_q7.symm, hq14_8.keep hne_a_q14.symm, hqw_8.keep hne_a_qw.symm, hq27_8.keep hne_a_q27.symm⟩ (fun L9 f9 hw9 => ?_)
  obtain ⟨ha_9, hq7_9, hq14_9, hqw_9, hq27_9⟩ := hw9
  show gW X vwCl 1 L9 f9 4 128 32 [(0, .ref a)] []
  exact g_vret hC hR dX9_init_32 ⟨rfl, bk0 a q7 q14 q27 qw, rfl, xR0 ha_9 hq7_9 hq14_9 hq27_9 hqw_9 ⟨hne_a_q7, hne_a_q14, hne_a_q27, hne_a_qw, hne_q7_q14, hne_q7_q27, hne_q7_qw, hne_q14_q27, hne_q14_qw, hne_qw_q27.symm⟩⟩
end XI
