/-- what is taken of the room, by what there is more of -/
def szS (S : aS) : Nat → Nat
  | 0 => 0
  | t + 1 => szS S t + S.2.1 15 t
def rmC (S S' : aS) : Nat := 2 * (S'.1 4 - S.1 4) + (capN (S'.1 21) - capN (S.1 21)) + (szS S' (S'.1 13) - szS S (S.1 13))
def rmS (S S' : aS) : Nat := 17 * (S'.1 4 - S.1 4) + 2 * (capN (S'.1 21) - capN (S.1 21)) + 2 * (szS S' (S'.1 13) - szS S (S.1 13))
theorem szS_eq {S S' : aS} : ∀ n, (∀ t, t < n → S'.2.1 15 t = S.2.1 15 t) → szS S' n = szS S n
  | 0, _ => rfl
  | n + 1, h => by rw [szS, szS, szS_eq n (fun t ht => h t (by omega)), h n (by omega)]
theorem rm_twin {S : aS} {r : Nat} : rmC S (twinB S r) = 2 ∧ rmS S (twinB S r) = 17 := by
  have e1 : (twinB S r).1 4 = S.1 4 + 1 := rfl
  have e2 : (twinB S r).1 21 = S.1 21 := rfl
  have e3 : szS (twinB S r) ((twinB S r).1 13) = szS S (S.1 13) := szS_eq _ (fun _ _ => rfl)
  unfold rmC rmS
  rw [e1, e2, e3]
  omega
theorem rm_keep {S : aS} {r : Nat} : rmC S (kpS (twinB S r) (S.1 4)) = 2 + (capN (S.1 21 + 1) - capN (S.1 21)) ∧ rmS S (kpS (twinB S r) (S.1 4)) = 17 + 2 * (capN (S.1 21 + 1) - capN (S.1 21)) := by
  have e1 : (kpS (twinB S r) (S.1 4)).1 4 = S.1 4 + 1 := rfl
  have e2 : (kpS (twinB S r) (S.1 4)).1 21 = S.1 21 + 1 := rfl
  have e3 : szS (kpS (twinB S r) (S.1 4)) ((kpS (twinB S r) (S.1 4)).1 13) = szS S (S.1 13) := szS_eq _ (fun _ _ => rfl)
  unfold rmC rmS
  rw [e1, e2, e3]
  omega
theorem xV_twin {S : aS} {r0 k r : Nat} (hk : xV S k r) : xV (twinB S r0) k r :=
  hk.cs (P := fun k r => xV (twinB S r0) k r) (fun h => Nat.lt_succ_of_lt h) (fun h => Nat.lt_succ_of_lt h) (fun h => h) (fun h => h) (fun h => h) (fun h => h) (fun h => h) (fun h => h) (fun h => h) (show 0 < 4 by decide) (show 1 < 4 by decide) (show 2 < 4 by decide) (show 3 < 4 by decide) (show 0 < 1 by decide)
theorem up_sw {α : Type} {f : Nat → α} {P q : Nat} {o n e : α} : va_up (va_up (va_up f P o) q n) P e = va_up (va_up f q n) P e := by
  funext x
  unfold va_up
  by_cases h : x = P
  · rw [if_pos h, if_pos h]
  · rw [if_neg h, if_neg h, if_neg h]
section X7
variable {l : Launch} {D : va_G} {cy adK adV : Nat → Nat} {L : List Nat} {f : Nat → va_E}
set_option maxRecDepth 20000 in
set_option maxHeartbeats 4000000 in
theorem x_emptySlots (n : Nat) (hn : n ≤ 256) : gCt l D vwCl (gKK D cy adK adV) yX7_emptySlots wsX7_emptySlots { frames := 1, cells := 1, slots := n, locals := 23 } [.int (nI n)] L f (fun w9 L9 f9 => ∃ q, w9 = some (.ref q) ∧ q ∉ L ∧ L9 = L ++ [q] ∧ f9 = va_up f q (iA (cy 2) n (fun i => if i < n then -3 else 0))) := by
  refine gCt.of gKK_ok (by decide) rfl rfl (fun X hC hR hnm => ?_)
  have hC : gC X l _ D vwCl (cyT cy) (gKK D cy adK adV) cX7_emptySlots 2 wsX7_emptySlots RX7 := hC
  show gW X vwCl 2 L f 0 0 0 [(0, .int (nI n))] []
  refine g_iload_n hC dX7_emptySlots_0 rfl 0 rfl ?_
  refine g_newa hC (a0 := (n, .inl (fun _ => 0))) (N := n) 2 rfl (by decide +kernel) rfl (fun _ => rfl) rfl (show n < 2 ^ 31 by omega) (show n * 4 ≤ 536870912 by omega) (Nat.le_of_ble_eq_true rfl) (show 0 + n ≤ n by omega) dX7_emptySlots_1 (fun q hq => ?_)
  refine g_widen (c2 := 1) (s2 := n) (Nat.le_of_ble_eq_true rfl) (show 0 + n ≤ n by omega) ?_
  show gW X vwCl 2 (L ++ [q]) (va_up f q (.inl (cy 2, n, .inl (fun _ => 0)))) 1 n 3 [(0, .int (nI n))] [.ref q]
  refine g_astore_n (lv' := [(1, .ref q), (0, .int (nI n))]) hC dX7_emptySlots_3 rfl (by decide) rfl (Or.inr ⟨_, rfl⟩) ?_
  refine g_aload_n hC dX7_emptySlots_4 rfl 0 rfl (Or.inr ⟨_, rfl⟩) ?_
  refine g_bipush hC dX7_emptySlots_5 (v := (-3)) (by decide) ?_
  refine g_Sv (As := [.ref q, .int ((-3))]) (st := []) hC 2 dX7_emptySlots_7 gX7_emptySlots_J7_fill_53178 rfl (by decide +kernel) ⟨Nat.le_of_ble_eq_true rfl, Nat.le_of_ble_eq_true rfl⟩ rfl (Nat.le_of_ble_eq_true rfl) ⟨(Nat.le_of_ble_eq_true rfl), (show n + 0 ≤ n by omega)⟩ (c2 := 1) (s2 := n) rfl rfl (x_fill q n (fun _ => 0) (-3) (by simp) (va_up_self _ _ _) (by omega)) ?_
  refine g_aload_n hC dX7_emptySlots_10 rfl 0 rfl (Or.inr ⟨_, rfl⟩) ?_
  exact g_aret hC hR (Or.inr ⟨_, rfl⟩) (Or.inr ⟨_, rfl⟩) dX7_emptySlots_11 ⟨q, rfl, hq, rfl, funext up_up⟩
set_option maxRecDepth 20000 in
set_option maxHeartbeats 4000000 in
theorem x_7_init_T {S : aS} {b : xB} (hx : xR cy S b L f) (a n : Nat) (hn : n ≤ 256) (ha : xN cy S b L f a (.inr (5, [.null, .null, .int (nI 0), .int (nI 0), .int (nI 0)]))) : gCt l D vwCl (gKK D cy adK adV) yX7_init wsX7_init { frames := 2, cells := 2, slots := 356, locals := 44 } [.ref a, .int (nI n)] L f (fun w9 L9 f9 => w9 = none ∧ ∃ c d, xR cy S b L9 f9 ∧ xN cy S b L9 f9 a (.inr (5, [.ref c, .ref d, .int (nI 0), .int (nI 0), .int (nI 0)])) ∧ xN cy S b L9 f9 c (qA (cy 4) 100 (fun _ => none)) ∧ xN cy S b L9 f9 d (iA (cy 2) n (fun i => if i < n then -3 else 0)) ∧ a ≠ c ∧ a ≠ d ∧ c ≠ d) := by
  refine gCt.of gKK_ok (by decide) rfl rfl (fun X hC hR hnm => ?_)
  have hC : gC X l _ D vwCl (cyT cy) (gKK D cy adK adV) cX7_init 2 wsX7_init RX7 := hC
  show gW X vwCl 2 L f 0 0 0 [(0, .ref a), (1, .int (nI n))] []
  refine g_aload_n hC dX7_init_0 rfl 0 rfl (Or.inr ⟨_, rfl⟩) ?_
  refine g_IN (As := []) (st := []) hC 0 dX7_init_1 ggX7_init_X8_init rfl (by decide +kernel) (gKK_M ("KeptTerms$Table", 3, yX8_init) (by decide)) (by decide +kernel) rfl (by decide +kernel) ⟨Nat.le_of_ble_eq_true rfl, Nat.le_of_ble_eq_true rfl⟩ rfl (Nat.le_of_ble_eq_true rfl) ⟨(Nat.le_of_ble_eq_true rfl), (Nat.le_of_ble_eq_true rfl)⟩ (c2 := 0) (s2 := 0) rfl rfl (x_8_init a) ?_
  refine g_aload_n hC dX7_init_4 rfl 0 rfl (Or.inr ⟨_, rfl⟩) ?_
  refine g_bipush hC dX7_init_5 (v := nI 100) (by decide) ?_
  refine g_newq hC (N := 100) 4 rfl (by decide +kernel) gKK_B rfl (show 100 < 2 ^ 31 by omega) (show 100 * 4 ≤ 536870912 by omega) (Nat.le_of_ble_eq_true rfl) (Nat.le_of_ble_eq_true rfl) dX7_init_7 (fun q7 hq7 => ?_)
  have hne_a_q7 : a ≠ q7 := ha.ne hq7
  refine g_wx (P := fun L9 f9 => xR cy S b L9 f9 ∧ xN cy S b L9 f9 a (.inr (5, [.null, .null, .int (nI 0), .int (nI 0), .int (nI 0)])) ∧ xN cy S b L9 f9 q7 (qA (cy 4) 100 (fun _ => none))) ⟨hx.more hq7, ha.more hq7, xN.new hx hq7⟩ (fun L1 f1 hw1 => ?_)
  obtain ⟨hx1, ha_1, hq7_1⟩ := hw1
  show gW X vwCl 2 L1 f1 1 100 10 [(0, .ref a), (1, .int (nI n))] [.ref q7, .ref a]
  refine g_putF hC (by decide +kernel) tyX7 tyX7_ok nmX7 rfl ha_1.1.1 ha_1.1.2 0 (by decide) (by decide +kernel) (Or.inl rfl) rfl hnm rfl (tyX7_ok 0 (by decide)) rfl rfl (show 0 < 5 by decide) dX7_init_10 ?_
  refine g_wx (P := fun L9 f9 => xR cy S b L9 f9 ∧ xN cy S b L9 f9 a (.inr (5, [.ref q7, .null, .int (nI 0), .int (nI 0), .int (nI 0)])) ∧ xN cy S b L9 f9 q7 (qA (cy 4) 100 (fun _ => none))) ⟨hx1.put ha_1, ha_1.put, hq7_1.keep hne_a_q7.symm⟩ (fun L2 f2 hw2 => ?_)
  obtain ⟨hx2, ha_2, hq7_2⟩ := hw2
  show gW X vwCl 2 L2 f2 1 100 13 [(0, .ref a), (1, .int (nI n))] []
  refine g_aload_n hC dX7_init_13 rfl 0 rfl (Or.inr ⟨_, rfl⟩) ?_
  refine g_iload_n hC dX7_init_14 rfl 1 rfl ?_
  refine g_Sx (As := [.int (nI n)]) (st := [.ref a]) hC 1 dX7_init_15 gX7_init_X7_emptySlots rfl (by decide +kernel) ⟨Nat.le_of_ble_eq_true rfl, Nat.le_of_ble_eq_true rfl⟩ rfl (Nat.le_of_ble_eq_true rfl) ⟨(Nat.le_of_ble_eq_true rfl), (show 100 + n ≤ 356 by omega)⟩ (c2 := 2) (s2 := (100 + n)) rfl rfl (x_emptySlots n hn) (fun v3 L3 f3 hp3 => ?_)
  obtain ⟨q15, rfl, hq15, rfl, rfl⟩ := hp3
  have hne_a_q15 : a ≠ q15 := ha_2.ne hq15
  have hne_q7_q15 : q7 ≠ q15 := hq7_2.ne hq15
  refine g_wx (P := fun L9 f9 => xR cy S b L9 f9 ∧ xN cy S b L9 f9 a (.inr (5, [.ref q7, .null, .int (nI 0), .int (nI 0), .int (nI 0)])) ∧ xN cy S b L9 f9 q7 (qA (cy 4) 100 (fun _ => none)) ∧ xN cy S b L9 f9 q15 (iA (cy 2) n (fun i => if i < n then -3 else 0))) ⟨hx2.more hq15, ha_2.more hq15, hq7_2.more hq15, xN.new hx2 hq15⟩ (fun L4 f4 hw4 => ?_)
  obtain ⟨hx4, ha_4, hq7_4, hq15_4⟩ := hw4
  show gW X vwCl 2 L4 f4 2 (100 + n) 18 [(0, .ref a), (1, .int (nI n))] [.ref q15, .ref a]
  refine g_put hC (by decide +kernel) tyX7 tyX7_ok nmX7 rfl ha_4.1.1 ha_4.1.2 1 (by decide) (by decide +kernel) (Or.inl rfl) rfl (tyX7_ok 1 (by decide)) rfl rfl (show 1 < 5 by decide) dX7_init_18 ?_
  refine g_wx (P := fun L9 f9 => xR cy S b L9 f9 ∧ xN cy S b L9 f9 a (.inr (5, [.ref q7, .ref q15, .int (nI 0), .int (nI 0), .int (nI 0)])) ∧ xN cy S b L9 f9 q7 (qA (cy 4) 100 (fun _ => none)) ∧ xN cy S b L9 f9 q15 (iA (cy 2) n (fun i => if i < n then -3 else 0))) ⟨hx4.put ha_4, ha_4.put, hq7_4.keep hne_a_q7.symm, hq15_4.keep hne_a_q15.symm⟩ (fun L5 f5 hw5 => ?_)
  obtain ⟨hx5, ha_5, hq7_5, hq15_5⟩ := hw5
  show gW X vwCl 2 L5 f5 2 (100 + n) 21 [(0, .ref a), (1, .int (nI n))] []
  refine g_widen (c2 := 2) (s2 := 356) (Nat.le_of_ble_eq_true rfl) (show (100 + n) ≤ 356 by omega) ?_
  exact g_vret hC hR dX7_init_21 ⟨rfl, q7, q15, hx5, ha_5, hq7_5, hq15_5, hne_a_q7, hne_a_q15, hne_q7_q15⟩
set_option maxRecDepth 20000 in
set_option maxHeartbeats 4000000 in
theorem x_7_init_K {S : aS} {b : xB} (hx : xR cy S b L f) (a n : Nat) (hn : n ≤ 256) (ha : xN cy S b L f a (.inr (1, [.null, .null, .int (nI 0), .int (nI 0), .int (nI 0), .null]))) : gCt l D vwCl (gKK D cy adK adV) yX7_init wsX7_init { frames := 2, cells := 2, slots := 356, locals := 44 } [.ref a, .int (nI n)] L f (fun w9 L9 f9 => w9 = none ∧ ∃ c d, xR cy S b L9 f9 ∧ xN cy S b L9 f9 a (.inr (1, [.ref c, .ref d, .int (nI 0), .int (nI 0), .int (nI 0), .null])) ∧ xN cy S b L9 f9 c (qA (cy 4) 100 (fun _ => none)) ∧ xN cy S b L9 f9 d (iA (cy 2) n (fun i => if i < n then -3 else 0)) ∧ a ≠ c ∧ a ≠ d ∧ c ≠ d) := by
  refine gCt.of gKK_ok (by decide) rfl rfl (fun X hC hR hnm => ?_)
  have hC : gC X l _ D vwCl (cyT cy) (gKK D cy adK adV) cX7_init 2 wsX7_init RX7 := hC
  show gW X vwCl 2 L f 0 0 0 [(0, .ref a), (1, .int (nI n))] []
  refine g_aload_n hC dX7_init_0 rfl 0 rfl (Or.inr ⟨_, rfl⟩) ?_
  refine g_IN (As := []) (st := []) hC 0 dX7_init_1 ggX7_init_X8_init rfl (by decide +kernel) (gKK_M ("KeptTerms$Table", 3, yX8_init) (by decide)) (by decide +kernel) rfl (by decide +kernel) ⟨Nat.le_of_ble_eq_true rfl, Nat.le_of_ble_eq_true rfl⟩ rfl (Nat.le_of_ble_eq_true rfl) ⟨(Nat.le_of_ble_eq_true rfl), (Nat.le_of_ble_eq_true rfl)⟩ (c2 := 0) (s2 := 0) rfl rfl (x_8_init a) ?_
  refine g_aload_n hC dX7_init_4 rfl 0 rfl (Or.inr ⟨_, rfl⟩) ?_
  refine g_bipush hC dX7_init_5 (v := nI 100) (by decide) ?_
  refine g_newq hC (N := 100) 4 rfl (by decide +kernel) gKK_B rfl (show 100 < 2 ^ 31 by omega) (show 100 * 4 ≤ 536870912 by omega) (Nat.le_of_ble_eq_true rfl) (Nat.le_of_ble_eq_true rfl) dX7_init_7 (fun q7 hq7 => ?_)
  have hne_a_q7 : a ≠ q7 := ha.ne hq7
  refine g_wx (P := fun L9 f9 => xR cy S b L9 f9 ∧ xN cy S b L9 f9 a (.inr (1, [.null, .null, .int (nI 0), .int (nI 0), .int (nI 0), .null])) ∧ xN cy S b L9 f9 q7 (qA (cy 4) 100 (fun _ => none))) ⟨hx.more hq7, ha.more hq7, xN.new hx hq7⟩ (fun L1 f1 hw1 => ?_)
  obtain ⟨hx1, ha_1, hq7_1⟩ := hw1
  show gW X vwCl 2 L1 f1 1 100 10 [(0, .ref a), (1, .int (nI n))] [.ref q7, .ref a]
  refine g_putF hC (by decide +kernel) tyX1 tyX1_ok nmX1 rfl ha_1.1.1 ha_1.1.2 0 (by decide) (by decide +kernel) (Or.inl rfl) rfl hnm rfl (tyX1_ok 0 (by decide)) rfl rfl (show 0 < 6 by decide) dX7_init_10 ?_
  refine g_wx (P := fun L9 f9 => xR cy S b L9 f9 ∧ xN cy S b L9 f9 a (.inr (1, [.ref q7, .null, .int (nI 0), .int (nI 0), .int (nI 0), .null])) ∧ xN cy S b L9 f9 q7 (qA (cy 4) 100 (fun _ => none))) ⟨hx1.put ha_1, ha_1.put, hq7_1.keep hne_a_q7.symm⟩ (fun L2 f2 hw2 => ?_)
  obtain ⟨hx2, ha_2, hq7_2⟩ := hw2
  show gW X vwCl 2 L2 f2 1 100 13 [(0, .ref a), (1, .int (nI n))] []
  refine g_aload_n hC dX7_init_13 rfl 0 rfl (Or.inr ⟨_, rfl⟩) ?_
  refine g_iload_n hC dX7_init_14 rfl 1 rfl ?_
  refine g_Sx (As := [.int (nI n)]) (st := [.ref a]) hC 1 dX7_init_15 gX7_init_X7_emptySlots rfl (by decide +kernel) ⟨Nat.le_of_ble_eq_true rfl, Nat.le_of_ble_eq_true rfl⟩ rfl (Nat.le_of_ble_eq_true rfl) ⟨(Nat.le_of_ble_eq_true rfl), (show 100 + n ≤ 356 by omega)⟩ (c2 := 2) (s2 := (100 + n)) rfl rfl (x_emptySlots n hn) (fun v3 L3 f3 hp3 => ?_)
  obtain ⟨q15, rfl, hq15, rfl, rfl⟩ := hp3
  have hne_a_q15 : a ≠ q15 := ha_2.ne hq15
  have hne_q7_q15 : q7 ≠ q15 := hq7_2.ne hq15
  refine g_wx (P := fun L9 f9 => xR cy S b L9 f9 ∧ xN cy S b L9 f9 a (.inr (1, [.ref q7, .null, .int (nI 0), .int (nI 0), .int (nI 0), .null])) ∧ xN cy S b L9 f9 q7 (qA (cy 4) 100 (fun _ => none)) ∧ xN cy S b L9 f9 q15 (iA (cy 2) n (fun i => if i < n then -3 else 0))) ⟨hx2.more hq15, ha_2.more hq15, hq7_2.more hq15, xN.new hx2 hq15⟩ (fun L4 f4 hw4 => ?_)
  obtain ⟨hx4, ha_4, hq7_4, hq15_4⟩ := hw4
  show gW X vwCl 2 L4 f4 2 (100 + n) 18 [(0, .ref a), (1, .int (nI n))] [.ref q15, .ref a]
  refine g_put hC (by decide +kernel) tyX1 tyX1_ok nmX1 rfl ha_4.1.1 ha_4.1.2 1 (by decide) (by decide +kernel) (Or.inl rfl) rfl (tyX1_ok 1 (by decide)) rfl rfl (show 1 < 6 by decide) dX7_init_18 ?_
  refine g_wx (P := fun L9 f9 => xR cy S b L9 f9 ∧ xN cy S b L9 f9 a (.inr (1, [.ref q7, .ref q15, .int (nI 0), .int (nI 0), .int (nI 0), .null])) ∧ xN cy S b L9 f9 q7 (qA (cy 4) 100 (fun _ => none)) ∧ xN cy S b L9 f9 q15 (iA (cy 2) n (fun i => if i < n then -3 else 0))) ⟨hx4.put ha_4, ha_4.put, hq7_4.keep hne_a_q7.symm, hq15_4.keep hne_a_q15.symm⟩ (fun L5 f5 hw5 => ?_)
  obtain ⟨hx5, ha_5, hq7_5, hq15_5⟩ := hw5
  show gW X vwCl 2 L5 f5 2 (100 + n) 21 [(0, .ref a), (1, .int (nI n))] []
  refine g_widen (c2 := 2) (s2 := 356) (Nat.le_of_ble_eq_true rfl) (show (100 + n) ≤ 356 by omega) ?_
  exact g_vret hC hR dX7_init_21 ⟨rfl, q7, q15, hx5, ha_5, hq7_5, hq15_5, hne_a_q7, hne_a_q15, hne_q7_q15⟩
set_option maxRecDepth 20000 in
set_option maxHeartbeats 4000000 in
theorem x_1_init {S : aS} {b : xB} (hx : xR cy S b L f) (a n P : Nat) (hn : n ≤ 256) (ha : xN cy S b L f a (.inr (1, [.null, .null, .int (nI 0), .int (nI 0), .int (nI 0), .null]))) (hP : b.1 9 2 = P) : gCt l D vwCl (gKK D cy adK adV) yX1_init wsX1_init { frames := 3, cells := 2, slots := 356, locals := 65 } [.ref a, .int (nI n), .ref P] L f (fun w9 L9 f9 => w9 = none ∧ ∃ c d, xR cy S b L9 f9 ∧ xN cy S b L9 f9 a (.inr (1, [.ref c, .ref d, .int (nI 0), .int (nI 0), .int (nI 0), .ref P])) ∧ xN cy S b L9 f9 c (qA (cy 4) 100 (fun _ => none)) ∧ xN cy S b L9 f9 d (iA (cy 2) n (fun i => if i < n then -3 else 0)) ∧ a ≠ c ∧ a ≠ d ∧ c ≠ d) := by
  refine gCt.of gKK_ok (by decide) rfl rfl (fun X hC hR hnm => ?_)
  have hC : gC X l _ D vwCl (cyT cy) (gKK D cy adK adV) cX1_init 3 wsX1_init RX1 := hC
  show gW X vwCl 3 L f 0 0 0 [(0, .ref a), (1, .int (nI n)), (2, .ref P)] []
  refine g_aload_n hC dX1_init_0 rfl 0 rfl (Or.inr ⟨_, rfl⟩) ?_
  refine g_iload_n hC dX1_init_1 rfl 1 rfl ?_
  refine g_Ix (As := [.int (nI n)]) (st := []) hC 1 dX1_init_2 ggX1_init_X7_init rfl (by decide +kernel) (by decide +kernel) (by decide +kernel) rfl (by decide +kernel) ⟨Nat.le_of_ble_eq_true rfl, Nat.le_of_ble_eq_true rfl⟩ rfl (Nat.le_of_ble_eq_true rfl) ⟨(Nat.le_of_ble_eq_true rfl), (Nat.le_of_ble_eq_true rfl)⟩ (c2 := 2) (s2 := 356) rfl rfl (x_7_init_K hx a n hn ha) (fun v1 L1 f1 hp1 => ?_)
  obtain ⟨rfl, c, d, hx1, ha1, hc1, hd1, hac, had, hcd⟩ := hp1
  show gW X vwCl 3 L1 f1 2 356 5 [(0, .ref a), (1, .int (nI n)), (2, .ref P)] []
  refine g_aload_n hC dX1_init_5 rfl 0 rfl (Or.inr ⟨_, rfl⟩) ?_
  refine g_aload_n hC dX1_init_6 rfl 2 rfl (Or.inr ⟨_, rfl⟩) ?_
  refine g_putF hC (by decide +kernel) tyX1 tyX1_ok nmX1 rfl ha1.1.1 ha1.1.2 5 (by decide) (by decide +kernel) (Or.inl rfl) rfl hnm rfl (tyX1_ok 5 (by decide)) rfl rfl (show 5 < 6 by decide) dX1_init_7 ?_
  exact g_vret hC hR dX1_init_10 ⟨rfl, c, d, hx1.put ha1, ha1.put, hc1.keep hac.symm, hd1.keep had.symm, hac, had, hcd⟩
set_option maxRecDepth 20000 in
set_option maxHeartbeats 4000000 in
theorem x_3_init (a : Nat) (ha : a ∈ L ∧ f a = .inr (2, [.null, .int (nI 0)])) : gCt l D vwCl (gKK D cy adK adV) yX3_init wsX3_init { frames := 1, cells := 1, slots := 16, locals := 20 } [.ref a] L f (fun w9 L9 f9 => w9 = none ∧ ∃ q, q ∉ L ∧ L9 = L ++ [q] ∧ f9 = va_up (va_up f q (qA (cy 4) 16 (fun _ => none))) a (.inr (2, [.ref q, .int (nI 0)]))) := by
  refine gCt.of gKK_ok (by decide) rfl rfl (fun X hC hR hnm => ?_)
  have hC : gC X l _ D vwCl (cyT cy) (gKK D cy adK adV) cX3_init 1 wsX3_init RX3 := hC
  show gW X vwCl 1 L f 0 0 0 [(0, .ref a)] []
  refine g_aload_n hC dX3_init_0 rfl 0 rfl (Or.inr ⟨_, rfl⟩) ?_
  refine g_objInit hC (by decide +kernel) (by decide +kernel) (by decide +kernel) (Nat.le_of_ble_eq_true rfl) (Nat.le_of_ble_eq_true rfl) dX3_init_1 ?_
  refine g_aload_n hC dX3_init_4 rfl 0 rfl (Or.inr ⟨_, rfl⟩) ?_
  refine g_bipush hC dX3_init_5 (v := nI 16) (by decide) ?_
  refine g_newq hC (N := 16) 4 rfl (by decide +kernel) gKK_B rfl (by decide) (by decide) (Nat.le_of_ble_eq_true rfl) (Nat.le_of_ble_eq_true rfl) dX3_init_7 (fun q hq => ?_)
  have hqa : a ≠ q := fun z => hq (z ▸ ha.1)
  refine g_put hC (by decide +kernel) tyX3 tyX3_ok nmX3 rfl (List.mem_append_left _ ha.1) ((va_up_ne _ _ hqa).trans ha.2) 0 (by decide) (by decide +kernel) (Or.inl rfl) rfl (tyX3_ok 0 (by decide)) rfl rfl (show 0 < 2 by decide) dX3_init_10 ?_
  exact g_vret hC hR dX3_init_13 ⟨rfl, q, hq, rfl, rfl⟩
set_option maxRecDepth 20000 in
set_option maxHeartbeats 4000000 in
theorem x_eldestLike {S : aS} {b : xB} (hx : xR cy S b L f) (hI : aI S) (h24 : S.1 21 ≤ 1024) (P : Nat) (hP : b.1 9 2 = P) (r A : Nat) (hr : r < S.1 4) (hA : b.1 0 r = A) : gCt l D vwCl (gKK D cy adK adV) yX3_eldestLike wsX3_eldestLike { frames := 2, cells := 0, slots := 0, locals := 43 } [.ref P, .ref A] L f (pE (some (va_rf ((kpG S r (S.1 21) 0).map (b.1 0)))) L f) := by
  refine gCt.of gKK_ok (by decide) rfl rfl (fun X hC hR hnm => ?_)
  have hC : gC X l _ D vwCl (cyT cy) (gKK D cy adK adV) cX3_eldestLike 3 wsX3_eldestLike RX3 := hC
  show gW X vwCl 3 L f 0 0 0 [(0, .ref P), (1, .ref A)] []
  have hcap := capN_le (show S.1 21 ≤ 1024 by omega)
  have hcap : capN (S.1 21) < 2 ^ 31 := by omega
  have hcl := (capN_le h24).1
  refine g_iconst hC dX3_eldestLike_0 (v := nI 0) (by decide) ?_
  refine g_istore_n (lv' := [(2, .int (nI 0)), (0, .ref P), (1, .ref A)]) hC dX3_eldestLike_1 rfl (by decide) rfl ?_
  have lp : ∀ (m : Nat) (k : Nat), S.1 21 - k < m → (k ≤ S.1 21) → (kpG S r (S.1 21 - k) k = kpG S r (S.1 21) 0) → gW X vwCl 3 L f 0 0 2 [(2, .int (nI k)), (0, .ref P), (1, .ref A)] [] := by
    intro m
    induction m with
    | zero => intros; omega
    | succ m ih =>
      intro k hm9 hk hg
      refine g_iload_n hC dX3_eldestLike_2 rfl 0 rfl ?_
      refine g_aload_n hC dX3_eldestLike_3 rfl 1 rfl (Or.inr ⟨_, rfl⟩) ?_
      refine g_get hC (by decide +kernel) rfl (hx.P hP).1 (hx.P hP).2 1 (by decide) (by decide +kernel) (Or.inl rfl) rfl dX3_eldestLike_4 ?_
      refine g_icmpN_ge (a := k) (b := S.1 21) (tgt := 36) hC dX3_eldestLike_7 (by decide) (by omega) (by omega) (fun h7 => ?_) (fun h7 => ?_)
      · refine g_null hC dX3_eldestLike_36 ?_
        have h9 : kpG S r (S.1 21) 0 = none := by rw [← hg, show S.1 21 - k = 0 by omega]; rfl
        exact g_aret hC hR (Or.inl ⟨_, rfl⟩) (Or.inl rfl) dX3_eldestLike_37 ⟨by rw [h9]; rfl, rfl, rfl⟩
      · refine g_aload_n hC dX3_eldestLike_10 rfl 1 rfl (Or.inr ⟨_, rfl⟩) ?_
        refine g_get hC (by decide +kernel) rfl (hx.P hP).1 (hx.P hP).2 0 (by decide) (by decide +kernel) (Or.inl rfl) rfl dX3_eldestLike_11 ?_
        refine g_iload_n hC dX3_eldestLike_14 rfl 0 rfl ?_
        refine g_aald hC 4 rfl (hx.Pr rfl).1 (hx.Pr rfl).2 (k) rfl (show k < capN (S.1 21) by omega) hcap dX3_eldestLike_15 ?_
        refine g_val (w := .ref (b.1 0 (S.2.1 22 k))) (congrArg va_rf (if_pos (show k < S.1 21 by omega))) ?_
        have hko := hI.2.2.2.2.2.2.2.1 k (by omega)
        refine g_aload_n hC dX3_eldestLike_16 rfl 2 rfl (Or.inr ⟨_, rfl⟩) ?_
        refine g_V (As := [.ref A]) (st := []) hC 1 dX3_eldestLike_17 rfl (hx.B hko rfl).1 (hx.B hko rfl).2 gX3_eldestLike_X0_isLike rfl (by decide +kernel) ⟨Nat.le_of_ble_eq_true rfl, Nat.le_of_ble_eq_true rfl⟩ rfl (Nat.le_of_ble_eq_true rfl) ⟨Nat.le_of_ble_eq_true rfl, Nat.le_of_ble_eq_true rfl⟩ (c2 := 0) (s2 := 0) rfl rfl (x_0_isLike_B _ _ _ _ _ _ _ _ (hx.isB hko rfl (hI.bl hko)) (hx.isB hr hA (hI.bl hr))) ?_
        refine g_ifB_eq (P := S.2.1 5 (S.2.1 22 k) = S.2.1 5 r ∧ ∀ i9, i9 < S.2.1 5 (S.2.1 22 k) → bcF S (S.2.1 22 k) i9 = bcF S r i9) (tgt := 30) hC dX3_eldestLike_20 (by decide) (fun h20 => ?_) (fun h20 => ?_)
        · refine g_iincN (n := 1) (a := k) (lv' := [(2, .int (nI (k + 1))), (0, .ref P), (1, .ref A)]) hC dX3_eldestLike_30 0 rfl (by decide) rfl ?_
          refine g_goto (tgt := 2) hC dX3_eldestLike_33 (by decide) ?_
          exact ih (k + 1) (by omega) (by omega) (by rw [← hg, show S.1 21 - k = (S.1 21 - (k + 1)) + 1 by omega, kpG, if_neg (fun z => h20 (bc_lik.mpr z))])
        · refine g_aload_n hC dX3_eldestLike_23 rfl 1 rfl (Or.inr ⟨_, rfl⟩) ?_
          refine g_get hC (by decide +kernel) rfl (hx.P hP).1 (hx.P hP).2 0 (by decide) (by decide +kernel) (Or.inl rfl) rfl dX3_eldestLike_24 ?_
          refine g_iload_n hC dX3_eldestLike_27 rfl 0 rfl ?_
          refine g_aald hC 4 rfl (hx.Pr rfl).1 (hx.Pr rfl).2 (k) rfl (show k < capN (S.1 21) by omega) hcap dX3_eldestLike_28 ?_
          refine g_val (w := .ref (b.1 0 (S.2.1 22 k))) (congrArg va_rf (if_pos (show k < S.1 21 by omega))) ?_
          have h9 : kpG S r (S.1 21) 0 = some (S.2.1 22 k) := by rw [← hg, show S.1 21 - k = (S.1 21 - (k + 1)) + 1 by omega, kpG, if_pos (bc_lik.mp h20)]
          exact g_aret hC hR (Or.inl ⟨_, rfl⟩) (Or.inr ⟨_, rfl⟩) dX3_eldestLike_29 ⟨by rw [h9]; rfl, rfl, rfl⟩
  exact lp (S.1 21 + 1) 0 (by omega) (by omega) rfl
set_option maxRecDepth 20000 in
set_option maxHeartbeats 4000000 in
theorem x_widen {S : aS} {b : xB} (hx : xR cy S b L f) (hK : ∀ k, k < S.1 21 → S.2.1 22 k < S.1 4) (h24 : S.1 21 ≤ 1024) (P : Nat) (hP : b.1 9 2 = P) : gCt l D vwCl (gKK D cy adK adV) yX3_widen wsX3_widen { frames := 0, cells := 1, slots := (2 * capN (S.1 21)), locals := 0 } [.ref P] L f (fun w9 L9 f9 => w9 = none ∧ ∃ q, xR cy S b L9 (va_up f9 P (.inr (2, [.ref (b.1 10 0), .int (nI (S.1 21))]))) ∧ (∀ k r, xV S k r → b.1 k r ≠ q) ∧ q ∈ L9 ∧ f9 q = qA (cy 4) (2 * capN (S.1 21)) (plF S b) ∧ f9 P = .inr (2, [.ref q, .int (nI (S.1 21))])) := by
  refine gCt.of gKK_ok (by decide) rfl rfl (fun X hC hR hnm => ?_)
  have hC : gC X l _ D vwCl (cyT cy) (gKK D cy adK adV) cX3_widen 3 wsX3_widen RX3 := hC
  show gW X vwCl 3 L f 0 0 0 [(0, .ref P)] []
  have hcap := capN_le (show S.1 21 ≤ 1024 by omega)
  have hcap : capN (S.1 21) < 2 ^ 31 := by omega
  have hcl := capN_le h24
  refine g_iconst hC dX3_widen_0 (v := nI 2) (by decide) ?_
  refine g_aload_n hC dX3_widen_1 rfl 0 rfl (Or.inr ⟨_, rfl⟩) ?_
  refine g_get hC (by decide +kernel) rfl (hx.P hP).1 (hx.P hP).2 0 (by decide) (by decide +kernel) (Or.inl rfl) rfl dX3_widen_2 ?_
  refine g_alen hC 4 rfl (hx.Pr rfl).1 (hx.Pr rfl).2 dX3_widen_5 ?_
  refine g_imulN (a := 2) (b := capN (S.1 21)) hC dX3_widen_6 ?_
  refine g_newq hC (N := 2 * (capN (S.1 21))) 4 rfl (by decide +kernel) gKK_B rfl (show 2 * (capN (S.1 21)) < 2 ^ 31 by omega) (show 2 * (capN (S.1 21)) * 4 ≤ 536870912 by omega) (Nat.le_of_ble_eq_true rfl) (show 0 + 2 * (capN (S.1 21)) ≤ (2 * capN (S.1 21)) by omega) dX3_widen_7 (fun q7 hq7 => ?_)
  refine g_wx (P := fun L9 f9 => xR cy S b L9 f9 ∧ xN cy S b L9 f9 q7 (qA (cy 4) (2 * (capN (S.1 21))) (fun _ => none))) ⟨hx.more hq7, xN.new hx hq7⟩ (fun L1 f1 hw1 => ?_)
  obtain ⟨hx1, hq7_1⟩ := hw1
  show gW X vwCl 3 L1 f1 1 (0 + 2 * (capN (S.1 21))) 10 [(0, .ref P)] [.ref q7]
  refine g_astore_n (lv' := [(1, .ref q7), (0, .ref P)]) hC dX3_widen_10 rfl (by decide) rfl (Or.inr ⟨_, rfl⟩) ?_
  refine g_iconst hC dX3_widen_11 (v := nI 0) (by decide) ?_
  refine g_istore_n (lv' := [(2, .int (nI 0)), (1, .ref q7), (0, .ref P)]) hC dX3_widen_12 rfl (by decide) rfl ?_
  refine g_widen (c2 := 1) (s2 := (2 * capN (S.1 21))) (Nat.le_of_ble_eq_true rfl) (show (0 + 2 * (capN (S.1 21))) ≤ (2 * capN (S.1 21)) by omega) ?_
  have lp : ∀ (m : Nat) (k : Nat) (L3 : List Nat) (f3 : Nat → va_E), S.1 21 - k < m → (k ≤ S.1 21) → (xR cy S b L3 f3) → (xN cy S b L3 f3 q7 (qA (cy 4) (2 * capN (S.1 21)) (fun i => if i < k then plF S b i else none))) → gW X vwCl 3 L3 f3 1 (2 * capN (S.1 21)) 13 [(2, .int (nI k)), (1, .ref q7), (0, .ref P)] [] := by
    intro m
    induction m with
    | zero => intros; omega
    | succ m ih =>
      intro k L3 f3 hm9 hk hx3 hq3
      refine g_iload_n hC dX3_widen_13 rfl 0 rfl ?_
      refine g_aload_n hC dX3_widen_14 rfl 2 rfl (Or.inr ⟨_, rfl⟩) ?_
      refine g_get hC (by decide +kernel) rfl (hx3.P hP).1 (hx3.P hP).2 1 (by decide) (by decide +kernel) (Or.inl rfl) rfl dX3_widen_15 ?_
      refine g_icmpN_ge (a := k) (b := S.1 21) (tgt := 36) hC dX3_widen_18 (by decide) (by omega) (by omega) (fun h18 => ?_) (fun h18 => ?_)
      · refine g_aload_n hC dX3_widen_36 rfl 2 rfl (Or.inr ⟨_, rfl⟩) ?_
        refine g_aload_n hC dX3_widen_37 rfl 1 rfl (Or.inr ⟨_, rfl⟩) ?_
        refine g_put hC (by decide +kernel) tyX3 tyX3_ok nmX3 rfl (hx3.P hP).1 (hx3.P hP).2 0 (by decide) (by decide +kernel) (Or.inl rfl) rfl (tyX3_ok 0 (by decide)) rfl rfl (show 0 < 2 by decide) dX3_widen_38 ?_
        have hkn : k = S.1 21 := by omega
        have hpl : (fun i => if i < k then plF S b i else none) = plF S b := by
          funext i
          unfold plF
          by_cases e : i < k
          · rw [if_pos e]
          · rw [if_neg e, if_neg (by omega)]
        exact g_vret hC hR dX3_widen_41 ⟨rfl, q7, by rw [show va_up (va_up f3 P _) P _ = va_up f3 P (.inr (2, [.ref (b.1 10 0), .int (nI (S.1 21))])) from funext up_up]; exact ⟨fun k r hk => ⟨(hx3.1 k r hk).1, by
          by_cases e : b.1 k r = P
          · rw [e, va_up_self, ← (hx3.P hP).2, ← e]; exact (hx3.1 k r hk).2
          · rw [va_up_ne _ _ e]; exact (hx3.1 k r hk).2⟩, hx3.2⟩, hq3.2, hq3.1.1, by rw [va_up_ne _ _ (fun z => hq3.2 9 2 (show 2 < 4 by decide) (hP.trans z.symm)), hq3.1.2, hpl], va_up_self _ _ _⟩
      · refine g_aload_n hC dX3_widen_21 rfl 1 rfl (Or.inr ⟨_, rfl⟩) ?_
        refine g_iload_n hC dX3_widen_22 rfl 0 rfl ?_
        refine g_aload_n hC dX3_widen_23 rfl 2 rfl (Or.inr ⟨_, rfl⟩) ?_
        refine g_get hC (by decide +kernel) rfl (hx3.P hP).1 (hx3.P hP).2 0 (by decide) (by decide +kernel) (Or.inl rfl) rfl dX3_widen_24 ?_
        refine g_iload_n hC dX3_widen_27 rfl 0 rfl ?_
        refine g_aald hC 4 rfl (hx3.Pr rfl).1 (hx3.Pr rfl).2 (k) rfl (show k < capN (S.1 21) by omega) hcap dX3_widen_28 ?_
        have hko := hK k (by omega)
        have hpk : plF S b k = some (b.1 0 (S.2.1 22 k)) := if_pos (by omega)
        refine g_val (w := .ref (b.1 0 (S.2.1 22 k))) (congrArg va_rf hpk) ?_
        refine g_aast hC 4 rfl (r := (RX0, TX0, 1)) rfl (hx3.B hko rfl).1 (hx3.B hko rfl).2 hq3.1.1 hq3.1.2 (k) rfl (show k < 2 * (capN (S.1 21)) by omega) (show 2 * (capN (S.1 21)) < 2 ^ 31 by omega) dX3_widen_29 ?_
        refine g_wx (P := fun L9 f9 => xR cy S b L9 f9 ∧ xN cy S b L9 f9 q7 (qA (cy 4) (2 * capN (S.1 21)) (va_up (fun i => if i < k then plF S b i else none) k (some (b.1 0 (S.2.1 22 k)))))) ⟨hx3.put hq3, hq3.put⟩ (fun L4 f4 hw4 => ?_)
        obtain ⟨hx4, hq7_4⟩ := hw4
        show gW X vwCl 3 L4 f4 1 (2 * capN (S.1 21)) 30 [(2, .int (nI k)), (1, .ref q7), (0, .ref P)] []
        refine g_iincN (n := 1) (a := k) (lv' := [(2, .int (nI (k + 1))), (1, .ref q7), (0, .ref P)]) hC dX3_widen_30 0 rfl (by decide) rfl ?_
        refine g_goto (tgt := 13) hC dX3_widen_33 (by decide) ?_
        exact ih (k + 1) L4 f4 (by omega) (by omega) hx4 (by rw [← up_lt, hpk]; exact hq7_4)
  exact lp (S.1 21 + 1) 0 L1 f1 (by omega) (by omega) hx1 (by simpa using hq7_1)
set_option maxRecDepth 20000 in
set_option maxHeartbeats 4000000 in
theorem x_keep {S : aS} {b : xB} (hx : xR cy S b L f) (hK : ∀ k, k < S.1 21 → S.2.1 22 k < S.1 4) (h24 : S.1 21 < 1024) (P : Nat) (hP : b.1 9 2 = P) (r A : Nat) (hr : r < S.1 4) (hA : b.1 0 r = A) : gCt l D vwCl (gKK D cy adK adV) yX3_keep wsX3_keep { frames := 1, cells := (capN (S.1 21 + 1) - capN (S.1 21)), slots := (2 * (capN (S.1 21 + 1) - capN (S.1 21))), locals := 22 } [.ref P, .ref A] L f (xP cy S b (kpS S r) (fun b9 => some (.ref A))) := by
  refine gCt.of gKK_ok (by decide) rfl rfl (fun X hC hR hnm => ?_)
  have hC : gC X l _ D vwCl (cyT cy) (gKK D cy adK adV) cX3_keep 2 wsX3_keep RX3 := hC
  show gW X vwCl 2 L f 0 0 0 [(0, .ref P), (1, .ref A)] []
  have hcap := capN_le (show S.1 21 ≤ 1024 by omega)
  have hcap : capN (S.1 21) < 2 ^ 31 := by omega
  refine g_aload_n hC dX3_keep_0 rfl 0 rfl (Or.inr ⟨_, rfl⟩) ?_
  refine g_get hC (by decide +kernel) rfl (hx.P hP).1 (hx.P hP).2 1 (by decide) (by decide +kernel) (Or.inl rfl) rfl dX3_keep_1 ?_
  refine g_sipush hC dX3_keep_4 (v := nI 1024) (by decide) ?_
  refine g_icmpN_lt (a := S.1 21) (b := 1024) (tgt := 12) hC dX3_keep_7 (by decide) (by omega) (by omega) (fun h7 => ?_) (fun h7 => ?_)
  · refine g_aload_n hC dX3_keep_12 rfl 0 rfl (Or.inr ⟨_, rfl⟩) ?_
    refine g_get hC (by decide +kernel) rfl (hx.P hP).1 (hx.P hP).2 1 (by decide) (by decide +kernel) (Or.inl rfl) rfl dX3_keep_13 ?_
    refine g_aload_n hC dX3_keep_16 rfl 0 rfl (Or.inr ⟨_, rfl⟩) ?_
    refine g_get hC (by decide +kernel) rfl (hx.P hP).1 (hx.P hP).2 0 (by decide) (by decide +kernel) (Or.inl rfl) rfl dX3_keep_17 ?_
    refine g_alen hC 4 rfl (hx.Pr rfl).1 (hx.Pr rfl).2 dX3_keep_20 ?_
    refine g_icmpN_lt (a := S.1 21) (b := capN (S.1 21)) (tgt := 28) hC dX3_keep_21 (by decide) (by omega) (by omega) (fun h21 => ?_) (fun h21 => ?_)
    · refine g_aload_n hC dX3_keep_28 rfl 0 rfl (Or.inr ⟨_, rfl⟩) ?_
      refine g_get hC (by decide +kernel) rfl (hx.P hP).1 (hx.P hP).2 0 (by decide) (by decide +kernel) (Or.inl rfl) rfl dX3_keep_29 ?_
      refine g_aload_n hC dX3_keep_32 rfl 0 rfl (Or.inr ⟨_, rfl⟩) ?_
      refine g_get hC (by decide +kernel) rfl (hx.P hP).1 (hx.P hP).2 1 (by decide) (by decide +kernel) (Or.inl rfl) rfl dX3_keep_33 ?_
      refine g_aload_n hC dX3_keep_36 rfl 1 rfl (Or.inr ⟨_, rfl⟩) ?_
      refine g_aast hC 4 rfl (r := (RX0, TX0, 1)) rfl (hx.B hr hA).1 (hx.B hr hA).2 (hx.Pr rfl).1 (hx.Pr rfl).2 (S.1 21) rfl (show S.1 21 < capN (S.1 21) by omega) hcap dX3_keep_37 ?_
      have hPr := hx.apart hP (rfl : b.1 10 0 = _) (show 2 < 4 by decide) (show 0 < 1 by decide) (Or.inl (by decide))
      refine g_aload_n hC dX3_keep_38 rfl 0 rfl (Or.inr ⟨_, rfl⟩) ?_
      refine g_dup hC dX3_keep_39 rfl ?_
      refine g_get hC (by decide +kernel) rfl (hx.P hP).1 ((va_up_ne _ _ hPr).trans (hx.P hP).2) 1 (by decide) (by decide +kernel) (Or.inl rfl) rfl dX3_keep_40 ?_
      refine g_iconst hC dX3_keep_43 (v := nI 1) (by decide) ?_
      refine g_iaddN (a := S.1 21) (b := 1) hC dX3_keep_44 ?_
      refine g_put hC (by decide +kernel) tyX3 tyX3_ok nmX3 rfl (hx.P hP).1 ((va_up_ne _ _ hPr).trans (hx.P hP).2) 1 (by decide) (by decide +kernel) (Or.inl rfl) rfl (tyX3_ok 1 (by decide)) rfl rfl (show 1 < 2 by decide) dX3_keep_45 ?_
      refine g_aload_n hC dX3_keep_48 rfl 1 rfl (Or.inr ⟨_, rfl⟩) ?_
      refine g_widen (c2 := (capN (S.1 21 + 1) - capN (S.1 21))) (s2 := (2 * (capN (S.1 21 + 1) - capN (S.1 21)))) (show 0 ≤ (capN (S.1 21 + 1) - capN (S.1 21)) by omega) (show 0 ≤ (2 * (capN (S.1 21 + 1) - capN (S.1 21))) by omega) ?_
      subst hP hA
      exact g_aret hC hR (Or.inl ⟨_, rfl⟩) (Or.inr ⟨_, rfl⟩) dX3_keep_49 ⟨b, rfl, hx.keep1 h21, xG.rf⟩
    · refine g_aload_n hC dX3_keep_24 rfl 0 rfl (Or.inr ⟨_, rfl⟩) ?_
      have hcw := capN_w h24 h21
      refine g_Vx (As := []) (st := []) hC 0 dX3_keep_25 rfl (hx.P hP).1 (hx.P hP).2 gX3_keep_X3_widen rfl (by decide +kernel) ⟨Nat.le_of_ble_eq_true rfl, Nat.le_of_ble_eq_true rfl⟩ rfl (Nat.le_of_ble_eq_true rfl) ⟨(show 0 + 1 ≤ (capN (S.1 21 + 1) - capN (S.1 21)) by omega), (show 0 + (2 * capN (S.1 21)) ≤ (2 * (capN (S.1 21 + 1) - capN (S.1 21))) by omega)⟩ (c2 := 1) (s2 := (0 + (2 * capN (S.1 21)))) rfl rfl (x_widen hx hK (by omega) P hP) (fun v1 L1 f1 hp1 => ?_)
      obtain ⟨rfl, q, hxw, hqn, hqL, hqf, hPf⟩ := hp1
      show gW X vwCl 2 L1 f1 1 (0 + (2 * capN (S.1 21))) 28 [(0, .ref P), (1, .ref A)] []
      have hPq : P ≠ q := fun z => hqn 9 2 (show 2 < 4 by decide) (hP.trans z)
      have hAP : A ≠ P := hxw.apart hA hP hr (show 2 < 4 by decide) (Or.inl (by decide))
      have hAf : f1 A = .inr (0, [.ref (b.1 1 r)]) := by
        have z := (hxw.B hr hA).2
        rwa [va_up_ne _ _ hAP] at z
      refine g_aload_n hC dX3_keep_28 rfl 0 rfl (Or.inr ⟨_, rfl⟩) ?_
      refine g_get hC (by decide +kernel) rfl (hxw.P hP).1 hPf 0 (by decide) (by decide +kernel) (Or.inl rfl) rfl dX3_keep_29 ?_
      refine g_aload_n hC dX3_keep_32 rfl 0 rfl (Or.inr ⟨_, rfl⟩) ?_
      refine g_get hC (by decide +kernel) rfl (hxw.P hP).1 hPf 1 (by decide) (by decide +kernel) (Or.inl rfl) rfl dX3_keep_33 ?_
      refine g_aload_n hC dX3_keep_36 rfl 1 rfl (Or.inr ⟨_, rfl⟩) ?_
      refine g_aast hC 4 rfl (r := (RX0, TX0, 1)) rfl (hxw.B hr hA).1 hAf hqL hqf (S.1 21) rfl (show S.1 21 < 2 * capN (S.1 21) by omega) (by omega) dX3_keep_37 ?_
      refine g_aload_n hC dX3_keep_38 rfl 0 rfl (Or.inr ⟨_, rfl⟩) ?_
      refine g_dup hC dX3_keep_39 rfl ?_
      refine g_get hC (by decide +kernel) rfl (hxw.P hP).1 ((va_up_ne _ _ hPq).trans hPf) 1 (by decide) (by decide +kernel) (Or.inl rfl) rfl dX3_keep_40 ?_
      refine g_iconst hC dX3_keep_43 (v := nI 1) (by decide) ?_
      refine g_iaddN (a := S.1 21) (b := 1) hC dX3_keep_44 ?_
      refine g_put hC (by decide +kernel) tyX3 tyX3_ok nmX3 rfl (hxw.P hP).1 ((va_up_ne _ _ hPq).trans hPf) 1 (by decide) (by decide +kernel) (Or.inl rfl) rfl (tyX3_ok 1 (by decide)) rfl rfl (show 1 < 2 by decide) dX3_keep_45 ?_
      refine g_aload_n hC dX3_keep_48 rfl 1 rfl (Or.inr ⟨_, rfl⟩) ?_
      refine g_widen (c2 := (capN (S.1 21 + 1) - capN (S.1 21))) (s2 := (2 * (capN (S.1 21 + 1) - capN (S.1 21)))) (show 1 ≤ (capN (S.1 21 + 1) - capN (S.1 21)) by omega) (show (0 + (2 * capN (S.1 21))) ≤ (2 * (capN (S.1 21 + 1) - capN (S.1 21))) by omega) ?_
      subst hP hA
      exact g_aret hC hR (Or.inl ⟨_, rfl⟩) (Or.inr ⟨_, rfl⟩) dX3_keep_49 ⟨_, rfl, by
        have z := (hxw.aside hqn).keep2 (r := r) h24 h21 ⟨⟨hqL, va_up_self _ _ _⟩, hqn⟩
        rwa [up_sw] at z, xG.mv (Or.inr rfl)⟩
  · exfalso; omega
set_option maxRecDepth 20000 in
set_option maxHeartbeats 4000000 in
theorem x_rowFor_T {S : aS} {b : xB} (hx : xR cy S b L f) (hI : aI S) (t T : Nat) (ht : t < S.1 13) (hT : b.1 6 t = T) (hkb : S.2.1 14 t = 0) (r A : Nat) (hr : r < S.1 4) (hA : b.1 0 r = A) : gCt l D vwCl (gKK D cy adK adV) yX7_rowFor wsX7_rowFor { frames := 6, cells := (rmC S (rowF S t r).2), slots := (rmS S (rowF S t r).2), locals := 121 } [.ref T, .ref A] L f (xP cy S b ((rowF S t r).2) (fun b9 => some (.ref (b9.1 0 (rowF S t r).1)))) := by
  refine gCt.of gKK_ok (by decide) rfl rfl (fun X hC hR hnm => ?_)
  have hC : gC X l _ D vwCl (cyT cy) (gKK D cy adK adV) cX7_rowFor 2 wsX7_rowFor RX7 := hC
  show gW X vwCl 2 L f 0 0 0 [(0, .ref T), (1, .ref A)] []
  have hrf : rowF S t r = (S.1 4, twinB S r) := if_pos hkb
  have hrc : rmC S (rowF S t r).2 = 2 ∧ rmS S (rowF S t r).2 = 17 := by rw [hrf]; exact rm_twin
  refine g_aload_n hC dX7_rowFor_0 rfl 1 rfl (Or.inr ⟨_, rfl⟩) ?_
  refine g_Vx (As := []) (st := []) hC 0 dX7_rowFor_1 rfl (hx.B hr hA).1 (hx.B hr hA).2 gX7_rowFor_X0_newTwin rfl (by decide +kernel) ⟨Nat.le_of_ble_eq_true rfl, Nat.le_of_ble_eq_true rfl⟩ rfl (Nat.le_of_ble_eq_true rfl) ⟨(show 0 + 2 ≤ (rmC S (rowF S t r).2) by omega), (show 0 + 17 ≤ (rmS S (rowF S t r).2) by omega)⟩ (c2 := 2) (s2 := 17) rfl rfl (x_newTwin_B hx hI r A hr hA) (fun v1 L1 f1 hp1 => ?_)
  obtain ⟨b1, rfl, hx1, hg1⟩ := hp1
  show gW X vwCl 2 L1 f1 2 17 4 [(0, .ref T), (1, .ref A)] [.ref (b1.1 0 (S.1 4))]
  refine g_widen (c2 := (rmC S (rowF S t r).2)) (s2 := (rmS S (rowF S t r).2)) (show 2 ≤ (rmC S (rowF S t r).2) by omega) (show 17 ≤ (rmS S (rowF S t r).2) by omega) ?_
  exact g_aret hC hR (Or.inl ⟨_, rfl⟩) (Or.inr ⟨_, rfl⟩) dX7_rowFor_4 ⟨b1, by rw [hrf], by rw [hrf]; exact hx1, hg1⟩
set_option maxRecDepth 20000 in
set_option maxHeartbeats 4000000 in
theorem x_rowFor_K {S : aS} {b : xB} (hx : xR cy S b L f) (hI : aI S) (h24 : S.1 21 < 1024) (t T : Nat) (ht : t < S.1 13) (hT : b.1 6 t = T) (hkb : S.2.1 14 t ≠ 0) (r A : Nat) (hr : r < S.1 4) (hA : b.1 0 r = A) : gCt l D vwCl (gKK D cy adK adV) yX1_rowFor wsX1_rowFor { frames := 6, cells := (rmC S (rowF S t r).2), slots := (rmS S (rowF S t r).2), locals := 121 } [.ref T, .ref A] L f (xP cy S b ((rowF S t r).2) (fun b9 => some (.ref (b9.1 0 (rowF S t r).1)))) := by
  refine gCt.of gKK_ok (by decide) rfl rfl (fun X hC hR hnm => ?_)
  have hC : gC X l _ D vwCl (cyT cy) (gKK D cy adK adV) cX1_rowFor 3 wsX1_rowFor RX1 := hC
  show gW X vwCl 3 L f 0 0 0 [(0, .ref T), (1, .ref A)] []
  have hrf : rowF S t r = keptS S r := if_neg hkb
  have hcap : capN (S.1 21) < 2 ^ 31 := by have := capN_le (show S.1 21 ≤ 1024 by omega); omega
  refine g_aload_n hC dX1_rowFor_0 rfl 0 rfl (Or.inr ⟨_, rfl⟩) ?_
  refine g_get hC (by decide +kernel) rfl (hx.K ht hT hkb).1 (hx.K ht hT hkb).2 5 (by decide) (by decide +kernel) (Or.inl rfl) rfl dX1_rowFor_1 ?_
  refine g_aload_n hC dX1_rowFor_4 rfl 1 rfl (Or.inr ⟨_, rfl⟩) ?_
  obtain ⟨o, ho⟩ : ∃ o, kpG S r (S.1 21) 0 = o := ⟨_, rfl⟩
  have hel := x_eldestLike (l := l) (D := D) (adK := adK) (adV := adV) hx hI (by omega) (b.1 9 2) rfl r A hr hA
  rw [ho] at hel
  refine g_V (As := [.ref A]) (st := []) hC 1 dX1_rowFor_5 rfl (hx.P rfl).1 (hx.P rfl).2 gX1_rowFor_X3_eldestLike rfl (by decide +kernel) ⟨Nat.le_of_ble_eq_true rfl, Nat.le_of_ble_eq_true rfl⟩ rfl (Nat.le_of_ble_eq_true rfl) ⟨(show 0 + 0 ≤ (rmC S (rowF S t r).2) by omega), (show 0 + 0 ≤ (rmS S (rowF S t r).2) by omega)⟩ (c2 := 0) (s2 := 0) rfl rfl hel ?_
  refine g_astore_n (lv' := [(2, va_rf (o.map (b.1 0))), (0, .ref T), (1, .ref A)]) hC dX1_rowFor_8 rfl (by decide) rfl (va_rf_or _) ?_
  refine g_aload_n hC dX1_rowFor_9 rfl 0 rfl (va_rf_or _) ?_
  refine g_ifnonnull (o := o.map (b.1 0)) (tgt := 27) hC dX1_rowFor_10 (by decide) (fun a10 h10 => ?_) (fun h10 => ?_)
  · rw [h10]
    show gW X vwCl 3 L f 0 0 27 [(2, .ref a10), (0, .ref T), (1, .ref A)] []
    refine g_aload_n hC dX1_rowFor_27 rfl 0 rfl (Or.inr ⟨_, rfl⟩) ?_
    have hw : ∃ w9, o = some w9 ∧ b.1 0 w9 = a10 := by
      cases o with
      | none => cases h10
      | some w9 => exact ⟨w9, rfl, Option.some.inj h10⟩
    obtain ⟨w9, rfl, rfl⟩ := hw
    have hkp : keptS S r = (w9, S) := by unfold keptS; rw [ho]
    refine g_widen (c2 := (rmC S (rowF S t r).2)) (s2 := (rmS S (rowF S t r).2)) (show 0 ≤ (rmC S (rowF S t r).2) by omega) (show 0 ≤ (rmS S (rowF S t r).2) by omega) ?_
    exact g_aret hC hR (Or.inl ⟨_, rfl⟩) (Or.inr ⟨_, rfl⟩) dX1_rowFor_28 ⟨b, by rw [hrf, hkp], by rw [hrf, hkp]; exact hx, xG.rf⟩
  · rw [h10]
    show gW X vwCl 3 L f 0 0 13 [(2, .null), (0, .ref T), (1, .ref A)] []
    refine g_aload_n hC dX1_rowFor_13 rfl 1 rfl (Or.inr ⟨_, rfl⟩) ?_
    refine g_get hC (by decide +kernel) rfl (hx.K ht hT hkb).1 (hx.K ht hT hkb).2 5 (by decide) (by decide +kernel) (Or.inl rfl) rfl dX1_rowFor_14 ?_
    refine g_aload_n hC dX1_rowFor_17 rfl 2 rfl (Or.inr ⟨_, rfl⟩) ?_
    have ho : kpG S r (S.1 21) 0 = none := by rw [ho]; cases o with
      | none => rfl
      | some w9 => cases h10
    have hkp : keptS S r = (S.1 4, kpS (twinB S r) (S.1 4)) := by unfold keptS; rw [ho]; rfl
    have hrc : rmC S (rowF S t r).2 = 2 + (capN (S.1 21 + 1) - capN (S.1 21)) ∧ rmS S (rowF S t r).2 = 17 + 2 * (capN (S.1 21 + 1) - capN (S.1 21)) := by rw [hrf, hkp]; exact rm_keep
    refine g_Vx (As := []) (st := [.ref (b.1 9 2)]) hC 0 dX1_rowFor_18 rfl (hx.B hr hA).1 (hx.B hr hA).2 gX1_rowFor_X0_newTwin rfl (by decide +kernel) ⟨Nat.le_of_ble_eq_true rfl, Nat.le_of_ble_eq_true rfl⟩ rfl (Nat.le_of_ble_eq_true rfl) ⟨(show 0 + 2 ≤ (rmC S (rowF S t r).2) by omega), (show 0 + 17 ≤ (rmS S (rowF S t r).2) by omega)⟩ (c2 := 2) (s2 := 17) rfl rfl (x_newTwin_B hx hI r A hr hA) (fun v1 L1 f1 hp1 => ?_)
    obtain ⟨b1, rfl, hx1, hg1⟩ := hp1
    show gW X vwCl 3 L1 f1 2 17 21 [(2, .null), (0, .ref T), (1, .ref A)] [.ref (b1.1 0 (S.1 4)), .ref (b.1 9 2)]
    refine g_Vx (As := [.ref (b1.1 0 (S.1 4))]) (st := []) hC 1 dX1_rowFor_21 rfl (hx1.P ((hg1 9 2 (by decide) (by decide) (show 2 < 4 by decide)).trans rfl)).1 (hx1.P ((hg1 9 2 (by decide) (by decide) (show 2 < 4 by decide)).trans rfl)).2 gX1_rowFor_X3_keep rfl (by decide +kernel) ⟨Nat.le_of_ble_eq_true rfl, Nat.le_of_ble_eq_true rfl⟩ rfl (Nat.le_of_ble_eq_true rfl) ⟨(show 2 + (capN (S.1 21 + 1) - capN (S.1 21)) ≤ (rmC S (rowF S t r).2) by omega), (show 17 + (2 * (capN (S.1 21 + 1) - capN (S.1 21))) ≤ (rmS S (rowF S t r).2) by omega)⟩ (c2 := (2 + (capN (S.1 21 + 1) - capN (S.1 21)))) (s2 := (17 + (2 * (capN (S.1 21 + 1) - capN (S.1 21))))) rfl rfl (x_keep (S := twinB S r) hx1 (fun k hk => Nat.lt_succ_of_lt (hI.2.2.2.2.2.2.2.1 k hk)) h24 (b.1 9 2) (hg1 9 2 (by decide) (by decide) (show 2 < 4 by decide)) (S.1 4) _ (show S.1 4 < S.1 4 + 1 by omega) rfl) (fun v2 L2 f2 hp2 => ?_)
    obtain ⟨b2, rfl, hx2, hg2⟩ := hp2
    show gW X vwCl 3 L2 f2 (2 + (capN (S.1 21 + 1) - capN (S.1 21))) (17 + (2 * (capN (S.1 21 + 1) - capN (S.1 21)))) 24 [(2, .null), (0, .ref T), (1, .ref A)] [.ref (b1.1 0 (S.1 4))]
    refine g_goto (tgt := 28) hC dX1_rowFor_24 (by decide) ?_
    refine g_widen (c2 := (rmC S (rowF S t r).2)) (s2 := (rmS S (rowF S t r).2)) (show (2 + (capN (S.1 21 + 1) - capN (S.1 21))) ≤ (rmC S (rowF S t r).2) by omega) (show (17 + (2 * (capN (S.1 21 + 1) - capN (S.1 21)))) ≤ (rmS S (rowF S t r).2) by omega) ?_
    exact g_aret hC hR (Or.inl ⟨_, rfl⟩) (Or.inr ⟨_, rfl⟩) dX1_rowFor_28 ⟨b2, by rw [hrf, hkp]; exact congrArg (fun z => some (Value.ref z)) (hg2 0 (S.1 4) (by decide) (by decide) (show S.1 4 < S.1 4 + 1 by omega)).symm, by rw [hrf, hkp]; exact hx2, hg1.tr (fun k r hk => xV_twin hk) hg2⟩
set_option maxRecDepth 20000 in
set_option maxHeartbeats 4000000 in
theorem x_grow_T {S : aS} {b : xB} (hx : xR cy S b L f) (hF : xF S) (t T : Nat) (ht : t < S.1 13) (hT : b.1 6 t = T) (hkb : S.2.1 14 t = 0) (hl : ∀ r, r < S.1 4 → S.2.1 5 r ≤ 16) (hls : ∀ t, t < S.1 13 → S.2.1 15 t ≤ 256) (he : ∃ e, 2 ≤ e ∧ e ≤ 7 ∧ S.2.1 15 t = 2 ^ e) (hm : S.2.1 16 t ≤ 100) (h43 : 4 * S.2.1 16 t ≤ 6 * S.2.1 15 t) : gCt l D vwCl (gKK D cy adK adV) yX7_grow wsX7_grow { frames := 4, cells := 1, slots := (2 * S.2.1 15 t), locals := 89 } [.ref T] L f (xP cy S b (growS S t) (fun b9 => none)) := by
  refine gCt.of gKK_ok (by decide) rfl rfl (fun X hC hR hnm => ?_)
  have hC : gC X l _ D vwCl (cyT cy) (gKK D cy adK adV) cX7_grow 2 wsX7_grow RX7 := hC
  show gW X vwCl 2 L f 0 0 0 [(0, .ref T)] []
  have hsz8 : 4 ≤ S.2.1 15 t ∧ S.2.1 15 t ≤ 128 := by
    obtain ⟨e, h1, h2, h3⟩ := he
    rw [h3]
    rcases (show e = 2 ∨ e = 3 ∨ e = 4 ∨ e = 5 ∨ e = 6 ∨ e = 7 by omega) with rfl | rfl | rfl | rfl | rfl | rfl <;> decide
  refine g_aload_n hC dX7_grow_0 rfl 0 rfl (Or.inr ⟨_, rfl⟩) ?_
  refine g_iconst hC dX7_grow_1 (v := nI 2) (by decide) ?_
  refine g_aload_n hC dX7_grow_2 rfl 0 rfl (Or.inr ⟨_, rfl⟩) ?_
  refine g_get hC (by decide +kernel) rfl (hx.T ht hT hkb).1 (hx.T ht hT hkb).2 1 (by decide) (by decide +kernel) (Or.inl rfl) rfl dX7_grow_3 ?_
  refine g_alen hC 2 rfl (hx.Ts ht rfl).1 (hx.Ts ht rfl).2 dX7_grow_6 ?_
  refine g_imulN (a := 2) (b := S.2.1 15 t) hC dX7_grow_7 ?_
  refine g_Sx (As := [.int (nI (2 * (S.2.1 15 t)))]) (st := [.ref T]) hC 1 dX7_grow_8 gX7_grow_X7_emptySlots rfl (by decide +kernel) ⟨Nat.le_of_ble_eq_true rfl, Nat.le_of_ble_eq_true rfl⟩ rfl (Nat.le_of_ble_eq_true rfl) ⟨(Nat.le_of_ble_eq_true rfl), (show 0 + (2 * S.2.1 15 t) ≤ (2 * S.2.1 15 t) by omega)⟩ (c2 := 1) (s2 := (0 + (2 * S.2.1 15 t))) rfl rfl (x_emptySlots (2 * S.2.1 15 t) (by omega)) (fun v1 L1 f1 hp1 => ?_)
  obtain ⟨q8, rfl, hq8, rfl, rfl⟩ := hp1
  refine g_wx (P := fun L9 f9 => xR cy S b L9 f9 ∧ xN cy S b L9 f9 q8 (iA (cy 2) (2 * S.2.1 15 t) (fun i => if i < 2 * S.2.1 15 t then -3 else 0))) ⟨hx.more hq8, xN.new hx hq8⟩ (fun L2 f2 hw2 => ?_)
  obtain ⟨hx2, hq8_2⟩ := hw2
  show gW X vwCl 2 L2 f2 1 (0 + (2 * S.2.1 15 t)) 11 [(0, .ref T)] [.ref q8, .ref T]
  refine g_widen (c2 := 1) (s2 := (2 * S.2.1 15 t)) (Nat.le_of_ble_eq_true rfl) (show (0 + (2 * S.2.1 15 t)) ≤ (2 * S.2.1 15 t) by omega) ?_
  refine g_put hC (by decide +kernel) tyX7 tyX7_ok nmX7 rfl (hx2.T ht hT hkb).1 (hx2.T ht hT hkb).2 1 (by decide) (by decide +kernel) (Or.inl rfl) rfl (tyX7_ok 1 (by decide)) rfl rfl (show 1 < 5 by decide) dX7_grow_11 ?_
  refine g_wx (P := fun L9 f9 => ∃ b9, xR cy (clr1 S t) b9 L9 f9 ∧ xG S b b9) ⟨_, hx2.clrt hls ht hkb (by omega) hT hq8_2, xG.mv (Or.inl rfl)⟩ (fun L5 f5 hw5 => ?_)
  obtain ⟨b5, hx5, hg5⟩ := hw5
  have hT5 : b5.1 6 t = T := (hg5 6 t (by decide) (by decide) ht).trans hT
  show gW X vwCl 2 L5 f5 1 (2 * S.2.1 15 t) 14 [(0, .ref T)] []
  refine g_aload_n hC dX7_grow_14 rfl 0 rfl (Or.inr ⟨_, rfl⟩) ?_
  refine g_dup hC dX7_grow_15 rfl ?_
  refine g_get hC (by decide +kernel) rfl (hx5.T (show t < (clr1 S t).1 13 from ht) hT5 hkb).1 (hx5.T (show t < (clr1 S t).1 13 from ht) hT5 hkb).2 4 (by decide) (by decide +kernel) (Or.inl rfl) rfl dX7_grow_16 ?_
  refine g_iconst hC dX7_grow_19 (v := nI 1) (by decide) ?_
  refine g_iaddN (a := ((clr1 S t)).2.1 18 t) (b := 1) hC dX7_grow_20 ?_
  refine g_put hC (by decide +kernel) tyX7 tyX7_ok nmX7 rfl (hx5.T (show t < (clr1 S t).1 13 from ht) hT5 hkb).1 (hx5.T (show t < (clr1 S t).1 13 from ht) hT5 hkb).2 4 (by decide) (by decide +kernel) (Or.inl rfl) rfl (tyX7_ok 4 (by decide)) rfl rfl (show 4 < 5 by decide) dX7_grow_21 ?_
  refine g_fx (P := xR cy ((clrT S t)) b5) ((hx5.u18t (show t < (clr1 S t).1 13 from ht) hkb hT5).eqv ⟨⟨rfl, rfl, rfl, rfl⟩, fun _ _ => ⟨rfl, fun _ _ => rfl⟩, fun _ _ => ⟨rfl, fun _ _ => rfl⟩, fun _ _ => ⟨rfl, fun _ _ => rfl⟩, fun _ _ => ⟨rfl, rfl, rfl, rfl, rfl, fun _ _ => rfl, fun _ _ => rfl⟩, fun _ _ => rfl, fun _ _ => ⟨rfl, rfl⟩⟩ ⟨hF.1, hF.2.1, hF.2.2.1, hF.2.2.2⟩ rfl rfl rfl rfl) (fun f6 hx6 => ?_)
  show gW X vwCl 2 L5 f6 1 (2 * S.2.1 15 t) 24 [(0, .ref T)] []
  refine g_iconst hC dX7_grow_24 (v := nI 0) (by decide) ?_
  refine g_istore_n (lv' := [(1, .int (nI 0)), (0, .ref T)]) hC dX7_grow_25 rfl (by decide) rfl ?_
  have lp : ∀ (m : Nat) (k : Nat) (f6 : Nat → va_E), S.2.1 16 t - k < m → (k ≤ S.2.1 16 t) → (xR cy (putsT (clrT S t) t k) b5 L5 f6) → gW X vwCl 2 L5 f6 1 (2 * S.2.1 15 t) 26 [(1, .int (nI k)), (0, .ref T)] [] := by
    intro m
    induction m with
    | zero => intros; omega
    | succ m ih =>
      intro k f6 hm9 hk hx6
      obtain ⟨Z, hZ⟩ : ∃ Z, putsT (clrT S t) t k = Z := ⟨_, rfl⟩
      rw [hZ] at hx6
      have hz := putsT_f (B := clrT S t) (t := t) k
      rw [hZ] at hz
      have htZ : t < Z.1 13 := by rw [hz.1]; exact ht
      have h4Z : Z.1 4 = S.1 4 := by rw [hz.1]; rfl
      have hZo : ∀ j, j ≠ 15 → j ≠ 18 → j ≠ 19 → Z.2.1 j = S.2.1 j := fun j a1 a2 a3 => (hz.2.2 j a3).trans (clrT_f.2.2.2 j a1 a2 a3)
      have h15Z : Z.2.1 15 t = S.2.1 15 t * 2 := by rw [hz.2.2 15 (by decide)]; exact clrT_f.2.2.1
      have h16Z : Z.2.1 16 t = S.2.1 16 t := by rw [hZo 16 (by decide) (by decide) (by decide)]
      have hkZ : Z.2.1 14 t = 0 := by rw [hZo 14 (by decide) (by decide) (by decide)]; exact hkb
      have hlZ : ∀ r, r < Z.1 4 → Z.2.1 5 r ≤ 16 := by rw [h4Z, hZo 5 (by decide) (by decide) (by decide)]; exact hl
      have hlsZ : ∀ u, u < Z.1 13 → Z.2.1 15 u ≤ 256 := fun u hu => by
        rw [hz.2.2 15 (by decide)]
        rw [hz.1] at hu
        by_cases e : u = t
        · subst e; rw [clrT_f.2.2.1]; omega
        · rw [show (clrT S t).2.1 15 u = S.2.1 15 u from va_up_ne _ _ e]; exact hls u hu
      have hszZ : ∃ e, 2 ≤ e ∧ e ≤ 8 ∧ Z.2.1 15 t = 2 ^ e := by
        obtain ⟨e, h1, h2, h3⟩ := he
        exact ⟨e + 1, by omega, by omega, by rw [h15Z, h3, Nat.pow_succ]⟩
      refine g_iload_n hC dX7_grow_26 rfl 0 rfl ?_
      refine g_aload_n hC dX7_grow_27 rfl 1 rfl (Or.inr ⟨_, rfl⟩) ?_
      refine g_get hC (by decide +kernel) rfl (hx6.T htZ hT5 hkZ).1 (hx6.T htZ hT5 hkZ).2 2 (by decide) (by decide +kernel) (Or.inl rfl) rfl dX7_grow_28 ?_
      refine g_icmpN_ge (a := k) (b := Z.2.1 16 t) (tgt := 56) hC dX7_grow_31 (by decide) (by omega) (by omega) (fun h31 => ?_) (fun h31 => ?_)
      · have hkn : k = S.2.1 16 t := by omega
        exact g_vret hC hR dX7_grow_56 ⟨b5, rfl, by show xR cy (putsT (clrT S t) t (S.2.1 16 t)) b5 _ _; rw [← hkn, hZ]; exact hx6, hg5⟩
      · have hrZ : Z.2.1 20 (100 * t + k) < Z.1 4 := by rw [h4Z, hZo 20 (by decide) (by decide) (by decide)]; exact hF.2.2.1 t ht k (by omega)
        have hfrZ : ∃ j, j < Z.2.1 15 t ∧ Z.2.1 19 (256 * t + j) = 0 := cnz_ex _ (by
          have := cnz_puts (B := clrT S t) (t := t) (n := S.2.1 15 t * 2) (cnz_0 _ (fun i hi => clrT_0 hi)) k
          rw [hZ] at this
          rw [h15Z]
          omega)
        have hsoZ : ∀ i, i < Z.2.1 15 t → Z.2.1 19 (256 * t + i) ≤ 100 := fun i hi => by
          have := putsT_le (B := clrT S t) (t := t) (n := S.2.1 15 t * 2) (fun i hi => clrT_0 hi) k i (by omega)
          rw [hZ] at this
          omega
        have hfl : frG Z t (Z.2.1 15 t) (fst0 Z t (Z.2.1 20 (100 * t + k))) < Z.2.1 15 t := frG_lt (by omega) _ _ (Nat.mod_lt _ (by omega))
        refine g_aload_n hC dX7_grow_34 rfl 1 rfl (Or.inr ⟨_, rfl⟩) ?_
        refine g_get hC (by decide +kernel) rfl (hx6.T htZ hT5 hkZ).1 (hx6.T htZ hT5 hkZ).2 1 (by decide) (by decide +kernel) (Or.inl rfl) rfl dX7_grow_35 ?_
        refine g_aload_n hC dX7_grow_38 rfl 1 rfl (Or.inr ⟨_, rfl⟩) ?_
        refine g_aload_n hC dX7_grow_39 rfl 1 rfl (Or.inr ⟨_, rfl⟩) ?_
        refine g_get hC (by decide +kernel) rfl (hx6.T htZ hT5 hkZ).1 (hx6.T htZ hT5 hkZ).2 0 (by decide) (by decide +kernel) (Or.inl rfl) rfl dX7_grow_40 ?_
        refine g_iload_n hC dX7_grow_43 rfl 0 rfl ?_
        refine g_aald hC 4 rfl (hx6.Tt htZ rfl).1 (hx6.Tt htZ rfl).2 (k) rfl (show k < 100 by omega) (by decide) dX7_grow_44 ?_
        refine g_val (w := .ref (b5.1 0 (Z.2.1 20 (100 * t + k)))) (congrArg va_rf (if_pos (show k < Z.2.1 16 t by omega))) ?_
        refine g_V (As := [.ref (b5.1 0 (Z.2.1 20 (100 * t + k)))]) (st := [.ref (b5.1 8 t)]) hC 1 dX7_grow_45 rfl (hx6.T htZ hT5 hkZ).1 (hx6.T htZ hT5 hkZ).2 gX7_grow_X7_freeSlotFor rfl (by decide +kernel) ⟨Nat.le_of_ble_eq_true rfl, Nat.le_of_ble_eq_true rfl⟩ rfl (Nat.le_of_ble_eq_true rfl) ⟨(Nat.le_of_ble_eq_true rfl), (show (2 * S.2.1 15 t) + 0 ≤ (2 * S.2.1 15 t) by omega)⟩ (c2 := 1) (s2 := (2 * S.2.1 15 t)) rfl rfl (x_freeSlotFor_T hx6 t T htZ hT5 hkZ (Z.2.1 20 (100 * t + k)) _ hrZ rfl hlZ hszZ hfrZ hsoZ) ?_
        refine g_iload_n hC dX7_grow_48 rfl 0 rfl ?_
        refine g_iast hC 2 rfl (hx6.Ts htZ rfl).1 (hx6.Ts htZ rfl).2 (frG Z t (Z.2.1 15 t) (fst0 Z t (Z.2.1 20 (100 * t + k)))) rfl (show frG Z t (Z.2.1 15 t) (fst0 Z t (Z.2.1 20 (100 * t + k))) < Z.2.1 15 t by omega) (show Z.2.1 15 t < 2 ^ 31 by omega) dX7_grow_49 ?_
        refine g_fx (P := xR cy (aN Z 19 (256 * t + (frG Z t (Z.2.1 15 t) (fst0 Z t (Z.2.1 20 (100 * t + k))))) (k + 1)) b5) (hx6.slot hlsZ htZ (show frG Z t (Z.2.1 15 t) (fst0 Z t (Z.2.1 20 (100 * t + k))) < Z.2.1 15 t from hfl) rfl) (fun f8 hx8 => ?_)
        refine g_iincN (n := 1) (a := k) (lv' := [(1, .int (nI (k + 1))), (0, .ref T)]) hC dX7_grow_50 0 rfl (by decide) rfl ?_
        refine g_goto (tgt := 26) hC dX7_grow_53 (by decide) ?_
        exact ih (k + 1) f8 (by omega) (by omega) (by rw [show putsT (clrT S t) t (k + 1) = putT (putsT (clrT S t) t k) t k from rfl, hZ]; exact hx8)
  exact lp (S.2.1 16 t + 1) 0 _ (by omega) (by omega) hx6
set_option maxRecDepth 20000 in
set_option maxHeartbeats 4000000 in
theorem x_grow_K {S : aS} {b : xB} (hx : xR cy S b L f) (hF : xF S) (t T : Nat) (ht : t < S.1 13) (hT : b.1 6 t = T) (hkb : S.2.1 14 t ≠ 0) (hl : ∀ r, r < S.1 4 → S.2.1 5 r ≤ 16) (hls : ∀ t, t < S.1 13 → S.2.1 15 t ≤ 256) (he : ∃ e, 2 ≤ e ∧ e ≤ 7 ∧ S.2.1 15 t = 2 ^ e) (hm : S.2.1 16 t ≤ 100) (h43 : 4 * S.2.1 16 t ≤ 6 * S.2.1 15 t) : gCt l D vwCl (gKK D cy adK adV) yX7_grow wsX7_grow { frames := 4, cells := 1, slots := (2 * S.2.1 15 t), locals := 89 } [.ref T] L f (xP cy S b (growS S t) (fun b9 => none)) := by
  refine gCt.of gKK_ok (by decide) rfl rfl (fun X hC hR hnm => ?_)
  have hC : gC X l _ D vwCl (cyT cy) (gKK D cy adK adV) cX7_grow 2 wsX7_grow RX7 := hC
  show gW X vwCl 2 L f 0 0 0 [(0, .ref T)] []
  have hsz8 : 4 ≤ S.2.1 15 t ∧ S.2.1 15 t ≤ 128 := by
    obtain ⟨e, h1, h2, h3⟩ := he
    rw [h3]
    rcases (show e = 2 ∨ e = 3 ∨ e = 4 ∨ e = 5 ∨ e = 6 ∨ e = 7 by omega) with rfl | rfl | rfl | rfl | rfl | rfl <;> decide
  refine g_aload_n hC dX7_grow_0 rfl 0 rfl (Or.inr ⟨_, rfl⟩) ?_
  refine g_iconst hC dX7_grow_1 (v := nI 2) (by decide) ?_
  refine g_aload_n hC dX7_grow_2 rfl 0 rfl (Or.inr ⟨_, rfl⟩) ?_
  refine g_get hC (by decide +kernel) rfl (hx.K ht hT hkb).1 (hx.K ht hT hkb).2 1 (by decide) (by decide +kernel) (Or.inl rfl) rfl dX7_grow_3 ?_
  refine g_alen hC 2 rfl (hx.Ts ht rfl).1 (hx.Ts ht rfl).2 dX7_grow_6 ?_
  refine g_imulN (a := 2) (b := S.2.1 15 t) hC dX7_grow_7 ?_
  refine g_Sx (As := [.int (nI (2 * (S.2.1 15 t)))]) (st := [.ref T]) hC 1 dX7_grow_8 gX7_grow_X7_emptySlots rfl (by decide +kernel) ⟨Nat.le_of_ble_eq_true rfl, Nat.le_of_ble_eq_true rfl⟩ rfl (Nat.le_of_ble_eq_true rfl) ⟨(Nat.le_of_ble_eq_true rfl), (show 0 + (2 * S.2.1 15 t) ≤ (2 * S.2.1 15 t) by omega)⟩ (c2 := 1) (s2 := (0 + (2 * S.2.1 15 t))) rfl rfl (x_emptySlots (2 * S.2.1 15 t) (by omega)) (fun v1 L1 f1 hp1 => ?_)
  obtain ⟨q8, rfl, hq8, rfl, rfl⟩ := hp1
  refine g_wx (P := fun L9 f9 => xR cy S b L9 f9 ∧ xN cy S b L9 f9 q8 (iA (cy 2) (2 * S.2.1 15 t) (fun i => if i < 2 * S.2.1 15 t then -3 else 0))) ⟨hx.more hq8, xN.new hx hq8⟩ (fun L2 f2 hw2 => ?_)
  obtain ⟨hx2, hq8_2⟩ := hw2
  show gW X vwCl 2 L2 f2 1 (0 + (2 * S.2.1 15 t)) 11 [(0, .ref T)] [.ref q8, .ref T]
  refine g_widen (c2 := 1) (s2 := (2 * S.2.1 15 t)) (Nat.le_of_ble_eq_true rfl) (show (0 + (2 * S.2.1 15 t)) ≤ (2 * S.2.1 15 t) by omega) ?_
  refine g_put hC (by decide +kernel) tyX1 tyX1_ok nmX1 rfl (hx2.K ht hT hkb).1 (hx2.K ht hT hkb).2 1 (by decide) (by decide +kernel) (Or.inl rfl) rfl (tyX1_ok 1 (by decide)) rfl rfl (show 1 < 6 by decide) dX7_grow_11 ?_
  refine g_wx (P := fun L9 f9 => ∃ b9, xR cy (clr1 S t) b9 L9 f9 ∧ xG S b b9) ⟨_, hx2.clrk hls ht hkb (by omega) hT hq8_2, xG.mv (Or.inl rfl)⟩ (fun L5 f5 hw5 => ?_)
  obtain ⟨b5, hx5, hg5⟩ := hw5
  have hT5 : b5.1 6 t = T := (hg5 6 t (by decide) (by decide) ht).trans hT
  show gW X vwCl 2 L5 f5 1 (2 * S.2.1 15 t) 14 [(0, .ref T)] []
  refine g_aload_n hC dX7_grow_14 rfl 0 rfl (Or.inr ⟨_, rfl⟩) ?_
  refine g_dup hC dX7_grow_15 rfl ?_
  refine g_get hC (by decide +kernel) rfl (hx5.K (show t < (clr1 S t).1 13 from ht) hT5 hkb).1 (hx5.K (show t < (clr1 S t).1 13 from ht) hT5 hkb).2 4 (by decide) (by decide +kernel) (Or.inl rfl) rfl dX7_grow_16 ?_
  refine g_iconst hC dX7_grow_19 (v := nI 1) (by decide) ?_
  refine g_iaddN (a := ((clr1 S t)).2.1 18 t) (b := 1) hC dX7_grow_20 ?_
  refine g_put hC (by decide +kernel) tyX1 tyX1_ok nmX1 rfl (hx5.K (show t < (clr1 S t).1 13 from ht) hT5 hkb).1 (hx5.K (show t < (clr1 S t).1 13 from ht) hT5 hkb).2 4 (by decide) (by decide +kernel) (Or.inl rfl) rfl (tyX1_ok 4 (by decide)) rfl rfl (show 4 < 6 by decide) dX7_grow_21 ?_
  refine g_fx (P := xR cy ((clrT S t)) b5) ((hx5.u18k (show t < (clr1 S t).1 13 from ht) hkb hT5).eqv ⟨⟨rfl, rfl, rfl, rfl⟩, fun _ _ => ⟨rfl, fun _ _ => rfl⟩, fun _ _ => ⟨rfl, fun _ _ => rfl⟩, fun _ _ => ⟨rfl, fun _ _ => rfl⟩, fun _ _ => ⟨rfl, rfl, rfl, rfl, rfl, fun _ _ => rfl, fun _ _ => rfl⟩, fun _ _ => rfl, fun _ _ => ⟨rfl, rfl⟩⟩ ⟨hF.1, hF.2.1, hF.2.2.1, hF.2.2.2⟩ rfl rfl rfl rfl) (fun f6 hx6 => ?_)
  show gW X vwCl 2 L5 f6 1 (2 * S.2.1 15 t) 24 [(0, .ref T)] []
  refine g_iconst hC dX7_grow_24 (v := nI 0) (by decide) ?_
  refine g_istore_n (lv' := [(1, .int (nI 0)), (0, .ref T)]) hC dX7_grow_25 rfl (by decide) rfl ?_
  have lp : ∀ (m : Nat) (k : Nat) (f6 : Nat → va_E), S.2.1 16 t - k < m → (k ≤ S.2.1 16 t) → (xR cy (putsT (clrT S t) t k) b5 L5 f6) → gW X vwCl 2 L5 f6 1 (2 * S.2.1 15 t) 26 [(1, .int (nI k)), (0, .ref T)] [] := by
    intro m
    induction m with
    | zero => intros; omega
    | succ m ih =>
      intro k f6 hm9 hk hx6
      obtain ⟨Z, hZ⟩ : ∃ Z, putsT (clrT S t) t k = Z := ⟨_, rfl⟩
      rw [hZ] at hx6
      have hz := putsT_f (B := clrT S t) (t := t) k
      rw [hZ] at hz
      have htZ : t < Z.1 13 := by rw [hz.1]; exact ht
      have h4Z : Z.1 4 = S.1 4 := by rw [hz.1]; rfl
      have hZo : ∀ j, j ≠ 15 → j ≠ 18 → j ≠ 19 → Z.2.1 j = S.2.1 j := fun j a1 a2 a3 => (hz.2.2 j a3).trans (clrT_f.2.2.2 j a1 a2 a3)
      have h15Z : Z.2.1 15 t = S.2.1 15 t * 2 := by rw [hz.2.2 15 (by decide)]; exact clrT_f.2.2.1
      have h16Z : Z.2.1 16 t = S.2.1 16 t := by rw [hZo 16 (by decide) (by decide) (by decide)]
      have hkZ : Z.2.1 14 t ≠ 0 := by rw [hZo 14 (by decide) (by decide) (by decide)]; exact hkb
      have hlZ : ∀ r, r < Z.1 4 → Z.2.1 5 r ≤ 16 := by rw [h4Z, hZo 5 (by decide) (by decide) (by decide)]; exact hl
      have hlsZ : ∀ u, u < Z.1 13 → Z.2.1 15 u ≤ 256 := fun u hu => by
        rw [hz.2.2 15 (by decide)]
        rw [hz.1] at hu
        by_cases e : u = t
        · subst e; rw [clrT_f.2.2.1]; omega
        · rw [show (clrT S t).2.1 15 u = S.2.1 15 u from va_up_ne _ _ e]; exact hls u hu
      have hszZ : ∃ e, 2 ≤ e ∧ e ≤ 8 ∧ Z.2.1 15 t = 2 ^ e := by
        obtain ⟨e, h1, h2, h3⟩ := he
        exact ⟨e + 1, by omega, by omega, by rw [h15Z, h3, Nat.pow_succ]⟩
      refine g_iload_n hC dX7_grow_26 rfl 0 rfl ?_
      refine g_aload_n hC dX7_grow_27 rfl 1 rfl (Or.inr ⟨_, rfl⟩) ?_
      refine g_get hC (by decide +kernel) rfl (hx6.K htZ hT5 hkZ).1 (hx6.K htZ hT5 hkZ).2 2 (by decide) (by decide +kernel) (Or.inl rfl) rfl dX7_grow_28 ?_
      refine g_icmpN_ge (a := k) (b := Z.2.1 16 t) (tgt := 56) hC dX7_grow_31 (by decide) (by omega) (by omega) (fun h31 => ?_) (fun h31 => ?_)
      · have hkn : k = S.2.1 16 t := by omega
        exact g_vret hC hR dX7_grow_56 ⟨b5, rfl, by show xR cy (putsT (clrT S t) t (S.2.1 16 t)) b5 _ _; rw [← hkn, hZ]; exact hx6, hg5⟩
      · have hrZ : Z.2.1 20 (100 * t + k) < Z.1 4 := by rw [h4Z, hZo 20 (by decide) (by decide) (by decide)]; exact hF.2.2.1 t ht k (by omega)
        have hfrZ : ∃ j, j < Z.2.1 15 t ∧ Z.2.1 19 (256 * t + j) = 0 := cnz_ex _ (by
          have := cnz_puts (B := clrT S t) (t := t) (n := S.2.1 15 t * 2) (cnz_0 _ (fun i hi => clrT_0 hi)) k
          rw [hZ] at this
          rw [h15Z]
          omega)
        have hsoZ : ∀ i, i < Z.2.1 15 t → Z.2.1 19 (256 * t + i) ≤ 100 := fun i hi => by
          have := putsT_le (B := clrT S t) (t := t) (n := S.2.1 15 t * 2) (fun i hi => clrT_0 hi) k i (by omega)
          rw [hZ] at this
          omega
        have hfl : frG Z t (Z.2.1 15 t) (fst0 Z t (Z.2.1 20 (100 * t + k))) < Z.2.1 15 t := frG_lt (by omega) _ _ (Nat.mod_lt _ (by omega))
        refine g_aload_n hC dX7_grow_34 rfl 1 rfl (Or.inr ⟨_, rfl⟩) ?_
        refine g_get hC (by decide +kernel) rfl (hx6.K htZ hT5 hkZ).1 (hx6.K htZ hT5 hkZ).2 1 (by decide) (by decide +kernel) (Or.inl rfl) rfl dX7_grow_35 ?_
        refine g_aload_n hC dX7_grow_38 rfl 1 rfl (Or.inr ⟨_, rfl⟩) ?_
        refine g_aload_n hC dX7_grow_39 rfl 1 rfl (Or.inr ⟨_, rfl⟩) ?_
        refine g_get hC (by decide +kernel) rfl (hx6.K htZ hT5 hkZ).1 (hx6.K htZ hT5 hkZ).2 0 (by decide) (by decide +kernel) (Or.inl rfl) rfl dX7_grow_40 ?_
        refine g_iload_n hC dX7_grow_43 rfl 0 rfl ?_
        refine g_aald hC 4 rfl (hx6.Tt htZ rfl).1 (hx6.Tt htZ rfl).2 (k) rfl (show k < 100 by omega) (by decide) dX7_grow_44 ?_
        refine g_val (w := .ref (b5.1 0 (Z.2.1 20 (100 * t + k)))) (congrArg va_rf (if_pos (show k < Z.2.1 16 t by omega))) ?_
        refine g_U (As := [.ref (b5.1 0 (Z.2.1 20 (100 * t + k)))]) (st := [.ref (b5.1 8 t)]) hC 1 dX7_grow_45 rfl (hx6.K htZ hT5 hkZ).1 (hx6.K htZ hT5 hkZ).2 gX7_grow_X7_freeSlotFor_u80X1 rfl rfl (by decide +kernel) ⟨Nat.le_of_ble_eq_true rfl, Nat.le_of_ble_eq_true rfl⟩ rfl (Nat.le_of_ble_eq_true rfl) ⟨(Nat.le_of_ble_eq_true rfl), (show (2 * S.2.1 15 t) + 0 ≤ (2 * S.2.1 15 t) by omega)⟩ (c2 := 1) (s2 := (2 * S.2.1 15 t)) rfl rfl (x_freeSlotFor_K hx6 t T htZ hT5 hkZ (Z.2.1 20 (100 * t + k)) _ hrZ rfl hlZ hszZ hfrZ hsoZ) ?_
        refine g_iload_n hC dX7_grow_48 rfl 0 rfl ?_
        refine g_iast hC 2 rfl (hx6.Ts htZ rfl).1 (hx6.Ts htZ rfl).2 (frG Z t (Z.2.1 15 t) (fst0 Z t (Z.2.1 20 (100 * t + k)))) rfl (show frG Z t (Z.2.1 15 t) (fst0 Z t (Z.2.1 20 (100 * t + k))) < Z.2.1 15 t by omega) (show Z.2.1 15 t < 2 ^ 31 by omega) dX7_grow_49 ?_
        refine g_fx (P := xR cy (aN Z 19 (256 * t + (frG Z t (Z.2.1 15 t) (fst0 Z t (Z.2.1 20 (100 * t + k))))) (k + 1)) b5) (hx6.slot hlsZ htZ (show frG Z t (Z.2.1 15 t) (fst0 Z t (Z.2.1 20 (100 * t + k))) < Z.2.1 15 t from hfl) rfl) (fun f8 hx8 => ?_)
        refine g_iincN (n := 1) (a := k) (lv' := [(1, .int (nI (k + 1))), (0, .ref T)]) hC dX7_grow_50 0 rfl (by decide) rfl ?_
        refine g_goto (tgt := 26) hC dX7_grow_53 (by decide) ?_
        exact ih (k + 1) f8 (by omega) (by omega) (by rw [show putsT (clrT S t) t (k + 1) = putT (putsT (clrT S t) t k) t k from rfl, hZ]; exact hx8)
  exact lp (S.2.1 16 t + 1) 0 _ (by omega) (by omega) hx6
end X7
