theorem byte_c {x : Int32} (hx : x.toInt8.toInt32 = x) {c : Nat} (hc : c < 128) : x &&& nI 255 = nI c ↔ x = nI c := by
  have h1 : x &&& nI 255 = nI (x.toBitVec.toNat % 256) := pk_and x 8 (pk_tn (by decide))
  have hf := fit_b hx
  have hb : -128 ≤ x ∧ x ≤ 127 := by simpa [fits] using hf
  have b1 := hb.1
  have b2 := hb.2
  rw [Int32.le_iff_toInt_le] at b1 b2
  have c1 : (-128 : Int32).toInt = -128 := rfl
  have c2 : (127 : Int32).toInt = 127 := rfl
  have e : x.toInt = if 2 * x.toBitVec.toNat < 2 ^ 32 then (x.toBitVec.toNat : Int) else (x.toBitVec.toNat : Int) - 2 ^ 32 := by
    show x.toBitVec.toInt = _
    rw [BitVec.toInt_eq_toNat_cond]
    rfl
  have hl := x.toBitVec.isLt
  rw [h1]
  have hi : ∀ y : Int32, y = nI c ↔ y.toInt = (c : Int) := fun y => ⟨fun h => by rw [h, nI_toInt (by omega)], fun h => Int32.toInt_inj.mp (by rw [h, nI_toInt (by omega)])⟩
  rw [hi, hi, nI_toInt (by omega)]
  split at e <;> omega
theorem kB_n : ∀ i, i < 8 → ∀ j, j < kLen.getD i 0 → (kByt.getD i []).getD j 0 = nI ((kByt.getD i []).getD j 0).toNatClampNeg ∧ ((kByt.getD i []).getD j 0).toNatClampNeg < 128 := by decide
theorem nmG_cg {h h2 : Nat → Int32} {n v : Nat} (hq : ∀ k, k < n → ∀ c, c < 128 → (h k = nI c ↔ h2 k = nI c)) (H : nmG h n v) : nmG h2 n v := by
  have hs : ∀ i, i < 8 → (spT h n i ↔ spT h2 n i) := by
    intro i hi
    unfold spT
    constructor
    · rintro ⟨e, hk⟩
      refine ⟨e, fun j hj => ?_⟩
      obtain ⟨z1, z2⟩ := kB_n i hi j (by omega)
      have := hk j hj
      rw [z1] at this ⊢
      exact (hq j hj _ z2).mp this
    · rintro ⟨e, hk⟩
      refine ⟨e, fun j hj => ?_⟩
      obtain ⟨z1, z2⟩ := kB_n i hi j (by omega)
      have := hk j hj
      rw [z1] at this ⊢
      exact (hq j hj _ z2).mpr this
  rcases H with ⟨a, b, c⟩ | ⟨a, b⟩
  · exact Or.inl ⟨a, b, (hs _ (by omega)).mp c⟩
  · exact Or.inr ⟨a, fun i hi z => b i hi ((hs i hi).mpr z)⟩
theorem pair_1 {S : aS} {j i : Nat} (a : atS S j i = nI 65) (b : atS S j (i + 1) = nI 97) : pairS S j i = 1 := if_pos ⟨a, b⟩
theorem pair_2 {S : aS} {j i : Nat} (a : atS S j i = nI 66) (b : atS S j (i + 1) = nI 66) : pairS S j i = 2 := by
  unfold pairS
  rw [if_neg (by rw [a]; exact fun z => absurd z.1 (by decide)), if_pos ⟨a, b⟩]
theorem pair_c {S : aS} {j i : Nat} (h : pairS S j i ≠ 0) : (atS S j i = nI 65 ∧ atS S j (i + 1) = nI 97) ∨ (atS S j i = nI 66 ∧ atS S j (i + 1) = nI 66) := by
  unfold pairS at h
  by_cases e : atS S j i = nI 65 ∧ atS S j (i + 1) = nI 97
  · exact Or.inl e
  · rw [if_neg e] at h
    by_cases e2 : atS S j i = nI 66 ∧ atS S j (i + 1) = nI 66
    · exact Or.inr e2
    · rw [if_neg e2] at h; omega
theorem nam_v {S : aS} {j v : Nat} (H : nmG (atS S j) (longS S j) v) : v = namS S j := by
  rcases H with ⟨v1, v2, hn, hv⟩ | ⟨rfl, h⟩
  · rcases (show v = 1 ∨ v = 2 ∨ v = 3 ∨ v = 4 ∨ v = 5 ∨ v = 6 ∨ v = 7 ∨ v = 8 by omega) with rfl | rfl | rfl | rfl | rfl | rfl | rfl | rfl
    · have hn : longS S j = 2 := hn
      unfold namS
      rw [if_neg (by omega), if_pos hn, if_neg (by rw [show atS S j 0 = nI 65 from hv 0 (by omega)]; exact fun z => absurd z.1 (by decide)), pair_1 (hv 0 (by omega)) (hv 1 (by omega))]
    · have hn : longS S j = 2 := hn
      unfold namS
      rw [if_neg (by omega), if_pos hn, if_neg (by rw [show atS S j 0 = nI 66 from hv 0 (by omega)]; exact fun z => absurd z.1 (by decide)), pair_2 (hv 0 (by omega)) (hv 1 (by omega))]
    · have hn : longS S j = 4 := hn
      unfold namS
      rw [if_neg (by omega), if_neg (by omega), if_pos hn, pair_1 (hv 0 (by omega)) (hv 1 (by omega)), pair_1 (hv 2 (by omega)) (hv 3 (by omega))]
      rfl
    · have hn : longS S j = 4 := hn
      unfold namS
      rw [if_neg (by omega), if_neg (by omega), if_pos hn, pair_1 (hv 0 (by omega)) (hv 1 (by omega)), pair_2 (hv 2 (by omega)) (hv 3 (by omega))]
      rfl
    · have hn : longS S j = 4 := hn
      unfold namS
      rw [if_neg (by omega), if_neg (by omega), if_pos hn, pair_2 (hv 0 (by omega)) (hv 1 (by omega)), pair_1 (hv 2 (by omega)) (hv 3 (by omega))]
      rfl
    · have hn : longS S j = 4 := hn
      unfold namS
      rw [if_neg (by omega), if_neg (by omega), if_pos hn, pair_2 (hv 0 (by omega)) (hv 1 (by omega)), pair_2 (hv 2 (by omega)) (hv 3 (by omega))]
      rfl
    · have hn : longS S j = 2 := hn
      unfold namS
      rw [if_neg (by omega), if_pos hn, if_pos ⟨hv 0 (by omega), hv 1 (by omega)⟩]
    · have hn : longS S j = 0 := hn
      unfold namS
      rw [if_pos hn]
  · unfold namS
    by_cases e0 : longS S j = 0
    · exact absurd (show spT (atS S j) (longS S j) 7 from ⟨e0, fun k hk => absurd hk (by omega)⟩) (h 7 (by decide))
    · rw [if_neg e0]
      have t2 : ∀ i c0 c1, i < 8 → longS S j = 2 → kLen.getD i 0 = 2 → (kByt.getD i []).getD 0 0 = c0 → (kByt.getD i []).getD 1 0 = c1 → ¬ (atS S j 0 = c0 ∧ atS S j 1 = c1) := fun i c0 c1 hi e2 hk h0 h1 z => h i hi ⟨by omega, fun k hk2 => by
        rcases (show k = 0 ∨ k = 1 by omega) with rfl | rfl
        · rw [h0]; exact z.1
        · rw [h1]; exact z.2⟩
      by_cases e2 : longS S j = 2
      · rw [if_pos e2, if_neg (t2 6 (nI 105) (nI 100) (by decide) e2 rfl rfl rfl)]
        unfold pairS
        rw [if_neg (t2 0 (nI 65) (nI 97) (by decide) e2 rfl rfl rfl), if_neg (t2 1 (nI 66) (nI 66) (by decide) e2 rfl rfl rfl)]
      · rw [if_neg e2]
        by_cases e4 : longS S j = 4
        · rw [if_pos e4]
          have t4 : ∀ i c0 c1 c2 c3, i < 8 → kLen.getD i 0 = 4 → (kByt.getD i []).getD 0 0 = c0 → (kByt.getD i []).getD 1 0 = c1 → (kByt.getD i []).getD 2 0 = c2 → (kByt.getD i []).getD 3 0 = c3 → atS S j 0 = c0 → atS S j 1 = c1 → atS S j 2 = c2 → atS S j 3 = c3 → False := fun i c0 c1 c2 c3 hi hk h0 h1 h2 h3 z0 z1 z2 z3 => h i hi ⟨by omega, fun k hk2 => by
            rcases (show k = 0 ∨ k = 1 ∨ k = 2 ∨ k = 3 by omega) with rfl | rfl | rfl | rfl
            · rw [h0]; exact z0
            · rw [h1]; exact z1
            · rw [h2]; exact z2
            · rw [h3]; exact z3⟩
          by_cases p : pairS S j 0 = 0 ∨ pairS S j 2 = 0
          · rw [if_pos p]
          · exfalso
            rcases pair_c (fun z => p (Or.inl z)) with ⟨a0, a1⟩ | ⟨a0, a1⟩ <;> rcases pair_c (fun z => p (Or.inr z)) with ⟨a2, a3⟩ | ⟨a2, a3⟩
            · exact t4 2 _ _ _ _ (by decide) rfl rfl rfl rfl rfl a0 a1 a2 a3
            · exact t4 3 _ _ _ _ (by decide) rfl rfl rfl rfl rfl a0 a1 a2 a3
            · exact t4 4 _ _ _ _ (by decide) rfl rfl rfl rfl rfl a0 a1 a2 a3
            · exact t4 5 _ _ _ _ (by decide) rfl rfl rfl rfl rfl a0 a1 a2 a3
        · rw [if_neg e4]
section Y7
variable {l : Launch} {D : va_G} {cy adK adV : Nat → Nat} {L : List Nat} {f : Nat → va_E}
set_option maxRecDepth 20000 in
set_option maxHeartbeats 4000000 in
theorem y_named {S : aS} {b : xB} (hx : xR cy S b L f) (hI : aI S) (M : Nat) (hM : b.1 9 0 = M) (p : Int32) : gCt l D vwCl (gKS D cy adK adV) yX9_named wsX9_named { frames := 7, cells := 0, slots := 0, locals := 150 } [.ref M, .int p] L f (xP cy S b (s_named S p).2 (fun _ => some (.int (s_named S p).1))) := by
  refine gCt.of gKS_ok (by decide) rfl rfl (fun X hC hR hnm => ?_)
  have hC : gC X l _ D vwCl (cyT cy) (gKS D cy adK adV) cX9_named 3 wsX9_named RX9 := hC
  have hx0 := hx.th0
  have hI0 := hI.th
  show gW X vwCl 3 L f 0 0 0 [(0, .ref M), (1, .int p)] []
  refine g_iload_n hC dX9_named_0 rfl 1 rfl ?_
  refine g_S (As := [.int p]) (st := []) hC 1 dX9_named_1 gX9_named_X9_isPlace rfl (by decide +kernel) ⟨Nat.le_of_ble_eq_true rfl, Nat.le_of_ble_eq_true rfl⟩ rfl (Nat.le_of_ble_eq_true rfl) ⟨Nat.le_of_ble_eq_true rfl, Nat.le_of_ble_eq_true rfl⟩ (c2 := 0) (s2 := 0) rfl rfl ((x_isPlace _).K gKS_K) ?_
  refine g_ifB_ne (P := isP p) (tgt := 9) hC dX9_named_4 (by decide) (fun h4 => ?_) (fun h4 => ?_)
  · obtain ⟨pj, hpj, rfl⟩ := isP_j h4
    have hpl_p : pl (nI pj) = pj := nI_clamp (by omega)
    refine g_aload_n hC dX9_named_9 rfl 0 rfl (Or.inr ⟨_, rfl⟩) ?_
    refine g_get hC (by decide +kernel) rfl (hx0.M hM).1 (hx0.M hM).2 0 (by decide) (by decide +kernel) (Or.inl rfl) rfl dX9_named_10 ?_
    refine g_iload_n hC dX9_named_13 rfl 1 rfl ?_
    have h5_p := hI.k5 hpj
    rcases (show kd S pj = 0 ∨ kd S pj = 1 ∨ kd S pj = 2 ∨ kd S pj = 3 ∨ kd S pj = 4 ∨ kd S pj = 5 by omega) with hk_p | hk_p | hk_p | hk_p | hk_p | hk_p
    · have hp0_p : plcF (thS S) b pj = none := plc_0 hpj hk_p
      refine g_aald hC 5 rfl (hx0.Mp rfl).1 (hx0.Mp rfl).2 (pj) rfl (show pj < 10 by omega) (by decide) dX9_named_14 ?_
      refine g_val (w := .null) (congrArg va_rf hp0_p) ?_
      refine g_ifnonnull (o := none) (tgt := 24) hC dX9_named_15 (by decide) (fun a15 h15 => ?_) (fun h15 => ?_)
      · cases h15
      · refine g_aload_n hC dX9_named_18 rfl 0 rfl (Or.inr ⟨_, rfl⟩) ?_
        refine g_iconst hC dX9_named_19 (v := nI 1) (by decide) ?_
        refine g_Vx (As := [.int (nI 1)]) (st := []) hC 1 dX9_named_20 rfl (hx0.M hM).1 (hx0.M hM).2 gX9_named_X9_failed rfl (by decide +kernel) ⟨Nat.le_of_ble_eq_true rfl, Nat.le_of_ble_eq_true rfl⟩ rfl (Nat.le_of_ble_eq_true rfl) ⟨(Nat.le_of_ble_eq_true rfl), (Nat.le_of_ble_eq_true rfl)⟩ (c2 := 0) (s2 := 0) rfl rfl ((x_failed hx0 M hM 1).K gKS_K) (fun v1 L1 f1 hp1 => ?_)
        obtain ⟨rfl, hx1⟩ := hp1
        show gW X vwCl 3 L1 f1 0 0 23 [(0, .ref M), (1, .int (nI pj))] [.int (fA 1)]
        have hE : s_named S (nI pj) = (fA 1, (aSc (thS S) 1 1)) := by
          unfold s_named
          rw [if_pos h4, hpl_p, if_pos hk_p] <;> rfl
        exact g_iret hC hR dX9_named_23 ⟨b, congrArg (fun z => some (Value.int (Prod.fst z))) hE.symm, by rw [hE]; exact hx1, xG.rf⟩
    · have hw_p : wh S pj < S.1 4 := hI.wl hpj hk_p
      have hp0_p : plcF (thS S) b pj = some (b.1 0 (wh S pj)) := plc_k hpj hk_p (by decide)
      refine g_aald hC 5 rfl (hx0.Mp rfl).1 (hx0.Mp rfl).2 (pj) rfl (show pj < 10 by omega) (by decide) dX9_named_14 ?_
      refine g_val (w := .ref (b.1 0 (wh S pj))) (congrArg va_rf hp0_p) ?_
      refine g_ifnonnull (o := some (b.1 0 (wh S pj))) (tgt := 24) hC dX9_named_15 (by decide) (fun a15 h15 => ?_) (fun h15 => ?_)
      · refine g_aload_n hC dX9_named_24 rfl 0 rfl (Or.inr ⟨_, rfl⟩) ?_
        refine g_get hC (by decide +kernel) rfl (hx0.M hM).1 (hx0.M hM).2 0 (by decide) (by decide +kernel) (Or.inl rfl) rfl dX9_named_25 ?_
        refine g_iload_n hC dX9_named_28 rfl 1 rfl ?_
        refine g_aald hC 5 rfl (hx0.Mp rfl).1 (hx0.Mp rfl).2 (pj) rfl (show pj < 10 by omega) (by decide) dX9_named_29 ?_
        refine g_val (w := .ref (b.1 0 (wh S pj))) (congrArg va_rf hp0_p) ?_
        refine g_S (As := [.ref (b.1 0 (wh S pj))]) (st := []) hC 1 dX9_named_30 gX9_named_X9_asNumbers rfl (by decide +kernel) ⟨Nat.le_of_ble_eq_true rfl, Nat.le_of_ble_eq_true rfl⟩ rfl (Nat.le_of_ble_eq_true rfl) ⟨Nat.le_of_ble_eq_true rfl, Nat.le_of_ble_eq_true rfl⟩ (c2 := 0) (s2 := 0) rfl rfl ((x_asNumbers (some (b.1 0 (wh S pj))) 1 (Or.inr ⟨_, 0, _, rfl, (hx0.B hw_p rfl), Or.inl ⟨rfl, rfl⟩⟩)).K gKS_K) ?_
        refine g_astore_n (lv' := [(2, .ref (b.1 0 (wh S pj))), (0, .ref M), (1, .int (nI pj))]) hC dX9_named_33 rfl (by decide) rfl (Or.inr ⟨_, rfl⟩) ?_
        refine g_aload_n hC dX9_named_34 rfl 0 rfl (Or.inr ⟨_, rfl⟩) ?_
        refine g_ifnonnull (o := some (b.1 0 (wh S pj))) (tgt := 46) hC dX9_named_35 (by decide) (fun a35 h35 => ?_) (fun h35 => ?_)
        · refine g_aload_n hC dX9_named_46 rfl 0 rfl (Or.inr ⟨_, rfl⟩) ?_
          refine g_Sx (As := [.ref (b.1 0 (wh S pj))]) (st := []) hC 1 dX9_named_47 gX9_named_X9_nameOf rfl (by decide +kernel) ⟨Nat.le_of_ble_eq_true rfl, Nat.le_of_ble_eq_true rfl⟩ rfl (Nat.le_of_ble_eq_true rfl) ⟨(Nat.le_of_ble_eq_true rfl), (Nat.le_of_ble_eq_true rfl)⟩ (c2 := 0) (s2 := 0) rfl rfl (x_nameOf_B _ _ _ _ (hx0.isB hw_p rfl (hI.bl hw_p))) (fun v1 L1 f1 hp1 => ?_)
          obtain ⟨hL1, hf1, v9, rfl, hnm9⟩ := hp1
          rw [hL1, hf1]
          show gW X vwCl 3 L f 0 0 50 [(2, .ref (b.1 0 (wh S pj))), (0, .ref M), (1, .int (nI pj))] [.int (nI v9)]
          have hlg : longS S pj = S.2.1 5 (wh S pj) := by unfold longS; rw [hk_p] <;> rfl
          have hv9 : v9 = namS S pj := nam_v (by
            rw [hlg]
            refine nmG_cg (fun k hk c hc => ?_) hnm9
            have hat : atS S pj k = S.2.2 6 (16 * wh S pj + k) := by unfold atS; rw [hk_p] <;> rfl
            have hbc : bcF (thS S) (wh S pj) k = S.2.2 6 (16 * wh S pj + k) := if_pos hk
            rw [hat]
            show bcF (thS S) (wh S pj) k &&& nI 255 = nI c ↔ _
            rw [hbc]
            exact byte_c (hI.2.2.2.2.2.2.2.2.1 _ (by have := hI.bl hw_p; omega)) hc)
          have hE : s_named S (nI pj) = (nI v9, (thS S)) := by
            unfold s_named
            rw [if_pos h4, hpl_p, if_neg (show ¬ kd S pj = 0 by omega), if_neg (show ¬ 2 < kd S pj by omega), ← hv9] <;> rfl
          exact g_iret hC hR dX9_named_50 ⟨b, congrArg (fun z => some (Value.int (Prod.fst z))) hE.symm, by rw [hE]; exact hx0, xG.rf⟩
        · cases h35
      · cases h15
    · have hw_p : wh S pj < S.1 7 := hI.ws hpj hk_p
      have hp0_p : plcF (thS S) b pj = some (b.1 2 (wh S pj)) := plc_k hpj hk_p (by decide)
      refine g_aald hC 5 rfl (hx0.Mp rfl).1 (hx0.Mp rfl).2 (pj) rfl (show pj < 10 by omega) (by decide) dX9_named_14 ?_
      refine g_val (w := .ref (b.1 2 (wh S pj))) (congrArg va_rf hp0_p) ?_
      refine g_ifnonnull (o := some (b.1 2 (wh S pj))) (tgt := 24) hC dX9_named_15 (by decide) (fun a15 h15 => ?_) (fun h15 => ?_)
      · refine g_aload_n hC dX9_named_24 rfl 0 rfl (Or.inr ⟨_, rfl⟩) ?_
        refine g_get hC (by decide +kernel) rfl (hx0.M hM).1 (hx0.M hM).2 0 (by decide) (by decide +kernel) (Or.inl rfl) rfl dX9_named_25 ?_
        refine g_iload_n hC dX9_named_28 rfl 1 rfl ?_
        refine g_aald hC 5 rfl (hx0.Mp rfl).1 (hx0.Mp rfl).2 (pj) rfl (show pj < 10 by omega) (by decide) dX9_named_29 ?_
        refine g_val (w := .ref (b.1 2 (wh S pj))) (congrArg va_rf hp0_p) ?_
        refine g_S (As := [.ref (b.1 2 (wh S pj))]) (st := []) hC 1 dX9_named_30 gX9_named_X9_asNumbers rfl (by decide +kernel) ⟨Nat.le_of_ble_eq_true rfl, Nat.le_of_ble_eq_true rfl⟩ rfl (Nat.le_of_ble_eq_true rfl) ⟨Nat.le_of_ble_eq_true rfl, Nat.le_of_ble_eq_true rfl⟩ (c2 := 0) (s2 := 0) rfl rfl ((x_asNumbers (some (b.1 2 (wh S pj))) 2 (Or.inr ⟨_, 4, _, rfl, (hx0.G hw_p rfl), Or.inr (Or.inl ⟨rfl, rfl⟩)⟩)).K gKS_K) ?_
        refine g_astore_n (lv' := [(2, .ref (b.1 2 (wh S pj))), (0, .ref M), (1, .int (nI pj))]) hC dX9_named_33 rfl (by decide) rfl (Or.inr ⟨_, rfl⟩) ?_
        refine g_aload_n hC dX9_named_34 rfl 0 rfl (Or.inr ⟨_, rfl⟩) ?_
        refine g_ifnonnull (o := some (b.1 2 (wh S pj))) (tgt := 46) hC dX9_named_35 (by decide) (fun a35 h35 => ?_) (fun h35 => ?_)
        · refine g_aload_n hC dX9_named_46 rfl 0 rfl (Or.inr ⟨_, rfl⟩) ?_
          refine g_Sx (As := [.ref (b.1 2 (wh S pj))]) (st := []) hC 1 dX9_named_47 gX9_named_X9_nameOf rfl (by decide +kernel) ⟨Nat.le_of_ble_eq_true rfl, Nat.le_of_ble_eq_true rfl⟩ rfl (Nat.le_of_ble_eq_true rfl) ⟨(Nat.le_of_ble_eq_true rfl), (Nat.le_of_ble_eq_true rfl)⟩ (c2 := 0) (s2 := 0) rfl rfl (x_nameOf_S _ _ _ _ (hx0.isS hw_p rfl (hI.2.2.2.1 _ hw_p))) (fun v1 L1 f1 hp1 => ?_)
          obtain ⟨hL1, hf1, v9, rfl, hnm9⟩ := hp1
          rw [hL1, hf1]
          show gW X vwCl 3 L f 0 0 50 [(2, .ref (b.1 2 (wh S pj))), (0, .ref M), (1, .int (nI pj))] [.int (nI v9)]
          have hlg : longS S pj = S.2.1 8 (wh S pj) := by unfold longS; rw [hk_p] <;> rfl
          have hv9 : v9 = namS S pj := nam_v (by
            rw [hlg]
            refine nmG_cg (fun k hk c hc => ?_) hnm9
            have hat : atS S pj k = S.2.2 9 (16 * wh S pj + k) := by unfold atS; rw [hk_p] <;> rfl
            have hbc : scF (thS S) (wh S pj) k = S.2.2 9 (16 * wh S pj + k) := if_pos hk
            rw [hat]
            show scF (thS S) (wh S pj) k = nI c ↔ _
            rw [hbc]
            skip)
          have hE : s_named S (nI pj) = (nI v9, (thS S)) := by
            unfold s_named
            rw [if_pos h4, hpl_p, if_neg (show ¬ kd S pj = 0 by omega), if_neg (show ¬ 2 < kd S pj by omega), ← hv9] <;> rfl
          exact g_iret hC hR dX9_named_50 ⟨b, congrArg (fun z => some (Value.int (Prod.fst z))) hE.symm, by rw [hE]; exact hx0, xG.rf⟩
        · cases h35
      · cases h15
    · have hw_p : wh S pj < S.1 10 := hI.wr hpj hk_p
      have hp0_p : plcF (thS S) b pj = some (b.1 4 (wh S pj)) := plc_k hpj hk_p (by decide)
      refine g_aald hC 5 rfl (hx0.Mp rfl).1 (hx0.Mp rfl).2 (pj) rfl (show pj < 10 by omega) (by decide) dX9_named_14 ?_
      refine g_val (w := .ref (b.1 4 (wh S pj))) (congrArg va_rf hp0_p) ?_
      refine g_ifnonnull (o := some (b.1 4 (wh S pj))) (tgt := 24) hC dX9_named_15 (by decide) (fun a15 h15 => ?_) (fun h15 => ?_)
      · refine g_aload_n hC dX9_named_24 rfl 0 rfl (Or.inr ⟨_, rfl⟩) ?_
        refine g_get hC (by decide +kernel) rfl (hx0.M hM).1 (hx0.M hM).2 0 (by decide) (by decide +kernel) (Or.inl rfl) rfl dX9_named_25 ?_
        refine g_iload_n hC dX9_named_28 rfl 1 rfl ?_
        refine g_aald hC 5 rfl (hx0.Mp rfl).1 (hx0.Mp rfl).2 (pj) rfl (show pj < 10 by omega) (by decide) dX9_named_29 ?_
        refine g_val (w := .ref (b.1 4 (wh S pj))) (congrArg va_rf hp0_p) ?_
        refine g_S (As := [.ref (b.1 4 (wh S pj))]) (st := []) hC 1 dX9_named_30 gX9_named_X9_asNumbers rfl (by decide +kernel) ⟨Nat.le_of_ble_eq_true rfl, Nat.le_of_ble_eq_true rfl⟩ rfl (Nat.le_of_ble_eq_true rfl) ⟨Nat.le_of_ble_eq_true rfl, Nat.le_of_ble_eq_true rfl⟩ (c2 := 0) (s2 := 0) rfl rfl ((x_asNumbers (some (b.1 4 (wh S pj))) 3 (Or.inr ⟨_, 3, _, rfl, (hx0.W hw_p rfl), Or.inr (Or.inr (Or.inl ⟨rfl, rfl⟩))⟩)).K gKS_K) ?_
        refine g_astore_n (lv' := [(2, .null), (0, .ref M), (1, .int (nI pj))]) hC dX9_named_33 rfl (by decide) rfl (Or.inl rfl) ?_
        refine g_aload_n hC dX9_named_34 rfl 0 rfl (Or.inl rfl) ?_
        refine g_ifnonnull (o := none) (tgt := 46) hC dX9_named_35 (by decide) (fun a35 h35 => ?_) (fun h35 => ?_)
        · cases h35
        · refine g_aload_n hC dX9_named_38 rfl 1 rfl (Or.inr ⟨_, rfl⟩) ?_
          refine g_iconst hC dX9_named_39 (v := nI 2) (by decide) ?_
          refine g_Vx (As := [.int (nI 2)]) (st := []) hC 1 dX9_named_40 rfl (hx0.M hM).1 (hx0.M hM).2 gX9_named_X9_failed rfl (by decide +kernel) ⟨Nat.le_of_ble_eq_true rfl, Nat.le_of_ble_eq_true rfl⟩ rfl (Nat.le_of_ble_eq_true rfl) ⟨(Nat.le_of_ble_eq_true rfl), (Nat.le_of_ble_eq_true rfl)⟩ (c2 := 0) (s2 := 0) rfl rfl ((x_failed hx0 M hM 2).K gKS_K) (fun v1 L1 f1 hp1 => ?_)
          obtain ⟨rfl, hx1⟩ := hp1
          show gW X vwCl 3 L1 f1 0 0 43 [(2, .null), (0, .ref M), (1, .int (nI pj))] [.int (fA 2)]
          refine g_goto (tgt := 50) hC dX9_named_43 (by decide) ?_
          have hE : s_named S (nI pj) = (fA 2, (aSc (thS S) 1 2)) := by
            unfold s_named
            rw [if_pos h4, hpl_p, if_neg (show ¬ kd S pj = 0 by omega), if_pos (show 2 < kd S pj by omega)] <;> rfl
          exact g_iret hC hR dX9_named_50 ⟨b, congrArg (fun z => some (Value.int (Prod.fst z))) hE.symm, by rw [hE]; exact hx1, xG.rf⟩
      · cases h15
    · have hw_p : wh S pj < S.1 13 := hI.wt hpj (by omega)
      have hb_p : S.2.1 14 (wh S pj) = 0 := by have := ((hI.2.1 _ hpj).2.2.2.2.2 (by omega)).2; omega
      have hp0_p : plcF (thS S) b pj = some (b.1 6 (wh S pj)) := plc_k hpj hk_p (by decide)
      refine g_aald hC 5 rfl (hx0.Mp rfl).1 (hx0.Mp rfl).2 (pj) rfl (show pj < 10 by omega) (by decide) dX9_named_14 ?_
      refine g_val (w := .ref (b.1 6 (wh S pj))) (congrArg va_rf hp0_p) ?_
      refine g_ifnonnull (o := some (b.1 6 (wh S pj))) (tgt := 24) hC dX9_named_15 (by decide) (fun a15 h15 => ?_) (fun h15 => ?_)
      · refine g_aload_n hC dX9_named_24 rfl 0 rfl (Or.inr ⟨_, rfl⟩) ?_
        refine g_get hC (by decide +kernel) rfl (hx0.M hM).1 (hx0.M hM).2 0 (by decide) (by decide +kernel) (Or.inl rfl) rfl dX9_named_25 ?_
        refine g_iload_n hC dX9_named_28 rfl 1 rfl ?_
        refine g_aald hC 5 rfl (hx0.Mp rfl).1 (hx0.Mp rfl).2 (pj) rfl (show pj < 10 by omega) (by decide) dX9_named_29 ?_
        refine g_val (w := .ref (b.1 6 (wh S pj))) (congrArg va_rf hp0_p) ?_
        refine g_S (As := [.ref (b.1 6 (wh S pj))]) (st := []) hC 1 dX9_named_30 gX9_named_X9_asNumbers rfl (by decide +kernel) ⟨Nat.le_of_ble_eq_true rfl, Nat.le_of_ble_eq_true rfl⟩ rfl (Nat.le_of_ble_eq_true rfl) ⟨Nat.le_of_ble_eq_true rfl, Nat.le_of_ble_eq_true rfl⟩ (c2 := 0) (s2 := 0) rfl rfl ((x_asNumbers (some (b.1 6 (wh S pj))) 4 (Or.inr ⟨_, 5, _, rfl, (hx0.T hw_p rfl hb_p), Or.inr (Or.inr (Or.inr (Or.inl ⟨rfl, rfl⟩)))⟩)).K gKS_K) ?_
        refine g_astore_n (lv' := [(2, .null), (0, .ref M), (1, .int (nI pj))]) hC dX9_named_33 rfl (by decide) rfl (Or.inl rfl) ?_
        refine g_aload_n hC dX9_named_34 rfl 0 rfl (Or.inl rfl) ?_
        refine g_ifnonnull (o := none) (tgt := 46) hC dX9_named_35 (by decide) (fun a35 h35 => ?_) (fun h35 => ?_)
        · cases h35
        · refine g_aload_n hC dX9_named_38 rfl 1 rfl (Or.inr ⟨_, rfl⟩) ?_
          refine g_iconst hC dX9_named_39 (v := nI 2) (by decide) ?_
          refine g_Vx (As := [.int (nI 2)]) (st := []) hC 1 dX9_named_40 rfl (hx0.M hM).1 (hx0.M hM).2 gX9_named_X9_failed rfl (by decide +kernel) ⟨Nat.le_of_ble_eq_true rfl, Nat.le_of_ble_eq_true rfl⟩ rfl (Nat.le_of_ble_eq_true rfl) ⟨(Nat.le_of_ble_eq_true rfl), (Nat.le_of_ble_eq_true rfl)⟩ (c2 := 0) (s2 := 0) rfl rfl ((x_failed hx0 M hM 2).K gKS_K) (fun v1 L1 f1 hp1 => ?_)
          obtain ⟨rfl, hx1⟩ := hp1
          show gW X vwCl 3 L1 f1 0 0 43 [(2, .null), (0, .ref M), (1, .int (nI pj))] [.int (fA 2)]
          refine g_goto (tgt := 50) hC dX9_named_43 (by decide) ?_
          have hE : s_named S (nI pj) = (fA 2, (aSc (thS S) 1 2)) := by
            unfold s_named
            rw [if_pos h4, hpl_p, if_neg (show ¬ kd S pj = 0 by omega), if_pos (show 2 < kd S pj by omega)] <;> rfl
          exact g_iret hC hR dX9_named_50 ⟨b, congrArg (fun z => some (Value.int (Prod.fst z))) hE.symm, by rw [hE]; exact hx1, xG.rf⟩
      · cases h15
    · have hw_p : wh S pj < S.1 13 := hI.wt hpj (by omega)
      have hb_p : S.2.1 14 (wh S pj) ≠ 0 := by have := ((hI.2.1 _ hpj).2.2.2.2.2 (by omega)).2; omega
      have hp0_p : plcF (thS S) b pj = some (b.1 6 (wh S pj)) := plc_k hpj hk_p (by decide)
      refine g_aald hC 5 rfl (hx0.Mp rfl).1 (hx0.Mp rfl).2 (pj) rfl (show pj < 10 by omega) (by decide) dX9_named_14 ?_
      refine g_val (w := .ref (b.1 6 (wh S pj))) (congrArg va_rf hp0_p) ?_
      refine g_ifnonnull (o := some (b.1 6 (wh S pj))) (tgt := 24) hC dX9_named_15 (by decide) (fun a15 h15 => ?_) (fun h15 => ?_)
      · refine g_aload_n hC dX9_named_24 rfl 0 rfl (Or.inr ⟨_, rfl⟩) ?_
        refine g_get hC (by decide +kernel) rfl (hx0.M hM).1 (hx0.M hM).2 0 (by decide) (by decide +kernel) (Or.inl rfl) rfl dX9_named_25 ?_
        refine g_iload_n hC dX9_named_28 rfl 1 rfl ?_
        refine g_aald hC 5 rfl (hx0.Mp rfl).1 (hx0.Mp rfl).2 (pj) rfl (show pj < 10 by omega) (by decide) dX9_named_29 ?_
        refine g_val (w := .ref (b.1 6 (wh S pj))) (congrArg va_rf hp0_p) ?_
        refine g_S (As := [.ref (b.1 6 (wh S pj))]) (st := []) hC 1 dX9_named_30 gX9_named_X9_asNumbers rfl (by decide +kernel) ⟨Nat.le_of_ble_eq_true rfl, Nat.le_of_ble_eq_true rfl⟩ rfl (Nat.le_of_ble_eq_true rfl) ⟨Nat.le_of_ble_eq_true rfl, Nat.le_of_ble_eq_true rfl⟩ (c2 := 0) (s2 := 0) rfl rfl ((x_asNumbers (some (b.1 6 (wh S pj))) 5 (Or.inr ⟨_, 1, _, rfl, (hx0.K hw_p rfl hb_p), Or.inr (Or.inr (Or.inr (Or.inr ⟨rfl, rfl⟩)))⟩)).K gKS_K) ?_
        refine g_astore_n (lv' := [(2, .null), (0, .ref M), (1, .int (nI pj))]) hC dX9_named_33 rfl (by decide) rfl (Or.inl rfl) ?_
        refine g_aload_n hC dX9_named_34 rfl 0 rfl (Or.inl rfl) ?_
        refine g_ifnonnull (o := none) (tgt := 46) hC dX9_named_35 (by decide) (fun a35 h35 => ?_) (fun h35 => ?_)
        · cases h35
        · refine g_aload_n hC dX9_named_38 rfl 1 rfl (Or.inr ⟨_, rfl⟩) ?_
          refine g_iconst hC dX9_named_39 (v := nI 2) (by decide) ?_
          refine g_Vx (As := [.int (nI 2)]) (st := []) hC 1 dX9_named_40 rfl (hx0.M hM).1 (hx0.M hM).2 gX9_named_X9_failed rfl (by decide +kernel) ⟨Nat.le_of_ble_eq_true rfl, Nat.le_of_ble_eq_true rfl⟩ rfl (Nat.le_of_ble_eq_true rfl) ⟨(Nat.le_of_ble_eq_true rfl), (Nat.le_of_ble_eq_true rfl)⟩ (c2 := 0) (s2 := 0) rfl rfl ((x_failed hx0 M hM 2).K gKS_K) (fun v1 L1 f1 hp1 => ?_)
          obtain ⟨rfl, hx1⟩ := hp1
          show gW X vwCl 3 L1 f1 0 0 43 [(2, .null), (0, .ref M), (1, .int (nI pj))] [.int (fA 2)]
          refine g_goto (tgt := 50) hC dX9_named_43 (by decide) ?_
          have hE : s_named S (nI pj) = (fA 2, (aSc (thS S) 1 2)) := by
            unfold s_named
            rw [if_pos h4, hpl_p, if_neg (show ¬ kd S pj = 0 by omega), if_pos (show 2 < kd S pj by omega)] <;> rfl
          exact g_iret hC hR dX9_named_50 ⟨b, congrArg (fun z => some (Value.int (Prod.fst z))) hE.symm, by rw [hE]; exact hx1, xG.rf⟩
      · cases h15
  · refine g_iconst hC dX9_named_7 (v := (-1)) (by decide) ?_
    have hE : s_named S p = ((-1), (thS S)) := by
      unfold s_named
      rw [if_neg h4] <;> rfl
    exact g_iret hC hR dX9_named_8 ⟨b, congrArg (fun z => some (Value.int (Prod.fst z))) hE.symm, by rw [hE]; exact hx0, xG.rf⟩
end Y7
