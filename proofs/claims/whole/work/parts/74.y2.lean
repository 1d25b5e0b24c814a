theorem hold_0 {S : aS} {b : xB} {j : Nat} (hj : j < 10) : plcF (holdS S j 0 0) b j = none := (if_pos hj).trans (if_pos (va_up_self _ _ _))
theorem hold_k {S : aS} {b : xB} {j k w : Nat} (hj : j < 10) (h0 : k ≠ 0) : plcF (holdS S j k w) b j = some (b.1 (thk k) w) := by
  have e1 : kd (holdS S j k w) j = k := va_up_self _ _ _
  have e2 : wh (holdS S j k w) j = w := va_up_self _ _ _
  refine (if_pos hj).trans ?_
  unfold pvo
  rw [e1, e2, if_neg h0]
section Y2
variable {l : Launch} {D : va_G} {cy adK adV : Nat → Nat} {L : List Nat} {f : Nat → va_E}
set_option maxRecDepth 20000 in
set_option maxHeartbeats 4000000 in
theorem y_make {S : aS} {b : xB} (hx : xR cy S b L f) (hI : aI S) (M : Nat) (hM : b.1 9 0 = M) (p k n : Int32) : gCt l D vwCl (gKK D cy adK adV) yX9_make wsX9_make { frames := 6, cells := 2, slots := 17, locals := 122 } [.ref M, .int p, .int k, .int n] L f (xP cy S b (s_make S p k n).2 (fun _ => some (.int (s_make S p k n).1))) := by
  refine gCt.of gKK_ok (by decide) rfl rfl (fun X hC hR hnm => ?_)
  have hC : gC X l _ D vwCl (cyT cy) (gKK D cy adK adV) cX9_make 4 wsX9_make RX9 := hC
  have hx0 := hx.th0
  have hI0 := hI.th
  show gW X vwCl 4 L f 0 0 0 [(0, .ref M), (1, .int p), (2, .int k), (3, .int n)] []
  refine g_iload_n hC dX9_make_0 rfl 1 rfl ?_
  refine g_S (As := [.int p]) (st := []) hC 1 dX9_make_1 gX9_make_X9_isPlace rfl (by decide +kernel) ⟨Nat.le_of_ble_eq_true rfl, Nat.le_of_ble_eq_true rfl⟩ rfl (Nat.le_of_ble_eq_true rfl) ⟨Nat.le_of_ble_eq_true rfl, Nat.le_of_ble_eq_true rfl⟩ (c2 := 0) (s2 := 0) rfl rfl (x_isPlace _) ?_
  refine g_ifB_ne (P := isP p) (tgt := 9) hC dX9_make_4 (by decide) (fun h4 => ?_) (fun h4 => ?_)
  · obtain ⟨pj, hpj, rfl⟩ := isP_j h4
    have hpl_p : pl (nI pj) = pj := nI_clamp (by omega)
    refine g_iload_n hC dX9_make_9 rfl 2 rfl ?_
    refine g_iconst hC dX9_make_10 (v := nI 1) (by decide) ?_
    refine g_icmp_lt (x := k) (y := nI 1) (tgt := 25) hC dX9_make_11 (by decide) (fun h11 => ?_) (fun h11 => ?_)
    · refine g_bipush hC dX9_make_25 (v := (-2)) (by decide) ?_
      have hE : s_make S (nI pj) k n = ((-2), (thS S)) := by
        unfold s_make
        rw [if_pos h4, if_neg (show ¬ (nI 1 ≤ k ∧ k ≤ nI 3) by
          have e1 : (nI 1).toInt = 1 := rfl
          have e2 : (nI 3).toInt = 3 := rfl
          intro z
          simp only [Int32.lt_iff_toInt_lt, Int32.le_iff_toInt_le, Int32.toInt_zero] at h11 z
          omega)] <;> rfl
      refine g_widen (c2 := 2) (s2 := 17) (Nat.le_of_ble_eq_true rfl) (Nat.le_of_ble_eq_true rfl) ?_
      exact g_iret hC hR dX9_make_27 ⟨b, congrArg (fun z => some (Value.int (Prod.fst z))) hE.symm, by rw [hE]; exact hx0, xG.rf⟩
    · refine g_iload_n hC dX9_make_14 rfl 2 rfl ?_
      refine g_iconst hC dX9_make_15 (v := nI 3) (by decide) ?_
      refine g_icmp_gt (x := k) (y := nI 3) (tgt := 25) hC dX9_make_16 (by decide) (fun h16 => ?_) (fun h16 => ?_)
      · refine g_bipush hC dX9_make_25 (v := (-2)) (by decide) ?_
        have hE : s_make S (nI pj) k n = ((-2), (thS S)) := by
          unfold s_make
          rw [if_pos h4, if_neg (show ¬ (nI 1 ≤ k ∧ k ≤ nI 3) by
            have e1 : (nI 1).toInt = 1 := rfl
            have e2 : (nI 3).toInt = 3 := rfl
            intro z
            simp only [Int32.lt_iff_toInt_lt, Int32.le_iff_toInt_le, Int32.toInt_zero] at h16 z
            omega)] <;> rfl
        refine g_widen (c2 := 2) (s2 := 17) (Nat.le_of_ble_eq_true rfl) (Nat.le_of_ble_eq_true rfl) ?_
        exact g_iret hC hR dX9_make_27 ⟨b, congrArg (fun z => some (Value.int (Prod.fst z))) hE.symm, by rw [hE]; exact hx0, xG.rf⟩
      · have hR_k : nI 1 ≤ k ∧ k ≤ nI 3 := by
          have e1 : (nI 1).toInt = 1 := rfl
          have e2 : (nI 3).toInt = 3 := rfl
          rw [Int32.le_iff_toInt_le, Int32.le_iff_toInt_le]
          simp only [Int32.lt_iff_toInt_lt, Int32.le_iff_toInt_le, Int32.toInt_zero] at h11 h16
          omega
        obtain ⟨kj, hk1, hk2, rfl⟩ := ty_j (lo := 1) (hi := 3) (by decide) hR_k (by decide)
        rcases (show kj = 1 ∨ kj = 2 ∨ kj = 3 by omega) with rfl | rfl | rfl
        · have hpl_k : pl (nI 1) = 1 := by decide
          refine g_iload_n hC dX9_make_19 rfl 3 rfl ?_
          refine g_bipush hC dX9_make_20 (v := nI 16) (by decide) ?_
          refine g_icmp_le (x := n) (y := nI 16) (tgt := 28) hC dX9_make_22 (by decide) (fun h22 => ?_) (fun h22 => ?_)
          · refine g_iload_n hC dX9_make_28 rfl 3 rfl ?_
            refine g_if_ge (x := n) (tgt := 38) hC dX9_make_29 (by decide) (fun h29 => ?_) (fun h29 => ?_)
            · have hR_n : nI 0 ≤ n ∧ n ≤ nI 16 := ⟨h29, h22⟩
              obtain ⟨nj, hn1, hn2, rfl⟩ := ty_j (lo := 0) (hi := 16) (by decide) hR_n (by decide)
              have hpl_n : pl (nI nj) = nj := nI_clamp (by omega)
              refine g_aload_n hC dX9_make_38 rfl 0 rfl (Or.inr ⟨_, rfl⟩) ?_
              refine g_get hC (by decide +kernel) rfl (hx0.M hM).1 (hx0.M hM).2 0 (by decide) (by decide +kernel) (Or.inl rfl) rfl dX9_make_39 ?_
              refine g_iload_n hC dX9_make_42 rfl 1 rfl ?_
              refine g_iload_n hC dX9_make_43 rfl 2 rfl ?_
              refine g_iload_n hC dX9_make_44 rfl 3 rfl ?_
              refine g_Sx (As := [.int (nI 1), .int (nI nj)]) (st := [.int (nI pj), .ref (b.1 9 1)]) hC 2 dX9_make_45 gX9_make_X9_newRow rfl (by decide +kernel) ⟨Nat.le_of_ble_eq_true rfl, Nat.le_of_ble_eq_true rfl⟩ rfl (Nat.le_of_ble_eq_true rfl) ⟨(Nat.le_of_ble_eq_true rfl), (Nat.le_of_ble_eq_true rfl)⟩ (c2 := 2) (s2 := 17) rfl rfl (x_newRow_B (S := thS S) hx0 hI0 nj (by omega)) (fun v1 L1 f1 hp1 => ?_)
              obtain ⟨b1, rfl, hx1, hg1⟩ := hp1
              show gW X vwCl 4 L1 f1 2 17 48 [(0, .ref M), (1, .int (nI pj)), (2, .int (nI 1)), (3, .int (nI nj))] [.ref (b1.1 0 (S.1 4)), .int (nI pj), .ref (b.1 9 1)]
              refine g_aastO hC 5 rfl (r := (RX0, TX0, 1)) (gKK_C "KeptTerms$Bytes" "KeptTerms$Thing" (by decide)) rfl (hx1.B (show S.1 4 < S.1 4 + 1 by omega) rfl).1 (hx1.B (show S.1 4 < S.1 4 + 1 by omega) rfl).2 (hx1.Mp ((hg1 9 1 (by decide) (by decide) (show 1 < 4 by decide)).trans rfl)).1 (hx1.Mp ((hg1 9 1 (by decide) (by decide) (show 1 < 4 by decide)).trans rfl)).2 (pj) rfl (show pj < 10 by omega) (by decide) dX9_make_48 ?_
              refine g_fx (P := xR cy ((aN (aN (newB (thS S) nj) 2 pj 1) 3 pj (S.1 4))) b1) (hx1.hold (x := 1) (r := S.1 4) hpj (by decide) ((hg1 9 1 (by decide) (by decide) (show 1 < 4 by decide)).trans rfl)) (fun f2 hx2 => ?_)
              show gW X vwCl 4 L1 f2 2 17 49 [(0, .ref M), (1, .int (nI pj)), (2, .int (nI 1)), (3, .int (nI nj))] []
              refine g_iconst hC dX9_make_49 (v := nI 1) (by decide) ?_
              have hE : s_make S (nI pj) (nI 1) (nI nj) = (nI 1, (aN (aN (newB (thS S) nj) 2 pj 1) 3 pj (S.1 4))) := by
                unfold s_make
                rw [if_pos h4, if_pos hR_k, if_pos hR_n.2, if_neg (nI_pos (show nj < 2 ^ 31 by omega)), if_pos rfl, hpl_n, hpl_p] <;> rfl
              exact g_iret hC hR dX9_make_50 ⟨b1, congrArg (fun z => some (Value.int (Prod.fst z))) hE.symm, by rw [hE]; exact hx2, hg1⟩
            · refine g_aload_n hC dX9_make_32 rfl 0 rfl (Or.inr ⟨_, rfl⟩) ?_
              refine g_iconst hC dX9_make_33 (v := nI 5) (by decide) ?_
              refine g_Vx (As := [.int (nI 5)]) (st := []) hC 1 dX9_make_34 rfl (hx0.M hM).1 (hx0.M hM).2 gX9_make_X9_failed rfl (by decide +kernel) ⟨Nat.le_of_ble_eq_true rfl, Nat.le_of_ble_eq_true rfl⟩ rfl (Nat.le_of_ble_eq_true rfl) ⟨(Nat.le_of_ble_eq_true rfl), (Nat.le_of_ble_eq_true rfl)⟩ (c2 := 0) (s2 := 0) rfl rfl (x_failed hx0 M hM 5) (fun v1 L1 f1 hp1 => ?_)
              obtain ⟨rfl, hx1⟩ := hp1
              show gW X vwCl 4 L1 f1 0 0 37 [(0, .ref M), (1, .int (nI pj)), (2, .int (nI 1)), (3, .int n)] [.int (fA 5)]
              have hE : s_make S (nI pj) (nI 1) n = (fA 5, (aSc (thS S) 1 5)) := by
                unfold s_make
                rw [if_pos h4, if_pos hR_k, if_pos h22, if_pos (show n < 0 by simp only [Int32.lt_iff_toInt_lt, Int32.le_iff_toInt_le, Int32.toInt_zero] at h29 ⊢; omega)] <;> rfl
              refine g_widen (c2 := 2) (s2 := 17) (Nat.le_of_ble_eq_true rfl) (Nat.le_of_ble_eq_true rfl) ?_
              exact g_iret hC hR dX9_make_37 ⟨b, congrArg (fun z => some (Value.int (Prod.fst z))) hE.symm, by rw [hE]; exact hx1, xG.rf⟩
          · refine g_bipush hC dX9_make_25 (v := (-2)) (by decide) ?_
            have hE : s_make S (nI pj) (nI 1) n = ((-2), (thS S)) := by
              unfold s_make
              rw [if_pos h4, if_pos hR_k, if_neg h22] <;> rfl
            refine g_widen (c2 := 2) (s2 := 17) (Nat.le_of_ble_eq_true rfl) (Nat.le_of_ble_eq_true rfl) ?_
            exact g_iret hC hR dX9_make_27 ⟨b, congrArg (fun z => some (Value.int (Prod.fst z))) hE.symm, by rw [hE]; exact hx0, xG.rf⟩
        · have hpl_k : pl (nI 2) = 2 := by decide
          refine g_iload_n hC dX9_make_19 rfl 3 rfl ?_
          refine g_bipush hC dX9_make_20 (v := nI 16) (by decide) ?_
          refine g_icmp_le (x := n) (y := nI 16) (tgt := 28) hC dX9_make_22 (by decide) (fun h22 => ?_) (fun h22 => ?_)
          · refine g_iload_n hC dX9_make_28 rfl 3 rfl ?_
            refine g_if_ge (x := n) (tgt := 38) hC dX9_make_29 (by decide) (fun h29 => ?_) (fun h29 => ?_)
            · have hR_n : nI 0 ≤ n ∧ n ≤ nI 16 := ⟨h29, h22⟩
              obtain ⟨nj, hn1, hn2, rfl⟩ := ty_j (lo := 0) (hi := 16) (by decide) hR_n (by decide)
              have hpl_n : pl (nI nj) = nj := nI_clamp (by omega)
              refine g_aload_n hC dX9_make_38 rfl 0 rfl (Or.inr ⟨_, rfl⟩) ?_
              refine g_get hC (by decide +kernel) rfl (hx0.M hM).1 (hx0.M hM).2 0 (by decide) (by decide +kernel) (Or.inl rfl) rfl dX9_make_39 ?_
              refine g_iload_n hC dX9_make_42 rfl 1 rfl ?_
              refine g_iload_n hC dX9_make_43 rfl 2 rfl ?_
              refine g_iload_n hC dX9_make_44 rfl 3 rfl ?_
              refine g_Sx (As := [.int (nI 2), .int (nI nj)]) (st := [.int (nI pj), .ref (b.1 9 1)]) hC 2 dX9_make_45 gX9_make_X9_newRow rfl (by decide +kernel) ⟨Nat.le_of_ble_eq_true rfl, Nat.le_of_ble_eq_true rfl⟩ rfl (Nat.le_of_ble_eq_true rfl) ⟨(Nat.le_of_ble_eq_true rfl), (Nat.le_of_ble_eq_true rfl)⟩ (c2 := 2) (s2 := 17) rfl rfl (x_newRow_S (S := thS S) hx0 hI0 nj (by omega)) (fun v1 L1 f1 hp1 => ?_)
              obtain ⟨b1, rfl, hx1, hg1⟩ := hp1
              show gW X vwCl 4 L1 f1 2 17 48 [(0, .ref M), (1, .int (nI pj)), (2, .int (nI 2)), (3, .int (nI nj))] [.ref (b1.1 2 (S.1 7)), .int (nI pj), .ref (b.1 9 1)]
              refine g_aastO hC 5 rfl (r := (RX6, TX6, 1)) (gKK_C "KeptTerms$Signs" "KeptTerms$Thing" (by decide)) rfl (hx1.G (show S.1 7 < S.1 7 + 1 by omega) rfl).1 (hx1.G (show S.1 7 < S.1 7 + 1 by omega) rfl).2 (hx1.Mp ((hg1 9 1 (by decide) (by decide) (show 1 < 4 by decide)).trans rfl)).1 (hx1.Mp ((hg1 9 1 (by decide) (by decide) (show 1 < 4 by decide)).trans rfl)).2 (pj) rfl (show pj < 10 by omega) (by decide) dX9_make_48 ?_
              refine g_fx (P := xR cy ((aN (aN (aSc (newSg (thS S) nj (fun _ => 0)) 7 (S.1 7 + 1)) 2 pj 2) 3 pj (S.1 7))) b1) (hx1.hold (x := 2) (r := S.1 7) hpj (by decide) ((hg1 9 1 (by decide) (by decide) (show 1 < 4 by decide)).trans rfl)) (fun f2 hx2 => ?_)
              show gW X vwCl 4 L1 f2 2 17 49 [(0, .ref M), (1, .int (nI pj)), (2, .int (nI 2)), (3, .int (nI nj))] []
              refine g_iconst hC dX9_make_49 (v := nI 1) (by decide) ?_
              have hE : s_make S (nI pj) (nI 2) (nI nj) = (nI 1, (aN (aN (aSc (newSg (thS S) nj (fun _ => 0)) 7 (S.1 7 + 1)) 2 pj 2) 3 pj (S.1 7))) := by
                unfold s_make
                rw [if_pos h4, if_pos hR_k, if_pos hR_n.2, if_neg (nI_pos (show nj < 2 ^ 31 by omega)), if_neg (show ¬ nI 2 = nI 1 by decide), if_pos rfl, hpl_n, hpl_p] <;> rfl
              exact g_iret hC hR dX9_make_50 ⟨b1, congrArg (fun z => some (Value.int (Prod.fst z))) hE.symm, by rw [hE]; exact hx2, hg1⟩
            · refine g_aload_n hC dX9_make_32 rfl 0 rfl (Or.inr ⟨_, rfl⟩) ?_
              refine g_iconst hC dX9_make_33 (v := nI 5) (by decide) ?_
              refine g_Vx (As := [.int (nI 5)]) (st := []) hC 1 dX9_make_34 rfl (hx0.M hM).1 (hx0.M hM).2 gX9_make_X9_failed rfl (by decide +kernel) ⟨Nat.le_of_ble_eq_true rfl, Nat.le_of_ble_eq_true rfl⟩ rfl (Nat.le_of_ble_eq_true rfl) ⟨(Nat.le_of_ble_eq_true rfl), (Nat.le_of_ble_eq_true rfl)⟩ (c2 := 0) (s2 := 0) rfl rfl (x_failed hx0 M hM 5) (fun v1 L1 f1 hp1 => ?_)
              obtain ⟨rfl, hx1⟩ := hp1
              show gW X vwCl 4 L1 f1 0 0 37 [(0, .ref M), (1, .int (nI pj)), (2, .int (nI 2)), (3, .int n)] [.int (fA 5)]
              have hE : s_make S (nI pj) (nI 2) n = (fA 5, (aSc (thS S) 1 5)) := by
                unfold s_make
                rw [if_pos h4, if_pos hR_k, if_pos h22, if_pos (show n < 0 by simp only [Int32.lt_iff_toInt_lt, Int32.le_iff_toInt_le, Int32.toInt_zero] at h29 ⊢; omega)] <;> rfl
              refine g_widen (c2 := 2) (s2 := 17) (Nat.le_of_ble_eq_true rfl) (Nat.le_of_ble_eq_true rfl) ?_
              exact g_iret hC hR dX9_make_37 ⟨b, congrArg (fun z => some (Value.int (Prod.fst z))) hE.symm, by rw [hE]; exact hx1, xG.rf⟩
          · refine g_bipush hC dX9_make_25 (v := (-2)) (by decide) ?_
            have hE : s_make S (nI pj) (nI 2) n = ((-2), (thS S)) := by
              unfold s_make
              rw [if_pos h4, if_pos hR_k, if_neg h22] <;> rfl
            refine g_widen (c2 := 2) (s2 := 17) (Nat.le_of_ble_eq_true rfl) (Nat.le_of_ble_eq_true rfl) ?_
            exact g_iret hC hR dX9_make_27 ⟨b, congrArg (fun z => some (Value.int (Prod.fst z))) hE.symm, by rw [hE]; exact hx0, xG.rf⟩
        · have hpl_k : pl (nI 3) = 3 := by decide
          refine g_iload_n hC dX9_make_19 rfl 3 rfl ?_
          refine g_bipush hC dX9_make_20 (v := nI 16) (by decide) ?_
          refine g_icmp_le (x := n) (y := nI 16) (tgt := 28) hC dX9_make_22 (by decide) (fun h22 => ?_) (fun h22 => ?_)
          · refine g_iload_n hC dX9_make_28 rfl 3 rfl ?_
            refine g_if_ge (x := n) (tgt := 38) hC dX9_make_29 (by decide) (fun h29 => ?_) (fun h29 => ?_)
            · have hR_n : nI 0 ≤ n ∧ n ≤ nI 16 := ⟨h29, h22⟩
              obtain ⟨nj, hn1, hn2, rfl⟩ := ty_j (lo := 0) (hi := 16) (by decide) hR_n (by decide)
              have hpl_n : pl (nI nj) = nj := nI_clamp (by omega)
              refine g_aload_n hC dX9_make_38 rfl 0 rfl (Or.inr ⟨_, rfl⟩) ?_
              refine g_get hC (by decide +kernel) rfl (hx0.M hM).1 (hx0.M hM).2 0 (by decide) (by decide +kernel) (Or.inl rfl) rfl dX9_make_39 ?_
              refine g_iload_n hC dX9_make_42 rfl 1 rfl ?_
              refine g_iload_n hC dX9_make_43 rfl 2 rfl ?_
              refine g_iload_n hC dX9_make_44 rfl 3 rfl ?_
              refine g_Sx (As := [.int (nI 3), .int (nI nj)]) (st := [.int (nI pj), .ref (b.1 9 1)]) hC 2 dX9_make_45 gX9_make_X9_newRow rfl (by decide +kernel) ⟨Nat.le_of_ble_eq_true rfl, Nat.le_of_ble_eq_true rfl⟩ rfl (Nat.le_of_ble_eq_true rfl) ⟨(Nat.le_of_ble_eq_true rfl), (Nat.le_of_ble_eq_true rfl)⟩ (c2 := 2) (s2 := 17) rfl rfl (x_newRow_R (S := thS S) hx0 hI0 nj (by omega)) (fun v1 L1 f1 hp1 => ?_)
              obtain ⟨b1, rfl, hx1, hg1⟩ := hp1
              show gW X vwCl 4 L1 f1 2 17 48 [(0, .ref M), (1, .int (nI pj)), (2, .int (nI 3)), (3, .int (nI nj))] [.ref (b1.1 4 (S.1 10)), .int (nI pj), .ref (b.1 9 1)]
              refine g_aastO hC 5 rfl (r := (RX5, TX5, 1)) (gKK_C "KeptTerms$Rows" "KeptTerms$Thing" (by decide)) rfl (hx1.W (show S.1 10 < S.1 10 + 1 by omega) rfl).1 (hx1.W (show S.1 10 < S.1 10 + 1 by omega) rfl).2 (hx1.Mp ((hg1 9 1 (by decide) (by decide) (show 1 < 4 by decide)).trans rfl)).1 (hx1.Mp ((hg1 9 1 (by decide) (by decide) (show 1 < 4 by decide)).trans rfl)).2 (pj) rfl (show pj < 10 by omega) (by decide) dX9_make_48 ?_
              refine g_fx (P := xR cy ((aN (aN (aSc (newRw (thS S) nj (fun _ => 0)) 10 (S.1 10 + 1)) 2 pj 3) 3 pj (S.1 10))) b1) (hx1.hold (x := 3) (r := S.1 10) hpj (by decide) ((hg1 9 1 (by decide) (by decide) (show 1 < 4 by decide)).trans rfl)) (fun f2 hx2 => ?_)
              show gW X vwCl 4 L1 f2 2 17 49 [(0, .ref M), (1, .int (nI pj)), (2, .int (nI 3)), (3, .int (nI nj))] []
              refine g_iconst hC dX9_make_49 (v := nI 1) (by decide) ?_
              have hE : s_make S (nI pj) (nI 3) (nI nj) = (nI 1, (aN (aN (aSc (newRw (thS S) nj (fun _ => 0)) 10 (S.1 10 + 1)) 2 pj 3) 3 pj (S.1 10))) := by
                unfold s_make
                rw [if_pos h4, if_pos hR_k, if_pos hR_n.2, if_neg (nI_pos (show nj < 2 ^ 31 by omega)), if_neg (show ¬ nI 3 = nI 1 by decide), if_neg (show ¬ nI 3 = nI 2 by decide), hpl_n, hpl_p] <;> rfl
              exact g_iret hC hR dX9_make_50 ⟨b1, congrArg (fun z => some (Value.int (Prod.fst z))) hE.symm, by rw [hE]; exact hx2, hg1⟩
            · refine g_aload_n hC dX9_make_32 rfl 0 rfl (Or.inr ⟨_, rfl⟩) ?_
              refine g_iconst hC dX9_make_33 (v := nI 5) (by decide) ?_
              refine g_Vx (As := [.int (nI 5)]) (st := []) hC 1 dX9_make_34 rfl (hx0.M hM).1 (hx0.M hM).2 gX9_make_X9_failed rfl (by decide +kernel) ⟨Nat.le_of_ble_eq_true rfl, Nat.le_of_ble_eq_true rfl⟩ rfl (Nat.le_of_ble_eq_true rfl) ⟨(Nat.le_of_ble_eq_true rfl), (Nat.le_of_ble_eq_true rfl)⟩ (c2 := 0) (s2 := 0) rfl rfl (x_failed hx0 M hM 5) (fun v1 L1 f1 hp1 => ?_)
              obtain ⟨rfl, hx1⟩ := hp1
              show gW X vwCl 4 L1 f1 0 0 37 [(0, .ref M), (1, .int (nI pj)), (2, .int (nI 3)), (3, .int n)] [.int (fA 5)]
              have hE : s_make S (nI pj) (nI 3) n = (fA 5, (aSc (thS S) 1 5)) := by
                unfold s_make
                rw [if_pos h4, if_pos hR_k, if_pos h22, if_pos (show n < 0 by simp only [Int32.lt_iff_toInt_lt, Int32.le_iff_toInt_le, Int32.toInt_zero] at h29 ⊢; omega)] <;> rfl
              refine g_widen (c2 := 2) (s2 := 17) (Nat.le_of_ble_eq_true rfl) (Nat.le_of_ble_eq_true rfl) ?_
              exact g_iret hC hR dX9_make_37 ⟨b, congrArg (fun z => some (Value.int (Prod.fst z))) hE.symm, by rw [hE]; exact hx1, xG.rf⟩
          · refine g_bipush hC dX9_make_25 (v := (-2)) (by decide) ?_
            have hE : s_make S (nI pj) (nI 3) n = ((-2), (thS S)) := by
              unfold s_make
              rw [if_pos h4, if_pos hR_k, if_neg h22] <;> rfl
            refine g_widen (c2 := 2) (s2 := 17) (Nat.le_of_ble_eq_true rfl) (Nat.le_of_ble_eq_true rfl) ?_
            exact g_iret hC hR dX9_make_27 ⟨b, congrArg (fun z => some (Value.int (Prod.fst z))) hE.symm, by rw [hE]; exact hx0, xG.rf⟩
  · refine g_iconst hC dX9_make_7 (v := (-1)) (by decide) ?_
    have hE : s_make S p k n = ((-1), (thS S)) := by
      unfold s_make
      rw [if_neg h4] <;> rfl
    refine g_widen (c2 := 2) (s2 := 17) (Nat.le_of_ble_eq_true rfl) (Nat.le_of_ble_eq_true rfl) ?_
    exact g_iret hC hR dX9_make_8 ⟨b, congrArg (fun z => some (Value.int (Prod.fst z))) hE.symm, by rw [hE]; exact hx0, xG.rf⟩
set_option maxRecDepth 20000 in
set_option maxHeartbeats 4000000 in
theorem y_move {S : aS} {b : xB} (hx : xR cy S b L f) (hI : aI S) (M : Nat) (hM : b.1 9 0 = M) (p q : Int32) : gCt l D vwCl (gKK D cy adK adV) yX9_move wsX9_move { frames := 2, cells := 0, slots := 0, locals := 40 } [.ref M, .int p, .int q] L f (xP cy S b (s_move S p q).2 (fun _ => some (.int (s_move S p q).1))) := by
  refine gCt.of gKK_ok (by decide) rfl rfl (fun X hC hR hnm => ?_)
  have hC : gC X l _ D vwCl (cyT cy) (gKK D cy adK adV) cX9_move 3 wsX9_move RX9 := hC
  have hx0 := hx.th0
  have hI0 := hI.th
  show gW X vwCl 3 L f 0 0 0 [(0, .ref M), (1, .int p), (2, .int q)] []
  refine g_iload_n hC dX9_move_0 rfl 1 rfl ?_
  refine g_S (As := [.int p]) (st := []) hC 1 dX9_move_1 gX9_move_X9_isPlace rfl (by decide +kernel) ⟨Nat.le_of_ble_eq_true rfl, Nat.le_of_ble_eq_true rfl⟩ rfl (Nat.le_of_ble_eq_true rfl) ⟨Nat.le_of_ble_eq_true rfl, Nat.le_of_ble_eq_true rfl⟩ (c2 := 0) (s2 := 0) rfl rfl (x_isPlace _) ?_
  refine g_ifB_eq (P := isP p) (tgt := 19) hC dX9_move_4 (by decide) (fun h4 => ?_) (fun h4 => ?_)
  · refine g_iconst hC dX9_move_19 (v := (-1)) (by decide) ?_
    have hE : s_move S p q = ((-1), (thS S)) := by
      unfold s_move
      rw [if_neg h4] <;> rfl
    exact g_iret hC hR dX9_move_20 ⟨b, congrArg (fun z => some (Value.int (Prod.fst z))) hE.symm, by rw [hE]; exact hx0, xG.rf⟩
  · obtain ⟨pj, hpj, rfl⟩ := isP_j h4
    have hpl_p : pl (nI pj) = pj := nI_clamp (by omega)
    refine g_iload_n hC dX9_move_7 rfl 2 rfl ?_
    refine g_iconst hC dX9_move_8 (v := (-1)) (by decide) ?_
    refine g_icmp_eq (x := q) (y := (-1)) (tgt := 21) hC dX9_move_9 (by decide) (fun h9 => ?_) (fun h9 => ?_)
    · refine g_aload_n hC dX9_move_21 rfl 0 rfl (Or.inr ⟨_, rfl⟩) ?_
      refine g_get hC (by decide +kernel) rfl (hx0.M hM).1 (hx0.M hM).2 0 (by decide) (by decide +kernel) (Or.inl rfl) rfl dX9_move_22 ?_
      refine g_iload_n hC dX9_move_25 rfl 1 rfl ?_
      refine g_iload_n hC dX9_move_26 rfl 2 rfl ?_
      refine g_iconst hC dX9_move_27 (v := (-1)) (by decide) ?_
      refine g_icmp_ne (x := q) (y := (-1)) (tgt := 35) hC dX9_move_28 (by decide) (fun h28 => ?_) (fun h28 => ?_)
      · exact absurd h9 h28
      · refine g_null hC dX9_move_31 ?_
        refine g_goto (tgt := 41) hC dX9_move_32 (by decide) ?_
        refine g_aastN hC 5 rfl (hx0.Mp rfl).1 (hx0.Mp rfl).2 (pj) rfl (show pj < 10 by omega) (by decide) dX9_move_41 ?_
        refine g_fx (P := xR cy ((aN (aN (thS S) 2 pj 0) 3 pj 0)) b) (hx0.hold0 hpj rfl) (fun f1 hx1 => ?_)
        show gW X vwCl 3 L f1 0 0 42 [(0, .ref M), (1, .int (nI pj)), (2, .int q)] []
        refine g_aload_n hC dX9_move_42 rfl 0 rfl (Or.inr ⟨_, rfl⟩) ?_
        refine g_get hC (by decide +kernel) rfl (hx1.M hM).1 (hx1.M hM).2 0 (by decide) (by decide +kernel) (Or.inl rfl) rfl dX9_move_43 ?_
        refine g_iload_n hC dX9_move_46 rfl 1 rfl ?_
        refine g_aald hC 5 rfl (hx1.Mp rfl).1 (hx1.Mp rfl).2 (pj) rfl (show pj < 10 by omega) (by decide) dX9_move_47 ?_
        refine g_val (w := .null) (congrArg va_rf (hold_0 hpj)) ?_
        refine g_S (As := [.null]) (st := []) hC 1 dX9_move_48 gX9_move_X9_kindOf rfl (by decide +kernel) ⟨Nat.le_of_ble_eq_true rfl, Nat.le_of_ble_eq_true rfl⟩ rfl (Nat.le_of_ble_eq_true rfl) ⟨Nat.le_of_ble_eq_true rfl, Nat.le_of_ble_eq_true rfl⟩ (c2 := 0) (s2 := 0) rfl rfl (x_kindOf none 0 (Or.inl ⟨rfl, rfl⟩)) ?_
        have hE : s_move S (nI pj) q = (nI 0, (aN (aN (thS S) 2 pj 0) 3 pj 0)) := by
          unfold s_move
          rw [if_pos h4, if_pos h9, hpl_p] <;> rfl
        exact g_iret hC hR dX9_move_51 ⟨b, congrArg (fun z => some (Value.int (Prod.fst z))) hE.symm, by rw [hE]; exact hx1, xG.rf⟩
    · refine g_iload_n hC dX9_move_12 rfl 2 rfl ?_
      refine g_S (As := [.int q]) (st := []) hC 1 dX9_move_13 gX9_move_X9_isPlace rfl (by decide +kernel) ⟨Nat.le_of_ble_eq_true rfl, Nat.le_of_ble_eq_true rfl⟩ rfl (Nat.le_of_ble_eq_true rfl) ⟨Nat.le_of_ble_eq_true rfl, Nat.le_of_ble_eq_true rfl⟩ (c2 := 0) (s2 := 0) rfl rfl (x_isPlace _) ?_
      refine g_ifB_ne (P := isP q) (tgt := 21) hC dX9_move_16 (by decide) (fun h16 => ?_) (fun h16 => ?_)
      · obtain ⟨qj, hqj, rfl⟩ := isP_j h16
        have hpl_q : pl (nI qj) = qj := nI_clamp (by omega)
        refine g_aload_n hC dX9_move_21 rfl 0 rfl (Or.inr ⟨_, rfl⟩) ?_
        refine g_get hC (by decide +kernel) rfl (hx0.M hM).1 (hx0.M hM).2 0 (by decide) (by decide +kernel) (Or.inl rfl) rfl dX9_move_22 ?_
        refine g_iload_n hC dX9_move_25 rfl 1 rfl ?_
        refine g_iload_n hC dX9_move_26 rfl 2 rfl ?_
        refine g_iconst hC dX9_move_27 (v := (-1)) (by decide) ?_
        refine g_icmp_ne (x := nI qj) (y := (-1)) (tgt := 35) hC dX9_move_28 (by decide) (fun h28 => ?_) (fun h28 => ?_)
        · refine g_aload_n hC dX9_move_35 rfl 0 rfl (Or.inr ⟨_, rfl⟩) ?_
          refine g_get hC (by decide +kernel) rfl (hx0.M hM).1 (hx0.M hM).2 0 (by decide) (by decide +kernel) (Or.inl rfl) rfl dX9_move_36 ?_
          refine g_iload_n hC dX9_move_39 rfl 2 rfl ?_
          have h5_q := hI.k5 hqj
          rcases (show kd S qj = 0 ∨ kd S qj = 1 ∨ kd S qj = 2 ∨ kd S qj = 3 ∨ kd S qj = 4 ∨ kd S qj = 5 by omega) with hk_q | hk_q | hk_q | hk_q | hk_q | hk_q
          · have hp0_q : plcF (thS S) b qj = none := plc_0 hqj hk_q
            refine g_aald hC 5 rfl (hx0.Mp rfl).1 (hx0.Mp rfl).2 (qj) rfl (show qj < 10 by omega) (by decide) dX9_move_40 ?_
            refine g_val (w := .null) (congrArg va_rf hp0_q) ?_
            refine g_aastN hC 5 rfl (hx0.Mp rfl).1 (hx0.Mp rfl).2 (pj) rfl (show pj < 10 by omega) (by decide) dX9_move_41 ?_
            refine g_fx (P := xR cy ((aN (aN (thS S) 2 pj 0) 3 pj 0)) b) (hx0.hold0 hpj rfl) (fun f1 hx1 => ?_)
            show gW X vwCl 3 L f1 0 0 42 [(0, .ref M), (1, .int (nI pj)), (2, .int (nI qj))] []
            refine g_aload_n hC dX9_move_42 rfl 0 rfl (Or.inr ⟨_, rfl⟩) ?_
            refine g_get hC (by decide +kernel) rfl (hx1.M hM).1 (hx1.M hM).2 0 (by decide) (by decide +kernel) (Or.inl rfl) rfl dX9_move_43 ?_
            refine g_iload_n hC dX9_move_46 rfl 1 rfl ?_
            refine g_aald hC 5 rfl (hx1.Mp rfl).1 (hx1.Mp rfl).2 (pj) rfl (show pj < 10 by omega) (by decide) dX9_move_47 ?_
            refine g_val (w := .null) (congrArg va_rf (hold_0 hpj)) ?_
            refine g_S (As := [.null]) (st := []) hC 1 dX9_move_48 gX9_move_X9_kindOf rfl (by decide +kernel) ⟨Nat.le_of_ble_eq_true rfl, Nat.le_of_ble_eq_true rfl⟩ rfl (Nat.le_of_ble_eq_true rfl) ⟨Nat.le_of_ble_eq_true rfl, Nat.le_of_ble_eq_true rfl⟩ (c2 := 0) (s2 := 0) rfl rfl (x_kindOf none 0 (Or.inl ⟨rfl, rfl⟩)) ?_
            have hwq0 : wh S qj = 0 := (hI.2.1 _ hqj).2.1 hk_q
            have hE : s_move S (nI pj) (nI qj) = (nI 0, (aN (aN (thS S) 2 pj 0) 3 pj 0)) := by
              unfold s_move
              rw [if_pos h4, if_neg (show ¬ nI qj = -1 by intro z; exact nI_pos (show qj < 2 ^ 31 by omega) (z ▸ (by decide : (-1 : Int32) < 0))), if_pos h16, hpl_p, hpl_q, hk_q, hwq0] <;> rfl
            exact g_iret hC hR dX9_move_51 ⟨b, congrArg (fun z => some (Value.int (Prod.fst z))) hE.symm, by rw [hE]; exact hx1, xG.rf⟩
          · have hw_q : wh S qj < S.1 4 := hI.wl hqj hk_q
            have hp0_q : plcF (thS S) b qj = some (b.1 0 (wh S qj)) := plc_k hqj hk_q (by decide)
            refine g_aald hC 5 rfl (hx0.Mp rfl).1 (hx0.Mp rfl).2 (qj) rfl (show qj < 10 by omega) (by decide) dX9_move_40 ?_
            refine g_val (w := .ref (b.1 0 (wh S qj))) (congrArg va_rf hp0_q) ?_
            refine g_aastO hC 5 rfl (r := (RX0, TX0, 1)) (gKK_C "KeptTerms$Bytes" "KeptTerms$Thing" (by decide)) rfl (hx0.B hw_q rfl).1 (hx0.B hw_q rfl).2 (hx0.Mp rfl).1 (hx0.Mp rfl).2 (pj) rfl (show pj < 10 by omega) (by decide) dX9_move_41 ?_
            refine g_fx (P := xR cy ((aN (aN (thS S) 2 pj 1) 3 pj (wh S qj))) b) (hx0.hold (x := 1) (r := wh S qj) hpj (by decide) rfl) (fun f1 hx1 => ?_)
            show gW X vwCl 3 L f1 0 0 42 [(0, .ref M), (1, .int (nI pj)), (2, .int (nI qj))] []
            refine g_aload_n hC dX9_move_42 rfl 0 rfl (Or.inr ⟨_, rfl⟩) ?_
            refine g_get hC (by decide +kernel) rfl (hx1.M hM).1 (hx1.M hM).2 0 (by decide) (by decide +kernel) (Or.inl rfl) rfl dX9_move_43 ?_
            refine g_iload_n hC dX9_move_46 rfl 1 rfl ?_
            refine g_aald hC 5 rfl (hx1.Mp rfl).1 (hx1.Mp rfl).2 (pj) rfl (show pj < 10 by omega) (by decide) dX9_move_47 ?_
            refine g_val (w := .ref (b.1 0 (wh S qj))) (congrArg va_rf (hold_k hpj (show (1 : Nat) ≠ 0 by decide))) ?_
            refine g_S (As := [.ref (b.1 0 (wh S qj))]) (st := []) hC 1 dX9_move_48 gX9_move_X9_kindOf rfl (by decide +kernel) ⟨Nat.le_of_ble_eq_true rfl, Nat.le_of_ble_eq_true rfl⟩ rfl (Nat.le_of_ble_eq_true rfl) ⟨Nat.le_of_ble_eq_true rfl, Nat.le_of_ble_eq_true rfl⟩ (c2 := 0) (s2 := 0) rfl rfl (x_kindOf (some (b.1 0 (wh S qj))) 1 (Or.inr ⟨_, 0, _, rfl, (hx1.B hw_q rfl), Or.inl ⟨rfl, rfl⟩⟩)) ?_
            have hE : s_move S (nI pj) (nI qj) = (nI 1, (aN (aN (thS S) 2 pj 1) 3 pj (wh S qj))) := by
              unfold s_move
              rw [if_pos h4, if_neg (show ¬ nI qj = -1 by intro z; exact nI_pos (show qj < 2 ^ 31 by omega) (z ▸ (by decide : (-1 : Int32) < 0))), if_pos h16, hpl_p, hpl_q, hk_q] <;> rfl
            exact g_iret hC hR dX9_move_51 ⟨b, congrArg (fun z => some (Value.int (Prod.fst z))) hE.symm, by rw [hE]; exact hx1, xG.rf⟩
          · have hw_q : wh S qj < S.1 7 := hI.ws hqj hk_q
            have hp0_q : plcF (thS S) b qj = some (b.1 2 (wh S qj)) := plc_k hqj hk_q (by decide)
            refine g_aald hC 5 rfl (hx0.Mp rfl).1 (hx0.Mp rfl).2 (qj) rfl (show qj < 10 by omega) (by decide) dX9_move_40 ?_
            refine g_val (w := .ref (b.1 2 (wh S qj))) (congrArg va_rf hp0_q) ?_
            refine g_aastO hC 5 rfl (r := (RX6, TX6, 1)) (gKK_C "KeptTerms$Signs" "KeptTerms$Thing" (by decide)) rfl (hx0.G hw_q rfl).1 (hx0.G hw_q rfl).2 (hx0.Mp rfl).1 (hx0.Mp rfl).2 (pj) rfl (show pj < 10 by omega) (by decide) dX9_move_41 ?_
            refine g_fx (P := xR cy ((aN (aN (thS S) 2 pj 2) 3 pj (wh S qj))) b) (hx0.hold (x := 2) (r := wh S qj) hpj (by decide) rfl) (fun f1 hx1 => ?_)
            show gW X vwCl 3 L f1 0 0 42 [(0, .ref M), (1, .int (nI pj)), (2, .int (nI qj))] []
            refine g_aload_n hC dX9_move_42 rfl 0 rfl (Or.inr ⟨_, rfl⟩) ?_
            refine g_get hC (by decide +kernel) rfl (hx1.M hM).1 (hx1.M hM).2 0 (by decide) (by decide +kernel) (Or.inl rfl) rfl dX9_move_43 ?_
            refine g_iload_n hC dX9_move_46 rfl 1 rfl ?_
            refine g_aald hC 5 rfl (hx1.Mp rfl).1 (hx1.Mp rfl).2 (pj) rfl (show pj < 10 by omega) (by decide) dX9_move_47 ?_
            refine g_val (w := .ref (b.1 2 (wh S qj))) (congrArg va_rf (hold_k hpj (show (2 : Nat) ≠ 0 by decide))) ?_
            refine g_S (As := [.ref (b.1 2 (wh S qj))]) (st := []) hC 1 dX9_move_48 gX9_move_X9_kindOf rfl (by decide +kernel) ⟨Nat.le_of_ble_eq_true rfl, Nat.le_of_ble_eq_true rfl⟩ rfl (Nat.le_of_ble_eq_true rfl) ⟨Nat.le_of_ble_eq_true rfl, Nat.le_of_ble_eq_true rfl⟩ (c2 := 0) (s2 := 0) rfl rfl (x_kindOf (some (b.1 2 (wh S qj))) 2 (Or.inr ⟨_, 4, _, rfl, (hx1.G hw_q rfl), Or.inr (Or.inl ⟨rfl, rfl⟩)⟩)) ?_
            have hE : s_move S (nI pj) (nI qj) = (nI 2, (aN (aN (thS S) 2 pj 2) 3 pj (wh S qj))) := by
              unfold s_move
              rw [if_pos h4, if_neg (show ¬ nI qj = -1 by intro z; exact nI_pos (show qj < 2 ^ 31 by omega) (z ▸ (by decide : (-1 : Int32) < 0))), if_pos h16, hpl_p, hpl_q, hk_q] <;> rfl
            exact g_iret hC hR dX9_move_51 ⟨b, congrArg (fun z => some (Value.int (Prod.fst z))) hE.symm, by rw [hE]; exact hx1, xG.rf⟩
          · have hw_q : wh S qj < S.1 10 := hI.wr hqj hk_q
            have hp0_q : plcF (thS S) b qj = some (b.1 4 (wh S qj)) := plc_k hqj hk_q (by decide)
            refine g_aald hC 5 rfl (hx0.Mp rfl).1 (hx0.Mp rfl).2 (qj) rfl (show qj < 10 by omega) (by decide) dX9_move_40 ?_
            refine g_val (w := .ref (b.1 4 (wh S qj))) (congrArg va_rf hp0_q) ?_
            refine g_aastO hC 5 rfl (r := (RX5, TX5, 1)) (gKK_C "KeptTerms$Rows" "KeptTerms$Thing" (by decide)) rfl (hx0.W hw_q rfl).1 (hx0.W hw_q rfl).2 (hx0.Mp rfl).1 (hx0.Mp rfl).2 (pj) rfl (show pj < 10 by omega) (by decide) dX9_move_41 ?_
            refine g_fx (P := xR cy ((aN (aN (thS S) 2 pj 3) 3 pj (wh S qj))) b) (hx0.hold (x := 3) (r := wh S qj) hpj (by decide) rfl) (fun f1 hx1 => ?_)
            show gW X vwCl 3 L f1 0 0 42 [(0, .ref M), (1, .int (nI pj)), (2, .int (nI qj))] []
            refine g_aload_n hC dX9_move_42 rfl 0 rfl (Or.inr ⟨_, rfl⟩) ?_
            refine g_get hC (by decide +kernel) rfl (hx1.M hM).1 (hx1.M hM).2 0 (by decide) (by decide +kernel) (Or.inl rfl) rfl dX9_move_43 ?_
            refine g_iload_n hC dX9_move_46 rfl 1 rfl ?_
            refine g_aald hC 5 rfl (hx1.Mp rfl).1 (hx1.Mp rfl).2 (pj) rfl (show pj < 10 by omega) (by decide) dX9_move_47 ?_
            refine g_val (w := .ref (b.1 4 (wh S qj))) (congrArg va_rf (hold_k hpj (show (3 : Nat) ≠ 0 by decide))) ?_
            refine g_S (As := [.ref (b.1 4 (wh S qj))]) (st := []) hC 1 dX9_move_48 gX9_move_X9_kindOf rfl (by decide +kernel) ⟨Nat.le_of_ble_eq_true rfl, Nat.le_of_ble_eq_true rfl⟩ rfl (Nat.le_of_ble_eq_true rfl) ⟨Nat.le_of_ble_eq_true rfl, Nat.le_of_ble_eq_true rfl⟩ (c2 := 0) (s2 := 0) rfl rfl (x_kindOf (some (b.1 4 (wh S qj))) 3 (Or.inr ⟨_, 3, _, rfl, (hx1.W hw_q rfl), Or.inr (Or.inr (Or.inl ⟨rfl, rfl⟩))⟩)) ?_
            have hE : s_move S (nI pj) (nI qj) = (nI 3, (aN (aN (thS S) 2 pj 3) 3 pj (wh S qj))) := by
              unfold s_move
              rw [if_pos h4, if_neg (show ¬ nI qj = -1 by intro z; exact nI_pos (show qj < 2 ^ 31 by omega) (z ▸ (by decide : (-1 : Int32) < 0))), if_pos h16, hpl_p, hpl_q, hk_q] <;> rfl
            exact g_iret hC hR dX9_move_51 ⟨b, congrArg (fun z => some (Value.int (Prod.fst z))) hE.symm, by rw [hE]; exact hx1, xG.rf⟩
          · have hw_q : wh S qj < S.1 13 := hI.wt hqj (by omega)
            have hb_q : S.2.1 14 (wh S qj) = 0 := by have := ((hI.2.1 _ hqj).2.2.2.2.2 (by omega)).2; omega
            have hp0_q : plcF (thS S) b qj = some (b.1 6 (wh S qj)) := plc_k hqj hk_q (by decide)
            refine g_aald hC 5 rfl (hx0.Mp rfl).1 (hx0.Mp rfl).2 (qj) rfl (show qj < 10 by omega) (by decide) dX9_move_40 ?_
            refine g_val (w := .ref (b.1 6 (wh S qj))) (congrArg va_rf hp0_q) ?_
            refine g_aastO hC 5 rfl (r := (RX7, TX7, 5)) (gKK_C "KeptTerms$Table" "KeptTerms$Thing" (by decide)) rfl (hx0.T hw_q rfl hb_q).1 (hx0.T hw_q rfl hb_q).2 (hx0.Mp rfl).1 (hx0.Mp rfl).2 (pj) rfl (show pj < 10 by omega) (by decide) dX9_move_41 ?_
            refine g_fx (P := xR cy ((aN (aN (thS S) 2 pj 4) 3 pj (wh S qj))) b) (hx0.hold (x := 4) (r := wh S qj) hpj (by decide) rfl) (fun f1 hx1 => ?_)
            show gW X vwCl 3 L f1 0 0 42 [(0, .ref M), (1, .int (nI pj)), (2, .int (nI qj))] []
            refine g_aload_n hC dX9_move_42 rfl 0 rfl (Or.inr ⟨_, rfl⟩) ?_
            refine g_get hC (by decide +kernel) rfl (hx1.M hM).1 (hx1.M hM).2 0 (by decide) (by decide +kernel) (Or.inl rfl) rfl dX9_move_43 ?_
            refine g_iload_n hC dX9_move_46 rfl 1 rfl ?_
            refine g_aald hC 5 rfl (hx1.Mp rfl).1 (hx1.Mp rfl).2 (pj) rfl (show pj < 10 by omega) (by decide) dX9_move_47 ?_
            refine g_val (w := .ref (b.1 6 (wh S qj))) (congrArg va_rf (hold_k hpj (show (4 : Nat) ≠ 0 by decide))) ?_
            refine g_S (As := [.ref (b.1 6 (wh S qj))]) (st := []) hC 1 dX9_move_48 gX9_move_X9_kindOf rfl (by decide +kernel) ⟨Nat.le_of_ble_eq_true rfl, Nat.le_of_ble_eq_true rfl⟩ rfl (Nat.le_of_ble_eq_true rfl) ⟨Nat.le_of_ble_eq_true rfl, Nat.le_of_ble_eq_true rfl⟩ (c2 := 0) (s2 := 0) rfl rfl (x_kindOf (some (b.1 6 (wh S qj))) 4 (Or.inr ⟨_, 5, _, rfl, (hx1.T hw_q rfl hb_q), Or.inr (Or.inr (Or.inr (Or.inl ⟨rfl, rfl⟩)))⟩)) ?_
            have hE : s_move S (nI pj) (nI qj) = (nI 4, (aN (aN (thS S) 2 pj 4) 3 pj (wh S qj))) := by
              unfold s_move
              rw [if_pos h4, if_neg (show ¬ nI qj = -1 by intro z; exact nI_pos (show qj < 2 ^ 31 by omega) (z ▸ (by decide : (-1 : Int32) < 0))), if_pos h16, hpl_p, hpl_q, hk_q] <;> rfl
            exact g_iret hC hR dX9_move_51 ⟨b, congrArg (fun z => some (Value.int (Prod.fst z))) hE.symm, by rw [hE]; exact hx1, xG.rf⟩
          · have hw_q : wh S qj < S.1 13 := hI.wt hqj (by omega)
            have hb_q : S.2.1 14 (wh S qj) ≠ 0 := by have := ((hI.2.1 _ hqj).2.2.2.2.2 (by omega)).2; omega
            have hp0_q : plcF (thS S) b qj = some (b.1 6 (wh S qj)) := plc_k hqj hk_q (by decide)
            refine g_aald hC 5 rfl (hx0.Mp rfl).1 (hx0.Mp rfl).2 (qj) rfl (show qj < 10 by omega) (by decide) dX9_move_40 ?_
            refine g_val (w := .ref (b.1 6 (wh S qj))) (congrArg va_rf hp0_q) ?_
            refine g_aastO hC 5 rfl (r := (RX1, TX1, 6)) (gKK_C "KeptTerms$Keeper" "KeptTerms$Thing" (by decide)) rfl (hx0.K hw_q rfl hb_q).1 (hx0.K hw_q rfl hb_q).2 (hx0.Mp rfl).1 (hx0.Mp rfl).2 (pj) rfl (show pj < 10 by omega) (by decide) dX9_move_41 ?_
            refine g_fx (P := xR cy ((aN (aN (thS S) 2 pj 5) 3 pj (wh S qj))) b) (hx0.hold (x := 5) (r := wh S qj) hpj (by decide) rfl) (fun f1 hx1 => ?_)
            show gW X vwCl 3 L f1 0 0 42 [(0, .ref M), (1, .int (nI pj)), (2, .int (nI qj))] []
            refine g_aload_n hC dX9_move_42 rfl 0 rfl (Or.inr ⟨_, rfl⟩) ?_
            refine g_get hC (by decide +kernel) rfl (hx1.M hM).1 (hx1.M hM).2 0 (by decide) (by decide +kernel) (Or.inl rfl) rfl dX9_move_43 ?_
            refine g_iload_n hC dX9_move_46 rfl 1 rfl ?_
            refine g_aald hC 5 rfl (hx1.Mp rfl).1 (hx1.Mp rfl).2 (pj) rfl (show pj < 10 by omega) (by decide) dX9_move_47 ?_
            refine g_val (w := .ref (b.1 6 (wh S qj))) (congrArg va_rf (hold_k hpj (show (5 : Nat) ≠ 0 by decide))) ?_
            refine g_S (As := [.ref (b.1 6 (wh S qj))]) (st := []) hC 1 dX9_move_48 gX9_move_X9_kindOf rfl (by decide +kernel) ⟨Nat.le_of_ble_eq_true rfl, Nat.le_of_ble_eq_true rfl⟩ rfl (Nat.le_of_ble_eq_true rfl) ⟨Nat.le_of_ble_eq_true rfl, Nat.le_of_ble_eq_true rfl⟩ (c2 := 0) (s2 := 0) rfl rfl (x_kindOf (some (b.1 6 (wh S qj))) 5 (Or.inr ⟨_, 1, _, rfl, (hx1.K hw_q rfl hb_q), Or.inr (Or.inr (Or.inr (Or.inr ⟨rfl, rfl⟩)))⟩)) ?_
            have hE : s_move S (nI pj) (nI qj) = (nI 5, (aN (aN (thS S) 2 pj 5) 3 pj (wh S qj))) := by
              unfold s_move
              rw [if_pos h4, if_neg (show ¬ nI qj = -1 by intro z; exact nI_pos (show qj < 2 ^ 31 by omega) (z ▸ (by decide : (-1 : Int32) < 0))), if_pos h16, hpl_p, hpl_q, hk_q] <;> rfl
            exact g_iret hC hR dX9_move_51 ⟨b, congrArg (fun z => some (Value.int (Prod.fst z))) hE.symm, by rw [hE]; exact hx1, xG.rf⟩
        · exact absurd (h28 ▸ (by decide : (-1 : Int32) < 0)) (nI_pos (show qj < 2 ^ 31 by omega))
      · refine g_iconst hC dX9_move_19 (v := (-1)) (by decide) ?_
        have hE : s_move S (nI pj) q = ((-1), (thS S)) := by
          unfold s_move
          rw [if_pos h4, if_neg h9, if_neg h16] <;> rfl
        exact g_iret hC hR dX9_move_20 ⟨b, congrArg (fun z => some (Value.int (Prod.fst z))) hE.symm, by rw [hE]; exact hx0, xG.rf⟩
set_option maxRecDepth 20000 in
set_option maxHeartbeats 4000000 in
theorem y_lay {S : aS} {b : xB} (hx : xR cy S b L f) (hI : aI S) (M : Nat) (hM : b.1 9 0 = M) (p i q : Int32) : gCt l D vwCl (gKK D cy adK adV) yX9_lay wsX9_lay { frames := 5, cells := 0, slots := 0, locals := 106 } [.ref M, .int p, .int i, .int q] L f (xP cy S b (s_lay S p i q).2 (fun _ => some (.int (s_lay S p i q).1))) := by
  refine gCt.of gKK_ok (by decide) rfl rfl (fun X hC hR hnm => ?_)
  have hC : gC X l _ D vwCl (cyT cy) (gKK D cy adK adV) cX9_lay 6 wsX9_lay RX9 := hC
  have hx0 := hx.th0
  have hI0 := hI.th
  show gW X vwCl 6 L f 0 0 0 [(0, .ref M), (1, .int p), (2, .int i), (3, .int q)] []
  refine g_iload_n hC dX9_lay_0 rfl 1 rfl ?_
  refine g_S (As := [.int p]) (st := []) hC 1 dX9_lay_1 gX9_lay_X9_isPlace rfl (by decide +kernel) ⟨Nat.le_of_ble_eq_true rfl, Nat.le_of_ble_eq_true rfl⟩ rfl (Nat.le_of_ble_eq_true rfl) ⟨Nat.le_of_ble_eq_true rfl, Nat.le_of_ble_eq_true rfl⟩ (c2 := 0) (s2 := 0) rfl rfl (x_isPlace _) ?_
  refine g_ifB_eq (P := isP p) (tgt := 14) hC dX9_lay_4 (by decide) (fun h4 => ?_) (fun h4 => ?_)
  · refine g_iconst hC dX9_lay_14 (v := (-1)) (by decide) ?_
    have hE : s_lay S p i q = ((-1), (thS S)) := by
      unfold s_lay
      rw [if_neg h4] <;> rfl
    exact g_iret hC hR dX9_lay_15 ⟨b, congrArg (fun z => some (Value.int (Prod.fst z))) hE.symm, by rw [hE]; exact hx0, xG.rf⟩
  · obtain ⟨pj, hpj, rfl⟩ := isP_j h4
    have hpl_p : pl (nI pj) = pj := nI_clamp (by omega)
    refine g_iload_n hC dX9_lay_7 rfl 3 rfl ?_
    refine g_S (As := [.int q]) (st := []) hC 1 dX9_lay_8 gX9_lay_X9_isPlace rfl (by decide +kernel) ⟨Nat.le_of_ble_eq_true rfl, Nat.le_of_ble_eq_true rfl⟩ rfl (Nat.le_of_ble_eq_true rfl) ⟨Nat.le_of_ble_eq_true rfl, Nat.le_of_ble_eq_true rfl⟩ (c2 := 0) (s2 := 0) rfl rfl (x_isPlace _) ?_
    refine g_ifB_ne (P := isP q) (tgt := 16) hC dX9_lay_11 (by decide) (fun h11 => ?_) (fun h11 => ?_)
    · obtain ⟨qj, hqj, rfl⟩ := isP_j h11
      have hpl_q : pl (nI qj) = qj := nI_clamp (by omega)
      refine g_aload_n hC dX9_lay_16 rfl 0 rfl (Or.inr ⟨_, rfl⟩) ?_
      refine g_get hC (by decide +kernel) rfl (hx0.M hM).1 (hx0.M hM).2 0 (by decide) (by decide +kernel) (Or.inl rfl) rfl dX9_lay_17 ?_
      refine g_iload_n hC dX9_lay_20 rfl 1 rfl ?_
      have h5_p := hI.k5 hpj
      rcases (show kd S pj = 0 ∨ kd S pj = 1 ∨ kd S pj = 2 ∨ kd S pj = 3 ∨ kd S pj = 4 ∨ kd S pj = 5 by omega) with hk_p | hk_p | hk_p | hk_p | hk_p | hk_p
      · have hp0_p : plcF (thS S) b pj = none := plc_0 hpj hk_p
        refine g_aald hC 5 rfl (hx0.Mp rfl).1 (hx0.Mp rfl).2 (pj) rfl (show pj < 10 by omega) (by decide) dX9_lay_21 ?_
        refine g_val (w := .null) (congrArg va_rf hp0_p) ?_
        refine g_iconst hC dX9_lay_22 (v := nI 3) (by decide) ?_
        refine g_S (As := [.null, .int (nI 3)]) (st := []) hC 2 dX9_lay_23 gX9_lay_X9_mayBeCast rfl (by decide +kernel) ⟨Nat.le_of_ble_eq_true rfl, Nat.le_of_ble_eq_true rfl⟩ rfl (Nat.le_of_ble_eq_true rfl) ⟨Nat.le_of_ble_eq_true rfl, Nat.le_of_ble_eq_true rfl⟩ (c2 := 0) (s2 := 0) rfl rfl (x_mayBeCast none 0 (Or.inl ⟨rfl, rfl⟩) 3 (by decide)) ?_
        refine g_ifN_eq (a := 1) (tgt := 42) hC dX9_lay_26 (by decide) (by omega) (fun h26 => ?_) (fun h26 => ?_)
        · exfalso; omega
        · refine g_aload_n hC dX9_lay_29 rfl 0 rfl (Or.inr ⟨_, rfl⟩) ?_
          refine g_get hC (by decide +kernel) rfl (hx0.M hM).1 (hx0.M hM).2 0 (by decide) (by decide +kernel) (Or.inl rfl) rfl dX9_lay_30 ?_
          refine g_iload_n hC dX9_lay_33 rfl 3 rfl ?_
          have h5_q := hI.k5 hqj
          rcases (show kd S qj = 0 ∨ kd S qj = 1 ∨ kd S qj = 2 ∨ kd S qj = 3 ∨ kd S qj = 4 ∨ kd S qj = 5 by omega) with hk_q | hk_q | hk_q | hk_q | hk_q | hk_q
          · have hp0_q : plcF (thS S) b qj = none := plc_0 hqj hk_q
            refine g_aald hC 5 rfl (hx0.Mp rfl).1 (hx0.Mp rfl).2 (qj) rfl (show qj < 10 by omega) (by decide) dX9_lay_34 ?_
            refine g_val (w := .null) (congrArg va_rf hp0_q) ?_
            refine g_iconst hC dX9_lay_35 (v := nI 1) (by decide) ?_
            refine g_S (As := [.null, .int (nI 1)]) (st := []) hC 2 dX9_lay_36 gX9_lay_X9_mayBeCast rfl (by decide +kernel) ⟨Nat.le_of_ble_eq_true rfl, Nat.le_of_ble_eq_true rfl⟩ rfl (Nat.le_of_ble_eq_true rfl) ⟨Nat.le_of_ble_eq_true rfl, Nat.le_of_ble_eq_true rfl⟩ (c2 := 0) (s2 := 0) rfl rfl (x_mayBeCast none 0 (Or.inl ⟨rfl, rfl⟩) 1 (by decide)) ?_
            refine g_ifN_ne (a := 1) (tgt := 48) hC dX9_lay_39 (by decide) (by omega) (fun h39 => ?_) (fun h39 => ?_)
            · refine g_aload_n hC dX9_lay_48 rfl 0 rfl (Or.inr ⟨_, rfl⟩) ?_
              refine g_get hC (by decide +kernel) rfl (hx0.M hM).1 (hx0.M hM).2 0 (by decide) (by decide +kernel) (Or.inl rfl) rfl dX9_lay_49 ?_
              refine g_iload_n hC dX9_lay_52 rfl 1 rfl ?_
              refine g_aald hC 5 rfl (hx0.Mp rfl).1 (hx0.Mp rfl).2 (pj) rfl (show pj < 10 by omega) (by decide) dX9_lay_53 ?_
              refine g_val (w := .null) (congrArg va_rf hp0_p) ?_
              refine g_iconst hC dX9_lay_54 (v := nI 3) (by decide) ?_
              refine g_iload_n hC dX9_lay_55 rfl 2 rfl ?_
              refine g_S (As := [.null, .int (nI 3), .int i]) (st := []) hC 3 dX9_lay_56 gX9_lay_X9_cellFault rfl (by decide +kernel) ⟨Nat.le_of_ble_eq_true rfl, Nat.le_of_ble_eq_true rfl⟩ rfl (Nat.le_of_ble_eq_true rfl) ⟨Nat.le_of_ble_eq_true rfl, Nat.le_of_ble_eq_true rfl⟩ (c2 := 0) (s2 := 0) rfl rfl (x_cellFault_0 3 (by decide) _) ?_
              refine g_istore (lv' := [(4, .int (nI 1)), (0, .ref M), (1, .int (nI pj)), (2, .int i), (3, .int (nI qj))]) hC dX9_lay_59 (by decide) rfl ?_
              refine g_aload_n hC dX9_lay_61 rfl 1 rfl (Or.inr ⟨_, rfl⟩) ?_
              refine g_get hC (by decide +kernel) rfl (hx0.M hM).1 (hx0.M hM).2 0 (by decide) (by decide +kernel) (Or.inl rfl) rfl dX9_lay_62 ?_
              refine g_iload_n hC dX9_lay_65 rfl 2 rfl ?_
              refine g_aald hC 5 rfl (hx0.Mp rfl).1 (hx0.Mp rfl).2 (pj) rfl (show pj < 10 by omega) (by decide) dX9_lay_66 ?_
              refine g_val (w := .null) (congrArg va_rf hp0_p) ?_
              refine g_S (As := [.null]) (st := []) hC 1 dX9_lay_67 gX9_lay_X9_asRows rfl (by decide +kernel) ⟨Nat.le_of_ble_eq_true rfl, Nat.le_of_ble_eq_true rfl⟩ rfl (Nat.le_of_ble_eq_true rfl) ⟨Nat.le_of_ble_eq_true rfl, Nat.le_of_ble_eq_true rfl⟩ (c2 := 0) (s2 := 0) rfl rfl (x_asRows none 0 (Or.inl ⟨rfl, rfl⟩)) ?_
              refine g_astore (lv' := [(5, .null), (4, .int (nI 1)), (0, .ref M), (1, .int (nI pj)), (2, .int i), (3, .int (nI qj))]) hC dX9_lay_70 (by decide) rfl (Or.inl rfl) ?_
              refine g_iload hC dX9_lay_72 1 rfl ?_
              refine g_ifN_ne (a := 1) (tgt := 82) hC dX9_lay_74 (by decide) (by omega) (fun h74 => ?_) (fun h74 => ?_)
              · refine g_aload_n hC dX9_lay_82 rfl 2 rfl (Or.inr ⟨_, rfl⟩) ?_
                refine g_iload hC dX9_lay_83 1 rfl ?_
                refine g_Vx (As := [.int (nI 1)]) (st := []) hC 1 dX9_lay_85 rfl (hx0.M hM).1 (hx0.M hM).2 gX9_lay_X9_failed rfl (by decide +kernel) ⟨Nat.le_of_ble_eq_true rfl, Nat.le_of_ble_eq_true rfl⟩ rfl (Nat.le_of_ble_eq_true rfl) ⟨(Nat.le_of_ble_eq_true rfl), (Nat.le_of_ble_eq_true rfl)⟩ (c2 := 0) (s2 := 0) rfl rfl (x_failed hx0 M hM 1) (fun v1 L1 f1 hp1 => ?_)
                obtain ⟨rfl, hx1⟩ := hp1
                show gW X vwCl 6 L1 f1 0 0 88 [(5, .null), (4, .int (nI 1)), (0, .ref M), (1, .int (nI pj)), (2, .int i), (3, .int (nI qj))] [.int (fA 1)]
                have hc_p : castF S pj 3 = 1 := by unfold castF isO; rw [hk_p] <;> decide
                have hc_q : castF S qj 1 = 1 := by unfold castF isO; rw [hk_q] <;> decide
                have hE : s_lay S (nI pj) i (nI qj) = (fA 1, (aSc (thS S) 1 1)) := by
                  unfold s_lay
                  rw [if_pos h4, if_pos h11, hpl_p, hpl_q, if_neg (show ¬ (castF S pj 3 = 2 ∨ castF S qj 1 = 2) by omega), hc_p, if_pos (show 0 < 1 by decide)] <;> rfl
                exact g_iret hC hR dX9_lay_88 ⟨b, congrArg (fun z => some (Value.int (Prod.fst z))) hE.symm, by rw [hE]; exact hx1, xG.rf⟩
              · exfalso; omega
            · exfalso; omega
          · have hw_q : wh S qj < S.1 4 := hI.wl hqj hk_q
            have hp0_q : plcF (thS S) b qj = some (b.1 0 (wh S qj)) := plc_k hqj hk_q (by decide)
            refine g_aald hC 5 rfl (hx0.Mp rfl).1 (hx0.Mp rfl).2 (qj) rfl (show qj < 10 by omega) (by decide) dX9_lay_34 ?_
            refine g_val (w := .ref (b.1 0 (wh S qj))) (congrArg va_rf hp0_q) ?_
            refine g_iconst hC dX9_lay_35 (v := nI 1) (by decide) ?_
            refine g_S (As := [.ref (b.1 0 (wh S qj)), .int (nI 1)]) (st := []) hC 2 dX9_lay_36 gX9_lay_X9_mayBeCast rfl (by decide +kernel) ⟨Nat.le_of_ble_eq_true rfl, Nat.le_of_ble_eq_true rfl⟩ rfl (Nat.le_of_ble_eq_true rfl) ⟨Nat.le_of_ble_eq_true rfl, Nat.le_of_ble_eq_true rfl⟩ (c2 := 0) (s2 := 0) rfl rfl (x_mayBeCast (some (b.1 0 (wh S qj))) 1 (Or.inr ⟨_, 0, _, rfl, (hx0.B hw_q rfl), Or.inl ⟨rfl, rfl⟩⟩) 1 (by decide)) ?_
            refine g_ifN_ne (a := 1) (tgt := 48) hC dX9_lay_39 (by decide) (by omega) (fun h39 => ?_) (fun h39 => ?_)
            · refine g_aload_n hC dX9_lay_48 rfl 0 rfl (Or.inr ⟨_, rfl⟩) ?_
              refine g_get hC (by decide +kernel) rfl (hx0.M hM).1 (hx0.M hM).2 0 (by decide) (by decide +kernel) (Or.inl rfl) rfl dX9_lay_49 ?_
              refine g_iload_n hC dX9_lay_52 rfl 1 rfl ?_
              refine g_aald hC 5 rfl (hx0.Mp rfl).1 (hx0.Mp rfl).2 (pj) rfl (show pj < 10 by omega) (by decide) dX9_lay_53 ?_
              refine g_val (w := .null) (congrArg va_rf hp0_p) ?_
              refine g_iconst hC dX9_lay_54 (v := nI 3) (by decide) ?_
              refine g_iload_n hC dX9_lay_55 rfl 2 rfl ?_
              refine g_S (As := [.null, .int (nI 3), .int i]) (st := []) hC 3 dX9_lay_56 gX9_lay_X9_cellFault rfl (by decide +kernel) ⟨Nat.le_of_ble_eq_true rfl, Nat.le_of_ble_eq_true rfl⟩ rfl (Nat.le_of_ble_eq_true rfl) ⟨Nat.le_of_ble_eq_true rfl, Nat.le_of_ble_eq_true rfl⟩ (c2 := 0) (s2 := 0) rfl rfl (x_cellFault_0 3 (by decide) _) ?_
              refine g_istore (lv' := [(4, .int (nI 1)), (0, .ref M), (1, .int (nI pj)), (2, .int i), (3, .int (nI qj))]) hC dX9_lay_59 (by decide) rfl ?_
              refine g_aload_n hC dX9_lay_61 rfl 1 rfl (Or.inr ⟨_, rfl⟩) ?_
              refine g_get hC (by decide +kernel) rfl (hx0.M hM).1 (hx0.M hM).2 0 (by decide) (by decide +kernel) (Or.inl rfl) rfl dX9_lay_62 ?_
              refine g_iload_n hC dX9_lay_65 rfl 2 rfl ?_
              refine g_aald hC 5 rfl (hx0.Mp rfl).1 (hx0.Mp rfl).2 (pj) rfl (show pj < 10 by omega) (by decide) dX9_lay_66 ?_
              refine g_val (w := .null) (congrArg va_rf hp0_p) ?_
              refine g_S (As := [.null]) (st := []) hC 1 dX9_lay_67 gX9_lay_X9_asRows rfl (by decide +kernel) ⟨Nat.le_of_ble_eq_true rfl, Nat.le_of_ble_eq_true rfl⟩ rfl (Nat.le_of_ble_eq_true rfl) ⟨Nat.le_of_ble_eq_true rfl, Nat.le_of_ble_eq_true rfl⟩ (c2 := 0) (s2 := 0) rfl rfl (x_asRows none 0 (Or.inl ⟨rfl, rfl⟩)) ?_
              refine g_astore (lv' := [(5, .null), (4, .int (nI 1)), (0, .ref M), (1, .int (nI pj)), (2, .int i), (3, .int (nI qj))]) hC dX9_lay_70 (by decide) rfl (Or.inl rfl) ?_
              refine g_iload hC dX9_lay_72 1 rfl ?_
              refine g_ifN_ne (a := 1) (tgt := 82) hC dX9_lay_74 (by decide) (by omega) (fun h74 => ?_) (fun h74 => ?_)
              · refine g_aload_n hC dX9_lay_82 rfl 2 rfl (Or.inr ⟨_, rfl⟩) ?_
                refine g_iload hC dX9_lay_83 1 rfl ?_
                refine g_Vx (As := [.int (nI 1)]) (st := []) hC 1 dX9_lay_85 rfl (hx0.M hM).1 (hx0.M hM).2 gX9_lay_X9_failed rfl (by decide +kernel) ⟨Nat.le_of_ble_eq_true rfl, Nat.le_of_ble_eq_true rfl⟩ rfl (Nat.le_of_ble_eq_true rfl) ⟨(Nat.le_of_ble_eq_true rfl), (Nat.le_of_ble_eq_true rfl)⟩ (c2 := 0) (s2 := 0) rfl rfl (x_failed hx0 M hM 1) (fun v1 L1 f1 hp1 => ?_)
                obtain ⟨rfl, hx1⟩ := hp1
                show gW X vwCl 6 L1 f1 0 0 88 [(5, .null), (4, .int (nI 1)), (0, .ref M), (1, .int (nI pj)), (2, .int i), (3, .int (nI qj))] [.int (fA 1)]
                have hc_p : castF S pj 3 = 1 := by unfold castF isO; rw [hk_p] <;> decide
                have hc_q : castF S qj 1 = 0 := by unfold castF isO; rw [hk_q] <;> decide
                have hE : s_lay S (nI pj) i (nI qj) = (fA 1, (aSc (thS S) 1 1)) := by
                  unfold s_lay
                  rw [if_pos h4, if_pos h11, hpl_p, hpl_q, if_neg (show ¬ (castF S pj 3 = 2 ∨ castF S qj 1 = 2) by omega), hc_p, if_pos (show 0 < 1 by decide)] <;> rfl
                exact g_iret hC hR dX9_lay_88 ⟨b, congrArg (fun z => some (Value.int (Prod.fst z))) hE.symm, by rw [hE]; exact hx1, xG.rf⟩
              · exfalso; omega
            · exfalso; omega
          · have hw_q : wh S qj < S.1 7 := hI.ws hqj hk_q
            have hp0_q : plcF (thS S) b qj = some (b.1 2 (wh S qj)) := plc_k hqj hk_q (by decide)
            refine g_aald hC 5 rfl (hx0.Mp rfl).1 (hx0.Mp rfl).2 (qj) rfl (show qj < 10 by omega) (by decide) dX9_lay_34 ?_
            refine g_val (w := .ref (b.1 2 (wh S qj))) (congrArg va_rf hp0_q) ?_
            refine g_iconst hC dX9_lay_35 (v := nI 1) (by decide) ?_
            refine g_S (As := [.ref (b.1 2 (wh S qj)), .int (nI 1)]) (st := []) hC 2 dX9_lay_36 gX9_lay_X9_mayBeCast rfl (by decide +kernel) ⟨Nat.le_of_ble_eq_true rfl, Nat.le_of_ble_eq_true rfl⟩ rfl (Nat.le_of_ble_eq_true rfl) ⟨Nat.le_of_ble_eq_true rfl, Nat.le_of_ble_eq_true rfl⟩ (c2 := 0) (s2 := 0) rfl rfl (x_mayBeCast (some (b.1 2 (wh S qj))) 2 (Or.inr ⟨_, 4, _, rfl, (hx0.G hw_q rfl), Or.inr (Or.inl ⟨rfl, rfl⟩)⟩) 1 (by decide)) ?_
            refine g_ifN_ne (a := 0) (tgt := 48) hC dX9_lay_39 (by decide) (by omega) (fun h39 => ?_) (fun h39 => ?_)
            · exfalso; omega
            · refine g_aload_n hC dX9_lay_42 rfl 0 rfl (Or.inr ⟨_, rfl⟩) ?_
              refine g_iconst hC dX9_lay_43 (v := nI 2) (by decide) ?_
              refine g_Vx (As := [.int (nI 2)]) (st := []) hC 1 dX9_lay_44 rfl (hx0.M hM).1 (hx0.M hM).2 gX9_lay_X9_failed rfl (by decide +kernel) ⟨Nat.le_of_ble_eq_true rfl, Nat.le_of_ble_eq_true rfl⟩ rfl (Nat.le_of_ble_eq_true rfl) ⟨(Nat.le_of_ble_eq_true rfl), (Nat.le_of_ble_eq_true rfl)⟩ (c2 := 0) (s2 := 0) rfl rfl (x_failed hx0 M hM 2) (fun v1 L1 f1 hp1 => ?_)
              obtain ⟨rfl, hx1⟩ := hp1
              show gW X vwCl 6 L1 f1 0 0 47 [(0, .ref M), (1, .int (nI pj)), (2, .int i), (3, .int (nI qj))] [.int (fA 2)]
              have hc_p : castF S pj 3 = 1 := by unfold castF isO; rw [hk_p] <;> decide
              have hc_q : castF S qj 1 = 2 := by unfold castF isO; rw [hk_q] <;> decide
              have hE : s_lay S (nI pj) i (nI qj) = (fA 2, (aSc (thS S) 1 2)) := by
                unfold s_lay
                rw [if_pos h4, if_pos h11, hpl_p, hpl_q, if_pos (Or.inr hc_q)] <;> rfl
              exact g_iret hC hR dX9_lay_47 ⟨b, congrArg (fun z => some (Value.int (Prod.fst z))) hE.symm, by rw [hE]; exact hx1, xG.rf⟩
          · have hw_q : wh S qj < S.1 10 := hI.wr hqj hk_q
            have hp0_q : plcF (thS S) b qj = some (b.1 4 (wh S qj)) := plc_k hqj hk_q (by decide)
            refine g_aald hC 5 rfl (hx0.Mp rfl).1 (hx0.Mp rfl).2 (qj) rfl (show qj < 10 by omega) (by decide) dX9_lay_34 ?_
            refine g_val (w := .ref (b.1 4 (wh S qj))) (congrArg va_rf hp0_q) ?_
            refine g_iconst hC dX9_lay_35 (v := nI 1) (by decide) ?_
            refine g_S (As := [.ref (b.1 4 (wh S qj)), .int (nI 1)]) (st := []) hC 2 dX9_lay_36 gX9_lay_X9_mayBeCast rfl (by decide +kernel) ⟨Nat.le_of_ble_eq_true rfl, Nat.le_of_ble_eq_true rfl⟩ rfl (Nat.le_of_ble_eq_true rfl) ⟨Nat.le_of_ble_eq_true rfl, Nat.le_of_ble_eq_true rfl⟩ (c2 := 0) (s2 := 0) rfl rfl (x_mayBeCast (some (b.1 4 (wh S qj))) 3 (Or.inr ⟨_, 3, _, rfl, (hx0.W hw_q rfl), Or.inr (Or.inr (Or.inl ⟨rfl, rfl⟩))⟩) 1 (by decide)) ?_
            refine g_ifN_ne (a := 0) (tgt := 48) hC dX9_lay_39 (by decide) (by omega) (fun h39 => ?_) (fun h39 => ?_)
            · exfalso; omega
            · refine g_aload_n hC dX9_lay_42 rfl 0 rfl (Or.inr ⟨_, rfl⟩) ?_
              refine g_iconst hC dX9_lay_43 (v := nI 2) (by decide) ?_
              refine g_Vx (As := [.int (nI 2)]) (st := []) hC 1 dX9_lay_44 rfl (hx0.M hM).1 (hx0.M hM).2 gX9_lay_X9_failed rfl (by decide +kernel) ⟨Nat.le_of_ble_eq_true rfl, Nat.le_of_ble_eq_true rfl⟩ rfl (Nat.le_of_ble_eq_true rfl) ⟨(Nat.le_of_ble_eq_true rfl), (Nat.le_of_ble_eq_true rfl)⟩ (c2 := 0) (s2 := 0) rfl rfl (x_failed hx0 M hM 2) (fun v1 L1 f1 hp1 => ?_)
              obtain ⟨rfl, hx1⟩ := hp1
              show gW X vwCl 6 L1 f1 0 0 47 [(0, .ref M), (1, .int (nI pj)), (2, .int i), (3, .int (nI qj))] [.int (fA 2)]
              have hc_p : castF S pj 3 = 1 := by unfold castF isO; rw [hk_p] <;> decide
              have hc_q : castF S qj 1 = 2 := by unfold castF isO; rw [hk_q] <;> decide
              have hE : s_lay S (nI pj) i (nI qj) = (fA 2, (aSc (thS S) 1 2)) := by
                unfold s_lay
                rw [if_pos h4, if_pos h11, hpl_p, hpl_q, if_pos (Or.inr hc_q)] <;> rfl
              exact g_iret hC hR dX9_lay_47 ⟨b, congrArg (fun z => some (Value.int (Prod.fst z))) hE.symm, by rw [hE]; exact hx1, xG.rf⟩
          · have hw_q : wh S qj < S.1 13 := hI.wt hqj (by omega)
            have hb_q : S.2.1 14 (wh S qj) = 0 := by have := ((hI.2.1 _ hqj).2.2.2.2.2 (by omega)).2; omega
            have hp0_q : plcF (thS S) b qj = some (b.1 6 (wh S qj)) := plc_k hqj hk_q (by decide)
            refine g_aald hC 5 rfl (hx0.Mp rfl).1 (hx0.Mp rfl).2 (qj) rfl (show qj < 10 by omega) (by decide) dX9_lay_34 ?_
            refine g_val (w := .ref (b.1 6 (wh S qj))) (congrArg va_rf hp0_q) ?_
            refine g_iconst hC dX9_lay_35 (v := nI 1) (by decide) ?_
            refine g_S (As := [.ref (b.1 6 (wh S qj)), .int (nI 1)]) (st := []) hC 2 dX9_lay_36 gX9_lay_X9_mayBeCast rfl (by decide +kernel) ⟨Nat.le_of_ble_eq_true rfl, Nat.le_of_ble_eq_true rfl⟩ rfl (Nat.le_of_ble_eq_true rfl) ⟨Nat.le_of_ble_eq_true rfl, Nat.le_of_ble_eq_true rfl⟩ (c2 := 0) (s2 := 0) rfl rfl (x_mayBeCast (some (b.1 6 (wh S qj))) 4 (Or.inr ⟨_, 5, _, rfl, (hx0.T hw_q rfl hb_q), Or.inr (Or.inr (Or.inr (Or.inl ⟨rfl, rfl⟩)))⟩) 1 (by decide)) ?_
            refine g_ifN_ne (a := 0) (tgt := 48) hC dX9_lay_39 (by decide) (by omega) (fun h39 => ?_) (fun h39 => ?_)
            · exfalso; omega
            · refine g_aload_n hC dX9_lay_42 rfl 0 rfl (Or.inr ⟨_, rfl⟩) ?_
              refine g_iconst hC dX9_lay_43 (v := nI 2) (by decide) ?_
              refine g_Vx (As := [.int (nI 2)]) (st := []) hC 1 dX9_lay_44 rfl (hx0.M hM).1 (hx0.M hM).2 gX9_lay_X9_failed rfl (by decide +kernel) ⟨Nat.le_of_ble_eq_true rfl, Nat.le_of_ble_eq_true rfl⟩ rfl (Nat.le_of_ble_eq_true rfl) ⟨(Nat.le_of_ble_eq_true rfl), (Nat.le_of_ble_eq_true rfl)⟩ (c2 := 0) (s2 := 0) rfl rfl (x_failed hx0 M hM 2) (fun v1 L1 f1 hp1 => ?_)
              obtain ⟨rfl, hx1⟩ := hp1
              show gW X vwCl 6 L1 f1 0 0 47 [(0, .ref M), (1, .int (nI pj)), (2, .int i), (3, .int (nI qj))] [.int (fA 2)]
              have hc_p : castF S pj 3 = 1 := by unfold castF isO; rw [hk_p] <;> decide
              have hc_q : castF S qj 1 = 2 := by unfold castF isO; rw [hk_q] <;> decide
              have hE : s_lay S (nI pj) i (nI qj) = (fA 2, (aSc (thS S) 1 2)) := by
                unfold s_lay
                rw [if_pos h4, if_pos h11, hpl_p, hpl_q, if_pos (Or.inr hc_q)] <;> rfl
              exact g_iret hC hR dX9_lay_47 ⟨b, congrArg (fun z => some (Value.int (Prod.fst z))) hE.symm, by rw [hE]; exact hx1, xG.rf⟩
          · have hw_q : wh S qj < S.1 13 := hI.wt hqj (by omega)
            have hb_q : S.2.1 14 (wh S qj) ≠ 0 := by have := ((hI.2.1 _ hqj).2.2.2.2.2 (by omega)).2; omega
            have hp0_q : plcF (thS S) b qj = some (b.1 6 (wh S qj)) := plc_k hqj hk_q (by decide)
            refine g_aald hC 5 rfl (hx0.Mp rfl).1 (hx0.Mp rfl).2 (qj) rfl (show qj < 10 by omega) (by decide) dX9_lay_34 ?_
            refine g_val (w := .ref (b.1 6 (wh S qj))) (congrArg va_rf hp0_q) ?_
            refine g_iconst hC dX9_lay_35 (v := nI 1) (by decide) ?_
            refine g_S (As := [.ref (b.1 6 (wh S qj)), .int (nI 1)]) (st := []) hC 2 dX9_lay_36 gX9_lay_X9_mayBeCast rfl (by decide +kernel) ⟨Nat.le_of_ble_eq_true rfl, Nat.le_of_ble_eq_true rfl⟩ rfl (Nat.le_of_ble_eq_true rfl) ⟨Nat.le_of_ble_eq_true rfl, Nat.le_of_ble_eq_true rfl⟩ (c2 := 0) (s2 := 0) rfl rfl (x_mayBeCast (some (b.1 6 (wh S qj))) 5 (Or.inr ⟨_, 1, _, rfl, (hx0.K hw_q rfl hb_q), Or.inr (Or.inr (Or.inr (Or.inr ⟨rfl, rfl⟩)))⟩) 1 (by decide)) ?_
            refine g_ifN_ne (a := 0) (tgt := 48) hC dX9_lay_39 (by decide) (by omega) (fun h39 => ?_) (fun h39 => ?_)
            · exfalso; omega
            · refine g_aload_n hC dX9_lay_42 rfl 0 rfl (Or.inr ⟨_, rfl⟩) ?_
              refine g_iconst hC dX9_lay_43 (v := nI 2) (by decide) ?_
              refine g_Vx (As := [.int (nI 2)]) (st := []) hC 1 dX9_lay_44 rfl (hx0.M hM).1 (hx0.M hM).2 gX9_lay_X9_failed rfl (by decide +kernel) ⟨Nat.le_of_ble_eq_true rfl, Nat.le_of_ble_eq_true rfl⟩ rfl (Nat.le_of_ble_eq_true rfl) ⟨(Nat.le_of_ble_eq_true rfl), (Nat.le_of_ble_eq_true rfl)⟩ (c2 := 0) (s2 := 0) rfl rfl (x_failed hx0 M hM 2) (fun v1 L1 f1 hp1 => ?_)
              obtain ⟨rfl, hx1⟩ := hp1
              show gW X vwCl 6 L1 f1 0 0 47 [(0, .ref M), (1, .int (nI pj)), (2, .int i), (3, .int (nI qj))] [.int (fA 2)]
              have hc_p : castF S pj 3 = 1 := by unfold castF isO; rw [hk_p] <;> decide
              have hc_q : castF S qj 1 = 2 := by unfold castF isO; rw [hk_q] <;> decide
              have hE : s_lay S (nI pj) i (nI qj) = (fA 2, (aSc (thS S) 1 2)) := by
                unfold s_lay
                rw [if_pos h4, if_pos h11, hpl_p, hpl_q, if_pos (Or.inr hc_q)] <;> rfl
              exact g_iret hC hR dX9_lay_47 ⟨b, congrArg (fun z => some (Value.int (Prod.fst z))) hE.symm, by rw [hE]; exact hx1, xG.rf⟩
      · have hw_p : wh S pj < S.1 4 := hI.wl hpj hk_p
        have hp0_p : plcF (thS S) b pj = some (b.1 0 (wh S pj)) := plc_k hpj hk_p (by decide)
        refine g_aald hC 5 rfl (hx0.Mp rfl).1 (hx0.Mp rfl).2 (pj) rfl (show pj < 10 by omega) (by decide) dX9_lay_21 ?_
        refine g_val (w := .ref (b.1 0 (wh S pj))) (congrArg va_rf hp0_p) ?_
        refine g_iconst hC dX9_lay_22 (v := nI 3) (by decide) ?_
        refine g_S (As := [.ref (b.1 0 (wh S pj)), .int (nI 3)]) (st := []) hC 2 dX9_lay_23 gX9_lay_X9_mayBeCast rfl (by decide +kernel) ⟨Nat.le_of_ble_eq_true rfl, Nat.le_of_ble_eq_true rfl⟩ rfl (Nat.le_of_ble_eq_true rfl) ⟨Nat.le_of_ble_eq_true rfl, Nat.le_of_ble_eq_true rfl⟩ (c2 := 0) (s2 := 0) rfl rfl (x_mayBeCast (some (b.1 0 (wh S pj))) 1 (Or.inr ⟨_, 0, _, rfl, (hx0.B hw_p rfl), Or.inl ⟨rfl, rfl⟩⟩) 3 (by decide)) ?_
        refine g_ifN_eq (a := 0) (tgt := 42) hC dX9_lay_26 (by decide) (by omega) (fun h26 => ?_) (fun h26 => ?_)
        · refine g_aload_n hC dX9_lay_42 rfl 0 rfl (Or.inr ⟨_, rfl⟩) ?_
          refine g_iconst hC dX9_lay_43 (v := nI 2) (by decide) ?_
          refine g_Vx (As := [.int (nI 2)]) (st := []) hC 1 dX9_lay_44 rfl (hx0.M hM).1 (hx0.M hM).2 gX9_lay_X9_failed rfl (by decide +kernel) ⟨Nat.le_of_ble_eq_true rfl, Nat.le_of_ble_eq_true rfl⟩ rfl (Nat.le_of_ble_eq_true rfl) ⟨(Nat.le_of_ble_eq_true rfl), (Nat.le_of_ble_eq_true rfl)⟩ (c2 := 0) (s2 := 0) rfl rfl (x_failed hx0 M hM 2) (fun v1 L1 f1 hp1 => ?_)
          obtain ⟨rfl, hx1⟩ := hp1
          show gW X vwCl 6 L1 f1 0 0 47 [(0, .ref M), (1, .int (nI pj)), (2, .int i), (3, .int (nI qj))] [.int (fA 2)]
          have hc_p : castF S pj 3 = 2 := by unfold castF isO; rw [hk_p] <;> decide
          have hE : s_lay S (nI pj) i (nI qj) = (fA 2, (aSc (thS S) 1 2)) := by
            unfold s_lay
            rw [if_pos h4, if_pos h11, hpl_p, hpl_q, if_pos (Or.inl hc_p)] <;> rfl
          exact g_iret hC hR dX9_lay_47 ⟨b, congrArg (fun z => some (Value.int (Prod.fst z))) hE.symm, by rw [hE]; exact hx1, xG.rf⟩
        · exfalso; omega
      · have hw_p : wh S pj < S.1 7 := hI.ws hpj hk_p
        have hp0_p : plcF (thS S) b pj = some (b.1 2 (wh S pj)) := plc_k hpj hk_p (by decide)
        refine g_aald hC 5 rfl (hx0.Mp rfl).1 (hx0.Mp rfl).2 (pj) rfl (show pj < 10 by omega) (by decide) dX9_lay_21 ?_
        refine g_val (w := .ref (b.1 2 (wh S pj))) (congrArg va_rf hp0_p) ?_
        refine g_iconst hC dX9_lay_22 (v := nI 3) (by decide) ?_
        refine g_S (As := [.ref (b.1 2 (wh S pj)), .int (nI 3)]) (st := []) hC 2 dX9_lay_23 gX9_lay_X9_mayBeCast rfl (by decide +kernel) ⟨Nat.le_of_ble_eq_true rfl, Nat.le_of_ble_eq_true rfl⟩ rfl (Nat.le_of_ble_eq_true rfl) ⟨Nat.le_of_ble_eq_true rfl, Nat.le_of_ble_eq_true rfl⟩ (c2 := 0) (s2 := 0) rfl rfl (x_mayBeCast (some (b.1 2 (wh S pj))) 2 (Or.inr ⟨_, 4, _, rfl, (hx0.G hw_p rfl), Or.inr (Or.inl ⟨rfl, rfl⟩)⟩) 3 (by decide)) ?_
        refine g_ifN_eq (a := 0) (tgt := 42) hC dX9_lay_26 (by decide) (by omega) (fun h26 => ?_) (fun h26 => ?_)
        · refine g_aload_n hC dX9_lay_42 rfl 0 rfl (Or.inr ⟨_, rfl⟩) ?_
          refine g_iconst hC dX9_lay_43 (v := nI 2) (by decide) ?_
          refine g_Vx (As := [.int (nI 2)]) (st := []) hC 1 dX9_lay_44 rfl (hx0.M hM).1 (hx0.M hM).2 gX9_lay_X9_failed rfl (by decide +kernel) ⟨Nat.le_of_ble_eq_true rfl, Nat.le_of_ble_eq_true rfl⟩ rfl (Nat.le_of_ble_eq_true rfl) ⟨(Nat.le_of_ble_eq_true rfl), (Nat.le_of_ble_eq_true rfl)⟩ (c2 := 0) (s2 := 0) rfl rfl (x_failed hx0 M hM 2) (fun v1 L1 f1 hp1 => ?_)
          obtain ⟨rfl, hx1⟩ := hp1
          show gW X vwCl 6 L1 f1 0 0 47 [(0, .ref M), (1, .int (nI pj)), (2, .int i), (3, .int (nI qj))] [.int (fA 2)]
          have hc_p : castF S pj 3 = 2 := by unfold castF isO; rw [hk_p] <;> decide
          have hE : s_lay S (nI pj) i (nI qj) = (fA 2, (aSc (thS S) 1 2)) := by
            unfold s_lay
            rw [if_pos h4, if_pos h11, hpl_p, hpl_q, if_pos (Or.inl hc_p)] <;> rfl
          exact g_iret hC hR dX9_lay_47 ⟨b, congrArg (fun z => some (Value.int (Prod.fst z))) hE.symm, by rw [hE]; exact hx1, xG.rf⟩
        · exfalso; omega
      · have hw_p : wh S pj < S.1 10 := hI.wr hpj hk_p
        have hp0_p : plcF (thS S) b pj = some (b.1 4 (wh S pj)) := plc_k hpj hk_p (by decide)
        refine g_aald hC 5 rfl (hx0.Mp rfl).1 (hx0.Mp rfl).2 (pj) rfl (show pj < 10 by omega) (by decide) dX9_lay_21 ?_
        refine g_val (w := .ref (b.1 4 (wh S pj))) (congrArg va_rf hp0_p) ?_
        refine g_iconst hC dX9_lay_22 (v := nI 3) (by decide) ?_
        refine g_S (As := [.ref (b.1 4 (wh S pj)), .int (nI 3)]) (st := []) hC 2 dX9_lay_23 gX9_lay_X9_mayBeCast rfl (by decide +kernel) ⟨Nat.le_of_ble_eq_true rfl, Nat.le_of_ble_eq_true rfl⟩ rfl (Nat.le_of_ble_eq_true rfl) ⟨Nat.le_of_ble_eq_true rfl, Nat.le_of_ble_eq_true rfl⟩ (c2 := 0) (s2 := 0) rfl rfl (x_mayBeCast (some (b.1 4 (wh S pj))) 3 (Or.inr ⟨_, 3, _, rfl, (hx0.W hw_p rfl), Or.inr (Or.inr (Or.inl ⟨rfl, rfl⟩))⟩) 3 (by decide)) ?_
        refine g_ifN_eq (a := 1) (tgt := 42) hC dX9_lay_26 (by decide) (by omega) (fun h26 => ?_) (fun h26 => ?_)
        · exfalso; omega
        · refine g_aload_n hC dX9_lay_29 rfl 0 rfl (Or.inr ⟨_, rfl⟩) ?_
          refine g_get hC (by decide +kernel) rfl (hx0.M hM).1 (hx0.M hM).2 0 (by decide) (by decide +kernel) (Or.inl rfl) rfl dX9_lay_30 ?_
          refine g_iload_n hC dX9_lay_33 rfl 3 rfl ?_
          have h5_q := hI.k5 hqj
          rcases (show kd S qj = 0 ∨ kd S qj = 1 ∨ kd S qj = 2 ∨ kd S qj = 3 ∨ kd S qj = 4 ∨ kd S qj = 5 by omega) with hk_q | hk_q | hk_q | hk_q | hk_q | hk_q
          · have hp0_q : plcF (thS S) b qj = none := plc_0 hqj hk_q
            refine g_aald hC 5 rfl (hx0.Mp rfl).1 (hx0.Mp rfl).2 (qj) rfl (show qj < 10 by omega) (by decide) dX9_lay_34 ?_
            refine g_val (w := .null) (congrArg va_rf hp0_q) ?_
            refine g_iconst hC dX9_lay_35 (v := nI 1) (by decide) ?_
            refine g_S (As := [.null, .int (nI 1)]) (st := []) hC 2 dX9_lay_36 gX9_lay_X9_mayBeCast rfl (by decide +kernel) ⟨Nat.le_of_ble_eq_true rfl, Nat.le_of_ble_eq_true rfl⟩ rfl (Nat.le_of_ble_eq_true rfl) ⟨Nat.le_of_ble_eq_true rfl, Nat.le_of_ble_eq_true rfl⟩ (c2 := 0) (s2 := 0) rfl rfl (x_mayBeCast none 0 (Or.inl ⟨rfl, rfl⟩) 1 (by decide)) ?_
            refine g_ifN_ne (a := 1) (tgt := 48) hC dX9_lay_39 (by decide) (by omega) (fun h39 => ?_) (fun h39 => ?_)
            · refine g_aload_n hC dX9_lay_48 rfl 0 rfl (Or.inr ⟨_, rfl⟩) ?_
              refine g_get hC (by decide +kernel) rfl (hx0.M hM).1 (hx0.M hM).2 0 (by decide) (by decide +kernel) (Or.inl rfl) rfl dX9_lay_49 ?_
              refine g_iload_n hC dX9_lay_52 rfl 1 rfl ?_
              refine g_aald hC 5 rfl (hx0.Mp rfl).1 (hx0.Mp rfl).2 (pj) rfl (show pj < 10 by omega) (by decide) dX9_lay_53 ?_
              refine g_val (w := .ref (b.1 4 (wh S pj))) (congrArg va_rf hp0_p) ?_
              refine g_iconst hC dX9_lay_54 (v := nI 3) (by decide) ?_
              refine g_iload_n hC dX9_lay_55 rfl 2 rfl ?_
              refine g_S (As := [.ref (b.1 4 (wh S pj)), .int (nI 3), .int i]) (st := []) hC 3 dX9_lay_56 gX9_lay_X9_cellFault rfl (by decide +kernel) ⟨Nat.le_of_ble_eq_true rfl, Nat.le_of_ble_eq_true rfl⟩ rfl (Nat.le_of_ble_eq_true rfl) ⟨Nat.le_of_ble_eq_true rfl, Nat.le_of_ble_eq_true rfl⟩ (c2 := 0) (s2 := 0) rfl rfl (x_cellFault_R _ _ _ _ (isR.B hx0 hw_p rfl (hI.2.2.2.2.1 _ hw_p)) 3 (by decide) _) ?_
              have hl9 := (hI.2.2.2.2.1 _ hw_p)
              by_cases hin : 0 ≤ i ∧ i < nI (S.2.1 11 (wh S pj))
              · have hR_i := (in_R (show S.2.1 11 (wh S pj) < 2 ^ 30 by omega)).mp hin
                refine g_val (w := .int (nI 0)) (congrArg Value.int (if_pos hin)) ?_
                obtain ⟨ij, hij, rfl⟩ := (in_j (show S.2.1 11 (wh S pj) < 2 ^ 30 by omega)).mp hin
                have hpl_i : pl (nI ij) = ij := nI_clamp (by omega)
                refine g_istore (lv' := [(4, .int (nI 0)), (0, .ref M), (1, .int (nI pj)), (2, .int (nI ij)), (3, .int (nI qj))]) hC dX9_lay_59 (by decide) rfl ?_
                refine g_aload_n hC dX9_lay_61 rfl 1 rfl (Or.inr ⟨_, rfl⟩) ?_
                refine g_get hC (by decide +kernel) rfl (hx0.M hM).1 (hx0.M hM).2 0 (by decide) (by decide +kernel) (Or.inl rfl) rfl dX9_lay_62 ?_
                refine g_iload_n hC dX9_lay_65 rfl 2 rfl ?_
                refine g_aald hC 5 rfl (hx0.Mp rfl).1 (hx0.Mp rfl).2 (pj) rfl (show pj < 10 by omega) (by decide) dX9_lay_66 ?_
                refine g_val (w := .ref (b.1 4 (wh S pj))) (congrArg va_rf hp0_p) ?_
                refine g_S (As := [.ref (b.1 4 (wh S pj))]) (st := []) hC 1 dX9_lay_67 gX9_lay_X9_asRows rfl (by decide +kernel) ⟨Nat.le_of_ble_eq_true rfl, Nat.le_of_ble_eq_true rfl⟩ rfl (Nat.le_of_ble_eq_true rfl) ⟨Nat.le_of_ble_eq_true rfl, Nat.le_of_ble_eq_true rfl⟩ (c2 := 0) (s2 := 0) rfl rfl (x_asRows (some (b.1 4 (wh S pj))) 3 (Or.inr ⟨_, 3, _, rfl, (hx0.W hw_p rfl), Or.inr (Or.inr (Or.inl ⟨rfl, rfl⟩))⟩)) ?_
                refine g_astore (lv' := [(5, .ref (b.1 4 (wh S pj))), (4, .int (nI 0)), (0, .ref M), (1, .int (nI pj)), (2, .int (nI ij)), (3, .int (nI qj))]) hC dX9_lay_70 (by decide) rfl (Or.inr ⟨_, rfl⟩) ?_
                refine g_iload hC dX9_lay_72 1 rfl ?_
                refine g_ifN_ne (a := 0) (tgt := 82) hC dX9_lay_74 (by decide) (by omega) (fun h74 => ?_) (fun h74 => ?_)
                · exfalso; omega
                · refine g_aload hC dX9_lay_77 0 rfl (Or.inr ⟨_, rfl⟩) ?_
                  refine g_ifnonnull (o := some (b.1 4 (wh S pj))) (tgt := 89) hC dX9_lay_79 (by decide) (fun a79 h79 => ?_) (fun h79 => ?_)
                  · refine g_aload hC dX9_lay_89 0 rfl (Or.inr ⟨_, rfl⟩) ?_
                    refine g_getN hC (by decide +kernel) rfl (hx0.W hw_p rfl).1 (hx0.W hw_p rfl).2 0 (by decide) (gKK_F ("KeptTerms", 108, "KeptTerms$Rows", "cells", "[LKeptTerms$Bytes;") (by decide)) (Or.inl rfl) rfl dX9_lay_91 ?_
                    refine g_iload_n hC dX9_lay_94 rfl 4 rfl ?_
                    refine g_aload_n hC dX9_lay_95 rfl 2 rfl (Or.inr ⟨_, rfl⟩) ?_
                    refine g_get hC (by decide +kernel) rfl (hx0.M hM).1 (hx0.M hM).2 0 (by decide) (by decide +kernel) (Or.inl rfl) rfl dX9_lay_96 ?_
                    refine g_iload_n hC dX9_lay_99 rfl 5 rfl ?_
                    refine g_aald hC 5 rfl (hx0.Mp rfl).1 (hx0.Mp rfl).2 (qj) rfl (show qj < 10 by omega) (by decide) dX9_lay_100 ?_
                    refine g_val (w := .null) (congrArg va_rf hp0_q) ?_
                    refine g_S (As := [.null]) (st := [.int (nI ij), .ref (b.1 5 (wh S pj))]) hC 1 dX9_lay_101 gX9_lay_X9_asBytes rfl (by decide +kernel) ⟨Nat.le_of_ble_eq_true rfl, Nat.le_of_ble_eq_true rfl⟩ rfl (Nat.le_of_ble_eq_true rfl) ⟨Nat.le_of_ble_eq_true rfl, Nat.le_of_ble_eq_true rfl⟩ (c2 := 0) (s2 := 0) rfl rfl (x_asBytes none 0 (Or.inl ⟨rfl, rfl⟩)) ?_
                    refine g_aastN hC 4 rfl (hx0.Wc hw_p rfl).1 (hx0.Wc hw_p rfl).2 (ij) rfl (show ij < S.2.1 11 (wh S pj) by omega) (show S.2.1 11 (wh S pj) < 2 ^ 31 by omega) dX9_lay_104 ?_
                    refine g_fx (P := xR cy (aN (thS S) 12 (16 * wh S pj + ij) 0) b) (hx0.rset (x := 0) hI.2.2.2.2.1 hw_p (show ij < S.2.1 11 (wh S pj) by omega) rfl) (fun f1 hx1 => ?_)
                    show gW X vwCl 6 L f1 0 0 105 [(5, .ref (b.1 4 (wh S pj))), (4, .int (nI 0)), (0, .ref M), (1, .int (nI pj)), (2, .int (nI ij)), (3, .int (nI qj))] []
                    refine g_iconst hC dX9_lay_105 (v := nI 1) (by decide) ?_
                    have hc_p : castF S pj 3 = 0 := by unfold castF isO; rw [hk_p] <;> decide
                    have hc_q : castF S qj 1 = 1 := by unfold castF isO; rw [hk_q] <;> decide
                    have hlg_p : longS S pj = S.2.1 11 (wh S pj) := by unfold longS; rw [hk_p] <;> rfl
                    have hE : s_lay S (nI pj) (nI ij) (nI qj) = (nI 1, aN (thS S) 12 (16 * wh S pj + ij) 0) := by
                      unfold s_lay
                      rw [if_pos h4, if_pos h11, hpl_p, hpl_q, if_neg (show ¬ (castF S pj 3 = 2 ∨ castF S qj 1 = 2) by omega), hc_p, if_neg (show ¬ 0 < 0 by decide), hlg_p, if_pos hR_i, hpl_i, hk_q] <;> rfl
                    exact g_iret hC hR dX9_lay_106 ⟨b, congrArg (fun z => some (Value.int (Prod.fst z))) hE.symm, by rw [hE]; exact hx1, xG.rf⟩
                  · cases h79
              · have hR_i := fun z => hin ((in_R (show S.2.1 11 (wh S pj) < 2 ^ 30 by omega)).mpr z)
                refine g_val (w := .int (nI 3)) (congrArg Value.int (if_neg hin)) ?_
                refine g_istore (lv' := [(4, .int (nI 3)), (0, .ref M), (1, .int (nI pj)), (2, .int i), (3, .int (nI qj))]) hC dX9_lay_59 (by decide) rfl ?_
                refine g_aload_n hC dX9_lay_61 rfl 1 rfl (Or.inr ⟨_, rfl⟩) ?_
                refine g_get hC (by decide +kernel) rfl (hx0.M hM).1 (hx0.M hM).2 0 (by decide) (by decide +kernel) (Or.inl rfl) rfl dX9_lay_62 ?_
                refine g_iload_n hC dX9_lay_65 rfl 2 rfl ?_
                refine g_aald hC 5 rfl (hx0.Mp rfl).1 (hx0.Mp rfl).2 (pj) rfl (show pj < 10 by omega) (by decide) dX9_lay_66 ?_
                refine g_val (w := .ref (b.1 4 (wh S pj))) (congrArg va_rf hp0_p) ?_
                refine g_S (As := [.ref (b.1 4 (wh S pj))]) (st := []) hC 1 dX9_lay_67 gX9_lay_X9_asRows rfl (by decide +kernel) ⟨Nat.le_of_ble_eq_true rfl, Nat.le_of_ble_eq_true rfl⟩ rfl (Nat.le_of_ble_eq_true rfl) ⟨Nat.le_of_ble_eq_true rfl, Nat.le_of_ble_eq_true rfl⟩ (c2 := 0) (s2 := 0) rfl rfl (x_asRows (some (b.1 4 (wh S pj))) 3 (Or.inr ⟨_, 3, _, rfl, (hx0.W hw_p rfl), Or.inr (Or.inr (Or.inl ⟨rfl, rfl⟩))⟩)) ?_
                refine g_astore (lv' := [(5, .ref (b.1 4 (wh S pj))), (4, .int (nI 3)), (0, .ref M), (1, .int (nI pj)), (2, .int i), (3, .int (nI qj))]) hC dX9_lay_70 (by decide) rfl (Or.inr ⟨_, rfl⟩) ?_
                refine g_iload hC dX9_lay_72 1 rfl ?_
                refine g_ifN_ne (a := 3) (tgt := 82) hC dX9_lay_74 (by decide) (by omega) (fun h74 => ?_) (fun h74 => ?_)
                · refine g_aload_n hC dX9_lay_82 rfl 2 rfl (Or.inr ⟨_, rfl⟩) ?_
                  refine g_iload hC dX9_lay_83 1 rfl ?_
                  refine g_Vx (As := [.int (nI 3)]) (st := []) hC 1 dX9_lay_85 rfl (hx0.M hM).1 (hx0.M hM).2 gX9_lay_X9_failed rfl (by decide +kernel) ⟨Nat.le_of_ble_eq_true rfl, Nat.le_of_ble_eq_true rfl⟩ rfl (Nat.le_of_ble_eq_true rfl) ⟨(Nat.le_of_ble_eq_true rfl), (Nat.le_of_ble_eq_true rfl)⟩ (c2 := 0) (s2 := 0) rfl rfl (x_failed hx0 M hM 3) (fun v1 L1 f1 hp1 => ?_)
                  obtain ⟨rfl, hx1⟩ := hp1
                  show gW X vwCl 6 L1 f1 0 0 88 [(5, .ref (b.1 4 (wh S pj))), (4, .int (nI 3)), (0, .ref M), (1, .int (nI pj)), (2, .int i), (3, .int (nI qj))] [.int (fA 3)]
                  have hc_p : castF S pj 3 = 0 := by unfold castF isO; rw [hk_p] <;> decide
                  have hc_q : castF S qj 1 = 1 := by unfold castF isO; rw [hk_q] <;> decide
                  have hlg_p : longS S pj = S.2.1 11 (wh S pj) := by unfold longS; rw [hk_p] <;> rfl
                  have hE : s_lay S (nI pj) i (nI qj) = (fA 3, (aSc (thS S) 1 3)) := by
                    unfold s_lay
                    rw [if_pos h4, if_pos h11, hpl_p, hpl_q, if_neg (show ¬ (castF S pj 3 = 2 ∨ castF S qj 1 = 2) by omega), hc_p, if_neg (show ¬ 0 < 0 by decide), hlg_p, if_neg hR_i] <;> rfl
                  exact g_iret hC hR dX9_lay_88 ⟨b, congrArg (fun z => some (Value.int (Prod.fst z))) hE.symm, by rw [hE]; exact hx1, xG.rf⟩
                · exfalso; omega
            · exfalso; omega
          · have hw_q : wh S qj < S.1 4 := hI.wl hqj hk_q
            have hp0_q : plcF (thS S) b qj = some (b.1 0 (wh S qj)) := plc_k hqj hk_q (by decide)
            refine g_aald hC 5 rfl (hx0.Mp rfl).1 (hx0.Mp rfl).2 (qj) rfl (show qj < 10 by omega) (by decide) dX9_lay_34 ?_
            refine g_val (w := .ref (b.1 0 (wh S qj))) (congrArg va_rf hp0_q) ?_
            refine g_iconst hC dX9_lay_35 (v := nI 1) (by decide) ?_
            refine g_S (As := [.ref (b.1 0 (wh S qj)), .int (nI 1)]) (st := []) hC 2 dX9_lay_36 gX9_lay_X9_mayBeCast rfl (by decide +kernel) ⟨Nat.le_of_ble_eq_true rfl, Nat.le_of_ble_eq_true rfl⟩ rfl (Nat.le_of_ble_eq_true rfl) ⟨Nat.le_of_ble_eq_true rfl, Nat.le_of_ble_eq_true rfl⟩ (c2 := 0) (s2 := 0) rfl rfl (x_mayBeCast (some (b.1 0 (wh S qj))) 1 (Or.inr ⟨_, 0, _, rfl, (hx0.B hw_q rfl), Or.inl ⟨rfl, rfl⟩⟩) 1 (by decide)) ?_
            refine g_ifN_ne (a := 1) (tgt := 48) hC dX9_lay_39 (by decide) (by omega) (fun h39 => ?_) (fun h39 => ?_)
            · refine g_aload_n hC dX9_lay_48 rfl 0 rfl (Or.inr ⟨_, rfl⟩) ?_
              refine g_get hC (by decide +kernel) rfl (hx0.M hM).1 (hx0.M hM).2 0 (by decide) (by decide +kernel) (Or.inl rfl) rfl dX9_lay_49 ?_
              refine g_iload_n hC dX9_lay_52 rfl 1 rfl ?_
              refine g_aald hC 5 rfl (hx0.Mp rfl).1 (hx0.Mp rfl).2 (pj) rfl (show pj < 10 by omega) (by decide) dX9_lay_53 ?_
              refine g_val (w := .ref (b.1 4 (wh S pj))) (congrArg va_rf hp0_p) ?_
              refine g_iconst hC dX9_lay_54 (v := nI 3) (by decide) ?_
              refine g_iload_n hC dX9_lay_55 rfl 2 rfl ?_
              refine g_S (As := [.ref (b.1 4 (wh S pj)), .int (nI 3), .int i]) (st := []) hC 3 dX9_lay_56 gX9_lay_X9_cellFault rfl (by decide +kernel) ⟨Nat.le_of_ble_eq_true rfl, Nat.le_of_ble_eq_true rfl⟩ rfl (Nat.le_of_ble_eq_true rfl) ⟨Nat.le_of_ble_eq_true rfl, Nat.le_of_ble_eq_true rfl⟩ (c2 := 0) (s2 := 0) rfl rfl (x_cellFault_R _ _ _ _ (isR.B hx0 hw_p rfl (hI.2.2.2.2.1 _ hw_p)) 3 (by decide) _) ?_
              have hl9 := (hI.2.2.2.2.1 _ hw_p)
              by_cases hin : 0 ≤ i ∧ i < nI (S.2.1 11 (wh S pj))
              · have hR_i := (in_R (show S.2.1 11 (wh S pj) < 2 ^ 30 by omega)).mp hin
                refine g_val (w := .int (nI 0)) (congrArg Value.int (if_pos hin)) ?_
                obtain ⟨ij, hij, rfl⟩ := (in_j (show S.2.1 11 (wh S pj) < 2 ^ 30 by omega)).mp hin
                have hpl_i : pl (nI ij) = ij := nI_clamp (by omega)
                refine g_istore (lv' := [(4, .int (nI 0)), (0, .ref M), (1, .int (nI pj)), (2, .int (nI ij)), (3, .int (nI qj))]) hC dX9_lay_59 (by decide) rfl ?_
                refine g_aload_n hC dX9_lay_61 rfl 1 rfl (Or.inr ⟨_, rfl⟩) ?_
                refine g_get hC (by decide +kernel) rfl (hx0.M hM).1 (hx0.M hM).2 0 (by decide) (by decide +kernel) (Or.inl rfl) rfl dX9_lay_62 ?_
                refine g_iload_n hC dX9_lay_65 rfl 2 rfl ?_
                refine g_aald hC 5 rfl (hx0.Mp rfl).1 (hx0.Mp rfl).2 (pj) rfl (show pj < 10 by omega) (by decide) dX9_lay_66 ?_
                refine g_val (w := .ref (b.1 4 (wh S pj))) (congrArg va_rf hp0_p) ?_
                refine g_S (As := [.ref (b.1 4 (wh S pj))]) (st := []) hC 1 dX9_lay_67 gX9_lay_X9_asRows rfl (by decide +kernel) ⟨Nat.le_of_ble_eq_true rfl, Nat.le_of_ble_eq_true rfl⟩ rfl (Nat.le_of_ble_eq_true rfl) ⟨Nat.le_of_ble_eq_true rfl, Nat.le_of_ble_eq_true rfl⟩ (c2 := 0) (s2 := 0) rfl rfl (x_asRows (some (b.1 4 (wh S pj))) 3 (Or.inr ⟨_, 3, _, rfl, (hx0.W hw_p rfl), Or.inr (Or.inr (Or.inl ⟨rfl, rfl⟩))⟩)) ?_
                refine g_astore (lv' := [(5, .ref (b.1 4 (wh S pj))), (4, .int (nI 0)), (0, .ref M), (1, .int (nI pj)), (2, .int (nI ij)), (3, .int (nI qj))]) hC dX9_lay_70 (by decide) rfl (Or.inr ⟨_, rfl⟩) ?_
                refine g_iload hC dX9_lay_72 1 rfl ?_
                refine g_ifN_ne (a := 0) (tgt := 82) hC dX9_lay_74 (by decide) (by omega) (fun h74 => ?_) (fun h74 => ?_)
                · exfalso; omega
                · refine g_aload hC dX9_lay_77 0 rfl (Or.inr ⟨_, rfl⟩) ?_
                  refine g_ifnonnull (o := some (b.1 4 (wh S pj))) (tgt := 89) hC dX9_lay_79 (by decide) (fun a79 h79 => ?_) (fun h79 => ?_)
                  · refine g_aload hC dX9_lay_89 0 rfl (Or.inr ⟨_, rfl⟩) ?_
                    refine g_getN hC (by decide +kernel) rfl (hx0.W hw_p rfl).1 (hx0.W hw_p rfl).2 0 (by decide) (gKK_F ("KeptTerms", 108, "KeptTerms$Rows", "cells", "[LKeptTerms$Bytes;") (by decide)) (Or.inl rfl) rfl dX9_lay_91 ?_
                    refine g_iload_n hC dX9_lay_94 rfl 4 rfl ?_
                    refine g_aload_n hC dX9_lay_95 rfl 2 rfl (Or.inr ⟨_, rfl⟩) ?_
                    refine g_get hC (by decide +kernel) rfl (hx0.M hM).1 (hx0.M hM).2 0 (by decide) (by decide +kernel) (Or.inl rfl) rfl dX9_lay_96 ?_
                    refine g_iload_n hC dX9_lay_99 rfl 5 rfl ?_
                    refine g_aald hC 5 rfl (hx0.Mp rfl).1 (hx0.Mp rfl).2 (qj) rfl (show qj < 10 by omega) (by decide) dX9_lay_100 ?_
                    refine g_val (w := .ref (b.1 0 (wh S qj))) (congrArg va_rf hp0_q) ?_
                    refine g_S (As := [.ref (b.1 0 (wh S qj))]) (st := [.int (nI ij), .ref (b.1 5 (wh S pj))]) hC 1 dX9_lay_101 gX9_lay_X9_asBytes rfl (by decide +kernel) ⟨Nat.le_of_ble_eq_true rfl, Nat.le_of_ble_eq_true rfl⟩ rfl (Nat.le_of_ble_eq_true rfl) ⟨Nat.le_of_ble_eq_true rfl, Nat.le_of_ble_eq_true rfl⟩ (c2 := 0) (s2 := 0) rfl rfl (x_asBytes (some (b.1 0 (wh S qj))) 1 (Or.inr ⟨_, 0, _, rfl, (hx0.B hw_q rfl), Or.inl ⟨rfl, rfl⟩⟩)) ?_
                    refine g_aast hC 4 rfl (r := (RX0, TX0, 1)) rfl (hx0.B hw_q rfl).1 (hx0.B hw_q rfl).2 (hx0.Wc hw_p rfl).1 (hx0.Wc hw_p rfl).2 (ij) rfl (show ij < S.2.1 11 (wh S pj) by omega) (show S.2.1 11 (wh S pj) < 2 ^ 31 by omega) dX9_lay_104 ?_
                    refine g_fx (P := xR cy (aN (thS S) 12 (16 * wh S pj + ij) (wh S qj + 1)) b) (hx0.rset (x := (wh S qj + 1)) hI.2.2.2.2.1 hw_p (show ij < S.2.1 11 (wh S pj) by omega) rfl) (fun f1 hx1 => ?_)
                    show gW X vwCl 6 L f1 0 0 105 [(5, .ref (b.1 4 (wh S pj))), (4, .int (nI 0)), (0, .ref M), (1, .int (nI pj)), (2, .int (nI ij)), (3, .int (nI qj))] []
                    refine g_iconst hC dX9_lay_105 (v := nI 1) (by decide) ?_
                    have hc_p : castF S pj 3 = 0 := by unfold castF isO; rw [hk_p] <;> decide
                    have hc_q : castF S qj 1 = 0 := by unfold castF isO; rw [hk_q] <;> decide
                    have hlg_p : longS S pj = S.2.1 11 (wh S pj) := by unfold longS; rw [hk_p] <;> rfl
                    have hE : s_lay S (nI pj) (nI ij) (nI qj) = (nI 1, aN (thS S) 12 (16 * wh S pj + ij) (wh S qj + 1)) := by
                      unfold s_lay
                      rw [if_pos h4, if_pos h11, hpl_p, hpl_q, if_neg (show ¬ (castF S pj 3 = 2 ∨ castF S qj 1 = 2) by omega), hc_p, if_neg (show ¬ 0 < 0 by decide), hlg_p, if_pos hR_i, hpl_i, hk_q] <;> rfl
                    exact g_iret hC hR dX9_lay_106 ⟨b, congrArg (fun z => some (Value.int (Prod.fst z))) hE.symm, by rw [hE]; exact hx1, xG.rf⟩
                  · cases h79
              · have hR_i := fun z => hin ((in_R (show S.2.1 11 (wh S pj) < 2 ^ 30 by omega)).mpr z)
                refine g_val (w := .int (nI 3)) (congrArg Value.int (if_neg hin)) ?_
                refine g_istore (lv' := [(4, .int (nI 3)), (0, .ref M), (1, .int (nI pj)), (2, .int i), (3, .int (nI qj))]) hC dX9_lay_59 (by decide) rfl ?_
                refine g_aload_n hC dX9_lay_61 rfl 1 rfl (Or.inr ⟨_, rfl⟩) ?_
                refine g_get hC (by decide +kernel) rfl (hx0.M hM).1 (hx0.M hM).2 0 (by decide) (by decide +kernel) (Or.inl rfl) rfl dX9_lay_62 ?_
                refine g_iload_n hC dX9_lay_65 rfl 2 rfl ?_
                refine g_aald hC 5 rfl (hx0.Mp rfl).1 (hx0.Mp rfl).2 (pj) rfl (show pj < 10 by omega) (by decide) dX9_lay_66 ?_
                refine g_val (w := .ref (b.1 4 (wh S pj))) (congrArg va_rf hp0_p) ?_
                refine g_S (As := [.ref (b.1 4 (wh S pj))]) (st := []) hC 1 dX9_lay_67 gX9_lay_X9_asRows rfl (by decide +kernel) ⟨Nat.le_of_ble_eq_true rfl, Nat.le_of_ble_eq_true rfl⟩ rfl (Nat.le_of_ble_eq_true rfl) ⟨Nat.le_of_ble_eq_true rfl, Nat.le_of_ble_eq_true rfl⟩ (c2 := 0) (s2 := 0) rfl rfl (x_asRows (some (b.1 4 (wh S pj))) 3 (Or.inr ⟨_, 3, _, rfl, (hx0.W hw_p rfl), Or.inr (Or.inr (Or.inl ⟨rfl, rfl⟩))⟩)) ?_
                refine g_astore (lv' := [(5, .ref (b.1 4 (wh S pj))), (4, .int (nI 3)), (0, .ref M), (1, .int (nI pj)), (2, .int i), (3, .int (nI qj))]) hC dX9_lay_70 (by decide) rfl (Or.inr ⟨_, rfl⟩) ?_
                refine g_iload hC dX9_lay_72 1 rfl ?_
                refine g_ifN_ne (a := 3) (tgt := 82) hC dX9_lay_74 (by decide) (by omega) (fun h74 => ?_) (fun h74 => ?_)
                · refine g_aload_n hC dX9_lay_82 rfl 2 rfl (Or.inr ⟨_, rfl⟩) ?_
                  refine g_iload hC dX9_lay_83 1 rfl ?_
                  refine g_Vx (As := [.int (nI 3)]) (st := []) hC 1 dX9_lay_85 rfl (hx0.M hM).1 (hx0.M hM).2 gX9_lay_X9_failed rfl (by decide +kernel) ⟨Nat.le_of_ble_eq_true rfl, Nat.le_of_ble_eq_true rfl⟩ rfl (Nat.le_of_ble_eq_true rfl) ⟨(Nat.le_of_ble_eq_true rfl), (Nat.le_of_ble_eq_true rfl)⟩ (c2 := 0) (s2 := 0) rfl rfl (x_failed hx0 M hM 3) (fun v1 L1 f1 hp1 => ?_)
                  obtain ⟨rfl, hx1⟩ := hp1
                  show gW X vwCl 6 L1 f1 0 0 88 [(5, .ref (b.1 4 (wh S pj))), (4, .int (nI 3)), (0, .ref M), (1, .int (nI pj)), (2, .int i), (3, .int (nI qj))] [.int (fA 3)]
                  have hc_p : castF S pj 3 = 0 := by unfold castF isO; rw [hk_p] <;> decide
                  have hc_q : castF S qj 1 = 0 := by unfold castF isO; rw [hk_q] <;> decide
                  have hlg_p : longS S pj = S.2.1 11 (wh S pj) := by unfold longS; rw [hk_p] <;> rfl
                  have hE : s_lay S (nI pj) i (nI qj) = (fA 3, (aSc (thS S) 1 3)) := by
                    unfold s_lay
                    rw [if_pos h4, if_pos h11, hpl_p, hpl_q, if_neg (show ¬ (castF S pj 3 = 2 ∨ castF S qj 1 = 2) by omega), hc_p, if_neg (show ¬ 0 < 0 by decide), hlg_p, if_neg hR_i] <;> rfl
                  exact g_iret hC hR dX9_lay_88 ⟨b, congrArg (fun z => some (Value.int (Prod.fst z))) hE.symm, by rw [hE]; exact hx1, xG.rf⟩
                · exfalso; omega
            · exfalso; omega
          · have hw_q : wh S qj < S.1 7 := hI.ws hqj hk_q
            have hp0_q : plcF (thS S) b qj = some (b.1 2 (wh S qj)) := plc_k hqj hk_q (by decide)
            refine g_aald hC 5 rfl (hx0.Mp rfl).1 (hx0.Mp rfl).2 (qj) rfl (show qj < 10 by omega) (by decide) dX9_lay_34 ?_
            refine g_val (w := .ref (b.1 2 (wh S qj))) (congrArg va_rf hp0_q) ?_
            refine g_iconst hC dX9_lay_35 (v := nI 1) (by decide) ?_
            refine g_S (As := [.ref (b.1 2 (wh S qj)), .int (nI 1)]) (st := []) hC 2 dX9_lay_36 gX9_lay_X9_mayBeCast rfl (by decide +kernel) ⟨Nat.le_of_ble_eq_true rfl, Nat.le_of_ble_eq_true rfl⟩ rfl (Nat.le_of_ble_eq_true rfl) ⟨Nat.le_of_ble_eq_true rfl, Nat.le_of_ble_eq_true rfl⟩ (c2 := 0) (s2 := 0) rfl rfl (x_mayBeCast (some (b.1 2 (wh S qj))) 2 (Or.inr ⟨_, 4, _, rfl, (hx0.G hw_q rfl), Or.inr (Or.inl ⟨rfl, rfl⟩)⟩) 1 (by decide)) ?_
            refine g_ifN_ne (a := 0) (tgt := 48) hC dX9_lay_39 (by decide) (by omega) (fun h39 => ?_) (fun h39 => ?_)
            · exfalso; omega
            · refine g_aload_n hC dX9_lay_42 rfl 0 rfl (Or.inr ⟨_, rfl⟩) ?_
              refine g_iconst hC dX9_lay_43 (v := nI 2) (by decide) ?_
              refine g_Vx (As := [.int (nI 2)]) (st := []) hC 1 dX9_lay_44 rfl (hx0.M hM).1 (hx0.M hM).2 gX9_lay_X9_failed rfl (by decide +kernel) ⟨Nat.le_of_ble_eq_true rfl, Nat.le_of_ble_eq_true rfl⟩ rfl (Nat.le_of_ble_eq_true rfl) ⟨(Nat.le_of_ble_eq_true rfl), (Nat.le_of_ble_eq_true rfl)⟩ (c2 := 0) (s2 := 0) rfl rfl (x_failed hx0 M hM 2) (fun v1 L1 f1 hp1 => ?_)
              obtain ⟨rfl, hx1⟩ := hp1
              show gW X vwCl 6 L1 f1 0 0 47 [(0, .ref M), (1, .int (nI pj)), (2, .int i), (3, .int (nI qj))] [.int (fA 2)]
              have hc_p : castF S pj 3 = 0 := by unfold castF isO; rw [hk_p] <;> decide
              have hc_q : castF S qj 1 = 2 := by unfold castF isO; rw [hk_q] <;> decide
              have hE : s_lay S (nI pj) i (nI qj) = (fA 2, (aSc (thS S) 1 2)) := by
                unfold s_lay
                rw [if_pos h4, if_pos h11, hpl_p, hpl_q, if_pos (Or.inr hc_q)] <;> rfl
              exact g_iret hC hR dX9_lay_47 ⟨b, congrArg (fun z => some (Value.int (Prod.fst z))) hE.symm, by rw [hE]; exact hx1, xG.rf⟩
          · have hw_q : wh S qj < S.1 10 := hI.wr hqj hk_q
            have hp0_q : plcF (thS S) b qj = some (b.1 4 (wh S qj)) := plc_k hqj hk_q (by decide)
            refine g_aald hC 5 rfl (hx0.Mp rfl).1 (hx0.Mp rfl).2 (qj) rfl (show qj < 10 by omega) (by decide) dX9_lay_34 ?_
            refine g_val (w := .ref (b.1 4 (wh S qj))) (congrArg va_rf hp0_q) ?_
            refine g_iconst hC dX9_lay_35 (v := nI 1) (by decide) ?_
            refine g_S (As := [.ref (b.1 4 (wh S qj)), .int (nI 1)]) (st := []) hC 2 dX9_lay_36 gX9_lay_X9_mayBeCast rfl (by decide +kernel) ⟨Nat.le_of_ble_eq_true rfl, Nat.le_of_ble_eq_true rfl⟩ rfl (Nat.le_of_ble_eq_true rfl) ⟨Nat.le_of_ble_eq_true rfl, Nat.le_of_ble_eq_true rfl⟩ (c2 := 0) (s2 := 0) rfl rfl (x_mayBeCast (some (b.1 4 (wh S qj))) 3 (Or.inr ⟨_, 3, _, rfl, (hx0.W hw_q rfl), Or.inr (Or.inr (Or.inl ⟨rfl, rfl⟩))⟩) 1 (by decide)) ?_
            refine g_ifN_ne (a := 0) (tgt := 48) hC dX9_lay_39 (by decide) (by omega) (fun h39 => ?_) (fun h39 => ?_)
            · exfalso; omega
            · refine g_aload_n hC dX9_lay_42 rfl 0 rfl (Or.inr ⟨_, rfl⟩) ?_
              refine g_iconst hC dX9_lay_43 (v := nI 2) (by decide) ?_
              refine g_Vx (As := [.int (nI 2)]) (st := []) hC 1 dX9_lay_44 rfl (hx0.M hM).1 (hx0.M hM).2 gX9_lay_X9_failed rfl (by decide +kernel) ⟨Nat.le_of_ble_eq_true rfl, Nat.le_of_ble_eq_true rfl⟩ rfl (Nat.le_of_ble_eq_true rfl) ⟨(Nat.le_of_ble_eq_true rfl), (Nat.le_of_ble_eq_true rfl)⟩ (c2 := 0) (s2 := 0) rfl rfl (x_failed hx0 M hM 2) (fun v1 L1 f1 hp1 => ?_)
              obtain ⟨rfl, hx1⟩ := hp1
              show gW X vwCl 6 L1 f1 0 0 47 [(0, .ref M), (1, .int (nI pj)), (2, .int i), (3, .int (nI qj))] [.int (fA 2)]
              have hc_p : castF S pj 3 = 0 := by unfold castF isO; rw [hk_p] <;> decide
              have hc_q : castF S qj 1 = 2 := by unfold castF isO; rw [hk_q] <;> decide
              have hE : s_lay S (nI pj) i (nI qj) = (fA 2, (aSc (thS S) 1 2)) := by
                unfold s_lay
                rw [if_pos h4, if_pos h11, hpl_p, hpl_q, if_pos (Or.inr hc_q)] <;> rfl
              exact g_iret hC hR dX9_lay_47 ⟨b, congrArg (fun z => some (Value.int (Prod.fst z))) hE.symm, by rw [hE]; exact hx1, xG.rf⟩
          · have hw_q : wh S qj < S.1 13 := hI.wt hqj (by omega)
            have hb_q : S.2.1 14 (wh S qj) = 0 := by have := ((hI.2.1 _ hqj).2.2.2.2.2 (by omega)).2; omega
            have hp0_q : plcF (thS S) b qj = some (b.1 6 (wh S qj)) := plc_k hqj hk_q (by decide)
            refine g_aald hC 5 rfl (hx0.Mp rfl).1 (hx0.Mp rfl).2 (qj) rfl (show qj < 10 by omega) (by decide) dX9_lay_34 ?_
            refine g_val (w := .ref (b.1 6 (wh S qj))) (congrArg va_rf hp0_q) ?_
            refine g_iconst hC dX9_lay_35 (v := nI 1) (by decide) ?_
            refine g_S (As := [.ref (b.1 6 (wh S qj)), .int (nI 1)]) (st := []) hC 2 dX9_lay_36 gX9_lay_X9_mayBeCast rfl (by decide +kernel) ⟨Nat.le_of_ble_eq_true rfl, Nat.le_of_ble_eq_true rfl⟩ rfl (Nat.le_of_ble_eq_true rfl) ⟨Nat.le_of_ble_eq_true rfl, Nat.le_of_ble_eq_true rfl⟩ (c2 := 0) (s2 := 0) rfl rfl (x_mayBeCast (some (b.1 6 (wh S qj))) 4 (Or.inr ⟨_, 5, _, rfl, (hx0.T hw_q rfl hb_q), Or.inr (Or.inr (Or.inr (Or.inl ⟨rfl, rfl⟩)))⟩) 1 (by decide)) ?_
            refine g_ifN_ne (a := 0) (tgt := 48) hC dX9_lay_39 (by decide) (by omega) (fun h39 => ?_) (fun h39 => ?_)
            · exfalso; omega
            · refine g_aload_n hC dX9_lay_42 rfl 0 rfl (Or.inr ⟨_, rfl⟩) ?_
              refine g_iconst hC dX9_lay_43 (v := nI 2) (by decide) ?_
              refine g_Vx (As := [.int (nI 2)]) (st := []) hC 1 dX9_lay_44 rfl (hx0.M hM).1 (hx0.M hM).2 gX9_lay_X9_failed rfl (by decide +kernel) ⟨Nat.le_of_ble_eq_true rfl, Nat.le_of_ble_eq_true rfl⟩ rfl (Nat.le_of_ble_eq_true rfl) ⟨(Nat.le_of_ble_eq_true rfl), (Nat.le_of_ble_eq_true rfl)⟩ (c2 := 0) (s2 := 0) rfl rfl (x_failed hx0 M hM 2) (fun v1 L1 f1 hp1 => ?_)
              obtain ⟨rfl, hx1⟩ := hp1
              show gW X vwCl 6 L1 f1 0 0 47 [(0, .ref M), (1, .int (nI pj)), (2, .int i), (3, .int (nI qj))] [.int (fA 2)]
              have hc_p : castF S pj 3 = 0 := by unfold castF isO; rw [hk_p] <;> decide
              have hc_q : castF S qj 1 = 2 := by unfold castF isO; rw [hk_q] <;> decide
              have hE : s_lay S (nI pj) i (nI qj) = (fA 2, (aSc (thS S) 1 2)) := by
                unfold s_lay
                rw [if_pos h4, if_pos h11, hpl_p, hpl_q, if_pos (Or.inr hc_q)] <;> rfl
              exact g_iret hC hR dX9_lay_47 ⟨b, congrArg (fun z => some (Value.int (Prod.fst z))) hE.symm, by rw [hE]; exact hx1, xG.rf⟩
          · have hw_q : wh S qj < S.1 13 := hI.wt hqj (by omega)
            have hb_q : S.2.1 14 (wh S qj) ≠ 0 := by have := ((hI.2.1 _ hqj).2.2.2.2.2 (by omega)).2; omega
            have hp0_q : plcF (thS S) b qj = some (b.1 6 (wh S qj)) := plc_k hqj hk_q (by decide)
            refine g_aald hC 5 rfl (hx0.Mp rfl).1 (hx0.Mp rfl).2 (qj) rfl (show qj < 10 by omega) (by decide) dX9_lay_34 ?_
            refine g_val (w := .ref (b.1 6 (wh S qj))) (congrArg va_rf hp0_q) ?_
            refine g_iconst hC dX9_lay_35 (v := nI 1) (by decide) ?_
            refine g_S (As := [.ref (b.1 6 (wh S qj)), .int (nI 1)]) (st := []) hC 2 dX9_lay_36 gX9_lay_X9_mayBeCast rfl (by decide +kernel) ⟨Nat.le_of_ble_eq_true rfl, Nat.le_of_ble_eq_true rfl⟩ rfl (Nat.le_of_ble_eq_true rfl) ⟨Nat.le_of_ble_eq_true rfl, Nat.le_of_ble_eq_true rfl⟩ (c2 := 0) (s2 := 0) rfl rfl (x_mayBeCast (some (b.1 6 (wh S qj))) 5 (Or.inr ⟨_, 1, _, rfl, (hx0.K hw_q rfl hb_q), Or.inr (Or.inr (Or.inr (Or.inr ⟨rfl, rfl⟩)))⟩) 1 (by decide)) ?_
            refine g_ifN_ne (a := 0) (tgt := 48) hC dX9_lay_39 (by decide) (by omega) (fun h39 => ?_) (fun h39 => ?_)
            · exfalso; omega
            · refine g_aload_n hC dX9_lay_42 rfl 0 rfl (Or.inr ⟨_, rfl⟩) ?_
              refine g_iconst hC dX9_lay_43 (v := nI 2) (by decide) ?_
              refine g_Vx (As := [.int (nI 2)]) (st := []) hC 1 dX9_lay_44 rfl (hx0.M hM).1 (hx0.M hM).2 gX9_lay_X9_failed rfl (by decide +kernel) ⟨Nat.le_of_ble_eq_true rfl, Nat.le_of_ble_eq_true rfl⟩ rfl (Nat.le_of_ble_eq_true rfl) ⟨(Nat.le_of_ble_eq_true rfl), (Nat.le_of_ble_eq_true rfl)⟩ (c2 := 0) (s2 := 0) rfl rfl (x_failed hx0 M hM 2) (fun v1 L1 f1 hp1 => ?_)
              obtain ⟨rfl, hx1⟩ := hp1
              show gW X vwCl 6 L1 f1 0 0 47 [(0, .ref M), (1, .int (nI pj)), (2, .int i), (3, .int (nI qj))] [.int (fA 2)]
              have hc_p : castF S pj 3 = 0 := by unfold castF isO; rw [hk_p] <;> decide
              have hc_q : castF S qj 1 = 2 := by unfold castF isO; rw [hk_q] <;> decide
              have hE : s_lay S (nI pj) i (nI qj) = (fA 2, (aSc (thS S) 1 2)) := by
                unfold s_lay
                rw [if_pos h4, if_pos h11, hpl_p, hpl_q, if_pos (Or.inr hc_q)] <;> rfl
              exact g_iret hC hR dX9_lay_47 ⟨b, congrArg (fun z => some (Value.int (Prod.fst z))) hE.symm, by rw [hE]; exact hx1, xG.rf⟩
      · have hw_p : wh S pj < S.1 13 := hI.wt hpj (by omega)
        have hb_p : S.2.1 14 (wh S pj) = 0 := by have := ((hI.2.1 _ hpj).2.2.2.2.2 (by omega)).2; omega
        have hp0_p : plcF (thS S) b pj = some (b.1 6 (wh S pj)) := plc_k hpj hk_p (by decide)
        refine g_aald hC 5 rfl (hx0.Mp rfl).1 (hx0.Mp rfl).2 (pj) rfl (show pj < 10 by omega) (by decide) dX9_lay_21 ?_
        refine g_val (w := .ref (b.1 6 (wh S pj))) (congrArg va_rf hp0_p) ?_
        refine g_iconst hC dX9_lay_22 (v := nI 3) (by decide) ?_
        refine g_S (As := [.ref (b.1 6 (wh S pj)), .int (nI 3)]) (st := []) hC 2 dX9_lay_23 gX9_lay_X9_mayBeCast rfl (by decide +kernel) ⟨Nat.le_of_ble_eq_true rfl, Nat.le_of_ble_eq_true rfl⟩ rfl (Nat.le_of_ble_eq_true rfl) ⟨Nat.le_of_ble_eq_true rfl, Nat.le_of_ble_eq_true rfl⟩ (c2 := 0) (s2 := 0) rfl rfl (x_mayBeCast (some (b.1 6 (wh S pj))) 4 (Or.inr ⟨_, 5, _, rfl, (hx0.T hw_p rfl hb_p), Or.inr (Or.inr (Or.inr (Or.inl ⟨rfl, rfl⟩)))⟩) 3 (by decide)) ?_
        refine g_ifN_eq (a := 0) (tgt := 42) hC dX9_lay_26 (by decide) (by omega) (fun h26 => ?_) (fun h26 => ?_)
        · refine g_aload_n hC dX9_lay_42 rfl 0 rfl (Or.inr ⟨_, rfl⟩) ?_
          refine g_iconst hC dX9_lay_43 (v := nI 2) (by decide) ?_
          refine g_Vx (As := [.int (nI 2)]) (st := []) hC 1 dX9_lay_44 rfl (hx0.M hM).1 (hx0.M hM).2 gX9_lay_X9_failed rfl (by decide +kernel) ⟨Nat.le_of_ble_eq_true rfl, Nat.le_of_ble_eq_true rfl⟩ rfl (Nat.le_of_ble_eq_true rfl) ⟨(Nat.le_of_ble_eq_true rfl), (Nat.le_of_ble_eq_true rfl)⟩ (c2 := 0) (s2 := 0) rfl rfl (x_failed hx0 M hM 2) (fun v1 L1 f1 hp1 => ?_)
          obtain ⟨rfl, hx1⟩ := hp1
          show gW X vwCl 6 L1 f1 0 0 47 [(0, .ref M), (1, .int (nI pj)), (2, .int i), (3, .int (nI qj))] [.int (fA 2)]
          have hc_p : castF S pj 3 = 2 := by unfold castF isO; rw [hk_p] <;> decide
          have hE : s_lay S (nI pj) i (nI qj) = (fA 2, (aSc (thS S) 1 2)) := by
            unfold s_lay
            rw [if_pos h4, if_pos h11, hpl_p, hpl_q, if_pos (Or.inl hc_p)] <;> rfl
          exact g_iret hC hR dX9_lay_47 ⟨b, congrArg (fun z => some (Value.int (Prod.fst z))) hE.symm, by rw [hE]; exact hx1, xG.rf⟩
        · exfalso; omega
      · have hw_p : wh S pj < S.1 13 := hI.wt hpj (by omega)
        have hb_p : S.2.1 14 (wh S pj) ≠ 0 := by have := ((hI.2.1 _ hpj).2.2.2.2.2 (by omega)).2; omega
        have hp0_p : plcF (thS S) b pj = some (b.1 6 (wh S pj)) := plc_k hpj hk_p (by decide)
        refine g_aald hC 5 rfl (hx0.Mp rfl).1 (hx0.Mp rfl).2 (pj) rfl (show pj < 10 by omega) (by decide) dX9_lay_21 ?_
        refine g_val (w := .ref (b.1 6 (wh S pj))) (congrArg va_rf hp0_p) ?_
        refine g_iconst hC dX9_lay_22 (v := nI 3) (by decide) ?_
        refine g_S (As := [.ref (b.1 6 (wh S pj)), .int (nI 3)]) (st := []) hC 2 dX9_lay_23 gX9_lay_X9_mayBeCast rfl (by decide +kernel) ⟨Nat.le_of_ble_eq_true rfl, Nat.le_of_ble_eq_true rfl⟩ rfl (Nat.le_of_ble_eq_true rfl) ⟨Nat.le_of_ble_eq_true rfl, Nat.le_of_ble_eq_true rfl⟩ (c2 := 0) (s2 := 0) rfl rfl (x_mayBeCast (some (b.1 6 (wh S pj))) 5 (Or.inr ⟨_, 1, _, rfl, (hx0.K hw_p rfl hb_p), Or.inr (Or.inr (Or.inr (Or.inr ⟨rfl, rfl⟩)))⟩) 3 (by decide)) ?_
        refine g_ifN_eq (a := 0) (tgt := 42) hC dX9_lay_26 (by decide) (by omega) (fun h26 => ?_) (fun h26 => ?_)
        · refine g_aload_n hC dX9_lay_42 rfl 0 rfl (Or.inr ⟨_, rfl⟩) ?_
          refine g_iconst hC dX9_lay_43 (v := nI 2) (by decide) ?_
          refine g_Vx (As := [.int (nI 2)]) (st := []) hC 1 dX9_lay_44 rfl (hx0.M hM).1 (hx0.M hM).2 gX9_lay_X9_failed rfl (by decide +kernel) ⟨Nat.le_of_ble_eq_true rfl, Nat.le_of_ble_eq_true rfl⟩ rfl (Nat.le_of_ble_eq_true rfl) ⟨(Nat.le_of_ble_eq_true rfl), (Nat.le_of_ble_eq_true rfl)⟩ (c2 := 0) (s2 := 0) rfl rfl (x_failed hx0 M hM 2) (fun v1 L1 f1 hp1 => ?_)
          obtain ⟨rfl, hx1⟩ := hp1
          show gW X vwCl 6 L1 f1 0 0 47 [(0, .ref M), (1, .int (nI pj)), (2, .int i), (3, .int (nI qj))] [.int (fA 2)]
          have hc_p : castF S pj 3 = 2 := by unfold castF isO; rw [hk_p] <;> decide
          have hE : s_lay S (nI pj) i (nI qj) = (fA 2, (aSc (thS S) 1 2)) := by
            unfold s_lay
            rw [if_pos h4, if_pos h11, hpl_p, hpl_q, if_pos (Or.inl hc_p)] <;> rfl
          exact g_iret hC hR dX9_lay_47 ⟨b, congrArg (fun z => some (Value.int (Prod.fst z))) hE.symm, by rw [hE]; exact hx1, xG.rf⟩
        · exfalso; omega
    · refine g_iconst hC dX9_lay_14 (v := (-1)) (by decide) ?_
      have hE : s_lay S (nI pj) i q = ((-1), (thS S)) := by
        unfold s_lay
        rw [if_pos h4, if_neg h11] <;> rfl
      exact g_iret hC hR dX9_lay_15 ⟨b, congrArg (fun z => some (Value.int (Prod.fst z))) hE.symm, by rw [hE]; exact hx0, xG.rf⟩
set_option maxRecDepth 20000 in
set_option maxHeartbeats 4000000 in
theorem y_take {S : aS} {b : xB} (hx : xR cy S b L f) (hI : aI S) (M : Nat) (hM : b.1 9 0 = M) (p q i : Int32) : gCt l D vwCl (gKK D cy adK adV) yX9_take wsX9_take { frames := 5, cells := 0, slots := 0, locals := 106 } [.ref M, .int p, .int q, .int i] L f (xP cy S b (s_take S p q i).2 (fun _ => some (.int (s_take S p q i).1))) := by
  refine gCt.of gKK_ok (by decide) rfl rfl (fun X hC hR hnm => ?_)
  have hC : gC X l _ D vwCl (cyT cy) (gKK D cy adK adV) cX9_take 7 wsX9_take RX9 := hC
  have hx0 := hx.th0
  have hI0 := hI.th
  show gW X vwCl 7 L f 0 0 0 [(0, .ref M), (1, .int p), (2, .int q), (3, .int i)] []
  refine g_iload_n hC dX9_take_0 rfl 1 rfl ?_
  refine g_S (As := [.int p]) (st := []) hC 1 dX9_take_1 gX9_take_X9_isPlace rfl (by decide +kernel) ⟨Nat.le_of_ble_eq_true rfl, Nat.le_of_ble_eq_true rfl⟩ rfl (Nat.le_of_ble_eq_true rfl) ⟨Nat.le_of_ble_eq_true rfl, Nat.le_of_ble_eq_true rfl⟩ (c2 := 0) (s2 := 0) rfl rfl (x_isPlace _) ?_
  refine g_ifB_eq (P := isP p) (tgt := 14) hC dX9_take_4 (by decide) (fun h4 => ?_) (fun h4 => ?_)
  · refine g_iconst hC dX9_take_14 (v := (-1)) (by decide) ?_
    have hE : s_take S p q i = ((-1), (thS S)) := by
      unfold s_take
      rw [if_neg h4] <;> rfl
    exact g_iret hC hR dX9_take_15 ⟨b, congrArg (fun z => some (Value.int (Prod.fst z))) hE.symm, by rw [hE]; exact hx0, xG.rf⟩
  · obtain ⟨pj, hpj, rfl⟩ := isP_j h4
    have hpl_p : pl (nI pj) = pj := nI_clamp (by omega)
    refine g_iload_n hC dX9_take_7 rfl 2 rfl ?_
    refine g_S (As := [.int q]) (st := []) hC 1 dX9_take_8 gX9_take_X9_isPlace rfl (by decide +kernel) ⟨Nat.le_of_ble_eq_true rfl, Nat.le_of_ble_eq_true rfl⟩ rfl (Nat.le_of_ble_eq_true rfl) ⟨Nat.le_of_ble_eq_true rfl, Nat.le_of_ble_eq_true rfl⟩ (c2 := 0) (s2 := 0) rfl rfl (x_isPlace _) ?_
    refine g_ifB_ne (P := isP q) (tgt := 16) hC dX9_take_11 (by decide) (fun h11 => ?_) (fun h11 => ?_)
    · obtain ⟨qj, hqj, rfl⟩ := isP_j h11
      have hpl_q : pl (nI qj) = qj := nI_clamp (by omega)
      refine g_aload_n hC dX9_take_16 rfl 0 rfl (Or.inr ⟨_, rfl⟩) ?_
      refine g_get hC (by decide +kernel) rfl (hx0.M hM).1 (hx0.M hM).2 0 (by decide) (by decide +kernel) (Or.inl rfl) rfl dX9_take_17 ?_
      refine g_iload_n hC dX9_take_20 rfl 2 rfl ?_
      have h5_q := hI.k5 hqj
      rcases (show kd S qj = 0 ∨ kd S qj = 1 ∨ kd S qj = 2 ∨ kd S qj = 3 ∨ kd S qj = 4 ∨ kd S qj = 5 by omega) with hk_q | hk_q | hk_q | hk_q | hk_q | hk_q
      · have hp0_q : plcF (thS S) b qj = none := plc_0 hqj hk_q
        refine g_aald hC 5 rfl (hx0.Mp rfl).1 (hx0.Mp rfl).2 (qj) rfl (show qj < 10 by omega) (by decide) dX9_take_21 ?_
        refine g_val (w := .null) (congrArg va_rf hp0_q) ?_
        refine g_iconst hC dX9_take_22 (v := nI 3) (by decide) ?_
        refine g_iload_n hC dX9_take_23 rfl 3 rfl ?_
        refine g_S (As := [.null, .int (nI 3), .int i]) (st := []) hC 3 dX9_take_24 gX9_take_X9_cellFault rfl (by decide +kernel) ⟨Nat.le_of_ble_eq_true rfl, Nat.le_of_ble_eq_true rfl⟩ rfl (Nat.le_of_ble_eq_true rfl) ⟨Nat.le_of_ble_eq_true rfl, Nat.le_of_ble_eq_true rfl⟩ (c2 := 0) (s2 := 0) rfl rfl (x_cellFault_0 3 (by decide) _) ?_
        refine g_istore (lv' := [(4, .int (nI 1)), (0, .ref M), (1, .int (nI pj)), (2, .int (nI qj)), (3, .int i)]) hC dX9_take_27 (by decide) rfl ?_
        refine g_aload_n hC dX9_take_29 rfl 1 rfl (Or.inr ⟨_, rfl⟩) ?_
        refine g_get hC (by decide +kernel) rfl (hx0.M hM).1 (hx0.M hM).2 0 (by decide) (by decide +kernel) (Or.inl rfl) rfl dX9_take_30 ?_
        refine g_iload_n hC dX9_take_33 rfl 3 rfl ?_
        refine g_aald hC 5 rfl (hx0.Mp rfl).1 (hx0.Mp rfl).2 (qj) rfl (show qj < 10 by omega) (by decide) dX9_take_34 ?_
        refine g_val (w := .null) (congrArg va_rf hp0_q) ?_
        refine g_S (As := [.null]) (st := []) hC 1 dX9_take_35 gX9_take_X9_asRows rfl (by decide +kernel) ⟨Nat.le_of_ble_eq_true rfl, Nat.le_of_ble_eq_true rfl⟩ rfl (Nat.le_of_ble_eq_true rfl) ⟨Nat.le_of_ble_eq_true rfl, Nat.le_of_ble_eq_true rfl⟩ (c2 := 0) (s2 := 0) rfl rfl (x_asRows none 0 (Or.inl ⟨rfl, rfl⟩)) ?_
        refine g_astore (lv' := [(5, .null), (4, .int (nI 1)), (0, .ref M), (1, .int (nI pj)), (2, .int (nI qj)), (3, .int i)]) hC dX9_take_38 (by decide) rfl (Or.inl rfl) ?_
        refine g_iload hC dX9_take_40 1 rfl ?_
        refine g_ifN_ne (a := 1) (tgt := 50) hC dX9_take_42 (by decide) (by omega) (fun h42 => ?_) (fun h42 => ?_)
        · refine g_aload_n hC dX9_take_50 rfl 2 rfl (Or.inr ⟨_, rfl⟩) ?_
          refine g_iload hC dX9_take_51 1 rfl ?_
          refine g_Vx (As := [.int (nI 1)]) (st := []) hC 1 dX9_take_53 rfl (hx0.M hM).1 (hx0.M hM).2 gX9_take_X9_failed rfl (by decide +kernel) ⟨Nat.le_of_ble_eq_true rfl, Nat.le_of_ble_eq_true rfl⟩ rfl (Nat.le_of_ble_eq_true rfl) ⟨(Nat.le_of_ble_eq_true rfl), (Nat.le_of_ble_eq_true rfl)⟩ (c2 := 0) (s2 := 0) rfl rfl (x_failed hx0 M hM 1) (fun v1 L1 f1 hp1 => ?_)
          obtain ⟨rfl, hx1⟩ := hp1
          show gW X vwCl 7 L1 f1 0 0 56 [(5, .null), (4, .int (nI 1)), (0, .ref M), (1, .int (nI pj)), (2, .int (nI qj)), (3, .int i)] [.int (fA 1)]
          have hc_q : castF S qj 3 = 1 := by unfold castF isO; rw [hk_q] <;> decide
          have hE : s_take S (nI pj) (nI qj) i = (fA 1, (aSc (thS S) 1 1)) := by
            unfold s_take
            rw [if_pos h4, if_pos h11, hpl_q, hc_q, if_pos (show 0 < 1 by decide)] <;> rfl
          exact g_iret hC hR dX9_take_56 ⟨b, congrArg (fun z => some (Value.int (Prod.fst z))) hE.symm, by rw [hE]; exact hx1, xG.rf⟩
        · exfalso; omega
      · have hw_q : wh S qj < S.1 4 := hI.wl hqj hk_q
        have hp0_q : plcF (thS S) b qj = some (b.1 0 (wh S qj)) := plc_k hqj hk_q (by decide)
        refine g_aald hC 5 rfl (hx0.Mp rfl).1 (hx0.Mp rfl).2 (qj) rfl (show qj < 10 by omega) (by decide) dX9_take_21 ?_
        refine g_val (w := .ref (b.1 0 (wh S qj))) (congrArg va_rf hp0_q) ?_
        refine g_iconst hC dX9_take_22 (v := nI 3) (by decide) ?_
        refine g_iload_n hC dX9_take_23 rfl 3 rfl ?_
        refine g_S (As := [.ref (b.1 0 (wh S qj)), .int (nI 3), .int i]) (st := []) hC 3 dX9_take_24 gX9_take_X9_cellFault rfl (by decide +kernel) ⟨Nat.le_of_ble_eq_true rfl, Nat.le_of_ble_eq_true rfl⟩ rfl (Nat.le_of_ble_eq_true rfl) ⟨Nat.le_of_ble_eq_true rfl, Nat.le_of_ble_eq_true rfl⟩ (c2 := 0) (s2 := 0) rfl rfl (x_cellFault_B _ _ _ _ (hx0.isB hw_q rfl (hI.bl hw_q)) 3 (by decide) _) ?_
        refine g_istore (lv' := [(4, .int (nI 2)), (0, .ref M), (1, .int (nI pj)), (2, .int (nI qj)), (3, .int i)]) hC dX9_take_27 (by decide) rfl ?_
        refine g_aload_n hC dX9_take_29 rfl 1 rfl (Or.inr ⟨_, rfl⟩) ?_
        refine g_get hC (by decide +kernel) rfl (hx0.M hM).1 (hx0.M hM).2 0 (by decide) (by decide +kernel) (Or.inl rfl) rfl dX9_take_30 ?_
        refine g_iload_n hC dX9_take_33 rfl 3 rfl ?_
        refine g_aald hC 5 rfl (hx0.Mp rfl).1 (hx0.Mp rfl).2 (qj) rfl (show qj < 10 by omega) (by decide) dX9_take_34 ?_
        refine g_val (w := .ref (b.1 0 (wh S qj))) (congrArg va_rf hp0_q) ?_
        refine g_S (As := [.ref (b.1 0 (wh S qj))]) (st := []) hC 1 dX9_take_35 gX9_take_X9_asRows rfl (by decide +kernel) ⟨Nat.le_of_ble_eq_true rfl, Nat.le_of_ble_eq_true rfl⟩ rfl (Nat.le_of_ble_eq_true rfl) ⟨Nat.le_of_ble_eq_true rfl, Nat.le_of_ble_eq_true rfl⟩ (c2 := 0) (s2 := 0) rfl rfl (x_asRows (some (b.1 0 (wh S qj))) 1 (Or.inr ⟨_, 0, _, rfl, (hx0.B hw_q rfl), Or.inl ⟨rfl, rfl⟩⟩)) ?_
        refine g_astore (lv' := [(5, .null), (4, .int (nI 2)), (0, .ref M), (1, .int (nI pj)), (2, .int (nI qj)), (3, .int i)]) hC dX9_take_38 (by decide) rfl (Or.inl rfl) ?_
        refine g_iload hC dX9_take_40 1 rfl ?_
        refine g_ifN_ne (a := 2) (tgt := 50) hC dX9_take_42 (by decide) (by omega) (fun h42 => ?_) (fun h42 => ?_)
        · refine g_aload_n hC dX9_take_50 rfl 2 rfl (Or.inr ⟨_, rfl⟩) ?_
          refine g_iload hC dX9_take_51 1 rfl ?_
          refine g_Vx (As := [.int (nI 2)]) (st := []) hC 1 dX9_take_53 rfl (hx0.M hM).1 (hx0.M hM).2 gX9_take_X9_failed rfl (by decide +kernel) ⟨Nat.le_of_ble_eq_true rfl, Nat.le_of_ble_eq_true rfl⟩ rfl (Nat.le_of_ble_eq_true rfl) ⟨(Nat.le_of_ble_eq_true rfl), (Nat.le_of_ble_eq_true rfl)⟩ (c2 := 0) (s2 := 0) rfl rfl (x_failed hx0 M hM 2) (fun v1 L1 f1 hp1 => ?_)
          obtain ⟨rfl, hx1⟩ := hp1
          show gW X vwCl 7 L1 f1 0 0 56 [(5, .null), (4, .int (nI 2)), (0, .ref M), (1, .int (nI pj)), (2, .int (nI qj)), (3, .int i)] [.int (fA 2)]
          have hc_q : castF S qj 3 = 2 := by unfold castF isO; rw [hk_q] <;> decide
          have hE : s_take S (nI pj) (nI qj) i = (fA 2, (aSc (thS S) 1 2)) := by
            unfold s_take
            rw [if_pos h4, if_pos h11, hpl_q, hc_q, if_pos (show 0 < 2 by decide)] <;> rfl
          exact g_iret hC hR dX9_take_56 ⟨b, congrArg (fun z => some (Value.int (Prod.fst z))) hE.symm, by rw [hE]; exact hx1, xG.rf⟩
        · exfalso; omega
      · have hw_q : wh S qj < S.1 7 := hI.ws hqj hk_q
        have hp0_q : plcF (thS S) b qj = some (b.1 2 (wh S qj)) := plc_k hqj hk_q (by decide)
        refine g_aald hC 5 rfl (hx0.Mp rfl).1 (hx0.Mp rfl).2 (qj) rfl (show qj < 10 by omega) (by decide) dX9_take_21 ?_
        refine g_val (w := .ref (b.1 2 (wh S qj))) (congrArg va_rf hp0_q) ?_
        refine g_iconst hC dX9_take_22 (v := nI 3) (by decide) ?_
        refine g_iload_n hC dX9_take_23 rfl 3 rfl ?_
        refine g_S (As := [.ref (b.1 2 (wh S qj)), .int (nI 3), .int i]) (st := []) hC 3 dX9_take_24 gX9_take_X9_cellFault rfl (by decide +kernel) ⟨Nat.le_of_ble_eq_true rfl, Nat.le_of_ble_eq_true rfl⟩ rfl (Nat.le_of_ble_eq_true rfl) ⟨Nat.le_of_ble_eq_true rfl, Nat.le_of_ble_eq_true rfl⟩ (c2 := 0) (s2 := 0) rfl rfl (x_cellFault_S _ _ _ _ (hx0.isS hw_q rfl (hI.2.2.2.1 _ hw_q)) 3 (by decide) _) ?_
        refine g_istore (lv' := [(4, .int (nI 2)), (0, .ref M), (1, .int (nI pj)), (2, .int (nI qj)), (3, .int i)]) hC dX9_take_27 (by decide) rfl ?_
        refine g_aload_n hC dX9_take_29 rfl 1 rfl (Or.inr ⟨_, rfl⟩) ?_
        refine g_get hC (by decide +kernel) rfl (hx0.M hM).1 (hx0.M hM).2 0 (by decide) (by decide +kernel) (Or.inl rfl) rfl dX9_take_30 ?_
        refine g_iload_n hC dX9_take_33 rfl 3 rfl ?_
        refine g_aald hC 5 rfl (hx0.Mp rfl).1 (hx0.Mp rfl).2 (qj) rfl (show qj < 10 by omega) (by decide) dX9_take_34 ?_
        refine g_val (w := .ref (b.1 2 (wh S qj))) (congrArg va_rf hp0_q) ?_
        refine g_S (As := [.ref (b.1 2 (wh S qj))]) (st := []) hC 1 dX9_take_35 gX9_take_X9_asRows rfl (by decide +kernel) ⟨Nat.le_of_ble_eq_true rfl, Nat.le_of_ble_eq_true rfl⟩ rfl (Nat.le_of_ble_eq_true rfl) ⟨Nat.le_of_ble_eq_true rfl, Nat.le_of_ble_eq_true rfl⟩ (c2 := 0) (s2 := 0) rfl rfl (x_asRows (some (b.1 2 (wh S qj))) 2 (Or.inr ⟨_, 4, _, rfl, (hx0.G hw_q rfl), Or.inr (Or.inl ⟨rfl, rfl⟩)⟩)) ?_
        refine g_astore (lv' := [(5, .null), (4, .int (nI 2)), (0, .ref M), (1, .int (nI pj)), (2, .int (nI qj)), (3, .int i)]) hC dX9_take_38 (by decide) rfl (Or.inl rfl) ?_
        refine g_iload hC dX9_take_40 1 rfl ?_
        refine g_ifN_ne (a := 2) (tgt := 50) hC dX9_take_42 (by decide) (by omega) (fun h42 => ?_) (fun h42 => ?_)
        · refine g_aload_n hC dX9_take_50 rfl 2 rfl (Or.inr ⟨_, rfl⟩) ?_
          refine g_iload hC dX9_take_51 1 rfl ?_
          refine g_Vx (As := [.int (nI 2)]) (st := []) hC 1 dX9_take_53 rfl (hx0.M hM).1 (hx0.M hM).2 gX9_take_X9_failed rfl (by decide +kernel) ⟨Nat.le_of_ble_eq_true rfl, Nat.le_of_ble_eq_true rfl⟩ rfl (Nat.le_of_ble_eq_true rfl) ⟨(Nat.le_of_ble_eq_true rfl), (Nat.le_of_ble_eq_true rfl)⟩ (c2 := 0) (s2 := 0) rfl rfl (x_failed hx0 M hM 2) (fun v1 L1 f1 hp1 => ?_)
          obtain ⟨rfl, hx1⟩ := hp1
          show gW X vwCl 7 L1 f1 0 0 56 [(5, .null), (4, .int (nI 2)), (0, .ref M), (1, .int (nI pj)), (2, .int (nI qj)), (3, .int i)] [.int (fA 2)]
          have hc_q : castF S qj 3 = 2 := by unfold castF isO; rw [hk_q] <;> decide
          have hE : s_take S (nI pj) (nI qj) i = (fA 2, (aSc (thS S) 1 2)) := by
            unfold s_take
            rw [if_pos h4, if_pos h11, hpl_q, hc_q, if_pos (show 0 < 2 by decide)] <;> rfl
          exact g_iret hC hR dX9_take_56 ⟨b, congrArg (fun z => some (Value.int (Prod.fst z))) hE.symm, by rw [hE]; exact hx1, xG.rf⟩
        · exfalso; omega
      · have hw_q : wh S qj < S.1 10 := hI.wr hqj hk_q
        have hp0_q : plcF (thS S) b qj = some (b.1 4 (wh S qj)) := plc_k hqj hk_q (by decide)
        refine g_aald hC 5 rfl (hx0.Mp rfl).1 (hx0.Mp rfl).2 (qj) rfl (show qj < 10 by omega) (by decide) dX9_take_21 ?_
        refine g_val (w := .ref (b.1 4 (wh S qj))) (congrArg va_rf hp0_q) ?_
        refine g_iconst hC dX9_take_22 (v := nI 3) (by decide) ?_
        refine g_iload_n hC dX9_take_23 rfl 3 rfl ?_
        refine g_S (As := [.ref (b.1 4 (wh S qj)), .int (nI 3), .int i]) (st := []) hC 3 dX9_take_24 gX9_take_X9_cellFault rfl (by decide +kernel) ⟨Nat.le_of_ble_eq_true rfl, Nat.le_of_ble_eq_true rfl⟩ rfl (Nat.le_of_ble_eq_true rfl) ⟨Nat.le_of_ble_eq_true rfl, Nat.le_of_ble_eq_true rfl⟩ (c2 := 0) (s2 := 0) rfl rfl (x_cellFault_R _ _ _ _ (isR.B hx0 hw_q rfl (hI.2.2.2.2.1 _ hw_q)) 3 (by decide) _) ?_
        have hl9 := (hI.2.2.2.2.1 _ hw_q)
        by_cases hin : 0 ≤ i ∧ i < nI (S.2.1 11 (wh S qj))
        · have hR_i := (in_R (show S.2.1 11 (wh S qj) < 2 ^ 30 by omega)).mp hin
          refine g_val (w := .int (nI 0)) (congrArg Value.int (if_pos hin)) ?_
          obtain ⟨ij, hij, rfl⟩ := (in_j (show S.2.1 11 (wh S qj) < 2 ^ 30 by omega)).mp hin
          have hpl_i : pl (nI ij) = ij := nI_clamp (by omega)
          refine g_istore (lv' := [(4, .int (nI 0)), (0, .ref M), (1, .int (nI pj)), (2, .int (nI qj)), (3, .int (nI ij))]) hC dX9_take_27 (by decide) rfl ?_
          refine g_aload_n hC dX9_take_29 rfl 1 rfl (Or.inr ⟨_, rfl⟩) ?_
          refine g_get hC (by decide +kernel) rfl (hx0.M hM).1 (hx0.M hM).2 0 (by decide) (by decide +kernel) (Or.inl rfl) rfl dX9_take_30 ?_
          refine g_iload_n hC dX9_take_33 rfl 3 rfl ?_
          refine g_aald hC 5 rfl (hx0.Mp rfl).1 (hx0.Mp rfl).2 (qj) rfl (show qj < 10 by omega) (by decide) dX9_take_34 ?_
          refine g_val (w := .ref (b.1 4 (wh S qj))) (congrArg va_rf hp0_q) ?_
          refine g_S (As := [.ref (b.1 4 (wh S qj))]) (st := []) hC 1 dX9_take_35 gX9_take_X9_asRows rfl (by decide +kernel) ⟨Nat.le_of_ble_eq_true rfl, Nat.le_of_ble_eq_true rfl⟩ rfl (Nat.le_of_ble_eq_true rfl) ⟨Nat.le_of_ble_eq_true rfl, Nat.le_of_ble_eq_true rfl⟩ (c2 := 0) (s2 := 0) rfl rfl (x_asRows (some (b.1 4 (wh S qj))) 3 (Or.inr ⟨_, 3, _, rfl, (hx0.W hw_q rfl), Or.inr (Or.inr (Or.inl ⟨rfl, rfl⟩))⟩)) ?_
          refine g_astore (lv' := [(5, .ref (b.1 4 (wh S qj))), (4, .int (nI 0)), (0, .ref M), (1, .int (nI pj)), (2, .int (nI qj)), (3, .int (nI ij))]) hC dX9_take_38 (by decide) rfl (Or.inr ⟨_, rfl⟩) ?_
          refine g_iload hC dX9_take_40 1 rfl ?_
          refine g_ifN_ne (a := 0) (tgt := 50) hC dX9_take_42 (by decide) (by omega) (fun h42 => ?_) (fun h42 => ?_)
          · exfalso; omega
          · refine g_aload hC dX9_take_45 0 rfl (Or.inr ⟨_, rfl⟩) ?_
            refine g_ifnonnull (o := some (b.1 4 (wh S qj))) (tgt := 57) hC dX9_take_47 (by decide) (fun a47 h47 => ?_) (fun h47 => ?_)
            · refine g_aload hC dX9_take_57 0 rfl (Or.inr ⟨_, rfl⟩) ?_
              refine g_getN hC (by decide +kernel) rfl (hx0.W hw_q rfl).1 (hx0.W hw_q rfl).2 0 (by decide) (gKK_F ("KeptTerms", 108, "KeptTerms$Rows", "cells", "[LKeptTerms$Bytes;") (by decide)) (Or.inl rfl) rfl dX9_take_59 ?_
              refine g_iload_n hC dX9_take_62 rfl 5 rfl ?_
              refine g_aald hC 4 rfl (hx0.Wc hw_q rfl).1 (hx0.Wc hw_q rfl).2 (ij) rfl (show ij < S.2.1 11 (wh S qj) by omega) (show S.2.1 11 (wh S qj) < 2 ^ 31 by omega) dX9_take_63 ?_
              refine g_val (w := va_rf (rfo b (S.2.1 12 (16 * wh S qj + ij)))) (congrArg va_rf (if_pos (show ij < S.2.1 11 (wh S qj) by omega))) ?_
              have hcb := hI.rc hw_q (show ij < 16 by omega)
              by_cases hz : S.2.1 12 (16 * wh S qj + ij) = 0
              · refine g_val (w := .null) (congrArg va_rf (if_pos hz)) ?_
                refine g_astore (lv' := [(6, .null), (5, .ref (b.1 4 (wh S qj))), (4, .int (nI 0)), (0, .ref M), (1, .int (nI pj)), (2, .int (nI qj)), (3, .int (nI ij))]) hC dX9_take_64 (by decide) rfl (Or.inl rfl) ?_
                refine g_aload_n hC dX9_take_66 rfl 3 rfl (Or.inr ⟨_, rfl⟩) ?_
                refine g_get hC (by decide +kernel) rfl (hx0.M hM).1 (hx0.M hM).2 0 (by decide) (by decide +kernel) (Or.inl rfl) rfl dX9_take_67 ?_
                refine g_iload_n hC dX9_take_70 rfl 4 rfl ?_
                refine g_aload hC dX9_take_71 0 rfl (Or.inl rfl) ?_
                refine g_aastN hC 5 rfl (hx0.Mp rfl).1 (hx0.Mp rfl).2 (pj) rfl (show pj < 10 by omega) (by decide) dX9_take_73 ?_
                refine g_fx (P := xR cy ((aN (aN (thS S) 2 pj 0) 3 pj 0)) b) (hx0.hold0 hpj rfl) (fun f1 hx1 => ?_)
                show gW X vwCl 7 L f1 0 0 74 [(6, .null), (5, .ref (b.1 4 (wh S qj))), (4, .int (nI 0)), (0, .ref M), (1, .int (nI pj)), (2, .int (nI qj)), (3, .int (nI ij))] []
                refine g_aload hC dX9_take_74 0 rfl (Or.inl rfl) ?_
                refine g_ifnonnull (o := none) (tgt := 84) hC dX9_take_76 (by decide) (fun a76 h76 => ?_) (fun h76 => ?_)
                · cases h76
                · refine g_bipush hC dX9_take_79 (v := (-3)) (by decide) ?_
                  refine g_goto (tgt := 89) hC dX9_take_81 (by decide) ?_
                  have hc_q : castF S qj 3 = 0 := by unfold castF isO; rw [hk_q] <;> decide
                  have hlg_q : longS S qj = S.2.1 11 (wh S qj) := by unfold longS; rw [hk_q] <;> rfl
                  have hE : s_take S (nI pj) (nI qj) (nI ij) = ((-3), (aN (aN (thS S) 2 pj 0) 3 pj 0)) := by
                    unfold s_take
                    rw [if_pos h4, if_pos h11, hpl_q, hc_q, if_neg (show ¬ 0 < 0 by decide), hlg_q, if_pos hR_i, hpl_i, if_pos hz, hpl_p] <;> rfl
                  exact g_iret hC hR dX9_take_89 ⟨b, congrArg (fun z => some (Value.int (Prod.fst z))) hE.symm, by rw [hE]; exact hx1, xG.rf⟩
              · refine g_val (w := .ref (b.1 0 (S.2.1 12 (16 * wh S qj + ij) - 1))) (congrArg va_rf (if_neg hz)) ?_
                have hw_x : S.2.1 12 (16 * wh S qj + ij) - 1 < S.1 4 := by omega
                refine g_astore (lv' := [(6, .ref (b.1 0 (S.2.1 12 (16 * wh S qj + ij) - 1))), (5, .ref (b.1 4 (wh S qj))), (4, .int (nI 0)), (0, .ref M), (1, .int (nI pj)), (2, .int (nI qj)), (3, .int (nI ij))]) hC dX9_take_64 (by decide) rfl (Or.inr ⟨_, rfl⟩) ?_
                refine g_aload_n hC dX9_take_66 rfl 3 rfl (Or.inr ⟨_, rfl⟩) ?_
                refine g_get hC (by decide +kernel) rfl (hx0.M hM).1 (hx0.M hM).2 0 (by decide) (by decide +kernel) (Or.inl rfl) rfl dX9_take_67 ?_
                refine g_iload_n hC dX9_take_70 rfl 4 rfl ?_
                refine g_aload hC dX9_take_71 0 rfl (Or.inr ⟨_, rfl⟩) ?_
                refine g_aastO hC 5 rfl (r := (RX0, TX0, 1)) (gKK_C "KeptTerms$Bytes" "KeptTerms$Thing" (by decide)) rfl (hx0.B hw_x rfl).1 (hx0.B hw_x rfl).2 (hx0.Mp rfl).1 (hx0.Mp rfl).2 (pj) rfl (show pj < 10 by omega) (by decide) dX9_take_73 ?_
                refine g_fx (P := xR cy ((aN (aN (thS S) 2 pj 1) 3 pj (S.2.1 12 (16 * wh S qj + ij) - 1))) b) (hx0.hold (x := 1) (r := S.2.1 12 (16 * wh S qj + ij) - 1) hpj (by decide) rfl) (fun f1 hx1 => ?_)
                show gW X vwCl 7 L f1 0 0 74 [(6, .ref (b.1 0 (S.2.1 12 (16 * wh S qj + ij) - 1))), (5, .ref (b.1 4 (wh S qj))), (4, .int (nI 0)), (0, .ref M), (1, .int (nI pj)), (2, .int (nI qj)), (3, .int (nI ij))] []
                refine g_aload hC dX9_take_74 0 rfl (Or.inr ⟨_, rfl⟩) ?_
                refine g_ifnonnull (o := some (b.1 0 (S.2.1 12 (16 * wh S qj + ij) - 1))) (tgt := 84) hC dX9_take_76 (by decide) (fun a76 h76 => ?_) (fun h76 => ?_)
                · refine g_aload hC dX9_take_84 0 rfl (Or.inr ⟨_, rfl⟩) ?_
                  refine g_V (As := []) (st := []) hC 0 dX9_take_86 rfl (hx1.B hw_x rfl).1 (hx1.B hw_x rfl).2 gX9_take_X0_cellCount rfl (by decide +kernel) ⟨Nat.le_of_ble_eq_true rfl, Nat.le_of_ble_eq_true rfl⟩ rfl (Nat.le_of_ble_eq_true rfl) ⟨Nat.le_of_ble_eq_true rfl, Nat.le_of_ble_eq_true rfl⟩ (c2 := 0) (s2 := 0) rfl rfl (x_0_cellCount _ _ _ _ (hx1.isB hw_x rfl (hI.bl hw_x))) ?_
                  have hc_q : castF S qj 3 = 0 := by unfold castF isO; rw [hk_q] <;> decide
                  have hlg_q : longS S qj = S.2.1 11 (wh S qj) := by unfold longS; rw [hk_q] <;> rfl
                  have hE : s_take S (nI pj) (nI qj) (nI ij) = (nI (S.2.1 5 (S.2.1 12 (16 * wh S qj + ij) - 1)), (aN (aN (thS S) 2 pj 1) 3 pj (S.2.1 12 (16 * wh S qj + ij) - 1))) := by
                    unfold s_take
                    rw [if_pos h4, if_pos h11, hpl_q, hc_q, if_neg (show ¬ 0 < 0 by decide), hlg_q, if_pos hR_i, hpl_i, if_neg hz, hpl_p] <;> rfl
                  exact g_iret hC hR dX9_take_89 ⟨b, congrArg (fun z => some (Value.int (Prod.fst z))) hE.symm, by rw [hE]; exact hx1, xG.rf⟩
                · cases h76
            · cases h47
        · have hR_i := fun z => hin ((in_R (show S.2.1 11 (wh S qj) < 2 ^ 30 by omega)).mpr z)
          refine g_val (w := .int (nI 3)) (congrArg Value.int (if_neg hin)) ?_
          refine g_istore (lv' := [(4, .int (nI 3)), (0, .ref M), (1, .int (nI pj)), (2, .int (nI qj)), (3, .int i)]) hC dX9_take_27 (by decide) rfl ?_
          refine g_aload_n hC dX9_take_29 rfl 1 rfl (Or.inr ⟨_, rfl⟩) ?_
          refine g_get hC (by decide +kernel) rfl (hx0.M hM).1 (hx0.M hM).2 0 (by decide) (by decide +kernel) (Or.inl rfl) rfl dX9_take_30 ?_
          refine g_iload_n hC dX9_take_33 rfl 3 rfl ?_
          refine g_aald hC 5 rfl (hx0.Mp rfl).1 (hx0.Mp rfl).2 (qj) rfl (show qj < 10 by omega) (by decide) dX9_take_34 ?_
          refine g_val (w := .ref (b.1 4 (wh S qj))) (congrArg va_rf hp0_q) ?_
          refine g_S (As := [.ref (b.1 4 (wh S qj))]) (st := []) hC 1 dX9_take_35 gX9_take_X9_asRows rfl (by decide +kernel) ⟨Nat.le_of_ble_eq_true rfl, Nat.le_of_ble_eq_true rfl⟩ rfl (Nat.le_of_ble_eq_true rfl) ⟨Nat.le_of_ble_eq_true rfl, Nat.le_of_ble_eq_true rfl⟩ (c2 := 0) (s2 := 0) rfl rfl (x_asRows (some (b.1 4 (wh S qj))) 3 (Or.inr ⟨_, 3, _, rfl, (hx0.W hw_q rfl), Or.inr (Or.inr (Or.inl ⟨rfl, rfl⟩))⟩)) ?_
          refine g_astore (lv' := [(5, .ref (b.1 4 (wh S qj))), (4, .int (nI 3)), (0, .ref M), (1, .int (nI pj)), (2, .int (nI qj)), (3, .int i)]) hC dX9_take_38 (by decide) rfl (Or.inr ⟨_, rfl⟩) ?_
          refine g_iload hC dX9_take_40 1 rfl ?_
          refine g_ifN_ne (a := 3) (tgt := 50) hC dX9_take_42 (by decide) (by omega) (fun h42 => ?_) (fun h42 => ?_)
          · refine g_aload_n hC dX9_take_50 rfl 2 rfl (Or.inr ⟨_, rfl⟩) ?_
            refine g_iload hC dX9_take_51 1 rfl ?_
            refine g_Vx (As := [.int (nI 3)]) (st := []) hC 1 dX9_take_53 rfl (hx0.M hM).1 (hx0.M hM).2 gX9_take_X9_failed rfl (by decide +kernel) ⟨Nat.le_of_ble_eq_true rfl, Nat.le_of_ble_eq_true rfl⟩ rfl (Nat.le_of_ble_eq_true rfl) ⟨(Nat.le_of_ble_eq_true rfl), (Nat.le_of_ble_eq_true rfl)⟩ (c2 := 0) (s2 := 0) rfl rfl (x_failed hx0 M hM 3) (fun v1 L1 f1 hp1 => ?_)
            obtain ⟨rfl, hx1⟩ := hp1
            show gW X vwCl 7 L1 f1 0 0 56 [(5, .ref (b.1 4 (wh S qj))), (4, .int (nI 3)), (0, .ref M), (1, .int (nI pj)), (2, .int (nI qj)), (3, .int i)] [.int (fA 3)]
            have hc_q : castF S qj 3 = 0 := by unfold castF isO; rw [hk_q] <;> decide
            have hlg_q : longS S qj = S.2.1 11 (wh S qj) := by unfold longS; rw [hk_q] <;> rfl
            have hE : s_take S (nI pj) (nI qj) i = (fA 3, (aSc (thS S) 1 3)) := by
              unfold s_take
              rw [if_pos h4, if_pos h11, hpl_q, hc_q, if_neg (show ¬ 0 < 0 by decide), hlg_q, if_neg hR_i] <;> rfl
            exact g_iret hC hR dX9_take_56 ⟨b, congrArg (fun z => some (Value.int (Prod.fst z))) hE.symm, by rw [hE]; exact hx1, xG.rf⟩
          · exfalso; omega
      · have hw_q : wh S qj < S.1 13 := hI.wt hqj (by omega)
        have hb_q : S.2.1 14 (wh S qj) = 0 := by have := ((hI.2.1 _ hqj).2.2.2.2.2 (by omega)).2; omega
        have hp0_q : plcF (thS S) b qj = some (b.1 6 (wh S qj)) := plc_k hqj hk_q (by decide)
        refine g_aald hC 5 rfl (hx0.Mp rfl).1 (hx0.Mp rfl).2 (qj) rfl (show qj < 10 by omega) (by decide) dX9_take_21 ?_
        refine g_val (w := .ref (b.1 6 (wh S qj))) (congrArg va_rf hp0_q) ?_
        refine g_iconst hC dX9_take_22 (v := nI 3) (by decide) ?_
        refine g_iload_n hC dX9_take_23 rfl 3 rfl ?_
        refine g_S (As := [.ref (b.1 6 (wh S qj)), .int (nI 3), .int i]) (st := []) hC 3 dX9_take_24 gX9_take_X9_cellFault rfl (by decide +kernel) ⟨Nat.le_of_ble_eq_true rfl, Nat.le_of_ble_eq_true rfl⟩ rfl (Nat.le_of_ble_eq_true rfl) ⟨Nat.le_of_ble_eq_true rfl, Nat.le_of_ble_eq_true rfl⟩ (c2 := 0) (s2 := 0) rfl rfl (x_cellFault_T _ _ (hx0.T hw_q rfl hb_q) 3 (by decide) _) ?_
        refine g_istore (lv' := [(4, .int (nI 2)), (0, .ref M), (1, .int (nI pj)), (2, .int (nI qj)), (3, .int i)]) hC dX9_take_27 (by decide) rfl ?_
        refine g_aload_n hC dX9_take_29 rfl 1 rfl (Or.inr ⟨_, rfl⟩) ?_
        refine g_get hC (by decide +kernel) rfl (hx0.M hM).1 (hx0.M hM).2 0 (by decide) (by decide +kernel) (Or.inl rfl) rfl dX9_take_30 ?_
        refine g_iload_n hC dX9_take_33 rfl 3 rfl ?_
        refine g_aald hC 5 rfl (hx0.Mp rfl).1 (hx0.Mp rfl).2 (qj) rfl (show qj < 10 by omega) (by decide) dX9_take_34 ?_
        refine g_val (w := .ref (b.1 6 (wh S qj))) (congrArg va_rf hp0_q) ?_
        refine g_S (As := [.ref (b.1 6 (wh S qj))]) (st := []) hC 1 dX9_take_35 gX9_take_X9_asRows rfl (by decide +kernel) ⟨Nat.le_of_ble_eq_true rfl, Nat.le_of_ble_eq_true rfl⟩ rfl (Nat.le_of_ble_eq_true rfl) ⟨Nat.le_of_ble_eq_true rfl, Nat.le_of_ble_eq_true rfl⟩ (c2 := 0) (s2 := 0) rfl rfl (x_asRows (some (b.1 6 (wh S qj))) 4 (Or.inr ⟨_, 5, _, rfl, (hx0.T hw_q rfl hb_q), Or.inr (Or.inr (Or.inr (Or.inl ⟨rfl, rfl⟩)))⟩)) ?_
        refine g_astore (lv' := [(5, .null), (4, .int (nI 2)), (0, .ref M), (1, .int (nI pj)), (2, .int (nI qj)), (3, .int i)]) hC dX9_take_38 (by decide) rfl (Or.inl rfl) ?_
        refine g_iload hC dX9_take_40 1 rfl ?_
        refine g_ifN_ne (a := 2) (tgt := 50) hC dX9_take_42 (by decide) (by omega) (fun h42 => ?_) (fun h42 => ?_)
        · refine g_aload_n hC dX9_take_50 rfl 2 rfl (Or.inr ⟨_, rfl⟩) ?_
          refine g_iload hC dX9_take_51 1 rfl ?_
          refine g_Vx (As := [.int (nI 2)]) (st := []) hC 1 dX9_take_53 rfl (hx0.M hM).1 (hx0.M hM).2 gX9_take_X9_failed rfl (by decide +kernel) ⟨Nat.le_of_ble_eq_true rfl, Nat.le_of_ble_eq_true rfl⟩ rfl (Nat.le_of_ble_eq_true rfl) ⟨(Nat.le_of_ble_eq_true rfl), (Nat.le_of_ble_eq_true rfl)⟩ (c2 := 0) (s2 := 0) rfl rfl (x_failed hx0 M hM 2) (fun v1 L1 f1 hp1 => ?_)
          obtain ⟨rfl, hx1⟩ := hp1
          show gW X vwCl 7 L1 f1 0 0 56 [(5, .null), (4, .int (nI 2)), (0, .ref M), (1, .int (nI pj)), (2, .int (nI qj)), (3, .int i)] [.int (fA 2)]
          have hc_q : castF S qj 3 = 2 := by unfold castF isO; rw [hk_q] <;> decide
          have hE : s_take S (nI pj) (nI qj) i = (fA 2, (aSc (thS S) 1 2)) := by
            unfold s_take
            rw [if_pos h4, if_pos h11, hpl_q, hc_q, if_pos (show 0 < 2 by decide)] <;> rfl
          exact g_iret hC hR dX9_take_56 ⟨b, congrArg (fun z => some (Value.int (Prod.fst z))) hE.symm, by rw [hE]; exact hx1, xG.rf⟩
        · exfalso; omega
      · have hw_q : wh S qj < S.1 13 := hI.wt hqj (by omega)
        have hb_q : S.2.1 14 (wh S qj) ≠ 0 := by have := ((hI.2.1 _ hqj).2.2.2.2.2 (by omega)).2; omega
        have hp0_q : plcF (thS S) b qj = some (b.1 6 (wh S qj)) := plc_k hqj hk_q (by decide)
        refine g_aald hC 5 rfl (hx0.Mp rfl).1 (hx0.Mp rfl).2 (qj) rfl (show qj < 10 by omega) (by decide) dX9_take_21 ?_
        refine g_val (w := .ref (b.1 6 (wh S qj))) (congrArg va_rf hp0_q) ?_
        refine g_iconst hC dX9_take_22 (v := nI 3) (by decide) ?_
        refine g_iload_n hC dX9_take_23 rfl 3 rfl ?_
        refine g_S (As := [.ref (b.1 6 (wh S qj)), .int (nI 3), .int i]) (st := []) hC 3 dX9_take_24 gX9_take_X9_cellFault rfl (by decide +kernel) ⟨Nat.le_of_ble_eq_true rfl, Nat.le_of_ble_eq_true rfl⟩ rfl (Nat.le_of_ble_eq_true rfl) ⟨Nat.le_of_ble_eq_true rfl, Nat.le_of_ble_eq_true rfl⟩ (c2 := 0) (s2 := 0) rfl rfl (x_cellFault_K _ _ (hx0.K hw_q rfl hb_q) 3 (by decide) _) ?_
        refine g_istore (lv' := [(4, .int (nI 2)), (0, .ref M), (1, .int (nI pj)), (2, .int (nI qj)), (3, .int i)]) hC dX9_take_27 (by decide) rfl ?_
        refine g_aload_n hC dX9_take_29 rfl 1 rfl (Or.inr ⟨_, rfl⟩) ?_
        refine g_get hC (by decide +kernel) rfl (hx0.M hM).1 (hx0.M hM).2 0 (by decide) (by decide +kernel) (Or.inl rfl) rfl dX9_take_30 ?_
        refine g_iload_n hC dX9_take_33 rfl 3 rfl ?_
        refine g_aald hC 5 rfl (hx0.Mp rfl).1 (hx0.Mp rfl).2 (qj) rfl (show qj < 10 by omega) (by decide) dX9_take_34 ?_
        refine g_val (w := .ref (b.1 6 (wh S qj))) (congrArg va_rf hp0_q) ?_
        refine g_S (As := [.ref (b.1 6 (wh S qj))]) (st := []) hC 1 dX9_take_35 gX9_take_X9_asRows rfl (by decide +kernel) ⟨Nat.le_of_ble_eq_true rfl, Nat.le_of_ble_eq_true rfl⟩ rfl (Nat.le_of_ble_eq_true rfl) ⟨Nat.le_of_ble_eq_true rfl, Nat.le_of_ble_eq_true rfl⟩ (c2 := 0) (s2 := 0) rfl rfl (x_asRows (some (b.1 6 (wh S qj))) 5 (Or.inr ⟨_, 1, _, rfl, (hx0.K hw_q rfl hb_q), Or.inr (Or.inr (Or.inr (Or.inr ⟨rfl, rfl⟩)))⟩)) ?_
        refine g_astore (lv' := [(5, .null), (4, .int (nI 2)), (0, .ref M), (1, .int (nI pj)), (2, .int (nI qj)), (3, .int i)]) hC dX9_take_38 (by decide) rfl (Or.inl rfl) ?_
        refine g_iload hC dX9_take_40 1 rfl ?_
        refine g_ifN_ne (a := 2) (tgt := 50) hC dX9_take_42 (by decide) (by omega) (fun h42 => ?_) (fun h42 => ?_)
        · refine g_aload_n hC dX9_take_50 rfl 2 rfl (Or.inr ⟨_, rfl⟩) ?_
          refine g_iload hC dX9_take_51 1 rfl ?_
          refine g_Vx (As := [.int (nI 2)]) (st := []) hC 1 dX9_take_53 rfl (hx0.M hM).1 (hx0.M hM).2 gX9_take_X9_failed rfl (by decide +kernel) ⟨Nat.le_of_ble_eq_true rfl, Nat.le_of_ble_eq_true rfl⟩ rfl (Nat.le_of_ble_eq_true rfl) ⟨(Nat.le_of_ble_eq_true rfl), (Nat.le_of_ble_eq_true rfl)⟩ (c2 := 0) (s2 := 0) rfl rfl (x_failed hx0 M hM 2) (fun v1 L1 f1 hp1 => ?_)
          obtain ⟨rfl, hx1⟩ := hp1
          show gW X vwCl 7 L1 f1 0 0 56 [(5, .null), (4, .int (nI 2)), (0, .ref M), (1, .int (nI pj)), (2, .int (nI qj)), (3, .int i)] [.int (fA 2)]
          have hc_q : castF S qj 3 = 2 := by unfold castF isO; rw [hk_q] <;> decide
          have hE : s_take S (nI pj) (nI qj) i = (fA 2, (aSc (thS S) 1 2)) := by
            unfold s_take
            rw [if_pos h4, if_pos h11, hpl_q, hc_q, if_pos (show 0 < 2 by decide)] <;> rfl
          exact g_iret hC hR dX9_take_56 ⟨b, congrArg (fun z => some (Value.int (Prod.fst z))) hE.symm, by rw [hE]; exact hx1, xG.rf⟩
        · exfalso; omega
    · refine g_iconst hC dX9_take_14 (v := (-1)) (by decide) ?_
      have hE : s_take S (nI pj) q i = ((-1), (thS S)) := by
        unfold s_take
        rw [if_pos h4, if_neg h11] <;> rfl
      exact g_iret hC hR dX9_take_15 ⟨b, congrArg (fun z => some (Value.int (Prod.fst z))) hE.symm, by rw [hE]; exact hx0, xG.rf⟩
set_option maxRecDepth 20000 in
set_option maxHeartbeats 4000000 in
theorem y_cell {S : aS} {b : xB} (hx : xR cy S b L f) (hI : aI S) (M : Nat) (hM : b.1 9 0 = M) (p i j : Int32) : gCt l D vwCl (gKK D cy adK adV) yX9_cell wsX9_cell { frames := 5, cells := 0, slots := 0, locals := 106 } [.ref M, .int p, .int i, .int j] L f (xP cy S b (s_cell S p i j).2 (fun _ => some (.long (s_cell S p i j).1))) := by
  refine gCt.of gKK_ok (by decide) rfl rfl (fun X hC hR hnm => ?_)
  have hC : gC X l _ D vwCl (cyT cy) (gKK D cy adK adV) cX9_cell 7 wsX9_cell RX9 := hC
  have hx0 := hx.th0
  have hI0 := hI.th
  show gW X vwCl 7 L f 0 0 0 [(0, .ref M), (1, .int p), (2, .int i), (3, .int j)] []
  refine g_iload_n hC dX9_cell_0 rfl 1 rfl ?_
  refine g_S (As := [.int p]) (st := []) hC 1 dX9_cell_1 gX9_cell_X9_isPlace rfl (by decide +kernel) ⟨Nat.le_of_ble_eq_true rfl, Nat.le_of_ble_eq_true rfl⟩ rfl (Nat.le_of_ble_eq_true rfl) ⟨Nat.le_of_ble_eq_true rfl, Nat.le_of_ble_eq_true rfl⟩ (c2 := 0) (s2 := 0) rfl rfl (x_isPlace _) ?_
  refine g_ifB_ne (P := isP p) (tgt := 11) hC dX9_cell_4 (by decide) (fun h4 => ?_) (fun h4 => ?_)
  · obtain ⟨pj, hpj, rfl⟩ := isP_j h4
    have hpl_p : pl (nI pj) = pj := nI_clamp (by omega)
    refine g_aload_n hC dX9_cell_11 rfl 0 rfl (Or.inr ⟨_, rfl⟩) ?_
    refine g_get hC (by decide +kernel) rfl (hx0.M hM).1 (hx0.M hM).2 0 (by decide) (by decide +kernel) (Or.inl rfl) rfl dX9_cell_12 ?_
    refine g_iload_n hC dX9_cell_15 rfl 1 rfl ?_
    have h5_p := hI.k5 hpj
    rcases (show kd S pj = 0 ∨ kd S pj = 1 ∨ kd S pj = 2 ∨ kd S pj = 3 ∨ kd S pj = 4 ∨ kd S pj = 5 by omega) with hk_p | hk_p | hk_p | hk_p | hk_p | hk_p
    · have hp0_p : plcF (thS S) b pj = none := plc_0 hpj hk_p
      refine g_aald hC 5 rfl (hx0.Mp rfl).1 (hx0.Mp rfl).2 (pj) rfl (show pj < 10 by omega) (by decide) dX9_cell_16 ?_
      refine g_val (w := .null) (congrArg va_rf hp0_p) ?_
      refine g_iconst hC dX9_cell_17 (v := nI 3) (by decide) ?_
      refine g_iload_n hC dX9_cell_18 rfl 2 rfl ?_
      refine g_S (As := [.null, .int (nI 3), .int i]) (st := []) hC 3 dX9_cell_19 gX9_cell_X9_cellFault rfl (by decide +kernel) ⟨Nat.le_of_ble_eq_true rfl, Nat.le_of_ble_eq_true rfl⟩ rfl (Nat.le_of_ble_eq_true rfl) ⟨Nat.le_of_ble_eq_true rfl, Nat.le_of_ble_eq_true rfl⟩ (c2 := 0) (s2 := 0) rfl rfl (x_cellFault_0 3 (by decide) _) ?_
      refine g_istore (lv' := [(4, .int (nI 1)), (0, .ref M), (1, .int (nI pj)), (2, .int i), (3, .int j)]) hC dX9_cell_22 (by decide) rfl ?_
      refine g_aload_n hC dX9_cell_24 rfl 1 rfl (Or.inr ⟨_, rfl⟩) ?_
      refine g_get hC (by decide +kernel) rfl (hx0.M hM).1 (hx0.M hM).2 0 (by decide) (by decide +kernel) (Or.inl rfl) rfl dX9_cell_25 ?_
      refine g_iload_n hC dX9_cell_28 rfl 2 rfl ?_
      refine g_aald hC 5 rfl (hx0.Mp rfl).1 (hx0.Mp rfl).2 (pj) rfl (show pj < 10 by omega) (by decide) dX9_cell_29 ?_
      refine g_val (w := .null) (congrArg va_rf hp0_p) ?_
      refine g_S (As := [.null]) (st := []) hC 1 dX9_cell_30 gX9_cell_X9_asRows rfl (by decide +kernel) ⟨Nat.le_of_ble_eq_true rfl, Nat.le_of_ble_eq_true rfl⟩ rfl (Nat.le_of_ble_eq_true rfl) ⟨Nat.le_of_ble_eq_true rfl, Nat.le_of_ble_eq_true rfl⟩ (c2 := 0) (s2 := 0) rfl rfl (x_asRows none 0 (Or.inl ⟨rfl, rfl⟩)) ?_
      refine g_astore (lv' := [(5, .null), (4, .int (nI 1)), (0, .ref M), (1, .int (nI pj)), (2, .int i), (3, .int j)]) hC dX9_cell_33 (by decide) rfl (Or.inl rfl) ?_
      refine g_iload hC dX9_cell_35 1 rfl ?_
      refine g_ifN_ne (a := 1) (tgt := 45) hC dX9_cell_37 (by decide) (by omega) (fun h37 => ?_) (fun h37 => ?_)
      · refine g_aload_n hC dX9_cell_45 rfl 2 rfl (Or.inr ⟨_, rfl⟩) ?_
        refine g_iload hC dX9_cell_46 1 rfl ?_
        refine g_Vx (As := [.int (nI 1)]) (st := []) hC 1 dX9_cell_48 rfl (hx0.M hM).1 (hx0.M hM).2 gX9_cell_X9_failedLong rfl (by decide +kernel) ⟨Nat.le_of_ble_eq_true rfl, Nat.le_of_ble_eq_true rfl⟩ rfl (Nat.le_of_ble_eq_true rfl) ⟨(Nat.le_of_ble_eq_true rfl), (Nat.le_of_ble_eq_true rfl)⟩ (c2 := 0) (s2 := 0) rfl rfl (x_failedLong hx0 M hM 1) (fun v1 L1 f1 hp1 => ?_)
        obtain ⟨rfl, hx1⟩ := hp1
        show gW X vwCl 7 L1 f1 0 0 51 [(5, .null), (4, .int (nI 1)), (0, .ref M), (1, .int (nI pj)), (2, .int i), (3, .int j)] [.long noL]
        have hc_p : castF S pj 3 = 1 := by unfold castF isO; rw [hk_p] <;> decide
        have hE : s_cell S (nI pj) i j = (noL, (aSc (thS S) 1 1)) := by
          unfold s_cell
          rw [if_pos h4, hpl_p, hc_p, if_pos (show 0 < 1 by decide)] <;> rfl
        exact g_lret hC hR dX9_cell_51 ⟨b, congrArg (fun z => some (Value.long (Prod.fst z))) hE.symm, by rw [hE]; exact hx1, xG.rf⟩
      · exfalso; omega
    · have hw_p : wh S pj < S.1 4 := hI.wl hpj hk_p
      have hp0_p : plcF (thS S) b pj = some (b.1 0 (wh S pj)) := plc_k hpj hk_p (by decide)
      refine g_aald hC 5 rfl (hx0.Mp rfl).1 (hx0.Mp rfl).2 (pj) rfl (show pj < 10 by omega) (by decide) dX9_cell_16 ?_
      refine g_val (w := .ref (b.1 0 (wh S pj))) (congrArg va_rf hp0_p) ?_
      refine g_iconst hC dX9_cell_17 (v := nI 3) (by decide) ?_
      refine g_iload_n hC dX9_cell_18 rfl 2 rfl ?_
      refine g_S (As := [.ref (b.1 0 (wh S pj)), .int (nI 3), .int i]) (st := []) hC 3 dX9_cell_19 gX9_cell_X9_cellFault rfl (by decide +kernel) ⟨Nat.le_of_ble_eq_true rfl, Nat.le_of_ble_eq_true rfl⟩ rfl (Nat.le_of_ble_eq_true rfl) ⟨Nat.le_of_ble_eq_true rfl, Nat.le_of_ble_eq_true rfl⟩ (c2 := 0) (s2 := 0) rfl rfl (x_cellFault_B _ _ _ _ (hx0.isB hw_p rfl (hI.bl hw_p)) 3 (by decide) _) ?_
      refine g_istore (lv' := [(4, .int (nI 2)), (0, .ref M), (1, .int (nI pj)), (2, .int i), (3, .int j)]) hC dX9_cell_22 (by decide) rfl ?_
      refine g_aload_n hC dX9_cell_24 rfl 1 rfl (Or.inr ⟨_, rfl⟩) ?_
      refine g_get hC (by decide +kernel) rfl (hx0.M hM).1 (hx0.M hM).2 0 (by decide) (by decide +kernel) (Or.inl rfl) rfl dX9_cell_25 ?_
      refine g_iload_n hC dX9_cell_28 rfl 2 rfl ?_
      refine g_aald hC 5 rfl (hx0.Mp rfl).1 (hx0.Mp rfl).2 (pj) rfl (show pj < 10 by omega) (by decide) dX9_cell_29 ?_
      refine g_val (w := .ref (b.1 0 (wh S pj))) (congrArg va_rf hp0_p) ?_
      refine g_S (As := [.ref (b.1 0 (wh S pj))]) (st := []) hC 1 dX9_cell_30 gX9_cell_X9_asRows rfl (by decide +kernel) ⟨Nat.le_of_ble_eq_true rfl, Nat.le_of_ble_eq_true rfl⟩ rfl (Nat.le_of_ble_eq_true rfl) ⟨Nat.le_of_ble_eq_true rfl, Nat.le_of_ble_eq_true rfl⟩ (c2 := 0) (s2 := 0) rfl rfl (x_asRows (some (b.1 0 (wh S pj))) 1 (Or.inr ⟨_, 0, _, rfl, (hx0.B hw_p rfl), Or.inl ⟨rfl, rfl⟩⟩)) ?_
      refine g_astore (lv' := [(5, .null), (4, .int (nI 2)), (0, .ref M), (1, .int (nI pj)), (2, .int i), (3, .int j)]) hC dX9_cell_33 (by decide) rfl (Or.inl rfl) ?_
      refine g_iload hC dX9_cell_35 1 rfl ?_
      refine g_ifN_ne (a := 2) (tgt := 45) hC dX9_cell_37 (by decide) (by omega) (fun h37 => ?_) (fun h37 => ?_)
      · refine g_aload_n hC dX9_cell_45 rfl 2 rfl (Or.inr ⟨_, rfl⟩) ?_
        refine g_iload hC dX9_cell_46 1 rfl ?_
        refine g_Vx (As := [.int (nI 2)]) (st := []) hC 1 dX9_cell_48 rfl (hx0.M hM).1 (hx0.M hM).2 gX9_cell_X9_failedLong rfl (by decide +kernel) ⟨Nat.le_of_ble_eq_true rfl, Nat.le_of_ble_eq_true rfl⟩ rfl (Nat.le_of_ble_eq_true rfl) ⟨(Nat.le_of_ble_eq_true rfl), (Nat.le_of_ble_eq_true rfl)⟩ (c2 := 0) (s2 := 0) rfl rfl (x_failedLong hx0 M hM 2) (fun v1 L1 f1 hp1 => ?_)
        obtain ⟨rfl, hx1⟩ := hp1
        show gW X vwCl 7 L1 f1 0 0 51 [(5, .null), (4, .int (nI 2)), (0, .ref M), (1, .int (nI pj)), (2, .int i), (3, .int j)] [.long noL]
        have hc_p : castF S pj 3 = 2 := by unfold castF isO; rw [hk_p] <;> decide
        have hE : s_cell S (nI pj) i j = (noL, (aSc (thS S) 1 2)) := by
          unfold s_cell
          rw [if_pos h4, hpl_p, hc_p, if_pos (show 0 < 2 by decide)] <;> rfl
        exact g_lret hC hR dX9_cell_51 ⟨b, congrArg (fun z => some (Value.long (Prod.fst z))) hE.symm, by rw [hE]; exact hx1, xG.rf⟩
      · exfalso; omega
    · have hw_p : wh S pj < S.1 7 := hI.ws hpj hk_p
      have hp0_p : plcF (thS S) b pj = some (b.1 2 (wh S pj)) := plc_k hpj hk_p (by decide)
      refine g_aald hC 5 rfl (hx0.Mp rfl).1 (hx0.Mp rfl).2 (pj) rfl (show pj < 10 by omega) (by decide) dX9_cell_16 ?_
      refine g_val (w := .ref (b.1 2 (wh S pj))) (congrArg va_rf hp0_p) ?_
      refine g_iconst hC dX9_cell_17 (v := nI 3) (by decide) ?_
      refine g_iload_n hC dX9_cell_18 rfl 2 rfl ?_
      refine g_S (As := [.ref (b.1 2 (wh S pj)), .int (nI 3), .int i]) (st := []) hC 3 dX9_cell_19 gX9_cell_X9_cellFault rfl (by decide +kernel) ⟨Nat.le_of_ble_eq_true rfl, Nat.le_of_ble_eq_true rfl⟩ rfl (Nat.le_of_ble_eq_true rfl) ⟨Nat.le_of_ble_eq_true rfl, Nat.le_of_ble_eq_true rfl⟩ (c2 := 0) (s2 := 0) rfl rfl (x_cellFault_S _ _ _ _ (hx0.isS hw_p rfl (hI.2.2.2.1 _ hw_p)) 3 (by decide) _) ?_
      refine g_istore (lv' := [(4, .int (nI 2)), (0, .ref M), (1, .int (nI pj)), (2, .int i), (3, .int j)]) hC dX9_cell_22 (by decide) rfl ?_
      refine g_aload_n hC dX9_cell_24 rfl 1 rfl (Or.inr ⟨_, rfl⟩) ?_
      refine g_get hC (by decide +kernel) rfl (hx0.M hM).1 (hx0.M hM).2 0 (by decide) (by decide +kernel) (Or.inl rfl) rfl dX9_cell_25 ?_
      refine g_iload_n hC dX9_cell_28 rfl 2 rfl ?_
      refine g_aald hC 5 rfl (hx0.Mp rfl).1 (hx0.Mp rfl).2 (pj) rfl (show pj < 10 by omega) (by decide) dX9_cell_29 ?_
      refine g_val (w := .ref (b.1 2 (wh S pj))) (congrArg va_rf hp0_p) ?_
      refine g_S (As := [.ref (b.1 2 (wh S pj))]) (st := []) hC 1 dX9_cell_30 gX9_cell_X9_asRows rfl (by decide +kernel) ⟨Nat.le_of_ble_eq_true rfl, Nat.le_of_ble_eq_true rfl⟩ rfl (Nat.le_of_ble_eq_true rfl) ⟨Nat.le_of_ble_eq_true rfl, Nat.le_of_ble_eq_true rfl⟩ (c2 := 0) (s2 := 0) rfl rfl (x_asRows (some (b.1 2 (wh S pj))) 2 (Or.inr ⟨_, 4, _, rfl, (hx0.G hw_p rfl), Or.inr (Or.inl ⟨rfl, rfl⟩)⟩)) ?_
      refine g_astore (lv' := [(5, .null), (4, .int (nI 2)), (0, .ref M), (1, .int (nI pj)), (2, .int i), (3, .int j)]) hC dX9_cell_33 (by decide) rfl (Or.inl rfl) ?_
      refine g_iload hC dX9_cell_35 1 rfl ?_
      refine g_ifN_ne (a := 2) (tgt := 45) hC dX9_cell_37 (by decide) (by omega) (fun h37 => ?_) (fun h37 => ?_)
      · refine g_aload_n hC dX9_cell_45 rfl 2 rfl (Or.inr ⟨_, rfl⟩) ?_
        refine g_iload hC dX9_cell_46 1 rfl ?_
        refine g_Vx (As := [.int (nI 2)]) (st := []) hC 1 dX9_cell_48 rfl (hx0.M hM).1 (hx0.M hM).2 gX9_cell_X9_failedLong rfl (by decide +kernel) ⟨Nat.le_of_ble_eq_true rfl, Nat.le_of_ble_eq_true rfl⟩ rfl (Nat.le_of_ble_eq_true rfl) ⟨(Nat.le_of_ble_eq_true rfl), (Nat.le_of_ble_eq_true rfl)⟩ (c2 := 0) (s2 := 0) rfl rfl (x_failedLong hx0 M hM 2) (fun v1 L1 f1 hp1 => ?_)
        obtain ⟨rfl, hx1⟩ := hp1
        show gW X vwCl 7 L1 f1 0 0 51 [(5, .null), (4, .int (nI 2)), (0, .ref M), (1, .int (nI pj)), (2, .int i), (3, .int j)] [.long noL]
        have hc_p : castF S pj 3 = 2 := by unfold castF isO; rw [hk_p] <;> decide
        have hE : s_cell S (nI pj) i j = (noL, (aSc (thS S) 1 2)) := by
          unfold s_cell
          rw [if_pos h4, hpl_p, hc_p, if_pos (show 0 < 2 by decide)] <;> rfl
        exact g_lret hC hR dX9_cell_51 ⟨b, congrArg (fun z => some (Value.long (Prod.fst z))) hE.symm, by rw [hE]; exact hx1, xG.rf⟩
      · exfalso; omega
    · have hw_p : wh S pj < S.1 10 := hI.wr hpj hk_p
      have hp0_p : plcF (thS S) b pj = some (b.1 4 (wh S pj)) := plc_k hpj hk_p (by decide)
      refine g_aald hC 5 rfl (hx0.Mp rfl).1 (hx0.Mp rfl).2 (pj) rfl (show pj < 10 by omega) (by decide) dX9_cell_16 ?_
      refine g_val (w := .ref (b.1 4 (wh S pj))) (congrArg va_rf hp0_p) ?_
      refine g_iconst hC dX9_cell_17 (v := nI 3) (by decide) ?_
      refine g_iload_n hC dX9_cell_18 rfl 2 rfl ?_
      refine g_S (As := [.ref (b.1 4 (wh S pj)), .int (nI 3), .int i]) (st := []) hC 3 dX9_cell_19 gX9_cell_X9_cellFault rfl (by decide +kernel) ⟨Nat.le_of_ble_eq_true rfl, Nat.le_of_ble_eq_true rfl⟩ rfl (Nat.le_of_ble_eq_true rfl) ⟨Nat.le_of_ble_eq_true rfl, Nat.le_of_ble_eq_true rfl⟩ (c2 := 0) (s2 := 0) rfl rfl (x_cellFault_R _ _ _ _ (isR.B hx0 hw_p rfl (hI.2.2.2.2.1 _ hw_p)) 3 (by decide) _) ?_
      have hl9 := (hI.2.2.2.2.1 _ hw_p)
      by_cases hin : 0 ≤ i ∧ i < nI (S.2.1 11 (wh S pj))
      · have hR_i := (in_R (show S.2.1 11 (wh S pj) < 2 ^ 30 by omega)).mp hin
        refine g_val (w := .int (nI 0)) (congrArg Value.int (if_pos hin)) ?_
        obtain ⟨ij, hij, rfl⟩ := (in_j (show S.2.1 11 (wh S pj) < 2 ^ 30 by omega)).mp hin
        have hpl_i : pl (nI ij) = ij := nI_clamp (by omega)
        refine g_istore (lv' := [(4, .int (nI 0)), (0, .ref M), (1, .int (nI pj)), (2, .int (nI ij)), (3, .int j)]) hC dX9_cell_22 (by decide) rfl ?_
        refine g_aload_n hC dX9_cell_24 rfl 1 rfl (Or.inr ⟨_, rfl⟩) ?_
        refine g_get hC (by decide +kernel) rfl (hx0.M hM).1 (hx0.M hM).2 0 (by decide) (by decide +kernel) (Or.inl rfl) rfl dX9_cell_25 ?_
        refine g_iload_n hC dX9_cell_28 rfl 2 rfl ?_
        refine g_aald hC 5 rfl (hx0.Mp rfl).1 (hx0.Mp rfl).2 (pj) rfl (show pj < 10 by omega) (by decide) dX9_cell_29 ?_
        refine g_val (w := .ref (b.1 4 (wh S pj))) (congrArg va_rf hp0_p) ?_
        refine g_S (As := [.ref (b.1 4 (wh S pj))]) (st := []) hC 1 dX9_cell_30 gX9_cell_X9_asRows rfl (by decide +kernel) ⟨Nat.le_of_ble_eq_true rfl, Nat.le_of_ble_eq_true rfl⟩ rfl (Nat.le_of_ble_eq_true rfl) ⟨Nat.le_of_ble_eq_true rfl, Nat.le_of_ble_eq_true rfl⟩ (c2 := 0) (s2 := 0) rfl rfl (x_asRows (some (b.1 4 (wh S pj))) 3 (Or.inr ⟨_, 3, _, rfl, (hx0.W hw_p rfl), Or.inr (Or.inr (Or.inl ⟨rfl, rfl⟩))⟩)) ?_
        refine g_astore (lv' := [(5, .ref (b.1 4 (wh S pj))), (4, .int (nI 0)), (0, .ref M), (1, .int (nI pj)), (2, .int (nI ij)), (3, .int j)]) hC dX9_cell_33 (by decide) rfl (Or.inr ⟨_, rfl⟩) ?_
        refine g_iload hC dX9_cell_35 1 rfl ?_
        refine g_ifN_ne (a := 0) (tgt := 45) hC dX9_cell_37 (by decide) (by omega) (fun h37 => ?_) (fun h37 => ?_)
        · exfalso; omega
        · refine g_aload hC dX9_cell_40 0 rfl (Or.inr ⟨_, rfl⟩) ?_
          refine g_ifnonnull (o := some (b.1 4 (wh S pj))) (tgt := 52) hC dX9_cell_42 (by decide) (fun a42 h42 => ?_) (fun h42 => ?_)
          · refine g_aload hC dX9_cell_52 0 rfl (Or.inr ⟨_, rfl⟩) ?_
            refine g_getN hC (by decide +kernel) rfl (hx0.W hw_p rfl).1 (hx0.W hw_p rfl).2 0 (by decide) (gKK_F ("KeptTerms", 108, "KeptTerms$Rows", "cells", "[LKeptTerms$Bytes;") (by decide)) (Or.inl rfl) rfl dX9_cell_54 ?_
            refine g_iload_n hC dX9_cell_57 rfl 4 rfl ?_
            refine g_aald hC 4 rfl (hx0.Wc hw_p rfl).1 (hx0.Wc hw_p rfl).2 (ij) rfl (show ij < S.2.1 11 (wh S pj) by omega) (show S.2.1 11 (wh S pj) < 2 ^ 31 by omega) dX9_cell_58 ?_
            refine g_val (w := va_rf (rfo b (S.2.1 12 (16 * wh S pj + ij)))) (congrArg va_rf (if_pos (show ij < S.2.1 11 (wh S pj) by omega))) ?_
            have hcb := hI.rc hw_p (show ij < 16 by omega)
            by_cases hz : S.2.1 12 (16 * wh S pj + ij) = 0
            · refine g_val (w := .null) (congrArg va_rf (if_pos hz)) ?_
              refine g_astore (lv' := [(6, .null), (5, .ref (b.1 4 (wh S pj))), (4, .int (nI 0)), (0, .ref M), (1, .int (nI pj)), (2, .int (nI ij)), (3, .int j)]) hC dX9_cell_59 (by decide) rfl (Or.inl rfl) ?_
              refine g_aload hC dX9_cell_61 0 rfl (Or.inl rfl) ?_
              refine g_ifnonnull (o := none) (tgt := 72) hC dX9_cell_63 (by decide) (fun a63 h63 => ?_) (fun h63 => ?_)
              · cases h63
              · refine g_aload_n hC dX9_cell_66 rfl 3 rfl (Or.inr ⟨_, rfl⟩) ?_
                refine g_iconst hC dX9_cell_67 (v := nI 1) (by decide) ?_
                refine g_Vx (As := [.int (nI 1)]) (st := []) hC 1 dX9_cell_68 rfl (hx0.M hM).1 (hx0.M hM).2 gX9_cell_X9_failedLong rfl (by decide +kernel) ⟨Nat.le_of_ble_eq_true rfl, Nat.le_of_ble_eq_true rfl⟩ rfl (Nat.le_of_ble_eq_true rfl) ⟨(Nat.le_of_ble_eq_true rfl), (Nat.le_of_ble_eq_true rfl)⟩ (c2 := 0) (s2 := 0) rfl rfl (x_failedLong hx0 M hM 1) (fun v1 L1 f1 hp1 => ?_)
                obtain ⟨rfl, hx1⟩ := hp1
                show gW X vwCl 7 L1 f1 0 0 71 [(6, .null), (5, .ref (b.1 4 (wh S pj))), (4, .int (nI 0)), (0, .ref M), (1, .int (nI pj)), (2, .int (nI ij)), (3, .int j)] [.long noL]
                have hc_p : castF S pj 3 = 0 := by unfold castF isO; rw [hk_p] <;> decide
                have hlg_p : longS S pj = S.2.1 11 (wh S pj) := by unfold longS; rw [hk_p] <;> rfl
                have hE : s_cell S (nI pj) (nI ij) j = (noL, (aSc (thS S) 1 1)) := by
                  unfold s_cell
                  rw [if_pos h4, hpl_p, hc_p, if_neg (show ¬ 0 < 0 by decide), hlg_p, if_pos hR_i, hpl_i, if_pos hz] <;> rfl
                exact g_lret hC hR dX9_cell_71 ⟨b, congrArg (fun z => some (Value.long (Prod.fst z))) hE.symm, by rw [hE]; exact hx1, xG.rf⟩
            · refine g_val (w := .ref (b.1 0 (S.2.1 12 (16 * wh S pj + ij) - 1))) (congrArg va_rf (if_neg hz)) ?_
              have hw_x : S.2.1 12 (16 * wh S pj + ij) - 1 < S.1 4 := by omega
              refine g_astore (lv' := [(6, .ref (b.1 0 (S.2.1 12 (16 * wh S pj + ij) - 1))), (5, .ref (b.1 4 (wh S pj))), (4, .int (nI 0)), (0, .ref M), (1, .int (nI pj)), (2, .int (nI ij)), (3, .int j)]) hC dX9_cell_59 (by decide) rfl (Or.inr ⟨_, rfl⟩) ?_
              refine g_aload hC dX9_cell_61 0 rfl (Or.inr ⟨_, rfl⟩) ?_
              refine g_ifnonnull (o := some (b.1 0 (S.2.1 12 (16 * wh S pj + ij) - 1))) (tgt := 72) hC dX9_cell_63 (by decide) (fun a63 h63 => ?_) (fun h63 => ?_)
              · refine g_aload hC dX9_cell_72 0 rfl (Or.inr ⟨_, rfl⟩) ?_
                refine g_iload_n hC dX9_cell_74 rfl 6 rfl ?_
                refine g_U (As := [.int j]) (st := []) hC 1 dX9_cell_75 rfl (hx0.B hw_x rfl).1 (hx0.B hw_x rfl).2 gX9_cell_X4_hasCell_u121X0 rfl rfl (by decide +kernel) ⟨Nat.le_of_ble_eq_true rfl, Nat.le_of_ble_eq_true rfl⟩ rfl (Nat.le_of_ble_eq_true rfl) ⟨Nat.le_of_ble_eq_true rfl, Nat.le_of_ble_eq_true rfl⟩ (c2 := 0) (s2 := 0) rfl rfl (x_4_hasCell_B _ _ _ _ (hx0.isB hw_x rfl (hI.bl hw_x)) _) ?_
                refine g_ifB_eq (P := 0 ≤ j ∧ j < nI (S.2.1 5 (S.2.1 12 (16 * wh S pj + ij) - 1))) (tgt := 91) hC dX9_cell_78 (by decide) (fun h78 => ?_) (fun h78 => ?_)
                · have hl8 := hI.bl hw_x
                  have hR_j := fun z => h78 ((in_R (show S.2.1 5 (S.2.1 12 (16 * wh S pj + ij) - 1) < 2 ^ 30 by omega)).mpr z)
                  refine g_aload_n hC dX9_cell_91 rfl 3 rfl (Or.inr ⟨_, rfl⟩) ?_
                  refine g_iconst hC dX9_cell_92 (v := nI 3) (by decide) ?_
                  refine g_Vx (As := [.int (nI 3)]) (st := []) hC 1 dX9_cell_93 rfl (hx0.M hM).1 (hx0.M hM).2 gX9_cell_X9_failedLong rfl (by decide +kernel) ⟨Nat.le_of_ble_eq_true rfl, Nat.le_of_ble_eq_true rfl⟩ rfl (Nat.le_of_ble_eq_true rfl) ⟨(Nat.le_of_ble_eq_true rfl), (Nat.le_of_ble_eq_true rfl)⟩ (c2 := 0) (s2 := 0) rfl rfl (x_failedLong hx0 M hM 3) (fun v1 L1 f1 hp1 => ?_)
                  obtain ⟨rfl, hx1⟩ := hp1
                  show gW X vwCl 7 L1 f1 0 0 96 [(6, .ref (b.1 0 (S.2.1 12 (16 * wh S pj + ij) - 1))), (5, .ref (b.1 4 (wh S pj))), (4, .int (nI 0)), (0, .ref M), (1, .int (nI pj)), (2, .int (nI ij)), (3, .int j)] [.long noL]
                  have hc_p : castF S pj 3 = 0 := by unfold castF isO; rw [hk_p] <;> decide
                  have hlg_p : longS S pj = S.2.1 11 (wh S pj) := by unfold longS; rw [hk_p] <;> rfl
                  have hE : s_cell S (nI pj) (nI ij) j = (noL, (aSc (thS S) 1 3)) := by
                    unfold s_cell
                    rw [if_pos h4, hpl_p, hc_p, if_neg (show ¬ 0 < 0 by decide), hlg_p, if_pos hR_i, hpl_i, if_neg hz, if_neg hR_j] <;> rfl
                  exact g_lret hC hR dX9_cell_96 ⟨b, congrArg (fun z => some (Value.long (Prod.fst z))) hE.symm, by rw [hE]; exact hx1, xG.rf⟩
                · have hl8 := hI.bl hw_x
                  have hR_j := (in_R (show S.2.1 5 (S.2.1 12 (16 * wh S pj + ij) - 1) < 2 ^ 30 by omega)).mp h78
                  obtain ⟨jj, hjj, rfl⟩ := (in_j (show S.2.1 5 (S.2.1 12 (16 * wh S pj + ij) - 1) < 2 ^ 30 by omega)).mp h78
                  have hpl_j : pl (nI jj) = jj := nI_clamp (by omega)
                  refine g_aload hC dX9_cell_81 0 rfl (Or.inr ⟨_, rfl⟩) ?_
                  refine g_iload_n hC dX9_cell_83 rfl 6 rfl ?_
                  refine g_V (As := [.int (nI jj)]) (st := []) hC 1 dX9_cell_84 rfl (hx0.B hw_x rfl).1 (hx0.B hw_x rfl).2 gX9_cell_X0_number rfl (by decide +kernel) ⟨Nat.le_of_ble_eq_true rfl, Nat.le_of_ble_eq_true rfl⟩ rfl (Nat.le_of_ble_eq_true rfl) ⟨Nat.le_of_ble_eq_true rfl, Nat.le_of_ble_eq_true rfl⟩ (c2 := 0) (s2 := 0) rfl rfl (x_0_number _ _ _ _ jj (show jj < S.2.1 5 (S.2.1 12 (16 * wh S pj + ij) - 1) by omega) (hx0.isB hw_x rfl (hI.bl hw_x))) ?_
                  refine g_val (w := .int (S.2.2 6 (16 * (S.2.1 12 (16 * wh S pj + ij) - 1) + jj))) (congrArg Value.int (if_pos (show jj < S.2.1 5 (S.2.1 12 (16 * wh S pj + ij) - 1) by omega))) ?_
                  refine g_i2l hC dX9_cell_87 rfl ?_
                  refine g_goto (tgt := 96) hC dX9_cell_88 (by decide) ?_
                  have hc_p : castF S pj 3 = 0 := by unfold castF isO; rw [hk_p] <;> decide
                  have hlg_p : longS S pj = S.2.1 11 (wh S pj) := by unfold longS; rw [hk_p] <;> rfl
                  have hE : s_cell S (nI pj) (nI ij) (nI jj) = ((S.2.2 6 (16 * (S.2.1 12 (16 * wh S pj + ij) - 1) + jj)).toInt64, (thS S)) := by
                    unfold s_cell
                    rw [if_pos h4, hpl_p, hc_p, if_neg (show ¬ 0 < 0 by decide), hlg_p, if_pos hR_i, hpl_i, if_neg hz, if_pos hR_j, hpl_j] <;> rfl
                  exact g_lret hC hR dX9_cell_96 ⟨b, congrArg (fun z => some (Value.long (Prod.fst z))) hE.symm, by rw [hE]; exact hx0, xG.rf⟩
              · cases h63
          · cases h42
      · have hR_i := fun z => hin ((in_R (show S.2.1 11 (wh S pj) < 2 ^ 30 by omega)).mpr z)
        refine g_val (w := .int (nI 3)) (congrArg Value.int (if_neg hin)) ?_
        refine g_istore (lv' := [(4, .int (nI 3)), (0, .ref M), (1, .int (nI pj)), (2, .int i), (3, .int j)]) hC dX9_cell_22 (by decide) rfl ?_
        refine g_aload_n hC dX9_cell_24 rfl 1 rfl (Or.inr ⟨_, rfl⟩) ?_
        refine g_get hC (by decide +kernel) rfl (hx0.M hM).1 (hx0.M hM).2 0 (by decide) (by decide +kernel) (Or.inl rfl) rfl dX9_cell_25 ?_
        refine g_iload_n hC dX9_cell_28 rfl 2 rfl ?_
        refine g_aald hC 5 rfl (hx0.Mp rfl).1 (hx0.Mp rfl).2 (pj) rfl (show pj < 10 by omega) (by decide) dX9_cell_29 ?_
        refine g_val (w := .ref (b.1 4 (wh S pj))) (congrArg va_rf hp0_p) ?_
        refine g_S (As := [.ref (b.1 4 (wh S pj))]) (st := []) hC 1 dX9_cell_30 gX9_cell_X9_asRows rfl (by decide +kernel) ⟨Nat.le_of_ble_eq_true rfl, Nat.le_of_ble_eq_true rfl⟩ rfl (Nat.le_of_ble_eq_true rfl) ⟨Nat.le_of_ble_eq_true rfl, Nat.le_of_ble_eq_true rfl⟩ (c2 := 0) (s2 := 0) rfl rfl (x_asRows (some (b.1 4 (wh S pj))) 3 (Or.inr ⟨_, 3, _, rfl, (hx0.W hw_p rfl), Or.inr (Or.inr (Or.inl ⟨rfl, rfl⟩))⟩)) ?_
        refine g_astore (lv' := [(5, .ref (b.1 4 (wh S pj))), (4, .int (nI 3)), (0, .ref M), (1, .int (nI pj)), (2, .int i), (3, .int j)]) hC dX9_cell_33 (by decide) rfl (Or.inr ⟨_, rfl⟩) ?_
        refine g_iload hC dX9_cell_35 1 rfl ?_
        refine g_ifN_ne (a := 3) (tgt := 45) hC dX9_cell_37 (by decide) (by omega) (fun h37 => ?_) (fun h37 => ?_)
        · refine g_aload_n hC dX9_cell_45 rfl 2 rfl (Or.inr ⟨_, rfl⟩) ?_
          refine g_iload hC dX9_cell_46 1 rfl ?_
          refine g_Vx (As := [.int (nI 3)]) (st := []) hC 1 dX9_cell_48 rfl (hx0.M hM).1 (hx0.M hM).2 gX9_cell_X9_failedLong rfl (by decide +kernel) ⟨Nat.le_of_ble_eq_true rfl, Nat.le_of_ble_eq_true rfl⟩ rfl (Nat.le_of_ble_eq_true rfl) ⟨(Nat.le_of_ble_eq_true rfl), (Nat.le_of_ble_eq_true rfl)⟩ (c2 := 0) (s2 := 0) rfl rfl (x_failedLong hx0 M hM 3) (fun v1 L1 f1 hp1 => ?_)
          obtain ⟨rfl, hx1⟩ := hp1
          show gW X vwCl 7 L1 f1 0 0 51 [(5, .ref (b.1 4 (wh S pj))), (4, .int (nI 3)), (0, .ref M), (1, .int (nI pj)), (2, .int i), (3, .int j)] [.long noL]
          have hc_p : castF S pj 3 = 0 := by unfold castF isO; rw [hk_p] <;> decide
          have hlg_p : longS S pj = S.2.1 11 (wh S pj) := by unfold longS; rw [hk_p] <;> rfl
          have hE : s_cell S (nI pj) i j = (noL, (aSc (thS S) 1 3)) := by
            unfold s_cell
            rw [if_pos h4, hpl_p, hc_p, if_neg (show ¬ 0 < 0 by decide), hlg_p, if_neg hR_i] <;> rfl
          exact g_lret hC hR dX9_cell_51 ⟨b, congrArg (fun z => some (Value.long (Prod.fst z))) hE.symm, by rw [hE]; exact hx1, xG.rf⟩
        · exfalso; omega
    · have hw_p : wh S pj < S.1 13 := hI.wt hpj (by omega)
      have hb_p : S.2.1 14 (wh S pj) = 0 := by have := ((hI.2.1 _ hpj).2.2.2.2.2 (by omega)).2; omega
      have hp0_p : plcF (thS S) b pj = some (b.1 6 (wh S pj)) := plc_k hpj hk_p (by decide)
      refine g_aald hC 5 rfl (hx0.Mp rfl).1 (hx0.Mp rfl).2 (pj) rfl (show pj < 10 by omega) (by decide) dX9_cell_16 ?_
      refine g_val (w := .ref (b.1 6 (wh S pj))) (congrArg va_rf hp0_p) ?_
      refine g_iconst hC dX9_cell_17 (v := nI 3) (by decide) ?_
      refine g_iload_n hC dX9_cell_18 rfl 2 rfl ?_
      refine g_S (As := [.ref (b.1 6 (wh S pj)), .int (nI 3), .int i]) (st := []) hC 3 dX9_cell_19 gX9_cell_X9_cellFault rfl (by decide +kernel) ⟨Nat.le_of_ble_eq_true rfl, Nat.le_of_ble_eq_true rfl⟩ rfl (Nat.le_of_ble_eq_true rfl) ⟨Nat.le_of_ble_eq_true rfl, Nat.le_of_ble_eq_true rfl⟩ (c2 := 0) (s2 := 0) rfl rfl (x_cellFault_T _ _ (hx0.T hw_p rfl hb_p) 3 (by decide) _) ?_
      refine g_istore (lv' := [(4, .int (nI 2)), (0, .ref M), (1, .int (nI pj)), (2, .int i), (3, .int j)]) hC dX9_cell_22 (by decide) rfl ?_
      refine g_aload_n hC dX9_cell_24 rfl 1 rfl (Or.inr ⟨_, rfl⟩) ?_
      refine g_get hC (by decide +kernel) rfl (hx0.M hM).1 (hx0.M hM).2 0 (by decide) (by decide +kernel) (Or.inl rfl) rfl dX9_cell_25 ?_
      refine g_iload_n hC dX9_cell_28 rfl 2 rfl ?_
      refine g_aald hC 5 rfl (hx0.Mp rfl).1 (hx0.Mp rfl).2 (pj) rfl (show pj < 10 by omega) (by decide) dX9_cell_29 ?_
      refine g_val (w := .ref (b.1 6 (wh S pj))) (congrArg va_rf hp0_p) ?_
      refine g_S (As := [.ref (b.1 6 (wh S pj))]) (st := []) hC 1 dX9_cell_30 gX9_cell_X9_asRows rfl (by decide +kernel) ⟨Nat.le_of_ble_eq_true rfl, Nat.le_of_ble_eq_true rfl⟩ rfl (Nat.le_of_ble_eq_true rfl) ⟨Nat.le_of_ble_eq_true rfl, Nat.le_of_ble_eq_true rfl⟩ (c2 := 0) (s2 := 0) rfl rfl (x_asRows (some (b.1 6 (wh S pj))) 4 (Or.inr ⟨_, 5, _, rfl, (hx0.T hw_p rfl hb_p), Or.inr (Or.inr (Or.inr (Or.inl ⟨rfl, rfl⟩)))⟩)) ?_
      refine g_astore (lv' := [(5, .null), (4, .int (nI 2)), (0, .ref M), (1, .int (nI pj)), (2, .int i), (3, .int j)]) hC dX9_cell_33 (by decide) rfl (Or.inl rfl) ?_
      refine g_iload hC dX9_cell_35 1 rfl ?_
      refine g_ifN_ne (a := 2) (tgt := 45) hC dX9_cell_37 (by decide) (by omega) (fun h37 => ?_) (fun h37 => ?_)
      · refine g_aload_n hC dX9_cell_45 rfl 2 rfl (Or.inr ⟨_, rfl⟩) ?_
        refine g_iload hC dX9_cell_46 1 rfl ?_
        refine g_Vx (As := [.int (nI 2)]) (st := []) hC 1 dX9_cell_48 rfl (hx0.M hM).1 (hx0.M hM).2 gX9_cell_X9_failedLong rfl (by decide +kernel) ⟨Nat.le_of_ble_eq_true rfl, Nat.le_of_ble_eq_true rfl⟩ rfl (Nat.le_of_ble_eq_true rfl) ⟨(Nat.le_of_ble_eq_true rfl), (Nat.le_of_ble_eq_true rfl)⟩ (c2 := 0) (s2 := 0) rfl rfl (x_failedLong hx0 M hM 2) (fun v1 L1 f1 hp1 => ?_)
        obtain ⟨rfl, hx1⟩ := hp1
        show gW X vwCl 7 L1 f1 0 0 51 [(5, .null), (4, .int (nI 2)), (0, .ref M), (1, .int (nI pj)), (2, .int i), (3, .int j)] [.long noL]
        have hc_p : castF S pj 3 = 2 := by unfold castF isO; rw [hk_p] <;> decide
        have hE : s_cell S (nI pj) i j = (noL, (aSc (thS S) 1 2)) := by
          unfold s_cell
          rw [if_pos h4, hpl_p, hc_p, if_pos (show 0 < 2 by decide)] <;> rfl
        exact g_lret hC hR dX9_cell_51 ⟨b, congrArg (fun z => some (Value.long (Prod.fst z))) hE.symm, by rw [hE]; exact hx1, xG.rf⟩
      · exfalso; omega
    · have hw_p : wh S pj < S.1 13 := hI.wt hpj (by omega)
      have hb_p : S.2.1 14 (wh S pj) ≠ 0 := by have := ((hI.2.1 _ hpj).2.2.2.2.2 (by omega)).2; omega
      have hp0_p : plcF (thS S) b pj = some (b.1 6 (wh S pj)) := plc_k hpj hk_p (by decide)
      refine g_aald hC 5 rfl (hx0.Mp rfl).1 (hx0.Mp rfl).2 (pj) rfl (show pj < 10 by omega) (by decide) dX9_cell_16 ?_
      refine g_val (w := .ref (b.1 6 (wh S pj))) (congrArg va_rf hp0_p) ?_
      refine g_iconst hC dX9_cell_17 (v := nI 3) (by decide) ?_
      refine g_iload_n hC dX9_cell_18 rfl 2 rfl ?_
      refine g_S (As := [.ref (b.1 6 (wh S pj)), .int (nI 3), .int i]) (st := []) hC 3 dX9_cell_19 gX9_cell_X9_cellFault rfl (by decide +kernel) ⟨Nat.le_of_ble_eq_true rfl, Nat.le_of_ble_eq_true rfl⟩ rfl (Nat.le_of_ble_eq_true rfl) ⟨Nat.le_of_ble_eq_true rfl, Nat.le_of_ble_eq_true rfl⟩ (c2 := 0) (s2 := 0) rfl rfl (x_cellFault_K _ _ (hx0.K hw_p rfl hb_p) 3 (by decide) _) ?_
      refine g_istore (lv' := [(4, .int (nI 2)), (0, .ref M), (1, .int (nI pj)), (2, .int i), (3, .int j)]) hC dX9_cell_22 (by decide) rfl ?_
      refine g_aload_n hC dX9_cell_24 rfl 1 rfl (Or.inr ⟨_, rfl⟩) ?_
      refine g_get hC (by decide +kernel) rfl (hx0.M hM).1 (hx0.M hM).2 0 (by decide) (by decide +kernel) (Or.inl rfl) rfl dX9_cell_25 ?_
      refine g_iload_n hC dX9_cell_28 rfl 2 rfl ?_
      refine g_aald hC 5 rfl (hx0.Mp rfl).1 (hx0.Mp rfl).2 (pj) rfl (show pj < 10 by omega) (by decide) dX9_cell_29 ?_
      refine g_val (w := .ref (b.1 6 (wh S pj))) (congrArg va_rf hp0_p) ?_
      refine g_S (As := [.ref (b.1 6 (wh S pj))]) (st := []) hC 1 dX9_cell_30 gX9_cell_X9_asRows rfl (by decide +kernel) ⟨Nat.le_of_ble_eq_true rfl, Nat.le_of_ble_eq_true rfl⟩ rfl (Nat.le_of_ble_eq_true rfl) ⟨Nat.le_of_ble_eq_true rfl, Nat.le_of_ble_eq_true rfl⟩ (c2 := 0) (s2 := 0) rfl rfl (x_asRows (some (b.1 6 (wh S pj))) 5 (Or.inr ⟨_, 1, _, rfl, (hx0.K hw_p rfl hb_p), Or.inr (Or.inr (Or.inr (Or.inr ⟨rfl, rfl⟩)))⟩)) ?_
      refine g_astore (lv' := [(5, .null), (4, .int (nI 2)), (0, .ref M), (1, .int (nI pj)), (2, .int i), (3, .int j)]) hC dX9_cell_33 (by decide) rfl (Or.inl rfl) ?_
      refine g_iload hC dX9_cell_35 1 rfl ?_
      refine g_ifN_ne (a := 2) (tgt := 45) hC dX9_cell_37 (by decide) (by omega) (fun h37 => ?_) (fun h37 => ?_)
      · refine g_aload_n hC dX9_cell_45 rfl 2 rfl (Or.inr ⟨_, rfl⟩) ?_
        refine g_iload hC dX9_cell_46 1 rfl ?_
        refine g_Vx (As := [.int (nI 2)]) (st := []) hC 1 dX9_cell_48 rfl (hx0.M hM).1 (hx0.M hM).2 gX9_cell_X9_failedLong rfl (by decide +kernel) ⟨Nat.le_of_ble_eq_true rfl, Nat.le_of_ble_eq_true rfl⟩ rfl (Nat.le_of_ble_eq_true rfl) ⟨(Nat.le_of_ble_eq_true rfl), (Nat.le_of_ble_eq_true rfl)⟩ (c2 := 0) (s2 := 0) rfl rfl (x_failedLong hx0 M hM 2) (fun v1 L1 f1 hp1 => ?_)
        obtain ⟨rfl, hx1⟩ := hp1
        show gW X vwCl 7 L1 f1 0 0 51 [(5, .null), (4, .int (nI 2)), (0, .ref M), (1, .int (nI pj)), (2, .int i), (3, .int j)] [.long noL]
        have hc_p : castF S pj 3 = 2 := by unfold castF isO; rw [hk_p] <;> decide
        have hE : s_cell S (nI pj) i j = (noL, (aSc (thS S) 1 2)) := by
          unfold s_cell
          rw [if_pos h4, hpl_p, hc_p, if_pos (show 0 < 2 by decide)] <;> rfl
        exact g_lret hC hR dX9_cell_51 ⟨b, congrArg (fun z => some (Value.long (Prod.fst z))) hE.symm, by rw [hE]; exact hx1, xG.rf⟩
      · exfalso; omega
  · refine g_ldc2 (v := -9223372036854775808) hC (by decide +kernel) dX9_cell_7 ?_
    have hE : s_cell S p i j = (-9223372036854775808, (thS S)) := by
      unfold s_cell
      rw [if_neg h4] <;> rfl
    exact g_lret hC hR dX9_cell_10 ⟨b, congrArg (fun z => some (Value.long (Prod.fst z))) hE.symm, by rw [hE]; exact hx0, xG.rf⟩
set_option maxRecDepth 20000 in
set_option maxHeartbeats 4000000 in
theorem y_hash {S : aS} {b : xB} (hx : xR cy S b L f) (hI : aI S) (M : Nat) (hM : b.1 9 0 = M) (p : Int32) : gCt l D vwCl (gKK D cy adK adV) yX9_hash wsX9_hash { frames := 2, cells := 0, slots := 0, locals := 44 } [.ref M, .int p] L f (xP cy S b (s_hash S p).2 (fun _ => some (.long (s_hash S p).1))) := by
  refine gCt.of gKK_ok (by decide) rfl rfl (fun X hC hR hnm => ?_)
  have hC : gC X l _ D vwCl (cyT cy) (gKK D cy adK adV) cX9_hash 3 wsX9_hash RX9 := hC
  have hx0 := hx.th0
  have hI0 := hI.th
  show gW X vwCl 3 L f 0 0 0 [(0, .ref M), (1, .int p)] []
  refine g_iload_n hC dX9_hash_0 rfl 1 rfl ?_
  refine g_S (As := [.int p]) (st := []) hC 1 dX9_hash_1 gX9_hash_X9_isPlace rfl (by decide +kernel) ⟨Nat.le_of_ble_eq_true rfl, Nat.le_of_ble_eq_true rfl⟩ rfl (Nat.le_of_ble_eq_true rfl) ⟨Nat.le_of_ble_eq_true rfl, Nat.le_of_ble_eq_true rfl⟩ (c2 := 0) (s2 := 0) rfl rfl (x_isPlace _) ?_
  refine g_ifB_ne (P := isP p) (tgt := 11) hC dX9_hash_4 (by decide) (fun h4 => ?_) (fun h4 => ?_)
  · obtain ⟨pj, hpj, rfl⟩ := isP_j h4
    have hpl_p : pl (nI pj) = pj := nI_clamp (by omega)
    refine g_aload_n hC dX9_hash_11 rfl 0 rfl (Or.inr ⟨_, rfl⟩) ?_
    refine g_get hC (by decide +kernel) rfl (hx0.M hM).1 (hx0.M hM).2 0 (by decide) (by decide +kernel) (Or.inl rfl) rfl dX9_hash_12 ?_
    refine g_iload_n hC dX9_hash_15 rfl 1 rfl ?_
    have h5_p := hI.k5 hpj
    rcases (show kd S pj = 0 ∨ kd S pj = 1 ∨ kd S pj = 2 ∨ kd S pj = 3 ∨ kd S pj = 4 ∨ kd S pj = 5 by omega) with hk_p | hk_p | hk_p | hk_p | hk_p | hk_p
    · have hp0_p : plcF (thS S) b pj = none := plc_0 hpj hk_p
      refine g_aald hC 5 rfl (hx0.Mp rfl).1 (hx0.Mp rfl).2 (pj) rfl (show pj < 10 by omega) (by decide) dX9_hash_16 ?_
      refine g_val (w := .null) (congrArg va_rf hp0_p) ?_
      refine g_ifnonnull (o := none) (tgt := 26) hC dX9_hash_17 (by decide) (fun a17 h17 => ?_) (fun h17 => ?_)
      · cases h17
      · refine g_aload_n hC dX9_hash_20 rfl 0 rfl (Or.inr ⟨_, rfl⟩) ?_
        refine g_iconst hC dX9_hash_21 (v := nI 1) (by decide) ?_
        refine g_Vx (As := [.int (nI 1)]) (st := []) hC 1 dX9_hash_22 rfl (hx0.M hM).1 (hx0.M hM).2 gX9_hash_X9_failedLong rfl (by decide +kernel) ⟨Nat.le_of_ble_eq_true rfl, Nat.le_of_ble_eq_true rfl⟩ rfl (Nat.le_of_ble_eq_true rfl) ⟨(Nat.le_of_ble_eq_true rfl), (Nat.le_of_ble_eq_true rfl)⟩ (c2 := 0) (s2 := 0) rfl rfl (x_failedLong hx0 M hM 1) (fun v1 L1 f1 hp1 => ?_)
        obtain ⟨rfl, hx1⟩ := hp1
        show gW X vwCl 3 L1 f1 0 0 25 [(0, .ref M), (1, .int (nI pj))] [.long noL]
        have hE : s_hash S (nI pj) = (noL, (aSc (thS S) 1 1)) := by
          unfold s_hash
          rw [if_pos h4, hpl_p, if_pos hk_p] <;> rfl
        exact g_lret hC hR dX9_hash_25 ⟨b, congrArg (fun z => some (Value.long (Prod.fst z))) hE.symm, by rw [hE]; exact hx1, xG.rf⟩
    · have hw_p : wh S pj < S.1 4 := hI.wl hpj hk_p
      have hp0_p : plcF (thS S) b pj = some (b.1 0 (wh S pj)) := plc_k hpj hk_p (by decide)
      refine g_aald hC 5 rfl (hx0.Mp rfl).1 (hx0.Mp rfl).2 (pj) rfl (show pj < 10 by omega) (by decide) dX9_hash_16 ?_
      refine g_val (w := .ref (b.1 0 (wh S pj))) (congrArg va_rf hp0_p) ?_
      refine g_ifnonnull (o := some (b.1 0 (wh S pj))) (tgt := 26) hC dX9_hash_17 (by decide) (fun a17 h17 => ?_) (fun h17 => ?_)
      · refine g_aload_n hC dX9_hash_26 rfl 0 rfl (Or.inr ⟨_, rfl⟩) ?_
        refine g_get hC (by decide +kernel) rfl (hx0.M hM).1 (hx0.M hM).2 0 (by decide) (by decide +kernel) (Or.inl rfl) rfl dX9_hash_27 ?_
        refine g_iload_n hC dX9_hash_30 rfl 1 rfl ?_
        refine g_aald hC 5 rfl (hx0.Mp rfl).1 (hx0.Mp rfl).2 (pj) rfl (show pj < 10 by omega) (by decide) dX9_hash_31 ?_
        refine g_val (w := .ref (b.1 0 (wh S pj))) (congrArg va_rf hp0_p) ?_
        refine g_S (As := [.ref (b.1 0 (wh S pj))]) (st := []) hC 1 dX9_hash_32 gX9_hash_X9_asNumbers rfl (by decide +kernel) ⟨Nat.le_of_ble_eq_true rfl, Nat.le_of_ble_eq_true rfl⟩ rfl (Nat.le_of_ble_eq_true rfl) ⟨Nat.le_of_ble_eq_true rfl, Nat.le_of_ble_eq_true rfl⟩ (c2 := 0) (s2 := 0) rfl rfl (x_asNumbers (some (b.1 0 (wh S pj))) 1 (Or.inr ⟨_, 0, _, rfl, (hx0.B hw_p rfl), Or.inl ⟨rfl, rfl⟩⟩)) ?_
        refine g_astore_n (lv' := [(2, .ref (b.1 0 (wh S pj))), (0, .ref M), (1, .int (nI pj))]) hC dX9_hash_35 rfl (by decide) rfl (Or.inr ⟨_, rfl⟩) ?_
        refine g_aload_n hC dX9_hash_36 rfl 0 rfl (Or.inr ⟨_, rfl⟩) ?_
        refine g_ifnonnull (o := some (b.1 0 (wh S pj))) (tgt := 48) hC dX9_hash_37 (by decide) (fun a37 h37 => ?_) (fun h37 => ?_)
        · refine g_aload_n hC dX9_hash_48 rfl 0 rfl (Or.inr ⟨_, rfl⟩) ?_
          refine g_U (As := []) (st := []) hC 0 dX9_hash_49 rfl (hx0.B hw_p rfl).1 (hx0.B hw_p rfl).2 gX9_hash_X2_contentHash_u144X0 rfl rfl (by decide +kernel) ⟨Nat.le_of_ble_eq_true rfl, Nat.le_of_ble_eq_true rfl⟩ rfl (Nat.le_of_ble_eq_true rfl) ⟨Nat.le_of_ble_eq_true rfl, Nat.le_of_ble_eq_true rfl⟩ (c2 := 0) (s2 := 0) rfl rfl (x_2_contentHash_B _ _ _ _ (hx0.isB hw_p rfl (hI.bl hw_p))) ?_
          have hat9 : hsh (atS S pj) (longS S pj) = hsh (bcF S (wh S pj)) (S.2.1 5 (wh S pj)) := by
            rw [show longS S pj = S.2.1 5 (wh S pj) by unfold longS; rw [hk_p] <;> rfl]
            refine hsh_eq _ (fun i hi => ?_)
            rw [show atS S pj i = S.2.2 6 (16 * wh S pj + i) by unfold atS; rw [hk_p] <;> rfl]
            exact (if_pos hi).symm
          refine g_val (w := .int (hsh (atS S pj) (longS S pj))) (congrArg Value.int hat9.symm) ?_
          refine g_i2l hC dX9_hash_52 rfl ?_
          have hE : s_hash S (nI pj) = ((hsh (atS S pj) (longS S pj)).toInt64, (thS S)) := by
            unfold s_hash
            rw [if_pos h4, hpl_p, if_neg (show ¬ kd S pj = 0 by omega), if_neg (show ¬ 2 < kd S pj by omega)] <;> rfl
          exact g_lret hC hR dX9_hash_53 ⟨b, congrArg (fun z => some (Value.long (Prod.fst z))) hE.symm, by rw [hE]; exact hx0, xG.rf⟩
        · cases h37
      · cases h17
    · have hw_p : wh S pj < S.1 7 := hI.ws hpj hk_p
      have hp0_p : plcF (thS S) b pj = some (b.1 2 (wh S pj)) := plc_k hpj hk_p (by decide)
      refine g_aald hC 5 rfl (hx0.Mp rfl).1 (hx0.Mp rfl).2 (pj) rfl (show pj < 10 by omega) (by decide) dX9_hash_16 ?_
      refine g_val (w := .ref (b.1 2 (wh S pj))) (congrArg va_rf hp0_p) ?_
      refine g_ifnonnull (o := some (b.1 2 (wh S pj))) (tgt := 26) hC dX9_hash_17 (by decide) (fun a17 h17 => ?_) (fun h17 => ?_)
      · refine g_aload_n hC dX9_hash_26 rfl 0 rfl (Or.inr ⟨_, rfl⟩) ?_
        refine g_get hC (by decide +kernel) rfl (hx0.M hM).1 (hx0.M hM).2 0 (by decide) (by decide +kernel) (Or.inl rfl) rfl dX9_hash_27 ?_
        refine g_iload_n hC dX9_hash_30 rfl 1 rfl ?_
        refine g_aald hC 5 rfl (hx0.Mp rfl).1 (hx0.Mp rfl).2 (pj) rfl (show pj < 10 by omega) (by decide) dX9_hash_31 ?_
        refine g_val (w := .ref (b.1 2 (wh S pj))) (congrArg va_rf hp0_p) ?_
        refine g_S (As := [.ref (b.1 2 (wh S pj))]) (st := []) hC 1 dX9_hash_32 gX9_hash_X9_asNumbers rfl (by decide +kernel) ⟨Nat.le_of_ble_eq_true rfl, Nat.le_of_ble_eq_true rfl⟩ rfl (Nat.le_of_ble_eq_true rfl) ⟨Nat.le_of_ble_eq_true rfl, Nat.le_of_ble_eq_true rfl⟩ (c2 := 0) (s2 := 0) rfl rfl (x_asNumbers (some (b.1 2 (wh S pj))) 2 (Or.inr ⟨_, 4, _, rfl, (hx0.G hw_p rfl), Or.inr (Or.inl ⟨rfl, rfl⟩)⟩)) ?_
        refine g_astore_n (lv' := [(2, .ref (b.1 2 (wh S pj))), (0, .ref M), (1, .int (nI pj))]) hC dX9_hash_35 rfl (by decide) rfl (Or.inr ⟨_, rfl⟩) ?_
        refine g_aload_n hC dX9_hash_36 rfl 0 rfl (Or.inr ⟨_, rfl⟩) ?_
        refine g_ifnonnull (o := some (b.1 2 (wh S pj))) (tgt := 48) hC dX9_hash_37 (by decide) (fun a37 h37 => ?_) (fun h37 => ?_)
        · refine g_aload_n hC dX9_hash_48 rfl 0 rfl (Or.inr ⟨_, rfl⟩) ?_
          refine g_U (As := []) (st := []) hC 0 dX9_hash_49 rfl (hx0.G hw_p rfl).1 (hx0.G hw_p rfl).2 gX9_hash_X2_contentHash_u144X6 rfl rfl (by decide +kernel) ⟨Nat.le_of_ble_eq_true rfl, Nat.le_of_ble_eq_true rfl⟩ rfl (Nat.le_of_ble_eq_true rfl) ⟨Nat.le_of_ble_eq_true rfl, Nat.le_of_ble_eq_true rfl⟩ (c2 := 0) (s2 := 0) rfl rfl (x_2_contentHash_S _ _ _ _ (hx0.isS hw_p rfl (hI.2.2.2.1 _ hw_p))) ?_
          have hat9 : hsh (atS S pj) (longS S pj) = hsh (scF S (wh S pj)) (S.2.1 8 (wh S pj)) := by
            rw [show longS S pj = S.2.1 8 (wh S pj) by unfold longS; rw [hk_p] <;> rfl]
            refine hsh_eq _ (fun i hi => ?_)
            rw [show atS S pj i = S.2.2 9 (16 * wh S pj + i) by unfold atS; rw [hk_p] <;> rfl]
            exact (if_pos hi).symm
          refine g_val (w := .int (hsh (atS S pj) (longS S pj))) (congrArg Value.int hat9.symm) ?_
          refine g_i2l hC dX9_hash_52 rfl ?_
          have hE : s_hash S (nI pj) = ((hsh (atS S pj) (longS S pj)).toInt64, (thS S)) := by
            unfold s_hash
            rw [if_pos h4, hpl_p, if_neg (show ¬ kd S pj = 0 by omega), if_neg (show ¬ 2 < kd S pj by omega)] <;> rfl
          exact g_lret hC hR dX9_hash_53 ⟨b, congrArg (fun z => some (Value.long (Prod.fst z))) hE.symm, by rw [hE]; exact hx0, xG.rf⟩
        · cases h37
      · cases h17
    · have hw_p : wh S pj < S.1 10 := hI.wr hpj hk_p
      have hp0_p : plcF (thS S) b pj = some (b.1 4 (wh S pj)) := plc_k hpj hk_p (by decide)
      refine g_aald hC 5 rfl (hx0.Mp rfl).1 (hx0.Mp rfl).2 (pj) rfl (show pj < 10 by omega) (by decide) dX9_hash_16 ?_
      refine g_val (w := .ref (b.1 4 (wh S pj))) (congrArg va_rf hp0_p) ?_
      refine g_ifnonnull (o := some (b.1 4 (wh S pj))) (tgt := 26) hC dX9_hash_17 (by decide) (fun a17 h17 => ?_) (fun h17 => ?_)
      · refine g_aload_n hC dX9_hash_26 rfl 0 rfl (Or.inr ⟨_, rfl⟩) ?_
        refine g_get hC (by decide +kernel) rfl (hx0.M hM).1 (hx0.M hM).2 0 (by decide) (by decide +kernel) (Or.inl rfl) rfl dX9_hash_27 ?_
        refine g_iload_n hC dX9_hash_30 rfl 1 rfl ?_
        refine g_aald hC 5 rfl (hx0.Mp rfl).1 (hx0.Mp rfl).2 (pj) rfl (show pj < 10 by omega) (by decide) dX9_hash_31 ?_
        refine g_val (w := .ref (b.1 4 (wh S pj))) (congrArg va_rf hp0_p) ?_
        refine g_S (As := [.ref (b.1 4 (wh S pj))]) (st := []) hC 1 dX9_hash_32 gX9_hash_X9_asNumbers rfl (by decide +kernel) ⟨Nat.le_of_ble_eq_true rfl, Nat.le_of_ble_eq_true rfl⟩ rfl (Nat.le_of_ble_eq_true rfl) ⟨Nat.le_of_ble_eq_true rfl, Nat.le_of_ble_eq_true rfl⟩ (c2 := 0) (s2 := 0) rfl rfl (x_asNumbers (some (b.1 4 (wh S pj))) 3 (Or.inr ⟨_, 3, _, rfl, (hx0.W hw_p rfl), Or.inr (Or.inr (Or.inl ⟨rfl, rfl⟩))⟩)) ?_
        refine g_astore_n (lv' := [(2, .null), (0, .ref M), (1, .int (nI pj))]) hC dX9_hash_35 rfl (by decide) rfl (Or.inl rfl) ?_
        refine g_aload_n hC dX9_hash_36 rfl 0 rfl (Or.inl rfl) ?_
        refine g_ifnonnull (o := none) (tgt := 48) hC dX9_hash_37 (by decide) (fun a37 h37 => ?_) (fun h37 => ?_)
        · cases h37
        · refine g_aload_n hC dX9_hash_40 rfl 1 rfl (Or.inr ⟨_, rfl⟩) ?_
          refine g_iconst hC dX9_hash_41 (v := nI 2) (by decide) ?_
          refine g_Vx (As := [.int (nI 2)]) (st := []) hC 1 dX9_hash_42 rfl (hx0.M hM).1 (hx0.M hM).2 gX9_hash_X9_failedLong rfl (by decide +kernel) ⟨Nat.le_of_ble_eq_true rfl, Nat.le_of_ble_eq_true rfl⟩ rfl (Nat.le_of_ble_eq_true rfl) ⟨(Nat.le_of_ble_eq_true rfl), (Nat.le_of_ble_eq_true rfl)⟩ (c2 := 0) (s2 := 0) rfl rfl (x_failedLong hx0 M hM 2) (fun v1 L1 f1 hp1 => ?_)
          obtain ⟨rfl, hx1⟩ := hp1
          show gW X vwCl 3 L1 f1 0 0 45 [(2, .null), (0, .ref M), (1, .int (nI pj))] [.long noL]
          refine g_goto (tgt := 53) hC dX9_hash_45 (by decide) ?_
          have hE : s_hash S (nI pj) = (noL, (aSc (thS S) 1 2)) := by
            unfold s_hash
            rw [if_pos h4, hpl_p, if_neg (show ¬ kd S pj = 0 by omega), if_pos (show 2 < kd S pj by omega)] <;> rfl
          exact g_lret hC hR dX9_hash_53 ⟨b, congrArg (fun z => some (Value.long (Prod.fst z))) hE.symm, by rw [hE]; exact hx1, xG.rf⟩
      · cases h17
    · have hw_p : wh S pj < S.1 13 := hI.wt hpj (by omega)
      have hb_p : S.2.1 14 (wh S pj) = 0 := by have := ((hI.2.1 _ hpj).2.2.2.2.2 (by omega)).2; omega
      have hp0_p : plcF (thS S) b pj = some (b.1 6 (wh S pj)) := plc_k hpj hk_p (by decide)
      refine g_aald hC 5 rfl (hx0.Mp rfl).1 (hx0.Mp rfl).2 (pj) rfl (show pj < 10 by omega) (by decide) dX9_hash_16 ?_
      refine g_val (w := .ref (b.1 6 (wh S pj))) (congrArg va_rf hp0_p) ?_
      refine g_ifnonnull (o := some (b.1 6 (wh S pj))) (tgt := 26) hC dX9_hash_17 (by decide) (fun a17 h17 => ?_) (fun h17 => ?_)
      · refine g_aload_n hC dX9_hash_26 rfl 0 rfl (Or.inr ⟨_, rfl⟩) ?_
        refine g_get hC (by decide +kernel) rfl (hx0.M hM).1 (hx0.M hM).2 0 (by decide) (by decide +kernel) (Or.inl rfl) rfl dX9_hash_27 ?_
        refine g_iload_n hC dX9_hash_30 rfl 1 rfl ?_
        refine g_aald hC 5 rfl (hx0.Mp rfl).1 (hx0.Mp rfl).2 (pj) rfl (show pj < 10 by omega) (by decide) dX9_hash_31 ?_
        refine g_val (w := .ref (b.1 6 (wh S pj))) (congrArg va_rf hp0_p) ?_
        refine g_S (As := [.ref (b.1 6 (wh S pj))]) (st := []) hC 1 dX9_hash_32 gX9_hash_X9_asNumbers rfl (by decide +kernel) ⟨Nat.le_of_ble_eq_true rfl, Nat.le_of_ble_eq_true rfl⟩ rfl (Nat.le_of_ble_eq_true rfl) ⟨Nat.le_of_ble_eq_true rfl, Nat.le_of_ble_eq_true rfl⟩ (c2 := 0) (s2 := 0) rfl rfl (x_asNumbers (some (b.1 6 (wh S pj))) 4 (Or.inr ⟨_, 5, _, rfl, (hx0.T hw_p rfl hb_p), Or.inr (Or.inr (Or.inr (Or.inl ⟨rfl, rfl⟩)))⟩)) ?_
        refine g_astore_n (lv' := [(2, .null), (0, .ref M), (1, .int (nI pj))]) hC dX9_hash_35 rfl (by decide) rfl (Or.inl rfl) ?_
        refine g_aload_n hC dX9_hash_36 rfl 0 rfl (Or.inl rfl) ?_
        refine g_ifnonnull (o := none) (tgt := 48) hC dX9_hash_37 (by decide) (fun a37 h37 => ?_) (fun h37 => ?_)
        · cases h37
        · refine g_aload_n hC dX9_hash_40 rfl 1 rfl (Or.inr ⟨_, rfl⟩) ?_
          refine g_iconst hC dX9_hash_41 (v := nI 2) (by decide) ?_
          refine g_Vx (As := [.int (nI 2)]) (st := []) hC 1 dX9_hash_42 rfl (hx0.M hM).1 (hx0.M hM).2 gX9_hash_X9_failedLong rfl (by decide +kernel) ⟨Nat.le_of_ble_eq_true rfl, Nat.le_of_ble_eq_true rfl⟩ rfl (Nat.le_of_ble_eq_true rfl) ⟨(Nat.le_of_ble_eq_true rfl), (Nat.le_of_ble_eq_true rfl)⟩ (c2 := 0) (s2 := 0) rfl rfl (x_failedLong hx0 M hM 2) (fun v1 L1 f1 hp1 => ?_)
          obtain ⟨rfl, hx1⟩ := hp1
          show gW X vwCl 3 L1 f1 0 0 45 [(2, .null), (0, .ref M), (1, .int (nI pj))] [.long noL]
          refine g_goto (tgt := 53) hC dX9_hash_45 (by decide) ?_
          have hE : s_hash S (nI pj) = (noL, (aSc (thS S) 1 2)) := by
            unfold s_hash
            rw [if_pos h4, hpl_p, if_neg (show ¬ kd S pj = 0 by omega), if_pos (show 2 < kd S pj by omega)] <;> rfl
          exact g_lret hC hR dX9_hash_53 ⟨b, congrArg (fun z => some (Value.long (Prod.fst z))) hE.symm, by rw [hE]; exact hx1, xG.rf⟩
      · cases h17
    · have hw_p : wh S pj < S.1 13 := hI.wt hpj (by omega)
      have hb_p : S.2.1 14 (wh S pj) ≠ 0 := by have := ((hI.2.1 _ hpj).2.2.2.2.2 (by omega)).2; omega
      have hp0_p : plcF (thS S) b pj = some (b.1 6 (wh S pj)) := plc_k hpj hk_p (by decide)
      refine g_aald hC 5 rfl (hx0.Mp rfl).1 (hx0.Mp rfl).2 (pj) rfl (show pj < 10 by omega) (by decide) dX9_hash_16 ?_
      refine g_val (w := .ref (b.1 6 (wh S pj))) (congrArg va_rf hp0_p) ?_
      refine g_ifnonnull (o := some (b.1 6 (wh S pj))) (tgt := 26) hC dX9_hash_17 (by decide) (fun a17 h17 => ?_) (fun h17 => ?_)
      · refine g_aload_n hC dX9_hash_26 rfl 0 rfl (Or.inr ⟨_, rfl⟩) ?_
        refine g_get hC (by decide +kernel) rfl (hx0.M hM).1 (hx0.M hM).2 0 (by decide) (by decide +kernel) (Or.inl rfl) rfl dX9_hash_27 ?_
        refine g_iload_n hC dX9_hash_30 rfl 1 rfl ?_
        refine g_aald hC 5 rfl (hx0.Mp rfl).1 (hx0.Mp rfl).2 (pj) rfl (show pj < 10 by omega) (by decide) dX9_hash_31 ?_
        refine g_val (w := .ref (b.1 6 (wh S pj))) (congrArg va_rf hp0_p) ?_
        refine g_S (As := [.ref (b.1 6 (wh S pj))]) (st := []) hC 1 dX9_hash_32 gX9_hash_X9_asNumbers rfl (by decide +kernel) ⟨Nat.le_of_ble_eq_true rfl, Nat.le_of_ble_eq_true rfl⟩ rfl (Nat.le_of_ble_eq_true rfl) ⟨Nat.le_of_ble_eq_true rfl, Nat.le_of_ble_eq_true rfl⟩ (c2 := 0) (s2 := 0) rfl rfl (x_asNumbers (some (b.1 6 (wh S pj))) 5 (Or.inr ⟨_, 1, _, rfl, (hx0.K hw_p rfl hb_p), Or.inr (Or.inr (Or.inr (Or.inr ⟨rfl, rfl⟩)))⟩)) ?_
        refine g_astore_n (lv' := [(2, .null), (0, .ref M), (1, .int (nI pj))]) hC dX9_hash_35 rfl (by decide) rfl (Or.inl rfl) ?_
        refine g_aload_n hC dX9_hash_36 rfl 0 rfl (Or.inl rfl) ?_
        refine g_ifnonnull (o := none) (tgt := 48) hC dX9_hash_37 (by decide) (fun a37 h37 => ?_) (fun h37 => ?_)
        · cases h37
        · refine g_aload_n hC dX9_hash_40 rfl 1 rfl (Or.inr ⟨_, rfl⟩) ?_
          refine g_iconst hC dX9_hash_41 (v := nI 2) (by decide) ?_
          refine g_Vx (As := [.int (nI 2)]) (st := []) hC 1 dX9_hash_42 rfl (hx0.M hM).1 (hx0.M hM).2 gX9_hash_X9_failedLong rfl (by decide +kernel) ⟨Nat.le_of_ble_eq_true rfl, Nat.le_of_ble_eq_true rfl⟩ rfl (Nat.le_of_ble_eq_true rfl) ⟨(Nat.le_of_ble_eq_true rfl), (Nat.le_of_ble_eq_true rfl)⟩ (c2 := 0) (s2 := 0) rfl rfl (x_failedLong hx0 M hM 2) (fun v1 L1 f1 hp1 => ?_)
          obtain ⟨rfl, hx1⟩ := hp1
          show gW X vwCl 3 L1 f1 0 0 45 [(2, .null), (0, .ref M), (1, .int (nI pj))] [.long noL]
          refine g_goto (tgt := 53) hC dX9_hash_45 (by decide) ?_
          have hE : s_hash S (nI pj) = (noL, (aSc (thS S) 1 2)) := by
            unfold s_hash
            rw [if_pos h4, hpl_p, if_neg (show ¬ kd S pj = 0 by omega), if_pos (show 2 < kd S pj by omega)] <;> rfl
          exact g_lret hC hR dX9_hash_53 ⟨b, congrArg (fun z => some (Value.long (Prod.fst z))) hE.symm, by rw [hE]; exact hx1, xG.rf⟩
      · cases h17
  · refine g_ldc2 (v := -9223372036854775808) hC (by decide +kernel) dX9_hash_7 ?_
    have hE : s_hash S p = (-9223372036854775808, (thS S)) := by
      unfold s_hash
      rw [if_neg h4] <;> rfl
    exact g_lret hC hR dX9_hash_10 ⟨b, congrArg (fun z => some (Value.long (Prod.fst z))) hE.symm, by rw [hE]; exact hx0, xG.rf⟩
set_option maxRecDepth 20000 in
set_option maxHeartbeats 4000000 in
theorem y_like {S : aS} {b : xB} (hx : xR cy S b L f) (hI : aI S) (M : Nat) (hM : b.1 9 0 = M) (p q : Int32) : gCt l D vwCl (gKK D cy adK adV) yX9_like wsX9_like { frames := 2, cells := 0, slots := 0, locals := 43 } [.ref M, .int p, .int q] L f (xP cy S b (s_like S p q).2 (fun _ => some (.int (s_like S p q).1))) := by
  refine gCt.of gKK_ok (by decide) rfl rfl (fun X hC hR hnm => ?_)
  have hC : gC X l _ D vwCl (cyT cy) (gKK D cy adK adV) cX9_like 5 wsX9_like RX9 := hC
  have hx0 := hx.th0
  have hI0 := hI.th
  show gW X vwCl 5 L f 0 0 0 [(0, .ref M), (1, .int p), (2, .int q)] []
  refine g_iload_n hC dX9_like_0 rfl 1 rfl ?_
  refine g_S (As := [.int p]) (st := []) hC 1 dX9_like_1 gX9_like_X9_isPlace rfl (by decide +kernel) ⟨Nat.le_of_ble_eq_true rfl, Nat.le_of_ble_eq_true rfl⟩ rfl (Nat.le_of_ble_eq_true rfl) ⟨Nat.le_of_ble_eq_true rfl, Nat.le_of_ble_eq_true rfl⟩ (c2 := 0) (s2 := 0) rfl rfl (x_isPlace _) ?_
  refine g_ifB_eq (P := isP p) (tgt := 14) hC dX9_like_4 (by decide) (fun h4 => ?_) (fun h4 => ?_)
  · refine g_iconst hC dX9_like_14 (v := (-1)) (by decide) ?_
    have hE : s_like S p q = ((-1), (thS S)) := by
      unfold s_like
      rw [if_neg h4] <;> rfl
    exact g_iret hC hR dX9_like_15 ⟨b, congrArg (fun z => some (Value.int (Prod.fst z))) hE.symm, by rw [hE]; exact hx0, xG.rf⟩
  · obtain ⟨pj, hpj, rfl⟩ := isP_j h4
    have hpl_p : pl (nI pj) = pj := nI_clamp (by omega)
    refine g_iload_n hC dX9_like_7 rfl 2 rfl ?_
    refine g_S (As := [.int q]) (st := []) hC 1 dX9_like_8 gX9_like_X9_isPlace rfl (by decide +kernel) ⟨Nat.le_of_ble_eq_true rfl, Nat.le_of_ble_eq_true rfl⟩ rfl (Nat.le_of_ble_eq_true rfl) ⟨Nat.le_of_ble_eq_true rfl, Nat.le_of_ble_eq_true rfl⟩ (c2 := 0) (s2 := 0) rfl rfl (x_isPlace _) ?_
    refine g_ifB_ne (P := isP q) (tgt := 16) hC dX9_like_11 (by decide) (fun h11 => ?_) (fun h11 => ?_)
    · obtain ⟨qj, hqj, rfl⟩ := isP_j h11
      have hpl_q : pl (nI qj) = qj := nI_clamp (by omega)
      refine g_aload_n hC dX9_like_16 rfl 0 rfl (Or.inr ⟨_, rfl⟩) ?_
      refine g_get hC (by decide +kernel) rfl (hx0.M hM).1 (hx0.M hM).2 0 (by decide) (by decide +kernel) (Or.inl rfl) rfl dX9_like_17 ?_
      refine g_iload_n hC dX9_like_20 rfl 1 rfl ?_
      have h5_p := hI.k5 hpj
      rcases (show kd S pj = 0 ∨ kd S pj = 1 ∨ kd S pj = 2 ∨ kd S pj = 3 ∨ kd S pj = 4 ∨ kd S pj = 5 by omega) with hk_p | hk_p | hk_p | hk_p | hk_p | hk_p
      · have hp0_p : plcF (thS S) b pj = none := plc_0 hpj hk_p
        refine g_aald hC 5 rfl (hx0.Mp rfl).1 (hx0.Mp rfl).2 (pj) rfl (show pj < 10 by omega) (by decide) dX9_like_21 ?_
        refine g_val (w := .null) (congrArg va_rf hp0_p) ?_
        refine g_ifnull (o := none) (tgt := 34) hC dX9_like_22 (by decide) (fun h22 => ?_) (fun a22 h22 => ?_)
        · refine g_aload_n hC dX9_like_34 rfl 0 rfl (Or.inr ⟨_, rfl⟩) ?_
          refine g_iconst hC dX9_like_35 (v := nI 1) (by decide) ?_
          refine g_Vx (As := [.int (nI 1)]) (st := []) hC 1 dX9_like_36 rfl (hx0.M hM).1 (hx0.M hM).2 gX9_like_X9_failed rfl (by decide +kernel) ⟨Nat.le_of_ble_eq_true rfl, Nat.le_of_ble_eq_true rfl⟩ rfl (Nat.le_of_ble_eq_true rfl) ⟨(Nat.le_of_ble_eq_true rfl), (Nat.le_of_ble_eq_true rfl)⟩ (c2 := 0) (s2 := 0) rfl rfl (x_failed hx0 M hM 1) (fun v1 L1 f1 hp1 => ?_)
          obtain ⟨rfl, hx1⟩ := hp1
          show gW X vwCl 5 L1 f1 0 0 39 [(0, .ref M), (1, .int (nI pj)), (2, .int (nI qj))] [.int (fA 1)]
          have hE : s_like S (nI pj) (nI qj) = (fA 1, (aSc (thS S) 1 1)) := by
            unfold s_like
            rw [if_pos h4, if_pos h11, hpl_p, hpl_q, if_pos (Or.inl hk_p)] <;> rfl
          exact g_iret hC hR dX9_like_39 ⟨b, congrArg (fun z => some (Value.int (Prod.fst z))) hE.symm, by rw [hE]; exact hx1, xG.rf⟩
        · cases h22
      · have hw_p : wh S pj < S.1 4 := hI.wl hpj hk_p
        have hp0_p : plcF (thS S) b pj = some (b.1 0 (wh S pj)) := plc_k hpj hk_p (by decide)
        refine g_aald hC 5 rfl (hx0.Mp rfl).1 (hx0.Mp rfl).2 (pj) rfl (show pj < 10 by omega) (by decide) dX9_like_21 ?_
        refine g_val (w := .ref (b.1 0 (wh S pj))) (congrArg va_rf hp0_p) ?_
        refine g_ifnull (o := some (b.1 0 (wh S pj))) (tgt := 34) hC dX9_like_22 (by decide) (fun h22 => ?_) (fun a22 h22 => ?_)
        · cases h22
        · refine g_aload_n hC dX9_like_25 rfl 0 rfl (Or.inr ⟨_, rfl⟩) ?_
          refine g_get hC (by decide +kernel) rfl (hx0.M hM).1 (hx0.M hM).2 0 (by decide) (by decide +kernel) (Or.inl rfl) rfl dX9_like_26 ?_
          refine g_iload_n hC dX9_like_29 rfl 2 rfl ?_
          have h5_q := hI.k5 hqj
          rcases (show kd S qj = 0 ∨ kd S qj = 1 ∨ kd S qj = 2 ∨ kd S qj = 3 ∨ kd S qj = 4 ∨ kd S qj = 5 by omega) with hk_q | hk_q | hk_q | hk_q | hk_q | hk_q
          · have hp0_q : plcF (thS S) b qj = none := plc_0 hqj hk_q
            refine g_aald hC 5 rfl (hx0.Mp rfl).1 (hx0.Mp rfl).2 (qj) rfl (show qj < 10 by omega) (by decide) dX9_like_30 ?_
            refine g_val (w := .null) (congrArg va_rf hp0_q) ?_
            refine g_ifnonnull (o := none) (tgt := 40) hC dX9_like_31 (by decide) (fun a31 h31 => ?_) (fun h31 => ?_)
            · cases h31
            · refine g_aload_n hC dX9_like_34 rfl 0 rfl (Or.inr ⟨_, rfl⟩) ?_
              refine g_iconst hC dX9_like_35 (v := nI 1) (by decide) ?_
              refine g_Vx (As := [.int (nI 1)]) (st := []) hC 1 dX9_like_36 rfl (hx0.M hM).1 (hx0.M hM).2 gX9_like_X9_failed rfl (by decide +kernel) ⟨Nat.le_of_ble_eq_true rfl, Nat.le_of_ble_eq_true rfl⟩ rfl (Nat.le_of_ble_eq_true rfl) ⟨(Nat.le_of_ble_eq_true rfl), (Nat.le_of_ble_eq_true rfl)⟩ (c2 := 0) (s2 := 0) rfl rfl (x_failed hx0 M hM 1) (fun v1 L1 f1 hp1 => ?_)
              obtain ⟨rfl, hx1⟩ := hp1
              show gW X vwCl 5 L1 f1 0 0 39 [(0, .ref M), (1, .int (nI pj)), (2, .int (nI qj))] [.int (fA 1)]
              have hE : s_like S (nI pj) (nI qj) = (fA 1, (aSc (thS S) 1 1)) := by
                unfold s_like
                rw [if_pos h4, if_pos h11, hpl_p, hpl_q, if_pos (Or.inr hk_q)] <;> rfl
              exact g_iret hC hR dX9_like_39 ⟨b, congrArg (fun z => some (Value.int (Prod.fst z))) hE.symm, by rw [hE]; exact hx1, xG.rf⟩
          · have hw_q : wh S qj < S.1 4 := hI.wl hqj hk_q
            have hp0_q : plcF (thS S) b qj = some (b.1 0 (wh S qj)) := plc_k hqj hk_q (by decide)
            refine g_aald hC 5 rfl (hx0.Mp rfl).1 (hx0.Mp rfl).2 (qj) rfl (show qj < 10 by omega) (by decide) dX9_like_30 ?_
            refine g_val (w := .ref (b.1 0 (wh S qj))) (congrArg va_rf hp0_q) ?_
            refine g_ifnonnull (o := some (b.1 0 (wh S qj))) (tgt := 40) hC dX9_like_31 (by decide) (fun a31 h31 => ?_) (fun h31 => ?_)
            · refine g_aload_n hC dX9_like_40 rfl 0 rfl (Or.inr ⟨_, rfl⟩) ?_
              refine g_get hC (by decide +kernel) rfl (hx0.M hM).1 (hx0.M hM).2 0 (by decide) (by decide +kernel) (Or.inl rfl) rfl dX9_like_41 ?_
              refine g_iload_n hC dX9_like_44 rfl 1 rfl ?_
              refine g_aald hC 5 rfl (hx0.Mp rfl).1 (hx0.Mp rfl).2 (pj) rfl (show pj < 10 by omega) (by decide) dX9_like_45 ?_
              refine g_val (w := .ref (b.1 0 (wh S pj))) (congrArg va_rf hp0_p) ?_
              refine g_S (As := [.ref (b.1 0 (wh S pj))]) (st := []) hC 1 dX9_like_46 gX9_like_X9_asNumbers rfl (by decide +kernel) ⟨Nat.le_of_ble_eq_true rfl, Nat.le_of_ble_eq_true rfl⟩ rfl (Nat.le_of_ble_eq_true rfl) ⟨Nat.le_of_ble_eq_true rfl, Nat.le_of_ble_eq_true rfl⟩ (c2 := 0) (s2 := 0) rfl rfl (x_asNumbers (some (b.1 0 (wh S pj))) 1 (Or.inr ⟨_, 0, _, rfl, (hx0.B hw_p rfl), Or.inl ⟨rfl, rfl⟩⟩)) ?_
              refine g_astore_n (lv' := [(3, .ref (b.1 0 (wh S pj))), (0, .ref M), (1, .int (nI pj)), (2, .int (nI qj))]) hC dX9_like_49 rfl (by decide) rfl (Or.inr ⟨_, rfl⟩) ?_
              refine g_aload_n hC dX9_like_50 rfl 1 rfl (Or.inr ⟨_, rfl⟩) ?_
              refine g_get hC (by decide +kernel) rfl (hx0.M hM).1 (hx0.M hM).2 0 (by decide) (by decide +kernel) (Or.inl rfl) rfl dX9_like_51 ?_
              refine g_iload_n hC dX9_like_54 rfl 3 rfl ?_
              refine g_aald hC 5 rfl (hx0.Mp rfl).1 (hx0.Mp rfl).2 (qj) rfl (show qj < 10 by omega) (by decide) dX9_like_55 ?_
              refine g_val (w := .ref (b.1 0 (wh S qj))) (congrArg va_rf hp0_q) ?_
              refine g_S (As := [.ref (b.1 0 (wh S qj))]) (st := []) hC 1 dX9_like_56 gX9_like_X9_asNumbers rfl (by decide +kernel) ⟨Nat.le_of_ble_eq_true rfl, Nat.le_of_ble_eq_true rfl⟩ rfl (Nat.le_of_ble_eq_true rfl) ⟨Nat.le_of_ble_eq_true rfl, Nat.le_of_ble_eq_true rfl⟩ (c2 := 0) (s2 := 0) rfl rfl (x_asNumbers (some (b.1 0 (wh S qj))) 1 (Or.inr ⟨_, 0, _, rfl, (hx0.B hw_q rfl), Or.inl ⟨rfl, rfl⟩⟩)) ?_
              refine g_astore (lv' := [(4, .ref (b.1 0 (wh S qj))), (3, .ref (b.1 0 (wh S pj))), (0, .ref M), (1, .int (nI pj)), (2, .int (nI qj))]) hC dX9_like_59 (by decide) rfl (Or.inr ⟨_, rfl⟩) ?_
              refine g_aload_n hC dX9_like_61 rfl 1 rfl (Or.inr ⟨_, rfl⟩) ?_
              refine g_ifnull (o := some (b.1 0 (wh S pj))) (tgt := 70) hC dX9_like_62 (by decide) (fun h62 => ?_) (fun a62 h62 => ?_)
              · cases h62
              · refine g_aload hC dX9_like_65 0 rfl (Or.inr ⟨_, rfl⟩) ?_
                refine g_ifnonnull (o := some (b.1 0 (wh S qj))) (tgt := 76) hC dX9_like_67 (by decide) (fun a67 h67 => ?_) (fun h67 => ?_)
                · refine g_aload_n hC dX9_like_76 rfl 1 rfl (Or.inr ⟨_, rfl⟩) ?_
                  refine g_aload hC dX9_like_77 0 rfl (Or.inr ⟨_, rfl⟩) ?_
                  refine g_A (As := [.ref (b.1 0 (wh S qj))]) (st := []) hC 1 dX9_like_79 rfl (hx0.B hw_p rfl).1 (hx0.B hw_p rfl).2 gX9_like_X0_isLike_u140X0 rfl (gKK_D ⟨"KeptTerms$Numbers", "isLike", "(LKeptTerms$Numbers;)Z"⟩ (by decide)) (by decide +kernel) ⟨Nat.le_of_ble_eq_true rfl, Nat.le_of_ble_eq_true rfl⟩ rfl (Nat.le_of_ble_eq_true rfl) ⟨Nat.le_of_ble_eq_true rfl, Nat.le_of_ble_eq_true rfl⟩ (c2 := 0) (s2 := 0) rfl rfl (x_0_isLike_B _ _ _ _ _ _ _ _ (hx0.isB hw_p rfl (hI.bl hw_p)) (hx0.isB hw_q rfl (hI.bl hw_q))) ?_
                  refine g_ifB_eq (P := S.2.1 5 (wh S pj) = S.2.1 5 (wh S qj) ∧ ∀ i9, i9 < S.2.1 5 (wh S pj) → bcF S (wh S pj) i9 = bcF S (wh S qj) i9) (tgt := 89) hC dX9_like_82 (by decide) (fun h82 => ?_) (fun h82 => ?_)
                  · refine g_iconst hC dX9_like_89 (v := nI 0) (by decide) ?_
                    have hlg_p : longS S pj = S.2.1 5 (wh S pj) := by unfold longS; rw [hk_p] <;> rfl
                    have hlg_q : longS S qj = S.2.1 5 (wh S qj) := by unfold longS; rw [hk_q] <;> rfl
                    have hat_p : ∀ i, atS S pj i = S.2.2 6 (16 * wh S pj + i) := fun i => by unfold atS; rw [hk_p] <;> rfl
                    have hat_q : ∀ i, atS S qj i = S.2.2 6 (16 * wh S qj + i) := fun i => by unfold atS; rw [hk_q] <;> rfl
                    have hlp : ¬ likP S pj qj := fun z => h82 (by
                      have z1 := z.1.2
                      rw [hlg_p, hlg_q] at z1
                      refine ⟨z1, fun i hi => ?_⟩
                      have z2 := z.2 i (by rw [hlg_p]; exact hi)
                      rw [hat_p, hat_q] at z2
                      rw [show bcF S (wh S pj) i = _ from if_pos hi, show bcF S (wh S qj) i = _ from if_pos (z1 ▸ hi)]
                      exact z2)
                    have hE : s_like S (nI pj) (nI qj) = (nI 0, (thS S)) := by
                      unfold s_like
                      rw [if_pos h4, if_pos h11, hpl_p, hpl_q, if_neg (show ¬ (kd S pj = 0 ∨ kd S qj = 0) by omega), if_neg (show ¬ (2 < kd S pj ∨ 2 < kd S qj) by omega), bI_f hlp] <;> rfl
                    exact g_iret hC hR dX9_like_90 ⟨b, congrArg (fun z => some (Value.int (Prod.fst z))) hE.symm, by rw [hE]; exact hx0, xG.rf⟩
                  · refine g_iconst hC dX9_like_85 (v := nI 1) (by decide) ?_
                    refine g_goto (tgt := 90) hC dX9_like_86 (by decide) ?_
                    have hlg_p : longS S pj = S.2.1 5 (wh S pj) := by unfold longS; rw [hk_p] <;> rfl
                    have hlg_q : longS S qj = S.2.1 5 (wh S qj) := by unfold longS; rw [hk_q] <;> rfl
                    have hat_p : ∀ i, atS S pj i = S.2.2 6 (16 * wh S pj + i) := fun i => by unfold atS; rw [hk_p] <;> rfl
                    have hat_q : ∀ i, atS S qj i = S.2.2 6 (16 * wh S qj + i) := fun i => by unfold atS; rw [hk_q] <;> rfl
                    have hlp : likP S pj qj := by
                      refine ⟨⟨by omega, by rw [hlg_p, hlg_q]; exact h82.1⟩, fun i hi => ?_⟩
                      rw [hlg_p] at hi
                      have z := h82.2 i hi
                      rw [hat_p, hat_q, ← show bcF S (wh S pj) i = _ from if_pos hi, ← show bcF S (wh S qj) i = _ from if_pos (h82.1 ▸ hi)]
                      exact z
                    have hE : s_like S (nI pj) (nI qj) = (nI 1, (thS S)) := by
                      unfold s_like
                      rw [if_pos h4, if_pos h11, hpl_p, hpl_q, if_neg (show ¬ (kd S pj = 0 ∨ kd S qj = 0) by omega), if_neg (show ¬ (2 < kd S pj ∨ 2 < kd S qj) by omega), bI_t hlp] <;> rfl
                    exact g_iret hC hR dX9_like_90 ⟨b, congrArg (fun z => some (Value.int (Prod.fst z))) hE.symm, by rw [hE]; exact hx0, xG.rf⟩
                · cases h67
            · cases h31
          · have hw_q : wh S qj < S.1 7 := hI.ws hqj hk_q
            have hp0_q : plcF (thS S) b qj = some (b.1 2 (wh S qj)) := plc_k hqj hk_q (by decide)
            refine g_aald hC 5 rfl (hx0.Mp rfl).1 (hx0.Mp rfl).2 (qj) rfl (show qj < 10 by omega) (by decide) dX9_like_30 ?_
            refine g_val (w := .ref (b.1 2 (wh S qj))) (congrArg va_rf hp0_q) ?_
            refine g_ifnonnull (o := some (b.1 2 (wh S qj))) (tgt := 40) hC dX9_like_31 (by decide) (fun a31 h31 => ?_) (fun h31 => ?_)
            · refine g_aload_n hC dX9_like_40 rfl 0 rfl (Or.inr ⟨_, rfl⟩) ?_
              refine g_get hC (by decide +kernel) rfl (hx0.M hM).1 (hx0.M hM).2 0 (by decide) (by decide +kernel) (Or.inl rfl) rfl dX9_like_41 ?_
              refine g_iload_n hC dX9_like_44 rfl 1 rfl ?_
              refine g_aald hC 5 rfl (hx0.Mp rfl).1 (hx0.Mp rfl).2 (pj) rfl (show pj < 10 by omega) (by decide) dX9_like_45 ?_
              refine g_val (w := .ref (b.1 0 (wh S pj))) (congrArg va_rf hp0_p) ?_
              refine g_S (As := [.ref (b.1 0 (wh S pj))]) (st := []) hC 1 dX9_like_46 gX9_like_X9_asNumbers rfl (by decide +kernel) ⟨Nat.le_of_ble_eq_true rfl, Nat.le_of_ble_eq_true rfl⟩ rfl (Nat.le_of_ble_eq_true rfl) ⟨Nat.le_of_ble_eq_true rfl, Nat.le_of_ble_eq_true rfl⟩ (c2 := 0) (s2 := 0) rfl rfl (x_asNumbers (some (b.1 0 (wh S pj))) 1 (Or.inr ⟨_, 0, _, rfl, (hx0.B hw_p rfl), Or.inl ⟨rfl, rfl⟩⟩)) ?_
              refine g_astore_n (lv' := [(3, .ref (b.1 0 (wh S pj))), (0, .ref M), (1, .int (nI pj)), (2, .int (nI qj))]) hC dX9_like_49 rfl (by decide) rfl (Or.inr ⟨_, rfl⟩) ?_
              refine g_aload_n hC dX9_like_50 rfl 1 rfl (Or.inr ⟨_, rfl⟩) ?_
              refine g_get hC (by decide +kernel) rfl (hx0.M hM).1 (hx0.M hM).2 0 (by decide) (by decide +kernel) (Or.inl rfl) rfl dX9_like_51 ?_
              refine g_iload_n hC dX9_like_54 rfl 3 rfl ?_
              refine g_aald hC 5 rfl (hx0.Mp rfl).1 (hx0.Mp rfl).2 (qj) rfl (show qj < 10 by omega) (by decide) dX9_like_55 ?_
              refine g_val (w := .ref (b.1 2 (wh S qj))) (congrArg va_rf hp0_q) ?_
              refine g_S (As := [.ref (b.1 2 (wh S qj))]) (st := []) hC 1 dX9_like_56 gX9_like_X9_asNumbers rfl (by decide +kernel) ⟨Nat.le_of_ble_eq_true rfl, Nat.le_of_ble_eq_true rfl⟩ rfl (Nat.le_of_ble_eq_true rfl) ⟨Nat.le_of_ble_eq_true rfl, Nat.le_of_ble_eq_true rfl⟩ (c2 := 0) (s2 := 0) rfl rfl (x_asNumbers (some (b.1 2 (wh S qj))) 2 (Or.inr ⟨_, 4, _, rfl, (hx0.G hw_q rfl), Or.inr (Or.inl ⟨rfl, rfl⟩)⟩)) ?_
              refine g_astore (lv' := [(4, .ref (b.1 2 (wh S qj))), (3, .ref (b.1 0 (wh S pj))), (0, .ref M), (1, .int (nI pj)), (2, .int (nI qj))]) hC dX9_like_59 (by decide) rfl (Or.inr ⟨_, rfl⟩) ?_
              refine g_aload_n hC dX9_like_61 rfl 1 rfl (Or.inr ⟨_, rfl⟩) ?_
              refine g_ifnull (o := some (b.1 0 (wh S pj))) (tgt := 70) hC dX9_like_62 (by decide) (fun h62 => ?_) (fun a62 h62 => ?_)
              · cases h62
              · refine g_aload hC dX9_like_65 0 rfl (Or.inr ⟨_, rfl⟩) ?_
                refine g_ifnonnull (o := some (b.1 2 (wh S qj))) (tgt := 76) hC dX9_like_67 (by decide) (fun a67 h67 => ?_) (fun h67 => ?_)
                · refine g_aload_n hC dX9_like_76 rfl 1 rfl (Or.inr ⟨_, rfl⟩) ?_
                  refine g_aload hC dX9_like_77 0 rfl (Or.inr ⟨_, rfl⟩) ?_
                  refine g_A (As := [.ref (b.1 2 (wh S qj))]) (st := []) hC 1 dX9_like_79 rfl (hx0.B hw_p rfl).1 (hx0.B hw_p rfl).2 gX9_like_X0_isLike_u140X0 rfl (gKK_D ⟨"KeptTerms$Numbers", "isLike", "(LKeptTerms$Numbers;)Z"⟩ (by decide)) (by decide +kernel) ⟨Nat.le_of_ble_eq_true rfl, Nat.le_of_ble_eq_true rfl⟩ rfl (Nat.le_of_ble_eq_true rfl) ⟨Nat.le_of_ble_eq_true rfl, Nat.le_of_ble_eq_true rfl⟩ (c2 := 0) (s2 := 0) rfl rfl (x_0_isLike_S _ _ _ _ _ _ _ _ (hx0.isB hw_p rfl (hI.bl hw_p)) (hx0.isS hw_q rfl (hI.2.2.2.1 _ hw_q))) ?_
                  refine g_ifN_eq (a := 0) (tgt := 89) hC dX9_like_82 (by decide) (by omega) (fun h82 => ?_) (fun h82 => ?_)
                  · refine g_iconst hC dX9_like_89 (v := nI 0) (by decide) ?_
                    have hlp : ¬ likP S pj qj := fun z => by have := z.1.1; omega
                    have hE : s_like S (nI pj) (nI qj) = (nI 0, (thS S)) := by
                      unfold s_like
                      rw [if_pos h4, if_pos h11, hpl_p, hpl_q, if_neg (show ¬ (kd S pj = 0 ∨ kd S qj = 0) by omega), if_neg (show ¬ (2 < kd S pj ∨ 2 < kd S qj) by omega), bI_f hlp] <;> rfl
                    exact g_iret hC hR dX9_like_90 ⟨b, congrArg (fun z => some (Value.int (Prod.fst z))) hE.symm, by rw [hE]; exact hx0, xG.rf⟩
                  · exfalso; omega
                · cases h67
            · cases h31
          · have hw_q : wh S qj < S.1 10 := hI.wr hqj hk_q
            have hp0_q : plcF (thS S) b qj = some (b.1 4 (wh S qj)) := plc_k hqj hk_q (by decide)
            refine g_aald hC 5 rfl (hx0.Mp rfl).1 (hx0.Mp rfl).2 (qj) rfl (show qj < 10 by omega) (by decide) dX9_like_30 ?_
            refine g_val (w := .ref (b.1 4 (wh S qj))) (congrArg va_rf hp0_q) ?_
            refine g_ifnonnull (o := some (b.1 4 (wh S qj))) (tgt := 40) hC dX9_like_31 (by decide) (fun a31 h31 => ?_) (fun h31 => ?_)
            · refine g_aload_n hC dX9_like_40 rfl 0 rfl (Or.inr ⟨_, rfl⟩) ?_
              refine g_get hC (by decide +kernel) rfl (hx0.M hM).1 (hx0.M hM).2 0 (by decide) (by decide +kernel) (Or.inl rfl) rfl dX9_like_41 ?_
              refine g_iload_n hC dX9_like_44 rfl 1 rfl ?_
              refine g_aald hC 5 rfl (hx0.Mp rfl).1 (hx0.Mp rfl).2 (pj) rfl (show pj < 10 by omega) (by decide) dX9_like_45 ?_
              refine g_val (w := .ref (b.1 0 (wh S pj))) (congrArg va_rf hp0_p) ?_
              refine g_S (As := [.ref (b.1 0 (wh S pj))]) (st := []) hC 1 dX9_like_46 gX9_like_X9_asNumbers rfl (by decide +kernel) ⟨Nat.le_of_ble_eq_true rfl, Nat.le_of_ble_eq_true rfl⟩ rfl (Nat.le_of_ble_eq_true rfl) ⟨Nat.le_of_ble_eq_true rfl, Nat.le_of_ble_eq_true rfl⟩ (c2 := 0) (s2 := 0) rfl rfl (x_asNumbers (some (b.1 0 (wh S pj))) 1 (Or.inr ⟨_, 0, _, rfl, (hx0.B hw_p rfl), Or.inl ⟨rfl, rfl⟩⟩)) ?_
              refine g_astore_n (lv' := [(3, .ref (b.1 0 (wh S pj))), (0, .ref M), (1, .int (nI pj)), (2, .int (nI qj))]) hC dX9_like_49 rfl (by decide) rfl (Or.inr ⟨_, rfl⟩) ?_
              refine g_aload_n hC dX9_like_50 rfl 1 rfl (Or.inr ⟨_, rfl⟩) ?_
              refine g_get hC (by decide +kernel) rfl (hx0.M hM).1 (hx0.M hM).2 0 (by decide) (by decide +kernel) (Or.inl rfl) rfl dX9_like_51 ?_
              refine g_iload_n hC dX9_like_54 rfl 3 rfl ?_
              refine g_aald hC 5 rfl (hx0.Mp rfl).1 (hx0.Mp rfl).2 (qj) rfl (show qj < 10 by omega) (by decide) dX9_like_55 ?_
              refine g_val (w := .ref (b.1 4 (wh S qj))) (congrArg va_rf hp0_q) ?_
              refine g_S (As := [.ref (b.1 4 (wh S qj))]) (st := []) hC 1 dX9_like_56 gX9_like_X9_asNumbers rfl (by decide +kernel) ⟨Nat.le_of_ble_eq_true rfl, Nat.le_of_ble_eq_true rfl⟩ rfl (Nat.le_of_ble_eq_true rfl) ⟨Nat.le_of_ble_eq_true rfl, Nat.le_of_ble_eq_true rfl⟩ (c2 := 0) (s2 := 0) rfl rfl (x_asNumbers (some (b.1 4 (wh S qj))) 3 (Or.inr ⟨_, 3, _, rfl, (hx0.W hw_q rfl), Or.inr (Or.inr (Or.inl ⟨rfl, rfl⟩))⟩)) ?_
              refine g_astore (lv' := [(4, .null), (3, .ref (b.1 0 (wh S pj))), (0, .ref M), (1, .int (nI pj)), (2, .int (nI qj))]) hC dX9_like_59 (by decide) rfl (Or.inl rfl) ?_
              refine g_aload_n hC dX9_like_61 rfl 1 rfl (Or.inr ⟨_, rfl⟩) ?_
              refine g_ifnull (o := some (b.1 0 (wh S pj))) (tgt := 70) hC dX9_like_62 (by decide) (fun h62 => ?_) (fun a62 h62 => ?_)
              · cases h62
              · refine g_aload hC dX9_like_65 0 rfl (Or.inl rfl) ?_
                refine g_ifnonnull (o := none) (tgt := 76) hC dX9_like_67 (by decide) (fun a67 h67 => ?_) (fun h67 => ?_)
                · cases h67
                · refine g_aload_n hC dX9_like_70 rfl 2 rfl (Or.inr ⟨_, rfl⟩) ?_
                  refine g_iconst hC dX9_like_71 (v := nI 2) (by decide) ?_
                  refine g_Vx (As := [.int (nI 2)]) (st := []) hC 1 dX9_like_72 rfl (hx0.M hM).1 (hx0.M hM).2 gX9_like_X9_failed rfl (by decide +kernel) ⟨Nat.le_of_ble_eq_true rfl, Nat.le_of_ble_eq_true rfl⟩ rfl (Nat.le_of_ble_eq_true rfl) ⟨(Nat.le_of_ble_eq_true rfl), (Nat.le_of_ble_eq_true rfl)⟩ (c2 := 0) (s2 := 0) rfl rfl (x_failed hx0 M hM 2) (fun v1 L1 f1 hp1 => ?_)
                  obtain ⟨rfl, hx1⟩ := hp1
                  show gW X vwCl 5 L1 f1 0 0 75 [(4, .null), (3, .ref (b.1 0 (wh S pj))), (0, .ref M), (1, .int (nI pj)), (2, .int (nI qj))] [.int (fA 2)]
                  have hE : s_like S (nI pj) (nI qj) = (fA 2, (aSc (thS S) 1 2)) := by
                    unfold s_like
                    rw [if_pos h4, if_pos h11, hpl_p, hpl_q, if_neg (show ¬ (kd S pj = 0 ∨ kd S qj = 0) by omega), if_pos (show 2 < kd S pj ∨ 2 < kd S qj by omega)] <;> rfl
                  exact g_iret hC hR dX9_like_75 ⟨b, congrArg (fun z => some (Value.int (Prod.fst z))) hE.symm, by rw [hE]; exact hx1, xG.rf⟩
            · cases h31
          · have hw_q : wh S qj < S.1 13 := hI.wt hqj (by omega)
            have hb_q : S.2.1 14 (wh S qj) = 0 := by have := ((hI.2.1 _ hqj).2.2.2.2.2 (by omega)).2; omega
            have hp0_q : plcF (thS S) b qj = some (b.1 6 (wh S qj)) := plc_k hqj hk_q (by decide)
            refine g_aald hC 5 rfl (hx0.Mp rfl).1 (hx0.Mp rfl).2 (qj) rfl (show qj < 10 by omega) (by decide) dX9_like_30 ?_
            refine g_val (w := .ref (b.1 6 (wh S qj))) (congrArg va_rf hp0_q) ?_
            refine g_ifnonnull (o := some (b.1 6 (wh S qj))) (tgt := 40) hC dX9_like_31 (by decide) (fun a31 h31 => ?_) (fun h31 => ?_)
            · refine g_aload_n hC dX9_like_40 rfl 0 rfl (Or.inr ⟨_, rfl⟩) ?_
              refine g_get hC (by decide +kernel) rfl (hx0.M hM).1 (hx0.M hM).2 0 (by decide) (by decide +kernel) (Or.inl rfl) rfl dX9_like_41 ?_
              refine g_iload_n hC dX9_like_44 rfl 1 rfl ?_
              refine g_aald hC 5 rfl (hx0.Mp rfl).1 (hx0.Mp rfl).2 (pj) rfl (show pj < 10 by omega) (by decide) dX9_like_45 ?_
              refine g_val (w := .ref (b.1 0 (wh S pj))) (congrArg va_rf hp0_p) ?_
              refine g_S (As := [.ref (b.1 0 (wh S pj))]) (st := []) hC 1 dX9_like_46 gX9_like_X9_asNumbers rfl (by decide +kernel) ⟨Nat.le_of_ble_eq_true rfl, Nat.le_of_ble_eq_true rfl⟩ rfl (Nat.le_of_ble_eq_true rfl) ⟨Nat.le_of_ble_eq_true rfl, Nat.le_of_ble_eq_true rfl⟩ (c2 := 0) (s2 := 0) rfl rfl (x_asNumbers (some (b.1 0 (wh S pj))) 1 (Or.inr ⟨_, 0, _, rfl, (hx0.B hw_p rfl), Or.inl ⟨rfl, rfl⟩⟩)) ?_
              refine g_astore_n (lv' := [(3, .ref (b.1 0 (wh S pj))), (0, .ref M), (1, .int (nI pj)), (2, .int (nI qj))]) hC dX9_like_49 rfl (by decide) rfl (Or.inr ⟨_, rfl⟩) ?_
              refine g_aload_n hC dX9_like_50 rfl 1 rfl (Or.inr ⟨_, rfl⟩) ?_
              refine g_get hC (by decide +kernel) rfl (hx0.M hM).1 (hx0.M hM).2 0 (by decide) (by decide +kernel) (Or.inl rfl) rfl dX9_like_51 ?_
              refine g_iload_n hC dX9_like_54 rfl 3 rfl ?_
              refine g_aald hC 5 rfl (hx0.Mp rfl).1 (hx0.Mp rfl).2 (qj) rfl (show qj < 10 by omega) (by decide) dX9_like_55 ?_
              refine g_val (w := .ref (b.1 6 (wh S qj))) (congrArg va_rf hp0_q) ?_
              refine g_S (As := [.ref (b.1 6 (wh S qj))]) (st := []) hC 1 dX9_like_56 gX9_like_X9_asNumbers rfl (by decide +kernel) ⟨Nat.le_of_ble_eq_true rfl, Nat.le_of_ble_eq_true rfl⟩ rfl (Nat.le_of_ble_eq_true rfl) ⟨Nat.le_of_ble_eq_true rfl, Nat.le_of_ble_eq_true rfl⟩ (c2 := 0) (s2 := 0) rfl rfl (x_asNumbers (some (b.1 6 (wh S qj))) 4 (Or.inr ⟨_, 5, _, rfl, (hx0.T hw_q rfl hb_q), Or.inr (Or.inr (Or.inr (Or.inl ⟨rfl, rfl⟩)))⟩)) ?_
              refine g_astore (lv' := [(4, .null), (3, .ref (b.1 0 (wh S pj))), (0, .ref M), (1, .int (nI pj)), (2, .int (nI qj))]) hC dX9_like_59 (by decide) rfl (Or.inl rfl) ?_
              refine g_aload_n hC dX9_like_61 rfl 1 rfl (Or.inr ⟨_, rfl⟩) ?_
              refine g_ifnull (o := some (b.1 0 (wh S pj))) (tgt := 70) hC dX9_like_62 (by decide) (fun h62 => ?_) (fun a62 h62 => ?_)
              · cases h62
              · refine g_aload hC dX9_like_65 0 rfl (Or.inl rfl) ?_
                refine g_ifnonnull (o := none) (tgt := 76) hC dX9_like_67 (by decide) (fun a67 h67 => ?_) (fun h67 => ?_)
                · cases h67
                · refine g_aload_n hC dX9_like_70 rfl 2 rfl (Or.inr ⟨_, rfl⟩) ?_
                  refine g_iconst hC dX9_like_71 (v := nI 2) (by decide) ?_
                  refine g_Vx (As := [.int (nI 2)]) (st := []) hC 1 dX9_like_72 rfl (hx0.M hM).1 (hx0.M hM).2 gX9_like_X9_failed rfl (by decide +kernel) ⟨Nat.le_of_ble_eq_true rfl, Nat.le_of_ble_eq_true rfl⟩ rfl (Nat.le_of_ble_eq_true rfl) ⟨(Nat.le_of_ble_eq_true rfl), (Nat.le_of_ble_eq_true rfl)⟩ (c2 := 0) (s2 := 0) rfl rfl (x_failed hx0 M hM 2) (fun v1 L1 f1 hp1 => ?_)
                  obtain ⟨rfl, hx1⟩ := hp1
                  show gW X vwCl 5 L1 f1 0 0 75 [(4, .null), (3, .ref (b.1 0 (wh S pj))), (0, .ref M), (1, .int (nI pj)), (2, .int (nI qj))] [.int (fA 2)]
                  have hE : s_like S (nI pj) (nI qj) = (fA 2, (aSc (thS S) 1 2)) := by
                    unfold s_like
                    rw [if_pos h4, if_pos h11, hpl_p, hpl_q, if_neg (show ¬ (kd S pj = 0 ∨ kd S qj = 0) by omega), if_pos (show 2 < kd S pj ∨ 2 < kd S qj by omega)] <;> rfl
                  exact g_iret hC hR dX9_like_75 ⟨b, congrArg (fun z => some (Value.int (Prod.fst z))) hE.symm, by rw [hE]; exact hx1, xG.rf⟩
            · cases h31
          · have hw_q : wh S qj < S.1 13 := hI.wt hqj (by omega)
            have hb_q : S.2.1 14 (wh S qj) ≠ 0 := by have := ((hI.2.1 _ hqj).2.2.2.2.2 (by omega)).2; omega
            have hp0_q : plcF (thS S) b qj = some (b.1 6 (wh S qj)) := plc_k hqj hk_q (by decide)
            refine g_aald hC 5 rfl (hx0.Mp rfl).1 (hx0.Mp rfl).2 (qj) rfl (show qj < 10 by omega) (by decide) dX9_like_30 ?_
            refine g_val (w := .ref (b.1 6 (wh S qj))) (congrArg va_rf hp0_q) ?_
            refine g_ifnonnull (o := some (b.1 6 (wh S qj))) (tgt := 40) hC dX9_like_31 (by decide) (fun a31 h31 => ?_) (fun h31 => ?_)
            · refine g_aload_n hC dX9_like_40 rfl 0 rfl (Or.inr ⟨_, rfl⟩) ?_
              refine g_get hC (by decide +kernel) rfl (hx0.M hM).1 (hx0.M hM).2 0 (by decide) (by decide +kernel) (Or.inl rfl) rfl dX9_like_41 ?_
              refine g_iload_n hC dX9_like_44 rfl 1 rfl ?_
              refine g_aald hC 5 rfl (hx0.Mp rfl).1 (hx0.Mp rfl).2 (pj) rfl (show pj < 10 by omega) (by decide) dX9_like_45 ?_
              refine g_val (w := .ref (b.1 0 (wh S pj))) (congrArg va_rf hp0_p) ?_
              refine g_S (As := [.ref (b.1 0 (wh S pj))]) (st := []) hC 1 dX9_like_46 gX9_like_X9_asNumbers rfl (by decide +kernel) ⟨Nat.le_of_ble_eq_true rfl, Nat.le_of_ble_eq_true rfl⟩ rfl (Nat.le_of_ble_eq_true rfl) ⟨Nat.le_of_ble_eq_true rfl, Nat.le_of_ble_eq_true rfl⟩ (c2 := 0) (s2 := 0) rfl rfl (x_asNumbers (some (b.1 0 (wh S pj))) 1 (Or.inr ⟨_, 0, _, rfl, (hx0.B hw_p rfl), Or.inl ⟨rfl, rfl⟩⟩)) ?_
              refine g_astore_n (lv' := [(3, .ref (b.1 0 (wh S pj))), (0, .ref M), (1, .int (nI pj)), (2, .int (nI qj))]) hC dX9_like_49 rfl (by decide) rfl (Or.inr ⟨_, rfl⟩) ?_
              refine g_aload_n hC dX9_like_50 rfl 1 rfl (Or.inr ⟨_, rfl⟩) ?_
              refine g_get hC (by decide +kernel) rfl (hx0.M hM).1 (hx0.M hM).2 0 (by decide) (by decide +kernel) (Or.inl rfl) rfl dX9_like_51 ?_
              refine g_iload_n hC dX9_like_54 rfl 3 rfl ?_
              refine g_aald hC 5 rfl (hx0.Mp rfl).1 (hx0.Mp rfl).2 (qj) rfl (show qj < 10 by omega) (by decide) dX9_like_55 ?_
              refine g_val (w := .ref (b.1 6 (wh S qj))) (congrArg va_rf hp0_q) ?_
              refine g_S (As := [.ref (b.1 6 (wh S qj))]) (st := []) hC 1 dX9_like_56 gX9_like_X9_asNumbers rfl (by decide +kernel) ⟨Nat.le_of_ble_eq_true rfl, Nat.le_of_ble_eq_true rfl⟩ rfl (Nat.le_of_ble_eq_true rfl) ⟨Nat.le_of_ble_eq_true rfl, Nat.le_of_ble_eq_true rfl⟩ (c2 := 0) (s2 := 0) rfl rfl (x_asNumbers (some (b.1 6 (wh S qj))) 5 (Or.inr ⟨_, 1, _, rfl, (hx0.K hw_q rfl hb_q), Or.inr (Or.inr (Or.inr (Or.inr ⟨rfl, rfl⟩)))⟩)) ?_
              refine g_astore (lv' := [(4, .null), (3, .ref (b.1 0 (wh S pj))), (0, .ref M), (1, .int (nI pj)), (2, .int (nI qj))]) hC dX9_like_59 (by decide) rfl (Or.inl rfl) ?_
              refine g_aload_n hC dX9_like_61 rfl 1 rfl (Or.inr ⟨_, rfl⟩) ?_
              refine g_ifnull (o := some (b.1 0 (wh S pj))) (tgt := 70) hC dX9_like_62 (by decide) (fun h62 => ?_) (fun a62 h62 => ?_)
              · cases h62
              · refine g_aload hC dX9_like_65 0 rfl (Or.inl rfl) ?_
                refine g_ifnonnull (o := none) (tgt := 76) hC dX9_like_67 (by decide) (fun a67 h67 => ?_) (fun h67 => ?_)
                · cases h67
                · refine g_aload_n hC dX9_like_70 rfl 2 rfl (Or.inr ⟨_, rfl⟩) ?_
                  refine g_iconst hC dX9_like_71 (v := nI 2) (by decide) ?_
                  refine g_Vx (As := [.int (nI 2)]) (st := []) hC 1 dX9_like_72 rfl (hx0.M hM).1 (hx0.M hM).2 gX9_like_X9_failed rfl (by decide +kernel) ⟨Nat.le_of_ble_eq_true rfl, Nat.le_of_ble_eq_true rfl⟩ rfl (Nat.le_of_ble_eq_true rfl) ⟨(Nat.le_of_ble_eq_true rfl), (Nat.le_of_ble_eq_true rfl)⟩ (c2 := 0) (s2 := 0) rfl rfl (x_failed hx0 M hM 2) (fun v1 L1 f1 hp1 => ?_)
                  obtain ⟨rfl, hx1⟩ := hp1
                  show gW X vwCl 5 L1 f1 0 0 75 [(4, .null), (3, .ref (b.1 0 (wh S pj))), (0, .ref M), (1, .int (nI pj)), (2, .int (nI qj))] [.int (fA 2)]
                  have hE : s_like S (nI pj) (nI qj) = (fA 2, (aSc (thS S) 1 2)) := by
                    unfold s_like
                    rw [if_pos h4, if_pos h11, hpl_p, hpl_q, if_neg (show ¬ (kd S pj = 0 ∨ kd S qj = 0) by omega), if_pos (show 2 < kd S pj ∨ 2 < kd S qj by omega)] <;> rfl
                  exact g_iret hC hR dX9_like_75 ⟨b, congrArg (fun z => some (Value.int (Prod.fst z))) hE.symm, by rw [hE]; exact hx1, xG.rf⟩
            · cases h31
      · have hw_p : wh S pj < S.1 7 := hI.ws hpj hk_p
        have hp0_p : plcF (thS S) b pj = some (b.1 2 (wh S pj)) := plc_k hpj hk_p (by decide)
        refine g_aald hC 5 rfl (hx0.Mp rfl).1 (hx0.Mp rfl).2 (pj) rfl (show pj < 10 by omega) (by decide) dX9_like_21 ?_
        refine g_val (w := .ref (b.1 2 (wh S pj))) (congrArg va_rf hp0_p) ?_
        refine g_ifnull (o := some (b.1 2 (wh S pj))) (tgt := 34) hC dX9_like_22 (by decide) (fun h22 => ?_) (fun a22 h22 => ?_)
        · cases h22
        · refine g_aload_n hC dX9_like_25 rfl 0 rfl (Or.inr ⟨_, rfl⟩) ?_
          refine g_get hC (by decide +kernel) rfl (hx0.M hM).1 (hx0.M hM).2 0 (by decide) (by decide +kernel) (Or.inl rfl) rfl dX9_like_26 ?_
          refine g_iload_n hC dX9_like_29 rfl 2 rfl ?_
          have h5_q := hI.k5 hqj
          rcases (show kd S qj = 0 ∨ kd S qj = 1 ∨ kd S qj = 2 ∨ kd S qj = 3 ∨ kd S qj = 4 ∨ kd S qj = 5 by omega) with hk_q | hk_q | hk_q | hk_q | hk_q | hk_q
          · have hp0_q : plcF (thS S) b qj = none := plc_0 hqj hk_q
            refine g_aald hC 5 rfl (hx0.Mp rfl).1 (hx0.Mp rfl).2 (qj) rfl (show qj < 10 by omega) (by decide) dX9_like_30 ?_
            refine g_val (w := .null) (congrArg va_rf hp0_q) ?_
            refine g_ifnonnull (o := none) (tgt := 40) hC dX9_like_31 (by decide) (fun a31 h31 => ?_) (fun h31 => ?_)
            · cases h31
            · refine g_aload_n hC dX9_like_34 rfl 0 rfl (Or.inr ⟨_, rfl⟩) ?_
              refine g_iconst hC dX9_like_35 (v := nI 1) (by decide) ?_
              refine g_Vx (As := [.int (nI 1)]) (st := []) hC 1 dX9_like_36 rfl (hx0.M hM).1 (hx0.M hM).2 gX9_like_X9_failed rfl (by decide +kernel) ⟨Nat.le_of_ble_eq_true rfl, Nat.le_of_ble_eq_true rfl⟩ rfl (Nat.le_of_ble_eq_true rfl) ⟨(Nat.le_of_ble_eq_true rfl), (Nat.le_of_ble_eq_true rfl)⟩ (c2 := 0) (s2 := 0) rfl rfl (x_failed hx0 M hM 1) (fun v1 L1 f1 hp1 => ?_)
              obtain ⟨rfl, hx1⟩ := hp1
              show gW X vwCl 5 L1 f1 0 0 39 [(0, .ref M), (1, .int (nI pj)), (2, .int (nI qj))] [.int (fA 1)]
              have hE : s_like S (nI pj) (nI qj) = (fA 1, (aSc (thS S) 1 1)) := by
                unfold s_like
                rw [if_pos h4, if_pos h11, hpl_p, hpl_q, if_pos (Or.inr hk_q)] <;> rfl
              exact g_iret hC hR dX9_like_39 ⟨b, congrArg (fun z => some (Value.int (Prod.fst z))) hE.symm, by rw [hE]; exact hx1, xG.rf⟩
          · have hw_q : wh S qj < S.1 4 := hI.wl hqj hk_q
            have hp0_q : plcF (thS S) b qj = some (b.1 0 (wh S qj)) := plc_k hqj hk_q (by decide)
            refine g_aald hC 5 rfl (hx0.Mp rfl).1 (hx0.Mp rfl).2 (qj) rfl (show qj < 10 by omega) (by decide) dX9_like_30 ?_
            refine g_val (w := .ref (b.1 0 (wh S qj))) (congrArg va_rf hp0_q) ?_
            refine g_ifnonnull (o := some (b.1 0 (wh S qj))) (tgt := 40) hC dX9_like_31 (by decide) (fun a31 h31 => ?_) (fun h31 => ?_)
            · refine g_aload_n hC dX9_like_40 rfl 0 rfl (Or.inr ⟨_, rfl⟩) ?_
              refine g_get hC (by decide +kernel) rfl (hx0.M hM).1 (hx0.M hM).2 0 (by decide) (by decide +kernel) (Or.inl rfl) rfl dX9_like_41 ?_
              refine g_iload_n hC dX9_like_44 rfl 1 rfl ?_
              refine g_aald hC 5 rfl (hx0.Mp rfl).1 (hx0.Mp rfl).2 (pj) rfl (show pj < 10 by omega) (by decide) dX9_like_45 ?_
              refine g_val (w := .ref (b.1 2 (wh S pj))) (congrArg va_rf hp0_p) ?_
              refine g_S (As := [.ref (b.1 2 (wh S pj))]) (st := []) hC 1 dX9_like_46 gX9_like_X9_asNumbers rfl (by decide +kernel) ⟨Nat.le_of_ble_eq_true rfl, Nat.le_of_ble_eq_true rfl⟩ rfl (Nat.le_of_ble_eq_true rfl) ⟨Nat.le_of_ble_eq_true rfl, Nat.le_of_ble_eq_true rfl⟩ (c2 := 0) (s2 := 0) rfl rfl (x_asNumbers (some (b.1 2 (wh S pj))) 2 (Or.inr ⟨_, 4, _, rfl, (hx0.G hw_p rfl), Or.inr (Or.inl ⟨rfl, rfl⟩)⟩)) ?_
              refine g_astore_n (lv' := [(3, .ref (b.1 2 (wh S pj))), (0, .ref M), (1, .int (nI pj)), (2, .int (nI qj))]) hC dX9_like_49 rfl (by decide) rfl (Or.inr ⟨_, rfl⟩) ?_
              refine g_aload_n hC dX9_like_50 rfl 1 rfl (Or.inr ⟨_, rfl⟩) ?_
              refine g_get hC (by decide +kernel) rfl (hx0.M hM).1 (hx0.M hM).2 0 (by decide) (by decide +kernel) (Or.inl rfl) rfl dX9_like_51 ?_
              refine g_iload_n hC dX9_like_54 rfl 3 rfl ?_
              refine g_aald hC 5 rfl (hx0.Mp rfl).1 (hx0.Mp rfl).2 (qj) rfl (show qj < 10 by omega) (by decide) dX9_like_55 ?_
              refine g_val (w := .ref (b.1 0 (wh S qj))) (congrArg va_rf hp0_q) ?_
              refine g_S (As := [.ref (b.1 0 (wh S qj))]) (st := []) hC 1 dX9_like_56 gX9_like_X9_asNumbers rfl (by decide +kernel) ⟨Nat.le_of_ble_eq_true rfl, Nat.le_of_ble_eq_true rfl⟩ rfl (Nat.le_of_ble_eq_true rfl) ⟨Nat.le_of_ble_eq_true rfl, Nat.le_of_ble_eq_true rfl⟩ (c2 := 0) (s2 := 0) rfl rfl (x_asNumbers (some (b.1 0 (wh S qj))) 1 (Or.inr ⟨_, 0, _, rfl, (hx0.B hw_q rfl), Or.inl ⟨rfl, rfl⟩⟩)) ?_
              refine g_astore (lv' := [(4, .ref (b.1 0 (wh S qj))), (3, .ref (b.1 2 (wh S pj))), (0, .ref M), (1, .int (nI pj)), (2, .int (nI qj))]) hC dX9_like_59 (by decide) rfl (Or.inr ⟨_, rfl⟩) ?_
              refine g_aload_n hC dX9_like_61 rfl 1 rfl (Or.inr ⟨_, rfl⟩) ?_
              refine g_ifnull (o := some (b.1 2 (wh S pj))) (tgt := 70) hC dX9_like_62 (by decide) (fun h62 => ?_) (fun a62 h62 => ?_)
              · cases h62
              · refine g_aload hC dX9_like_65 0 rfl (Or.inr ⟨_, rfl⟩) ?_
                refine g_ifnonnull (o := some (b.1 0 (wh S qj))) (tgt := 76) hC dX9_like_67 (by decide) (fun a67 h67 => ?_) (fun h67 => ?_)
                · refine g_aload_n hC dX9_like_76 rfl 1 rfl (Or.inr ⟨_, rfl⟩) ?_
                  refine g_aload hC dX9_like_77 0 rfl (Or.inr ⟨_, rfl⟩) ?_
                  refine g_A (As := [.ref (b.1 0 (wh S qj))]) (st := []) hC 1 dX9_like_79 rfl (hx0.G hw_p rfl).1 (hx0.G hw_p rfl).2 gX9_like_X6_isLike_u140X6 rfl (gKK_D ⟨"KeptTerms$Numbers", "isLike", "(LKeptTerms$Numbers;)Z"⟩ (by decide)) (by decide +kernel) ⟨Nat.le_of_ble_eq_true rfl, Nat.le_of_ble_eq_true rfl⟩ rfl (Nat.le_of_ble_eq_true rfl) ⟨Nat.le_of_ble_eq_true rfl, Nat.le_of_ble_eq_true rfl⟩ (c2 := 0) (s2 := 0) rfl rfl (x_6_isLike_B _ _ _ _ _ _ _ _ (hx0.isS hw_p rfl (hI.2.2.2.1 _ hw_p)) (hx0.isB hw_q rfl (hI.bl hw_q))) ?_
                  refine g_ifN_eq (a := 0) (tgt := 89) hC dX9_like_82 (by decide) (by omega) (fun h82 => ?_) (fun h82 => ?_)
                  · refine g_iconst hC dX9_like_89 (v := nI 0) (by decide) ?_
                    have hlp : ¬ likP S pj qj := fun z => by have := z.1.1; omega
                    have hE : s_like S (nI pj) (nI qj) = (nI 0, (thS S)) := by
                      unfold s_like
                      rw [if_pos h4, if_pos h11, hpl_p, hpl_q, if_neg (show ¬ (kd S pj = 0 ∨ kd S qj = 0) by omega), if_neg (show ¬ (2 < kd S pj ∨ 2 < kd S qj) by omega), bI_f hlp] <;> rfl
                    exact g_iret hC hR dX9_like_90 ⟨b, congrArg (fun z => some (Value.int (Prod.fst z))) hE.symm, by rw [hE]; exact hx0, xG.rf⟩
                  · exfalso; omega
                · cases h67
            · cases h31
          · have hw_q : wh S qj < S.1 7 := hI.ws hqj hk_q
            have hp0_q : plcF (thS S) b qj = some (b.1 2 (wh S qj)) := plc_k hqj hk_q (by decide)
            refine g_aald hC 5 rfl (hx0.Mp rfl).1 (hx0.Mp rfl).2 (qj) rfl (show qj < 10 by omega) (by decide) dX9_like_30 ?_
            refine g_val (w := .ref (b.1 2 (wh S qj))) (congrArg va_rf hp0_q) ?_
            refine g_ifnonnull (o := some (b.1 2 (wh S qj))) (tgt := 40) hC dX9_like_31 (by decide) (fun a31 h31 => ?_) (fun h31 => ?_)
            · refine g_aload_n hC dX9_like_40 rfl 0 rfl (Or.inr ⟨_, rfl⟩) ?_
              refine g_get hC (by decide +kernel) rfl (hx0.M hM).1 (hx0.M hM).2 0 (by decide) (by decide +kernel) (Or.inl rfl) rfl dX9_like_41 ?_
              refine g_iload_n hC dX9_like_44 rfl 1 rfl ?_
              refine g_aald hC 5 rfl (hx0.Mp rfl).1 (hx0.Mp rfl).2 (pj) rfl (show pj < 10 by omega) (by decide) dX9_like_45 ?_
              refine g_val (w := .ref (b.1 2 (wh S pj))) (congrArg va_rf hp0_p) ?_
              refine g_S (As := [.ref (b.1 2 (wh S pj))]) (st := []) hC 1 dX9_like_46 gX9_like_X9_asNumbers rfl (by decide +kernel) ⟨Nat.le_of_ble_eq_true rfl, Nat.le_of_ble_eq_true rfl⟩ rfl (Nat.le_of_ble_eq_true rfl) ⟨Nat.le_of_ble_eq_true rfl, Nat.le_of_ble_eq_true rfl⟩ (c2 := 0) (s2 := 0) rfl rfl (x_asNumbers (some (b.1 2 (wh S pj))) 2 (Or.inr ⟨_, 4, _, rfl, (hx0.G hw_p rfl), Or.inr (Or.inl ⟨rfl, rfl⟩)⟩)) ?_
              refine g_astore_n (lv' := [(3, .ref (b.1 2 (wh S pj))), (0, .ref M), (1, .int (nI pj)), (2, .int (nI qj))]) hC dX9_like_49 rfl (by decide) rfl (Or.inr ⟨_, rfl⟩) ?_
              refine g_aload_n hC dX9_like_50 rfl 1 rfl (Or.inr ⟨_, rfl⟩) ?_
              refine g_get hC (by decide +kernel) rfl (hx0.M hM).1 (hx0.M hM).2 0 (by decide) (by decide +kernel) (Or.inl rfl) rfl dX9_like_51 ?_
              refine g_iload_n hC dX9_like_54 rfl 3 rfl ?_
              refine g_aald hC 5 rfl (hx0.Mp rfl).1 (hx0.Mp rfl).2 (qj) rfl (show qj < 10 by omega) (by decide) dX9_like_55 ?_
              refine g_val (w := .ref (b.1 2 (wh S qj))) (congrArg va_rf hp0_q) ?_
              refine g_S (As := [.ref (b.1 2 (wh S qj))]) (st := []) hC 1 dX9_like_56 gX9_like_X9_asNumbers rfl (by decide +kernel) ⟨Nat.le_of_ble_eq_true rfl, Nat.le_of_ble_eq_true rfl⟩ rfl (Nat.le_of_ble_eq_true rfl) ⟨Nat.le_of_ble_eq_true rfl, Nat.le_of_ble_eq_true rfl⟩ (c2 := 0) (s2 := 0) rfl rfl (x_asNumbers (some (b.1 2 (wh S qj))) 2 (Or.inr ⟨_, 4, _, rfl, (hx0.G hw_q rfl), Or.inr (Or.inl ⟨rfl, rfl⟩)⟩)) ?_
              refine g_astore (lv' := [(4, .ref (b.1 2 (wh S qj))), (3, .ref (b.1 2 (wh S pj))), (0, .ref M), (1, .int (nI pj)), (2, .int (nI qj))]) hC dX9_like_59 (by decide) rfl (Or.inr ⟨_, rfl⟩) ?_
              refine g_aload_n hC dX9_like_61 rfl 1 rfl (Or.inr ⟨_, rfl⟩) ?_
              refine g_ifnull (o := some (b.1 2 (wh S pj))) (tgt := 70) hC dX9_like_62 (by decide) (fun h62 => ?_) (fun a62 h62 => ?_)
              · cases h62
              · refine g_aload hC dX9_like_65 0 rfl (Or.inr ⟨_, rfl⟩) ?_
                refine g_ifnonnull (o := some (b.1 2 (wh S qj))) (tgt := 76) hC dX9_like_67 (by decide) (fun a67 h67 => ?_) (fun h67 => ?_)
                · refine g_aload_n hC dX9_like_76 rfl 1 rfl (Or.inr ⟨_, rfl⟩) ?_
                  refine g_aload hC dX9_like_77 0 rfl (Or.inr ⟨_, rfl⟩) ?_
                  refine g_A (As := [.ref (b.1 2 (wh S qj))]) (st := []) hC 1 dX9_like_79 rfl (hx0.G hw_p rfl).1 (hx0.G hw_p rfl).2 gX9_like_X6_isLike_u140X6 rfl (gKK_D ⟨"KeptTerms$Numbers", "isLike", "(LKeptTerms$Numbers;)Z"⟩ (by decide)) (by decide +kernel) ⟨Nat.le_of_ble_eq_true rfl, Nat.le_of_ble_eq_true rfl⟩ rfl (Nat.le_of_ble_eq_true rfl) ⟨Nat.le_of_ble_eq_true rfl, Nat.le_of_ble_eq_true rfl⟩ (c2 := 0) (s2 := 0) rfl rfl (x_6_isLike_S _ _ _ _ _ _ _ _ (hx0.isS hw_p rfl (hI.2.2.2.1 _ hw_p)) (hx0.isS hw_q rfl (hI.2.2.2.1 _ hw_q))) ?_
                  refine g_ifB_eq (P := S.2.1 8 (wh S pj) = S.2.1 8 (wh S qj) ∧ ∀ i9, i9 < S.2.1 8 (wh S pj) → scF S (wh S pj) i9 = scF S (wh S qj) i9) (tgt := 89) hC dX9_like_82 (by decide) (fun h82 => ?_) (fun h82 => ?_)
                  · refine g_iconst hC dX9_like_89 (v := nI 0) (by decide) ?_
                    have hlg_p : longS S pj = S.2.1 8 (wh S pj) := by unfold longS; rw [hk_p] <;> rfl
                    have hlg_q : longS S qj = S.2.1 8 (wh S qj) := by unfold longS; rw [hk_q] <;> rfl
                    have hat_p : ∀ i, atS S pj i = S.2.2 9 (16 * wh S pj + i) := fun i => by unfold atS; rw [hk_p] <;> rfl
                    have hat_q : ∀ i, atS S qj i = S.2.2 9 (16 * wh S qj + i) := fun i => by unfold atS; rw [hk_q] <;> rfl
                    have hlp : ¬ likP S pj qj := fun z => h82 (by
                      have z1 := z.1.2
                      rw [hlg_p, hlg_q] at z1
                      refine ⟨z1, fun i hi => ?_⟩
                      have z2 := z.2 i (by rw [hlg_p]; exact hi)
                      rw [hat_p, hat_q] at z2
                      rw [show scF S (wh S pj) i = _ from if_pos hi, show scF S (wh S qj) i = _ from if_pos (z1 ▸ hi)]
                      exact z2)
                    have hE : s_like S (nI pj) (nI qj) = (nI 0, (thS S)) := by
                      unfold s_like
                      rw [if_pos h4, if_pos h11, hpl_p, hpl_q, if_neg (show ¬ (kd S pj = 0 ∨ kd S qj = 0) by omega), if_neg (show ¬ (2 < kd S pj ∨ 2 < kd S qj) by omega), bI_f hlp] <;> rfl
                    exact g_iret hC hR dX9_like_90 ⟨b, congrArg (fun z => some (Value.int (Prod.fst z))) hE.symm, by rw [hE]; exact hx0, xG.rf⟩
                  · refine g_iconst hC dX9_like_85 (v := nI 1) (by decide) ?_
                    refine g_goto (tgt := 90) hC dX9_like_86 (by decide) ?_
                    have hlg_p : longS S pj = S.2.1 8 (wh S pj) := by unfold longS; rw [hk_p] <;> rfl
                    have hlg_q : longS S qj = S.2.1 8 (wh S qj) := by unfold longS; rw [hk_q] <;> rfl
                    have hat_p : ∀ i, atS S pj i = S.2.2 9 (16 * wh S pj + i) := fun i => by unfold atS; rw [hk_p] <;> rfl
                    have hat_q : ∀ i, atS S qj i = S.2.2 9 (16 * wh S qj + i) := fun i => by unfold atS; rw [hk_q] <;> rfl
                    have hlp : likP S pj qj := by
                      refine ⟨⟨by omega, by rw [hlg_p, hlg_q]; exact h82.1⟩, fun i hi => ?_⟩
                      rw [hlg_p] at hi
                      have z := h82.2 i hi
                      rw [hat_p, hat_q, ← show scF S (wh S pj) i = _ from if_pos hi, ← show scF S (wh S qj) i = _ from if_pos (h82.1 ▸ hi)]
                      exact z
                    have hE : s_like S (nI pj) (nI qj) = (nI 1, (thS S)) := by
                      unfold s_like
                      rw [if_pos h4, if_pos h11, hpl_p, hpl_q, if_neg (show ¬ (kd S pj = 0 ∨ kd S qj = 0) by omega), if_neg (show ¬ (2 < kd S pj ∨ 2 < kd S qj) by omega), bI_t hlp] <;> rfl
                    exact g_iret hC hR dX9_like_90 ⟨b, congrArg (fun z => some (Value.int (Prod.fst z))) hE.symm, by rw [hE]; exact hx0, xG.rf⟩
                · cases h67
            · cases h31
          · have hw_q : wh S qj < S.1 10 := hI.wr hqj hk_q
            have hp0_q : plcF (thS S) b qj = some (b.1 4 (wh S qj)) := plc_k hqj hk_q (by decide)
            refine g_aald hC 5 rfl (hx0.Mp rfl).1 (hx0.Mp rfl).2 (qj) rfl (show qj < 10 by omega) (by decide) dX9_like_30 ?_
            refine g_val (w := .ref (b.1 4 (wh S qj))) (congrArg va_rf hp0_q) ?_
            refine g_ifnonnull (o := some (b.1 4 (wh S qj))) (tgt := 40) hC dX9_like_31 (by decide) (fun a31 h31 => ?_) (fun h31 => ?_)
            · refine g_aload_n hC dX9_like_40 rfl 0 rfl (Or.inr ⟨_, rfl⟩) ?_
              refine g_get hC (by decide +kernel) rfl (hx0.M hM).1 (hx0.M hM).2 0 (by decide) (by decide +kernel) (Or.inl rfl) rfl dX9_like_41 ?_
              refine g_iload_n hC dX9_like_44 rfl 1 rfl ?_
              refine g_aald hC 5 rfl (hx0.Mp rfl).1 (hx0.Mp rfl).2 (pj) rfl (show pj < 10 by omega) (by decide) dX9_like_45 ?_
              refine g_val (w := .ref (b.1 2 (wh S pj))) (congrArg va_rf hp0_p) ?_
              refine g_S (As := [.ref (b.1 2 (wh S pj))]) (st := []) hC 1 dX9_like_46 gX9_like_X9_asNumbers rfl (by decide +kernel) ⟨Nat.le_of_ble_eq_true rfl, Nat.le_of_ble_eq_true rfl⟩ rfl (Nat.le_of_ble_eq_true rfl) ⟨Nat.le_of_ble_eq_true rfl, Nat.le_of_ble_eq_true rfl⟩ (c2 := 0) (s2 := 0) rfl rfl (x_asNumbers (some (b.1 2 (wh S pj))) 2 (Or.inr ⟨_, 4, _, rfl, (hx0.G hw_p rfl), Or.inr (Or.inl ⟨rfl, rfl⟩)⟩)) ?_
              refine g_astore_n (lv' := [(3, .ref (b.1 2 (wh S pj))), (0, .ref M), (1, .int (nI pj)), (2, .int (nI qj))]) hC dX9_like_49 rfl (by decide) rfl (Or.inr ⟨_, rfl⟩) ?_
              refine g_aload_n hC dX9_like_50 rfl 1 rfl (Or.inr ⟨_, rfl⟩) ?_
              refine g_get hC (by decide +kernel) rfl (hx0.M hM).1 (hx0.M hM).2 0 (by decide) (by decide +kernel) (Or.inl rfl) rfl dX9_like_51 ?_
              refine g_iload_n hC dX9_like_54 rfl 3 rfl ?_
              refine g_aald hC 5 rfl (hx0.Mp rfl).1 (hx0.Mp rfl).2 (qj) rfl (show qj < 10 by omega) (by decide) dX9_like_55 ?_
              refine g_val (w := .ref (b.1 4 (wh S qj))) (congrArg va_rf hp0_q) ?_
              refine g_S (As := [.ref (b.1 4 (wh S qj))]) (st := []) hC 1 dX9_like_56 gX9_like_X9_asNumbers rfl (by decide +kernel) ⟨Nat.le_of_ble_eq_true rfl, Nat.le_of_ble_eq_true rfl⟩ rfl (Nat.le_of_ble_eq_true rfl) ⟨Nat.le_of_ble_eq_true rfl, Nat.le_of_ble_eq_true rfl⟩ (c2 := 0) (s2 := 0) rfl rfl (x_asNumbers (some (b.1 4 (wh S qj))) 3 (Or.inr ⟨_, 3, _, rfl, (hx0.W hw_q rfl), Or.inr (Or.inr (Or.inl ⟨rfl, rfl⟩))⟩)) ?_
              refine g_astore (lv' := [(4, .null), (3, .ref (b.1 2 (wh S pj))), (0, .ref M), (1, .int (nI pj)), (2, .int (nI qj))]) hC dX9_like_59 (by decide) rfl (Or.inl rfl) ?_
              refine g_aload_n hC dX9_like_61 rfl 1 rfl (Or.inr ⟨_, rfl⟩) ?_
              refine g_ifnull (o := some (b.1 2 (wh S pj))) (tgt := 70) hC dX9_like_62 (by decide) (fun h62 => ?_) (fun a62 h62 => ?_)
              · cases h62
              · refine g_aload hC dX9_like_65 0 rfl (Or.inl rfl) ?_
                refine g_ifnonnull (o := none) (tgt := 76) hC dX9_like_67 (by decide) (fun a67 h67 => ?_) (fun h67 => ?_)
                · cases h67
                · refine g_aload_n hC dX9_like_70 rfl 2 rfl (Or.inr ⟨_, rfl⟩) ?_
                  refine g_iconst hC dX9_like_71 (v := nI 2) (by decide) ?_
                  refine g_Vx (As := [.int (nI 2)]) (st := []) hC 1 dX9_like_72 rfl (hx0.M hM).1 (hx0.M hM).2 gX9_like_X9_failed rfl (by decide +kernel) ⟨Nat.le_of_ble_eq_true rfl, Nat.le_of_ble_eq_true rfl⟩ rfl (Nat.le_of_ble_eq_true rfl) ⟨(Nat.le_of_ble_eq_true rfl), (Nat.le_of_ble_eq_true rfl)⟩ (c2 := 0) (s2 := 0) rfl rfl (x_failed hx0 M hM 2) (fun v1 L1 f1 hp1 => ?_)
                  obtain ⟨rfl, hx1⟩ := hp1
                  show gW X vwCl 5 L1 f1 0 0 75 [(4, .null), (3, .ref (b.1 2 (wh S pj))), (0, .ref M), (1, .int (nI pj)), (2, .int (nI qj))] [.int (fA 2)]
                  have hE : s_like S (nI pj) (nI qj) = (fA 2, (aSc (thS S) 1 2)) := by
                    unfold s_like
                    rw [if_pos h4, if_pos h11, hpl_p, hpl_q, if_neg (show ¬ (kd S pj = 0 ∨ kd S qj = 0) by omega), if_pos (show 2 < kd S pj ∨ 2 < kd S qj by omega)] <;> rfl
                  exact g_iret hC hR dX9_like_75 ⟨b, congrArg (fun z => some (Value.int (Prod.fst z))) hE.symm, by rw [hE]; exact hx1, xG.rf⟩
            · cases h31
          · have hw_q : wh S qj < S.1 13 := hI.wt hqj (by omega)
            have hb_q : S.2.1 14 (wh S qj) = 0 := by have := ((hI.2.1 _ hqj).2.2.2.2.2 (by omega)).2; omega
            have hp0_q : plcF (thS S) b qj = some (b.1 6 (wh S qj)) := plc_k hqj hk_q (by decide)
            refine g_aald hC 5 rfl (hx0.Mp rfl).1 (hx0.Mp rfl).2 (qj) rfl (show qj < 10 by omega) (by decide) dX9_like_30 ?_
            refine g_val (w := .ref (b.1 6 (wh S qj))) (congrArg va_rf hp0_q) ?_
            refine g_ifnonnull (o := some (b.1 6 (wh S qj))) (tgt := 40) hC dX9_like_31 (by decide) (fun a31 h31 => ?_) (fun h31 => ?_)
            · refine g_aload_n hC dX9_like_40 rfl 0 rfl (Or.inr ⟨_, rfl⟩) ?_
              refine g_get hC (by decide +kernel) rfl (hx0.M hM).1 (hx0.M hM).2 0 (by decide) (by decide +kernel) (Or.inl rfl) rfl dX9_like_41 ?_
              refine g_iload_n hC dX9_like_44 rfl 1 rfl ?_
              refine g_aald hC 5 rfl (hx0.Mp rfl).1 (hx0.Mp rfl).2 (pj) rfl (show pj < 10 by omega) (by decide) dX9_like_45 ?_
              refine g_val (w := .ref (b.1 2 (wh S pj))) (congrArg va_rf hp0_p) ?_
              refine g_S (As := [.ref (b.1 2 (wh S pj))]) (st := []) hC 1 dX9_like_46 gX9_like_X9_asNumbers rfl (by decide +kernel) ⟨Nat.le_of_ble_eq_true rfl, Nat.le_of_ble_eq_true rfl⟩ rfl (Nat.le_of_ble_eq_true rfl) ⟨Nat.le_of_ble_eq_true rfl, Nat.le_of_ble_eq_true rfl⟩ (c2 := 0) (s2 := 0) rfl rfl (x_asNumbers (some (b.1 2 (wh S pj))) 2 (Or.inr ⟨_, 4, _, rfl, (hx0.G hw_p rfl), Or.inr (Or.inl ⟨rfl, rfl⟩)⟩)) ?_
              refine g_astore_n (lv' := [(3, .ref (b.1 2 (wh S pj))), (0, .ref M), (1, .int (nI pj)), (2, .int (nI qj))]) hC dX9_like_49 rfl (by decide) rfl (Or.inr ⟨_, rfl⟩) ?_
              refine g_aload_n hC dX9_like_50 rfl 1 rfl (Or.inr ⟨_, rfl⟩) ?_
              refine g_get hC (by decide +kernel) rfl (hx0.M hM).1 (hx0.M hM).2 0 (by decide) (by decide +kernel) (Or.inl rfl) rfl dX9_like_51 ?_
              refine g_iload_n hC dX9_like_54 rfl 3 rfl ?_
              refine g_aald hC 5 rfl (hx0.Mp rfl).1 (hx0.Mp rfl).2 (qj) rfl (show qj < 10 by omega) (by decide) dX9_like_55 ?_
              refine g_val (w := .ref (b.1 6 (wh S qj))) (congrArg va_rf hp0_q) ?_
              refine g_S (As := [.ref (b.1 6 (wh S qj))]) (st := []) hC 1 dX9_like_56 gX9_like_X9_asNumbers rfl (by decide +kernel) ⟨Nat.le_of_ble_eq_true rfl, Nat.le_of_ble_eq_true rfl⟩ rfl (Nat.le_of_ble_eq_true rfl) ⟨Nat.le_of_ble_eq_true rfl, Nat.le_of_ble_eq_true rfl⟩ (c2 := 0) (s2 := 0) rfl rfl (x_asNumbers (some (b.1 6 (wh S qj))) 4 (Or.inr ⟨_, 5, _, rfl, (hx0.T hw_q rfl hb_q), Or.inr (Or.inr (Or.inr (Or.inl ⟨rfl, rfl⟩)))⟩)) ?_
              refine g_astore (lv' := [(4, .null), (3, .ref (b.1 2 (wh S pj))), (0, .ref M), (1, .int (nI pj)), (2, .int (nI qj))]) hC dX9_like_59 (by decide) rfl (Or.inl rfl) ?_
              refine g_aload_n hC dX9_like_61 rfl 1 rfl (Or.inr ⟨_, rfl⟩) ?_
              refine g_ifnull (o := some (b.1 2 (wh S pj))) (tgt := 70) hC dX9_like_62 (by decide) (fun h62 => ?_) (fun a62 h62 => ?_)
              · cases h62
              · refine g_aload hC dX9_like_65 0 rfl (Or.inl rfl) ?_
                refine g_ifnonnull (o := none) (tgt := 76) hC dX9_like_67 (by decide) (fun a67 h67 => ?_) (fun h67 => ?_)
                · cases h67
                · refine g_aload_n hC dX9_like_70 rfl 2 rfl (Or.inr ⟨_, rfl⟩) ?_
                  refine g_iconst hC dX9_like_71 (v := nI 2) (by decide) ?_
                  refine g_Vx (As := [.int (nI 2)]) (st := []) hC 1 dX9_like_72 rfl (hx0.M hM).1 (hx0.M hM).2 gX9_like_X9_failed rfl (by decide +kernel) ⟨Nat.le_of_ble_eq_true rfl, Nat.le_of_ble_eq_true rfl⟩ rfl (Nat.le_of_ble_eq_true rfl) ⟨(Nat.le_of_ble_eq_true rfl), (Nat.le_of_ble_eq_true rfl)⟩ (c2 := 0) (s2 := 0) rfl rfl (x_failed hx0 M hM 2) (fun v1 L1 f1 hp1 => ?_)
                  obtain ⟨rfl, hx1⟩ := hp1
                  show gW X vwCl 5 L1 f1 0 0 75 [(4, .null), (3, .ref (b.1 2 (wh S pj))), (0, .ref M), (1, .int (nI pj)), (2, .int (nI qj))] [.int (fA 2)]
                  have hE : s_like S (nI pj) (nI qj) = (fA 2, (aSc (thS S) 1 2)) := by
                    unfold s_like
                    rw [if_pos h4, if_pos h11, hpl_p, hpl_q, if_neg (show ¬ (kd S pj = 0 ∨ kd S qj = 0) by omega), if_pos (show 2 < kd S pj ∨ 2 < kd S qj by omega)] <;> rfl
                  exact g_iret hC hR dX9_like_75 ⟨b, congrArg (fun z => some (Value.int (Prod.fst z))) hE.symm, by rw [hE]; exact hx1, xG.rf⟩
            · cases h31
          · have hw_q : wh S qj < S.1 13 := hI.wt hqj (by omega)
            have hb_q : S.2.1 14 (wh S qj) ≠ 0 := by have := ((hI.2.1 _ hqj).2.2.2.2.2 (by omega)).2; omega
            have hp0_q : plcF (thS S) b qj = some (b.1 6 (wh S qj)) := plc_k hqj hk_q (by decide)
            refine g_aald hC 5 rfl (hx0.Mp rfl).1 (hx0.Mp rfl).2 (qj) rfl (show qj < 10 by omega) (by decide) dX9_like_30 ?_
            refine g_val (w := .ref (b.1 6 (wh S qj))) (congrArg va_rf hp0_q) ?_
            refine g_ifnonnull (o := some (b.1 6 (wh S qj))) (tgt := 40) hC dX9_like_31 (by decide) (fun a31 h31 => ?_) (fun h31 => ?_)
            · refine g_aload_n hC dX9_like_40 rfl 0 rfl (Or.inr ⟨_, rfl⟩) ?_
              refine g_get hC (by decide +kernel) rfl (hx0.M hM).1 (hx0.M hM).2 0 (by decide) (by decide +kernel) (Or.inl rfl) rfl dX9_like_41 ?_
              refine g_iload_n hC dX9_like_44 rfl 1 rfl ?_
              refine g_aald hC 5 rfl (hx0.Mp rfl).1 (hx0.Mp rfl).2 (pj) rfl (show pj < 10 by omega) (by decide) dX9_like_45 ?_
              refine g_val (w := .ref (b.1 2 (wh S pj))) (congrArg va_rf hp0_p) ?_
              refine g_S (As := [.ref (b.1 2 (wh S pj))]) (st := []) hC 1 dX9_like_46 gX9_like_X9_asNumbers rfl (by decide +kernel) ⟨Nat.le_of_ble_eq_true rfl, Nat.le_of_ble_eq_true rfl⟩ rfl (Nat.le_of_ble_eq_true rfl) ⟨Nat.le_of_ble_eq_true rfl, Nat.le_of_ble_eq_true rfl⟩ (c2 := 0) (s2 := 0) rfl rfl (x_asNumbers (some (b.1 2 (wh S pj))) 2 (Or.inr ⟨_, 4, _, rfl, (hx0.G hw_p rfl), Or.inr (Or.inl ⟨rfl, rfl⟩)⟩)) ?_
              refine g_astore_n (lv' := [(3, .ref (b.1 2 (wh S pj))), (0, .ref M), (1, .int (nI pj)), (2, .int (nI qj))]) hC dX9_like_49 rfl (by decide) rfl (Or.inr ⟨_, rfl⟩) ?_
              refine g_aload_n hC dX9_like_50 rfl 1 rfl (Or.inr ⟨_, rfl⟩) ?_
              refine g_get hC (by decide +kernel) rfl (hx0.M hM).1 (hx0.M hM).2 0 (by decide) (by decide +kernel) (Or.inl rfl) rfl dX9_like_51 ?_
              refine g_iload_n hC dX9_like_54 rfl 3 rfl ?_
              refine g_aald hC 5 rfl (hx0.Mp rfl).1 (hx0.Mp rfl).2 (qj) rfl (show qj < 10 by omega) (by decide) dX9_like_55 ?_
              refine g_val (w := .ref (b.1 6 (wh S qj))) (congrArg va_rf hp0_q) ?_
              refine g_S (As := [.ref (b.1 6 (wh S qj))]) (st := []) hC 1 dX9_like_56 gX9_like_X9_asNumbers rfl (by decide +kernel) ⟨Nat.le_of_ble_eq_true rfl, Nat.le_of_ble_eq_true rfl⟩ rfl (Nat.le_of_ble_eq_true rfl) ⟨Nat.le_of_ble_eq_true rfl, Nat.le_of_ble_eq_true rfl⟩ (c2 := 0) (s2 := 0) rfl rfl (x_asNumbers (some (b.1 6 (wh S qj))) 5 (Or.inr ⟨_, 1, _, rfl, (hx0.K hw_q rfl hb_q), Or.inr (Or.inr (Or.inr (Or.inr ⟨rfl, rfl⟩)))⟩)) ?_
              refine g_astore (lv' := [(4, .null), (3, .ref (b.1 2 (wh S pj))), (0, .ref M), (1, .int (nI pj)), (2, .int (nI qj))]) hC dX9_like_59 (by decide) rfl (Or.inl rfl) ?_
              refine g_aload_n hC dX9_like_61 rfl 1 rfl (Or.inr ⟨_, rfl⟩) ?_
              refine g_ifnull (o := some (b.1 2 (wh S pj))) (tgt := 70) hC dX9_like_62 (by decide) (fun h62 => ?_) (fun a62 h62 => ?_)
              · cases h62
              · refine g_aload hC dX9_like_65 0 rfl (Or.inl rfl) ?_
                refine g_ifnonnull (o := none) (tgt := 76) hC dX9_like_67 (by decide) (fun a67 h67 => ?_) (fun h67 => ?_)
                · cases h67
                · refine g_aload_n hC dX9_like_70 rfl 2 rfl (Or.inr ⟨_, rfl⟩) ?_
                  refine g_iconst hC dX9_like_71 (v := nI 2) (by decide) ?_
                  refine g_Vx (As := [.int (nI 2)]) (st := []) hC 1 dX9_like_72 rfl (hx0.M hM).1 (hx0.M hM).2 gX9_like_X9_failed rfl (by decide +kernel) ⟨Nat.le_of_ble_eq_true rfl, Nat.le_of_ble_eq_true rfl⟩ rfl (Nat.le_of_ble_eq_true rfl) ⟨(Nat.le_of_ble_eq_true rfl), (Nat.le_of_ble_eq_true rfl)⟩ (c2 := 0) (s2 := 0) rfl rfl (x_failed hx0 M hM 2) (fun v1 L1 f1 hp1 => ?_)
                  obtain ⟨rfl, hx1⟩ := hp1
                  show gW X vwCl 5 L1 f1 0 0 75 [(4, .null), (3, .ref (b.1 2 (wh S pj))), (0, .ref M), (1, .int (nI pj)), (2, .int (nI qj))] [.int (fA 2)]
                  have hE : s_like S (nI pj) (nI qj) = (fA 2, (aSc (thS S) 1 2)) := by
                    unfold s_like
                    rw [if_pos h4, if_pos h11, hpl_p, hpl_q, if_neg (show ¬ (kd S pj = 0 ∨ kd S qj = 0) by omega), if_pos (show 2 < kd S pj ∨ 2 < kd S qj by omega)] <;> rfl
                  exact g_iret hC hR dX9_like_75 ⟨b, congrArg (fun z => some (Value.int (Prod.fst z))) hE.symm, by rw [hE]; exact hx1, xG.rf⟩
            · cases h31
      · have hw_p : wh S pj < S.1 10 := hI.wr hpj hk_p
        have hp0_p : plcF (thS S) b pj = some (b.1 4 (wh S pj)) := plc_k hpj hk_p (by decide)
        refine g_aald hC 5 rfl (hx0.Mp rfl).1 (hx0.Mp rfl).2 (pj) rfl (show pj < 10 by omega) (by decide) dX9_like_21 ?_
        refine g_val (w := .ref (b.1 4 (wh S pj))) (congrArg va_rf hp0_p) ?_
        refine g_ifnull (o := some (b.1 4 (wh S pj))) (tgt := 34) hC dX9_like_22 (by decide) (fun h22 => ?_) (fun a22 h22 => ?_)
        · cases h22
        · refine g_aload_n hC dX9_like_25 rfl 0 rfl (Or.inr ⟨_, rfl⟩) ?_
          refine g_get hC (by decide +kernel) rfl (hx0.M hM).1 (hx0.M hM).2 0 (by decide) (by decide +kernel) (Or.inl rfl) rfl dX9_like_26 ?_
          refine g_iload_n hC dX9_like_29 rfl 2 rfl ?_
          have h5_q := hI.k5 hqj
          rcases (show kd S qj = 0 ∨ kd S qj = 1 ∨ kd S qj = 2 ∨ kd S qj = 3 ∨ kd S qj = 4 ∨ kd S qj = 5 by omega) with hk_q | hk_q | hk_q | hk_q | hk_q | hk_q
          · have hp0_q : plcF (thS S) b qj = none := plc_0 hqj hk_q
            refine g_aald hC 5 rfl (hx0.Mp rfl).1 (hx0.Mp rfl).2 (qj) rfl (show qj < 10 by omega) (by decide) dX9_like_30 ?_
            refine g_val (w := .null) (congrArg va_rf hp0_q) ?_
            refine g_ifnonnull (o := none) (tgt := 40) hC dX9_like_31 (by decide) (fun a31 h31 => ?_) (fun h31 => ?_)
            · cases h31
            · refine g_aload_n hC dX9_like_34 rfl 0 rfl (Or.inr ⟨_, rfl⟩) ?_
              refine g_iconst hC dX9_like_35 (v := nI 1) (by decide) ?_
              refine g_Vx (As := [.int (nI 1)]) (st := []) hC 1 dX9_like_36 rfl (hx0.M hM).1 (hx0.M hM).2 gX9_like_X9_failed rfl (by decide +kernel) ⟨Nat.le_of_ble_eq_true rfl, Nat.le_of_ble_eq_true rfl⟩ rfl (Nat.le_of_ble_eq_true rfl) ⟨(Nat.le_of_ble_eq_true rfl), (Nat.le_of_ble_eq_true rfl)⟩ (c2 := 0) (s2 := 0) rfl rfl (x_failed hx0 M hM 1) (fun v1 L1 f1 hp1 => ?_)
              obtain ⟨rfl, hx1⟩ := hp1
              show gW X vwCl 5 L1 f1 0 0 39 [(0, .ref M), (1, .int (nI pj)), (2, .int (nI qj))] [.int (fA 1)]
              have hE : s_like S (nI pj) (nI qj) = (fA 1, (aSc (thS S) 1 1)) := by
                unfold s_like
                rw [if_pos h4, if_pos h11, hpl_p, hpl_q, if_pos (Or.inr hk_q)] <;> rfl
              exact g_iret hC hR dX9_like_39 ⟨b, congrArg (fun z => some (Value.int (Prod.fst z))) hE.symm, by rw [hE]; exact hx1, xG.rf⟩
          · have hw_q : wh S qj < S.1 4 := hI.wl hqj hk_q
            have hp0_q : plcF (thS S) b qj = some (b.1 0 (wh S qj)) := plc_k hqj hk_q (by decide)
            refine g_aald hC 5 rfl (hx0.Mp rfl).1 (hx0.Mp rfl).2 (qj) rfl (show qj < 10 by omega) (by decide) dX9_like_30 ?_
            refine g_val (w := .ref (b.1 0 (wh S qj))) (congrArg va_rf hp0_q) ?_
            refine g_ifnonnull (o := some (b.1 0 (wh S qj))) (tgt := 40) hC dX9_like_31 (by decide) (fun a31 h31 => ?_) (fun h31 => ?_)
            · refine g_aload_n hC dX9_like_40 rfl 0 rfl (Or.inr ⟨_, rfl⟩) ?_
              refine g_get hC (by decide +kernel) rfl (hx0.M hM).1 (hx0.M hM).2 0 (by decide) (by decide +kernel) (Or.inl rfl) rfl dX9_like_41 ?_
              refine g_iload_n hC dX9_like_44 rfl 1 rfl ?_
              refine g_aald hC 5 rfl (hx0.Mp rfl).1 (hx0.Mp rfl).2 (pj) rfl (show pj < 10 by omega) (by decide) dX9_like_45 ?_
              refine g_val (w := .ref (b.1 4 (wh S pj))) (congrArg va_rf hp0_p) ?_
              refine g_S (As := [.ref (b.1 4 (wh S pj))]) (st := []) hC 1 dX9_like_46 gX9_like_X9_asNumbers rfl (by decide +kernel) ⟨Nat.le_of_ble_eq_true rfl, Nat.le_of_ble_eq_true rfl⟩ rfl (Nat.le_of_ble_eq_true rfl) ⟨Nat.le_of_ble_eq_true rfl, Nat.le_of_ble_eq_true rfl⟩ (c2 := 0) (s2 := 0) rfl rfl (x_asNumbers (some (b.1 4 (wh S pj))) 3 (Or.inr ⟨_, 3, _, rfl, (hx0.W hw_p rfl), Or.inr (Or.inr (Or.inl ⟨rfl, rfl⟩))⟩)) ?_
              refine g_astore_n (lv' := [(3, .null), (0, .ref M), (1, .int (nI pj)), (2, .int (nI qj))]) hC dX9_like_49 rfl (by decide) rfl (Or.inl rfl) ?_
              refine g_aload_n hC dX9_like_50 rfl 1 rfl (Or.inr ⟨_, rfl⟩) ?_
              refine g_get hC (by decide +kernel) rfl (hx0.M hM).1 (hx0.M hM).2 0 (by decide) (by decide +kernel) (Or.inl rfl) rfl dX9_like_51 ?_
              refine g_iload_n hC dX9_like_54 rfl 3 rfl ?_
              refine g_aald hC 5 rfl (hx0.Mp rfl).1 (hx0.Mp rfl).2 (qj) rfl (show qj < 10 by omega) (by decide) dX9_like_55 ?_
              refine g_val (w := .ref (b.1 0 (wh S qj))) (congrArg va_rf hp0_q) ?_
              refine g_S (As := [.ref (b.1 0 (wh S qj))]) (st := []) hC 1 dX9_like_56 gX9_like_X9_asNumbers rfl (by decide +kernel) ⟨Nat.le_of_ble_eq_true rfl, Nat.le_of_ble_eq_true rfl⟩ rfl (Nat.le_of_ble_eq_true rfl) ⟨Nat.le_of_ble_eq_true rfl, Nat.le_of_ble_eq_true rfl⟩ (c2 := 0) (s2 := 0) rfl rfl (x_asNumbers (some (b.1 0 (wh S qj))) 1 (Or.inr ⟨_, 0, _, rfl, (hx0.B hw_q rfl), Or.inl ⟨rfl, rfl⟩⟩)) ?_
              refine g_astore (lv' := [(4, .ref (b.1 0 (wh S qj))), (3, .null), (0, .ref M), (1, .int (nI pj)), (2, .int (nI qj))]) hC dX9_like_59 (by decide) rfl (Or.inr ⟨_, rfl⟩) ?_
              refine g_aload_n hC dX9_like_61 rfl 1 rfl (Or.inl rfl) ?_
              refine g_ifnull (o := none) (tgt := 70) hC dX9_like_62 (by decide) (fun h62 => ?_) (fun a62 h62 => ?_)
              · refine g_aload_n hC dX9_like_70 rfl 2 rfl (Or.inr ⟨_, rfl⟩) ?_
                refine g_iconst hC dX9_like_71 (v := nI 2) (by decide) ?_
                refine g_Vx (As := [.int (nI 2)]) (st := []) hC 1 dX9_like_72 rfl (hx0.M hM).1 (hx0.M hM).2 gX9_like_X9_failed rfl (by decide +kernel) ⟨Nat.le_of_ble_eq_true rfl, Nat.le_of_ble_eq_true rfl⟩ rfl (Nat.le_of_ble_eq_true rfl) ⟨(Nat.le_of_ble_eq_true rfl), (Nat.le_of_ble_eq_true rfl)⟩ (c2 := 0) (s2 := 0) rfl rfl (x_failed hx0 M hM 2) (fun v1 L1 f1 hp1 => ?_)
                obtain ⟨rfl, hx1⟩ := hp1
                show gW X vwCl 5 L1 f1 0 0 75 [(4, .ref (b.1 0 (wh S qj))), (3, .null), (0, .ref M), (1, .int (nI pj)), (2, .int (nI qj))] [.int (fA 2)]
                have hE : s_like S (nI pj) (nI qj) = (fA 2, (aSc (thS S) 1 2)) := by
                  unfold s_like
                  rw [if_pos h4, if_pos h11, hpl_p, hpl_q, if_neg (show ¬ (kd S pj = 0 ∨ kd S qj = 0) by omega), if_pos (show 2 < kd S pj ∨ 2 < kd S qj by omega)] <;> rfl
                exact g_iret hC hR dX9_like_75 ⟨b, congrArg (fun z => some (Value.int (Prod.fst z))) hE.symm, by rw [hE]; exact hx1, xG.rf⟩
              · cases h62
            · cases h31
          · have hw_q : wh S qj < S.1 7 := hI.ws hqj hk_q
            have hp0_q : plcF (thS S) b qj = some (b.1 2 (wh S qj)) := plc_k hqj hk_q (by decide)
            refine g_aald hC 5 rfl (hx0.Mp rfl).1 (hx0.Mp rfl).2 (qj) rfl (show qj < 10 by omega) (by decide) dX9_like_30 ?_
            refine g_val (w := .ref (b.1 2 (wh S qj))) (congrArg va_rf hp0_q) ?_
            refine g_ifnonnull (o := some (b.1 2 (wh S qj))) (tgt := 40) hC dX9_like_31 (by decide) (fun a31 h31 => ?_) (fun h31 => ?_)
            · refine g_aload_n hC dX9_like_40 rfl 0 rfl (Or.inr ⟨_, rfl⟩) ?_
              refine g_get hC (by decide +kernel) rfl (hx0.M hM).1 (hx0.M hM).2 0 (by decide) (by decide +kernel) (Or.inl rfl) rfl dX9_like_41 ?_
              refine g_iload_n hC dX9_like_44 rfl 1 rfl ?_
              refine g_aald hC 5 rfl (hx0.Mp rfl).1 (hx0.Mp rfl).2 (pj) rfl (show pj < 10 by omega) (by decide) dX9_like_45 ?_
              refine g_val (w := .ref (b.1 4 (wh S pj))) (congrArg va_rf hp0_p) ?_
              refine g_S (As := [.ref (b.1 4 (wh S pj))]) (st := []) hC 1 dX9_like_46 gX9_like_X9_asNumbers rfl (by decide +kernel) ⟨Nat.le_of_ble_eq_true rfl, Nat.le_of_ble_eq_true rfl⟩ rfl (Nat.le_of_ble_eq_true rfl) ⟨Nat.le_of_ble_eq_true rfl, Nat.le_of_ble_eq_true rfl⟩ (c2 := 0) (s2 := 0) rfl rfl (x_asNumbers (some (b.1 4 (wh S pj))) 3 (Or.inr ⟨_, 3, _, rfl, (hx0.W hw_p rfl), Or.inr (Or.inr (Or.inl ⟨rfl, rfl⟩))⟩)) ?_
              refine g_astore_n (lv' := [(3, .null), (0, .ref M), (1, .int (nI pj)), (2, .int (nI qj))]) hC dX9_like_49 rfl (by decide) rfl (Or.inl rfl) ?_
              refine g_aload_n hC dX9_like_50 rfl 1 rfl (Or.inr ⟨_, rfl⟩) ?_
              refine g_get hC (by decide +kernel) rfl (hx0.M hM).1 (hx0.M hM).2 0 (by decide) (by decide +kernel) (Or.inl rfl) rfl dX9_like_51 ?_
              refine g_iload_n hC dX9_like_54 rfl 3 rfl ?_
              refine g_aald hC 5 rfl (hx0.Mp rfl).1 (hx0.Mp rfl).2 (qj) rfl (show qj < 10 by omega) (by decide) dX9_like_55 ?_
              refine g_val (w := .ref (b.1 2 (wh S qj))) (congrArg va_rf hp0_q) ?_
              refine g_S (As := [.ref (b.1 2 (wh S qj))]) (st := []) hC 1 dX9_like_56 gX9_like_X9_asNumbers rfl (by decide +kernel) ⟨Nat.le_of_ble_eq_true rfl, Nat.le_of_ble_eq_true rfl⟩ rfl (Nat.le_of_ble_eq_true rfl) ⟨Nat.le_of_ble_eq_true rfl, Nat.le_of_ble_eq_true rfl⟩ (c2 := 0) (s2 := 0) rfl rfl (x_asNumbers (some (b.1 2 (wh S qj))) 2 (Or.inr ⟨_, 4, _, rfl, (hx0.G hw_q rfl), Or.inr (Or.inl ⟨rfl, rfl⟩)⟩)) ?_
              refine g_astore (lv' := [(4, .ref (b.1 2 (wh S qj))), (3, .null), (0, .ref M), (1, .int (nI pj)), (2, .int (nI qj))]) hC dX9_like_59 (by decide) rfl (Or.inr ⟨_, rfl⟩) ?_
              refine g_aload_n hC dX9_like_61 rfl 1 rfl (Or.inl rfl) ?_
              refine g_ifnull (o := none) (tgt := 70) hC dX9_like_62 (by decide) (fun h62 => ?_) (fun a62 h62 => ?_)
              · refine g_aload_n hC dX9_like_70 rfl 2 rfl (Or.inr ⟨_, rfl⟩) ?_
                refine g_iconst hC dX9_like_71 (v := nI 2) (by decide) ?_
                refine g_Vx (As := [.int (nI 2)]) (st := []) hC 1 dX9_like_72 rfl (hx0.M hM).1 (hx0.M hM).2 gX9_like_X9_failed rfl (by decide +kernel) ⟨Nat.le_of_ble_eq_true rfl, Nat.le_of_ble_eq_true rfl⟩ rfl (Nat.le_of_ble_eq_true rfl) ⟨(Nat.le_of_ble_eq_true rfl), (Nat.le_of_ble_eq_true rfl)⟩ (c2 := 0) (s2 := 0) rfl rfl (x_failed hx0 M hM 2) (fun v1 L1 f1 hp1 => ?_)
                obtain ⟨rfl, hx1⟩ := hp1
                show gW X vwCl 5 L1 f1 0 0 75 [(4, .ref (b.1 2 (wh S qj))), (3, .null), (0, .ref M), (1, .int (nI pj)), (2, .int (nI qj))] [.int (fA 2)]
                have hE : s_like S (nI pj) (nI qj) = (fA 2, (aSc (thS S) 1 2)) := by
                  unfold s_like
                  rw [if_pos h4, if_pos h11, hpl_p, hpl_q, if_neg (show ¬ (kd S pj = 0 ∨ kd S qj = 0) by omega), if_pos (show 2 < kd S pj ∨ 2 < kd S qj by omega)] <;> rfl
                exact g_iret hC hR dX9_like_75 ⟨b, congrArg (fun z => some (Value.int (Prod.fst z))) hE.symm, by rw [hE]; exact hx1, xG.rf⟩
              · cases h62
            · cases h31
          · have hw_q : wh S qj < S.1 10 := hI.wr hqj hk_q
            have hp0_q : plcF (thS S) b qj = some (b.1 4 (wh S qj)) := plc_k hqj hk_q (by decide)
            refine g_aald hC 5 rfl (hx0.Mp rfl).1 (hx0.Mp rfl).2 (qj) rfl (show qj < 10 by omega) (by decide) dX9_like_30 ?_
            refine g_val (w := .ref (b.1 4 (wh S qj))) (congrArg va_rf hp0_q) ?_
            refine g_ifnonnull (o := some (b.1 4 (wh S qj))) (tgt := 40) hC dX9_like_31 (by decide) (fun a31 h31 => ?_) (fun h31 => ?_)
            · refine g_aload_n hC dX9_like_40 rfl 0 rfl (Or.inr ⟨_, rfl⟩) ?_
              refine g_get hC (by decide +kernel) rfl (hx0.M hM).1 (hx0.M hM).2 0 (by decide) (by decide +kernel) (Or.inl rfl) rfl dX9_like_41 ?_
              refine g_iload_n hC dX9_like_44 rfl 1 rfl ?_
              refine g_aald hC 5 rfl (hx0.Mp rfl).1 (hx0.Mp rfl).2 (pj) rfl (show pj < 10 by omega) (by decide) dX9_like_45 ?_
              refine g_val (w := .ref (b.1 4 (wh S pj))) (congrArg va_rf hp0_p) ?_
              refine g_S (As := [.ref (b.1 4 (wh S pj))]) (st := []) hC 1 dX9_like_46 gX9_like_X9_asNumbers rfl (by decide +kernel) ⟨Nat.le_of_ble_eq_true rfl, Nat.le_of_ble_eq_true rfl⟩ rfl (Nat.le_of_ble_eq_true rfl) ⟨Nat.le_of_ble_eq_true rfl, Nat.le_of_ble_eq_true rfl⟩ (c2 := 0) (s2 := 0) rfl rfl (x_asNumbers (some (b.1 4 (wh S pj))) 3 (Or.inr ⟨_, 3, _, rfl, (hx0.W hw_p rfl), Or.inr (Or.inr (Or.inl ⟨rfl, rfl⟩))⟩)) ?_
              refine g_astore_n (lv' := [(3, .null), (0, .ref M), (1, .int (nI pj)), (2, .int (nI qj))]) hC dX9_like_49 rfl (by decide) rfl (Or.inl rfl) ?_
              refine g_aload_n hC dX9_like_50 rfl 1 rfl (Or.inr ⟨_, rfl⟩) ?_
              refine g_get hC (by decide +kernel) rfl (hx0.M hM).1 (hx0.M hM).2 0 (by decide) (by decide +kernel) (Or.inl rfl) rfl dX9_like_51 ?_
              refine g_iload_n hC dX9_like_54 rfl 3 rfl ?_
              refine g_aald hC 5 rfl (hx0.Mp rfl).1 (hx0.Mp rfl).2 (qj) rfl (show qj < 10 by omega) (by decide) dX9_like_55 ?_
              refine g_val (w := .ref (b.1 4 (wh S qj))) (congrArg va_rf hp0_q) ?_
              refine g_S (As := [.ref (b.1 4 (wh S qj))]) (st := []) hC 1 dX9_like_56 gX9_like_X9_asNumbers rfl (by decide +kernel) ⟨Nat.le_of_ble_eq_true rfl, Nat.le_of_ble_eq_true rfl⟩ rfl (Nat.le_of_ble_eq_true rfl) ⟨Nat.le_of_ble_eq_true rfl, Nat.le_of_ble_eq_true rfl⟩ (c2 := 0) (s2 := 0) rfl rfl (x_asNumbers (some (b.1 4 (wh S qj))) 3 (Or.inr ⟨_, 3, _, rfl, (hx0.W hw_q rfl), Or.inr (Or.inr (Or.inl ⟨rfl, rfl⟩))⟩)) ?_
              refine g_astore (lv' := [(4, .null), (3, .null), (0, .ref M), (1, .int (nI pj)), (2, .int (nI qj))]) hC dX9_like_59 (by decide) rfl (Or.inl rfl) ?_
              refine g_aload_n hC dX9_like_61 rfl 1 rfl (Or.inl rfl) ?_
              refine g_ifnull (o := none) (tgt := 70) hC dX9_like_62 (by decide) (fun h62 => ?_) (fun a62 h62 => ?_)
              · refine g_aload_n hC dX9_like_70 rfl 2 rfl (Or.inr ⟨_, rfl⟩) ?_
                refine g_iconst hC dX9_like_71 (v := nI 2) (by decide) ?_
                refine g_Vx (As := [.int (nI 2)]) (st := []) hC 1 dX9_like_72 rfl (hx0.M hM).1 (hx0.M hM).2 gX9_like_X9_failed rfl (by decide +kernel) ⟨Nat.le_of_ble_eq_true rfl, Nat.le_of_ble_eq_true rfl⟩ rfl (Nat.le_of_ble_eq_true rfl) ⟨(Nat.le_of_ble_eq_true rfl), (Nat.le_of_ble_eq_true rfl)⟩ (c2 := 0) (s2 := 0) rfl rfl (x_failed hx0 M hM 2) (fun v1 L1 f1 hp1 => ?_)
                obtain ⟨rfl, hx1⟩ := hp1
                show gW X vwCl 5 L1 f1 0 0 75 [(4, .null), (3, .null), (0, .ref M), (1, .int (nI pj)), (2, .int (nI qj))] [.int (fA 2)]
                have hE : s_like S (nI pj) (nI qj) = (fA 2, (aSc (thS S) 1 2)) := by
                  unfold s_like
                  rw [if_pos h4, if_pos h11, hpl_p, hpl_q, if_neg (show ¬ (kd S pj = 0 ∨ kd S qj = 0) by omega), if_pos (show 2 < kd S pj ∨ 2 < kd S qj by omega)] <;> rfl
                exact g_iret hC hR dX9_like_75 ⟨b, congrArg (fun z => some (Value.int (Prod.fst z))) hE.symm, by rw [hE]; exact hx1, xG.rf⟩
              · cases h62
            · cases h31
          · have hw_q : wh S qj < S.1 13 := hI.wt hqj (by omega)
            have hb_q : S.2.1 14 (wh S qj) = 0 := by have := ((hI.2.1 _ hqj).2.2.2.2.2 (by omega)).2; omega
            have hp0_q : plcF (thS S) b qj = some (b.1 6 (wh S qj)) := plc_k hqj hk_q (by decide)
            refine g_aald hC 5 rfl (hx0.Mp rfl).1 (hx0.Mp rfl).2 (qj) rfl (show qj < 10 by omega) (by decide) dX9_like_30 ?_
            refine g_val (w := .ref (b.1 6 (wh S qj))) (congrArg va_rf hp0_q) ?_
            refine g_ifnonnull (o := some (b.1 6 (wh S qj))) (tgt := 40) hC dX9_like_31 (by decide) (fun a31 h31 => ?_) (fun h31 => ?_)
            · refine g_aload_n hC dX9_like_40 rfl 0 rfl (Or.inr ⟨_, rfl⟩) ?_
              refine g_get hC (by decide +kernel) rfl (hx0.M hM).1 (hx0.M hM).2 0 (by decide) (by decide +kernel) (Or.inl rfl) rfl dX9_like_41 ?_
              refine g_iload_n hC dX9_like_44 rfl 1 rfl ?_
              refine g_aald hC 5 rfl (hx0.Mp rfl).1 (hx0.Mp rfl).2 (pj) rfl (show pj < 10 by omega) (by decide) dX9_like_45 ?_
              refine g_val (w := .ref (b.1 4 (wh S pj))) (congrArg va_rf hp0_p) ?_
              refine g_S (As := [.ref (b.1 4 (wh S pj))]) (st := []) hC 1 dX9_like_46 gX9_like_X9_asNumbers rfl (by decide +kernel) ⟨Nat.le_of_ble_eq_true rfl, Nat.le_of_ble_eq_true rfl⟩ rfl (Nat.le_of_ble_eq_true rfl) ⟨Nat.le_of_ble_eq_true rfl, Nat.le_of_ble_eq_true rfl⟩ (c2 := 0) (s2 := 0) rfl rfl (x_asNumbers (some (b.1 4 (wh S pj))) 3 (Or.inr ⟨_, 3, _, rfl, (hx0.W hw_p rfl), Or.inr (Or.inr (Or.inl ⟨rfl, rfl⟩))⟩)) ?_
              refine g_astore_n (lv' := [(3, .null), (0, .ref M), (1, .int (nI pj)), (2, .int (nI qj))]) hC dX9_like_49 rfl (by decide) rfl (Or.inl rfl) ?_
              refine g_aload_n hC dX9_like_50 rfl 1 rfl (Or.inr ⟨_, rfl⟩) ?_
              refine g_get hC (by decide +kernel) rfl (hx0.M hM).1 (hx0.M hM).2 0 (by decide) (by decide +kernel) (Or.inl rfl) rfl dX9_like_51 ?_
              refine g_iload_n hC dX9_like_54 rfl 3 rfl ?_
              refine g_aald hC 5 rfl (hx0.Mp rfl).1 (hx0.Mp rfl).2 (qj) rfl (show qj < 10 by omega) (by decide) dX9_like_55 ?_
              refine g_val (w := .ref (b.1 6 (wh S qj))) (congrArg va_rf hp0_q) ?_
              refine g_S (As := [.ref (b.1 6 (wh S qj))]) (st := []) hC 1 dX9_like_56 gX9_like_X9_asNumbers rfl (by decide +kernel) ⟨Nat.le_of_ble_eq_true rfl, Nat.le_of_ble_eq_true rfl⟩ rfl (Nat.le_of_ble_eq_true rfl) ⟨Nat.le_of_ble_eq_true rfl, Nat.le_of_ble_eq_true rfl⟩ (c2 := 0) (s2 := 0) rfl rfl (x_asNumbers (some (b.1 6 (wh S qj))) 4 (Or.inr ⟨_, 5, _, rfl, (hx0.T hw_q rfl hb_q), Or.inr (Or.inr (Or.inr (Or.inl ⟨rfl, rfl⟩)))⟩)) ?_
              refine g_astore (lv' := [(4, .null), (3, .null), (0, .ref M), (1, .int (nI pj)), (2, .int (nI qj))]) hC dX9_like_59 (by decide) rfl (Or.inl rfl) ?_
              refine g_aload_n hC dX9_like_61 rfl 1 rfl (Or.inl rfl) ?_
              refine g_ifnull (o := none) (tgt := 70) hC dX9_like_62 (by decide) (fun h62 => ?_) (fun a62 h62 => ?_)
              · refine g_aload_n hC dX9_like_70 rfl 2 rfl (Or.inr ⟨_, rfl⟩) ?_
                refine g_iconst hC dX9_like_71 (v := nI 2) (by decide) ?_
                refine g_Vx (As := [.int (nI 2)]) (st := []) hC 1 dX9_like_72 rfl (hx0.M hM).1 (hx0.M hM).2 gX9_like_X9_failed rfl (by decide +kernel) ⟨Nat.le_of_ble_eq_true rfl, Nat.le_of_ble_eq_true rfl⟩ rfl (Nat.le_of_ble_eq_true rfl) ⟨(Nat.le_of_ble_eq_true rfl), (Nat.le_of_ble_eq_true rfl)⟩ (c2 := 0) (s2 := 0) rfl rfl (x_failed hx0 M hM 2) (fun v1 L1 f1 hp1 => ?_)
                obtain ⟨rfl, hx1⟩ := hp1
                show gW X vwCl 5 L1 f1 0 0 75 [(4, .null), (3, .null), (0, .ref M), (1, .int (nI pj)), (2, .int (nI qj))] [.int (fA 2)]
                have hE : s_like S (nI pj) (nI qj) = (fA 2, (aSc (thS S) 1 2)) := by
                  unfold s_like
                  rw [if_pos h4, if_pos h11, hpl_p, hpl_q, if_neg (show ¬ (kd S pj = 0 ∨ kd S qj = 0) by omega), if_pos (show 2 < kd S pj ∨ 2 < kd S qj by omega)] <;> rfl
                exact g_iret hC hR dX9_like_75 ⟨b, congrArg (fun z => some (Value.int (Prod.fst z))) hE.symm, by rw [hE]; exact hx1, xG.rf⟩
              · cases h62
            · cases h31
          · have hw_q : wh S qj < S.1 13 := hI.wt hqj (by omega)
            have hb_q : S.2.1 14 (wh S qj) ≠ 0 := by have := ((hI.2.1 _ hqj).2.2.2.2.2 (by omega)).2; omega
            have hp0_q : plcF (thS S) b qj = some (b.1 6 (wh S qj)) := plc_k hqj hk_q (by decide)
            refine g_aald hC 5 rfl (hx0.Mp rfl).1 (hx0.Mp rfl).2 (qj) rfl (show qj < 10 by omega) (by decide) dX9_like_30 ?_
            refine g_val (w := .ref (b.1 6 (wh S qj))) (congrArg va_rf hp0_q) ?_
            refine g_ifnonnull (o := some (b.1 6 (wh S qj))) (tgt := 40) hC dX9_like_31 (by decide) (fun a31 h31 => ?_) (fun h31 => ?_)
            · refine g_aload_n hC dX9_like_40 rfl 0 rfl (Or.inr ⟨_, rfl⟩) ?_
              refine g_get hC (by decide +kernel) rfl (hx0.M hM).1 (hx0.M hM).2 0 (by decide) (by decide +kernel) (Or.inl rfl) rfl dX9_like_41 ?_
              refine g_iload_n hC dX9_like_44 rfl 1 rfl ?_
              refine g_aald hC 5 rfl (hx0.Mp rfl).1 (hx0.Mp rfl).2 (pj) rfl (show pj < 10 by omega) (by decide) dX9_like_45 ?_
              refine g_val (w := .ref (b.1 4 (wh S pj))) (congrArg va_rf hp0_p) ?_
              refine g_S (As := [.ref (b.1 4 (wh S pj))]) (st := []) hC 1 dX9_like_46 gX9_like_X9_asNumbers rfl (by decide +kernel) ⟨Nat.le_of_ble_eq_true rfl, Nat.le_of_ble_eq_true rfl⟩ rfl (Nat.le_of_ble_eq_true rfl) ⟨Nat.le_of_ble_eq_true rfl, Nat.le_of_ble_eq_true rfl⟩ (c2 := 0) (s2 := 0) rfl rfl (x_asNumbers (some (b.1 4 (wh S pj))) 3 (Or.inr ⟨_, 3, _, rfl, (hx0.W hw_p rfl), Or.inr (Or.inr (Or.inl ⟨rfl, rfl⟩))⟩)) ?_
              refine g_astore_n (lv' := [(3, .null), (0, .ref M), (1, .int (nI pj)), (2, .int (nI qj))]) hC dX9_like_49 rfl (by decide) rfl (Or.inl rfl) ?_
              refine g_aload_n hC dX9_like_50 rfl 1 rfl (Or.inr ⟨_, rfl⟩) ?_
              refine g_get hC (by decide +kernel) rfl (hx0.M hM).1 (hx0.M hM).2 0 (by decide) (by decide +kernel) (Or.inl rfl) rfl dX9_like_51 ?_
              refine g_iload_n hC dX9_like_54 rfl 3 rfl ?_
              refine g_aald hC 5 rfl (hx0.Mp rfl).1 (hx0.Mp rfl).2 (qj) rfl (show qj < 10 by omega) (by decide) dX9_like_55 ?_
              refine g_val (w := .ref (b.1 6 (wh S qj))) (congrArg va_rf hp0_q) ?_
              refine g_S (As := [.ref (b.1 6 (wh S qj))]) (st := []) hC 1 dX9_like_56 gX9_like_X9_asNumbers rfl (by decide +kernel) ⟨Nat.le_of_ble_eq_true rfl, Nat.le_of_ble_eq_true rfl⟩ rfl (Nat.le_of_ble_eq_true rfl) ⟨Nat.le_of_ble_eq_true rfl, Nat.le_of_ble_eq_true rfl⟩ (c2 := 0) (s2 := 0) rfl rfl (x_asNumbers (some (b.1 6 (wh S qj))) 5 (Or.inr ⟨_, 1, _, rfl, (hx0.K hw_q rfl hb_q), Or.inr (Or.inr (Or.inr (Or.inr ⟨rfl, rfl⟩)))⟩)) ?_
              refine g_astore (lv' := [(4, .null), (3, .null), (0, .ref M), (1, .int (nI pj)), (2, .int (nI qj))]) hC dX9_like_59 (by decide) rfl (Or.inl rfl) ?_
              refine g_aload_n hC dX9_like_61 rfl 1 rfl (Or.inl rfl) ?_
              refine g_ifnull (o := none) (tgt := 70) hC dX9_like_62 (by decide) (fun h62 => ?_) (fun a62 h62 => ?_)
              · refine g_aload_n hC dX9_like_70 rfl 2 rfl (Or.inr ⟨_, rfl⟩) ?_
                refine g_iconst hC dX9_like_71 (v := nI 2) (by decide) ?_
                refine g_Vx (As := [.int (nI 2)]) (st := []) hC 1 dX9_like_72 rfl (hx0.M hM).1 (hx0.M hM).2 gX9_like_X9_failed rfl (by decide +kernel) ⟨Nat.le_of_ble_eq_true rfl, Nat.le_of_ble_eq_true rfl⟩ rfl (Nat.le_of_ble_eq_true rfl) ⟨(Nat.le_of_ble_eq_true rfl), (Nat.le_of_ble_eq_true rfl)⟩ (c2 := 0) (s2 := 0) rfl rfl (x_failed hx0 M hM 2) (fun v1 L1 f1 hp1 => ?_)
                obtain ⟨rfl, hx1⟩ := hp1
                show gW X vwCl 5 L1 f1 0 0 75 [(4, .null), (3, .null), (0, .ref M), (1, .int (nI pj)), (2, .int (nI qj))] [.int (fA 2)]
                have hE : s_like S (nI pj) (nI qj) = (fA 2, (aSc (thS S) 1 2)) := by
                  unfold s_like
                  rw [if_pos h4, if_pos h11, hpl_p, hpl_q, if_neg (show ¬ (kd S pj = 0 ∨ kd S qj = 0) by omega), if_pos (show 2 < kd S pj ∨ 2 < kd S qj by omega)] <;> rfl
                exact g_iret hC hR dX9_like_75 ⟨b, congrArg (fun z => some (Value.int (Prod.fst z))) hE.symm, by rw [hE]; exact hx1, xG.rf⟩
              · cases h62
            · cases h31
      · have hw_p : wh S pj < S.1 13 := hI.wt hpj (by omega)
        have hb_p : S.2.1 14 (wh S pj) = 0 := by have := ((hI.2.1 _ hpj).2.2.2.2.2 (by omega)).2; omega
        have hp0_p : plcF (thS S) b pj = some (b.1 6 (wh S pj)) := plc_k hpj hk_p (by decide)
        refine g_aald hC 5 rfl (hx0.Mp rfl).1 (hx0.Mp rfl).2 (pj) rfl (show pj < 10 by omega) (by decide) dX9_like_21 ?_
        refine g_val (w := .ref (b.1 6 (wh S pj))) (congrArg va_rf hp0_p) ?_
        refine g_ifnull (o := some (b.1 6 (wh S pj))) (tgt := 34) hC dX9_like_22 (by decide) (fun h22 => ?_) (fun a22 h22 => ?_)
        · cases h22
        · refine g_aload_n hC dX9_like_25 rfl 0 rfl (Or.inr ⟨_, rfl⟩) ?_
          refine g_get hC (by decide +kernel) rfl (hx0.M hM).1 (hx0.M hM).2 0 (by decide) (by decide +kernel) (Or.inl rfl) rfl dX9_like_26 ?_
          refine g_iload_n hC dX9_like_29 rfl 2 rfl ?_
          have h5_q := hI.k5 hqj
          rcases (show kd S qj = 0 ∨ kd S qj = 1 ∨ kd S qj = 2 ∨ kd S qj = 3 ∨ kd S qj = 4 ∨ kd S qj = 5 by omega) with hk_q | hk_q | hk_q | hk_q | hk_q | hk_q
          · have hp0_q : plcF (thS S) b qj = none := plc_0 hqj hk_q
            refine g_aald hC 5 rfl (hx0.Mp rfl).1 (hx0.Mp rfl).2 (qj) rfl (show qj < 10 by omega) (by decide) dX9_like_30 ?_
            refine g_val (w := .null) (congrArg va_rf hp0_q) ?_
            refine g_ifnonnull (o := none) (tgt := 40) hC dX9_like_31 (by decide) (fun a31 h31 => ?_) (fun h31 => ?_)
            · cases h31
            · refine g_aload_n hC dX9_like_34 rfl 0 rfl (Or.inr ⟨_, rfl⟩) ?_
              refine g_iconst hC dX9_like_35 (v := nI 1) (by decide) ?_
              refine g_Vx (As := [.int (nI 1)]) (st := []) hC 1 dX9_like_36 rfl (hx0.M hM).1 (hx0.M hM).2 gX9_like_X9_failed rfl (by decide +kernel) ⟨Nat.le_of_ble_eq_true rfl, Nat.le_of_ble_eq_true rfl⟩ rfl (Nat.le_of_ble_eq_true rfl) ⟨(Nat.le_of_ble_eq_true rfl), (Nat.le_of_ble_eq_true rfl)⟩ (c2 := 0) (s2 := 0) rfl rfl (x_failed hx0 M hM 1) (fun v1 L1 f1 hp1 => ?_)
              obtain ⟨rfl, hx1⟩ := hp1
              show gW X vwCl 5 L1 f1 0 0 39 [(0, .ref M), (1, .int (nI pj)), (2, .int (nI qj))] [.int (fA 1)]
              have hE : s_like S (nI pj) (nI qj) = (fA 1, (aSc (thS S) 1 1)) := by
                unfold s_like
                rw [if_pos h4, if_pos h11, hpl_p, hpl_q, if_pos (Or.inr hk_q)] <;> rfl
              exact g_iret hC hR dX9_like_39 ⟨b, congrArg (fun z => some (Value.int (Prod.fst z))) hE.symm, by rw [hE]; exact hx1, xG.rf⟩
          · have hw_q : wh S qj < S.1 4 := hI.wl hqj hk_q
            have hp0_q : plcF (thS S) b qj = some (b.1 0 (wh S qj)) := plc_k hqj hk_q (by decide)
            refine g_aald hC 5 rfl (hx0.Mp rfl).1 (hx0.Mp rfl).2 (qj) rfl (show qj < 10 by omega) (by decide) dX9_like_30 ?_
            refine g_val (w := .ref (b.1 0 (wh S qj))) (congrArg va_rf hp0_q) ?_
            refine g_ifnonnull (o := some (b.1 0 (wh S qj))) (tgt := 40) hC dX9_like_31 (by decide) (fun a31 h31 => ?_) (fun h31 => ?_)
            · refine g_aload_n hC dX9_like_40 rfl 0 rfl (Or.inr ⟨_, rfl⟩) ?_
              refine g_get hC (by decide +kernel) rfl (hx0.M hM).1 (hx0.M hM).2 0 (by decide) (by decide +kernel) (Or.inl rfl) rfl dX9_like_41 ?_
              refine g_iload_n hC dX9_like_44 rfl 1 rfl ?_
              refine g_aald hC 5 rfl (hx0.Mp rfl).1 (hx0.Mp rfl).2 (pj) rfl (show pj < 10 by omega) (by decide) dX9_like_45 ?_
              refine g_val (w := .ref (b.1 6 (wh S pj))) (congrArg va_rf hp0_p) ?_
              refine g_S (As := [.ref (b.1 6 (wh S pj))]) (st := []) hC 1 dX9_like_46 gX9_like_X9_asNumbers rfl (by decide +kernel) ⟨Nat.le_of_ble_eq_true rfl, Nat.le_of_ble_eq_true rfl⟩ rfl (Nat.le_of_ble_eq_true rfl) ⟨Nat.le_of_ble_eq_true rfl, Nat.le_of_ble_eq_true rfl⟩ (c2 := 0) (s2 := 0) rfl rfl (x_asNumbers (some (b.1 6 (wh S pj))) 4 (Or.inr ⟨_, 5, _, rfl, (hx0.T hw_p rfl hb_p), Or.inr (Or.inr (Or.inr (Or.inl ⟨rfl, rfl⟩)))⟩)) ?_
              refine g_astore_n (lv' := [(3, .null), (0, .ref M), (1, .int (nI pj)), (2, .int (nI qj))]) hC dX9_like_49 rfl (by decide) rfl (Or.inl rfl) ?_
              refine g_aload_n hC dX9_like_50 rfl 1 rfl (Or.inr ⟨_, rfl⟩) ?_
              refine g_get hC (by decide +kernel) rfl (hx0.M hM).1 (hx0.M hM).2 0 (by decide) (by decide +kernel) (Or.inl rfl) rfl dX9_like_51 ?_
              refine g_iload_n hC dX9_like_54 rfl 3 rfl ?_
              refine g_aald hC 5 rfl (hx0.Mp rfl).1 (hx0.Mp rfl).2 (qj) rfl (show qj < 10 by omega) (by decide) dX9_like_55 ?_
              refine g_val (w := .ref (b.1 0 (wh S qj))) (congrArg va_rf hp0_q) ?_
              refine g_S (As := [.ref (b.1 0 (wh S qj))]) (st := []) hC 1 dX9_like_56 gX9_like_X9_asNumbers rfl (by decide +kernel) ⟨Nat.le_of_ble_eq_true rfl, Nat.le_of_ble_eq_true rfl⟩ rfl (Nat.le_of_ble_eq_true rfl) ⟨Nat.le_of_ble_eq_true rfl, Nat.le_of_ble_eq_true rfl⟩ (c2 := 0) (s2 := 0) rfl rfl (x_asNumbers (some (b.1 0 (wh S qj))) 1 (Or.inr ⟨_, 0, _, rfl, (hx0.B hw_q rfl), Or.inl ⟨rfl, rfl⟩⟩)) ?_
              refine g_astore (lv' := [(4, .ref (b.1 0 (wh S qj))), (3, .null), (0, .ref M), (1, .int (nI pj)), (2, .int (nI qj))]) hC dX9_like_59 (by decide) rfl (Or.inr ⟨_, rfl⟩) ?_
              refine g_aload_n hC dX9_like_61 rfl 1 rfl (Or.inl rfl) ?_
              refine g_ifnull (o := none) (tgt := 70) hC dX9_like_62 (by decide) (fun h62 => ?_) (fun a62 h62 => ?_)
              · refine g_aload_n hC dX9_like_70 rfl 2 rfl (Or.inr ⟨_, rfl⟩) ?_
                refine g_iconst hC dX9_like_71 (v := nI 2) (by decide) ?_
                refine g_Vx (As := [.int (nI 2)]) (st := []) hC 1 dX9_like_72 rfl (hx0.M hM).1 (hx0.M hM).2 gX9_like_X9_failed rfl (by decide +kernel) ⟨Nat.le_of_ble_eq_true rfl, Nat.le_of_ble_eq_true rfl⟩ rfl (Nat.le_of_ble_eq_true rfl) ⟨(Nat.le_of_ble_eq_true rfl), (Nat.le_of_ble_eq_true rfl)⟩ (c2 := 0) (s2 := 0) rfl rfl (x_failed hx0 M hM 2) (fun v1 L1 f1 hp1 => ?_)
                obtain ⟨rfl, hx1⟩ := hp1
                show gW X vwCl 5 L1 f1 0 0 75 [(4, .ref (b.1 0 (wh S qj))), (3, .null), (0, .ref M), (1, .int (nI pj)), (2, .int (nI qj))] [.int (fA 2)]
                have hE : s_like S (nI pj) (nI qj) = (fA 2, (aSc (thS S) 1 2)) := by
                  unfold s_like
                  rw [if_pos h4, if_pos h11, hpl_p, hpl_q, if_neg (show ¬ (kd S pj = 0 ∨ kd S qj = 0) by omega), if_pos (show 2 < kd S pj ∨ 2 < kd S qj by omega)] <;> rfl
                exact g_iret hC hR dX9_like_75 ⟨b, congrArg (fun z => some (Value.int (Prod.fst z))) hE.symm, by rw [hE]; exact hx1, xG.rf⟩
              · cases h62
            · cases h31
          · have hw_q : wh S qj < S.1 7 := hI.ws hqj hk_q
            have hp0_q : plcF (thS S) b qj = some (b.1 2 (wh S qj)) := plc_k hqj hk_q (by decide)
            refine g_aald hC 5 rfl (hx0.Mp rfl).1 (hx0.Mp rfl).2 (qj) rfl (show qj < 10 by omega) (by decide) dX9_like_30 ?_
            refine g_val (w := .ref (b.1 2 (wh S qj))) (congrArg va_rf hp0_q) ?_
            refine g_ifnonnull (o := some (b.1 2 (wh S qj))) (tgt := 40) hC dX9_like_31 (by decide) (fun a31 h31 => ?_) (fun h31 => ?_)
            · refine g_aload_n hC dX9_like_40 rfl 0 rfl (Or.inr ⟨_, rfl⟩) ?_
              refine g_get hC (by decide +kernel) rfl (hx0.M hM).1 (hx0.M hM).2 0 (by decide) (by decide +kernel) (Or.inl rfl) rfl dX9_like_41 ?_
              refine g_iload_n hC dX9_like_44 rfl 1 rfl ?_
              refine g_aald hC 5 rfl (hx0.Mp rfl).1 (hx0.Mp rfl).2 (pj) rfl (show pj < 10 by omega) (by decide) dX9_like_45 ?_
              refine g_val (w := .ref (b.1 6 (wh S pj))) (congrArg va_rf hp0_p) ?_
              refine g_S (As := [.ref (b.1 6 (wh S pj))]) (st := []) hC 1 dX9_like_46 gX9_like_X9_asNumbers rfl (by decide +kernel) ⟨Nat.le_of_ble_eq_true rfl, Nat.le_of_ble_eq_true rfl⟩ rfl (Nat.le_of_ble_eq_true rfl) ⟨Nat.le_of_ble_eq_true rfl, Nat.le_of_ble_eq_true rfl⟩ (c2 := 0) (s2 := 0) rfl rfl (x_asNumbers (some (b.1 6 (wh S pj))) 4 (Or.inr ⟨_, 5, _, rfl, (hx0.T hw_p rfl hb_p), Or.inr (Or.inr (Or.inr (Or.inl ⟨rfl, rfl⟩)))⟩)) ?_
              refine g_astore_n (lv' := [(3, .null), (0, .ref M), (1, .int (nI pj)), (2, .int (nI qj))]) hC dX9_like_49 rfl (by decide) rfl (Or.inl rfl) ?_
              refine g_aload_n hC dX9_like_50 rfl 1 rfl (Or.inr ⟨_, rfl⟩) ?_
              refine g_get hC (by decide +kernel) rfl (hx0.M hM).1 (hx0.M hM).2 0 (by decide) (by decide +kernel) (Or.inl rfl) rfl dX9_like_51 ?_
              refine g_iload_n hC dX9_like_54 rfl 3 rfl ?_
              refine g_aald hC 5 rfl (hx0.Mp rfl).1 (hx0.Mp rfl).2 (qj) rfl (show qj < 10 by omega) (by decide) dX9_like_55 ?_
              refine g_val (w := .ref (b.1 2 (wh S qj))) (congrArg va_rf hp0_q) ?_
              refine g_S (As := [.ref (b.1 2 (wh S qj))]) (st := []) hC 1 dX9_like_56 gX9_like_X9_asNumbers rfl (by decide +kernel) ⟨Nat.le_of_ble_eq_true rfl, Nat.le_of_ble_eq_true rfl⟩ rfl (Nat.le_of_ble_eq_true rfl) ⟨Nat.le_of_ble_eq_true rfl, Nat.le_of_ble_eq_true rfl⟩ (c2 := 0) (s2 := 0) rfl rfl (x_asNumbers (some (b.1 2 (wh S qj))) 2 (Or.inr ⟨_, 4, _, rfl, (hx0.G hw_q rfl), Or.inr (Or.inl ⟨rfl, rfl⟩)⟩)) ?_
              refine g_astore (lv' := [(4, .ref (b.1 2 (wh S qj))), (3, .null), (0, .ref M), (1, .int (nI pj)), (2, .int (nI qj))]) hC dX9_like_59 (by decide) rfl (Or.inr ⟨_, rfl⟩) ?_
              refine g_aload_n hC dX9_like_61 rfl 1 rfl (Or.inl rfl) ?_
              refine g_ifnull (o := none) (tgt := 70) hC dX9_like_62 (by decide) (fun h62 => ?_) (fun a62 h62 => ?_)
              · refine g_aload_n hC dX9_like_70 rfl 2 rfl (Or.inr ⟨_, rfl⟩) ?_
                refine g_iconst hC dX9_like_71 (v := nI 2) (by decide) ?_
                refine g_Vx (As := [.int (nI 2)]) (st := []) hC 1 dX9_like_72 rfl (hx0.M hM).1 (hx0.M hM).2 gX9_like_X9_failed rfl (by decide +kernel) ⟨Nat.le_of_ble_eq_true rfl, Nat.le_of_ble_eq_true rfl⟩ rfl (Nat.le_of_ble_eq_true rfl) ⟨(Nat.le_of_ble_eq_true rfl), (Nat.le_of_ble_eq_true rfl)⟩ (c2 := 0) (s2 := 0) rfl rfl (x_failed hx0 M hM 2) (fun v1 L1 f1 hp1 => ?_)
                obtain ⟨rfl, hx1⟩ := hp1
                show gW X vwCl 5 L1 f1 0 0 75 [(4, .ref (b.1 2 (wh S qj))), (3, .null), (0, .ref M), (1, .int (nI pj)), (2, .int (nI qj))] [.int (fA 2)]
                have hE : s_like S (nI pj) (nI qj) = (fA 2, (aSc (thS S) 1 2)) := by
                  unfold s_like
                  rw [if_pos h4, if_pos h11, hpl_p, hpl_q, if_neg (show ¬ (kd S pj = 0 ∨ kd S qj = 0) by omega), if_pos (show 2 < kd S pj ∨ 2 < kd S qj by omega)] <;> rfl
                exact g_iret hC hR dX9_like_75 ⟨b, congrArg (fun z => some (Value.int (Prod.fst z))) hE.symm, by rw [hE]; exact hx1, xG.rf⟩
              · cases h62
            · cases h31
          · have hw_q : wh S qj < S.1 10 := hI.wr hqj hk_q
            have hp0_q : plcF (thS S) b qj = some (b.1 4 (wh S qj)) := plc_k hqj hk_q (by decide)
            refine g_aald hC 5 rfl (hx0.Mp rfl).1 (hx0.Mp rfl).2 (qj) rfl (show qj < 10 by omega) (by decide) dX9_like_30 ?_
            refine g_val (w := .ref (b.1 4 (wh S qj))) (congrArg va_rf hp0_q) ?_
            refine g_ifnonnull (o := some (b.1 4 (wh S qj))) (tgt := 40) hC dX9_like_31 (by decide) (fun a31 h31 => ?_) (fun h31 => ?_)
            · refine g_aload_n hC dX9_like_40 rfl 0 rfl (Or.inr ⟨_, rfl⟩) ?_
              refine g_get hC (by decide +kernel) rfl (hx0.M hM).1 (hx0.M hM).2 0 (by decide) (by decide +kernel) (Or.inl rfl) rfl dX9_like_41 ?_
              refine g_iload_n hC dX9_like_44 rfl 1 rfl ?_
              refine g_aald hC 5 rfl (hx0.Mp rfl).1 (hx0.Mp rfl).2 (pj) rfl (show pj < 10 by omega) (by decide) dX9_like_45 ?_
              refine g_val (w := .ref (b.1 6 (wh S pj))) (congrArg va_rf hp0_p) ?_
              refine g_S (As := [.ref (b.1 6 (wh S pj))]) (st := []) hC 1 dX9_like_46 gX9_like_X9_asNumbers rfl (by decide +kernel) ⟨Nat.le_of_ble_eq_true rfl, Nat.le_of_ble_eq_true rfl⟩ rfl (Nat.le_of_ble_eq_true rfl) ⟨Nat.le_of_ble_eq_true rfl, Nat.le_of_ble_eq_true rfl⟩ (c2 := 0) (s2 := 0) rfl rfl (x_asNumbers (some (b.1 6 (wh S pj))) 4 (Or.inr ⟨_, 5, _, rfl, (hx0.T hw_p rfl hb_p), Or.inr (Or.inr (Or.inr (Or.inl ⟨rfl, rfl⟩)))⟩)) ?_
              refine g_astore_n (lv' := [(3, .null), (0, .ref M), (1, .int (nI pj)), (2, .int (nI qj))]) hC dX9_like_49 rfl (by decide) rfl (Or.inl rfl) ?_
              refine g_aload_n hC dX9_like_50 rfl 1 rfl (Or.inr ⟨_, rfl⟩) ?_
              refine g_get hC (by decide +kernel) rfl (hx0.M hM).1 (hx0.M hM).2 0 (by decide) (by decide +kernel) (Or.inl rfl) rfl dX9_like_51 ?_
              refine g_iload_n hC dX9_like_54 rfl 3 rfl ?_
              refine g_aald hC 5 rfl (hx0.Mp rfl).1 (hx0.Mp rfl).2 (qj) rfl (show qj < 10 by omega) (by decide) dX9_like_55 ?_
              refine g_val (w := .ref (b.1 4 (wh S qj))) (congrArg va_rf hp0_q) ?_
              refine g_S (As := [.ref (b.1 4 (wh S qj))]) (st := []) hC 1 dX9_like_56 gX9_like_X9_asNumbers rfl (by decide +kernel) ⟨Nat.le_of_ble_eq_true rfl, Nat.le_of_ble_eq_true rfl⟩ rfl (Nat.le_of_ble_eq_true rfl) ⟨Nat.le_of_ble_eq_true rfl, Nat.le_of_ble_eq_true rfl⟩ (c2 := 0) (s2 := 0) rfl rfl (x_asNumbers (some (b.1 4 (wh S qj))) 3 (Or.inr ⟨_, 3, _, rfl, (hx0.W hw_q rfl), Or.inr (Or.inr (Or.inl ⟨rfl, rfl⟩))⟩)) ?_
              refine g_astore (lv' := [(4, .null), (3, .null), (0, .ref M), (1, .int (nI pj)), (2, .int (nI qj))]) hC dX9_like_59 (by decide) rfl (Or.inl rfl) ?_
              refine g_aload_n hC dX9_like_61 rfl 1 rfl (Or.inl rfl) ?_
              refine g_ifnull (o := none) (tgt := 70) hC dX9_like_62 (by decide) (fun h62 => ?_) (fun a62 h62 => ?_)
              · refine g_aload_n hC dX9_like_70 rfl 2 rfl (Or.inr ⟨_, rfl⟩) ?_
                refine g_iconst hC dX9_like_71 (v := nI 2) (by decide) ?_
                refine g_Vx (As := [.int (nI 2)]) (st := []) hC 1 dX9_like_72 rfl (hx0.M hM).1 (hx0.M hM).2 gX9_like_X9_failed rfl (by decide +kernel) ⟨Nat.le_of_ble_eq_true rfl, Nat.le_of_ble_eq_true rfl⟩ rfl (Nat.le_of_ble_eq_true rfl) ⟨(Nat.le_of_ble_eq_true rfl), (Nat.le_of_ble_eq_true rfl)⟩ (c2 := 0) (s2 := 0) rfl rfl (x_failed hx0 M hM 2) (fun v1 L1 f1 hp1 => ?_)
                obtain ⟨rfl, hx1⟩ := hp1
                show gW X vwCl 5 L1 f1 0 0 75 [(4, .null), (3, .null), (0, .ref M), (1, .int (nI pj)), (2, .int (nI qj))] [.int (fA 2)]
                have hE : s_like S (nI pj) (nI qj) = (fA 2, (aSc (thS S) 1 2)) := by
                  unfold s_like
                  rw [if_pos h4, if_pos h11, hpl_p, hpl_q, if_neg (show ¬ (kd S pj = 0 ∨ kd S qj = 0) by omega), if_pos (show 2 < kd S pj ∨ 2 < kd S qj by omega)] <;> rfl
                exact g_iret hC hR dX9_like_75 ⟨b, congrArg (fun z => some (Value.int (Prod.fst z))) hE.symm, by rw [hE]; exact hx1, xG.rf⟩
              · cases h62
            · cases h31
          · have hw_q : wh S qj < S.1 13 := hI.wt hqj (by omega)
            have hb_q : S.2.1 14 (wh S qj) = 0 := by have := ((hI.2.1 _ hqj).2.2.2.2.2 (by omega)).2; omega
            have hp0_q : plcF (thS S) b qj = some (b.1 6 (wh S qj)) := plc_k hqj hk_q (by decide)
            refine g_aald hC 5 rfl (hx0.Mp rfl).1 (hx0.Mp rfl).2 (qj) rfl (show qj < 10 by omega) (by decide) dX9_like_30 ?_
            refine g_val (w := .ref (b.1 6 (wh S qj))) (congrArg va_rf hp0_q) ?_
            refine g_ifnonnull (o := some (b.1 6 (wh S qj))) (tgt := 40) hC dX9_like_31 (by decide) (fun a31 h31 => ?_) (fun h31 => ?_)
            · refine g_aload_n hC dX9_like_40 rfl 0 rfl (Or.inr ⟨_, rfl⟩) ?_
              refine g_get hC (by decide +kernel) rfl (hx0.M hM).1 (hx0.M hM).2 0 (by decide) (by decide +kernel) (Or.inl rfl) rfl dX9_like_41 ?_
              refine g_iload_n hC dX9_like_44 rfl 1 rfl ?_
              refine g_aald hC 5 rfl (hx0.Mp rfl).1 (hx0.Mp rfl).2 (pj) rfl (show pj < 10 by omega) (by decide) dX9_like_45 ?_
              refine g_val (w := .ref (b.1 6 (wh S pj))) (congrArg va_rf hp0_p) ?_
              refine g_S (As := [.ref (b.1 6 (wh S pj))]) (st := []) hC 1 dX9_like_46 gX9_like_X9_asNumbers rfl (by decide +kernel) ⟨Nat.le_of_ble_eq_true rfl, Nat.le_of_ble_eq_true rfl⟩ rfl (Nat.le_of_ble_eq_true rfl) ⟨Nat.le_of_ble_eq_true rfl, Nat.le_of_ble_eq_true rfl⟩ (c2 := 0) (s2 := 0) rfl rfl (x_asNumbers (some (b.1 6 (wh S pj))) 4 (Or.inr ⟨_, 5, _, rfl, (hx0.T hw_p rfl hb_p), Or.inr (Or.inr (Or.inr (Or.inl ⟨rfl, rfl⟩)))⟩)) ?_
              refine g_astore_n (lv' := [(3, .null), (0, .ref M), (1, .int (nI pj)), (2, .int (nI qj))]) hC dX9_like_49 rfl (by decide) rfl (Or.inl rfl) ?_
              refine g_aload_n hC dX9_like_50 rfl 1 rfl (Or.inr ⟨_, rfl⟩) ?_
              refine g_get hC (by decide +kernel) rfl (hx0.M hM).1 (hx0.M hM).2 0 (by decide) (by decide +kernel) (Or.inl rfl) rfl dX9_like_51 ?_
              refine g_iload_n hC dX9_like_54 rfl 3 rfl ?_
              refine g_aald hC 5 rfl (hx0.Mp rfl).1 (hx0.Mp rfl).2 (qj) rfl (show qj < 10 by omega) (by decide) dX9_like_55 ?_
              refine g_val (w := .ref (b.1 6 (wh S qj))) (congrArg va_rf hp0_q) ?_
              refine g_S (As := [.ref (b.1 6 (wh S qj))]) (st := []) hC 1 dX9_like_56 gX9_like_X9_asNumbers rfl (by decide +kernel) ⟨Nat.le_of_ble_eq_true rfl, Nat.le_of_ble_eq_true rfl⟩ rfl (Nat.le_of_ble_eq_true rfl) ⟨Nat.le_of_ble_eq_true rfl, Nat.le_of_ble_eq_true rfl⟩ (c2 := 0) (s2 := 0) rfl rfl (x_asNumbers (some (b.1 6 (wh S qj))) 4 (Or.inr ⟨_, 5, _, rfl, (hx0.T hw_q rfl hb_q), Or.inr (Or.inr (Or.inr (Or.inl ⟨rfl, rfl⟩)))⟩)) ?_
              refine g_astore (lv' := [(4, .null), (3, .null), (0, .ref M), (1, .int (nI pj)), (2, .int (nI qj))]) hC dX9_like_59 (by decide) rfl (Or.inl rfl) ?_
              refine g_aload_n hC dX9_like_61 rfl 1 rfl (Or.inl rfl) ?_
              refine g_ifnull (o := none) (tgt := 70) hC dX9_like_62 (by decide) (fun h62 => ?_) (fun a62 h62 => ?_)
              · refine g_aload_n hC dX9_like_70 rfl 2 rfl (Or.inr ⟨_, rfl⟩) ?_
                refine g_iconst hC dX9_like_71 (v := nI 2) (by decide) ?_
                refine g_Vx (As := [.int (nI 2)]) (st := []) hC 1 dX9_like_72 rfl (hx0.M hM).1 (hx0.M hM).2 gX9_like_X9_failed rfl (by decide +kernel) ⟨Nat.le_of_ble_eq_true rfl, Nat.le_of_ble_eq_true rfl⟩ rfl (Nat.le_of_ble_eq_true rfl) ⟨(Nat.le_of_ble_eq_true rfl), (Nat.le_of_ble_eq_true rfl)⟩ (c2 := 0) (s2 := 0) rfl rfl (x_failed hx0 M hM 2) (fun v1 L1 f1 hp1 => ?_)
                obtain ⟨rfl, hx1⟩ := hp1
                show gW X vwCl 5 L1 f1 0 0 75 [(4, .null), (3, .null), (0, .ref M), (1, .int (nI pj)), (2, .int (nI qj))] [.int (fA 2)]
                have hE : s_like S (nI pj) (nI qj) = (fA 2, (aSc (thS S) 1 2)) := by
                  unfold s_like
                  rw [if_pos h4, if_pos h11, hpl_p, hpl_q, if_neg (show ¬ (kd S pj = 0 ∨ kd S qj = 0) by omega), if_pos (show 2 < kd S pj ∨ 2 < kd S qj by omega)] <;> rfl
                exact g_iret hC hR dX9_like_75 ⟨b, congrArg (fun z => some (Value.int (Prod.fst z))) hE.symm, by rw [hE]; exact hx1, xG.rf⟩
              · cases h62
            · cases h31
          · have hw_q : wh S qj < S.1 13 := hI.wt hqj (by omega)
            have hb_q : S.2.1 14 (wh S qj) ≠ 0 := by have := ((hI.2.1 _ hqj).2.2.2.2.2 (by omega)).2; omega
            have hp0_q : plcF (thS S) b qj = some (b.1 6 (wh S qj)) := plc_k hqj hk_q (by decide)
            refine g_aald hC 5 rfl (hx0.Mp rfl).1 (hx0.Mp rfl).2 (qj) rfl (show qj < 10 by omega) (by decide) dX9_like_30 ?_
            refine g_val (w := .ref (b.1 6 (wh S qj))) (congrArg va_rf hp0_q) ?_
            refine g_ifnonnull (o := some (b.1 6 (wh S qj))) (tgt := 40) hC dX9_like_31 (by decide) (fun a31 h31 => ?_) (fun h31 => ?_)
            · refine g_aload_n hC dX9_like_40 rfl 0 rfl (Or.inr ⟨_, rfl⟩) ?_
              refine g_get hC (by decide +kernel) rfl (hx0.M hM).1 (hx0.M hM).2 0 (by decide) (by decide +kernel) (Or.inl rfl) rfl dX9_like_41 ?_
              refine g_iload_n hC dX9_like_44 rfl 1 rfl ?_
              refine g_aald hC 5 rfl (hx0.Mp rfl).1 (hx0.Mp rfl).2 (pj) rfl (show pj < 10 by omega) (by decide) dX9_like_45 ?_
              refine g_val (w := .ref (b.1 6 (wh S pj))) (congrArg va_rf hp0_p) ?_
              refine g_S (As := [.ref (b.1 6 (wh S pj))]) (st := []) hC 1 dX9_like_46 gX9_like_X9_asNumbers rfl (by decide +kernel) ⟨Nat.le_of_ble_eq_true rfl, Nat.le_of_ble_eq_true rfl⟩ rfl (Nat.le_of_ble_eq_true rfl) ⟨Nat.le_of_ble_eq_true rfl, Nat.le_of_ble_eq_true rfl⟩ (c2 := 0) (s2 := 0) rfl rfl (x_asNumbers (some (b.1 6 (wh S pj))) 4 (Or.inr ⟨_, 5, _, rfl, (hx0.T hw_p rfl hb_p), Or.inr (Or.inr (Or.inr (Or.inl ⟨rfl, rfl⟩)))⟩)) ?_
              refine g_astore_n (lv' := [(3, .null), (0, .ref M), (1, .int (nI pj)), (2, .int (nI qj))]) hC dX9_like_49 rfl (by decide) rfl (Or.inl rfl) ?_
              refine g_aload_n hC dX9_like_50 rfl 1 rfl (Or.inr ⟨_, rfl⟩) ?_
              refine g_get hC (by decide +kernel) rfl (hx0.M hM).1 (hx0.M hM).2 0 (by decide) (by decide +kernel) (Or.inl rfl) rfl dX9_like_51 ?_
              refine g_iload_n hC dX9_like_54 rfl 3 rfl ?_
              refine g_aald hC 5 rfl (hx0.Mp rfl).1 (hx0.Mp rfl).2 (qj) rfl (show qj < 10 by omega) (by decide) dX9_like_55 ?_
              refine g_val (w := .ref (b.1 6 (wh S qj))) (congrArg va_rf hp0_q) ?_
              refine g_S (As := [.ref (b.1 6 (wh S qj))]) (st := []) hC 1 dX9_like_56 gX9_like_X9_asNumbers rfl (by decide +kernel) ⟨Nat.le_of_ble_eq_true rfl, Nat.le_of_ble_eq_true rfl⟩ rfl (Nat.le_of_ble_eq_true rfl) ⟨Nat.le_of_ble_eq_true rfl, Nat.le_of_ble_eq_true rfl⟩ (c2 := 0) (s2 := 0) rfl rfl (x_asNumbers (some (b.1 6 (wh S qj))) 5 (Or.inr ⟨_, 1, _, rfl, (hx0.K hw_q rfl hb_q), Or.inr (Or.inr (Or.inr (Or.inr ⟨rfl, rfl⟩)))⟩)) ?_
              refine g_astore (lv' := [(4, .null), (3, .null), (0, .ref M), (1, .int (nI pj)), (2, .int (nI qj))]) hC dX9_like_59 (by decide) rfl (Or.inl rfl) ?_
              refine g_aload_n hC dX9_like_61 rfl 1 rfl (Or.inl rfl) ?_
              refine g_ifnull (o := none) (tgt := 70) hC dX9_like_62 (by decide) (fun h62 => ?_) (fun a62 h62 => ?_)
              · refine g_aload_n hC dX9_like_70 rfl 2 rfl (Or.inr ⟨_, rfl⟩) ?_
                refine g_iconst hC dX9_like_71 (v := nI 2) (by decide) ?_
                refine g_Vx (As := [.int (nI 2)]) (st := []) hC 1 dX9_like_72 rfl (hx0.M hM).1 (hx0.M hM).2 gX9_like_X9_failed rfl (by decide +kernel) ⟨Nat.le_of_ble_eq_true rfl, Nat.le_of_ble_eq_true rfl⟩ rfl (Nat.le_of_ble_eq_true rfl) ⟨(Nat.le_of_ble_eq_true rfl), (Nat.le_of_ble_eq_true rfl)⟩ (c2 := 0) (s2 := 0) rfl rfl (x_failed hx0 M hM 2) (fun v1 L1 f1 hp1 => ?_)
                obtain ⟨rfl, hx1⟩ := hp1
                show gW X vwCl 5 L1 f1 0 0 75 [(4, .null), (3, .null), (0, .ref M), (1, .int (nI pj)), (2, .int (nI qj))] [.int (fA 2)]
                have hE : s_like S (nI pj) (nI qj) = (fA 2, (aSc (thS S) 1 2)) := by
                  unfold s_like
                  rw [if_pos h4, if_pos h11, hpl_p, hpl_q, if_neg (show ¬ (kd S pj = 0 ∨ kd S qj = 0) by omega), if_pos (show 2 < kd S pj ∨ 2 < kd S qj by omega)] <;> rfl
                exact g_iret hC hR dX9_like_75 ⟨b, congrArg (fun z => some (Value.int (Prod.fst z))) hE.symm, by rw [hE]; exact hx1, xG.rf⟩
              · cases h62
            · cases h31
      · have hw_p : wh S pj < S.1 13 := hI.wt hpj (by omega)
        have hb_p : S.2.1 14 (wh S pj) ≠ 0 := by have := ((hI.2.1 _ hpj).2.2.2.2.2 (by omega)).2; omega
        have hp0_p : plcF (thS S) b pj = some (b.1 6 (wh S pj)) := plc_k hpj hk_p (by decide)
        refine g_aald hC 5 rfl (hx0.Mp rfl).1 (hx0.Mp rfl).2 (pj) rfl (show pj < 10 by omega) (by decide) dX9_like_21 ?_
        refine g_val (w := .ref (b.1 6 (wh S pj))) (congrArg va_rf hp0_p) ?_
        refine g_ifnull (o := some (b.1 6 (wh S pj))) (tgt := 34) hC dX9_like_22 (by decide) (fun h22 => ?_) (fun a22 h22 => ?_)
        · cases h22
        · refine g_aload_n hC dX9_like_25 rfl 0 rfl (Or.inr ⟨_, rfl⟩) ?_
          refine g_get hC (by decide +kernel) rfl (hx0.M hM).1 (hx0.M hM).2 0 (by decide) (by decide +kernel) (Or.inl rfl) rfl dX9_like_26 ?_
          refine g_iload_n hC dX9_like_29 rfl 2 rfl ?_
          have h5_q := hI.k5 hqj
          rcases (show kd S qj = 0 ∨ kd S qj = 1 ∨ kd S qj = 2 ∨ kd S qj = 3 ∨ kd S qj = 4 ∨ kd S qj = 5 by omega) with hk_q | hk_q | hk_q | hk_q | hk_q | hk_q
          · have hp0_q : plcF (thS S) b qj = none := plc_0 hqj hk_q
            refine g_aald hC 5 rfl (hx0.Mp rfl).1 (hx0.Mp rfl).2 (qj) rfl (show qj < 10 by omega) (by decide) dX9_like_30 ?_
            refine g_val (w := .null) (congrArg va_rf hp0_q) ?_
            refine g_ifnonnull (o := none) (tgt := 40) hC dX9_like_31 (by decide) (fun a31 h31 => ?_) (fun h31 => ?_)
            · cases h31
            · refine g_aload_n hC dX9_like_34 rfl 0 rfl (Or.inr ⟨_, rfl⟩) ?_
              refine g_iconst hC dX9_like_35 (v := nI 1) (by decide) ?_
              refine g_Vx (As := [.int (nI 1)]) (st := []) hC 1 dX9_like_36 rfl (hx0.M hM).1 (hx0.M hM).2 gX9_like_X9_failed rfl (by decide +kernel) ⟨Nat.le_of_ble_eq_true rfl, Nat.le_of_ble_eq_true rfl⟩ rfl (Nat.le_of_ble_eq_true rfl) ⟨(Nat.le_of_ble_eq_true rfl), (Nat.le_of_ble_eq_true rfl)⟩ (c2 := 0) (s2 := 0) rfl rfl (x_failed hx0 M hM 1) (fun v1 L1 f1 hp1 => ?_)
              obtain ⟨rfl, hx1⟩ := hp1
              show gW X vwCl 5 L1 f1 0 0 39 [(0, .ref M), (1, .int (nI pj)), (2, .int (nI qj))] [.int (fA 1)]
              have hE : s_like S (nI pj) (nI qj) = (fA 1, (aSc (thS S) 1 1)) := by
                unfold s_like
                rw [if_pos h4, if_pos h11, hpl_p, hpl_q, if_pos (Or.inr hk_q)] <;> rfl
              exact g_iret hC hR dX9_like_39 ⟨b, congrArg (fun z => some (Value.int (Prod.fst z))) hE.symm, by rw [hE]; exact hx1, xG.rf⟩
          · have hw_q : wh S qj < S.1 4 := hI.wl hqj hk_q
            have hp0_q : plcF (thS S) b qj = some (b.1 0 (wh S qj)) := plc_k hqj hk_q (by decide)
            refine g_aald hC 5 rfl (hx0.Mp rfl).1 (hx0.Mp rfl).2 (qj) rfl (show qj < 10 by omega) (by decide) dX9_like_30 ?_
            refine g_val (w := .ref (b.1 0 (wh S qj))) (congrArg va_rf hp0_q) ?_
            refine g_ifnonnull (o := some (b.1 0 (wh S qj))) (tgt := 40) hC dX9_like_31 (by decide) (fun a31 h31 => ?_) (fun h31 => ?_)
            · refine g_aload_n hC dX9_like_40 rfl 0 rfl (Or.inr ⟨_, rfl⟩) ?_
              refine g_get hC (by decide +kernel) rfl (hx0.M hM).1 (hx0.M hM).2 0 (by decide) (by decide +kernel) (Or.inl rfl) rfl dX9_like_41 ?_
              refine g_iload_n hC dX9_like_44 rfl 1 rfl ?_
              refine g_aald hC 5 rfl (hx0.Mp rfl).1 (hx0.Mp rfl).2 (pj) rfl (show pj < 10 by omega) (by decide) dX9_like_45 ?_
              refine g_val (w := .ref (b.1 6 (wh S pj))) (congrArg va_rf hp0_p) ?_
              refine g_S (As := [.ref (b.1 6 (wh S pj))]) (st := []) hC 1 dX9_like_46 gX9_like_X9_asNumbers rfl (by decide +kernel) ⟨Nat.le_of_ble_eq_true rfl, Nat.le_of_ble_eq_true rfl⟩ rfl (Nat.le_of_ble_eq_true rfl) ⟨Nat.le_of_ble_eq_true rfl, Nat.le_of_ble_eq_true rfl⟩ (c2 := 0) (s2 := 0) rfl rfl (x_asNumbers (some (b.1 6 (wh S pj))) 5 (Or.inr ⟨_, 1, _, rfl, (hx0.K hw_p rfl hb_p), Or.inr (Or.inr (Or.inr (Or.inr ⟨rfl, rfl⟩)))⟩)) ?_
              refine g_astore_n (lv' := [(3, .null), (0, .ref M), (1, .int (nI pj)), (2, .int (nI qj))]) hC dX9_like_49 rfl (by decide) rfl (Or.inl rfl) ?_
              refine g_aload_n hC dX9_like_50 rfl 1 rfl (Or.inr ⟨_, rfl⟩) ?_
              refine g_get hC (by decide +kernel) rfl (hx0.M hM).1 (hx0.M hM).2 0 (by decide) (by decide +kernel) (Or.inl rfl) rfl dX9_like_51 ?_
              refine g_iload_n hC dX9_like_54 rfl 3 rfl ?_
              refine g_aald hC 5 rfl (hx0.Mp rfl).1 (hx0.Mp rfl).2 (qj) rfl (show qj < 10 by omega) (by decide) dX9_like_55 ?_
              refine g_val (w := .ref (b.1 0 (wh S qj))) (congrArg va_rf hp0_q) ?_
              refine g_S (As := [.ref (b.1 0 (wh S qj))]) (st := []) hC 1 dX9_like_56 gX9_like_X9_asNumbers rfl (by decide +kernel) ⟨Nat.le_of_ble_eq_true rfl, Nat.le_of_ble_eq_true rfl⟩ rfl (Nat.le_of_ble_eq_true rfl) ⟨Nat.le_of_ble_eq_true rfl, Nat.le_of_ble_eq_true rfl⟩ (c2 := 0) (s2 := 0) rfl rfl (x_asNumbers (some (b.1 0 (wh S qj))) 1 (Or.inr ⟨_, 0, _, rfl, (hx0.B hw_q rfl), Or.inl ⟨rfl, rfl⟩⟩)) ?_
              refine g_astore (lv' := [(4, .ref (b.1 0 (wh S qj))), (3, .null), (0, .ref M), (1, .int (nI pj)), (2, .int (nI qj))]) hC dX9_like_59 (by decide) rfl (Or.inr ⟨_, rfl⟩) ?_
              refine g_aload_n hC dX9_like_61 rfl 1 rfl (Or.inl rfl) ?_
              refine g_ifnull (o := none) (tgt := 70) hC dX9_like_62 (by decide) (fun h62 => ?_) (fun a62 h62 => ?_)
              · refine g_aload_n hC dX9_like_70 rfl 2 rfl (Or.inr ⟨_, rfl⟩) ?_
                refine g_iconst hC dX9_like_71 (v := nI 2) (by decide) ?_
                refine g_Vx (As := [.int (nI 2)]) (st := []) hC 1 dX9_like_72 rfl (hx0.M hM).1 (hx0.M hM).2 gX9_like_X9_failed rfl (by decide +kernel) ⟨Nat.le_of_ble_eq_true rfl, Nat.le_of_ble_eq_true rfl⟩ rfl (Nat.le_of_ble_eq_true rfl) ⟨(Nat.le_of_ble_eq_true rfl), (Nat.le_of_ble_eq_true rfl)⟩ (c2 := 0) (s2 := 0) rfl rfl (x_failed hx0 M hM 2) (fun v1 L1 f1 hp1 => ?_)
                obtain ⟨rfl, hx1⟩ := hp1
                show gW X vwCl 5 L1 f1 0 0 75 [(4, .ref (b.1 0 (wh S qj))), (3, .null), (0, .ref M), (1, .int (nI pj)), (2, .int (nI qj))] [.int (fA 2)]
                have hE : s_like S (nI pj) (nI qj) = (fA 2, (aSc (thS S) 1 2)) := by
                  unfold s_like
                  rw [if_pos h4, if_pos h11, hpl_p, hpl_q, if_neg (show ¬ (kd S pj = 0 ∨ kd S qj = 0) by omega), if_pos (show 2 < kd S pj ∨ 2 < kd S qj by omega)] <;> rfl
                exact g_iret hC hR dX9_like_75 ⟨b, congrArg (fun z => some (Value.int (Prod.fst z))) hE.symm, by rw [hE]; exact hx1, xG.rf⟩
              · cases h62
            · cases h31
          · have hw_q : wh S qj < S.1 7 := hI.ws hqj hk_q
            have hp0_q : plcF (thS S) b qj = some (b.1 2 (wh S qj)) := plc_k hqj hk_q (by decide)
            refine g_aald hC 5 rfl (hx0.Mp rfl).1 (hx0.Mp rfl).2 (qj) rfl (show qj < 10 by omega) (by decide) dX9_like_30 ?_
            refine g_val (w := .ref (b.1 2 (wh S qj))) (congrArg va_rf hp0_q) ?_
            refine g_ifnonnull (o := some (b.1 2 (wh S qj))) (tgt := 40) hC dX9_like_31 (by decide) (fun a31 h31 => ?_) (fun h31 => ?_)
            · refine g_aload_n hC dX9_like_40 rfl 0 rfl (Or.inr ⟨_, rfl⟩) ?_
              refine g_get hC (by decide +kernel) rfl (hx0.M hM).1 (hx0.M hM).2 0 (by decide) (by decide +kernel) (Or.inl rfl) rfl dX9_like_41 ?_
              refine g_iload_n hC dX9_like_44 rfl 1 rfl ?_
              refine g_aald hC 5 rfl (hx0.Mp rfl).1 (hx0.Mp rfl).2 (pj) rfl (show pj < 10 by omega) (by decide) dX9_like_45 ?_
              refine g_val (w := .ref (b.1 6 (wh S pj))) (congrArg va_rf hp0_p) ?_
              refine g_S (As := [.ref (b.1 6 (wh S pj))]) (st := []) hC 1 dX9_like_46 gX9_like_X9_asNumbers rfl (by decide +kernel) ⟨Nat.le_of_ble_eq_true rfl, Nat.le_of_ble_eq_true rfl⟩ rfl (Nat.le_of_ble_eq_true rfl) ⟨Nat.le_of_ble_eq_true rfl, Nat.le_of_ble_eq_true rfl⟩ (c2 := 0) (s2 := 0) rfl rfl (x_asNumbers (some (b.1 6 (wh S pj))) 5 (Or.inr ⟨_, 1, _, rfl, (hx0.K hw_p rfl hb_p), Or.inr (Or.inr (Or.inr (Or.inr ⟨rfl, rfl⟩)))⟩)) ?_
              refine g_astore_n (lv' := [(3, .null), (0, .ref M), (1, .int (nI pj)), (2, .int (nI qj))]) hC dX9_like_49 rfl (by decide) rfl (Or.inl rfl) ?_
              refine g_aload_n hC dX9_like_50 rfl 1 rfl (Or.inr ⟨_, rfl⟩) ?_
              refine g_get hC (by decide +kernel) rfl (hx0.M hM).1 (hx0.M hM).2 0 (by decide) (by decide +kernel) (Or.inl rfl) rfl dX9_like_51 ?_
              refine g_iload_n hC dX9_like_54 rfl 3 rfl ?_
              refine g_aald hC 5 rfl (hx0.Mp rfl).1 (hx0.Mp rfl).2 (qj) rfl (show qj < 10 by omega) (by decide) dX9_like_55 ?_
              refine g_val (w := .ref (b.1 2 (wh S qj))) (congrArg va_rf hp0_q) ?_
              refine g_S (As := [.ref (b.1 2 (wh S qj))]) (st := []) hC 1 dX9_like_56 gX9_like_X9_asNumbers rfl (by decide +kernel) ⟨Nat.le_of_ble_eq_true rfl, Nat.le_of_ble_eq_true rfl⟩ rfl (Nat.le_of_ble_eq_true rfl) ⟨Nat.le_of_ble_eq_true rfl, Nat.le_of_ble_eq_true rfl⟩ (c2 := 0) (s2 := 0) rfl rfl (x_asNumbers (some (b.1 2 (wh S qj))) 2 (Or.inr ⟨_, 4, _, rfl, (hx0.G hw_q rfl), Or.inr (Or.inl ⟨rfl, rfl⟩)⟩)) ?_
              refine g_astore (lv' := [(4, .ref (b.1 2 (wh S qj))), (3, .null), (0, .ref M), (1, .int (nI pj)), (2, .int (nI qj))]) hC dX9_like_59 (by decide) rfl (Or.inr ⟨_, rfl⟩) ?_
              refine g_aload_n hC dX9_like_61 rfl 1 rfl (Or.inl rfl) ?_
              refine g_ifnull (o := none) (tgt := 70) hC dX9_like_62 (by decide) (fun h62 => ?_) (fun a62 h62 => ?_)
              · refine g_aload_n hC dX9_like_70 rfl 2 rfl (Or.inr ⟨_, rfl⟩) ?_
                refine g_iconst hC dX9_like_71 (v := nI 2) (by decide) ?_
                refine g_Vx (As := [.int (nI 2)]) (st := []) hC 1 dX9_like_72 rfl (hx0.M hM).1 (hx0.M hM).2 gX9_like_X9_failed rfl (by decide +kernel) ⟨Nat.le_of_ble_eq_true rfl, Nat.le_of_ble_eq_true rfl⟩ rfl (Nat.le_of_ble_eq_true rfl) ⟨(Nat.le_of_ble_eq_true rfl), (Nat.le_of_ble_eq_true rfl)⟩ (c2 := 0) (s2 := 0) rfl rfl (x_failed hx0 M hM 2) (fun v1 L1 f1 hp1 => ?_)
                obtain ⟨rfl, hx1⟩ := hp1
                show gW X vwCl 5 L1 f1 0 0 75 [(4, .ref (b.1 2 (wh S qj))), (3, .null), (0, .ref M), (1, .int (nI pj)), (2, .int (nI qj))] [.int (fA 2)]
                have hE : s_like S (nI pj) (nI qj) = (fA 2, (aSc (thS S) 1 2)) := by
                  unfold s_like
                  rw [if_pos h4, if_pos h11, hpl_p, hpl_q, if_neg (show ¬ (kd S pj = 0 ∨ kd S qj = 0) by omega), if_pos (show 2 < kd S pj ∨ 2 < kd S qj by omega)] <;> rfl
                exact g_iret hC hR dX9_like_75 ⟨b, congrArg (fun z => some (Value.int (Prod.fst z))) hE.symm, by rw [hE]; exact hx1, xG.rf⟩
              · cases h62
            · cases h31
          · have hw_q : wh S qj < S.1 10 := hI.wr hqj hk_q
            have hp0_q : plcF (thS S) b qj = some (b.1 4 (wh S qj)) := plc_k hqj hk_q (by decide)
            refine g_aald hC 5 rfl (hx0.Mp rfl).1 (hx0.Mp rfl).2 (qj) rfl (show qj < 10 by omega) (by decide) dX9_like_30 ?_
            refine g_val (w := .ref (b.1 4 (wh S qj))) (congrArg va_rf hp0_q) ?_
            refine g_ifnonnull (o := some (b.1 4 (wh S qj))) (tgt := 40) hC dX9_like_31 (by decide) (fun a31 h31 => ?_) (fun h31 => ?_)
            · refine g_aload_n hC dX9_like_40 rfl 0 rfl (Or.inr ⟨_, rfl⟩) ?_
              refine g_get hC (by decide +kernel) rfl (hx0.M hM).1 (hx0.M hM).2 0 (by decide) (by decide +kernel) (Or.inl rfl) rfl dX9_like_41 ?_
              refine g_iload_n hC dX9_like_44 rfl 1 rfl ?_
              refine g_aald hC 5 rfl (hx0.Mp rfl).1 (hx0.Mp rfl).2 (pj) rfl (show pj < 10 by omega) (by decide) dX9_like_45 ?_
              refine g_val (w := .ref (b.1 6 (wh S pj))) (congrArg va_rf hp0_p) ?_
              refine g_S (As := [.ref (b.1 6 (wh S pj))]) (st := []) hC 1 dX9_like_46 gX9_like_X9_asNumbers rfl (by decide +kernel) ⟨Nat.le_of_ble_eq_true rfl, Nat.le_of_ble_eq_true rfl⟩ rfl (Nat.le_of_ble_eq_true rfl) ⟨Nat.le_of_ble_eq_true rfl, Nat.le_of_ble_eq_true rfl⟩ (c2 := 0) (s2 := 0) rfl rfl (x_asNumbers (some (b.1 6 (wh S pj))) 5 (Or.inr ⟨_, 1, _, rfl, (hx0.K hw_p rfl hb_p), Or.inr (Or.inr (Or.inr (Or.inr ⟨rfl, rfl⟩)))⟩)) ?_
              refine g_astore_n (lv' := [(3, .null), (0, .ref M), (1, .int (nI pj)), (2, .int (nI qj))]) hC dX9_like_49 rfl (by decide) rfl (Or.inl rfl) ?_
              refine g_aload_n hC dX9_like_50 rfl 1 rfl (Or.inr ⟨_, rfl⟩) ?_
              refine g_get hC (by decide +kernel) rfl (hx0.M hM).1 (hx0.M hM).2 0 (by decide) (by decide +kernel) (Or.inl rfl) rfl dX9_like_51 ?_
              refine g_iload_n hC dX9_like_54 rfl 3 rfl ?_
              refine g_aald hC 5 rfl (hx0.Mp rfl).1 (hx0.Mp rfl).2 (qj) rfl (show qj < 10 by omega) (by decide) dX9_like_55 ?_
              refine g_val (w := .ref (b.1 4 (wh S qj))) (congrArg va_rf hp0_q) ?_
              refine g_S (As := [.ref (b.1 4 (wh S qj))]) (st := []) hC 1 dX9_like_56 gX9_like_X9_asNumbers rfl (by decide +kernel) ⟨Nat.le_of_ble_eq_true rfl, Nat.le_of_ble_eq_true rfl⟩ rfl (Nat.le_of_ble_eq_true rfl) ⟨Nat.le_of_ble_eq_true rfl, Nat.le_of_ble_eq_true rfl⟩ (c2 := 0) (s2 := 0) rfl rfl (x_asNumbers (some (b.1 4 (wh S qj))) 3 (Or.inr ⟨_, 3, _, rfl, (hx0.W hw_q rfl), Or.inr (Or.inr (Or.inl ⟨rfl, rfl⟩))⟩)) ?_
              refine g_astore (lv' := [(4, .null), (3, .null), (0, .ref M), (1, .int (nI pj)), (2, .int (nI qj))]) hC dX9_like_59 (by decide) rfl (Or.inl rfl) ?_
              refine g_aload_n hC dX9_like_61 rfl 1 rfl (Or.inl rfl) ?_
              refine g_ifnull (o := none) (tgt := 70) hC dX9_like_62 (by decide) (fun h62 => ?_) (fun a62 h62 => ?_)
              · refine g_aload_n hC dX9_like_70 rfl 2 rfl (Or.inr ⟨_, rfl⟩) ?_
                refine g_iconst hC dX9_like_71 (v := nI 2) (by decide) ?_
                refine g_Vx (As := [.int (nI 2)]) (st := []) hC 1 dX9_like_72 rfl (hx0.M hM).1 (hx0.M hM).2 gX9_like_X9_failed rfl (by decide +kernel) ⟨Nat.le_of_ble_eq_true rfl, Nat.le_of_ble_eq_true rfl⟩ rfl (Nat.le_of_ble_eq_true rfl) ⟨(Nat.le_of_ble_eq_true rfl), (Nat.le_of_ble_eq_true rfl)⟩ (c2 := 0) (s2 := 0) rfl rfl (x_failed hx0 M hM 2) (fun v1 L1 f1 hp1 => ?_)
                obtain ⟨rfl, hx1⟩ := hp1
                show gW X vwCl 5 L1 f1 0 0 75 [(4, .null), (3, .null), (0, .ref M), (1, .int (nI pj)), (2, .int (nI qj))] [.int (fA 2)]
                have hE : s_like S (nI pj) (nI qj) = (fA 2, (aSc (thS S) 1 2)) := by
                  unfold s_like
                  rw [if_pos h4, if_pos h11, hpl_p, hpl_q, if_neg (show ¬ (kd S pj = 0 ∨ kd S qj = 0) by omega), if_pos (show 2 < kd S pj ∨ 2 < kd S qj by omega)] <;> rfl
                exact g_iret hC hR dX9_like_75 ⟨b, congrArg (fun z => some (Value.int (Prod.fst z))) hE.symm, by rw [hE]; exact hx1, xG.rf⟩
              · cases h62
            · cases h31
          · have hw_q : wh S qj < S.1 13 := hI.wt hqj (by omega)
            have hb_q : S.2.1 14 (wh S qj) = 0 := by have := ((hI.2.1 _ hqj).2.2.2.2.2 (by omega)).2; omega
            have hp0_q : plcF (thS S) b qj = some (b.1 6 (wh S qj)) := plc_k hqj hk_q (by decide)
            refine g_aald hC 5 rfl (hx0.Mp rfl).1 (hx0.Mp rfl).2 (qj) rfl (show qj < 10 by omega) (by decide) dX9_like_30 ?_
            refine g_val (w := .ref (b.1 6 (wh S qj))) (congrArg va_rf hp0_q) ?_
            refine g_ifnonnull (o := some (b.1 6 (wh S qj))) (tgt := 40) hC dX9_like_31 (by decide) (fun a31 h31 => ?_) (fun h31 => ?_)
            · refine g_aload_n hC dX9_like_40 rfl 0 rfl (Or.inr ⟨_, rfl⟩) ?_
              refine g_get hC (by decide +kernel) rfl (hx0.M hM).1 (hx0.M hM).2 0 (by decide) (by decide +kernel) (Or.inl rfl) rfl dX9_like_41 ?_
              refine g_iload_n hC dX9_like_44 rfl 1 rfl ?_
              refine g_aald hC 5 rfl (hx0.Mp rfl).1 (hx0.Mp rfl).2 (pj) rfl (show pj < 10 by omega) (by decide) dX9_like_45 ?_
              refine g_val (w := .ref (b.1 6 (wh S pj))) (congrArg va_rf hp0_p) ?_
              refine g_S (As := [.ref (b.1 6 (wh S pj))]) (st := []) hC 1 dX9_like_46 gX9_like_X9_asNumbers rfl (by decide +kernel) ⟨Nat.le_of_ble_eq_true rfl, Nat.le_of_ble_eq_true rfl⟩ rfl (Nat.le_of_ble_eq_true rfl) ⟨Nat.le_of_ble_eq_true rfl, Nat.le_of_ble_eq_true rfl⟩ (c2 := 0) (s2 := 0) rfl rfl (x_asNumbers (some (b.1 6 (wh S pj))) 5 (Or.inr ⟨_, 1, _, rfl, (hx0.K hw_p rfl hb_p), Or.inr (Or.inr (Or.inr (Or.inr ⟨rfl, rfl⟩)))⟩)) ?_
              refine g_astore_n (lv' := [(3, .null), (0, .ref M), (1, .int (nI pj)), (2, .int (nI qj))]) hC dX9_like_49 rfl (by decide) rfl (Or.inl rfl) ?_
              refine g_aload_n hC dX9_like_50 rfl 1 rfl (Or.inr ⟨_, rfl⟩) ?_
              refine g_get hC (by decide +kernel) rfl (hx0.M hM).1 (hx0.M hM).2 0 (by decide) (by decide +kernel) (Or.inl rfl) rfl dX9_like_51 ?_
              refine g_iload_n hC dX9_like_54 rfl 3 rfl ?_
              refine g_aald hC 5 rfl (hx0.Mp rfl).1 (hx0.Mp rfl).2 (qj) rfl (show qj < 10 by omega) (by decide) dX9_like_55 ?_
              refine g_val (w := .ref (b.1 6 (wh S qj))) (congrArg va_rf hp0_q) ?_
              refine g_S (As := [.ref (b.1 6 (wh S qj))]) (st := []) hC 1 dX9_like_56 gX9_like_X9_asNumbers rfl (by decide +kernel) ⟨Nat.le_of_ble_eq_true rfl, Nat.le_of_ble_eq_true rfl⟩ rfl (Nat.le_of_ble_eq_true rfl) ⟨Nat.le_of_ble_eq_true rfl, Nat.le_of_ble_eq_true rfl⟩ (c2 := 0) (s2 := 0) rfl rfl (x_asNumbers (some (b.1 6 (wh S qj))) 4 (Or.inr ⟨_, 5, _, rfl, (hx0.T hw_q rfl hb_q), Or.inr (Or.inr (Or.inr (Or.inl ⟨rfl, rfl⟩)))⟩)) ?_
              refine g_astore (lv' := [(4, .null), (3, .null), (0, .ref M), (1, .int (nI pj)), (2, .int (nI qj))]) hC dX9_like_59 (by decide) rfl (Or.inl rfl) ?_
              refine g_aload_n hC dX9_like_61 rfl 1 rfl (Or.inl rfl) ?_
              refine g_ifnull (o := none) (tgt := 70) hC dX9_like_62 (by decide) (fun h62 => ?_) (fun a62 h62 => ?_)
              · refine g_aload_n hC dX9_like_70 rfl 2 rfl (Or.inr ⟨_, rfl⟩) ?_
                refine g_iconst hC dX9_like_71 (v := nI 2) (by decide) ?_
                refine g_Vx (As := [.int (nI 2)]) (st := []) hC 1 dX9_like_72 rfl (hx0.M hM).1 (hx0.M hM).2 gX9_like_X9_failed rfl (by decide +kernel) ⟨Nat.le_of_ble_eq_true rfl, Nat.le_of_ble_eq_true rfl⟩ rfl (Nat.le_of_ble_eq_true rfl) ⟨(Nat.le_of_ble_eq_true rfl), (Nat.le_of_ble_eq_true rfl)⟩ (c2 := 0) (s2 := 0) rfl rfl (x_failed hx0 M hM 2) (fun v1 L1 f1 hp1 => ?_)
                obtain ⟨rfl, hx1⟩ := hp1
                show gW X vwCl 5 L1 f1 0 0 75 [(4, .null), (3, .null), (0, .ref M), (1, .int (nI pj)), (2, .int (nI qj))] [.int (fA 2)]
                have hE : s_like S (nI pj) (nI qj) = (fA 2, (aSc (thS S) 1 2)) := by
                  unfold s_like
                  rw [if_pos h4, if_pos h11, hpl_p, hpl_q, if_neg (show ¬ (kd S pj = 0 ∨ kd S qj = 0) by omega), if_pos (show 2 < kd S pj ∨ 2 < kd S qj by omega)] <;> rfl
                exact g_iret hC hR dX9_like_75 ⟨b, congrArg (fun z => some (Value.int (Prod.fst z))) hE.symm, by rw [hE]; exact hx1, xG.rf⟩
              · cases h62
            · cases h31
          · have hw_q : wh S qj < S.1 13 := hI.wt hqj (by omega)
            have hb_q : S.2.1 14 (wh S qj) ≠ 0 := by have := ((hI.2.1 _ hqj).2.2.2.2.2 (by omega)).2; omega
            have hp0_q : plcF (thS S) b qj = some (b.1 6 (wh S qj)) := plc_k hqj hk_q (by decide)
            refine g_aald hC 5 rfl (hx0.Mp rfl).1 (hx0.Mp rfl).2 (qj) rfl (show qj < 10 by omega) (by decide) dX9_like_30 ?_
            refine g_val (w := .ref (b.1 6 (wh S qj))) (congrArg va_rf hp0_q) ?_
            refine g_ifnonnull (o := some (b.1 6 (wh S qj))) (tgt := 40) hC dX9_like_31 (by decide) (fun a31 h31 => ?_) (fun h31 => ?_)
            · refine g_aload_n hC dX9_like_40 rfl 0 rfl (Or.inr ⟨_, rfl⟩) ?_
              refine g_get hC (by decide +kernel) rfl (hx0.M hM).1 (hx0.M hM).2 0 (by decide) (by decide +kernel) (Or.inl rfl) rfl dX9_like_41 ?_
              refine g_iload_n hC dX9_like_44 rfl 1 rfl ?_
              refine g_aald hC 5 rfl (hx0.Mp rfl).1 (hx0.Mp rfl).2 (pj) rfl (show pj < 10 by omega) (by decide) dX9_like_45 ?_
              refine g_val (w := .ref (b.1 6 (wh S pj))) (congrArg va_rf hp0_p) ?_
              refine g_S (As := [.ref (b.1 6 (wh S pj))]) (st := []) hC 1 dX9_like_46 gX9_like_X9_asNumbers rfl (by decide +kernel) ⟨Nat.le_of_ble_eq_true rfl, Nat.le_of_ble_eq_true rfl⟩ rfl (Nat.le_of_ble_eq_true rfl) ⟨Nat.le_of_ble_eq_true rfl, Nat.le_of_ble_eq_true rfl⟩ (c2 := 0) (s2 := 0) rfl rfl (x_asNumbers (some (b.1 6 (wh S pj))) 5 (Or.inr ⟨_, 1, _, rfl, (hx0.K hw_p rfl hb_p), Or.inr (Or.inr (Or.inr (Or.inr ⟨rfl, rfl⟩)))⟩)) ?_
              refine g_astore_n (lv' := [(3, .null), (0, .ref M), (1, .int (nI pj)), (2, .int (nI qj))]) hC dX9_like_49 rfl (by decide) rfl (Or.inl rfl) ?_
              refine g_aload_n hC dX9_like_50 rfl 1 rfl (Or.inr ⟨_, rfl⟩) ?_
              refine g_get hC (by decide +kernel) rfl (hx0.M hM).1 (hx0.M hM).2 0 (by decide) (by decide +kernel) (Or.inl rfl) rfl dX9_like_51 ?_
              refine g_iload_n hC dX9_like_54 rfl 3 rfl ?_
              refine g_aald hC 5 rfl (hx0.Mp rfl).1 (hx0.Mp rfl).2 (qj) rfl (show qj < 10 by omega) (by decide) dX9_like_55 ?_
              refine g_val (w := .ref (b.1 6 (wh S qj))) (congrArg va_rf hp0_q) ?_
              refine g_S (As := [.ref (b.1 6 (wh S qj))]) (st := []) hC 1 dX9_like_56 gX9_like_X9_asNumbers rfl (by decide +kernel) ⟨Nat.le_of_ble_eq_true rfl, Nat.le_of_ble_eq_true rfl⟩ rfl (Nat.le_of_ble_eq_true rfl) ⟨Nat.le_of_ble_eq_true rfl, Nat.le_of_ble_eq_true rfl⟩ (c2 := 0) (s2 := 0) rfl rfl (x_asNumbers (some (b.1 6 (wh S qj))) 5 (Or.inr ⟨_, 1, _, rfl, (hx0.K hw_q rfl hb_q), Or.inr (Or.inr (Or.inr (Or.inr ⟨rfl, rfl⟩)))⟩)) ?_
              refine g_astore (lv' := [(4, .null), (3, .null), (0, .ref M), (1, .int (nI pj)), (2, .int (nI qj))]) hC dX9_like_59 (by decide) rfl (Or.inl rfl) ?_
              refine g_aload_n hC dX9_like_61 rfl 1 rfl (Or.inl rfl) ?_
              refine g_ifnull (o := none) (tgt := 70) hC dX9_like_62 (by decide) (fun h62 => ?_) (fun a62 h62 => ?_)
              · refine g_aload_n hC dX9_like_70 rfl 2 rfl (Or.inr ⟨_, rfl⟩) ?_
                refine g_iconst hC dX9_like_71 (v := nI 2) (by decide) ?_
                refine g_Vx (As := [.int (nI 2)]) (st := []) hC 1 dX9_like_72 rfl (hx0.M hM).1 (hx0.M hM).2 gX9_like_X9_failed rfl (by decide +kernel) ⟨Nat.le_of_ble_eq_true rfl, Nat.le_of_ble_eq_true rfl⟩ rfl (Nat.le_of_ble_eq_true rfl) ⟨(Nat.le_of_ble_eq_true rfl), (Nat.le_of_ble_eq_true rfl)⟩ (c2 := 0) (s2 := 0) rfl rfl (x_failed hx0 M hM 2) (fun v1 L1 f1 hp1 => ?_)
                obtain ⟨rfl, hx1⟩ := hp1
                show gW X vwCl 5 L1 f1 0 0 75 [(4, .null), (3, .null), (0, .ref M), (1, .int (nI pj)), (2, .int (nI qj))] [.int (fA 2)]
                have hE : s_like S (nI pj) (nI qj) = (fA 2, (aSc (thS S) 1 2)) := by
                  unfold s_like
                  rw [if_pos h4, if_pos h11, hpl_p, hpl_q, if_neg (show ¬ (kd S pj = 0 ∨ kd S qj = 0) by omega), if_pos (show 2 < kd S pj ∨ 2 < kd S qj by omega)] <;> rfl
                exact g_iret hC hR dX9_like_75 ⟨b, congrArg (fun z => some (Value.int (Prod.fst z))) hE.symm, by rw [hE]; exact hx1, xG.rf⟩
              · cases h62
            · cases h31
    · refine g_iconst hC dX9_like_14 (v := (-1)) (by decide) ?_
      have hE : s_like S (nI pj) q = ((-1), (thS S)) := by
        unfold s_like
        rw [if_pos h4, if_neg h11] <;> rfl
      exact g_iret hC hR dX9_like_15 ⟨b, congrArg (fun z => some (Value.int (Prod.fst z))) hE.symm, by rw [hE]; exact hx0, xG.rf⟩
set_option maxRecDepth 20000 in
set_option maxHeartbeats 4000000 in
theorem y_order {S : aS} {b : xB} (hx : xR cy S b L f) (hI : aI S) (M : Nat) (hM : b.1 9 0 = M) (p q : Int32) : gCt l D vwCl (gKK D cy adK adV) yX9_order wsX9_order { frames := 4, cells := 0, slots := 0, locals := 83 } [.ref M, .int p, .int q] L f (xP cy S b (s_order S p q).2 (fun _ => some (.int (s_order S p q).1))) := by
  refine gCt.of gKK_ok (by decide) rfl rfl (fun X hC hR hnm => ?_)
  have hC : gC X l _ D vwCl (cyT cy) (gKK D cy adK adV) cX9_order 5 wsX9_order RX9 := hC
  have hx0 := hx.th0
  have hI0 := hI.th
  show gW X vwCl 5 L f 0 0 0 [(0, .ref M), (1, .int p), (2, .int q)] []
  refine g_iload_n hC dX9_order_0 rfl 1 rfl ?_
  refine g_S (As := [.int p]) (st := []) hC 1 dX9_order_1 gX9_order_X9_isPlace rfl (by decide +kernel) ⟨Nat.le_of_ble_eq_true rfl, Nat.le_of_ble_eq_true rfl⟩ rfl (Nat.le_of_ble_eq_true rfl) ⟨Nat.le_of_ble_eq_true rfl, Nat.le_of_ble_eq_true rfl⟩ (c2 := 0) (s2 := 0) rfl rfl (x_isPlace _) ?_
  refine g_ifB_eq (P := isP p) (tgt := 14) hC dX9_order_4 (by decide) (fun h4 => ?_) (fun h4 => ?_)
  · refine g_iconst hC dX9_order_14 (v := (-1)) (by decide) ?_
    have hE : s_order S p q = ((-1), (thS S)) := by
      unfold s_order
      rw [if_neg h4] <;> rfl
    exact g_iret hC hR dX9_order_15 ⟨b, congrArg (fun z => some (Value.int (Prod.fst z))) hE.symm, by rw [hE]; exact hx0, xG.rf⟩
  · obtain ⟨pj, hpj, rfl⟩ := isP_j h4
    have hpl_p : pl (nI pj) = pj := nI_clamp (by omega)
    refine g_iload_n hC dX9_order_7 rfl 2 rfl ?_
    refine g_S (As := [.int q]) (st := []) hC 1 dX9_order_8 gX9_order_X9_isPlace rfl (by decide +kernel) ⟨Nat.le_of_ble_eq_true rfl, Nat.le_of_ble_eq_true rfl⟩ rfl (Nat.le_of_ble_eq_true rfl) ⟨Nat.le_of_ble_eq_true rfl, Nat.le_of_ble_eq_true rfl⟩ (c2 := 0) (s2 := 0) rfl rfl (x_isPlace _) ?_
    refine g_ifB_ne (P := isP q) (tgt := 16) hC dX9_order_11 (by decide) (fun h11 => ?_) (fun h11 => ?_)
    · obtain ⟨qj, hqj, rfl⟩ := isP_j h11
      have hpl_q : pl (nI qj) = qj := nI_clamp (by omega)
      refine g_aload_n hC dX9_order_16 rfl 0 rfl (Or.inr ⟨_, rfl⟩) ?_
      refine g_get hC (by decide +kernel) rfl (hx0.M hM).1 (hx0.M hM).2 0 (by decide) (by decide +kernel) (Or.inl rfl) rfl dX9_order_17 ?_
      refine g_iload_n hC dX9_order_20 rfl 1 rfl ?_
      have h5_p := hI.k5 hpj
      rcases (show kd S pj = 0 ∨ kd S pj = 1 ∨ kd S pj = 2 ∨ kd S pj = 3 ∨ kd S pj = 4 ∨ kd S pj = 5 by omega) with hk_p | hk_p | hk_p | hk_p | hk_p | hk_p
      · have hp0_p : plcF (thS S) b pj = none := plc_0 hpj hk_p
        refine g_aald hC 5 rfl (hx0.Mp rfl).1 (hx0.Mp rfl).2 (pj) rfl (show pj < 10 by omega) (by decide) dX9_order_21 ?_
        refine g_val (w := .null) (congrArg va_rf hp0_p) ?_
        refine g_iconst hC dX9_order_22 (v := nI 1) (by decide) ?_
        refine g_S (As := [.null, .int (nI 1)]) (st := []) hC 2 dX9_order_23 gX9_order_X9_mayBeCast rfl (by decide +kernel) ⟨Nat.le_of_ble_eq_true rfl, Nat.le_of_ble_eq_true rfl⟩ rfl (Nat.le_of_ble_eq_true rfl) ⟨Nat.le_of_ble_eq_true rfl, Nat.le_of_ble_eq_true rfl⟩ (c2 := 0) (s2 := 0) rfl rfl (x_mayBeCast none 0 (Or.inl ⟨rfl, rfl⟩) 1 (by decide)) ?_
        refine g_ifN_eq (a := 1) (tgt := 42) hC dX9_order_26 (by decide) (by omega) (fun h26 => ?_) (fun h26 => ?_)
        · exfalso; omega
        · refine g_aload_n hC dX9_order_29 rfl 0 rfl (Or.inr ⟨_, rfl⟩) ?_
          refine g_get hC (by decide +kernel) rfl (hx0.M hM).1 (hx0.M hM).2 0 (by decide) (by decide +kernel) (Or.inl rfl) rfl dX9_order_30 ?_
          refine g_iload_n hC dX9_order_33 rfl 2 rfl ?_
          have h5_q := hI.k5 hqj
          rcases (show kd S qj = 0 ∨ kd S qj = 1 ∨ kd S qj = 2 ∨ kd S qj = 3 ∨ kd S qj = 4 ∨ kd S qj = 5 by omega) with hk_q | hk_q | hk_q | hk_q | hk_q | hk_q
          · have hp0_q : plcF (thS S) b qj = none := plc_0 hqj hk_q
            refine g_aald hC 5 rfl (hx0.Mp rfl).1 (hx0.Mp rfl).2 (qj) rfl (show qj < 10 by omega) (by decide) dX9_order_34 ?_
            refine g_val (w := .null) (congrArg va_rf hp0_q) ?_
            refine g_iconst hC dX9_order_35 (v := nI 1) (by decide) ?_
            refine g_S (As := [.null, .int (nI 1)]) (st := []) hC 2 dX9_order_36 gX9_order_X9_mayBeCast rfl (by decide +kernel) ⟨Nat.le_of_ble_eq_true rfl, Nat.le_of_ble_eq_true rfl⟩ rfl (Nat.le_of_ble_eq_true rfl) ⟨Nat.le_of_ble_eq_true rfl, Nat.le_of_ble_eq_true rfl⟩ (c2 := 0) (s2 := 0) rfl rfl (x_mayBeCast none 0 (Or.inl ⟨rfl, rfl⟩) 1 (by decide)) ?_
            refine g_ifN_ne (a := 1) (tgt := 48) hC dX9_order_39 (by decide) (by omega) (fun h39 => ?_) (fun h39 => ?_)
            · refine g_aload_n hC dX9_order_48 rfl 0 rfl (Or.inr ⟨_, rfl⟩) ?_
              refine g_get hC (by decide +kernel) rfl (hx0.M hM).1 (hx0.M hM).2 0 (by decide) (by decide +kernel) (Or.inl rfl) rfl dX9_order_49 ?_
              refine g_iload_n hC dX9_order_52 rfl 1 rfl ?_
              refine g_aald hC 5 rfl (hx0.Mp rfl).1 (hx0.Mp rfl).2 (pj) rfl (show pj < 10 by omega) (by decide) dX9_order_53 ?_
              refine g_val (w := .null) (congrArg va_rf hp0_p) ?_
              refine g_S (As := [.null]) (st := []) hC 1 dX9_order_54 gX9_order_X9_asBytes rfl (by decide +kernel) ⟨Nat.le_of_ble_eq_true rfl, Nat.le_of_ble_eq_true rfl⟩ rfl (Nat.le_of_ble_eq_true rfl) ⟨Nat.le_of_ble_eq_true rfl, Nat.le_of_ble_eq_true rfl⟩ (c2 := 0) (s2 := 0) rfl rfl (x_asBytes none 0 (Or.inl ⟨rfl, rfl⟩)) ?_
              refine g_astore_n (lv' := [(3, .null), (0, .ref M), (1, .int (nI pj)), (2, .int (nI qj))]) hC dX9_order_57 rfl (by decide) rfl (Or.inl rfl) ?_
              refine g_aload_n hC dX9_order_58 rfl 1 rfl (Or.inr ⟨_, rfl⟩) ?_
              refine g_get hC (by decide +kernel) rfl (hx0.M hM).1 (hx0.M hM).2 0 (by decide) (by decide +kernel) (Or.inl rfl) rfl dX9_order_59 ?_
              refine g_iload_n hC dX9_order_62 rfl 3 rfl ?_
              refine g_aald hC 5 rfl (hx0.Mp rfl).1 (hx0.Mp rfl).2 (qj) rfl (show qj < 10 by omega) (by decide) dX9_order_63 ?_
              refine g_val (w := .null) (congrArg va_rf hp0_q) ?_
              refine g_S (As := [.null]) (st := []) hC 1 dX9_order_64 gX9_order_X9_asBytes rfl (by decide +kernel) ⟨Nat.le_of_ble_eq_true rfl, Nat.le_of_ble_eq_true rfl⟩ rfl (Nat.le_of_ble_eq_true rfl) ⟨Nat.le_of_ble_eq_true rfl, Nat.le_of_ble_eq_true rfl⟩ (c2 := 0) (s2 := 0) rfl rfl (x_asBytes none 0 (Or.inl ⟨rfl, rfl⟩)) ?_
              refine g_astore (lv' := [(4, .null), (3, .null), (0, .ref M), (1, .int (nI pj)), (2, .int (nI qj))]) hC dX9_order_67 (by decide) rfl (Or.inl rfl) ?_
              refine g_aload_n hC dX9_order_69 rfl 1 rfl (Or.inl rfl) ?_
              refine g_ifnull (o := none) (tgt := 78) hC dX9_order_70 (by decide) (fun h70 => ?_) (fun a70 h70 => ?_)
              · refine g_aload_n hC dX9_order_78 rfl 2 rfl (Or.inr ⟨_, rfl⟩) ?_
                refine g_iconst hC dX9_order_79 (v := nI 1) (by decide) ?_
                refine g_Vx (As := [.int (nI 1)]) (st := []) hC 1 dX9_order_80 rfl (hx0.M hM).1 (hx0.M hM).2 gX9_order_X9_failed rfl (by decide +kernel) ⟨Nat.le_of_ble_eq_true rfl, Nat.le_of_ble_eq_true rfl⟩ rfl (Nat.le_of_ble_eq_true rfl) ⟨(Nat.le_of_ble_eq_true rfl), (Nat.le_of_ble_eq_true rfl)⟩ (c2 := 0) (s2 := 0) rfl rfl (x_failed hx0 M hM 1) (fun v1 L1 f1 hp1 => ?_)
                obtain ⟨rfl, hx1⟩ := hp1
                show gW X vwCl 5 L1 f1 0 0 83 [(4, .null), (3, .null), (0, .ref M), (1, .int (nI pj)), (2, .int (nI qj))] [.int (fA 1)]
                have hc_p : castF S pj 1 = 1 := by unfold castF isO; rw [hk_p] <;> decide
                have hc_q : castF S qj 1 = 1 := by unfold castF isO; rw [hk_q] <;> decide
                have hE : s_order S (nI pj) (nI qj) = (fA 1, (aSc (thS S) 1 1)) := by
                  unfold s_order
                  rw [if_pos h4, if_pos h11, hpl_p, hpl_q, if_neg (show ¬ (castF S pj 1 = 2 ∨ castF S qj 1 = 2) by omega), if_pos (show 0 < castF S pj 1 ∨ 0 < castF S qj 1 by omega)] <;> rfl
                exact g_iret hC hR dX9_order_83 ⟨b, congrArg (fun z => some (Value.int (Prod.fst z))) hE.symm, by rw [hE]; exact hx1, xG.rf⟩
              · cases h70
            · exfalso; omega
          · have hw_q : wh S qj < S.1 4 := hI.wl hqj hk_q
            have hp0_q : plcF (thS S) b qj = some (b.1 0 (wh S qj)) := plc_k hqj hk_q (by decide)
            refine g_aald hC 5 rfl (hx0.Mp rfl).1 (hx0.Mp rfl).2 (qj) rfl (show qj < 10 by omega) (by decide) dX9_order_34 ?_
            refine g_val (w := .ref (b.1 0 (wh S qj))) (congrArg va_rf hp0_q) ?_
            refine g_iconst hC dX9_order_35 (v := nI 1) (by decide) ?_
            refine g_S (As := [.ref (b.1 0 (wh S qj)), .int (nI 1)]) (st := []) hC 2 dX9_order_36 gX9_order_X9_mayBeCast rfl (by decide +kernel) ⟨Nat.le_of_ble_eq_true rfl, Nat.le_of_ble_eq_true rfl⟩ rfl (Nat.le_of_ble_eq_true rfl) ⟨Nat.le_of_ble_eq_true rfl, Nat.le_of_ble_eq_true rfl⟩ (c2 := 0) (s2 := 0) rfl rfl (x_mayBeCast (some (b.1 0 (wh S qj))) 1 (Or.inr ⟨_, 0, _, rfl, (hx0.B hw_q rfl), Or.inl ⟨rfl, rfl⟩⟩) 1 (by decide)) ?_
            refine g_ifN_ne (a := 1) (tgt := 48) hC dX9_order_39 (by decide) (by omega) (fun h39 => ?_) (fun h39 => ?_)
            · refine g_aload_n hC dX9_order_48 rfl 0 rfl (Or.inr ⟨_, rfl⟩) ?_
              refine g_get hC (by decide +kernel) rfl (hx0.M hM).1 (hx0.M hM).2 0 (by decide) (by decide +kernel) (Or.inl rfl) rfl dX9_order_49 ?_
              refine g_iload_n hC dX9_order_52 rfl 1 rfl ?_
              refine g_aald hC 5 rfl (hx0.Mp rfl).1 (hx0.Mp rfl).2 (pj) rfl (show pj < 10 by omega) (by decide) dX9_order_53 ?_
              refine g_val (w := .null) (congrArg va_rf hp0_p) ?_
              refine g_S (As := [.null]) (st := []) hC 1 dX9_order_54 gX9_order_X9_asBytes rfl (by decide +kernel) ⟨Nat.le_of_ble_eq_true rfl, Nat.le_of_ble_eq_true rfl⟩ rfl (Nat.le_of_ble_eq_true rfl) ⟨Nat.le_of_ble_eq_true rfl, Nat.le_of_ble_eq_true rfl⟩ (c2 := 0) (s2 := 0) rfl rfl (x_asBytes none 0 (Or.inl ⟨rfl, rfl⟩)) ?_
              refine g_astore_n (lv' := [(3, .null), (0, .ref M), (1, .int (nI pj)), (2, .int (nI qj))]) hC dX9_order_57 rfl (by decide) rfl (Or.inl rfl) ?_
              refine g_aload_n hC dX9_order_58 rfl 1 rfl (Or.inr ⟨_, rfl⟩) ?_
              refine g_get hC (by decide +kernel) rfl (hx0.M hM).1 (hx0.M hM).2 0 (by decide) (by decide +kernel) (Or.inl rfl) rfl dX9_order_59 ?_
              refine g_iload_n hC dX9_order_62 rfl 3 rfl ?_
              refine g_aald hC 5 rfl (hx0.Mp rfl).1 (hx0.Mp rfl).2 (qj) rfl (show qj < 10 by omega) (by decide) dX9_order_63 ?_
              refine g_val (w := .ref (b.1 0 (wh S qj))) (congrArg va_rf hp0_q) ?_
              refine g_S (As := [.ref (b.1 0 (wh S qj))]) (st := []) hC 1 dX9_order_64 gX9_order_X9_asBytes rfl (by decide +kernel) ⟨Nat.le_of_ble_eq_true rfl, Nat.le_of_ble_eq_true rfl⟩ rfl (Nat.le_of_ble_eq_true rfl) ⟨Nat.le_of_ble_eq_true rfl, Nat.le_of_ble_eq_true rfl⟩ (c2 := 0) (s2 := 0) rfl rfl (x_asBytes (some (b.1 0 (wh S qj))) 1 (Or.inr ⟨_, 0, _, rfl, (hx0.B hw_q rfl), Or.inl ⟨rfl, rfl⟩⟩)) ?_
              refine g_astore (lv' := [(4, .ref (b.1 0 (wh S qj))), (3, .null), (0, .ref M), (1, .int (nI pj)), (2, .int (nI qj))]) hC dX9_order_67 (by decide) rfl (Or.inr ⟨_, rfl⟩) ?_
              refine g_aload_n hC dX9_order_69 rfl 1 rfl (Or.inl rfl) ?_
              refine g_ifnull (o := none) (tgt := 78) hC dX9_order_70 (by decide) (fun h70 => ?_) (fun a70 h70 => ?_)
              · refine g_aload_n hC dX9_order_78 rfl 2 rfl (Or.inr ⟨_, rfl⟩) ?_
                refine g_iconst hC dX9_order_79 (v := nI 1) (by decide) ?_
                refine g_Vx (As := [.int (nI 1)]) (st := []) hC 1 dX9_order_80 rfl (hx0.M hM).1 (hx0.M hM).2 gX9_order_X9_failed rfl (by decide +kernel) ⟨Nat.le_of_ble_eq_true rfl, Nat.le_of_ble_eq_true rfl⟩ rfl (Nat.le_of_ble_eq_true rfl) ⟨(Nat.le_of_ble_eq_true rfl), (Nat.le_of_ble_eq_true rfl)⟩ (c2 := 0) (s2 := 0) rfl rfl (x_failed hx0 M hM 1) (fun v1 L1 f1 hp1 => ?_)
                obtain ⟨rfl, hx1⟩ := hp1
                show gW X vwCl 5 L1 f1 0 0 83 [(4, .ref (b.1 0 (wh S qj))), (3, .null), (0, .ref M), (1, .int (nI pj)), (2, .int (nI qj))] [.int (fA 1)]
                have hc_p : castF S pj 1 = 1 := by unfold castF isO; rw [hk_p] <;> decide
                have hc_q : castF S qj 1 = 0 := by unfold castF isO; rw [hk_q] <;> decide
                have hE : s_order S (nI pj) (nI qj) = (fA 1, (aSc (thS S) 1 1)) := by
                  unfold s_order
                  rw [if_pos h4, if_pos h11, hpl_p, hpl_q, if_neg (show ¬ (castF S pj 1 = 2 ∨ castF S qj 1 = 2) by omega), if_pos (show 0 < castF S pj 1 ∨ 0 < castF S qj 1 by omega)] <;> rfl
                exact g_iret hC hR dX9_order_83 ⟨b, congrArg (fun z => some (Value.int (Prod.fst z))) hE.symm, by rw [hE]; exact hx1, xG.rf⟩
              · cases h70
            · exfalso; omega
          · have hw_q : wh S qj < S.1 7 := hI.ws hqj hk_q
            have hp0_q : plcF (thS S) b qj = some (b.1 2 (wh S qj)) := plc_k hqj hk_q (by decide)
            refine g_aald hC 5 rfl (hx0.Mp rfl).1 (hx0.Mp rfl).2 (qj) rfl (show qj < 10 by omega) (by decide) dX9_order_34 ?_
            refine g_val (w := .ref (b.1 2 (wh S qj))) (congrArg va_rf hp0_q) ?_
            refine g_iconst hC dX9_order_35 (v := nI 1) (by decide) ?_
            refine g_S (As := [.ref (b.1 2 (wh S qj)), .int (nI 1)]) (st := []) hC 2 dX9_order_36 gX9_order_X9_mayBeCast rfl (by decide +kernel) ⟨Nat.le_of_ble_eq_true rfl, Nat.le_of_ble_eq_true rfl⟩ rfl (Nat.le_of_ble_eq_true rfl) ⟨Nat.le_of_ble_eq_true rfl, Nat.le_of_ble_eq_true rfl⟩ (c2 := 0) (s2 := 0) rfl rfl (x_mayBeCast (some (b.1 2 (wh S qj))) 2 (Or.inr ⟨_, 4, _, rfl, (hx0.G hw_q rfl), Or.inr (Or.inl ⟨rfl, rfl⟩)⟩) 1 (by decide)) ?_
            refine g_ifN_ne (a := 0) (tgt := 48) hC dX9_order_39 (by decide) (by omega) (fun h39 => ?_) (fun h39 => ?_)
            · exfalso; omega
            · refine g_aload_n hC dX9_order_42 rfl 0 rfl (Or.inr ⟨_, rfl⟩) ?_
              refine g_iconst hC dX9_order_43 (v := nI 2) (by decide) ?_
              refine g_Vx (As := [.int (nI 2)]) (st := []) hC 1 dX9_order_44 rfl (hx0.M hM).1 (hx0.M hM).2 gX9_order_X9_failed rfl (by decide +kernel) ⟨Nat.le_of_ble_eq_true rfl, Nat.le_of_ble_eq_true rfl⟩ rfl (Nat.le_of_ble_eq_true rfl) ⟨(Nat.le_of_ble_eq_true rfl), (Nat.le_of_ble_eq_true rfl)⟩ (c2 := 0) (s2 := 0) rfl rfl (x_failed hx0 M hM 2) (fun v1 L1 f1 hp1 => ?_)
              obtain ⟨rfl, hx1⟩ := hp1
              show gW X vwCl 5 L1 f1 0 0 47 [(0, .ref M), (1, .int (nI pj)), (2, .int (nI qj))] [.int (fA 2)]
              have hc_p : castF S pj 1 = 1 := by unfold castF isO; rw [hk_p] <;> decide
              have hc_q : castF S qj 1 = 2 := by unfold castF isO; rw [hk_q] <;> decide
              have hE : s_order S (nI pj) (nI qj) = (fA 2, (aSc (thS S) 1 2)) := by
                unfold s_order
                rw [if_pos h4, if_pos h11, hpl_p, hpl_q, if_pos (Or.inr hc_q)] <;> rfl
              exact g_iret hC hR dX9_order_47 ⟨b, congrArg (fun z => some (Value.int (Prod.fst z))) hE.symm, by rw [hE]; exact hx1, xG.rf⟩
          · have hw_q : wh S qj < S.1 10 := hI.wr hqj hk_q
            have hp0_q : plcF (thS S) b qj = some (b.1 4 (wh S qj)) := plc_k hqj hk_q (by decide)
            refine g_aald hC 5 rfl (hx0.Mp rfl).1 (hx0.Mp rfl).2 (qj) rfl (show qj < 10 by omega) (by decide) dX9_order_34 ?_
            refine g_val (w := .ref (b.1 4 (wh S qj))) (congrArg va_rf hp0_q) ?_
            refine g_iconst hC dX9_order_35 (v := nI 1) (by decide) ?_
            refine g_S (As := [.ref (b.1 4 (wh S qj)), .int (nI 1)]) (st := []) hC 2 dX9_order_36 gX9_order_X9_mayBeCast rfl (by decide +kernel) ⟨Nat.le_of_ble_eq_true rfl, Nat.le_of_ble_eq_true rfl⟩ rfl (Nat.le_of_ble_eq_true rfl) ⟨Nat.le_of_ble_eq_true rfl, Nat.le_of_ble_eq_true rfl⟩ (c2 := 0) (s2 := 0) rfl rfl (x_mayBeCast (some (b.1 4 (wh S qj))) 3 (Or.inr ⟨_, 3, _, rfl, (hx0.W hw_q rfl), Or.inr (Or.inr (Or.inl ⟨rfl, rfl⟩))⟩) 1 (by decide)) ?_
            refine g_ifN_ne (a := 0) (tgt := 48) hC dX9_order_39 (by decide) (by omega) (fun h39 => ?_) (fun h39 => ?_)
            · exfalso; omega
            · refine g_aload_n hC dX9_order_42 rfl 0 rfl (Or.inr ⟨_, rfl⟩) ?_
              refine g_iconst hC dX9_order_43 (v := nI 2) (by decide) ?_
              refine g_Vx (As := [.int (nI 2)]) (st := []) hC 1 dX9_order_44 rfl (hx0.M hM).1 (hx0.M hM).2 gX9_order_X9_failed rfl (by decide +kernel) ⟨Nat.le_of_ble_eq_true rfl, Nat.le_of_ble_eq_true rfl⟩ rfl (Nat.le_of_ble_eq_true rfl) ⟨(Nat.le_of_ble_eq_true rfl), (Nat.le_of_ble_eq_true rfl)⟩ (c2 := 0) (s2 := 0) rfl rfl (x_failed hx0 M hM 2) (fun v1 L1 f1 hp1 => ?_)
              obtain ⟨rfl, hx1⟩ := hp1
              show gW X vwCl 5 L1 f1 0 0 47 [(0, .ref M), (1, .int (nI pj)), (2, .int (nI qj))] [.int (fA 2)]
              have hc_p : castF S pj 1 = 1 := by unfold castF isO; rw [hk_p] <;> decide
              have hc_q : castF S qj 1 = 2 := by unfold castF isO; rw [hk_q] <;> decide
              have hE : s_order S (nI pj) (nI qj) = (fA 2, (aSc (thS S) 1 2)) := by
                unfold s_order
                rw [if_pos h4, if_pos h11, hpl_p, hpl_q, if_pos (Or.inr hc_q)] <;> rfl
              exact g_iret hC hR dX9_order_47 ⟨b, congrArg (fun z => some (Value.int (Prod.fst z))) hE.symm, by rw [hE]; exact hx1, xG.rf⟩
          · have hw_q : wh S qj < S.1 13 := hI.wt hqj (by omega)
            have hb_q : S.2.1 14 (wh S qj) = 0 := by have := ((hI.2.1 _ hqj).2.2.2.2.2 (by omega)).2; omega
            have hp0_q : plcF (thS S) b qj = some (b.1 6 (wh S qj)) := plc_k hqj hk_q (by decide)
            refine g_aald hC 5 rfl (hx0.Mp rfl).1 (hx0.Mp rfl).2 (qj) rfl (show qj < 10 by omega) (by decide) dX9_order_34 ?_
            refine g_val (w := .ref (b.1 6 (wh S qj))) (congrArg va_rf hp0_q) ?_
            refine g_iconst hC dX9_order_35 (v := nI 1) (by decide) ?_
            refine g_S (As := [.ref (b.1 6 (wh S qj)), .int (nI 1)]) (st := []) hC 2 dX9_order_36 gX9_order_X9_mayBeCast rfl (by decide +kernel) ⟨Nat.le_of_ble_eq_true rfl, Nat.le_of_ble_eq_true rfl⟩ rfl (Nat.le_of_ble_eq_true rfl) ⟨Nat.le_of_ble_eq_true rfl, Nat.le_of_ble_eq_true rfl⟩ (c2 := 0) (s2 := 0) rfl rfl (x_mayBeCast (some (b.1 6 (wh S qj))) 4 (Or.inr ⟨_, 5, _, rfl, (hx0.T hw_q rfl hb_q), Or.inr (Or.inr (Or.inr (Or.inl ⟨rfl, rfl⟩)))⟩) 1 (by decide)) ?_
            refine g_ifN_ne (a := 0) (tgt := 48) hC dX9_order_39 (by decide) (by omega) (fun h39 => ?_) (fun h39 => ?_)
            · exfalso; omega
            · refine g_aload_n hC dX9_order_42 rfl 0 rfl (Or.inr ⟨_, rfl⟩) ?_
              refine g_iconst hC dX9_order_43 (v := nI 2) (by decide) ?_
              refine g_Vx (As := [.int (nI 2)]) (st := []) hC 1 dX9_order_44 rfl (hx0.M hM).1 (hx0.M hM).2 gX9_order_X9_failed rfl (by decide +kernel) ⟨Nat.le_of_ble_eq_true rfl, Nat.le_of_ble_eq_true rfl⟩ rfl (Nat.le_of_ble_eq_true rfl) ⟨(Nat.le_of_ble_eq_true rfl), (Nat.le_of_ble_eq_true rfl)⟩ (c2 := 0) (s2 := 0) rfl rfl (x_failed hx0 M hM 2) (fun v1 L1 f1 hp1 => ?_)
              obtain ⟨rfl, hx1⟩ := hp1
              show gW X vwCl 5 L1 f1 0 0 47 [(0, .ref M), (1, .int (nI pj)), (2, .int (nI qj))] [.int (fA 2)]
              have hc_p : castF S pj 1 = 1 := by unfold castF isO; rw [hk_p] <;> decide
              have hc_q : castF S qj 1 = 2 := by unfold castF isO; rw [hk_q] <;> decide
              have hE : s_order S (nI pj) (nI qj) = (fA 2, (aSc (thS S) 1 2)) := by
                unfold s_order
                rw [if_pos h4, if_pos h11, hpl_p, hpl_q, if_pos (Or.inr hc_q)] <;> rfl
              exact g_iret hC hR dX9_order_47 ⟨b, congrArg (fun z => some (Value.int (Prod.fst z))) hE.symm, by rw [hE]; exact hx1, xG.rf⟩
          · have hw_q : wh S qj < S.1 13 := hI.wt hqj (by omega)
            have hb_q : S.2.1 14 (wh S qj) ≠ 0 := by have := ((hI.2.1 _ hqj).2.2.2.2.2 (by omega)).2; omega
            have hp0_q : plcF (thS S) b qj = some (b.1 6 (wh S qj)) := plc_k hqj hk_q (by decide)
            refine g_aald hC 5 rfl (hx0.Mp rfl).1 (hx0.Mp rfl).2 (qj) rfl (show qj < 10 by omega) (by decide) dX9_order_34 ?_
            refine g_val (w := .ref (b.1 6 (wh S qj))) (congrArg va_rf hp0_q) ?_
            refine g_iconst hC dX9_order_35 (v := nI 1) (by decide) ?_
            refine g_S (As := [.ref (b.1 6 (wh S qj)), .int (nI 1)]) (st := []) hC 2 dX9_order_36 gX9_order_X9_mayBeCast rfl (by decide +kernel) ⟨Nat.le_of_ble_eq_true rfl, Nat.le_of_ble_eq_true rfl⟩ rfl (Nat.le_of_ble_eq_true rfl) ⟨Nat.le_of_ble_eq_true rfl, Nat.le_of_ble_eq_true rfl⟩ (c2 := 0) (s2 := 0) rfl rfl (x_mayBeCast (some (b.1 6 (wh S qj))) 5 (Or.inr ⟨_, 1, _, rfl, (hx0.K hw_q rfl hb_q), Or.inr (Or.inr (Or.inr (Or.inr ⟨rfl, rfl⟩)))⟩) 1 (by decide)) ?_
            refine g_ifN_ne (a := 0) (tgt := 48) hC dX9_order_39 (by decide) (by omega) (fun h39 => ?_) (fun h39 => ?_)
            · exfalso; omega
            · refine g_aload_n hC dX9_order_42 rfl 0 rfl (Or.inr ⟨_, rfl⟩) ?_
              refine g_iconst hC dX9_order_43 (v := nI 2) (by decide) ?_
              refine g_Vx (As := [.int (nI 2)]) (st := []) hC 1 dX9_order_44 rfl (hx0.M hM).1 (hx0.M hM).2 gX9_order_X9_failed rfl (by decide +kernel) ⟨Nat.le_of_ble_eq_true rfl, Nat.le_of_ble_eq_true rfl⟩ rfl (Nat.le_of_ble_eq_true rfl) ⟨(Nat.le_of_ble_eq_true rfl), (Nat.le_of_ble_eq_true rfl)⟩ (c2 := 0) (s2 := 0) rfl rfl (x_failed hx0 M hM 2) (fun v1 L1 f1 hp1 => ?_)
              obtain ⟨rfl, hx1⟩ := hp1
              show gW X vwCl 5 L1 f1 0 0 47 [(0, .ref M), (1, .int (nI pj)), (2, .int (nI qj))] [.int (fA 2)]
              have hc_p : castF S pj 1 = 1 := by unfold castF isO; rw [hk_p] <;> decide
              have hc_q : castF S qj 1 = 2 := by unfold castF isO; rw [hk_q] <;> decide
              have hE : s_order S (nI pj) (nI qj) = (fA 2, (aSc (thS S) 1 2)) := by
                unfold s_order
                rw [if_pos h4, if_pos h11, hpl_p, hpl_q, if_pos (Or.inr hc_q)] <;> rfl
              exact g_iret hC hR dX9_order_47 ⟨b, congrArg (fun z => some (Value.int (Prod.fst z))) hE.symm, by rw [hE]; exact hx1, xG.rf⟩
      · have hw_p : wh S pj < S.1 4 := hI.wl hpj hk_p
        have hp0_p : plcF (thS S) b pj = some (b.1 0 (wh S pj)) := plc_k hpj hk_p (by decide)
        refine g_aald hC 5 rfl (hx0.Mp rfl).1 (hx0.Mp rfl).2 (pj) rfl (show pj < 10 by omega) (by decide) dX9_order_21 ?_
        refine g_val (w := .ref (b.1 0 (wh S pj))) (congrArg va_rf hp0_p) ?_
        refine g_iconst hC dX9_order_22 (v := nI 1) (by decide) ?_
        refine g_S (As := [.ref (b.1 0 (wh S pj)), .int (nI 1)]) (st := []) hC 2 dX9_order_23 gX9_order_X9_mayBeCast rfl (by decide +kernel) ⟨Nat.le_of_ble_eq_true rfl, Nat.le_of_ble_eq_true rfl⟩ rfl (Nat.le_of_ble_eq_true rfl) ⟨Nat.le_of_ble_eq_true rfl, Nat.le_of_ble_eq_true rfl⟩ (c2 := 0) (s2 := 0) rfl rfl (x_mayBeCast (some (b.1 0 (wh S pj))) 1 (Or.inr ⟨_, 0, _, rfl, (hx0.B hw_p rfl), Or.inl ⟨rfl, rfl⟩⟩) 1 (by decide)) ?_
        refine g_ifN_eq (a := 1) (tgt := 42) hC dX9_order_26 (by decide) (by omega) (fun h26 => ?_) (fun h26 => ?_)
        · exfalso; omega
        · refine g_aload_n hC dX9_order_29 rfl 0 rfl (Or.inr ⟨_, rfl⟩) ?_
          refine g_get hC (by decide +kernel) rfl (hx0.M hM).1 (hx0.M hM).2 0 (by decide) (by decide +kernel) (Or.inl rfl) rfl dX9_order_30 ?_
          refine g_iload_n hC dX9_order_33 rfl 2 rfl ?_
          have h5_q := hI.k5 hqj
          rcases (show kd S qj = 0 ∨ kd S qj = 1 ∨ kd S qj = 2 ∨ kd S qj = 3 ∨ kd S qj = 4 ∨ kd S qj = 5 by omega) with hk_q | hk_q | hk_q | hk_q | hk_q | hk_q
          · have hp0_q : plcF (thS S) b qj = none := plc_0 hqj hk_q
            refine g_aald hC 5 rfl (hx0.Mp rfl).1 (hx0.Mp rfl).2 (qj) rfl (show qj < 10 by omega) (by decide) dX9_order_34 ?_
            refine g_val (w := .null) (congrArg va_rf hp0_q) ?_
            refine g_iconst hC dX9_order_35 (v := nI 1) (by decide) ?_
            refine g_S (As := [.null, .int (nI 1)]) (st := []) hC 2 dX9_order_36 gX9_order_X9_mayBeCast rfl (by decide +kernel) ⟨Nat.le_of_ble_eq_true rfl, Nat.le_of_ble_eq_true rfl⟩ rfl (Nat.le_of_ble_eq_true rfl) ⟨Nat.le_of_ble_eq_true rfl, Nat.le_of_ble_eq_true rfl⟩ (c2 := 0) (s2 := 0) rfl rfl (x_mayBeCast none 0 (Or.inl ⟨rfl, rfl⟩) 1 (by decide)) ?_
            refine g_ifN_ne (a := 1) (tgt := 48) hC dX9_order_39 (by decide) (by omega) (fun h39 => ?_) (fun h39 => ?_)
            · refine g_aload_n hC dX9_order_48 rfl 0 rfl (Or.inr ⟨_, rfl⟩) ?_
              refine g_get hC (by decide +kernel) rfl (hx0.M hM).1 (hx0.M hM).2 0 (by decide) (by decide +kernel) (Or.inl rfl) rfl dX9_order_49 ?_
              refine g_iload_n hC dX9_order_52 rfl 1 rfl ?_
              refine g_aald hC 5 rfl (hx0.Mp rfl).1 (hx0.Mp rfl).2 (pj) rfl (show pj < 10 by omega) (by decide) dX9_order_53 ?_
              refine g_val (w := .ref (b.1 0 (wh S pj))) (congrArg va_rf hp0_p) ?_
              refine g_S (As := [.ref (b.1 0 (wh S pj))]) (st := []) hC 1 dX9_order_54 gX9_order_X9_asBytes rfl (by decide +kernel) ⟨Nat.le_of_ble_eq_true rfl, Nat.le_of_ble_eq_true rfl⟩ rfl (Nat.le_of_ble_eq_true rfl) ⟨Nat.le_of_ble_eq_true rfl, Nat.le_of_ble_eq_true rfl⟩ (c2 := 0) (s2 := 0) rfl rfl (x_asBytes (some (b.1 0 (wh S pj))) 1 (Or.inr ⟨_, 0, _, rfl, (hx0.B hw_p rfl), Or.inl ⟨rfl, rfl⟩⟩)) ?_
              refine g_astore_n (lv' := [(3, .ref (b.1 0 (wh S pj))), (0, .ref M), (1, .int (nI pj)), (2, .int (nI qj))]) hC dX9_order_57 rfl (by decide) rfl (Or.inr ⟨_, rfl⟩) ?_
              refine g_aload_n hC dX9_order_58 rfl 1 rfl (Or.inr ⟨_, rfl⟩) ?_
              refine g_get hC (by decide +kernel) rfl (hx0.M hM).1 (hx0.M hM).2 0 (by decide) (by decide +kernel) (Or.inl rfl) rfl dX9_order_59 ?_
              refine g_iload_n hC dX9_order_62 rfl 3 rfl ?_
              refine g_aald hC 5 rfl (hx0.Mp rfl).1 (hx0.Mp rfl).2 (qj) rfl (show qj < 10 by omega) (by decide) dX9_order_63 ?_
              refine g_val (w := .null) (congrArg va_rf hp0_q) ?_
              refine g_S (As := [.null]) (st := []) hC 1 dX9_order_64 gX9_order_X9_asBytes rfl (by decide +kernel) ⟨Nat.le_of_ble_eq_true rfl, Nat.le_of_ble_eq_true rfl⟩ rfl (Nat.le_of_ble_eq_true rfl) ⟨Nat.le_of_ble_eq_true rfl, Nat.le_of_ble_eq_true rfl⟩ (c2 := 0) (s2 := 0) rfl rfl (x_asBytes none 0 (Or.inl ⟨rfl, rfl⟩)) ?_
              refine g_astore (lv' := [(4, .null), (3, .ref (b.1 0 (wh S pj))), (0, .ref M), (1, .int (nI pj)), (2, .int (nI qj))]) hC dX9_order_67 (by decide) rfl (Or.inl rfl) ?_
              refine g_aload_n hC dX9_order_69 rfl 1 rfl (Or.inr ⟨_, rfl⟩) ?_
              refine g_ifnull (o := some (b.1 0 (wh S pj))) (tgt := 78) hC dX9_order_70 (by decide) (fun h70 => ?_) (fun a70 h70 => ?_)
              · cases h70
              · refine g_aload hC dX9_order_73 0 rfl (Or.inl rfl) ?_
                refine g_ifnonnull (o := none) (tgt := 84) hC dX9_order_75 (by decide) (fun a75 h75 => ?_) (fun h75 => ?_)
                · cases h75
                · refine g_aload_n hC dX9_order_78 rfl 2 rfl (Or.inr ⟨_, rfl⟩) ?_
                  refine g_iconst hC dX9_order_79 (v := nI 1) (by decide) ?_
                  refine g_Vx (As := [.int (nI 1)]) (st := []) hC 1 dX9_order_80 rfl (hx0.M hM).1 (hx0.M hM).2 gX9_order_X9_failed rfl (by decide +kernel) ⟨Nat.le_of_ble_eq_true rfl, Nat.le_of_ble_eq_true rfl⟩ rfl (Nat.le_of_ble_eq_true rfl) ⟨(Nat.le_of_ble_eq_true rfl), (Nat.le_of_ble_eq_true rfl)⟩ (c2 := 0) (s2 := 0) rfl rfl (x_failed hx0 M hM 1) (fun v1 L1 f1 hp1 => ?_)
                  obtain ⟨rfl, hx1⟩ := hp1
                  show gW X vwCl 5 L1 f1 0 0 83 [(4, .null), (3, .ref (b.1 0 (wh S pj))), (0, .ref M), (1, .int (nI pj)), (2, .int (nI qj))] [.int (fA 1)]
                  have hc_p : castF S pj 1 = 0 := by unfold castF isO; rw [hk_p] <;> decide
                  have hc_q : castF S qj 1 = 1 := by unfold castF isO; rw [hk_q] <;> decide
                  have hE : s_order S (nI pj) (nI qj) = (fA 1, (aSc (thS S) 1 1)) := by
                    unfold s_order
                    rw [if_pos h4, if_pos h11, hpl_p, hpl_q, if_neg (show ¬ (castF S pj 1 = 2 ∨ castF S qj 1 = 2) by omega), if_pos (show 0 < castF S pj 1 ∨ 0 < castF S qj 1 by omega)] <;> rfl
                  exact g_iret hC hR dX9_order_83 ⟨b, congrArg (fun z => some (Value.int (Prod.fst z))) hE.symm, by rw [hE]; exact hx1, xG.rf⟩
            · exfalso; omega
          · have hw_q : wh S qj < S.1 4 := hI.wl hqj hk_q
            have hp0_q : plcF (thS S) b qj = some (b.1 0 (wh S qj)) := plc_k hqj hk_q (by decide)
            refine g_aald hC 5 rfl (hx0.Mp rfl).1 (hx0.Mp rfl).2 (qj) rfl (show qj < 10 by omega) (by decide) dX9_order_34 ?_
            refine g_val (w := .ref (b.1 0 (wh S qj))) (congrArg va_rf hp0_q) ?_
            refine g_iconst hC dX9_order_35 (v := nI 1) (by decide) ?_
            refine g_S (As := [.ref (b.1 0 (wh S qj)), .int (nI 1)]) (st := []) hC 2 dX9_order_36 gX9_order_X9_mayBeCast rfl (by decide +kernel) ⟨Nat.le_of_ble_eq_true rfl, Nat.le_of_ble_eq_true rfl⟩ rfl (Nat.le_of_ble_eq_true rfl) ⟨Nat.le_of_ble_eq_true rfl, Nat.le_of_ble_eq_true rfl⟩ (c2 := 0) (s2 := 0) rfl rfl (x_mayBeCast (some (b.1 0 (wh S qj))) 1 (Or.inr ⟨_, 0, _, rfl, (hx0.B hw_q rfl), Or.inl ⟨rfl, rfl⟩⟩) 1 (by decide)) ?_
            refine g_ifN_ne (a := 1) (tgt := 48) hC dX9_order_39 (by decide) (by omega) (fun h39 => ?_) (fun h39 => ?_)
            · refine g_aload_n hC dX9_order_48 rfl 0 rfl (Or.inr ⟨_, rfl⟩) ?_
              refine g_get hC (by decide +kernel) rfl (hx0.M hM).1 (hx0.M hM).2 0 (by decide) (by decide +kernel) (Or.inl rfl) rfl dX9_order_49 ?_
              refine g_iload_n hC dX9_order_52 rfl 1 rfl ?_
              refine g_aald hC 5 rfl (hx0.Mp rfl).1 (hx0.Mp rfl).2 (pj) rfl (show pj < 10 by omega) (by decide) dX9_order_53 ?_
              refine g_val (w := .ref (b.1 0 (wh S pj))) (congrArg va_rf hp0_p) ?_
              refine g_S (As := [.ref (b.1 0 (wh S pj))]) (st := []) hC 1 dX9_order_54 gX9_order_X9_asBytes rfl (by decide +kernel) ⟨Nat.le_of_ble_eq_true rfl, Nat.le_of_ble_eq_true rfl⟩ rfl (Nat.le_of_ble_eq_true rfl) ⟨Nat.le_of_ble_eq_true rfl, Nat.le_of_ble_eq_true rfl⟩ (c2 := 0) (s2 := 0) rfl rfl (x_asBytes (some (b.1 0 (wh S pj))) 1 (Or.inr ⟨_, 0, _, rfl, (hx0.B hw_p rfl), Or.inl ⟨rfl, rfl⟩⟩)) ?_
              refine g_astore_n (lv' := [(3, .ref (b.1 0 (wh S pj))), (0, .ref M), (1, .int (nI pj)), (2, .int (nI qj))]) hC dX9_order_57 rfl (by decide) rfl (Or.inr ⟨_, rfl⟩) ?_
              refine g_aload_n hC dX9_order_58 rfl 1 rfl (Or.inr ⟨_, rfl⟩) ?_
              refine g_get hC (by decide +kernel) rfl (hx0.M hM).1 (hx0.M hM).2 0 (by decide) (by decide +kernel) (Or.inl rfl) rfl dX9_order_59 ?_
              refine g_iload_n hC dX9_order_62 rfl 3 rfl ?_
              refine g_aald hC 5 rfl (hx0.Mp rfl).1 (hx0.Mp rfl).2 (qj) rfl (show qj < 10 by omega) (by decide) dX9_order_63 ?_
              refine g_val (w := .ref (b.1 0 (wh S qj))) (congrArg va_rf hp0_q) ?_
              refine g_S (As := [.ref (b.1 0 (wh S qj))]) (st := []) hC 1 dX9_order_64 gX9_order_X9_asBytes rfl (by decide +kernel) ⟨Nat.le_of_ble_eq_true rfl, Nat.le_of_ble_eq_true rfl⟩ rfl (Nat.le_of_ble_eq_true rfl) ⟨Nat.le_of_ble_eq_true rfl, Nat.le_of_ble_eq_true rfl⟩ (c2 := 0) (s2 := 0) rfl rfl (x_asBytes (some (b.1 0 (wh S qj))) 1 (Or.inr ⟨_, 0, _, rfl, (hx0.B hw_q rfl), Or.inl ⟨rfl, rfl⟩⟩)) ?_
              refine g_astore (lv' := [(4, .ref (b.1 0 (wh S qj))), (3, .ref (b.1 0 (wh S pj))), (0, .ref M), (1, .int (nI pj)), (2, .int (nI qj))]) hC dX9_order_67 (by decide) rfl (Or.inr ⟨_, rfl⟩) ?_
              refine g_aload_n hC dX9_order_69 rfl 1 rfl (Or.inr ⟨_, rfl⟩) ?_
              refine g_ifnull (o := some (b.1 0 (wh S pj))) (tgt := 78) hC dX9_order_70 (by decide) (fun h70 => ?_) (fun a70 h70 => ?_)
              · cases h70
              · refine g_aload hC dX9_order_73 0 rfl (Or.inr ⟨_, rfl⟩) ?_
                refine g_ifnonnull (o := some (b.1 0 (wh S qj))) (tgt := 84) hC dX9_order_75 (by decide) (fun a75 h75 => ?_) (fun h75 => ?_)
                · refine g_bipush hC dX9_order_84 (v := (-100)) (by decide) ?_
                  refine g_aload_n hC dX9_order_86 rfl 1 rfl (Or.inr ⟨_, rfl⟩) ?_
                  refine g_aload hC dX9_order_87 0 rfl (Or.inr ⟨_, rfl⟩) ?_
                  refine g_V (As := [.ref (b.1 0 (wh S qj))]) (st := [.int ((-100))]) hC 1 dX9_order_89 rfl (hx0.B hw_p rfl).1 (hx0.B hw_p rfl).2 gX9_order_X0_against rfl (by decide +kernel) ⟨Nat.le_of_ble_eq_true rfl, Nat.le_of_ble_eq_true rfl⟩ rfl (Nat.le_of_ble_eq_true rfl) ⟨Nat.le_of_ble_eq_true rfl, Nat.le_of_ble_eq_true rfl⟩ (c2 := 0) (s2 := 0) rfl rfl (x_against _ _ _ _ _ _ _ _ (hx0.isB hw_p rfl (hI.bl hw_p)) (hx0.isB hw_q rfl (hI.bl hw_q))) ?_
                  refine g_val (w := .int (sgn (agst S (wh S pj) (wh S qj)))) (congrArg (fun z => Value.int (sgn z)) bc_ag) ?_
                  refine g_iadd hC dX9_order_92 ?_
                  have hc_p : castF S pj 1 = 0 := by unfold castF isO; rw [hk_p] <;> decide
                  have hc_q : castF S qj 1 = 0 := by unfold castF isO; rw [hk_q] <;> decide
                  refine g_val (w := .int (if agst S (wh S pj) (wh S qj) < 0 then -101 else if 0 < agst S (wh S pj) (wh S qj) then -99 else -100)) (congrArg Value.int (by unfold sgn; (repeat' split) <;> rfl)) ?_
                  have hE : s_order S (nI pj) (nI qj) = (if agst S (wh S pj) (wh S qj) < 0 then -101 else if 0 < agst S (wh S pj) (wh S qj) then -99 else -100, (thS S)) := by
                    unfold s_order
                    rw [if_pos h4, if_pos h11, hpl_p, hpl_q, if_neg (show ¬ (castF S pj 1 = 2 ∨ castF S qj 1 = 2) by omega), if_neg (show ¬ (0 < castF S pj 1 ∨ 0 < castF S qj 1) by omega)] <;> rfl
                  exact g_iret hC hR dX9_order_93 ⟨b, congrArg (fun z => some (Value.int (Prod.fst z))) hE.symm, by rw [hE]; exact hx0, xG.rf⟩
                · cases h75
            · exfalso; omega
          · have hw_q : wh S qj < S.1 7 := hI.ws hqj hk_q
            have hp0_q : plcF (thS S) b qj = some (b.1 2 (wh S qj)) := plc_k hqj hk_q (by decide)
            refine g_aald hC 5 rfl (hx0.Mp rfl).1 (hx0.Mp rfl).2 (qj) rfl (show qj < 10 by omega) (by decide) dX9_order_34 ?_
            refine g_val (w := .ref (b.1 2 (wh S qj))) (congrArg va_rf hp0_q) ?_
            refine g_iconst hC dX9_order_35 (v := nI 1) (by decide) ?_
            refine g_S (As := [.ref (b.1 2 (wh S qj)), .int (nI 1)]) (st := []) hC 2 dX9_order_36 gX9_order_X9_mayBeCast rfl (by decide +kernel) ⟨Nat.le_of_ble_eq_true rfl, Nat.le_of_ble_eq_true rfl⟩ rfl (Nat.le_of_ble_eq_true rfl) ⟨Nat.le_of_ble_eq_true rfl, Nat.le_of_ble_eq_true rfl⟩ (c2 := 0) (s2 := 0) rfl rfl (x_mayBeCast (some (b.1 2 (wh S qj))) 2 (Or.inr ⟨_, 4, _, rfl, (hx0.G hw_q rfl), Or.inr (Or.inl ⟨rfl, rfl⟩)⟩) 1 (by decide)) ?_
            refine g_ifN_ne (a := 0) (tgt := 48) hC dX9_order_39 (by decide) (by omega) (fun h39 => ?_) (fun h39 => ?_)
            · exfalso; omega
            · refine g_aload_n hC dX9_order_42 rfl 0 rfl (Or.inr ⟨_, rfl⟩) ?_
              refine g_iconst hC dX9_order_43 (v := nI 2) (by decide) ?_
              refine g_Vx (As := [.int (nI 2)]) (st := []) hC 1 dX9_order_44 rfl (hx0.M hM).1 (hx0.M hM).2 gX9_order_X9_failed rfl (by decide +kernel) ⟨Nat.le_of_ble_eq_true rfl, Nat.le_of_ble_eq_true rfl⟩ rfl (Nat.le_of_ble_eq_true rfl) ⟨(Nat.le_of_ble_eq_true rfl), (Nat.le_of_ble_eq_true rfl)⟩ (c2 := 0) (s2 := 0) rfl rfl (x_failed hx0 M hM 2) (fun v1 L1 f1 hp1 => ?_)
              obtain ⟨rfl, hx1⟩ := hp1
              show gW X vwCl 5 L1 f1 0 0 47 [(0, .ref M), (1, .int (nI pj)), (2, .int (nI qj))] [.int (fA 2)]
              have hc_p : castF S pj 1 = 0 := by unfold castF isO; rw [hk_p] <;> decide
              have hc_q : castF S qj 1 = 2 := by unfold castF isO; rw [hk_q] <;> decide
              have hE : s_order S (nI pj) (nI qj) = (fA 2, (aSc (thS S) 1 2)) := by
                unfold s_order
                rw [if_pos h4, if_pos h11, hpl_p, hpl_q, if_pos (Or.inr hc_q)] <;> rfl
              exact g_iret hC hR dX9_order_47 ⟨b, congrArg (fun z => some (Value.int (Prod.fst z))) hE.symm, by rw [hE]; exact hx1, xG.rf⟩
          · have hw_q : wh S qj < S.1 10 := hI.wr hqj hk_q
            have hp0_q : plcF (thS S) b qj = some (b.1 4 (wh S qj)) := plc_k hqj hk_q (by decide)
            refine g_aald hC 5 rfl (hx0.Mp rfl).1 (hx0.Mp rfl).2 (qj) rfl (show qj < 10 by omega) (by decide) dX9_order_34 ?_
            refine g_val (w := .ref (b.1 4 (wh S qj))) (congrArg va_rf hp0_q) ?_
            refine g_iconst hC dX9_order_35 (v := nI 1) (by decide) ?_
            refine g_S (As := [.ref (b.1 4 (wh S qj)), .int (nI 1)]) (st := []) hC 2 dX9_order_36 gX9_order_X9_mayBeCast rfl (by decide +kernel) ⟨Nat.le_of_ble_eq_true rfl, Nat.le_of_ble_eq_true rfl⟩ rfl (Nat.le_of_ble_eq_true rfl) ⟨Nat.le_of_ble_eq_true rfl, Nat.le_of_ble_eq_true rfl⟩ (c2 := 0) (s2 := 0) rfl rfl (x_mayBeCast (some (b.1 4 (wh S qj))) 3 (Or.inr ⟨_, 3, _, rfl, (hx0.W hw_q rfl), Or.inr (Or.inr (Or.inl ⟨rfl, rfl⟩))⟩) 1 (by decide)) ?_
            refine g_ifN_ne (a := 0) (tgt := 48) hC dX9_order_39 (by decide) (by omega) (fun h39 => ?_) (fun h39 => ?_)
            · exfalso; omega
            · refine g_aload_n hC dX9_order_42 rfl 0 rfl (Or.inr ⟨_, rfl⟩) ?_
              refine g_iconst hC dX9_order_43 (v := nI 2) (by decide) ?_
              refine g_Vx (As := [.int (nI 2)]) (st := []) hC 1 dX9_order_44 rfl (hx0.M hM).1 (hx0.M hM).2 gX9_order_X9_failed rfl (by decide +kernel) ⟨Nat.le_of_ble_eq_true rfl, Nat.le_of_ble_eq_true rfl⟩ rfl (Nat.le_of_ble_eq_true rfl) ⟨(Nat.le_of_ble_eq_true rfl), (Nat.le_of_ble_eq_true rfl)⟩ (c2 := 0) (s2 := 0) rfl rfl (x_failed hx0 M hM 2) (fun v1 L1 f1 hp1 => ?_)
              obtain ⟨rfl, hx1⟩ := hp1
              show gW X vwCl 5 L1 f1 0 0 47 [(0, .ref M), (1, .int (nI pj)), (2, .int (nI qj))] [.int (fA 2)]
              have hc_p : castF S pj 1 = 0 := by unfold castF isO; rw [hk_p] <;> decide
              have hc_q : castF S qj 1 = 2 := by unfold castF isO; rw [hk_q] <;> decide
              have hE : s_order S (nI pj) (nI qj) = (fA 2, (aSc (thS S) 1 2)) := by
                unfold s_order
                rw [if_pos h4, if_pos h11, hpl_p, hpl_q, if_pos (Or.inr hc_q)] <;> rfl
              exact g_iret hC hR dX9_order_47 ⟨b, congrArg (fun z => some (Value.int (Prod.fst z))) hE.symm, by rw [hE]; exact hx1, xG.rf⟩
          · have hw_q : wh S qj < S.1 13 := hI.wt hqj (by omega)
            have hb_q : S.2.1 14 (wh S qj) = 0 := by have := ((hI.2.1 _ hqj).2.2.2.2.2 (by omega)).2; omega
            have hp0_q : plcF (thS S) b qj = some (b.1 6 (wh S qj)) := plc_k hqj hk_q (by decide)
            refine g_aald hC 5 rfl (hx0.Mp rfl).1 (hx0.Mp rfl).2 (qj) rfl (show qj < 10 by omega) (by decide) dX9_order_34 ?_
            refine g_val (w := .ref (b.1 6 (wh S qj))) (congrArg va_rf hp0_q) ?_
            refine g_iconst hC dX9_order_35 (v := nI 1) (by decide) ?_
            refine g_S (As := [.ref (b.1 6 (wh S qj)), .int (nI 1)]) (st := []) hC 2 dX9_order_36 gX9_order_X9_mayBeCast rfl (by decide +kernel) ⟨Nat.le_of_ble_eq_true rfl, Nat.le_of_ble_eq_true rfl⟩ rfl (Nat.le_of_ble_eq_true rfl) ⟨Nat.le_of_ble_eq_true rfl, Nat.le_of_ble_eq_true rfl⟩ (c2 := 0) (s2 := 0) rfl rfl (x_mayBeCast (some (b.1 6 (wh S qj))) 4 (Or.inr ⟨_, 5, _, rfl, (hx0.T hw_q rfl hb_q), Or.inr (Or.inr (Or.inr (Or.inl ⟨rfl, rfl⟩)))⟩) 1 (by decide)) ?_
            refine g_ifN_ne (a := 0) (tgt := 48) hC dX9_order_39 (by decide) (by omega) (fun h39 => ?_) (fun h39 => ?_)
            · exfalso; omega
            · refine g_aload_n hC dX9_order_42 rfl 0 rfl (Or.inr ⟨_, rfl⟩) ?_
              refine g_iconst hC dX9_order_43 (v := nI 2) (by decide) ?_
              refine g_Vx (As := [.int (nI 2)]) (st := []) hC 1 dX9_order_44 rfl (hx0.M hM).1 (hx0.M hM).2 gX9_order_X9_failed rfl (by decide +kernel) ⟨Nat.le_of_ble_eq_true rfl, Nat.le_of_ble_eq_true rfl⟩ rfl (Nat.le_of_ble_eq_true rfl) ⟨(Nat.le_of_ble_eq_true rfl), (Nat.le_of_ble_eq_true rfl)⟩ (c2 := 0) (s2 := 0) rfl rfl (x_failed hx0 M hM 2) (fun v1 L1 f1 hp1 => ?_)
              obtain ⟨rfl, hx1⟩ := hp1
              show gW X vwCl 5 L1 f1 0 0 47 [(0, .ref M), (1, .int (nI pj)), (2, .int (nI qj))] [.int (fA 2)]
              have hc_p : castF S pj 1 = 0 := by unfold castF isO; rw [hk_p] <;> decide
              have hc_q : castF S qj 1 = 2 := by unfold castF isO; rw [hk_q] <;> decide
              have hE : s_order S (nI pj) (nI qj) = (fA 2, (aSc (thS S) 1 2)) := by
                unfold s_order
                rw [if_pos h4, if_pos h11, hpl_p, hpl_q, if_pos (Or.inr hc_q)] <;> rfl
              exact g_iret hC hR dX9_order_47 ⟨b, congrArg (fun z => some (Value.int (Prod.fst z))) hE.symm, by rw [hE]; exact hx1, xG.rf⟩
          · have hw_q : wh S qj < S.1 13 := hI.wt hqj (by omega)
            have hb_q : S.2.1 14 (wh S qj) ≠ 0 := by have := ((hI.2.1 _ hqj).2.2.2.2.2 (by omega)).2; omega
            have hp0_q : plcF (thS S) b qj = some (b.1 6 (wh S qj)) := plc_k hqj hk_q (by decide)
            refine g_aald hC 5 rfl (hx0.Mp rfl).1 (hx0.Mp rfl).2 (qj) rfl (show qj < 10 by omega) (by decide) dX9_order_34 ?_
            refine g_val (w := .ref (b.1 6 (wh S qj))) (congrArg va_rf hp0_q) ?_
            refine g_iconst hC dX9_order_35 (v := nI 1) (by decide) ?_
            refine g_S (As := [.ref (b.1 6 (wh S qj)), .int (nI 1)]) (st := []) hC 2 dX9_order_36 gX9_order_X9_mayBeCast rfl (by decide +kernel) ⟨Nat.le_of_ble_eq_true rfl, Nat.le_of_ble_eq_true rfl⟩ rfl (Nat.le_of_ble_eq_true rfl) ⟨Nat.le_of_ble_eq_true rfl, Nat.le_of_ble_eq_true rfl⟩ (c2 := 0) (s2 := 0) rfl rfl (x_mayBeCast (some (b.1 6 (wh S qj))) 5 (Or.inr ⟨_, 1, _, rfl, (hx0.K hw_q rfl hb_q), Or.inr (Or.inr (Or.inr (Or.inr ⟨rfl, rfl⟩)))⟩) 1 (by decide)) ?_
            refine g_ifN_ne (a := 0) (tgt := 48) hC dX9_order_39 (by decide) (by omega) (fun h39 => ?_) (fun h39 => ?_)
            · exfalso; omega
            · refine g_aload_n hC dX9_order_42 rfl 0 rfl (Or.inr ⟨_, rfl⟩) ?_
              refine g_iconst hC dX9_order_43 (v := nI 2) (by decide) ?_
              refine g_Vx (As := [.int (nI 2)]) (st := []) hC 1 dX9_order_44 rfl (hx0.M hM).1 (hx0.M hM).2 gX9_order_X9_failed rfl (by decide +kernel) ⟨Nat.le_of_ble_eq_true rfl, Nat.le_of_ble_eq_true rfl⟩ rfl (Nat.le_of_ble_eq_true rfl) ⟨(Nat.le_of_ble_eq_true rfl), (Nat.le_of_ble_eq_true rfl)⟩ (c2 := 0) (s2 := 0) rfl rfl (x_failed hx0 M hM 2) (fun v1 L1 f1 hp1 => ?_)
              obtain ⟨rfl, hx1⟩ := hp1
              show gW X vwCl 5 L1 f1 0 0 47 [(0, .ref M), (1, .int (nI pj)), (2, .int (nI qj))] [.int (fA 2)]
              have hc_p : castF S pj 1 = 0 := by unfold castF isO; rw [hk_p] <;> decide
              have hc_q : castF S qj 1 = 2 := by unfold castF isO; rw [hk_q] <;> decide
              have hE : s_order S (nI pj) (nI qj) = (fA 2, (aSc (thS S) 1 2)) := by
                unfold s_order
                rw [if_pos h4, if_pos h11, hpl_p, hpl_q, if_pos (Or.inr hc_q)] <;> rfl
              exact g_iret hC hR dX9_order_47 ⟨b, congrArg (fun z => some (Value.int (Prod.fst z))) hE.symm, by rw [hE]; exact hx1, xG.rf⟩
      · have hw_p : wh S pj < S.1 7 := hI.ws hpj hk_p
        have hp0_p : plcF (thS S) b pj = some (b.1 2 (wh S pj)) := plc_k hpj hk_p (by decide)
        refine g_aald hC 5 rfl (hx0.Mp rfl).1 (hx0.Mp rfl).2 (pj) rfl (show pj < 10 by omega) (by decide) dX9_order_21 ?_
        refine g_val (w := .ref (b.1 2 (wh S pj))) (congrArg va_rf hp0_p) ?_
        refine g_iconst hC dX9_order_22 (v := nI 1) (by decide) ?_
        refine g_S (As := [.ref (b.1 2 (wh S pj)), .int (nI 1)]) (st := []) hC 2 dX9_order_23 gX9_order_X9_mayBeCast rfl (by decide +kernel) ⟨Nat.le_of_ble_eq_true rfl, Nat.le_of_ble_eq_true rfl⟩ rfl (Nat.le_of_ble_eq_true rfl) ⟨Nat.le_of_ble_eq_true rfl, Nat.le_of_ble_eq_true rfl⟩ (c2 := 0) (s2 := 0) rfl rfl (x_mayBeCast (some (b.1 2 (wh S pj))) 2 (Or.inr ⟨_, 4, _, rfl, (hx0.G hw_p rfl), Or.inr (Or.inl ⟨rfl, rfl⟩)⟩) 1 (by decide)) ?_
        refine g_ifN_eq (a := 0) (tgt := 42) hC dX9_order_26 (by decide) (by omega) (fun h26 => ?_) (fun h26 => ?_)
        · refine g_aload_n hC dX9_order_42 rfl 0 rfl (Or.inr ⟨_, rfl⟩) ?_
          refine g_iconst hC dX9_order_43 (v := nI 2) (by decide) ?_
          refine g_Vx (As := [.int (nI 2)]) (st := []) hC 1 dX9_order_44 rfl (hx0.M hM).1 (hx0.M hM).2 gX9_order_X9_failed rfl (by decide +kernel) ⟨Nat.le_of_ble_eq_true rfl, Nat.le_of_ble_eq_true rfl⟩ rfl (Nat.le_of_ble_eq_true rfl) ⟨(Nat.le_of_ble_eq_true rfl), (Nat.le_of_ble_eq_true rfl)⟩ (c2 := 0) (s2 := 0) rfl rfl (x_failed hx0 M hM 2) (fun v1 L1 f1 hp1 => ?_)
          obtain ⟨rfl, hx1⟩ := hp1
          show gW X vwCl 5 L1 f1 0 0 47 [(0, .ref M), (1, .int (nI pj)), (2, .int (nI qj))] [.int (fA 2)]
          have hc_p : castF S pj 1 = 2 := by unfold castF isO; rw [hk_p] <;> decide
          have hE : s_order S (nI pj) (nI qj) = (fA 2, (aSc (thS S) 1 2)) := by
            unfold s_order
            rw [if_pos h4, if_pos h11, hpl_p, hpl_q, if_pos (Or.inl hc_p)] <;> rfl
          exact g_iret hC hR dX9_order_47 ⟨b, congrArg (fun z => some (Value.int (Prod.fst z))) hE.symm, by rw [hE]; exact hx1, xG.rf⟩
        · exfalso; omega
      · have hw_p : wh S pj < S.1 10 := hI.wr hpj hk_p
        have hp0_p : plcF (thS S) b pj = some (b.1 4 (wh S pj)) := plc_k hpj hk_p (by decide)
        refine g_aald hC 5 rfl (hx0.Mp rfl).1 (hx0.Mp rfl).2 (pj) rfl (show pj < 10 by omega) (by decide) dX9_order_21 ?_
        refine g_val (w := .ref (b.1 4 (wh S pj))) (congrArg va_rf hp0_p) ?_
        refine g_iconst hC dX9_order_22 (v := nI 1) (by decide) ?_
        refine g_S (As := [.ref (b.1 4 (wh S pj)), .int (nI 1)]) (st := []) hC 2 dX9_order_23 gX9_order_X9_mayBeCast rfl (by decide +kernel) ⟨Nat.le_of_ble_eq_true rfl, Nat.le_of_ble_eq_true rfl⟩ rfl (Nat.le_of_ble_eq_true rfl) ⟨Nat.le_of_ble_eq_true rfl, Nat.le_of_ble_eq_true rfl⟩ (c2 := 0) (s2 := 0) rfl rfl (x_mayBeCast (some (b.1 4 (wh S pj))) 3 (Or.inr ⟨_, 3, _, rfl, (hx0.W hw_p rfl), Or.inr (Or.inr (Or.inl ⟨rfl, rfl⟩))⟩) 1 (by decide)) ?_
        refine g_ifN_eq (a := 0) (tgt := 42) hC dX9_order_26 (by decide) (by omega) (fun h26 => ?_) (fun h26 => ?_)
        · refine g_aload_n hC dX9_order_42 rfl 0 rfl (Or.inr ⟨_, rfl⟩) ?_
          refine g_iconst hC dX9_order_43 (v := nI 2) (by decide) ?_
          refine g_Vx (As := [.int (nI 2)]) (st := []) hC 1 dX9_order_44 rfl (hx0.M hM).1 (hx0.M hM).2 gX9_order_X9_failed rfl (by decide +kernel) ⟨Nat.le_of_ble_eq_true rfl, Nat.le_of_ble_eq_true rfl⟩ rfl (Nat.le_of_ble_eq_true rfl) ⟨(Nat.le_of_ble_eq_true rfl), (Nat.le_of_ble_eq_true rfl)⟩ (c2 := 0) (s2 := 0) rfl rfl (x_failed hx0 M hM 2) (fun v1 L1 f1 hp1 => ?_)
          obtain ⟨rfl, hx1⟩ := hp1
          show gW X vwCl 5 L1 f1 0 0 47 [(0, .ref M), (1, .int (nI pj)), (2, .int (nI qj))] [.int (fA 2)]
          have hc_p : castF S pj 1 = 2 := by unfold castF isO; rw [hk_p] <;> decide
          have hE : s_order S (nI pj) (nI qj) = (fA 2, (aSc (thS S) 1 2)) := by
            unfold s_order
            rw [if_pos h4, if_pos h11, hpl_p, hpl_q, if_pos (Or.inl hc_p)] <;> rfl
          exact g_iret hC hR dX9_order_47 ⟨b, congrArg (fun z => some (Value.int (Prod.fst z))) hE.symm, by rw [hE]; exact hx1, xG.rf⟩
        · exfalso; omega
      · have hw_p : wh S pj < S.1 13 := hI.wt hpj (by omega)
        have hb_p : S.2.1 14 (wh S pj) = 0 := by have := ((hI.2.1 _ hpj).2.2.2.2.2 (by omega)).2; omega
        have hp0_p : plcF (thS S) b pj = some (b.1 6 (wh S pj)) := plc_k hpj hk_p (by decide)
        refine g_aald hC 5 rfl (hx0.Mp rfl).1 (hx0.Mp rfl).2 (pj) rfl (show pj < 10 by omega) (by decide) dX9_order_21 ?_
        refine g_val (w := .ref (b.1 6 (wh S pj))) (congrArg va_rf hp0_p) ?_
        refine g_iconst hC dX9_order_22 (v := nI 1) (by decide) ?_
        refine g_S (As := [.ref (b.1 6 (wh S pj)), .int (nI 1)]) (st := []) hC 2 dX9_order_23 gX9_order_X9_mayBeCast rfl (by decide +kernel) ⟨Nat.le_of_ble_eq_true rfl, Nat.le_of_ble_eq_true rfl⟩ rfl (Nat.le_of_ble_eq_true rfl) ⟨Nat.le_of_ble_eq_true rfl, Nat.le_of_ble_eq_true rfl⟩ (c2 := 0) (s2 := 0) rfl rfl (x_mayBeCast (some (b.1 6 (wh S pj))) 4 (Or.inr ⟨_, 5, _, rfl, (hx0.T hw_p rfl hb_p), Or.inr (Or.inr (Or.inr (Or.inl ⟨rfl, rfl⟩)))⟩) 1 (by decide)) ?_
        refine g_ifN_eq (a := 0) (tgt := 42) hC dX9_order_26 (by decide) (by omega) (fun h26 => ?_) (fun h26 => ?_)
        · refine g_aload_n hC dX9_order_42 rfl 0 rfl (Or.inr ⟨_, rfl⟩) ?_
          refine g_iconst hC dX9_order_43 (v := nI 2) (by decide) ?_
          refine g_Vx (As := [.int (nI 2)]) (st := []) hC 1 dX9_order_44 rfl (hx0.M hM).1 (hx0.M hM).2 gX9_order_X9_failed rfl (by decide +kernel) ⟨Nat.le_of_ble_eq_true rfl, Nat.le_of_ble_eq_true rfl⟩ rfl (Nat.le_of_ble_eq_true rfl) ⟨(Nat.le_of_ble_eq_true rfl), (Nat.le_of_ble_eq_true rfl)⟩ (c2 := 0) (s2 := 0) rfl rfl (x_failed hx0 M hM 2) (fun v1 L1 f1 hp1 => ?_)
          obtain ⟨rfl, hx1⟩ := hp1
          show gW X vwCl 5 L1 f1 0 0 47 [(0, .ref M), (1, .int (nI pj)), (2, .int (nI qj))] [.int (fA 2)]
          have hc_p : castF S pj 1 = 2 := by unfold castF isO; rw [hk_p] <;> decide
          have hE : s_order S (nI pj) (nI qj) = (fA 2, (aSc (thS S) 1 2)) := by
            unfold s_order
            rw [if_pos h4, if_pos h11, hpl_p, hpl_q, if_pos (Or.inl hc_p)] <;> rfl
          exact g_iret hC hR dX9_order_47 ⟨b, congrArg (fun z => some (Value.int (Prod.fst z))) hE.symm, by rw [hE]; exact hx1, xG.rf⟩
        · exfalso; omega
      · have hw_p : wh S pj < S.1 13 := hI.wt hpj (by omega)
        have hb_p : S.2.1 14 (wh S pj) ≠ 0 := by have := ((hI.2.1 _ hpj).2.2.2.2.2 (by omega)).2; omega
        have hp0_p : plcF (thS S) b pj = some (b.1 6 (wh S pj)) := plc_k hpj hk_p (by decide)
        refine g_aald hC 5 rfl (hx0.Mp rfl).1 (hx0.Mp rfl).2 (pj) rfl (show pj < 10 by omega) (by decide) dX9_order_21 ?_
        refine g_val (w := .ref (b.1 6 (wh S pj))) (congrArg va_rf hp0_p) ?_
        refine g_iconst hC dX9_order_22 (v := nI 1) (by decide) ?_
        refine g_S (As := [.ref (b.1 6 (wh S pj)), .int (nI 1)]) (st := []) hC 2 dX9_order_23 gX9_order_X9_mayBeCast rfl (by decide +kernel) ⟨Nat.le_of_ble_eq_true rfl, Nat.le_of_ble_eq_true rfl⟩ rfl (Nat.le_of_ble_eq_true rfl) ⟨Nat.le_of_ble_eq_true rfl, Nat.le_of_ble_eq_true rfl⟩ (c2 := 0) (s2 := 0) rfl rfl (x_mayBeCast (some (b.1 6 (wh S pj))) 5 (Or.inr ⟨_, 1, _, rfl, (hx0.K hw_p rfl hb_p), Or.inr (Or.inr (Or.inr (Or.inr ⟨rfl, rfl⟩)))⟩) 1 (by decide)) ?_
        refine g_ifN_eq (a := 0) (tgt := 42) hC dX9_order_26 (by decide) (by omega) (fun h26 => ?_) (fun h26 => ?_)
        · refine g_aload_n hC dX9_order_42 rfl 0 rfl (Or.inr ⟨_, rfl⟩) ?_
          refine g_iconst hC dX9_order_43 (v := nI 2) (by decide) ?_
          refine g_Vx (As := [.int (nI 2)]) (st := []) hC 1 dX9_order_44 rfl (hx0.M hM).1 (hx0.M hM).2 gX9_order_X9_failed rfl (by decide +kernel) ⟨Nat.le_of_ble_eq_true rfl, Nat.le_of_ble_eq_true rfl⟩ rfl (Nat.le_of_ble_eq_true rfl) ⟨(Nat.le_of_ble_eq_true rfl), (Nat.le_of_ble_eq_true rfl)⟩ (c2 := 0) (s2 := 0) rfl rfl (x_failed hx0 M hM 2) (fun v1 L1 f1 hp1 => ?_)
          obtain ⟨rfl, hx1⟩ := hp1
          show gW X vwCl 5 L1 f1 0 0 47 [(0, .ref M), (1, .int (nI pj)), (2, .int (nI qj))] [.int (fA 2)]
          have hc_p : castF S pj 1 = 2 := by unfold castF isO; rw [hk_p] <;> decide
          have hE : s_order S (nI pj) (nI qj) = (fA 2, (aSc (thS S) 1 2)) := by
            unfold s_order
            rw [if_pos h4, if_pos h11, hpl_p, hpl_q, if_pos (Or.inl hc_p)] <;> rfl
          exact g_iret hC hR dX9_order_47 ⟨b, congrArg (fun z => some (Value.int (Prod.fst z))) hE.symm, by rw [hE]; exact hx1, xG.rf⟩
        · exfalso; omega
    · refine g_iconst hC dX9_order_14 (v := (-1)) (by decide) ?_
      have hE : s_order S (nI pj) q = ((-1), (thS S)) := by
        unfold s_order
        rw [if_pos h4, if_neg h11] <;> rfl
      exact g_iret hC hR dX9_order_15 ⟨b, congrArg (fun z => some (Value.int (Prod.fst z))) hE.symm, by rw [hE]; exact hx0, xG.rf⟩
end Y2
