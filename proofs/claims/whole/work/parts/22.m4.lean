section M3
variable {l : Launch} {D : va_G} {cy : Nat → ClassId} {K : gKt} {o : Nat} {ad : Nat → Nat} {S : aS}
set_option maxRecDepth 20000 in
set_option maxHeartbeats 4000000 in
theorem c_make (hk : gKok D vwCl (cyT cy) K) (hm : mOk o ad) (hI : aI S) (p : Int32) (k : Int32) (n : Int32) : gCt l D vwCl K yX10_make wsX10_make { frames := 2, cells := 0, slots := 0, locals := 42 } [.ref o, .int p, .int k, .int n] (mL o ad) (mW o ad cy S) (pE (some (.int (s_make S p k n).1)) (mL o ad) (mW o ad cy (s_make S p k n).2)) := by
  refine gCt.of hk (by decide) rfl rfl (fun X hC hR hnm => ?_)
  have hC : gC X l _ D vwCl (cyT cy) K cX10_make 5 wsX10_make RX10 := hC
  have hin : ∀ w ∈ wsX100, w ∈ wsX10_make := by decide +kernel
  show gW X vwCl 5 (mL o ad) (mW o ad cy S) 0 0 0 [(0, .ref o), (1, .int p), (2, .int k), (3, .int n)] []
  have hnb := hI.nb
  refine g_aload_n hC dX10_make_0 rfl 0 rfl (Or.inr ⟨_, rfl⟩) ?_
  refine g_iconst hC dX10_make_1 (v := nI 0) (by decide) ?_
  refine m_put_0 (x := 0) hC hin (by decide +kernel) dX10_make_2 ?_
  refine g_iload_n hC dX10_make_5 rfl 1 rfl ?_
  refine g_S (As := [.int p]) (st := []) hC 1 dX10_make_6 gX10_make_X10_isPlace rfl (by decide +kernel) ⟨Nat.le_of_ble_eq_true rfl, Nat.le_of_ble_eq_true rfl⟩ rfl (Nat.le_of_ble_eq_true rfl) ⟨Nat.le_of_ble_eq_true rfl, Nat.le_of_ble_eq_true rfl⟩ (c2 := 0) (s2 := 0) rfl rfl (c_isPlace hk _) ?_
  refine g_ifB_ne (P := isP p) (tgt := 14) hC dX10_make_9 (by decide) (fun h9 => ?_) (fun h9 => ?_)
  · obtain ⟨pj, hpj, rfl⟩ := isP_j h9
    have hpl_p : pl (nI pj) = pj := nI_clamp (by omega)
    have h5_p := hI.k5 hpj
    have hw_p := hI.wb hpj
    refine g_iload_n hC dX10_make_14 rfl 2 rfl ?_
    refine g_iconst hC dX10_make_15 (v := nI 1) (by decide) ?_
    refine g_iconst hC dX10_make_16 (v := nI 3) (by decide) ?_
    refine g_S (As := [.int k, .int (nI 1), .int (nI 3)]) (st := []) hC 3 dX10_make_17 gX10_make_X10_in rfl (by decide +kernel) ⟨Nat.le_of_ble_eq_true rfl, Nat.le_of_ble_eq_true rfl⟩ rfl (Nat.le_of_ble_eq_true rfl) ⟨Nat.le_of_ble_eq_true rfl, Nat.le_of_ble_eq_true rfl⟩ (c2 := 0) (s2 := 0) rfl rfl (c_in hk _ _ _) ?_
    refine g_ifB_eq (P := nI 1 ≤ k ∧ k ≤ nI 3) (tgt := 29) hC dX10_make_20 (by decide) (fun h20 => ?_) (fun h20 => ?_)
    · refine g_bipush hC dX10_make_29 (v := (-2)) (by decide) ?_
      exact g_iret hC hR dX10_make_31 (pE_i (by simp only [s_make, hpl_p]; (repeat' split) <;> first | with_reducible rfl | contradiction | (exfalso; omega) | (rw [bI_t (by first | assumption | omega)]; rfl) | (rw [bI_f (by first | assumption | omega)]; rfl) | (exfalso; rename_i hz; exact absurd hz (by decide)) | (exfalso; rename_i hz; first | exact absurd hz.1 (by assumption) | exact absurd hz.2 (by assumption)) | (exfalso; simp only [Int32.lt_iff_toInt_lt, Int32.le_iff_toInt_le] at *; omega) | (exfalso; simp_all; done) | (simp_all; done) | rfl))
    · obtain ⟨kj, hk1, hk2, rfl⟩ := ty_j (lo := 1) (hi := 3) (by decide) h20 (by decide)
      rcases (show kj = 1 ∨ kj = 2 ∨ kj = 3 by omega) with rfl | rfl | rfl
      · have hpl_k : pl (nI 1) = 1 := by decide
        refine g_iload_n hC dX10_make_23 rfl 3 rfl ?_
        refine g_bipush hC dX10_make_24 (v := nI 16) (by decide) ?_
        refine g_icmp_le (x := n) (y := nI 16) (tgt := 32) hC dX10_make_26 (by decide) (fun h26 => ?_) (fun h26 => ?_)
        · refine g_iload_n hC dX10_make_32 rfl 3 rfl ?_
          refine g_if_ge (x := n) (tgt := 42) hC dX10_make_33 (by decide) (fun h33 => ?_) (fun h33 => ?_)
          · obtain ⟨nj, hnj, rfl⟩ := nI_of2 (x := n) (M := 16) (n := 16) rfl (fun q => absurd q (by rw [Int32.lt_iff_toInt_lt]; rw [Int32.le_iff_toInt_le] at h33; omega)) h26
            have hpl_n : pl (nI nj) = nj := nI_clamp (by omega)
            have hnn : ¬ nI nj < 0 := nI_pos (by omega)
            refine g_iload_n hC dX10_make_42 rfl 2 rfl ?_
            refine g_iconst hC dX10_make_43 (v := nI 1) (by decide) ?_
            refine g_icmpN_ne (a := 1) (b := 1) (tgt := 61) hC dX10_make_44 (by decide) (by omega) (by omega) (fun h44 => ?_) (fun h44 => ?_)
            · exfalso; omega
            · refine g_aload_n hC dX10_make_47 rfl 0 rfl (Or.inr ⟨_, rfl⟩) ?_
              refine g_iload_n hC dX10_make_48 rfl 1 rfl ?_
              refine g_iconst hC dX10_make_49 (v := nI 1) (by decide) ?_
              refine g_aload_n hC dX10_make_50 rfl 0 rfl (Or.inr ⟨_, rfl⟩) ?_
              refine g_iload_n hC dX10_make_51 rfl 3 rfl ?_
              refine g_V (As := [.int (nI nj)]) (st := [.int (nI 1), .int (nI pj), .ref o]) hC 1 dX10_make_52 rfl mL_o mW_o gX10_make_X10_newBytes rfl (by decide +kernel) ⟨Nat.le_of_ble_eq_true rfl, Nat.le_of_ble_eq_true rfl⟩ rfl (Nat.le_of_ble_eq_true rfl) ⟨Nat.le_of_ble_eq_true rfl, Nat.le_of_ble_eq_true rfl⟩ (c2 := 0) (s2 := 0) rfl rfl (c_newBytes hk hm nj (by show S.1 4 < 40000; omega)) ?_
              refine g_Vv (As := [.int (nI pj), .int (nI 1), .int (nI (S.1 4))]) (st := []) hC 3 dX10_make_55 rfl mL_o mW_o gX10_make_X10_hold rfl (by decide +kernel) ⟨Nat.le_of_ble_eq_true rfl, Nat.le_of_ble_eq_true rfl⟩ rfl (Nat.le_of_ble_eq_true rfl) ⟨Nat.le_of_ble_eq_true rfl, Nat.le_of_ble_eq_true rfl⟩ (c2 := 0) (s2 := 0) rfl rfl (c_hold hk hm pj 1 (S.1 4) (by omega)) ?_
              refine g_goto (tgt := 193) hC dX10_make_58 (by decide) ?_
              refine g_iconst hC dX10_make_193 (v := nI 1) (by decide) ?_
              exact g_iret hC hR dX10_make_194 (pE_i (by simp only [s_make, hpl_p, hpl_k, hpl_n]; (repeat' split) <;> first | with_reducible rfl | contradiction | (exfalso; omega) | (rw [bI_t (by first | assumption | omega)]; rfl) | (rw [bI_f (by first | assumption | omega)]; rfl) | (exfalso; rename_i hz; exact absurd hz (by decide)) | (exfalso; rename_i hz; first | exact absurd hz.1 (by assumption) | exact absurd hz.2 (by assumption)) | (exfalso; simp only [Int32.lt_iff_toInt_lt, Int32.le_iff_toInt_le] at *; omega) | (exfalso; simp_all; done) | (simp_all; done) | rfl))
          · refine g_aload_n hC dX10_make_36 rfl 0 rfl (Or.inr ⟨_, rfl⟩) ?_
            refine g_iconst hC dX10_make_37 (v := nI 5) (by decide) ?_
            refine g_V (As := [.int (nI 5)]) (st := []) hC 1 dX10_make_38 rfl mL_o mW_o gX10_make_X10_fails rfl (by decide +kernel) ⟨Nat.le_of_ble_eq_true rfl, Nat.le_of_ble_eq_true rfl⟩ rfl (Nat.le_of_ble_eq_true rfl) ⟨Nat.le_of_ble_eq_true rfl, Nat.le_of_ble_eq_true rfl⟩ (c2 := 0) (s2 := 0) rfl rfl (c_fails hk hm 5) ?_
            exact g_iret hC hR dX10_make_41 (pE_i (by simp only [s_make, hpl_p, hpl_k]; (repeat' split) <;> first | with_reducible rfl | contradiction | (exfalso; omega) | (rw [bI_t (by first | assumption | omega)]; rfl) | (rw [bI_f (by first | assumption | omega)]; rfl) | (exfalso; rename_i hz; exact absurd hz (by decide)) | (exfalso; rename_i hz; first | exact absurd hz.1 (by assumption) | exact absurd hz.2 (by assumption)) | (exfalso; simp only [Int32.lt_iff_toInt_lt, Int32.le_iff_toInt_le] at *; omega) | (exfalso; simp_all; done) | (simp_all; done) | rfl))
        · refine g_bipush hC dX10_make_29 (v := (-2)) (by decide) ?_
          exact g_iret hC hR dX10_make_31 (pE_i (by simp only [s_make, hpl_p, hpl_k]; (repeat' split) <;> first | with_reducible rfl | contradiction | (exfalso; omega) | (rw [bI_t (by first | assumption | omega)]; rfl) | (rw [bI_f (by first | assumption | omega)]; rfl) | (exfalso; rename_i hz; exact absurd hz (by decide)) | (exfalso; rename_i hz; first | exact absurd hz.1 (by assumption) | exact absurd hz.2 (by assumption)) | (exfalso; simp only [Int32.lt_iff_toInt_lt, Int32.le_iff_toInt_le] at *; omega) | (exfalso; simp_all; done) | (simp_all; done) | rfl))
      · have hpl_k : pl (nI 2) = 2 := by decide
        refine g_iload_n hC dX10_make_23 rfl 3 rfl ?_
        refine g_bipush hC dX10_make_24 (v := nI 16) (by decide) ?_
        refine g_icmp_le (x := n) (y := nI 16) (tgt := 32) hC dX10_make_26 (by decide) (fun h26 => ?_) (fun h26 => ?_)
        · refine g_iload_n hC dX10_make_32 rfl 3 rfl ?_
          refine g_if_ge (x := n) (tgt := 42) hC dX10_make_33 (by decide) (fun h33 => ?_) (fun h33 => ?_)
          · obtain ⟨nj, hnj, rfl⟩ := nI_of2 (x := n) (M := 16) (n := 16) rfl (fun q => absurd q (by rw [Int32.lt_iff_toInt_lt]; rw [Int32.le_iff_toInt_le] at h33; omega)) h26
            have hpl_n : pl (nI nj) = nj := nI_clamp (by omega)
            have hnn : ¬ nI nj < 0 := nI_pos (by omega)
            refine g_iload_n hC dX10_make_42 rfl 2 rfl ?_
            refine g_iconst hC dX10_make_43 (v := nI 1) (by decide) ?_
            refine g_icmpN_ne (a := 2) (b := 1) (tgt := 61) hC dX10_make_44 (by decide) (by omega) (by omega) (fun h44 => ?_) (fun h44 => ?_)
            · refine g_iload_n hC dX10_make_61 rfl 2 rfl ?_
              refine g_iconst hC dX10_make_62 (v := nI 2) (by decide) ?_
              refine g_icmpN_ne (a := 2) (b := 2) (tgt := 131) hC dX10_make_63 (by decide) (by omega) (by omega) (fun h63 => ?_) (fun h63 => ?_)
              · exfalso; omega
              · refine g_aload_n hC dX10_make_66 rfl 0 rfl (Or.inr ⟨_, rfl⟩) ?_
                refine m_get_8 hC hin (by decide +kernel) dX10_make_67 ?_
                refine g_aload_n hC dX10_make_70 rfl 0 rfl (Or.inr ⟨_, rfl⟩) ?_
                refine m_get_7 hC hin (by decide +kernel) dX10_make_71 ?_
                refine g_iload_n hC dX10_make_74 rfl 3 rfl ?_
                refine m_astN (k := 8) (j := S.1 7) (x := nj) hC hm (by decide) rfl (fun _ => rfl) rfl dX10_make_75 (show _ < 600 from (by omega)) ?_
                refine g_iconst hC dX10_make_76 (v := nI 0) (by decide) ?_
                refine g_istore (lv' := [(4, .int (nI 0)), (0, .ref o), (1, .int (nI pj)), (2, .int (nI 2)), (3, .int (nI nj))]) hC dX10_make_77 (by decide) rfl ?_
                have lp : ∀ (m : Nat) (i : Nat), 17 - i < m → (i ≤ 16) → gW X vwCl 5 (mL o ad) (mW o ad cy (aWr (aN (aSc S 0 0) 8 (S.1 7) nj) 9 (16 * S.1 7) i (fun _ => 0))) 0 0 79 [(4, .int (nI i)), (0, .ref o), (1, .int (nI pj)), (2, .int (nI 2)), (3, .int (nI nj))] [] := by
                  intro m
                  induction m with
                  | zero => intros; omega
                  | succ m ih =>
                    intro i hm9 hi9
                    refine g_iload hC dX10_make_79 0 rfl ?_
                    refine g_bipush hC dX10_make_81 (v := nI 16) (by decide) ?_
                    refine g_icmpN_ge (a := i) (b := 16) (tgt := 108) hC dX10_make_83 (by decide) (by omega) (by omega) (fun h83 => ?_) (fun h83 => ?_)
                    · obtain rfl : i = 16 := by omega
                      refine g_aload_n hC dX10_make_108 rfl 1 rfl (Or.inr ⟨_, rfl⟩) ?_
                      refine g_iload_n hC dX10_make_109 rfl 2 rfl ?_
                      refine g_iconst hC dX10_make_110 (v := nI 2) (by decide) ?_
                      refine g_aload_n hC dX10_make_111 rfl 1 rfl (Or.inr ⟨_, rfl⟩) ?_
                      refine m_get_7 hC hin (by decide +kernel) dX10_make_112 ?_
                      refine g_Vv (As := [.int (nI pj), .int (nI 2), .int (nI (S.1 7))]) (st := []) hC 3 dX10_make_115 rfl mL_o mW_o gX10_make_X10_hold rfl (by decide +kernel) ⟨Nat.le_of_ble_eq_true rfl, Nat.le_of_ble_eq_true rfl⟩ rfl (Nat.le_of_ble_eq_true rfl) ⟨Nat.le_of_ble_eq_true rfl, Nat.le_of_ble_eq_true rfl⟩ (c2 := 0) (s2 := 0) rfl rfl (c_hold hk hm pj 2 (S.1 7) (by omega)) ?_
                      refine g_aload_n hC dX10_make_118 rfl 1 rfl (Or.inr ⟨_, rfl⟩) ?_
                      refine g_dup hC dX10_make_119 rfl ?_
                      refine m_get_7 hC hin (by decide +kernel) dX10_make_120 ?_
                      refine g_iconst hC dX10_make_123 (v := nI 1) (by decide) ?_
                      refine g_iaddN (a := S.1 7) (b := 1) hC dX10_make_124 ?_
                      refine m_put_7 (x := (S.1 7) + 1) hC hin (by decide +kernel) dX10_make_125 ?_
                      refine g_goto (tgt := 193) hC dX10_make_128 (by decide) ?_
                      refine g_iconst hC dX10_make_193 (v := nI 1) (by decide) ?_
                      exact g_iret hC hR dX10_make_194 (pE_i (by simp only [s_make, hpl_p, hpl_k, hpl_n]; (repeat' split) <;> first | with_reducible rfl | contradiction | (exfalso; omega) | (rw [bI_t (by first | assumption | omega)]; rfl) | (rw [bI_f (by first | assumption | omega)]; rfl) | (exfalso; rename_i hz; exact absurd hz (by decide)) | (exfalso; rename_i hz; first | exact absurd hz.1 (by assumption) | exact absurd hz.2 (by assumption)) | (exfalso; simp only [Int32.lt_iff_toInt_lt, Int32.le_iff_toInt_le] at *; omega) | (exfalso; simp_all; done) | (simp_all; done) | rfl))
                    · refine g_aload_n hC dX10_make_86 rfl 1 rfl (Or.inr ⟨_, rfl⟩) ?_
                      refine m_get_9 hC hin (by decide +kernel) dX10_make_87 ?_
                      refine g_bipush hC dX10_make_90 (v := nI 16) (by decide) ?_
                      refine g_aload_n hC dX10_make_92 rfl 1 rfl (Or.inr ⟨_, rfl⟩) ?_
                      refine m_get_7 hC hin (by decide +kernel) dX10_make_93 ?_
                      refine g_imulN (a := 16) (b := S.1 7) hC dX10_make_96 ?_
                      refine g_iload hC dX10_make_97 0 rfl ?_
                      refine g_iaddN (a := 16 * (S.1 7)) (b := i) hC dX10_make_99 ?_
                      refine g_iconst hC dX10_make_100 (v := nI 0) (by decide) ?_
                      refine m_astW (k := 9) (j := (16 * (S.1 7)) + i) (x := nI 0) hC hm (by decide) rfl (fun _ => rfl) rfl dX10_make_101 (show _ < 9600 from (by omega)) ?_
                      refine g_iincN (n := 1) (a := i) (lv' := [(4, .int (nI (i + 1))), (0, .ref o), (1, .int (nI pj)), (2, .int (nI 2)), (3, .int (nI nj))]) hC dX10_make_102 0 rfl (by decide) rfl ?_
                      refine g_goto (tgt := 79) hC dX10_make_105 (by decide) ?_
                      have e0 : aW (aWr (aN (aSc S 0 0) 8 (S.1 7) nj) 9 (16 * S.1 7) i (fun _ => 0)) 9 (16 * S.1 7 + i) (nI 0) = aWr (aN (aSc S 0 0) 8 (S.1 7) nj) 9 (16 * S.1 7) (i + 1) (fun _ => 0) := aWr_s (g := fun _ => 0)
                      rw [e0]
                      exact ih (i + 1) (by omega) (by omega)
                rw [← aWr_0 (S := (aN (aSc S 0 0) 8 (S.1 7) nj)) (k := 9) (base := 16 * S.1 7) (g := fun _ => 0)]
                exact lp 18 0 (by omega) (by omega)
            · exfalso; omega
          · refine g_aload_n hC dX10_make_36 rfl 0 rfl (Or.inr ⟨_, rfl⟩) ?_
            refine g_iconst hC dX10_make_37 (v := nI 5) (by decide) ?_
            refine g_V (As := [.int (nI 5)]) (st := []) hC 1 dX10_make_38 rfl mL_o mW_o gX10_make_X10_fails rfl (by decide +kernel) ⟨Nat.le_of_ble_eq_true rfl, Nat.le_of_ble_eq_true rfl⟩ rfl (Nat.le_of_ble_eq_true rfl) ⟨Nat.le_of_ble_eq_true rfl, Nat.le_of_ble_eq_true rfl⟩ (c2 := 0) (s2 := 0) rfl rfl (c_fails hk hm 5) ?_
            exact g_iret hC hR dX10_make_41 (pE_i (by simp only [s_make, hpl_p, hpl_k]; (repeat' split) <;> first | with_reducible rfl | contradiction | (exfalso; omega) | (rw [bI_t (by first | assumption | omega)]; rfl) | (rw [bI_f (by first | assumption | omega)]; rfl) | (exfalso; rename_i hz; exact absurd hz (by decide)) | (exfalso; rename_i hz; first | exact absurd hz.1 (by assumption) | exact absurd hz.2 (by assumption)) | (exfalso; simp only [Int32.lt_iff_toInt_lt, Int32.le_iff_toInt_le] at *; omega) | (exfalso; simp_all; done) | (simp_all; done) | rfl))
        · refine g_bipush hC dX10_make_29 (v := (-2)) (by decide) ?_
          exact g_iret hC hR dX10_make_31 (pE_i (by simp only [s_make, hpl_p, hpl_k]; (repeat' split) <;> first | with_reducible rfl | contradiction | (exfalso; omega) | (rw [bI_t (by first | assumption | omega)]; rfl) | (rw [bI_f (by first | assumption | omega)]; rfl) | (exfalso; rename_i hz; exact absurd hz (by decide)) | (exfalso; rename_i hz; first | exact absurd hz.1 (by assumption) | exact absurd hz.2 (by assumption)) | (exfalso; simp only [Int32.lt_iff_toInt_lt, Int32.le_iff_toInt_le] at *; omega) | (exfalso; simp_all; done) | (simp_all; done) | rfl))
      · have hpl_k : pl (nI 3) = 3 := by decide
        refine g_iload_n hC dX10_make_23 rfl 3 rfl ?_
        refine g_bipush hC dX10_make_24 (v := nI 16) (by decide) ?_
        refine g_icmp_le (x := n) (y := nI 16) (tgt := 32) hC dX10_make_26 (by decide) (fun h26 => ?_) (fun h26 => ?_)
        · refine g_iload_n hC dX10_make_32 rfl 3 rfl ?_
          refine g_if_ge (x := n) (tgt := 42) hC dX10_make_33 (by decide) (fun h33 => ?_) (fun h33 => ?_)
          · obtain ⟨nj, hnj, rfl⟩ := nI_of2 (x := n) (M := 16) (n := 16) rfl (fun q => absurd q (by rw [Int32.lt_iff_toInt_lt]; rw [Int32.le_iff_toInt_le] at h33; omega)) h26
            have hpl_n : pl (nI nj) = nj := nI_clamp (by omega)
            have hnn : ¬ nI nj < 0 := nI_pos (by omega)
            refine g_iload_n hC dX10_make_42 rfl 2 rfl ?_
            refine g_iconst hC dX10_make_43 (v := nI 1) (by decide) ?_
            refine g_icmpN_ne (a := 3) (b := 1) (tgt := 61) hC dX10_make_44 (by decide) (by omega) (by omega) (fun h44 => ?_) (fun h44 => ?_)
            · refine g_iload_n hC dX10_make_61 rfl 2 rfl ?_
              refine g_iconst hC dX10_make_62 (v := nI 2) (by decide) ?_
              refine g_icmpN_ne (a := 3) (b := 2) (tgt := 131) hC dX10_make_63 (by decide) (by omega) (by omega) (fun h63 => ?_) (fun h63 => ?_)
              · refine g_aload_n hC dX10_make_131 rfl 0 rfl (Or.inr ⟨_, rfl⟩) ?_
                refine m_get_11 hC hin (by decide +kernel) dX10_make_132 ?_
                refine g_aload_n hC dX10_make_135 rfl 0 rfl (Or.inr ⟨_, rfl⟩) ?_
                refine m_get_10 hC hin (by decide +kernel) dX10_make_136 ?_
                refine g_iload_n hC dX10_make_139 rfl 3 rfl ?_
                refine m_astN (k := 11) (j := S.1 10) (x := nj) hC hm (by decide) rfl (fun _ => rfl) rfl dX10_make_140 (show _ < 600 from (by omega)) ?_
                refine g_iconst hC dX10_make_141 (v := nI 0) (by decide) ?_
                refine g_istore (lv' := [(4, .int (nI 0)), (0, .ref o), (1, .int (nI pj)), (2, .int (nI 3)), (3, .int (nI nj))]) hC dX10_make_142 (by decide) rfl ?_
                have lp : ∀ (m : Nat) (i : Nat), 17 - i < m → (i ≤ 16) → gW X vwCl 5 (mL o ad) (mW o ad cy (aNr (aN (aSc S 0 0) 11 (S.1 10) nj) 12 (16 * S.1 10) i (fun _ => 0))) 0 0 144 [(4, .int (nI i)), (0, .ref o), (1, .int (nI pj)), (2, .int (nI 3)), (3, .int (nI nj))] [] := by
                  intro m
                  induction m with
                  | zero => intros; omega
                  | succ m ih =>
                    intro i hm9 hi9
                    refine g_iload hC dX10_make_144 0 rfl ?_
                    refine g_bipush hC dX10_make_146 (v := nI 16) (by decide) ?_
                    refine g_icmpN_ge (a := i) (b := 16) (tgt := 173) hC dX10_make_148 (by decide) (by omega) (by omega) (fun h148 => ?_) (fun h148 => ?_)
                    · obtain rfl : i = 16 := by omega
                      refine g_aload_n hC dX10_make_173 rfl 1 rfl (Or.inr ⟨_, rfl⟩) ?_
                      refine g_iload_n hC dX10_make_174 rfl 2 rfl ?_
                      refine g_iconst hC dX10_make_175 (v := nI 3) (by decide) ?_
                      refine g_aload_n hC dX10_make_176 rfl 1 rfl (Or.inr ⟨_, rfl⟩) ?_
                      refine m_get_10 hC hin (by decide +kernel) dX10_make_177 ?_
                      refine g_Vv (As := [.int (nI pj), .int (nI 3), .int (nI (S.1 10))]) (st := []) hC 3 dX10_make_180 rfl mL_o mW_o gX10_make_X10_hold rfl (by decide +kernel) ⟨Nat.le_of_ble_eq_true rfl, Nat.le_of_ble_eq_true rfl⟩ rfl (Nat.le_of_ble_eq_true rfl) ⟨Nat.le_of_ble_eq_true rfl, Nat.le_of_ble_eq_true rfl⟩ (c2 := 0) (s2 := 0) rfl rfl (c_hold hk hm pj 3 (S.1 10) (by omega)) ?_
                      refine g_aload_n hC dX10_make_183 rfl 1 rfl (Or.inr ⟨_, rfl⟩) ?_
                      refine g_dup hC dX10_make_184 rfl ?_
                      refine m_get_10 hC hin (by decide +kernel) dX10_make_185 ?_
                      refine g_iconst hC dX10_make_188 (v := nI 1) (by decide) ?_
                      refine g_iaddN (a := S.1 10) (b := 1) hC dX10_make_189 ?_
                      refine m_put_10 (x := (S.1 10) + 1) hC hin (by decide +kernel) dX10_make_190 ?_
                      refine g_iconst hC dX10_make_193 (v := nI 1) (by decide) ?_
                      exact g_iret hC hR dX10_make_194 (pE_i (by simp only [s_make, hpl_p, hpl_k, hpl_n]; (repeat' split) <;> first | with_reducible rfl | contradiction | (exfalso; omega) | (rw [bI_t (by first | assumption | omega)]; rfl) | (rw [bI_f (by first | assumption | omega)]; rfl) | (exfalso; rename_i hz; exact absurd hz (by decide)) | (exfalso; rename_i hz; first | exact absurd hz.1 (by assumption) | exact absurd hz.2 (by assumption)) | (exfalso; simp only [Int32.lt_iff_toInt_lt, Int32.le_iff_toInt_le] at *; omega) | (exfalso; simp_all; done) | (simp_all; done) | rfl))
                    · refine g_aload_n hC dX10_make_151 rfl 1 rfl (Or.inr ⟨_, rfl⟩) ?_
                      refine m_get_12 hC hin (by decide +kernel) dX10_make_152 ?_
                      refine g_bipush hC dX10_make_155 (v := nI 16) (by decide) ?_
                      refine g_aload_n hC dX10_make_157 rfl 1 rfl (Or.inr ⟨_, rfl⟩) ?_
                      refine m_get_10 hC hin (by decide +kernel) dX10_make_158 ?_
                      refine g_imulN (a := 16) (b := S.1 10) hC dX10_make_161 ?_
                      refine g_iload hC dX10_make_162 0 rfl ?_
                      refine g_iaddN (a := 16 * (S.1 10)) (b := i) hC dX10_make_164 ?_
                      refine g_iconst hC dX10_make_165 (v := nI 0) (by decide) ?_
                      refine m_astN (k := 12) (j := (16 * (S.1 10)) + i) (x := 0) hC hm (by decide) rfl (fun _ => rfl) rfl dX10_make_166 (show _ < 9600 from (by omega)) ?_
                      refine g_iincN (n := 1) (a := i) (lv' := [(4, .int (nI (i + 1))), (0, .ref o), (1, .int (nI pj)), (2, .int (nI 3)), (3, .int (nI nj))]) hC dX10_make_167 0 rfl (by decide) rfl ?_
                      refine g_goto (tgt := 144) hC dX10_make_170 (by decide) ?_
                      have e0 : aN (aNr (aN (aSc S 0 0) 11 (S.1 10) nj) 12 (16 * S.1 10) i (fun _ => 0)) 12 (16 * S.1 10 + i) 0 = aNr (aN (aSc S 0 0) 11 (S.1 10) nj) 12 (16 * S.1 10) (i + 1) (fun _ => 0) := aNr_s (g := fun _ => 0)
                      rw [e0]
                      exact ih (i + 1) (by omega) (by omega)
                rw [← aNr_0 (S := (aN (aSc S 0 0) 11 (S.1 10) nj)) (k := 12) (base := 16 * S.1 10) (g := fun _ => 0)]
                exact lp 18 0 (by omega) (by omega)
              · exfalso; omega
            · exfalso; omega
          · refine g_aload_n hC dX10_make_36 rfl 0 rfl (Or.inr ⟨_, rfl⟩) ?_
            refine g_iconst hC dX10_make_37 (v := nI 5) (by decide) ?_
            refine g_V (As := [.int (nI 5)]) (st := []) hC 1 dX10_make_38 rfl mL_o mW_o gX10_make_X10_fails rfl (by decide +kernel) ⟨Nat.le_of_ble_eq_true rfl, Nat.le_of_ble_eq_true rfl⟩ rfl (Nat.le_of_ble_eq_true rfl) ⟨Nat.le_of_ble_eq_true rfl, Nat.le_of_ble_eq_true rfl⟩ (c2 := 0) (s2 := 0) rfl rfl (c_fails hk hm 5) ?_
            exact g_iret hC hR dX10_make_41 (pE_i (by simp only [s_make, hpl_p, hpl_k]; (repeat' split) <;> first | with_reducible rfl | contradiction | (exfalso; omega) | (rw [bI_t (by first | assumption | omega)]; rfl) | (rw [bI_f (by first | assumption | omega)]; rfl) | (exfalso; rename_i hz; exact absurd hz (by decide)) | (exfalso; rename_i hz; first | exact absurd hz.1 (by assumption) | exact absurd hz.2 (by assumption)) | (exfalso; simp only [Int32.lt_iff_toInt_lt, Int32.le_iff_toInt_le] at *; omega) | (exfalso; simp_all; done) | (simp_all; done) | rfl))
        · refine g_bipush hC dX10_make_29 (v := (-2)) (by decide) ?_
          exact g_iret hC hR dX10_make_31 (pE_i (by simp only [s_make, hpl_p, hpl_k]; (repeat' split) <;> first | with_reducible rfl | contradiction | (exfalso; omega) | (rw [bI_t (by first | assumption | omega)]; rfl) | (rw [bI_f (by first | assumption | omega)]; rfl) | (exfalso; rename_i hz; exact absurd hz (by decide)) | (exfalso; rename_i hz; first | exact absurd hz.1 (by assumption) | exact absurd hz.2 (by assumption)) | (exfalso; simp only [Int32.lt_iff_toInt_lt, Int32.le_iff_toInt_le] at *; omega) | (exfalso; simp_all; done) | (simp_all; done) | rfl))
  · refine g_iconst hC dX10_make_12 (v := (-1)) (by decide) ?_
    exact g_iret hC hR dX10_make_13 (pE_i (by simp only [s_make]; (repeat' split) <;> first | with_reducible rfl | contradiction | (exfalso; omega) | (rw [bI_t (by first | assumption | omega)]; rfl) | (rw [bI_f (by first | assumption | omega)]; rfl) | (exfalso; rename_i hz; exact absurd hz (by decide)) | (exfalso; rename_i hz; first | exact absurd hz.1 (by assumption) | exact absurd hz.2 (by assumption)) | (exfalso; simp only [Int32.lt_iff_toInt_lt, Int32.le_iff_toInt_le] at *; omega) | (exfalso; simp_all; done) | (simp_all; done) | rfl))
set_option maxRecDepth 20000 in
set_option maxHeartbeats 4000000 in
theorem c_table (hk : gKok D vwCl (cyT cy) K) (hm : mOk o ad) (hI : aI S) (p : Int32) (kb : Nat) (n : Int32) (hkb : kb < 2) : gCt l D vwCl K yX10_table wsX10_table { frames := 2, cells := 0, slots := 0, locals := 42 } [.ref o, .int p, .int (nI kb), .int n] (mL o ad) (mW o ad cy S) (pE (some (.int (s_table S p kb n).1)) (mL o ad) (mW o ad cy (s_table S p kb n).2)) := by
  refine gCt.of hk (by decide) rfl rfl (fun X hC hR hnm => ?_)
  have hC : gC X l _ D vwCl (cyT cy) K cX10_table 7 wsX10_table RX10 := hC
  have hin : ∀ w ∈ wsX100, w ∈ wsX10_table := by decide +kernel
  show gW X vwCl 7 (mL o ad) (mW o ad cy S) 0 0 0 [(0, .ref o), (1, .int p), (2, .int (nI kb)), (3, .int n)] []
  have hnb := hI.nb
  refine g_aload_n hC dX10_table_0 rfl 0 rfl (Or.inr ⟨_, rfl⟩) ?_
  refine g_iconst hC dX10_table_1 (v := nI 0) (by decide) ?_
  refine m_put_0 (x := 0) hC hin (by decide +kernel) dX10_table_2 ?_
  refine g_iload_n hC dX10_table_5 rfl 1 rfl ?_
  refine g_S (As := [.int p]) (st := []) hC 1 dX10_table_6 gX10_table_X10_isPlace rfl (by decide +kernel) ⟨Nat.le_of_ble_eq_true rfl, Nat.le_of_ble_eq_true rfl⟩ rfl (Nat.le_of_ble_eq_true rfl) ⟨Nat.le_of_ble_eq_true rfl, Nat.le_of_ble_eq_true rfl⟩ (c2 := 0) (s2 := 0) rfl rfl (c_isPlace hk _) ?_
  refine g_ifB_ne (P := isP p) (tgt := 14) hC dX10_table_9 (by decide) (fun h9 => ?_) (fun h9 => ?_)
  · obtain ⟨pj, hpj, rfl⟩ := isP_j h9
    have hpl_p : pl (nI pj) = pj := nI_clamp (by omega)
    have h5_p := hI.k5 hpj
    have hw_p := hI.wb hpj
    refine g_iload_n hC dX10_table_14 rfl 3 rfl ?_
    refine g_iconst hC dX10_table_15 (v := nI 1) (by decide) ?_
    refine g_bipush hC dX10_table_16 (v := nI 64) (by decide) ?_
    refine g_S (As := [.int n, .int (nI 1), .int (nI 64)]) (st := []) hC 3 dX10_table_18 gX10_table_X10_in rfl (by decide +kernel) ⟨Nat.le_of_ble_eq_true rfl, Nat.le_of_ble_eq_true rfl⟩ rfl (Nat.le_of_ble_eq_true rfl) ⟨Nat.le_of_ble_eq_true rfl, Nat.le_of_ble_eq_true rfl⟩ (c2 := 0) (s2 := 0) rfl rfl (c_in hk _ _ _) ?_
    refine g_ifB_ne (P := nI 1 ≤ n ∧ n ≤ nI 64) (tgt := 27) hC dX10_table_21 (by decide) (fun h21 => ?_) (fun h21 => ?_)
    · obtain ⟨nj, hn1, hn2, rfl⟩ := ty_j (lo := 1) (hi := 64) (by decide) h21 (by decide)
      have hpl_n : pl (nI nj) = nj := nI_clamp (by omega)
      refine g_iconst hC dX10_table_27 (v := nI 4) (by decide) ?_
      refine g_istore (lv' := [(4, .int (nI 4)), (0, .ref o), (1, .int (nI pj)), (2, .int (nI kb)), (3, .int (nI nj))]) hC dX10_table_28 (by decide) rfl ?_
      refine g_iload hC dX10_table_30 0 rfl ?_
      refine g_iload_n hC dX10_table_32 rfl 4 rfl ?_
      refine g_icmpN_ge (a := 4) (b := nj) (tgt := 45) hC dX10_table_33 (by decide) (by omega) (by omega) (fun h33 => ?_) (fun h33 => ?_)
      · refine g_aload_n hC dX10_table_45 rfl 1 rfl (Or.inr ⟨_, rfl⟩) ?_
        refine m_get_13 hC hin (by decide +kernel) dX10_table_46 ?_
        refine g_istore (lv' := [(5, .int (nI (S.1 13))), (4, .int (nI 4)), (0, .ref o), (1, .int (nI pj)), (2, .int (nI kb)), (3, .int (nI nj))]) hC dX10_table_49 (by decide) rfl ?_
        refine g_aload_n hC dX10_table_51 rfl 2 rfl (Or.inr ⟨_, rfl⟩) ?_
        refine g_dup hC dX10_table_52 rfl ?_
        refine m_get_13 hC hin (by decide +kernel) dX10_table_53 ?_
        refine g_iconst hC dX10_table_56 (v := nI 1) (by decide) ?_
        refine g_iaddN (a := S.1 13) (b := 1) hC dX10_table_57 ?_
        refine m_put_13 (x := (S.1 13) + 1) hC hin (by decide +kernel) dX10_table_58 ?_
        refine g_aload_n hC dX10_table_61 rfl 2 rfl (Or.inr ⟨_, rfl⟩) ?_
        refine m_get_14 hC hin (by decide +kernel) dX10_table_62 ?_
        refine g_iload hC dX10_table_65 0 rfl ?_
        refine g_iload_n hC dX10_table_67 rfl 4 rfl ?_
        refine m_astZ (j := S.1 13) (x := kb) hC hm (by omega) dX10_table_68 (by omega) ?_
        refine g_aload_n hC dX10_table_69 rfl 2 rfl (Or.inr ⟨_, rfl⟩) ?_
        refine m_get_15 hC hin (by decide +kernel) dX10_table_70 ?_
        refine g_iload hC dX10_table_73 0 rfl ?_
        refine g_iload hC dX10_table_75 1 rfl ?_
        refine m_astN (k := 15) (j := S.1 13) (x := 4) hC hm (by decide) rfl (fun _ => rfl) rfl dX10_table_77 (show _ < 520 from (by omega)) ?_
        refine g_aload_n hC dX10_table_78 rfl 2 rfl (Or.inr ⟨_, rfl⟩) ?_
        refine m_get_16 hC hin (by decide +kernel) dX10_table_79 ?_
        refine g_iload hC dX10_table_82 0 rfl ?_
        refine g_iconst hC dX10_table_84 (v := nI 0) (by decide) ?_
        refine m_astN (k := 16) (j := S.1 13) (x := 0) hC hm (by decide) rfl (fun _ => rfl) rfl dX10_table_85 (show _ < 520 from (by omega)) ?_
        refine g_aload_n hC dX10_table_86 rfl 2 rfl (Or.inr ⟨_, rfl⟩) ?_
        refine m_get_17 hC hin (by decide +kernel) dX10_table_87 ?_
        refine g_iload hC dX10_table_90 0 rfl ?_
        refine g_iconst hC dX10_table_92 (v := nI 0) (by decide) ?_
        refine m_astN (k := 17) (j := S.1 13) (x := 0) hC hm (by decide) rfl (fun _ => rfl) rfl dX10_table_93 (show _ < 520 from (by omega)) ?_
        refine g_aload_n hC dX10_table_94 rfl 2 rfl (Or.inr ⟨_, rfl⟩) ?_
        refine m_get_18 hC hin (by decide +kernel) dX10_table_95 ?_
        refine g_iload hC dX10_table_98 0 rfl ?_
        refine g_iconst hC dX10_table_100 (v := nI 0) (by decide) ?_
        refine m_astN (k := 18) (j := S.1 13) (x := 0) hC hm (by decide) rfl (fun _ => rfl) rfl dX10_table_101 (show _ < 520 from (by omega)) ?_
        refine g_iconst hC dX10_table_102 (v := nI 0) (by decide) ?_
        refine g_istore (lv' := [(6, .int (nI 0)), (5, .int (nI (S.1 13))), (4, .int (nI 4)), (0, .ref o), (1, .int (nI pj)), (2, .int (nI kb)), (3, .int (nI nj))]) hC dX10_table_103 (by decide) rfl ?_
        have hsz : szF nj = 4 := by unfold szF; (repeat' split) <;> omega
        have lp : ∀ (m : Nat) (i : Nat), 257 - i < m → (i ≤ 256) → gW X vwCl 7 (mL o ad) (mW o ad cy (aNr (aN (aN (aN (aN (aN (aSc (aSc S 0 0) 13 ((S.1 13) + 1)) 14 (S.1 13) kb) 15 (S.1 13) 4) 16 (S.1 13) 0) 17 (S.1 13) 0) 18 (S.1 13) 0) 19 (256 * S.1 13) i (fun _ => 0))) 0 0 105 [(6, .int (nI i)), (5, .int (nI (S.1 13))), (4, .int (nI 4)), (0, .ref o), (1, .int (nI pj)), (2, .int (nI kb)), (3, .int (nI nj))] [] := by
          intro m
          induction m with
          | zero => intros; omega
          | succ m ih =>
            intro i hm9 hi9
            refine g_iload hC dX10_table_105 0 rfl ?_
            refine g_sipush hC dX10_table_107 (v := nI 256) (by decide) ?_
            refine g_icmpN_ge (a := i) (b := 256) (tgt := 134) hC dX10_table_110 (by decide) (by omega) (by omega) (fun h110 => ?_) (fun h110 => ?_)
            · obtain rfl : i = 256 := by omega
              refine g_aload_n hC dX10_table_134 rfl 3 rfl (Or.inr ⟨_, rfl⟩) ?_
              refine g_iload_n hC dX10_table_135 rfl 4 rfl ?_
              refine g_iload_n hC dX10_table_136 rfl 5 rfl ?_
              refine g_ifN_eq (a := kb) (tgt := 144) hC dX10_table_137 (by decide) (by omega) (fun h137 => ?_) (fun h137 => ?_)
              · refine g_iconst hC dX10_table_144 (v := nI 4) (by decide) ?_
                refine g_iload hC dX10_table_145 1 rfl ?_
                refine g_Vv (As := [.int (nI pj), .int (nI 4), .int (nI (S.1 13))]) (st := []) hC 3 dX10_table_147 rfl mL_o mW_o gX10_table_X10_hold rfl (by decide +kernel) ⟨Nat.le_of_ble_eq_true rfl, Nat.le_of_ble_eq_true rfl⟩ rfl (Nat.le_of_ble_eq_true rfl) ⟨Nat.le_of_ble_eq_true rfl, Nat.le_of_ble_eq_true rfl⟩ (c2 := 0) (s2 := 0) rfl rfl (c_hold hk hm pj 4 (S.1 13) (by omega)) ?_
                refine g_iload hC dX10_table_150 2 rfl ?_
                exact g_iret hC hR dX10_table_152 (pE_i (by simp only [s_table, hpl_p, hpl_n, hsz]; (repeat' split) <;> first | with_reducible rfl | contradiction | (exfalso; omega) | (rw [bI_t (by first | assumption | omega)]; rfl) | (rw [bI_f (by first | assumption | omega)]; rfl) | (exfalso; rename_i hz; exact absurd hz (by decide)) | (exfalso; rename_i hz; first | exact absurd hz.1 (by assumption) | exact absurd hz.2 (by assumption)) | (exfalso; simp only [Int32.lt_iff_toInt_lt, Int32.le_iff_toInt_le] at *; omega) | (exfalso; simp_all; done) | (simp_all; done) | rfl))
              · refine g_iconst hC dX10_table_140 (v := nI 5) (by decide) ?_
                refine g_goto (tgt := 145) hC dX10_table_141 (by decide) ?_
                refine g_iload hC dX10_table_145 1 rfl ?_
                refine g_Vv (As := [.int (nI pj), .int (nI 5), .int (nI (S.1 13))]) (st := []) hC 3 dX10_table_147 rfl mL_o mW_o gX10_table_X10_hold rfl (by decide +kernel) ⟨Nat.le_of_ble_eq_true rfl, Nat.le_of_ble_eq_true rfl⟩ rfl (Nat.le_of_ble_eq_true rfl) ⟨Nat.le_of_ble_eq_true rfl, Nat.le_of_ble_eq_true rfl⟩ (c2 := 0) (s2 := 0) rfl rfl (c_hold hk hm pj 5 (S.1 13) (by omega)) ?_
                refine g_iload hC dX10_table_150 2 rfl ?_
                exact g_iret hC hR dX10_table_152 (pE_i (by simp only [s_table, hpl_p, hpl_n, hsz]; (repeat' split) <;> first | with_reducible rfl | contradiction | (exfalso; omega) | (rw [bI_t (by first | assumption | omega)]; rfl) | (rw [bI_f (by first | assumption | omega)]; rfl) | (exfalso; rename_i hz; exact absurd hz (by decide)) | (exfalso; rename_i hz; first | exact absurd hz.1 (by assumption) | exact absurd hz.2 (by assumption)) | (exfalso; simp only [Int32.lt_iff_toInt_lt, Int32.le_iff_toInt_le] at *; omega) | (exfalso; simp_all; done) | (simp_all; done) | rfl))
            · refine g_aload_n hC dX10_table_113 rfl 3 rfl (Or.inr ⟨_, rfl⟩) ?_
              refine m_get_19 hC hin (by decide +kernel) dX10_table_114 ?_
              refine g_sipush hC dX10_table_117 (v := nI 256) (by decide) ?_
              refine g_iload hC dX10_table_120 1 rfl ?_
              refine g_imulN (a := 256) (b := S.1 13) hC dX10_table_122 ?_
              refine g_iload hC dX10_table_123 0 rfl ?_
              refine g_iaddN (a := 256 * (S.1 13)) (b := i) hC dX10_table_125 ?_
              refine g_iconst hC dX10_table_126 (v := nI 0) (by decide) ?_
              refine m_astN (k := 19) (j := (256 * (S.1 13)) + i) (x := 0) hC hm (by decide) rfl (fun _ => rfl) rfl dX10_table_127 (show _ < 133120 from (by omega)) ?_
              refine g_iincN (n := 1) (a := i) (lv' := [(6, .int (nI (i + 1))), (5, .int (nI (S.1 13))), (4, .int (nI 4)), (0, .ref o), (1, .int (nI pj)), (2, .int (nI kb)), (3, .int (nI nj))]) hC dX10_table_128 0 rfl (by decide) rfl ?_
              refine g_goto (tgt := 105) hC dX10_table_131 (by decide) ?_
              have e0 : aN (aNr (aN (aN (aN (aN (aN (aSc (aSc S 0 0) 13 ((S.1 13) + 1)) 14 (S.1 13) kb) 15 (S.1 13) 4) 16 (S.1 13) 0) 17 (S.1 13) 0) 18 (S.1 13) 0) 19 (256 * S.1 13) i (fun _ => 0)) 19 (256 * S.1 13 + i) 0 = aNr (aN (aN (aN (aN (aN (aSc (aSc S 0 0) 13 ((S.1 13) + 1)) 14 (S.1 13) kb) 15 (S.1 13) 4) 16 (S.1 13) 0) 17 (S.1 13) 0) 18 (S.1 13) 0) 19 (256 * S.1 13) (i + 1) (fun _ => 0) := aNr_s (g := fun _ => 0)
              rw [e0]
              exact ih (i + 1) (by omega) (by omega)
        rw [← aNr_0 (S := (aN (aN (aN (aN (aN (aSc (aSc S 0 0) 13 ((S.1 13) + 1)) 14 (S.1 13) kb) 15 (S.1 13) 4) 16 (S.1 13) 0) 17 (S.1 13) 0) 18 (S.1 13) 0)) (k := 19) (base := 256 * S.1 13) (g := fun _ => 0)]
        exact lp 258 0 (by omega) (by omega)
      · refine g_iload hC dX10_table_36 0 rfl ?_
        refine g_iconst hC dX10_table_38 (v := nI 2) (by decide) ?_
        refine g_imulN (a := 4) (b := 2) hC dX10_table_39 ?_
        refine g_istore (lv' := [(4, .int (nI 8)), (0, .ref o), (1, .int (nI pj)), (2, .int (nI kb)), (3, .int (nI nj))]) hC dX10_table_40 (by decide) rfl ?_
        refine g_goto (tgt := 30) hC dX10_table_42 (by decide) ?_
        refine g_iload hC dX10_table_30 0 rfl ?_
        refine g_iload_n hC dX10_table_32 rfl 4 rfl ?_
        refine g_icmpN_ge (a := 8) (b := nj) (tgt := 45) hC dX10_table_33 (by decide) (by omega) (by omega) (fun h33_1 => ?_) (fun h33_1 => ?_)
        · refine g_aload_n hC dX10_table_45 rfl 1 rfl (Or.inr ⟨_, rfl⟩) ?_
          refine m_get_13 hC hin (by decide +kernel) dX10_table_46 ?_
          refine g_istore (lv' := [(5, .int (nI (S.1 13))), (4, .int (nI 8)), (0, .ref o), (1, .int (nI pj)), (2, .int (nI kb)), (3, .int (nI nj))]) hC dX10_table_49 (by decide) rfl ?_
          refine g_aload_n hC dX10_table_51 rfl 2 rfl (Or.inr ⟨_, rfl⟩) ?_
          refine g_dup hC dX10_table_52 rfl ?_
          refine m_get_13 hC hin (by decide +kernel) dX10_table_53 ?_
          refine g_iconst hC dX10_table_56 (v := nI 1) (by decide) ?_
          refine g_iaddN (a := S.1 13) (b := 1) hC dX10_table_57 ?_
          refine m_put_13 (x := (S.1 13) + 1) hC hin (by decide +kernel) dX10_table_58 ?_
          refine g_aload_n hC dX10_table_61 rfl 2 rfl (Or.inr ⟨_, rfl⟩) ?_
          refine m_get_14 hC hin (by decide +kernel) dX10_table_62 ?_
          refine g_iload hC dX10_table_65 0 rfl ?_
          refine g_iload_n hC dX10_table_67 rfl 4 rfl ?_
          refine m_astZ (j := S.1 13) (x := kb) hC hm (by omega) dX10_table_68 (by omega) ?_
          refine g_aload_n hC dX10_table_69 rfl 2 rfl (Or.inr ⟨_, rfl⟩) ?_
          refine m_get_15 hC hin (by decide +kernel) dX10_table_70 ?_
          refine g_iload hC dX10_table_73 0 rfl ?_
          refine g_iload hC dX10_table_75 1 rfl ?_
          refine m_astN (k := 15) (j := S.1 13) (x := 8) hC hm (by decide) rfl (fun _ => rfl) rfl dX10_table_77 (show _ < 520 from (by omega)) ?_
          refine g_aload_n hC dX10_table_78 rfl 2 rfl (Or.inr ⟨_, rfl⟩) ?_
          refine m_get_16 hC hin (by decide +kernel) dX10_table_79 ?_
          refine g_iload hC dX10_table_82 0 rfl ?_
          refine g_iconst hC dX10_table_84 (v := nI 0) (by decide) ?_
          refine m_astN (k := 16) (j := S.1 13) (x := 0) hC hm (by decide) rfl (fun _ => rfl) rfl dX10_table_85 (show _ < 520 from (by omega)) ?_
          refine g_aload_n hC dX10_table_86 rfl 2 rfl (Or.inr ⟨_, rfl⟩) ?_
          refine m_get_17 hC hin (by decide +kernel) dX10_table_87 ?_
          refine g_iload hC dX10_table_90 0 rfl ?_
          refine g_iconst hC dX10_table_92 (v := nI 0) (by decide) ?_
          refine m_astN (k := 17) (j := S.1 13) (x := 0) hC hm (by decide) rfl (fun _ => rfl) rfl dX10_table_93 (show _ < 520 from (by omega)) ?_
          refine g_aload_n hC dX10_table_94 rfl 2 rfl (Or.inr ⟨_, rfl⟩) ?_
          refine m_get_18 hC hin (by decide +kernel) dX10_table_95 ?_
          refine g_iload hC dX10_table_98 0 rfl ?_
          refine g_iconst hC dX10_table_100 (v := nI 0) (by decide) ?_
          refine m_astN (k := 18) (j := S.1 13) (x := 0) hC hm (by decide) rfl (fun _ => rfl) rfl dX10_table_101 (show _ < 520 from (by omega)) ?_
          refine g_iconst hC dX10_table_102 (v := nI 0) (by decide) ?_
          refine g_istore (lv' := [(6, .int (nI 0)), (5, .int (nI (S.1 13))), (4, .int (nI 8)), (0, .ref o), (1, .int (nI pj)), (2, .int (nI kb)), (3, .int (nI nj))]) hC dX10_table_103 (by decide) rfl ?_
          have hsz : szF nj = 8 := by unfold szF; (repeat' split) <;> omega
          have lp : ∀ (m : Nat) (i : Nat), 257 - i < m → (i ≤ 256) → gW X vwCl 7 (mL o ad) (mW o ad cy (aNr (aN (aN (aN (aN (aN (aSc (aSc S 0 0) 13 ((S.1 13) + 1)) 14 (S.1 13) kb) 15 (S.1 13) 8) 16 (S.1 13) 0) 17 (S.1 13) 0) 18 (S.1 13) 0) 19 (256 * S.1 13) i (fun _ => 0))) 0 0 105 [(6, .int (nI i)), (5, .int (nI (S.1 13))), (4, .int (nI 8)), (0, .ref o), (1, .int (nI pj)), (2, .int (nI kb)), (3, .int (nI nj))] [] := by
            intro m
            induction m with
            | zero => intros; omega
            | succ m ih =>
              intro i hm9 hi9
              refine g_iload hC dX10_table_105 0 rfl ?_
              refine g_sipush hC dX10_table_107 (v := nI 256) (by decide) ?_
              refine g_icmpN_ge (a := i) (b := 256) (tgt := 134) hC dX10_table_110 (by decide) (by omega) (by omega) (fun h110 => ?_) (fun h110 => ?_)
              · obtain rfl : i = 256 := by omega
                refine g_aload_n hC dX10_table_134 rfl 3 rfl (Or.inr ⟨_, rfl⟩) ?_
                refine g_iload_n hC dX10_table_135 rfl 4 rfl ?_
                refine g_iload_n hC dX10_table_136 rfl 5 rfl ?_
                refine g_ifN_eq (a := kb) (tgt := 144) hC dX10_table_137 (by decide) (by omega) (fun h137 => ?_) (fun h137 => ?_)
                · refine g_iconst hC dX10_table_144 (v := nI 4) (by decide) ?_
                  refine g_iload hC dX10_table_145 1 rfl ?_
                  refine g_Vv (As := [.int (nI pj), .int (nI 4), .int (nI (S.1 13))]) (st := []) hC 3 dX10_table_147 rfl mL_o mW_o gX10_table_X10_hold rfl (by decide +kernel) ⟨Nat.le_of_ble_eq_true rfl, Nat.le_of_ble_eq_true rfl⟩ rfl (Nat.le_of_ble_eq_true rfl) ⟨Nat.le_of_ble_eq_true rfl, Nat.le_of_ble_eq_true rfl⟩ (c2 := 0) (s2 := 0) rfl rfl (c_hold hk hm pj 4 (S.1 13) (by omega)) ?_
                  refine g_iload hC dX10_table_150 2 rfl ?_
                  exact g_iret hC hR dX10_table_152 (pE_i (by simp only [s_table, hpl_p, hpl_n, hsz]; (repeat' split) <;> first | with_reducible rfl | contradiction | (exfalso; omega) | (rw [bI_t (by first | assumption | omega)]; rfl) | (rw [bI_f (by first | assumption | omega)]; rfl) | (exfalso; rename_i hz; exact absurd hz (by decide)) | (exfalso; rename_i hz; first | exact absurd hz.1 (by assumption) | exact absurd hz.2 (by assumption)) | (exfalso; simp only [Int32.lt_iff_toInt_lt, Int32.le_iff_toInt_le] at *; omega) | (exfalso; simp_all; done) | (simp_all; done) | rfl))
                · refine g_iconst hC dX10_table_140 (v := nI 5) (by decide) ?_
                  refine g_goto (tgt := 145) hC dX10_table_141 (by decide) ?_
                  refine g_iload hC dX10_table_145 1 rfl ?_
                  refine g_Vv (As := [.int (nI pj), .int (nI 5), .int (nI (S.1 13))]) (st := []) hC 3 dX10_table_147 rfl mL_o mW_o gX10_table_X10_hold rfl (by decide +kernel) ⟨Nat.le_of_ble_eq_true rfl, Nat.le_of_ble_eq_true rfl⟩ rfl (Nat.le_of_ble_eq_true rfl) ⟨Nat.le_of_ble_eq_true rfl, Nat.le_of_ble_eq_true rfl⟩ (c2 := 0) (s2 := 0) rfl rfl (c_hold hk hm pj 5 (S.1 13) (by omega)) ?_
                  refine g_iload hC dX10_table_150 2 rfl ?_
                  exact g_iret hC hR dX10_table_152 (pE_i (by simp only [s_table, hpl_p, hpl_n, hsz]; (repeat' split) <;> first | with_reducible rfl | contradiction | (exfalso; omega) | (rw [bI_t (by first | assumption | omega)]; rfl) | (rw [bI_f (by first | assumption | omega)]; rfl) | (exfalso; rename_i hz; exact absurd hz (by decide)) | (exfalso; rename_i hz; first | exact absurd hz.1 (by assumption) | exact absurd hz.2 (by assumption)) | (exfalso; simp only [Int32.lt_iff_toInt_lt, Int32.le_iff_toInt_le] at *; omega) | (exfalso; simp_all; done) | (simp_all; done) | rfl))
              · refine g_aload_n hC dX10_table_113 rfl 3 rfl (Or.inr ⟨_, rfl⟩) ?_
                refine m_get_19 hC hin (by decide +kernel) dX10_table_114 ?_
                refine g_sipush hC dX10_table_117 (v := nI 256) (by decide) ?_
                refine g_iload hC dX10_table_120 1 rfl ?_
                refine g_imulN (a := 256) (b := S.1 13) hC dX10_table_122 ?_
                refine g_iload hC dX10_table_123 0 rfl ?_
                refine g_iaddN (a := 256 * (S.1 13)) (b := i) hC dX10_table_125 ?_
                refine g_iconst hC dX10_table_126 (v := nI 0) (by decide) ?_
                refine m_astN (k := 19) (j := (256 * (S.1 13)) + i) (x := 0) hC hm (by decide) rfl (fun _ => rfl) rfl dX10_table_127 (show _ < 133120 from (by omega)) ?_
                refine g_iincN (n := 1) (a := i) (lv' := [(6, .int (nI (i + 1))), (5, .int (nI (S.1 13))), (4, .int (nI 8)), (0, .ref o), (1, .int (nI pj)), (2, .int (nI kb)), (3, .int (nI nj))]) hC dX10_table_128 0 rfl (by decide) rfl ?_
                refine g_goto (tgt := 105) hC dX10_table_131 (by decide) ?_
                have e0 : aN (aNr (aN (aN (aN (aN (aN (aSc (aSc S 0 0) 13 ((S.1 13) + 1)) 14 (S.1 13) kb) 15 (S.1 13) 8) 16 (S.1 13) 0) 17 (S.1 13) 0) 18 (S.1 13) 0) 19 (256 * S.1 13) i (fun _ => 0)) 19 (256 * S.1 13 + i) 0 = aNr (aN (aN (aN (aN (aN (aSc (aSc S 0 0) 13 ((S.1 13) + 1)) 14 (S.1 13) kb) 15 (S.1 13) 8) 16 (S.1 13) 0) 17 (S.1 13) 0) 18 (S.1 13) 0) 19 (256 * S.1 13) (i + 1) (fun _ => 0) := aNr_s (g := fun _ => 0)
                rw [e0]
                exact ih (i + 1) (by omega) (by omega)
          rw [← aNr_0 (S := (aN (aN (aN (aN (aN (aSc (aSc S 0 0) 13 ((S.1 13) + 1)) 14 (S.1 13) kb) 15 (S.1 13) 8) 16 (S.1 13) 0) 17 (S.1 13) 0) 18 (S.1 13) 0)) (k := 19) (base := 256 * S.1 13) (g := fun _ => 0)]
          exact lp 258 0 (by omega) (by omega)
        · refine g_iload hC dX10_table_36 0 rfl ?_
          refine g_iconst hC dX10_table_38 (v := nI 2) (by decide) ?_
          refine g_imulN (a := 8) (b := 2) hC dX10_table_39 ?_
          refine g_istore (lv' := [(4, .int (nI 16)), (0, .ref o), (1, .int (nI pj)), (2, .int (nI kb)), (3, .int (nI nj))]) hC dX10_table_40 (by decide) rfl ?_
          refine g_goto (tgt := 30) hC dX10_table_42 (by decide) ?_
          refine g_iload hC dX10_table_30 0 rfl ?_
          refine g_iload_n hC dX10_table_32 rfl 4 rfl ?_
          refine g_icmpN_ge (a := 16) (b := nj) (tgt := 45) hC dX10_table_33 (by decide) (by omega) (by omega) (fun h33_2 => ?_) (fun h33_2 => ?_)
          · refine g_aload_n hC dX10_table_45 rfl 1 rfl (Or.inr ⟨_, rfl⟩) ?_
            refine m_get_13 hC hin (by decide +kernel) dX10_table_46 ?_
            refine g_istore (lv' := [(5, .int (nI (S.1 13))), (4, .int (nI 16)), (0, .ref o), (1, .int (nI pj)), (2, .int (nI kb)), (3, .int (nI nj))]) hC dX10_table_49 (by decide) rfl ?_
            refine g_aload_n hC dX10_table_51 rfl 2 rfl (Or.inr ⟨_, rfl⟩) ?_
            refine g_dup hC dX10_table_52 rfl ?_
            refine m_get_13 hC hin (by decide +kernel) dX10_table_53 ?_
            refine g_iconst hC dX10_table_56 (v := nI 1) (by decide) ?_
            refine g_iaddN (a := S.1 13) (b := 1) hC dX10_table_57 ?_
            refine m_put_13 (x := (S.1 13) + 1) hC hin (by decide +kernel) dX10_table_58 ?_
            refine g_aload_n hC dX10_table_61 rfl 2 rfl (Or.inr ⟨_, rfl⟩) ?_
            refine m_get_14 hC hin (by decide +kernel) dX10_table_62 ?_
            refine g_iload hC dX10_table_65 0 rfl ?_
            refine g_iload_n hC dX10_table_67 rfl 4 rfl ?_
            refine m_astZ (j := S.1 13) (x := kb) hC hm (by omega) dX10_table_68 (by omega) ?_
            refine g_aload_n hC dX10_table_69 rfl 2 rfl (Or.inr ⟨_, rfl⟩) ?_
            refine m_get_15 hC hin (by decide +kernel) dX10_table_70 ?_
            refine g_iload hC dX10_table_73 0 rfl ?_
            refine g_iload hC dX10_table_75 1 rfl ?_
            refine m_astN (k := 15) (j := S.1 13) (x := 16) hC hm (by decide) rfl (fun _ => rfl) rfl dX10_table_77 (show _ < 520 from (by omega)) ?_
            refine g_aload_n hC dX10_table_78 rfl 2 rfl (Or.inr ⟨_, rfl⟩) ?_
            refine m_get_16 hC hin (by decide +kernel) dX10_table_79 ?_
            refine g_iload hC dX10_table_82 0 rfl ?_
            refine g_iconst hC dX10_table_84 (v := nI 0) (by decide) ?_
            refine m_astN (k := 16) (j := S.1 13) (x := 0) hC hm (by decide) rfl (fun _ => rfl) rfl dX10_table_85 (show _ < 520 from (by omega)) ?_
            refine g_aload_n hC dX10_table_86 rfl 2 rfl (Or.inr ⟨_, rfl⟩) ?_
            refine m_get_17 hC hin (by decide +kernel) dX10_table_87 ?_
            refine g_iload hC dX10_table_90 0 rfl ?_
            refine g_iconst hC dX10_table_92 (v := nI 0) (by decide) ?_
            refine m_astN (k := 17) (j := S.1 13) (x := 0) hC hm (by decide) rfl (fun _ => rfl) rfl dX10_table_93 (show _ < 520 from (by omega)) ?_
            refine g_aload_n hC dX10_table_94 rfl 2 rfl (Or.inr ⟨_, rfl⟩) ?_
            refine m_get_18 hC hin (by decide +kernel) dX10_table_95 ?_
            refine g_iload hC dX10_table_98 0 rfl ?_
            refine g_iconst hC dX10_table_100 (v := nI 0) (by decide) ?_
            refine m_astN (k := 18) (j := S.1 13) (x := 0) hC hm (by decide) rfl (fun _ => rfl) rfl dX10_table_101 (show _ < 520 from (by omega)) ?_
            refine g_iconst hC dX10_table_102 (v := nI 0) (by decide) ?_
            refine g_istore (lv' := [(6, .int (nI 0)), (5, .int (nI (S.1 13))), (4, .int (nI 16)), (0, .ref o), (1, .int (nI pj)), (2, .int (nI kb)), (3, .int (nI nj))]) hC dX10_table_103 (by decide) rfl ?_
            have hsz : szF nj = 16 := by unfold szF; (repeat' split) <;> omega
            have lp : ∀ (m : Nat) (i : Nat), 257 - i < m → (i ≤ 256) → gW X vwCl 7 (mL o ad) (mW o ad cy (aNr (aN (aN (aN (aN (aN (aSc (aSc S 0 0) 13 ((S.1 13) + 1)) 14 (S.1 13) kb) 15 (S.1 13) 16) 16 (S.1 13) 0) 17 (S.1 13) 0) 18 (S.1 13) 0) 19 (256 * S.1 13) i (fun _ => 0))) 0 0 105 [(6, .int (nI i)), (5, .int (nI (S.1 13))), (4, .int (nI 16)), (0, .ref o), (1, .int (nI pj)), (2, .int (nI kb)), (3, .int (nI nj))] [] := by
              intro m
              induction m with
              | zero => intros; omega
              | succ m ih =>
                intro i hm9 hi9
                refine g_iload hC dX10_table_105 0 rfl ?_
                refine g_sipush hC dX10_table_107 (v := nI 256) (by decide) ?_
                refine g_icmpN_ge (a := i) (b := 256) (tgt := 134) hC dX10_table_110 (by decide) (by omega) (by omega) (fun h110 => ?_) (fun h110 => ?_)
                · obtain rfl : i = 256 := by omega
                  refine g_aload_n hC dX10_table_134 rfl 3 rfl (Or.inr ⟨_, rfl⟩) ?_
                  refine g_iload_n hC dX10_table_135 rfl 4 rfl ?_
                  refine g_iload_n hC dX10_table_136 rfl 5 rfl ?_
                  refine g_ifN_eq (a := kb) (tgt := 144) hC dX10_table_137 (by decide) (by omega) (fun h137 => ?_) (fun h137 => ?_)
                  · refine g_iconst hC dX10_table_144 (v := nI 4) (by decide) ?_
                    refine g_iload hC dX10_table_145 1 rfl ?_
                    refine g_Vv (As := [.int (nI pj), .int (nI 4), .int (nI (S.1 13))]) (st := []) hC 3 dX10_table_147 rfl mL_o mW_o gX10_table_X10_hold rfl (by decide +kernel) ⟨Nat.le_of_ble_eq_true rfl, Nat.le_of_ble_eq_true rfl⟩ rfl (Nat.le_of_ble_eq_true rfl) ⟨Nat.le_of_ble_eq_true rfl, Nat.le_of_ble_eq_true rfl⟩ (c2 := 0) (s2 := 0) rfl rfl (c_hold hk hm pj 4 (S.1 13) (by omega)) ?_
                    refine g_iload hC dX10_table_150 2 rfl ?_
                    exact g_iret hC hR dX10_table_152 (pE_i (by simp only [s_table, hpl_p, hpl_n, hsz]; (repeat' split) <;> first | with_reducible rfl | contradiction | (exfalso; omega) | (rw [bI_t (by first | assumption | omega)]; rfl) | (rw [bI_f (by first | assumption | omega)]; rfl) | (exfalso; rename_i hz; exact absurd hz (by decide)) | (exfalso; rename_i hz; first | exact absurd hz.1 (by assumption) | exact absurd hz.2 (by assumption)) | (exfalso; simp only [Int32.lt_iff_toInt_lt, Int32.le_iff_toInt_le] at *; omega) | (exfalso; simp_all; done) | (simp_all; done) | rfl))
                  · refine g_iconst hC dX10_table_140 (v := nI 5) (by decide) ?_
                    refine g_goto (tgt := 145) hC dX10_table_141 (by decide) ?_
                    refine g_iload hC dX10_table_145 1 rfl ?_
                    refine g_Vv (As := [.int (nI pj), .int (nI 5), .int (nI (S.1 13))]) (st := []) hC 3 dX10_table_147 rfl mL_o mW_o gX10_table_X10_hold rfl (by decide +kernel) ⟨Nat.le_of_ble_eq_true rfl, Nat.le_of_ble_eq_true rfl⟩ rfl (Nat.le_of_ble_eq_true rfl) ⟨Nat.le_of_ble_eq_true rfl, Nat.le_of_ble_eq_true rfl⟩ (c2 := 0) (s2 := 0) rfl rfl (c_hold hk hm pj 5 (S.1 13) (by omega)) ?_
                    refine g_iload hC dX10_table_150 2 rfl ?_
                    exact g_iret hC hR dX10_table_152 (pE_i (by simp only [s_table, hpl_p, hpl_n, hsz]; (repeat' split) <;> first | with_reducible rfl | contradiction | (exfalso; omega) | (rw [bI_t (by first | assumption | omega)]; rfl) | (rw [bI_f (by first | assumption | omega)]; rfl) | (exfalso; rename_i hz; exact absurd hz (by decide)) | (exfalso; rename_i hz; first | exact absurd hz.1 (by assumption) | exact absurd hz.2 (by assumption)) | (exfalso; simp only [Int32.lt_iff_toInt_lt, Int32.le_iff_toInt_le] at *; omega) | (exfalso; simp_all; done) | (simp_all; done) | rfl))
                · refine g_aload_n hC dX10_table_113 rfl 3 rfl (Or.inr ⟨_, rfl⟩) ?_
                  refine m_get_19 hC hin (by decide +kernel) dX10_table_114 ?_
                  refine g_sipush hC dX10_table_117 (v := nI 256) (by decide) ?_
                  refine g_iload hC dX10_table_120 1 rfl ?_
                  refine g_imulN (a := 256) (b := S.1 13) hC dX10_table_122 ?_
                  refine g_iload hC dX10_table_123 0 rfl ?_
                  refine g_iaddN (a := 256 * (S.1 13)) (b := i) hC dX10_table_125 ?_
                  refine g_iconst hC dX10_table_126 (v := nI 0) (by decide) ?_
                  refine m_astN (k := 19) (j := (256 * (S.1 13)) + i) (x := 0) hC hm (by decide) rfl (fun _ => rfl) rfl dX10_table_127 (show _ < 133120 from (by omega)) ?_
                  refine g_iincN (n := 1) (a := i) (lv' := [(6, .int (nI (i + 1))), (5, .int (nI (S.1 13))), (4, .int (nI 16)), (0, .ref o), (1, .int (nI pj)), (2, .int (nI kb)), (3, .int (nI nj))]) hC dX10_table_128 0 rfl (by decide) rfl ?_
                  refine g_goto (tgt := 105) hC dX10_table_131 (by decide) ?_
                  have e0 : aN (aNr (aN (aN (aN (aN (aN (aSc (aSc S 0 0) 13 ((S.1 13) + 1)) 14 (S.1 13) kb) 15 (S.1 13) 16) 16 (S.1 13) 0) 17 (S.1 13) 0) 18 (S.1 13) 0) 19 (256 * S.1 13) i (fun _ => 0)) 19 (256 * S.1 13 + i) 0 = aNr (aN (aN (aN (aN (aN (aSc (aSc S 0 0) 13 ((S.1 13) + 1)) 14 (S.1 13) kb) 15 (S.1 13) 16) 16 (S.1 13) 0) 17 (S.1 13) 0) 18 (S.1 13) 0) 19 (256 * S.1 13) (i + 1) (fun _ => 0) := aNr_s (g := fun _ => 0)
                  rw [e0]
                  exact ih (i + 1) (by omega) (by omega)
            rw [← aNr_0 (S := (aN (aN (aN (aN (aN (aSc (aSc S 0 0) 13 ((S.1 13) + 1)) 14 (S.1 13) kb) 15 (S.1 13) 16) 16 (S.1 13) 0) 17 (S.1 13) 0) 18 (S.1 13) 0)) (k := 19) (base := 256 * S.1 13) (g := fun _ => 0)]
            exact lp 258 0 (by omega) (by omega)
          · refine g_iload hC dX10_table_36 0 rfl ?_
            refine g_iconst hC dX10_table_38 (v := nI 2) (by decide) ?_
            refine g_imulN (a := 16) (b := 2) hC dX10_table_39 ?_
            refine g_istore (lv' := [(4, .int (nI 32)), (0, .ref o), (1, .int (nI pj)), (2, .int (nI kb)), (3, .int (nI nj))]) hC dX10_table_40 (by decide) rfl ?_
            refine g_goto (tgt := 30) hC dX10_table_42 (by decide) ?_
            refine g_iload hC dX10_table_30 0 rfl ?_
            refine g_iload_n hC dX10_table_32 rfl 4 rfl ?_
            refine g_icmpN_ge (a := 32) (b := nj) (tgt := 45) hC dX10_table_33 (by decide) (by omega) (by omega) (fun h33_3 => ?_) (fun h33_3 => ?_)
            · refine g_aload_n hC dX10_table_45 rfl 1 rfl (Or.inr ⟨_, rfl⟩) ?_
              refine m_get_13 hC hin (by decide +kernel) dX10_table_46 ?_
              refine g_istore (lv' := [(5, .int (nI (S.1 13))), (4, .int (nI 32)), (0, .ref o), (1, .int (nI pj)), (2, .int (nI kb)), (3, .int (nI nj))]) hC dX10_table_49 (by decide) rfl ?_
              refine g_aload_n hC dX10_table_51 rfl 2 rfl (Or.inr ⟨_, rfl⟩) ?_
              refine g_dup hC dX10_table_52 rfl ?_
              refine m_get_13 hC hin (by decide +kernel) dX10_table_53 ?_
              refine g_iconst hC dX10_table_56 (v := nI 1) (by decide) ?_
              refine g_iaddN (a := S.1 13) (b := 1) hC dX10_table_57 ?_
              refine m_put_13 (x := (S.1 13) + 1) hC hin (by decide +kernel) dX10_table_58 ?_
              refine g_aload_n hC dX10_table_61 rfl 2 rfl (Or.inr ⟨_, rfl⟩) ?_
              refine m_get_14 hC hin (by decide +kernel) dX10_table_62 ?_
              refine g_iload hC dX10_table_65 0 rfl ?_
              refine g_iload_n hC dX10_table_67 rfl 4 rfl ?_
              refine m_astZ (j := S.1 13) (x := kb) hC hm (by omega) dX10_table_68 (by omega) ?_
              refine g_aload_n hC dX10_table_69 rfl 2 rfl (Or.inr ⟨_, rfl⟩) ?_
              refine m_get_15 hC hin (by decide +kernel) dX10_table_70 ?_
              refine g_iload hC dX10_table_73 0 rfl ?_
              refine g_iload hC dX10_table_75 1 rfl ?_
              refine m_astN (k := 15) (j := S.1 13) (x := 32) hC hm (by decide) rfl (fun _ => rfl) rfl dX10_table_77 (show _ < 520 from (by omega)) ?_
              refine g_aload_n hC dX10_table_78 rfl 2 rfl (Or.inr ⟨_, rfl⟩) ?_
              refine m_get_16 hC hin (by decide +kernel) dX10_table_79 ?_
              refine g_iload hC dX10_table_82 0 rfl ?_
              refine g_iconst hC dX10_table_84 (v := nI 0) (by decide) ?_
              refine m_astN (k := 16) (j := S.1 13) (x := 0) hC hm (by decide) rfl (fun _ => rfl) rfl dX10_table_85 (show _ < 520 from (by omega)) ?_
              refine g_aload_n hC dX10_table_86 rfl 2 rfl (Or.inr ⟨_, rfl⟩) ?_
              refine m_get_17 hC hin (by decide +kernel) dX10_table_87 ?_
              refine g_iload hC dX10_table_90 0 rfl ?_
              refine g_iconst hC dX10_table_92 (v := nI 0) (by decide) ?_
              refine m_astN (k := 17) (j := S.1 13) (x := 0) hC hm (by decide) rfl (fun _ => rfl) rfl dX10_table_93 (show _ < 520 from (by omega)) ?_
              refine g_aload_n hC dX10_table_94 rfl 2 rfl (Or.inr ⟨_, rfl⟩) ?_
              refine m_get_18 hC hin (by decide +kernel) dX10_table_95 ?_
              refine g_iload hC dX10_table_98 0 rfl ?_
              refine g_iconst hC dX10_table_100 (v := nI 0) (by decide) ?_
              refine m_astN (k := 18) (j := S.1 13) (x := 0) hC hm (by decide) rfl (fun _ => rfl) rfl dX10_table_101 (show _ < 520 from (by omega)) ?_
              refine g_iconst hC dX10_table_102 (v := nI 0) (by decide) ?_
              refine g_istore (lv' := [(6, .int (nI 0)), (5, .int (nI (S.1 13))), (4, .int (nI 32)), (0, .ref o), (1, .int (nI pj)), (2, .int (nI kb)), (3, .int (nI nj))]) hC dX10_table_103 (by decide) rfl ?_
              have hsz : szF nj = 32 := by unfold szF; (repeat' split) <;> omega
              have lp : ∀ (m : Nat) (i : Nat), 257 - i < m → (i ≤ 256) → gW X vwCl 7 (mL o ad) (mW o ad cy (aNr (aN (aN (aN (aN (aN (aSc (aSc S 0 0) 13 ((S.1 13) + 1)) 14 (S.1 13) kb) 15 (S.1 13) 32) 16 (S.1 13) 0) 17 (S.1 13) 0) 18 (S.1 13) 0) 19 (256 * S.1 13) i (fun _ => 0))) 0 0 105 [(6, .int (nI i)), (5, .int (nI (S.1 13))), (4, .int (nI 32)), (0, .ref o), (1, .int (nI pj)), (2, .int (nI kb)), (3, .int (nI nj))] [] := by
                intro m
                induction m with
                | zero => intros; omega
                | succ m ih =>
                  intro i hm9 hi9
                  refine g_iload hC dX10_table_105 0 rfl ?_
                  refine g_sipush hC dX10_table_107 (v := nI 256) (by decide) ?_
                  refine g_icmpN_ge (a := i) (b := 256) (tgt := 134) hC dX10_table_110 (by decide) (by omega) (by omega) (fun h110 => ?_) (fun h110 => ?_)
                  · obtain rfl : i = 256 := by omega
                    refine g_aload_n hC dX10_table_134 rfl 3 rfl (Or.inr ⟨_, rfl⟩) ?_
                    refine g_iload_n hC dX10_table_135 rfl 4 rfl ?_
                    refine g_iload_n hC dX10_table_136 rfl 5 rfl ?_
                    refine g_ifN_eq (a := kb) (tgt := 144) hC dX10_table_137 (by decide) (by omega) (fun h137 => ?_) (fun h137 => ?_)
                    · refine g_iconst hC dX10_table_144 (v := nI 4) (by decide) ?_
                      refine g_iload hC dX10_table_145 1 rfl ?_
                      refine g_Vv (As := [.int (nI pj), .int (nI 4), .int (nI (S.1 13))]) (st := []) hC 3 dX10_table_147 rfl mL_o mW_o gX10_table_X10_hold rfl (by decide +kernel) ⟨Nat.le_of_ble_eq_true rfl, Nat.le_of_ble_eq_true rfl⟩ rfl (Nat.le_of_ble_eq_true rfl) ⟨Nat.le_of_ble_eq_true rfl, Nat.le_of_ble_eq_true rfl⟩ (c2 := 0) (s2 := 0) rfl rfl (c_hold hk hm pj 4 (S.1 13) (by omega)) ?_
                      refine g_iload hC dX10_table_150 2 rfl ?_
                      exact g_iret hC hR dX10_table_152 (pE_i (by simp only [s_table, hpl_p, hpl_n, hsz]; (repeat' split) <;> first | with_reducible rfl | contradiction | (exfalso; omega) | (rw [bI_t (by first | assumption | omega)]; rfl) | (rw [bI_f (by first | assumption | omega)]; rfl) | (exfalso; rename_i hz; exact absurd hz (by decide)) | (exfalso; rename_i hz; first | exact absurd hz.1 (by assumption) | exact absurd hz.2 (by assumption)) | (exfalso; simp only [Int32.lt_iff_toInt_lt, Int32.le_iff_toInt_le] at *; omega) | (exfalso; simp_all; done) | (simp_all; done) | rfl))
                    · refine g_iconst hC dX10_table_140 (v := nI 5) (by decide) ?_
                      refine g_goto (tgt := 145) hC dX10_table_141 (by decide) ?_
                      refine g_iload hC dX10_table_145 1 rfl ?_
                      refine g_Vv (As := [.int (nI pj), .int (nI 5), .int (nI (S.1 13))]) (st := []) hC 3 dX10_table_147 rfl mL_o mW_o gX10_table_X10_hold rfl (by decide +kernel) ⟨Nat.le_of_ble_eq_true rfl, Nat.le_of_ble_eq_true rfl⟩ rfl (Nat.le_of_ble_eq_true rfl) ⟨Nat.le_of_ble_eq_true rfl, Nat.le_of_ble_eq_true rfl⟩ (c2 := 0) (s2 := 0) rfl rfl (c_hold hk hm pj 5 (S.1 13) (by omega)) ?_
                      refine g_iload hC dX10_table_150 2 rfl ?_
                      exact g_iret hC hR dX10_table_152 (pE_i (by simp only [s_table, hpl_p, hpl_n, hsz]; (repeat' split) <;> first | with_reducible rfl | contradiction | (exfalso; omega) | (rw [bI_t (by first | assumption | omega)]; rfl) | (rw [bI_f (by first | assumption | omega)]; rfl) | (exfalso; rename_i hz; exact absurd hz (by decide)) | (exfalso; rename_i hz; first | exact absurd hz.1 (by assumption) | exact absurd hz.2 (by assumption)) | (exfalso; simp only [Int32.lt_iff_toInt_lt, Int32.le_iff_toInt_le] at *; omega) | (exfalso; simp_all; done) | (simp_all; done) | rfl))
                  · refine g_aload_n hC dX10_table_113 rfl 3 rfl (Or.inr ⟨_, rfl⟩) ?_
                    refine m_get_19 hC hin (by decide +kernel) dX10_table_114 ?_
                    refine g_sipush hC dX10_table_117 (v := nI 256) (by decide) ?_
                    refine g_iload hC dX10_table_120 1 rfl ?_
                    refine g_imulN (a := 256) (b := S.1 13) hC dX10_table_122 ?_
                    refine g_iload hC dX10_table_123 0 rfl ?_
                    refine g_iaddN (a := 256 * (S.1 13)) (b := i) hC dX10_table_125 ?_
                    refine g_iconst hC dX10_table_126 (v := nI 0) (by decide) ?_
                    refine m_astN (k := 19) (j := (256 * (S.1 13)) + i) (x := 0) hC hm (by decide) rfl (fun _ => rfl) rfl dX10_table_127 (show _ < 133120 from (by omega)) ?_
                    refine g_iincN (n := 1) (a := i) (lv' := [(6, .int (nI (i + 1))), (5, .int (nI (S.1 13))), (4, .int (nI 32)), (0, .ref o), (1, .int (nI pj)), (2, .int (nI kb)), (3, .int (nI nj))]) hC dX10_table_128 0 rfl (by decide) rfl ?_
                    refine g_goto (tgt := 105) hC dX10_table_131 (by decide) ?_
                    have e0 : aN (aNr (aN (aN (aN (aN (aN (aSc (aSc S 0 0) 13 ((S.1 13) + 1)) 14 (S.1 13) kb) 15 (S.1 13) 32) 16 (S.1 13) 0) 17 (S.1 13) 0) 18 (S.1 13) 0) 19 (256 * S.1 13) i (fun _ => 0)) 19 (256 * S.1 13 + i) 0 = aNr (aN (aN (aN (aN (aN (aSc (aSc S 0 0) 13 ((S.1 13) + 1)) 14 (S.1 13) kb) 15 (S.1 13) 32) 16 (S.1 13) 0) 17 (S.1 13) 0) 18 (S.1 13) 0) 19 (256 * S.1 13) (i + 1) (fun _ => 0) := aNr_s (g := fun _ => 0)
                    rw [e0]
                    exact ih (i + 1) (by omega) (by omega)
              rw [← aNr_0 (S := (aN (aN (aN (aN (aN (aSc (aSc S 0 0) 13 ((S.1 13) + 1)) 14 (S.1 13) kb) 15 (S.1 13) 32) 16 (S.1 13) 0) 17 (S.1 13) 0) 18 (S.1 13) 0)) (k := 19) (base := 256 * S.1 13) (g := fun _ => 0)]
              exact lp 258 0 (by omega) (by omega)
            · refine g_iload hC dX10_table_36 0 rfl ?_
              refine g_iconst hC dX10_table_38 (v := nI 2) (by decide) ?_
              refine g_imulN (a := 32) (b := 2) hC dX10_table_39 ?_
              refine g_istore (lv' := [(4, .int (nI 64)), (0, .ref o), (1, .int (nI pj)), (2, .int (nI kb)), (3, .int (nI nj))]) hC dX10_table_40 (by decide) rfl ?_
              refine g_goto (tgt := 30) hC dX10_table_42 (by decide) ?_
              refine g_iload hC dX10_table_30 0 rfl ?_
              refine g_iload_n hC dX10_table_32 rfl 4 rfl ?_
              refine g_icmpN_ge (a := 64) (b := nj) (tgt := 45) hC dX10_table_33 (by decide) (by omega) (by omega) (fun h33_4 => ?_) (fun h33_4 => ?_)
              · refine g_aload_n hC dX10_table_45 rfl 1 rfl (Or.inr ⟨_, rfl⟩) ?_
                refine m_get_13 hC hin (by decide +kernel) dX10_table_46 ?_
                refine g_istore (lv' := [(5, .int (nI (S.1 13))), (4, .int (nI 64)), (0, .ref o), (1, .int (nI pj)), (2, .int (nI kb)), (3, .int (nI nj))]) hC dX10_table_49 (by decide) rfl ?_
                refine g_aload_n hC dX10_table_51 rfl 2 rfl (Or.inr ⟨_, rfl⟩) ?_
                refine g_dup hC dX10_table_52 rfl ?_
                refine m_get_13 hC hin (by decide +kernel) dX10_table_53 ?_
                refine g_iconst hC dX10_table_56 (v := nI 1) (by decide) ?_
                refine g_iaddN (a := S.1 13) (b := 1) hC dX10_table_57 ?_
                refine m_put_13 (x := (S.1 13) + 1) hC hin (by decide +kernel) dX10_table_58 ?_
                refine g_aload_n hC dX10_table_61 rfl 2 rfl (Or.inr ⟨_, rfl⟩) ?_
                refine m_get_14 hC hin (by decide +kernel) dX10_table_62 ?_
                refine g_iload hC dX10_table_65 0 rfl ?_
                refine g_iload_n hC dX10_table_67 rfl 4 rfl ?_
                refine m_astZ (j := S.1 13) (x := kb) hC hm (by omega) dX10_table_68 (by omega) ?_
                refine g_aload_n hC dX10_table_69 rfl 2 rfl (Or.inr ⟨_, rfl⟩) ?_
                refine m_get_15 hC hin (by decide +kernel) dX10_table_70 ?_
                refine g_iload hC dX10_table_73 0 rfl ?_
                refine g_iload hC dX10_table_75 1 rfl ?_
                refine m_astN (k := 15) (j := S.1 13) (x := 64) hC hm (by decide) rfl (fun _ => rfl) rfl dX10_table_77 (show _ < 520 from (by omega)) ?_
                refine g_aload_n hC dX10_table_78 rfl 2 rfl (Or.inr ⟨_, rfl⟩) ?_
                refine m_get_16 hC hin (by decide +kernel) dX10_table_79 ?_
                refine g_iload hC dX10_table_82 0 rfl ?_
                refine g_iconst hC dX10_table_84 (v := nI 0) (by decide) ?_
                refine m_astN (k := 16) (j := S.1 13) (x := 0) hC hm (by decide) rfl (fun _ => rfl) rfl dX10_table_85 (show _ < 520 from (by omega)) ?_
                refine g_aload_n hC dX10_table_86 rfl 2 rfl (Or.inr ⟨_, rfl⟩) ?_
                refine m_get_17 hC hin (by decide +kernel) dX10_table_87 ?_
                refine g_iload hC dX10_table_90 0 rfl ?_
                refine g_iconst hC dX10_table_92 (v := nI 0) (by decide) ?_
                refine m_astN (k := 17) (j := S.1 13) (x := 0) hC hm (by decide) rfl (fun _ => rfl) rfl dX10_table_93 (show _ < 520 from (by omega)) ?_
                refine g_aload_n hC dX10_table_94 rfl 2 rfl (Or.inr ⟨_, rfl⟩) ?_
                refine m_get_18 hC hin (by decide +kernel) dX10_table_95 ?_
                refine g_iload hC dX10_table_98 0 rfl ?_
                refine g_iconst hC dX10_table_100 (v := nI 0) (by decide) ?_
                refine m_astN (k := 18) (j := S.1 13) (x := 0) hC hm (by decide) rfl (fun _ => rfl) rfl dX10_table_101 (show _ < 520 from (by omega)) ?_
                refine g_iconst hC dX10_table_102 (v := nI 0) (by decide) ?_
                refine g_istore (lv' := [(6, .int (nI 0)), (5, .int (nI (S.1 13))), (4, .int (nI 64)), (0, .ref o), (1, .int (nI pj)), (2, .int (nI kb)), (3, .int (nI nj))]) hC dX10_table_103 (by decide) rfl ?_
                have hsz : szF nj = 64 := by unfold szF; (repeat' split) <;> omega
                have lp : ∀ (m : Nat) (i : Nat), 257 - i < m → (i ≤ 256) → gW X vwCl 7 (mL o ad) (mW o ad cy (aNr (aN (aN (aN (aN (aN (aSc (aSc S 0 0) 13 ((S.1 13) + 1)) 14 (S.1 13) kb) 15 (S.1 13) 64) 16 (S.1 13) 0) 17 (S.1 13) 0) 18 (S.1 13) 0) 19 (256 * S.1 13) i (fun _ => 0))) 0 0 105 [(6, .int (nI i)), (5, .int (nI (S.1 13))), (4, .int (nI 64)), (0, .ref o), (1, .int (nI pj)), (2, .int (nI kb)), (3, .int (nI nj))] [] := by
                  intro m
                  induction m with
                  | zero => intros; omega
                  | succ m ih =>
                    intro i hm9 hi9
                    refine g_iload hC dX10_table_105 0 rfl ?_
                    refine g_sipush hC dX10_table_107 (v := nI 256) (by decide) ?_
                    refine g_icmpN_ge (a := i) (b := 256) (tgt := 134) hC dX10_table_110 (by decide) (by omega) (by omega) (fun h110 => ?_) (fun h110 => ?_)
                    · obtain rfl : i = 256 := by omega
                      refine g_aload_n hC dX10_table_134 rfl 3 rfl (Or.inr ⟨_, rfl⟩) ?_
                      refine g_iload_n hC dX10_table_135 rfl 4 rfl ?_
                      refine g_iload_n hC dX10_table_136 rfl 5 rfl ?_
                      refine g_ifN_eq (a := kb) (tgt := 144) hC dX10_table_137 (by decide) (by omega) (fun h137 => ?_) (fun h137 => ?_)
                      · refine g_iconst hC dX10_table_144 (v := nI 4) (by decide) ?_
                        refine g_iload hC dX10_table_145 1 rfl ?_
                        refine g_Vv (As := [.int (nI pj), .int (nI 4), .int (nI (S.1 13))]) (st := []) hC 3 dX10_table_147 rfl mL_o mW_o gX10_table_X10_hold rfl (by decide +kernel) ⟨Nat.le_of_ble_eq_true rfl, Nat.le_of_ble_eq_true rfl⟩ rfl (Nat.le_of_ble_eq_true rfl) ⟨Nat.le_of_ble_eq_true rfl, Nat.le_of_ble_eq_true rfl⟩ (c2 := 0) (s2 := 0) rfl rfl (c_hold hk hm pj 4 (S.1 13) (by omega)) ?_
                        refine g_iload hC dX10_table_150 2 rfl ?_
                        exact g_iret hC hR dX10_table_152 (pE_i (by simp only [s_table, hpl_p, hpl_n, hsz]; (repeat' split) <;> first | with_reducible rfl | contradiction | (exfalso; omega) | (rw [bI_t (by first | assumption | omega)]; rfl) | (rw [bI_f (by first | assumption | omega)]; rfl) | (exfalso; rename_i hz; exact absurd hz (by decide)) | (exfalso; rename_i hz; first | exact absurd hz.1 (by assumption) | exact absurd hz.2 (by assumption)) | (exfalso; simp only [Int32.lt_iff_toInt_lt, Int32.le_iff_toInt_le] at *; omega) | (exfalso; simp_all; done) | (simp_all; done) | rfl))
                      · refine g_iconst hC dX10_table_140 (v := nI 5) (by decide) ?_
                        refine g_goto (tgt := 145) hC dX10_table_141 (by decide) ?_
                        refine g_iload hC dX10_table_145 1 rfl ?_
                        refine g_Vv (As := [.int (nI pj), .int (nI 5), .int (nI (S.1 13))]) (st := []) hC 3 dX10_table_147 rfl mL_o mW_o gX10_table_X10_hold rfl (by decide +kernel) ⟨Nat.le_of_ble_eq_true rfl, Nat.le_of_ble_eq_true rfl⟩ rfl (Nat.le_of_ble_eq_true rfl) ⟨Nat.le_of_ble_eq_true rfl, Nat.le_of_ble_eq_true rfl⟩ (c2 := 0) (s2 := 0) rfl rfl (c_hold hk hm pj 5 (S.1 13) (by omega)) ?_
                        refine g_iload hC dX10_table_150 2 rfl ?_
                        exact g_iret hC hR dX10_table_152 (pE_i (by simp only [s_table, hpl_p, hpl_n, hsz]; (repeat' split) <;> first | with_reducible rfl | contradiction | (exfalso; omega) | (rw [bI_t (by first | assumption | omega)]; rfl) | (rw [bI_f (by first | assumption | omega)]; rfl) | (exfalso; rename_i hz; exact absurd hz (by decide)) | (exfalso; rename_i hz; first | exact absurd hz.1 (by assumption) | exact absurd hz.2 (by assumption)) | (exfalso; simp only [Int32.lt_iff_toInt_lt, Int32.le_iff_toInt_le] at *; omega) | (exfalso; simp_all; done) | (simp_all; done) | rfl))
                    · refine g_aload_n hC dX10_table_113 rfl 3 rfl (Or.inr ⟨_, rfl⟩) ?_
                      refine m_get_19 hC hin (by decide +kernel) dX10_table_114 ?_
                      refine g_sipush hC dX10_table_117 (v := nI 256) (by decide) ?_
                      refine g_iload hC dX10_table_120 1 rfl ?_
                      refine g_imulN (a := 256) (b := S.1 13) hC dX10_table_122 ?_
                      refine g_iload hC dX10_table_123 0 rfl ?_
                      refine g_iaddN (a := 256 * (S.1 13)) (b := i) hC dX10_table_125 ?_
                      refine g_iconst hC dX10_table_126 (v := nI 0) (by decide) ?_
                      refine m_astN (k := 19) (j := (256 * (S.1 13)) + i) (x := 0) hC hm (by decide) rfl (fun _ => rfl) rfl dX10_table_127 (show _ < 133120 from (by omega)) ?_
                      refine g_iincN (n := 1) (a := i) (lv' := [(6, .int (nI (i + 1))), (5, .int (nI (S.1 13))), (4, .int (nI 64)), (0, .ref o), (1, .int (nI pj)), (2, .int (nI kb)), (3, .int (nI nj))]) hC dX10_table_128 0 rfl (by decide) rfl ?_
                      refine g_goto (tgt := 105) hC dX10_table_131 (by decide) ?_
                      have e0 : aN (aNr (aN (aN (aN (aN (aN (aSc (aSc S 0 0) 13 ((S.1 13) + 1)) 14 (S.1 13) kb) 15 (S.1 13) 64) 16 (S.1 13) 0) 17 (S.1 13) 0) 18 (S.1 13) 0) 19 (256 * S.1 13) i (fun _ => 0)) 19 (256 * S.1 13 + i) 0 = aNr (aN (aN (aN (aN (aN (aSc (aSc S 0 0) 13 ((S.1 13) + 1)) 14 (S.1 13) kb) 15 (S.1 13) 64) 16 (S.1 13) 0) 17 (S.1 13) 0) 18 (S.1 13) 0) 19 (256 * S.1 13) (i + 1) (fun _ => 0) := aNr_s (g := fun _ => 0)
                      rw [e0]
                      exact ih (i + 1) (by omega) (by omega)
                rw [← aNr_0 (S := (aN (aN (aN (aN (aN (aSc (aSc S 0 0) 13 ((S.1 13) + 1)) 14 (S.1 13) kb) 15 (S.1 13) 64) 16 (S.1 13) 0) 17 (S.1 13) 0) 18 (S.1 13) 0)) (k := 19) (base := 256 * S.1 13) (g := fun _ => 0)]
                exact lp 258 0 (by omega) (by omega)
              · exfalso; omega
    · refine g_bipush hC dX10_table_24 (v := (-2)) (by decide) ?_
      exact g_iret hC hR dX10_table_26 (pE_i (by simp only [s_table, hpl_p]; (repeat' split) <;> first | with_reducible rfl | contradiction | (exfalso; omega) | (rw [bI_t (by first | assumption | omega)]; rfl) | (rw [bI_f (by first | assumption | omega)]; rfl) | (exfalso; rename_i hz; exact absurd hz (by decide)) | (exfalso; rename_i hz; first | exact absurd hz.1 (by assumption) | exact absurd hz.2 (by assumption)) | (exfalso; simp only [Int32.lt_iff_toInt_lt, Int32.le_iff_toInt_le] at *; omega) | (exfalso; simp_all; done) | (simp_all; done) | rfl))
  · refine g_iconst hC dX10_table_12 (v := (-1)) (by decide) ?_
    exact g_iret hC hR dX10_table_13 (pE_i (by simp only [s_table]; (repeat' split) <;> first | with_reducible rfl | contradiction | (exfalso; omega) | (rw [bI_t (by first | assumption | omega)]; rfl) | (rw [bI_f (by first | assumption | omega)]; rfl) | (exfalso; rename_i hz; exact absurd hz (by decide)) | (exfalso; rename_i hz; first | exact absurd hz.1 (by assumption) | exact absurd hz.2 (by assumption)) | (exfalso; simp only [Int32.lt_iff_toInt_lt, Int32.le_iff_toInt_le] at *; omega) | (exfalso; simp_all; done) | (simp_all; done) | rfl))
end M3
