section M3
variable {l : Launch} {D : va_G} {cy : Nat → ClassId} {K : gKt} {o : Nat} {ad : Nat → Nat} {S : aS}
set_option maxRecDepth 20000 in
set_option maxHeartbeats 4000000 in
theorem c_ranked (hk : gKok D vwCl (cyT cy) K) (hm : mOk o ad) (hI : aI S) (p : Int32) (i : Int32) : gCt l D vwCl K yX10_ranked wsX10_ranked { frames := 2, cells := 0, slots := 0, locals := 44 } [.ref o, .int p, .int i] (mL o ad) (mW o ad cy S) (pE (some (.int (s_ranked S p i).1)) (mL o ad) (mW o ad cy (s_ranked S p i).2)) := by
  refine gCt.of hk (by decide) rfl rfl (fun X hC hR hnm => ?_)
  have hC : gC X l _ D vwCl (cyT cy) K cX10_ranked 10 wsX10_ranked RX10 := hC
  have hin : ∀ w ∈ wsX100, w ∈ wsX10_ranked := by decide +kernel
  show gW X vwCl 10 (mL o ad) (mW o ad cy S) 0 0 0 [(0, .ref o), (1, .int p), (2, .int i)] []
  have hnb := hI.nb
  refine g_aload_n hC dX10_ranked_0 rfl 0 rfl (Or.inr ⟨_, rfl⟩) ?_
  refine g_iconst hC dX10_ranked_1 (v := nI 0) (by decide) ?_
  refine m_put_0 (x := 0) hC hin (by decide +kernel) dX10_ranked_2 ?_
  refine g_iload_n hC dX10_ranked_5 rfl 1 rfl ?_
  refine g_S (As := [.int p]) (st := []) hC 1 dX10_ranked_6 gX10_ranked_X10_isPlace rfl (by decide +kernel) ⟨Nat.le_of_ble_eq_true rfl, Nat.le_of_ble_eq_true rfl⟩ rfl (Nat.le_of_ble_eq_true rfl) ⟨Nat.le_of_ble_eq_true rfl, Nat.le_of_ble_eq_true rfl⟩ (c2 := 0) (s2 := 0) rfl rfl (c_isPlace hk _) ?_
  refine g_ifB_ne (P := isP p) (tgt := 14) hC dX10_ranked_9 (by decide) (fun h9 => ?_) (fun h9 => ?_)
  · obtain ⟨pj, hpj, rfl⟩ := isP_j h9
    have hpl_p : pl (nI pj) = pj := nI_clamp (by omega)
    have h5_p := hI.k5 hpj
    have hw_p := hI.wb hpj
    refine g_aload_n hC dX10_ranked_14 rfl 0 rfl (Or.inr ⟨_, rfl⟩) ?_
    refine g_iload_n hC dX10_ranked_15 rfl 1 rfl ?_
    refine g_iconst hC dX10_ranked_16 (v := nI 4) (by decide) ?_
    have hcf_pj_4 : castF S pj 4 ≤ 2 := castF_2
    refine g_V (As := [.int (nI pj), .int (nI 4)]) (st := []) hC 2 dX10_ranked_17 rfl mL_o mW_o gX10_ranked_X10_castFault rfl (by decide +kernel) ⟨Nat.le_of_ble_eq_true rfl, Nat.le_of_ble_eq_true rfl⟩ rfl (Nat.le_of_ble_eq_true rfl) ⟨Nat.le_of_ble_eq_true rfl, Nat.le_of_ble_eq_true rfl⟩ (c2 := 0) (s2 := 0) rfl rfl (c_castFault hk hm pj 4 (by omega) hpj (hI.k5 hpj)) ?_
    refine g_istore_n (lv' := [(3, .int (nI (castF S pj 4))), (0, .ref o), (1, .int (nI pj)), (2, .int i)]) hC dX10_ranked_20 rfl (by decide) rfl ?_
    refine g_aload_n hC dX10_ranked_21 rfl 1 rfl (Or.inr ⟨_, rfl⟩) ?_
    refine m_get_3 hC hin (by decide +kernel) dX10_ranked_22 ?_
    refine g_iload_n hC dX10_ranked_25 rfl 2 rfl ?_
    refine m_aldN (k := 3) (j := pj) hC hm (by decide) rfl rfl rfl dX10_ranked_26 (show _ < 10 from (by omega)) ?_
    refine g_istore (lv' := [(4, .int (nI (wh S pj))), (3, .int (nI (castF S pj 4))), (0, .ref o), (1, .int (nI pj)), (2, .int i)]) hC dX10_ranked_27 (by decide) rfl ?_
    refine g_iload_n hC dX10_ranked_29 rfl 1 rfl ?_
    refine g_ifN_gt (a := castF S pj 4) (tgt := 50) hC dX10_ranked_30 (by decide) (by omega) (fun h30 => ?_) (fun h30 => ?_)
    · refine g_aload_n hC dX10_ranked_50 rfl 2 rfl (Or.inr ⟨_, rfl⟩) ?_
      refine g_iload_n hC dX10_ranked_51 rfl 1 rfl ?_
      refine g_ifN_le (a := castF S pj 4) (tgt := 59) hC dX10_ranked_52 (by decide) (by omega) (fun h52 => ?_) (fun h52 => ?_)
      · have hc0_pj := castF_0 h52
        have hc1_pj := hc0_pj.2
        have ht_pj := hI.wt hpj (by omega)
        have htk_pj := hI.tk ht_pj
        have htm_pj := htk_pj.2.1
        have hts_pj := htk_pj.sl
        refine g_iconst hC dX10_ranked_59 (v := nI 3) (by decide) ?_
        refine g_V (As := [.int (nI 3)]) (st := []) hC 1 dX10_ranked_60 rfl mL_o mW_o gX10_ranked_X10_fails rfl (by decide +kernel) ⟨Nat.le_of_ble_eq_true rfl, Nat.le_of_ble_eq_true rfl⟩ rfl (Nat.le_of_ble_eq_true rfl) ⟨Nat.le_of_ble_eq_true rfl, Nat.le_of_ble_eq_true rfl⟩ (c2 := 0) (s2 := 0) rfl rfl (c_fails hk hm 3) ?_
        exact g_iret hC hR dX10_ranked_63 (pE_i (by simp only [s_ranked, hpl_p]; (repeat' split) <;> first | with_reducible rfl | contradiction | (exfalso; omega) | (rw [bI_t (by first | assumption | omega)]; rfl) | (rw [bI_f (by first | assumption | omega)]; rfl) | (exfalso; rename_i hz; exact absurd hz (by decide)) | (exfalso; rename_i hz; first | exact absurd hz.1 (by assumption) | exact absurd hz.2 (by assumption)) | (exfalso; simp only [Int32.lt_iff_toInt_lt, Int32.le_iff_toInt_le] at *; omega) | (exfalso; simp_all; done) | (simp_all; done) | rfl))
      · refine g_iload_n hC dX10_ranked_55 rfl 1 rfl ?_
        refine g_goto (tgt := 60) hC dX10_ranked_56 (by decide) ?_
        refine g_V (As := [.int (nI (castF S pj 4))]) (st := []) hC 1 dX10_ranked_60 rfl mL_o mW_o gX10_ranked_X10_fails rfl (by decide +kernel) ⟨Nat.le_of_ble_eq_true rfl, Nat.le_of_ble_eq_true rfl⟩ rfl (Nat.le_of_ble_eq_true rfl) ⟨Nat.le_of_ble_eq_true rfl, Nat.le_of_ble_eq_true rfl⟩ (c2 := 0) (s2 := 0) rfl rfl (c_fails hk hm (castF S pj 4)) ?_
        exact g_iret hC hR dX10_ranked_63 (pE_i (by simp only [s_ranked, hpl_p]; (repeat' split) <;> first | with_reducible rfl | contradiction | (exfalso; omega) | (rw [bI_t (by first | assumption | omega)]; rfl) | (rw [bI_f (by first | assumption | omega)]; rfl) | (exfalso; rename_i hz; exact absurd hz (by decide)) | (exfalso; rename_i hz; first | exact absurd hz.1 (by assumption) | exact absurd hz.2 (by assumption)) | (exfalso; simp only [Int32.lt_iff_toInt_lt, Int32.le_iff_toInt_le] at *; omega) | (exfalso; simp_all; done) | (simp_all; done) | rfl))
    · have hc0_pj := castF_0 h30
      have hc1_pj := hc0_pj.2
      have ht_pj := hI.wt hpj (by omega)
      have htk_pj := hI.tk ht_pj
      have htm_pj := htk_pj.2.1
      have hts_pj := htk_pj.sl
      refine g_iload_n hC dX10_ranked_33 rfl 4 rfl ?_
      refine g_iconst hC dX10_ranked_34 (v := nI 0) (by decide) ?_
      refine g_aload_n hC dX10_ranked_35 rfl 2 rfl (Or.inr ⟨_, rfl⟩) ?_
      refine m_get_16 hC hin (by decide +kernel) dX10_ranked_36 ?_
      refine g_iload hC dX10_ranked_39 0 rfl ?_
      refine m_aldN (k := 16) (j := wh S pj) hC hm (by decide) rfl rfl rfl dX10_ranked_41 (show _ < 520 from (by omega)) ?_
      refine g_iconst hC dX10_ranked_42 (v := nI 1) (by decide) ?_
      refine g_isub hC dX10_ranked_43 ?_
      refine g_S (As := [.int i, .int (nI 0), .int (nI (S.2.1 16 (wh S pj)) - nI 1)]) (st := []) hC 3 dX10_ranked_44 gX10_ranked_X10_in rfl (by decide +kernel) ⟨Nat.le_of_ble_eq_true rfl, Nat.le_of_ble_eq_true rfl⟩ rfl (Nat.le_of_ble_eq_true rfl) ⟨Nat.le_of_ble_eq_true rfl, Nat.le_of_ble_eq_true rfl⟩ (c2 := 0) (s2 := 0) rfl rfl (c_in hk _ _ _) ?_
      refine g_ifB_ne (P := inR i (S.2.1 16 (wh S pj))) (tgt := 64) hC dX10_ranked_47 (by decide) (fun h47 => ?_) (fun h47 => ?_)
      · obtain ⟨ij, hij, rfl⟩ := (inR_j (n := (S.2.1 16 (wh S pj))) (by omega)).mp h47
        have hpl_i : pl (nI ij) = ij := nI_clamp (by omega)
        have ahC_le : ∀ {k : Nat} (j : Nat), ahC S (wh S pj) k j ≤ j := by
          intro k j
          induction j with
          | zero => exact Nat.le_refl 0
          | succ j ih => unfold ahC; split <;> omega
        have lp : ∀ (m : Nat) (k : Nat), S.2.1 16 (wh S pj) - k < m → (k ≤ S.2.1 16 (wh S pj)) → gW X vwCl 10 (mL o ad) (mW o ad cy (aSc S 0 0)) 0 0 70 [(6, .int (nI k)), (5, .int (rkA S (wh S pj) ij k)), (4, .int (nI (wh S pj))), (3, .int (nI (castF S pj 4))), (0, .ref o), (1, .int (nI pj)), (2, .int (nI ij))] [] := by
          intro m
          induction m with
          | zero => intros; omega
          | succ m ih =>
            intro k hm9 hk9
            refine g_iload hC dX10_ranked_70 0 rfl ?_
            refine g_aload_n hC dX10_ranked_72 rfl 4 rfl (Or.inr ⟨_, rfl⟩) ?_
            refine m_get_16 hC hin (by decide +kernel) dX10_ranked_73 ?_
            refine g_iload hC dX10_ranked_76 2 rfl ?_
            refine m_aldN (k := 16) (j := wh S pj) hC hm (by decide) rfl rfl rfl dX10_ranked_78 (show _ < 520 from (by omega)) ?_
            refine g_icmpN_ge (a := k) (b := S.2.1 16 (wh S pj)) (tgt := 186) hC dX10_ranked_79 (by decide) (by omega) (by omega) (fun h79 => ?_) (fun h79 => ?_)
            · refine g_iload hC dX10_ranked_186 1 rfl ?_
              have e8 : S.2.1 16 (wh S pj) = k := by omega
              have e9 : rkA S (wh S pj) ij k = rkA S (wh S pj) ij (S.2.1 16 (wh S pj)) := by rw [e8]
              rw [e9]
              exact g_iret hC hR dX10_ranked_188 (pE_i (by simp only [s_ranked, hpl_p, hpl_i]; (repeat' split) <;> first | with_reducible rfl | contradiction | (exfalso; omega) | (rw [bI_t (by first | assumption | omega)]; rfl) | (rw [bI_f (by first | assumption | omega)]; rfl) | (exfalso; rename_i hz; exact absurd hz (by decide)) | (exfalso; rename_i hz; first | exact absurd hz.1 (by assumption) | exact absurd hz.2 (by assumption)) | (exfalso; simp only [Int32.lt_iff_toInt_lt, Int32.le_iff_toInt_le] at *; omega) | (exfalso; simp_all; done) | (simp_all; done) | rfl))
            · refine g_iconst hC dX10_ranked_82 (v := nI 0) (by decide) ?_
              refine g_istore (lv' := [(7, .int (nI 0)), (6, .int (nI k)), (5, .int (rkA S (wh S pj) ij k)), (4, .int (nI (wh S pj))), (3, .int (nI (castF S pj 4))), (0, .ref o), (1, .int (nI pj)), (2, .int (nI ij))]) hC dX10_ranked_83 (by decide) rfl ?_
              refine g_iconst hC dX10_ranked_85 (v := nI 0) (by decide) ?_
              refine g_istore (lv' := [(8, .int (nI 0)), (7, .int (nI 0)), (6, .int (nI k)), (5, .int (rkA S (wh S pj) ij k)), (4, .int (nI (wh S pj))), (3, .int (nI (castF S pj 4))), (0, .ref o), (1, .int (nI pj)), (2, .int (nI ij))]) hC dX10_ranked_86 (by decide) rfl ?_
              have lin : ∀ (m2 j : Nat), S.2.1 16 (wh S pj) - j < m2 → j ≤ S.2.1 16 (wh S pj) → gW X vwCl 10 (mL o ad) (mW o ad cy (aSc S 0 0)) 0 0 88 [(8, .int (nI j)), (7, .int (nI (ahC S (wh S pj) k j))), (6, .int (nI k)), (5, .int (rkA S (wh S pj) ij k)), (4, .int (nI (wh S pj))), (3, .int (nI (castF S pj 4))), (0, .ref o), (1, .int (nI pj)), (2, .int (nI ij))] [] := by
                intro m2
                induction m2 with
                | zero => intros; omega
                | succ m2 ih2 =>
                  intro j hm8 hj8
                  have hah : ahC S (wh S pj) k j ≤ j := ahC_le j
                  refine g_iload hC dX10_ranked_88 0 rfl ?_
                  refine g_aload_n hC dX10_ranked_90 rfl 6 rfl (Or.inr ⟨_, rfl⟩) ?_
                  refine m_get_16 hC hin (by decide +kernel) dX10_ranked_91 ?_
                  refine g_iload hC dX10_ranked_94 4 rfl ?_
                  refine m_aldN (k := 16) (j := wh S pj) hC hm (by decide) rfl rfl rfl dX10_ranked_96 (show _ < 520 from (by omega)) ?_
                  refine g_icmpN_ge (a := j) (b := S.2.1 16 (wh S pj)) (tgt := 165) hC dX10_ranked_97 (by decide) (by omega) (by omega) (fun h97 => ?_) (fun h97 => ?_)
                  · have e8 : S.2.1 16 (wh S pj) = j := by omega
                    refine g_iload hC dX10_ranked_165 1 rfl ?_
                    refine g_iload_n hC dX10_ranked_167 rfl 8 rfl ?_
                    refine g_icmpN_ne (a := ahC S (wh S pj) k j) (b := ij) (tgt := 176) hC dX10_ranked_168 (by decide) (by omega) (by omega) (fun h168 => ?_) (fun h168 => ?_)
                    · refine g_iload hC dX10_ranked_176 3 rfl ?_
                      refine g_istore (lv' := [(5, .int (rkA S (wh S pj) ij k)), (8, .int (nI j)), (7, .int (nI (ahC S (wh S pj) k j))), (6, .int (nI k)), (4, .int (nI (wh S pj))), (3, .int (nI (castF S pj 4))), (0, .ref o), (1, .int (nI pj)), (2, .int (nI ij))]) hC dX10_ranked_178 (by decide) rfl ?_
                      refine g_iincN (n := 1) (a := k) (lv' := [(6, .int (nI (k + 1))), (5, .int (rkA S (wh S pj) ij k)), (8, .int (nI j)), (7, .int (nI (ahC S (wh S pj) k j))), (4, .int (nI (wh S pj))), (3, .int (nI (castF S pj 4))), (0, .ref o), (1, .int (nI pj)), (2, .int (nI ij))]) hC dX10_ranked_180 3 rfl (by decide) rfl ?_
                      refine g_goto (tgt := 70) hC dX10_ranked_183 (by decide) ?_
                      refine g_lv (lv' := [(6, .int (nI (k + 1))), (5, .int (rkA S (wh S pj) ij k)), (4, .int (nI (wh S pj))), (3, .int (nI (castF S pj 4))), (0, .ref o), (1, .int (nI pj)), (2, .int (nI ij))]) [0, 1, 4, 5, 6, 7, 8] rfl ?_
                      have e0 : rkA S (wh S pj) ij k = rkA S (wh S pj) ij (k + 1) := by rw [rkA, e8, if_neg h168]
                      rw [e0]
                      exact ih (k + 1) (by omega) (by omega)
                    · refine g_iload hC dX10_ranked_171 2 rfl ?_
                      refine g_goto (tgt := 178) hC dX10_ranked_173 (by decide) ?_
                      refine g_istore (lv' := [(5, .int (nI k)), (8, .int (nI j)), (7, .int (nI (ahC S (wh S pj) k j))), (6, .int (nI k)), (4, .int (nI (wh S pj))), (3, .int (nI (castF S pj 4))), (0, .ref o), (1, .int (nI pj)), (2, .int (nI ij))]) hC dX10_ranked_178 (by decide) rfl ?_
                      refine g_iincN (n := 1) (a := k) (lv' := [(6, .int (nI (k + 1))), (5, .int (nI k)), (8, .int (nI j)), (7, .int (nI (ahC S (wh S pj) k j))), (4, .int (nI (wh S pj))), (3, .int (nI (castF S pj 4))), (0, .ref o), (1, .int (nI pj)), (2, .int (nI ij))]) hC dX10_ranked_180 3 rfl (by decide) rfl ?_
                      refine g_goto (tgt := 70) hC dX10_ranked_183 (by decide) ?_
                      refine g_lv (lv' := [(6, .int (nI (k + 1))), (5, .int (nI k)), (4, .int (nI (wh S pj))), (3, .int (nI (castF S pj 4))), (0, .ref o), (1, .int (nI pj)), (2, .int (nI ij))]) [0, 1, 4, 5, 6, 7, 8] rfl ?_
                      have e0 : nI k = rkA S (wh S pj) ij (k + 1) := by rw [rkA, e8, if_pos h168]
                      rw [e0]
                      exact ih (k + 1) (by omega) (by omega)
                  · refine g_aload_n hC dX10_ranked_100 rfl 6 rfl (Or.inr ⟨_, rfl⟩) ?_
                    refine g_aload_n hC dX10_ranked_101 rfl 6 rfl (Or.inr ⟨_, rfl⟩) ?_
                    refine m_get_20 hC hin (by decide +kernel) dX10_ranked_102 ?_
                    refine g_bipush hC dX10_ranked_105 (v := nI 100) (by decide) ?_
                    refine g_iload hC dX10_ranked_107 4 rfl ?_
                    refine g_imulN (a := 100) (b := wh S pj) hC dX10_ranked_109 ?_
                    refine g_iload hC dX10_ranked_110 0 rfl ?_
                    refine g_iaddN (a := 100 * (wh S pj)) (b := j) hC dX10_ranked_112 ?_
                    refine m_aldN (k := 20) (j := (100 * (wh S pj)) + j) hC hm (by decide) rfl rfl rfl dX10_ranked_113 (show _ < 52000 from (by omega)) ?_
                    refine g_aload_n hC dX10_ranked_114 rfl 6 rfl (Or.inr ⟨_, rfl⟩) ?_
                    refine m_get_20 hC hin (by decide +kernel) dX10_ranked_115 ?_
                    refine g_bipush hC dX10_ranked_118 (v := nI 100) (by decide) ?_
                    refine g_iload hC dX10_ranked_120 4 rfl ?_
                    refine g_imulN (a := 100) (b := wh S pj) hC dX10_ranked_122 ?_
                    refine g_iload hC dX10_ranked_123 2 rfl ?_
                    refine g_iaddN (a := 100 * (wh S pj)) (b := k) hC dX10_ranked_125 ?_
                    refine m_aldN (k := 20) (j := (100 * (wh S pj)) + k) hC hm (by decide) rfl rfl rfl dX10_ranked_126 (show _ < 52000 from (by omega)) ?_
                    have hj9 := hI.tt ht_pj (k := j) (by omega)
                    have hk8 := hI.tt ht_pj (k := k) (by omega)
                    refine g_V (As := [.int (nI (S.2.1 20 ((100 * (wh S pj)) + j))), .int (nI (S.2.1 20 ((100 * (wh S pj)) + k)))]) (st := []) hC 2 dX10_ranked_127 rfl mL_o mW_o gX10_ranked_X10_against rfl (by decide +kernel) ⟨Nat.le_of_ble_eq_true rfl, Nat.le_of_ble_eq_true rfl⟩ rfl (Nat.le_of_ble_eq_true rfl) ⟨Nat.le_of_ble_eq_true rfl, Nat.le_of_ble_eq_true rfl⟩ (c2 := 0) (s2 := 0) rfl rfl (c_against hk hm _ _ (by omega) (by omega) (hI.bl hj9) (hI.bl hk8)) ?_
                    refine g_istore (lv' := [(9, .int (agst S (S.2.1 20 (100 * wh S pj + j)) (S.2.1 20 (100 * wh S pj + k)))), (8, .int (nI j)), (7, .int (nI (ahC S (wh S pj) k j))), (6, .int (nI k)), (5, .int (rkA S (wh S pj) ij k)), (4, .int (nI (wh S pj))), (3, .int (nI (castF S pj 4))), (0, .ref o), (1, .int (nI pj)), (2, .int (nI ij))]) hC dX10_ranked_130 (by decide) rfl ?_
                    refine g_iload hC dX10_ranked_132 2 rfl ?_
                    refine g_iload hC dX10_ranked_134 0 rfl ?_
                    refine g_if_lt (x := agst S (S.2.1 20 (100 * wh S pj + j)) (S.2.1 20 (100 * wh S pj + k))) (tgt := 151) hC dX10_ranked_136 (by decide) (fun h136 => ?_) (fun h136 => ?_)
                    · refine g_iconst hC dX10_ranked_151 (v := nI 1) (by decide) ?_
                      refine g_goto (tgt := 156) hC dX10_ranked_152 (by decide) ?_
                      refine g_iaddN (a := ahC S (wh S pj) k j) (b := 1) hC dX10_ranked_156 ?_
                      refine g_istore (lv' := [(7, .int (nI ((ahC S (wh S pj) k j) + 1))), (9, .int (agst S (S.2.1 20 (100 * wh S pj + j)) (S.2.1 20 (100 * wh S pj + k)))), (8, .int (nI j)), (6, .int (nI k)), (5, .int (rkA S (wh S pj) ij k)), (4, .int (nI (wh S pj))), (3, .int (nI (castF S pj 4))), (0, .ref o), (1, .int (nI pj)), (2, .int (nI ij))]) hC dX10_ranked_157 (by decide) rfl ?_
                      refine g_iincN (n := 1) (a := j) (lv' := [(8, .int (nI (j + 1))), (7, .int (nI ((ahC S (wh S pj) k j) + 1))), (9, .int (agst S (S.2.1 20 (100 * wh S pj + j)) (S.2.1 20 (100 * wh S pj + k)))), (6, .int (nI k)), (5, .int (rkA S (wh S pj) ij k)), (4, .int (nI (wh S pj))), (3, .int (nI (castF S pj 4))), (0, .ref o), (1, .int (nI pj)), (2, .int (nI ij))]) hC dX10_ranked_159 2 rfl (by decide) rfl ?_
                      refine g_goto (tgt := 88) hC dX10_ranked_162 (by decide) ?_
                      refine g_lv (lv' := [(8, .int (nI (j + 1))), (7, .int (nI ((ahC S (wh S pj) k j) + 1))), (6, .int (nI k)), (5, .int (rkA S (wh S pj) ij k)), (4, .int (nI (wh S pj))), (3, .int (nI (castF S pj 4))), (0, .ref o), (1, .int (nI pj)), (2, .int (nI ij))]) [0, 1, 3, 4, 5, 6, 7, 8, 9] rfl ?_
                      have e0 : (ahC S (wh S pj) k j) + 1 = ahC S (wh S pj) k (j + 1) := by rw [ahC, if_pos (Or.inl h136)]
                      rw [e0]
                      exact ih2 (j + 1) (by omega) (by omega)
                    · refine g_iload hC dX10_ranked_139 0 rfl ?_
                      refine g_if_ne (x := agst S (S.2.1 20 (100 * wh S pj + j)) (S.2.1 20 (100 * wh S pj + k))) (tgt := 155) hC dX10_ranked_141 (by decide) (fun h141 => ?_) (fun h141 => ?_)
                      · refine g_iconst hC dX10_ranked_155 (v := nI 0) (by decide) ?_
                        refine g_iaddN (a := ahC S (wh S pj) k j) (b := 0) hC dX10_ranked_156 ?_
                        refine g_istore (lv' := [(7, .int (nI ((ahC S (wh S pj) k j) + 0))), (9, .int (agst S (S.2.1 20 (100 * wh S pj + j)) (S.2.1 20 (100 * wh S pj + k)))), (8, .int (nI j)), (6, .int (nI k)), (5, .int (rkA S (wh S pj) ij k)), (4, .int (nI (wh S pj))), (3, .int (nI (castF S pj 4))), (0, .ref o), (1, .int (nI pj)), (2, .int (nI ij))]) hC dX10_ranked_157 (by decide) rfl ?_
                        refine g_iincN (n := 1) (a := j) (lv' := [(8, .int (nI (j + 1))), (7, .int (nI ((ahC S (wh S pj) k j) + 0))), (9, .int (agst S (S.2.1 20 (100 * wh S pj + j)) (S.2.1 20 (100 * wh S pj + k)))), (6, .int (nI k)), (5, .int (rkA S (wh S pj) ij k)), (4, .int (nI (wh S pj))), (3, .int (nI (castF S pj 4))), (0, .ref o), (1, .int (nI pj)), (2, .int (nI ij))]) hC dX10_ranked_159 2 rfl (by decide) rfl ?_
                        refine g_goto (tgt := 88) hC dX10_ranked_162 (by decide) ?_
                        refine g_lv (lv' := [(8, .int (nI (j + 1))), (7, .int (nI ((ahC S (wh S pj) k j) + 0))), (6, .int (nI k)), (5, .int (rkA S (wh S pj) ij k)), (4, .int (nI (wh S pj))), (3, .int (nI (castF S pj 4))), (0, .ref o), (1, .int (nI pj)), (2, .int (nI ij))]) [0, 1, 3, 4, 5, 6, 7, 8, 9] rfl ?_
                        have e0 : (ahC S (wh S pj) k j) + 0 = ahC S (wh S pj) k (j + 1) := by rw [ahC, if_neg (fun q => by rcases q with q | q; exact h136 q; exact h141 q.1)]
                        rw [e0]
                        exact ih2 (j + 1) (by omega) (by omega)
                      · refine g_iload hC dX10_ranked_144 1 rfl ?_
                        refine g_iload hC dX10_ranked_146 3 rfl ?_
                        refine g_icmpN_ge (a := j) (b := k) (tgt := 155) hC dX10_ranked_148 (by decide) (by omega) (by omega) (fun h148 => ?_) (fun h148 => ?_)
                        · refine g_iconst hC dX10_ranked_155 (v := nI 0) (by decide) ?_
                          refine g_iaddN (a := ahC S (wh S pj) k j) (b := 0) hC dX10_ranked_156 ?_
                          refine g_istore (lv' := [(7, .int (nI ((ahC S (wh S pj) k j) + 0))), (9, .int (agst S (S.2.1 20 (100 * wh S pj + j)) (S.2.1 20 (100 * wh S pj + k)))), (8, .int (nI j)), (6, .int (nI k)), (5, .int (rkA S (wh S pj) ij k)), (4, .int (nI (wh S pj))), (3, .int (nI (castF S pj 4))), (0, .ref o), (1, .int (nI pj)), (2, .int (nI ij))]) hC dX10_ranked_157 (by decide) rfl ?_
                          refine g_iincN (n := 1) (a := j) (lv' := [(8, .int (nI (j + 1))), (7, .int (nI ((ahC S (wh S pj) k j) + 0))), (9, .int (agst S (S.2.1 20 (100 * wh S pj + j)) (S.2.1 20 (100 * wh S pj + k)))), (6, .int (nI k)), (5, .int (rkA S (wh S pj) ij k)), (4, .int (nI (wh S pj))), (3, .int (nI (castF S pj 4))), (0, .ref o), (1, .int (nI pj)), (2, .int (nI ij))]) hC dX10_ranked_159 2 rfl (by decide) rfl ?_
                          refine g_goto (tgt := 88) hC dX10_ranked_162 (by decide) ?_
                          refine g_lv (lv' := [(8, .int (nI (j + 1))), (7, .int (nI ((ahC S (wh S pj) k j) + 0))), (6, .int (nI k)), (5, .int (rkA S (wh S pj) ij k)), (4, .int (nI (wh S pj))), (3, .int (nI (castF S pj 4))), (0, .ref o), (1, .int (nI pj)), (2, .int (nI ij))]) [0, 1, 3, 4, 5, 6, 7, 8, 9] rfl ?_
                          have e0 : (ahC S (wh S pj) k j) + 0 = ahC S (wh S pj) k (j + 1) := by rw [ahC, if_neg (fun q => by rcases q with q | q; exact h136 q; omega)]
                          rw [e0]
                          exact ih2 (j + 1) (by omega) (by omega)
                        · refine g_iconst hC dX10_ranked_151 (v := nI 1) (by decide) ?_
                          refine g_goto (tgt := 156) hC dX10_ranked_152 (by decide) ?_
                          refine g_iaddN (a := ahC S (wh S pj) k j) (b := 1) hC dX10_ranked_156 ?_
                          refine g_istore (lv' := [(7, .int (nI ((ahC S (wh S pj) k j) + 1))), (9, .int (agst S (S.2.1 20 (100 * wh S pj + j)) (S.2.1 20 (100 * wh S pj + k)))), (8, .int (nI j)), (6, .int (nI k)), (5, .int (rkA S (wh S pj) ij k)), (4, .int (nI (wh S pj))), (3, .int (nI (castF S pj 4))), (0, .ref o), (1, .int (nI pj)), (2, .int (nI ij))]) hC dX10_ranked_157 (by decide) rfl ?_
                          refine g_iincN (n := 1) (a := j) (lv' := [(8, .int (nI (j + 1))), (7, .int (nI ((ahC S (wh S pj) k j) + 1))), (9, .int (agst S (S.2.1 20 (100 * wh S pj + j)) (S.2.1 20 (100 * wh S pj + k)))), (6, .int (nI k)), (5, .int (rkA S (wh S pj) ij k)), (4, .int (nI (wh S pj))), (3, .int (nI (castF S pj 4))), (0, .ref o), (1, .int (nI pj)), (2, .int (nI ij))]) hC dX10_ranked_159 2 rfl (by decide) rfl ?_
                          refine g_goto (tgt := 88) hC dX10_ranked_162 (by decide) ?_
                          refine g_lv (lv' := [(8, .int (nI (j + 1))), (7, .int (nI ((ahC S (wh S pj) k j) + 1))), (6, .int (nI k)), (5, .int (rkA S (wh S pj) ij k)), (4, .int (nI (wh S pj))), (3, .int (nI (castF S pj 4))), (0, .ref o), (1, .int (nI pj)), (2, .int (nI ij))]) [0, 1, 3, 4, 5, 6, 7, 8, 9] rfl ?_
                          have e0 : (ahC S (wh S pj) k j) + 1 = ahC S (wh S pj) k (j + 1) := by rw [ahC, if_pos (Or.inr ⟨h141, by omega⟩)]
                          rw [e0]
                          exact ih2 (j + 1) (by omega) (by omega)
              exact lin (S.2.1 16 (wh S pj) + 1) 0 (by omega) (by omega)
        refine g_iconst hC dX10_ranked_64 (v := (-1)) (by decide) ?_
        refine g_istore (lv' := [(5, .int ((-1))), (4, .int (nI (wh S pj))), (3, .int (nI (castF S pj 4))), (0, .ref o), (1, .int (nI pj)), (2, .int (nI ij))]) hC dX10_ranked_65 (by decide) rfl ?_
        refine g_iconst hC dX10_ranked_67 (v := nI 0) (by decide) ?_
        refine g_istore (lv' := [(6, .int (nI 0)), (5, .int ((-1))), (4, .int (nI (wh S pj))), (3, .int (nI (castF S pj 4))), (0, .ref o), (1, .int (nI pj)), (2, .int (nI ij))]) hC dX10_ranked_68 (by decide) rfl ?_
        exact lp (S.2.1 16 (wh S pj) + 1) 0 (by omega) (by omega)
      · refine g_aload_n hC dX10_ranked_50 rfl 2 rfl (Or.inr ⟨_, rfl⟩) ?_
        refine g_iload_n hC dX10_ranked_51 rfl 1 rfl ?_
        refine g_ifN_le (a := castF S pj 4) (tgt := 59) hC dX10_ranked_52 (by decide) (by omega) (fun h52 => ?_) (fun h52 => ?_)
        · have hc0_pj := castF_0 h52
          have hc1_pj := hc0_pj.2
          have ht_pj := hI.wt hpj (by omega)
          have htk_pj := hI.tk ht_pj
          have htm_pj := htk_pj.2.1
          have hts_pj := htk_pj.sl
          refine g_iconst hC dX10_ranked_59 (v := nI 3) (by decide) ?_
          refine g_V (As := [.int (nI 3)]) (st := []) hC 1 dX10_ranked_60 rfl mL_o mW_o gX10_ranked_X10_fails rfl (by decide +kernel) ⟨Nat.le_of_ble_eq_true rfl, Nat.le_of_ble_eq_true rfl⟩ rfl (Nat.le_of_ble_eq_true rfl) ⟨Nat.le_of_ble_eq_true rfl, Nat.le_of_ble_eq_true rfl⟩ (c2 := 0) (s2 := 0) rfl rfl (c_fails hk hm 3) ?_
          exact g_iret hC hR dX10_ranked_63 (pE_i (by simp only [s_ranked, hpl_p]; (repeat' split) <;> first | with_reducible rfl | contradiction | (exfalso; omega) | (rw [bI_t (by first | assumption | omega)]; rfl) | (rw [bI_f (by first | assumption | omega)]; rfl) | (exfalso; rename_i hz; exact absurd hz (by decide)) | (exfalso; rename_i hz; first | exact absurd hz.1 (by assumption) | exact absurd hz.2 (by assumption)) | (exfalso; simp only [Int32.lt_iff_toInt_lt, Int32.le_iff_toInt_le] at *; omega) | (exfalso; simp_all; done) | (simp_all; done) | rfl))
        · refine g_iload_n hC dX10_ranked_55 rfl 1 rfl ?_
          refine g_goto (tgt := 60) hC dX10_ranked_56 (by decide) ?_
          refine g_V (As := [.int (nI (castF S pj 4))]) (st := []) hC 1 dX10_ranked_60 rfl mL_o mW_o gX10_ranked_X10_fails rfl (by decide +kernel) ⟨Nat.le_of_ble_eq_true rfl, Nat.le_of_ble_eq_true rfl⟩ rfl (Nat.le_of_ble_eq_true rfl) ⟨Nat.le_of_ble_eq_true rfl, Nat.le_of_ble_eq_true rfl⟩ (c2 := 0) (s2 := 0) rfl rfl (c_fails hk hm (castF S pj 4)) ?_
          exact g_iret hC hR dX10_ranked_63 (pE_i (by simp only [s_ranked, hpl_p]; (repeat' split) <;> first | with_reducible rfl | contradiction | (exfalso; omega) | (rw [bI_t (by first | assumption | omega)]; rfl) | (rw [bI_f (by first | assumption | omega)]; rfl) | (exfalso; rename_i hz; exact absurd hz (by decide)) | (exfalso; rename_i hz; first | exact absurd hz.1 (by assumption) | exact absurd hz.2 (by assumption)) | (exfalso; simp only [Int32.lt_iff_toInt_lt, Int32.le_iff_toInt_le] at *; omega) | (exfalso; simp_all; done) | (simp_all; done) | rfl))
  · refine g_iconst hC dX10_ranked_12 (v := (-1)) (by decide) ?_
    exact g_iret hC hR dX10_ranked_13 (pE_i (by simp only [s_ranked]; (repeat' split) <;> first | with_reducible rfl | contradiction | (exfalso; omega) | (rw [bI_t (by first | assumption | omega)]; rfl) | (rw [bI_f (by first | assumption | omega)]; rfl) | (exfalso; rename_i hz; exact absurd hz (by decide)) | (exfalso; rename_i hz; first | exact absurd hz.1 (by assumption) | exact absurd hz.2 (by assumption)) | (exfalso; simp only [Int32.lt_iff_toInt_lt, Int32.le_iff_toInt_le] at *; omega) | (exfalso; simp_all; done) | (simp_all; done) | rfl))
end M3
