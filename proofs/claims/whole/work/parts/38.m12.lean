section M3
variable {l : Launch} {D : va_G} {cy : Nat → ClassId} {K : gKt} {o : Nat} {ad : Nat → Nat} {S : aS}
set_option maxRecDepth 20000 in
set_option maxHeartbeats 4000000 in
theorem c_merge (hk : gKok D vwCl (cyT cy) K) (hm : mOk o ad) (hI : aI S) (p : Int32) (q : Int32) (hb : S.1 4 + 100 ≤ 39000) : gCt l D vwCl K yX10_merge wsX10_merge { frames := 4, cells := 0, slots := 0, locals := 91 } [.ref o, .int p, .int q] (mL o ad) (mW o ad cy S) (pE (some (.int (s_merge S p q).1)) (mL o ad) (mW o ad cy (s_merge S p q).2)) := by
  refine gCt.of hk (by decide) rfl rfl (fun X hC hR hnm => ?_)
  have hC : gC X l _ D vwCl (cyT cy) K cX10_merge 10 wsX10_merge RX10 := hC
  have hin : ∀ w ∈ wsX100, w ∈ wsX10_merge := by decide +kernel
  show gW X vwCl 10 (mL o ad) (mW o ad cy S) 0 0 0 [(0, .ref o), (1, .int p), (2, .int q)] []
  have hnb := hI.nb
  refine g_aload_n hC dX10_merge_0 rfl 0 rfl (Or.inr ⟨_, rfl⟩) ?_
  refine g_iconst hC dX10_merge_1 (v := nI 0) (by decide) ?_
  refine m_put_0 (x := 0) hC hin (by decide +kernel) dX10_merge_2 ?_
  refine g_iload_n hC dX10_merge_5 rfl 1 rfl ?_
  refine g_S (As := [.int p]) (st := []) hC 1 dX10_merge_6 gX10_merge_X10_isPlace rfl (by decide +kernel) ⟨Nat.le_of_ble_eq_true rfl, Nat.le_of_ble_eq_true rfl⟩ rfl (Nat.le_of_ble_eq_true rfl) ⟨Nat.le_of_ble_eq_true rfl, Nat.le_of_ble_eq_true rfl⟩ (c2 := 0) (s2 := 0) rfl rfl (c_isPlace hk _) ?_
  refine g_ifB_eq (P := isP p) (tgt := 19) hC dX10_merge_9 (by decide) (fun h9 => ?_) (fun h9 => ?_)
  · refine g_iconst hC dX10_merge_19 (v := (-1)) (by decide) ?_
    exact g_iret hC hR dX10_merge_20 (pE_i (by simp only [s_merge]; (repeat' split) <;> first | with_reducible rfl | contradiction | (exfalso; omega) | (rw [bI_t (by first | assumption | omega)]; rfl) | (rw [bI_f (by first | assumption | omega)]; rfl) | (exfalso; rename_i hz; exact absurd hz (by decide)) | (exfalso; rename_i hz; first | exact absurd hz.1 (by assumption) | exact absurd hz.2 (by assumption)) | (exfalso; simp only [Int32.lt_iff_toInt_lt, Int32.le_iff_toInt_le] at *; omega) | (exfalso; simp_all; done) | (simp_all; done) | rfl))
  · obtain ⟨pj, hpj, rfl⟩ := isP_j h9
    have hpl_p : pl (nI pj) = pj := nI_clamp (by omega)
    have h5_p := hI.k5 hpj
    have hw_p := hI.wb hpj
    refine g_iload_n hC dX10_merge_12 rfl 2 rfl ?_
    refine g_S (As := [.int q]) (st := []) hC 1 dX10_merge_13 gX10_merge_X10_isPlace rfl (by decide +kernel) ⟨Nat.le_of_ble_eq_true rfl, Nat.le_of_ble_eq_true rfl⟩ rfl (Nat.le_of_ble_eq_true rfl) ⟨Nat.le_of_ble_eq_true rfl, Nat.le_of_ble_eq_true rfl⟩ (c2 := 0) (s2 := 0) rfl rfl (c_isPlace hk _) ?_
    refine g_ifB_ne (P := isP q) (tgt := 21) hC dX10_merge_16 (by decide) (fun h16 => ?_) (fun h16 => ?_)
    · obtain ⟨qj, hqj, rfl⟩ := isP_j h16
      have hpl_q : pl (nI qj) = qj := nI_clamp (by omega)
      have h5_q := hI.k5 hqj
      have hw_q := hI.wb hqj
      refine g_aload_n hC dX10_merge_21 rfl 0 rfl (Or.inr ⟨_, rfl⟩) ?_
      refine g_iload_n hC dX10_merge_22 rfl 1 rfl ?_
      refine g_iload_n hC dX10_merge_23 rfl 2 rfl ?_
      refine g_iconst hC dX10_merge_24 (v := nI 4) (by decide) ?_
      have hbf : bthF S pj qj 4 ≤ 2 := bthF_2
      refine g_V (As := [.int (nI pj), .int (nI qj), .int (nI 4)]) (st := []) hC 3 dX10_merge_25 rfl mL_o mW_o gX10_merge_X10_bothFault rfl (by decide +kernel) ⟨Nat.le_of_ble_eq_true rfl, Nat.le_of_ble_eq_true rfl⟩ rfl (Nat.le_of_ble_eq_true rfl) ⟨Nat.le_of_ble_eq_true rfl, Nat.le_of_ble_eq_true rfl⟩ (c2 := 0) (s2 := 0) rfl rfl (c_bothFault hk hm pj qj 4 (by omega) hpj (hI.k5 hpj) hqj (hI.k5 hqj)) ?_
      refine g_istore_n (lv' := [(3, .int (nI (bthF S pj qj 4))), (0, .ref o), (1, .int (nI pj)), (2, .int (nI qj))]) hC dX10_merge_28 rfl (by decide) rfl ?_
      refine g_iload_n hC dX10_merge_29 rfl 0 rfl ?_
      refine g_ifN_le (a := bthF S pj qj 4) (tgt := 39) hC dX10_merge_30 (by decide) (by omega) (fun h30 => ?_) (fun h30 => ?_)
      · have hb0 : castF S pj 4 = 0 ∧ castF S qj 4 = 0 := by have a1 : castF S pj 4 ≤ 2 := castF_2; have a2 : castF S qj 4 ≤ 2 := castF_2; unfold bthF at h30; (repeat' split at h30) <;> omega
        have hc0 := castF_0 hb0.1
        have hc1 := castF_0 hb0.2
        have hc2 := hc0.2
        have hc3 := hc1.2
        have ht := hI.wt hpj (by omega)
        have hu := hI.wt hqj (by omega)
        have hum := (hI.tk hu).2.1
        have eM : s_merge S (nI pj) (nI qj) = mgG (wh S pj) (wh S qj) (S.2.1 16 (wh S qj)) 0 0 (thS S) := by simp only [s_merge, hpl_p, hpl_q]; rw [if_pos h9, if_pos h16, if_neg (by omega)]
        have lp : ∀ (m : Nat) (k n : Nat) (S9 : aS), S.2.1 16 (wh S qj) - k < m → (k ≤ S.2.1 16 (wh S qj)) → (aI S9) → (S9.1 13 = S.1 13) → (S9.1 4 + (S.2.1 16 (wh S qj) - k) ≤ 39000) → (S.2.1 16 (wh S qj) ≤ S9.2.1 16 (wh S qj)) → (mgG (wh S pj) (wh S qj) (S.2.1 16 (wh S qj) - k) k n S9 = mgG (wh S pj) (wh S qj) (S.2.1 16 (wh S qj)) 0 0 (thS S)) → gW X vwCl 10 (mL o ad) (mW o ad cy S9) 0 0 70 [(8, .int (nI k)), (7, .int (nI (S.2.1 16 (wh S qj)))), (6, .int (nI n)), (5, .int (nI (wh S qj))), (4, .int (nI (wh S pj))), (3, .int (nI (bthF S pj qj 4))), (0, .ref o), (1, .int (nI pj)), (2, .int (nI qj))] [] := by
          intro m
          induction m with
          | zero => intros; omega
          | succ m ih =>
            intro k n S9 hm9 hk9 hI9 e13 hb9 hm8 hg
            have h13 : S9.1 13 ≤ 515 := hI9.nb.2.2.2.1
            have ht9 : wh S pj < S9.1 13 := by omega
            have hu9 : wh S qj < S9.1 13 := by omega
            refine g_iload hC dX10_merge_70 0 rfl ?_
            refine g_iload hC dX10_merge_72 1 rfl ?_
            refine g_icmpN_ge (a := k) (b := S.2.1 16 (wh S qj)) (tgt := 134) hC dX10_merge_74 (by decide) (by omega) (by omega) (fun h74 => ?_) (fun h74 => ?_)
            · refine g_iload hC dX10_merge_134 2 rfl ?_
              exact g_iret hC hR dX10_merge_136 (pE_i (by rw [eM, ← hg, show S.2.1 16 (wh S qj) - k = 0 by omega]; rfl))
            · refine g_aload_n hC dX10_merge_77 rfl 6 rfl (Or.inr ⟨_, rfl⟩) ?_
              refine m_get_16 hC hin (by decide +kernel) dX10_merge_78 ?_
              refine g_iload hC dX10_merge_81 4 rfl ?_
              refine m_aldN (k := 16) (j := wh S pj) hC hm (by decide) rfl rfl rfl dX10_merge_83 (show _ < 520 from (by omega)) ?_
              refine g_istore (lv' := [(9, .int (nI (S9.2.1 16 (wh S pj)))), (8, .int (nI k)), (7, .int (nI (S.2.1 16 (wh S qj)))), (6, .int (nI n)), (5, .int (nI (wh S qj))), (4, .int (nI (wh S pj))), (3, .int (nI (bthF S pj qj 4))), (0, .ref o), (1, .int (nI pj)), (2, .int (nI qj))]) hC dX10_merge_84 (by decide) rfl ?_
              refine g_aload_n hC dX10_merge_86 rfl 7 rfl (Or.inr ⟨_, rfl⟩) ?_
              refine g_iload hC dX10_merge_87 5 rfl ?_
              refine g_aload_n hC dX10_merge_89 rfl 7 rfl (Or.inr ⟨_, rfl⟩) ?_
              refine m_get_20 hC hin (by decide +kernel) dX10_merge_90 ?_
              refine g_bipush hC dX10_merge_93 (v := nI 100) (by decide) ?_
              refine g_iload hC dX10_merge_95 4 rfl ?_
              refine g_imulN (a := 100) (b := wh S qj) hC dX10_merge_97 ?_
              refine g_iload hC dX10_merge_98 1 rfl ?_
              refine g_iaddN (a := 100 * (wh S qj)) (b := k) hC dX10_merge_100 ?_
              refine m_aldN (k := 20) (j := (100 * (wh S qj)) + k) hC hm (by decide) rfl rfl rfl dX10_merge_101 (show _ < 52000 from (by omega)) ?_
              have hr9 := hI9.tt hu9 (k := k) (by omega)
              obtain ⟨j1, j2, j3, j4, j5⟩ := aI_com hI9 (t := wh S pj) (r := S9.2.1 20 (100 * wh S qj + k)) ht9 hr9 (by omega)
              refine g_V (As := [.int (nI (wh S pj)), .int (nI (S9.2.1 20 ((100 * (wh S qj)) + k)))]) (st := []) hC 2 dX10_merge_102 rfl mL_o mW_o gX10_merge_X10_comes rfl (by decide +kernel) ⟨Nat.le_of_ble_eq_true rfl, Nat.le_of_ble_eq_true rfl⟩ rfl (Nat.le_of_ble_eq_true rfl) ⟨Nat.le_of_ble_eq_true rfl, Nat.le_of_ble_eq_true rfl⟩ (c2 := 0) (s2 := 0) rfl rfl (c_comes hk hm hI9 (wh S pj) (S9.2.1 20 (100 * wh S qj + k)) ht9 hr9) ?_
              refine g_bipush hC dX10_merge_105 (v := (-4)) (by decide) ?_
              refine g_icmp_ne (x := (comS S9 (wh S pj) (S9.2.1 20 (100 * wh S qj + k))).1) (y := (-4)) (tgt := 113) hC dX10_merge_107 (by decide) (fun h107 => ?_) (fun h107 => ?_)
              · refine g_iload hC dX10_merge_113 3 rfl ?_
                refine g_aload_n hC dX10_merge_115 rfl 7 rfl (Or.inr ⟨_, rfl⟩) ?_
                refine m_get_16 hC hin (by decide +kernel) dX10_merge_116 ?_
                refine g_iload hC dX10_merge_119 5 rfl ?_
                refine m_aldN (k := 16) (j := wh S pj) hC hm (by decide) rfl rfl rfl dX10_merge_121 (show _ < 520 from (by omega)) ?_
                refine g_iload hC dX10_merge_122 0 rfl ?_
                refine g_isubN (a := ((comS S9 (wh S pj) (S9.2.1 20 (100 * wh S qj + k))).2).2.1 16 (wh S pj)) (b := S9.2.1 16 (wh S pj)) hC (j5 (wh S pj)) dX10_merge_124 ?_
                refine g_iaddN (a := n) (b := (((comS S9 (wh S pj) (S9.2.1 20 (100 * wh S qj + k))).2).2.1 16 (wh S pj)) - (S9.2.1 16 (wh S pj))) hC dX10_merge_125 ?_
                refine g_istore (lv' := [(6, .int (nI (n + ((((comS S9 (wh S pj) (S9.2.1 20 (100 * wh S qj + k))).2).2.1 16 (wh S pj)) - (S9.2.1 16 (wh S pj)))))), (9, .int (nI (S9.2.1 16 (wh S pj)))), (8, .int (nI k)), (7, .int (nI (S.2.1 16 (wh S qj)))), (5, .int (nI (wh S qj))), (4, .int (nI (wh S pj))), (3, .int (nI (bthF S pj qj 4))), (0, .ref o), (1, .int (nI pj)), (2, .int (nI qj))]) hC dX10_merge_126 (by decide) rfl ?_
                refine g_iincN (n := 1) (a := k) (lv' := [(8, .int (nI (k + 1))), (6, .int (nI (n + ((((comS S9 (wh S pj) (S9.2.1 20 (100 * wh S qj + k))).2).2.1 16 (wh S pj)) - (S9.2.1 16 (wh S pj)))))), (9, .int (nI (S9.2.1 16 (wh S pj)))), (7, .int (nI (S.2.1 16 (wh S qj)))), (5, .int (nI (wh S qj))), (4, .int (nI (wh S pj))), (3, .int (nI (bthF S pj qj 4))), (0, .ref o), (1, .int (nI pj)), (2, .int (nI qj))]) hC dX10_merge_128 2 rfl (by decide) rfl ?_
                refine g_goto (tgt := 70) hC dX10_merge_131 (by decide) ?_
                have j6 := j5 (wh S pj)
                have j7 := j5 (wh S qj)
                refine g_lv (lv' := [(8, .int (nI (k + 1))), (7, .int (nI (S.2.1 16 (wh S qj)))), (6, .int (nI (n + ((((comS S9 (wh S pj) (S9.2.1 20 (100 * wh S qj + k))).2).2.1 16 (wh S pj)) - (S9.2.1 16 (wh S pj)))))), (5, .int (nI (wh S qj))), (4, .int (nI (wh S pj))), (3, .int (nI (bthF S pj qj 4))), (0, .ref o), (1, .int (nI pj)), (2, .int (nI qj))]) [0, 3, 1, 4, 5, 6, 7, 8, 9] rfl ?_
                exact ih (k + 1) (n + ((comS S9 (wh S pj) (S9.2.1 20 (100 * wh S qj + k))).2.2.1 16 (wh S pj) - S9.2.1 16 (wh S pj))) (comS S9 (wh S pj) (S9.2.1 20 (100 * wh S qj + k))).2 (by omega) (by omega) j1 (by omega) (by omega) (by omega) (by rw [← hg, show S.2.1 16 (wh S qj) - k = (S.2.1 16 (wh S qj) - (k + 1)) + 1 by omega, mgG, if_neg h107])
              · refine g_bipush hC dX10_merge_110 (v := (-4)) (by decide) ?_
                exact g_iret hC hR dX10_merge_112 (pE_i (by rw [eM, ← hg, show S.2.1 16 (wh S qj) - k = (S.2.1 16 (wh S qj) - (k + 1)) + 1 by omega, mgG, if_pos h107]))
        refine g_aload_n hC dX10_merge_39 rfl 1 rfl (Or.inr ⟨_, rfl⟩) ?_
        refine m_get_3 hC hin (by decide +kernel) dX10_merge_40 ?_
        refine g_iload_n hC dX10_merge_43 rfl 2 rfl ?_
        refine m_aldN (k := 3) (j := pj) hC hm (by decide) rfl rfl rfl dX10_merge_44 (show _ < 10 from (by omega)) ?_
        refine g_istore (lv' := [(4, .int (nI (wh S pj))), (3, .int (nI (bthF S pj qj 4))), (0, .ref o), (1, .int (nI pj)), (2, .int (nI qj))]) hC dX10_merge_45 (by decide) rfl ?_
        refine g_aload_n hC dX10_merge_47 rfl 2 rfl (Or.inr ⟨_, rfl⟩) ?_
        refine m_get_3 hC hin (by decide +kernel) dX10_merge_48 ?_
        refine g_iload_n hC dX10_merge_51 rfl 4 rfl ?_
        refine m_aldN (k := 3) (j := qj) hC hm (by decide) rfl rfl rfl dX10_merge_52 (show _ < 10 from (by omega)) ?_
        refine g_istore (lv' := [(5, .int (nI (wh S qj))), (4, .int (nI (wh S pj))), (3, .int (nI (bthF S pj qj 4))), (0, .ref o), (1, .int (nI pj)), (2, .int (nI qj))]) hC dX10_merge_53 (by decide) rfl ?_
        refine g_iconst hC dX10_merge_55 (v := nI 0) (by decide) ?_
        refine g_istore (lv' := [(6, .int (nI 0)), (5, .int (nI (wh S qj))), (4, .int (nI (wh S pj))), (3, .int (nI (bthF S pj qj 4))), (0, .ref o), (1, .int (nI pj)), (2, .int (nI qj))]) hC dX10_merge_56 (by decide) rfl ?_
        refine g_aload_n hC dX10_merge_58 rfl 4 rfl (Or.inr ⟨_, rfl⟩) ?_
        refine m_get_16 hC hin (by decide +kernel) dX10_merge_59 ?_
        refine g_iload hC dX10_merge_62 1 rfl ?_
        refine m_aldN (k := 16) (j := wh S qj) hC hm (by decide) rfl rfl rfl dX10_merge_64 (show _ < 520 from (by omega)) ?_
        refine g_istore (lv' := [(7, .int (nI (S.2.1 16 (wh S qj)))), (6, .int (nI 0)), (5, .int (nI (wh S qj))), (4, .int (nI (wh S pj))), (3, .int (nI (bthF S pj qj 4))), (0, .ref o), (1, .int (nI pj)), (2, .int (nI qj))]) hC dX10_merge_65 (by decide) rfl ?_
        refine g_iconst hC dX10_merge_67 (v := nI 0) (by decide) ?_
        refine g_istore (lv' := [(8, .int (nI 0)), (7, .int (nI (S.2.1 16 (wh S qj)))), (6, .int (nI 0)), (5, .int (nI (wh S qj))), (4, .int (nI (wh S pj))), (3, .int (nI (bthF S pj qj 4))), (0, .ref o), (1, .int (nI pj)), (2, .int (nI qj))]) hC dX10_merge_68 (by decide) rfl ?_
        exact lp (S.2.1 16 (wh S qj) + 1) 0 0 (aSc S 0 0) (by omega) (by omega) hI.th rfl (by show S.1 4 + _ ≤ _; omega) (Nat.le_refl _) rfl
      · refine g_aload_n hC dX10_merge_33 rfl 1 rfl (Or.inr ⟨_, rfl⟩) ?_
        refine g_iload_n hC dX10_merge_34 rfl 0 rfl ?_
        refine g_V (As := [.int (nI (bthF S pj qj 4))]) (st := []) hC 1 dX10_merge_35 rfl mL_o mW_o gX10_merge_X10_fails rfl (by decide +kernel) ⟨Nat.le_of_ble_eq_true rfl, Nat.le_of_ble_eq_true rfl⟩ rfl (Nat.le_of_ble_eq_true rfl) ⟨Nat.le_of_ble_eq_true rfl, Nat.le_of_ble_eq_true rfl⟩ (c2 := 0) (s2 := 0) rfl rfl (c_fails hk hm (bthF S pj qj 4)) ?_
        exact g_iret hC hR dX10_merge_38 (pE_i (by simp only [s_merge, hpl_p, hpl_q]; (repeat' split) <;> first | with_reducible rfl | contradiction | (exfalso; omega) | (rw [bI_t (by first | assumption | omega)]; rfl) | (rw [bI_f (by first | assumption | omega)]; rfl) | (exfalso; rename_i hz; exact absurd hz (by decide)) | (exfalso; rename_i hz; first | exact absurd hz.1 (by assumption) | exact absurd hz.2 (by assumption)) | (exfalso; simp only [Int32.lt_iff_toInt_lt, Int32.le_iff_toInt_le] at *; omega) | (exfalso; simp_all; done) | (simp_all; done) | rfl))
    · refine g_iconst hC dX10_merge_19 (v := (-1)) (by decide) ?_
      exact g_iret hC hR dX10_merge_20 (pE_i (by simp only [s_merge, hpl_p]; (repeat' split) <;> first | with_reducible rfl | contradiction | (exfalso; omega) | (rw [bI_t (by first | assumption | omega)]; rfl) | (rw [bI_f (by first | assumption | omega)]; rfl) | (exfalso; rename_i hz; exact absurd hz (by decide)) | (exfalso; rename_i hz; first | exact absurd hz.1 (by assumption) | exact absurd hz.2 (by assumption)) | (exfalso; simp only [Int32.lt_iff_toInt_lt, Int32.le_iff_toInt_le] at *; omega) | (exfalso; simp_all; done) | (simp_all; done) | rfl))
end M3
