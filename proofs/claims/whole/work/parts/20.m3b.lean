section M3
variable {l : Launch} {D : va_G} {cy : Nat → ClassId} {K : gKt} {o : Nat} {ad : Nat → Nat} {S : aS}
set_option maxRecDepth 20000 in
set_option maxHeartbeats 4000000 in
theorem c_get (hk : gKok D vwCl (cyT cy) K) (hm : mOk o ad) (hI : aI S) (p : Int32) (t : Int32) (i : Int32) : gCt l D vwCl K yX10_get wsX10_get { frames := 2, cells := 0, slots := 0, locals := 44 } [.ref o, .int p, .int t, .int i] (mL o ad) (mW o ad cy S) (pE (some (.long (s_get S p t i).1)) (mL o ad) (mW o ad cy (s_get S p t i).2)) := by
  refine gCt.of hk (by decide) rfl rfl (fun X hC hR hnm => ?_)
  have hC : gC X l _ D vwCl (cyT cy) K cX10_get 5 wsX10_get RX10 := hC
  have hin : ∀ w ∈ wsX100, w ∈ wsX10_get := by decide +kernel
  show gW X vwCl 5 (mL o ad) (mW o ad cy S) 0 0 0 [(0, .ref o), (1, .int p), (2, .int t), (3, .int i)] []
  have hnb := hI.nb
  refine g_aload_n hC dX10_get_0 rfl 0 rfl (Or.inr ⟨_, rfl⟩) ?_
  refine g_iconst hC dX10_get_1 (v := nI 0) (by decide) ?_
  refine m_put_0 (x := 0) hC hin (by decide +kernel) dX10_get_2 ?_
  refine g_iload_n hC dX10_get_5 rfl 1 rfl ?_
  refine g_S (As := [.int p]) (st := []) hC 1 dX10_get_6 gX10_get_X10_isPlace rfl (by decide +kernel) ⟨Nat.le_of_ble_eq_true rfl, Nat.le_of_ble_eq_true rfl⟩ rfl (Nat.le_of_ble_eq_true rfl) ⟨Nat.le_of_ble_eq_true rfl, Nat.le_of_ble_eq_true rfl⟩ (c2 := 0) (s2 := 0) rfl rfl (c_isPlace hk _) ?_
  refine g_ifB_eq (P := isP p) (tgt := 21) hC dX10_get_9 (by decide) (fun h9 => ?_) (fun h9 => ?_)
  · refine g_ldc2 (v := -9223372036854775808) hC (by decide +kernel) dX10_get_21 ?_
    exact g_lret hC hR dX10_get_24 (pE_l (by simp only [s_get]; (repeat' split) <;> first | with_reducible rfl | contradiction | (exfalso; omega) | (rw [bI_t (by first | assumption | omega)]; rfl) | (rw [bI_f (by first | assumption | omega)]; rfl) | (exfalso; rename_i hz; exact absurd hz (by decide)) | (exfalso; rename_i hz; first | exact absurd hz.1 (by assumption) | exact absurd hz.2 (by assumption)) | (exfalso; simp only [Int32.lt_iff_toInt_lt, Int32.le_iff_toInt_le] at *; omega) | (exfalso; simp_all; done) | (simp_all; done) | rfl))
  · obtain ⟨pj, hpj, rfl⟩ := isP_j h9
    have hpl_p : pl (nI pj) = pj := nI_clamp (by omega)
    have h5_p := hI.k5 hpj
    have hw_p := hI.wb hpj
    refine g_iload_n hC dX10_get_12 rfl 2 rfl ?_
    refine g_iconst hC dX10_get_13 (v := nI 1) (by decide) ?_
    refine g_iconst hC dX10_get_14 (v := nI 2) (by decide) ?_
    refine g_S (As := [.int t, .int (nI 1), .int (nI 2)]) (st := []) hC 3 dX10_get_15 gX10_get_X10_in rfl (by decide +kernel) ⟨Nat.le_of_ble_eq_true rfl, Nat.le_of_ble_eq_true rfl⟩ rfl (Nat.le_of_ble_eq_true rfl) ⟨Nat.le_of_ble_eq_true rfl, Nat.le_of_ble_eq_true rfl⟩ (c2 := 0) (s2 := 0) rfl rfl (c_in hk _ _ _) ?_
    refine g_ifB_ne (P := nI 1 ≤ t ∧ t ≤ nI 2) (tgt := 25) hC dX10_get_18 (by decide) (fun h18 => ?_) (fun h18 => ?_)
    · obtain ⟨tj, ht1, ht2, rfl⟩ := ty_j (lo := 1) (hi := 2) (by decide) h18 (by decide)
      rcases (show tj = 1 ∨ tj = 2 by omega) with rfl | rfl
      · have hpl_t : pl (nI 1) = 1 := by decide
        refine g_aload_n hC dX10_get_25 rfl 0 rfl (Or.inr ⟨_, rfl⟩) ?_
        refine g_iload_n hC dX10_get_26 rfl 1 rfl ?_
        refine g_iload_n hC dX10_get_27 rfl 2 rfl ?_
        have hcf_pj_1 : castF S pj 1 ≤ 2 := castF_2
        refine g_V (As := [.int (nI pj), .int (nI 1)]) (st := []) hC 2 dX10_get_28 rfl mL_o mW_o gX10_get_X10_castFault rfl (by decide +kernel) ⟨Nat.le_of_ble_eq_true rfl, Nat.le_of_ble_eq_true rfl⟩ rfl (Nat.le_of_ble_eq_true rfl) ⟨Nat.le_of_ble_eq_true rfl, Nat.le_of_ble_eq_true rfl⟩ (c2 := 0) (s2 := 0) rfl rfl (c_castFault hk hm pj 1 (by omega) hpj (hI.k5 hpj)) ?_
        refine g_istore (lv' := [(4, .int (nI (castF S pj 1))), (0, .ref o), (1, .int (nI pj)), (2, .int (nI 1)), (3, .int i)]) hC dX10_get_31 (by decide) rfl ?_
        refine g_iload hC dX10_get_33 0 rfl ?_
        refine g_ifN_le (a := castF S pj 1) (tgt := 45) hC dX10_get_35 (by decide) (by omega) (fun h35 => ?_) (fun h35 => ?_)
        · have hc0_pj := castF_0 h35
          have hc1_pj := hc0_pj.2
          have hl_pj := hI.lg hpj hc0_pj.1 (by omega)
          have hwk_pj := hI.wl hpj (by omega)
          refine g_iload_n hC dX10_get_45 rfl 4 rfl ?_
          refine g_iconst hC dX10_get_46 (v := nI 0) (by decide) ?_
          refine g_aload_n hC dX10_get_47 rfl 1 rfl (Or.inr ⟨_, rfl⟩) ?_
          refine g_iload_n hC dX10_get_48 rfl 2 rfl ?_
          refine g_V (As := [.int (nI pj)]) (st := [.int (nI 0), .int i]) hC 1 dX10_get_49 rfl mL_o mW_o gX10_get_X10_longOf rfl (by decide +kernel) ⟨Nat.le_of_ble_eq_true rfl, Nat.le_of_ble_eq_true rfl⟩ rfl (Nat.le_of_ble_eq_true rfl) ⟨Nat.le_of_ble_eq_true rfl, Nat.le_of_ble_eq_true rfl⟩ (c2 := 0) (s2 := 0) rfl rfl (c_longOf hk hm pj hpj (hI.k5 hpj) (hI.w1 hpj) (hI.w2 hpj)) ?_
          refine g_iconst hC dX10_get_52 (v := nI 1) (by decide) ?_
          refine g_isub hC dX10_get_53 ?_
          refine g_S (As := [.int i, .int (nI 0), .int (nI (longS S pj) - nI 1)]) (st := []) hC 3 dX10_get_54 gX10_get_X10_in rfl (by decide +kernel) ⟨Nat.le_of_ble_eq_true rfl, Nat.le_of_ble_eq_true rfl⟩ rfl (Nat.le_of_ble_eq_true rfl) ⟨Nat.le_of_ble_eq_true rfl, Nat.le_of_ble_eq_true rfl⟩ (c2 := 0) (s2 := 0) rfl rfl (c_in hk _ _ _) ?_
          refine g_ifB_eq (P := inR i (longS S pj)) (tgt := 70) hC dX10_get_57 (by decide) (fun h57 => ?_) (fun h57 => ?_)
          · refine g_aload_n hC dX10_get_70 rfl 1 rfl (Or.inr ⟨_, rfl⟩) ?_
            refine g_iconst hC dX10_get_71 (v := nI 3) (by decide) ?_
            refine g_V (As := [.int (nI 3)]) (st := []) hC 1 dX10_get_72 rfl mL_o mW_o gX10_get_X10_failsLong rfl (by decide +kernel) ⟨Nat.le_of_ble_eq_true rfl, Nat.le_of_ble_eq_true rfl⟩ rfl (Nat.le_of_ble_eq_true rfl) ⟨Nat.le_of_ble_eq_true rfl, Nat.le_of_ble_eq_true rfl⟩ (c2 := 0) (s2 := 0) rfl rfl (c_failsLong hk hm 3) ?_
            exact g_lret hC hR dX10_get_75 (pE_l (by simp only [s_get, hpl_p, hpl_t]; (repeat' split) <;> first | with_reducible rfl | contradiction | (exfalso; omega) | (rw [bI_t (by first | assumption | omega)]; rfl) | (rw [bI_f (by first | assumption | omega)]; rfl) | (exfalso; rename_i hz; exact absurd hz (by decide)) | (exfalso; rename_i hz; first | exact absurd hz.1 (by assumption) | exact absurd hz.2 (by assumption)) | (exfalso; simp only [Int32.lt_iff_toInt_lt, Int32.le_iff_toInt_le] at *; omega) | (exfalso; simp_all; done) | (simp_all; done) | rfl))
          · obtain ⟨ij, hij, rfl⟩ := (inR_j (n := (longS S pj)) (by omega)).mp h57
            have hpl_i : pl (nI ij) = ij := nI_clamp (by omega)
            refine g_aload_n hC dX10_get_60 rfl 1 rfl (Or.inr ⟨_, rfl⟩) ?_
            refine g_iload_n hC dX10_get_61 rfl 2 rfl ?_
            refine g_iload_n hC dX10_get_62 rfl 4 rfl ?_
            refine g_V (As := [.int (nI pj), .int (nI ij)]) (st := []) hC 2 dX10_get_63 rfl mL_o mW_o gX10_get_X10_at rfl (by decide +kernel) ⟨Nat.le_of_ble_eq_true rfl, Nat.le_of_ble_eq_true rfl⟩ rfl (Nat.le_of_ble_eq_true rfl) ⟨Nat.le_of_ble_eq_true rfl, Nat.le_of_ble_eq_true rfl⟩ (c2 := 0) (s2 := 0) rfl rfl (c_at hk hm pj ij (by omega) hpj (hI.k5 hpj) (hI.w1 hpj) (hI.w2 hpj)) ?_
            refine g_i2l hC dX10_get_66 rfl ?_
            refine g_goto (tgt := 75) hC dX10_get_67 (by decide) ?_
            exact g_lret hC hR dX10_get_75 (pE_l (by simp only [s_get, hpl_p, hpl_t, hpl_i]; (repeat' split) <;> first | with_reducible rfl | contradiction | (exfalso; omega) | (rw [bI_t (by first | assumption | omega)]; rfl) | (rw [bI_f (by first | assumption | omega)]; rfl) | (exfalso; rename_i hz; exact absurd hz (by decide)) | (exfalso; rename_i hz; first | exact absurd hz.1 (by assumption) | exact absurd hz.2 (by assumption)) | (exfalso; simp only [Int32.lt_iff_toInt_lt, Int32.le_iff_toInt_le] at *; omega) | (exfalso; simp_all; done) | (simp_all; done) | rfl))
        · refine g_aload_n hC dX10_get_38 rfl 1 rfl (Or.inr ⟨_, rfl⟩) ?_
          refine g_iload hC dX10_get_39 0 rfl ?_
          refine g_V (As := [.int (nI (castF S pj 1))]) (st := []) hC 1 dX10_get_41 rfl mL_o mW_o gX10_get_X10_failsLong rfl (by decide +kernel) ⟨Nat.le_of_ble_eq_true rfl, Nat.le_of_ble_eq_true rfl⟩ rfl (Nat.le_of_ble_eq_true rfl) ⟨Nat.le_of_ble_eq_true rfl, Nat.le_of_ble_eq_true rfl⟩ (c2 := 0) (s2 := 0) rfl rfl (c_failsLong hk hm (castF S pj 1)) ?_
          exact g_lret hC hR dX10_get_44 (pE_l (by simp only [s_get, hpl_p, hpl_t]; (repeat' split) <;> first | with_reducible rfl | contradiction | (exfalso; omega) | (rw [bI_t (by first | assumption | omega)]; rfl) | (rw [bI_f (by first | assumption | omega)]; rfl) | (exfalso; rename_i hz; exact absurd hz (by decide)) | (exfalso; rename_i hz; first | exact absurd hz.1 (by assumption) | exact absurd hz.2 (by assumption)) | (exfalso; simp only [Int32.lt_iff_toInt_lt, Int32.le_iff_toInt_le] at *; omega) | (exfalso; simp_all; done) | (simp_all; done) | rfl))
      · have hpl_t : pl (nI 2) = 2 := by decide
        refine g_aload_n hC dX10_get_25 rfl 0 rfl (Or.inr ⟨_, rfl⟩) ?_
        refine g_iload_n hC dX10_get_26 rfl 1 rfl ?_
        refine g_iload_n hC dX10_get_27 rfl 2 rfl ?_
        have hcf_pj_2 : castF S pj 2 ≤ 2 := castF_2
        refine g_V (As := [.int (nI pj), .int (nI 2)]) (st := []) hC 2 dX10_get_28 rfl mL_o mW_o gX10_get_X10_castFault rfl (by decide +kernel) ⟨Nat.le_of_ble_eq_true rfl, Nat.le_of_ble_eq_true rfl⟩ rfl (Nat.le_of_ble_eq_true rfl) ⟨Nat.le_of_ble_eq_true rfl, Nat.le_of_ble_eq_true rfl⟩ (c2 := 0) (s2 := 0) rfl rfl (c_castFault hk hm pj 2 (by omega) hpj (hI.k5 hpj)) ?_
        refine g_istore (lv' := [(4, .int (nI (castF S pj 2))), (0, .ref o), (1, .int (nI pj)), (2, .int (nI 2)), (3, .int i)]) hC dX10_get_31 (by decide) rfl ?_
        refine g_iload hC dX10_get_33 0 rfl ?_
        refine g_ifN_le (a := castF S pj 2) (tgt := 45) hC dX10_get_35 (by decide) (by omega) (fun h35 => ?_) (fun h35 => ?_)
        · have hc0_pj := castF_0 h35
          have hc1_pj := hc0_pj.2
          have hl_pj := hI.lg hpj hc0_pj.1 (by omega)
          have hwk_pj := hI.ws hpj (by omega)
          refine g_iload_n hC dX10_get_45 rfl 4 rfl ?_
          refine g_iconst hC dX10_get_46 (v := nI 0) (by decide) ?_
          refine g_aload_n hC dX10_get_47 rfl 1 rfl (Or.inr ⟨_, rfl⟩) ?_
          refine g_iload_n hC dX10_get_48 rfl 2 rfl ?_
          refine g_V (As := [.int (nI pj)]) (st := [.int (nI 0), .int i]) hC 1 dX10_get_49 rfl mL_o mW_o gX10_get_X10_longOf rfl (by decide +kernel) ⟨Nat.le_of_ble_eq_true rfl, Nat.le_of_ble_eq_true rfl⟩ rfl (Nat.le_of_ble_eq_true rfl) ⟨Nat.le_of_ble_eq_true rfl, Nat.le_of_ble_eq_true rfl⟩ (c2 := 0) (s2 := 0) rfl rfl (c_longOf hk hm pj hpj (hI.k5 hpj) (hI.w1 hpj) (hI.w2 hpj)) ?_
          refine g_iconst hC dX10_get_52 (v := nI 1) (by decide) ?_
          refine g_isub hC dX10_get_53 ?_
          refine g_S (As := [.int i, .int (nI 0), .int (nI (longS S pj) - nI 1)]) (st := []) hC 3 dX10_get_54 gX10_get_X10_in rfl (by decide +kernel) ⟨Nat.le_of_ble_eq_true rfl, Nat.le_of_ble_eq_true rfl⟩ rfl (Nat.le_of_ble_eq_true rfl) ⟨Nat.le_of_ble_eq_true rfl, Nat.le_of_ble_eq_true rfl⟩ (c2 := 0) (s2 := 0) rfl rfl (c_in hk _ _ _) ?_
          refine g_ifB_eq (P := inR i (longS S pj)) (tgt := 70) hC dX10_get_57 (by decide) (fun h57 => ?_) (fun h57 => ?_)
          · refine g_aload_n hC dX10_get_70 rfl 1 rfl (Or.inr ⟨_, rfl⟩) ?_
            refine g_iconst hC dX10_get_71 (v := nI 3) (by decide) ?_
            refine g_V (As := [.int (nI 3)]) (st := []) hC 1 dX10_get_72 rfl mL_o mW_o gX10_get_X10_failsLong rfl (by decide +kernel) ⟨Nat.le_of_ble_eq_true rfl, Nat.le_of_ble_eq_true rfl⟩ rfl (Nat.le_of_ble_eq_true rfl) ⟨Nat.le_of_ble_eq_true rfl, Nat.le_of_ble_eq_true rfl⟩ (c2 := 0) (s2 := 0) rfl rfl (c_failsLong hk hm 3) ?_
            exact g_lret hC hR dX10_get_75 (pE_l (by simp only [s_get, hpl_p, hpl_t]; (repeat' split) <;> first | with_reducible rfl | contradiction | (exfalso; omega) | (rw [bI_t (by first | assumption | omega)]; rfl) | (rw [bI_f (by first | assumption | omega)]; rfl) | (exfalso; rename_i hz; exact absurd hz (by decide)) | (exfalso; rename_i hz; first | exact absurd hz.1 (by assumption) | exact absurd hz.2 (by assumption)) | (exfalso; simp only [Int32.lt_iff_toInt_lt, Int32.le_iff_toInt_le] at *; omega) | (exfalso; simp_all; done) | (simp_all; done) | rfl))
          · obtain ⟨ij, hij, rfl⟩ := (inR_j (n := (longS S pj)) (by omega)).mp h57
            have hpl_i : pl (nI ij) = ij := nI_clamp (by omega)
            refine g_aload_n hC dX10_get_60 rfl 1 rfl (Or.inr ⟨_, rfl⟩) ?_
            refine g_iload_n hC dX10_get_61 rfl 2 rfl ?_
            refine g_iload_n hC dX10_get_62 rfl 4 rfl ?_
            refine g_V (As := [.int (nI pj), .int (nI ij)]) (st := []) hC 2 dX10_get_63 rfl mL_o mW_o gX10_get_X10_at rfl (by decide +kernel) ⟨Nat.le_of_ble_eq_true rfl, Nat.le_of_ble_eq_true rfl⟩ rfl (Nat.le_of_ble_eq_true rfl) ⟨Nat.le_of_ble_eq_true rfl, Nat.le_of_ble_eq_true rfl⟩ (c2 := 0) (s2 := 0) rfl rfl (c_at hk hm pj ij (by omega) hpj (hI.k5 hpj) (hI.w1 hpj) (hI.w2 hpj)) ?_
            refine g_i2l hC dX10_get_66 rfl ?_
            refine g_goto (tgt := 75) hC dX10_get_67 (by decide) ?_
            exact g_lret hC hR dX10_get_75 (pE_l (by simp only [s_get, hpl_p, hpl_t, hpl_i]; (repeat' split) <;> first | with_reducible rfl | contradiction | (exfalso; omega) | (rw [bI_t (by first | assumption | omega)]; rfl) | (rw [bI_f (by first | assumption | omega)]; rfl) | (exfalso; rename_i hz; exact absurd hz (by decide)) | (exfalso; rename_i hz; first | exact absurd hz.1 (by assumption) | exact absurd hz.2 (by assumption)) | (exfalso; simp only [Int32.lt_iff_toInt_lt, Int32.le_iff_toInt_le] at *; omega) | (exfalso; simp_all; done) | (simp_all; done) | rfl))
        · refine g_aload_n hC dX10_get_38 rfl 1 rfl (Or.inr ⟨_, rfl⟩) ?_
          refine g_iload hC dX10_get_39 0 rfl ?_
          refine g_V (As := [.int (nI (castF S pj 2))]) (st := []) hC 1 dX10_get_41 rfl mL_o mW_o gX10_get_X10_failsLong rfl (by decide +kernel) ⟨Nat.le_of_ble_eq_true rfl, Nat.le_of_ble_eq_true rfl⟩ rfl (Nat.le_of_ble_eq_true rfl) ⟨Nat.le_of_ble_eq_true rfl, Nat.le_of_ble_eq_true rfl⟩ (c2 := 0) (s2 := 0) rfl rfl (c_failsLong hk hm (castF S pj 2)) ?_
          exact g_lret hC hR dX10_get_44 (pE_l (by simp only [s_get, hpl_p, hpl_t]; (repeat' split) <;> first | with_reducible rfl | contradiction | (exfalso; omega) | (rw [bI_t (by first | assumption | omega)]; rfl) | (rw [bI_f (by first | assumption | omega)]; rfl) | (exfalso; rename_i hz; exact absurd hz (by decide)) | (exfalso; rename_i hz; first | exact absurd hz.1 (by assumption) | exact absurd hz.2 (by assumption)) | (exfalso; simp only [Int32.lt_iff_toInt_lt, Int32.le_iff_toInt_le] at *; omega) | (exfalso; simp_all; done) | (simp_all; done) | rfl))
    · refine g_ldc2 (v := -9223372036854775808) hC (by decide +kernel) dX10_get_21 ?_
      exact g_lret hC hR dX10_get_24 (pE_l (by simp only [s_get, hpl_p]; (repeat' split) <;> first | with_reducible rfl | contradiction | (exfalso; omega) | (rw [bI_t (by first | assumption | omega)]; rfl) | (rw [bI_f (by first | assumption | omega)]; rfl) | (exfalso; rename_i hz; exact absurd hz (by decide)) | (exfalso; rename_i hz; first | exact absurd hz.1 (by assumption) | exact absurd hz.2 (by assumption)) | (exfalso; simp only [Int32.lt_iff_toInt_lt, Int32.le_iff_toInt_le] at *; omega) | (exfalso; simp_all; done) | (simp_all; done) | rfl))
set_option maxRecDepth 20000 in
set_option maxHeartbeats 4000000 in
theorem c_set (hk : gKok D vwCl (cyT cy) K) (hm : mOk o ad) (hI : aI S) (p : Int32) (t : Int32) (i : Int32) (v : Int32) : gCt l D vwCl K yX10_set wsX10_set { frames := 2, cells := 0, slots := 0, locals := 44 } [.ref o, .int p, .int t, .int i, .int v] (mL o ad) (mW o ad cy S) (pE (some (.int (s_set S p t i v).1)) (mL o ad) (mW o ad cy (s_set S p t i v).2)) := by
  refine gCt.of hk (by decide) rfl rfl (fun X hC hR hnm => ?_)
  have hC : gC X l _ D vwCl (cyT cy) K cX10_set 6 wsX10_set RX10 := hC
  have hin : ∀ w ∈ wsX100, w ∈ wsX10_set := by decide +kernel
  show gW X vwCl 6 (mL o ad) (mW o ad cy S) 0 0 0 [(0, .ref o), (1, .int p), (2, .int t), (3, .int i), (4, .int v)] []
  have hnb := hI.nb
  refine g_aload_n hC dX10_set_0 rfl 0 rfl (Or.inr ⟨_, rfl⟩) ?_
  refine g_iconst hC dX10_set_1 (v := nI 0) (by decide) ?_
  refine m_put_0 (x := 0) hC hin (by decide +kernel) dX10_set_2 ?_
  refine g_iload_n hC dX10_set_5 rfl 1 rfl ?_
  refine g_S (As := [.int p]) (st := []) hC 1 dX10_set_6 gX10_set_X10_isPlace rfl (by decide +kernel) ⟨Nat.le_of_ble_eq_true rfl, Nat.le_of_ble_eq_true rfl⟩ rfl (Nat.le_of_ble_eq_true rfl) ⟨Nat.le_of_ble_eq_true rfl, Nat.le_of_ble_eq_true rfl⟩ (c2 := 0) (s2 := 0) rfl rfl (c_isPlace hk _) ?_
  refine g_ifB_ne (P := isP p) (tgt := 14) hC dX10_set_9 (by decide) (fun h9 => ?_) (fun h9 => ?_)
  · obtain ⟨pj, hpj, rfl⟩ := isP_j h9
    have hpl_p : pl (nI pj) = pj := nI_clamp (by omega)
    have h5_p := hI.k5 hpj
    have hw_p := hI.wb hpj
    refine g_iload_n hC dX10_set_14 rfl 2 rfl ?_
    refine g_iconst hC dX10_set_15 (v := nI 1) (by decide) ?_
    refine g_iconst hC dX10_set_16 (v := nI 2) (by decide) ?_
    refine g_S (As := [.int t, .int (nI 1), .int (nI 2)]) (st := []) hC 3 dX10_set_17 gX10_set_X10_in rfl (by decide +kernel) ⟨Nat.le_of_ble_eq_true rfl, Nat.le_of_ble_eq_true rfl⟩ rfl (Nat.le_of_ble_eq_true rfl) ⟨Nat.le_of_ble_eq_true rfl, Nat.le_of_ble_eq_true rfl⟩ (c2 := 0) (s2 := 0) rfl rfl (c_in hk _ _ _) ?_
    refine g_ifB_ne (P := nI 1 ≤ t ∧ t ≤ nI 2) (tgt := 26) hC dX10_set_20 (by decide) (fun h20 => ?_) (fun h20 => ?_)
    · obtain ⟨tj, ht1, ht2, rfl⟩ := ty_j (lo := 1) (hi := 2) (by decide) h20 (by decide)
      rcases (show tj = 1 ∨ tj = 2 by omega) with rfl | rfl
      · have hpl_t : pl (nI 1) = 1 := by decide
        refine g_aload_n hC dX10_set_26 rfl 0 rfl (Or.inr ⟨_, rfl⟩) ?_
        refine g_iload_n hC dX10_set_27 rfl 1 rfl ?_
        refine g_iload_n hC dX10_set_28 rfl 2 rfl ?_
        have hcf_pj_1 : castF S pj 1 ≤ 2 := castF_2
        refine g_V (As := [.int (nI pj), .int (nI 1)]) (st := []) hC 2 dX10_set_29 rfl mL_o mW_o gX10_set_X10_castFault rfl (by decide +kernel) ⟨Nat.le_of_ble_eq_true rfl, Nat.le_of_ble_eq_true rfl⟩ rfl (Nat.le_of_ble_eq_true rfl) ⟨Nat.le_of_ble_eq_true rfl, Nat.le_of_ble_eq_true rfl⟩ (c2 := 0) (s2 := 0) rfl rfl (c_castFault hk hm pj 1 (by omega) hpj (hI.k5 hpj)) ?_
        refine g_istore (lv' := [(5, .int (nI (castF S pj 1))), (0, .ref o), (1, .int (nI pj)), (2, .int (nI 1)), (3, .int i), (4, .int v)]) hC dX10_set_32 (by decide) rfl ?_
        refine g_iload hC dX10_set_34 0 rfl ?_
        refine g_ifN_gt (a := castF S pj 1) (tgt := 54) hC dX10_set_36 (by decide) (by omega) (fun h36 => ?_) (fun h36 => ?_)
        · refine g_aload_n hC dX10_set_54 rfl 1 rfl (Or.inr ⟨_, rfl⟩) ?_
          refine g_iload hC dX10_set_55 0 rfl ?_
          refine g_ifN_le (a := castF S pj 1) (tgt := 65) hC dX10_set_57 (by decide) (by omega) (fun h57 => ?_) (fun h57 => ?_)
          · have hc0_pj := castF_0 h57
            have hc1_pj := hc0_pj.2
            have hl_pj := hI.lg hpj hc0_pj.1 (by omega)
            have hwk_pj := hI.wl hpj (by omega)
            refine g_iconst hC dX10_set_65 (v := nI 3) (by decide) ?_
            refine g_V (As := [.int (nI 3)]) (st := []) hC 1 dX10_set_66 rfl mL_o mW_o gX10_set_X10_fails rfl (by decide +kernel) ⟨Nat.le_of_ble_eq_true rfl, Nat.le_of_ble_eq_true rfl⟩ rfl (Nat.le_of_ble_eq_true rfl) ⟨Nat.le_of_ble_eq_true rfl, Nat.le_of_ble_eq_true rfl⟩ (c2 := 0) (s2 := 0) rfl rfl (c_fails hk hm 3) ?_
            exact g_iret hC hR dX10_set_69 (pE_i (by simp only [s_set, hpl_p, hpl_t]; (repeat' split) <;> first | with_reducible rfl | contradiction | (exfalso; omega) | (rw [bI_t (by first | assumption | omega)]; rfl) | (rw [bI_f (by first | assumption | omega)]; rfl) | (exfalso; rename_i hz; exact absurd hz (by decide)) | (exfalso; rename_i hz; first | exact absurd hz.1 (by assumption) | exact absurd hz.2 (by assumption)) | (exfalso; simp only [Int32.lt_iff_toInt_lt, Int32.le_iff_toInt_le] at *; omega) | (exfalso; simp_all; done) | (simp_all; done) | rfl))
          · refine g_iload hC dX10_set_60 0 rfl ?_
            refine g_goto (tgt := 66) hC dX10_set_62 (by decide) ?_
            refine g_V (As := [.int (nI (castF S pj 1))]) (st := []) hC 1 dX10_set_66 rfl mL_o mW_o gX10_set_X10_fails rfl (by decide +kernel) ⟨Nat.le_of_ble_eq_true rfl, Nat.le_of_ble_eq_true rfl⟩ rfl (Nat.le_of_ble_eq_true rfl) ⟨Nat.le_of_ble_eq_true rfl, Nat.le_of_ble_eq_true rfl⟩ (c2 := 0) (s2 := 0) rfl rfl (c_fails hk hm (castF S pj 1)) ?_
            exact g_iret hC hR dX10_set_69 (pE_i (by simp only [s_set, hpl_p, hpl_t]; (repeat' split) <;> first | with_reducible rfl | contradiction | (exfalso; omega) | (rw [bI_t (by first | assumption | omega)]; rfl) | (rw [bI_f (by first | assumption | omega)]; rfl) | (exfalso; rename_i hz; exact absurd hz (by decide)) | (exfalso; rename_i hz; first | exact absurd hz.1 (by assumption) | exact absurd hz.2 (by assumption)) | (exfalso; simp only [Int32.lt_iff_toInt_lt, Int32.le_iff_toInt_le] at *; omega) | (exfalso; simp_all; done) | (simp_all; done) | rfl))
        · have hc0_pj := castF_0 h36
          have hc1_pj := hc0_pj.2
          have hl_pj := hI.lg hpj hc0_pj.1 (by omega)
          have hwk_pj := hI.wl hpj (by omega)
          refine g_iload_n hC dX10_set_39 rfl 4 rfl ?_
          refine g_iconst hC dX10_set_40 (v := nI 0) (by decide) ?_
          refine g_aload_n hC dX10_set_41 rfl 1 rfl (Or.inr ⟨_, rfl⟩) ?_
          refine g_iload_n hC dX10_set_42 rfl 2 rfl ?_
          refine g_V (As := [.int (nI pj)]) (st := [.int (nI 0), .int i]) hC 1 dX10_set_43 rfl mL_o mW_o gX10_set_X10_longOf rfl (by decide +kernel) ⟨Nat.le_of_ble_eq_true rfl, Nat.le_of_ble_eq_true rfl⟩ rfl (Nat.le_of_ble_eq_true rfl) ⟨Nat.le_of_ble_eq_true rfl, Nat.le_of_ble_eq_true rfl⟩ (c2 := 0) (s2 := 0) rfl rfl (c_longOf hk hm pj hpj (hI.k5 hpj) (hI.w1 hpj) (hI.w2 hpj)) ?_
          refine g_iconst hC dX10_set_46 (v := nI 1) (by decide) ?_
          refine g_isub hC dX10_set_47 ?_
          refine g_S (As := [.int i, .int (nI 0), .int (nI (longS S pj) - nI 1)]) (st := []) hC 3 dX10_set_48 gX10_set_X10_in rfl (by decide +kernel) ⟨Nat.le_of_ble_eq_true rfl, Nat.le_of_ble_eq_true rfl⟩ rfl (Nat.le_of_ble_eq_true rfl) ⟨Nat.le_of_ble_eq_true rfl, Nat.le_of_ble_eq_true rfl⟩ (c2 := 0) (s2 := 0) rfl rfl (c_in hk _ _ _) ?_
          refine g_ifB_ne (P := inR i (longS S pj)) (tgt := 70) hC dX10_set_51 (by decide) (fun h51 => ?_) (fun h51 => ?_)
          · obtain ⟨ij, hij, rfl⟩ := (inR_j (n := (longS S pj)) (by omega)).mp h51
            have hpl_i : pl (nI ij) = ij := nI_clamp (by omega)
            refine g_iload_n hC dX10_set_70 rfl 3 rfl ?_
            refine g_iconst hC dX10_set_71 (v := nI 1) (by decide) ?_
            refine g_icmpN_ne (a := 1) (b := 1) (tgt := 97) hC dX10_set_72 (by decide) (by omega) (by omega) (fun h72 => ?_) (fun h72 => ?_)
            · exfalso; omega
            · refine g_aload_n hC dX10_set_75 rfl 1 rfl (Or.inr ⟨_, rfl⟩) ?_
              refine m_get_6 hC hin (by decide +kernel) dX10_set_76 ?_
              refine g_bipush hC dX10_set_79 (v := nI 16) (by decide) ?_
              refine g_aload_n hC dX10_set_81 rfl 1 rfl (Or.inr ⟨_, rfl⟩) ?_
              refine m_get_3 hC hin (by decide +kernel) dX10_set_82 ?_
              refine g_iload_n hC dX10_set_85 rfl 2 rfl ?_
              refine m_aldN (k := 3) (j := pj) hC hm (by decide) rfl rfl rfl dX10_set_86 (show _ < 10 from (by omega)) ?_
              refine g_imulN (a := 16) (b := wh S pj) hC dX10_set_87 ?_
              refine g_iload_n hC dX10_set_88 rfl 4 rfl ?_
              refine g_iaddN (a := 16 * (wh S pj)) (b := ij) hC dX10_set_89 ?_
              refine g_iload hC dX10_set_90 5 rfl ?_
              refine g_i2b hC dX10_set_92 rfl ?_
              refine m_astW (k := 6) (j := (16 * (wh S pj)) + ij) (x := v.toInt8.toInt32) hC hm (by decide) rfl (fun _ => rfl) rfl dX10_set_93 (show _ < 640000 from (by omega)) ?_
              refine g_goto (tgt := 118) hC dX10_set_94 (by decide) ?_
              refine g_iconst hC dX10_set_118 (v := nI 1) (by decide) ?_
              exact g_iret hC hR dX10_set_119 (pE_i (by simp only [s_set, hpl_p, hpl_t, hpl_i]; (repeat' split) <;> first | with_reducible rfl | contradiction | (exfalso; omega) | (rw [bI_t (by first | assumption | omega)]; rfl) | (rw [bI_f (by first | assumption | omega)]; rfl) | (exfalso; rename_i hz; exact absurd hz (by decide)) | (exfalso; rename_i hz; first | exact absurd hz.1 (by assumption) | exact absurd hz.2 (by assumption)) | (exfalso; simp only [Int32.lt_iff_toInt_lt, Int32.le_iff_toInt_le] at *; omega) | (exfalso; simp_all; done) | (simp_all; done) | rfl))
          · refine g_aload_n hC dX10_set_54 rfl 1 rfl (Or.inr ⟨_, rfl⟩) ?_
            refine g_iload hC dX10_set_55 0 rfl ?_
            refine g_ifN_le (a := castF S pj 1) (tgt := 65) hC dX10_set_57 (by decide) (by omega) (fun h57 => ?_) (fun h57 => ?_)
            · have hc0_pj := castF_0 h57
              have hc1_pj := hc0_pj.2
              have hl_pj := hI.lg hpj hc0_pj.1 (by omega)
              have hwk_pj := hI.wl hpj (by omega)
              refine g_iconst hC dX10_set_65 (v := nI 3) (by decide) ?_
              refine g_V (As := [.int (nI 3)]) (st := []) hC 1 dX10_set_66 rfl mL_o mW_o gX10_set_X10_fails rfl (by decide +kernel) ⟨Nat.le_of_ble_eq_true rfl, Nat.le_of_ble_eq_true rfl⟩ rfl (Nat.le_of_ble_eq_true rfl) ⟨Nat.le_of_ble_eq_true rfl, Nat.le_of_ble_eq_true rfl⟩ (c2 := 0) (s2 := 0) rfl rfl (c_fails hk hm 3) ?_
              exact g_iret hC hR dX10_set_69 (pE_i (by simp only [s_set, hpl_p, hpl_t]; (repeat' split) <;> first | with_reducible rfl | contradiction | (exfalso; omega) | (rw [bI_t (by first | assumption | omega)]; rfl) | (rw [bI_f (by first | assumption | omega)]; rfl) | (exfalso; rename_i hz; exact absurd hz (by decide)) | (exfalso; rename_i hz; first | exact absurd hz.1 (by assumption) | exact absurd hz.2 (by assumption)) | (exfalso; simp only [Int32.lt_iff_toInt_lt, Int32.le_iff_toInt_le] at *; omega) | (exfalso; simp_all; done) | (simp_all; done) | rfl))
            · refine g_iload hC dX10_set_60 0 rfl ?_
              refine g_goto (tgt := 66) hC dX10_set_62 (by decide) ?_
              refine g_V (As := [.int (nI (castF S pj 1))]) (st := []) hC 1 dX10_set_66 rfl mL_o mW_o gX10_set_X10_fails rfl (by decide +kernel) ⟨Nat.le_of_ble_eq_true rfl, Nat.le_of_ble_eq_true rfl⟩ rfl (Nat.le_of_ble_eq_true rfl) ⟨Nat.le_of_ble_eq_true rfl, Nat.le_of_ble_eq_true rfl⟩ (c2 := 0) (s2 := 0) rfl rfl (c_fails hk hm (castF S pj 1)) ?_
              exact g_iret hC hR dX10_set_69 (pE_i (by simp only [s_set, hpl_p, hpl_t]; (repeat' split) <;> first | with_reducible rfl | contradiction | (exfalso; omega) | (rw [bI_t (by first | assumption | omega)]; rfl) | (rw [bI_f (by first | assumption | omega)]; rfl) | (exfalso; rename_i hz; exact absurd hz (by decide)) | (exfalso; rename_i hz; first | exact absurd hz.1 (by assumption) | exact absurd hz.2 (by assumption)) | (exfalso; simp only [Int32.lt_iff_toInt_lt, Int32.le_iff_toInt_le] at *; omega) | (exfalso; simp_all; done) | (simp_all; done) | rfl))
      · have hpl_t : pl (nI 2) = 2 := by decide
        refine g_aload_n hC dX10_set_26 rfl 0 rfl (Or.inr ⟨_, rfl⟩) ?_
        refine g_iload_n hC dX10_set_27 rfl 1 rfl ?_
        refine g_iload_n hC dX10_set_28 rfl 2 rfl ?_
        have hcf_pj_2 : castF S pj 2 ≤ 2 := castF_2
        refine g_V (As := [.int (nI pj), .int (nI 2)]) (st := []) hC 2 dX10_set_29 rfl mL_o mW_o gX10_set_X10_castFault rfl (by decide +kernel) ⟨Nat.le_of_ble_eq_true rfl, Nat.le_of_ble_eq_true rfl⟩ rfl (Nat.le_of_ble_eq_true rfl) ⟨Nat.le_of_ble_eq_true rfl, Nat.le_of_ble_eq_true rfl⟩ (c2 := 0) (s2 := 0) rfl rfl (c_castFault hk hm pj 2 (by omega) hpj (hI.k5 hpj)) ?_
        refine g_istore (lv' := [(5, .int (nI (castF S pj 2))), (0, .ref o), (1, .int (nI pj)), (2, .int (nI 2)), (3, .int i), (4, .int v)]) hC dX10_set_32 (by decide) rfl ?_
        refine g_iload hC dX10_set_34 0 rfl ?_
        refine g_ifN_gt (a := castF S pj 2) (tgt := 54) hC dX10_set_36 (by decide) (by omega) (fun h36 => ?_) (fun h36 => ?_)
        · refine g_aload_n hC dX10_set_54 rfl 1 rfl (Or.inr ⟨_, rfl⟩) ?_
          refine g_iload hC dX10_set_55 0 rfl ?_
          refine g_ifN_le (a := castF S pj 2) (tgt := 65) hC dX10_set_57 (by decide) (by omega) (fun h57 => ?_) (fun h57 => ?_)
          · have hc0_pj := castF_0 h57
            have hc1_pj := hc0_pj.2
            have hl_pj := hI.lg hpj hc0_pj.1 (by omega)
            have hwk_pj := hI.ws hpj (by omega)
            refine g_iconst hC dX10_set_65 (v := nI 3) (by decide) ?_
            refine g_V (As := [.int (nI 3)]) (st := []) hC 1 dX10_set_66 rfl mL_o mW_o gX10_set_X10_fails rfl (by decide +kernel) ⟨Nat.le_of_ble_eq_true rfl, Nat.le_of_ble_eq_true rfl⟩ rfl (Nat.le_of_ble_eq_true rfl) ⟨Nat.le_of_ble_eq_true rfl, Nat.le_of_ble_eq_true rfl⟩ (c2 := 0) (s2 := 0) rfl rfl (c_fails hk hm 3) ?_
            exact g_iret hC hR dX10_set_69 (pE_i (by simp only [s_set, hpl_p, hpl_t]; (repeat' split) <;> first | with_reducible rfl | contradiction | (exfalso; omega) | (rw [bI_t (by first | assumption | omega)]; rfl) | (rw [bI_f (by first | assumption | omega)]; rfl) | (exfalso; rename_i hz; exact absurd hz (by decide)) | (exfalso; rename_i hz; first | exact absurd hz.1 (by assumption) | exact absurd hz.2 (by assumption)) | (exfalso; simp only [Int32.lt_iff_toInt_lt, Int32.le_iff_toInt_le] at *; omega) | (exfalso; simp_all; done) | (simp_all; done) | rfl))
          · refine g_iload hC dX10_set_60 0 rfl ?_
            refine g_goto (tgt := 66) hC dX10_set_62 (by decide) ?_
            refine g_V (As := [.int (nI (castF S pj 2))]) (st := []) hC 1 dX10_set_66 rfl mL_o mW_o gX10_set_X10_fails rfl (by decide +kernel) ⟨Nat.le_of_ble_eq_true rfl, Nat.le_of_ble_eq_true rfl⟩ rfl (Nat.le_of_ble_eq_true rfl) ⟨Nat.le_of_ble_eq_true rfl, Nat.le_of_ble_eq_true rfl⟩ (c2 := 0) (s2 := 0) rfl rfl (c_fails hk hm (castF S pj 2)) ?_
            exact g_iret hC hR dX10_set_69 (pE_i (by simp only [s_set, hpl_p, hpl_t]; (repeat' split) <;> first | with_reducible rfl | contradiction | (exfalso; omega) | (rw [bI_t (by first | assumption | omega)]; rfl) | (rw [bI_f (by first | assumption | omega)]; rfl) | (exfalso; rename_i hz; exact absurd hz (by decide)) | (exfalso; rename_i hz; first | exact absurd hz.1 (by assumption) | exact absurd hz.2 (by assumption)) | (exfalso; simp only [Int32.lt_iff_toInt_lt, Int32.le_iff_toInt_le] at *; omega) | (exfalso; simp_all; done) | (simp_all; done) | rfl))
        · have hc0_pj := castF_0 h36
          have hc1_pj := hc0_pj.2
          have hl_pj := hI.lg hpj hc0_pj.1 (by omega)
          have hwk_pj := hI.ws hpj (by omega)
          refine g_iload_n hC dX10_set_39 rfl 4 rfl ?_
          refine g_iconst hC dX10_set_40 (v := nI 0) (by decide) ?_
          refine g_aload_n hC dX10_set_41 rfl 1 rfl (Or.inr ⟨_, rfl⟩) ?_
          refine g_iload_n hC dX10_set_42 rfl 2 rfl ?_
          refine g_V (As := [.int (nI pj)]) (st := [.int (nI 0), .int i]) hC 1 dX10_set_43 rfl mL_o mW_o gX10_set_X10_longOf rfl (by decide +kernel) ⟨Nat.le_of_ble_eq_true rfl, Nat.le_of_ble_eq_true rfl⟩ rfl (Nat.le_of_ble_eq_true rfl) ⟨Nat.le_of_ble_eq_true rfl, Nat.le_of_ble_eq_true rfl⟩ (c2 := 0) (s2 := 0) rfl rfl (c_longOf hk hm pj hpj (hI.k5 hpj) (hI.w1 hpj) (hI.w2 hpj)) ?_
          refine g_iconst hC dX10_set_46 (v := nI 1) (by decide) ?_
          refine g_isub hC dX10_set_47 ?_
          refine g_S (As := [.int i, .int (nI 0), .int (nI (longS S pj) - nI 1)]) (st := []) hC 3 dX10_set_48 gX10_set_X10_in rfl (by decide +kernel) ⟨Nat.le_of_ble_eq_true rfl, Nat.le_of_ble_eq_true rfl⟩ rfl (Nat.le_of_ble_eq_true rfl) ⟨Nat.le_of_ble_eq_true rfl, Nat.le_of_ble_eq_true rfl⟩ (c2 := 0) (s2 := 0) rfl rfl (c_in hk _ _ _) ?_
          refine g_ifB_ne (P := inR i (longS S pj)) (tgt := 70) hC dX10_set_51 (by decide) (fun h51 => ?_) (fun h51 => ?_)
          · obtain ⟨ij, hij, rfl⟩ := (inR_j (n := (longS S pj)) (by omega)).mp h51
            have hpl_i : pl (nI ij) = ij := nI_clamp (by omega)
            refine g_iload_n hC dX10_set_70 rfl 3 rfl ?_
            refine g_iconst hC dX10_set_71 (v := nI 1) (by decide) ?_
            refine g_icmpN_ne (a := 2) (b := 1) (tgt := 97) hC dX10_set_72 (by decide) (by omega) (by omega) (fun h72 => ?_) (fun h72 => ?_)
            · refine g_aload_n hC dX10_set_97 rfl 1 rfl (Or.inr ⟨_, rfl⟩) ?_
              refine m_get_9 hC hin (by decide +kernel) dX10_set_98 ?_
              refine g_bipush hC dX10_set_101 (v := nI 16) (by decide) ?_
              refine g_aload_n hC dX10_set_103 rfl 1 rfl (Or.inr ⟨_, rfl⟩) ?_
              refine m_get_3 hC hin (by decide +kernel) dX10_set_104 ?_
              refine g_iload_n hC dX10_set_107 rfl 2 rfl ?_
              refine m_aldN (k := 3) (j := pj) hC hm (by decide) rfl rfl rfl dX10_set_108 (show _ < 10 from (by omega)) ?_
              refine g_imulN (a := 16) (b := wh S pj) hC dX10_set_109 ?_
              refine g_iload_n hC dX10_set_110 rfl 4 rfl ?_
              refine g_iaddN (a := 16 * (wh S pj)) (b := ij) hC dX10_set_111 ?_
              refine g_iload hC dX10_set_112 5 rfl ?_
              refine g_ldc (v := nI 65535) hC (by decide +kernel) dX10_set_114 ?_
              refine g_iand hC dX10_set_116 ?_
              refine m_astW (k := 9) (j := (16 * (wh S pj)) + ij) (x := v &&& (nI 65535)) hC hm (by decide) rfl (fun _ => rfl) rfl dX10_set_117 (show _ < 9600 from (by omega)) ?_
              refine g_iconst hC dX10_set_118 (v := nI 1) (by decide) ?_
              exact g_iret hC hR dX10_set_119 (pE_i (by simp only [s_set, hpl_p, hpl_t, hpl_i]; (repeat' split) <;> first | with_reducible rfl | contradiction | (exfalso; omega) | (rw [bI_t (by first | assumption | omega)]; rfl) | (rw [bI_f (by first | assumption | omega)]; rfl) | (exfalso; rename_i hz; exact absurd hz (by decide)) | (exfalso; rename_i hz; first | exact absurd hz.1 (by assumption) | exact absurd hz.2 (by assumption)) | (exfalso; simp only [Int32.lt_iff_toInt_lt, Int32.le_iff_toInt_le] at *; omega) | (exfalso; simp_all; done) | (simp_all; done) | rfl))
            · exfalso; omega
          · refine g_aload_n hC dX10_set_54 rfl 1 rfl (Or.inr ⟨_, rfl⟩) ?_
            refine g_iload hC dX10_set_55 0 rfl ?_
            refine g_ifN_le (a := castF S pj 2) (tgt := 65) hC dX10_set_57 (by decide) (by omega) (fun h57 => ?_) (fun h57 => ?_)
            · have hc0_pj := castF_0 h57
              have hc1_pj := hc0_pj.2
              have hl_pj := hI.lg hpj hc0_pj.1 (by omega)
              have hwk_pj := hI.ws hpj (by omega)
              refine g_iconst hC dX10_set_65 (v := nI 3) (by decide) ?_
              refine g_V (As := [.int (nI 3)]) (st := []) hC 1 dX10_set_66 rfl mL_o mW_o gX10_set_X10_fails rfl (by decide +kernel) ⟨Nat.le_of_ble_eq_true rfl, Nat.le_of_ble_eq_true rfl⟩ rfl (Nat.le_of_ble_eq_true rfl) ⟨Nat.le_of_ble_eq_true rfl, Nat.le_of_ble_eq_true rfl⟩ (c2 := 0) (s2 := 0) rfl rfl (c_fails hk hm 3) ?_
              exact g_iret hC hR dX10_set_69 (pE_i (by simp only [s_set, hpl_p, hpl_t]; (repeat' split) <;> first | with_reducible rfl | contradiction | (exfalso; omega) | (rw [bI_t (by first | assumption | omega)]; rfl) | (rw [bI_f (by first | assumption | omega)]; rfl) | (exfalso; rename_i hz; exact absurd hz (by decide)) | (exfalso; rename_i hz; first | exact absurd hz.1 (by assumption) | exact absurd hz.2 (by assumption)) | (exfalso; simp only [Int32.lt_iff_toInt_lt, Int32.le_iff_toInt_le] at *; omega) | (exfalso; simp_all; done) | (simp_all; done) | rfl))
            · refine g_iload hC dX10_set_60 0 rfl ?_
              refine g_goto (tgt := 66) hC dX10_set_62 (by decide) ?_
              refine g_V (As := [.int (nI (castF S pj 2))]) (st := []) hC 1 dX10_set_66 rfl mL_o mW_o gX10_set_X10_fails rfl (by decide +kernel) ⟨Nat.le_of_ble_eq_true rfl, Nat.le_of_ble_eq_true rfl⟩ rfl (Nat.le_of_ble_eq_true rfl) ⟨Nat.le_of_ble_eq_true rfl, Nat.le_of_ble_eq_true rfl⟩ (c2 := 0) (s2 := 0) rfl rfl (c_fails hk hm (castF S pj 2)) ?_
              exact g_iret hC hR dX10_set_69 (pE_i (by simp only [s_set, hpl_p, hpl_t]; (repeat' split) <;> first | with_reducible rfl | contradiction | (exfalso; omega) | (rw [bI_t (by first | assumption | omega)]; rfl) | (rw [bI_f (by first | assumption | omega)]; rfl) | (exfalso; rename_i hz; exact absurd hz (by decide)) | (exfalso; rename_i hz; first | exact absurd hz.1 (by assumption) | exact absurd hz.2 (by assumption)) | (exfalso; simp only [Int32.lt_iff_toInt_lt, Int32.le_iff_toInt_le] at *; omega) | (exfalso; simp_all; done) | (simp_all; done) | rfl))
    · refine g_bipush hC dX10_set_23 (v := (-2)) (by decide) ?_
      exact g_iret hC hR dX10_set_25 (pE_i (by simp only [s_set, hpl_p]; (repeat' split) <;> first | with_reducible rfl | contradiction | (exfalso; omega) | (rw [bI_t (by first | assumption | omega)]; rfl) | (rw [bI_f (by first | assumption | omega)]; rfl) | (exfalso; rename_i hz; exact absurd hz (by decide)) | (exfalso; rename_i hz; first | exact absurd hz.1 (by assumption) | exact absurd hz.2 (by assumption)) | (exfalso; simp only [Int32.lt_iff_toInt_lt, Int32.le_iff_toInt_le] at *; omega) | (exfalso; simp_all; done) | (simp_all; done) | rfl))
  · refine g_iconst hC dX10_set_12 (v := (-1)) (by decide) ?_
    exact g_iret hC hR dX10_set_13 (pE_i (by simp only [s_set]; (repeat' split) <;> first | with_reducible rfl | contradiction | (exfalso; omega) | (rw [bI_t (by first | assumption | omega)]; rfl) | (rw [bI_f (by first | assumption | omega)]; rfl) | (exfalso; rename_i hz; exact absurd hz (by decide)) | (exfalso; rename_i hz; first | exact absurd hz.1 (by assumption) | exact absurd hz.2 (by assumption)) | (exfalso; simp only [Int32.lt_iff_toInt_lt, Int32.le_iff_toInt_le] at *; omega) | (exfalso; simp_all; done) | (simp_all; done) | rfl))
set_option maxRecDepth 20000 in
set_option maxHeartbeats 4000000 in
theorem c_lay (hk : gKok D vwCl (cyT cy) K) (hm : mOk o ad) (hI : aI S) (p : Int32) (i : Int32) (q : Int32) : gCt l D vwCl K yX10_lay wsX10_lay { frames := 2, cells := 0, slots := 0, locals := 44 } [.ref o, .int p, .int i, .int q] (mL o ad) (mW o ad cy S) (pE (some (.int (s_lay S p i q).1)) (mL o ad) (mW o ad cy (s_lay S p i q).2)) := by
  refine gCt.of hk (by decide) rfl rfl (fun X hC hR hnm => ?_)
  have hC : gC X l _ D vwCl (cyT cy) K cX10_lay 5 wsX10_lay RX10 := hC
  have hin : ∀ w ∈ wsX100, w ∈ wsX10_lay := by decide +kernel
  show gW X vwCl 5 (mL o ad) (mW o ad cy S) 0 0 0 [(0, .ref o), (1, .int p), (2, .int i), (3, .int q)] []
  have hnb := hI.nb
  refine g_aload_n hC dX10_lay_0 rfl 0 rfl (Or.inr ⟨_, rfl⟩) ?_
  refine g_iconst hC dX10_lay_1 (v := nI 0) (by decide) ?_
  refine m_put_0 (x := 0) hC hin (by decide +kernel) dX10_lay_2 ?_
  refine g_iload_n hC dX10_lay_5 rfl 1 rfl ?_
  refine g_S (As := [.int p]) (st := []) hC 1 dX10_lay_6 gX10_lay_X10_isPlace rfl (by decide +kernel) ⟨Nat.le_of_ble_eq_true rfl, Nat.le_of_ble_eq_true rfl⟩ rfl (Nat.le_of_ble_eq_true rfl) ⟨Nat.le_of_ble_eq_true rfl, Nat.le_of_ble_eq_true rfl⟩ (c2 := 0) (s2 := 0) rfl rfl (c_isPlace hk _) ?_
  refine g_ifB_eq (P := isP p) (tgt := 19) hC dX10_lay_9 (by decide) (fun h9 => ?_) (fun h9 => ?_)
  · refine g_iconst hC dX10_lay_19 (v := (-1)) (by decide) ?_
    exact g_iret hC hR dX10_lay_20 (pE_i (by simp only [s_lay]; (repeat' split) <;> first | with_reducible rfl | contradiction | (exfalso; omega) | (rw [bI_t (by first | assumption | omega)]; rfl) | (rw [bI_f (by first | assumption | omega)]; rfl) | (exfalso; rename_i hz; exact absurd hz (by decide)) | (exfalso; rename_i hz; first | exact absurd hz.1 (by assumption) | exact absurd hz.2 (by assumption)) | (exfalso; simp only [Int32.lt_iff_toInt_lt, Int32.le_iff_toInt_le] at *; omega) | (exfalso; simp_all; done) | (simp_all; done) | rfl))
  · obtain ⟨pj, hpj, rfl⟩ := isP_j h9
    have hpl_p : pl (nI pj) = pj := nI_clamp (by omega)
    have h5_p := hI.k5 hpj
    have hw_p := hI.wb hpj
    refine g_iload_n hC dX10_lay_12 rfl 3 rfl ?_
    refine g_S (As := [.int q]) (st := []) hC 1 dX10_lay_13 gX10_lay_X10_isPlace rfl (by decide +kernel) ⟨Nat.le_of_ble_eq_true rfl, Nat.le_of_ble_eq_true rfl⟩ rfl (Nat.le_of_ble_eq_true rfl) ⟨Nat.le_of_ble_eq_true rfl, Nat.le_of_ble_eq_true rfl⟩ (c2 := 0) (s2 := 0) rfl rfl (c_isPlace hk _) ?_
    refine g_ifB_ne (P := isP q) (tgt := 21) hC dX10_lay_16 (by decide) (fun h16 => ?_) (fun h16 => ?_)
    · obtain ⟨qj, hqj, rfl⟩ := isP_j h16
      have hpl_q : pl (nI qj) = qj := nI_clamp (by omega)
      have h5_q := hI.k5 hqj
      have hw_q := hI.wb hqj
      refine g_aload_n hC dX10_lay_21 rfl 0 rfl (Or.inr ⟨_, rfl⟩) ?_
      refine g_iload_n hC dX10_lay_22 rfl 1 rfl ?_
      refine g_iconst hC dX10_lay_23 (v := nI 3) (by decide) ?_
      have hcf_pj_3 : castF S pj 3 ≤ 2 := castF_2
      refine g_V (As := [.int (nI pj), .int (nI 3)]) (st := []) hC 2 dX10_lay_24 rfl mL_o mW_o gX10_lay_X10_castFault rfl (by decide +kernel) ⟨Nat.le_of_ble_eq_true rfl, Nat.le_of_ble_eq_true rfl⟩ rfl (Nat.le_of_ble_eq_true rfl) ⟨Nat.le_of_ble_eq_true rfl, Nat.le_of_ble_eq_true rfl⟩ (c2 := 0) (s2 := 0) rfl rfl (c_castFault hk hm pj 3 (by omega) hpj (hI.k5 hpj)) ?_
      refine g_istore (lv' := [(4, .int (nI (castF S pj 3))), (0, .ref o), (1, .int (nI pj)), (2, .int i), (3, .int (nI qj))]) hC dX10_lay_27 (by decide) rfl ?_
      refine g_iload hC dX10_lay_29 0 rfl ?_
      refine g_iconst hC dX10_lay_31 (v := nI 2) (by decide) ?_
      refine g_icmpN_eq (a := castF S pj 3) (b := 2) (tgt := 45) hC dX10_lay_32 (by decide) (by omega) (by omega) (fun h32 => ?_) (fun h32 => ?_)
      · refine g_aload_n hC dX10_lay_45 rfl 1 rfl (Or.inr ⟨_, rfl⟩) ?_
        refine g_iconst hC dX10_lay_46 (v := nI 2) (by decide) ?_
        refine g_V (As := [.int (nI 2)]) (st := []) hC 1 dX10_lay_47 rfl mL_o mW_o gX10_lay_X10_fails rfl (by decide +kernel) ⟨Nat.le_of_ble_eq_true rfl, Nat.le_of_ble_eq_true rfl⟩ rfl (Nat.le_of_ble_eq_true rfl) ⟨Nat.le_of_ble_eq_true rfl, Nat.le_of_ble_eq_true rfl⟩ (c2 := 0) (s2 := 0) rfl rfl (c_fails hk hm 2) ?_
        exact g_iret hC hR dX10_lay_50 (pE_i (by simp only [s_lay, hpl_p, hpl_q]; (repeat' split) <;> first | with_reducible rfl | contradiction | (exfalso; omega) | (rw [bI_t (by first | assumption | omega)]; rfl) | (rw [bI_f (by first | assumption | omega)]; rfl) | (exfalso; rename_i hz; exact absurd hz (by decide)) | (exfalso; rename_i hz; first | exact absurd hz.1 (by assumption) | exact absurd hz.2 (by assumption)) | (exfalso; simp only [Int32.lt_iff_toInt_lt, Int32.le_iff_toInt_le] at *; omega) | (exfalso; simp_all; done) | (simp_all; done) | rfl))
      · refine g_aload_n hC dX10_lay_35 rfl 1 rfl (Or.inr ⟨_, rfl⟩) ?_
        refine g_iload_n hC dX10_lay_36 rfl 4 rfl ?_
        refine g_iconst hC dX10_lay_37 (v := nI 1) (by decide) ?_
        have hcf_qj_1 : castF S qj 1 ≤ 2 := castF_2
        refine g_V (As := [.int (nI qj), .int (nI 1)]) (st := []) hC 2 dX10_lay_38 rfl mL_o mW_o gX10_lay_X10_castFault rfl (by decide +kernel) ⟨Nat.le_of_ble_eq_true rfl, Nat.le_of_ble_eq_true rfl⟩ rfl (Nat.le_of_ble_eq_true rfl) ⟨Nat.le_of_ble_eq_true rfl, Nat.le_of_ble_eq_true rfl⟩ (c2 := 0) (s2 := 0) rfl rfl (c_castFault hk hm qj 1 (by omega) hqj (hI.k5 hqj)) ?_
        refine g_iconst hC dX10_lay_41 (v := nI 2) (by decide) ?_
        refine g_icmpN_ne (a := castF S qj 1) (b := 2) (tgt := 51) hC dX10_lay_42 (by decide) (by omega) (by omega) (fun h42 => ?_) (fun h42 => ?_)
        · refine g_iload hC dX10_lay_51 0 rfl ?_
          refine g_ifN_gt (a := castF S pj 3) (tgt := 71) hC dX10_lay_53 (by decide) (by omega) (fun h53 => ?_) (fun h53 => ?_)
          · refine g_aload_n hC dX10_lay_71 rfl 1 rfl (Or.inr ⟨_, rfl⟩) ?_
            refine g_iload hC dX10_lay_72 0 rfl ?_
            refine g_ifN_le (a := castF S pj 3) (tgt := 82) hC dX10_lay_74 (by decide) (by omega) (fun h74 => ?_) (fun h74 => ?_)
            · have hc0_pj := castF_0 h74
              have hc1_pj := hc0_pj.2
              have hl_pj := hI.lg hpj hc0_pj.1 (by omega)
              have hwk_pj := hI.wr hpj (by omega)
              refine g_iconst hC dX10_lay_82 (v := nI 3) (by decide) ?_
              refine g_V (As := [.int (nI 3)]) (st := []) hC 1 dX10_lay_83 rfl mL_o mW_o gX10_lay_X10_fails rfl (by decide +kernel) ⟨Nat.le_of_ble_eq_true rfl, Nat.le_of_ble_eq_true rfl⟩ rfl (Nat.le_of_ble_eq_true rfl) ⟨Nat.le_of_ble_eq_true rfl, Nat.le_of_ble_eq_true rfl⟩ (c2 := 0) (s2 := 0) rfl rfl (c_fails hk hm 3) ?_
              exact g_iret hC hR dX10_lay_86 (pE_i (by simp only [s_lay, hpl_p, hpl_q]; (repeat' split) <;> first | with_reducible rfl | contradiction | (exfalso; omega) | (rw [bI_t (by first | assumption | omega)]; rfl) | (rw [bI_f (by first | assumption | omega)]; rfl) | (exfalso; rename_i hz; exact absurd hz (by decide)) | (exfalso; rename_i hz; first | exact absurd hz.1 (by assumption) | exact absurd hz.2 (by assumption)) | (exfalso; simp only [Int32.lt_iff_toInt_lt, Int32.le_iff_toInt_le] at *; omega) | (exfalso; simp_all; done) | (simp_all; done) | rfl))
            · refine g_iload hC dX10_lay_77 0 rfl ?_
              refine g_goto (tgt := 83) hC dX10_lay_79 (by decide) ?_
              refine g_V (As := [.int (nI (castF S pj 3))]) (st := []) hC 1 dX10_lay_83 rfl mL_o mW_o gX10_lay_X10_fails rfl (by decide +kernel) ⟨Nat.le_of_ble_eq_true rfl, Nat.le_of_ble_eq_true rfl⟩ rfl (Nat.le_of_ble_eq_true rfl) ⟨Nat.le_of_ble_eq_true rfl, Nat.le_of_ble_eq_true rfl⟩ (c2 := 0) (s2 := 0) rfl rfl (c_fails hk hm (castF S pj 3)) ?_
              exact g_iret hC hR dX10_lay_86 (pE_i (by simp only [s_lay, hpl_p, hpl_q]; (repeat' split) <;> first | with_reducible rfl | contradiction | (exfalso; omega) | (rw [bI_t (by first | assumption | omega)]; rfl) | (rw [bI_f (by first | assumption | omega)]; rfl) | (exfalso; rename_i hz; exact absurd hz (by decide)) | (exfalso; rename_i hz; first | exact absurd hz.1 (by assumption) | exact absurd hz.2 (by assumption)) | (exfalso; simp only [Int32.lt_iff_toInt_lt, Int32.le_iff_toInt_le] at *; omega) | (exfalso; simp_all; done) | (simp_all; done) | rfl))
          · have hc0_pj := castF_0 h53
            have hc1_pj := hc0_pj.2
            have hl_pj := hI.lg hpj hc0_pj.1 (by omega)
            have hwk_pj := hI.wr hpj (by omega)
            refine g_iload_n hC dX10_lay_56 rfl 3 rfl ?_
            refine g_iconst hC dX10_lay_57 (v := nI 0) (by decide) ?_
            refine g_aload_n hC dX10_lay_58 rfl 1 rfl (Or.inr ⟨_, rfl⟩) ?_
            refine g_iload_n hC dX10_lay_59 rfl 2 rfl ?_
            refine g_V (As := [.int (nI pj)]) (st := [.int (nI 0), .int i]) hC 1 dX10_lay_60 rfl mL_o mW_o gX10_lay_X10_longOf rfl (by decide +kernel) ⟨Nat.le_of_ble_eq_true rfl, Nat.le_of_ble_eq_true rfl⟩ rfl (Nat.le_of_ble_eq_true rfl) ⟨Nat.le_of_ble_eq_true rfl, Nat.le_of_ble_eq_true rfl⟩ (c2 := 0) (s2 := 0) rfl rfl (c_longOf hk hm pj hpj (hI.k5 hpj) (hI.w1 hpj) (hI.w2 hpj)) ?_
            refine g_iconst hC dX10_lay_63 (v := nI 1) (by decide) ?_
            refine g_isub hC dX10_lay_64 ?_
            refine g_S (As := [.int i, .int (nI 0), .int (nI (longS S pj) - nI 1)]) (st := []) hC 3 dX10_lay_65 gX10_lay_X10_in rfl (by decide +kernel) ⟨Nat.le_of_ble_eq_true rfl, Nat.le_of_ble_eq_true rfl⟩ rfl (Nat.le_of_ble_eq_true rfl) ⟨Nat.le_of_ble_eq_true rfl, Nat.le_of_ble_eq_true rfl⟩ (c2 := 0) (s2 := 0) rfl rfl (c_in hk _ _ _) ?_
            refine g_ifB_ne (P := inR i (longS S pj)) (tgt := 87) hC dX10_lay_68 (by decide) (fun h68 => ?_) (fun h68 => ?_)
            · obtain ⟨ij, hij, rfl⟩ := (inR_j (n := (longS S pj)) (by omega)).mp h68
              have hpl_i : pl (nI ij) = ij := nI_clamp (by omega)
              refine g_aload_n hC dX10_lay_87 rfl 1 rfl (Or.inr ⟨_, rfl⟩) ?_
              refine m_get_12 hC hin (by decide +kernel) dX10_lay_88 ?_
              refine g_bipush hC dX10_lay_91 (v := nI 16) (by decide) ?_
              refine g_aload_n hC dX10_lay_93 rfl 1 rfl (Or.inr ⟨_, rfl⟩) ?_
              refine m_get_3 hC hin (by decide +kernel) dX10_lay_94 ?_
              refine g_iload_n hC dX10_lay_97 rfl 2 rfl ?_
              refine m_aldN (k := 3) (j := pj) hC hm (by decide) rfl rfl rfl dX10_lay_98 (show _ < 10 from (by omega)) ?_
              refine g_imulN (a := 16) (b := wh S pj) hC dX10_lay_99 ?_
              refine g_iload_n hC dX10_lay_100 rfl 3 rfl ?_
              refine g_iaddN (a := 16 * (wh S pj)) (b := ij) hC dX10_lay_101 ?_
              refine g_aload_n hC dX10_lay_102 rfl 1 rfl (Or.inr ⟨_, rfl⟩) ?_
              refine m_get_2 hC hin (by decide +kernel) dX10_lay_103 ?_
              refine g_iload_n hC dX10_lay_106 rfl 4 rfl ?_
              refine m_aldN (k := 2) (j := qj) hC hm (by decide) rfl rfl rfl dX10_lay_107 (show _ < 10 from (by omega)) ?_
              refine g_ifN_ne (a := kd S qj) (tgt := 115) hC dX10_lay_108 (by decide) (by omega) (fun h108 => ?_) (fun h108 => ?_)
              · refine g_aload_n hC dX10_lay_115 rfl 1 rfl (Or.inr ⟨_, rfl⟩) ?_
                refine m_get_3 hC hin (by decide +kernel) dX10_lay_116 ?_
                refine g_iload_n hC dX10_lay_119 rfl 4 rfl ?_
                refine m_aldN (k := 3) (j := qj) hC hm (by decide) rfl rfl rfl dX10_lay_120 (show _ < 10 from (by omega)) ?_
                refine g_iconst hC dX10_lay_121 (v := nI 1) (by decide) ?_
                refine g_iaddN (a := wh S qj) (b := 1) hC dX10_lay_122 ?_
                refine m_astN (k := 12) (j := (16 * (wh S pj)) + ij) (x := (wh S qj) + 1) hC hm (by decide) rfl (fun _ => rfl) rfl dX10_lay_123 (show _ < 9600 from (by omega)) ?_
                refine g_iconst hC dX10_lay_124 (v := nI 1) (by decide) ?_
                exact g_iret hC hR dX10_lay_125 (pE_i (by simp only [s_lay, hpl_p, hpl_q, hpl_i]; (repeat' split) <;> first | with_reducible rfl | contradiction | (exfalso; omega) | (rw [bI_t (by first | assumption | omega)]; rfl) | (rw [bI_f (by first | assumption | omega)]; rfl) | (exfalso; rename_i hz; exact absurd hz (by decide)) | (exfalso; rename_i hz; first | exact absurd hz.1 (by assumption) | exact absurd hz.2 (by assumption)) | (exfalso; simp only [Int32.lt_iff_toInt_lt, Int32.le_iff_toInt_le] at *; omega) | (exfalso; simp_all; done) | (simp_all; done) | rfl))
              · refine g_iconst hC dX10_lay_111 (v := nI 0) (by decide) ?_
                refine g_goto (tgt := 123) hC dX10_lay_112 (by decide) ?_
                refine m_astN (k := 12) (j := (16 * (wh S pj)) + ij) (x := 0) hC hm (by decide) rfl (fun _ => rfl) rfl dX10_lay_123 (show _ < 9600 from (by omega)) ?_
                refine g_iconst hC dX10_lay_124 (v := nI 1) (by decide) ?_
                exact g_iret hC hR dX10_lay_125 (pE_i (by simp only [s_lay, hpl_p, hpl_q, hpl_i]; (repeat' split) <;> first | with_reducible rfl | contradiction | (exfalso; omega) | (rw [bI_t (by first | assumption | omega)]; rfl) | (rw [bI_f (by first | assumption | omega)]; rfl) | (exfalso; rename_i hz; exact absurd hz (by decide)) | (exfalso; rename_i hz; first | exact absurd hz.1 (by assumption) | exact absurd hz.2 (by assumption)) | (exfalso; simp only [Int32.lt_iff_toInt_lt, Int32.le_iff_toInt_le] at *; omega) | (exfalso; simp_all; done) | (simp_all; done) | rfl))
            · refine g_aload_n hC dX10_lay_71 rfl 1 rfl (Or.inr ⟨_, rfl⟩) ?_
              refine g_iload hC dX10_lay_72 0 rfl ?_
              refine g_ifN_le (a := castF S pj 3) (tgt := 82) hC dX10_lay_74 (by decide) (by omega) (fun h74 => ?_) (fun h74 => ?_)
              · have hc0_pj := castF_0 h74
                have hc1_pj := hc0_pj.2
                have hl_pj := hI.lg hpj hc0_pj.1 (by omega)
                have hwk_pj := hI.wr hpj (by omega)
                refine g_iconst hC dX10_lay_82 (v := nI 3) (by decide) ?_
                refine g_V (As := [.int (nI 3)]) (st := []) hC 1 dX10_lay_83 rfl mL_o mW_o gX10_lay_X10_fails rfl (by decide +kernel) ⟨Nat.le_of_ble_eq_true rfl, Nat.le_of_ble_eq_true rfl⟩ rfl (Nat.le_of_ble_eq_true rfl) ⟨Nat.le_of_ble_eq_true rfl, Nat.le_of_ble_eq_true rfl⟩ (c2 := 0) (s2 := 0) rfl rfl (c_fails hk hm 3) ?_
                exact g_iret hC hR dX10_lay_86 (pE_i (by simp only [s_lay, hpl_p, hpl_q]; (repeat' split) <;> first | with_reducible rfl | contradiction | (exfalso; omega) | (rw [bI_t (by first | assumption | omega)]; rfl) | (rw [bI_f (by first | assumption | omega)]; rfl) | (exfalso; rename_i hz; exact absurd hz (by decide)) | (exfalso; rename_i hz; first | exact absurd hz.1 (by assumption) | exact absurd hz.2 (by assumption)) | (exfalso; simp only [Int32.lt_iff_toInt_lt, Int32.le_iff_toInt_le] at *; omega) | (exfalso; simp_all; done) | (simp_all; done) | rfl))
              · refine g_iload hC dX10_lay_77 0 rfl ?_
                refine g_goto (tgt := 83) hC dX10_lay_79 (by decide) ?_
                refine g_V (As := [.int (nI (castF S pj 3))]) (st := []) hC 1 dX10_lay_83 rfl mL_o mW_o gX10_lay_X10_fails rfl (by decide +kernel) ⟨Nat.le_of_ble_eq_true rfl, Nat.le_of_ble_eq_true rfl⟩ rfl (Nat.le_of_ble_eq_true rfl) ⟨Nat.le_of_ble_eq_true rfl, Nat.le_of_ble_eq_true rfl⟩ (c2 := 0) (s2 := 0) rfl rfl (c_fails hk hm (castF S pj 3)) ?_
                exact g_iret hC hR dX10_lay_86 (pE_i (by simp only [s_lay, hpl_p, hpl_q]; (repeat' split) <;> first | with_reducible rfl | contradiction | (exfalso; omega) | (rw [bI_t (by first | assumption | omega)]; rfl) | (rw [bI_f (by first | assumption | omega)]; rfl) | (exfalso; rename_i hz; exact absurd hz (by decide)) | (exfalso; rename_i hz; first | exact absurd hz.1 (by assumption) | exact absurd hz.2 (by assumption)) | (exfalso; simp only [Int32.lt_iff_toInt_lt, Int32.le_iff_toInt_le] at *; omega) | (exfalso; simp_all; done) | (simp_all; done) | rfl))
        · refine g_aload_n hC dX10_lay_45 rfl 1 rfl (Or.inr ⟨_, rfl⟩) ?_
          refine g_iconst hC dX10_lay_46 (v := nI 2) (by decide) ?_
          refine g_V (As := [.int (nI 2)]) (st := []) hC 1 dX10_lay_47 rfl mL_o mW_o gX10_lay_X10_fails rfl (by decide +kernel) ⟨Nat.le_of_ble_eq_true rfl, Nat.le_of_ble_eq_true rfl⟩ rfl (Nat.le_of_ble_eq_true rfl) ⟨Nat.le_of_ble_eq_true rfl, Nat.le_of_ble_eq_true rfl⟩ (c2 := 0) (s2 := 0) rfl rfl (c_fails hk hm 2) ?_
          exact g_iret hC hR dX10_lay_50 (pE_i (by simp only [s_lay, hpl_p, hpl_q]; (repeat' split) <;> first | with_reducible rfl | contradiction | (exfalso; omega) | (rw [bI_t (by first | assumption | omega)]; rfl) | (rw [bI_f (by first | assumption | omega)]; rfl) | (exfalso; rename_i hz; exact absurd hz (by decide)) | (exfalso; rename_i hz; first | exact absurd hz.1 (by assumption) | exact absurd hz.2 (by assumption)) | (exfalso; simp only [Int32.lt_iff_toInt_lt, Int32.le_iff_toInt_le] at *; omega) | (exfalso; simp_all; done) | (simp_all; done) | rfl))
    · refine g_iconst hC dX10_lay_19 (v := (-1)) (by decide) ?_
      exact g_iret hC hR dX10_lay_20 (pE_i (by simp only [s_lay, hpl_p]; (repeat' split) <;> first | with_reducible rfl | contradiction | (exfalso; omega) | (rw [bI_t (by first | assumption | omega)]; rfl) | (rw [bI_f (by first | assumption | omega)]; rfl) | (exfalso; rename_i hz; exact absurd hz (by decide)) | (exfalso; rename_i hz; first | exact absurd hz.1 (by assumption) | exact absurd hz.2 (by assumption)) | (exfalso; simp only [Int32.lt_iff_toInt_lt, Int32.le_iff_toInt_le] at *; omega) | (exfalso; simp_all; done) | (simp_all; done) | rfl))
set_option maxRecDepth 20000 in
set_option maxHeartbeats 4000000 in
theorem c_take (hk : gKok D vwCl (cyT cy) K) (hm : mOk o ad) (hI : aI S) (p : Int32) (q : Int32) (i : Int32) : gCt l D vwCl K yX10_take wsX10_take { frames := 2, cells := 0, slots := 0, locals := 44 } [.ref o, .int p, .int q, .int i] (mL o ad) (mW o ad cy S) (pE (some (.int (s_take S p q i).1)) (mL o ad) (mW o ad cy (s_take S p q i).2)) := by
  refine gCt.of hk (by decide) rfl rfl (fun X hC hR hnm => ?_)
  have hC : gC X l _ D vwCl (cyT cy) K cX10_take 6 wsX10_take RX10 := hC
  have hin : ∀ w ∈ wsX100, w ∈ wsX10_take := by decide +kernel
  show gW X vwCl 6 (mL o ad) (mW o ad cy S) 0 0 0 [(0, .ref o), (1, .int p), (2, .int q), (3, .int i)] []
  have hnb := hI.nb
  refine g_aload_n hC dX10_take_0 rfl 0 rfl (Or.inr ⟨_, rfl⟩) ?_
  refine g_iconst hC dX10_take_1 (v := nI 0) (by decide) ?_
  refine m_put_0 (x := 0) hC hin (by decide +kernel) dX10_take_2 ?_
  refine g_iload_n hC dX10_take_5 rfl 1 rfl ?_
  refine g_S (As := [.int p]) (st := []) hC 1 dX10_take_6 gX10_take_X10_isPlace rfl (by decide +kernel) ⟨Nat.le_of_ble_eq_true rfl, Nat.le_of_ble_eq_true rfl⟩ rfl (Nat.le_of_ble_eq_true rfl) ⟨Nat.le_of_ble_eq_true rfl, Nat.le_of_ble_eq_true rfl⟩ (c2 := 0) (s2 := 0) rfl rfl (c_isPlace hk _) ?_
  refine g_ifB_eq (P := isP p) (tgt := 19) hC dX10_take_9 (by decide) (fun h9 => ?_) (fun h9 => ?_)
  · refine g_iconst hC dX10_take_19 (v := (-1)) (by decide) ?_
    exact g_iret hC hR dX10_take_20 (pE_i (by simp only [s_take]; (repeat' split) <;> first | with_reducible rfl | contradiction | (exfalso; omega) | (rw [bI_t (by first | assumption | omega)]; rfl) | (rw [bI_f (by first | assumption | omega)]; rfl) | (exfalso; rename_i hz; exact absurd hz (by decide)) | (exfalso; rename_i hz; first | exact absurd hz.1 (by assumption) | exact absurd hz.2 (by assumption)) | (exfalso; simp only [Int32.lt_iff_toInt_lt, Int32.le_iff_toInt_le] at *; omega) | (exfalso; simp_all; done) | (simp_all; done) | rfl))
  · obtain ⟨pj, hpj, rfl⟩ := isP_j h9
    have hpl_p : pl (nI pj) = pj := nI_clamp (by omega)
    have h5_p := hI.k5 hpj
    have hw_p := hI.wb hpj
    refine g_iload_n hC dX10_take_12 rfl 2 rfl ?_
    refine g_S (As := [.int q]) (st := []) hC 1 dX10_take_13 gX10_take_X10_isPlace rfl (by decide +kernel) ⟨Nat.le_of_ble_eq_true rfl, Nat.le_of_ble_eq_true rfl⟩ rfl (Nat.le_of_ble_eq_true rfl) ⟨Nat.le_of_ble_eq_true rfl, Nat.le_of_ble_eq_true rfl⟩ (c2 := 0) (s2 := 0) rfl rfl (c_isPlace hk _) ?_
    refine g_ifB_ne (P := isP q) (tgt := 21) hC dX10_take_16 (by decide) (fun h16 => ?_) (fun h16 => ?_)
    · obtain ⟨qj, hqj, rfl⟩ := isP_j h16
      have hpl_q : pl (nI qj) = qj := nI_clamp (by omega)
      have h5_q := hI.k5 hqj
      have hw_q := hI.wb hqj
      refine g_aload_n hC dX10_take_21 rfl 0 rfl (Or.inr ⟨_, rfl⟩) ?_
      refine g_iload_n hC dX10_take_22 rfl 2 rfl ?_
      refine g_iconst hC dX10_take_23 (v := nI 3) (by decide) ?_
      have hcf_qj_3 : castF S qj 3 ≤ 2 := castF_2
      refine g_V (As := [.int (nI qj), .int (nI 3)]) (st := []) hC 2 dX10_take_24 rfl mL_o mW_o gX10_take_X10_castFault rfl (by decide +kernel) ⟨Nat.le_of_ble_eq_true rfl, Nat.le_of_ble_eq_true rfl⟩ rfl (Nat.le_of_ble_eq_true rfl) ⟨Nat.le_of_ble_eq_true rfl, Nat.le_of_ble_eq_true rfl⟩ (c2 := 0) (s2 := 0) rfl rfl (c_castFault hk hm qj 3 (by omega) hqj (hI.k5 hqj)) ?_
      refine g_istore (lv' := [(4, .int (nI (castF S qj 3))), (0, .ref o), (1, .int (nI pj)), (2, .int (nI qj)), (3, .int i)]) hC dX10_take_27 (by decide) rfl ?_
      refine g_iload hC dX10_take_29 0 rfl ?_
      refine g_ifN_gt (a := castF S qj 3) (tgt := 49) hC dX10_take_31 (by decide) (by omega) (fun h31 => ?_) (fun h31 => ?_)
      · refine g_aload_n hC dX10_take_49 rfl 1 rfl (Or.inr ⟨_, rfl⟩) ?_
        refine g_iload hC dX10_take_50 0 rfl ?_
        refine g_ifN_le (a := castF S qj 3) (tgt := 60) hC dX10_take_52 (by decide) (by omega) (fun h52 => ?_) (fun h52 => ?_)
        · have hc0_qj := castF_0 h52
          have hc1_qj := hc0_qj.2
          have hl_qj := hI.lg hqj hc0_qj.1 (by omega)
          have hwk_qj := hI.wr hqj (by omega)
          refine g_iconst hC dX10_take_60 (v := nI 3) (by decide) ?_
          refine g_V (As := [.int (nI 3)]) (st := []) hC 1 dX10_take_61 rfl mL_o mW_o gX10_take_X10_fails rfl (by decide +kernel) ⟨Nat.le_of_ble_eq_true rfl, Nat.le_of_ble_eq_true rfl⟩ rfl (Nat.le_of_ble_eq_true rfl) ⟨Nat.le_of_ble_eq_true rfl, Nat.le_of_ble_eq_true rfl⟩ (c2 := 0) (s2 := 0) rfl rfl (c_fails hk hm 3) ?_
          exact g_iret hC hR dX10_take_64 (pE_i (by simp only [s_take, hpl_p, hpl_q]; (repeat' split) <;> first | with_reducible rfl | contradiction | (exfalso; omega) | (rw [bI_t (by first | assumption | omega)]; rfl) | (rw [bI_f (by first | assumption | omega)]; rfl) | (exfalso; rename_i hz; exact absurd hz (by decide)) | (exfalso; rename_i hz; first | exact absurd hz.1 (by assumption) | exact absurd hz.2 (by assumption)) | (exfalso; simp only [Int32.lt_iff_toInt_lt, Int32.le_iff_toInt_le] at *; omega) | (exfalso; simp_all; done) | (simp_all; done) | rfl))
        · refine g_iload hC dX10_take_55 0 rfl ?_
          refine g_goto (tgt := 61) hC dX10_take_57 (by decide) ?_
          refine g_V (As := [.int (nI (castF S qj 3))]) (st := []) hC 1 dX10_take_61 rfl mL_o mW_o gX10_take_X10_fails rfl (by decide +kernel) ⟨Nat.le_of_ble_eq_true rfl, Nat.le_of_ble_eq_true rfl⟩ rfl (Nat.le_of_ble_eq_true rfl) ⟨Nat.le_of_ble_eq_true rfl, Nat.le_of_ble_eq_true rfl⟩ (c2 := 0) (s2 := 0) rfl rfl (c_fails hk hm (castF S qj 3)) ?_
          exact g_iret hC hR dX10_take_64 (pE_i (by simp only [s_take, hpl_p, hpl_q]; (repeat' split) <;> first | with_reducible rfl | contradiction | (exfalso; omega) | (rw [bI_t (by first | assumption | omega)]; rfl) | (rw [bI_f (by first | assumption | omega)]; rfl) | (exfalso; rename_i hz; exact absurd hz (by decide)) | (exfalso; rename_i hz; first | exact absurd hz.1 (by assumption) | exact absurd hz.2 (by assumption)) | (exfalso; simp only [Int32.lt_iff_toInt_lt, Int32.le_iff_toInt_le] at *; omega) | (exfalso; simp_all; done) | (simp_all; done) | rfl))
      · have hc0_qj := castF_0 h31
        have hc1_qj := hc0_qj.2
        have hl_qj := hI.lg hqj hc0_qj.1 (by omega)
        have hwk_qj := hI.wr hqj (by omega)
        refine g_iload_n hC dX10_take_34 rfl 4 rfl ?_
        refine g_iconst hC dX10_take_35 (v := nI 0) (by decide) ?_
        refine g_aload_n hC dX10_take_36 rfl 1 rfl (Or.inr ⟨_, rfl⟩) ?_
        refine g_iload_n hC dX10_take_37 rfl 3 rfl ?_
        refine g_V (As := [.int (nI qj)]) (st := [.int (nI 0), .int i]) hC 1 dX10_take_38 rfl mL_o mW_o gX10_take_X10_longOf rfl (by decide +kernel) ⟨Nat.le_of_ble_eq_true rfl, Nat.le_of_ble_eq_true rfl⟩ rfl (Nat.le_of_ble_eq_true rfl) ⟨Nat.le_of_ble_eq_true rfl, Nat.le_of_ble_eq_true rfl⟩ (c2 := 0) (s2 := 0) rfl rfl (c_longOf hk hm qj hqj (hI.k5 hqj) (hI.w1 hqj) (hI.w2 hqj)) ?_
        refine g_iconst hC dX10_take_41 (v := nI 1) (by decide) ?_
        refine g_isub hC dX10_take_42 ?_
        refine g_S (As := [.int i, .int (nI 0), .int (nI (longS S qj) - nI 1)]) (st := []) hC 3 dX10_take_43 gX10_take_X10_in rfl (by decide +kernel) ⟨Nat.le_of_ble_eq_true rfl, Nat.le_of_ble_eq_true rfl⟩ rfl (Nat.le_of_ble_eq_true rfl) ⟨Nat.le_of_ble_eq_true rfl, Nat.le_of_ble_eq_true rfl⟩ (c2 := 0) (s2 := 0) rfl rfl (c_in hk _ _ _) ?_
        refine g_ifB_ne (P := inR i (longS S qj)) (tgt := 65) hC dX10_take_46 (by decide) (fun h46 => ?_) (fun h46 => ?_)
        · obtain ⟨ij, hij, rfl⟩ := (inR_j (n := (longS S qj)) (by omega)).mp h46
          have hpl_i : pl (nI ij) = ij := nI_clamp (by omega)
          refine g_aload_n hC dX10_take_65 rfl 1 rfl (Or.inr ⟨_, rfl⟩) ?_
          refine g_iload_n hC dX10_take_66 rfl 3 rfl ?_
          refine g_iload_n hC dX10_take_67 rfl 4 rfl ?_
          have hrc := hI.rc (r := wh S qj) (i := ij) (hI.wr hqj (by omega)) (by omega)
          refine g_V (As := [.int (nI qj), .int (nI ij)]) (st := []) hC 2 dX10_take_68 rfl mL_o mW_o gX10_take_X10_at rfl (by decide +kernel) ⟨Nat.le_of_ble_eq_true rfl, Nat.le_of_ble_eq_true rfl⟩ rfl (Nat.le_of_ble_eq_true rfl) ⟨Nat.le_of_ble_eq_true rfl, Nat.le_of_ble_eq_true rfl⟩ (c2 := 0) (s2 := 0) rfl rfl (c_at hk hm qj ij (by omega) hqj (hI.k5 hqj) (hI.w1 hqj) (hI.w2 hqj)) ?_
          refine g_val (w := .int (nI (S.2.1 12 (16 * wh S qj + ij)))) (congrArg Value.int (atS_3 (S := S) (j := qj) (i := ij) (by omega))) ?_
          refine g_istore (lv' := [(5, .int (nI (S.2.1 12 (16 * wh S qj + ij)))), (4, .int (nI (castF S qj 3))), (0, .ref o), (1, .int (nI pj)), (2, .int (nI qj)), (3, .int (nI ij))]) hC dX10_take_71 (by decide) rfl ?_
          refine g_aload_n hC dX10_take_73 rfl 2 rfl (Or.inr ⟨_, rfl⟩) ?_
          refine g_iload_n hC dX10_take_74 rfl 3 rfl ?_
          refine g_iload hC dX10_take_75 0 rfl ?_
          refine g_ifN_ne (a := S.2.1 12 (16 * wh S qj + ij)) (tgt := 84) hC dX10_take_77 (by decide) (by omega) (fun h77 => ?_) (fun h77 => ?_)
          · refine g_iconst hC dX10_take_84 (v := nI 1) (by decide) ?_
            refine g_iload hC dX10_take_85 0 rfl ?_
            refine g_ifN_ne (a := S.2.1 12 (16 * wh S qj + ij)) (tgt := 94) hC dX10_take_87 (by decide) (by omega) (fun h87 => ?_) (fun h87 => ?_)
            · refine g_iload hC dX10_take_94 0 rfl ?_
              refine g_iconst hC dX10_take_96 (v := nI 1) (by decide) ?_
              refine g_isubN (a := S.2.1 12 (16 * wh S qj + ij)) (b := 1) hC (by omega) dX10_take_97 ?_
              refine g_Vv (As := [.int (nI pj), .int (nI 1), .int (nI ((S.2.1 12 (16 * wh S qj + ij)) - 1))]) (st := []) hC 3 dX10_take_98 rfl mL_o mW_o gX10_take_X10_hold rfl (by decide +kernel) ⟨Nat.le_of_ble_eq_true rfl, Nat.le_of_ble_eq_true rfl⟩ rfl (Nat.le_of_ble_eq_true rfl) ⟨Nat.le_of_ble_eq_true rfl, Nat.le_of_ble_eq_true rfl⟩ (c2 := 0) (s2 := 0) rfl rfl (c_hold hk hm pj 1 ((S.2.1 12 (16 * wh S qj + ij)) - 1) (by omega)) ?_
              refine g_iload hC dX10_take_101 0 rfl ?_
              refine g_ifN_ne (a := S.2.1 12 (16 * wh S qj + ij)) (tgt := 111) hC dX10_take_103 (by decide) (by omega) (fun h103 => ?_) (fun h103 => ?_)
              · refine g_aload_n hC dX10_take_111 rfl 2 rfl (Or.inr ⟨_, rfl⟩) ?_
                refine m_get_5 hC hin (by decide +kernel) dX10_take_112 ?_
                refine g_iload hC dX10_take_115 0 rfl ?_
                refine g_iconst hC dX10_take_117 (v := nI 1) (by decide) ?_
                refine g_isubN (a := S.2.1 12 (16 * wh S qj + ij)) (b := 1) hC (by omega) dX10_take_118 ?_
                refine m_aldN (k := 5) (j := (S.2.1 12 (16 * wh S qj + ij)) - 1) hC hm (by decide) rfl rfl rfl dX10_take_119 (show _ < 40000 from (by omega)) ?_
                exact g_iret hC hR dX10_take_120 (pE_i (by simp only [s_take, hpl_p, hpl_q, hpl_i]; (repeat' split) <;> first | with_reducible rfl | contradiction | (exfalso; omega) | (rw [bI_t (by first | assumption | omega)]; rfl) | (rw [bI_f (by first | assumption | omega)]; rfl) | (exfalso; rename_i hz; exact absurd hz (by decide)) | (exfalso; rename_i hz; first | exact absurd hz.1 (by assumption) | exact absurd hz.2 (by assumption)) | (exfalso; simp only [Int32.lt_iff_toInt_lt, Int32.le_iff_toInt_le] at *; omega) | (exfalso; simp_all; done) | (simp_all; done) | rfl))
              · exact absurd h103 h87
            · exact absurd h87 h77
          · refine g_iconst hC dX10_take_80 (v := nI 0) (by decide) ?_
            refine g_goto (tgt := 85) hC dX10_take_81 (by decide) ?_
            refine g_iload hC dX10_take_85 0 rfl ?_
            refine g_ifN_ne (a := S.2.1 12 (16 * wh S qj + ij)) (tgt := 94) hC dX10_take_87 (by decide) (by omega) (fun h87 => ?_) (fun h87 => ?_)
            · exact absurd h77 h87
            · refine g_iconst hC dX10_take_90 (v := nI 0) (by decide) ?_
              refine g_goto (tgt := 98) hC dX10_take_91 (by decide) ?_
              refine g_Vv (As := [.int (nI pj), .int (nI 0), .int (nI 0)]) (st := []) hC 3 dX10_take_98 rfl mL_o mW_o gX10_take_X10_hold rfl (by decide +kernel) ⟨Nat.le_of_ble_eq_true rfl, Nat.le_of_ble_eq_true rfl⟩ rfl (Nat.le_of_ble_eq_true rfl) ⟨Nat.le_of_ble_eq_true rfl, Nat.le_of_ble_eq_true rfl⟩ (c2 := 0) (s2 := 0) rfl rfl (c_hold hk hm pj 0 0 (by omega)) ?_
              refine g_iload hC dX10_take_101 0 rfl ?_
              refine g_ifN_ne (a := S.2.1 12 (16 * wh S qj + ij)) (tgt := 111) hC dX10_take_103 (by decide) (by omega) (fun h103 => ?_) (fun h103 => ?_)
              · exact absurd h87 h103
              · refine g_bipush hC dX10_take_106 (v := (-3)) (by decide) ?_
                refine g_goto (tgt := 120) hC dX10_take_108 (by decide) ?_
                exact g_iret hC hR dX10_take_120 (pE_i (by simp only [s_take, hpl_p, hpl_q, hpl_i]; (repeat' split) <;> first | with_reducible rfl | contradiction | (exfalso; omega) | (rw [bI_t (by first | assumption | omega)]; rfl) | (rw [bI_f (by first | assumption | omega)]; rfl) | (exfalso; rename_i hz; exact absurd hz (by decide)) | (exfalso; rename_i hz; first | exact absurd hz.1 (by assumption) | exact absurd hz.2 (by assumption)) | (exfalso; simp only [Int32.lt_iff_toInt_lt, Int32.le_iff_toInt_le] at *; omega) | (exfalso; simp_all; done) | (simp_all; done) | rfl))
        · refine g_aload_n hC dX10_take_49 rfl 1 rfl (Or.inr ⟨_, rfl⟩) ?_
          refine g_iload hC dX10_take_50 0 rfl ?_
          refine g_ifN_le (a := castF S qj 3) (tgt := 60) hC dX10_take_52 (by decide) (by omega) (fun h52 => ?_) (fun h52 => ?_)
          · have hc0_qj := castF_0 h52
            have hc1_qj := hc0_qj.2
            have hl_qj := hI.lg hqj hc0_qj.1 (by omega)
            have hwk_qj := hI.wr hqj (by omega)
            refine g_iconst hC dX10_take_60 (v := nI 3) (by decide) ?_
            refine g_V (As := [.int (nI 3)]) (st := []) hC 1 dX10_take_61 rfl mL_o mW_o gX10_take_X10_fails rfl (by decide +kernel) ⟨Nat.le_of_ble_eq_true rfl, Nat.le_of_ble_eq_true rfl⟩ rfl (Nat.le_of_ble_eq_true rfl) ⟨Nat.le_of_ble_eq_true rfl, Nat.le_of_ble_eq_true rfl⟩ (c2 := 0) (s2 := 0) rfl rfl (c_fails hk hm 3) ?_
            exact g_iret hC hR dX10_take_64 (pE_i (by simp only [s_take, hpl_p, hpl_q]; (repeat' split) <;> first | with_reducible rfl | contradiction | (exfalso; omega) | (rw [bI_t (by first | assumption | omega)]; rfl) | (rw [bI_f (by first | assumption | omega)]; rfl) | (exfalso; rename_i hz; exact absurd hz (by decide)) | (exfalso; rename_i hz; first | exact absurd hz.1 (by assumption) | exact absurd hz.2 (by assumption)) | (exfalso; simp only [Int32.lt_iff_toInt_lt, Int32.le_iff_toInt_le] at *; omega) | (exfalso; simp_all; done) | (simp_all; done) | rfl))
          · refine g_iload hC dX10_take_55 0 rfl ?_
            refine g_goto (tgt := 61) hC dX10_take_57 (by decide) ?_
            refine g_V (As := [.int (nI (castF S qj 3))]) (st := []) hC 1 dX10_take_61 rfl mL_o mW_o gX10_take_X10_fails rfl (by decide +kernel) ⟨Nat.le_of_ble_eq_true rfl, Nat.le_of_ble_eq_true rfl⟩ rfl (Nat.le_of_ble_eq_true rfl) ⟨Nat.le_of_ble_eq_true rfl, Nat.le_of_ble_eq_true rfl⟩ (c2 := 0) (s2 := 0) rfl rfl (c_fails hk hm (castF S qj 3)) ?_
            exact g_iret hC hR dX10_take_64 (pE_i (by simp only [s_take, hpl_p, hpl_q]; (repeat' split) <;> first | with_reducible rfl | contradiction | (exfalso; omega) | (rw [bI_t (by first | assumption | omega)]; rfl) | (rw [bI_f (by first | assumption | omega)]; rfl) | (exfalso; rename_i hz; exact absurd hz (by decide)) | (exfalso; rename_i hz; first | exact absurd hz.1 (by assumption) | exact absurd hz.2 (by assumption)) | (exfalso; simp only [Int32.lt_iff_toInt_lt, Int32.le_iff_toInt_le] at *; omega) | (exfalso; simp_all; done) | (simp_all; done) | rfl))
    · refine g_iconst hC dX10_take_19 (v := (-1)) (by decide) ?_
      exact g_iret hC hR dX10_take_20 (pE_i (by simp only [s_take, hpl_p]; (repeat' split) <;> first | with_reducible rfl | contradiction | (exfalso; omega) | (rw [bI_t (by first | assumption | omega)]; rfl) | (rw [bI_f (by first | assumption | omega)]; rfl) | (exfalso; rename_i hz; exact absurd hz (by decide)) | (exfalso; rename_i hz; first | exact absurd hz.1 (by assumption) | exact absurd hz.2 (by assumption)) | (exfalso; simp only [Int32.lt_iff_toInt_lt, Int32.le_iff_toInt_le] at *; omega) | (exfalso; simp_all; done) | (simp_all; done) | rfl))
set_option maxRecDepth 20000 in
set_option maxHeartbeats 4000000 in
theorem c_cell (hk : gKok D vwCl (cyT cy) K) (hm : mOk o ad) (hI : aI S) (p : Int32) (i : Int32) (j : Int32) : gCt l D vwCl K yX10_cell wsX10_cell { frames := 2, cells := 0, slots := 0, locals := 44 } [.ref o, .int p, .int i, .int j] (mL o ad) (mW o ad cy S) (pE (some (.long (s_cell S p i j).1)) (mL o ad) (mW o ad cy (s_cell S p i j).2)) := by
  refine gCt.of hk (by decide) rfl rfl (fun X hC hR hnm => ?_)
  have hC : gC X l _ D vwCl (cyT cy) K cX10_cell 6 wsX10_cell RX10 := hC
  have hin : ∀ w ∈ wsX100, w ∈ wsX10_cell := by decide +kernel
  show gW X vwCl 6 (mL o ad) (mW o ad cy S) 0 0 0 [(0, .ref o), (1, .int p), (2, .int i), (3, .int j)] []
  have hnb := hI.nb
  refine g_aload_n hC dX10_cell_0 rfl 0 rfl (Or.inr ⟨_, rfl⟩) ?_
  refine g_iconst hC dX10_cell_1 (v := nI 0) (by decide) ?_
  refine m_put_0 (x := 0) hC hin (by decide +kernel) dX10_cell_2 ?_
  refine g_iload_n hC dX10_cell_5 rfl 1 rfl ?_
  refine g_S (As := [.int p]) (st := []) hC 1 dX10_cell_6 gX10_cell_X10_isPlace rfl (by decide +kernel) ⟨Nat.le_of_ble_eq_true rfl, Nat.le_of_ble_eq_true rfl⟩ rfl (Nat.le_of_ble_eq_true rfl) ⟨Nat.le_of_ble_eq_true rfl, Nat.le_of_ble_eq_true rfl⟩ (c2 := 0) (s2 := 0) rfl rfl (c_isPlace hk _) ?_
  refine g_ifB_ne (P := isP p) (tgt := 16) hC dX10_cell_9 (by decide) (fun h9 => ?_) (fun h9 => ?_)
  · obtain ⟨pj, hpj, rfl⟩ := isP_j h9
    have hpl_p : pl (nI pj) = pj := nI_clamp (by omega)
    have h5_p := hI.k5 hpj
    have hw_p := hI.wb hpj
    refine g_aload_n hC dX10_cell_16 rfl 0 rfl (Or.inr ⟨_, rfl⟩) ?_
    refine g_iload_n hC dX10_cell_17 rfl 1 rfl ?_
    refine g_iconst hC dX10_cell_18 (v := nI 3) (by decide) ?_
    have hcf_pj_3 : castF S pj 3 ≤ 2 := castF_2
    refine g_V (As := [.int (nI pj), .int (nI 3)]) (st := []) hC 2 dX10_cell_19 rfl mL_o mW_o gX10_cell_X10_castFault rfl (by decide +kernel) ⟨Nat.le_of_ble_eq_true rfl, Nat.le_of_ble_eq_true rfl⟩ rfl (Nat.le_of_ble_eq_true rfl) ⟨Nat.le_of_ble_eq_true rfl, Nat.le_of_ble_eq_true rfl⟩ (c2 := 0) (s2 := 0) rfl rfl (c_castFault hk hm pj 3 (by omega) hpj (hI.k5 hpj)) ?_
    refine g_istore (lv' := [(4, .int (nI (castF S pj 3))), (0, .ref o), (1, .int (nI pj)), (2, .int i), (3, .int j)]) hC dX10_cell_22 (by decide) rfl ?_
    refine g_iload hC dX10_cell_24 0 rfl ?_
    refine g_ifN_gt (a := castF S pj 3) (tgt := 44) hC dX10_cell_26 (by decide) (by omega) (fun h26 => ?_) (fun h26 => ?_)
    · refine g_aload_n hC dX10_cell_44 rfl 1 rfl (Or.inr ⟨_, rfl⟩) ?_
      refine g_iload hC dX10_cell_45 0 rfl ?_
      refine g_ifN_le (a := castF S pj 3) (tgt := 55) hC dX10_cell_47 (by decide) (by omega) (fun h47 => ?_) (fun h47 => ?_)
      · have hc0_pj := castF_0 h47
        have hc1_pj := hc0_pj.2
        have hl_pj := hI.lg hpj hc0_pj.1 (by omega)
        have hwk_pj := hI.wr hpj (by omega)
        refine g_iconst hC dX10_cell_55 (v := nI 3) (by decide) ?_
        refine g_V (As := [.int (nI 3)]) (st := []) hC 1 dX10_cell_56 rfl mL_o mW_o gX10_cell_X10_failsLong rfl (by decide +kernel) ⟨Nat.le_of_ble_eq_true rfl, Nat.le_of_ble_eq_true rfl⟩ rfl (Nat.le_of_ble_eq_true rfl) ⟨Nat.le_of_ble_eq_true rfl, Nat.le_of_ble_eq_true rfl⟩ (c2 := 0) (s2 := 0) rfl rfl (c_failsLong hk hm 3) ?_
        exact g_lret hC hR dX10_cell_59 (pE_l (by simp only [s_cell, hpl_p]; (repeat' split) <;> first | with_reducible rfl | contradiction | (exfalso; omega) | (rw [bI_t (by first | assumption | omega)]; rfl) | (rw [bI_f (by first | assumption | omega)]; rfl) | (exfalso; rename_i hz; exact absurd hz (by decide)) | (exfalso; rename_i hz; first | exact absurd hz.1 (by assumption) | exact absurd hz.2 (by assumption)) | (exfalso; simp only [Int32.lt_iff_toInt_lt, Int32.le_iff_toInt_le] at *; omega) | (exfalso; simp_all; done) | (simp_all; done) | rfl))
      · refine g_iload hC dX10_cell_50 0 rfl ?_
        refine g_goto (tgt := 56) hC dX10_cell_52 (by decide) ?_
        refine g_V (As := [.int (nI (castF S pj 3))]) (st := []) hC 1 dX10_cell_56 rfl mL_o mW_o gX10_cell_X10_failsLong rfl (by decide +kernel) ⟨Nat.le_of_ble_eq_true rfl, Nat.le_of_ble_eq_true rfl⟩ rfl (Nat.le_of_ble_eq_true rfl) ⟨Nat.le_of_ble_eq_true rfl, Nat.le_of_ble_eq_true rfl⟩ (c2 := 0) (s2 := 0) rfl rfl (c_failsLong hk hm (castF S pj 3)) ?_
        exact g_lret hC hR dX10_cell_59 (pE_l (by simp only [s_cell, hpl_p]; (repeat' split) <;> first | with_reducible rfl | contradiction | (exfalso; omega) | (rw [bI_t (by first | assumption | omega)]; rfl) | (rw [bI_f (by first | assumption | omega)]; rfl) | (exfalso; rename_i hz; exact absurd hz (by decide)) | (exfalso; rename_i hz; first | exact absurd hz.1 (by assumption) | exact absurd hz.2 (by assumption)) | (exfalso; simp only [Int32.lt_iff_toInt_lt, Int32.le_iff_toInt_le] at *; omega) | (exfalso; simp_all; done) | (simp_all; done) | rfl))
    · have hc0_pj := castF_0 h26
      have hc1_pj := hc0_pj.2
      have hl_pj := hI.lg hpj hc0_pj.1 (by omega)
      have hwk_pj := hI.wr hpj (by omega)
      refine g_iload_n hC dX10_cell_29 rfl 3 rfl ?_
      refine g_iconst hC dX10_cell_30 (v := nI 0) (by decide) ?_
      refine g_aload_n hC dX10_cell_31 rfl 1 rfl (Or.inr ⟨_, rfl⟩) ?_
      refine g_iload_n hC dX10_cell_32 rfl 2 rfl ?_
      refine g_V (As := [.int (nI pj)]) (st := [.int (nI 0), .int i]) hC 1 dX10_cell_33 rfl mL_o mW_o gX10_cell_X10_longOf rfl (by decide +kernel) ⟨Nat.le_of_ble_eq_true rfl, Nat.le_of_ble_eq_true rfl⟩ rfl (Nat.le_of_ble_eq_true rfl) ⟨Nat.le_of_ble_eq_true rfl, Nat.le_of_ble_eq_true rfl⟩ (c2 := 0) (s2 := 0) rfl rfl (c_longOf hk hm pj hpj (hI.k5 hpj) (hI.w1 hpj) (hI.w2 hpj)) ?_
      refine g_iconst hC dX10_cell_36 (v := nI 1) (by decide) ?_
      refine g_isub hC dX10_cell_37 ?_
      refine g_S (As := [.int i, .int (nI 0), .int (nI (longS S pj) - nI 1)]) (st := []) hC 3 dX10_cell_38 gX10_cell_X10_in rfl (by decide +kernel) ⟨Nat.le_of_ble_eq_true rfl, Nat.le_of_ble_eq_true rfl⟩ rfl (Nat.le_of_ble_eq_true rfl) ⟨Nat.le_of_ble_eq_true rfl, Nat.le_of_ble_eq_true rfl⟩ (c2 := 0) (s2 := 0) rfl rfl (c_in hk _ _ _) ?_
      refine g_ifB_ne (P := inR i (longS S pj)) (tgt := 60) hC dX10_cell_41 (by decide) (fun h41 => ?_) (fun h41 => ?_)
      · obtain ⟨ij, hij, rfl⟩ := (inR_j (n := (longS S pj)) (by omega)).mp h41
        have hpl_i : pl (nI ij) = ij := nI_clamp (by omega)
        refine g_aload_n hC dX10_cell_60 rfl 1 rfl (Or.inr ⟨_, rfl⟩) ?_
        refine g_iload_n hC dX10_cell_61 rfl 2 rfl ?_
        refine g_iload_n hC dX10_cell_62 rfl 3 rfl ?_
        have hrc := hI.rc (r := wh S pj) (i := ij) (hI.wr hpj (by omega)) (by omega)
        refine g_V (As := [.int (nI pj), .int (nI ij)]) (st := []) hC 2 dX10_cell_63 rfl mL_o mW_o gX10_cell_X10_at rfl (by decide +kernel) ⟨Nat.le_of_ble_eq_true rfl, Nat.le_of_ble_eq_true rfl⟩ rfl (Nat.le_of_ble_eq_true rfl) ⟨Nat.le_of_ble_eq_true rfl, Nat.le_of_ble_eq_true rfl⟩ (c2 := 0) (s2 := 0) rfl rfl (c_at hk hm pj ij (by omega) hpj (hI.k5 hpj) (hI.w1 hpj) (hI.w2 hpj)) ?_
        refine g_val (w := .int (nI (S.2.1 12 (16 * wh S pj + ij)))) (congrArg Value.int (atS_3 (S := S) (j := pj) (i := ij) (by omega))) ?_
        rcases Nat.eq_zero_or_pos (S.2.1 12 (16 * wh S pj + ij)) with hz | hz
        · refine g_val (w := .int (nI 0)) (by rw [hz]) ?_
          refine g_iconst hC dX10_cell_66 (v := nI 1) (by decide) ?_
          refine g_isub hC dX10_cell_67 ?_
          refine g_val (w := .int (-1)) (by decide) ?_
          refine g_istore (lv' := [(5, .int ((-1))), (4, .int (nI (castF S pj 3))), (0, .ref o), (1, .int (nI pj)), (2, .int (nI ij)), (3, .int j)]) hC dX10_cell_68 (by decide) rfl ?_
          refine g_iload hC dX10_cell_70 0 rfl ?_
          refine g_if_lt (x := (-1)) (tgt := 92) hC dX10_cell_72 (by decide) (fun h72 => ?_) (fun h72 => ?_)
          · refine g_aload_n hC dX10_cell_92 rfl 2 rfl (Or.inr ⟨_, rfl⟩) ?_
            refine g_iload hC dX10_cell_93 0 rfl ?_
            refine g_if_ge (x := (-1)) (tgt := 102) hC dX10_cell_95 (by decide) (fun h95 => ?_) (fun h95 => ?_)
            · exfalso; revert h95; decide
            · refine g_iconst hC dX10_cell_98 (v := nI 1) (by decide) ?_
              refine g_goto (tgt := 103) hC dX10_cell_99 (by decide) ?_
              refine g_V (As := [.int (nI 1)]) (st := []) hC 1 dX10_cell_103 rfl mL_o mW_o gX10_cell_X10_failsLong rfl (by decide +kernel) ⟨Nat.le_of_ble_eq_true rfl, Nat.le_of_ble_eq_true rfl⟩ rfl (Nat.le_of_ble_eq_true rfl) ⟨Nat.le_of_ble_eq_true rfl, Nat.le_of_ble_eq_true rfl⟩ (c2 := 0) (s2 := 0) rfl rfl (c_failsLong hk hm 1) ?_
              exact g_lret hC hR dX10_cell_106 (pE_l (by simp only [s_cell, hpl_p, hpl_i]; (repeat' split) <;> first | with_reducible rfl | contradiction | (exfalso; omega) | (rw [bI_t (by first | assumption | omega)]; rfl) | (rw [bI_f (by first | assumption | omega)]; rfl) | (exfalso; rename_i hz; exact absurd hz (by decide)) | (exfalso; rename_i hz; first | exact absurd hz.1 (by assumption) | exact absurd hz.2 (by assumption)) | (exfalso; simp only [Int32.lt_iff_toInt_lt, Int32.le_iff_toInt_le] at *; omega) | (exfalso; simp_all; done) | (simp_all; done) | rfl))
          · exfalso; revert h72; decide
        · refine g_iconst hC dX10_cell_66 (v := nI 1) (by decide) ?_
          refine g_isubN (a := S.2.1 12 (16 * wh S pj + ij)) (b := 1) hC (by omega) dX10_cell_67 ?_
          have hbl := hI.bl (r := (S.2.1 12 (16 * wh S pj + ij)) - 1) (by omega)
          refine g_istore (lv' := [(5, .int (nI ((S.2.1 12 (16 * wh S pj + ij)) - 1))), (4, .int (nI (castF S pj 3))), (0, .ref o), (1, .int (nI pj)), (2, .int (nI ij)), (3, .int j)]) hC dX10_cell_68 (by decide) rfl ?_
          refine g_iload hC dX10_cell_70 0 rfl ?_
          refine g_if_lt (x := nI ((S.2.1 12 (16 * wh S pj + ij)) - 1)) (tgt := 92) hC dX10_cell_72 (by decide) (fun h72 => ?_) (fun h72 => ?_)
          · exact absurd h72 (nI_pos (by omega))
          · refine g_iload_n hC dX10_cell_75 rfl 5 rfl ?_
            refine g_iconst hC dX10_cell_76 (v := nI 0) (by decide) ?_
            refine g_aload_n hC dX10_cell_77 rfl 2 rfl (Or.inr ⟨_, rfl⟩) ?_
            refine m_get_5 hC hin (by decide +kernel) dX10_cell_78 ?_
            refine g_iload hC dX10_cell_81 0 rfl ?_
            refine m_aldN (k := 5) (j := (S.2.1 12 (16 * wh S pj + ij)) - 1) hC hm (by decide) rfl rfl rfl dX10_cell_83 (show _ < 40000 from (by omega)) ?_
            refine g_iconst hC dX10_cell_84 (v := nI 1) (by decide) ?_
            refine g_isub hC dX10_cell_85 ?_
            refine g_S (As := [.int j, .int (nI 0), .int (nI (S.2.1 5 ((S.2.1 12 (16 * wh S pj + ij)) - 1)) - nI 1)]) (st := []) hC 3 dX10_cell_86 gX10_cell_X10_in rfl (by decide +kernel) ⟨Nat.le_of_ble_eq_true rfl, Nat.le_of_ble_eq_true rfl⟩ rfl (Nat.le_of_ble_eq_true rfl) ⟨Nat.le_of_ble_eq_true rfl, Nat.le_of_ble_eq_true rfl⟩ (c2 := 0) (s2 := 0) rfl rfl (c_in hk _ _ _) ?_
            refine g_ifB_ne (P := inR j (S.2.1 5 ((S.2.1 12 (16 * wh S pj + ij)) - 1))) (tgt := 107) hC dX10_cell_89 (by decide) (fun h89 => ?_) (fun h89 => ?_)
            · obtain ⟨jj, hjj, rfl⟩ := (inR_j (n := (S.2.1 5 ((S.2.1 12 (16 * wh S pj + ij)) - 1))) (by omega)).mp h89
              have hpl_j : pl (nI jj) = jj := nI_clamp (by omega)
              refine g_aload_n hC dX10_cell_107 rfl 2 rfl (Or.inr ⟨_, rfl⟩) ?_
              refine m_get_6 hC hin (by decide +kernel) dX10_cell_108 ?_
              refine g_bipush hC dX10_cell_111 (v := nI 16) (by decide) ?_
              refine g_iload hC dX10_cell_113 0 rfl ?_
              refine g_imulN (a := 16) (b := (S.2.1 12 (16 * wh S pj + ij)) - 1) hC dX10_cell_115 ?_
              refine g_iload_n hC dX10_cell_116 rfl 5 rfl ?_
              refine g_iaddN (a := 16 * ((S.2.1 12 (16 * wh S pj + ij)) - 1)) (b := jj) hC dX10_cell_117 ?_
              refine m_aldW (k := 6) (j := (16 * ((S.2.1 12 (16 * wh S pj + ij)) - 1)) + jj) hC hm (by decide) rfl rfl rfl dX10_cell_118 (show _ < 640000 from (by omega)) ?_
              refine g_i2l hC dX10_cell_119 rfl ?_
              exact g_lret hC hR dX10_cell_120 (pE_l (by simp only [s_cell, hpl_p, hpl_i, hpl_j]; (repeat' split) <;> first | with_reducible rfl | contradiction | (exfalso; omega) | (rw [bI_t (by first | assumption | omega)]; rfl) | (rw [bI_f (by first | assumption | omega)]; rfl) | (exfalso; rename_i hz; exact absurd hz (by decide)) | (exfalso; rename_i hz; first | exact absurd hz.1 (by assumption) | exact absurd hz.2 (by assumption)) | (exfalso; simp only [Int32.lt_iff_toInt_lt, Int32.le_iff_toInt_le] at *; omega) | (exfalso; simp_all; done) | (simp_all; done) | rfl))
            · refine g_aload_n hC dX10_cell_92 rfl 2 rfl (Or.inr ⟨_, rfl⟩) ?_
              refine g_iload hC dX10_cell_93 0 rfl ?_
              refine g_if_ge (x := nI ((S.2.1 12 (16 * wh S pj + ij)) - 1)) (tgt := 102) hC dX10_cell_95 (by decide) (fun h95 => ?_) (fun h95 => ?_)
              · refine g_iconst hC dX10_cell_102 (v := nI 3) (by decide) ?_
                refine g_V (As := [.int (nI 3)]) (st := []) hC 1 dX10_cell_103 rfl mL_o mW_o gX10_cell_X10_failsLong rfl (by decide +kernel) ⟨Nat.le_of_ble_eq_true rfl, Nat.le_of_ble_eq_true rfl⟩ rfl (Nat.le_of_ble_eq_true rfl) ⟨Nat.le_of_ble_eq_true rfl, Nat.le_of_ble_eq_true rfl⟩ (c2 := 0) (s2 := 0) rfl rfl (c_failsLong hk hm 3) ?_
                exact g_lret hC hR dX10_cell_106 (pE_l (by simp only [s_cell, hpl_p, hpl_i]; (repeat' split) <;> first | with_reducible rfl | contradiction | (exfalso; omega) | (rw [bI_t (by first | assumption | omega)]; rfl) | (rw [bI_f (by first | assumption | omega)]; rfl) | (exfalso; rename_i hz; exact absurd hz (by decide)) | (exfalso; rename_i hz; first | exact absurd hz.1 (by assumption) | exact absurd hz.2 (by assumption)) | (exfalso; simp only [Int32.lt_iff_toInt_lt, Int32.le_iff_toInt_le] at *; omega) | (exfalso; simp_all; done) | (simp_all; done) | rfl))
              · exact absurd (nI_pos' (by omega)) h95
      · refine g_aload_n hC dX10_cell_44 rfl 1 rfl (Or.inr ⟨_, rfl⟩) ?_
        refine g_iload hC dX10_cell_45 0 rfl ?_
        refine g_ifN_le (a := castF S pj 3) (tgt := 55) hC dX10_cell_47 (by decide) (by omega) (fun h47 => ?_) (fun h47 => ?_)
        · have hc0_pj := castF_0 h47
          have hc1_pj := hc0_pj.2
          have hl_pj := hI.lg hpj hc0_pj.1 (by omega)
          have hwk_pj := hI.wr hpj (by omega)
          refine g_iconst hC dX10_cell_55 (v := nI 3) (by decide) ?_
          refine g_V (As := [.int (nI 3)]) (st := []) hC 1 dX10_cell_56 rfl mL_o mW_o gX10_cell_X10_failsLong rfl (by decide +kernel) ⟨Nat.le_of_ble_eq_true rfl, Nat.le_of_ble_eq_true rfl⟩ rfl (Nat.le_of_ble_eq_true rfl) ⟨Nat.le_of_ble_eq_true rfl, Nat.le_of_ble_eq_true rfl⟩ (c2 := 0) (s2 := 0) rfl rfl (c_failsLong hk hm 3) ?_
          exact g_lret hC hR dX10_cell_59 (pE_l (by simp only [s_cell, hpl_p]; (repeat' split) <;> first | with_reducible rfl | contradiction | (exfalso; omega) | (rw [bI_t (by first | assumption | omega)]; rfl) | (rw [bI_f (by first | assumption | omega)]; rfl) | (exfalso; rename_i hz; exact absurd hz (by decide)) | (exfalso; rename_i hz; first | exact absurd hz.1 (by assumption) | exact absurd hz.2 (by assumption)) | (exfalso; simp only [Int32.lt_iff_toInt_lt, Int32.le_iff_toInt_le] at *; omega) | (exfalso; simp_all; done) | (simp_all; done) | rfl))
        · refine g_iload hC dX10_cell_50 0 rfl ?_
          refine g_goto (tgt := 56) hC dX10_cell_52 (by decide) ?_
          refine g_V (As := [.int (nI (castF S pj 3))]) (st := []) hC 1 dX10_cell_56 rfl mL_o mW_o gX10_cell_X10_failsLong rfl (by decide +kernel) ⟨Nat.le_of_ble_eq_true rfl, Nat.le_of_ble_eq_true rfl⟩ rfl (Nat.le_of_ble_eq_true rfl) ⟨Nat.le_of_ble_eq_true rfl, Nat.le_of_ble_eq_true rfl⟩ (c2 := 0) (s2 := 0) rfl rfl (c_failsLong hk hm (castF S pj 3)) ?_
          exact g_lret hC hR dX10_cell_59 (pE_l (by simp only [s_cell, hpl_p]; (repeat' split) <;> first | with_reducible rfl | contradiction | (exfalso; omega) | (rw [bI_t (by first | assumption | omega)]; rfl) | (rw [bI_f (by first | assumption | omega)]; rfl) | (exfalso; rename_i hz; exact absurd hz (by decide)) | (exfalso; rename_i hz; first | exact absurd hz.1 (by assumption) | exact absurd hz.2 (by assumption)) | (exfalso; simp only [Int32.lt_iff_toInt_lt, Int32.le_iff_toInt_le] at *; omega) | (exfalso; simp_all; done) | (simp_all; done) | rfl))
  · refine g_ldc2 (v := -9223372036854775808) hC (by decide +kernel) dX10_cell_12 ?_
    exact g_lret hC hR dX10_cell_15 (pE_l (by simp only [s_cell]; (repeat' split) <;> first | with_reducible rfl | contradiction | (exfalso; omega) | (rw [bI_t (by first | assumption | omega)]; rfl) | (rw [bI_f (by first | assumption | omega)]; rfl) | (exfalso; rename_i hz; exact absurd hz (by decide)) | (exfalso; rename_i hz; first | exact absurd hz.1 (by assumption) | exact absurd hz.2 (by assumption)) | (exfalso; simp only [Int32.lt_iff_toInt_lt, Int32.le_iff_toInt_le] at *; omega) | (exfalso; simp_all; done) | (simp_all; done) | rfl))
set_option maxRecDepth 20000 in
set_option maxHeartbeats 4000000 in
theorem c_mean (hk : gKok D vwCl (cyT cy) K) (hm : mOk o ad) (hI : aI S) (h23 : S.1 23 < 2 ^ 62) (h24 : S.1 24 < 2 ^ 31) : gCt l D vwCl K yX10_mean wsX10_mean { frames := 0, cells := 0, slots := 0, locals := 0 } [.ref o] (mL o ad) (mW o ad cy S) (pE (some (.int (s_mean S).1)) (mL o ad) (mW o ad cy (s_mean S).2)) := by
  refine gCt.of hk (by decide) rfl rfl (fun X hC hR hnm => ?_)
  have hC : gC X l _ D vwCl (cyT cy) K cX10_mean 1 wsX10_mean RX10 := hC
  have hin : ∀ w ∈ wsX100, w ∈ wsX10_mean := by decide +kernel
  show gW X vwCl 1 (mL o ad) (mW o ad cy S) 0 0 0 [(0, .ref o)] []
  have hnb := hI.nb
  refine g_aload_n hC dX10_mean_0 rfl 0 rfl (Or.inr ⟨_, rfl⟩) ?_
  refine g_iconst hC dX10_mean_1 (v := nI 0) (by decide) ?_
  refine m_put_0 (x := 0) hC hin (by decide +kernel) dX10_mean_2 ?_
  refine g_aload_n hC dX10_mean_5 rfl 0 rfl (Or.inr ⟨_, rfl⟩) ?_
  refine m_get_24 hC hin (by decide +kernel) dX10_mean_6 ?_
  refine g_ifN_ne (a := S.1 24) (tgt := 19) hC dX10_mean_9 (by decide) (by omega) (fun h9 => ?_) (fun h9 => ?_)
  · refine g_aload_n hC dX10_mean_19 rfl 0 rfl (Or.inr ⟨_, rfl⟩) ?_
    refine m_get_23 hC hin (by decide +kernel) dX10_mean_20 ?_
    refine g_aload_n hC dX10_mean_23 rfl 0 rfl (Or.inr ⟨_, rfl⟩) ?_
    refine m_get_24 hC hin (by decide +kernel) dX10_mean_24 ?_
    refine g_i2l hC dX10_mean_27 (v := lN (S.1 24)) (nI_l (n := S.1 24) (by omega)) ?_
    refine g_ldivN (a := S.1 23) (b := S.1 24) hC (by omega) (by omega) (by omega) dX10_mean_28 ?_
    refine g_l2i hC dX10_mean_29 (v := nI ((S.1 23) / (S.1 24))) (lN_i _) ?_
    exact g_iret hC hR dX10_mean_30 (pE_i (by simp only [s_mean]; (repeat' split) <;> first | with_reducible rfl | contradiction | (exfalso; omega) | (rw [bI_t (by first | assumption | omega)]; rfl) | (rw [bI_f (by first | assumption | omega)]; rfl) | (exfalso; rename_i hz; exact absurd hz (by decide)) | (exfalso; rename_i hz; first | exact absurd hz.1 (by assumption) | exact absurd hz.2 (by assumption)) | (exfalso; simp only [Int32.lt_iff_toInt_lt, Int32.le_iff_toInt_le] at *; omega) | (exfalso; simp_all; done) | (simp_all; done) | rfl))
  · refine g_aload_n hC dX10_mean_12 rfl 0 rfl (Or.inr ⟨_, rfl⟩) ?_
    refine g_iconst hC dX10_mean_13 (v := nI 1) (by decide) ?_
    refine m_put_0 (x := 1) hC hin (by decide +kernel) dX10_mean_14 ?_
    refine g_iconst hC dX10_mean_17 (v := nI 0) (by decide) ?_
    exact g_iret hC hR dX10_mean_18 (pE_i (by simp only [s_mean]; (repeat' split) <;> first | with_reducible rfl | contradiction | (exfalso; omega) | (rw [bI_t (by first | assumption | omega)]; rfl) | (rw [bI_f (by first | assumption | omega)]; rfl) | (exfalso; rename_i hz; exact absurd hz (by decide)) | (exfalso; rename_i hz; first | exact absurd hz.1 (by assumption) | exact absurd hz.2 (by assumption)) | (exfalso; simp only [Int32.lt_iff_toInt_lt, Int32.le_iff_toInt_le] at *; omega) | (exfalso; simp_all; done) | (simp_all; done) | rfl))
set_option maxRecDepth 20000 in
set_option maxHeartbeats 4000000 in
theorem c_told (hk : gKok D vwCl (cyT cy) K) (hm : mOk o ad) (hI : aI S) (p : Int32) (v : Int32) : gCt l D vwCl K yX10_told wsX10_told { frames := 2, cells := 0, slots := 0, locals := 44 } [.ref o, .int p, .int v] (mL o ad) (mW o ad cy S) (pE (some (.int (s_told S p v).1)) (mL o ad) (mW o ad cy (s_told S p v).2)) := by
  refine gCt.of hk (by decide) rfl rfl (fun X hC hR hnm => ?_)
  have hC : gC X l _ D vwCl (cyT cy) K cX10_told 5 wsX10_told RX10 := hC
  have hin : ∀ w ∈ wsX100, w ∈ wsX10_told := by decide +kernel
  show gW X vwCl 5 (mL o ad) (mW o ad cy S) 0 0 0 [(0, .ref o), (1, .int p), (2, .int v)] []
  have hnb := hI.nb
  refine g_aload_n hC dX10_told_0 rfl 0 rfl (Or.inr ⟨_, rfl⟩) ?_
  refine g_iconst hC dX10_told_1 (v := nI 0) (by decide) ?_
  refine m_put_0 (x := 0) hC hin (by decide +kernel) dX10_told_2 ?_
  refine g_iload_n hC dX10_told_5 rfl 1 rfl ?_
  refine g_S (As := [.int p]) (st := []) hC 1 dX10_told_6 gX10_told_X10_isPlace rfl (by decide +kernel) ⟨Nat.le_of_ble_eq_true rfl, Nat.le_of_ble_eq_true rfl⟩ rfl (Nat.le_of_ble_eq_true rfl) ⟨Nat.le_of_ble_eq_true rfl, Nat.le_of_ble_eq_true rfl⟩ (c2 := 0) (s2 := 0) rfl rfl (c_isPlace hk _) ?_
  refine g_ifB_ne (P := isP p) (tgt := 14) hC dX10_told_9 (by decide) (fun h9 => ?_) (fun h9 => ?_)
  · obtain ⟨pj, hpj, rfl⟩ := isP_j h9
    have hpl_p : pl (nI pj) = pj := nI_clamp (by omega)
    have h5_p := hI.k5 hpj
    have hw_p := hI.wb hpj
    refine g_iload_n hC dX10_told_14 rfl 2 rfl ?_
    refine g_iconst hC dX10_told_15 (v := nI 0) (by decide) ?_
    refine g_iconst hC dX10_told_16 (v := nI 3) (by decide) ?_
    refine g_S (As := [.int v, .int (nI 0), .int (nI 3)]) (st := []) hC 3 dX10_told_17 gX10_told_X10_in rfl (by decide +kernel) ⟨Nat.le_of_ble_eq_true rfl, Nat.le_of_ble_eq_true rfl⟩ rfl (Nat.le_of_ble_eq_true rfl) ⟨Nat.le_of_ble_eq_true rfl, Nat.le_of_ble_eq_true rfl⟩ (c2 := 0) (s2 := 0) rfl rfl (c_in hk _ _ _) ?_
    refine g_ifB_ne (P := nI 0 ≤ v ∧ v ≤ nI 3) (tgt := 26) hC dX10_told_20 (by decide) (fun h20 => ?_) (fun h20 => ?_)
    · obtain ⟨vj, hv1, hv2, rfl⟩ := ty_j (lo := 0) (hi := 3) (by decide) h20 (by decide)
      rcases (show vj = 0 ∨ vj = 1 ∨ vj = 2 ∨ vj = 3 by omega) with rfl | rfl | rfl | rfl
      · have hpl_v : pl (nI 0) = 0 := by decide
        refine g_aload_n hC dX10_told_26 rfl 0 rfl (Or.inr ⟨_, rfl⟩) ?_
        refine g_iload_n hC dX10_told_27 rfl 1 rfl ?_
        refine g_iconst hC dX10_told_28 (v := nI 4) (by decide) ?_
        have hcf_pj_4 : castF S pj 4 ≤ 2 := castF_2
        refine g_V (As := [.int (nI pj), .int (nI 4)]) (st := []) hC 2 dX10_told_29 rfl mL_o mW_o gX10_told_X10_castFault rfl (by decide +kernel) ⟨Nat.le_of_ble_eq_true rfl, Nat.le_of_ble_eq_true rfl⟩ rfl (Nat.le_of_ble_eq_true rfl) ⟨Nat.le_of_ble_eq_true rfl, Nat.le_of_ble_eq_true rfl⟩ (c2 := 0) (s2 := 0) rfl rfl (c_castFault hk hm pj 4 (by omega) hpj (hI.k5 hpj)) ?_
        refine g_istore_n (lv' := [(3, .int (nI (castF S pj 4))), (0, .ref o), (1, .int (nI pj)), (2, .int (nI 0))]) hC dX10_told_32 rfl (by decide) rfl ?_
        refine g_iload_n hC dX10_told_33 rfl 0 rfl ?_
        refine g_ifN_le (a := castF S pj 4) (tgt := 43) hC dX10_told_34 (by decide) (by omega) (fun h34 => ?_) (fun h34 => ?_)
        · have hc0_pj := castF_0 h34
          have hc1_pj := hc0_pj.2
          have ht_pj := hI.wt hpj (by omega)
          have htk_pj := hI.tk ht_pj
          have htm_pj := htk_pj.2.1
          have hts_pj := htk_pj.sl
          refine g_aload_n hC dX10_told_43 rfl 1 rfl (Or.inr ⟨_, rfl⟩) ?_
          refine m_get_3 hC hin (by decide +kernel) dX10_told_44 ?_
          refine g_iload_n hC dX10_told_47 rfl 2 rfl ?_
          refine m_aldN (k := 3) (j := pj) hC hm (by decide) rfl rfl rfl dX10_told_48 (show _ < 10 from (by omega)) ?_
          refine g_istore (lv' := [(4, .int (nI (wh S pj))), (3, .int (nI (castF S pj 4))), (0, .ref o), (1, .int (nI pj)), (2, .int (nI 0))]) hC dX10_told_49 (by decide) rfl ?_
          refine g_iload_n hC dX10_told_51 rfl 4 rfl ?_
          refine g_ifN_ne (a := 0) (tgt := 65) hC dX10_told_52 (by decide) (by omega) (fun h52 => ?_) (fun h52 => ?_)
          · exfalso; omega
          · refine g_aload_n hC dX10_told_55 rfl 2 rfl (Or.inr ⟨_, rfl⟩) ?_
            refine m_get_16 hC hin (by decide +kernel) dX10_told_56 ?_
            refine g_iload hC dX10_told_59 0 rfl ?_
            refine m_aldN (k := 16) (j := wh S pj) hC hm (by decide) rfl rfl rfl dX10_told_61 (show _ < 520 from (by omega)) ?_
            refine g_goto (tgt := 102) hC dX10_told_62 (by decide) ?_
            exact g_iret hC hR dX10_told_102 (pE_i (by simp only [s_told, hpl_p, hpl_v]; (repeat' split) <;> first | with_reducible rfl | contradiction | (exfalso; omega) | (rw [bI_t (by first | assumption | omega)]; rfl) | (rw [bI_f (by first | assumption | omega)]; rfl) | (exfalso; rename_i hz; exact absurd hz (by decide)) | (exfalso; rename_i hz; first | exact absurd hz.1 (by assumption) | exact absurd hz.2 (by assumption)) | (exfalso; simp only [Int32.lt_iff_toInt_lt, Int32.le_iff_toInt_le] at *; omega) | (exfalso; simp_all; done) | (simp_all; done) | rfl))
        · refine g_aload_n hC dX10_told_37 rfl 1 rfl (Or.inr ⟨_, rfl⟩) ?_
          refine g_iload_n hC dX10_told_38 rfl 0 rfl ?_
          refine g_V (As := [.int (nI (castF S pj 4))]) (st := []) hC 1 dX10_told_39 rfl mL_o mW_o gX10_told_X10_fails rfl (by decide +kernel) ⟨Nat.le_of_ble_eq_true rfl, Nat.le_of_ble_eq_true rfl⟩ rfl (Nat.le_of_ble_eq_true rfl) ⟨Nat.le_of_ble_eq_true rfl, Nat.le_of_ble_eq_true rfl⟩ (c2 := 0) (s2 := 0) rfl rfl (c_fails hk hm (castF S pj 4)) ?_
          exact g_iret hC hR dX10_told_42 (pE_i (by simp only [s_told, hpl_p, hpl_v]; (repeat' split) <;> first | with_reducible rfl | contradiction | (exfalso; omega) | (rw [bI_t (by first | assumption | omega)]; rfl) | (rw [bI_f (by first | assumption | omega)]; rfl) | (exfalso; rename_i hz; exact absurd hz (by decide)) | (exfalso; rename_i hz; first | exact absurd hz.1 (by assumption) | exact absurd hz.2 (by assumption)) | (exfalso; simp only [Int32.lt_iff_toInt_lt, Int32.le_iff_toInt_le] at *; omega) | (exfalso; simp_all; done) | (simp_all; done) | rfl))
      · have hpl_v : pl (nI 1) = 1 := by decide
        refine g_aload_n hC dX10_told_26 rfl 0 rfl (Or.inr ⟨_, rfl⟩) ?_
        refine g_iload_n hC dX10_told_27 rfl 1 rfl ?_
        refine g_iconst hC dX10_told_28 (v := nI 4) (by decide) ?_
        have hcf_pj_4 : castF S pj 4 ≤ 2 := castF_2
        refine g_V (As := [.int (nI pj), .int (nI 4)]) (st := []) hC 2 dX10_told_29 rfl mL_o mW_o gX10_told_X10_castFault rfl (by decide +kernel) ⟨Nat.le_of_ble_eq_true rfl, Nat.le_of_ble_eq_true rfl⟩ rfl (Nat.le_of_ble_eq_true rfl) ⟨Nat.le_of_ble_eq_true rfl, Nat.le_of_ble_eq_true rfl⟩ (c2 := 0) (s2 := 0) rfl rfl (c_castFault hk hm pj 4 (by omega) hpj (hI.k5 hpj)) ?_
        refine g_istore_n (lv' := [(3, .int (nI (castF S pj 4))), (0, .ref o), (1, .int (nI pj)), (2, .int (nI 1))]) hC dX10_told_32 rfl (by decide) rfl ?_
        refine g_iload_n hC dX10_told_33 rfl 0 rfl ?_
        refine g_ifN_le (a := castF S pj 4) (tgt := 43) hC dX10_told_34 (by decide) (by omega) (fun h34 => ?_) (fun h34 => ?_)
        · have hc0_pj := castF_0 h34
          have hc1_pj := hc0_pj.2
          have ht_pj := hI.wt hpj (by omega)
          have htk_pj := hI.tk ht_pj
          have htm_pj := htk_pj.2.1
          have hts_pj := htk_pj.sl
          refine g_aload_n hC dX10_told_43 rfl 1 rfl (Or.inr ⟨_, rfl⟩) ?_
          refine m_get_3 hC hin (by decide +kernel) dX10_told_44 ?_
          refine g_iload_n hC dX10_told_47 rfl 2 rfl ?_
          refine m_aldN (k := 3) (j := pj) hC hm (by decide) rfl rfl rfl dX10_told_48 (show _ < 10 from (by omega)) ?_
          refine g_istore (lv' := [(4, .int (nI (wh S pj))), (3, .int (nI (castF S pj 4))), (0, .ref o), (1, .int (nI pj)), (2, .int (nI 1))]) hC dX10_told_49 (by decide) rfl ?_
          refine g_iload_n hC dX10_told_51 rfl 4 rfl ?_
          refine g_ifN_ne (a := 1) (tgt := 65) hC dX10_told_52 (by decide) (by omega) (fun h52 => ?_) (fun h52 => ?_)
          · refine g_iload_n hC dX10_told_65 rfl 4 rfl ?_
            refine g_iconst hC dX10_told_66 (v := nI 1) (by decide) ?_
            refine g_icmpN_ne (a := 1) (b := 1) (tgt := 80) hC dX10_told_67 (by decide) (by omega) (by omega) (fun h67 => ?_) (fun h67 => ?_)
            · exfalso; omega
            · refine g_aload_n hC dX10_told_70 rfl 2 rfl (Or.inr ⟨_, rfl⟩) ?_
              refine m_get_15 hC hin (by decide +kernel) dX10_told_71 ?_
              refine g_iload hC dX10_told_74 0 rfl ?_
              refine m_aldN (k := 15) (j := wh S pj) hC hm (by decide) rfl rfl rfl dX10_told_76 (show _ < 520 from (by omega)) ?_
              refine g_goto (tgt := 102) hC dX10_told_77 (by decide) ?_
              exact g_iret hC hR dX10_told_102 (pE_i (by simp only [s_told, hpl_p, hpl_v]; (repeat' split) <;> first | with_reducible rfl | contradiction | (exfalso; omega) | (rw [bI_t (by first | assumption | omega)]; rfl) | (rw [bI_f (by first | assumption | omega)]; rfl) | (exfalso; rename_i hz; exact absurd hz (by decide)) | (exfalso; rename_i hz; first | exact absurd hz.1 (by assumption) | exact absurd hz.2 (by assumption)) | (exfalso; simp only [Int32.lt_iff_toInt_lt, Int32.le_iff_toInt_le] at *; omega) | (exfalso; simp_all; done) | (simp_all; done) | rfl))
          · exfalso; omega
        · refine g_aload_n hC dX10_told_37 rfl 1 rfl (Or.inr ⟨_, rfl⟩) ?_
          refine g_iload_n hC dX10_told_38 rfl 0 rfl ?_
          refine g_V (As := [.int (nI (castF S pj 4))]) (st := []) hC 1 dX10_told_39 rfl mL_o mW_o gX10_told_X10_fails rfl (by decide +kernel) ⟨Nat.le_of_ble_eq_true rfl, Nat.le_of_ble_eq_true rfl⟩ rfl (Nat.le_of_ble_eq_true rfl) ⟨Nat.le_of_ble_eq_true rfl, Nat.le_of_ble_eq_true rfl⟩ (c2 := 0) (s2 := 0) rfl rfl (c_fails hk hm (castF S pj 4)) ?_
          exact g_iret hC hR dX10_told_42 (pE_i (by simp only [s_told, hpl_p, hpl_v]; (repeat' split) <;> first | with_reducible rfl | contradiction | (exfalso; omega) | (rw [bI_t (by first | assumption | omega)]; rfl) | (rw [bI_f (by first | assumption | omega)]; rfl) | (exfalso; rename_i hz; exact absurd hz (by decide)) | (exfalso; rename_i hz; first | exact absurd hz.1 (by assumption) | exact absurd hz.2 (by assumption)) | (exfalso; simp only [Int32.lt_iff_toInt_lt, Int32.le_iff_toInt_le] at *; omega) | (exfalso; simp_all; done) | (simp_all; done) | rfl))
      · have hpl_v : pl (nI 2) = 2 := by decide
        refine g_aload_n hC dX10_told_26 rfl 0 rfl (Or.inr ⟨_, rfl⟩) ?_
        refine g_iload_n hC dX10_told_27 rfl 1 rfl ?_
        refine g_iconst hC dX10_told_28 (v := nI 4) (by decide) ?_
        have hcf_pj_4 : castF S pj 4 ≤ 2 := castF_2
        refine g_V (As := [.int (nI pj), .int (nI 4)]) (st := []) hC 2 dX10_told_29 rfl mL_o mW_o gX10_told_X10_castFault rfl (by decide +kernel) ⟨Nat.le_of_ble_eq_true rfl, Nat.le_of_ble_eq_true rfl⟩ rfl (Nat.le_of_ble_eq_true rfl) ⟨Nat.le_of_ble_eq_true rfl, Nat.le_of_ble_eq_true rfl⟩ (c2 := 0) (s2 := 0) rfl rfl (c_castFault hk hm pj 4 (by omega) hpj (hI.k5 hpj)) ?_
        refine g_istore_n (lv' := [(3, .int (nI (castF S pj 4))), (0, .ref o), (1, .int (nI pj)), (2, .int (nI 2))]) hC dX10_told_32 rfl (by decide) rfl ?_
        refine g_iload_n hC dX10_told_33 rfl 0 rfl ?_
        refine g_ifN_le (a := castF S pj 4) (tgt := 43) hC dX10_told_34 (by decide) (by omega) (fun h34 => ?_) (fun h34 => ?_)
        · have hc0_pj := castF_0 h34
          have hc1_pj := hc0_pj.2
          have ht_pj := hI.wt hpj (by omega)
          have htk_pj := hI.tk ht_pj
          have htm_pj := htk_pj.2.1
          have hts_pj := htk_pj.sl
          refine g_aload_n hC dX10_told_43 rfl 1 rfl (Or.inr ⟨_, rfl⟩) ?_
          refine m_get_3 hC hin (by decide +kernel) dX10_told_44 ?_
          refine g_iload_n hC dX10_told_47 rfl 2 rfl ?_
          refine m_aldN (k := 3) (j := pj) hC hm (by decide) rfl rfl rfl dX10_told_48 (show _ < 10 from (by omega)) ?_
          refine g_istore (lv' := [(4, .int (nI (wh S pj))), (3, .int (nI (castF S pj 4))), (0, .ref o), (1, .int (nI pj)), (2, .int (nI 2))]) hC dX10_told_49 (by decide) rfl ?_
          refine g_iload_n hC dX10_told_51 rfl 4 rfl ?_
          refine g_ifN_ne (a := 2) (tgt := 65) hC dX10_told_52 (by decide) (by omega) (fun h52 => ?_) (fun h52 => ?_)
          · refine g_iload_n hC dX10_told_65 rfl 4 rfl ?_
            refine g_iconst hC dX10_told_66 (v := nI 1) (by decide) ?_
            refine g_icmpN_ne (a := 2) (b := 1) (tgt := 80) hC dX10_told_67 (by decide) (by omega) (by omega) (fun h67 => ?_) (fun h67 => ?_)
            · refine g_iload_n hC dX10_told_80 rfl 4 rfl ?_
              refine g_iconst hC dX10_told_81 (v := nI 2) (by decide) ?_
              refine g_icmpN_ne (a := 2) (b := 2) (tgt := 95) hC dX10_told_82 (by decide) (by omega) (by omega) (fun h82 => ?_) (fun h82 => ?_)
              · exfalso; omega
              · refine g_aload_n hC dX10_told_85 rfl 2 rfl (Or.inr ⟨_, rfl⟩) ?_
                refine m_get_17 hC hin (by decide +kernel) dX10_told_86 ?_
                refine g_iload hC dX10_told_89 0 rfl ?_
                refine m_aldN (k := 17) (j := wh S pj) hC hm (by decide) rfl rfl rfl dX10_told_91 (show _ < 520 from (by omega)) ?_
                refine g_goto (tgt := 102) hC dX10_told_92 (by decide) ?_
                exact g_iret hC hR dX10_told_102 (pE_i (by simp only [s_told, hpl_p, hpl_v]; (repeat' split) <;> first | with_reducible rfl | contradiction | (exfalso; omega) | (rw [bI_t (by first | assumption | omega)]; rfl) | (rw [bI_f (by first | assumption | omega)]; rfl) | (exfalso; rename_i hz; exact absurd hz (by decide)) | (exfalso; rename_i hz; first | exact absurd hz.1 (by assumption) | exact absurd hz.2 (by assumption)) | (exfalso; simp only [Int32.lt_iff_toInt_lt, Int32.le_iff_toInt_le] at *; omega) | (exfalso; simp_all; done) | (simp_all; done) | rfl))
            · exfalso; omega
          · exfalso; omega
        · refine g_aload_n hC dX10_told_37 rfl 1 rfl (Or.inr ⟨_, rfl⟩) ?_
          refine g_iload_n hC dX10_told_38 rfl 0 rfl ?_
          refine g_V (As := [.int (nI (castF S pj 4))]) (st := []) hC 1 dX10_told_39 rfl mL_o mW_o gX10_told_X10_fails rfl (by decide +kernel) ⟨Nat.le_of_ble_eq_true rfl, Nat.le_of_ble_eq_true rfl⟩ rfl (Nat.le_of_ble_eq_true rfl) ⟨Nat.le_of_ble_eq_true rfl, Nat.le_of_ble_eq_true rfl⟩ (c2 := 0) (s2 := 0) rfl rfl (c_fails hk hm (castF S pj 4)) ?_
          exact g_iret hC hR dX10_told_42 (pE_i (by simp only [s_told, hpl_p, hpl_v]; (repeat' split) <;> first | with_reducible rfl | contradiction | (exfalso; omega) | (rw [bI_t (by first | assumption | omega)]; rfl) | (rw [bI_f (by first | assumption | omega)]; rfl) | (exfalso; rename_i hz; exact absurd hz (by decide)) | (exfalso; rename_i hz; first | exact absurd hz.1 (by assumption) | exact absurd hz.2 (by assumption)) | (exfalso; simp only [Int32.lt_iff_toInt_lt, Int32.le_iff_toInt_le] at *; omega) | (exfalso; simp_all; done) | (simp_all; done) | rfl))
      · have hpl_v : pl (nI 3) = 3 := by decide
        refine g_aload_n hC dX10_told_26 rfl 0 rfl (Or.inr ⟨_, rfl⟩) ?_
        refine g_iload_n hC dX10_told_27 rfl 1 rfl ?_
        refine g_iconst hC dX10_told_28 (v := nI 4) (by decide) ?_
        have hcf_pj_4 : castF S pj 4 ≤ 2 := castF_2
        refine g_V (As := [.int (nI pj), .int (nI 4)]) (st := []) hC 2 dX10_told_29 rfl mL_o mW_o gX10_told_X10_castFault rfl (by decide +kernel) ⟨Nat.le_of_ble_eq_true rfl, Nat.le_of_ble_eq_true rfl⟩ rfl (Nat.le_of_ble_eq_true rfl) ⟨Nat.le_of_ble_eq_true rfl, Nat.le_of_ble_eq_true rfl⟩ (c2 := 0) (s2 := 0) rfl rfl (c_castFault hk hm pj 4 (by omega) hpj (hI.k5 hpj)) ?_
        refine g_istore_n (lv' := [(3, .int (nI (castF S pj 4))), (0, .ref o), (1, .int (nI pj)), (2, .int (nI 3))]) hC dX10_told_32 rfl (by decide) rfl ?_
        refine g_iload_n hC dX10_told_33 rfl 0 rfl ?_
        refine g_ifN_le (a := castF S pj 4) (tgt := 43) hC dX10_told_34 (by decide) (by omega) (fun h34 => ?_) (fun h34 => ?_)
        · have hc0_pj := castF_0 h34
          have hc1_pj := hc0_pj.2
          have ht_pj := hI.wt hpj (by omega)
          have htk_pj := hI.tk ht_pj
          have htm_pj := htk_pj.2.1
          have hts_pj := htk_pj.sl
          refine g_aload_n hC dX10_told_43 rfl 1 rfl (Or.inr ⟨_, rfl⟩) ?_
          refine m_get_3 hC hin (by decide +kernel) dX10_told_44 ?_
          refine g_iload_n hC dX10_told_47 rfl 2 rfl ?_
          refine m_aldN (k := 3) (j := pj) hC hm (by decide) rfl rfl rfl dX10_told_48 (show _ < 10 from (by omega)) ?_
          refine g_istore (lv' := [(4, .int (nI (wh S pj))), (3, .int (nI (castF S pj 4))), (0, .ref o), (1, .int (nI pj)), (2, .int (nI 3))]) hC dX10_told_49 (by decide) rfl ?_
          refine g_iload_n hC dX10_told_51 rfl 4 rfl ?_
          refine g_ifN_ne (a := 3) (tgt := 65) hC dX10_told_52 (by decide) (by omega) (fun h52 => ?_) (fun h52 => ?_)
          · refine g_iload_n hC dX10_told_65 rfl 4 rfl ?_
            refine g_iconst hC dX10_told_66 (v := nI 1) (by decide) ?_
            refine g_icmpN_ne (a := 3) (b := 1) (tgt := 80) hC dX10_told_67 (by decide) (by omega) (by omega) (fun h67 => ?_) (fun h67 => ?_)
            · refine g_iload_n hC dX10_told_80 rfl 4 rfl ?_
              refine g_iconst hC dX10_told_81 (v := nI 2) (by decide) ?_
              refine g_icmpN_ne (a := 3) (b := 2) (tgt := 95) hC dX10_told_82 (by decide) (by omega) (by omega) (fun h82 => ?_) (fun h82 => ?_)
              · refine g_aload_n hC dX10_told_95 rfl 2 rfl (Or.inr ⟨_, rfl⟩) ?_
                refine m_get_18 hC hin (by decide +kernel) dX10_told_96 ?_
                refine g_iload hC dX10_told_99 0 rfl ?_
                refine m_aldN (k := 18) (j := wh S pj) hC hm (by decide) rfl rfl rfl dX10_told_101 (show _ < 520 from (by omega)) ?_
                exact g_iret hC hR dX10_told_102 (pE_i (by simp only [s_told, hpl_p, hpl_v]; (repeat' split) <;> first | with_reducible rfl | contradiction | (exfalso; omega) | (rw [bI_t (by first | assumption | omega)]; rfl) | (rw [bI_f (by first | assumption | omega)]; rfl) | (exfalso; rename_i hz; exact absurd hz (by decide)) | (exfalso; rename_i hz; first | exact absurd hz.1 (by assumption) | exact absurd hz.2 (by assumption)) | (exfalso; simp only [Int32.lt_iff_toInt_lt, Int32.le_iff_toInt_le] at *; omega) | (exfalso; simp_all; done) | (simp_all; done) | rfl))
              · exfalso; omega
            · exfalso; omega
          · exfalso; omega
        · refine g_aload_n hC dX10_told_37 rfl 1 rfl (Or.inr ⟨_, rfl⟩) ?_
          refine g_iload_n hC dX10_told_38 rfl 0 rfl ?_
          refine g_V (As := [.int (nI (castF S pj 4))]) (st := []) hC 1 dX10_told_39 rfl mL_o mW_o gX10_told_X10_fails rfl (by decide +kernel) ⟨Nat.le_of_ble_eq_true rfl, Nat.le_of_ble_eq_true rfl⟩ rfl (Nat.le_of_ble_eq_true rfl) ⟨Nat.le_of_ble_eq_true rfl, Nat.le_of_ble_eq_true rfl⟩ (c2 := 0) (s2 := 0) rfl rfl (c_fails hk hm (castF S pj 4)) ?_
          exact g_iret hC hR dX10_told_42 (pE_i (by simp only [s_told, hpl_p, hpl_v]; (repeat' split) <;> first | with_reducible rfl | contradiction | (exfalso; omega) | (rw [bI_t (by first | assumption | omega)]; rfl) | (rw [bI_f (by first | assumption | omega)]; rfl) | (exfalso; rename_i hz; exact absurd hz (by decide)) | (exfalso; rename_i hz; first | exact absurd hz.1 (by assumption) | exact absurd hz.2 (by assumption)) | (exfalso; simp only [Int32.lt_iff_toInt_lt, Int32.le_iff_toInt_le] at *; omega) | (exfalso; simp_all; done) | (simp_all; done) | rfl))
    · refine g_bipush hC dX10_told_23 (v := (-2)) (by decide) ?_
      exact g_iret hC hR dX10_told_25 (pE_i (by simp only [s_told, hpl_p]; (repeat' split) <;> first | with_reducible rfl | contradiction | (exfalso; omega) | (rw [bI_t (by first | assumption | omega)]; rfl) | (rw [bI_f (by first | assumption | omega)]; rfl) | (exfalso; rename_i hz; exact absurd hz (by decide)) | (exfalso; rename_i hz; first | exact absurd hz.1 (by assumption) | exact absurd hz.2 (by assumption)) | (exfalso; simp only [Int32.lt_iff_toInt_lt, Int32.le_iff_toInt_le] at *; omega) | (exfalso; simp_all; done) | (simp_all; done) | rfl))
  · refine g_iconst hC dX10_told_12 (v := (-1)) (by decide) ?_
    exact g_iret hC hR dX10_told_13 (pE_i (by simp only [s_told]; (repeat' split) <;> first | with_reducible rfl | contradiction | (exfalso; omega) | (rw [bI_t (by first | assumption | omega)]; rfl) | (rw [bI_f (by first | assumption | omega)]; rfl) | (exfalso; rename_i hz; exact absurd hz (by decide)) | (exfalso; rename_i hz; first | exact absurd hz.1 (by assumption) | exact absurd hz.2 (by assumption)) | (exfalso; simp only [Int32.lt_iff_toInt_lt, Int32.le_iff_toInt_le] at *; omega) | (exfalso; simp_all; done) | (simp_all; done) | rfl))
set_option maxRecDepth 20000 in
set_option maxHeartbeats 4000000 in
theorem c_slot (hk : gKok D vwCl (cyT cy) K) (hm : mOk o ad) (hI : aI S) (p : Int32) (i : Int32) : gCt l D vwCl K yX10_slot wsX10_slot { frames := 2, cells := 0, slots := 0, locals := 44 } [.ref o, .int p, .int i] (mL o ad) (mW o ad cy S) (pE (some (.int (s_slot S p i).1)) (mL o ad) (mW o ad cy (s_slot S p i).2)) := by
  refine gCt.of hk (by decide) rfl rfl (fun X hC hR hnm => ?_)
  have hC : gC X l _ D vwCl (cyT cy) K cX10_slot 5 wsX10_slot RX10 := hC
  have hin : ∀ w ∈ wsX100, w ∈ wsX10_slot := by decide +kernel
  show gW X vwCl 5 (mL o ad) (mW o ad cy S) 0 0 0 [(0, .ref o), (1, .int p), (2, .int i)] []
  have hnb := hI.nb
  refine g_aload_n hC dX10_slot_0 rfl 0 rfl (Or.inr ⟨_, rfl⟩) ?_
  refine g_iconst hC dX10_slot_1 (v := nI 0) (by decide) ?_
  refine m_put_0 (x := 0) hC hin (by decide +kernel) dX10_slot_2 ?_
  refine g_iload_n hC dX10_slot_5 rfl 1 rfl ?_
  refine g_S (As := [.int p]) (st := []) hC 1 dX10_slot_6 gX10_slot_X10_isPlace rfl (by decide +kernel) ⟨Nat.le_of_ble_eq_true rfl, Nat.le_of_ble_eq_true rfl⟩ rfl (Nat.le_of_ble_eq_true rfl) ⟨Nat.le_of_ble_eq_true rfl, Nat.le_of_ble_eq_true rfl⟩ (c2 := 0) (s2 := 0) rfl rfl (c_isPlace hk _) ?_
  refine g_ifB_ne (P := isP p) (tgt := 14) hC dX10_slot_9 (by decide) (fun h9 => ?_) (fun h9 => ?_)
  · obtain ⟨pj, hpj, rfl⟩ := isP_j h9
    have hpl_p : pl (nI pj) = pj := nI_clamp (by omega)
    have h5_p := hI.k5 hpj
    have hw_p := hI.wb hpj
    refine g_aload_n hC dX10_slot_14 rfl 0 rfl (Or.inr ⟨_, rfl⟩) ?_
    refine g_iload_n hC dX10_slot_15 rfl 1 rfl ?_
    refine g_iconst hC dX10_slot_16 (v := nI 4) (by decide) ?_
    have hcf_pj_4 : castF S pj 4 ≤ 2 := castF_2
    refine g_V (As := [.int (nI pj), .int (nI 4)]) (st := []) hC 2 dX10_slot_17 rfl mL_o mW_o gX10_slot_X10_castFault rfl (by decide +kernel) ⟨Nat.le_of_ble_eq_true rfl, Nat.le_of_ble_eq_true rfl⟩ rfl (Nat.le_of_ble_eq_true rfl) ⟨Nat.le_of_ble_eq_true rfl, Nat.le_of_ble_eq_true rfl⟩ (c2 := 0) (s2 := 0) rfl rfl (c_castFault hk hm pj 4 (by omega) hpj (hI.k5 hpj)) ?_
    refine g_istore_n (lv' := [(3, .int (nI (castF S pj 4))), (0, .ref o), (1, .int (nI pj)), (2, .int i)]) hC dX10_slot_20 rfl (by decide) rfl ?_
    refine g_aload_n hC dX10_slot_21 rfl 1 rfl (Or.inr ⟨_, rfl⟩) ?_
    refine m_get_3 hC hin (by decide +kernel) dX10_slot_22 ?_
    refine g_iload_n hC dX10_slot_25 rfl 2 rfl ?_
    refine m_aldN (k := 3) (j := pj) hC hm (by decide) rfl rfl rfl dX10_slot_26 (show _ < 10 from (by omega)) ?_
    refine g_istore (lv' := [(4, .int (nI (wh S pj))), (3, .int (nI (castF S pj 4))), (0, .ref o), (1, .int (nI pj)), (2, .int i)]) hC dX10_slot_27 (by decide) rfl ?_
    refine g_iload_n hC dX10_slot_29 rfl 1 rfl ?_
    refine g_ifN_gt (a := castF S pj 4) (tgt := 50) hC dX10_slot_30 (by decide) (by omega) (fun h30 => ?_) (fun h30 => ?_)
    · refine g_aload_n hC dX10_slot_50 rfl 2 rfl (Or.inr ⟨_, rfl⟩) ?_
      refine g_iload_n hC dX10_slot_51 rfl 1 rfl ?_
      refine g_ifN_le (a := castF S pj 4) (tgt := 59) hC dX10_slot_52 (by decide) (by omega) (fun h52 => ?_) (fun h52 => ?_)
      · have hc0_pj := castF_0 h52
        have hc1_pj := hc0_pj.2
        have ht_pj := hI.wt hpj (by omega)
        have htk_pj := hI.tk ht_pj
        have htm_pj := htk_pj.2.1
        have hts_pj := htk_pj.sl
        refine g_iconst hC dX10_slot_59 (v := nI 3) (by decide) ?_
        refine g_V (As := [.int (nI 3)]) (st := []) hC 1 dX10_slot_60 rfl mL_o mW_o gX10_slot_X10_fails rfl (by decide +kernel) ⟨Nat.le_of_ble_eq_true rfl, Nat.le_of_ble_eq_true rfl⟩ rfl (Nat.le_of_ble_eq_true rfl) ⟨Nat.le_of_ble_eq_true rfl, Nat.le_of_ble_eq_true rfl⟩ (c2 := 0) (s2 := 0) rfl rfl (c_fails hk hm 3) ?_
        exact g_iret hC hR dX10_slot_63 (pE_i (by simp only [s_slot, hpl_p]; (repeat' split) <;> first | with_reducible rfl | contradiction | (exfalso; omega) | (rw [bI_t (by first | assumption | omega)]; rfl) | (rw [bI_f (by first | assumption | omega)]; rfl) | (exfalso; rename_i hz; exact absurd hz (by decide)) | (exfalso; rename_i hz; first | exact absurd hz.1 (by assumption) | exact absurd hz.2 (by assumption)) | (exfalso; simp only [Int32.lt_iff_toInt_lt, Int32.le_iff_toInt_le] at *; omega) | (exfalso; simp_all; done) | (simp_all; done) | rfl))
      · refine g_iload_n hC dX10_slot_55 rfl 1 rfl ?_
        refine g_goto (tgt := 60) hC dX10_slot_56 (by decide) ?_
        refine g_V (As := [.int (nI (castF S pj 4))]) (st := []) hC 1 dX10_slot_60 rfl mL_o mW_o gX10_slot_X10_fails rfl (by decide +kernel) ⟨Nat.le_of_ble_eq_true rfl, Nat.le_of_ble_eq_true rfl⟩ rfl (Nat.le_of_ble_eq_true rfl) ⟨Nat.le_of_ble_eq_true rfl, Nat.le_of_ble_eq_true rfl⟩ (c2 := 0) (s2 := 0) rfl rfl (c_fails hk hm (castF S pj 4)) ?_
        exact g_iret hC hR dX10_slot_63 (pE_i (by simp only [s_slot, hpl_p]; (repeat' split) <;> first | with_reducible rfl | contradiction | (exfalso; omega) | (rw [bI_t (by first | assumption | omega)]; rfl) | (rw [bI_f (by first | assumption | omega)]; rfl) | (exfalso; rename_i hz; exact absurd hz (by decide)) | (exfalso; rename_i hz; first | exact absurd hz.1 (by assumption) | exact absurd hz.2 (by assumption)) | (exfalso; simp only [Int32.lt_iff_toInt_lt, Int32.le_iff_toInt_le] at *; omega) | (exfalso; simp_all; done) | (simp_all; done) | rfl))
    · have hc0_pj := castF_0 h30
      have hc1_pj := hc0_pj.2
      have ht_pj := hI.wt hpj (by omega)
      have htk_pj := hI.tk ht_pj
      have htm_pj := htk_pj.2.1
      have hts_pj := htk_pj.sl
      refine g_iload_n hC dX10_slot_33 rfl 4 rfl ?_
      refine g_iconst hC dX10_slot_34 (v := nI 0) (by decide) ?_
      refine g_aload_n hC dX10_slot_35 rfl 2 rfl (Or.inr ⟨_, rfl⟩) ?_
      refine m_get_15 hC hin (by decide +kernel) dX10_slot_36 ?_
      refine g_iload hC dX10_slot_39 0 rfl ?_
      refine m_aldN (k := 15) (j := wh S pj) hC hm (by decide) rfl rfl rfl dX10_slot_41 (show _ < 520 from (by omega)) ?_
      refine g_iconst hC dX10_slot_42 (v := nI 1) (by decide) ?_
      refine g_isub hC dX10_slot_43 ?_
      refine g_S (As := [.int i, .int (nI 0), .int (nI (S.2.1 15 (wh S pj)) - nI 1)]) (st := []) hC 3 dX10_slot_44 gX10_slot_X10_in rfl (by decide +kernel) ⟨Nat.le_of_ble_eq_true rfl, Nat.le_of_ble_eq_true rfl⟩ rfl (Nat.le_of_ble_eq_true rfl) ⟨Nat.le_of_ble_eq_true rfl, Nat.le_of_ble_eq_true rfl⟩ (c2 := 0) (s2 := 0) rfl rfl (c_in hk _ _ _) ?_
      refine g_ifB_ne (P := inR i (S.2.1 15 (wh S pj))) (tgt := 64) hC dX10_slot_47 (by decide) (fun h47 => ?_) (fun h47 => ?_)
      · obtain ⟨ij, hij, rfl⟩ := (inR_j (n := (S.2.1 15 (wh S pj))) (by omega)).mp h47
        have hpl_i : pl (nI ij) = ij := nI_clamp (by omega)
        have hsl := htk_pj.2.2.2.2.2.1 ij hij
        refine g_aload_n hC dX10_slot_64 rfl 2 rfl (Or.inr ⟨_, rfl⟩) ?_
        refine m_get_19 hC hin (by decide +kernel) dX10_slot_65 ?_
        refine g_sipush hC dX10_slot_68 (v := nI 256) (by decide) ?_
        refine g_iload hC dX10_slot_71 0 rfl ?_
        refine g_imulN (a := 256) (b := wh S pj) hC dX10_slot_73 ?_
        refine g_iload_n hC dX10_slot_74 rfl 4 rfl ?_
        refine g_iaddN (a := 256 * (wh S pj)) (b := ij) hC dX10_slot_75 ?_
        refine m_aldN (k := 19) (j := (256 * (wh S pj)) + ij) hC hm (by decide) rfl rfl rfl dX10_slot_76 (show _ < 133120 from (by omega)) ?_
        refine g_ifN_ne (a := S.2.1 19 ((256 * (wh S pj)) + ij)) (tgt := 85) hC dX10_slot_77 (by decide) (by omega) (fun h77 => ?_) (fun h77 => ?_)
        · refine g_aload_n hC dX10_slot_85 rfl 2 rfl (Or.inr ⟨_, rfl⟩) ?_
          refine m_get_19 hC hin (by decide +kernel) dX10_slot_86 ?_
          refine g_sipush hC dX10_slot_89 (v := nI 256) (by decide) ?_
          refine g_iload hC dX10_slot_92 0 rfl ?_
          refine g_imulN (a := 256) (b := wh S pj) hC dX10_slot_94 ?_
          refine g_iload_n hC dX10_slot_95 rfl 4 rfl ?_
          refine g_iaddN (a := 256 * (wh S pj)) (b := ij) hC dX10_slot_96 ?_
          refine m_aldN (k := 19) (j := (256 * (wh S pj)) + ij) hC hm (by decide) rfl rfl rfl dX10_slot_97 (show _ < 133120 from (by omega)) ?_
          refine g_iconst hC dX10_slot_98 (v := nI 1) (by decide) ?_
          refine g_isubN (a := S.2.1 19 ((256 * (wh S pj)) + ij)) (b := 1) hC (by omega) dX10_slot_99 ?_
          exact g_iret hC hR dX10_slot_100 (pE_i (by simp only [s_slot, hpl_p, hpl_i]; (repeat' split) <;> first | with_reducible rfl | contradiction | (exfalso; omega) | (rw [bI_t (by first | assumption | omega)]; rfl) | (rw [bI_f (by first | assumption | omega)]; rfl) | (exfalso; rename_i hz; exact absurd hz (by decide)) | (exfalso; rename_i hz; first | exact absurd hz.1 (by assumption) | exact absurd hz.2 (by assumption)) | (exfalso; simp only [Int32.lt_iff_toInt_lt, Int32.le_iff_toInt_le] at *; omega) | (exfalso; simp_all; done) | (simp_all; done) | rfl))
        · refine g_bipush hC dX10_slot_80 (v := (-3)) (by decide) ?_
          refine g_goto (tgt := 100) hC dX10_slot_82 (by decide) ?_
          exact g_iret hC hR dX10_slot_100 (pE_i (by simp only [s_slot, hpl_p, hpl_i]; (repeat' split) <;> first | with_reducible rfl | contradiction | (exfalso; omega) | (rw [bI_t (by first | assumption | omega)]; rfl) | (rw [bI_f (by first | assumption | omega)]; rfl) | (exfalso; rename_i hz; exact absurd hz (by decide)) | (exfalso; rename_i hz; first | exact absurd hz.1 (by assumption) | exact absurd hz.2 (by assumption)) | (exfalso; simp only [Int32.lt_iff_toInt_lt, Int32.le_iff_toInt_le] at *; omega) | (exfalso; simp_all; done) | (simp_all; done) | rfl))
      · refine g_aload_n hC dX10_slot_50 rfl 2 rfl (Or.inr ⟨_, rfl⟩) ?_
        refine g_iload_n hC dX10_slot_51 rfl 1 rfl ?_
        refine g_ifN_le (a := castF S pj 4) (tgt := 59) hC dX10_slot_52 (by decide) (by omega) (fun h52 => ?_) (fun h52 => ?_)
        · have hc0_pj := castF_0 h52
          have hc1_pj := hc0_pj.2
          have ht_pj := hI.wt hpj (by omega)
          have htk_pj := hI.tk ht_pj
          have htm_pj := htk_pj.2.1
          have hts_pj := htk_pj.sl
          refine g_iconst hC dX10_slot_59 (v := nI 3) (by decide) ?_
          refine g_V (As := [.int (nI 3)]) (st := []) hC 1 dX10_slot_60 rfl mL_o mW_o gX10_slot_X10_fails rfl (by decide +kernel) ⟨Nat.le_of_ble_eq_true rfl, Nat.le_of_ble_eq_true rfl⟩ rfl (Nat.le_of_ble_eq_true rfl) ⟨Nat.le_of_ble_eq_true rfl, Nat.le_of_ble_eq_true rfl⟩ (c2 := 0) (s2 := 0) rfl rfl (c_fails hk hm 3) ?_
          exact g_iret hC hR dX10_slot_63 (pE_i (by simp only [s_slot, hpl_p]; (repeat' split) <;> first | with_reducible rfl | contradiction | (exfalso; omega) | (rw [bI_t (by first | assumption | omega)]; rfl) | (rw [bI_f (by first | assumption | omega)]; rfl) | (exfalso; rename_i hz; exact absurd hz (by decide)) | (exfalso; rename_i hz; first | exact absurd hz.1 (by assumption) | exact absurd hz.2 (by assumption)) | (exfalso; simp only [Int32.lt_iff_toInt_lt, Int32.le_iff_toInt_le] at *; omega) | (exfalso; simp_all; done) | (simp_all; done) | rfl))
        · refine g_iload_n hC dX10_slot_55 rfl 1 rfl ?_
          refine g_goto (tgt := 60) hC dX10_slot_56 (by decide) ?_
          refine g_V (As := [.int (nI (castF S pj 4))]) (st := []) hC 1 dX10_slot_60 rfl mL_o mW_o gX10_slot_X10_fails rfl (by decide +kernel) ⟨Nat.le_of_ble_eq_true rfl, Nat.le_of_ble_eq_true rfl⟩ rfl (Nat.le_of_ble_eq_true rfl) ⟨Nat.le_of_ble_eq_true rfl, Nat.le_of_ble_eq_true rfl⟩ (c2 := 0) (s2 := 0) rfl rfl (c_fails hk hm (castF S pj 4)) ?_
          exact g_iret hC hR dX10_slot_63 (pE_i (by simp only [s_slot, hpl_p]; (repeat' split) <;> first | with_reducible rfl | contradiction | (exfalso; omega) | (rw [bI_t (by first | assumption | omega)]; rfl) | (rw [bI_f (by first | assumption | omega)]; rfl) | (exfalso; rename_i hz; exact absurd hz (by decide)) | (exfalso; rename_i hz; first | exact absurd hz.1 (by assumption) | exact absurd hz.2 (by assumption)) | (exfalso; simp only [Int32.lt_iff_toInt_lt, Int32.le_iff_toInt_le] at *; omega) | (exfalso; simp_all; done) | (simp_all; done) | rfl))
  · refine g_iconst hC dX10_slot_12 (v := (-1)) (by decide) ?_
    exact g_iret hC hR dX10_slot_13 (pE_i (by simp only [s_slot]; (repeat' split) <;> first | with_reducible rfl | contradiction | (exfalso; omega) | (rw [bI_t (by first | assumption | omega)]; rfl) | (rw [bI_f (by first | assumption | omega)]; rfl) | (exfalso; rename_i hz; exact absurd hz (by decide)) | (exfalso; rename_i hz; first | exact absurd hz.1 (by assumption) | exact absurd hz.2 (by assumption)) | (exfalso; simp only [Int32.lt_iff_toInt_lt, Int32.le_iff_toInt_le] at *; omega) | (exfalso; simp_all; done) | (simp_all; done) | rfl))
set_option maxRecDepth 20000 in
set_option maxHeartbeats 4000000 in
theorem c_term (hk : gKok D vwCl (cyT cy) K) (hm : mOk o ad) (hI : aI S) (p : Int32) (q : Int32) (i : Int32) : gCt l D vwCl K yX10_term wsX10_term { frames := 2, cells := 0, slots := 0, locals := 44 } [.ref o, .int p, .int q, .int i] (mL o ad) (mW o ad cy S) (pE (some (.int (s_term S p q i).1)) (mL o ad) (mW o ad cy (s_term S p q i).2)) := by
  refine gCt.of hk (by decide) rfl rfl (fun X hC hR hnm => ?_)
  have hC : gC X l _ D vwCl (cyT cy) K cX10_term 6 wsX10_term RX10 := hC
  have hin : ∀ w ∈ wsX100, w ∈ wsX10_term := by decide +kernel
  show gW X vwCl 6 (mL o ad) (mW o ad cy S) 0 0 0 [(0, .ref o), (1, .int p), (2, .int q), (3, .int i)] []
  have hnb := hI.nb
  refine g_aload_n hC dX10_term_0 rfl 0 rfl (Or.inr ⟨_, rfl⟩) ?_
  refine g_iconst hC dX10_term_1 (v := nI 0) (by decide) ?_
  refine m_put_0 (x := 0) hC hin (by decide +kernel) dX10_term_2 ?_
  refine g_iload_n hC dX10_term_5 rfl 1 rfl ?_
  refine g_S (As := [.int p]) (st := []) hC 1 dX10_term_6 gX10_term_X10_isPlace rfl (by decide +kernel) ⟨Nat.le_of_ble_eq_true rfl, Nat.le_of_ble_eq_true rfl⟩ rfl (Nat.le_of_ble_eq_true rfl) ⟨Nat.le_of_ble_eq_true rfl, Nat.le_of_ble_eq_true rfl⟩ (c2 := 0) (s2 := 0) rfl rfl (c_isPlace hk _) ?_
  refine g_ifB_eq (P := isP p) (tgt := 19) hC dX10_term_9 (by decide) (fun h9 => ?_) (fun h9 => ?_)
  · refine g_iconst hC dX10_term_19 (v := (-1)) (by decide) ?_
    exact g_iret hC hR dX10_term_20 (pE_i (by simp only [s_term]; (repeat' split) <;> first | with_reducible rfl | contradiction | (exfalso; omega) | (rw [bI_t (by first | assumption | omega)]; rfl) | (rw [bI_f (by first | assumption | omega)]; rfl) | (exfalso; rename_i hz; exact absurd hz (by decide)) | (exfalso; rename_i hz; first | exact absurd hz.1 (by assumption) | exact absurd hz.2 (by assumption)) | (exfalso; simp only [Int32.lt_iff_toInt_lt, Int32.le_iff_toInt_le] at *; omega) | (exfalso; simp_all; done) | (simp_all; done) | rfl))
  · obtain ⟨pj, hpj, rfl⟩ := isP_j h9
    have hpl_p : pl (nI pj) = pj := nI_clamp (by omega)
    have h5_p := hI.k5 hpj
    have hw_p := hI.wb hpj
    refine g_iload_n hC dX10_term_12 rfl 2 rfl ?_
    refine g_S (As := [.int q]) (st := []) hC 1 dX10_term_13 gX10_term_X10_isPlace rfl (by decide +kernel) ⟨Nat.le_of_ble_eq_true rfl, Nat.le_of_ble_eq_true rfl⟩ rfl (Nat.le_of_ble_eq_true rfl) ⟨Nat.le_of_ble_eq_true rfl, Nat.le_of_ble_eq_true rfl⟩ (c2 := 0) (s2 := 0) rfl rfl (c_isPlace hk _) ?_
    refine g_ifB_ne (P := isP q) (tgt := 21) hC dX10_term_16 (by decide) (fun h16 => ?_) (fun h16 => ?_)
    · obtain ⟨qj, hqj, rfl⟩ := isP_j h16
      have hpl_q : pl (nI qj) = qj := nI_clamp (by omega)
      have h5_q := hI.k5 hqj
      have hw_q := hI.wb hqj
      refine g_aload_n hC dX10_term_21 rfl 0 rfl (Or.inr ⟨_, rfl⟩) ?_
      refine g_iload_n hC dX10_term_22 rfl 2 rfl ?_
      refine g_iconst hC dX10_term_23 (v := nI 4) (by decide) ?_
      have hcf_qj_4 : castF S qj 4 ≤ 2 := castF_2
      refine g_V (As := [.int (nI qj), .int (nI 4)]) (st := []) hC 2 dX10_term_24 rfl mL_o mW_o gX10_term_X10_castFault rfl (by decide +kernel) ⟨Nat.le_of_ble_eq_true rfl, Nat.le_of_ble_eq_true rfl⟩ rfl (Nat.le_of_ble_eq_true rfl) ⟨Nat.le_of_ble_eq_true rfl, Nat.le_of_ble_eq_true rfl⟩ (c2 := 0) (s2 := 0) rfl rfl (c_castFault hk hm qj 4 (by omega) hqj (hI.k5 hqj)) ?_
      refine g_istore (lv' := [(4, .int (nI (castF S qj 4))), (0, .ref o), (1, .int (nI pj)), (2, .int (nI qj)), (3, .int i)]) hC dX10_term_27 (by decide) rfl ?_
      refine g_aload_n hC dX10_term_29 rfl 1 rfl (Or.inr ⟨_, rfl⟩) ?_
      refine m_get_3 hC hin (by decide +kernel) dX10_term_30 ?_
      refine g_iload_n hC dX10_term_33 rfl 3 rfl ?_
      refine m_aldN (k := 3) (j := qj) hC hm (by decide) rfl rfl rfl dX10_term_34 (show _ < 10 from (by omega)) ?_
      refine g_istore (lv' := [(5, .int (nI (wh S qj))), (4, .int (nI (castF S qj 4))), (0, .ref o), (1, .int (nI pj)), (2, .int (nI qj)), (3, .int i)]) hC dX10_term_35 (by decide) rfl ?_
      refine g_iload hC dX10_term_37 1 rfl ?_
      refine g_ifN_gt (a := castF S qj 4) (tgt := 59) hC dX10_term_39 (by decide) (by omega) (fun h39 => ?_) (fun h39 => ?_)
      · refine g_aload_n hC dX10_term_59 rfl 2 rfl (Or.inr ⟨_, rfl⟩) ?_
        refine g_iload hC dX10_term_60 1 rfl ?_
        refine g_ifN_le (a := castF S qj 4) (tgt := 70) hC dX10_term_62 (by decide) (by omega) (fun h62 => ?_) (fun h62 => ?_)
        · have hc0_qj := castF_0 h62
          have hc1_qj := hc0_qj.2
          have ht_qj := hI.wt hqj (by omega)
          have htk_qj := hI.tk ht_qj
          have htm_qj := htk_qj.2.1
          have hts_qj := htk_qj.sl
          refine g_iconst hC dX10_term_70 (v := nI 3) (by decide) ?_
          refine g_V (As := [.int (nI 3)]) (st := []) hC 1 dX10_term_71 rfl mL_o mW_o gX10_term_X10_fails rfl (by decide +kernel) ⟨Nat.le_of_ble_eq_true rfl, Nat.le_of_ble_eq_true rfl⟩ rfl (Nat.le_of_ble_eq_true rfl) ⟨Nat.le_of_ble_eq_true rfl, Nat.le_of_ble_eq_true rfl⟩ (c2 := 0) (s2 := 0) rfl rfl (c_fails hk hm 3) ?_
          exact g_iret hC hR dX10_term_74 (pE_i (by simp only [s_term, hpl_p, hpl_q]; (repeat' split) <;> first | with_reducible rfl | contradiction | (exfalso; omega) | (rw [bI_t (by first | assumption | omega)]; rfl) | (rw [bI_f (by first | assumption | omega)]; rfl) | (exfalso; rename_i hz; exact absurd hz (by decide)) | (exfalso; rename_i hz; first | exact absurd hz.1 (by assumption) | exact absurd hz.2 (by assumption)) | (exfalso; simp only [Int32.lt_iff_toInt_lt, Int32.le_iff_toInt_le] at *; omega) | (exfalso; simp_all; done) | (simp_all; done) | rfl))
        · refine g_iload hC dX10_term_65 1 rfl ?_
          refine g_goto (tgt := 71) hC dX10_term_67 (by decide) ?_
          refine g_V (As := [.int (nI (castF S qj 4))]) (st := []) hC 1 dX10_term_71 rfl mL_o mW_o gX10_term_X10_fails rfl (by decide +kernel) ⟨Nat.le_of_ble_eq_true rfl, Nat.le_of_ble_eq_true rfl⟩ rfl (Nat.le_of_ble_eq_true rfl) ⟨Nat.le_of_ble_eq_true rfl, Nat.le_of_ble_eq_true rfl⟩ (c2 := 0) (s2 := 0) rfl rfl (c_fails hk hm (castF S qj 4)) ?_
          exact g_iret hC hR dX10_term_74 (pE_i (by simp only [s_term, hpl_p, hpl_q]; (repeat' split) <;> first | with_reducible rfl | contradiction | (exfalso; omega) | (rw [bI_t (by first | assumption | omega)]; rfl) | (rw [bI_f (by first | assumption | omega)]; rfl) | (exfalso; rename_i hz; exact absurd hz (by decide)) | (exfalso; rename_i hz; first | exact absurd hz.1 (by assumption) | exact absurd hz.2 (by assumption)) | (exfalso; simp only [Int32.lt_iff_toInt_lt, Int32.le_iff_toInt_le] at *; omega) | (exfalso; simp_all; done) | (simp_all; done) | rfl))
      · have hc0_qj := castF_0 h39
        have hc1_qj := hc0_qj.2
        have ht_qj := hI.wt hqj (by omega)
        have htk_qj := hI.tk ht_qj
        have htm_qj := htk_qj.2.1
        have hts_qj := htk_qj.sl
        refine g_iload_n hC dX10_term_42 rfl 5 rfl ?_
        refine g_iconst hC dX10_term_43 (v := nI 0) (by decide) ?_
        refine g_aload_n hC dX10_term_44 rfl 2 rfl (Or.inr ⟨_, rfl⟩) ?_
        refine m_get_16 hC hin (by decide +kernel) dX10_term_45 ?_
        refine g_iload hC dX10_term_48 0 rfl ?_
        refine m_aldN (k := 16) (j := wh S qj) hC hm (by decide) rfl rfl rfl dX10_term_50 (show _ < 520 from (by omega)) ?_
        refine g_iconst hC dX10_term_51 (v := nI 1) (by decide) ?_
        refine g_isub hC dX10_term_52 ?_
        refine g_S (As := [.int i, .int (nI 0), .int (nI (S.2.1 16 (wh S qj)) - nI 1)]) (st := []) hC 3 dX10_term_53 gX10_term_X10_in rfl (by decide +kernel) ⟨Nat.le_of_ble_eq_true rfl, Nat.le_of_ble_eq_true rfl⟩ rfl (Nat.le_of_ble_eq_true rfl) ⟨Nat.le_of_ble_eq_true rfl, Nat.le_of_ble_eq_true rfl⟩ (c2 := 0) (s2 := 0) rfl rfl (c_in hk _ _ _) ?_
        refine g_ifB_ne (P := inR i (S.2.1 16 (wh S qj))) (tgt := 75) hC dX10_term_56 (by decide) (fun h56 => ?_) (fun h56 => ?_)
        · obtain ⟨ij, hij, rfl⟩ := (inR_j (n := (S.2.1 16 (wh S qj))) (by omega)).mp h56
          have hpl_i : pl (nI ij) = ij := nI_clamp (by omega)
          have hto := htk_qj.2.2.2.2.1 ij hij
          refine g_aload_n hC dX10_term_75 rfl 2 rfl (Or.inr ⟨_, rfl⟩) ?_
          refine g_iload_n hC dX10_term_76 rfl 3 rfl ?_
          refine g_iconst hC dX10_term_77 (v := nI 1) (by decide) ?_
          refine g_aload_n hC dX10_term_78 rfl 2 rfl (Or.inr ⟨_, rfl⟩) ?_
          refine m_get_20 hC hin (by decide +kernel) dX10_term_79 ?_
          refine g_bipush hC dX10_term_82 (v := nI 100) (by decide) ?_
          refine g_iload hC dX10_term_84 0 rfl ?_
          refine g_imulN (a := 100) (b := wh S qj) hC dX10_term_86 ?_
          refine g_iload_n hC dX10_term_87 rfl 5 rfl ?_
          refine g_iaddN (a := 100 * (wh S qj)) (b := ij) hC dX10_term_88 ?_
          refine m_aldN (k := 20) (j := (100 * (wh S qj)) + ij) hC hm (by decide) rfl rfl rfl dX10_term_89 (show _ < 52000 from (by omega)) ?_
          refine g_Vv (As := [.int (nI pj), .int (nI 1), .int (nI (S.2.1 20 ((100 * (wh S qj)) + ij)))]) (st := []) hC 3 dX10_term_90 rfl mL_o mW_o gX10_term_X10_hold rfl (by decide +kernel) ⟨Nat.le_of_ble_eq_true rfl, Nat.le_of_ble_eq_true rfl⟩ rfl (Nat.le_of_ble_eq_true rfl) ⟨Nat.le_of_ble_eq_true rfl, Nat.le_of_ble_eq_true rfl⟩ (c2 := 0) (s2 := 0) rfl rfl (c_hold hk hm pj 1 (S.2.1 20 ((100 * (wh S qj)) + ij)) (by omega)) ?_
          refine g_aload_n hC dX10_term_93 rfl 2 rfl (Or.inr ⟨_, rfl⟩) ?_
          refine m_get_5 hC hin (by decide +kernel) dX10_term_94 ?_
          refine g_aload_n hC dX10_term_97 rfl 2 rfl (Or.inr ⟨_, rfl⟩) ?_
          refine m_get_3 hC hin (by decide +kernel) dX10_term_98 ?_
          refine g_iload_n hC dX10_term_101 rfl 3 rfl ?_
          refine m_aldN (k := 3) (j := pj) hC hm (by decide) rfl rfl rfl dX10_term_102 (show _ < 10 from (by omega)) ?_
          refine g_val (w := .int (nI (S.2.1 20 ((100 * (wh S qj)) + ij)))) (by simp [aSc, aN, aW, aNr, aWr, va_up]) ?_
          refine m_aldN (k := 5) (j := S.2.1 20 ((100 * (wh S qj)) + ij)) hC hm (by decide) rfl rfl rfl dX10_term_103 (show _ < 40000 from (by omega)) ?_
          exact g_iret hC hR dX10_term_104 (pE_i (by simp only [s_term, hpl_p, hpl_q, hpl_i]; (repeat' split) <;> first | with_reducible rfl | contradiction | (exfalso; omega) | (rw [bI_t (by first | assumption | omega)]; rfl) | (rw [bI_f (by first | assumption | omega)]; rfl) | (exfalso; rename_i hz; exact absurd hz (by decide)) | (exfalso; rename_i hz; first | exact absurd hz.1 (by assumption) | exact absurd hz.2 (by assumption)) | (exfalso; simp only [Int32.lt_iff_toInt_lt, Int32.le_iff_toInt_le] at *; omega) | (exfalso; simp_all; done) | (simp_all; done) | rfl))
        · refine g_aload_n hC dX10_term_59 rfl 2 rfl (Or.inr ⟨_, rfl⟩) ?_
          refine g_iload hC dX10_term_60 1 rfl ?_
          refine g_ifN_le (a := castF S qj 4) (tgt := 70) hC dX10_term_62 (by decide) (by omega) (fun h62 => ?_) (fun h62 => ?_)
          · have hc0_qj := castF_0 h62
            have hc1_qj := hc0_qj.2
            have ht_qj := hI.wt hqj (by omega)
            have htk_qj := hI.tk ht_qj
            have htm_qj := htk_qj.2.1
            have hts_qj := htk_qj.sl
            refine g_iconst hC dX10_term_70 (v := nI 3) (by decide) ?_
            refine g_V (As := [.int (nI 3)]) (st := []) hC 1 dX10_term_71 rfl mL_o mW_o gX10_term_X10_fails rfl (by decide +kernel) ⟨Nat.le_of_ble_eq_true rfl, Nat.le_of_ble_eq_true rfl⟩ rfl (Nat.le_of_ble_eq_true rfl) ⟨Nat.le_of_ble_eq_true rfl, Nat.le_of_ble_eq_true rfl⟩ (c2 := 0) (s2 := 0) rfl rfl (c_fails hk hm 3) ?_
            exact g_iret hC hR dX10_term_74 (pE_i (by simp only [s_term, hpl_p, hpl_q]; (repeat' split) <;> first | with_reducible rfl | contradiction | (exfalso; omega) | (rw [bI_t (by first | assumption | omega)]; rfl) | (rw [bI_f (by first | assumption | omega)]; rfl) | (exfalso; rename_i hz; exact absurd hz (by decide)) | (exfalso; rename_i hz; first | exact absurd hz.1 (by assumption) | exact absurd hz.2 (by assumption)) | (exfalso; simp only [Int32.lt_iff_toInt_lt, Int32.le_iff_toInt_le] at *; omega) | (exfalso; simp_all; done) | (simp_all; done) | rfl))
          · refine g_iload hC dX10_term_65 1 rfl ?_
            refine g_goto (tgt := 71) hC dX10_term_67 (by decide) ?_
            refine g_V (As := [.int (nI (castF S qj 4))]) (st := []) hC 1 dX10_term_71 rfl mL_o mW_o gX10_term_X10_fails rfl (by decide +kernel) ⟨Nat.le_of_ble_eq_true rfl, Nat.le_of_ble_eq_true rfl⟩ rfl (Nat.le_of_ble_eq_true rfl) ⟨Nat.le_of_ble_eq_true rfl, Nat.le_of_ble_eq_true rfl⟩ (c2 := 0) (s2 := 0) rfl rfl (c_fails hk hm (castF S qj 4)) ?_
            exact g_iret hC hR dX10_term_74 (pE_i (by simp only [s_term, hpl_p, hpl_q]; (repeat' split) <;> first | with_reducible rfl | contradiction | (exfalso; omega) | (rw [bI_t (by first | assumption | omega)]; rfl) | (rw [bI_f (by first | assumption | omega)]; rfl) | (exfalso; rename_i hz; exact absurd hz (by decide)) | (exfalso; rename_i hz; first | exact absurd hz.1 (by assumption) | exact absurd hz.2 (by assumption)) | (exfalso; simp only [Int32.lt_iff_toInt_lt, Int32.le_iff_toInt_le] at *; omega) | (exfalso; simp_all; done) | (simp_all; done) | rfl))
    · refine g_iconst hC dX10_term_19 (v := (-1)) (by decide) ?_
      exact g_iret hC hR dX10_term_20 (pE_i (by simp only [s_term, hpl_p]; (repeat' split) <;> first | with_reducible rfl | contradiction | (exfalso; omega) | (rw [bI_t (by first | assumption | omega)]; rfl) | (rw [bI_f (by first | assumption | omega)]; rfl) | (exfalso; rename_i hz; exact absurd hz (by decide)) | (exfalso; rename_i hz; first | exact absurd hz.1 (by assumption) | exact absurd hz.2 (by assumption)) | (exfalso; simp only [Int32.lt_iff_toInt_lt, Int32.le_iff_toInt_le] at *; omega) | (exfalso; simp_all; done) | (simp_all; done) | rfl))
end M3
