section M3
variable {l : Launch} {D : va_G} {cy : Nat → ClassId} {K : gKt} {o : Nat} {ad : Nat → Nat} {S : aS}
set_option maxRecDepth 20000 in
set_option maxHeartbeats 4000000 in
theorem c_hash (hk : gKok D vwCl (cyT cy) K) (hm : mOk o ad) (hI : aI S) (p : Int32) : gCt l D vwCl K yX10_hash wsX10_hash { frames := 2, cells := 0, slots := 0, locals := 43 } [.ref o, .int p] (mL o ad) (mW o ad cy S) (pE (some (.long (s_hash S p).1)) (mL o ad) (mW o ad cy (s_hash S p).2)) := by
  refine gCt.of hk (by decide) rfl rfl (fun X hC hR hnm => ?_)
  have hC : gC X l _ D vwCl (cyT cy) K cX10_hash 4 wsX10_hash RX10 := hC
  have hin : ∀ w ∈ wsX100, w ∈ wsX10_hash := by decide +kernel
  show gW X vwCl 4 (mL o ad) (mW o ad cy S) 0 0 0 [(0, .ref o), (1, .int p)] []
  have hnb := hI.nb
  refine g_aload_n hC dX10_hash_0 rfl 0 rfl (Or.inr ⟨_, rfl⟩) ?_
  refine g_iconst hC dX10_hash_1 (v := nI 0) (by decide) ?_
  refine m_put_0 (x := 0) hC hin (by decide +kernel) dX10_hash_2 ?_
  refine g_iload_n hC dX10_hash_5 rfl 1 rfl ?_
  refine g_S (As := [.int p]) (st := []) hC 1 dX10_hash_6 gX10_hash_X10_isPlace rfl (by decide +kernel) ⟨Nat.le_of_ble_eq_true rfl, Nat.le_of_ble_eq_true rfl⟩ rfl (Nat.le_of_ble_eq_true rfl) ⟨Nat.le_of_ble_eq_true rfl, Nat.le_of_ble_eq_true rfl⟩ (c2 := 0) (s2 := 0) rfl rfl (c_isPlace hk _) ?_
  refine g_ifB_ne (P := isP p) (tgt := 16) hC dX10_hash_9 (by decide) (fun h9 => ?_) (fun h9 => ?_)
  · obtain ⟨pj, hpj, rfl⟩ := isP_j h9
    have hpl_p : pl (nI pj) = pj := nI_clamp (by omega)
    have h5_p := hI.k5 hpj
    have hw_p := hI.wb hpj
    refine g_aload_n hC dX10_hash_16 rfl 0 rfl (Or.inr ⟨_, rfl⟩) ?_
    refine g_iload_n hC dX10_hash_17 rfl 1 rfl ?_
    refine g_V (As := [.int (nI pj)]) (st := []) hC 1 dX10_hash_18 rfl mL_o mW_o gX10_hash_X10_hasContent rfl (by decide +kernel) ⟨Nat.le_of_ble_eq_true rfl, Nat.le_of_ble_eq_true rfl⟩ rfl (Nat.le_of_ble_eq_true rfl) ⟨Nat.le_of_ble_eq_true rfl, Nat.le_of_ble_eq_true rfl⟩ (c2 := 0) (s2 := 0) rfl rfl (c_hasContent hk hm pj hpj (hI.k5 hpj)) ?_
    refine g_ifB_ne (P := 1 ≤ kd S pj ∧ kd S pj ≤ 2) (tgt := 43) hC dX10_hash_21 (by decide) (fun h21 => ?_) (fun h21 => ?_)
    · refine g_iconst hC dX10_hash_43 (v := nI 0) (by decide) ?_
      refine g_istore_n (lv' := [(2, .int (nI 0)), (0, .ref o), (1, .int (nI pj))]) hC dX10_hash_44 rfl (by decide) rfl ?_
      refine g_iconst hC dX10_hash_45 (v := nI 0) (by decide) ?_
      refine g_istore_n (lv' := [(3, .int (nI 0)), (2, .int (nI 0)), (0, .ref o), (1, .int (nI pj))]) hC dX10_hash_46 rfl (by decide) rfl ?_
      have hl_pj := hI.lg hpj (by omega) (by omega)
      have lp : ∀ (m : Nat) (k : Nat), 17 - k < m → (k ≤ longS S pj) → gW X vwCl 4 (mL o ad) (mW o ad cy (aSc S 0 0)) 0 0 47 [(3, .int (nI k)), (2, .int (hsh (atS S pj) k)), (0, .ref o), (1, .int (nI pj))] [] := by
        intro m
        induction m with
        | zero => intros; omega
        | succ m ih =>
          intro k hm9 hk9
          refine g_iload_n hC dX10_hash_47 rfl 0 rfl ?_
          refine g_aload_n hC dX10_hash_48 rfl 2 rfl (Or.inr ⟨_, rfl⟩) ?_
          refine g_iload_n hC dX10_hash_49 rfl 3 rfl ?_
          refine g_V (As := [.int (nI pj)]) (st := [.int (nI k)]) hC 1 dX10_hash_50 rfl mL_o mW_o gX10_hash_X10_longOf rfl (by decide +kernel) ⟨Nat.le_of_ble_eq_true rfl, Nat.le_of_ble_eq_true rfl⟩ rfl (Nat.le_of_ble_eq_true rfl) ⟨Nat.le_of_ble_eq_true rfl, Nat.le_of_ble_eq_true rfl⟩ (c2 := 0) (s2 := 0) rfl rfl (c_longOf hk hm pj hpj (hI.k5 hpj) (hI.w1 hpj) (hI.w2 hpj)) ?_
          refine g_icmpN_ge (a := k) (b := longS S pj) (tgt := 74) hC dX10_hash_53 (by decide) (by omega) (by omega) (fun h53 => ?_) (fun h53 => ?_)
          · obtain rfl : k = longS S pj := by omega
            refine g_iload_n hC dX10_hash_74 rfl 1 rfl ?_
            refine g_i2l hC dX10_hash_75 rfl ?_
            exact g_lret hC hR dX10_hash_76 (pE_l (by simp only [s_hash, hpl_p]; (repeat' split) <;> first | with_reducible rfl | contradiction | (exfalso; omega) | (rw [bI_t (by first | assumption | omega)]; rfl) | (rw [bI_f (by first | assumption | omega)]; rfl) | (exfalso; rename_i hz; exact absurd hz (by decide)) | (exfalso; rename_i hz; first | exact absurd hz.1 (by assumption) | exact absurd hz.2 (by assumption)) | (exfalso; simp only [Int32.lt_iff_toInt_lt, Int32.le_iff_toInt_le] at *; omega) | (exfalso; simp_all; done) | (simp_all; done) | rfl))
          · refine g_bipush hC dX10_hash_56 (v := nI 31) (by decide) ?_
            refine g_iload_n hC dX10_hash_58 rfl 1 rfl ?_
            refine g_imul hC dX10_hash_59 ?_
            refine g_aload_n hC dX10_hash_60 rfl 2 rfl (Or.inr ⟨_, rfl⟩) ?_
            refine g_iload_n hC dX10_hash_61 rfl 3 rfl ?_
            refine g_iload_n hC dX10_hash_62 rfl 0 rfl ?_
            refine g_V (As := [.int (nI pj), .int (nI k)]) (st := [.int ((nI 31) * (hsh (atS S pj) k))]) hC 2 dX10_hash_63 rfl mL_o mW_o gX10_hash_X10_at rfl (by decide +kernel) ⟨Nat.le_of_ble_eq_true rfl, Nat.le_of_ble_eq_true rfl⟩ rfl (Nat.le_of_ble_eq_true rfl) ⟨Nat.le_of_ble_eq_true rfl, Nat.le_of_ble_eq_true rfl⟩ (c2 := 0) (s2 := 0) rfl rfl (c_at hk hm pj k (by omega) hpj (hI.k5 hpj) (hI.w1 hpj) (hI.w2 hpj)) ?_
            refine g_iadd hC dX10_hash_66 ?_
            refine g_istore_n (lv' := [(2, .int (((nI 31) * (hsh (atS S pj) k)) + (atS S pj k))), (3, .int (nI k)), (0, .ref o), (1, .int (nI pj))]) hC dX10_hash_67 rfl (by decide) rfl ?_
            refine g_iincN (n := 1) (a := k) (lv' := [(3, .int (nI (k + 1))), (2, .int (((nI 31) * (hsh (atS S pj) k)) + (atS S pj k))), (0, .ref o), (1, .int (nI pj))]) hC dX10_hash_68 1 rfl (by decide) rfl ?_
            refine g_goto (tgt := 47) hC dX10_hash_71 (by decide) ?_
            exact ih (k + 1) (by omega) (by omega)
      exact lp 18 0 (by omega) (by omega)
    · refine g_aload_n hC dX10_hash_24 rfl 0 rfl (Or.inr ⟨_, rfl⟩) ?_
      refine g_aload_n hC dX10_hash_25 rfl 0 rfl (Or.inr ⟨_, rfl⟩) ?_
      refine m_get_2 hC hin (by decide +kernel) dX10_hash_26 ?_
      refine g_iload_n hC dX10_hash_29 rfl 1 rfl ?_
      refine m_aldN (k := 2) (j := pj) hC hm (by decide) rfl rfl rfl dX10_hash_30 (show _ < 10 from (by omega)) ?_
      refine g_ifN_ne (a := kd S pj) (tgt := 38) hC dX10_hash_31 (by decide) (by omega) (fun h31 => ?_) (fun h31 => ?_)
      · refine g_iconst hC dX10_hash_38 (v := nI 2) (by decide) ?_
        refine g_V (As := [.int (nI 2)]) (st := []) hC 1 dX10_hash_39 rfl mL_o mW_o gX10_hash_X10_failsLong rfl (by decide +kernel) ⟨Nat.le_of_ble_eq_true rfl, Nat.le_of_ble_eq_true rfl⟩ rfl (Nat.le_of_ble_eq_true rfl) ⟨Nat.le_of_ble_eq_true rfl, Nat.le_of_ble_eq_true rfl⟩ (c2 := 0) (s2 := 0) rfl rfl (c_failsLong hk hm 2) ?_
        exact g_lret hC hR dX10_hash_42 (pE_l (by simp only [s_hash, hpl_p]; (repeat' split) <;> first | with_reducible rfl | contradiction | (exfalso; omega) | (rw [bI_t (by first | assumption | omega)]; rfl) | (rw [bI_f (by first | assumption | omega)]; rfl) | (exfalso; rename_i hz; exact absurd hz (by decide)) | (exfalso; rename_i hz; first | exact absurd hz.1 (by assumption) | exact absurd hz.2 (by assumption)) | (exfalso; simp only [Int32.lt_iff_toInt_lt, Int32.le_iff_toInt_le] at *; omega) | (exfalso; simp_all; done) | (simp_all; done) | rfl))
      · refine g_iconst hC dX10_hash_34 (v := nI 1) (by decide) ?_
        refine g_goto (tgt := 39) hC dX10_hash_35 (by decide) ?_
        refine g_V (As := [.int (nI 1)]) (st := []) hC 1 dX10_hash_39 rfl mL_o mW_o gX10_hash_X10_failsLong rfl (by decide +kernel) ⟨Nat.le_of_ble_eq_true rfl, Nat.le_of_ble_eq_true rfl⟩ rfl (Nat.le_of_ble_eq_true rfl) ⟨Nat.le_of_ble_eq_true rfl, Nat.le_of_ble_eq_true rfl⟩ (c2 := 0) (s2 := 0) rfl rfl (c_failsLong hk hm 1) ?_
        exact g_lret hC hR dX10_hash_42 (pE_l (by simp only [s_hash, hpl_p]; (repeat' split) <;> first | with_reducible rfl | contradiction | (exfalso; omega) | (rw [bI_t (by first | assumption | omega)]; rfl) | (rw [bI_f (by first | assumption | omega)]; rfl) | (exfalso; rename_i hz; exact absurd hz (by decide)) | (exfalso; rename_i hz; first | exact absurd hz.1 (by assumption) | exact absurd hz.2 (by assumption)) | (exfalso; simp only [Int32.lt_iff_toInt_lt, Int32.le_iff_toInt_le] at *; omega) | (exfalso; simp_all; done) | (simp_all; done) | rfl))
  · refine g_ldc2 (v := -9223372036854775808) hC (by decide +kernel) dX10_hash_12 ?_
    exact g_lret hC hR dX10_hash_15 (pE_l (by simp only [s_hash]; (repeat' split) <;> first | with_reducible rfl | contradiction | (exfalso; omega) | (rw [bI_t (by first | assumption | omega)]; rfl) | (rw [bI_f (by first | assumption | omega)]; rfl) | (exfalso; rename_i hz; exact absurd hz (by decide)) | (exfalso; rename_i hz; first | exact absurd hz.1 (by assumption) | exact absurd hz.2 (by assumption)) | (exfalso; simp only [Int32.lt_iff_toInt_lt, Int32.le_iff_toInt_le] at *; omega) | (exfalso; simp_all; done) | (simp_all; done) | rfl))
set_option maxRecDepth 20000 in
set_option maxHeartbeats 4000000 in
theorem c_order (hk : gKok D vwCl (cyT cy) K) (hm : mOk o ad) (hI : aI S) (p : Int32) (q : Int32) : gCt l D vwCl K yX10_order wsX10_order { frames := 2, cells := 0, slots := 0, locals := 44 } [.ref o, .int p, .int q] (mL o ad) (mW o ad cy S) (pE (some (.int (s_order S p q).1)) (mL o ad) (mW o ad cy (s_order S p q).2)) := by
  refine gCt.of hk (by decide) rfl rfl (fun X hC hR hnm => ?_)
  have hC : gC X l _ D vwCl (cyT cy) K cX10_order 6 wsX10_order RX10 := hC
  have hin : ∀ w ∈ wsX100, w ∈ wsX10_order := by decide +kernel
  show gW X vwCl 6 (mL o ad) (mW o ad cy S) 0 0 0 [(0, .ref o), (1, .int p), (2, .int q)] []
  have hnb := hI.nb
  refine g_aload_n hC dX10_order_0 rfl 0 rfl (Or.inr ⟨_, rfl⟩) ?_
  refine g_iconst hC dX10_order_1 (v := nI 0) (by decide) ?_
  refine m_put_0 (x := 0) hC hin (by decide +kernel) dX10_order_2 ?_
  refine g_iload_n hC dX10_order_5 rfl 1 rfl ?_
  refine g_S (As := [.int p]) (st := []) hC 1 dX10_order_6 gX10_order_X10_isPlace rfl (by decide +kernel) ⟨Nat.le_of_ble_eq_true rfl, Nat.le_of_ble_eq_true rfl⟩ rfl (Nat.le_of_ble_eq_true rfl) ⟨Nat.le_of_ble_eq_true rfl, Nat.le_of_ble_eq_true rfl⟩ (c2 := 0) (s2 := 0) rfl rfl (c_isPlace hk _) ?_
  refine g_ifB_eq (P := isP p) (tgt := 19) hC dX10_order_9 (by decide) (fun h9 => ?_) (fun h9 => ?_)
  · refine g_iconst hC dX10_order_19 (v := (-1)) (by decide) ?_
    exact g_iret hC hR dX10_order_20 (pE_i (by simp only [s_order]; (repeat' split) <;> first | with_reducible rfl | contradiction | (exfalso; omega) | (rw [bI_t (by first | assumption | omega)]; rfl) | (rw [bI_f (by first | assumption | omega)]; rfl) | (exfalso; rename_i hz; exact absurd hz (by decide)) | (exfalso; rename_i hz; first | exact absurd hz.1 (by assumption) | exact absurd hz.2 (by assumption)) | (exfalso; simp only [Int32.lt_iff_toInt_lt, Int32.le_iff_toInt_le] at *; omega) | (exfalso; simp_all; done) | (simp_all; done) | rfl))
  · obtain ⟨pj, hpj, rfl⟩ := isP_j h9
    have hpl_p : pl (nI pj) = pj := nI_clamp (by omega)
    have h5_p := hI.k5 hpj
    have hw_p := hI.wb hpj
    refine g_iload_n hC dX10_order_12 rfl 2 rfl ?_
    refine g_S (As := [.int q]) (st := []) hC 1 dX10_order_13 gX10_order_X10_isPlace rfl (by decide +kernel) ⟨Nat.le_of_ble_eq_true rfl, Nat.le_of_ble_eq_true rfl⟩ rfl (Nat.le_of_ble_eq_true rfl) ⟨Nat.le_of_ble_eq_true rfl, Nat.le_of_ble_eq_true rfl⟩ (c2 := 0) (s2 := 0) rfl rfl (c_isPlace hk _) ?_
    refine g_ifB_ne (P := isP q) (tgt := 21) hC dX10_order_16 (by decide) (fun h16 => ?_) (fun h16 => ?_)
    · obtain ⟨qj, hqj, rfl⟩ := isP_j h16
      have hpl_q : pl (nI qj) = qj := nI_clamp (by omega)
      have h5_q := hI.k5 hqj
      have hw_q := hI.wb hqj
      refine g_aload_n hC dX10_order_21 rfl 0 rfl (Or.inr ⟨_, rfl⟩) ?_
      refine g_iload_n hC dX10_order_22 rfl 1 rfl ?_
      refine g_iconst hC dX10_order_23 (v := nI 1) (by decide) ?_
      have hcf_pj_1 : castF S pj 1 ≤ 2 := castF_2
      refine g_V (As := [.int (nI pj), .int (nI 1)]) (st := []) hC 2 dX10_order_24 rfl mL_o mW_o gX10_order_X10_castFault rfl (by decide +kernel) ⟨Nat.le_of_ble_eq_true rfl, Nat.le_of_ble_eq_true rfl⟩ rfl (Nat.le_of_ble_eq_true rfl) ⟨Nat.le_of_ble_eq_true rfl, Nat.le_of_ble_eq_true rfl⟩ (c2 := 0) (s2 := 0) rfl rfl (c_castFault hk hm pj 1 (by omega) hpj (hI.k5 hpj)) ?_
      refine g_istore_n (lv' := [(3, .int (nI (castF S pj 1))), (0, .ref o), (1, .int (nI pj)), (2, .int (nI qj))]) hC dX10_order_27 rfl (by decide) rfl ?_
      refine g_aload_n hC dX10_order_28 rfl 1 rfl (Or.inr ⟨_, rfl⟩) ?_
      refine g_iload_n hC dX10_order_29 rfl 3 rfl ?_
      refine g_iconst hC dX10_order_30 (v := nI 1) (by decide) ?_
      have hcf_qj_1 : castF S qj 1 ≤ 2 := castF_2
      refine g_V (As := [.int (nI qj), .int (nI 1)]) (st := []) hC 2 dX10_order_31 rfl mL_o mW_o gX10_order_X10_castFault rfl (by decide +kernel) ⟨Nat.le_of_ble_eq_true rfl, Nat.le_of_ble_eq_true rfl⟩ rfl (Nat.le_of_ble_eq_true rfl) ⟨Nat.le_of_ble_eq_true rfl, Nat.le_of_ble_eq_true rfl⟩ (c2 := 0) (s2 := 0) rfl rfl (c_castFault hk hm qj 1 (by omega) hqj (hI.k5 hqj)) ?_
      refine g_istore (lv' := [(4, .int (nI (castF S qj 1))), (3, .int (nI (castF S pj 1))), (0, .ref o), (1, .int (nI pj)), (2, .int (nI qj))]) hC dX10_order_34 (by decide) rfl ?_
      refine g_iload_n hC dX10_order_36 rfl 1 rfl ?_
      refine g_ifN_gt (a := castF S pj 1) (tgt := 45) hC dX10_order_37 (by decide) (by omega) (fun h37 => ?_) (fun h37 => ?_)
      · refine g_aload_n hC dX10_order_45 rfl 2 rfl (Or.inr ⟨_, rfl⟩) ?_
        refine g_iload_n hC dX10_order_46 rfl 1 rfl ?_
        refine g_iconst hC dX10_order_47 (v := nI 2) (by decide) ?_
        refine g_icmpN_eq (a := castF S pj 1) (b := 2) (tgt := 57) hC dX10_order_48 (by decide) (by omega) (by omega) (fun h48 => ?_) (fun h48 => ?_)
        · refine g_iconst hC dX10_order_57 (v := nI 2) (by decide) ?_
          refine g_goto (tgt := 62) hC dX10_order_58 (by decide) ?_
          refine g_V (As := [.int (nI 2)]) (st := []) hC 1 dX10_order_62 rfl mL_o mW_o gX10_order_X10_fails rfl (by decide +kernel) ⟨Nat.le_of_ble_eq_true rfl, Nat.le_of_ble_eq_true rfl⟩ rfl (Nat.le_of_ble_eq_true rfl) ⟨Nat.le_of_ble_eq_true rfl, Nat.le_of_ble_eq_true rfl⟩ (c2 := 0) (s2 := 0) rfl rfl (c_fails hk hm 2) ?_
          exact g_iret hC hR dX10_order_65 (pE_i (by simp only [s_order, hpl_p, hpl_q]; (repeat' split) <;> first | with_reducible rfl | contradiction | (exfalso; omega) | (rw [bI_t (by first | assumption | omega)]; rfl) | (rw [bI_f (by first | assumption | omega)]; rfl) | (exfalso; rename_i hz; exact absurd hz (by decide)) | (exfalso; rename_i hz; first | exact absurd hz.1 (by assumption) | exact absurd hz.2 (by assumption)) | (exfalso; simp only [Int32.lt_iff_toInt_lt, Int32.le_iff_toInt_le] at *; omega) | (exfalso; simp_all; done) | (simp_all; done) | rfl))
        · refine g_iload hC dX10_order_51 0 rfl ?_
          refine g_iconst hC dX10_order_53 (v := nI 2) (by decide) ?_
          refine g_icmpN_ne (a := castF S qj 1) (b := 2) (tgt := 61) hC dX10_order_54 (by decide) (by omega) (by omega) (fun h54 => ?_) (fun h54 => ?_)
          · refine g_iconst hC dX10_order_61 (v := nI 1) (by decide) ?_
            refine g_V (As := [.int (nI 1)]) (st := []) hC 1 dX10_order_62 rfl mL_o mW_o gX10_order_X10_fails rfl (by decide +kernel) ⟨Nat.le_of_ble_eq_true rfl, Nat.le_of_ble_eq_true rfl⟩ rfl (Nat.le_of_ble_eq_true rfl) ⟨Nat.le_of_ble_eq_true rfl, Nat.le_of_ble_eq_true rfl⟩ (c2 := 0) (s2 := 0) rfl rfl (c_fails hk hm 1) ?_
            exact g_iret hC hR dX10_order_65 (pE_i (by simp only [s_order, hpl_p, hpl_q]; (repeat' split) <;> first | with_reducible rfl | contradiction | (exfalso; omega) | (rw [bI_t (by first | assumption | omega)]; rfl) | (rw [bI_f (by first | assumption | omega)]; rfl) | (exfalso; rename_i hz; exact absurd hz (by decide)) | (exfalso; rename_i hz; first | exact absurd hz.1 (by assumption) | exact absurd hz.2 (by assumption)) | (exfalso; simp only [Int32.lt_iff_toInt_lt, Int32.le_iff_toInt_le] at *; omega) | (exfalso; simp_all; done) | (simp_all; done) | rfl))
          · refine g_iconst hC dX10_order_57 (v := nI 2) (by decide) ?_
            refine g_goto (tgt := 62) hC dX10_order_58 (by decide) ?_
            refine g_V (As := [.int (nI 2)]) (st := []) hC 1 dX10_order_62 rfl mL_o mW_o gX10_order_X10_fails rfl (by decide +kernel) ⟨Nat.le_of_ble_eq_true rfl, Nat.le_of_ble_eq_true rfl⟩ rfl (Nat.le_of_ble_eq_true rfl) ⟨Nat.le_of_ble_eq_true rfl, Nat.le_of_ble_eq_true rfl⟩ (c2 := 0) (s2 := 0) rfl rfl (c_fails hk hm 2) ?_
            exact g_iret hC hR dX10_order_65 (pE_i (by simp only [s_order, hpl_p, hpl_q]; (repeat' split) <;> first | with_reducible rfl | contradiction | (exfalso; omega) | (rw [bI_t (by first | assumption | omega)]; rfl) | (rw [bI_f (by first | assumption | omega)]; rfl) | (exfalso; rename_i hz; exact absurd hz (by decide)) | (exfalso; rename_i hz; first | exact absurd hz.1 (by assumption) | exact absurd hz.2 (by assumption)) | (exfalso; simp only [Int32.lt_iff_toInt_lt, Int32.le_iff_toInt_le] at *; omega) | (exfalso; simp_all; done) | (simp_all; done) | rfl))
      · have hc0_pj := castF_0 h37
        have hc1_pj := hc0_pj.2
        have hl_pj := hI.lg hpj hc0_pj.1 (by omega)
        have hwk_pj := hI.wl hpj (by omega)
        refine g_iload hC dX10_order_40 0 rfl ?_
        refine g_ifN_le (a := castF S qj 1) (tgt := 66) hC dX10_order_42 (by decide) (by omega) (fun h42 => ?_) (fun h42 => ?_)
        · have hc0_qj := castF_0 h42
          have hc1_qj := hc0_qj.2
          have hl_qj := hI.lg hqj hc0_qj.1 (by omega)
          have hwk_qj := hI.wl hqj (by omega)
          refine g_aload_n hC dX10_order_66 rfl 2 rfl (Or.inr ⟨_, rfl⟩) ?_
          refine g_aload_n hC dX10_order_67 rfl 2 rfl (Or.inr ⟨_, rfl⟩) ?_
          refine m_get_3 hC hin (by decide +kernel) dX10_order_68 ?_
          refine g_iload_n hC dX10_order_71 rfl 3 rfl ?_
          refine m_aldN (k := 3) (j := pj) hC hm (by decide) rfl rfl rfl dX10_order_72 (show _ < 10 from (by omega)) ?_
          refine g_aload_n hC dX10_order_73 rfl 2 rfl (Or.inr ⟨_, rfl⟩) ?_
          refine m_get_3 hC hin (by decide +kernel) dX10_order_74 ?_
          refine g_iload_n hC dX10_order_77 rfl 4 rfl ?_
          refine m_aldN (k := 3) (j := qj) hC hm (by decide) rfl rfl rfl dX10_order_78 (show _ < 10 from (by omega)) ?_
          refine g_V (As := [.int (nI (wh S pj)), .int (nI (wh S qj))]) (st := []) hC 2 dX10_order_79 rfl mL_o mW_o gX10_order_X10_against rfl (by decide +kernel) ⟨Nat.le_of_ble_eq_true rfl, Nat.le_of_ble_eq_true rfl⟩ rfl (Nat.le_of_ble_eq_true rfl) ⟨Nat.le_of_ble_eq_true rfl, Nat.le_of_ble_eq_true rfl⟩ (c2 := 0) (s2 := 0) rfl rfl (c_against hk hm (wh S pj) (wh S qj) hw_p hw_q (hI.bl hwk_pj) (hI.bl hwk_qj)) ?_
          refine g_istore (lv' := [(5, .int (agst S (wh S pj) (wh S qj))), (4, .int (nI (castF S qj 1))), (3, .int (nI (castF S pj 1))), (0, .ref o), (1, .int (nI pj)), (2, .int (nI qj))]) hC dX10_order_82 (by decide) rfl ?_
          refine g_iload hC dX10_order_84 0 rfl ?_
          refine g_if_ge (x := agst S (wh S pj) (wh S qj)) (tgt := 94) hC dX10_order_86 (by decide) (fun h86 => ?_) (fun h86 => ?_)
          · refine g_iload hC dX10_order_94 0 rfl ?_
            refine g_if_le (x := agst S (wh S pj) (wh S qj)) (tgt := 104) hC dX10_order_96 (by decide) (fun h96 => ?_) (fun h96 => ?_)
            · refine g_bipush hC dX10_order_104 (v := (-100)) (by decide) ?_
              exact g_iret hC hR dX10_order_106 (pE_i (by simp only [s_order, hpl_p, hpl_q]; (repeat' split) <;> first | with_reducible rfl | contradiction | (exfalso; omega) | (rw [bI_t (by first | assumption | omega)]; rfl) | (rw [bI_f (by first | assumption | omega)]; rfl) | (exfalso; rename_i hz; exact absurd hz (by decide)) | (exfalso; rename_i hz; first | exact absurd hz.1 (by assumption) | exact absurd hz.2 (by assumption)) | (exfalso; simp only [Int32.lt_iff_toInt_lt, Int32.le_iff_toInt_le] at *; omega) | (exfalso; simp_all; done) | (simp_all; done) | rfl))
            · refine g_bipush hC dX10_order_99 (v := (-99)) (by decide) ?_
              refine g_goto (tgt := 106) hC dX10_order_101 (by decide) ?_
              exact g_iret hC hR dX10_order_106 (pE_i (by simp only [s_order, hpl_p, hpl_q]; (repeat' split) <;> first | with_reducible rfl | contradiction | (exfalso; omega) | (rw [bI_t (by first | assumption | omega)]; rfl) | (rw [bI_f (by first | assumption | omega)]; rfl) | (exfalso; rename_i hz; exact absurd hz (by decide)) | (exfalso; rename_i hz; first | exact absurd hz.1 (by assumption) | exact absurd hz.2 (by assumption)) | (exfalso; simp only [Int32.lt_iff_toInt_lt, Int32.le_iff_toInt_le] at *; omega) | (exfalso; simp_all; done) | (simp_all; done) | rfl))
          · refine g_bipush hC dX10_order_89 (v := (-101)) (by decide) ?_
            refine g_goto (tgt := 106) hC dX10_order_91 (by decide) ?_
            exact g_iret hC hR dX10_order_106 (pE_i (by simp only [s_order, hpl_p, hpl_q]; (repeat' split) <;> first | with_reducible rfl | contradiction | (exfalso; omega) | (rw [bI_t (by first | assumption | omega)]; rfl) | (rw [bI_f (by first | assumption | omega)]; rfl) | (exfalso; rename_i hz; exact absurd hz (by decide)) | (exfalso; rename_i hz; first | exact absurd hz.1 (by assumption) | exact absurd hz.2 (by assumption)) | (exfalso; simp only [Int32.lt_iff_toInt_lt, Int32.le_iff_toInt_le] at *; omega) | (exfalso; simp_all; done) | (simp_all; done) | rfl))
        · refine g_aload_n hC dX10_order_45 rfl 2 rfl (Or.inr ⟨_, rfl⟩) ?_
          refine g_iload_n hC dX10_order_46 rfl 1 rfl ?_
          refine g_iconst hC dX10_order_47 (v := nI 2) (by decide) ?_
          refine g_icmpN_eq (a := castF S pj 1) (b := 2) (tgt := 57) hC dX10_order_48 (by decide) (by omega) (by omega) (fun h48 => ?_) (fun h48 => ?_)
          · refine g_iconst hC dX10_order_57 (v := nI 2) (by decide) ?_
            refine g_goto (tgt := 62) hC dX10_order_58 (by decide) ?_
            refine g_V (As := [.int (nI 2)]) (st := []) hC 1 dX10_order_62 rfl mL_o mW_o gX10_order_X10_fails rfl (by decide +kernel) ⟨Nat.le_of_ble_eq_true rfl, Nat.le_of_ble_eq_true rfl⟩ rfl (Nat.le_of_ble_eq_true rfl) ⟨Nat.le_of_ble_eq_true rfl, Nat.le_of_ble_eq_true rfl⟩ (c2 := 0) (s2 := 0) rfl rfl (c_fails hk hm 2) ?_
            exact g_iret hC hR dX10_order_65 (pE_i (by simp only [s_order, hpl_p, hpl_q]; (repeat' split) <;> first | with_reducible rfl | contradiction | (exfalso; omega) | (rw [bI_t (by first | assumption | omega)]; rfl) | (rw [bI_f (by first | assumption | omega)]; rfl) | (exfalso; rename_i hz; exact absurd hz (by decide)) | (exfalso; rename_i hz; first | exact absurd hz.1 (by assumption) | exact absurd hz.2 (by assumption)) | (exfalso; simp only [Int32.lt_iff_toInt_lt, Int32.le_iff_toInt_le] at *; omega) | (exfalso; simp_all; done) | (simp_all; done) | rfl))
          · refine g_iload hC dX10_order_51 0 rfl ?_
            refine g_iconst hC dX10_order_53 (v := nI 2) (by decide) ?_
            refine g_icmpN_ne (a := castF S qj 1) (b := 2) (tgt := 61) hC dX10_order_54 (by decide) (by omega) (by omega) (fun h54 => ?_) (fun h54 => ?_)
            · refine g_iconst hC dX10_order_61 (v := nI 1) (by decide) ?_
              refine g_V (As := [.int (nI 1)]) (st := []) hC 1 dX10_order_62 rfl mL_o mW_o gX10_order_X10_fails rfl (by decide +kernel) ⟨Nat.le_of_ble_eq_true rfl, Nat.le_of_ble_eq_true rfl⟩ rfl (Nat.le_of_ble_eq_true rfl) ⟨Nat.le_of_ble_eq_true rfl, Nat.le_of_ble_eq_true rfl⟩ (c2 := 0) (s2 := 0) rfl rfl (c_fails hk hm 1) ?_
              exact g_iret hC hR dX10_order_65 (pE_i (by simp only [s_order, hpl_p, hpl_q]; (repeat' split) <;> first | with_reducible rfl | contradiction | (exfalso; omega) | (rw [bI_t (by first | assumption | omega)]; rfl) | (rw [bI_f (by first | assumption | omega)]; rfl) | (exfalso; rename_i hz; exact absurd hz (by decide)) | (exfalso; rename_i hz; first | exact absurd hz.1 (by assumption) | exact absurd hz.2 (by assumption)) | (exfalso; simp only [Int32.lt_iff_toInt_lt, Int32.le_iff_toInt_le] at *; omega) | (exfalso; simp_all; done) | (simp_all; done) | rfl))
            · refine g_iconst hC dX10_order_57 (v := nI 2) (by decide) ?_
              refine g_goto (tgt := 62) hC dX10_order_58 (by decide) ?_
              refine g_V (As := [.int (nI 2)]) (st := []) hC 1 dX10_order_62 rfl mL_o mW_o gX10_order_X10_fails rfl (by decide +kernel) ⟨Nat.le_of_ble_eq_true rfl, Nat.le_of_ble_eq_true rfl⟩ rfl (Nat.le_of_ble_eq_true rfl) ⟨Nat.le_of_ble_eq_true rfl, Nat.le_of_ble_eq_true rfl⟩ (c2 := 0) (s2 := 0) rfl rfl (c_fails hk hm 2) ?_
              exact g_iret hC hR dX10_order_65 (pE_i (by simp only [s_order, hpl_p, hpl_q]; (repeat' split) <;> first | with_reducible rfl | contradiction | (exfalso; omega) | (rw [bI_t (by first | assumption | omega)]; rfl) | (rw [bI_f (by first | assumption | omega)]; rfl) | (exfalso; rename_i hz; exact absurd hz (by decide)) | (exfalso; rename_i hz; first | exact absurd hz.1 (by assumption) | exact absurd hz.2 (by assumption)) | (exfalso; simp only [Int32.lt_iff_toInt_lt, Int32.le_iff_toInt_le] at *; omega) | (exfalso; simp_all; done) | (simp_all; done) | rfl))
    · refine g_iconst hC dX10_order_19 (v := (-1)) (by decide) ?_
      exact g_iret hC hR dX10_order_20 (pE_i (by simp only [s_order, hpl_p]; (repeat' split) <;> first | with_reducible rfl | contradiction | (exfalso; omega) | (rw [bI_t (by first | assumption | omega)]; rfl) | (rw [bI_f (by first | assumption | omega)]; rfl) | (exfalso; rename_i hz; exact absurd hz (by decide)) | (exfalso; rename_i hz; first | exact absurd hz.1 (by assumption) | exact absurd hz.2 (by assumption)) | (exfalso; simp only [Int32.lt_iff_toInt_lt, Int32.le_iff_toInt_le] at *; omega) | (exfalso; simp_all; done) | (simp_all; done) | rfl))
set_option maxRecDepth 20000 in
set_option maxHeartbeats 4000000 in
theorem c_named (hk : gKok D vwCl (cyT cy) K) (hm : mOk o ad) (hI : aI S) (p : Int32) : gCt l D vwCl K yX10_named wsX10_named { frames := 2, cells := 0, slots := 0, locals := 47 } [.ref o, .int p] (mL o ad) (mW o ad cy S) (pE (some (.int (s_named S p).1)) (mL o ad) (mW o ad cy (s_named S p).2)) := by
  refine gCt.of hk (by decide) rfl rfl (fun X hC hR hnm => ?_)
  have hC : gC X l _ D vwCl (cyT cy) K cX10_named 5 wsX10_named RX10 := hC
  have hin : ∀ w ∈ wsX100, w ∈ wsX10_named := by decide +kernel
  show gW X vwCl 5 (mL o ad) (mW o ad cy S) 0 0 0 [(0, .ref o), (1, .int p)] []
  have hnb := hI.nb
  refine g_aload_n hC dX10_named_0 rfl 0 rfl (Or.inr ⟨_, rfl⟩) ?_
  refine g_iconst hC dX10_named_1 (v := nI 0) (by decide) ?_
  refine m_put_0 (x := 0) hC hin (by decide +kernel) dX10_named_2 ?_
  refine g_iload_n hC dX10_named_5 rfl 1 rfl ?_
  refine g_S (As := [.int p]) (st := []) hC 1 dX10_named_6 gX10_named_X10_isPlace rfl (by decide +kernel) ⟨Nat.le_of_ble_eq_true rfl, Nat.le_of_ble_eq_true rfl⟩ rfl (Nat.le_of_ble_eq_true rfl) ⟨Nat.le_of_ble_eq_true rfl, Nat.le_of_ble_eq_true rfl⟩ (c2 := 0) (s2 := 0) rfl rfl (c_isPlace hk _) ?_
  refine g_ifB_ne (P := isP p) (tgt := 14) hC dX10_named_9 (by decide) (fun h9 => ?_) (fun h9 => ?_)
  · obtain ⟨pj, hpj, rfl⟩ := isP_j h9
    have hpl_p : pl (nI pj) = pj := nI_clamp (by omega)
    have h5_p := hI.k5 hpj
    have hw_p := hI.wb hpj
    refine g_aload_n hC dX10_named_14 rfl 0 rfl (Or.inr ⟨_, rfl⟩) ?_
    refine g_iload_n hC dX10_named_15 rfl 1 rfl ?_
    refine g_V (As := [.int (nI pj)]) (st := []) hC 1 dX10_named_16 rfl mL_o mW_o gX10_named_X10_hasContent rfl (by decide +kernel) ⟨Nat.le_of_ble_eq_true rfl, Nat.le_of_ble_eq_true rfl⟩ rfl (Nat.le_of_ble_eq_true rfl) ⟨Nat.le_of_ble_eq_true rfl, Nat.le_of_ble_eq_true rfl⟩ (c2 := 0) (s2 := 0) rfl rfl (c_hasContent hk hm pj hpj (hI.k5 hpj)) ?_
    refine g_ifB_ne (P := 1 ≤ kd S pj ∧ kd S pj ≤ 2) (tgt := 41) hC dX10_named_19 (by decide) (fun h19 => ?_) (fun h19 => ?_)
    · refine g_aload_n hC dX10_named_41 rfl 0 rfl (Or.inr ⟨_, rfl⟩) ?_
      refine g_iload_n hC dX10_named_42 rfl 1 rfl ?_
      have hl_pj := hI.lg hpj (by omega) (by omega)
      refine g_V (As := [.int (nI pj)]) (st := []) hC 1 dX10_named_43 rfl mL_o mW_o gX10_named_X10_longOf rfl (by decide +kernel) ⟨Nat.le_of_ble_eq_true rfl, Nat.le_of_ble_eq_true rfl⟩ rfl (Nat.le_of_ble_eq_true rfl) ⟨Nat.le_of_ble_eq_true rfl, Nat.le_of_ble_eq_true rfl⟩ (c2 := 0) (s2 := 0) rfl rfl (c_longOf hk hm pj hpj (hI.k5 hpj) (hI.w1 hpj) (hI.w2 hpj)) ?_
      refine g_istore_n (lv' := [(2, .int (nI (longS S pj))), (0, .ref o), (1, .int (nI pj))]) hC dX10_named_46 rfl (by decide) rfl ?_
      refine g_iload_n hC dX10_named_47 rfl 0 rfl ?_
      refine g_ifN_ne (a := longS S pj) (tgt := 54) hC dX10_named_48 (by decide) (by omega) (fun h48 => ?_) (fun h48 => ?_)
      · refine g_iload_n hC dX10_named_54 rfl 0 rfl ?_
        refine g_iconst hC dX10_named_55 (v := nI 2) (by decide) ?_
        refine g_icmpN_ne (a := longS S pj) (b := 2) (tgt := 84) hC dX10_named_56 (by decide) (by omega) (by omega) (fun h56 => ?_) (fun h56 => ?_)
        · refine g_iload_n hC dX10_named_84 rfl 0 rfl ?_
          refine g_iconst hC dX10_named_85 (v := nI 2) (by decide) ?_
          refine g_icmpN_lt (a := longS S pj) (b := 2) (tgt := 98) hC dX10_named_86 (by decide) (by omega) (by omega) (fun h86 => ?_) (fun h86 => ?_)
          · refine g_iconst hC dX10_named_98 (v := nI 0) (by decide) ?_
            refine g_istore_n (lv' := [(3, .int (nI 0)), (2, .int (nI (longS S pj))), (0, .ref o), (1, .int (nI pj))]) hC dX10_named_99 rfl (by decide) rfl ?_
            refine g_iload_n hC dX10_named_100 rfl 1 rfl ?_
            refine g_iconst hC dX10_named_101 (v := nI 4) (by decide) ?_
            refine g_icmpN_ne (a := longS S pj) (b := 4) (tgt := 114) hC dX10_named_102 (by decide) (by omega) (by omega) (fun h102 => ?_) (fun h102 => ?_)
            · refine g_iconst hC dX10_named_114 (v := nI 0) (by decide) ?_
              refine g_istore (lv' := [(4, .int (nI 0)), (3, .int (nI 0)), (2, .int (nI (longS S pj))), (0, .ref o), (1, .int (nI pj))]) hC dX10_named_115 (by decide) rfl ?_
              refine g_iload_n hC dX10_named_117 rfl 2 rfl ?_
              refine g_iconst hC dX10_named_118 (v := nI 2) (by decide) ?_
              refine g_icmpN_ne (a := longS S pj) (b := 2) (tgt := 124) hC dX10_named_119 (by decide) (by omega) (by omega) (fun h119 => ?_) (fun h119 => ?_)
              · refine g_iload_n hC dX10_named_124 rfl 2 rfl ?_
                refine g_iconst hC dX10_named_125 (v := nI 4) (by decide) ?_
                refine g_icmpN_ne (a := longS S pj) (b := 4) (tgt := 138) hC dX10_named_126 (by decide) (by omega) (by omega) (fun h126 => ?_) (fun h126 => ?_)
                · refine g_iconst hC dX10_named_138 (v := nI 0) (by decide) ?_
                  refine g_goto (tgt := 148) hC dX10_named_139 (by decide) ?_
                  have hnm9 : nI (namS S pj) = nI 0 := by
                    unfold namS
                    (repeat' split) <;> first | with_reducible rfl | (exfalso; omega) | contradiction | (exfalso; rename_i hz; first | exact absurd hz.1 (by assumption) | exact absurd hz.2 (by assumption)) | (congr 1; omega) | (exfalso; simp_all; done) | rfl
                  rw [← hnm9]
                  exact g_iret hC hR dX10_named_148 (pE_i (by simp only [s_named, hpl_p]; (repeat' split) <;> first | with_reducible rfl | contradiction | (exfalso; omega) | (rw [bI_t (by first | assumption | omega)]; rfl) | (rw [bI_f (by first | assumption | omega)]; rfl) | (exfalso; rename_i hz; exact absurd hz (by decide)) | (exfalso; rename_i hz; first | exact absurd hz.1 (by assumption) | exact absurd hz.2 (by assumption)) | (exfalso; simp only [Int32.lt_iff_toInt_lt, Int32.le_iff_toInt_le] at *; omega) | (exfalso; simp_all; done) | (simp_all; done) | rfl))
                · exact absurd h126 h102
              · exact absurd h119 h56
            · refine g_aload_n hC dX10_named_105 rfl 2 rfl (Or.inr ⟨_, rfl⟩) ?_
              refine g_iload_n hC dX10_named_106 rfl 3 rfl ?_
              refine g_iconst hC dX10_named_107 (v := nI 2) (by decide) ?_
              have hpr_2 : pairS S pj 2 ≤ 2 := by unfold pairS; (repeat' split) <;> omega
              refine g_V (As := [.int (nI pj), .int (nI 2)]) (st := []) hC 2 dX10_named_108 rfl mL_o mW_o gX10_named_X10_pair rfl (by decide +kernel) ⟨Nat.le_of_ble_eq_true rfl, Nat.le_of_ble_eq_true rfl⟩ rfl (Nat.le_of_ble_eq_true rfl) ⟨Nat.le_of_ble_eq_true rfl, Nat.le_of_ble_eq_true rfl⟩ (c2 := 0) (s2 := 0) rfl rfl (c_pair hk hm pj 2 (by omega) hpj (hI.k5 hpj) (hI.w1 hpj) (hI.w2 hpj)) ?_
              refine g_goto (tgt := 115) hC dX10_named_111 (by decide) ?_
              refine g_istore (lv' := [(4, .int (nI (pairS S pj 2))), (3, .int (nI 0)), (2, .int (nI (longS S pj))), (0, .ref o), (1, .int (nI pj))]) hC dX10_named_115 (by decide) rfl ?_
              refine g_iload_n hC dX10_named_117 rfl 2 rfl ?_
              refine g_iconst hC dX10_named_118 (v := nI 2) (by decide) ?_
              refine g_icmpN_ne (a := longS S pj) (b := 2) (tgt := 124) hC dX10_named_119 (by decide) (by omega) (by omega) (fun h119 => ?_) (fun h119 => ?_)
              · refine g_iload_n hC dX10_named_124 rfl 2 rfl ?_
                refine g_iconst hC dX10_named_125 (v := nI 4) (by decide) ?_
                refine g_icmpN_ne (a := longS S pj) (b := 4) (tgt := 138) hC dX10_named_126 (by decide) (by omega) (by omega) (fun h126 => ?_) (fun h126 => ?_)
                · exact absurd h102 h126
                · refine g_iload_n hC dX10_named_129 rfl 1 rfl ?_
                  refine g_ifN_eq (a := 0) (tgt := 138) hC dX10_named_130 (by decide) (by omega) (fun h130 => ?_) (fun h130 => ?_)
                  · refine g_iconst hC dX10_named_138 (v := nI 0) (by decide) ?_
                    refine g_goto (tgt := 148) hC dX10_named_139 (by decide) ?_
                    have hnm9 : nI (namS S pj) = nI 0 := by
                      unfold namS
                      (repeat' split) <;> first | with_reducible rfl | (exfalso; omega) | contradiction | (exfalso; rename_i hz; first | exact absurd hz.1 (by assumption) | exact absurd hz.2 (by assumption)) | (congr 1; omega) | (exfalso; simp_all; done) | rfl
                    rw [← hnm9]
                    exact g_iret hC hR dX10_named_148 (pE_i (by simp only [s_named, hpl_p]; (repeat' split) <;> first | with_reducible rfl | contradiction | (exfalso; omega) | (rw [bI_t (by first | assumption | omega)]; rfl) | (rw [bI_f (by first | assumption | omega)]; rfl) | (exfalso; rename_i hz; exact absurd hz (by decide)) | (exfalso; rename_i hz; first | exact absurd hz.1 (by assumption) | exact absurd hz.2 (by assumption)) | (exfalso; simp only [Int32.lt_iff_toInt_lt, Int32.le_iff_toInt_le] at *; omega) | (exfalso; simp_all; done) | (simp_all; done) | rfl))
                  · exfalso; omega
              · exact absurd h119 h56
          · refine g_aload_n hC dX10_named_89 rfl 1 rfl (Or.inr ⟨_, rfl⟩) ?_
            refine g_iload_n hC dX10_named_90 rfl 2 rfl ?_
            refine g_iconst hC dX10_named_91 (v := nI 0) (by decide) ?_
            have hpr_0 : pairS S pj 0 ≤ 2 := by unfold pairS; (repeat' split) <;> omega
            refine g_V (As := [.int (nI pj), .int (nI 0)]) (st := []) hC 2 dX10_named_92 rfl mL_o mW_o gX10_named_X10_pair rfl (by decide +kernel) ⟨Nat.le_of_ble_eq_true rfl, Nat.le_of_ble_eq_true rfl⟩ rfl (Nat.le_of_ble_eq_true rfl) ⟨Nat.le_of_ble_eq_true rfl, Nat.le_of_ble_eq_true rfl⟩ (c2 := 0) (s2 := 0) rfl rfl (c_pair hk hm pj 0 (by omega) hpj (hI.k5 hpj) (hI.w1 hpj) (hI.w2 hpj)) ?_
            refine g_goto (tgt := 99) hC dX10_named_95 (by decide) ?_
            refine g_istore_n (lv' := [(3, .int (nI (pairS S pj 0))), (2, .int (nI (longS S pj))), (0, .ref o), (1, .int (nI pj))]) hC dX10_named_99 rfl (by decide) rfl ?_
            refine g_iload_n hC dX10_named_100 rfl 1 rfl ?_
            refine g_iconst hC dX10_named_101 (v := nI 4) (by decide) ?_
            refine g_icmpN_ne (a := longS S pj) (b := 4) (tgt := 114) hC dX10_named_102 (by decide) (by omega) (by omega) (fun h102 => ?_) (fun h102 => ?_)
            · refine g_iconst hC dX10_named_114 (v := nI 0) (by decide) ?_
              refine g_istore (lv' := [(4, .int (nI 0)), (3, .int (nI (pairS S pj 0))), (2, .int (nI (longS S pj))), (0, .ref o), (1, .int (nI pj))]) hC dX10_named_115 (by decide) rfl ?_
              refine g_iload_n hC dX10_named_117 rfl 2 rfl ?_
              refine g_iconst hC dX10_named_118 (v := nI 2) (by decide) ?_
              refine g_icmpN_ne (a := longS S pj) (b := 2) (tgt := 124) hC dX10_named_119 (by decide) (by omega) (by omega) (fun h119 => ?_) (fun h119 => ?_)
              · refine g_iload_n hC dX10_named_124 rfl 2 rfl ?_
                refine g_iconst hC dX10_named_125 (v := nI 4) (by decide) ?_
                refine g_icmpN_ne (a := longS S pj) (b := 4) (tgt := 138) hC dX10_named_126 (by decide) (by omega) (by omega) (fun h126 => ?_) (fun h126 => ?_)
                · refine g_iconst hC dX10_named_138 (v := nI 0) (by decide) ?_
                  refine g_goto (tgt := 148) hC dX10_named_139 (by decide) ?_
                  have hnm9 : nI (namS S pj) = nI 0 := by
                    unfold namS
                    (repeat' split) <;> first | with_reducible rfl | (exfalso; omega) | contradiction | (exfalso; rename_i hz; first | exact absurd hz.1 (by assumption) | exact absurd hz.2 (by assumption)) | (congr 1; omega) | (exfalso; simp_all; done) | rfl
                  rw [← hnm9]
                  exact g_iret hC hR dX10_named_148 (pE_i (by simp only [s_named, hpl_p]; (repeat' split) <;> first | with_reducible rfl | contradiction | (exfalso; omega) | (rw [bI_t (by first | assumption | omega)]; rfl) | (rw [bI_f (by first | assumption | omega)]; rfl) | (exfalso; rename_i hz; exact absurd hz (by decide)) | (exfalso; rename_i hz; first | exact absurd hz.1 (by assumption) | exact absurd hz.2 (by assumption)) | (exfalso; simp only [Int32.lt_iff_toInt_lt, Int32.le_iff_toInt_le] at *; omega) | (exfalso; simp_all; done) | (simp_all; done) | rfl))
                · exact absurd h126 h102
              · exact absurd h119 h56
            · refine g_aload_n hC dX10_named_105 rfl 2 rfl (Or.inr ⟨_, rfl⟩) ?_
              refine g_iload_n hC dX10_named_106 rfl 3 rfl ?_
              refine g_iconst hC dX10_named_107 (v := nI 2) (by decide) ?_
              have hpr_2 : pairS S pj 2 ≤ 2 := by unfold pairS; (repeat' split) <;> omega
              refine g_V (As := [.int (nI pj), .int (nI 2)]) (st := []) hC 2 dX10_named_108 rfl mL_o mW_o gX10_named_X10_pair rfl (by decide +kernel) ⟨Nat.le_of_ble_eq_true rfl, Nat.le_of_ble_eq_true rfl⟩ rfl (Nat.le_of_ble_eq_true rfl) ⟨Nat.le_of_ble_eq_true rfl, Nat.le_of_ble_eq_true rfl⟩ (c2 := 0) (s2 := 0) rfl rfl (c_pair hk hm pj 2 (by omega) hpj (hI.k5 hpj) (hI.w1 hpj) (hI.w2 hpj)) ?_
              refine g_goto (tgt := 115) hC dX10_named_111 (by decide) ?_
              refine g_istore (lv' := [(4, .int (nI (pairS S pj 2))), (3, .int (nI (pairS S pj 0))), (2, .int (nI (longS S pj))), (0, .ref o), (1, .int (nI pj))]) hC dX10_named_115 (by decide) rfl ?_
              refine g_iload_n hC dX10_named_117 rfl 2 rfl ?_
              refine g_iconst hC dX10_named_118 (v := nI 2) (by decide) ?_
              refine g_icmpN_ne (a := longS S pj) (b := 2) (tgt := 124) hC dX10_named_119 (by decide) (by omega) (by omega) (fun h119 => ?_) (fun h119 => ?_)
              · refine g_iload_n hC dX10_named_124 rfl 2 rfl ?_
                refine g_iconst hC dX10_named_125 (v := nI 4) (by decide) ?_
                refine g_icmpN_ne (a := longS S pj) (b := 4) (tgt := 138) hC dX10_named_126 (by decide) (by omega) (by omega) (fun h126 => ?_) (fun h126 => ?_)
                · exact absurd h102 h126
                · refine g_iload_n hC dX10_named_129 rfl 1 rfl ?_
                  refine g_ifN_eq (a := pairS S pj 0) (tgt := 138) hC dX10_named_130 (by decide) (by omega) (fun h130 => ?_) (fun h130 => ?_)
                  · refine g_iconst hC dX10_named_138 (v := nI 0) (by decide) ?_
                    refine g_goto (tgt := 148) hC dX10_named_139 (by decide) ?_
                    have hnm9 : nI (namS S pj) = nI 0 := by
                      unfold namS
                      (repeat' split) <;> first | with_reducible rfl | (exfalso; omega) | contradiction | (exfalso; rename_i hz; first | exact absurd hz.1 (by assumption) | exact absurd hz.2 (by assumption)) | (congr 1; omega) | (exfalso; simp_all; done) | rfl
                    rw [← hnm9]
                    exact g_iret hC hR dX10_named_148 (pE_i (by simp only [s_named, hpl_p]; (repeat' split) <;> first | with_reducible rfl | contradiction | (exfalso; omega) | (rw [bI_t (by first | assumption | omega)]; rfl) | (rw [bI_f (by first | assumption | omega)]; rfl) | (exfalso; rename_i hz; exact absurd hz (by decide)) | (exfalso; rename_i hz; first | exact absurd hz.1 (by assumption) | exact absurd hz.2 (by assumption)) | (exfalso; simp only [Int32.lt_iff_toInt_lt, Int32.le_iff_toInt_le] at *; omega) | (exfalso; simp_all; done) | (simp_all; done) | rfl))
                  · refine g_iload hC dX10_named_133 0 rfl ?_
                    refine g_ifN_ne (a := pairS S pj 2) (tgt := 142) hC dX10_named_135 (by decide) (by omega) (fun h135 => ?_) (fun h135 => ?_)
                    · refine g_iconst hC dX10_named_142 (v := nI 2) (by decide) ?_
                      refine g_iload_n hC dX10_named_143 rfl 1 rfl ?_
                      refine g_imulN (a := 2) (b := pairS S pj 0) hC dX10_named_144 ?_
                      refine g_iload hC dX10_named_145 0 rfl ?_
                      refine g_iaddN (a := 2 * (pairS S pj 0)) (b := pairS S pj 2) hC dX10_named_147 ?_
                      have hnm9 : nI (namS S pj) = nI ((2 * (pairS S pj 0)) + (pairS S pj 2)) := by
                        unfold namS
                        (repeat' split) <;> first | with_reducible rfl | (exfalso; omega) | contradiction | (exfalso; rename_i hz; first | exact absurd hz.1 (by assumption) | exact absurd hz.2 (by assumption)) | (congr 1; omega) | (exfalso; simp_all; done) | rfl
                      rw [← hnm9]
                      exact g_iret hC hR dX10_named_148 (pE_i (by simp only [s_named, hpl_p]; (repeat' split) <;> first | with_reducible rfl | contradiction | (exfalso; omega) | (rw [bI_t (by first | assumption | omega)]; rfl) | (rw [bI_f (by first | assumption | omega)]; rfl) | (exfalso; rename_i hz; exact absurd hz (by decide)) | (exfalso; rename_i hz; first | exact absurd hz.1 (by assumption) | exact absurd hz.2 (by assumption)) | (exfalso; simp only [Int32.lt_iff_toInt_lt, Int32.le_iff_toInt_le] at *; omega) | (exfalso; simp_all; done) | (simp_all; done) | rfl))
                    · refine g_iconst hC dX10_named_138 (v := nI 0) (by decide) ?_
                      refine g_goto (tgt := 148) hC dX10_named_139 (by decide) ?_
                      have hnm9 : nI (namS S pj) = nI 0 := by
                        unfold namS
                        (repeat' split) <;> first | with_reducible rfl | (exfalso; omega) | contradiction | (exfalso; rename_i hz; first | exact absurd hz.1 (by assumption) | exact absurd hz.2 (by assumption)) | (congr 1; omega) | (exfalso; simp_all; done) | rfl
                      rw [← hnm9]
                      exact g_iret hC hR dX10_named_148 (pE_i (by simp only [s_named, hpl_p]; (repeat' split) <;> first | with_reducible rfl | contradiction | (exfalso; omega) | (rw [bI_t (by first | assumption | omega)]; rfl) | (rw [bI_f (by first | assumption | omega)]; rfl) | (exfalso; rename_i hz; exact absurd hz (by decide)) | (exfalso; rename_i hz; first | exact absurd hz.1 (by assumption) | exact absurd hz.2 (by assumption)) | (exfalso; simp only [Int32.lt_iff_toInt_lt, Int32.le_iff_toInt_le] at *; omega) | (exfalso; simp_all; done) | (simp_all; done) | rfl))
              · exact absurd h119 h56
        · refine g_aload_n hC dX10_named_59 rfl 1 rfl (Or.inr ⟨_, rfl⟩) ?_
          refine g_iload_n hC dX10_named_60 rfl 2 rfl ?_
          refine g_iconst hC dX10_named_61 (v := nI 0) (by decide) ?_
          refine g_V (As := [.int (nI pj), .int (nI 0)]) (st := []) hC 2 dX10_named_62 rfl mL_o mW_o gX10_named_X10_at rfl (by decide +kernel) ⟨Nat.le_of_ble_eq_true rfl, Nat.le_of_ble_eq_true rfl⟩ rfl (Nat.le_of_ble_eq_true rfl) ⟨Nat.le_of_ble_eq_true rfl, Nat.le_of_ble_eq_true rfl⟩ (c2 := 0) (s2 := 0) rfl rfl (c_at hk hm pj 0 (by omega) hpj (hI.k5 hpj) (hI.w1 hpj) (hI.w2 hpj)) ?_
          refine g_bipush hC dX10_named_65 (v := nI 105) (by decide) ?_
          refine g_icmp_ne (x := atS S pj 0) (y := nI 105) (tgt := 84) hC dX10_named_67 (by decide) (fun h67 => ?_) (fun h67 => ?_)
          · refine g_iload_n hC dX10_named_84 rfl 0 rfl ?_
            refine g_iconst hC dX10_named_85 (v := nI 2) (by decide) ?_
            refine g_icmpN_lt (a := longS S pj) (b := 2) (tgt := 98) hC dX10_named_86 (by decide) (by omega) (by omega) (fun h86 => ?_) (fun h86 => ?_)
            · refine g_iconst hC dX10_named_98 (v := nI 0) (by decide) ?_
              refine g_istore_n (lv' := [(3, .int (nI 0)), (2, .int (nI (longS S pj))), (0, .ref o), (1, .int (nI pj))]) hC dX10_named_99 rfl (by decide) rfl ?_
              refine g_iload_n hC dX10_named_100 rfl 1 rfl ?_
              refine g_iconst hC dX10_named_101 (v := nI 4) (by decide) ?_
              refine g_icmpN_ne (a := longS S pj) (b := 4) (tgt := 114) hC dX10_named_102 (by decide) (by omega) (by omega) (fun h102 => ?_) (fun h102 => ?_)
              · refine g_iconst hC dX10_named_114 (v := nI 0) (by decide) ?_
                refine g_istore (lv' := [(4, .int (nI 0)), (3, .int (nI 0)), (2, .int (nI (longS S pj))), (0, .ref o), (1, .int (nI pj))]) hC dX10_named_115 (by decide) rfl ?_
                refine g_iload_n hC dX10_named_117 rfl 2 rfl ?_
                refine g_iconst hC dX10_named_118 (v := nI 2) (by decide) ?_
                refine g_icmpN_ne (a := longS S pj) (b := 2) (tgt := 124) hC dX10_named_119 (by decide) (by omega) (by omega) (fun h119 => ?_) (fun h119 => ?_)
                · exact absurd h56 h119
                · refine g_iload_n hC dX10_named_122 rfl 1 rfl ?_
                  have hnm9 : nI (namS S pj) = nI 0 := by
                    unfold namS
                    (repeat' split) <;> first | with_reducible rfl | (exfalso; omega) | contradiction | (exfalso; rename_i hz; first | exact absurd hz.1 (by assumption) | exact absurd hz.2 (by assumption)) | (congr 1; omega) | (exfalso; simp_all; done) | rfl
                  rw [← hnm9]
                  exact g_iret hC hR dX10_named_123 (pE_i (by simp only [s_named, hpl_p]; (repeat' split) <;> first | with_reducible rfl | contradiction | (exfalso; omega) | (rw [bI_t (by first | assumption | omega)]; rfl) | (rw [bI_f (by first | assumption | omega)]; rfl) | (exfalso; rename_i hz; exact absurd hz (by decide)) | (exfalso; rename_i hz; first | exact absurd hz.1 (by assumption) | exact absurd hz.2 (by assumption)) | (exfalso; simp only [Int32.lt_iff_toInt_lt, Int32.le_iff_toInt_le] at *; omega) | (exfalso; simp_all; done) | (simp_all; done) | rfl))
              · refine g_aload_n hC dX10_named_105 rfl 2 rfl (Or.inr ⟨_, rfl⟩) ?_
                refine g_iload_n hC dX10_named_106 rfl 3 rfl ?_
                refine g_iconst hC dX10_named_107 (v := nI 2) (by decide) ?_
                have hpr_2 : pairS S pj 2 ≤ 2 := by unfold pairS; (repeat' split) <;> omega
                refine g_V (As := [.int (nI pj), .int (nI 2)]) (st := []) hC 2 dX10_named_108 rfl mL_o mW_o gX10_named_X10_pair rfl (by decide +kernel) ⟨Nat.le_of_ble_eq_true rfl, Nat.le_of_ble_eq_true rfl⟩ rfl (Nat.le_of_ble_eq_true rfl) ⟨Nat.le_of_ble_eq_true rfl, Nat.le_of_ble_eq_true rfl⟩ (c2 := 0) (s2 := 0) rfl rfl (c_pair hk hm pj 2 (by omega) hpj (hI.k5 hpj) (hI.w1 hpj) (hI.w2 hpj)) ?_
                refine g_goto (tgt := 115) hC dX10_named_111 (by decide) ?_
                refine g_istore (lv' := [(4, .int (nI (pairS S pj 2))), (3, .int (nI 0)), (2, .int (nI (longS S pj))), (0, .ref o), (1, .int (nI pj))]) hC dX10_named_115 (by decide) rfl ?_
                refine g_iload_n hC dX10_named_117 rfl 2 rfl ?_
                refine g_iconst hC dX10_named_118 (v := nI 2) (by decide) ?_
                refine g_icmpN_ne (a := longS S pj) (b := 2) (tgt := 124) hC dX10_named_119 (by decide) (by omega) (by omega) (fun h119 => ?_) (fun h119 => ?_)
                · exact absurd h56 h119
                · refine g_iload_n hC dX10_named_122 rfl 1 rfl ?_
                  have hnm9 : nI (namS S pj) = nI 0 := by
                    unfold namS
                    (repeat' split) <;> first | with_reducible rfl | (exfalso; omega) | contradiction | (exfalso; rename_i hz; first | exact absurd hz.1 (by assumption) | exact absurd hz.2 (by assumption)) | (congr 1; omega) | (exfalso; simp_all; done) | rfl
                  rw [← hnm9]
                  exact g_iret hC hR dX10_named_123 (pE_i (by simp only [s_named, hpl_p]; (repeat' split) <;> first | with_reducible rfl | contradiction | (exfalso; omega) | (rw [bI_t (by first | assumption | omega)]; rfl) | (rw [bI_f (by first | assumption | omega)]; rfl) | (exfalso; rename_i hz; exact absurd hz (by decide)) | (exfalso; rename_i hz; first | exact absurd hz.1 (by assumption) | exact absurd hz.2 (by assumption)) | (exfalso; simp only [Int32.lt_iff_toInt_lt, Int32.le_iff_toInt_le] at *; omega) | (exfalso; simp_all; done) | (simp_all; done) | rfl))
            · refine g_aload_n hC dX10_named_89 rfl 1 rfl (Or.inr ⟨_, rfl⟩) ?_
              refine g_iload_n hC dX10_named_90 rfl 2 rfl ?_
              refine g_iconst hC dX10_named_91 (v := nI 0) (by decide) ?_
              have hpr_0 : pairS S pj 0 ≤ 2 := by unfold pairS; (repeat' split) <;> omega
              refine g_V (As := [.int (nI pj), .int (nI 0)]) (st := []) hC 2 dX10_named_92 rfl mL_o mW_o gX10_named_X10_pair rfl (by decide +kernel) ⟨Nat.le_of_ble_eq_true rfl, Nat.le_of_ble_eq_true rfl⟩ rfl (Nat.le_of_ble_eq_true rfl) ⟨Nat.le_of_ble_eq_true rfl, Nat.le_of_ble_eq_true rfl⟩ (c2 := 0) (s2 := 0) rfl rfl (c_pair hk hm pj 0 (by omega) hpj (hI.k5 hpj) (hI.w1 hpj) (hI.w2 hpj)) ?_
              refine g_goto (tgt := 99) hC dX10_named_95 (by decide) ?_
              refine g_istore_n (lv' := [(3, .int (nI (pairS S pj 0))), (2, .int (nI (longS S pj))), (0, .ref o), (1, .int (nI pj))]) hC dX10_named_99 rfl (by decide) rfl ?_
              refine g_iload_n hC dX10_named_100 rfl 1 rfl ?_
              refine g_iconst hC dX10_named_101 (v := nI 4) (by decide) ?_
              refine g_icmpN_ne (a := longS S pj) (b := 4) (tgt := 114) hC dX10_named_102 (by decide) (by omega) (by omega) (fun h102 => ?_) (fun h102 => ?_)
              · refine g_iconst hC dX10_named_114 (v := nI 0) (by decide) ?_
                refine g_istore (lv' := [(4, .int (nI 0)), (3, .int (nI (pairS S pj 0))), (2, .int (nI (longS S pj))), (0, .ref o), (1, .int (nI pj))]) hC dX10_named_115 (by decide) rfl ?_
                refine g_iload_n hC dX10_named_117 rfl 2 rfl ?_
                refine g_iconst hC dX10_named_118 (v := nI 2) (by decide) ?_
                refine g_icmpN_ne (a := longS S pj) (b := 2) (tgt := 124) hC dX10_named_119 (by decide) (by omega) (by omega) (fun h119 => ?_) (fun h119 => ?_)
                · exact absurd h56 h119
                · refine g_iload_n hC dX10_named_122 rfl 1 rfl ?_
                  have hnm9 : nI (namS S pj) = nI (pairS S pj 0) := by
                    unfold namS
                    (repeat' split) <;> first | with_reducible rfl | (exfalso; omega) | contradiction | (exfalso; rename_i hz; first | exact absurd hz.1 (by assumption) | exact absurd hz.2 (by assumption)) | (congr 1; omega) | (exfalso; simp_all; done) | rfl
                  rw [← hnm9]
                  exact g_iret hC hR dX10_named_123 (pE_i (by simp only [s_named, hpl_p]; (repeat' split) <;> first | with_reducible rfl | contradiction | (exfalso; omega) | (rw [bI_t (by first | assumption | omega)]; rfl) | (rw [bI_f (by first | assumption | omega)]; rfl) | (exfalso; rename_i hz; exact absurd hz (by decide)) | (exfalso; rename_i hz; first | exact absurd hz.1 (by assumption) | exact absurd hz.2 (by assumption)) | (exfalso; simp only [Int32.lt_iff_toInt_lt, Int32.le_iff_toInt_le] at *; omega) | (exfalso; simp_all; done) | (simp_all; done) | rfl))
              · refine g_aload_n hC dX10_named_105 rfl 2 rfl (Or.inr ⟨_, rfl⟩) ?_
                refine g_iload_n hC dX10_named_106 rfl 3 rfl ?_
                refine g_iconst hC dX10_named_107 (v := nI 2) (by decide) ?_
                have hpr_2 : pairS S pj 2 ≤ 2 := by unfold pairS; (repeat' split) <;> omega
                refine g_V (As := [.int (nI pj), .int (nI 2)]) (st := []) hC 2 dX10_named_108 rfl mL_o mW_o gX10_named_X10_pair rfl (by decide +kernel) ⟨Nat.le_of_ble_eq_true rfl, Nat.le_of_ble_eq_true rfl⟩ rfl (Nat.le_of_ble_eq_true rfl) ⟨Nat.le_of_ble_eq_true rfl, Nat.le_of_ble_eq_true rfl⟩ (c2 := 0) (s2 := 0) rfl rfl (c_pair hk hm pj 2 (by omega) hpj (hI.k5 hpj) (hI.w1 hpj) (hI.w2 hpj)) ?_
                refine g_goto (tgt := 115) hC dX10_named_111 (by decide) ?_
                refine g_istore (lv' := [(4, .int (nI (pairS S pj 2))), (3, .int (nI (pairS S pj 0))), (2, .int (nI (longS S pj))), (0, .ref o), (1, .int (nI pj))]) hC dX10_named_115 (by decide) rfl ?_
                refine g_iload_n hC dX10_named_117 rfl 2 rfl ?_
                refine g_iconst hC dX10_named_118 (v := nI 2) (by decide) ?_
                refine g_icmpN_ne (a := longS S pj) (b := 2) (tgt := 124) hC dX10_named_119 (by decide) (by omega) (by omega) (fun h119 => ?_) (fun h119 => ?_)
                · exact absurd h56 h119
                · refine g_iload_n hC dX10_named_122 rfl 1 rfl ?_
                  have hnm9 : nI (namS S pj) = nI (pairS S pj 0) := by
                    unfold namS
                    (repeat' split) <;> first | with_reducible rfl | (exfalso; omega) | contradiction | (exfalso; rename_i hz; first | exact absurd hz.1 (by assumption) | exact absurd hz.2 (by assumption)) | (congr 1; omega) | (exfalso; simp_all; done) | rfl
                  rw [← hnm9]
                  exact g_iret hC hR dX10_named_123 (pE_i (by simp only [s_named, hpl_p]; (repeat' split) <;> first | with_reducible rfl | contradiction | (exfalso; omega) | (rw [bI_t (by first | assumption | omega)]; rfl) | (rw [bI_f (by first | assumption | omega)]; rfl) | (exfalso; rename_i hz; exact absurd hz (by decide)) | (exfalso; rename_i hz; first | exact absurd hz.1 (by assumption) | exact absurd hz.2 (by assumption)) | (exfalso; simp only [Int32.lt_iff_toInt_lt, Int32.le_iff_toInt_le] at *; omega) | (exfalso; simp_all; done) | (simp_all; done) | rfl))
          · refine g_aload_n hC dX10_named_70 rfl 1 rfl (Or.inr ⟨_, rfl⟩) ?_
            refine g_iload_n hC dX10_named_71 rfl 2 rfl ?_
            refine g_iconst hC dX10_named_72 (v := nI 1) (by decide) ?_
            refine g_V (As := [.int (nI pj), .int (nI 1)]) (st := []) hC 2 dX10_named_73 rfl mL_o mW_o gX10_named_X10_at rfl (by decide +kernel) ⟨Nat.le_of_ble_eq_true rfl, Nat.le_of_ble_eq_true rfl⟩ rfl (Nat.le_of_ble_eq_true rfl) ⟨Nat.le_of_ble_eq_true rfl, Nat.le_of_ble_eq_true rfl⟩ (c2 := 0) (s2 := 0) rfl rfl (c_at hk hm pj 1 (by omega) hpj (hI.k5 hpj) (hI.w1 hpj) (hI.w2 hpj)) ?_
            refine g_bipush hC dX10_named_76 (v := nI 100) (by decide) ?_
            refine g_icmp_ne (x := atS S pj 1) (y := nI 100) (tgt := 84) hC dX10_named_78 (by decide) (fun h78 => ?_) (fun h78 => ?_)
            · refine g_iload_n hC dX10_named_84 rfl 0 rfl ?_
              refine g_iconst hC dX10_named_85 (v := nI 2) (by decide) ?_
              refine g_icmpN_lt (a := longS S pj) (b := 2) (tgt := 98) hC dX10_named_86 (by decide) (by omega) (by omega) (fun h86 => ?_) (fun h86 => ?_)
              · refine g_iconst hC dX10_named_98 (v := nI 0) (by decide) ?_
                refine g_istore_n (lv' := [(3, .int (nI 0)), (2, .int (nI (longS S pj))), (0, .ref o), (1, .int (nI pj))]) hC dX10_named_99 rfl (by decide) rfl ?_
                refine g_iload_n hC dX10_named_100 rfl 1 rfl ?_
                refine g_iconst hC dX10_named_101 (v := nI 4) (by decide) ?_
                refine g_icmpN_ne (a := longS S pj) (b := 4) (tgt := 114) hC dX10_named_102 (by decide) (by omega) (by omega) (fun h102 => ?_) (fun h102 => ?_)
                · refine g_iconst hC dX10_named_114 (v := nI 0) (by decide) ?_
                  refine g_istore (lv' := [(4, .int (nI 0)), (3, .int (nI 0)), (2, .int (nI (longS S pj))), (0, .ref o), (1, .int (nI pj))]) hC dX10_named_115 (by decide) rfl ?_
                  refine g_iload_n hC dX10_named_117 rfl 2 rfl ?_
                  refine g_iconst hC dX10_named_118 (v := nI 2) (by decide) ?_
                  refine g_icmpN_ne (a := longS S pj) (b := 2) (tgt := 124) hC dX10_named_119 (by decide) (by omega) (by omega) (fun h119 => ?_) (fun h119 => ?_)
                  · exact absurd h56 h119
                  · refine g_iload_n hC dX10_named_122 rfl 1 rfl ?_
                    have hnm9 : nI (namS S pj) = nI 0 := by
                      unfold namS
                      (repeat' split) <;> first | with_reducible rfl | (exfalso; omega) | contradiction | (exfalso; rename_i hz; first | exact absurd hz.1 (by assumption) | exact absurd hz.2 (by assumption)) | (congr 1; omega) | (exfalso; simp_all; done) | rfl
                    rw [← hnm9]
                    exact g_iret hC hR dX10_named_123 (pE_i (by simp only [s_named, hpl_p]; (repeat' split) <;> first | with_reducible rfl | contradiction | (exfalso; omega) | (rw [bI_t (by first | assumption | omega)]; rfl) | (rw [bI_f (by first | assumption | omega)]; rfl) | (exfalso; rename_i hz; exact absurd hz (by decide)) | (exfalso; rename_i hz; first | exact absurd hz.1 (by assumption) | exact absurd hz.2 (by assumption)) | (exfalso; simp only [Int32.lt_iff_toInt_lt, Int32.le_iff_toInt_le] at *; omega) | (exfalso; simp_all; done) | (simp_all; done) | rfl))
                · refine g_aload_n hC dX10_named_105 rfl 2 rfl (Or.inr ⟨_, rfl⟩) ?_
                  refine g_iload_n hC dX10_named_106 rfl 3 rfl ?_
                  refine g_iconst hC dX10_named_107 (v := nI 2) (by decide) ?_
                  have hpr_2 : pairS S pj 2 ≤ 2 := by unfold pairS; (repeat' split) <;> omega
                  refine g_V (As := [.int (nI pj), .int (nI 2)]) (st := []) hC 2 dX10_named_108 rfl mL_o mW_o gX10_named_X10_pair rfl (by decide +kernel) ⟨Nat.le_of_ble_eq_true rfl, Nat.le_of_ble_eq_true rfl⟩ rfl (Nat.le_of_ble_eq_true rfl) ⟨Nat.le_of_ble_eq_true rfl, Nat.le_of_ble_eq_true rfl⟩ (c2 := 0) (s2 := 0) rfl rfl (c_pair hk hm pj 2 (by omega) hpj (hI.k5 hpj) (hI.w1 hpj) (hI.w2 hpj)) ?_
                  refine g_goto (tgt := 115) hC dX10_named_111 (by decide) ?_
                  refine g_istore (lv' := [(4, .int (nI (pairS S pj 2))), (3, .int (nI 0)), (2, .int (nI (longS S pj))), (0, .ref o), (1, .int (nI pj))]) hC dX10_named_115 (by decide) rfl ?_
                  refine g_iload_n hC dX10_named_117 rfl 2 rfl ?_
                  refine g_iconst hC dX10_named_118 (v := nI 2) (by decide) ?_
                  refine g_icmpN_ne (a := longS S pj) (b := 2) (tgt := 124) hC dX10_named_119 (by decide) (by omega) (by omega) (fun h119 => ?_) (fun h119 => ?_)
                  · exact absurd h56 h119
                  · refine g_iload_n hC dX10_named_122 rfl 1 rfl ?_
                    have hnm9 : nI (namS S pj) = nI 0 := by
                      unfold namS
                      (repeat' split) <;> first | with_reducible rfl | (exfalso; omega) | contradiction | (exfalso; rename_i hz; first | exact absurd hz.1 (by assumption) | exact absurd hz.2 (by assumption)) | (congr 1; omega) | (exfalso; simp_all; done) | rfl
                    rw [← hnm9]
                    exact g_iret hC hR dX10_named_123 (pE_i (by simp only [s_named, hpl_p]; (repeat' split) <;> first | with_reducible rfl | contradiction | (exfalso; omega) | (rw [bI_t (by first | assumption | omega)]; rfl) | (rw [bI_f (by first | assumption | omega)]; rfl) | (exfalso; rename_i hz; exact absurd hz (by decide)) | (exfalso; rename_i hz; first | exact absurd hz.1 (by assumption) | exact absurd hz.2 (by assumption)) | (exfalso; simp only [Int32.lt_iff_toInt_lt, Int32.le_iff_toInt_le] at *; omega) | (exfalso; simp_all; done) | (simp_all; done) | rfl))
              · refine g_aload_n hC dX10_named_89 rfl 1 rfl (Or.inr ⟨_, rfl⟩) ?_
                refine g_iload_n hC dX10_named_90 rfl 2 rfl ?_
                refine g_iconst hC dX10_named_91 (v := nI 0) (by decide) ?_
                have hpr_0 : pairS S pj 0 ≤ 2 := by unfold pairS; (repeat' split) <;> omega
                refine g_V (As := [.int (nI pj), .int (nI 0)]) (st := []) hC 2 dX10_named_92 rfl mL_o mW_o gX10_named_X10_pair rfl (by decide +kernel) ⟨Nat.le_of_ble_eq_true rfl, Nat.le_of_ble_eq_true rfl⟩ rfl (Nat.le_of_ble_eq_true rfl) ⟨Nat.le_of_ble_eq_true rfl, Nat.le_of_ble_eq_true rfl⟩ (c2 := 0) (s2 := 0) rfl rfl (c_pair hk hm pj 0 (by omega) hpj (hI.k5 hpj) (hI.w1 hpj) (hI.w2 hpj)) ?_
                refine g_goto (tgt := 99) hC dX10_named_95 (by decide) ?_
                refine g_istore_n (lv' := [(3, .int (nI (pairS S pj 0))), (2, .int (nI (longS S pj))), (0, .ref o), (1, .int (nI pj))]) hC dX10_named_99 rfl (by decide) rfl ?_
                refine g_iload_n hC dX10_named_100 rfl 1 rfl ?_
                refine g_iconst hC dX10_named_101 (v := nI 4) (by decide) ?_
                refine g_icmpN_ne (a := longS S pj) (b := 4) (tgt := 114) hC dX10_named_102 (by decide) (by omega) (by omega) (fun h102 => ?_) (fun h102 => ?_)
                · refine g_iconst hC dX10_named_114 (v := nI 0) (by decide) ?_
                  refine g_istore (lv' := [(4, .int (nI 0)), (3, .int (nI (pairS S pj 0))), (2, .int (nI (longS S pj))), (0, .ref o), (1, .int (nI pj))]) hC dX10_named_115 (by decide) rfl ?_
                  refine g_iload_n hC dX10_named_117 rfl 2 rfl ?_
                  refine g_iconst hC dX10_named_118 (v := nI 2) (by decide) ?_
                  refine g_icmpN_ne (a := longS S pj) (b := 2) (tgt := 124) hC dX10_named_119 (by decide) (by omega) (by omega) (fun h119 => ?_) (fun h119 => ?_)
                  · exact absurd h56 h119
                  · refine g_iload_n hC dX10_named_122 rfl 1 rfl ?_
                    have hnm9 : nI (namS S pj) = nI (pairS S pj 0) := by
                      unfold namS
                      (repeat' split) <;> first | with_reducible rfl | (exfalso; omega) | contradiction | (exfalso; rename_i hz; first | exact absurd hz.1 (by assumption) | exact absurd hz.2 (by assumption)) | (congr 1; omega) | (exfalso; simp_all; done) | rfl
                    rw [← hnm9]
                    exact g_iret hC hR dX10_named_123 (pE_i (by simp only [s_named, hpl_p]; (repeat' split) <;> first | with_reducible rfl | contradiction | (exfalso; omega) | (rw [bI_t (by first | assumption | omega)]; rfl) | (rw [bI_f (by first | assumption | omega)]; rfl) | (exfalso; rename_i hz; exact absurd hz (by decide)) | (exfalso; rename_i hz; first | exact absurd hz.1 (by assumption) | exact absurd hz.2 (by assumption)) | (exfalso; simp only [Int32.lt_iff_toInt_lt, Int32.le_iff_toInt_le] at *; omega) | (exfalso; simp_all; done) | (simp_all; done) | rfl))
                · refine g_aload_n hC dX10_named_105 rfl 2 rfl (Or.inr ⟨_, rfl⟩) ?_
                  refine g_iload_n hC dX10_named_106 rfl 3 rfl ?_
                  refine g_iconst hC dX10_named_107 (v := nI 2) (by decide) ?_
                  have hpr_2 : pairS S pj 2 ≤ 2 := by unfold pairS; (repeat' split) <;> omega
                  refine g_V (As := [.int (nI pj), .int (nI 2)]) (st := []) hC 2 dX10_named_108 rfl mL_o mW_o gX10_named_X10_pair rfl (by decide +kernel) ⟨Nat.le_of_ble_eq_true rfl, Nat.le_of_ble_eq_true rfl⟩ rfl (Nat.le_of_ble_eq_true rfl) ⟨Nat.le_of_ble_eq_true rfl, Nat.le_of_ble_eq_true rfl⟩ (c2 := 0) (s2 := 0) rfl rfl (c_pair hk hm pj 2 (by omega) hpj (hI.k5 hpj) (hI.w1 hpj) (hI.w2 hpj)) ?_
                  refine g_goto (tgt := 115) hC dX10_named_111 (by decide) ?_
                  refine g_istore (lv' := [(4, .int (nI (pairS S pj 2))), (3, .int (nI (pairS S pj 0))), (2, .int (nI (longS S pj))), (0, .ref o), (1, .int (nI pj))]) hC dX10_named_115 (by decide) rfl ?_
                  refine g_iload_n hC dX10_named_117 rfl 2 rfl ?_
                  refine g_iconst hC dX10_named_118 (v := nI 2) (by decide) ?_
                  refine g_icmpN_ne (a := longS S pj) (b := 2) (tgt := 124) hC dX10_named_119 (by decide) (by omega) (by omega) (fun h119 => ?_) (fun h119 => ?_)
                  · exact absurd h56 h119
                  · refine g_iload_n hC dX10_named_122 rfl 1 rfl ?_
                    have hnm9 : nI (namS S pj) = nI (pairS S pj 0) := by
                      unfold namS
                      (repeat' split) <;> first | with_reducible rfl | (exfalso; omega) | contradiction | (exfalso; rename_i hz; first | exact absurd hz.1 (by assumption) | exact absurd hz.2 (by assumption)) | (congr 1; omega) | (exfalso; simp_all; done) | rfl
                    rw [← hnm9]
                    exact g_iret hC hR dX10_named_123 (pE_i (by simp only [s_named, hpl_p]; (repeat' split) <;> first | with_reducible rfl | contradiction | (exfalso; omega) | (rw [bI_t (by first | assumption | omega)]; rfl) | (rw [bI_f (by first | assumption | omega)]; rfl) | (exfalso; rename_i hz; exact absurd hz (by decide)) | (exfalso; rename_i hz; first | exact absurd hz.1 (by assumption) | exact absurd hz.2 (by assumption)) | (exfalso; simp only [Int32.lt_iff_toInt_lt, Int32.le_iff_toInt_le] at *; omega) | (exfalso; simp_all; done) | (simp_all; done) | rfl))
            · refine g_bipush hC dX10_named_81 (v := nI 7) (by decide) ?_
              have hnm9 : nI (namS S pj) = nI 7 := by
                unfold namS
                (repeat' split) <;> first | with_reducible rfl | (exfalso; omega) | contradiction | (exfalso; rename_i hz; first | exact absurd hz.1 (by assumption) | exact absurd hz.2 (by assumption)) | (congr 1; omega) | (exfalso; simp_all; done) | rfl
              rw [← hnm9]
              exact g_iret hC hR dX10_named_83 (pE_i (by simp only [s_named, hpl_p]; (repeat' split) <;> first | with_reducible rfl | contradiction | (exfalso; omega) | (rw [bI_t (by first | assumption | omega)]; rfl) | (rw [bI_f (by first | assumption | omega)]; rfl) | (exfalso; rename_i hz; exact absurd hz (by decide)) | (exfalso; rename_i hz; first | exact absurd hz.1 (by assumption) | exact absurd hz.2 (by assumption)) | (exfalso; simp only [Int32.lt_iff_toInt_lt, Int32.le_iff_toInt_le] at *; omega) | (exfalso; simp_all; done) | (simp_all; done) | rfl))
      · refine g_bipush hC dX10_named_51 (v := nI 8) (by decide) ?_
        have hnm9 : nI (namS S pj) = nI 8 := by
          unfold namS
          (repeat' split) <;> first | with_reducible rfl | (exfalso; omega) | contradiction | (exfalso; rename_i hz; first | exact absurd hz.1 (by assumption) | exact absurd hz.2 (by assumption)) | (congr 1; omega) | (exfalso; simp_all; done) | rfl
        rw [← hnm9]
        exact g_iret hC hR dX10_named_53 (pE_i (by simp only [s_named, hpl_p]; (repeat' split) <;> first | with_reducible rfl | contradiction | (exfalso; omega) | (rw [bI_t (by first | assumption | omega)]; rfl) | (rw [bI_f (by first | assumption | omega)]; rfl) | (exfalso; rename_i hz; exact absurd hz (by decide)) | (exfalso; rename_i hz; first | exact absurd hz.1 (by assumption) | exact absurd hz.2 (by assumption)) | (exfalso; simp only [Int32.lt_iff_toInt_lt, Int32.le_iff_toInt_le] at *; omega) | (exfalso; simp_all; done) | (simp_all; done) | rfl))
    · refine g_aload_n hC dX10_named_22 rfl 0 rfl (Or.inr ⟨_, rfl⟩) ?_
      refine g_aload_n hC dX10_named_23 rfl 0 rfl (Or.inr ⟨_, rfl⟩) ?_
      refine m_get_2 hC hin (by decide +kernel) dX10_named_24 ?_
      refine g_iload_n hC dX10_named_27 rfl 1 rfl ?_
      refine m_aldN (k := 2) (j := pj) hC hm (by decide) rfl rfl rfl dX10_named_28 (show _ < 10 from (by omega)) ?_
      refine g_ifN_ne (a := kd S pj) (tgt := 36) hC dX10_named_29 (by decide) (by omega) (fun h29 => ?_) (fun h29 => ?_)
      · refine g_iconst hC dX10_named_36 (v := nI 2) (by decide) ?_
        refine g_V (As := [.int (nI 2)]) (st := []) hC 1 dX10_named_37 rfl mL_o mW_o gX10_named_X10_fails rfl (by decide +kernel) ⟨Nat.le_of_ble_eq_true rfl, Nat.le_of_ble_eq_true rfl⟩ rfl (Nat.le_of_ble_eq_true rfl) ⟨Nat.le_of_ble_eq_true rfl, Nat.le_of_ble_eq_true rfl⟩ (c2 := 0) (s2 := 0) rfl rfl (c_fails hk hm 2) ?_
        exact g_iret hC hR dX10_named_40 (pE_i (by simp only [s_named, hpl_p]; (repeat' split) <;> first | with_reducible rfl | contradiction | (exfalso; omega) | (rw [bI_t (by first | assumption | omega)]; rfl) | (rw [bI_f (by first | assumption | omega)]; rfl) | (exfalso; rename_i hz; exact absurd hz (by decide)) | (exfalso; rename_i hz; first | exact absurd hz.1 (by assumption) | exact absurd hz.2 (by assumption)) | (exfalso; simp only [Int32.lt_iff_toInt_lt, Int32.le_iff_toInt_le] at *; omega) | (exfalso; simp_all; done) | (simp_all; done) | rfl))
      · refine g_iconst hC dX10_named_32 (v := nI 1) (by decide) ?_
        refine g_goto (tgt := 37) hC dX10_named_33 (by decide) ?_
        refine g_V (As := [.int (nI 1)]) (st := []) hC 1 dX10_named_37 rfl mL_o mW_o gX10_named_X10_fails rfl (by decide +kernel) ⟨Nat.le_of_ble_eq_true rfl, Nat.le_of_ble_eq_true rfl⟩ rfl (Nat.le_of_ble_eq_true rfl) ⟨Nat.le_of_ble_eq_true rfl, Nat.le_of_ble_eq_true rfl⟩ (c2 := 0) (s2 := 0) rfl rfl (c_fails hk hm 1) ?_
        exact g_iret hC hR dX10_named_40 (pE_i (by simp only [s_named, hpl_p]; (repeat' split) <;> first | with_reducible rfl | contradiction | (exfalso; omega) | (rw [bI_t (by first | assumption | omega)]; rfl) | (rw [bI_f (by first | assumption | omega)]; rfl) | (exfalso; rename_i hz; exact absurd hz (by decide)) | (exfalso; rename_i hz; first | exact absurd hz.1 (by assumption) | exact absurd hz.2 (by assumption)) | (exfalso; simp only [Int32.lt_iff_toInt_lt, Int32.le_iff_toInt_le] at *; omega) | (exfalso; simp_all; done) | (simp_all; done) | rfl))
  · refine g_iconst hC dX10_named_12 (v := (-1)) (by decide) ?_
    exact g_iret hC hR dX10_named_13 (pE_i (by simp only [s_named]; (repeat' split) <;> first | with_reducible rfl | contradiction | (exfalso; omega) | (rw [bI_t (by first | assumption | omega)]; rfl) | (rw [bI_f (by first | assumption | omega)]; rfl) | (exfalso; rename_i hz; exact absurd hz (by decide)) | (exfalso; rename_i hz; first | exact absurd hz.1 (by assumption) | exact absurd hz.2 (by assumption)) | (exfalso; simp only [Int32.lt_iff_toInt_lt, Int32.le_iff_toInt_le] at *; omega) | (exfalso; simp_all; done) | (simp_all; done) | rfl))
set_option maxRecDepth 20000 in
set_option maxHeartbeats 4000000 in
theorem c_like (hk : gKok D vwCl (cyT cy) K) (hm : mOk o ad) (hI : aI S) (p : Int32) (q : Int32) : gCt l D vwCl K yX10_like wsX10_like { frames := 2, cells := 0, slots := 0, locals := 43 } [.ref o, .int p, .int q] (mL o ad) (mW o ad cy S) (pE (some (.int (s_like S p q).1)) (mL o ad) (mW o ad cy (s_like S p q).2)) := by
  refine gCt.of hk (by decide) rfl rfl (fun X hC hR hnm => ?_)
  have hC : gC X l _ D vwCl (cyT cy) K cX10_like 5 wsX10_like RX10 := hC
  have hin : ∀ w ∈ wsX100, w ∈ wsX10_like := by decide +kernel
  show gW X vwCl 5 (mL o ad) (mW o ad cy S) 0 0 0 [(0, .ref o), (1, .int p), (2, .int q)] []
  have hnb := hI.nb
  refine g_aload_n hC dX10_like_0 rfl 0 rfl (Or.inr ⟨_, rfl⟩) ?_
  refine g_iconst hC dX10_like_1 (v := nI 0) (by decide) ?_
  refine m_put_0 (x := 0) hC hin (by decide +kernel) dX10_like_2 ?_
  refine g_iload_n hC dX10_like_5 rfl 1 rfl ?_
  refine g_S (As := [.int p]) (st := []) hC 1 dX10_like_6 gX10_like_X10_isPlace rfl (by decide +kernel) ⟨Nat.le_of_ble_eq_true rfl, Nat.le_of_ble_eq_true rfl⟩ rfl (Nat.le_of_ble_eq_true rfl) ⟨Nat.le_of_ble_eq_true rfl, Nat.le_of_ble_eq_true rfl⟩ (c2 := 0) (s2 := 0) rfl rfl (c_isPlace hk _) ?_
  refine g_ifB_eq (P := isP p) (tgt := 19) hC dX10_like_9 (by decide) (fun h9 => ?_) (fun h9 => ?_)
  · refine g_iconst hC dX10_like_19 (v := (-1)) (by decide) ?_
    exact g_iret hC hR dX10_like_20 (pE_i (by simp only [s_like]; (repeat' split) <;> first | with_reducible rfl | contradiction | (exfalso; omega) | (rw [bI_t (by first | assumption | omega)]; rfl) | (rw [bI_f (by first | assumption | omega)]; rfl) | (exfalso; rename_i hz; exact absurd hz (by decide)) | (exfalso; rename_i hz; first | exact absurd hz.1 (by assumption) | exact absurd hz.2 (by assumption)) | (exfalso; simp only [Int32.lt_iff_toInt_lt, Int32.le_iff_toInt_le] at *; omega) | (exfalso; simp_all; done) | (simp_all; done) | rfl))
  · obtain ⟨pj, hpj, rfl⟩ := isP_j h9
    have hpl_p : pl (nI pj) = pj := nI_clamp (by omega)
    have h5_p := hI.k5 hpj
    have hw_p := hI.wb hpj
    refine g_iload_n hC dX10_like_12 rfl 2 rfl ?_
    refine g_S (As := [.int q]) (st := []) hC 1 dX10_like_13 gX10_like_X10_isPlace rfl (by decide +kernel) ⟨Nat.le_of_ble_eq_true rfl, Nat.le_of_ble_eq_true rfl⟩ rfl (Nat.le_of_ble_eq_true rfl) ⟨Nat.le_of_ble_eq_true rfl, Nat.le_of_ble_eq_true rfl⟩ (c2 := 0) (s2 := 0) rfl rfl (c_isPlace hk _) ?_
    refine g_ifB_ne (P := isP q) (tgt := 21) hC dX10_like_16 (by decide) (fun h16 => ?_) (fun h16 => ?_)
    · obtain ⟨qj, hqj, rfl⟩ := isP_j h16
      have hpl_q : pl (nI qj) = qj := nI_clamp (by omega)
      have h5_q := hI.k5 hqj
      have hw_q := hI.wb hqj
      refine g_aload_n hC dX10_like_21 rfl 0 rfl (Or.inr ⟨_, rfl⟩) ?_
      refine m_get_2 hC hin (by decide +kernel) dX10_like_22 ?_
      refine g_iload_n hC dX10_like_25 rfl 1 rfl ?_
      refine m_aldN (k := 2) (j := pj) hC hm (by decide) rfl rfl rfl dX10_like_26 (show _ < 10 from (by omega)) ?_
      refine g_ifN_eq (a := kd S pj) (tgt := 39) hC dX10_like_27 (by decide) (by omega) (fun h27 => ?_) (fun h27 => ?_)
      · refine g_aload_n hC dX10_like_39 rfl 0 rfl (Or.inr ⟨_, rfl⟩) ?_
        refine g_iconst hC dX10_like_40 (v := nI 1) (by decide) ?_
        refine g_V (As := [.int (nI 1)]) (st := []) hC 1 dX10_like_41 rfl mL_o mW_o gX10_like_X10_fails rfl (by decide +kernel) ⟨Nat.le_of_ble_eq_true rfl, Nat.le_of_ble_eq_true rfl⟩ rfl (Nat.le_of_ble_eq_true rfl) ⟨Nat.le_of_ble_eq_true rfl, Nat.le_of_ble_eq_true rfl⟩ (c2 := 0) (s2 := 0) rfl rfl (c_fails hk hm 1) ?_
        exact g_iret hC hR dX10_like_44 (pE_i (by simp only [s_like, hpl_p, hpl_q]; (repeat' split) <;> first | with_reducible rfl | contradiction | (exfalso; omega) | (rw [bI_t (by first | assumption | omega)]; rfl) | (rw [bI_f (by first | assumption | omega)]; rfl) | (exfalso; rename_i hz; exact absurd hz (by decide)) | (exfalso; rename_i hz; first | exact absurd hz.1 (by assumption) | exact absurd hz.2 (by assumption)) | (exfalso; simp only [Int32.lt_iff_toInt_lt, Int32.le_iff_toInt_le] at *; omega) | (exfalso; simp_all; done) | (simp_all; done) | rfl))
      · refine g_aload_n hC dX10_like_30 rfl 0 rfl (Or.inr ⟨_, rfl⟩) ?_
        refine m_get_2 hC hin (by decide +kernel) dX10_like_31 ?_
        refine g_iload_n hC dX10_like_34 rfl 2 rfl ?_
        refine m_aldN (k := 2) (j := qj) hC hm (by decide) rfl rfl rfl dX10_like_35 (show _ < 10 from (by omega)) ?_
        refine g_ifN_ne (a := kd S qj) (tgt := 45) hC dX10_like_36 (by decide) (by omega) (fun h36 => ?_) (fun h36 => ?_)
        · refine g_aload_n hC dX10_like_45 rfl 0 rfl (Or.inr ⟨_, rfl⟩) ?_
          refine g_iload_n hC dX10_like_46 rfl 1 rfl ?_
          refine g_V (As := [.int (nI pj)]) (st := []) hC 1 dX10_like_47 rfl mL_o mW_o gX10_like_X10_hasContent rfl (by decide +kernel) ⟨Nat.le_of_ble_eq_true rfl, Nat.le_of_ble_eq_true rfl⟩ rfl (Nat.le_of_ble_eq_true rfl) ⟨Nat.le_of_ble_eq_true rfl, Nat.le_of_ble_eq_true rfl⟩ (c2 := 0) (s2 := 0) rfl rfl (c_hasContent hk hm pj hpj (hI.k5 hpj)) ?_
          refine g_ifB_eq (P := 1 ≤ kd S pj ∧ kd S pj ≤ 2) (tgt := 61) hC dX10_like_50 (by decide) (fun h50 => ?_) (fun h50 => ?_)
          · refine g_aload_n hC dX10_like_61 rfl 0 rfl (Or.inr ⟨_, rfl⟩) ?_
            refine g_iconst hC dX10_like_62 (v := nI 2) (by decide) ?_
            refine g_V (As := [.int (nI 2)]) (st := []) hC 1 dX10_like_63 rfl mL_o mW_o gX10_like_X10_fails rfl (by decide +kernel) ⟨Nat.le_of_ble_eq_true rfl, Nat.le_of_ble_eq_true rfl⟩ rfl (Nat.le_of_ble_eq_true rfl) ⟨Nat.le_of_ble_eq_true rfl, Nat.le_of_ble_eq_true rfl⟩ (c2 := 0) (s2 := 0) rfl rfl (c_fails hk hm 2) ?_
            exact g_iret hC hR dX10_like_66 (pE_i (by simp only [s_like, hpl_p, hpl_q]; (repeat' split) <;> first | with_reducible rfl | contradiction | (exfalso; omega) | (rw [bI_t (by first | assumption | omega)]; rfl) | (rw [bI_f (by first | assumption | omega)]; rfl) | (exfalso; rename_i hz; exact absurd hz (by decide)) | (exfalso; rename_i hz; first | exact absurd hz.1 (by assumption) | exact absurd hz.2 (by assumption)) | (exfalso; simp only [Int32.lt_iff_toInt_lt, Int32.le_iff_toInt_le] at *; omega) | (exfalso; simp_all; done) | (simp_all; done) | rfl))
          · refine g_aload_n hC dX10_like_53 rfl 0 rfl (Or.inr ⟨_, rfl⟩) ?_
            refine g_iload_n hC dX10_like_54 rfl 2 rfl ?_
            refine g_V (As := [.int (nI qj)]) (st := []) hC 1 dX10_like_55 rfl mL_o mW_o gX10_like_X10_hasContent rfl (by decide +kernel) ⟨Nat.le_of_ble_eq_true rfl, Nat.le_of_ble_eq_true rfl⟩ rfl (Nat.le_of_ble_eq_true rfl) ⟨Nat.le_of_ble_eq_true rfl, Nat.le_of_ble_eq_true rfl⟩ (c2 := 0) (s2 := 0) rfl rfl (c_hasContent hk hm qj hqj (hI.k5 hqj)) ?_
            refine g_ifB_ne (P := 1 ≤ kd S qj ∧ kd S qj ≤ 2) (tgt := 67) hC dX10_like_58 (by decide) (fun h58 => ?_) (fun h58 => ?_)
            · have hl_pj := hI.lg hpj (by omega) (by omega)
              have hl_qj := hI.lg hqj (by omega) (by omega)
              have lp : ∀ (m : Nat) (k c : Nat), 17 - k < m → (k ≤ 16) → ((c = 1 ∧ (kd S pj = kd S qj ∧ longS S pj = longS S qj) ∧ ∀ i, i < k → atS S pj i = atS S qj i) ∨ (c = 0 ∧ ¬ likP S pj qj)) → gW X vwCl 5 (mL o ad) (mW o ad cy (aSc S 0 0)) 0 0 104 [(4, .int (nI k)), (3, .int (nI c)), (0, .ref o), (1, .int (nI pj)), (2, .int (nI qj))] [] := by
                intro m
                induction m with
                | zero => intros; omega
                | succ m ih =>
                  intro k c hm9 hk9 hq
                  rcases hq with ⟨rfl, q1, q2⟩ | ⟨rfl, q0⟩
                  · have q3 := q1.2
                    refine g_iload_n hC dX10_like_104 rfl 1 rfl ?_
                    refine g_ifN_eq (a := 1) (tgt := 147) hC dX10_like_105 (by decide) (by omega) (fun h105 => ?_) (fun h105 => ?_)
                    · exfalso; omega
                    · refine g_iload hC dX10_like_108 0 rfl ?_
                      refine g_aload_n hC dX10_like_110 rfl 2 rfl (Or.inr ⟨_, rfl⟩) ?_
                      refine g_iload_n hC dX10_like_111 rfl 3 rfl ?_
                      refine g_V (As := [.int (nI pj)]) (st := [.int (nI k)]) hC 1 dX10_like_112 rfl mL_o mW_o gX10_like_X10_longOf rfl (by decide +kernel) ⟨Nat.le_of_ble_eq_true rfl, Nat.le_of_ble_eq_true rfl⟩ rfl (Nat.le_of_ble_eq_true rfl) ⟨Nat.le_of_ble_eq_true rfl, Nat.le_of_ble_eq_true rfl⟩ (c2 := 0) (s2 := 0) rfl rfl (c_longOf hk hm pj hpj (hI.k5 hpj) (hI.w1 hpj) (hI.w2 hpj)) ?_
                      refine g_icmpN_ge (a := k) (b := longS S pj) (tgt := 147) hC dX10_like_115 (by decide) (by omega) (by omega) (fun h115 => ?_) (fun h115 => ?_)
                      · refine g_iload_n hC dX10_like_147 rfl 1 rfl ?_
                        refine g_ifN_eq (a := 1) (tgt := 155) hC dX10_like_148 (by decide) (by omega) (fun h148 => ?_) (fun h148 => ?_)
                        · exfalso; omega
                        · refine g_iconst hC dX10_like_151 (v := nI 1) (by decide) ?_
                          refine g_goto (tgt := 156) hC dX10_like_152 (by decide) ?_
                          have e9 : bI (likP S pj qj) = nI 1 := by rw [bI_t ⟨q1, fun i hi => q2 i (by omega)⟩]; rfl
                          rw [← e9]
                          exact g_iret hC hR dX10_like_156 (pE_i (by simp only [s_like, hpl_p, hpl_q]; (repeat' split) <;> first | with_reducible rfl | contradiction | (exfalso; omega) | (rw [bI_t (by first | assumption | omega)]; rfl) | (rw [bI_f (by first | assumption | omega)]; rfl) | (exfalso; rename_i hz; exact absurd hz (by decide)) | (exfalso; rename_i hz; first | exact absurd hz.1 (by assumption) | exact absurd hz.2 (by assumption)) | (exfalso; simp only [Int32.lt_iff_toInt_lt, Int32.le_iff_toInt_le] at *; omega) | (exfalso; simp_all; done) | (simp_all; done) | rfl))
                      · refine g_aload_n hC dX10_like_118 rfl 2 rfl (Or.inr ⟨_, rfl⟩) ?_
                        refine g_iload_n hC dX10_like_119 rfl 3 rfl ?_
                        refine g_iload hC dX10_like_120 0 rfl ?_
                        refine g_V (As := [.int (nI pj), .int (nI k)]) (st := []) hC 2 dX10_like_122 rfl mL_o mW_o gX10_like_X10_at rfl (by decide +kernel) ⟨Nat.le_of_ble_eq_true rfl, Nat.le_of_ble_eq_true rfl⟩ rfl (Nat.le_of_ble_eq_true rfl) ⟨Nat.le_of_ble_eq_true rfl, Nat.le_of_ble_eq_true rfl⟩ (c2 := 0) (s2 := 0) rfl rfl (c_at hk hm pj k (by omega) hpj (hI.k5 hpj) (hI.w1 hpj) (hI.w2 hpj)) ?_
                        refine g_aload_n hC dX10_like_125 rfl 2 rfl (Or.inr ⟨_, rfl⟩) ?_
                        refine g_iload_n hC dX10_like_126 rfl 4 rfl ?_
                        refine g_iload hC dX10_like_127 0 rfl ?_
                        refine g_V (As := [.int (nI qj), .int (nI k)]) (st := [.int (atS S pj k)]) hC 2 dX10_like_129 rfl mL_o mW_o gX10_like_X10_at rfl (by decide +kernel) ⟨Nat.le_of_ble_eq_true rfl, Nat.le_of_ble_eq_true rfl⟩ rfl (Nat.le_of_ble_eq_true rfl) ⟨Nat.le_of_ble_eq_true rfl, Nat.le_of_ble_eq_true rfl⟩ (c2 := 0) (s2 := 0) rfl rfl (c_at hk hm qj k (by omega) hqj (hI.k5 hqj) (hI.w1 hqj) (hI.w2 hqj)) ?_
                        refine g_icmp_ne (x := atS S pj k) (y := atS S qj k) (tgt := 139) hC dX10_like_132 (by decide) (fun h132 => ?_) (fun h132 => ?_)
                        · refine g_iconst hC dX10_like_139 (v := nI 0) (by decide) ?_
                          refine g_istore_n (lv' := [(3, .int (nI 0)), (4, .int (nI k)), (0, .ref o), (1, .int (nI pj)), (2, .int (nI qj))]) hC dX10_like_140 rfl (by decide) rfl ?_
                          refine g_iincN (n := 1) (a := k) (lv' := [(4, .int (nI (k + 1))), (3, .int (nI 0)), (0, .ref o), (1, .int (nI pj)), (2, .int (nI qj))]) hC dX10_like_141 1 rfl (by decide) rfl ?_
                          refine g_goto (tgt := 104) hC dX10_like_144 (by decide) ?_
                          exact ih (k + 1) 0 (by omega) (by omega) (Or.inr ⟨rfl, fun q => h132 (q.2 k (by omega))⟩)
                        · refine g_iconst hC dX10_like_135 (v := nI 1) (by decide) ?_
                          refine g_goto (tgt := 140) hC dX10_like_136 (by decide) ?_
                          refine g_istore_n (lv' := [(3, .int (nI 1)), (4, .int (nI k)), (0, .ref o), (1, .int (nI pj)), (2, .int (nI qj))]) hC dX10_like_140 rfl (by decide) rfl ?_
                          refine g_iincN (n := 1) (a := k) (lv' := [(4, .int (nI (k + 1))), (3, .int (nI 1)), (0, .ref o), (1, .int (nI pj)), (2, .int (nI qj))]) hC dX10_like_141 1 rfl (by decide) rfl ?_
                          refine g_goto (tgt := 104) hC dX10_like_144 (by decide) ?_
                          exact ih (k + 1) 1 (by omega) (by omega) (Or.inl ⟨rfl, q1, fun i hi => by rcases Nat.lt_succ_iff_lt_or_eq.mp hi with q | q; exact q2 i q; rw [q]; exact h132⟩)
                  · have q3 := True.intro
                    refine g_iload_n hC dX10_like_104 rfl 1 rfl ?_
                    refine g_ifN_eq (a := 0) (tgt := 147) hC dX10_like_105 (by decide) (by omega) (fun h105 => ?_) (fun h105 => ?_)
                    · refine g_iload_n hC dX10_like_147 rfl 1 rfl ?_
                      refine g_ifN_eq (a := 0) (tgt := 155) hC dX10_like_148 (by decide) (by omega) (fun h148 => ?_) (fun h148 => ?_)
                      · refine g_iconst hC dX10_like_155 (v := nI 0) (by decide) ?_
                        have e9 : bI (likP S pj qj) = nI 0 := by rw [bI_f q0]; rfl
                        rw [← e9]
                        exact g_iret hC hR dX10_like_156 (pE_i (by simp only [s_like, hpl_p, hpl_q]; (repeat' split) <;> first | with_reducible rfl | contradiction | (exfalso; omega) | (rw [bI_t (by first | assumption | omega)]; rfl) | (rw [bI_f (by first | assumption | omega)]; rfl) | (exfalso; rename_i hz; exact absurd hz (by decide)) | (exfalso; rename_i hz; first | exact absurd hz.1 (by assumption) | exact absurd hz.2 (by assumption)) | (exfalso; simp only [Int32.lt_iff_toInt_lt, Int32.le_iff_toInt_le] at *; omega) | (exfalso; simp_all; done) | (simp_all; done) | rfl))
                      · exfalso; omega
                    · exfalso; omega
              refine g_aload_n hC dX10_like_67 rfl 0 rfl (Or.inr ⟨_, rfl⟩) ?_
              refine m_get_2 hC hin (by decide +kernel) dX10_like_68 ?_
              refine g_iload_n hC dX10_like_71 rfl 1 rfl ?_
              refine m_aldN (k := 2) (j := pj) hC hm (by decide) rfl rfl rfl dX10_like_72 (show _ < 10 from (by omega)) ?_
              refine g_aload_n hC dX10_like_73 rfl 0 rfl (Or.inr ⟨_, rfl⟩) ?_
              refine m_get_2 hC hin (by decide +kernel) dX10_like_74 ?_
              refine g_iload_n hC dX10_like_77 rfl 2 rfl ?_
              refine m_aldN (k := 2) (j := qj) hC hm (by decide) rfl rfl rfl dX10_like_78 (show _ < 10 from (by omega)) ?_
              refine g_icmpN_ne (a := kd S pj) (b := kd S qj) (tgt := 99) hC dX10_like_79 (by decide) (by omega) (by omega) (fun h79 => ?_) (fun h79 => ?_)
              · refine g_iconst hC dX10_like_99 (v := nI 0) (by decide) ?_
                refine g_istore_n (lv' := [(3, .int (nI 0)), (0, .ref o), (1, .int (nI pj)), (2, .int (nI qj))]) hC dX10_like_100 rfl (by decide) rfl ?_
                refine g_iconst hC dX10_like_101 (v := nI 0) (by decide) ?_
                refine g_istore (lv' := [(4, .int (nI 0)), (3, .int (nI 0)), (0, .ref o), (1, .int (nI pj)), (2, .int (nI qj))]) hC dX10_like_102 (by decide) rfl ?_
                exact lp 18 0 0 (by omega) (by omega) (Or.inr ⟨rfl, fun q => h79 q.1.1⟩)
              · refine g_aload_n hC dX10_like_82 rfl 0 rfl (Or.inr ⟨_, rfl⟩) ?_
                refine g_iload_n hC dX10_like_83 rfl 1 rfl ?_
                refine g_V (As := [.int (nI pj)]) (st := []) hC 1 dX10_like_84 rfl mL_o mW_o gX10_like_X10_longOf rfl (by decide +kernel) ⟨Nat.le_of_ble_eq_true rfl, Nat.le_of_ble_eq_true rfl⟩ rfl (Nat.le_of_ble_eq_true rfl) ⟨Nat.le_of_ble_eq_true rfl, Nat.le_of_ble_eq_true rfl⟩ (c2 := 0) (s2 := 0) rfl rfl (c_longOf hk hm pj hpj (hI.k5 hpj) (hI.w1 hpj) (hI.w2 hpj)) ?_
                refine g_aload_n hC dX10_like_87 rfl 0 rfl (Or.inr ⟨_, rfl⟩) ?_
                refine g_iload_n hC dX10_like_88 rfl 2 rfl ?_
                refine g_V (As := [.int (nI qj)]) (st := [.int (nI (longS S pj))]) hC 1 dX10_like_89 rfl mL_o mW_o gX10_like_X10_longOf rfl (by decide +kernel) ⟨Nat.le_of_ble_eq_true rfl, Nat.le_of_ble_eq_true rfl⟩ rfl (Nat.le_of_ble_eq_true rfl) ⟨Nat.le_of_ble_eq_true rfl, Nat.le_of_ble_eq_true rfl⟩ (c2 := 0) (s2 := 0) rfl rfl (c_longOf hk hm qj hqj (hI.k5 hqj) (hI.w1 hqj) (hI.w2 hqj)) ?_
                refine g_icmpN_ne (a := longS S pj) (b := longS S qj) (tgt := 99) hC dX10_like_92 (by decide) (by omega) (by omega) (fun h92 => ?_) (fun h92 => ?_)
                · refine g_iconst hC dX10_like_99 (v := nI 0) (by decide) ?_
                  refine g_istore_n (lv' := [(3, .int (nI 0)), (0, .ref o), (1, .int (nI pj)), (2, .int (nI qj))]) hC dX10_like_100 rfl (by decide) rfl ?_
                  refine g_iconst hC dX10_like_101 (v := nI 0) (by decide) ?_
                  refine g_istore (lv' := [(4, .int (nI 0)), (3, .int (nI 0)), (0, .ref o), (1, .int (nI pj)), (2, .int (nI qj))]) hC dX10_like_102 (by decide) rfl ?_
                  exact lp 18 0 0 (by omega) (by omega) (Or.inr ⟨rfl, fun q => h92 q.1.2⟩)
                · refine g_iconst hC dX10_like_95 (v := nI 1) (by decide) ?_
                  refine g_goto (tgt := 100) hC dX10_like_96 (by decide) ?_
                  refine g_istore_n (lv' := [(3, .int (nI 1)), (0, .ref o), (1, .int (nI pj)), (2, .int (nI qj))]) hC dX10_like_100 rfl (by decide) rfl ?_
                  refine g_iconst hC dX10_like_101 (v := nI 0) (by decide) ?_
                  refine g_istore (lv' := [(4, .int (nI 0)), (3, .int (nI 1)), (0, .ref o), (1, .int (nI pj)), (2, .int (nI qj))]) hC dX10_like_102 (by decide) rfl ?_
                  exact lp 18 0 1 (by omega) (by omega) (Or.inl ⟨rfl, ⟨h79, h92⟩, fun i hi => by omega⟩)
            · refine g_aload_n hC dX10_like_61 rfl 0 rfl (Or.inr ⟨_, rfl⟩) ?_
              refine g_iconst hC dX10_like_62 (v := nI 2) (by decide) ?_
              refine g_V (As := [.int (nI 2)]) (st := []) hC 1 dX10_like_63 rfl mL_o mW_o gX10_like_X10_fails rfl (by decide +kernel) ⟨Nat.le_of_ble_eq_true rfl, Nat.le_of_ble_eq_true rfl⟩ rfl (Nat.le_of_ble_eq_true rfl) ⟨Nat.le_of_ble_eq_true rfl, Nat.le_of_ble_eq_true rfl⟩ (c2 := 0) (s2 := 0) rfl rfl (c_fails hk hm 2) ?_
              exact g_iret hC hR dX10_like_66 (pE_i (by simp only [s_like, hpl_p, hpl_q]; (repeat' split) <;> first | with_reducible rfl | contradiction | (exfalso; omega) | (rw [bI_t (by first | assumption | omega)]; rfl) | (rw [bI_f (by first | assumption | omega)]; rfl) | (exfalso; rename_i hz; exact absurd hz (by decide)) | (exfalso; rename_i hz; first | exact absurd hz.1 (by assumption) | exact absurd hz.2 (by assumption)) | (exfalso; simp only [Int32.lt_iff_toInt_lt, Int32.le_iff_toInt_le] at *; omega) | (exfalso; simp_all; done) | (simp_all; done) | rfl))
        · refine g_aload_n hC dX10_like_39 rfl 0 rfl (Or.inr ⟨_, rfl⟩) ?_
          refine g_iconst hC dX10_like_40 (v := nI 1) (by decide) ?_
          refine g_V (As := [.int (nI 1)]) (st := []) hC 1 dX10_like_41 rfl mL_o mW_o gX10_like_X10_fails rfl (by decide +kernel) ⟨Nat.le_of_ble_eq_true rfl, Nat.le_of_ble_eq_true rfl⟩ rfl (Nat.le_of_ble_eq_true rfl) ⟨Nat.le_of_ble_eq_true rfl, Nat.le_of_ble_eq_true rfl⟩ (c2 := 0) (s2 := 0) rfl rfl (c_fails hk hm 1) ?_
          exact g_iret hC hR dX10_like_44 (pE_i (by simp only [s_like, hpl_p, hpl_q]; (repeat' split) <;> first | with_reducible rfl | contradiction | (exfalso; omega) | (rw [bI_t (by first | assumption | omega)]; rfl) | (rw [bI_f (by first | assumption | omega)]; rfl) | (exfalso; rename_i hz; exact absurd hz (by decide)) | (exfalso; rename_i hz; first | exact absurd hz.1 (by assumption) | exact absurd hz.2 (by assumption)) | (exfalso; simp only [Int32.lt_iff_toInt_lt, Int32.le_iff_toInt_le] at *; omega) | (exfalso; simp_all; done) | (simp_all; done) | rfl))
    · refine g_iconst hC dX10_like_19 (v := (-1)) (by decide) ?_
      exact g_iret hC hR dX10_like_20 (pE_i (by simp only [s_like, hpl_p]; (repeat' split) <;> first | with_reducible rfl | contradiction | (exfalso; omega) | (rw [bI_t (by first | assumption | omega)]; rfl) | (rw [bI_f (by first | assumption | omega)]; rfl) | (exfalso; rename_i hz; exact absurd hz (by decide)) | (exfalso; rename_i hz; first | exact absurd hz.1 (by assumption) | exact absurd hz.2 (by assumption)) | (exfalso; simp only [Int32.lt_iff_toInt_lt, Int32.le_iff_toInt_le] at *; omega) | (exfalso; simp_all; done) | (simp_all; done) | rfl))
end M3
