section M3
variable {l : Launch} {D : va_G} {cy : Nat → ClassId} {K : gKt} {o : Nat} {ad : Nat → Nat} {S : aS}
set_option maxRecDepth 20000 in
set_option maxHeartbeats 4000000 in
theorem c_fault (hk : gKok D vwCl (cyT cy) K) (hm : mOk o ad) (hI : aI S) : gCt l D vwCl K yX10_fault wsX10_fault { frames := 0, cells := 0, slots := 0, locals := 0 } [.ref o] (mL o ad) (mW o ad cy S) (pE (some (.int (s_fault S).1)) (mL o ad) (mW o ad cy (s_fault S).2)) := by
  refine gCt.of hk (by decide) rfl rfl (fun X hC hR hnm => ?_)
  have hC : gC X l _ D vwCl (cyT cy) K cX10_fault 1 wsX10_fault RX10 := hC
  have hin : ∀ w ∈ wsX100, w ∈ wsX10_fault := by decide +kernel
  show gW X vwCl 1 (mL o ad) (mW o ad cy S) 0 0 0 [(0, .ref o)] []
  have hnb := hI.nb
  refine g_aload_n hC dX10_fault_0 rfl 0 rfl (Or.inr ⟨_, rfl⟩) ?_
  refine g_iconst hC dX10_fault_1 (v := nI 0) (by decide) ?_
  refine m_put_0 (x := 0) hC hin (by decide +kernel) dX10_fault_2 ?_
  refine g_aload_n hC dX10_fault_5 rfl 0 rfl (Or.inr ⟨_, rfl⟩) ?_
  refine m_get_1 hC hin (by decide +kernel) dX10_fault_6 ?_
  exact g_iret hC hR dX10_fault_9 (pE_i (by simp only [s_fault]; (repeat' split) <;> first | with_reducible rfl | contradiction | (exfalso; omega) | (rw [bI_t (by first | assumption | omega)]; rfl) | (rw [bI_f (by first | assumption | omega)]; rfl) | (exfalso; rename_i hz; exact absurd hz (by decide)) | (exfalso; rename_i hz; first | exact absurd hz.1 (by assumption) | exact absurd hz.2 (by assumption)) | (exfalso; simp only [Int32.lt_iff_toInt_lt, Int32.le_iff_toInt_le] at *; omega) | (exfalso; simp_all; done) | (simp_all; done) | rfl))
set_option maxRecDepth 20000 in
set_option maxHeartbeats 4000000 in
theorem c_kept (hk : gKok D vwCl (cyT cy) K) (hm : mOk o ad) (hI : aI S) : gCt l D vwCl K yX10_kept wsX10_kept { frames := 0, cells := 0, slots := 0, locals := 0 } [.ref o] (mL o ad) (mW o ad cy S) (pE (some (.int (s_kept S).1)) (mL o ad) (mW o ad cy (s_kept S).2)) := by
  refine gCt.of hk (by decide) rfl rfl (fun X hC hR hnm => ?_)
  have hC : gC X l _ D vwCl (cyT cy) K cX10_kept 1 wsX10_kept RX10 := hC
  have hin : ∀ w ∈ wsX100, w ∈ wsX10_kept := by decide +kernel
  show gW X vwCl 1 (mL o ad) (mW o ad cy S) 0 0 0 [(0, .ref o)] []
  have hnb := hI.nb
  refine g_aload_n hC dX10_kept_0 rfl 0 rfl (Or.inr ⟨_, rfl⟩) ?_
  refine g_iconst hC dX10_kept_1 (v := nI 0) (by decide) ?_
  refine m_put_0 (x := 0) hC hin (by decide +kernel) dX10_kept_2 ?_
  refine g_aload_n hC dX10_kept_5 rfl 0 rfl (Or.inr ⟨_, rfl⟩) ?_
  refine m_get_21 hC hin (by decide +kernel) dX10_kept_6 ?_
  exact g_iret hC hR dX10_kept_9 (pE_i (by simp only [s_kept]; (repeat' split) <;> first | with_reducible rfl | contradiction | (exfalso; omega) | (rw [bI_t (by first | assumption | omega)]; rfl) | (rw [bI_f (by first | assumption | omega)]; rfl) | (exfalso; rename_i hz; exact absurd hz (by decide)) | (exfalso; rename_i hz; first | exact absurd hz.1 (by assumption) | exact absurd hz.2 (by assumption)) | (exfalso; simp only [Int32.lt_iff_toInt_lt, Int32.le_iff_toInt_le] at *; omega) | (exfalso; simp_all; done) | (simp_all; done) | rfl))
set_option maxRecDepth 20000 in
set_option maxHeartbeats 4000000 in
theorem c_move (hk : gKok D vwCl (cyT cy) K) (hm : mOk o ad) (hI : aI S) (p : Int32) (q : Int32) : gCt l D vwCl K yX10_move wsX10_move { frames := 2, cells := 0, slots := 0, locals := 42 } [.ref o, .int p, .int q] (mL o ad) (mW o ad cy S) (pE (some (.int (s_move S p q).1)) (mL o ad) (mW o ad cy (s_move S p q).2)) := by
  refine gCt.of hk (by decide) rfl rfl (fun X hC hR hnm => ?_)
  have hC : gC X l _ D vwCl (cyT cy) K cX10_move 3 wsX10_move RX10 := hC
  have hin : ∀ w ∈ wsX100, w ∈ wsX10_move := by decide +kernel
  show gW X vwCl 3 (mL o ad) (mW o ad cy S) 0 0 0 [(0, .ref o), (1, .int p), (2, .int q)] []
  have hnb := hI.nb
  refine g_aload_n hC dX10_move_0 rfl 0 rfl (Or.inr ⟨_, rfl⟩) ?_
  refine g_iconst hC dX10_move_1 (v := nI 0) (by decide) ?_
  refine m_put_0 (x := 0) hC hin (by decide +kernel) dX10_move_2 ?_
  refine g_iload_n hC dX10_move_5 rfl 1 rfl ?_
  refine g_S (As := [.int p]) (st := []) hC 1 dX10_move_6 gX10_move_X10_isPlace rfl (by decide +kernel) ⟨Nat.le_of_ble_eq_true rfl, Nat.le_of_ble_eq_true rfl⟩ rfl (Nat.le_of_ble_eq_true rfl) ⟨Nat.le_of_ble_eq_true rfl, Nat.le_of_ble_eq_true rfl⟩ (c2 := 0) (s2 := 0) rfl rfl (c_isPlace hk _) ?_
  refine g_ifB_eq (P := isP p) (tgt := 24) hC dX10_move_9 (by decide) (fun h9 => ?_) (fun h9 => ?_)
  · refine g_iconst hC dX10_move_24 (v := (-1)) (by decide) ?_
    exact g_iret hC hR dX10_move_25 (pE_i (by simp only [s_move]; (repeat' split) <;> first | with_reducible rfl | contradiction | (exfalso; omega) | (rw [bI_t (by first | assumption | omega)]; rfl) | (rw [bI_f (by first | assumption | omega)]; rfl) | (exfalso; rename_i hz; exact absurd hz (by decide)) | (exfalso; rename_i hz; first | exact absurd hz.1 (by assumption) | exact absurd hz.2 (by assumption)) | (exfalso; simp only [Int32.lt_iff_toInt_lt, Int32.le_iff_toInt_le] at *; omega) | (exfalso; simp_all; done) | (simp_all; done) | rfl))
  · obtain ⟨pj, hpj, rfl⟩ := isP_j h9
    have hpl_p : pl (nI pj) = pj := nI_clamp (by omega)
    have h5_p := hI.k5 hpj
    have hw_p := hI.wb hpj
    refine g_iload_n hC dX10_move_12 rfl 2 rfl ?_
    refine g_iconst hC dX10_move_13 (v := (-1)) (by decide) ?_
    refine g_icmp_eq (x := q) (y := (-1)) (tgt := 26) hC dX10_move_14 (by decide) (fun h14 => ?_) (fun h14 => ?_)
    · refine g_iload_n hC dX10_move_26 rfl 2 rfl ?_
      refine g_iconst hC dX10_move_27 (v := (-1)) (by decide) ?_
      refine g_icmp_ne (x := q) (y := (-1)) (tgt := 41) hC dX10_move_28 (by decide) (fun h28 => ?_) (fun h28 => ?_)
      · exact absurd h14 h28
      · refine g_aload_n hC dX10_move_31 rfl 0 rfl (Or.inr ⟨_, rfl⟩) ?_
        refine g_iload_n hC dX10_move_32 rfl 1 rfl ?_
        refine g_iconst hC dX10_move_33 (v := nI 0) (by decide) ?_
        refine g_iconst hC dX10_move_34 (v := nI 0) (by decide) ?_
        refine g_Vv (As := [.int (nI pj), .int (nI 0), .int (nI 0)]) (st := []) hC 3 dX10_move_35 rfl mL_o mW_o gX10_move_X10_hold rfl (by decide +kernel) ⟨Nat.le_of_ble_eq_true rfl, Nat.le_of_ble_eq_true rfl⟩ rfl (Nat.le_of_ble_eq_true rfl) ⟨Nat.le_of_ble_eq_true rfl, Nat.le_of_ble_eq_true rfl⟩ (c2 := 0) (s2 := 0) rfl rfl (c_hold hk hm pj 0 0 (by omega)) ?_
        refine g_goto (tgt := 58) hC dX10_move_38 (by decide) ?_
        refine g_aload_n hC dX10_move_58 rfl 0 rfl (Or.inr ⟨_, rfl⟩) ?_
        refine m_get_2 hC hin (by decide +kernel) dX10_move_59 ?_
        refine g_iload_n hC dX10_move_62 rfl 1 rfl ?_
        refine m_aldN (k := 2) (j := pj) hC hm (by decide) rfl rfl rfl dX10_move_63 (show _ < 10 from (by omega)) ?_
        refine g_val (w := .int (nI 0)) (by simp [aSc, aN, aW, aNr, aWr, va_up]) ?_
        exact g_iret hC hR dX10_move_64 (pE_i (by simp only [s_move, hpl_p]; (repeat' split) <;> first | with_reducible rfl | contradiction | (exfalso; omega) | (rw [bI_t (by first | assumption | omega)]; rfl) | (rw [bI_f (by first | assumption | omega)]; rfl) | (exfalso; rename_i hz; exact absurd hz (by decide)) | (exfalso; rename_i hz; first | exact absurd hz.1 (by assumption) | exact absurd hz.2 (by assumption)) | (exfalso; simp only [Int32.lt_iff_toInt_lt, Int32.le_iff_toInt_le] at *; omega) | (exfalso; simp_all; done) | (simp_all; done) | rfl))
    · refine g_iload_n hC dX10_move_17 rfl 2 rfl ?_
      refine g_S (As := [.int q]) (st := []) hC 1 dX10_move_18 gX10_move_X10_isPlace rfl (by decide +kernel) ⟨Nat.le_of_ble_eq_true rfl, Nat.le_of_ble_eq_true rfl⟩ rfl (Nat.le_of_ble_eq_true rfl) ⟨Nat.le_of_ble_eq_true rfl, Nat.le_of_ble_eq_true rfl⟩ (c2 := 0) (s2 := 0) rfl rfl (c_isPlace hk _) ?_
      refine g_ifB_ne (P := isP q) (tgt := 26) hC dX10_move_21 (by decide) (fun h21 => ?_) (fun h21 => ?_)
      · obtain ⟨qj, hqj, rfl⟩ := isP_j h21
        have hpl_q : pl (nI qj) = qj := nI_clamp (by omega)
        have h5_q := hI.k5 hqj
        have hw_q := hI.wb hqj
        refine g_iload_n hC dX10_move_26 rfl 2 rfl ?_
        refine g_iconst hC dX10_move_27 (v := (-1)) (by decide) ?_
        refine g_icmp_ne (x := nI qj) (y := (-1)) (tgt := 41) hC dX10_move_28 (by decide) (fun h28 => ?_) (fun h28 => ?_)
        · refine g_aload_n hC dX10_move_41 rfl 0 rfl (Or.inr ⟨_, rfl⟩) ?_
          refine g_iload_n hC dX10_move_42 rfl 1 rfl ?_
          refine g_aload_n hC dX10_move_43 rfl 0 rfl (Or.inr ⟨_, rfl⟩) ?_
          refine m_get_2 hC hin (by decide +kernel) dX10_move_44 ?_
          refine g_iload_n hC dX10_move_47 rfl 2 rfl ?_
          refine m_aldN (k := 2) (j := qj) hC hm (by decide) rfl rfl rfl dX10_move_48 (show _ < 10 from (by omega)) ?_
          refine g_aload_n hC dX10_move_49 rfl 0 rfl (Or.inr ⟨_, rfl⟩) ?_
          refine m_get_3 hC hin (by decide +kernel) dX10_move_50 ?_
          refine g_iload_n hC dX10_move_53 rfl 2 rfl ?_
          refine m_aldN (k := 3) (j := qj) hC hm (by decide) rfl rfl rfl dX10_move_54 (show _ < 10 from (by omega)) ?_
          refine g_Vv (As := [.int (nI pj), .int (nI (kd S qj)), .int (nI (wh S qj))]) (st := []) hC 3 dX10_move_55 rfl mL_o mW_o gX10_move_X10_hold rfl (by decide +kernel) ⟨Nat.le_of_ble_eq_true rfl, Nat.le_of_ble_eq_true rfl⟩ rfl (Nat.le_of_ble_eq_true rfl) ⟨Nat.le_of_ble_eq_true rfl, Nat.le_of_ble_eq_true rfl⟩ (c2 := 0) (s2 := 0) rfl rfl (c_hold hk hm pj (kd S qj) (wh S qj) (by omega)) ?_
          refine g_aload_n hC dX10_move_58 rfl 0 rfl (Or.inr ⟨_, rfl⟩) ?_
          refine m_get_2 hC hin (by decide +kernel) dX10_move_59 ?_
          refine g_iload_n hC dX10_move_62 rfl 1 rfl ?_
          refine m_aldN (k := 2) (j := pj) hC hm (by decide) rfl rfl rfl dX10_move_63 (show _ < 10 from (by omega)) ?_
          refine g_val (w := .int (nI (kd S qj))) (by simp [aSc, aN, aW, aNr, aWr, va_up]) ?_
          exact g_iret hC hR dX10_move_64 (pE_i (by simp only [s_move, hpl_p, hpl_q]; (repeat' split) <;> first | with_reducible rfl | contradiction | (exfalso; omega) | (rw [bI_t (by first | assumption | omega)]; rfl) | (rw [bI_f (by first | assumption | omega)]; rfl) | (exfalso; rename_i hz; exact absurd hz (by decide)) | (exfalso; rename_i hz; first | exact absurd hz.1 (by assumption) | exact absurd hz.2 (by assumption)) | (exfalso; simp only [Int32.lt_iff_toInt_lt, Int32.le_iff_toInt_le] at *; omega) | (exfalso; simp_all; done) | (simp_all; done) | rfl))
        · refine g_aload_n hC dX10_move_31 rfl 0 rfl (Or.inr ⟨_, rfl⟩) ?_
          refine g_iload_n hC dX10_move_32 rfl 1 rfl ?_
          refine g_iconst hC dX10_move_33 (v := nI 0) (by decide) ?_
          refine g_iconst hC dX10_move_34 (v := nI 0) (by decide) ?_
          refine g_Vv (As := [.int (nI pj), .int (nI 0), .int (nI 0)]) (st := []) hC 3 dX10_move_35 rfl mL_o mW_o gX10_move_X10_hold rfl (by decide +kernel) ⟨Nat.le_of_ble_eq_true rfl, Nat.le_of_ble_eq_true rfl⟩ rfl (Nat.le_of_ble_eq_true rfl) ⟨Nat.le_of_ble_eq_true rfl, Nat.le_of_ble_eq_true rfl⟩ (c2 := 0) (s2 := 0) rfl rfl (c_hold hk hm pj 0 0 (by omega)) ?_
          refine g_goto (tgt := 58) hC dX10_move_38 (by decide) ?_
          refine g_aload_n hC dX10_move_58 rfl 0 rfl (Or.inr ⟨_, rfl⟩) ?_
          refine m_get_2 hC hin (by decide +kernel) dX10_move_59 ?_
          refine g_iload_n hC dX10_move_62 rfl 1 rfl ?_
          refine m_aldN (k := 2) (j := pj) hC hm (by decide) rfl rfl rfl dX10_move_63 (show _ < 10 from (by omega)) ?_
          refine g_val (w := .int (nI 0)) (by simp [aSc, aN, aW, aNr, aWr, va_up]) ?_
          exact g_iret hC hR dX10_move_64 (pE_i (by simp only [s_move, hpl_p, hpl_q]; (repeat' split) <;> first | with_reducible rfl | contradiction | (exfalso; omega) | (rw [bI_t (by first | assumption | omega)]; rfl) | (rw [bI_f (by first | assumption | omega)]; rfl) | (exfalso; rename_i hz; exact absurd hz (by decide)) | (exfalso; rename_i hz; first | exact absurd hz.1 (by assumption) | exact absurd hz.2 (by assumption)) | (exfalso; simp only [Int32.lt_iff_toInt_lt, Int32.le_iff_toInt_le] at *; omega) | (exfalso; simp_all; done) | (simp_all; done) | rfl))
      · refine g_iconst hC dX10_move_24 (v := (-1)) (by decide) ?_
        exact g_iret hC hR dX10_move_25 (pE_i (by simp only [s_move, hpl_p]; (repeat' split) <;> first | with_reducible rfl | contradiction | (exfalso; omega) | (rw [bI_t (by first | assumption | omega)]; rfl) | (rw [bI_f (by first | assumption | omega)]; rfl) | (exfalso; rename_i hz; exact absurd hz (by decide)) | (exfalso; rename_i hz; first | exact absurd hz.1 (by assumption) | exact absurd hz.2 (by assumption)) | (exfalso; simp only [Int32.lt_iff_toInt_lt, Int32.le_iff_toInt_le] at *; omega) | (exfalso; simp_all; done) | (simp_all; done) | rfl))
set_option maxRecDepth 20000 in
set_option maxHeartbeats 4000000 in
theorem c_held (hk : gKok D vwCl (cyT cy) K) (hm : mOk o ad) (hI : aI S) (p : Int32) (v : Int32) : gCt l D vwCl K yX10_held wsX10_held { frames := 2, cells := 0, slots := 0, locals := 42 } [.ref o, .int p, .int v] (mL o ad) (mW o ad cy S) (pE (some (.int (s_held S p v).1)) (mL o ad) (mW o ad cy (s_held S p v).2)) := by
  refine gCt.of hk (by decide) rfl rfl (fun X hC hR hnm => ?_)
  have hC : gC X l _ D vwCl (cyT cy) K cX10_held 3 wsX10_held RX10 := hC
  have hin : ∀ w ∈ wsX100, w ∈ wsX10_held := by decide +kernel
  show gW X vwCl 3 (mL o ad) (mW o ad cy S) 0 0 0 [(0, .ref o), (1, .int p), (2, .int v)] []
  have hnb := hI.nb
  refine g_aload_n hC dX10_held_0 rfl 0 rfl (Or.inr ⟨_, rfl⟩) ?_
  refine g_iconst hC dX10_held_1 (v := nI 0) (by decide) ?_
  refine m_put_0 (x := 0) hC hin (by decide +kernel) dX10_held_2 ?_
  refine g_iload_n hC dX10_held_5 rfl 1 rfl ?_
  refine g_S (As := [.int p]) (st := []) hC 1 dX10_held_6 gX10_held_X10_isPlace rfl (by decide +kernel) ⟨Nat.le_of_ble_eq_true rfl, Nat.le_of_ble_eq_true rfl⟩ rfl (Nat.le_of_ble_eq_true rfl) ⟨Nat.le_of_ble_eq_true rfl, Nat.le_of_ble_eq_true rfl⟩ (c2 := 0) (s2 := 0) rfl rfl (c_isPlace hk _) ?_
  refine g_ifB_ne (P := isP p) (tgt := 14) hC dX10_held_9 (by decide) (fun h9 => ?_) (fun h9 => ?_)
  · obtain ⟨pj, hpj, rfl⟩ := isP_j h9
    have hpl_p : pl (nI pj) = pj := nI_clamp (by omega)
    have h5_p := hI.k5 hpj
    have hw_p := hI.wb hpj
    refine g_iload_n hC dX10_held_14 rfl 2 rfl ?_
    refine g_iconst hC dX10_held_15 (v := nI 0) (by decide) ?_
    refine g_iconst hC dX10_held_16 (v := nI 5) (by decide) ?_
    refine g_S (As := [.int v, .int (nI 0), .int (nI 5)]) (st := []) hC 3 dX10_held_17 gX10_held_X10_in rfl (by decide +kernel) ⟨Nat.le_of_ble_eq_true rfl, Nat.le_of_ble_eq_true rfl⟩ rfl (Nat.le_of_ble_eq_true rfl) ⟨Nat.le_of_ble_eq_true rfl, Nat.le_of_ble_eq_true rfl⟩ (c2 := 0) (s2 := 0) rfl rfl (c_in hk _ _ _) ?_
    refine g_ifB_ne (P := nI 0 ≤ v ∧ v ≤ nI 5) (tgt := 26) hC dX10_held_20 (by decide) (fun h20 => ?_) (fun h20 => ?_)
    · obtain ⟨vj, hv1, hv2, rfl⟩ := ty_j (lo := 0) (hi := 5) (by decide) h20 (by decide)
      rcases (show vj = 0 ∨ vj = 1 ∨ vj = 2 ∨ vj = 3 ∨ vj = 4 ∨ vj = 5 by omega) with rfl | rfl | rfl | rfl | rfl | rfl
      · have hpl_v : pl (nI 0) = 0 := by decide
        refine g_iload_n hC dX10_held_26 rfl 2 rfl ?_
        refine g_ifN_ne (a := 0) (tgt := 39) hC dX10_held_27 (by decide) (by omega) (fun h27 => ?_) (fun h27 => ?_)
        · exfalso; omega
        · refine g_aload_n hC dX10_held_30 rfl 0 rfl (Or.inr ⟨_, rfl⟩) ?_
          refine m_get_2 hC hin (by decide +kernel) dX10_held_31 ?_
          refine g_iload_n hC dX10_held_34 rfl 1 rfl ?_
          refine m_aldN (k := 2) (j := pj) hC hm (by decide) rfl rfl rfl dX10_held_35 (show _ < 10 from (by omega)) ?_
          refine g_goto (tgt := 53) hC dX10_held_36 (by decide) ?_
          exact g_iret hC hR dX10_held_53 (pE_i (by simp only [s_held, hpl_p, hpl_v]; (repeat' split) <;> first | with_reducible rfl | contradiction | (exfalso; omega) | (rw [bI_t (by first | assumption | omega)]; rfl) | (rw [bI_f (by first | assumption | omega)]; rfl) | (exfalso; rename_i hz; exact absurd hz (by decide)) | (exfalso; rename_i hz; first | exact absurd hz.1 (by assumption) | exact absurd hz.2 (by assumption)) | (exfalso; simp only [Int32.lt_iff_toInt_lt, Int32.le_iff_toInt_le] at *; omega) | (exfalso; simp_all; done) | (simp_all; done) | rfl))
      · have hpl_v : pl (nI 1) = 1 := by decide
        refine g_iload_n hC dX10_held_26 rfl 2 rfl ?_
        refine g_ifN_ne (a := 1) (tgt := 39) hC dX10_held_27 (by decide) (by omega) (fun h27 => ?_) (fun h27 => ?_)
        · refine g_aload_n hC dX10_held_39 rfl 0 rfl (Or.inr ⟨_, rfl⟩) ?_
          refine g_iload_n hC dX10_held_40 rfl 1 rfl ?_
          refine g_iload_n hC dX10_held_41 rfl 2 rfl ?_
          refine g_V (As := [.int (nI pj), .int (nI 1)]) (st := []) hC 2 dX10_held_42 rfl mL_o mW_o gX10_held_X10_isOf rfl (by decide +kernel) ⟨Nat.le_of_ble_eq_true rfl, Nat.le_of_ble_eq_true rfl⟩ rfl (Nat.le_of_ble_eq_true rfl) ⟨Nat.le_of_ble_eq_true rfl, Nat.le_of_ble_eq_true rfl⟩ (c2 := 0) (s2 := 0) rfl rfl (c_isOf hk hm pj 1 (by omega) hpj (hI.k5 hpj)) ?_
          refine g_ifB_eq (P := isO S pj 1) (tgt := 52) hC dX10_held_45 (by decide) (fun h45 => ?_) (fun h45 => ?_)
          · refine g_iconst hC dX10_held_52 (v := nI 0) (by decide) ?_
            exact g_iret hC hR dX10_held_53 (pE_i (by simp only [s_held, hpl_p, hpl_v]; (repeat' split) <;> first | with_reducible rfl | contradiction | (exfalso; omega) | (rw [bI_t (by first | assumption | omega)]; rfl) | (rw [bI_f (by first | assumption | omega)]; rfl) | (exfalso; rename_i hz; exact absurd hz (by decide)) | (exfalso; rename_i hz; first | exact absurd hz.1 (by assumption) | exact absurd hz.2 (by assumption)) | (exfalso; simp only [Int32.lt_iff_toInt_lt, Int32.le_iff_toInt_le] at *; omega) | (exfalso; simp_all; done) | (simp_all; done) | rfl))
          · refine g_iconst hC dX10_held_48 (v := nI 1) (by decide) ?_
            refine g_goto (tgt := 53) hC dX10_held_49 (by decide) ?_
            exact g_iret hC hR dX10_held_53 (pE_i (by simp only [s_held, hpl_p, hpl_v]; (repeat' split) <;> first | with_reducible rfl | contradiction | (exfalso; omega) | (rw [bI_t (by first | assumption | omega)]; rfl) | (rw [bI_f (by first | assumption | omega)]; rfl) | (exfalso; rename_i hz; exact absurd hz (by decide)) | (exfalso; rename_i hz; first | exact absurd hz.1 (by assumption) | exact absurd hz.2 (by assumption)) | (exfalso; simp only [Int32.lt_iff_toInt_lt, Int32.le_iff_toInt_le] at *; omega) | (exfalso; simp_all; done) | (simp_all; done) | rfl))
        · exfalso; omega
      · have hpl_v : pl (nI 2) = 2 := by decide
        refine g_iload_n hC dX10_held_26 rfl 2 rfl ?_
        refine g_ifN_ne (a := 2) (tgt := 39) hC dX10_held_27 (by decide) (by omega) (fun h27 => ?_) (fun h27 => ?_)
        · refine g_aload_n hC dX10_held_39 rfl 0 rfl (Or.inr ⟨_, rfl⟩) ?_
          refine g_iload_n hC dX10_held_40 rfl 1 rfl ?_
          refine g_iload_n hC dX10_held_41 rfl 2 rfl ?_
          refine g_V (As := [.int (nI pj), .int (nI 2)]) (st := []) hC 2 dX10_held_42 rfl mL_o mW_o gX10_held_X10_isOf rfl (by decide +kernel) ⟨Nat.le_of_ble_eq_true rfl, Nat.le_of_ble_eq_true rfl⟩ rfl (Nat.le_of_ble_eq_true rfl) ⟨Nat.le_of_ble_eq_true rfl, Nat.le_of_ble_eq_true rfl⟩ (c2 := 0) (s2 := 0) rfl rfl (c_isOf hk hm pj 2 (by omega) hpj (hI.k5 hpj)) ?_
          refine g_ifB_eq (P := isO S pj 2) (tgt := 52) hC dX10_held_45 (by decide) (fun h45 => ?_) (fun h45 => ?_)
          · refine g_iconst hC dX10_held_52 (v := nI 0) (by decide) ?_
            exact g_iret hC hR dX10_held_53 (pE_i (by simp only [s_held, hpl_p, hpl_v]; (repeat' split) <;> first | with_reducible rfl | contradiction | (exfalso; omega) | (rw [bI_t (by first | assumption | omega)]; rfl) | (rw [bI_f (by first | assumption | omega)]; rfl) | (exfalso; rename_i hz; exact absurd hz (by decide)) | (exfalso; rename_i hz; first | exact absurd hz.1 (by assumption) | exact absurd hz.2 (by assumption)) | (exfalso; simp only [Int32.lt_iff_toInt_lt, Int32.le_iff_toInt_le] at *; omega) | (exfalso; simp_all; done) | (simp_all; done) | rfl))
          · refine g_iconst hC dX10_held_48 (v := nI 1) (by decide) ?_
            refine g_goto (tgt := 53) hC dX10_held_49 (by decide) ?_
            exact g_iret hC hR dX10_held_53 (pE_i (by simp only [s_held, hpl_p, hpl_v]; (repeat' split) <;> first | with_reducible rfl | contradiction | (exfalso; omega) | (rw [bI_t (by first | assumption | omega)]; rfl) | (rw [bI_f (by first | assumption | omega)]; rfl) | (exfalso; rename_i hz; exact absurd hz (by decide)) | (exfalso; rename_i hz; first | exact absurd hz.1 (by assumption) | exact absurd hz.2 (by assumption)) | (exfalso; simp only [Int32.lt_iff_toInt_lt, Int32.le_iff_toInt_le] at *; omega) | (exfalso; simp_all; done) | (simp_all; done) | rfl))
        · exfalso; omega
      · have hpl_v : pl (nI 3) = 3 := by decide
        refine g_iload_n hC dX10_held_26 rfl 2 rfl ?_
        refine g_ifN_ne (a := 3) (tgt := 39) hC dX10_held_27 (by decide) (by omega) (fun h27 => ?_) (fun h27 => ?_)
        · refine g_aload_n hC dX10_held_39 rfl 0 rfl (Or.inr ⟨_, rfl⟩) ?_
          refine g_iload_n hC dX10_held_40 rfl 1 rfl ?_
          refine g_iload_n hC dX10_held_41 rfl 2 rfl ?_
          refine g_V (As := [.int (nI pj), .int (nI 3)]) (st := []) hC 2 dX10_held_42 rfl mL_o mW_o gX10_held_X10_isOf rfl (by decide +kernel) ⟨Nat.le_of_ble_eq_true rfl, Nat.le_of_ble_eq_true rfl⟩ rfl (Nat.le_of_ble_eq_true rfl) ⟨Nat.le_of_ble_eq_true rfl, Nat.le_of_ble_eq_true rfl⟩ (c2 := 0) (s2 := 0) rfl rfl (c_isOf hk hm pj 3 (by omega) hpj (hI.k5 hpj)) ?_
          refine g_ifB_eq (P := isO S pj 3) (tgt := 52) hC dX10_held_45 (by decide) (fun h45 => ?_) (fun h45 => ?_)
          · refine g_iconst hC dX10_held_52 (v := nI 0) (by decide) ?_
            exact g_iret hC hR dX10_held_53 (pE_i (by simp only [s_held, hpl_p, hpl_v]; (repeat' split) <;> first | with_reducible rfl | contradiction | (exfalso; omega) | (rw [bI_t (by first | assumption | omega)]; rfl) | (rw [bI_f (by first | assumption | omega)]; rfl) | (exfalso; rename_i hz; exact absurd hz (by decide)) | (exfalso; rename_i hz; first | exact absurd hz.1 (by assumption) | exact absurd hz.2 (by assumption)) | (exfalso; simp only [Int32.lt_iff_toInt_lt, Int32.le_iff_toInt_le] at *; omega) | (exfalso; simp_all; done) | (simp_all; done) | rfl))
          · refine g_iconst hC dX10_held_48 (v := nI 1) (by decide) ?_
            refine g_goto (tgt := 53) hC dX10_held_49 (by decide) ?_
            exact g_iret hC hR dX10_held_53 (pE_i (by simp only [s_held, hpl_p, hpl_v]; (repeat' split) <;> first | with_reducible rfl | contradiction | (exfalso; omega) | (rw [bI_t (by first | assumption | omega)]; rfl) | (rw [bI_f (by first | assumption | omega)]; rfl) | (exfalso; rename_i hz; exact absurd hz (by decide)) | (exfalso; rename_i hz; first | exact absurd hz.1 (by assumption) | exact absurd hz.2 (by assumption)) | (exfalso; simp only [Int32.lt_iff_toInt_lt, Int32.le_iff_toInt_le] at *; omega) | (exfalso; simp_all; done) | (simp_all; done) | rfl))
        · exfalso; omega
      · have hpl_v : pl (nI 4) = 4 := by decide
        refine g_iload_n hC dX10_held_26 rfl 2 rfl ?_
        refine g_ifN_ne (a := 4) (tgt := 39) hC dX10_held_27 (by decide) (by omega) (fun h27 => ?_) (fun h27 => ?_)
        · refine g_aload_n hC dX10_held_39 rfl 0 rfl (Or.inr ⟨_, rfl⟩) ?_
          refine g_iload_n hC dX10_held_40 rfl 1 rfl ?_
          refine g_iload_n hC dX10_held_41 rfl 2 rfl ?_
          refine g_V (As := [.int (nI pj), .int (nI 4)]) (st := []) hC 2 dX10_held_42 rfl mL_o mW_o gX10_held_X10_isOf rfl (by decide +kernel) ⟨Nat.le_of_ble_eq_true rfl, Nat.le_of_ble_eq_true rfl⟩ rfl (Nat.le_of_ble_eq_true rfl) ⟨Nat.le_of_ble_eq_true rfl, Nat.le_of_ble_eq_true rfl⟩ (c2 := 0) (s2 := 0) rfl rfl (c_isOf hk hm pj 4 (by omega) hpj (hI.k5 hpj)) ?_
          refine g_ifB_eq (P := isO S pj 4) (tgt := 52) hC dX10_held_45 (by decide) (fun h45 => ?_) (fun h45 => ?_)
          · refine g_iconst hC dX10_held_52 (v := nI 0) (by decide) ?_
            exact g_iret hC hR dX10_held_53 (pE_i (by simp only [s_held, hpl_p, hpl_v]; (repeat' split) <;> first | with_reducible rfl | contradiction | (exfalso; omega) | (rw [bI_t (by first | assumption | omega)]; rfl) | (rw [bI_f (by first | assumption | omega)]; rfl) | (exfalso; rename_i hz; exact absurd hz (by decide)) | (exfalso; rename_i hz; first | exact absurd hz.1 (by assumption) | exact absurd hz.2 (by assumption)) | (exfalso; simp only [Int32.lt_iff_toInt_lt, Int32.le_iff_toInt_le] at *; omega) | (exfalso; simp_all; done) | (simp_all; done) | rfl))
          · refine g_iconst hC dX10_held_48 (v := nI 1) (by decide) ?_
            refine g_goto (tgt := 53) hC dX10_held_49 (by decide) ?_
            exact g_iret hC hR dX10_held_53 (pE_i (by simp only [s_held, hpl_p, hpl_v]; (repeat' split) <;> first | with_reducible rfl | contradiction | (exfalso; omega) | (rw [bI_t (by first | assumption | omega)]; rfl) | (rw [bI_f (by first | assumption | omega)]; rfl) | (exfalso; rename_i hz; exact absurd hz (by decide)) | (exfalso; rename_i hz; first | exact absurd hz.1 (by assumption) | exact absurd hz.2 (by assumption)) | (exfalso; simp only [Int32.lt_iff_toInt_lt, Int32.le_iff_toInt_le] at *; omega) | (exfalso; simp_all; done) | (simp_all; done) | rfl))
        · exfalso; omega
      · have hpl_v : pl (nI 5) = 5 := by decide
        refine g_iload_n hC dX10_held_26 rfl 2 rfl ?_
        refine g_ifN_ne (a := 5) (tgt := 39) hC dX10_held_27 (by decide) (by omega) (fun h27 => ?_) (fun h27 => ?_)
        · refine g_aload_n hC dX10_held_39 rfl 0 rfl (Or.inr ⟨_, rfl⟩) ?_
          refine g_iload_n hC dX10_held_40 rfl 1 rfl ?_
          refine g_iload_n hC dX10_held_41 rfl 2 rfl ?_
          refine g_V (As := [.int (nI pj), .int (nI 5)]) (st := []) hC 2 dX10_held_42 rfl mL_o mW_o gX10_held_X10_isOf rfl (by decide +kernel) ⟨Nat.le_of_ble_eq_true rfl, Nat.le_of_ble_eq_true rfl⟩ rfl (Nat.le_of_ble_eq_true rfl) ⟨Nat.le_of_ble_eq_true rfl, Nat.le_of_ble_eq_true rfl⟩ (c2 := 0) (s2 := 0) rfl rfl (c_isOf hk hm pj 5 (by omega) hpj (hI.k5 hpj)) ?_
          refine g_ifB_eq (P := isO S pj 5) (tgt := 52) hC dX10_held_45 (by decide) (fun h45 => ?_) (fun h45 => ?_)
          · refine g_iconst hC dX10_held_52 (v := nI 0) (by decide) ?_
            exact g_iret hC hR dX10_held_53 (pE_i (by simp only [s_held, hpl_p, hpl_v]; (repeat' split) <;> first | with_reducible rfl | contradiction | (exfalso; omega) | (rw [bI_t (by first | assumption | omega)]; rfl) | (rw [bI_f (by first | assumption | omega)]; rfl) | (exfalso; rename_i hz; exact absurd hz (by decide)) | (exfalso; rename_i hz; first | exact absurd hz.1 (by assumption) | exact absurd hz.2 (by assumption)) | (exfalso; simp only [Int32.lt_iff_toInt_lt, Int32.le_iff_toInt_le] at *; omega) | (exfalso; simp_all; done) | (simp_all; done) | rfl))
          · refine g_iconst hC dX10_held_48 (v := nI 1) (by decide) ?_
            refine g_goto (tgt := 53) hC dX10_held_49 (by decide) ?_
            exact g_iret hC hR dX10_held_53 (pE_i (by simp only [s_held, hpl_p, hpl_v]; (repeat' split) <;> first | with_reducible rfl | contradiction | (exfalso; omega) | (rw [bI_t (by first | assumption | omega)]; rfl) | (rw [bI_f (by first | assumption | omega)]; rfl) | (exfalso; rename_i hz; exact absurd hz (by decide)) | (exfalso; rename_i hz; first | exact absurd hz.1 (by assumption) | exact absurd hz.2 (by assumption)) | (exfalso; simp only [Int32.lt_iff_toInt_lt, Int32.le_iff_toInt_le] at *; omega) | (exfalso; simp_all; done) | (simp_all; done) | rfl))
        · exfalso; omega
    · refine g_bipush hC dX10_held_23 (v := (-2)) (by decide) ?_
      exact g_iret hC hR dX10_held_25 (pE_i (by simp only [s_held, hpl_p]; (repeat' split) <;> first | with_reducible rfl | contradiction | (exfalso; omega) | (rw [bI_t (by first | assumption | omega)]; rfl) | (rw [bI_f (by first | assumption | omega)]; rfl) | (exfalso; rename_i hz; exact absurd hz (by decide)) | (exfalso; rename_i hz; first | exact absurd hz.1 (by assumption) | exact absurd hz.2 (by assumption)) | (exfalso; simp only [Int32.lt_iff_toInt_lt, Int32.le_iff_toInt_le] at *; omega) | (exfalso; simp_all; done) | (simp_all; done) | rfl))
  · refine g_iconst hC dX10_held_12 (v := (-1)) (by decide) ?_
    exact g_iret hC hR dX10_held_13 (pE_i (by simp only [s_held]; (repeat' split) <;> first | with_reducible rfl | contradiction | (exfalso; omega) | (rw [bI_t (by first | assumption | omega)]; rfl) | (rw [bI_f (by first | assumption | omega)]; rfl) | (exfalso; rename_i hz; exact absurd hz (by decide)) | (exfalso; rename_i hz; first | exact absurd hz.1 (by assumption) | exact absurd hz.2 (by assumption)) | (exfalso; simp only [Int32.lt_iff_toInt_lt, Int32.le_iff_toInt_le] at *; omega) | (exfalso; simp_all; done) | (simp_all; done) | rfl))
set_option maxRecDepth 20000 in
set_option maxHeartbeats 4000000 in
theorem c_same (hk : gKok D vwCl (cyT cy) K) (hm : mOk o ad) (hI : aI S) (p : Int32) (q : Int32) : gCt l D vwCl K yX10_same wsX10_same { frames := 2, cells := 0, slots := 0, locals := 42 } [.ref o, .int p, .int q] (mL o ad) (mW o ad cy S) (pE (some (.int (s_same S p q).1)) (mL o ad) (mW o ad cy (s_same S p q).2)) := by
  refine gCt.of hk (by decide) rfl rfl (fun X hC hR hnm => ?_)
  have hC : gC X l _ D vwCl (cyT cy) K cX10_same 4 wsX10_same RX10 := hC
  have hin : ∀ w ∈ wsX100, w ∈ wsX10_same := by decide +kernel
  show gW X vwCl 4 (mL o ad) (mW o ad cy S) 0 0 0 [(0, .ref o), (1, .int p), (2, .int q)] []
  have hnb := hI.nb
  refine g_aload_n hC dX10_same_0 rfl 0 rfl (Or.inr ⟨_, rfl⟩) ?_
  refine g_iconst hC dX10_same_1 (v := nI 0) (by decide) ?_
  refine m_put_0 (x := 0) hC hin (by decide +kernel) dX10_same_2 ?_
  refine g_iload_n hC dX10_same_5 rfl 1 rfl ?_
  refine g_S (As := [.int p]) (st := []) hC 1 dX10_same_6 gX10_same_X10_isPlace rfl (by decide +kernel) ⟨Nat.le_of_ble_eq_true rfl, Nat.le_of_ble_eq_true rfl⟩ rfl (Nat.le_of_ble_eq_true rfl) ⟨Nat.le_of_ble_eq_true rfl, Nat.le_of_ble_eq_true rfl⟩ (c2 := 0) (s2 := 0) rfl rfl (c_isPlace hk _) ?_
  refine g_ifB_eq (P := isP p) (tgt := 19) hC dX10_same_9 (by decide) (fun h9 => ?_) (fun h9 => ?_)
  · refine g_iconst hC dX10_same_19 (v := (-1)) (by decide) ?_
    exact g_iret hC hR dX10_same_20 (pE_i (by simp only [s_same]; (repeat' split) <;> first | with_reducible rfl | contradiction | (exfalso; omega) | (rw [bI_t (by first | assumption | omega)]; rfl) | (rw [bI_f (by first | assumption | omega)]; rfl) | (exfalso; rename_i hz; exact absurd hz (by decide)) | (exfalso; rename_i hz; first | exact absurd hz.1 (by assumption) | exact absurd hz.2 (by assumption)) | (exfalso; simp only [Int32.lt_iff_toInt_lt, Int32.le_iff_toInt_le] at *; omega) | (exfalso; simp_all; done) | (simp_all; done) | rfl))
  · obtain ⟨pj, hpj, rfl⟩ := isP_j h9
    have hpl_p : pl (nI pj) = pj := nI_clamp (by omega)
    have h5_p := hI.k5 hpj
    have hw_p := hI.wb hpj
    refine g_iload_n hC dX10_same_12 rfl 2 rfl ?_
    refine g_S (As := [.int q]) (st := []) hC 1 dX10_same_13 gX10_same_X10_isPlace rfl (by decide +kernel) ⟨Nat.le_of_ble_eq_true rfl, Nat.le_of_ble_eq_true rfl⟩ rfl (Nat.le_of_ble_eq_true rfl) ⟨Nat.le_of_ble_eq_true rfl, Nat.le_of_ble_eq_true rfl⟩ (c2 := 0) (s2 := 0) rfl rfl (c_isPlace hk _) ?_
    refine g_ifB_ne (P := isP q) (tgt := 21) hC dX10_same_16 (by decide) (fun h16 => ?_) (fun h16 => ?_)
    · obtain ⟨qj, hqj, rfl⟩ := isP_j h16
      have hpl_q : pl (nI qj) = qj := nI_clamp (by omega)
      have h5_q := hI.k5 hqj
      have hw_q := hI.wb hqj
      refine g_aload_n hC dX10_same_21 rfl 0 rfl (Or.inr ⟨_, rfl⟩) ?_
      refine m_get_2 hC hin (by decide +kernel) dX10_same_22 ?_
      refine g_iload_n hC dX10_same_25 rfl 1 rfl ?_
      refine m_aldN (k := 2) (j := pj) hC hm (by decide) rfl rfl rfl dX10_same_26 (show _ < 10 from (by omega)) ?_
      refine g_istore_n (lv' := [(3, .int (nI (kd S pj))), (0, .ref o), (1, .int (nI pj)), (2, .int (nI qj))]) hC dX10_same_27 rfl (by decide) rfl ?_
      refine g_iload_n hC dX10_same_28 rfl 0 rfl ?_
      refine g_aload_n hC dX10_same_29 rfl 1 rfl (Or.inr ⟨_, rfl⟩) ?_
      refine m_get_2 hC hin (by decide +kernel) dX10_same_30 ?_
      refine g_iload_n hC dX10_same_33 rfl 3 rfl ?_
      refine m_aldN (k := 2) (j := qj) hC hm (by decide) rfl rfl rfl dX10_same_34 (show _ < 10 from (by omega)) ?_
      refine g_icmpN_ne (a := kd S pj) (b := kd S qj) (tgt := 61) hC dX10_same_35 (by decide) (by omega) (by omega) (fun h35 => ?_) (fun h35 => ?_)
      · refine g_iconst hC dX10_same_61 (v := nI 0) (by decide) ?_
        exact g_iret hC hR dX10_same_62 (pE_i (by simp only [s_same, hpl_p, hpl_q]; (repeat' split) <;> first | with_reducible rfl | contradiction | (exfalso; omega) | (rw [bI_t (by first | assumption | omega)]; rfl) | (rw [bI_f (by first | assumption | omega)]; rfl) | (exfalso; rename_i hz; exact absurd hz (by decide)) | (exfalso; rename_i hz; first | exact absurd hz.1 (by assumption) | exact absurd hz.2 (by assumption)) | (exfalso; simp only [Int32.lt_iff_toInt_lt, Int32.le_iff_toInt_le] at *; omega) | (exfalso; simp_all; done) | (simp_all; done) | rfl))
      · refine g_iload_n hC dX10_same_38 rfl 0 rfl ?_
        refine g_ifN_eq (a := kd S pj) (tgt := 57) hC dX10_same_39 (by decide) (by omega) (fun h39 => ?_) (fun h39 => ?_)
        · refine g_iconst hC dX10_same_57 (v := nI 1) (by decide) ?_
          refine g_goto (tgt := 62) hC dX10_same_58 (by decide) ?_
          exact g_iret hC hR dX10_same_62 (pE_i (by simp only [s_same, hpl_p, hpl_q]; (repeat' split) <;> first | with_reducible rfl | contradiction | (exfalso; omega) | (rw [bI_t (by first | assumption | omega)]; rfl) | (rw [bI_f (by first | assumption | omega)]; rfl) | (exfalso; rename_i hz; exact absurd hz (by decide)) | (exfalso; rename_i hz; first | exact absurd hz.1 (by assumption) | exact absurd hz.2 (by assumption)) | (exfalso; simp only [Int32.lt_iff_toInt_lt, Int32.le_iff_toInt_le] at *; omega) | (exfalso; simp_all; done) | (simp_all; done) | rfl))
        · refine g_aload_n hC dX10_same_42 rfl 1 rfl (Or.inr ⟨_, rfl⟩) ?_
          refine m_get_3 hC hin (by decide +kernel) dX10_same_43 ?_
          refine g_iload_n hC dX10_same_46 rfl 2 rfl ?_
          refine m_aldN (k := 3) (j := pj) hC hm (by decide) rfl rfl rfl dX10_same_47 (show _ < 10 from (by omega)) ?_
          refine g_aload_n hC dX10_same_48 rfl 1 rfl (Or.inr ⟨_, rfl⟩) ?_
          refine m_get_3 hC hin (by decide +kernel) dX10_same_49 ?_
          refine g_iload_n hC dX10_same_52 rfl 3 rfl ?_
          refine m_aldN (k := 3) (j := qj) hC hm (by decide) rfl rfl rfl dX10_same_53 (show _ < 10 from (by omega)) ?_
          refine g_icmpN_ne (a := wh S pj) (b := wh S qj) (tgt := 61) hC dX10_same_54 (by decide) (by omega) (by omega) (fun h54 => ?_) (fun h54 => ?_)
          · refine g_iconst hC dX10_same_61 (v := nI 0) (by decide) ?_
            exact g_iret hC hR dX10_same_62 (pE_i (by simp only [s_same, hpl_p, hpl_q]; (repeat' split) <;> first | with_reducible rfl | contradiction | (exfalso; omega) | (rw [bI_t (by first | assumption | omega)]; rfl) | (rw [bI_f (by first | assumption | omega)]; rfl) | (exfalso; rename_i hz; exact absurd hz (by decide)) | (exfalso; rename_i hz; first | exact absurd hz.1 (by assumption) | exact absurd hz.2 (by assumption)) | (exfalso; simp only [Int32.lt_iff_toInt_lt, Int32.le_iff_toInt_le] at *; omega) | (exfalso; simp_all; done) | (simp_all; done) | rfl))
          · refine g_iconst hC dX10_same_57 (v := nI 1) (by decide) ?_
            refine g_goto (tgt := 62) hC dX10_same_58 (by decide) ?_
            exact g_iret hC hR dX10_same_62 (pE_i (by simp only [s_same, hpl_p, hpl_q]; (repeat' split) <;> first | with_reducible rfl | contradiction | (exfalso; omega) | (rw [bI_t (by first | assumption | omega)]; rfl) | (rw [bI_f (by first | assumption | omega)]; rfl) | (exfalso; rename_i hz; exact absurd hz (by decide)) | (exfalso; rename_i hz; first | exact absurd hz.1 (by assumption) | exact absurd hz.2 (by assumption)) | (exfalso; simp only [Int32.lt_iff_toInt_lt, Int32.le_iff_toInt_le] at *; omega) | (exfalso; simp_all; done) | (simp_all; done) | rfl))
    · refine g_iconst hC dX10_same_19 (v := (-1)) (by decide) ?_
      exact g_iret hC hR dX10_same_20 (pE_i (by simp only [s_same, hpl_p]; (repeat' split) <;> first | with_reducible rfl | contradiction | (exfalso; omega) | (rw [bI_t (by first | assumption | omega)]; rfl) | (rw [bI_f (by first | assumption | omega)]; rfl) | (exfalso; rename_i hz; exact absurd hz (by decide)) | (exfalso; rename_i hz; first | exact absurd hz.1 (by assumption) | exact absurd hz.2 (by assumption)) | (exfalso; simp only [Int32.lt_iff_toInt_lt, Int32.le_iff_toInt_le] at *; omega) | (exfalso; simp_all; done) | (simp_all; done) | rfl))
set_option maxRecDepth 20000 in
set_option maxHeartbeats 4000000 in
theorem c_length (hk : gKok D vwCl (cyT cy) K) (hm : mOk o ad) (hI : aI S) (p : Int32) (t : Int32) : gCt l D vwCl K yX10_length wsX10_length { frames := 2, cells := 0, slots := 0, locals := 44 } [.ref o, .int p, .int t] (mL o ad) (mW o ad cy S) (pE (some (.int (s_length S p t).1)) (mL o ad) (mW o ad cy (s_length S p t).2)) := by
  refine gCt.of hk (by decide) rfl rfl (fun X hC hR hnm => ?_)
  have hC : gC X l _ D vwCl (cyT cy) K cX10_length 4 wsX10_length RX10 := hC
  have hin : ∀ w ∈ wsX100, w ∈ wsX10_length := by decide +kernel
  show gW X vwCl 4 (mL o ad) (mW o ad cy S) 0 0 0 [(0, .ref o), (1, .int p), (2, .int t)] []
  have hnb := hI.nb
  refine g_aload_n hC dX10_length_0 rfl 0 rfl (Or.inr ⟨_, rfl⟩) ?_
  refine g_iconst hC dX10_length_1 (v := nI 0) (by decide) ?_
  refine m_put_0 (x := 0) hC hin (by decide +kernel) dX10_length_2 ?_
  refine g_iload_n hC dX10_length_5 rfl 1 rfl ?_
  refine g_S (As := [.int p]) (st := []) hC 1 dX10_length_6 gX10_length_X10_isPlace rfl (by decide +kernel) ⟨Nat.le_of_ble_eq_true rfl, Nat.le_of_ble_eq_true rfl⟩ rfl (Nat.le_of_ble_eq_true rfl) ⟨Nat.le_of_ble_eq_true rfl, Nat.le_of_ble_eq_true rfl⟩ (c2 := 0) (s2 := 0) rfl rfl (c_isPlace hk _) ?_
  refine g_ifB_ne (P := isP p) (tgt := 14) hC dX10_length_9 (by decide) (fun h9 => ?_) (fun h9 => ?_)
  · obtain ⟨pj, hpj, rfl⟩ := isP_j h9
    have hpl_p : pl (nI pj) = pj := nI_clamp (by omega)
    have h5_p := hI.k5 hpj
    have hw_p := hI.wb hpj
    refine g_iload_n hC dX10_length_14 rfl 2 rfl ?_
    refine g_iconst hC dX10_length_15 (v := nI 1) (by decide) ?_
    refine g_iconst hC dX10_length_16 (v := nI 3) (by decide) ?_
    refine g_S (As := [.int t, .int (nI 1), .int (nI 3)]) (st := []) hC 3 dX10_length_17 gX10_length_X10_in rfl (by decide +kernel) ⟨Nat.le_of_ble_eq_true rfl, Nat.le_of_ble_eq_true rfl⟩ rfl (Nat.le_of_ble_eq_true rfl) ⟨Nat.le_of_ble_eq_true rfl, Nat.le_of_ble_eq_true rfl⟩ (c2 := 0) (s2 := 0) rfl rfl (c_in hk _ _ _) ?_
    refine g_ifB_ne (P := nI 1 ≤ t ∧ t ≤ nI 3) (tgt := 26) hC dX10_length_20 (by decide) (fun h20 => ?_) (fun h20 => ?_)
    · obtain ⟨tj, ht1, ht2, rfl⟩ := ty_j (lo := 1) (hi := 3) (by decide) h20 (by decide)
      rcases (show tj = 1 ∨ tj = 2 ∨ tj = 3 by omega) with rfl | rfl | rfl
      · have hpl_t : pl (nI 1) = 1 := by decide
        refine g_aload_n hC dX10_length_26 rfl 0 rfl (Or.inr ⟨_, rfl⟩) ?_
        refine g_iload_n hC dX10_length_27 rfl 1 rfl ?_
        refine g_iload_n hC dX10_length_28 rfl 2 rfl ?_
        have hcf_pj_1 : castF S pj 1 ≤ 2 := castF_2
        refine g_V (As := [.int (nI pj), .int (nI 1)]) (st := []) hC 2 dX10_length_29 rfl mL_o mW_o gX10_length_X10_castFault rfl (by decide +kernel) ⟨Nat.le_of_ble_eq_true rfl, Nat.le_of_ble_eq_true rfl⟩ rfl (Nat.le_of_ble_eq_true rfl) ⟨Nat.le_of_ble_eq_true rfl, Nat.le_of_ble_eq_true rfl⟩ (c2 := 0) (s2 := 0) rfl rfl (c_castFault hk hm pj 1 (by omega) hpj (hI.k5 hpj)) ?_
        refine g_istore_n (lv' := [(3, .int (nI (castF S pj 1))), (0, .ref o), (1, .int (nI pj)), (2, .int (nI 1))]) hC dX10_length_32 rfl (by decide) rfl ?_
        refine g_iload_n hC dX10_length_33 rfl 0 rfl ?_
        refine g_ifN_le (a := castF S pj 1) (tgt := 45) hC dX10_length_34 (by decide) (by omega) (fun h34 => ?_) (fun h34 => ?_)
        · have hc0_pj := castF_0 h34
          have hc1_pj := hc0_pj.2
          have hl_pj := hI.lg hpj hc0_pj.1 (by omega)
          have hwk_pj := hI.wl hpj (by omega)
          refine g_aload_n hC dX10_length_45 rfl 1 rfl (Or.inr ⟨_, rfl⟩) ?_
          refine g_iload_n hC dX10_length_46 rfl 2 rfl ?_
          refine g_V (As := [.int (nI pj)]) (st := []) hC 1 dX10_length_47 rfl mL_o mW_o gX10_length_X10_longOf rfl (by decide +kernel) ⟨Nat.le_of_ble_eq_true rfl, Nat.le_of_ble_eq_true rfl⟩ rfl (Nat.le_of_ble_eq_true rfl) ⟨Nat.le_of_ble_eq_true rfl, Nat.le_of_ble_eq_true rfl⟩ (c2 := 0) (s2 := 0) rfl rfl (c_longOf hk hm pj hpj (hI.k5 hpj) (hI.w1 hpj) (hI.w2 hpj)) ?_
          exact g_iret hC hR dX10_length_50 (pE_i (by simp only [s_length, hpl_p, hpl_t]; (repeat' split) <;> first | with_reducible rfl | contradiction | (exfalso; omega) | (rw [bI_t (by first | assumption | omega)]; rfl) | (rw [bI_f (by first | assumption | omega)]; rfl) | (exfalso; rename_i hz; exact absurd hz (by decide)) | (exfalso; rename_i hz; first | exact absurd hz.1 (by assumption) | exact absurd hz.2 (by assumption)) | (exfalso; simp only [Int32.lt_iff_toInt_lt, Int32.le_iff_toInt_le] at *; omega) | (exfalso; simp_all; done) | (simp_all; done) | rfl))
        · refine g_aload_n hC dX10_length_37 rfl 1 rfl (Or.inr ⟨_, rfl⟩) ?_
          refine g_iload_n hC dX10_length_38 rfl 0 rfl ?_
          refine g_V (As := [.int (nI (castF S pj 1))]) (st := []) hC 1 dX10_length_39 rfl mL_o mW_o gX10_length_X10_fails rfl (by decide +kernel) ⟨Nat.le_of_ble_eq_true rfl, Nat.le_of_ble_eq_true rfl⟩ rfl (Nat.le_of_ble_eq_true rfl) ⟨Nat.le_of_ble_eq_true rfl, Nat.le_of_ble_eq_true rfl⟩ (c2 := 0) (s2 := 0) rfl rfl (c_fails hk hm (castF S pj 1)) ?_
          refine g_goto (tgt := 50) hC dX10_length_42 (by decide) ?_
          exact g_iret hC hR dX10_length_50 (pE_i (by simp only [s_length, hpl_p, hpl_t]; (repeat' split) <;> first | with_reducible rfl | contradiction | (exfalso; omega) | (rw [bI_t (by first | assumption | omega)]; rfl) | (rw [bI_f (by first | assumption | omega)]; rfl) | (exfalso; rename_i hz; exact absurd hz (by decide)) | (exfalso; rename_i hz; first | exact absurd hz.1 (by assumption) | exact absurd hz.2 (by assumption)) | (exfalso; simp only [Int32.lt_iff_toInt_lt, Int32.le_iff_toInt_le] at *; omega) | (exfalso; simp_all; done) | (simp_all; done) | rfl))
      · have hpl_t : pl (nI 2) = 2 := by decide
        refine g_aload_n hC dX10_length_26 rfl 0 rfl (Or.inr ⟨_, rfl⟩) ?_
        refine g_iload_n hC dX10_length_27 rfl 1 rfl ?_
        refine g_iload_n hC dX10_length_28 rfl 2 rfl ?_
        have hcf_pj_2 : castF S pj 2 ≤ 2 := castF_2
        refine g_V (As := [.int (nI pj), .int (nI 2)]) (st := []) hC 2 dX10_length_29 rfl mL_o mW_o gX10_length_X10_castFault rfl (by decide +kernel) ⟨Nat.le_of_ble_eq_true rfl, Nat.le_of_ble_eq_true rfl⟩ rfl (Nat.le_of_ble_eq_true rfl) ⟨Nat.le_of_ble_eq_true rfl, Nat.le_of_ble_eq_true rfl⟩ (c2 := 0) (s2 := 0) rfl rfl (c_castFault hk hm pj 2 (by omega) hpj (hI.k5 hpj)) ?_
        refine g_istore_n (lv' := [(3, .int (nI (castF S pj 2))), (0, .ref o), (1, .int (nI pj)), (2, .int (nI 2))]) hC dX10_length_32 rfl (by decide) rfl ?_
        refine g_iload_n hC dX10_length_33 rfl 0 rfl ?_
        refine g_ifN_le (a := castF S pj 2) (tgt := 45) hC dX10_length_34 (by decide) (by omega) (fun h34 => ?_) (fun h34 => ?_)
        · have hc0_pj := castF_0 h34
          have hc1_pj := hc0_pj.2
          have hl_pj := hI.lg hpj hc0_pj.1 (by omega)
          have hwk_pj := hI.ws hpj (by omega)
          refine g_aload_n hC dX10_length_45 rfl 1 rfl (Or.inr ⟨_, rfl⟩) ?_
          refine g_iload_n hC dX10_length_46 rfl 2 rfl ?_
          refine g_V (As := [.int (nI pj)]) (st := []) hC 1 dX10_length_47 rfl mL_o mW_o gX10_length_X10_longOf rfl (by decide +kernel) ⟨Nat.le_of_ble_eq_true rfl, Nat.le_of_ble_eq_true rfl⟩ rfl (Nat.le_of_ble_eq_true rfl) ⟨Nat.le_of_ble_eq_true rfl, Nat.le_of_ble_eq_true rfl⟩ (c2 := 0) (s2 := 0) rfl rfl (c_longOf hk hm pj hpj (hI.k5 hpj) (hI.w1 hpj) (hI.w2 hpj)) ?_
          exact g_iret hC hR dX10_length_50 (pE_i (by simp only [s_length, hpl_p, hpl_t]; (repeat' split) <;> first | with_reducible rfl | contradiction | (exfalso; omega) | (rw [bI_t (by first | assumption | omega)]; rfl) | (rw [bI_f (by first | assumption | omega)]; rfl) | (exfalso; rename_i hz; exact absurd hz (by decide)) | (exfalso; rename_i hz; first | exact absurd hz.1 (by assumption) | exact absurd hz.2 (by assumption)) | (exfalso; simp only [Int32.lt_iff_toInt_lt, Int32.le_iff_toInt_le] at *; omega) | (exfalso; simp_all; done) | (simp_all; done) | rfl))
        · refine g_aload_n hC dX10_length_37 rfl 1 rfl (Or.inr ⟨_, rfl⟩) ?_
          refine g_iload_n hC dX10_length_38 rfl 0 rfl ?_
          refine g_V (As := [.int (nI (castF S pj 2))]) (st := []) hC 1 dX10_length_39 rfl mL_o mW_o gX10_length_X10_fails rfl (by decide +kernel) ⟨Nat.le_of_ble_eq_true rfl, Nat.le_of_ble_eq_true rfl⟩ rfl (Nat.le_of_ble_eq_true rfl) ⟨Nat.le_of_ble_eq_true rfl, Nat.le_of_ble_eq_true rfl⟩ (c2 := 0) (s2 := 0) rfl rfl (c_fails hk hm (castF S pj 2)) ?_
          refine g_goto (tgt := 50) hC dX10_length_42 (by decide) ?_
          exact g_iret hC hR dX10_length_50 (pE_i (by simp only [s_length, hpl_p, hpl_t]; (repeat' split) <;> first | with_reducible rfl | contradiction | (exfalso; omega) | (rw [bI_t (by first | assumption | omega)]; rfl) | (rw [bI_f (by first | assumption | omega)]; rfl) | (exfalso; rename_i hz; exact absurd hz (by decide)) | (exfalso; rename_i hz; first | exact absurd hz.1 (by assumption) | exact absurd hz.2 (by assumption)) | (exfalso; simp only [Int32.lt_iff_toInt_lt, Int32.le_iff_toInt_le] at *; omega) | (exfalso; simp_all; done) | (simp_all; done) | rfl))
      · have hpl_t : pl (nI 3) = 3 := by decide
        refine g_aload_n hC dX10_length_26 rfl 0 rfl (Or.inr ⟨_, rfl⟩) ?_
        refine g_iload_n hC dX10_length_27 rfl 1 rfl ?_
        refine g_iload_n hC dX10_length_28 rfl 2 rfl ?_
        have hcf_pj_3 : castF S pj 3 ≤ 2 := castF_2
        refine g_V (As := [.int (nI pj), .int (nI 3)]) (st := []) hC 2 dX10_length_29 rfl mL_o mW_o gX10_length_X10_castFault rfl (by decide +kernel) ⟨Nat.le_of_ble_eq_true rfl, Nat.le_of_ble_eq_true rfl⟩ rfl (Nat.le_of_ble_eq_true rfl) ⟨Nat.le_of_ble_eq_true rfl, Nat.le_of_ble_eq_true rfl⟩ (c2 := 0) (s2 := 0) rfl rfl (c_castFault hk hm pj 3 (by omega) hpj (hI.k5 hpj)) ?_
        refine g_istore_n (lv' := [(3, .int (nI (castF S pj 3))), (0, .ref o), (1, .int (nI pj)), (2, .int (nI 3))]) hC dX10_length_32 rfl (by decide) rfl ?_
        refine g_iload_n hC dX10_length_33 rfl 0 rfl ?_
        refine g_ifN_le (a := castF S pj 3) (tgt := 45) hC dX10_length_34 (by decide) (by omega) (fun h34 => ?_) (fun h34 => ?_)
        · have hc0_pj := castF_0 h34
          have hc1_pj := hc0_pj.2
          have hl_pj := hI.lg hpj hc0_pj.1 (by omega)
          have hwk_pj := hI.wr hpj (by omega)
          refine g_aload_n hC dX10_length_45 rfl 1 rfl (Or.inr ⟨_, rfl⟩) ?_
          refine g_iload_n hC dX10_length_46 rfl 2 rfl ?_
          refine g_V (As := [.int (nI pj)]) (st := []) hC 1 dX10_length_47 rfl mL_o mW_o gX10_length_X10_longOf rfl (by decide +kernel) ⟨Nat.le_of_ble_eq_true rfl, Nat.le_of_ble_eq_true rfl⟩ rfl (Nat.le_of_ble_eq_true rfl) ⟨Nat.le_of_ble_eq_true rfl, Nat.le_of_ble_eq_true rfl⟩ (c2 := 0) (s2 := 0) rfl rfl (c_longOf hk hm pj hpj (hI.k5 hpj) (hI.w1 hpj) (hI.w2 hpj)) ?_
          exact g_iret hC hR dX10_length_50 (pE_i (by simp only [s_length, hpl_p, hpl_t]; (repeat' split) <;> first | with_reducible rfl | contradiction | (exfalso; omega) | (rw [bI_t (by first | assumption | omega)]; rfl) | (rw [bI_f (by first | assumption | omega)]; rfl) | (exfalso; rename_i hz; exact absurd hz (by decide)) | (exfalso; rename_i hz; first | exact absurd hz.1 (by assumption) | exact absurd hz.2 (by assumption)) | (exfalso; simp only [Int32.lt_iff_toInt_lt, Int32.le_iff_toInt_le] at *; omega) | (exfalso; simp_all; done) | (simp_all; done) | rfl))
        · refine g_aload_n hC dX10_length_37 rfl 1 rfl (Or.inr ⟨_, rfl⟩) ?_
          refine g_iload_n hC dX10_length_38 rfl 0 rfl ?_
          refine g_V (As := [.int (nI (castF S pj 3))]) (st := []) hC 1 dX10_length_39 rfl mL_o mW_o gX10_length_X10_fails rfl (by decide +kernel) ⟨Nat.le_of_ble_eq_true rfl, Nat.le_of_ble_eq_true rfl⟩ rfl (Nat.le_of_ble_eq_true rfl) ⟨Nat.le_of_ble_eq_true rfl, Nat.le_of_ble_eq_true rfl⟩ (c2 := 0) (s2 := 0) rfl rfl (c_fails hk hm (castF S pj 3)) ?_
          refine g_goto (tgt := 50) hC dX10_length_42 (by decide) ?_
          exact g_iret hC hR dX10_length_50 (pE_i (by simp only [s_length, hpl_p, hpl_t]; (repeat' split) <;> first | with_reducible rfl | contradiction | (exfalso; omega) | (rw [bI_t (by first | assumption | omega)]; rfl) | (rw [bI_f (by first | assumption | omega)]; rfl) | (exfalso; rename_i hz; exact absurd hz (by decide)) | (exfalso; rename_i hz; first | exact absurd hz.1 (by assumption) | exact absurd hz.2 (by assumption)) | (exfalso; simp only [Int32.lt_iff_toInt_lt, Int32.le_iff_toInt_le] at *; omega) | (exfalso; simp_all; done) | (simp_all; done) | rfl))
    · refine g_bipush hC dX10_length_23 (v := (-2)) (by decide) ?_
      exact g_iret hC hR dX10_length_25 (pE_i (by simp only [s_length, hpl_p]; (repeat' split) <;> first | with_reducible rfl | contradiction | (exfalso; omega) | (rw [bI_t (by first | assumption | omega)]; rfl) | (rw [bI_f (by first | assumption | omega)]; rfl) | (exfalso; rename_i hz; exact absurd hz (by decide)) | (exfalso; rename_i hz; first | exact absurd hz.1 (by assumption) | exact absurd hz.2 (by assumption)) | (exfalso; simp only [Int32.lt_iff_toInt_lt, Int32.le_iff_toInt_le] at *; omega) | (exfalso; simp_all; done) | (simp_all; done) | rfl))
  · refine g_iconst hC dX10_length_12 (v := (-1)) (by decide) ?_
    exact g_iret hC hR dX10_length_13 (pE_i (by simp only [s_length]; (repeat' split) <;> first | with_reducible rfl | contradiction | (exfalso; omega) | (rw [bI_t (by first | assumption | omega)]; rfl) | (rw [bI_f (by first | assumption | omega)]; rfl) | (exfalso; rename_i hz; exact absurd hz (by decide)) | (exfalso; rename_i hz; first | exact absurd hz.1 (by assumption) | exact absurd hz.2 (by assumption)) | (exfalso; simp only [Int32.lt_iff_toInt_lt, Int32.le_iff_toInt_le] at *; omega) | (exfalso; simp_all; done) | (simp_all; done) | rfl))
end M3
