section M3
variable {l : Launch} {D : va_G} {cy : Nat → ClassId} {K : gKt} {o : Nat} {ad : Nat → Nat} {S : aS}
set_option maxRecDepth 20000 in
set_option maxHeartbeats 4000000 in
theorem c_twin (hk : gKok D vwCl (cyT cy) K) (hm : mOk o ad) (hI : aI S) (p : Int32) (q : Int32) : gCt l D vwCl K yX10_twin wsX10_twin { frames := 2, cells := 0, slots := 0, locals := 45 } [.ref o, .int p, .int q] (mL o ad) (mW o ad cy S) (pE (some (.int (s_twin S p q).1)) (mL o ad) (mW o ad cy (s_twin S p q).2)) := by
  refine gCt.of hk (by decide) rfl rfl (fun X hC hR hnm => ?_)
  have hC : gC X l _ D vwCl (cyT cy) K cX10_twin 7 wsX10_twin RX10 := hC
  have hin : ∀ w ∈ wsX100, w ∈ wsX10_twin := by decide +kernel
  show gW X vwCl 7 (mL o ad) (mW o ad cy S) 0 0 0 [(0, .ref o), (1, .int p), (2, .int q)] []
  have hnb := hI.nb
  refine g_aload_n hC dX10_twin_0 rfl 0 rfl (Or.inr ⟨_, rfl⟩) ?_
  refine g_iconst hC dX10_twin_1 (v := nI 0) (by decide) ?_
  refine m_put_0 (x := 0) hC hin (by decide +kernel) dX10_twin_2 ?_
  refine g_iload_n hC dX10_twin_5 rfl 1 rfl ?_
  refine g_S (As := [.int p]) (st := []) hC 1 dX10_twin_6 gX10_twin_X10_isPlace rfl (by decide +kernel) ⟨Nat.le_of_ble_eq_true rfl, Nat.le_of_ble_eq_true rfl⟩ rfl (Nat.le_of_ble_eq_true rfl) ⟨Nat.le_of_ble_eq_true rfl, Nat.le_of_ble_eq_true rfl⟩ (c2 := 0) (s2 := 0) rfl rfl (c_isPlace hk _) ?_
  refine g_ifB_eq (P := isP p) (tgt := 19) hC dX10_twin_9 (by decide) (fun h9 => ?_) (fun h9 => ?_)
  · refine g_iconst hC dX10_twin_19 (v := (-1)) (by decide) ?_
    exact g_iret hC hR dX10_twin_20 (pE_i (by simp only [s_twin]; (repeat' split) <;> first | with_reducible rfl | contradiction | (exfalso; omega) | (rw [bI_t (by first | assumption | omega)]; rfl) | (rw [bI_f (by first | assumption | omega)]; rfl) | (exfalso; rename_i hz; exact absurd hz (by decide)) | (exfalso; rename_i hz; first | exact absurd hz.1 (by assumption) | exact absurd hz.2 (by assumption)) | (exfalso; simp only [Int32.lt_iff_toInt_lt, Int32.le_iff_toInt_le] at *; omega) | (exfalso; simp_all; done) | (simp_all; done) | rfl))
  · obtain ⟨pj, hpj, rfl⟩ := isP_j h9
    have hpl_p : pl (nI pj) = pj := nI_clamp (by omega)
    have h5_p := hI.k5 hpj
    have hw_p := hI.wb hpj
    refine g_iload_n hC dX10_twin_12 rfl 2 rfl ?_
    refine g_S (As := [.int q]) (st := []) hC 1 dX10_twin_13 gX10_twin_X10_isPlace rfl (by decide +kernel) ⟨Nat.le_of_ble_eq_true rfl, Nat.le_of_ble_eq_true rfl⟩ rfl (Nat.le_of_ble_eq_true rfl) ⟨Nat.le_of_ble_eq_true rfl, Nat.le_of_ble_eq_true rfl⟩ (c2 := 0) (s2 := 0) rfl rfl (c_isPlace hk _) ?_
    refine g_ifB_ne (P := isP q) (tgt := 21) hC dX10_twin_16 (by decide) (fun h16 => ?_) (fun h16 => ?_)
    · obtain ⟨qj, hqj, rfl⟩ := isP_j h16
      have hpl_q : pl (nI qj) = qj := nI_clamp (by omega)
      have h5_q := hI.k5 hqj
      have hw_q := hI.wb hqj
      refine g_aload_n hC dX10_twin_21 rfl 0 rfl (Or.inr ⟨_, rfl⟩) ?_
      refine m_get_2 hC hin (by decide +kernel) dX10_twin_22 ?_
      refine g_iload_n hC dX10_twin_25 rfl 2 rfl ?_
      refine m_aldN (k := 2) (j := qj) hC hm (by decide) rfl rfl rfl dX10_twin_26 (show _ < 10 from (by omega)) ?_
      refine g_istore_n (lv' := [(3, .int (nI (kd S qj))), (0, .ref o), (1, .int (nI pj)), (2, .int (nI qj))]) hC dX10_twin_27 rfl (by decide) rfl ?_
      refine g_iload_n hC dX10_twin_28 rfl 0 rfl ?_
      refine g_ifN_eq (a := kd S qj) (tgt := 37) hC dX10_twin_29 (by decide) (by omega) (fun h29 => ?_) (fun h29 => ?_)
      · refine g_aload_n hC dX10_twin_37 rfl 1 rfl (Or.inr ⟨_, rfl⟩) ?_
        refine g_iload_n hC dX10_twin_38 rfl 0 rfl ?_
        refine g_ifN_ne (a := kd S qj) (tgt := 46) hC dX10_twin_39 (by decide) (by omega) (fun h39 => ?_) (fun h39 => ?_)
        · exact absurd h29 h39
        · refine g_iconst hC dX10_twin_42 (v := nI 1) (by decide) ?_
          refine g_goto (tgt := 47) hC dX10_twin_43 (by decide) ?_
          refine g_V (As := [.int (nI 1)]) (st := []) hC 1 dX10_twin_47 rfl mL_o mW_o gX10_twin_X10_fails rfl (by decide +kernel) ⟨Nat.le_of_ble_eq_true rfl, Nat.le_of_ble_eq_true rfl⟩ rfl (Nat.le_of_ble_eq_true rfl) ⟨Nat.le_of_ble_eq_true rfl, Nat.le_of_ble_eq_true rfl⟩ (c2 := 0) (s2 := 0) rfl rfl (c_fails hk hm 1) ?_
          exact g_iret hC hR dX10_twin_50 (pE_i (by simp only [s_twin, hpl_p, hpl_q]; (repeat' split) <;> first | with_reducible rfl | contradiction | (exfalso; omega) | (rw [bI_t (by first | assumption | omega)]; rfl) | (rw [bI_f (by first | assumption | omega)]; rfl) | (exfalso; rename_i hz; exact absurd hz (by decide)) | (exfalso; rename_i hz; first | exact absurd hz.1 (by assumption) | exact absurd hz.2 (by assumption)) | (exfalso; simp only [Int32.lt_iff_toInt_lt, Int32.le_iff_toInt_le] at *; omega) | (exfalso; simp_all; done) | (simp_all; done) | rfl))
      · refine g_iload_n hC dX10_twin_32 rfl 0 rfl ?_
        refine g_iconst hC dX10_twin_33 (v := nI 3) (by decide) ?_
        refine g_icmpN_le (a := kd S qj) (b := 3) (tgt := 51) hC dX10_twin_34 (by decide) (by omega) (by omega) (fun h34 => ?_) (fun h34 => ?_)
        · refine g_aload_n hC dX10_twin_51 rfl 1 rfl (Or.inr ⟨_, rfl⟩) ?_
          refine g_iload_n hC dX10_twin_52 rfl 3 rfl ?_
          have hl_qj := hI.lg hqj (by omega) (by omega)
          refine g_V (As := [.int (nI qj)]) (st := []) hC 1 dX10_twin_53 rfl mL_o mW_o gX10_twin_X10_longOf rfl (by decide +kernel) ⟨Nat.le_of_ble_eq_true rfl, Nat.le_of_ble_eq_true rfl⟩ rfl (Nat.le_of_ble_eq_true rfl) ⟨Nat.le_of_ble_eq_true rfl, Nat.le_of_ble_eq_true rfl⟩ (c2 := 0) (s2 := 0) rfl rfl (c_longOf hk hm qj hqj (hI.k5 hqj) (hI.w1 hqj) (hI.w2 hqj)) ?_
          refine g_istore (lv' := [(4, .int (nI (longS S qj))), (3, .int (nI (kd S qj))), (0, .ref o), (1, .int (nI pj)), (2, .int (nI qj))]) hC dX10_twin_56 (by decide) rfl ?_
          refine g_aload_n hC dX10_twin_58 rfl 2 rfl (Or.inr ⟨_, rfl⟩) ?_
          refine m_get_3 hC hin (by decide +kernel) dX10_twin_59 ?_
          refine g_iload_n hC dX10_twin_62 rfl 4 rfl ?_
          refine m_aldN (k := 3) (j := qj) hC hm (by decide) rfl rfl rfl dX10_twin_63 (show _ < 10 from (by omega)) ?_
          refine g_istore (lv' := [(5, .int (nI (wh S qj))), (4, .int (nI (longS S qj))), (3, .int (nI (kd S qj))), (0, .ref o), (1, .int (nI pj)), (2, .int (nI qj))]) hC dX10_twin_64 (by decide) rfl ?_
          refine g_iload_n hC dX10_twin_66 rfl 2 rfl ?_
          refine g_iconst hC dX10_twin_67 (v := nI 1) (by decide) ?_
          refine g_icmpN_ne (a := kd S qj) (b := 1) (tgt := 86) hC dX10_twin_68 (by decide) (by omega) (by omega) (fun h68 => ?_) (fun h68 => ?_)
          · refine g_iload_n hC dX10_twin_86 rfl 2 rfl ?_
            refine g_iconst hC dX10_twin_87 (v := nI 2) (by decide) ?_
            refine g_icmpN_ne (a := kd S qj) (b := 2) (tgt := 169) hC dX10_twin_88 (by decide) (by omega) (by omega) (fun h88 => ?_) (fun h88 => ?_)
            · refine g_aload_n hC dX10_twin_169 rfl 3 rfl (Or.inr ⟨_, rfl⟩) ?_
              refine m_get_11 hC hin (by decide +kernel) dX10_twin_170 ?_
              refine g_aload_n hC dX10_twin_173 rfl 3 rfl (Or.inr ⟨_, rfl⟩) ?_
              refine m_get_10 hC hin (by decide +kernel) dX10_twin_174 ?_
              refine g_iload hC dX10_twin_177 1 rfl ?_
              refine m_astN (k := 11) (j := S.1 10) (x := longS S qj) hC hm (by decide) rfl (fun _ => rfl) rfl dX10_twin_179 (show _ < 600 from (by omega)) ?_
              refine g_iconst hC dX10_twin_180 (v := nI 0) (by decide) ?_
              refine g_istore (lv' := [(6, .int (nI 0)), (5, .int (nI (wh S qj))), (4, .int (nI (longS S qj))), (3, .int (nI (kd S qj))), (0, .ref o), (1, .int (nI pj)), (2, .int (nI qj))]) hC dX10_twin_181 (by decide) rfl ?_
              have hwk := hI.wr hqj (by omega)
              have lp : ∀ (m : Nat) (i : Nat), 17 - i < m → (i ≤ 16) → gW X vwCl 7 (mL o ad) (mW o ad cy (aNr (aN (aSc S 0 0) 11 (S.1 10) (longS S qj)) 12 (16 * S.1 10) i (fun k => S.2.1 12 (16 * wh S qj + k)))) 0 0 183 [(6, .int (nI i)), (5, .int (nI (wh S qj))), (4, .int (nI (longS S qj))), (3, .int (nI (kd S qj))), (0, .ref o), (1, .int (nI pj)), (2, .int (nI qj))] [] := by
                intro m
                induction m with
                | zero => intros; omega
                | succ m ih =>
                  intro i hm9 hi9
                  have hrd : i < 16 → (aNr (aN (aSc S 0 0) 11 (S.1 10) (longS S qj)) 12 (16 * S.1 10) i (fun k => S.2.1 12 (16 * wh S qj + k))).2.1 12 (16 * wh S qj + i) = S.2.1 12 (16 * wh S qj + i) := by
                    intro hk8
                    simp only [aNr, aSc, aN, va_up, if_pos]
                    rw [if_neg (by omega)]
                    try rfl
                  refine g_iload hC dX10_twin_183 0 rfl ?_
                  refine g_bipush hC dX10_twin_185 (v := nI 16) (by decide) ?_
                  refine g_icmpN_ge (a := i) (b := 16) (tgt := 224) hC dX10_twin_187 (by decide) (by omega) (by omega) (fun h187 => ?_) (fun h187 => ?_)
                  · obtain rfl : i = 16 := by omega
                    refine g_aload_n hC dX10_twin_224 rfl 4 rfl (Or.inr ⟨_, rfl⟩) ?_
                    refine g_iload_n hC dX10_twin_225 rfl 5 rfl ?_
                    refine g_iconst hC dX10_twin_226 (v := nI 3) (by decide) ?_
                    refine g_aload_n hC dX10_twin_227 rfl 4 rfl (Or.inr ⟨_, rfl⟩) ?_
                    refine m_get_10 hC hin (by decide +kernel) dX10_twin_228 ?_
                    refine g_Vv (As := [.int (nI pj), .int (nI 3), .int (nI (S.1 10))]) (st := []) hC 3 dX10_twin_231 rfl mL_o mW_o gX10_twin_X10_hold rfl (by decide +kernel) ⟨Nat.le_of_ble_eq_true rfl, Nat.le_of_ble_eq_true rfl⟩ rfl (Nat.le_of_ble_eq_true rfl) ⟨Nat.le_of_ble_eq_true rfl, Nat.le_of_ble_eq_true rfl⟩ (c2 := 0) (s2 := 0) rfl rfl (c_hold hk hm pj 3 (S.1 10) (by omega)) ?_
                    refine g_aload_n hC dX10_twin_234 rfl 4 rfl (Or.inr ⟨_, rfl⟩) ?_
                    refine g_dup hC dX10_twin_235 rfl ?_
                    refine m_get_10 hC hin (by decide +kernel) dX10_twin_236 ?_
                    refine g_iconst hC dX10_twin_239 (v := nI 1) (by decide) ?_
                    refine g_iaddN (a := S.1 10) (b := 1) hC dX10_twin_240 ?_
                    refine m_put_10 (x := (S.1 10) + 1) hC hin (by decide +kernel) dX10_twin_241 ?_
                    refine g_iload hC dX10_twin_244 2 rfl ?_
                    exact g_iret hC hR dX10_twin_246 (pE_i (by simp only [s_twin, hpl_p, hpl_q]; (repeat' split) <;> first | with_reducible rfl | contradiction | (exfalso; omega) | (rw [bI_t (by first | assumption | omega)]; rfl) | (rw [bI_f (by first | assumption | omega)]; rfl) | (exfalso; rename_i hz; exact absurd hz (by decide)) | (exfalso; rename_i hz; first | exact absurd hz.1 (by assumption) | exact absurd hz.2 (by assumption)) | (exfalso; simp only [Int32.lt_iff_toInt_lt, Int32.le_iff_toInt_le] at *; omega) | (exfalso; simp_all; done) | (simp_all; done) | rfl))
                  · refine g_aload_n hC dX10_twin_190 rfl 4 rfl (Or.inr ⟨_, rfl⟩) ?_
                    refine m_get_12 hC hin (by decide +kernel) dX10_twin_191 ?_
                    refine g_bipush hC dX10_twin_194 (v := nI 16) (by decide) ?_
                    refine g_aload_n hC dX10_twin_196 rfl 4 rfl (Or.inr ⟨_, rfl⟩) ?_
                    refine m_get_10 hC hin (by decide +kernel) dX10_twin_197 ?_
                    refine g_imulN (a := 16) (b := S.1 10) hC dX10_twin_200 ?_
                    refine g_iload hC dX10_twin_201 0 rfl ?_
                    refine g_iaddN (a := 16 * (S.1 10)) (b := i) hC dX10_twin_203 ?_
                    refine g_aload_n hC dX10_twin_204 rfl 4 rfl (Or.inr ⟨_, rfl⟩) ?_
                    refine m_get_12 hC hin (by decide +kernel) dX10_twin_205 ?_
                    refine g_bipush hC dX10_twin_208 (v := nI 16) (by decide) ?_
                    refine g_iload hC dX10_twin_210 1 rfl ?_
                    refine g_imulN (a := 16) (b := wh S qj) hC dX10_twin_212 ?_
                    refine g_iload hC dX10_twin_213 0 rfl ?_
                    refine g_iaddN (a := 16 * (wh S qj)) (b := i) hC dX10_twin_215 ?_
                    refine m_aldN (k := 12) (j := (16 * (wh S qj)) + i) hC hm (by decide) rfl rfl rfl dX10_twin_216 (show _ < 9600 from (by omega)) ?_
                    refine m_astN (k := 12) (j := (16 * (S.1 10)) + i) (x := ((aNr (aN (aSc S 0 0) 11 (S.1 10) (longS S qj)) 12 (16 * S.1 10) i (fun k => S.2.1 12 (16 * wh S qj + k)))).2.1 12 ((16 * (wh S qj)) + i)) hC hm (by decide) rfl (fun _ => rfl) rfl dX10_twin_217 (show _ < 9600 from (by omega)) ?_
                    refine g_iincN (n := 1) (a := i) (lv' := [(6, .int (nI (i + 1))), (5, .int (nI (wh S qj))), (4, .int (nI (longS S qj))), (3, .int (nI (kd S qj))), (0, .ref o), (1, .int (nI pj)), (2, .int (nI qj))]) hC dX10_twin_218 0 rfl (by decide) rfl ?_
                    refine g_goto (tgt := 183) hC dX10_twin_221 (by decide) ?_
                    have e0 : aN (aNr (aN (aSc S 0 0) 11 (S.1 10) (longS S qj)) 12 (16 * S.1 10) i (fun k => S.2.1 12 (16 * wh S qj + k))) 12 (16 * S.1 10 + i) (S.2.1 12 (16 * wh S qj + i)) = aNr (aN (aSc S 0 0) 11 (S.1 10) (longS S qj)) 12 (16 * S.1 10) (i + 1) (fun k => S.2.1 12 (16 * wh S qj + k)) := aNr_s (g := fun k => S.2.1 12 (16 * wh S qj + k))
                    rw [hrd (by omega), e0]
                    exact ih (i + 1) (by omega) (by omega)
              rw [← aNr_0 (S := (aN (aSc S 0 0) 11 (S.1 10) (longS S qj))) (k := 12) (base := 16 * S.1 10) (g := fun k => S.2.1 12 (16 * wh S qj + k))]
              exact lp 18 0 (by omega) (by omega)
            · refine g_aload_n hC dX10_twin_91 rfl 3 rfl (Or.inr ⟨_, rfl⟩) ?_
              refine m_get_8 hC hin (by decide +kernel) dX10_twin_92 ?_
              refine g_aload_n hC dX10_twin_95 rfl 3 rfl (Or.inr ⟨_, rfl⟩) ?_
              refine m_get_7 hC hin (by decide +kernel) dX10_twin_96 ?_
              refine g_iload hC dX10_twin_99 1 rfl ?_
              refine m_astN (k := 8) (j := S.1 7) (x := longS S qj) hC hm (by decide) rfl (fun _ => rfl) rfl dX10_twin_101 (show _ < 600 from (by omega)) ?_
              refine g_iconst hC dX10_twin_102 (v := nI 0) (by decide) ?_
              refine g_istore (lv' := [(6, .int (nI 0)), (5, .int (nI (wh S qj))), (4, .int (nI (longS S qj))), (3, .int (nI (kd S qj))), (0, .ref o), (1, .int (nI pj)), (2, .int (nI qj))]) hC dX10_twin_103 (by decide) rfl ?_
              have hwk := hI.ws hqj (by omega)
              have lp : ∀ (m : Nat) (i : Nat), 17 - i < m → (i ≤ 16) → gW X vwCl 7 (mL o ad) (mW o ad cy (aWr (aN (aSc S 0 0) 8 (S.1 7) (longS S qj)) 9 (16 * S.1 7) i (fun k => S.2.2 9 (16 * wh S qj + k)))) 0 0 105 [(6, .int (nI i)), (5, .int (nI (wh S qj))), (4, .int (nI (longS S qj))), (3, .int (nI (kd S qj))), (0, .ref o), (1, .int (nI pj)), (2, .int (nI qj))] [] := by
                intro m
                induction m with
                | zero => intros; omega
                | succ m ih =>
                  intro i hm9 hi9
                  have hrd : i < 16 → (aWr (aN (aSc S 0 0) 8 (S.1 7) (longS S qj)) 9 (16 * S.1 7) i (fun k => S.2.2 9 (16 * wh S qj + k))).2.2 9 (16 * wh S qj + i) = S.2.2 9 (16 * wh S qj + i) := by
                    intro hk8
                    simp only [aWr, aSc, aN, va_up, if_pos]
                    rw [if_neg (by omega)]
                    try rfl
                  refine g_iload hC dX10_twin_105 0 rfl ?_
                  refine g_bipush hC dX10_twin_107 (v := nI 16) (by decide) ?_
                  refine g_icmpN_ge (a := i) (b := 16) (tgt := 146) hC dX10_twin_109 (by decide) (by omega) (by omega) (fun h109 => ?_) (fun h109 => ?_)
                  · obtain rfl : i = 16 := by omega
                    refine g_aload_n hC dX10_twin_146 rfl 4 rfl (Or.inr ⟨_, rfl⟩) ?_
                    refine g_iload_n hC dX10_twin_147 rfl 5 rfl ?_
                    refine g_iconst hC dX10_twin_148 (v := nI 2) (by decide) ?_
                    refine g_aload_n hC dX10_twin_149 rfl 4 rfl (Or.inr ⟨_, rfl⟩) ?_
                    refine m_get_7 hC hin (by decide +kernel) dX10_twin_150 ?_
                    refine g_Vv (As := [.int (nI pj), .int (nI 2), .int (nI (S.1 7))]) (st := []) hC 3 dX10_twin_153 rfl mL_o mW_o gX10_twin_X10_hold rfl (by decide +kernel) ⟨Nat.le_of_ble_eq_true rfl, Nat.le_of_ble_eq_true rfl⟩ rfl (Nat.le_of_ble_eq_true rfl) ⟨Nat.le_of_ble_eq_true rfl, Nat.le_of_ble_eq_true rfl⟩ (c2 := 0) (s2 := 0) rfl rfl (c_hold hk hm pj 2 (S.1 7) (by omega)) ?_
                    refine g_aload_n hC dX10_twin_156 rfl 4 rfl (Or.inr ⟨_, rfl⟩) ?_
                    refine g_dup hC dX10_twin_157 rfl ?_
                    refine m_get_7 hC hin (by decide +kernel) dX10_twin_158 ?_
                    refine g_iconst hC dX10_twin_161 (v := nI 1) (by decide) ?_
                    refine g_iaddN (a := S.1 7) (b := 1) hC dX10_twin_162 ?_
                    refine m_put_7 (x := (S.1 7) + 1) hC hin (by decide +kernel) dX10_twin_163 ?_
                    refine g_goto (tgt := 244) hC dX10_twin_166 (by decide) ?_
                    refine g_iload hC dX10_twin_244 2 rfl ?_
                    exact g_iret hC hR dX10_twin_246 (pE_i (by simp only [s_twin, hpl_p, hpl_q]; (repeat' split) <;> first | with_reducible rfl | contradiction | (exfalso; omega) | (rw [bI_t (by first | assumption | omega)]; rfl) | (rw [bI_f (by first | assumption | omega)]; rfl) | (exfalso; rename_i hz; exact absurd hz (by decide)) | (exfalso; rename_i hz; first | exact absurd hz.1 (by assumption) | exact absurd hz.2 (by assumption)) | (exfalso; simp only [Int32.lt_iff_toInt_lt, Int32.le_iff_toInt_le] at *; omega) | (exfalso; simp_all; done) | (simp_all; done) | rfl))
                  · refine g_aload_n hC dX10_twin_112 rfl 4 rfl (Or.inr ⟨_, rfl⟩) ?_
                    refine m_get_9 hC hin (by decide +kernel) dX10_twin_113 ?_
                    refine g_bipush hC dX10_twin_116 (v := nI 16) (by decide) ?_
                    refine g_aload_n hC dX10_twin_118 rfl 4 rfl (Or.inr ⟨_, rfl⟩) ?_
                    refine m_get_7 hC hin (by decide +kernel) dX10_twin_119 ?_
                    refine g_imulN (a := 16) (b := S.1 7) hC dX10_twin_122 ?_
                    refine g_iload hC dX10_twin_123 0 rfl ?_
                    refine g_iaddN (a := 16 * (S.1 7)) (b := i) hC dX10_twin_125 ?_
                    refine g_aload_n hC dX10_twin_126 rfl 4 rfl (Or.inr ⟨_, rfl⟩) ?_
                    refine m_get_9 hC hin (by decide +kernel) dX10_twin_127 ?_
                    refine g_bipush hC dX10_twin_130 (v := nI 16) (by decide) ?_
                    refine g_iload hC dX10_twin_132 1 rfl ?_
                    refine g_imulN (a := 16) (b := wh S qj) hC dX10_twin_134 ?_
                    refine g_iload hC dX10_twin_135 0 rfl ?_
                    refine g_iaddN (a := 16 * (wh S qj)) (b := i) hC dX10_twin_137 ?_
                    refine m_aldW (k := 9) (j := (16 * (wh S qj)) + i) hC hm (by decide) rfl rfl rfl dX10_twin_138 (show _ < 9600 from (by omega)) ?_
                    refine m_astW (k := 9) (j := (16 * (S.1 7)) + i) (x := ((aWr (aN (aSc S 0 0) 8 (S.1 7) (longS S qj)) 9 (16 * S.1 7) i (fun k => S.2.2 9 (16 * wh S qj + k)))).2.2 9 ((16 * (wh S qj)) + i)) hC hm (by decide) rfl (fun _ => rfl) rfl dX10_twin_139 (show _ < 9600 from (by omega)) ?_
                    refine g_iincN (n := 1) (a := i) (lv' := [(6, .int (nI (i + 1))), (5, .int (nI (wh S qj))), (4, .int (nI (longS S qj))), (3, .int (nI (kd S qj))), (0, .ref o), (1, .int (nI pj)), (2, .int (nI qj))]) hC dX10_twin_140 0 rfl (by decide) rfl ?_
                    refine g_goto (tgt := 105) hC dX10_twin_143 (by decide) ?_
                    have e0 : aW (aWr (aN (aSc S 0 0) 8 (S.1 7) (longS S qj)) 9 (16 * S.1 7) i (fun k => S.2.2 9 (16 * wh S qj + k))) 9 (16 * S.1 7 + i) (S.2.2 9 (16 * wh S qj + i)) = aWr (aN (aSc S 0 0) 8 (S.1 7) (longS S qj)) 9 (16 * S.1 7) (i + 1) (fun k => S.2.2 9 (16 * wh S qj + k)) := aWr_s (g := fun k => S.2.2 9 (16 * wh S qj + k))
                    rw [hrd (by omega), e0]
                    exact ih (i + 1) (by omega) (by omega)
              rw [← aWr_0 (S := (aN (aSc S 0 0) 8 (S.1 7) (longS S qj))) (k := 9) (base := 16 * S.1 7) (g := fun k => S.2.2 9 (16 * wh S qj + k))]
              exact lp 18 0 (by omega) (by omega)
          · refine g_aload_n hC dX10_twin_71 rfl 3 rfl (Or.inr ⟨_, rfl⟩) ?_
            refine g_iload_n hC dX10_twin_72 rfl 4 rfl ?_
            refine g_iconst hC dX10_twin_73 (v := nI 1) (by decide) ?_
            refine g_aload_n hC dX10_twin_74 rfl 3 rfl (Or.inr ⟨_, rfl⟩) ?_
            refine g_iload hC dX10_twin_75 0 rfl ?_
            have hwl := hI.wl hqj (by omega)
            refine g_V (As := [.int (nI (wh S qj))]) (st := [.int (nI 1), .int (nI pj), .ref o]) hC 1 dX10_twin_77 rfl mL_o mW_o gX10_twin_X10_twinOf rfl (by decide +kernel) ⟨Nat.le_of_ble_eq_true rfl, Nat.le_of_ble_eq_true rfl⟩ rfl (Nat.le_of_ble_eq_true rfl) ⟨Nat.le_of_ble_eq_true rfl, Nat.le_of_ble_eq_true rfl⟩ (c2 := 0) (s2 := 0) rfl rfl (c_twinOf hk hm (wh S qj) hw_q (by show S.1 4 < 40000; omega) (by show _ < S.1 4; omega)) ?_
            refine g_Vv (As := [.int (nI pj), .int (nI 1), .int (nI (S.1 4))]) (st := []) hC 3 dX10_twin_80 rfl mL_o mW_o gX10_twin_X10_hold rfl (by decide +kernel) ⟨Nat.le_of_ble_eq_true rfl, Nat.le_of_ble_eq_true rfl⟩ rfl (Nat.le_of_ble_eq_true rfl) ⟨Nat.le_of_ble_eq_true rfl, Nat.le_of_ble_eq_true rfl⟩ (c2 := 0) (s2 := 0) rfl rfl (c_hold hk hm pj 1 (S.1 4) (by omega)) ?_
            refine g_goto (tgt := 244) hC dX10_twin_83 (by decide) ?_
            refine g_iload hC dX10_twin_244 1 rfl ?_
            exact g_iret hC hR dX10_twin_246 (pE_i (by simp only [s_twin, hpl_p, hpl_q]; (repeat' split) <;> first | with_reducible rfl | contradiction | (exfalso; omega) | (rw [bI_t (by first | assumption | omega)]; rfl) | (rw [bI_f (by first | assumption | omega)]; rfl) | (exfalso; rename_i hz; exact absurd hz (by decide)) | (exfalso; rename_i hz; first | exact absurd hz.1 (by assumption) | exact absurd hz.2 (by assumption)) | (exfalso; simp only [Int32.lt_iff_toInt_lt, Int32.le_iff_toInt_le] at *; omega) | (exfalso; simp_all; done) | (simp_all; done) | rfl))
        · refine g_aload_n hC dX10_twin_37 rfl 1 rfl (Or.inr ⟨_, rfl⟩) ?_
          refine g_iload_n hC dX10_twin_38 rfl 0 rfl ?_
          refine g_ifN_ne (a := kd S qj) (tgt := 46) hC dX10_twin_39 (by decide) (by omega) (fun h39 => ?_) (fun h39 => ?_)
          · refine g_iconst hC dX10_twin_46 (v := nI 2) (by decide) ?_
            refine g_V (As := [.int (nI 2)]) (st := []) hC 1 dX10_twin_47 rfl mL_o mW_o gX10_twin_X10_fails rfl (by decide +kernel) ⟨Nat.le_of_ble_eq_true rfl, Nat.le_of_ble_eq_true rfl⟩ rfl (Nat.le_of_ble_eq_true rfl) ⟨Nat.le_of_ble_eq_true rfl, Nat.le_of_ble_eq_true rfl⟩ (c2 := 0) (s2 := 0) rfl rfl (c_fails hk hm 2) ?_
            exact g_iret hC hR dX10_twin_50 (pE_i (by simp only [s_twin, hpl_p, hpl_q]; (repeat' split) <;> first | with_reducible rfl | contradiction | (exfalso; omega) | (rw [bI_t (by first | assumption | omega)]; rfl) | (rw [bI_f (by first | assumption | omega)]; rfl) | (exfalso; rename_i hz; exact absurd hz (by decide)) | (exfalso; rename_i hz; first | exact absurd hz.1 (by assumption) | exact absurd hz.2 (by assumption)) | (exfalso; simp only [Int32.lt_iff_toInt_lt, Int32.le_iff_toInt_le] at *; omega) | (exfalso; simp_all; done) | (simp_all; done) | rfl))
          · exact absurd h39 h29
    · refine g_iconst hC dX10_twin_19 (v := (-1)) (by decide) ?_
      exact g_iret hC hR dX10_twin_20 (pE_i (by simp only [s_twin, hpl_p]; (repeat' split) <;> first | with_reducible rfl | contradiction | (exfalso; omega) | (rw [bI_t (by first | assumption | omega)]; rfl) | (rw [bI_f (by first | assumption | omega)]; rfl) | (exfalso; rename_i hz; exact absurd hz (by decide)) | (exfalso; rename_i hz; first | exact absurd hz.1 (by assumption) | exact absurd hz.2 (by assumption)) | (exfalso; simp only [Int32.lt_iff_toInt_lt, Int32.le_iff_toInt_le] at *; omega) | (exfalso; simp_all; done) | (simp_all; done) | rfl))
set_option maxRecDepth 20000 in
set_option maxHeartbeats 4000000 in
theorem c_copy (hk : gKok D vwCl (cyT cy) K) (hm : mOk o ad) (hI : aI S) (p : Int32) (a : Int32) (q : Int32) (b : Int32) (n : Int32) : gCt l D vwCl K yX10_copy wsX10_copy { frames := 2, cells := 0, slots := 0, locals := 42 } [.ref o, .int p, .int a, .int q, .int b, .int n] (mL o ad) (mW o ad cy S) (pE (some (.int (s_copy S p a q b n).1)) (mL o ad) (mW o ad cy (s_copy S p a q b n).2)) := by
  refine gCt.of hk (by decide) rfl rfl (fun X hC hR hnm => ?_)
  have hC : gC X l _ D vwCl (cyT cy) K cX10_copy 9 wsX10_copy RX10 := hC
  have hin : ∀ w ∈ wsX100, w ∈ wsX10_copy := by decide +kernel
  show gW X vwCl 9 (mL o ad) (mW o ad cy S) 0 0 0 [(0, .ref o), (1, .int p), (2, .int a), (3, .int q), (4, .int b), (5, .int n)] []
  have hnb := hI.nb
  refine g_aload_n hC dX10_copy_0 rfl 0 rfl (Or.inr ⟨_, rfl⟩) ?_
  refine g_iconst hC dX10_copy_1 (v := nI 0) (by decide) ?_
  refine m_put_0 (x := 0) hC hin (by decide +kernel) dX10_copy_2 ?_
  refine g_iload_n hC dX10_copy_5 rfl 1 rfl ?_
  refine g_S (As := [.int p]) (st := []) hC 1 dX10_copy_6 gX10_copy_X10_isPlace rfl (by decide +kernel) ⟨Nat.le_of_ble_eq_true rfl, Nat.le_of_ble_eq_true rfl⟩ rfl (Nat.le_of_ble_eq_true rfl) ⟨Nat.le_of_ble_eq_true rfl, Nat.le_of_ble_eq_true rfl⟩ (c2 := 0) (s2 := 0) rfl rfl (c_isPlace hk _) ?_
  refine g_ifB_eq (P := isP p) (tgt := 19) hC dX10_copy_9 (by decide) (fun h9 => ?_) (fun h9 => ?_)
  · refine g_iconst hC dX10_copy_19 (v := (-1)) (by decide) ?_
    exact g_iret hC hR dX10_copy_20 (pE_i (by simp only [s_copy]; (repeat' split) <;> first | with_reducible rfl | contradiction | (exfalso; omega) | (rw [bI_t (by first | assumption | omega)]; rfl) | (rw [bI_f (by first | assumption | omega)]; rfl) | (exfalso; rename_i hz; exact absurd hz (by decide)) | (exfalso; rename_i hz; first | exact absurd hz.1 (by assumption) | exact absurd hz.2 (by assumption)) | (exfalso; simp only [Int32.lt_iff_toInt_lt, Int32.le_iff_toInt_le] at *; omega) | (exfalso; simp_all; done) | (simp_all; done) | rfl))
  · obtain ⟨pj, hpj, rfl⟩ := isP_j h9
    have hpl_p : pl (nI pj) = pj := nI_clamp (by omega)
    have h5_p := hI.k5 hpj
    have hw_p := hI.wb hpj
    refine g_iload_n hC dX10_copy_12 rfl 3 rfl ?_
    refine g_S (As := [.int q]) (st := []) hC 1 dX10_copy_13 gX10_copy_X10_isPlace rfl (by decide +kernel) ⟨Nat.le_of_ble_eq_true rfl, Nat.le_of_ble_eq_true rfl⟩ rfl (Nat.le_of_ble_eq_true rfl) ⟨Nat.le_of_ble_eq_true rfl, Nat.le_of_ble_eq_true rfl⟩ (c2 := 0) (s2 := 0) rfl rfl (c_isPlace hk _) ?_
    refine g_ifB_ne (P := isP q) (tgt := 21) hC dX10_copy_16 (by decide) (fun h16 => ?_) (fun h16 => ?_)
    · obtain ⟨qj, hqj, rfl⟩ := isP_j h16
      have hpl_q : pl (nI qj) = qj := nI_clamp (by omega)
      have h5_q := hI.k5 hqj
      have hw_q := hI.wb hqj
      refine g_aload_n hC dX10_copy_21 rfl 0 rfl (Or.inr ⟨_, rfl⟩) ?_
      refine m_get_2 hC hin (by decide +kernel) dX10_copy_22 ?_
      refine g_iload_n hC dX10_copy_25 rfl 1 rfl ?_
      refine m_aldN (k := 2) (j := pj) hC hm (by decide) rfl rfl rfl dX10_copy_26 (show _ < 10 from (by omega)) ?_
      refine g_ifN_eq (a := kd S pj) (tgt := 39) hC dX10_copy_27 (by decide) (by omega) (fun h27 => ?_) (fun h27 => ?_)
      · refine g_aload_n hC dX10_copy_39 rfl 0 rfl (Or.inr ⟨_, rfl⟩) ?_
        refine g_iconst hC dX10_copy_40 (v := nI 1) (by decide) ?_
        refine g_V (As := [.int (nI 1)]) (st := []) hC 1 dX10_copy_41 rfl mL_o mW_o gX10_copy_X10_fails rfl (by decide +kernel) ⟨Nat.le_of_ble_eq_true rfl, Nat.le_of_ble_eq_true rfl⟩ rfl (Nat.le_of_ble_eq_true rfl) ⟨Nat.le_of_ble_eq_true rfl, Nat.le_of_ble_eq_true rfl⟩ (c2 := 0) (s2 := 0) rfl rfl (c_fails hk hm 1) ?_
        exact g_iret hC hR dX10_copy_44 (pE_i (by simp only [s_copy, hpl_p, hpl_q]; (repeat' split) <;> first | with_reducible rfl | contradiction | (exfalso; omega) | (rw [bI_t (by first | assumption | omega)]; rfl) | (rw [bI_f (by first | assumption | omega)]; rfl) | (exfalso; rename_i hz; exact absurd hz (by decide)) | (exfalso; rename_i hz; first | exact absurd hz.1 (by assumption) | exact absurd hz.2 (by assumption)) | (exfalso; simp only [Int32.lt_iff_toInt_lt, Int32.le_iff_toInt_le] at *; omega) | (exfalso; simp_all; done) | (simp_all; done) | rfl))
      · refine g_aload_n hC dX10_copy_30 rfl 0 rfl (Or.inr ⟨_, rfl⟩) ?_
        refine m_get_2 hC hin (by decide +kernel) dX10_copy_31 ?_
        refine g_iload_n hC dX10_copy_34 rfl 3 rfl ?_
        refine m_aldN (k := 2) (j := qj) hC hm (by decide) rfl rfl rfl dX10_copy_35 (show _ < 10 from (by omega)) ?_
        refine g_ifN_ne (a := kd S qj) (tgt := 45) hC dX10_copy_36 (by decide) (by omega) (fun h36 => ?_) (fun h36 => ?_)
        · refine g_aload_n hC dX10_copy_45 rfl 0 rfl (Or.inr ⟨_, rfl⟩) ?_
          refine m_get_2 hC hin (by decide +kernel) dX10_copy_46 ?_
          refine g_iload_n hC dX10_copy_49 rfl 1 rfl ?_
          refine m_aldN (k := 2) (j := pj) hC hm (by decide) rfl rfl rfl dX10_copy_50 (show _ < 10 from (by omega)) ?_
          refine g_istore (lv' := [(6, .int (nI (kd S pj))), (0, .ref o), (1, .int (nI pj)), (2, .int a), (3, .int (nI qj)), (4, .int b), (5, .int n)]) hC dX10_copy_51 (by decide) rfl ?_
          refine g_iload hC dX10_copy_53 0 rfl ?_
          refine g_iconst hC dX10_copy_55 (v := nI 3) (by decide) ?_
          refine g_icmpN_gt (a := kd S pj) (b := 3) (tgt := 70) hC dX10_copy_56 (by decide) (by omega) (by omega) (fun h56 => ?_) (fun h56 => ?_)
          · refine g_aload_n hC dX10_copy_70 rfl 1 rfl (Or.inr ⟨_, rfl⟩) ?_
            refine g_iconst hC dX10_copy_71 (v := nI 4) (by decide) ?_
            refine g_V (As := [.int (nI 4)]) (st := []) hC 1 dX10_copy_72 rfl mL_o mW_o gX10_copy_X10_fails rfl (by decide +kernel) ⟨Nat.le_of_ble_eq_true rfl, Nat.le_of_ble_eq_true rfl⟩ rfl (Nat.le_of_ble_eq_true rfl) ⟨Nat.le_of_ble_eq_true rfl, Nat.le_of_ble_eq_true rfl⟩ (c2 := 0) (s2 := 0) rfl rfl (c_fails hk hm 4) ?_
            exact g_iret hC hR dX10_copy_75 (pE_i (by simp only [s_copy, hpl_p, hpl_q]; (repeat' split) <;> first | with_reducible rfl | contradiction | (exfalso; omega) | (rw [bI_t (by first | assumption | omega)]; rfl) | (rw [bI_f (by first | assumption | omega)]; rfl) | (exfalso; rename_i hz; exact absurd hz (by decide)) | (exfalso; rename_i hz; first | exact absurd hz.1 (by assumption) | exact absurd hz.2 (by assumption)) | (exfalso; simp only [Int32.lt_iff_toInt_lt, Int32.le_iff_toInt_le] at *; omega) | (exfalso; simp_all; done) | (simp_all; done) | rfl))
          · refine g_iload hC dX10_copy_59 0 rfl ?_
            refine g_aload_n hC dX10_copy_61 rfl 1 rfl (Or.inr ⟨_, rfl⟩) ?_
            refine m_get_2 hC hin (by decide +kernel) dX10_copy_62 ?_
            refine g_iload_n hC dX10_copy_65 rfl 4 rfl ?_
            refine m_aldN (k := 2) (j := qj) hC hm (by decide) rfl rfl rfl dX10_copy_66 (show _ < 10 from (by omega)) ?_
            refine g_icmpN_eq (a := kd S pj) (b := kd S qj) (tgt := 76) hC dX10_copy_67 (by decide) (by omega) (by omega) (fun h67 => ?_) (fun h67 => ?_)
            · refine g_iload_n hC dX10_copy_76 rfl 3 rfl ?_
              refine g_if_lt (x := a) (tgt := 115) hC dX10_copy_77 (by decide) (fun h77 => ?_) (fun h77 => ?_)
              · refine g_aload_n hC dX10_copy_115 rfl 1 rfl (Or.inr ⟨_, rfl⟩) ?_
                refine g_iconst hC dX10_copy_116 (v := nI 3) (by decide) ?_
                refine g_V (As := [.int (nI 3)]) (st := []) hC 1 dX10_copy_117 rfl mL_o mW_o gX10_copy_X10_fails rfl (by decide +kernel) ⟨Nat.le_of_ble_eq_true rfl, Nat.le_of_ble_eq_true rfl⟩ rfl (Nat.le_of_ble_eq_true rfl) ⟨Nat.le_of_ble_eq_true rfl, Nat.le_of_ble_eq_true rfl⟩ (c2 := 0) (s2 := 0) rfl rfl (c_fails hk hm 3) ?_
                exact g_iret hC hR dX10_copy_120 (pE_i (by simp only [s_copy, hpl_p, hpl_q]; (repeat' split) <;> first | with_reducible rfl | contradiction | (exfalso; omega) | (rw [bI_t (by first | assumption | omega)]; rfl) | (rw [bI_f (by first | assumption | omega)]; rfl) | (exfalso; rename_i hz; exact absurd hz (by decide)) | (exfalso; rename_i hz; first | exact absurd hz.1 (by assumption) | exact absurd hz.2 (by assumption)) | (exfalso; simp only [Int32.lt_iff_toInt_lt, Int32.le_iff_toInt_le] at *; omega) | (exfalso; simp_all; done) | (simp_all; done) | rfl))
              · refine g_iload hC dX10_copy_80 5 rfl ?_
                refine g_if_lt (x := b) (tgt := 115) hC dX10_copy_82 (by decide) (fun h82 => ?_) (fun h82 => ?_)
                · refine g_aload_n hC dX10_copy_115 rfl 1 rfl (Or.inr ⟨_, rfl⟩) ?_
                  refine g_iconst hC dX10_copy_116 (v := nI 3) (by decide) ?_
                  refine g_V (As := [.int (nI 3)]) (st := []) hC 1 dX10_copy_117 rfl mL_o mW_o gX10_copy_X10_fails rfl (by decide +kernel) ⟨Nat.le_of_ble_eq_true rfl, Nat.le_of_ble_eq_true rfl⟩ rfl (Nat.le_of_ble_eq_true rfl) ⟨Nat.le_of_ble_eq_true rfl, Nat.le_of_ble_eq_true rfl⟩ (c2 := 0) (s2 := 0) rfl rfl (c_fails hk hm 3) ?_
                  exact g_iret hC hR dX10_copy_120 (pE_i (by simp only [s_copy, hpl_p, hpl_q]; (repeat' split) <;> first | with_reducible rfl | contradiction | (exfalso; omega) | (rw [bI_t (by first | assumption | omega)]; rfl) | (rw [bI_f (by first | assumption | omega)]; rfl) | (exfalso; rename_i hz; exact absurd hz (by decide)) | (exfalso; rename_i hz; first | exact absurd hz.1 (by assumption) | exact absurd hz.2 (by assumption)) | (exfalso; simp only [Int32.lt_iff_toInt_lt, Int32.le_iff_toInt_le] at *; omega) | (exfalso; simp_all; done) | (simp_all; done) | rfl))
                · refine g_iload hC dX10_copy_85 6 rfl ?_
                  refine g_if_lt (x := n) (tgt := 115) hC dX10_copy_87 (by decide) (fun h87 => ?_) (fun h87 => ?_)
                  · refine g_aload_n hC dX10_copy_115 rfl 1 rfl (Or.inr ⟨_, rfl⟩) ?_
                    refine g_iconst hC dX10_copy_116 (v := nI 3) (by decide) ?_
                    refine g_V (As := [.int (nI 3)]) (st := []) hC 1 dX10_copy_117 rfl mL_o mW_o gX10_copy_X10_fails rfl (by decide +kernel) ⟨Nat.le_of_ble_eq_true rfl, Nat.le_of_ble_eq_true rfl⟩ rfl (Nat.le_of_ble_eq_true rfl) ⟨Nat.le_of_ble_eq_true rfl, Nat.le_of_ble_eq_true rfl⟩ (c2 := 0) (s2 := 0) rfl rfl (c_fails hk hm 3) ?_
                    exact g_iret hC hR dX10_copy_120 (pE_i (by simp only [s_copy, hpl_p, hpl_q]; (repeat' split) <;> first | with_reducible rfl | contradiction | (exfalso; omega) | (rw [bI_t (by first | assumption | omega)]; rfl) | (rw [bI_f (by first | assumption | omega)]; rfl) | (exfalso; rename_i hz; exact absurd hz (by decide)) | (exfalso; rename_i hz; first | exact absurd hz.1 (by assumption) | exact absurd hz.2 (by assumption)) | (exfalso; simp only [Int32.lt_iff_toInt_lt, Int32.le_iff_toInt_le] at *; omega) | (exfalso; simp_all; done) | (simp_all; done) | rfl))
                  · refine g_iload_n hC dX10_copy_90 rfl 3 rfl ?_
                    refine g_aload_n hC dX10_copy_91 rfl 1 rfl (Or.inr ⟨_, rfl⟩) ?_
                    refine g_iload_n hC dX10_copy_92 rfl 2 rfl ?_
                    have hl_pj := hI.lg hpj (by omega) (by omega)
                    refine g_V (As := [.int (nI pj)]) (st := [.int a]) hC 1 dX10_copy_93 rfl mL_o mW_o gX10_copy_X10_longOf rfl (by decide +kernel) ⟨Nat.le_of_ble_eq_true rfl, Nat.le_of_ble_eq_true rfl⟩ rfl (Nat.le_of_ble_eq_true rfl) ⟨Nat.le_of_ble_eq_true rfl, Nat.le_of_ble_eq_true rfl⟩ (c2 := 0) (s2 := 0) rfl rfl (c_longOf hk hm pj hpj (hI.k5 hpj) (hI.w1 hpj) (hI.w2 hpj)) ?_
                    refine g_iload hC dX10_copy_96 6 rfl ?_
                    refine g_isub hC dX10_copy_98 ?_
                    refine g_icmp_gt (x := a) (y := (nI (longS S pj)) - n) (tgt := 115) hC dX10_copy_99 (by decide) (fun h99 => ?_) (fun h99 => ?_)
                    · refine g_aload_n hC dX10_copy_115 rfl 1 rfl (Or.inr ⟨_, rfl⟩) ?_
                      refine g_iconst hC dX10_copy_116 (v := nI 3) (by decide) ?_
                      refine g_V (As := [.int (nI 3)]) (st := []) hC 1 dX10_copy_117 rfl mL_o mW_o gX10_copy_X10_fails rfl (by decide +kernel) ⟨Nat.le_of_ble_eq_true rfl, Nat.le_of_ble_eq_true rfl⟩ rfl (Nat.le_of_ble_eq_true rfl) ⟨Nat.le_of_ble_eq_true rfl, Nat.le_of_ble_eq_true rfl⟩ (c2 := 0) (s2 := 0) rfl rfl (c_fails hk hm 3) ?_
                      exact g_iret hC hR dX10_copy_120 (pE_i (by simp only [s_copy, hpl_p, hpl_q]; (repeat' split) <;> first | with_reducible rfl | contradiction | (exfalso; omega) | (rw [bI_t (by first | assumption | omega)]; rfl) | (rw [bI_f (by first | assumption | omega)]; rfl) | (exfalso; rename_i hz; exact absurd hz (by decide)) | (exfalso; rename_i hz; first | exact absurd hz.1 (by assumption) | exact absurd hz.2 (by assumption)) | (exfalso; simp only [Int32.lt_iff_toInt_lt, Int32.le_iff_toInt_le] at *; omega) | (exfalso; simp_all; done) | (simp_all; done) | rfl))
                    · refine g_iload hC dX10_copy_102 5 rfl ?_
                      refine g_aload_n hC dX10_copy_104 rfl 1 rfl (Or.inr ⟨_, rfl⟩) ?_
                      refine g_iload_n hC dX10_copy_105 rfl 4 rfl ?_
                      have hl_qj := hI.lg hqj (by omega) (by omega)
                      refine g_V (As := [.int (nI qj)]) (st := [.int b]) hC 1 dX10_copy_106 rfl mL_o mW_o gX10_copy_X10_longOf rfl (by decide +kernel) ⟨Nat.le_of_ble_eq_true rfl, Nat.le_of_ble_eq_true rfl⟩ rfl (Nat.le_of_ble_eq_true rfl) ⟨Nat.le_of_ble_eq_true rfl, Nat.le_of_ble_eq_true rfl⟩ (c2 := 0) (s2 := 0) rfl rfl (c_longOf hk hm qj hqj (hI.k5 hqj) (hI.w1 hqj) (hI.w2 hqj)) ?_
                      refine g_iload hC dX10_copy_109 6 rfl ?_
                      refine g_isub hC dX10_copy_111 ?_
                      refine g_icmp_le (x := b) (y := (nI (longS S qj)) - n) (tgt := 121) hC dX10_copy_112 (by decide) (fun h112 => ?_) (fun h112 => ?_)
                      · obtain ⟨aj, nj, hanj, rfl, rfl⟩ := cpy_of hl_pj h77 h87 (le_of_nlt32 h99)
                        obtain ⟨bj, nj2, hbnj, rfl, en⟩ := cpy_of hl_qj h82 h87 h112
                        have hnL := aI.lg hI hpj (by omega) (by omega)
                        obtain rfl : nj = nj2 := (nI_eq (by omega) (by omega)).mp en
                        have hpl_a : pl (nI aj) = aj := nI_clamp (by omega)
                        have hpl_b : pl (nI bj) = bj := nI_clamp (by omega)
                        have hpl_n : pl (nI nj) = nj := nI_clamp (by omega)
                        have ek : kd S qj = kd S pj := by omega
                        have hwp := hI.w2 hpj
                        have hwq := hI.w2 hqj
                        rcases (show kd S pj = 1 ∨ kd S pj = 2 ∨ kd S pj = 3 by omega) with e1 | e1 | e1
                        · have e2 : kd S qj = 1 := by omega
                          have hwk_q := hI.wl hqj e2
                          have lp2 : ∀ (m : Nat) (i : Nat), nj - i < m → i ≤ nj → gW X vwCl 9 (mL o ad) (mW o ad cy (aWr (aWr (aSc S 0 0) 25 0 nj (fun i => atS S pj (aj + i))) 6 (16 * wh S qj + bj) i (fun i => atS S pj (aj + i)))) 0 0 156 [(7, .int (nI i)), (6, .int (nI (kd S pj))), (0, .ref o), (1, .int (nI pj)), (2, .int (nI aj)), (3, .int (nI qj)), (4, .int (nI bj)), (5, .int (nI nj))] [] := by
                            intro m
                            induction m with
                            | zero => intros; omega
                            | succ m ih =>
                              intro i hm9 hi9
                              have hh : i < nj → ((aWr (aWr (aSc S 0 0) 25 0 nj (fun i => atS S pj (aj + i))) 6 (16 * wh S qj + bj) i (fun i => atS S pj (aj + i)))).2.2 25 i = atS S pj (aj + i) := by
                                intro h8
                                simp only [aWr, aNr, va_up, if_pos]
                                simp [h8]
                              refine g_iload hC dX10_copy_156 0 rfl ?_
                              refine g_iload hC dX10_copy_158 7 rfl ?_
                              refine g_icmpN_ge (a := i) (b := nj) (tgt := 246) hC dX10_copy_160 (by decide) (by omega) (by omega) (fun h160 => ?_) (fun h160 => ?_)
                              · have e8 : nj = i := by omega
                                subst e8
                                refine g_iconst hC dX10_copy_246 (v := nI 1) (by decide) ?_
                                have ecp : cpyS (thS S) pj aj qj bj nj = (aWr (aWr (aSc S 0 0) 25 0 nj (fun i => atS S pj (aj + i))) 6 (16 * wh S qj + bj) nj (fun i => atS S pj (aj + i))) := by
                                  unfold cpyS
                                  rw [if_pos (show kd (thS S) pj = 1 from e1)]
                                  rfl
                                rw [← ecp]
                                have hn_a : ¬ nI aj < 0 := nI_pos (by omega)
                                have hn_b : ¬ nI bj < 0 := nI_pos (by omega)
                                have hn_n : ¬ nI nj < 0 := nI_pos (by omega)
                                exact g_iret hC hR dX10_copy_247 (pE_i (by simp only [s_copy, hpl_p, hpl_q, hpl_a, hpl_b, hpl_n]; (repeat' split) <;> first | with_reducible rfl | contradiction | (exfalso; omega) | (rw [bI_t (by first | assumption | omega)]; rfl) | (rw [bI_f (by first | assumption | omega)]; rfl) | (exfalso; rename_i hz; exact absurd hz (by decide)) | (exfalso; rename_i hz; first | exact absurd hz.1 (by assumption) | exact absurd hz.2 (by assumption)) | (exfalso; simp only [Int32.lt_iff_toInt_lt, Int32.le_iff_toInt_le] at *; omega) | (exfalso; simp_all; done) | (simp_all; done) | rfl))
                              · refine g_bipush hC dX10_copy_163 (v := nI 16) (by decide) ?_
                                refine g_aload_n hC dX10_copy_165 rfl 2 rfl (Or.inr ⟨_, rfl⟩) ?_
                                refine m_get_3 hC hin (by decide +kernel) dX10_copy_166 ?_
                                refine g_iload_n hC dX10_copy_169 rfl 5 rfl ?_
                                refine m_aldN (k := 3) (j := qj) hC hm (by decide) rfl rfl rfl dX10_copy_170 (show _ < 10 from (by omega)) ?_
                                refine g_imulN (a := 16) (b := wh S qj) hC dX10_copy_171 ?_
                                refine g_iload hC dX10_copy_172 6 rfl ?_
                                refine g_iaddN (a := 16 * (wh S qj)) (b := bj) hC dX10_copy_174 ?_
                                refine g_iload hC dX10_copy_175 0 rfl ?_
                                refine g_iaddN (a := (16 * (wh S qj)) + bj) (b := i) hC dX10_copy_177 ?_
                                refine g_istore (lv' := [(8, .int (nI (((16 * (wh S qj)) + bj) + i))), (7, .int (nI i)), (6, .int (nI (kd S pj))), (0, .ref o), (1, .int (nI pj)), (2, .int (nI aj)), (3, .int (nI qj)), (4, .int (nI bj)), (5, .int (nI nj))]) hC dX10_copy_178 (by decide) rfl ?_
                                refine g_iload hC dX10_copy_180 2 rfl ?_
                                refine g_iconst hC dX10_copy_182 (v := nI 1) (by decide) ?_
                                refine g_icmpN_ne (a := kd S pj) (b := 1) (tgt := 203) hC dX10_copy_183 (by decide) (by omega) (by omega) (fun h183 => ?_) (fun h183 => ?_)
                                · exfalso; omega
                                · refine g_aload_n hC dX10_copy_186 rfl 3 rfl (Or.inr ⟨_, rfl⟩) ?_
                                  refine m_get_6 hC hin (by decide +kernel) dX10_copy_187 ?_
                                  refine g_iload hC dX10_copy_190 0 rfl ?_
                                  refine g_aload_n hC dX10_copy_192 rfl 3 rfl (Or.inr ⟨_, rfl⟩) ?_
                                  refine m_get_25 hC hin (by decide +kernel) dX10_copy_193 ?_
                                  refine g_iload hC dX10_copy_196 1 rfl ?_
                                  refine m_aldW (k := 25) (j := i) hC hm (by decide) rfl rfl rfl dX10_copy_198 (show _ < 16 from (by omega)) ?_
                                  refine g_val (w := .int (atS S pj (aj + i))) (by rw [hh (by omega)]) ?_
                                  refine m_astW (k := 6) (j := ((16 * (wh S qj)) + bj) + i) (x := atS S pj (aj + i)) hC hm (by decide) rfl (fun _ => rfl) rfl dX10_copy_199 (show _ < 640000 from (by omega)) ?_
                                  refine g_goto (tgt := 240) hC dX10_copy_200 (by decide) ?_
                                  refine g_iincN (n := 1) (a := i) (lv' := [(7, .int (nI (i + 1))), (8, .int (nI (((16 * (wh S qj)) + bj) + i))), (6, .int (nI (kd S pj))), (0, .ref o), (1, .int (nI pj)), (2, .int (nI aj)), (3, .int (nI qj)), (4, .int (nI bj)), (5, .int (nI nj))]) hC dX10_copy_240 1 rfl (by decide) rfl ?_
                                  refine g_goto (tgt := 156) hC dX10_copy_243 (by decide) ?_
                                  refine g_lv (lv' := [(7, .int (nI (i + 1))), (6, .int (nI (kd S pj))), (0, .ref o), (1, .int (nI pj)), (2, .int (nI aj)), (3, .int (nI qj)), (4, .int (nI bj)), (5, .int (nI nj))]) [0, 2, 3, 4, 5, 6, 7, 8] rfl ?_
                                  have e0 : aW (aWr (aWr (aSc S 0 0) 25 0 nj (fun i => atS S pj (aj + i))) 6 (16 * wh S qj + bj) i (fun i => atS S pj (aj + i))) 6 (16 * wh S qj + bj + i) (atS S pj (aj + i)) = aWr (aWr (aSc S 0 0) 25 0 nj (fun i => atS S pj (aj + i))) 6 (16 * wh S qj + bj) (i + 1) (fun i => atS S pj (aj + i)) := aWr_s (g := fun i => atS S pj (aj + i))
                                  rw [e0]
                                  exact ih (i + 1) (by omega) (by omega)
                          have lp1 : ∀ (m : Nat) (i : Nat), nj - i < m → (i ≤ nj) → gW X vwCl 9 (mL o ad) (mW o ad cy (aWr (aSc S 0 0) 25 0 i (fun i => atS S pj (aj + i)))) 0 0 124 [(7, .int (nI i)), (6, .int (nI (kd S pj))), (0, .ref o), (1, .int (nI pj)), (2, .int (nI aj)), (3, .int (nI qj)), (4, .int (nI bj)), (5, .int (nI nj))] [] := by
                            intro m
                            induction m with
                            | zero => intros; omega
                            | succ m ih =>
                              intro i hm9 hi9
                              refine g_iload hC dX10_copy_124 0 rfl ?_
                              refine g_iload hC dX10_copy_126 7 rfl ?_
                              refine g_icmpN_ge (a := i) (b := nj) (tgt := 153) hC dX10_copy_128 (by decide) (by omega) (by omega) (fun h128 => ?_) (fun h128 => ?_)
                              · have e8 : nj = i := by omega
                                subst e8
                                refine g_iconst hC dX10_copy_153 (v := nI 0) (by decide) ?_
                                refine g_istore (lv' := [(7, .int (nI 0)), (6, .int (nI (kd S pj))), (0, .ref o), (1, .int (nI pj)), (2, .int (nI aj)), (3, .int (nI qj)), (4, .int (nI bj)), (5, .int (nI nj))]) hC dX10_copy_154 (by decide) rfl ?_
                                rw [← aWr_0 (S := (aWr (aSc S 0 0) 25 0 nj (fun i => atS S pj (aj + i)))) (k := 6) (base := 16 * wh S qj + bj) (g := fun i => atS S pj (aj + i))]
                                exact lp2 (nj + 1) 0 (by omega) (by omega)
                              · refine g_aload_n hC dX10_copy_131 rfl 2 rfl (Or.inr ⟨_, rfl⟩) ?_
                                refine m_get_25 hC hin (by decide +kernel) dX10_copy_132 ?_
                                refine g_iload hC dX10_copy_135 0 rfl ?_
                                refine g_aload_n hC dX10_copy_137 rfl 2 rfl (Or.inr ⟨_, rfl⟩) ?_
                                refine g_iload_n hC dX10_copy_138 rfl 3 rfl ?_
                                refine g_iload_n hC dX10_copy_139 rfl 4 rfl ?_
                                refine g_iload hC dX10_copy_140 0 rfl ?_
                                refine g_iaddN (a := aj) (b := i) hC dX10_copy_142 ?_
                                refine g_V (As := [.int (nI pj), .int (nI (aj + i))]) (st := [.int (nI i), .ref (ad 25)]) hC 2 dX10_copy_143 rfl mL_o mW_o gX10_copy_X10_at rfl (by decide +kernel) ⟨Nat.le_of_ble_eq_true rfl, Nat.le_of_ble_eq_true rfl⟩ rfl (Nat.le_of_ble_eq_true rfl) ⟨Nat.le_of_ble_eq_true rfl, Nat.le_of_ble_eq_true rfl⟩ (c2 := 0) (s2 := 0) rfl rfl (c_at hk hm pj (aj + i) (by omega) hpj (hI.k5 hpj) (hI.w1 hpj) (hI.w2 hpj)) ?_
                                refine m_astW (k := 25) (j := i) (x := atS S pj (aj + i)) hC hm (by decide) rfl (fun _ => rfl) rfl dX10_copy_146 (show _ < 16 from (by omega)) ?_
                                refine g_iincN (n := 1) (a := i) (lv' := [(7, .int (nI (i + 1))), (6, .int (nI (kd S pj))), (0, .ref o), (1, .int (nI pj)), (2, .int (nI aj)), (3, .int (nI qj)), (4, .int (nI bj)), (5, .int (nI nj))]) hC dX10_copy_147 0 rfl (by decide) rfl ?_
                                refine g_goto (tgt := 124) hC dX10_copy_150 (by decide) ?_
                                have e0 : aW (aWr (aSc S 0 0) 25 0 i (fun i => atS S pj (aj + i))) 25 i (atS S pj (aj + i)) = aWr (aSc S 0 0) 25 0 (i + 1) (fun i => atS S pj (aj + i)) := by
                                  have := aWr_s (S := (aSc S 0 0)) (k := 25) (base := 0) (i := i) (g := fun i => atS S pj (aj + i))
                                  rwa [Nat.zero_add] at this
                                rw [e0]
                                exact ih (i + 1) (by omega) (by omega)
                          refine g_iconst hC dX10_copy_121 (v := nI 0) (by decide) ?_
                          refine g_istore (lv' := [(7, .int (nI 0)), (6, .int (nI (kd S pj))), (0, .ref o), (1, .int (nI pj)), (2, .int (nI aj)), (3, .int (nI qj)), (4, .int (nI bj)), (5, .int (nI nj))]) hC dX10_copy_122 (by decide) rfl ?_
                          rw [← aWr_0 (S := (aSc S 0 0)) (k := 25) (base := 0) (g := fun i => atS S pj (aj + i))]
                          exact lp1 (nj + 1) 0 (by omega) (by omega)
                        · have e2 : kd S qj = 2 := by omega
                          have hwk_q := hI.ws hqj e2
                          have lp2 : ∀ (m : Nat) (i : Nat), nj - i < m → i ≤ nj → gW X vwCl 9 (mL o ad) (mW o ad cy (aWr (aWr (aSc S 0 0) 25 0 nj (fun i => atS S pj (aj + i))) 9 (16 * wh S qj + bj) i (fun i => atS S pj (aj + i)))) 0 0 156 [(7, .int (nI i)), (6, .int (nI (kd S pj))), (0, .ref o), (1, .int (nI pj)), (2, .int (nI aj)), (3, .int (nI qj)), (4, .int (nI bj)), (5, .int (nI nj))] [] := by
                            intro m
                            induction m with
                            | zero => intros; omega
                            | succ m ih =>
                              intro i hm9 hi9
                              have hh : i < nj → ((aWr (aWr (aSc S 0 0) 25 0 nj (fun i => atS S pj (aj + i))) 9 (16 * wh S qj + bj) i (fun i => atS S pj (aj + i)))).2.2 25 i = atS S pj (aj + i) := by
                                intro h8
                                simp only [aWr, aNr, va_up, if_pos]
                                simp [h8]
                              refine g_iload hC dX10_copy_156 0 rfl ?_
                              refine g_iload hC dX10_copy_158 7 rfl ?_
                              refine g_icmpN_ge (a := i) (b := nj) (tgt := 246) hC dX10_copy_160 (by decide) (by omega) (by omega) (fun h160 => ?_) (fun h160 => ?_)
                              · have e8 : nj = i := by omega
                                subst e8
                                refine g_iconst hC dX10_copy_246 (v := nI 1) (by decide) ?_
                                have ecp : cpyS (thS S) pj aj qj bj nj = (aWr (aWr (aSc S 0 0) 25 0 nj (fun i => atS S pj (aj + i))) 9 (16 * wh S qj + bj) nj (fun i => atS S pj (aj + i))) := by
                                  unfold cpyS
                                  rw [if_neg (show ¬ kd (thS S) pj = 1 from by show ¬ kd S pj = 1; omega), if_pos (show kd (thS S) pj = 2 from e1)]
                                  rfl
                                rw [← ecp]
                                have hn_a : ¬ nI aj < 0 := nI_pos (by omega)
                                have hn_b : ¬ nI bj < 0 := nI_pos (by omega)
                                have hn_n : ¬ nI nj < 0 := nI_pos (by omega)
                                exact g_iret hC hR dX10_copy_247 (pE_i (by simp only [s_copy, hpl_p, hpl_q, hpl_a, hpl_b, hpl_n]; (repeat' split) <;> first | with_reducible rfl | contradiction | (exfalso; omega) | (rw [bI_t (by first | assumption | omega)]; rfl) | (rw [bI_f (by first | assumption | omega)]; rfl) | (exfalso; rename_i hz; exact absurd hz (by decide)) | (exfalso; rename_i hz; first | exact absurd hz.1 (by assumption) | exact absurd hz.2 (by assumption)) | (exfalso; simp only [Int32.lt_iff_toInt_lt, Int32.le_iff_toInt_le] at *; omega) | (exfalso; simp_all; done) | (simp_all; done) | rfl))
                              · refine g_bipush hC dX10_copy_163 (v := nI 16) (by decide) ?_
                                refine g_aload_n hC dX10_copy_165 rfl 2 rfl (Or.inr ⟨_, rfl⟩) ?_
                                refine m_get_3 hC hin (by decide +kernel) dX10_copy_166 ?_
                                refine g_iload_n hC dX10_copy_169 rfl 5 rfl ?_
                                refine m_aldN (k := 3) (j := qj) hC hm (by decide) rfl rfl rfl dX10_copy_170 (show _ < 10 from (by omega)) ?_
                                refine g_imulN (a := 16) (b := wh S qj) hC dX10_copy_171 ?_
                                refine g_iload hC dX10_copy_172 6 rfl ?_
                                refine g_iaddN (a := 16 * (wh S qj)) (b := bj) hC dX10_copy_174 ?_
                                refine g_iload hC dX10_copy_175 0 rfl ?_
                                refine g_iaddN (a := (16 * (wh S qj)) + bj) (b := i) hC dX10_copy_177 ?_
                                refine g_istore (lv' := [(8, .int (nI (((16 * (wh S qj)) + bj) + i))), (7, .int (nI i)), (6, .int (nI (kd S pj))), (0, .ref o), (1, .int (nI pj)), (2, .int (nI aj)), (3, .int (nI qj)), (4, .int (nI bj)), (5, .int (nI nj))]) hC dX10_copy_178 (by decide) rfl ?_
                                refine g_iload hC dX10_copy_180 2 rfl ?_
                                refine g_iconst hC dX10_copy_182 (v := nI 1) (by decide) ?_
                                refine g_icmpN_ne (a := kd S pj) (b := 1) (tgt := 203) hC dX10_copy_183 (by decide) (by omega) (by omega) (fun h183 => ?_) (fun h183 => ?_)
                                · refine g_iload hC dX10_copy_203 2 rfl ?_
                                  refine g_iconst hC dX10_copy_205 (v := nI 2) (by decide) ?_
                                  refine g_icmpN_ne (a := kd S pj) (b := 2) (tgt := 226) hC dX10_copy_206 (by decide) (by omega) (by omega) (fun h206 => ?_) (fun h206 => ?_)
                                  · exfalso; omega
                                  · refine g_aload_n hC dX10_copy_209 rfl 3 rfl (Or.inr ⟨_, rfl⟩) ?_
                                    refine m_get_9 hC hin (by decide +kernel) dX10_copy_210 ?_
                                    refine g_iload hC dX10_copy_213 0 rfl ?_
                                    refine g_aload_n hC dX10_copy_215 rfl 3 rfl (Or.inr ⟨_, rfl⟩) ?_
                                    refine m_get_25 hC hin (by decide +kernel) dX10_copy_216 ?_
                                    refine g_iload hC dX10_copy_219 1 rfl ?_
                                    refine m_aldW (k := 25) (j := i) hC hm (by decide) rfl rfl rfl dX10_copy_221 (show _ < 16 from (by omega)) ?_
                                    refine g_val (w := .int (atS S pj (aj + i))) (by rw [hh (by omega)]) ?_
                                    refine m_astW (k := 9) (j := ((16 * (wh S qj)) + bj) + i) (x := atS S pj (aj + i)) hC hm (by decide) rfl (fun _ => rfl) rfl dX10_copy_222 (show _ < 9600 from (by omega)) ?_
                                    refine g_goto (tgt := 240) hC dX10_copy_223 (by decide) ?_
                                    refine g_iincN (n := 1) (a := i) (lv' := [(7, .int (nI (i + 1))), (8, .int (nI (((16 * (wh S qj)) + bj) + i))), (6, .int (nI (kd S pj))), (0, .ref o), (1, .int (nI pj)), (2, .int (nI aj)), (3, .int (nI qj)), (4, .int (nI bj)), (5, .int (nI nj))]) hC dX10_copy_240 1 rfl (by decide) rfl ?_
                                    refine g_goto (tgt := 156) hC dX10_copy_243 (by decide) ?_
                                    refine g_lv (lv' := [(7, .int (nI (i + 1))), (6, .int (nI (kd S pj))), (0, .ref o), (1, .int (nI pj)), (2, .int (nI aj)), (3, .int (nI qj)), (4, .int (nI bj)), (5, .int (nI nj))]) [0, 2, 3, 4, 5, 6, 7, 8] rfl ?_
                                    have e0 : aW (aWr (aWr (aSc S 0 0) 25 0 nj (fun i => atS S pj (aj + i))) 9 (16 * wh S qj + bj) i (fun i => atS S pj (aj + i))) 9 (16 * wh S qj + bj + i) (atS S pj (aj + i)) = aWr (aWr (aSc S 0 0) 25 0 nj (fun i => atS S pj (aj + i))) 9 (16 * wh S qj + bj) (i + 1) (fun i => atS S pj (aj + i)) := aWr_s (g := fun i => atS S pj (aj + i))
                                    rw [e0]
                                    exact ih (i + 1) (by omega) (by omega)
                                · exfalso; omega
                          have lp1 : ∀ (m : Nat) (i : Nat), nj - i < m → (i ≤ nj) → gW X vwCl 9 (mL o ad) (mW o ad cy (aWr (aSc S 0 0) 25 0 i (fun i => atS S pj (aj + i)))) 0 0 124 [(7, .int (nI i)), (6, .int (nI (kd S pj))), (0, .ref o), (1, .int (nI pj)), (2, .int (nI aj)), (3, .int (nI qj)), (4, .int (nI bj)), (5, .int (nI nj))] [] := by
                            intro m
                            induction m with
                            | zero => intros; omega
                            | succ m ih =>
                              intro i hm9 hi9
                              refine g_iload hC dX10_copy_124 0 rfl ?_
                              refine g_iload hC dX10_copy_126 7 rfl ?_
                              refine g_icmpN_ge (a := i) (b := nj) (tgt := 153) hC dX10_copy_128 (by decide) (by omega) (by omega) (fun h128 => ?_) (fun h128 => ?_)
                              · have e8 : nj = i := by omega
                                subst e8
                                refine g_iconst hC dX10_copy_153 (v := nI 0) (by decide) ?_
                                refine g_istore (lv' := [(7, .int (nI 0)), (6, .int (nI (kd S pj))), (0, .ref o), (1, .int (nI pj)), (2, .int (nI aj)), (3, .int (nI qj)), (4, .int (nI bj)), (5, .int (nI nj))]) hC dX10_copy_154 (by decide) rfl ?_
                                rw [← aWr_0 (S := (aWr (aSc S 0 0) 25 0 nj (fun i => atS S pj (aj + i)))) (k := 9) (base := 16 * wh S qj + bj) (g := fun i => atS S pj (aj + i))]
                                exact lp2 (nj + 1) 0 (by omega) (by omega)
                              · refine g_aload_n hC dX10_copy_131 rfl 2 rfl (Or.inr ⟨_, rfl⟩) ?_
                                refine m_get_25 hC hin (by decide +kernel) dX10_copy_132 ?_
                                refine g_iload hC dX10_copy_135 0 rfl ?_
                                refine g_aload_n hC dX10_copy_137 rfl 2 rfl (Or.inr ⟨_, rfl⟩) ?_
                                refine g_iload_n hC dX10_copy_138 rfl 3 rfl ?_
                                refine g_iload_n hC dX10_copy_139 rfl 4 rfl ?_
                                refine g_iload hC dX10_copy_140 0 rfl ?_
                                refine g_iaddN (a := aj) (b := i) hC dX10_copy_142 ?_
                                refine g_V (As := [.int (nI pj), .int (nI (aj + i))]) (st := [.int (nI i), .ref (ad 25)]) hC 2 dX10_copy_143 rfl mL_o mW_o gX10_copy_X10_at rfl (by decide +kernel) ⟨Nat.le_of_ble_eq_true rfl, Nat.le_of_ble_eq_true rfl⟩ rfl (Nat.le_of_ble_eq_true rfl) ⟨Nat.le_of_ble_eq_true rfl, Nat.le_of_ble_eq_true rfl⟩ (c2 := 0) (s2 := 0) rfl rfl (c_at hk hm pj (aj + i) (by omega) hpj (hI.k5 hpj) (hI.w1 hpj) (hI.w2 hpj)) ?_
                                refine m_astW (k := 25) (j := i) (x := atS S pj (aj + i)) hC hm (by decide) rfl (fun _ => rfl) rfl dX10_copy_146 (show _ < 16 from (by omega)) ?_
                                refine g_iincN (n := 1) (a := i) (lv' := [(7, .int (nI (i + 1))), (6, .int (nI (kd S pj))), (0, .ref o), (1, .int (nI pj)), (2, .int (nI aj)), (3, .int (nI qj)), (4, .int (nI bj)), (5, .int (nI nj))]) hC dX10_copy_147 0 rfl (by decide) rfl ?_
                                refine g_goto (tgt := 124) hC dX10_copy_150 (by decide) ?_
                                have e0 : aW (aWr (aSc S 0 0) 25 0 i (fun i => atS S pj (aj + i))) 25 i (atS S pj (aj + i)) = aWr (aSc S 0 0) 25 0 (i + 1) (fun i => atS S pj (aj + i)) := by
                                  have := aWr_s (S := (aSc S 0 0)) (k := 25) (base := 0) (i := i) (g := fun i => atS S pj (aj + i))
                                  rwa [Nat.zero_add] at this
                                rw [e0]
                                exact ih (i + 1) (by omega) (by omega)
                          refine g_iconst hC dX10_copy_121 (v := nI 0) (by decide) ?_
                          refine g_istore (lv' := [(7, .int (nI 0)), (6, .int (nI (kd S pj))), (0, .ref o), (1, .int (nI pj)), (2, .int (nI aj)), (3, .int (nI qj)), (4, .int (nI bj)), (5, .int (nI nj))]) hC dX10_copy_122 (by decide) rfl ?_
                          rw [← aWr_0 (S := (aSc S 0 0)) (k := 25) (base := 0) (g := fun i => atS S pj (aj + i))]
                          exact lp1 (nj + 1) 0 (by omega) (by omega)
                        · have e2 : kd S qj = 3 := by omega
                          have hwk_q := hI.wr hqj e2
                          have lp2 : ∀ (m : Nat) (i : Nat), nj - i < m → i ≤ nj → gW X vwCl 9 (mL o ad) (mW o ad cy (aNr (aWr (aSc S 0 0) 25 0 nj (fun i => atS S pj (aj + i))) 12 (16 * wh S qj + bj) i (fun i => S.2.1 12 (16 * wh S pj + (aj + i))))) 0 0 156 [(7, .int (nI i)), (6, .int (nI (kd S pj))), (0, .ref o), (1, .int (nI pj)), (2, .int (nI aj)), (3, .int (nI qj)), (4, .int (nI bj)), (5, .int (nI nj))] [] := by
                            intro m
                            induction m with
                            | zero => intros; omega
                            | succ m ih =>
                              intro i hm9 hi9
                              have hh : i < nj → ((aNr (aWr (aSc S 0 0) 25 0 nj (fun i => atS S pj (aj + i))) 12 (16 * wh S qj + bj) i (fun i => S.2.1 12 (16 * wh S pj + (aj + i))))).2.2 25 i = atS S pj (aj + i) := by
                                intro h8
                                simp only [aWr, aNr, va_up, if_pos]
                                simp [h8]
                              refine g_iload hC dX10_copy_156 0 rfl ?_
                              refine g_iload hC dX10_copy_158 7 rfl ?_
                              refine g_icmpN_ge (a := i) (b := nj) (tgt := 246) hC dX10_copy_160 (by decide) (by omega) (by omega) (fun h160 => ?_) (fun h160 => ?_)
                              · have e8 : nj = i := by omega
                                subst e8
                                refine g_iconst hC dX10_copy_246 (v := nI 1) (by decide) ?_
                                have ecp : cpyS (thS S) pj aj qj bj nj = (aNr (aWr (aSc S 0 0) 25 0 nj (fun i => atS S pj (aj + i))) 12 (16 * wh S qj + bj) nj (fun i => S.2.1 12 (16 * wh S pj + (aj + i)))) := by
                                  unfold cpyS
                                  rw [if_neg (show ¬ kd (thS S) pj = 1 from by show ¬ kd S pj = 1; omega), if_neg (show ¬ kd (thS S) pj = 2 from by show ¬ kd S pj = 2; omega)]
                                  rfl
                                rw [← ecp]
                                have hn_a : ¬ nI aj < 0 := nI_pos (by omega)
                                have hn_b : ¬ nI bj < 0 := nI_pos (by omega)
                                have hn_n : ¬ nI nj < 0 := nI_pos (by omega)
                                exact g_iret hC hR dX10_copy_247 (pE_i (by simp only [s_copy, hpl_p, hpl_q, hpl_a, hpl_b, hpl_n]; (repeat' split) <;> first | with_reducible rfl | contradiction | (exfalso; omega) | (rw [bI_t (by first | assumption | omega)]; rfl) | (rw [bI_f (by first | assumption | omega)]; rfl) | (exfalso; rename_i hz; exact absurd hz (by decide)) | (exfalso; rename_i hz; first | exact absurd hz.1 (by assumption) | exact absurd hz.2 (by assumption)) | (exfalso; simp only [Int32.lt_iff_toInt_lt, Int32.le_iff_toInt_le] at *; omega) | (exfalso; simp_all; done) | (simp_all; done) | rfl))
                              · refine g_bipush hC dX10_copy_163 (v := nI 16) (by decide) ?_
                                refine g_aload_n hC dX10_copy_165 rfl 2 rfl (Or.inr ⟨_, rfl⟩) ?_
                                refine m_get_3 hC hin (by decide +kernel) dX10_copy_166 ?_
                                refine g_iload_n hC dX10_copy_169 rfl 5 rfl ?_
                                refine m_aldN (k := 3) (j := qj) hC hm (by decide) rfl rfl rfl dX10_copy_170 (show _ < 10 from (by omega)) ?_
                                refine g_imulN (a := 16) (b := wh S qj) hC dX10_copy_171 ?_
                                refine g_iload hC dX10_copy_172 6 rfl ?_
                                refine g_iaddN (a := 16 * (wh S qj)) (b := bj) hC dX10_copy_174 ?_
                                refine g_iload hC dX10_copy_175 0 rfl ?_
                                refine g_iaddN (a := (16 * (wh S qj)) + bj) (b := i) hC dX10_copy_177 ?_
                                refine g_istore (lv' := [(8, .int (nI (((16 * (wh S qj)) + bj) + i))), (7, .int (nI i)), (6, .int (nI (kd S pj))), (0, .ref o), (1, .int (nI pj)), (2, .int (nI aj)), (3, .int (nI qj)), (4, .int (nI bj)), (5, .int (nI nj))]) hC dX10_copy_178 (by decide) rfl ?_
                                refine g_iload hC dX10_copy_180 2 rfl ?_
                                refine g_iconst hC dX10_copy_182 (v := nI 1) (by decide) ?_
                                refine g_icmpN_ne (a := kd S pj) (b := 1) (tgt := 203) hC dX10_copy_183 (by decide) (by omega) (by omega) (fun h183 => ?_) (fun h183 => ?_)
                                · refine g_iload hC dX10_copy_203 2 rfl ?_
                                  refine g_iconst hC dX10_copy_205 (v := nI 2) (by decide) ?_
                                  refine g_icmpN_ne (a := kd S pj) (b := 2) (tgt := 226) hC dX10_copy_206 (by decide) (by omega) (by omega) (fun h206 => ?_) (fun h206 => ?_)
                                  · refine g_aload_n hC dX10_copy_226 rfl 3 rfl (Or.inr ⟨_, rfl⟩) ?_
                                    refine m_get_12 hC hin (by decide +kernel) dX10_copy_227 ?_
                                    refine g_iload hC dX10_copy_230 0 rfl ?_
                                    refine g_aload_n hC dX10_copy_232 rfl 3 rfl (Or.inr ⟨_, rfl⟩) ?_
                                    refine m_get_25 hC hin (by decide +kernel) dX10_copy_233 ?_
                                    refine g_iload hC dX10_copy_236 1 rfl ?_
                                    refine m_aldW (k := 25) (j := i) hC hm (by decide) rfl rfl rfl dX10_copy_238 (show _ < 16 from (by omega)) ?_
                                    refine g_val (w := .int (nI (S.2.1 12 (16 * wh S pj + (aj + i))))) (by rw [hh (by omega), atS_3 (S := S) e1]) ?_
                                    refine m_astN (k := 12) (j := ((16 * (wh S qj)) + bj) + i) (x := S.2.1 12 (16 * wh S pj + (aj + i))) hC hm (by decide) rfl (fun _ => rfl) rfl dX10_copy_239 (show _ < 9600 from (by omega)) ?_
                                    refine g_iincN (n := 1) (a := i) (lv' := [(7, .int (nI (i + 1))), (8, .int (nI (((16 * (wh S qj)) + bj) + i))), (6, .int (nI (kd S pj))), (0, .ref o), (1, .int (nI pj)), (2, .int (nI aj)), (3, .int (nI qj)), (4, .int (nI bj)), (5, .int (nI nj))]) hC dX10_copy_240 1 rfl (by decide) rfl ?_
                                    refine g_goto (tgt := 156) hC dX10_copy_243 (by decide) ?_
                                    refine g_lv (lv' := [(7, .int (nI (i + 1))), (6, .int (nI (kd S pj))), (0, .ref o), (1, .int (nI pj)), (2, .int (nI aj)), (3, .int (nI qj)), (4, .int (nI bj)), (5, .int (nI nj))]) [0, 2, 3, 4, 5, 6, 7, 8] rfl ?_
                                    have e0 : aN (aNr (aWr (aSc S 0 0) 25 0 nj (fun i => atS S pj (aj + i))) 12 (16 * wh S qj + bj) i (fun i => S.2.1 12 (16 * wh S pj + (aj + i)))) 12 (16 * wh S qj + bj + i) (S.2.1 12 (16 * wh S pj + (aj + i))) = aNr (aWr (aSc S 0 0) 25 0 nj (fun i => atS S pj (aj + i))) 12 (16 * wh S qj + bj) (i + 1) (fun i => S.2.1 12 (16 * wh S pj + (aj + i))) := aNr_s (g := fun i => S.2.1 12 (16 * wh S pj + (aj + i)))
                                    rw [e0]
                                    exact ih (i + 1) (by omega) (by omega)
                                  · exfalso; omega
                                · exfalso; omega
                          have lp1 : ∀ (m : Nat) (i : Nat), nj - i < m → (i ≤ nj) → gW X vwCl 9 (mL o ad) (mW o ad cy (aWr (aSc S 0 0) 25 0 i (fun i => atS S pj (aj + i)))) 0 0 124 [(7, .int (nI i)), (6, .int (nI (kd S pj))), (0, .ref o), (1, .int (nI pj)), (2, .int (nI aj)), (3, .int (nI qj)), (4, .int (nI bj)), (5, .int (nI nj))] [] := by
                            intro m
                            induction m with
                            | zero => intros; omega
                            | succ m ih =>
                              intro i hm9 hi9
                              refine g_iload hC dX10_copy_124 0 rfl ?_
                              refine g_iload hC dX10_copy_126 7 rfl ?_
                              refine g_icmpN_ge (a := i) (b := nj) (tgt := 153) hC dX10_copy_128 (by decide) (by omega) (by omega) (fun h128 => ?_) (fun h128 => ?_)
                              · have e8 : nj = i := by omega
                                subst e8
                                refine g_iconst hC dX10_copy_153 (v := nI 0) (by decide) ?_
                                refine g_istore (lv' := [(7, .int (nI 0)), (6, .int (nI (kd S pj))), (0, .ref o), (1, .int (nI pj)), (2, .int (nI aj)), (3, .int (nI qj)), (4, .int (nI bj)), (5, .int (nI nj))]) hC dX10_copy_154 (by decide) rfl ?_
                                rw [← aNr_0 (S := (aWr (aSc S 0 0) 25 0 nj (fun i => atS S pj (aj + i)))) (k := 12) (base := 16 * wh S qj + bj) (g := fun i => S.2.1 12 (16 * wh S pj + (aj + i)))]
                                exact lp2 (nj + 1) 0 (by omega) (by omega)
                              · refine g_aload_n hC dX10_copy_131 rfl 2 rfl (Or.inr ⟨_, rfl⟩) ?_
                                refine m_get_25 hC hin (by decide +kernel) dX10_copy_132 ?_
                                refine g_iload hC dX10_copy_135 0 rfl ?_
                                refine g_aload_n hC dX10_copy_137 rfl 2 rfl (Or.inr ⟨_, rfl⟩) ?_
                                refine g_iload_n hC dX10_copy_138 rfl 3 rfl ?_
                                refine g_iload_n hC dX10_copy_139 rfl 4 rfl ?_
                                refine g_iload hC dX10_copy_140 0 rfl ?_
                                refine g_iaddN (a := aj) (b := i) hC dX10_copy_142 ?_
                                refine g_V (As := [.int (nI pj), .int (nI (aj + i))]) (st := [.int (nI i), .ref (ad 25)]) hC 2 dX10_copy_143 rfl mL_o mW_o gX10_copy_X10_at rfl (by decide +kernel) ⟨Nat.le_of_ble_eq_true rfl, Nat.le_of_ble_eq_true rfl⟩ rfl (Nat.le_of_ble_eq_true rfl) ⟨Nat.le_of_ble_eq_true rfl, Nat.le_of_ble_eq_true rfl⟩ (c2 := 0) (s2 := 0) rfl rfl (c_at hk hm pj (aj + i) (by omega) hpj (hI.k5 hpj) (hI.w1 hpj) (hI.w2 hpj)) ?_
                                refine m_astW (k := 25) (j := i) (x := atS S pj (aj + i)) hC hm (by decide) rfl (fun _ => rfl) rfl dX10_copy_146 (show _ < 16 from (by omega)) ?_
                                refine g_iincN (n := 1) (a := i) (lv' := [(7, .int (nI (i + 1))), (6, .int (nI (kd S pj))), (0, .ref o), (1, .int (nI pj)), (2, .int (nI aj)), (3, .int (nI qj)), (4, .int (nI bj)), (5, .int (nI nj))]) hC dX10_copy_147 0 rfl (by decide) rfl ?_
                                refine g_goto (tgt := 124) hC dX10_copy_150 (by decide) ?_
                                have e0 : aW (aWr (aSc S 0 0) 25 0 i (fun i => atS S pj (aj + i))) 25 i (atS S pj (aj + i)) = aWr (aSc S 0 0) 25 0 (i + 1) (fun i => atS S pj (aj + i)) := by
                                  have := aWr_s (S := (aSc S 0 0)) (k := 25) (base := 0) (i := i) (g := fun i => atS S pj (aj + i))
                                  rwa [Nat.zero_add] at this
                                rw [e0]
                                exact ih (i + 1) (by omega) (by omega)
                          refine g_iconst hC dX10_copy_121 (v := nI 0) (by decide) ?_
                          refine g_istore (lv' := [(7, .int (nI 0)), (6, .int (nI (kd S pj))), (0, .ref o), (1, .int (nI pj)), (2, .int (nI aj)), (3, .int (nI qj)), (4, .int (nI bj)), (5, .int (nI nj))]) hC dX10_copy_122 (by decide) rfl ?_
                          rw [← aWr_0 (S := (aSc S 0 0)) (k := 25) (base := 0) (g := fun i => atS S pj (aj + i))]
                          exact lp1 (nj + 1) 0 (by omega) (by omega)
                      · refine g_aload_n hC dX10_copy_115 rfl 1 rfl (Or.inr ⟨_, rfl⟩) ?_
                        refine g_iconst hC dX10_copy_116 (v := nI 3) (by decide) ?_
                        refine g_V (As := [.int (nI 3)]) (st := []) hC 1 dX10_copy_117 rfl mL_o mW_o gX10_copy_X10_fails rfl (by decide +kernel) ⟨Nat.le_of_ble_eq_true rfl, Nat.le_of_ble_eq_true rfl⟩ rfl (Nat.le_of_ble_eq_true rfl) ⟨Nat.le_of_ble_eq_true rfl, Nat.le_of_ble_eq_true rfl⟩ (c2 := 0) (s2 := 0) rfl rfl (c_fails hk hm 3) ?_
                        exact g_iret hC hR dX10_copy_120 (pE_i (by simp only [s_copy, hpl_p, hpl_q]; (repeat' split) <;> first | with_reducible rfl | contradiction | (exfalso; omega) | (rw [bI_t (by first | assumption | omega)]; rfl) | (rw [bI_f (by first | assumption | omega)]; rfl) | (exfalso; rename_i hz; exact absurd hz (by decide)) | (exfalso; rename_i hz; first | exact absurd hz.1 (by assumption) | exact absurd hz.2 (by assumption)) | (exfalso; simp only [Int32.lt_iff_toInt_lt, Int32.le_iff_toInt_le] at *; omega) | (exfalso; simp_all; done) | (simp_all; done) | rfl))
            · refine g_aload_n hC dX10_copy_70 rfl 1 rfl (Or.inr ⟨_, rfl⟩) ?_
              refine g_iconst hC dX10_copy_71 (v := nI 4) (by decide) ?_
              refine g_V (As := [.int (nI 4)]) (st := []) hC 1 dX10_copy_72 rfl mL_o mW_o gX10_copy_X10_fails rfl (by decide +kernel) ⟨Nat.le_of_ble_eq_true rfl, Nat.le_of_ble_eq_true rfl⟩ rfl (Nat.le_of_ble_eq_true rfl) ⟨Nat.le_of_ble_eq_true rfl, Nat.le_of_ble_eq_true rfl⟩ (c2 := 0) (s2 := 0) rfl rfl (c_fails hk hm 4) ?_
              exact g_iret hC hR dX10_copy_75 (pE_i (by simp only [s_copy, hpl_p, hpl_q]; (repeat' split) <;> first | with_reducible rfl | contradiction | (exfalso; omega) | (rw [bI_t (by first | assumption | omega)]; rfl) | (rw [bI_f (by first | assumption | omega)]; rfl) | (exfalso; rename_i hz; exact absurd hz (by decide)) | (exfalso; rename_i hz; first | exact absurd hz.1 (by assumption) | exact absurd hz.2 (by assumption)) | (exfalso; simp only [Int32.lt_iff_toInt_lt, Int32.le_iff_toInt_le] at *; omega) | (exfalso; simp_all; done) | (simp_all; done) | rfl))
        · refine g_aload_n hC dX10_copy_39 rfl 0 rfl (Or.inr ⟨_, rfl⟩) ?_
          refine g_iconst hC dX10_copy_40 (v := nI 1) (by decide) ?_
          refine g_V (As := [.int (nI 1)]) (st := []) hC 1 dX10_copy_41 rfl mL_o mW_o gX10_copy_X10_fails rfl (by decide +kernel) ⟨Nat.le_of_ble_eq_true rfl, Nat.le_of_ble_eq_true rfl⟩ rfl (Nat.le_of_ble_eq_true rfl) ⟨Nat.le_of_ble_eq_true rfl, Nat.le_of_ble_eq_true rfl⟩ (c2 := 0) (s2 := 0) rfl rfl (c_fails hk hm 1) ?_
          exact g_iret hC hR dX10_copy_44 (pE_i (by simp only [s_copy, hpl_p, hpl_q]; (repeat' split) <;> first | with_reducible rfl | contradiction | (exfalso; omega) | (rw [bI_t (by first | assumption | omega)]; rfl) | (rw [bI_f (by first | assumption | omega)]; rfl) | (exfalso; rename_i hz; exact absurd hz (by decide)) | (exfalso; rename_i hz; first | exact absurd hz.1 (by assumption) | exact absurd hz.2 (by assumption)) | (exfalso; simp only [Int32.lt_iff_toInt_lt, Int32.le_iff_toInt_le] at *; omega) | (exfalso; simp_all; done) | (simp_all; done) | rfl))
    · refine g_iconst hC dX10_copy_19 (v := (-1)) (by decide) ?_
      exact g_iret hC hR dX10_copy_20 (pE_i (by simp only [s_copy, hpl_p]; (repeat' split) <;> first | with_reducible rfl | contradiction | (exfalso; omega) | (rw [bI_t (by first | assumption | omega)]; rfl) | (rw [bI_f (by first | assumption | omega)]; rfl) | (exfalso; rename_i hz; exact absurd hz (by decide)) | (exfalso; rename_i hz; first | exact absurd hz.1 (by assumption) | exact absurd hz.2 (by assumption)) | (exfalso; simp only [Int32.lt_iff_toInt_lt, Int32.le_iff_toInt_le] at *; omega) | (exfalso; simp_all; done) | (simp_all; done) | rfl))
end M3
