section M3
variable {l : Launch} {D : va_G} {cy : Nat → ClassId} {K : gKt} {o : Nat} {ad : Nat → Nat} {S : aS}
set_option maxRecDepth 20000 in
set_option maxHeartbeats 4000000 in
theorem c_comes (hk : gKok D vwCl (cyT cy) K) (hm : mOk o ad) (hI : aI S) (t r : Nat) (ht : t < S.1 13) (hr : r < S.1 4) : gCt l D vwCl K yX10_comes wsX10_comes { frames := 3, cells := 0, slots := 0, locals := 67 } [.ref o, .int (nI t), .int (nI r)] (mL o ad) (mW o ad cy S) (pE (some (.int (comS S t r).1)) (mL o ad) (mW o ad cy (comS S t r).2)) := by
  refine gCt.of hk (by decide) rfl rfl (fun X hC hR hnm => ?_)
  have hC : gC X l _ D vwCl (cyT cy) K cX10_comes 5 wsX10_comes RX10 := hC
  have hin : ∀ w ∈ wsX100, w ∈ wsX10_comes := by decide +kernel
  show gW X vwCl 5 (mL o ad) (mW o ad cy S) 0 0 0 [(0, .ref o), (1, .int (nI t)), (2, .int (nI r))] []
  have hnb := hI.nb
  have hk9 := hI.tk ht
  have hsl := hk9.sl
  have htm := hk9.2.1
  have h43 := hk9.2.2.1
  have hkp := hk9.2.2.2.1
  have hlt := lk_lt (S := S) (t := t) (r := r) (by omega)
  have hso := hI.so ht hlt
  have hIL := hI.lkS t r
  refine g_aload_n hC dX10_comes_0 rfl 0 rfl (Or.inr ⟨_, rfl⟩) ?_
  refine g_iload_n hC dX10_comes_1 rfl 1 rfl ?_
  refine g_iload_n hC dX10_comes_2 rfl 2 rfl ?_
  refine g_V (As := [.int (nI t), .int (nI r)]) (st := []) hC 2 dX10_comes_3 rfl mL_o mW_o gX10_comes_X10_look rfl (by decide +kernel) ⟨Nat.le_of_ble_eq_true rfl, Nat.le_of_ble_eq_true rfl⟩ rfl (Nat.le_of_ble_eq_true rfl) ⟨Nat.le_of_ble_eq_true rfl, Nat.le_of_ble_eq_true rfl⟩ (c2 := 0) (s2 := 0) rfl rfl (c_look hk hm hI t r ht hr) ?_
  refine g_istore_n (lv' := [(3, .int (nI ((lk S t r).1))), (0, .ref o), (1, .int (nI t)), (2, .int (nI r))]) hC dX10_comes_6 rfl (by decide) rfl ?_
  refine g_aload_n hC dX10_comes_7 rfl 1 rfl (Or.inr ⟨_, rfl⟩) ?_
  refine m_get_19 hC hin (by decide +kernel) dX10_comes_8 ?_
  refine g_sipush hC dX10_comes_11 (v := nI 256) (by decide) ?_
  refine g_iload_n hC dX10_comes_14 rfl 2 rfl ?_
  refine g_imulN (a := 256) (b := t) hC dX10_comes_15 ?_
  refine g_iload_n hC dX10_comes_16 rfl 0 rfl ?_
  refine g_iaddN (a := 256 * t) (b := (lk S t r).1) hC dX10_comes_17 ?_
  refine m_aldN (k := 19) (j := (256 * t) + ((lk S t r).1)) hC hm (by decide) rfl rfl rfl dX10_comes_18 (show _ < 133120 from (by omega)) ?_
  refine g_ifN_le (a := S.2.1 19 ((256 * t) + ((lk S t r).1))) (tgt := 37) hC dX10_comes_19 (by decide) (by omega) (fun h19 => ?_) (fun h19 => ?_)
  · refine g_aload_n hC dX10_comes_37 rfl 1 rfl (Or.inr ⟨_, rfl⟩) ?_
    refine m_get_16 hC hin (by decide +kernel) dX10_comes_38 ?_
    refine g_iload_n hC dX10_comes_41 rfl 2 rfl ?_
    refine m_aldN (k := 16) (j := t) hC hm (by decide) rfl rfl rfl dX10_comes_42 (show _ < 520 from (by omega)) ?_
    refine g_bipush hC dX10_comes_43 (v := nI 100) (by decide) ?_
    refine g_icmpN_ne (a := S.2.1 16 t) (b := 100) (tgt := 51) hC dX10_comes_45 (by decide) (by omega) (by omega) (fun h45 => ?_) (fun h45 => ?_)
    · refine g_aload_n hC dX10_comes_51 rfl 1 rfl (Or.inr ⟨_, rfl⟩) ?_
      refine m_get_16 hC hin (by decide +kernel) dX10_comes_52 ?_
      refine g_iload_n hC dX10_comes_55 rfl 2 rfl ?_
      refine m_aldN (k := 16) (j := t) hC hm (by decide) rfl rfl rfl dX10_comes_56 (show _ < 520 from (by omega)) ?_
      refine g_istore (lv' := [(4, .int (nI (S.2.1 16 t))), (3, .int (nI ((lk S t r).1))), (0, .ref o), (1, .int (nI t)), (2, .int (nI r))]) hC dX10_comes_57 (by decide) rfl ?_
      refine g_aload_n hC dX10_comes_59 rfl 2 rfl (Or.inr ⟨_, rfl⟩) ?_
      refine m_get_20 hC hin (by decide +kernel) dX10_comes_60 ?_
      refine g_bipush hC dX10_comes_63 (v := nI 100) (by decide) ?_
      refine g_iload_n hC dX10_comes_65 rfl 3 rfl ?_
      refine g_imulN (a := 100) (b := t) hC dX10_comes_66 ?_
      refine g_iload hC dX10_comes_67 0 rfl ?_
      refine g_iaddN (a := 100 * t) (b := S.2.1 16 t) hC dX10_comes_69 ?_
      refine g_aload_n hC dX10_comes_70 rfl 2 rfl (Or.inr ⟨_, rfl⟩) ?_
      refine m_get_14 hC hin (by decide +kernel) dX10_comes_71 ?_
      refine g_iload_n hC dX10_comes_74 rfl 3 rfl ?_
      refine m_aldZ (j := t) hC hm dX10_comes_75 (by omega) ?_
      refine g_ifN_eq (a := S.2.1 14 t) (tgt := 87) hC dX10_comes_76 (by decide) (by omega) (fun h76 => ?_) (fun h76 => ?_)
      · refine g_aload_n hC dX10_comes_87 rfl 2 rfl (Or.inr ⟨_, rfl⟩) ?_
        refine g_iload_n hC dX10_comes_88 rfl 4 rfl ?_
        refine g_V (As := [.int (nI r)]) (st := [.int (nI ((100 * t) + (S.2.1 16 t))), .ref (ad 20)]) hC 1 dX10_comes_89 rfl mL_o mW_o gX10_comes_X10_twinOf rfl (by decide +kernel) ⟨Nat.le_of_ble_eq_true rfl, Nat.le_of_ble_eq_true rfl⟩ rfl (Nat.le_of_ble_eq_true rfl) ⟨Nat.le_of_ble_eq_true rfl, Nat.le_of_ble_eq_true rfl⟩ (c2 := 0) (s2 := 0) rfl rfl (c_twinOf hk hm r (by omega) (by show S.1 4 < 40000; omega) hr) ?_
        obtain ⟨g1, g2, g3, g4, g5⟩ := rowF_f (S := lkS S t r) (t := t) (r := r) hIL hr
        have hrw : rowF (lkS S t r) t r = ((lkS S t r).1 4, twinB (lkS S t r) r) := by unfold rowF; rw [if_pos (show (lkS S t r).2.1 14 t = 0 from h76)]
        generalize hS1 : (rowF (lkS S t r) t r).2 = S1 at g1 g2 g3 g4 g5
        generalize hw1 : (rowF (lkS S t r) t r).1 = w1 at g2
        have q16 : S1.2.1 16 t = S.2.1 16 t := by rw [g1 16 (by decide) (by decide)]; rfl
        have q15 : S1.2.1 15 t = S.2.1 15 t := by rw [g1 15 (by decide) (by decide)]; rfl
        have g3 : S.1 4 ≤ S1.1 4 := g3
        have g4 : S1.1 4 ≤ S.1 4 + 1 := g4
        rw [show twinB (lkS S t r) r = S1 from by rw [← hS1, hrw]]
        have ew : (lkS S t r).1 4 = w1 := by rw [← hw1, hrw]
        rw [ew]
        refine m_astN (k := 20) (j := (100 * t) + (S.2.1 16 t)) (x := w1) hC hm (by decide) rfl (fun _ => rfl) rfl dX10_comes_92 (show _ < 52000 from (by omega)) ?_
        refine g_aload_n hC dX10_comes_93 rfl 2 rfl (Or.inr ⟨_, rfl⟩) ?_
        refine m_get_19 hC hin (by decide +kernel) dX10_comes_94 ?_
        refine g_sipush hC dX10_comes_97 (v := nI 256) (by decide) ?_
        refine g_iload_n hC dX10_comes_100 rfl 3 rfl ?_
        refine g_imulN (a := 256) (b := t) hC dX10_comes_101 ?_
        refine g_iload_n hC dX10_comes_102 rfl 1 rfl ?_
        refine g_iaddN (a := 256 * t) (b := (lk S t r).1) hC dX10_comes_103 ?_
        refine g_iload hC dX10_comes_104 0 rfl ?_
        refine g_iconst hC dX10_comes_106 (v := nI 1) (by decide) ?_
        refine g_iaddN (a := S.2.1 16 t) (b := 1) hC dX10_comes_107 ?_
        refine m_astN (k := 19) (j := (256 * t) + ((lk S t r).1)) (x := (S.2.1 16 t) + 1) hC hm (by decide) rfl (fun _ => rfl) rfl dX10_comes_108 (show _ < 133120 from (by omega)) ?_
        refine g_aload_n hC dX10_comes_109 rfl 2 rfl (Or.inr ⟨_, rfl⟩) ?_
        refine m_get_16 hC hin (by decide +kernel) dX10_comes_110 ?_
        refine g_iload_n hC dX10_comes_113 rfl 3 rfl ?_
        refine g_dup2 hC dX10_comes_114 rfl rfl ?_
        refine m_aldN (k := 16) (j := t) hC hm (by decide) rfl rfl rfl dX10_comes_115 (show _ < 520 from (by omega)) ?_
        refine g_iconst hC dX10_comes_116 (v := nI 1) (by decide) ?_
        refine g_iaddN (a := S1.2.1 16 t) (b := 1) hC dX10_comes_117 ?_
        refine m_astN (k := 16) (j := t) (x := (S1.2.1 16 t) + 1) hC hm (by decide) rfl (fun _ => rfl) rfl dX10_comes_118 (show _ < 520 from (by omega)) ?_
        have eX : (aN (aN (aN S1 20 ((100 * t) + (S.2.1 16 t)) w1) 19 ((256 * t) + ((lk S t r).1)) ((S.2.1 16 t) + 1)) 16 t ((S1.2.1 16 t) + 1)) = newTm S1 t w1 (lk S t r).1 := by unfold newTm; rw [q16]
        rw [eX]
        have x16 : (newTm S1 t w1 (lk S t r).1).2.1 16 t = S.2.1 16 t + 1 := by simp [newTm, aN, va_up, q16]
        have x15 : (newTm S1 t w1 (lk S t r).1).2.1 15 t = S.2.1 15 t := by simp [newTm, aN, va_up, q15]
        refine g_iconst hC dX10_comes_119 (v := nI 4) (by decide) ?_
        refine g_aload_n hC dX10_comes_120 rfl 2 rfl (Or.inr ⟨_, rfl⟩) ?_
        refine m_get_16 hC hin (by decide +kernel) dX10_comes_121 ?_
        refine g_iload_n hC dX10_comes_124 rfl 3 rfl ?_
        refine m_aldN (k := 16) (j := t) hC hm (by decide) rfl rfl rfl dX10_comes_125 (show _ < 520 from (by omega)) ?_
        refine g_imulN (a := 4) (b := ((newTm S1 t w1 (lk S t r).1)).2.1 16 t) hC dX10_comes_126 ?_
        refine g_iconst hC dX10_comes_127 (v := nI 3) (by decide) ?_
        refine g_aload_n hC dX10_comes_128 rfl 2 rfl (Or.inr ⟨_, rfl⟩) ?_
        refine m_get_15 hC hin (by decide +kernel) dX10_comes_129 ?_
        refine g_iload_n hC dX10_comes_132 rfl 3 rfl ?_
        refine m_aldN (k := 15) (j := t) hC hm (by decide) rfl rfl rfl dX10_comes_133 (show _ < 520 from (by omega)) ?_
        refine g_val (w := .int (nI (S.2.1 15 t))) (by rw [x15]) ?_
        refine g_imulN (a := 3) (b := S.2.1 15 t) hC dX10_comes_134 ?_
        refine g_icmpN_le (a := 4 * (((newTm S1 t w1 (lk S t r).1)).2.1 16 t)) (b := 3 * (S.2.1 15 t)) (tgt := 143) hC dX10_comes_135 (by decide) (by omega) (by omega) (fun h135 => ?_) (fun h135 => ?_)
        · refine g_iload hC dX10_comes_143 0 rfl ?_
          have e9 : comS S t r = (nI (S.2.1 16 t), (newTm S1 t w1 (lk S t r).1)) := by
            unfold comS
            rw [if_neg (by omega), if_neg h45, hS1, hw1]
            unfold grwS
            rw [if_neg (by omega)]
          exact g_iret hC hR dX10_comes_145 (pE_i e9)
        · refine g_aload_n hC dX10_comes_138 rfl 2 rfl (Or.inr ⟨_, rfl⟩) ?_
          refine g_iload_n hC dX10_comes_139 rfl 3 rfl ?_
          have x5 : (newTm S1 t w1 (lk S t r).1).2.1 5 = S1.2.1 5 := by simp [newTm, aN, va_up]
          have x20 : ∀ k, k < S.2.1 16 t + 1 → (newTm S1 t w1 (lk S t r).1).2.1 20 (100 * t + k) < S1.1 4 := by
            intro k hk8
            have e : (newTm S1 t w1 (lk S t r).1).2.1 20 (100 * t + k) = if k = S.2.1 16 t then w1 else S.2.1 20 (100 * t + k) := by
              by_cases q : k = S.2.1 16 t
              · subst q; rw [if_pos rfl]; simp [newTm, aN, va_up, q16]
              · rw [if_neg q]; simp [newTm, aN, va_up, q16, q]; rw [g1 20 (by decide) (by decide)]; rfl
            rw [e]
            split
            · exact g2
            · have := hI.tt ht (k := k) (by omega); omega
          have he : ∃ e, 2 ≤ e ∧ e ≤ 7 ∧ (newTm S1 t w1 (lk S t r).1).2.1 15 t = 2 ^ e := by
            obtain ⟨e, a1, a2, a3⟩ := hk9.1
            refine ⟨e, a1, ?_, by rw [x15, a3]⟩
            rcases (show e ≤ 7 ∨ e = 8 by omega) with q | q
            · exact q
            · subst q; omega
          refine g_Vv (As := [.int (nI t)]) (st := []) hC 1 dX10_comes_140 rfl mL_o mW_o gX10_comes_X10_grow rfl (by decide +kernel) ⟨Nat.le_of_ble_eq_true rfl, Nat.le_of_ble_eq_true rfl⟩ rfl (Nat.le_of_ble_eq_true rfl) ⟨Nat.le_of_ble_eq_true rfl, Nat.le_of_ble_eq_true rfl⟩ (c2 := 0) (s2 := 0) rfl rfl (c_grow hk hm t (by omega) he (by omega) (fun k hk8 => ⟨by have := x20 k (by omega); omega, by rw [x5]; exact g5 _ (x20 k (by omega))⟩) (grow_fr (by omega) (by omega))) ?_
          refine g_iload hC dX10_comes_143 0 rfl ?_
          have e9 : comS S t r = (nI (S.2.1 16 t), (growS (newTm S1 t w1 (lk S t r).1) t)) := by
            unfold comS
            rw [if_neg (by omega), if_neg h45, hS1, hw1]
            unfold grwS
            rw [if_pos (by omega)]
          exact g_iret hC hR dX10_comes_145 (pE_i e9)
      · refine g_aload_n hC dX10_comes_79 rfl 2 rfl (Or.inr ⟨_, rfl⟩) ?_
        refine g_iload_n hC dX10_comes_80 rfl 4 rfl ?_
        refine g_V (As := [.int (nI r)]) (st := [.int (nI ((100 * t) + (S.2.1 16 t))), .ref (ad 20)]) hC 1 dX10_comes_81 rfl mL_o mW_o gX10_comes_X10_keptFor rfl (by decide +kernel) ⟨Nat.le_of_ble_eq_true rfl, Nat.le_of_ble_eq_true rfl⟩ rfl (Nat.le_of_ble_eq_true rfl) ⟨Nat.le_of_ble_eq_true rfl, Nat.le_of_ble_eq_true rfl⟩ (c2 := 0) (s2 := 0) rfl rfl (c_keptFor hk hm hIL r hr) ?_
        obtain ⟨g1, g2, g3, g4, g5⟩ := rowF_f (S := lkS S t r) (t := t) (r := r) hIL hr
        have hrw : rowF (lkS S t r) t r = keptS (lkS S t r) r := by unfold rowF; rw [if_neg (show ¬ (lkS S t r).2.1 14 t = 0 from h76)]
        generalize hS1 : (rowF (lkS S t r) t r).2 = S1 at g1 g2 g3 g4 g5
        generalize hw1 : (rowF (lkS S t r) t r).1 = w1 at g2
        have q16 : S1.2.1 16 t = S.2.1 16 t := by rw [g1 16 (by decide) (by decide)]; rfl
        have q15 : S1.2.1 15 t = S.2.1 15 t := by rw [g1 15 (by decide) (by decide)]; rfl
        have g3 : S.1 4 ≤ S1.1 4 := g3
        have g4 : S1.1 4 ≤ S.1 4 + 1 := g4
        rw [show (keptS (lkS S t r) r).1 = w1 from by rw [← hw1, hrw], show (keptS (lkS S t r) r).2 = S1 from by rw [← hS1, hrw]]
        refine g_goto (tgt := 92) hC dX10_comes_84 (by decide) ?_
        refine m_astN (k := 20) (j := (100 * t) + (S.2.1 16 t)) (x := w1) hC hm (by decide) rfl (fun _ => rfl) rfl dX10_comes_92 (show _ < 52000 from (by omega)) ?_
        refine g_aload_n hC dX10_comes_93 rfl 2 rfl (Or.inr ⟨_, rfl⟩) ?_
        refine m_get_19 hC hin (by decide +kernel) dX10_comes_94 ?_
        refine g_sipush hC dX10_comes_97 (v := nI 256) (by decide) ?_
        refine g_iload_n hC dX10_comes_100 rfl 3 rfl ?_
        refine g_imulN (a := 256) (b := t) hC dX10_comes_101 ?_
        refine g_iload_n hC dX10_comes_102 rfl 1 rfl ?_
        refine g_iaddN (a := 256 * t) (b := (lk S t r).1) hC dX10_comes_103 ?_
        refine g_iload hC dX10_comes_104 0 rfl ?_
        refine g_iconst hC dX10_comes_106 (v := nI 1) (by decide) ?_
        refine g_iaddN (a := S.2.1 16 t) (b := 1) hC dX10_comes_107 ?_
        refine m_astN (k := 19) (j := (256 * t) + ((lk S t r).1)) (x := (S.2.1 16 t) + 1) hC hm (by decide) rfl (fun _ => rfl) rfl dX10_comes_108 (show _ < 133120 from (by omega)) ?_
        refine g_aload_n hC dX10_comes_109 rfl 2 rfl (Or.inr ⟨_, rfl⟩) ?_
        refine m_get_16 hC hin (by decide +kernel) dX10_comes_110 ?_
        refine g_iload_n hC dX10_comes_113 rfl 3 rfl ?_
        refine g_dup2 hC dX10_comes_114 rfl rfl ?_
        refine m_aldN (k := 16) (j := t) hC hm (by decide) rfl rfl rfl dX10_comes_115 (show _ < 520 from (by omega)) ?_
        refine g_iconst hC dX10_comes_116 (v := nI 1) (by decide) ?_
        refine g_iaddN (a := S1.2.1 16 t) (b := 1) hC dX10_comes_117 ?_
        refine m_astN (k := 16) (j := t) (x := (S1.2.1 16 t) + 1) hC hm (by decide) rfl (fun _ => rfl) rfl dX10_comes_118 (show _ < 520 from (by omega)) ?_
        have eX : (aN (aN (aN S1 20 ((100 * t) + (S.2.1 16 t)) w1) 19 ((256 * t) + ((lk S t r).1)) ((S.2.1 16 t) + 1)) 16 t ((S1.2.1 16 t) + 1)) = newTm S1 t w1 (lk S t r).1 := by unfold newTm; rw [q16]
        rw [eX]
        have x16 : (newTm S1 t w1 (lk S t r).1).2.1 16 t = S.2.1 16 t + 1 := by simp [newTm, aN, va_up, q16]
        have x15 : (newTm S1 t w1 (lk S t r).1).2.1 15 t = S.2.1 15 t := by simp [newTm, aN, va_up, q15]
        refine g_iconst hC dX10_comes_119 (v := nI 4) (by decide) ?_
        refine g_aload_n hC dX10_comes_120 rfl 2 rfl (Or.inr ⟨_, rfl⟩) ?_
        refine m_get_16 hC hin (by decide +kernel) dX10_comes_121 ?_
        refine g_iload_n hC dX10_comes_124 rfl 3 rfl ?_
        refine m_aldN (k := 16) (j := t) hC hm (by decide) rfl rfl rfl dX10_comes_125 (show _ < 520 from (by omega)) ?_
        refine g_imulN (a := 4) (b := ((newTm S1 t w1 (lk S t r).1)).2.1 16 t) hC dX10_comes_126 ?_
        refine g_iconst hC dX10_comes_127 (v := nI 3) (by decide) ?_
        refine g_aload_n hC dX10_comes_128 rfl 2 rfl (Or.inr ⟨_, rfl⟩) ?_
        refine m_get_15 hC hin (by decide +kernel) dX10_comes_129 ?_
        refine g_iload_n hC dX10_comes_132 rfl 3 rfl ?_
        refine m_aldN (k := 15) (j := t) hC hm (by decide) rfl rfl rfl dX10_comes_133 (show _ < 520 from (by omega)) ?_
        refine g_val (w := .int (nI (S.2.1 15 t))) (by rw [x15]) ?_
        refine g_imulN (a := 3) (b := S.2.1 15 t) hC dX10_comes_134 ?_
        refine g_icmpN_le (a := 4 * (((newTm S1 t w1 (lk S t r).1)).2.1 16 t)) (b := 3 * (S.2.1 15 t)) (tgt := 143) hC dX10_comes_135 (by decide) (by omega) (by omega) (fun h135 => ?_) (fun h135 => ?_)
        · refine g_iload hC dX10_comes_143 0 rfl ?_
          have e9 : comS S t r = (nI (S.2.1 16 t), (newTm S1 t w1 (lk S t r).1)) := by
            unfold comS
            rw [if_neg (by omega), if_neg h45, hS1, hw1]
            unfold grwS
            rw [if_neg (by omega)]
          exact g_iret hC hR dX10_comes_145 (pE_i e9)
        · refine g_aload_n hC dX10_comes_138 rfl 2 rfl (Or.inr ⟨_, rfl⟩) ?_
          refine g_iload_n hC dX10_comes_139 rfl 3 rfl ?_
          have x5 : (newTm S1 t w1 (lk S t r).1).2.1 5 = S1.2.1 5 := by simp [newTm, aN, va_up]
          have x20 : ∀ k, k < S.2.1 16 t + 1 → (newTm S1 t w1 (lk S t r).1).2.1 20 (100 * t + k) < S1.1 4 := by
            intro k hk8
            have e : (newTm S1 t w1 (lk S t r).1).2.1 20 (100 * t + k) = if k = S.2.1 16 t then w1 else S.2.1 20 (100 * t + k) := by
              by_cases q : k = S.2.1 16 t
              · subst q; rw [if_pos rfl]; simp [newTm, aN, va_up, q16]
              · rw [if_neg q]; simp [newTm, aN, va_up, q16, q]; rw [g1 20 (by decide) (by decide)]; rfl
            rw [e]
            split
            · exact g2
            · have := hI.tt ht (k := k) (by omega); omega
          have he : ∃ e, 2 ≤ e ∧ e ≤ 7 ∧ (newTm S1 t w1 (lk S t r).1).2.1 15 t = 2 ^ e := by
            obtain ⟨e, a1, a2, a3⟩ := hk9.1
            refine ⟨e, a1, ?_, by rw [x15, a3]⟩
            rcases (show e ≤ 7 ∨ e = 8 by omega) with q | q
            · exact q
            · subst q; omega
          refine g_Vv (As := [.int (nI t)]) (st := []) hC 1 dX10_comes_140 rfl mL_o mW_o gX10_comes_X10_grow rfl (by decide +kernel) ⟨Nat.le_of_ble_eq_true rfl, Nat.le_of_ble_eq_true rfl⟩ rfl (Nat.le_of_ble_eq_true rfl) ⟨Nat.le_of_ble_eq_true rfl, Nat.le_of_ble_eq_true rfl⟩ (c2 := 0) (s2 := 0) rfl rfl (c_grow hk hm t (by omega) he (by omega) (fun k hk8 => ⟨by have := x20 k (by omega); omega, by rw [x5]; exact g5 _ (x20 k (by omega))⟩) (grow_fr (by omega) (by omega))) ?_
          refine g_iload hC dX10_comes_143 0 rfl ?_
          have e9 : comS S t r = (nI (S.2.1 16 t), (growS (newTm S1 t w1 (lk S t r).1) t)) := by
            unfold comS
            rw [if_neg (by omega), if_neg h45, hS1, hw1]
            unfold grwS
            rw [if_pos (by omega)]
          exact g_iret hC hR dX10_comes_145 (pE_i e9)
    · refine g_bipush hC dX10_comes_48 (v := (-4)) (by decide) ?_
      have e9 : comS S t r = (-4, lkS S t r) := by unfold comS; rw [if_neg (by omega), if_pos h45]
      exact g_iret hC hR dX10_comes_50 (pE_i e9)
  · refine g_aload_n hC dX10_comes_22 rfl 1 rfl (Or.inr ⟨_, rfl⟩) ?_
    refine m_get_19 hC hin (by decide +kernel) dX10_comes_23 ?_
    refine g_sipush hC dX10_comes_26 (v := nI 256) (by decide) ?_
    refine g_iload_n hC dX10_comes_29 rfl 2 rfl ?_
    refine g_imulN (a := 256) (b := t) hC dX10_comes_30 ?_
    refine g_iload_n hC dX10_comes_31 rfl 0 rfl ?_
    refine g_iaddN (a := 256 * t) (b := (lk S t r).1) hC dX10_comes_32 ?_
    refine m_aldN (k := 19) (j := (256 * t) + ((lk S t r).1)) hC hm (by decide) rfl rfl rfl dX10_comes_33 (show _ < 133120 from (by omega)) ?_
    refine g_iconst hC dX10_comes_34 (v := nI 1) (by decide) ?_
    refine g_isubN (a := S.2.1 19 ((256 * t) + ((lk S t r).1))) (b := 1) hC (by omega) dX10_comes_35 ?_
    have e9 : comS S t r = (nI (S.2.1 19 (256 * t + (lk S t r).1) - 1), lkS S t r) := by unfold comS; rw [if_pos h19]
    exact g_iret hC hR dX10_comes_36 (pE_i e9)
set_option maxRecDepth 20000 in
set_option maxHeartbeats 4000000 in
theorem c_find (hk : gKok D vwCl (cyT cy) K) (hm : mOk o ad) (hI : aI S) (p : Int32) (q : Int32) : gCt l D vwCl K yX10_find wsX10_find { frames := 3, cells := 0, slots := 0, locals := 69 } [.ref o, .int p, .int q] (mL o ad) (mW o ad cy S) (pE (some (.int (s_find S p q).1)) (mL o ad) (mW o ad cy (s_find S p q).2)) := by
  refine gCt.of hk (by decide) rfl rfl (fun X hC hR hnm => ?_)
  have hC : gC X l _ D vwCl (cyT cy) K cX10_find 6 wsX10_find RX10 := hC
  have hin : ∀ w ∈ wsX100, w ∈ wsX10_find := by decide +kernel
  show gW X vwCl 6 (mL o ad) (mW o ad cy S) 0 0 0 [(0, .ref o), (1, .int p), (2, .int q)] []
  have hnb := hI.nb
  refine g_aload_n hC dX10_find_0 rfl 0 rfl (Or.inr ⟨_, rfl⟩) ?_
  refine g_iconst hC dX10_find_1 (v := nI 0) (by decide) ?_
  refine m_put_0 (x := 0) hC hin (by decide +kernel) dX10_find_2 ?_
  refine g_iload_n hC dX10_find_5 rfl 1 rfl ?_
  refine g_S (As := [.int p]) (st := []) hC 1 dX10_find_6 gX10_find_X10_isPlace rfl (by decide +kernel) ⟨Nat.le_of_ble_eq_true rfl, Nat.le_of_ble_eq_true rfl⟩ rfl (Nat.le_of_ble_eq_true rfl) ⟨Nat.le_of_ble_eq_true rfl, Nat.le_of_ble_eq_true rfl⟩ (c2 := 0) (s2 := 0) rfl rfl (c_isPlace hk _) ?_
  refine g_ifB_eq (P := isP p) (tgt := 19) hC dX10_find_9 (by decide) (fun h9 => ?_) (fun h9 => ?_)
  · refine g_iconst hC dX10_find_19 (v := (-1)) (by decide) ?_
    exact g_iret hC hR dX10_find_20 (pE_i (by simp only [s_find]; (repeat' split) <;> first | with_reducible rfl | contradiction | (exfalso; omega) | (rw [bI_t (by first | assumption | omega)]; rfl) | (rw [bI_f (by first | assumption | omega)]; rfl) | (exfalso; rename_i hz; exact absurd hz (by decide)) | (exfalso; rename_i hz; first | exact absurd hz.1 (by assumption) | exact absurd hz.2 (by assumption)) | (exfalso; simp only [Int32.lt_iff_toInt_lt, Int32.le_iff_toInt_le] at *; omega) | (exfalso; simp_all; done) | (simp_all; done) | rfl))
  · obtain ⟨pj, hpj, rfl⟩ := isP_j h9
    have hpl_p : pl (nI pj) = pj := nI_clamp (by omega)
    have h5_p := hI.k5 hpj
    have hw_p := hI.wb hpj
    refine g_iload_n hC dX10_find_12 rfl 2 rfl ?_
    refine g_S (As := [.int q]) (st := []) hC 1 dX10_find_13 gX10_find_X10_isPlace rfl (by decide +kernel) ⟨Nat.le_of_ble_eq_true rfl, Nat.le_of_ble_eq_true rfl⟩ rfl (Nat.le_of_ble_eq_true rfl) ⟨Nat.le_of_ble_eq_true rfl, Nat.le_of_ble_eq_true rfl⟩ (c2 := 0) (s2 := 0) rfl rfl (c_isPlace hk _) ?_
    refine g_ifB_ne (P := isP q) (tgt := 21) hC dX10_find_16 (by decide) (fun h16 => ?_) (fun h16 => ?_)
    · obtain ⟨qj, hqj, rfl⟩ := isP_j h16
      have hpl_q : pl (nI qj) = qj := nI_clamp (by omega)
      have h5_q := hI.k5 hqj
      have hw_q := hI.wb hqj
      refine g_aload_n hC dX10_find_21 rfl 0 rfl (Or.inr ⟨_, rfl⟩) ?_
      refine g_iload_n hC dX10_find_22 rfl 1 rfl ?_
      refine g_iload_n hC dX10_find_23 rfl 2 rfl ?_
      refine g_iconst hC dX10_find_24 (v := nI 1) (by decide) ?_
      have hbf : bthF S pj qj 1 ≤ 2 := bthF_2
      refine g_V (As := [.int (nI pj), .int (nI qj), .int (nI 1)]) (st := []) hC 3 dX10_find_25 rfl mL_o mW_o gX10_find_X10_bothFault rfl (by decide +kernel) ⟨Nat.le_of_ble_eq_true rfl, Nat.le_of_ble_eq_true rfl⟩ rfl (Nat.le_of_ble_eq_true rfl) ⟨Nat.le_of_ble_eq_true rfl, Nat.le_of_ble_eq_true rfl⟩ (c2 := 0) (s2 := 0) rfl rfl (c_bothFault hk hm pj qj 1 (by omega) hpj (hI.k5 hpj) hqj (hI.k5 hqj)) ?_
      refine g_istore_n (lv' := [(3, .int (nI (bthF S pj qj 1))), (0, .ref o), (1, .int (nI pj)), (2, .int (nI qj))]) hC dX10_find_28 rfl (by decide) rfl ?_
      refine g_iload_n hC dX10_find_29 rfl 0 rfl ?_
      refine g_ifN_le (a := bthF S pj qj 1) (tgt := 39) hC dX10_find_30 (by decide) (by omega) (fun h30 => ?_) (fun h30 => ?_)
      · have hb0 : castF S pj 4 = 0 ∧ castF S qj 1 = 0 := by have a1 : castF S pj 4 ≤ 2 := castF_2; have a2 : castF S qj 1 ≤ 2 := castF_2; unfold bthF at h30; (repeat' split at h30) <;> omega
        have hc0 := castF_0 hb0.1
        have hc1 := castF_0 hb0.2
        have hc2 := hc0.2
        have hc3 := hc1.2
        have ht := hI.wt hpj (by omega)
        have hr := hI.wl hqj (by omega)
        refine g_aload_n hC dX10_find_39 rfl 1 rfl (Or.inr ⟨_, rfl⟩) ?_
        refine m_get_3 hC hin (by decide +kernel) dX10_find_40 ?_
        refine g_iload_n hC dX10_find_43 rfl 2 rfl ?_
        refine m_aldN (k := 3) (j := pj) hC hm (by decide) rfl rfl rfl dX10_find_44 (show _ < 10 from (by omega)) ?_
        refine g_istore (lv' := [(4, .int (nI (wh S pj))), (3, .int (nI (bthF S pj qj 1))), (0, .ref o), (1, .int (nI pj)), (2, .int (nI qj))]) hC dX10_find_45 (by decide) rfl ?_
        refine g_aload_n hC dX10_find_47 rfl 2 rfl (Or.inr ⟨_, rfl⟩) ?_
        refine g_iload hC dX10_find_48 0 rfl ?_
        refine g_aload_n hC dX10_find_50 rfl 2 rfl (Or.inr ⟨_, rfl⟩) ?_
        refine m_get_3 hC hin (by decide +kernel) dX10_find_51 ?_
        refine g_iload_n hC dX10_find_54 rfl 4 rfl ?_
        refine m_aldN (k := 3) (j := qj) hC hm (by decide) rfl rfl rfl dX10_find_55 (show _ < 10 from (by omega)) ?_
        have hk9 := hI.tk ht
        have hsl := hk9.sl
        have htm := hk9.2.1
        have hlt : (lk (thS S) (wh S pj) (wh S qj)).1 < S.2.1 15 (wh S pj) := lk_lt (S := thS S) (t := wh S pj) (r := wh S qj) (by show 0 < S.2.1 15 (wh S pj); omega)
        have hso := hI.so ht hlt
        refine g_V (As := [.int (nI (wh S pj)), .int (nI (wh S qj))]) (st := []) hC 2 dX10_find_56 rfl mL_o mW_o gX10_find_X10_look rfl (by decide +kernel) ⟨Nat.le_of_ble_eq_true rfl, Nat.le_of_ble_eq_true rfl⟩ rfl (Nat.le_of_ble_eq_true rfl) ⟨Nat.le_of_ble_eq_true rfl, Nat.le_of_ble_eq_true rfl⟩ (c2 := 0) (s2 := 0) rfl rfl (c_look hk hm hI.th (wh S pj) (wh S qj) ht hr) ?_
        refine g_istore (lv' := [(5, .int (nI ((lk (thS S) (wh S pj) (wh S qj)).1))), (4, .int (nI (wh S pj))), (3, .int (nI (bthF S pj qj 1))), (0, .ref o), (1, .int (nI pj)), (2, .int (nI qj))]) hC dX10_find_59 (by decide) rfl ?_
        refine g_aload_n hC dX10_find_61 rfl 3 rfl (Or.inr ⟨_, rfl⟩) ?_
        refine m_get_19 hC hin (by decide +kernel) dX10_find_62 ?_
        refine g_sipush hC dX10_find_65 (v := nI 256) (by decide) ?_
        refine g_iload hC dX10_find_68 1 rfl ?_
        refine g_imulN (a := 256) (b := wh S pj) hC dX10_find_70 ?_
        refine g_iload hC dX10_find_71 0 rfl ?_
        refine g_iaddN (a := 256 * (wh S pj)) (b := (lk (thS S) (wh S pj) (wh S qj)).1) hC dX10_find_73 ?_
        refine m_aldN (k := 19) (j := (256 * (wh S pj)) + ((lk (thS S) (wh S pj) (wh S qj)).1)) hC hm (by decide) rfl rfl rfl dX10_find_74 (show _ < 133120 from (by omega)) ?_
        refine g_ifN_le (a := S.2.1 19 ((256 * (wh S pj)) + ((lk (thS S) (wh S pj) (wh S qj)).1))) (tgt := 97) hC dX10_find_75 (by decide) (by omega) (fun h75 => ?_) (fun h75 => ?_)
        · refine g_bipush hC dX10_find_97 (v := (-3)) (by decide) ?_
          exact g_iret hC hR dX10_find_99 (pE_i (by simp only [s_find, hpl_p, hpl_q]; (repeat' split) <;> first | with_reducible rfl | contradiction | (exfalso; omega) | (rw [bI_t (by first | assumption | omega)]; rfl) | (rw [bI_f (by first | assumption | omega)]; rfl) | (exfalso; rename_i hz; exact absurd hz (by decide)) | (exfalso; rename_i hz; first | exact absurd hz.1 (by assumption) | exact absurd hz.2 (by assumption)) | (exfalso; simp only [Int32.lt_iff_toInt_lt, Int32.le_iff_toInt_le] at *; omega) | (exfalso; simp_all; done) | (simp_all; done) | rfl))
        · refine g_aload_n hC dX10_find_78 rfl 3 rfl (Or.inr ⟨_, rfl⟩) ?_
          refine m_get_19 hC hin (by decide +kernel) dX10_find_79 ?_
          refine g_sipush hC dX10_find_82 (v := nI 256) (by decide) ?_
          refine g_iload hC dX10_find_85 1 rfl ?_
          refine g_imulN (a := 256) (b := wh S pj) hC dX10_find_87 ?_
          refine g_iload hC dX10_find_88 0 rfl ?_
          refine g_iaddN (a := 256 * (wh S pj)) (b := (lk (thS S) (wh S pj) (wh S qj)).1) hC dX10_find_90 ?_
          refine m_aldN (k := 19) (j := (256 * (wh S pj)) + ((lk (thS S) (wh S pj) (wh S qj)).1)) hC hm (by decide) rfl rfl rfl dX10_find_91 (show _ < 133120 from (by omega)) ?_
          refine g_iconst hC dX10_find_92 (v := nI 1) (by decide) ?_
          refine g_isubN (a := S.2.1 19 ((256 * (wh S pj)) + ((lk (thS S) (wh S pj) (wh S qj)).1))) (b := 1) hC (by omega) dX10_find_93 ?_
          refine g_goto (tgt := 99) hC dX10_find_94 (by decide) ?_
          exact g_iret hC hR dX10_find_99 (pE_i (by simp only [s_find, hpl_p, hpl_q]; (repeat' split) <;> first | with_reducible rfl | contradiction | (exfalso; omega) | (rw [bI_t (by first | assumption | omega)]; rfl) | (rw [bI_f (by first | assumption | omega)]; rfl) | (exfalso; rename_i hz; exact absurd hz (by decide)) | (exfalso; rename_i hz; first | exact absurd hz.1 (by assumption) | exact absurd hz.2 (by assumption)) | (exfalso; simp only [Int32.lt_iff_toInt_lt, Int32.le_iff_toInt_le] at *; omega) | (exfalso; simp_all; done) | (simp_all; done) | rfl))
      · refine g_aload_n hC dX10_find_33 rfl 1 rfl (Or.inr ⟨_, rfl⟩) ?_
        refine g_iload_n hC dX10_find_34 rfl 0 rfl ?_
        refine g_V (As := [.int (nI (bthF S pj qj 1))]) (st := []) hC 1 dX10_find_35 rfl mL_o mW_o gX10_find_X10_fails rfl (by decide +kernel) ⟨Nat.le_of_ble_eq_true rfl, Nat.le_of_ble_eq_true rfl⟩ rfl (Nat.le_of_ble_eq_true rfl) ⟨Nat.le_of_ble_eq_true rfl, Nat.le_of_ble_eq_true rfl⟩ (c2 := 0) (s2 := 0) rfl rfl (c_fails hk hm (bthF S pj qj 1)) ?_
        exact g_iret hC hR dX10_find_38 (pE_i (by simp only [s_find, hpl_p, hpl_q]; (repeat' split) <;> first | with_reducible rfl | contradiction | (exfalso; omega) | (rw [bI_t (by first | assumption | omega)]; rfl) | (rw [bI_f (by first | assumption | omega)]; rfl) | (exfalso; rename_i hz; exact absurd hz (by decide)) | (exfalso; rename_i hz; first | exact absurd hz.1 (by assumption) | exact absurd hz.2 (by assumption)) | (exfalso; simp only [Int32.lt_iff_toInt_lt, Int32.le_iff_toInt_le] at *; omega) | (exfalso; simp_all; done) | (simp_all; done) | rfl))
    · refine g_iconst hC dX10_find_19 (v := (-1)) (by decide) ?_
      exact g_iret hC hR dX10_find_20 (pE_i (by simp only [s_find, hpl_p]; (repeat' split) <;> first | with_reducible rfl | contradiction | (exfalso; omega) | (rw [bI_t (by first | assumption | omega)]; rfl) | (rw [bI_f (by first | assumption | omega)]; rfl) | (exfalso; rename_i hz; exact absurd hz (by decide)) | (exfalso; rename_i hz; first | exact absurd hz.1 (by assumption) | exact absurd hz.2 (by assumption)) | (exfalso; simp only [Int32.lt_iff_toInt_lt, Int32.le_iff_toInt_le] at *; omega) | (exfalso; simp_all; done) | (simp_all; done) | rfl))
set_option maxRecDepth 20000 in
set_option maxHeartbeats 4000000 in
theorem c_add (hk : gKok D vwCl (cyT cy) K) (hm : mOk o ad) (hI : aI S) (p : Int32) (q : Int32) : gCt l D vwCl K yX10_add wsX10_add { frames := 4, cells := 0, slots := 0, locals := 91 } [.ref o, .int p, .int q] (mL o ad) (mW o ad cy S) (pE (some (.int (s_add S p q).1)) (mL o ad) (mW o ad cy (s_add S p q).2)) := by
  refine gCt.of hk (by decide) rfl rfl (fun X hC hR hnm => ?_)
  have hC : gC X l _ D vwCl (cyT cy) K cX10_add 4 wsX10_add RX10 := hC
  have hin : ∀ w ∈ wsX100, w ∈ wsX10_add := by decide +kernel
  show gW X vwCl 4 (mL o ad) (mW o ad cy S) 0 0 0 [(0, .ref o), (1, .int p), (2, .int q)] []
  have hnb := hI.nb
  refine g_aload_n hC dX10_add_0 rfl 0 rfl (Or.inr ⟨_, rfl⟩) ?_
  refine g_iconst hC dX10_add_1 (v := nI 0) (by decide) ?_
  refine m_put_0 (x := 0) hC hin (by decide +kernel) dX10_add_2 ?_
  refine g_iload_n hC dX10_add_5 rfl 1 rfl ?_
  refine g_S (As := [.int p]) (st := []) hC 1 dX10_add_6 gX10_add_X10_isPlace rfl (by decide +kernel) ⟨Nat.le_of_ble_eq_true rfl, Nat.le_of_ble_eq_true rfl⟩ rfl (Nat.le_of_ble_eq_true rfl) ⟨Nat.le_of_ble_eq_true rfl, Nat.le_of_ble_eq_true rfl⟩ (c2 := 0) (s2 := 0) rfl rfl (c_isPlace hk _) ?_
  refine g_ifB_eq (P := isP p) (tgt := 19) hC dX10_add_9 (by decide) (fun h9 => ?_) (fun h9 => ?_)
  · refine g_iconst hC dX10_add_19 (v := (-1)) (by decide) ?_
    exact g_iret hC hR dX10_add_20 (pE_i (by simp only [s_add]; (repeat' split) <;> first | with_reducible rfl | contradiction | (exfalso; omega) | (rw [bI_t (by first | assumption | omega)]; rfl) | (rw [bI_f (by first | assumption | omega)]; rfl) | (exfalso; rename_i hz; exact absurd hz (by decide)) | (exfalso; rename_i hz; first | exact absurd hz.1 (by assumption) | exact absurd hz.2 (by assumption)) | (exfalso; simp only [Int32.lt_iff_toInt_lt, Int32.le_iff_toInt_le] at *; omega) | (exfalso; simp_all; done) | (simp_all; done) | rfl))
  · obtain ⟨pj, hpj, rfl⟩ := isP_j h9
    have hpl_p : pl (nI pj) = pj := nI_clamp (by omega)
    have h5_p := hI.k5 hpj
    have hw_p := hI.wb hpj
    refine g_iload_n hC dX10_add_12 rfl 2 rfl ?_
    refine g_S (As := [.int q]) (st := []) hC 1 dX10_add_13 gX10_add_X10_isPlace rfl (by decide +kernel) ⟨Nat.le_of_ble_eq_true rfl, Nat.le_of_ble_eq_true rfl⟩ rfl (Nat.le_of_ble_eq_true rfl) ⟨Nat.le_of_ble_eq_true rfl, Nat.le_of_ble_eq_true rfl⟩ (c2 := 0) (s2 := 0) rfl rfl (c_isPlace hk _) ?_
    refine g_ifB_ne (P := isP q) (tgt := 21) hC dX10_add_16 (by decide) (fun h16 => ?_) (fun h16 => ?_)
    · obtain ⟨qj, hqj, rfl⟩ := isP_j h16
      have hpl_q : pl (nI qj) = qj := nI_clamp (by omega)
      have h5_q := hI.k5 hqj
      have hw_q := hI.wb hqj
      refine g_aload_n hC dX10_add_21 rfl 0 rfl (Or.inr ⟨_, rfl⟩) ?_
      refine g_iload_n hC dX10_add_22 rfl 1 rfl ?_
      refine g_iload_n hC dX10_add_23 rfl 2 rfl ?_
      refine g_iconst hC dX10_add_24 (v := nI 1) (by decide) ?_
      have hbf : bthF S pj qj 1 ≤ 2 := bthF_2
      refine g_V (As := [.int (nI pj), .int (nI qj), .int (nI 1)]) (st := []) hC 3 dX10_add_25 rfl mL_o mW_o gX10_add_X10_bothFault rfl (by decide +kernel) ⟨Nat.le_of_ble_eq_true rfl, Nat.le_of_ble_eq_true rfl⟩ rfl (Nat.le_of_ble_eq_true rfl) ⟨Nat.le_of_ble_eq_true rfl, Nat.le_of_ble_eq_true rfl⟩ (c2 := 0) (s2 := 0) rfl rfl (c_bothFault hk hm pj qj 1 (by omega) hpj (hI.k5 hpj) hqj (hI.k5 hqj)) ?_
      refine g_istore_n (lv' := [(3, .int (nI (bthF S pj qj 1))), (0, .ref o), (1, .int (nI pj)), (2, .int (nI qj))]) hC dX10_add_28 rfl (by decide) rfl ?_
      refine g_iload_n hC dX10_add_29 rfl 0 rfl ?_
      refine g_ifN_le (a := bthF S pj qj 1) (tgt := 41) hC dX10_add_30 (by decide) (by omega) (fun h30 => ?_) (fun h30 => ?_)
      · have hb0 : castF S pj 4 = 0 ∧ castF S qj 1 = 0 := by have a1 : castF S pj 4 ≤ 2 := castF_2; have a2 : castF S qj 1 ≤ 2 := castF_2; unfold bthF at h30; (repeat' split at h30) <;> omega
        have hc0 := castF_0 hb0.1
        have hc1 := castF_0 hb0.2
        have hc2 := hc0.2
        have hc3 := hc1.2
        have ht := hI.wt hpj (by omega)
        have hr := hI.wl hqj (by omega)
        refine g_aload_n hC dX10_add_41 rfl 1 rfl (Or.inr ⟨_, rfl⟩) ?_
        refine g_aload_n hC dX10_add_42 rfl 1 rfl (Or.inr ⟨_, rfl⟩) ?_
        refine m_get_3 hC hin (by decide +kernel) dX10_add_43 ?_
        refine g_iload_n hC dX10_add_46 rfl 2 rfl ?_
        refine m_aldN (k := 3) (j := pj) hC hm (by decide) rfl rfl rfl dX10_add_47 (show _ < 10 from (by omega)) ?_
        refine g_aload_n hC dX10_add_48 rfl 1 rfl (Or.inr ⟨_, rfl⟩) ?_
        refine m_get_3 hC hin (by decide +kernel) dX10_add_49 ?_
        refine g_iload_n hC dX10_add_52 rfl 3 rfl ?_
        refine m_aldN (k := 3) (j := qj) hC hm (by decide) rfl rfl rfl dX10_add_53 (show _ < 10 from (by omega)) ?_
        refine g_V (As := [.int (nI (wh S pj)), .int (nI (wh S qj))]) (st := []) hC 2 dX10_add_54 rfl mL_o mW_o gX10_add_X10_comes rfl (by decide +kernel) ⟨Nat.le_of_ble_eq_true rfl, Nat.le_of_ble_eq_true rfl⟩ rfl (Nat.le_of_ble_eq_true rfl) ⟨Nat.le_of_ble_eq_true rfl, Nat.le_of_ble_eq_true rfl⟩ (c2 := 0) (s2 := 0) rfl rfl (c_comes hk hm hI.th (wh S pj) (wh S qj) ht hr) ?_
        exact g_iret hC hR dX10_add_57 (pE_i (by simp only [s_add, hpl_p, hpl_q]; (repeat' split) <;> first | with_reducible rfl | contradiction | (exfalso; omega) | (rw [bI_t (by first | assumption | omega)]; rfl) | (rw [bI_f (by first | assumption | omega)]; rfl) | (exfalso; rename_i hz; exact absurd hz (by decide)) | (exfalso; rename_i hz; first | exact absurd hz.1 (by assumption) | exact absurd hz.2 (by assumption)) | (exfalso; simp only [Int32.lt_iff_toInt_lt, Int32.le_iff_toInt_le] at *; omega) | (exfalso; simp_all; done) | (simp_all; done) | rfl))
      · refine g_aload_n hC dX10_add_33 rfl 1 rfl (Or.inr ⟨_, rfl⟩) ?_
        refine g_iload_n hC dX10_add_34 rfl 0 rfl ?_
        refine g_V (As := [.int (nI (bthF S pj qj 1))]) (st := []) hC 1 dX10_add_35 rfl mL_o mW_o gX10_add_X10_fails rfl (by decide +kernel) ⟨Nat.le_of_ble_eq_true rfl, Nat.le_of_ble_eq_true rfl⟩ rfl (Nat.le_of_ble_eq_true rfl) ⟨Nat.le_of_ble_eq_true rfl, Nat.le_of_ble_eq_true rfl⟩ (c2 := 0) (s2 := 0) rfl rfl (c_fails hk hm (bthF S pj qj 1)) ?_
        refine g_goto (tgt := 57) hC dX10_add_38 (by decide) ?_
        exact g_iret hC hR dX10_add_57 (pE_i (by simp only [s_add, hpl_p, hpl_q]; (repeat' split) <;> first | with_reducible rfl | contradiction | (exfalso; omega) | (rw [bI_t (by first | assumption | omega)]; rfl) | (rw [bI_f (by first | assumption | omega)]; rfl) | (exfalso; rename_i hz; exact absurd hz (by decide)) | (exfalso; rename_i hz; first | exact absurd hz.1 (by assumption) | exact absurd hz.2 (by assumption)) | (exfalso; simp only [Int32.lt_iff_toInt_lt, Int32.le_iff_toInt_le] at *; omega) | (exfalso; simp_all; done) | (simp_all; done) | rfl))
    · refine g_iconst hC dX10_add_19 (v := (-1)) (by decide) ?_
      exact g_iret hC hR dX10_add_20 (pE_i (by simp only [s_add, hpl_p]; (repeat' split) <;> first | with_reducible rfl | contradiction | (exfalso; omega) | (rw [bI_t (by first | assumption | omega)]; rfl) | (rw [bI_f (by first | assumption | omega)]; rfl) | (exfalso; rename_i hz; exact absurd hz (by decide)) | (exfalso; rename_i hz; first | exact absurd hz.1 (by assumption) | exact absurd hz.2 (by assumption)) | (exfalso; simp only [Int32.lt_iff_toInt_lt, Int32.le_iff_toInt_le] at *; omega) | (exfalso; simp_all; done) | (simp_all; done) | rfl))
end M3
