section M3
variable {l : Launch} {D : va_G} {cy : Nat → ClassId} {K : gKt} {o : Nat} {ad : Nat → Nat} {S : aS}
set_option maxRecDepth 20000 in
set_option maxHeartbeats 4000000 in
theorem c_look (hk : gKok D vwCl (cyT cy) K) (hm : mOk o ad) (hI : aI S) (t r : Nat) (ht : t < S.1 13) (hr : r < S.1 4) : gCt l D vwCl K yX10_look wsX10_look { frames := 1, cells := 0, slots := 0, locals := 24 } [.ref o, .int (nI t), .int (nI r)] (mL o ad) (mW o ad cy S) (pE (some (.int (nI (lk S t r).1))) (mL o ad) (mW o ad cy (lkS S t r))) := by
  refine gCt.of hk (by decide) rfl rfl (fun X hC hR hnm => ?_)
  have hC : gC X l _ D vwCl (cyT cy) K cX10_look 5 wsX10_look RX10 := hC
  have hin : ∀ w ∈ wsX100, w ∈ wsX10_look := by decide +kernel
  show gW X vwCl 5 (mL o ad) (mW o ad cy S) 0 0 0 [(0, .ref o), (1, .int (nI t)), (2, .int (nI r))] []
  have hnb := hI.nb
  have hk9 := hI.tk ht
  have hsl := hk9.sl
  have htm := hk9.2.1
  have hbr := hI.bl hr
  have lp : ∀ (m : Nat) (i n : Nat), S.2.1 15 t + 1 - n < m → (i < S.2.1 15 t) → (1 ≤ n) → (n ≤ S.2.1 15 t + 1) → (lkG S t r (S.2.1 15 t + 1 - n) i n = lk S t r) → gW X vwCl 5 (mL o ad) (mW o ad cy S) 0 0 18 [(4, .int (nI n)), (3, .int (nI i)), (0, .ref o), (1, .int (nI t)), (2, .int (nI r))] [] := by
    intro m
    induction m with
    | zero => intros; omega
    | succ m ih =>
      intro i n hm9 hi hn1 hn2 hg
      have hso := hI.so ht hi
      refine g_aload_n hC dX10_look_18 rfl 2 rfl (Or.inr ⟨_, rfl⟩) ?_
      refine m_get_19 hC hin (by decide +kernel) dX10_look_19 ?_
      refine g_sipush hC dX10_look_22 (v := nI 256) (by decide) ?_
      refine g_iload_n hC dX10_look_25 rfl 3 rfl ?_
      refine g_imulN (a := 256) (b := t) hC dX10_look_26 ?_
      refine g_iload_n hC dX10_look_27 rfl 1 rfl ?_
      refine g_iaddN (a := 256 * t) (b := i) hC dX10_look_28 ?_
      refine m_aldN (k := 19) (j := (256 * t) + i) hC hm (by decide) rfl rfl rfl dX10_look_29 (show _ < 133120 from (by omega)) ?_
      refine g_ifN_le (a := S.2.1 19 ((256 * t) + i)) (tgt := 95) hC dX10_look_30 (by decide) (by omega) (fun h30 => ?_) (fun h30 => ?_)
      · have hx9 : lkG S t r (S.2.1 15 t + 1 - n) i n = (i, n) := lkG_stp (Or.inl h30) _
        refine g_aload_n hC dX10_look_95 rfl 2 rfl (Or.inr ⟨_, rfl⟩) ?_
        refine m_get_17 hC hin (by decide +kernel) dX10_look_96 ?_
        refine g_iload_n hC dX10_look_99 rfl 3 rfl ?_
        refine g_iload hC dX10_look_100 0 rfl ?_
        refine m_astN (k := 17) (j := t) (x := n) hC hm (by decide) rfl (fun _ => rfl) rfl dX10_look_102 (show _ < 520 from (by omega)) ?_
        refine g_aload_n hC dX10_look_103 rfl 2 rfl (Or.inr ⟨_, rfl⟩) ?_
        refine g_dup hC dX10_look_104 rfl ?_
        refine m_get_23 hC hin (by decide +kernel) dX10_look_105 ?_
        refine g_iload hC dX10_look_108 0 rfl ?_
        refine g_i2l hC dX10_look_110 (v := lN n) (nI_l (n := n) (by omega)) ?_
        refine g_laddN (a := S.1 23) (b := n) hC dX10_look_111 ?_
        refine m_put_23 (x := (S.1 23) + n) hC hin (by decide +kernel) dX10_look_112 ?_
        refine g_aload_n hC dX10_look_115 rfl 2 rfl (Or.inr ⟨_, rfl⟩) ?_
        refine g_dup hC dX10_look_116 rfl ?_
        refine m_get_24 hC hin (by decide +kernel) dX10_look_117 ?_
        refine g_iconst hC dX10_look_120 (v := nI 1) (by decide) ?_
        refine g_iaddN (a := S.1 24) (b := 1) hC dX10_look_121 ?_
        refine m_put_24 (x := (S.1 24) + 1) hC hin (by decide +kernel) dX10_look_122 ?_
        refine g_iload_n hC dX10_look_125 rfl 1 rfl ?_
        have e9 : lk S t r = (i, n) := by rw [← hg]; exact hx9
        exact g_iret hC hR dX10_look_126 ⟨by rw [e9], rfl, by unfold lkS; rw [e9]⟩
      · refine g_aload_n hC dX10_look_33 rfl 2 rfl (Or.inr ⟨_, rfl⟩) ?_
        refine g_aload_n hC dX10_look_34 rfl 2 rfl (Or.inr ⟨_, rfl⟩) ?_
        refine m_get_20 hC hin (by decide +kernel) dX10_look_35 ?_
        refine g_bipush hC dX10_look_38 (v := nI 100) (by decide) ?_
        refine g_iload_n hC dX10_look_40 rfl 3 rfl ?_
        refine g_imulN (a := 100) (b := t) hC dX10_look_41 ?_
        refine g_aload_n hC dX10_look_42 rfl 2 rfl (Or.inr ⟨_, rfl⟩) ?_
        refine m_get_19 hC hin (by decide +kernel) dX10_look_43 ?_
        refine g_sipush hC dX10_look_46 (v := nI 256) (by decide) ?_
        refine g_iload_n hC dX10_look_49 rfl 3 rfl ?_
        refine g_imulN (a := 256) (b := t) hC dX10_look_50 ?_
        refine g_iload_n hC dX10_look_51 rfl 1 rfl ?_
        refine g_iaddN (a := 256 * t) (b := i) hC dX10_look_52 ?_
        refine m_aldN (k := 19) (j := (256 * t) + i) hC hm (by decide) rfl rfl rfl dX10_look_53 (show _ < 133120 from (by omega)) ?_
        refine g_iaddN (a := 100 * t) (b := S.2.1 19 ((256 * t) + i)) hC dX10_look_54 ?_
        refine g_iconst hC dX10_look_55 (v := nI 1) (by decide) ?_
        refine g_isubN (a := (100 * t) + (S.2.1 19 ((256 * t) + i))) (b := 1) hC (by omega) dX10_look_56 ?_
        refine g_val (w := .int (nI (100 * t + (S.2.1 19 (256 * t + i) - 1)))) (by congr 2; omega) ?_
        have hto := hI.tt ht (k := S.2.1 19 (256 * t + i) - 1) (by omega)
        refine m_aldN (k := 20) (j := 100 * t + (S.2.1 19 (256 * t + i) - 1)) hC hm (by decide) rfl rfl rfl dX10_look_57 (show _ < 52000 from (by omega)) ?_
        refine g_iload_n hC dX10_look_58 rfl 4 rfl ?_
        refine g_V (As := [.int (nI (S.2.1 20 (100 * t + (S.2.1 19 (256 * t + i) - 1)))), .int (nI r)]) (st := []) hC 2 dX10_look_59 rfl mL_o mW_o gX10_look_X10_areLike rfl (by decide +kernel) ⟨Nat.le_of_ble_eq_true rfl, Nat.le_of_ble_eq_true rfl⟩ rfl (Nat.le_of_ble_eq_true rfl) ⟨Nat.le_of_ble_eq_true rfl, Nat.le_of_ble_eq_true rfl⟩ (c2 := 0) (s2 := 0) rfl rfl (c_areLike hk hm _ r (by omega) (by omega) (hI.bl hto) hbr) ?_
        refine g_ifB_ne (P := likB S (S.2.1 20 (100 * t + (S.2.1 19 (256 * t + i) - 1))) r) (tgt := 95) hC dX10_look_62 (by decide) (fun h62 => ?_) (fun h62 => ?_)
        · have hx9 : lkG S t r (S.2.1 15 t + 1 - n) i n = (i, n) := lkG_stp (Or.inr h62) _
          refine g_aload_n hC dX10_look_95 rfl 2 rfl (Or.inr ⟨_, rfl⟩) ?_
          refine m_get_17 hC hin (by decide +kernel) dX10_look_96 ?_
          refine g_iload_n hC dX10_look_99 rfl 3 rfl ?_
          refine g_iload hC dX10_look_100 0 rfl ?_
          refine m_astN (k := 17) (j := t) (x := n) hC hm (by decide) rfl (fun _ => rfl) rfl dX10_look_102 (show _ < 520 from (by omega)) ?_
          refine g_aload_n hC dX10_look_103 rfl 2 rfl (Or.inr ⟨_, rfl⟩) ?_
          refine g_dup hC dX10_look_104 rfl ?_
          refine m_get_23 hC hin (by decide +kernel) dX10_look_105 ?_
          refine g_iload hC dX10_look_108 0 rfl ?_
          refine g_i2l hC dX10_look_110 (v := lN n) (nI_l (n := n) (by omega)) ?_
          refine g_laddN (a := S.1 23) (b := n) hC dX10_look_111 ?_
          refine m_put_23 (x := (S.1 23) + n) hC hin (by decide +kernel) dX10_look_112 ?_
          refine g_aload_n hC dX10_look_115 rfl 2 rfl (Or.inr ⟨_, rfl⟩) ?_
          refine g_dup hC dX10_look_116 rfl ?_
          refine m_get_24 hC hin (by decide +kernel) dX10_look_117 ?_
          refine g_iconst hC dX10_look_120 (v := nI 1) (by decide) ?_
          refine g_iaddN (a := S.1 24) (b := 1) hC dX10_look_121 ?_
          refine m_put_24 (x := (S.1 24) + 1) hC hin (by decide +kernel) dX10_look_122 ?_
          refine g_iload_n hC dX10_look_125 rfl 1 rfl ?_
          have e9 : lk S t r = (i, n) := by rw [← hg]; exact hx9
          exact g_iret hC hR dX10_look_126 ⟨by rw [e9], rfl, by unfold lkS; rw [e9]⟩
        · refine g_iload hC dX10_look_65 0 rfl ?_
          refine g_aload_n hC dX10_look_67 rfl 2 rfl (Or.inr ⟨_, rfl⟩) ?_
          refine m_get_15 hC hin (by decide +kernel) dX10_look_68 ?_
          refine g_iload_n hC dX10_look_71 rfl 3 rfl ?_
          refine m_aldN (k := 15) (j := t) hC hm (by decide) rfl rfl rfl dX10_look_72 (show _ < 520 from (by omega)) ?_
          refine g_icmpN_gt (a := n) (b := S.2.1 15 t) (tgt := 95) hC dX10_look_73 (by decide) (by omega) (by omega) (fun h73 => ?_) (fun h73 => ?_)
          · have hx9 : lkG S t r (S.2.1 15 t + 1 - n) i n = (i, n) := by rw [show S.2.1 15 t + 1 - n = 0 by omega]; rfl
            refine g_aload_n hC dX10_look_95 rfl 2 rfl (Or.inr ⟨_, rfl⟩) ?_
            refine m_get_17 hC hin (by decide +kernel) dX10_look_96 ?_
            refine g_iload_n hC dX10_look_99 rfl 3 rfl ?_
            refine g_iload hC dX10_look_100 0 rfl ?_
            refine m_astN (k := 17) (j := t) (x := n) hC hm (by decide) rfl (fun _ => rfl) rfl dX10_look_102 (show _ < 520 from (by omega)) ?_
            refine g_aload_n hC dX10_look_103 rfl 2 rfl (Or.inr ⟨_, rfl⟩) ?_
            refine g_dup hC dX10_look_104 rfl ?_
            refine m_get_23 hC hin (by decide +kernel) dX10_look_105 ?_
            refine g_iload hC dX10_look_108 0 rfl ?_
            refine g_i2l hC dX10_look_110 (v := lN n) (nI_l (n := n) (by omega)) ?_
            refine g_laddN (a := S.1 23) (b := n) hC dX10_look_111 ?_
            refine m_put_23 (x := (S.1 23) + n) hC hin (by decide +kernel) dX10_look_112 ?_
            refine g_aload_n hC dX10_look_115 rfl 2 rfl (Or.inr ⟨_, rfl⟩) ?_
            refine g_dup hC dX10_look_116 rfl ?_
            refine m_get_24 hC hin (by decide +kernel) dX10_look_117 ?_
            refine g_iconst hC dX10_look_120 (v := nI 1) (by decide) ?_
            refine g_iaddN (a := S.1 24) (b := 1) hC dX10_look_121 ?_
            refine m_put_24 (x := (S.1 24) + 1) hC hin (by decide +kernel) dX10_look_122 ?_
            refine g_iload_n hC dX10_look_125 rfl 1 rfl ?_
            have e9 : lk S t r = (i, n) := by rw [← hg]; exact hx9
            exact g_iret hC hR dX10_look_126 ⟨by rw [e9], rfl, by unfold lkS; rw [e9]⟩
          · refine g_iload_n hC dX10_look_76 rfl 1 rfl ?_
            refine g_iconst hC dX10_look_77 (v := nI 1) (by decide) ?_
            refine g_iaddN (a := i) (b := 1) hC dX10_look_78 ?_
            refine g_aload_n hC dX10_look_79 rfl 2 rfl (Or.inr ⟨_, rfl⟩) ?_
            refine m_get_15 hC hin (by decide +kernel) dX10_look_80 ?_
            refine g_iload_n hC dX10_look_83 rfl 3 rfl ?_
            refine m_aldN (k := 15) (j := t) hC hm (by decide) rfl rfl rfl dX10_look_84 (show _ < 520 from (by omega)) ?_
            refine g_iconst hC dX10_look_85 (v := nI 1) (by decide) ?_
            refine g_isubN (a := S.2.1 15 t) (b := 1) hC (by omega) dX10_look_86 ?_
            refine g_iand hC dX10_look_87 ?_
            refine g_val (w := .int (nI ((i + 1) % S.2.1 15 t))) (congrArg Value.int (and_slN (by omega) hk9.1)) ?_
            refine g_istore_n (lv' := [(3, .int (nI ((i + 1) % S.2.1 15 t))), (4, .int (nI n)), (0, .ref o), (1, .int (nI t)), (2, .int (nI r))]) hC dX10_look_88 rfl (by decide) rfl ?_
            refine g_iincN (n := 1) (a := n) (lv' := [(4, .int (nI (n + 1))), (3, .int (nI ((i + 1) % S.2.1 15 t))), (0, .ref o), (1, .int (nI t)), (2, .int (nI r))]) hC dX10_look_89 1 rfl (by decide) rfl ?_
            refine g_goto (tgt := 18) hC dX10_look_92 (by decide) ?_
            exact ih ((i + 1) % S.2.1 15 t) (n + 1) (by omega) (Nat.mod_lt _ (by omega)) (by omega) (by omega) (by rw [← hg, show S.2.1 15 t + 1 - n = (S.2.1 15 t + 1 - (n + 1)) + 1 by omega, lkG, if_neg (fun q => by rcases q with q | q; exact absurd q (by omega); exact h62 q)])
  refine g_aload_n hC dX10_look_0 rfl 0 rfl (Or.inr ⟨_, rfl⟩) ?_
  refine g_iload_n hC dX10_look_1 rfl 2 rfl ?_
  refine g_V (As := [.int (nI r)]) (st := []) hC 1 dX10_look_2 rfl mL_o mW_o gX10_look_X10_hashOf rfl (by decide +kernel) ⟨Nat.le_of_ble_eq_true rfl, Nat.le_of_ble_eq_true rfl⟩ rfl (Nat.le_of_ble_eq_true rfl) ⟨Nat.le_of_ble_eq_true rfl, Nat.le_of_ble_eq_true rfl⟩ (c2 := 0) (s2 := 0) rfl rfl (c_hashOf hk hm r (by omega) hbr) ?_
  refine g_aload_n hC dX10_look_5 rfl 0 rfl (Or.inr ⟨_, rfl⟩) ?_
  refine m_get_15 hC hin (by decide +kernel) dX10_look_6 ?_
  refine g_iload_n hC dX10_look_9 rfl 1 rfl ?_
  refine m_aldN (k := 15) (j := t) hC hm (by decide) rfl rfl rfl dX10_look_10 (show _ < 520 from (by omega)) ?_
  refine g_iconst hC dX10_look_11 (v := nI 1) (by decide) ?_
  refine g_isubN (a := S.2.1 15 t) (b := 1) hC (by omega) dX10_look_12 ?_
  refine g_iand hC dX10_look_13 ?_
  refine g_val (w := .int (nI (fst0 S t r))) (congrArg Value.int (and_sl _ hk9.1)) ?_
  refine g_istore_n (lv' := [(3, .int (nI (fst0 S t r))), (0, .ref o), (1, .int (nI t)), (2, .int (nI r))]) hC dX10_look_14 rfl (by decide) rfl ?_
  refine g_iconst hC dX10_look_15 (v := nI 1) (by decide) ?_
  refine g_istore (lv' := [(4, .int (nI 1)), (3, .int (nI (fst0 S t r))), (0, .ref o), (1, .int (nI t)), (2, .int (nI r))]) hC dX10_look_16 (by decide) rfl ?_
  exact lp (S.2.1 15 t + 1) (fst0 S t r) 1 (by omega) (Nat.mod_lt _ (by omega)) (by omega) (by omega) rfl
set_option maxRecDepth 20000 in
set_option maxHeartbeats 4000000 in
theorem c_keptFor (hk : gKok D vwCl (cyT cy) K) (hm : mOk o ad) (hI : aI S) (r : Nat) (hr : r < S.1 4) : gCt l D vwCl K yX10_keptFor wsX10_keptFor { frames := 2, cells := 0, slots := 0, locals := 45 } [.ref o, .int (nI r)] (mL o ad) (mW o ad cy S) (pE (some (.int (nI (keptS S r).1))) (mL o ad) (mW o ad cy (keptS S r).2)) := by
  refine gCt.of hk (by decide) rfl rfl (fun X hC hR hnm => ?_)
  have hC : gC X l _ D vwCl (cyT cy) K cX10_keptFor 3 wsX10_keptFor RX10 := hC
  have hin : ∀ w ∈ wsX100, w ∈ wsX10_keptFor := by decide +kernel
  show gW X vwCl 3 (mL o ad) (mW o ad cy S) 0 0 0 [(0, .ref o), (1, .int (nI r))] []
  have hnb := hI.nb
  have hbr := hI.bl hr
  have lp : ∀ (m : Nat) (k : Nat), S.1 21 - k < m → (k ≤ S.1 21) → (kpG S r (S.1 21 - k) k = kpG S r (S.1 21) 0) → gW X vwCl 3 (mL o ad) (mW o ad cy S) 0 0 2 [(2, .int (nI k)), (0, .ref o), (1, .int (nI r))] [] := by
    intro m
    induction m with
    | zero => intros; omega
    | succ m ih =>
      intro k hm9 hk9 hg
      refine g_iload_n hC dX10_keptFor_2 rfl 0 rfl ?_
      refine g_aload_n hC dX10_keptFor_3 rfl 1 rfl (Or.inr ⟨_, rfl⟩) ?_
      refine m_get_21 hC hin (by decide +kernel) dX10_keptFor_4 ?_
      refine g_icmpN_ge (a := k) (b := S.1 21) (tgt := 37) hC dX10_keptFor_7 (by decide) (by omega) (by omega) (fun h7 => ?_) (fun h7 => ?_)
      · refine g_aload_n hC dX10_keptFor_37 rfl 1 rfl (Or.inr ⟨_, rfl⟩) ?_
        refine m_get_22 hC hin (by decide +kernel) dX10_keptFor_38 ?_
        refine g_aload_n hC dX10_keptFor_41 rfl 1 rfl (Or.inr ⟨_, rfl⟩) ?_
        refine m_get_21 hC hin (by decide +kernel) dX10_keptFor_42 ?_
        refine g_aload_n hC dX10_keptFor_45 rfl 1 rfl (Or.inr ⟨_, rfl⟩) ?_
        refine g_iload_n hC dX10_keptFor_46 rfl 2 rfl ?_
        refine g_V (As := [.int (nI r)]) (st := [.int (nI (S.1 21)), .ref (ad 22)]) hC 1 dX10_keptFor_47 rfl mL_o mW_o gX10_keptFor_X10_twinOf rfl (by decide +kernel) ⟨Nat.le_of_ble_eq_true rfl, Nat.le_of_ble_eq_true rfl⟩ rfl (Nat.le_of_ble_eq_true rfl) ⟨Nat.le_of_ble_eq_true rfl, Nat.le_of_ble_eq_true rfl⟩ (c2 := 0) (s2 := 0) rfl rfl (c_twinOf hk hm r (by omega) (by omega) hr) ?_
        refine m_astN (k := 22) (j := S.1 21) (x := S.1 4) hC hm (by decide) rfl (fun _ => rfl) rfl dX10_keptFor_50 (show _ < 40000 from (by omega)) ?_
        refine g_aload_n hC dX10_keptFor_51 rfl 1 rfl (Or.inr ⟨_, rfl⟩) ?_
        refine g_dup hC dX10_keptFor_52 rfl ?_
        refine m_get_21 hC hin (by decide +kernel) dX10_keptFor_53 ?_
        refine g_iconst hC dX10_keptFor_56 (v := nI 1) (by decide) ?_
        refine g_iaddN (a := S.1 21) (b := 1) hC dX10_keptFor_57 ?_
        refine m_put_21 (x := (S.1 21) + 1) hC hin (by decide +kernel) dX10_keptFor_58 ?_
        refine g_aload_n hC dX10_keptFor_61 rfl 1 rfl (Or.inr ⟨_, rfl⟩) ?_
        refine m_get_22 hC hin (by decide +kernel) dX10_keptFor_62 ?_
        refine g_aload_n hC dX10_keptFor_65 rfl 1 rfl (Or.inr ⟨_, rfl⟩) ?_
        refine m_get_21 hC hin (by decide +kernel) dX10_keptFor_66 ?_
        refine g_iconst hC dX10_keptFor_69 (v := nI 1) (by decide) ?_
        refine g_isubN (a := (S.1 21) + 1) (b := 1) hC (by omega) dX10_keptFor_70 ?_
        refine m_aldN (k := 22) (j := ((S.1 21) + 1) - 1) hC hm (by decide) rfl rfl rfl dX10_keptFor_71 (show _ < 40000 from (by omega)) ?_
        have e9 : keptS S r = (S.1 4, (aSc (aN (twinB S r) 22 (S.1 21) (S.1 4)) 21 ((S.1 21) + 1))) := by unfold keptS; rw [← hg, show S.1 21 - k = 0 by omega]; rfl
        exact g_iret hC hR dX10_keptFor_72 ⟨by rw [e9]; simp [aSc, aN, va_up], rfl, by rw [e9]⟩
      · refine g_aload_n hC dX10_keptFor_10 rfl 1 rfl (Or.inr ⟨_, rfl⟩) ?_
        refine g_aload_n hC dX10_keptFor_11 rfl 1 rfl (Or.inr ⟨_, rfl⟩) ?_
        refine m_get_22 hC hin (by decide +kernel) dX10_keptFor_12 ?_
        refine g_iload_n hC dX10_keptFor_15 rfl 0 rfl ?_
        refine m_aldN (k := 22) (j := k) hC hm (by decide) rfl rfl rfl dX10_keptFor_16 (show _ < 40000 from (by omega)) ?_
        refine g_iload_n hC dX10_keptFor_17 rfl 2 rfl ?_
        have hkr := hI.2.2.2.2.2.2.2.1 k (by omega)
        refine g_V (As := [.int (nI (S.2.1 22 k)), .int (nI r)]) (st := []) hC 2 dX10_keptFor_18 rfl mL_o mW_o gX10_keptFor_X10_areLike rfl (by decide +kernel) ⟨Nat.le_of_ble_eq_true rfl, Nat.le_of_ble_eq_true rfl⟩ rfl (Nat.le_of_ble_eq_true rfl) ⟨Nat.le_of_ble_eq_true rfl, Nat.le_of_ble_eq_true rfl⟩ (c2 := 0) (s2 := 0) rfl rfl (c_areLike hk hm _ r (by omega) (by omega) (hI.bl hkr) hbr) ?_
        refine g_ifB_eq (P := likB S (S.2.1 22 k) r) (tgt := 31) hC dX10_keptFor_21 (by decide) (fun h21 => ?_) (fun h21 => ?_)
        · refine g_iincN (n := 1) (a := k) (lv' := [(2, .int (nI (k + 1))), (0, .ref o), (1, .int (nI r))]) hC dX10_keptFor_31 0 rfl (by decide) rfl ?_
          refine g_goto (tgt := 2) hC dX10_keptFor_34 (by decide) ?_
          exact ih (k + 1) (by omega) (by omega) (by rw [← hg, show S.1 21 - k = (S.1 21 - (k + 1)) + 1 by omega, kpG, if_neg h21])
        · refine g_aload_n hC dX10_keptFor_24 rfl 1 rfl (Or.inr ⟨_, rfl⟩) ?_
          refine m_get_22 hC hin (by decide +kernel) dX10_keptFor_25 ?_
          refine g_iload_n hC dX10_keptFor_28 rfl 0 rfl ?_
          refine m_aldN (k := 22) (j := k) hC hm (by decide) rfl rfl rfl dX10_keptFor_29 (show _ < 40000 from (by omega)) ?_
          have e9 : keptS S r = (S.2.1 22 k, S) := by unfold keptS; rw [← hg, show S.1 21 - k = (S.1 21 - k - 1) + 1 by omega, kpG, if_pos h21]
          exact g_iret hC hR dX10_keptFor_30 ⟨by rw [e9], rfl, by rw [e9]⟩
  refine g_iconst hC dX10_keptFor_0 (v := nI 0) (by decide) ?_
  refine g_istore_n (lv' := [(2, .int (nI 0)), (0, .ref o), (1, .int (nI r))]) hC dX10_keptFor_1 rfl (by decide) rfl ?_
  exact lp (S.1 21 + 1) 0 (by omega) (by omega) rfl
end M3
