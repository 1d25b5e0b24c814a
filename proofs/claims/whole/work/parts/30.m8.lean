section M3
variable {l : Launch} {D : va_G} {cy : Nat → ClassId} {K : gKt} {o : Nat} {ad : Nat → Nat} {S : aS}
set_option maxRecDepth 20000 in
set_option maxHeartbeats 4000000 in
theorem c_grow (hk : gKok D vwCl (cyT cy) K) (hm : mOk o ad) (t : Nat) (ht : t < 520) (he : ∃ e, 2 ≤ e ∧ e ≤ 7 ∧ S.2.1 15 t = 2 ^ e) (htm : S.2.1 16 t ≤ 100) (hto : ∀ k, k < S.2.1 16 t → S.2.1 20 (100 * t + k) < 40000 ∧ S.2.1 5 (S.2.1 20 (100 * t + k)) ≤ 16) (hfr : ∀ k, k < S.2.1 16 t → (putsT (clrT S t) t k).2.1 19 (256 * t + frG (putsT (clrT S t) t k) t ((putsT (clrT S t) t k).2.1 15 t) (fst0 (putsT (clrT S t) t k) t ((putsT (clrT S t) t k).2.1 20 (100 * t + k)))) = 0) : gCt l D vwCl K yX10_grow wsX10_grow { frames := 1, cells := 0, slots := 0, locals := 23 } [.ref o, .int (nI t)] (mL o ad) (mW o ad cy S) (pE none (mL o ad) (mW o ad cy (growS S t))) := by
  refine gCt.of hk (by decide) rfl rfl (fun X hC hR hnm => ?_)
  have hC : gC X l _ D vwCl (cyT cy) K cX10_grow 4 wsX10_grow RX10 := hC
  have hin : ∀ w ∈ wsX100, w ∈ wsX10_grow := by decide +kernel
  show gW X vwCl 4 (mL o ad) (mW o ad cy S) 0 0 0 [(0, .ref o), (1, .int (nI t))] []
  have hs8 : 4 ≤ S.2.1 15 t ∧ S.2.1 15 t ≤ 128 := by
    obtain ⟨e, h1, h2, h3⟩ := he
    rw [h3]
    rcases (show e = 2 ∨ e = 3 ∨ e = 4 ∨ e = 5 ∨ e = 6 ∨ e = 7 by omega) with rfl | rfl | rfl | rfl | rfl | rfl <;> decide
  have he2 : ∃ e, 2 ≤ e ∧ e ≤ 8 ∧ S.2.1 15 t * 2 = 2 ^ e := by
    obtain ⟨e, h1, h2, h3⟩ := he
    exact ⟨e + 1, by omega, by omega, by rw [h3, Nat.pow_succ]⟩
  obtain ⟨c1, c2, c15, cj⟩ := clrT_f (S := S) (t := t)
  have lp : ∀ (m : Nat) (k : Nat), S.2.1 16 t - k < m → (k ≤ S.2.1 16 t) → gW X vwCl 4 (mL o ad) (mW o ad cy (putsT (clrT S t) t k)) 0 0 53 [(2, .int (nI k)), (0, .ref o), (1, .int (nI t))] [] := by
    intro m
    induction m with
    | zero => intros; omega
    | succ m ih =>
      intro k hm9 hk9
      obtain ⟨p1, p2, pj⟩ := putsT_f (B := clrT S t) (t := t) k
      have p15 : (putsT (clrT S t) t k).2.1 15 t = S.2.1 15 t * 2 := by rw [pj 15 (by decide), c15]
      have p16 : (putsT (clrT S t) t k).2.1 16 t = S.2.1 16 t := by rw [pj 16 (by decide), cj 16 (by decide) (by decide) (by decide)]
      have p20 : ∀ x, (putsT (clrT S t) t k).2.1 20 x = S.2.1 20 x := fun x => by rw [pj 20 (by decide), cj 20 (by decide) (by decide) (by decide)]
      have p5 : ∀ x, (putsT (clrT S t) t k).2.1 5 x = S.2.1 5 x := fun x => by rw [pj 5 (by decide), cj 5 (by decide) (by decide) (by decide)]
      have pe : ∃ e, 2 ≤ e ∧ e ≤ 8 ∧ (putsT (clrT S t) t k).2.1 15 t = 2 ^ e := by rw [p15]; exact he2
      refine g_iload_n hC dX10_grow_53 rfl 0 rfl ?_
      refine g_aload_n hC dX10_grow_54 rfl 1 rfl (Or.inr ⟨_, rfl⟩) ?_
      refine m_get_16 hC hin (by decide +kernel) dX10_grow_55 ?_
      refine g_iload_n hC dX10_grow_58 rfl 2 rfl ?_
      refine m_aldN (k := 16) (j := t) hC hm (by decide) rfl rfl rfl dX10_grow_59 (show _ < 520 from (by omega)) ?_
      refine g_icmpN_ge (a := k) (b := ((putsT (clrT S t) t k)).2.1 16 t) (tgt := 140) hC dX10_grow_60 (by decide) (by omega) (by omega) (fun h60 => ?_) (fun h60 => ?_)
      · have e8 : S.2.1 16 t = k := by omega
        have e9 : growS S t = putsT (clrT S t) t k := by unfold growS; rw [e8]
        rw [e9] at hR
        exact g_vret hC hR dX10_grow_140 ⟨rfl, rfl, rfl⟩
      · refine g_aload_n hC dX10_grow_63 rfl 1 rfl (Or.inr ⟨_, rfl⟩) ?_
        refine g_aload_n hC dX10_grow_64 rfl 1 rfl (Or.inr ⟨_, rfl⟩) ?_
        refine m_get_20 hC hin (by decide +kernel) dX10_grow_65 ?_
        refine g_bipush hC dX10_grow_68 (v := nI 100) (by decide) ?_
        refine g_iload_n hC dX10_grow_70 rfl 2 rfl ?_
        refine g_imulN (a := 100) (b := t) hC dX10_grow_71 ?_
        refine g_iload_n hC dX10_grow_72 rfl 0 rfl ?_
        refine g_iaddN (a := 100 * t) (b := k) hC dX10_grow_73 ?_
        refine m_aldN (k := 20) (j := (100 * t) + k) hC hm (by decide) rfl rfl rfl dX10_grow_74 (show _ < 52000 from (by omega)) ?_
        have ho9 := hto k (by omega)
        refine g_V (As := [.int (nI (((putsT (clrT S t) t k)).2.1 20 ((100 * t) + k)))]) (st := []) hC 1 dX10_grow_75 rfl mL_o mW_o gX10_grow_X10_hashOf rfl (by decide +kernel) ⟨Nat.le_of_ble_eq_true rfl, Nat.le_of_ble_eq_true rfl⟩ rfl (Nat.le_of_ble_eq_true rfl) ⟨Nat.le_of_ble_eq_true rfl, Nat.le_of_ble_eq_true rfl⟩ (c2 := 0) (s2 := 0) rfl rfl (c_hashOf hk hm ((putsT (clrT S t) t k).2.1 20 (100 * t + k)) (by rw [p20]; exact ho9.1) (by rw [p20, p5]; exact ho9.2)) ?_
        refine g_aload_n hC dX10_grow_78 rfl 1 rfl (Or.inr ⟨_, rfl⟩) ?_
        refine m_get_15 hC hin (by decide +kernel) dX10_grow_79 ?_
        refine g_iload_n hC dX10_grow_82 rfl 2 rfl ?_
        refine m_aldN (k := 15) (j := t) hC hm (by decide) rfl rfl rfl dX10_grow_83 (show _ < 520 from (by omega)) ?_
        refine g_iconst hC dX10_grow_84 (v := nI 1) (by decide) ?_
        refine g_isubN (a := ((putsT (clrT S t) t k)).2.1 15 t) (b := 1) hC (by omega) dX10_grow_85 ?_
        refine g_iand hC dX10_grow_86 ?_
        refine g_val (w := .int (nI (fst0 (putsT (clrT S t) t k) t ((putsT (clrT S t) t k).2.1 20 (100 * t + k))))) (congrArg Value.int (and_sl _ pe)) ?_
        refine g_istore_n (lv' := [(3, .int (nI (fst0 (putsT (clrT S t) t k) t ((putsT (clrT S t) t k).2.1 20 (100 * t + k))))), (2, .int (nI k)), (0, .ref o), (1, .int (nI t))]) hC dX10_grow_87 rfl (by decide) rfl ?_
        have hz9 := hfr k (by omega)
        have htg := frG_lt (S := (putsT (clrT S t) t k)) (t := t) (by omega) ((putsT (clrT S t) t k).2.1 15 t) (fst0 (putsT (clrT S t) t k) t ((putsT (clrT S t) t k).2.1 20 (100 * t + k))) (Nat.mod_lt _ (by omega))
        generalize hTG : (frG (putsT (clrT S t) t k) t ((putsT (clrT S t) t k).2.1 15 t) (fst0 (putsT (clrT S t) t k) t ((putsT (clrT S t) t k).2.1 20 (100 * t + k)))) = tg at hz9 htg
        have lin : ∀ (m2 f i : Nat), f < m2 → i < (putsT (clrT S t) t k).2.1 15 t → frG (putsT (clrT S t) t k) t f i = tg → gW X vwCl 4 (mL o ad) (mW o ad cy (putsT (clrT S t) t k)) 0 0 88 [(3, .int (nI i)), (2, .int (nI k)), (0, .ref o), (1, .int (nI t))] [] := by
          intro m2
          induction m2 with
          | zero => intros; omega
          | succ m2 ih2 =>
            intro f i hm8 hi8 hf
            have hso9 : (putsT (clrT S t) t k).2.1 19 (256 * t + i) ≤ k := putsT_le (n := S.2.1 15 t * 2) (fun j hj => clrT_0 hj) k i (by omega)
            refine g_aload_n hC dX10_grow_88 rfl 2 rfl (Or.inr ⟨_, rfl⟩) ?_
            refine m_get_19 hC hin (by decide +kernel) dX10_grow_89 ?_
            refine g_sipush hC dX10_grow_92 (v := nI 256) (by decide) ?_
            refine g_iload_n hC dX10_grow_95 rfl 3 rfl ?_
            refine g_imulN (a := 256) (b := t) hC dX10_grow_96 ?_
            refine g_iload_n hC dX10_grow_97 rfl 0 rfl ?_
            refine g_iaddN (a := 256 * t) (b := i) hC dX10_grow_98 ?_
            refine m_aldN (k := 19) (j := (256 * t) + i) hC hm (by decide) rfl rfl rfl dX10_grow_99 (show _ < 133120 from (by omega)) ?_
            refine g_ifN_le (a := ((putsT (clrT S t) t k)).2.1 19 ((256 * t) + i)) (tgt := 119) hC dX10_grow_100 (by decide) (by omega) (fun h100 => ?_) (fun h100 => ?_)
            · obtain rfl : i = tg := by
                cases f with
                | zero => exact hf
                | succ f => rw [frG, if_pos h100] at hf; exact hf
              refine g_aload_n hC dX10_grow_119 rfl 2 rfl (Or.inr ⟨_, rfl⟩) ?_
              refine m_get_19 hC hin (by decide +kernel) dX10_grow_120 ?_
              refine g_sipush hC dX10_grow_123 (v := nI 256) (by decide) ?_
              refine g_iload_n hC dX10_grow_126 rfl 3 rfl ?_
              refine g_imulN (a := 256) (b := t) hC dX10_grow_127 ?_
              refine g_iload_n hC dX10_grow_128 rfl 0 rfl ?_
              refine g_iaddN (a := 256 * t) (b := i) hC dX10_grow_129 ?_
              refine g_iload_n hC dX10_grow_130 rfl 1 rfl ?_
              refine g_iconst hC dX10_grow_131 (v := nI 1) (by decide) ?_
              refine g_iaddN (a := k) (b := 1) hC dX10_grow_132 ?_
              refine m_astN (k := 19) (j := (256 * t) + i) (x := k + 1) hC hm (by decide) rfl (fun _ => rfl) rfl dX10_grow_133 (show _ < 133120 from (by omega)) ?_
              refine g_iincN (n := 1) (a := k) (lv' := [(2, .int (nI (k + 1))), (3, .int (nI i)), (0, .ref o), (1, .int (nI t))]) hC dX10_grow_134 1 rfl (by decide) rfl ?_
              refine g_goto (tgt := 53) hC dX10_grow_137 (by decide) ?_
              refine g_lv (lv' := [(2, .int (nI (k + 1))), (0, .ref o), (1, .int (nI t))]) [0, 2, 3] rfl ?_
              have e0 : aN (putsT (clrT S t) t k) 19 (256 * t + i) (k + 1) = putsT (clrT S t) t (k + 1) := by
                show _ = putT _ t k
                unfold putT
                rw [hTG]
              rw [e0]
              exact ih (k + 1) (by omega) (by omega)
            · obtain ⟨f, rfl⟩ : ∃ f9, f = f9 + 1 := by
                cases f with
                | zero => exact absurd (show _ = 0 from (show i = tg from hf) ▸ hz9) (by omega)
                | succ f => exact ⟨f, rfl⟩
              refine g_iload_n hC dX10_grow_103 rfl 0 rfl ?_
              refine g_iconst hC dX10_grow_104 (v := nI 1) (by decide) ?_
              refine g_iaddN (a := i) (b := 1) hC dX10_grow_105 ?_
              refine g_aload_n hC dX10_grow_106 rfl 2 rfl (Or.inr ⟨_, rfl⟩) ?_
              refine m_get_15 hC hin (by decide +kernel) dX10_grow_107 ?_
              refine g_iload_n hC dX10_grow_110 rfl 3 rfl ?_
              refine m_aldN (k := 15) (j := t) hC hm (by decide) rfl rfl rfl dX10_grow_111 (show _ < 520 from (by omega)) ?_
              refine g_iconst hC dX10_grow_112 (v := nI 1) (by decide) ?_
              refine g_isubN (a := ((putsT (clrT S t) t k)).2.1 15 t) (b := 1) hC (by omega) dX10_grow_113 ?_
              refine g_iand hC dX10_grow_114 ?_
              refine g_val (w := .int (nI ((i + 1) % (putsT (clrT S t) t k).2.1 15 t))) (congrArg Value.int (and_slN (by omega) pe)) ?_
              refine g_istore_n (lv' := [(3, .int (nI ((i + 1) % (putsT (clrT S t) t k).2.1 15 t))), (2, .int (nI k)), (0, .ref o), (1, .int (nI t))]) hC dX10_grow_115 rfl (by decide) rfl ?_
              refine g_goto (tgt := 88) hC dX10_grow_116 (by decide) ?_
              exact ih2 f ((i + 1) % (putsT (clrT S t) t k).2.1 15 t) (by omega) (Nat.mod_lt _ (by omega)) (by rw [frG, if_neg (by omega)] at hf; exact hf)
        exact lin ((putsT (clrT S t) t k).2.1 15 t + 1) ((putsT (clrT S t) t k).2.1 15 t) _ (by omega) (Nat.mod_lt _ (by omega)) hTG
  have lc : ∀ (m : Nat) (i : Nat), 257 - i < m → (i ≤ S.2.1 15 t * 2) → gW X vwCl 4 (mL o ad) (mW o ad cy (aNr (aN (aN S 15 t (S.2.1 15 t * 2)) 18 t (S.2.1 18 t + 1)) 19 (256 * t) i (fun _ => 0))) 0 0 22 [(2, .int (nI i)), (0, .ref o), (1, .int (nI t))] [] := by
    intro m
    induction m with
    | zero => intros; omega
    | succ m ih =>
      intro i hm9 hi9
      refine g_iload_n hC dX10_grow_22 rfl 0 rfl ?_
      refine g_aload_n hC dX10_grow_23 rfl 1 rfl (Or.inr ⟨_, rfl⟩) ?_
      refine m_get_15 hC hin (by decide +kernel) dX10_grow_24 ?_
      refine g_iload_n hC dX10_grow_27 rfl 2 rfl ?_
      refine m_aldN (k := 15) (j := t) hC hm (by decide) rfl rfl rfl dX10_grow_28 (show _ < 520 from (by omega)) ?_
      refine g_val (w := .int (nI (S.2.1 15 t * 2))) (by simp [aSc, aN, aW, aNr, aWr, va_up]) ?_
      refine g_icmpN_ge (a := i) (b := S.2.1 15 t * 2) (tgt := 51) hC dX10_grow_29 (by decide) (by omega) (by omega) (fun h29 => ?_) (fun h29 => ?_)
      · obtain rfl : i = S.2.1 15 t * 2 := by omega
        refine g_iconst hC dX10_grow_51 (v := nI 0) (by decide) ?_
        refine g_istore_n (lv' := [(2, .int (nI 0)), (0, .ref o), (1, .int (nI t))]) hC dX10_grow_52 rfl (by decide) rfl ?_
        exact lp (S.2.1 16 t + 1) 0 (by omega) (by omega)
      · refine g_aload_n hC dX10_grow_32 rfl 1 rfl (Or.inr ⟨_, rfl⟩) ?_
        refine m_get_19 hC hin (by decide +kernel) dX10_grow_33 ?_
        refine g_sipush hC dX10_grow_36 (v := nI 256) (by decide) ?_
        refine g_iload_n hC dX10_grow_39 rfl 2 rfl ?_
        refine g_imulN (a := 256) (b := t) hC dX10_grow_40 ?_
        refine g_iload_n hC dX10_grow_41 rfl 0 rfl ?_
        refine g_iaddN (a := 256 * t) (b := i) hC dX10_grow_42 ?_
        refine g_iconst hC dX10_grow_43 (v := nI 0) (by decide) ?_
        refine m_astN (k := 19) (j := (256 * t) + i) (x := 0) hC hm (by decide) rfl (fun _ => rfl) rfl dX10_grow_44 (show _ < 133120 from (by omega)) ?_
        refine g_iincN (n := 1) (a := i) (lv' := [(2, .int (nI (i + 1))), (0, .ref o), (1, .int (nI t))]) hC dX10_grow_45 0 rfl (by decide) rfl ?_
        refine g_goto (tgt := 22) hC dX10_grow_48 (by decide) ?_
        have e0 : aN (aNr (aN (aN S 15 t (S.2.1 15 t * 2)) 18 t (S.2.1 18 t + 1)) 19 (256 * t) i (fun _ => 0)) 19 (256 * t + i) 0 = aNr (aN (aN S 15 t (S.2.1 15 t * 2)) 18 t (S.2.1 18 t + 1)) 19 (256 * t) (i + 1) (fun _ => 0) := aNr_s (g := fun _ => 0)
        rw [e0]
        exact ih (i + 1) (by omega) (by omega)
  refine g_aload_n hC dX10_grow_0 rfl 0 rfl (Or.inr ⟨_, rfl⟩) ?_
  refine m_get_15 hC hin (by decide +kernel) dX10_grow_1 ?_
  refine g_iload_n hC dX10_grow_4 rfl 1 rfl ?_
  refine g_dup2 hC dX10_grow_5 rfl rfl ?_
  refine m_aldN (k := 15) (j := t) hC hm (by decide) rfl rfl rfl dX10_grow_6 (show _ < 520 from (by omega)) ?_
  refine g_iconst hC dX10_grow_7 (v := nI 2) (by decide) ?_
  refine g_imulN (a := S.2.1 15 t) (b := 2) hC dX10_grow_8 ?_
  refine m_astN (k := 15) (j := t) (x := (S.2.1 15 t) * 2) hC hm (by decide) rfl (fun _ => rfl) rfl dX10_grow_9 (show _ < 520 from (by omega)) ?_
  refine g_aload_n hC dX10_grow_10 rfl 0 rfl (Or.inr ⟨_, rfl⟩) ?_
  refine m_get_18 hC hin (by decide +kernel) dX10_grow_11 ?_
  refine g_iload_n hC dX10_grow_14 rfl 1 rfl ?_
  refine g_dup2 hC dX10_grow_15 rfl rfl ?_
  refine m_aldN (k := 18) (j := t) hC hm (by decide) rfl rfl rfl dX10_grow_16 (show _ < 520 from (by omega)) ?_
  refine g_iconst hC dX10_grow_17 (v := nI 1) (by decide) ?_
  refine g_iaddN (a := S.2.1 18 t) (b := 1) hC dX10_grow_18 ?_
  refine m_astN (k := 18) (j := t) (x := (S.2.1 18 t) + 1) hC hm (by decide) rfl (fun _ => rfl) rfl dX10_grow_19 (show _ < 520 from (by omega)) ?_
  refine g_iconst hC dX10_grow_20 (v := nI 0) (by decide) ?_
  refine g_istore_n (lv' := [(2, .int (nI 0)), (0, .ref o), (1, .int (nI t))]) hC dX10_grow_21 rfl (by decide) rfl ?_
  rw [← aNr_0 (S := (aN (aN S 15 t ((S.2.1 15 t) * 2)) 18 t ((S.2.1 18 t) + 1))) (k := 19) (base := 256 * t) (g := fun _ => 0)]
  exact lc 258 0 (by omega) (by omega)
end M3
