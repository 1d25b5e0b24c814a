theorem lg_cmp_self (x : Int64) : lg_cmp x x = nI 0 := by
  unfold lg_cmp
  rw [if_neg (show ¬ x < x by rw [Int64.lt_iff_toInt_lt]; omega), if_pos rfl]
  rfl
theorem cpy_1 {S : aS} {j a q b n : Nat} : (cpyS S j a q b n).1 = S.1 := by unfold cpyS; (repeat' split) <;> rfl
theorem p_copy {S : aS} (p a q e n : Int32) : (s_copy S p a q e n).2.1 23 = S.1 23 ∧ (s_copy S p a q e n).2.1 24 = S.1 24 := by
  unfold s_copy
  (repeat' split) <;> first | exact ⟨rfl, rfl⟩ | exact ⟨congrFun cpy_1 23, congrFun cpy_1 24⟩
theorem com_23 {S : aS} {t r : Nat} (hI : aI S) (ht : t < S.1 13) : (comS S t r).2.1 23 ≤ S.1 23 + 256 ∧ (comS S t r).2.1 24 = S.1 24 + 1 := by
  have h1 := lk_b (r := r) (hI.tk ht)
  have h2 := (hI.tk ht).sl
  rw [com_A]
  refine ⟨?_, rfl⟩
  show S.1 23 + (lk S t r).2 ≤ S.1 23 + 256
  omega
theorem k23 {m A B z w : Nat} (h1 : A ≤ z + 256) (h2 : B = w + 1) : A ≤ z + 256 * (m + 1) ∧ B ≤ w + (m + 1) := by omega
theorem mg_23 {t u N : Nat} : ∀ m k n Z, k + m = N → mI t u N k Z → (mgG t u m k n Z).2.1 23 ≤ Z.1 23 + 256 * m ∧ (mgG t u m k n Z).2.1 24 ≤ Z.1 24 + m
  | 0, _, _, _, _, _ => ⟨Nat.le_refl _, Nat.le_refl _⟩
  | m + 1, k, n, Z, hN, h => by
    have hs := h.step (show k < N by omega)
    have c := com_23 (r := Z.2.1 20 (100 * u + k)) h.1 h.2.1
    rw [mgG]
    split
    · exact k23 c.1 c.2
    · have d := mg_23 m (k + 1) (n + ((comS Z t (Z.2.1 20 (100 * u + k))).2.2.1 16 t - Z.2.1 16 t)) (comS Z t (Z.2.1 20 (100 * u + k))).2 (by omega) hs
      omega
section P23
variable {k : Nat} {S : aS}
theorem p_find (h : LI k S) (p q : Int32) : (s_find S p q).2.1 23 ≤ S.1 23 + 51300 ∧ (s_find S p q).2.1 24 ≤ S.1 24 + 100 := by
  unfold s_find
  split
  · split
    · rename_i hp hq
      obtain ⟨pj, hpj, rfl⟩ := isP_j hp
      have hpl : pl (nI pj) = pj := nI_clamp (by omega)
      rw [hpl]
      split
      · exact ⟨Nat.le_add_right _ _, Nat.le_add_right _ _⟩
      · rename_i hc
        obtain ⟨b1, b2⟩ := bthF_0 (show bthF S pj (pl q) 1 = 0 by omega)
        have ht := h.1.wt hpj (by have := (castF_0 b1).2; omega)
        have h1 := lk_b (r := wh S (pl q)) (h.1.th.tk (show wh S pj < (thS S).1 13 from ht))
        have h2 : (lk (thS S) (wh S pj) (wh S (pl q))).2 ≤ S.2.1 15 (wh S pj) := h1
        have h3 := (h.1.tk ht).sl
        exact ⟨show S.1 23 + (lk (thS S) (wh S pj) (wh S (pl q))).2 ≤ _ by omega, show S.1 24 + 1 ≤ _ by omega⟩
    · exact ⟨Nat.le_add_right _ _, Nat.le_add_right _ _⟩
  · exact ⟨Nat.le_add_right _ _, Nat.le_add_right _ _⟩
theorem p_add (h : LI k S) (p q : Int32) : (s_add S p q).2.1 23 ≤ S.1 23 + 51300 ∧ (s_add S p q).2.1 24 ≤ S.1 24 + 100 := by
  unfold s_add
  split
  · split
    · rename_i hp hq
      obtain ⟨pj, hpj, rfl⟩ := isP_j hp
      have hpl : pl (nI pj) = pj := nI_clamp (by omega)
      rw [hpl]
      split
      · exact ⟨Nat.le_add_right _ _, Nat.le_add_right _ _⟩
      · rename_i hc
        obtain ⟨b1, b2⟩ := bthF_0 (show bthF S pj (pl q) 1 = 0 by omega)
        have ht := h.1.wt hpj (by have := (castF_0 b1).2; omega)
        have c := com_23 (r := wh S (pl q)) h.1.th (show wh S pj < (thS S).1 13 from ht)
        have e1 : (thS S).1 23 = S.1 23 := rfl
        have e2 : (thS S).1 24 = S.1 24 := rfl
        omega
    · exact ⟨Nat.le_add_right _ _, Nat.le_add_right _ _⟩
  · exact ⟨Nat.le_add_right _ _, Nat.le_add_right _ _⟩
theorem p_merge (h : LI k S) (hk : k ≤ 511) (p q : Int32) : (s_merge S p q).2.1 23 ≤ S.1 23 + 51300 ∧ (s_merge S p q).2.1 24 ≤ S.1 24 + 100 := by
  have hb := h.b4 (by omega)
  unfold s_merge
  split
  · split
    · rename_i hp hq
      obtain ⟨pj, hpj, rfl⟩ := isP_j hp
      obtain ⟨qj, hqj, rfl⟩ := isP_j hq
      have hpl : pl (nI pj) = pj := nI_clamp (by omega)
      have hql : pl (nI qj) = qj := nI_clamp (by omega)
      rw [hpl, hql]
      split
      · exact ⟨Nat.le_add_right _ _, Nat.le_add_right _ _⟩
      · rename_i hc
        obtain ⟨b1, b2⟩ := bthF_0 (show bthF S pj qj 4 = 0 by omega)
        have ht := h.1.wt hpj (by have := (castF_0 b1).2; omega)
        have hu := h.1.wt hqj (by have := (castF_0 b2).2; omega)
        have hm := (h.1.tk hu).2.1
        have c := mg_23 (t := wh S pj) (u := wh S qj) (N := S.2.1 16 (wh S qj)) (S.2.1 16 (wh S qj)) 0 0 (thS S) (by omega) ⟨h.1.th, ht, hu, Nat.le_refl _, show S.1 4 + (S.2.1 16 (wh S qj) - 0) ≤ 39000 by omega⟩
        have e1 : (thS S).1 23 = S.1 23 := rfl
        have e2 : (thS S).1 24 = S.1 24 := rfl
        omega
    · exact ⟨Nat.le_add_right _ _, Nat.le_add_right _ _⟩
  · exact ⟨Nat.le_add_right _ _, Nat.le_add_right _ _⟩
end P23
section LC
variable {X : gX} {l : Launch} {D : va_G} {cy adK adV : Nat → Nat} {x o u bs N : Nat} {ad : Nat → Nat} {xs : Nat → Int32} {gl : Nat → Int64} {k : Nat} {S : aS} {b : xB} {Lx : List Nat} {F : Nat → va_E}
set_option maxRecDepth 20000 in
set_option maxHeartbeats 4000000 in
theorem lc_fault (hC : gC X l room_1 D vwCl (cyT cy) (gKS D cy adK adV) cL_law 7 wsL_law RL) (hX : va_X bs N xs X.2.1.1 X.2.1.1.heap) (hbl : bs < X.2.1.1.heap.size) (hbA : ¬ X.2.2.2.1 bs) (hN : N ≤ 3072) (hI : lwI cy x o u ad k S b Lx F gl) (h6 : 6 * k + 6 ≤ N) (kk : ∀ S' b' L' F', lwI cy x o u ad (k + 1) S' b' L' F' gl → gW X vwCl 7 (L' ++ (mL o ad ++ [u])) F' (40 + 3 * (k + 1) + rmC aS0 S') (930000 + 400 * (k + 1) + rmS aS0 S') 1261 [(4, .int (nI (6 * k))), (3, .ref u), (2, .ref o), (1, .ref x), (0, .ref bs)] []) : gW X vwCl 7 (Lx ++ (mL o ad ++ [u])) F (40 + 3 * k + rmC aS0 S) (930000 + 400 * k + rmS aS0 S) 164 [(4, .int (nI (6 * k))), (3, .ref u), (2, .ref o), (1, .ref x), (0, .ref bs)] [] := by
  obtain ⟨h1, h2, h3, h4, h5, h7, h8, h9, h10, h11⟩ := hI
  have hk : k ≤ 511 := by omega
  refine g_aload_n hC dL_law_164 rfl 3 rfl (Or.inr ⟨_, rfl⟩) ?_
  have hL9 : LI (k + 1) (s_fault S).2 := h1.st (q_fault)
  have hmo : mo S (s_fault S).2 := mo.qt (q_fault)
  have hra := rm_add h9 hmo
  have hbd := rm_bd hL9 (by omega)
  refine g_cls (As := []) (st := []) hC 0 dL_law_165 h2 h3 h7 gL_law_X9_fault rfl (by decide +kernel) ⟨Nat.le_of_ble_eq_true rfl, Nat.le_of_ble_eq_true rfl⟩ rfl (Nat.le_of_ble_eq_true rfl) ⟨(show (40 + 3 * k + rmC aS0 S) + 0 ≤ 601024 by omega), (show (930000 + 400 * k + rmS aS0 S) + 0 ≤ 7293034 by omega)⟩ (c2 := (40 + 3 * k + rmC aS0 S)) (s2 := (930000 + 400 * k + rmS aS0 S)) rfl rfl ((y_fault h2 h1.1 x h3).K gKS_K) (fun L1 f2 b1 hx1 hxo1 hM1 hd1 => ?_)
  show gW X vwCl 7 (L1 ++ (mL o ad ++ [u])) f2 (40 + 3 * k + rmC aS0 S) (930000 + 400 * k + rmS aS0 S) 168 [(4, .int (nI (6 * k))), (3, .ref u), (2, .ref o), (1, .ref x), (0, .ref bs)] [.int ((s_fault S).1)]
  have hFm2 : ∀ a, a ∈ mL o ad → f2 a = mW o ad cy S a := fun a ha => (hM1 a (List.mem_append_left _ ha)).trans (h4 a ha)
  refine g_aload_n hC dL_law_168 rfl 2 rfl (Or.inr ⟨_, rfl⟩) ?_
  refine g_ref (As := []) (st := [.int ((s_fault S).1)]) hC 0 dL_law_169 hFm2 gL_law_X10_fault rfl (by decide +kernel) ⟨Nat.le_of_ble_eq_true rfl, Nat.le_of_ble_eq_true rfl⟩ rfl (Nat.le_of_ble_eq_true rfl) ⟨(show (40 + 3 * k + rmC aS0 S) + 0 ≤ 601024 by omega), (show (930000 + 400 * k + rmS aS0 S) + 0 ≤ 7293034 by omega)⟩ (c2 := (40 + 3 * k + rmC aS0 S)) (s2 := (930000 + 400 * k + rmS aS0 S)) rfl rfl (c_fault gKS_ok h8 h1.1) (fun f5 q1 q2 q3 => ?_)
  show gW X vwCl 7 (L1 ++ (mL o ad ++ [u])) f5 (40 + 3 * k + rmC aS0 S) (930000 + 400 * k + rmS aS0 S) 172 [(4, .int (nI (6 * k))), (3, .ref u), (2, .ref o), (1, .ref x), (0, .ref bs)] [.int ((s_fault S).1), .int ((s_fault S).1)]
  refine g_icmp_eq (x := (s_fault S).1) (y := (s_fault S).1) (tgt := 1261) hC dL_law_172 (by decide) (fun _ => ?_) (fun h => absurd rfl h)
  have hp23 : (s_fault S).2.1 23 = S.1 23 ∧ (s_fault S).2.1 24 = S.1 24 := by unfold s_fault; (repeat' split) <;> exact ⟨rfl, rfl⟩
  refine g_widen (c2 := 40 + 3 * (k + 1) + rmC aS0 (s_fault S).2) (s2 := 930000 + 400 * (k + 1) + rmS aS0 (s_fault S).2) (by omega) (by omega) ?_
  exact kk _ b1 L1 f5 ⟨hL9, hx1.cg q2, hxo1, q1, (q3.trans (hM1 u (by simp))).trans h5, hd1, h8, h9.tr hmo, by omega, by omega⟩
set_option maxRecDepth 20000 in
set_option maxHeartbeats 4000000 in
theorem lc_make (hC : gC X l room_1 D vwCl (cyT cy) (gKS D cy adK adV) cL_law 7 wsL_law RL) (hX : va_X bs N xs X.2.1.1 X.2.1.1.heap) (hbl : bs < X.2.1.1.heap.size) (hbA : ¬ X.2.2.2.1 bs) (hN : N ≤ 3072) (hI : lwI cy x o u ad k S b Lx F gl) (h6 : 6 * k + 6 ≤ N) (kk : ∀ S' b' L' F', lwI cy x o u ad (k + 1) S' b' L' F' gl → gW X vwCl 7 (L' ++ (mL o ad ++ [u])) F' (40 + 3 * (k + 1) + rmC aS0 S') (930000 + 400 * (k + 1) + rmS aS0 S') 1261 [(4, .int (nI (6 * k))), (3, .ref u), (2, .ref o), (1, .ref x), (0, .ref bs)] []) : gW X vwCl 7 (Lx ++ (mL o ad ++ [u])) F (40 + 3 * k + rmC aS0 S) (930000 + 400 * k + rmS aS0 S) 177 [(4, .int (nI (6 * k))), (3, .ref u), (2, .ref o), (1, .ref x), (0, .ref bs)] [] := by
  obtain ⟨h1, h2, h3, h4, h5, h7, h8, h9, h10, h11⟩ := hI
  have hk : k ≤ 511 := by omega
  refine g_aload_n hC dL_law_177 rfl 3 rfl (Or.inr ⟨_, rfl⟩) ?_
  refine g_aload_n hC dL_law_178 rfl 4 rfl (Or.inr ⟨_, rfl⟩) ?_
  refine g_iload hC dL_law_179 0 rfl ?_
  refine g_iconst hC dL_law_181 (v := nI 1) (by decide) ?_
  refine g_iaddN (a := 6 * k) (b := 1) hC dL_law_182 ?_
  refine g_sld hC hX hbl hbA ((6 * k) + 1) rfl (show (6 * k) + 1 < N by omega) (show N < 2 ^ 31 by omega) dL_law_183 ?_
  refine g_aload_n hC dL_law_184 rfl 4 rfl (Or.inr ⟨_, rfl⟩) ?_
  refine g_iload hC dL_law_185 0 rfl ?_
  refine g_iconst hC dL_law_187 (v := nI 2) (by decide) ?_
  refine g_iaddN (a := 6 * k) (b := 2) hC dL_law_188 ?_
  refine g_sld hC hX hbl hbA ((6 * k) + 2) rfl (show (6 * k) + 2 < N by omega) (show N < 2 ^ 31 by omega) dL_law_189 ?_
  refine g_aload_n hC dL_law_190 rfl 4 rfl (Or.inr ⟨_, rfl⟩) ?_
  refine g_iload hC dL_law_191 0 rfl ?_
  refine g_iconst hC dL_law_193 (v := nI 3) (by decide) ?_
  refine g_iaddN (a := 6 * k) (b := 3) hC dL_law_194 ?_
  refine g_sld hC hX hbl hbA ((6 * k) + 3) rfl (show (6 * k) + 3 < N by omega) (show N < 2 ^ 31 by omega) dL_law_195 ?_
  have hL9 : LI (k + 1) (s_make S (xs ((6 * k) + 1)) (xs ((6 * k) + 2)) (xs ((6 * k) + 3))).2 := l_make h1 hk (xs ((6 * k) + 1)) (xs ((6 * k) + 2)) (xs ((6 * k) + 3))
  have hmo : mo S (s_make S (xs ((6 * k) + 1)) (xs ((6 * k) + 2)) (xs ((6 * k) + 3))).2 := m_make (xs ((6 * k) + 1)) (xs ((6 * k) + 2)) (xs ((6 * k) + 3))
  have hra := rm_add h9 hmo
  have hbd := rm_bd hL9 (by omega)
  refine g_cls (As := [.int (xs ((6 * k) + 1)), .int (xs ((6 * k) + 2)), .int (xs ((6 * k) + 3))]) (st := []) hC 3 dL_law_196 h2 h3 h7 gL_law_X9_make rfl (by decide +kernel) ⟨Nat.le_of_ble_eq_true rfl, Nat.le_of_ble_eq_true rfl⟩ rfl (Nat.le_of_ble_eq_true rfl) ⟨(show (40 + 3 * k + rmC aS0 S) + 2 ≤ 601024 by omega), (show (930000 + 400 * k + rmS aS0 S) + 17 ≤ 7293034 by omega)⟩ (c2 := ((40 + 3 * k + rmC aS0 S) + 2)) (s2 := ((930000 + 400 * k + rmS aS0 S) + 17)) rfl rfl ((y_make h2 h1.1 x h3 (xs ((6 * k) + 1)) (xs ((6 * k) + 2)) (xs ((6 * k) + 3))).K gKS_K) (fun L1 f2 b1 hx1 hxo1 hM1 hd1 => ?_)
  show gW X vwCl 7 (L1 ++ (mL o ad ++ [u])) f2 ((40 + 3 * k + rmC aS0 S) + 2) ((930000 + 400 * k + rmS aS0 S) + 17) 199 [(4, .int (nI (6 * k))), (3, .ref u), (2, .ref o), (1, .ref x), (0, .ref bs)] [.int ((s_make S (xs ((6 * k) + 1)) (xs ((6 * k) + 2)) (xs ((6 * k) + 3))).1)]
  have hFm2 : ∀ a, a ∈ mL o ad → f2 a = mW o ad cy S a := fun a ha => (hM1 a (List.mem_append_left _ ha)).trans (h4 a ha)
  refine g_aload_n hC dL_law_199 rfl 2 rfl (Or.inr ⟨_, rfl⟩) ?_
  refine g_aload_n hC dL_law_200 rfl 4 rfl (Or.inr ⟨_, rfl⟩) ?_
  refine g_iload hC dL_law_201 0 rfl ?_
  refine g_iconst hC dL_law_203 (v := nI 1) (by decide) ?_
  refine g_iaddN (a := 6 * k) (b := 1) hC dL_law_204 ?_
  refine g_sld hC hX hbl hbA ((6 * k) + 1) rfl (show (6 * k) + 1 < N by omega) (show N < 2 ^ 31 by omega) dL_law_205 ?_
  refine g_aload_n hC dL_law_206 rfl 4 rfl (Or.inr ⟨_, rfl⟩) ?_
  refine g_iload hC dL_law_207 0 rfl ?_
  refine g_iconst hC dL_law_209 (v := nI 2) (by decide) ?_
  refine g_iaddN (a := 6 * k) (b := 2) hC dL_law_210 ?_
  refine g_sld hC hX hbl hbA ((6 * k) + 2) rfl (show (6 * k) + 2 < N by omega) (show N < 2 ^ 31 by omega) dL_law_211 ?_
  refine g_aload_n hC dL_law_212 rfl 4 rfl (Or.inr ⟨_, rfl⟩) ?_
  refine g_iload hC dL_law_213 0 rfl ?_
  refine g_iconst hC dL_law_215 (v := nI 3) (by decide) ?_
  refine g_iaddN (a := 6 * k) (b := 3) hC dL_law_216 ?_
  refine g_sld hC hX hbl hbA ((6 * k) + 3) rfl (show (6 * k) + 3 < N by omega) (show N < 2 ^ 31 by omega) dL_law_217 ?_
  refine g_ref (As := [.int (xs ((6 * k) + 1)), .int (xs ((6 * k) + 2)), .int (xs ((6 * k) + 3))]) (st := [.int ((s_make S (xs ((6 * k) + 1)) (xs ((6 * k) + 2)) (xs ((6 * k) + 3))).1)]) hC 3 dL_law_218 hFm2 gL_law_X10_make rfl (by decide +kernel) ⟨Nat.le_of_ble_eq_true rfl, Nat.le_of_ble_eq_true rfl⟩ rfl (Nat.le_of_ble_eq_true rfl) ⟨(show ((40 + 3 * k + rmC aS0 S) + 2) + 0 ≤ 601024 by omega), (show ((930000 + 400 * k + rmS aS0 S) + 17) + 0 ≤ 7293034 by omega)⟩ (c2 := ((40 + 3 * k + rmC aS0 S) + 2)) (s2 := ((930000 + 400 * k + rmS aS0 S) + 17)) rfl rfl (c_make gKS_ok h8 h1.1 (xs ((6 * k) + 1)) (xs ((6 * k) + 2)) (xs ((6 * k) + 3))) (fun f5 q1 q2 q3 => ?_)
  show gW X vwCl 7 (L1 ++ (mL o ad ++ [u])) f5 ((40 + 3 * k + rmC aS0 S) + 2) ((930000 + 400 * k + rmS aS0 S) + 17) 221 [(4, .int (nI (6 * k))), (3, .ref u), (2, .ref o), (1, .ref x), (0, .ref bs)] [.int ((s_make S (xs ((6 * k) + 1)) (xs ((6 * k) + 2)) (xs ((6 * k) + 3))).1), .int ((s_make S (xs ((6 * k) + 1)) (xs ((6 * k) + 2)) (xs ((6 * k) + 3))).1)]
  refine g_icmp_eq (x := (s_make S (xs ((6 * k) + 1)) (xs ((6 * k) + 2)) (xs ((6 * k) + 3))).1) (y := (s_make S (xs ((6 * k) + 1)) (xs ((6 * k) + 2)) (xs ((6 * k) + 3))).1) (tgt := 1261) hC dL_law_221 (by decide) (fun _ => ?_) (fun h => absurd rfl h)
  have hp23 : (s_make S (xs ((6 * k) + 1)) (xs ((6 * k) + 2)) (xs ((6 * k) + 3))).2.1 23 = S.1 23 ∧ (s_make S (xs ((6 * k) + 1)) (xs ((6 * k) + 2)) (xs ((6 * k) + 3))).2.1 24 = S.1 24 := by unfold s_make; (repeat' split) <;> exact ⟨rfl, rfl⟩
  refine g_widen (c2 := 40 + 3 * (k + 1) + rmC aS0 (s_make S (xs ((6 * k) + 1)) (xs ((6 * k) + 2)) (xs ((6 * k) + 3))).2) (s2 := 930000 + 400 * (k + 1) + rmS aS0 (s_make S (xs ((6 * k) + 1)) (xs ((6 * k) + 2)) (xs ((6 * k) + 3))).2) (by omega) (by omega) ?_
  exact kk _ b1 L1 f5 ⟨hL9, hx1.cg q2, hxo1, q1, (q3.trans (hM1 u (by simp))).trans h5, hd1, h8, h9.tr hmo, by omega, by omega⟩
set_option maxRecDepth 20000 in
set_option maxHeartbeats 4000000 in
theorem lc_table (hC : gC X l room_1 D vwCl (cyT cy) (gKS D cy adK adV) cL_law 7 wsL_law RL) (hX : va_X bs N xs X.2.1.1 X.2.1.1.heap) (hbl : bs < X.2.1.1.heap.size) (hbA : ¬ X.2.2.2.1 bs) (hN : N ≤ 3072) (hI : lwI cy x o u ad k S b Lx F gl) (h6 : 6 * k + 6 ≤ N) (kk : ∀ S' b' L' F', lwI cy x o u ad (k + 1) S' b' L' F' gl → gW X vwCl 7 (L' ++ (mL o ad ++ [u])) F' (40 + 3 * (k + 1) + rmC aS0 S') (930000 + 400 * (k + 1) + rmS aS0 S') 1261 [(4, .int (nI (6 * k))), (3, .ref u), (2, .ref o), (1, .ref x), (0, .ref bs)] []) : gW X vwCl 7 (Lx ++ (mL o ad ++ [u])) F (40 + 3 * k + rmC aS0 S) (930000 + 400 * k + rmS aS0 S) 226 [(4, .int (nI (6 * k))), (3, .ref u), (2, .ref o), (1, .ref x), (0, .ref bs)] [] := by
  obtain ⟨h1, h2, h3, h4, h5, h7, h8, h9, h10, h11⟩ := hI
  have hk : k ≤ 511 := by omega
  refine g_aload_n hC dL_law_226 rfl 3 rfl (Or.inr ⟨_, rfl⟩) ?_
  refine g_aload_n hC dL_law_227 rfl 4 rfl (Or.inr ⟨_, rfl⟩) ?_
  refine g_iload hC dL_law_228 0 rfl ?_
  refine g_iconst hC dL_law_230 (v := nI 1) (by decide) ?_
  refine g_iaddN (a := 6 * k) (b := 1) hC dL_law_231 ?_
  refine g_sld hC hX hbl hbA ((6 * k) + 1) rfl (show (6 * k) + 1 < N by omega) (show N < 2 ^ 31 by omega) dL_law_232 ?_
  refine g_aload_n hC dL_law_233 rfl 4 rfl (Or.inr ⟨_, rfl⟩) ?_
  refine g_iload hC dL_law_234 0 rfl ?_
  refine g_iconst hC dL_law_236 (v := nI 2) (by decide) ?_
  refine g_iaddN (a := 6 * k) (b := 2) hC dL_law_237 ?_
  refine g_sld hC hX hbl hbA ((6 * k) + 2) rfl (show (6 * k) + 2 < N by omega) (show N < 2 ^ 31 by omega) dL_law_238 ?_
  refine g_if_eq (x := xs ((6 * k) + 2)) (tgt := 246) hC dL_law_239 (by decide) (fun h239 => ?_) (fun h239 => ?_)
  · refine g_iconst hC dL_law_246 (v := nI 0) (by decide) ?_
    refine g_aload_n hC dL_law_247 rfl 4 rfl (Or.inr ⟨_, rfl⟩) ?_
    refine g_iload hC dL_law_248 0 rfl ?_
    refine g_iconst hC dL_law_250 (v := nI 3) (by decide) ?_
    refine g_iaddN (a := 6 * k) (b := 3) hC dL_law_251 ?_
    refine g_sld hC hX hbl hbA ((6 * k) + 3) rfl (show (6 * k) + 3 < N by omega) (show N < 2 ^ 31 by omega) dL_law_252 ?_
    have hL9 : LI (k + 1) (s_table S (xs ((6 * k) + 1)) 0 (xs ((6 * k) + 3))).2 := l_table h1 hk (xs ((6 * k) + 1)) 0 (xs ((6 * k) + 3)) (by decide)
    have hmo : mo S (s_table S (xs ((6 * k) + 1)) 0 (xs ((6 * k) + 3))).2 := m_table (xs ((6 * k) + 1)) 0 (xs ((6 * k) + 3))
    have hra := rm_add h9 hmo
    have hbd := rm_bd hL9 (by omega)
    refine g_cls (As := [.int (xs ((6 * k) + 1)), .int (nI 0), .int (xs ((6 * k) + 3))]) (st := []) hC 3 dL_law_253 h2 h3 h7 gL_law_X9_table rfl (by decide +kernel) ⟨Nat.le_of_ble_eq_true rfl, Nat.le_of_ble_eq_true rfl⟩ rfl (Nat.le_of_ble_eq_true rfl) ⟨(show (40 + 3 * k + rmC aS0 S) + 3 ≤ 601024 by omega), (show (930000 + 400 * k + rmS aS0 S) + 362 ≤ 7293034 by omega)⟩ (c2 := ((40 + 3 * k + rmC aS0 S) + 3)) (s2 := ((930000 + 400 * k + rmS aS0 S) + 362)) rfl rfl ((y_table h2 h1.1 x h3 (xs ((6 * k) + 1)) 0 (xs ((6 * k) + 3)) (by decide)).K gKS_K) (fun L1 f2 b1 hx1 hxo1 hM1 hd1 => ?_)
    show gW X vwCl 7 (L1 ++ (mL o ad ++ [u])) f2 ((40 + 3 * k + rmC aS0 S) + 3) ((930000 + 400 * k + rmS aS0 S) + 362) 256 [(4, .int (nI (6 * k))), (3, .ref u), (2, .ref o), (1, .ref x), (0, .ref bs)] [.int ((s_table S (xs ((6 * k) + 1)) 0 (xs ((6 * k) + 3))).1)]
    have hFm2 : ∀ a, a ∈ mL o ad → f2 a = mW o ad cy S a := fun a ha => (hM1 a (List.mem_append_left _ ha)).trans (h4 a ha)
    refine g_aload_n hC dL_law_256 rfl 2 rfl (Or.inr ⟨_, rfl⟩) ?_
    refine g_aload_n hC dL_law_257 rfl 4 rfl (Or.inr ⟨_, rfl⟩) ?_
    refine g_iload hC dL_law_258 0 rfl ?_
    refine g_iconst hC dL_law_260 (v := nI 1) (by decide) ?_
    refine g_iaddN (a := 6 * k) (b := 1) hC dL_law_261 ?_
    refine g_sld hC hX hbl hbA ((6 * k) + 1) rfl (show (6 * k) + 1 < N by omega) (show N < 2 ^ 31 by omega) dL_law_262 ?_
    refine g_aload_n hC dL_law_263 rfl 4 rfl (Or.inr ⟨_, rfl⟩) ?_
    refine g_iload hC dL_law_264 0 rfl ?_
    refine g_iconst hC dL_law_266 (v := nI 2) (by decide) ?_
    refine g_iaddN (a := 6 * k) (b := 2) hC dL_law_267 ?_
    refine g_sld hC hX hbl hbA ((6 * k) + 2) rfl (show (6 * k) + 2 < N by omega) (show N < 2 ^ 31 by omega) dL_law_268 ?_
    refine g_if_eq (x := xs ((6 * k) + 2)) (tgt := 276) hC dL_law_269 (by decide) (fun h269 => ?_) (fun h269 => ?_)
    · refine g_iconst hC dL_law_276 (v := nI 0) (by decide) ?_
      refine g_aload_n hC dL_law_277 rfl 4 rfl (Or.inr ⟨_, rfl⟩) ?_
      refine g_iload hC dL_law_278 0 rfl ?_
      refine g_iconst hC dL_law_280 (v := nI 3) (by decide) ?_
      refine g_iaddN (a := 6 * k) (b := 3) hC dL_law_281 ?_
      refine g_sld hC hX hbl hbA ((6 * k) + 3) rfl (show (6 * k) + 3 < N by omega) (show N < 2 ^ 31 by omega) dL_law_282 ?_
      refine g_ref (As := [.int (xs ((6 * k) + 1)), .int (nI 0), .int (xs ((6 * k) + 3))]) (st := [.int ((s_table S (xs ((6 * k) + 1)) 0 (xs ((6 * k) + 3))).1)]) hC 3 dL_law_283 hFm2 gL_law_X10_table rfl (by decide +kernel) ⟨Nat.le_of_ble_eq_true rfl, Nat.le_of_ble_eq_true rfl⟩ rfl (Nat.le_of_ble_eq_true rfl) ⟨(show ((40 + 3 * k + rmC aS0 S) + 3) + 0 ≤ 601024 by omega), (show ((930000 + 400 * k + rmS aS0 S) + 362) + 0 ≤ 7293034 by omega)⟩ (c2 := ((40 + 3 * k + rmC aS0 S) + 3)) (s2 := ((930000 + 400 * k + rmS aS0 S) + 362)) rfl rfl (c_table gKS_ok h8 h1.1 (xs ((6 * k) + 1)) 0 (xs ((6 * k) + 3)) (by decide)) (fun f5 q1 q2 q3 => ?_)
      show gW X vwCl 7 (L1 ++ (mL o ad ++ [u])) f5 ((40 + 3 * k + rmC aS0 S) + 3) ((930000 + 400 * k + rmS aS0 S) + 362) 286 [(4, .int (nI (6 * k))), (3, .ref u), (2, .ref o), (1, .ref x), (0, .ref bs)] [.int ((s_table S (xs ((6 * k) + 1)) 0 (xs ((6 * k) + 3))).1), .int ((s_table S (xs ((6 * k) + 1)) 0 (xs ((6 * k) + 3))).1)]
      refine g_icmp_eq (x := (s_table S (xs ((6 * k) + 1)) 0 (xs ((6 * k) + 3))).1) (y := (s_table S (xs ((6 * k) + 1)) 0 (xs ((6 * k) + 3))).1) (tgt := 1261) hC dL_law_286 (by decide) (fun _ => ?_) (fun h => absurd rfl h)
      have hp23 : (s_table S (xs ((6 * k) + 1)) 0 (xs ((6 * k) + 3))).2.1 23 = S.1 23 ∧ (s_table S (xs ((6 * k) + 1)) 0 (xs ((6 * k) + 3))).2.1 24 = S.1 24 := by unfold s_table; (repeat' split) <;> exact ⟨rfl, rfl⟩
      refine g_widen (c2 := 40 + 3 * (k + 1) + rmC aS0 (s_table S (xs ((6 * k) + 1)) 0 (xs ((6 * k) + 3))).2) (s2 := 930000 + 400 * (k + 1) + rmS aS0 (s_table S (xs ((6 * k) + 1)) 0 (xs ((6 * k) + 3))).2) (by omega) (by omega) ?_
      exact kk _ b1 L1 f5 ⟨hL9, hx1.cg q2, hxo1, q1, (q3.trans (hM1 u (by simp))).trans h5, hd1, h8, h9.tr hmo, by omega, by omega⟩
    · exact absurd h239 h269
  · refine g_iconst hC dL_law_242 (v := nI 1) (by decide) ?_
    refine g_goto (tgt := 247) hC dL_law_243 (by decide) ?_
    refine g_aload_n hC dL_law_247 rfl 4 rfl (Or.inr ⟨_, rfl⟩) ?_
    refine g_iload hC dL_law_248 0 rfl ?_
    refine g_iconst hC dL_law_250 (v := nI 3) (by decide) ?_
    refine g_iaddN (a := 6 * k) (b := 3) hC dL_law_251 ?_
    refine g_sld hC hX hbl hbA ((6 * k) + 3) rfl (show (6 * k) + 3 < N by omega) (show N < 2 ^ 31 by omega) dL_law_252 ?_
    have hL9 : LI (k + 1) (s_table S (xs ((6 * k) + 1)) 1 (xs ((6 * k) + 3))).2 := l_table h1 hk (xs ((6 * k) + 1)) 1 (xs ((6 * k) + 3)) (by decide)
    have hmo : mo S (s_table S (xs ((6 * k) + 1)) 1 (xs ((6 * k) + 3))).2 := m_table (xs ((6 * k) + 1)) 1 (xs ((6 * k) + 3))
    have hra := rm_add h9 hmo
    have hbd := rm_bd hL9 (by omega)
    refine g_cls (As := [.int (xs ((6 * k) + 1)), .int (nI 1), .int (xs ((6 * k) + 3))]) (st := []) hC 3 dL_law_253 h2 h3 h7 gL_law_X9_table rfl (by decide +kernel) ⟨Nat.le_of_ble_eq_true rfl, Nat.le_of_ble_eq_true rfl⟩ rfl (Nat.le_of_ble_eq_true rfl) ⟨(show (40 + 3 * k + rmC aS0 S) + 3 ≤ 601024 by omega), (show (930000 + 400 * k + rmS aS0 S) + 362 ≤ 7293034 by omega)⟩ (c2 := ((40 + 3 * k + rmC aS0 S) + 3)) (s2 := ((930000 + 400 * k + rmS aS0 S) + 362)) rfl rfl ((y_table h2 h1.1 x h3 (xs ((6 * k) + 1)) 1 (xs ((6 * k) + 3)) (by decide)).K gKS_K) (fun L1 f2 b1 hx1 hxo1 hM1 hd1 => ?_)
    show gW X vwCl 7 (L1 ++ (mL o ad ++ [u])) f2 ((40 + 3 * k + rmC aS0 S) + 3) ((930000 + 400 * k + rmS aS0 S) + 362) 256 [(4, .int (nI (6 * k))), (3, .ref u), (2, .ref o), (1, .ref x), (0, .ref bs)] [.int ((s_table S (xs ((6 * k) + 1)) 1 (xs ((6 * k) + 3))).1)]
    have hFm2 : ∀ a, a ∈ mL o ad → f2 a = mW o ad cy S a := fun a ha => (hM1 a (List.mem_append_left _ ha)).trans (h4 a ha)
    refine g_aload_n hC dL_law_256 rfl 2 rfl (Or.inr ⟨_, rfl⟩) ?_
    refine g_aload_n hC dL_law_257 rfl 4 rfl (Or.inr ⟨_, rfl⟩) ?_
    refine g_iload hC dL_law_258 0 rfl ?_
    refine g_iconst hC dL_law_260 (v := nI 1) (by decide) ?_
    refine g_iaddN (a := 6 * k) (b := 1) hC dL_law_261 ?_
    refine g_sld hC hX hbl hbA ((6 * k) + 1) rfl (show (6 * k) + 1 < N by omega) (show N < 2 ^ 31 by omega) dL_law_262 ?_
    refine g_aload_n hC dL_law_263 rfl 4 rfl (Or.inr ⟨_, rfl⟩) ?_
    refine g_iload hC dL_law_264 0 rfl ?_
    refine g_iconst hC dL_law_266 (v := nI 2) (by decide) ?_
    refine g_iaddN (a := 6 * k) (b := 2) hC dL_law_267 ?_
    refine g_sld hC hX hbl hbA ((6 * k) + 2) rfl (show (6 * k) + 2 < N by omega) (show N < 2 ^ 31 by omega) dL_law_268 ?_
    refine g_if_eq (x := xs ((6 * k) + 2)) (tgt := 276) hC dL_law_269 (by decide) (fun h269 => ?_) (fun h269 => ?_)
    · exact absurd h269 h239
    · refine g_iconst hC dL_law_272 (v := nI 1) (by decide) ?_
      refine g_goto (tgt := 277) hC dL_law_273 (by decide) ?_
      refine g_aload_n hC dL_law_277 rfl 4 rfl (Or.inr ⟨_, rfl⟩) ?_
      refine g_iload hC dL_law_278 0 rfl ?_
      refine g_iconst hC dL_law_280 (v := nI 3) (by decide) ?_
      refine g_iaddN (a := 6 * k) (b := 3) hC dL_law_281 ?_
      refine g_sld hC hX hbl hbA ((6 * k) + 3) rfl (show (6 * k) + 3 < N by omega) (show N < 2 ^ 31 by omega) dL_law_282 ?_
      refine g_ref (As := [.int (xs ((6 * k) + 1)), .int (nI 1), .int (xs ((6 * k) + 3))]) (st := [.int ((s_table S (xs ((6 * k) + 1)) 1 (xs ((6 * k) + 3))).1)]) hC 3 dL_law_283 hFm2 gL_law_X10_table rfl (by decide +kernel) ⟨Nat.le_of_ble_eq_true rfl, Nat.le_of_ble_eq_true rfl⟩ rfl (Nat.le_of_ble_eq_true rfl) ⟨(show ((40 + 3 * k + rmC aS0 S) + 3) + 0 ≤ 601024 by omega), (show ((930000 + 400 * k + rmS aS0 S) + 362) + 0 ≤ 7293034 by omega)⟩ (c2 := ((40 + 3 * k + rmC aS0 S) + 3)) (s2 := ((930000 + 400 * k + rmS aS0 S) + 362)) rfl rfl (c_table gKS_ok h8 h1.1 (xs ((6 * k) + 1)) 1 (xs ((6 * k) + 3)) (by decide)) (fun f5 q1 q2 q3 => ?_)
      show gW X vwCl 7 (L1 ++ (mL o ad ++ [u])) f5 ((40 + 3 * k + rmC aS0 S) + 3) ((930000 + 400 * k + rmS aS0 S) + 362) 286 [(4, .int (nI (6 * k))), (3, .ref u), (2, .ref o), (1, .ref x), (0, .ref bs)] [.int ((s_table S (xs ((6 * k) + 1)) 1 (xs ((6 * k) + 3))).1), .int ((s_table S (xs ((6 * k) + 1)) 1 (xs ((6 * k) + 3))).1)]
      refine g_icmp_eq (x := (s_table S (xs ((6 * k) + 1)) 1 (xs ((6 * k) + 3))).1) (y := (s_table S (xs ((6 * k) + 1)) 1 (xs ((6 * k) + 3))).1) (tgt := 1261) hC dL_law_286 (by decide) (fun _ => ?_) (fun h => absurd rfl h)
      have hp23 : (s_table S (xs ((6 * k) + 1)) 1 (xs ((6 * k) + 3))).2.1 23 = S.1 23 ∧ (s_table S (xs ((6 * k) + 1)) 1 (xs ((6 * k) + 3))).2.1 24 = S.1 24 := by unfold s_table; (repeat' split) <;> exact ⟨rfl, rfl⟩
      refine g_widen (c2 := 40 + 3 * (k + 1) + rmC aS0 (s_table S (xs ((6 * k) + 1)) 1 (xs ((6 * k) + 3))).2) (s2 := 930000 + 400 * (k + 1) + rmS aS0 (s_table S (xs ((6 * k) + 1)) 1 (xs ((6 * k) + 3))).2) (by omega) (by omega) ?_
      exact kk _ b1 L1 f5 ⟨hL9, hx1.cg q2, hxo1, q1, (q3.trans (hM1 u (by simp))).trans h5, hd1, h8, h9.tr hmo, by omega, by omega⟩
set_option maxRecDepth 20000 in
set_option maxHeartbeats 4000000 in
theorem lc_move (hC : gC X l room_1 D vwCl (cyT cy) (gKS D cy adK adV) cL_law 7 wsL_law RL) (hX : va_X bs N xs X.2.1.1 X.2.1.1.heap) (hbl : bs < X.2.1.1.heap.size) (hbA : ¬ X.2.2.2.1 bs) (hN : N ≤ 3072) (hI : lwI cy x o u ad k S b Lx F gl) (h6 : 6 * k + 6 ≤ N) (kk : ∀ S' b' L' F', lwI cy x o u ad (k + 1) S' b' L' F' gl → gW X vwCl 7 (L' ++ (mL o ad ++ [u])) F' (40 + 3 * (k + 1) + rmC aS0 S') (930000 + 400 * (k + 1) + rmS aS0 S') 1261 [(4, .int (nI (6 * k))), (3, .ref u), (2, .ref o), (1, .ref x), (0, .ref bs)] []) : gW X vwCl 7 (Lx ++ (mL o ad ++ [u])) F (40 + 3 * k + rmC aS0 S) (930000 + 400 * k + rmS aS0 S) 291 [(4, .int (nI (6 * k))), (3, .ref u), (2, .ref o), (1, .ref x), (0, .ref bs)] [] := by
  obtain ⟨h1, h2, h3, h4, h5, h7, h8, h9, h10, h11⟩ := hI
  have hk : k ≤ 511 := by omega
  refine g_aload_n hC dL_law_291 rfl 3 rfl (Or.inr ⟨_, rfl⟩) ?_
  refine g_aload_n hC dL_law_292 rfl 4 rfl (Or.inr ⟨_, rfl⟩) ?_
  refine g_iload hC dL_law_293 0 rfl ?_
  refine g_iconst hC dL_law_295 (v := nI 1) (by decide) ?_
  refine g_iaddN (a := 6 * k) (b := 1) hC dL_law_296 ?_
  refine g_sld hC hX hbl hbA ((6 * k) + 1) rfl (show (6 * k) + 1 < N by omega) (show N < 2 ^ 31 by omega) dL_law_297 ?_
  refine g_aload_n hC dL_law_298 rfl 4 rfl (Or.inr ⟨_, rfl⟩) ?_
  refine g_iload hC dL_law_299 0 rfl ?_
  refine g_iconst hC dL_law_301 (v := nI 2) (by decide) ?_
  refine g_iaddN (a := 6 * k) (b := 2) hC dL_law_302 ?_
  refine g_sld hC hX hbl hbA ((6 * k) + 2) rfl (show (6 * k) + 2 < N by omega) (show N < 2 ^ 31 by omega) dL_law_303 ?_
  have hL9 : LI (k + 1) (s_move S (xs ((6 * k) + 1)) (xs ((6 * k) + 2))).2 := l_move h1 (xs ((6 * k) + 1)) (xs ((6 * k) + 2))
  have hmo : mo S (s_move S (xs ((6 * k) + 1)) (xs ((6 * k) + 2))).2 := m_move (xs ((6 * k) + 1)) (xs ((6 * k) + 2))
  have hra := rm_add h9 hmo
  have hbd := rm_bd hL9 (by omega)
  refine g_cls (As := [.int (xs ((6 * k) + 1)), .int (xs ((6 * k) + 2))]) (st := []) hC 2 dL_law_304 h2 h3 h7 gL_law_X9_move rfl (by decide +kernel) ⟨Nat.le_of_ble_eq_true rfl, Nat.le_of_ble_eq_true rfl⟩ rfl (Nat.le_of_ble_eq_true rfl) ⟨(show (40 + 3 * k + rmC aS0 S) + 0 ≤ 601024 by omega), (show (930000 + 400 * k + rmS aS0 S) + 0 ≤ 7293034 by omega)⟩ (c2 := (40 + 3 * k + rmC aS0 S)) (s2 := (930000 + 400 * k + rmS aS0 S)) rfl rfl ((y_move h2 h1.1 x h3 (xs ((6 * k) + 1)) (xs ((6 * k) + 2))).K gKS_K) (fun L1 f2 b1 hx1 hxo1 hM1 hd1 => ?_)
  show gW X vwCl 7 (L1 ++ (mL o ad ++ [u])) f2 (40 + 3 * k + rmC aS0 S) (930000 + 400 * k + rmS aS0 S) 307 [(4, .int (nI (6 * k))), (3, .ref u), (2, .ref o), (1, .ref x), (0, .ref bs)] [.int ((s_move S (xs ((6 * k) + 1)) (xs ((6 * k) + 2))).1)]
  have hFm2 : ∀ a, a ∈ mL o ad → f2 a = mW o ad cy S a := fun a ha => (hM1 a (List.mem_append_left _ ha)).trans (h4 a ha)
  refine g_aload_n hC dL_law_307 rfl 2 rfl (Or.inr ⟨_, rfl⟩) ?_
  refine g_aload_n hC dL_law_308 rfl 4 rfl (Or.inr ⟨_, rfl⟩) ?_
  refine g_iload hC dL_law_309 0 rfl ?_
  refine g_iconst hC dL_law_311 (v := nI 1) (by decide) ?_
  refine g_iaddN (a := 6 * k) (b := 1) hC dL_law_312 ?_
  refine g_sld hC hX hbl hbA ((6 * k) + 1) rfl (show (6 * k) + 1 < N by omega) (show N < 2 ^ 31 by omega) dL_law_313 ?_
  refine g_aload_n hC dL_law_314 rfl 4 rfl (Or.inr ⟨_, rfl⟩) ?_
  refine g_iload hC dL_law_315 0 rfl ?_
  refine g_iconst hC dL_law_317 (v := nI 2) (by decide) ?_
  refine g_iaddN (a := 6 * k) (b := 2) hC dL_law_318 ?_
  refine g_sld hC hX hbl hbA ((6 * k) + 2) rfl (show (6 * k) + 2 < N by omega) (show N < 2 ^ 31 by omega) dL_law_319 ?_
  refine g_ref (As := [.int (xs ((6 * k) + 1)), .int (xs ((6 * k) + 2))]) (st := [.int ((s_move S (xs ((6 * k) + 1)) (xs ((6 * k) + 2))).1)]) hC 2 dL_law_320 hFm2 gL_law_X10_move rfl (by decide +kernel) ⟨Nat.le_of_ble_eq_true rfl, Nat.le_of_ble_eq_true rfl⟩ rfl (Nat.le_of_ble_eq_true rfl) ⟨(show (40 + 3 * k + rmC aS0 S) + 0 ≤ 601024 by omega), (show (930000 + 400 * k + rmS aS0 S) + 0 ≤ 7293034 by omega)⟩ (c2 := (40 + 3 * k + rmC aS0 S)) (s2 := (930000 + 400 * k + rmS aS0 S)) rfl rfl (c_move gKS_ok h8 h1.1 (xs ((6 * k) + 1)) (xs ((6 * k) + 2))) (fun f5 q1 q2 q3 => ?_)
  show gW X vwCl 7 (L1 ++ (mL o ad ++ [u])) f5 (40 + 3 * k + rmC aS0 S) (930000 + 400 * k + rmS aS0 S) 323 [(4, .int (nI (6 * k))), (3, .ref u), (2, .ref o), (1, .ref x), (0, .ref bs)] [.int ((s_move S (xs ((6 * k) + 1)) (xs ((6 * k) + 2))).1), .int ((s_move S (xs ((6 * k) + 1)) (xs ((6 * k) + 2))).1)]
  refine g_icmp_eq (x := (s_move S (xs ((6 * k) + 1)) (xs ((6 * k) + 2))).1) (y := (s_move S (xs ((6 * k) + 1)) (xs ((6 * k) + 2))).1) (tgt := 1261) hC dL_law_323 (by decide) (fun _ => ?_) (fun h => absurd rfl h)
  have hp23 : (s_move S (xs ((6 * k) + 1)) (xs ((6 * k) + 2))).2.1 23 = S.1 23 ∧ (s_move S (xs ((6 * k) + 1)) (xs ((6 * k) + 2))).2.1 24 = S.1 24 := by unfold s_move; (repeat' split) <;> exact ⟨rfl, rfl⟩
  refine g_widen (c2 := 40 + 3 * (k + 1) + rmC aS0 (s_move S (xs ((6 * k) + 1)) (xs ((6 * k) + 2))).2) (s2 := 930000 + 400 * (k + 1) + rmS aS0 (s_move S (xs ((6 * k) + 1)) (xs ((6 * k) + 2))).2) (by omega) (by omega) ?_
  exact kk _ b1 L1 f5 ⟨hL9, hx1.cg q2, hxo1, q1, (q3.trans (hM1 u (by simp))).trans h5, hd1, h8, h9.tr hmo, by omega, by omega⟩
set_option maxRecDepth 20000 in
set_option maxHeartbeats 4000000 in
theorem lc_held (hC : gC X l room_1 D vwCl (cyT cy) (gKS D cy adK adV) cL_law 7 wsL_law RL) (hX : va_X bs N xs X.2.1.1 X.2.1.1.heap) (hbl : bs < X.2.1.1.heap.size) (hbA : ¬ X.2.2.2.1 bs) (hN : N ≤ 3072) (hI : lwI cy x o u ad k S b Lx F gl) (h6 : 6 * k + 6 ≤ N) (kk : ∀ S' b' L' F', lwI cy x o u ad (k + 1) S' b' L' F' gl → gW X vwCl 7 (L' ++ (mL o ad ++ [u])) F' (40 + 3 * (k + 1) + rmC aS0 S') (930000 + 400 * (k + 1) + rmS aS0 S') 1261 [(4, .int (nI (6 * k))), (3, .ref u), (2, .ref o), (1, .ref x), (0, .ref bs)] []) : gW X vwCl 7 (Lx ++ (mL o ad ++ [u])) F (40 + 3 * k + rmC aS0 S) (930000 + 400 * k + rmS aS0 S) 328 [(4, .int (nI (6 * k))), (3, .ref u), (2, .ref o), (1, .ref x), (0, .ref bs)] [] := by
  obtain ⟨h1, h2, h3, h4, h5, h7, h8, h9, h10, h11⟩ := hI
  have hk : k ≤ 511 := by omega
  refine g_aload_n hC dL_law_328 rfl 3 rfl (Or.inr ⟨_, rfl⟩) ?_
  refine g_aload_n hC dL_law_329 rfl 4 rfl (Or.inr ⟨_, rfl⟩) ?_
  refine g_iload hC dL_law_330 0 rfl ?_
  refine g_iconst hC dL_law_332 (v := nI 1) (by decide) ?_
  refine g_iaddN (a := 6 * k) (b := 1) hC dL_law_333 ?_
  refine g_sld hC hX hbl hbA ((6 * k) + 1) rfl (show (6 * k) + 1 < N by omega) (show N < 2 ^ 31 by omega) dL_law_334 ?_
  refine g_aload_n hC dL_law_335 rfl 4 rfl (Or.inr ⟨_, rfl⟩) ?_
  refine g_iload hC dL_law_336 0 rfl ?_
  refine g_iconst hC dL_law_338 (v := nI 2) (by decide) ?_
  refine g_iaddN (a := 6 * k) (b := 2) hC dL_law_339 ?_
  refine g_sld hC hX hbl hbA ((6 * k) + 2) rfl (show (6 * k) + 2 < N by omega) (show N < 2 ^ 31 by omega) dL_law_340 ?_
  have hL9 : LI (k + 1) (s_held S (xs ((6 * k) + 1)) (xs ((6 * k) + 2))).2 := h1.st (q_held (xs ((6 * k) + 1)) (xs ((6 * k) + 2)))
  have hmo : mo S (s_held S (xs ((6 * k) + 1)) (xs ((6 * k) + 2))).2 := mo.qt (q_held (xs ((6 * k) + 1)) (xs ((6 * k) + 2)))
  have hra := rm_add h9 hmo
  have hbd := rm_bd hL9 (by omega)
  refine g_cls (As := [.int (xs ((6 * k) + 1)), .int (xs ((6 * k) + 2))]) (st := []) hC 2 dL_law_341 h2 h3 h7 gL_law_X9_held rfl (by decide +kernel) ⟨Nat.le_of_ble_eq_true rfl, Nat.le_of_ble_eq_true rfl⟩ rfl (Nat.le_of_ble_eq_true rfl) ⟨(show (40 + 3 * k + rmC aS0 S) + 0 ≤ 601024 by omega), (show (930000 + 400 * k + rmS aS0 S) + 0 ≤ 7293034 by omega)⟩ (c2 := (40 + 3 * k + rmC aS0 S)) (s2 := (930000 + 400 * k + rmS aS0 S)) rfl rfl ((y_held h2 h1.1 x h3 (xs ((6 * k) + 1)) (xs ((6 * k) + 2))).K gKS_K) (fun L1 f2 b1 hx1 hxo1 hM1 hd1 => ?_)
  show gW X vwCl 7 (L1 ++ (mL o ad ++ [u])) f2 (40 + 3 * k + rmC aS0 S) (930000 + 400 * k + rmS aS0 S) 344 [(4, .int (nI (6 * k))), (3, .ref u), (2, .ref o), (1, .ref x), (0, .ref bs)] [.int ((s_held S (xs ((6 * k) + 1)) (xs ((6 * k) + 2))).1)]
  have hFm2 : ∀ a, a ∈ mL o ad → f2 a = mW o ad cy S a := fun a ha => (hM1 a (List.mem_append_left _ ha)).trans (h4 a ha)
  refine g_aload_n hC dL_law_344 rfl 2 rfl (Or.inr ⟨_, rfl⟩) ?_
  refine g_aload_n hC dL_law_345 rfl 4 rfl (Or.inr ⟨_, rfl⟩) ?_
  refine g_iload hC dL_law_346 0 rfl ?_
  refine g_iconst hC dL_law_348 (v := nI 1) (by decide) ?_
  refine g_iaddN (a := 6 * k) (b := 1) hC dL_law_349 ?_
  refine g_sld hC hX hbl hbA ((6 * k) + 1) rfl (show (6 * k) + 1 < N by omega) (show N < 2 ^ 31 by omega) dL_law_350 ?_
  refine g_aload_n hC dL_law_351 rfl 4 rfl (Or.inr ⟨_, rfl⟩) ?_
  refine g_iload hC dL_law_352 0 rfl ?_
  refine g_iconst hC dL_law_354 (v := nI 2) (by decide) ?_
  refine g_iaddN (a := 6 * k) (b := 2) hC dL_law_355 ?_
  refine g_sld hC hX hbl hbA ((6 * k) + 2) rfl (show (6 * k) + 2 < N by omega) (show N < 2 ^ 31 by omega) dL_law_356 ?_
  refine g_ref (As := [.int (xs ((6 * k) + 1)), .int (xs ((6 * k) + 2))]) (st := [.int ((s_held S (xs ((6 * k) + 1)) (xs ((6 * k) + 2))).1)]) hC 2 dL_law_357 hFm2 gL_law_X10_held rfl (by decide +kernel) ⟨Nat.le_of_ble_eq_true rfl, Nat.le_of_ble_eq_true rfl⟩ rfl (Nat.le_of_ble_eq_true rfl) ⟨(show (40 + 3 * k + rmC aS0 S) + 0 ≤ 601024 by omega), (show (930000 + 400 * k + rmS aS0 S) + 0 ≤ 7293034 by omega)⟩ (c2 := (40 + 3 * k + rmC aS0 S)) (s2 := (930000 + 400 * k + rmS aS0 S)) rfl rfl (c_held gKS_ok h8 h1.1 (xs ((6 * k) + 1)) (xs ((6 * k) + 2))) (fun f5 q1 q2 q3 => ?_)
  show gW X vwCl 7 (L1 ++ (mL o ad ++ [u])) f5 (40 + 3 * k + rmC aS0 S) (930000 + 400 * k + rmS aS0 S) 360 [(4, .int (nI (6 * k))), (3, .ref u), (2, .ref o), (1, .ref x), (0, .ref bs)] [.int ((s_held S (xs ((6 * k) + 1)) (xs ((6 * k) + 2))).1), .int ((s_held S (xs ((6 * k) + 1)) (xs ((6 * k) + 2))).1)]
  refine g_icmp_eq (x := (s_held S (xs ((6 * k) + 1)) (xs ((6 * k) + 2))).1) (y := (s_held S (xs ((6 * k) + 1)) (xs ((6 * k) + 2))).1) (tgt := 1261) hC dL_law_360 (by decide) (fun _ => ?_) (fun h => absurd rfl h)
  have hp23 : (s_held S (xs ((6 * k) + 1)) (xs ((6 * k) + 2))).2.1 23 = S.1 23 ∧ (s_held S (xs ((6 * k) + 1)) (xs ((6 * k) + 2))).2.1 24 = S.1 24 := by unfold s_held; (repeat' split) <;> exact ⟨rfl, rfl⟩
  refine g_widen (c2 := 40 + 3 * (k + 1) + rmC aS0 (s_held S (xs ((6 * k) + 1)) (xs ((6 * k) + 2))).2) (s2 := 930000 + 400 * (k + 1) + rmS aS0 (s_held S (xs ((6 * k) + 1)) (xs ((6 * k) + 2))).2) (by omega) (by omega) ?_
  exact kk _ b1 L1 f5 ⟨hL9, hx1.cg q2, hxo1, q1, (q3.trans (hM1 u (by simp))).trans h5, hd1, h8, h9.tr hmo, by omega, by omega⟩
set_option maxRecDepth 20000 in
set_option maxHeartbeats 4000000 in
theorem lc_same (hC : gC X l room_1 D vwCl (cyT cy) (gKS D cy adK adV) cL_law 7 wsL_law RL) (hX : va_X bs N xs X.2.1.1 X.2.1.1.heap) (hbl : bs < X.2.1.1.heap.size) (hbA : ¬ X.2.2.2.1 bs) (hN : N ≤ 3072) (hI : lwI cy x o u ad k S b Lx F gl) (h6 : 6 * k + 6 ≤ N) (kk : ∀ S' b' L' F', lwI cy x o u ad (k + 1) S' b' L' F' gl → gW X vwCl 7 (L' ++ (mL o ad ++ [u])) F' (40 + 3 * (k + 1) + rmC aS0 S') (930000 + 400 * (k + 1) + rmS aS0 S') 1261 [(4, .int (nI (6 * k))), (3, .ref u), (2, .ref o), (1, .ref x), (0, .ref bs)] []) : gW X vwCl 7 (Lx ++ (mL o ad ++ [u])) F (40 + 3 * k + rmC aS0 S) (930000 + 400 * k + rmS aS0 S) 365 [(4, .int (nI (6 * k))), (3, .ref u), (2, .ref o), (1, .ref x), (0, .ref bs)] [] := by
  obtain ⟨h1, h2, h3, h4, h5, h7, h8, h9, h10, h11⟩ := hI
  have hk : k ≤ 511 := by omega
  refine g_aload_n hC dL_law_365 rfl 3 rfl (Or.inr ⟨_, rfl⟩) ?_
  refine g_aload_n hC dL_law_366 rfl 4 rfl (Or.inr ⟨_, rfl⟩) ?_
  refine g_iload hC dL_law_367 0 rfl ?_
  refine g_iconst hC dL_law_369 (v := nI 1) (by decide) ?_
  refine g_iaddN (a := 6 * k) (b := 1) hC dL_law_370 ?_
  refine g_sld hC hX hbl hbA ((6 * k) + 1) rfl (show (6 * k) + 1 < N by omega) (show N < 2 ^ 31 by omega) dL_law_371 ?_
  refine g_aload_n hC dL_law_372 rfl 4 rfl (Or.inr ⟨_, rfl⟩) ?_
  refine g_iload hC dL_law_373 0 rfl ?_
  refine g_iconst hC dL_law_375 (v := nI 2) (by decide) ?_
  refine g_iaddN (a := 6 * k) (b := 2) hC dL_law_376 ?_
  refine g_sld hC hX hbl hbA ((6 * k) + 2) rfl (show (6 * k) + 2 < N by omega) (show N < 2 ^ 31 by omega) dL_law_377 ?_
  have hL9 : LI (k + 1) (s_same S (xs ((6 * k) + 1)) (xs ((6 * k) + 2))).2 := h1.st (q_same (xs ((6 * k) + 1)) (xs ((6 * k) + 2)))
  have hmo : mo S (s_same S (xs ((6 * k) + 1)) (xs ((6 * k) + 2))).2 := mo.qt (q_same (xs ((6 * k) + 1)) (xs ((6 * k) + 2)))
  have hra := rm_add h9 hmo
  have hbd := rm_bd hL9 (by omega)
  refine g_cls (As := [.int (xs ((6 * k) + 1)), .int (xs ((6 * k) + 2))]) (st := []) hC 2 dL_law_378 h2 h3 h7 gL_law_X9_same rfl (by decide +kernel) ⟨Nat.le_of_ble_eq_true rfl, Nat.le_of_ble_eq_true rfl⟩ rfl (Nat.le_of_ble_eq_true rfl) ⟨(show (40 + 3 * k + rmC aS0 S) + 0 ≤ 601024 by omega), (show (930000 + 400 * k + rmS aS0 S) + 0 ≤ 7293034 by omega)⟩ (c2 := (40 + 3 * k + rmC aS0 S)) (s2 := (930000 + 400 * k + rmS aS0 S)) rfl rfl ((y_same h2 h1.1 x h3 (xs ((6 * k) + 1)) (xs ((6 * k) + 2))).K gKS_K) (fun L1 f2 b1 hx1 hxo1 hM1 hd1 => ?_)
  show gW X vwCl 7 (L1 ++ (mL o ad ++ [u])) f2 (40 + 3 * k + rmC aS0 S) (930000 + 400 * k + rmS aS0 S) 381 [(4, .int (nI (6 * k))), (3, .ref u), (2, .ref o), (1, .ref x), (0, .ref bs)] [.int ((s_same S (xs ((6 * k) + 1)) (xs ((6 * k) + 2))).1)]
  have hFm2 : ∀ a, a ∈ mL o ad → f2 a = mW o ad cy S a := fun a ha => (hM1 a (List.mem_append_left _ ha)).trans (h4 a ha)
  refine g_aload_n hC dL_law_381 rfl 2 rfl (Or.inr ⟨_, rfl⟩) ?_
  refine g_aload_n hC dL_law_382 rfl 4 rfl (Or.inr ⟨_, rfl⟩) ?_
  refine g_iload hC dL_law_383 0 rfl ?_
  refine g_iconst hC dL_law_385 (v := nI 1) (by decide) ?_
  refine g_iaddN (a := 6 * k) (b := 1) hC dL_law_386 ?_
  refine g_sld hC hX hbl hbA ((6 * k) + 1) rfl (show (6 * k) + 1 < N by omega) (show N < 2 ^ 31 by omega) dL_law_387 ?_
  refine g_aload_n hC dL_law_388 rfl 4 rfl (Or.inr ⟨_, rfl⟩) ?_
  refine g_iload hC dL_law_389 0 rfl ?_
  refine g_iconst hC dL_law_391 (v := nI 2) (by decide) ?_
  refine g_iaddN (a := 6 * k) (b := 2) hC dL_law_392 ?_
  refine g_sld hC hX hbl hbA ((6 * k) + 2) rfl (show (6 * k) + 2 < N by omega) (show N < 2 ^ 31 by omega) dL_law_393 ?_
  refine g_ref (As := [.int (xs ((6 * k) + 1)), .int (xs ((6 * k) + 2))]) (st := [.int ((s_same S (xs ((6 * k) + 1)) (xs ((6 * k) + 2))).1)]) hC 2 dL_law_394 hFm2 gL_law_X10_same rfl (by decide +kernel) ⟨Nat.le_of_ble_eq_true rfl, Nat.le_of_ble_eq_true rfl⟩ rfl (Nat.le_of_ble_eq_true rfl) ⟨(show (40 + 3 * k + rmC aS0 S) + 0 ≤ 601024 by omega), (show (930000 + 400 * k + rmS aS0 S) + 0 ≤ 7293034 by omega)⟩ (c2 := (40 + 3 * k + rmC aS0 S)) (s2 := (930000 + 400 * k + rmS aS0 S)) rfl rfl (c_same gKS_ok h8 h1.1 (xs ((6 * k) + 1)) (xs ((6 * k) + 2))) (fun f5 q1 q2 q3 => ?_)
  show gW X vwCl 7 (L1 ++ (mL o ad ++ [u])) f5 (40 + 3 * k + rmC aS0 S) (930000 + 400 * k + rmS aS0 S) 397 [(4, .int (nI (6 * k))), (3, .ref u), (2, .ref o), (1, .ref x), (0, .ref bs)] [.int ((s_same S (xs ((6 * k) + 1)) (xs ((6 * k) + 2))).1), .int ((s_same S (xs ((6 * k) + 1)) (xs ((6 * k) + 2))).1)]
  refine g_icmp_eq (x := (s_same S (xs ((6 * k) + 1)) (xs ((6 * k) + 2))).1) (y := (s_same S (xs ((6 * k) + 1)) (xs ((6 * k) + 2))).1) (tgt := 1261) hC dL_law_397 (by decide) (fun _ => ?_) (fun h => absurd rfl h)
  have hp23 : (s_same S (xs ((6 * k) + 1)) (xs ((6 * k) + 2))).2.1 23 = S.1 23 ∧ (s_same S (xs ((6 * k) + 1)) (xs ((6 * k) + 2))).2.1 24 = S.1 24 := by unfold s_same; (repeat' split) <;> exact ⟨rfl, rfl⟩
  refine g_widen (c2 := 40 + 3 * (k + 1) + rmC aS0 (s_same S (xs ((6 * k) + 1)) (xs ((6 * k) + 2))).2) (s2 := 930000 + 400 * (k + 1) + rmS aS0 (s_same S (xs ((6 * k) + 1)) (xs ((6 * k) + 2))).2) (by omega) (by omega) ?_
  exact kk _ b1 L1 f5 ⟨hL9, hx1.cg q2, hxo1, q1, (q3.trans (hM1 u (by simp))).trans h5, hd1, h8, h9.tr hmo, by omega, by omega⟩
set_option maxRecDepth 20000 in
set_option maxHeartbeats 4000000 in
theorem lc_length (hC : gC X l room_1 D vwCl (cyT cy) (gKS D cy adK adV) cL_law 7 wsL_law RL) (hX : va_X bs N xs X.2.1.1 X.2.1.1.heap) (hbl : bs < X.2.1.1.heap.size) (hbA : ¬ X.2.2.2.1 bs) (hN : N ≤ 3072) (hI : lwI cy x o u ad k S b Lx F gl) (h6 : 6 * k + 6 ≤ N) (kk : ∀ S' b' L' F', lwI cy x o u ad (k + 1) S' b' L' F' gl → gW X vwCl 7 (L' ++ (mL o ad ++ [u])) F' (40 + 3 * (k + 1) + rmC aS0 S') (930000 + 400 * (k + 1) + rmS aS0 S') 1261 [(4, .int (nI (6 * k))), (3, .ref u), (2, .ref o), (1, .ref x), (0, .ref bs)] []) : gW X vwCl 7 (Lx ++ (mL o ad ++ [u])) F (40 + 3 * k + rmC aS0 S) (930000 + 400 * k + rmS aS0 S) 402 [(4, .int (nI (6 * k))), (3, .ref u), (2, .ref o), (1, .ref x), (0, .ref bs)] [] := by
  obtain ⟨h1, h2, h3, h4, h5, h7, h8, h9, h10, h11⟩ := hI
  have hk : k ≤ 511 := by omega
  refine g_aload_n hC dL_law_402 rfl 3 rfl (Or.inr ⟨_, rfl⟩) ?_
  refine g_aload_n hC dL_law_403 rfl 4 rfl (Or.inr ⟨_, rfl⟩) ?_
  refine g_iload hC dL_law_404 0 rfl ?_
  refine g_iconst hC dL_law_406 (v := nI 1) (by decide) ?_
  refine g_iaddN (a := 6 * k) (b := 1) hC dL_law_407 ?_
  refine g_sld hC hX hbl hbA ((6 * k) + 1) rfl (show (6 * k) + 1 < N by omega) (show N < 2 ^ 31 by omega) dL_law_408 ?_
  refine g_aload_n hC dL_law_409 rfl 4 rfl (Or.inr ⟨_, rfl⟩) ?_
  refine g_iload hC dL_law_410 0 rfl ?_
  refine g_iconst hC dL_law_412 (v := nI 2) (by decide) ?_
  refine g_iaddN (a := 6 * k) (b := 2) hC dL_law_413 ?_
  refine g_sld hC hX hbl hbA ((6 * k) + 2) rfl (show (6 * k) + 2 < N by omega) (show N < 2 ^ 31 by omega) dL_law_414 ?_
  have hL9 : LI (k + 1) (s_length S (xs ((6 * k) + 1)) (xs ((6 * k) + 2))).2 := h1.st (q_length (xs ((6 * k) + 1)) (xs ((6 * k) + 2)))
  have hmo : mo S (s_length S (xs ((6 * k) + 1)) (xs ((6 * k) + 2))).2 := mo.qt (q_length (xs ((6 * k) + 1)) (xs ((6 * k) + 2)))
  have hra := rm_add h9 hmo
  have hbd := rm_bd hL9 (by omega)
  refine g_cls (As := [.int (xs ((6 * k) + 1)), .int (xs ((6 * k) + 2))]) (st := []) hC 2 dL_law_415 h2 h3 h7 gL_law_X9_length rfl (by decide +kernel) ⟨Nat.le_of_ble_eq_true rfl, Nat.le_of_ble_eq_true rfl⟩ rfl (Nat.le_of_ble_eq_true rfl) ⟨(show (40 + 3 * k + rmC aS0 S) + 0 ≤ 601024 by omega), (show (930000 + 400 * k + rmS aS0 S) + 0 ≤ 7293034 by omega)⟩ (c2 := (40 + 3 * k + rmC aS0 S)) (s2 := (930000 + 400 * k + rmS aS0 S)) rfl rfl ((y_length h2 h1.1 x h3 (xs ((6 * k) + 1)) (xs ((6 * k) + 2))).K gKS_K) (fun L1 f2 b1 hx1 hxo1 hM1 hd1 => ?_)
  show gW X vwCl 7 (L1 ++ (mL o ad ++ [u])) f2 (40 + 3 * k + rmC aS0 S) (930000 + 400 * k + rmS aS0 S) 418 [(4, .int (nI (6 * k))), (3, .ref u), (2, .ref o), (1, .ref x), (0, .ref bs)] [.int ((s_length S (xs ((6 * k) + 1)) (xs ((6 * k) + 2))).1)]
  have hFm2 : ∀ a, a ∈ mL o ad → f2 a = mW o ad cy S a := fun a ha => (hM1 a (List.mem_append_left _ ha)).trans (h4 a ha)
  refine g_aload_n hC dL_law_418 rfl 2 rfl (Or.inr ⟨_, rfl⟩) ?_
  refine g_aload_n hC dL_law_419 rfl 4 rfl (Or.inr ⟨_, rfl⟩) ?_
  refine g_iload hC dL_law_420 0 rfl ?_
  refine g_iconst hC dL_law_422 (v := nI 1) (by decide) ?_
  refine g_iaddN (a := 6 * k) (b := 1) hC dL_law_423 ?_
  refine g_sld hC hX hbl hbA ((6 * k) + 1) rfl (show (6 * k) + 1 < N by omega) (show N < 2 ^ 31 by omega) dL_law_424 ?_
  refine g_aload_n hC dL_law_425 rfl 4 rfl (Or.inr ⟨_, rfl⟩) ?_
  refine g_iload hC dL_law_426 0 rfl ?_
  refine g_iconst hC dL_law_428 (v := nI 2) (by decide) ?_
  refine g_iaddN (a := 6 * k) (b := 2) hC dL_law_429 ?_
  refine g_sld hC hX hbl hbA ((6 * k) + 2) rfl (show (6 * k) + 2 < N by omega) (show N < 2 ^ 31 by omega) dL_law_430 ?_
  refine g_ref (As := [.int (xs ((6 * k) + 1)), .int (xs ((6 * k) + 2))]) (st := [.int ((s_length S (xs ((6 * k) + 1)) (xs ((6 * k) + 2))).1)]) hC 2 dL_law_431 hFm2 gL_law_X10_length rfl (by decide +kernel) ⟨Nat.le_of_ble_eq_true rfl, Nat.le_of_ble_eq_true rfl⟩ rfl (Nat.le_of_ble_eq_true rfl) ⟨(show (40 + 3 * k + rmC aS0 S) + 0 ≤ 601024 by omega), (show (930000 + 400 * k + rmS aS0 S) + 0 ≤ 7293034 by omega)⟩ (c2 := (40 + 3 * k + rmC aS0 S)) (s2 := (930000 + 400 * k + rmS aS0 S)) rfl rfl (c_length gKS_ok h8 h1.1 (xs ((6 * k) + 1)) (xs ((6 * k) + 2))) (fun f5 q1 q2 q3 => ?_)
  show gW X vwCl 7 (L1 ++ (mL o ad ++ [u])) f5 (40 + 3 * k + rmC aS0 S) (930000 + 400 * k + rmS aS0 S) 434 [(4, .int (nI (6 * k))), (3, .ref u), (2, .ref o), (1, .ref x), (0, .ref bs)] [.int ((s_length S (xs ((6 * k) + 1)) (xs ((6 * k) + 2))).1), .int ((s_length S (xs ((6 * k) + 1)) (xs ((6 * k) + 2))).1)]
  refine g_icmp_eq (x := (s_length S (xs ((6 * k) + 1)) (xs ((6 * k) + 2))).1) (y := (s_length S (xs ((6 * k) + 1)) (xs ((6 * k) + 2))).1) (tgt := 1261) hC dL_law_434 (by decide) (fun _ => ?_) (fun h => absurd rfl h)
  have hp23 : (s_length S (xs ((6 * k) + 1)) (xs ((6 * k) + 2))).2.1 23 = S.1 23 ∧ (s_length S (xs ((6 * k) + 1)) (xs ((6 * k) + 2))).2.1 24 = S.1 24 := by unfold s_length; (repeat' split) <;> exact ⟨rfl, rfl⟩
  refine g_widen (c2 := 40 + 3 * (k + 1) + rmC aS0 (s_length S (xs ((6 * k) + 1)) (xs ((6 * k) + 2))).2) (s2 := 930000 + 400 * (k + 1) + rmS aS0 (s_length S (xs ((6 * k) + 1)) (xs ((6 * k) + 2))).2) (by omega) (by omega) ?_
  exact kk _ b1 L1 f5 ⟨hL9, hx1.cg q2, hxo1, q1, (q3.trans (hM1 u (by simp))).trans h5, hd1, h8, h9.tr hmo, by omega, by omega⟩
set_option maxRecDepth 20000 in
set_option maxHeartbeats 4000000 in
theorem lc_get (hC : gC X l room_1 D vwCl (cyT cy) (gKS D cy adK adV) cL_law 7 wsL_law RL) (hX : va_X bs N xs X.2.1.1 X.2.1.1.heap) (hbl : bs < X.2.1.1.heap.size) (hbA : ¬ X.2.2.2.1 bs) (hN : N ≤ 3072) (hI : lwI cy x o u ad k S b Lx F gl) (h6 : 6 * k + 6 ≤ N) (kk : ∀ S' b' L' F', lwI cy x o u ad (k + 1) S' b' L' F' gl → gW X vwCl 7 (L' ++ (mL o ad ++ [u])) F' (40 + 3 * (k + 1) + rmC aS0 S') (930000 + 400 * (k + 1) + rmS aS0 S') 1261 [(4, .int (nI (6 * k))), (3, .ref u), (2, .ref o), (1, .ref x), (0, .ref bs)] []) : gW X vwCl 7 (Lx ++ (mL o ad ++ [u])) F (40 + 3 * k + rmC aS0 S) (930000 + 400 * k + rmS aS0 S) 439 [(4, .int (nI (6 * k))), (3, .ref u), (2, .ref o), (1, .ref x), (0, .ref bs)] [] := by
  obtain ⟨h1, h2, h3, h4, h5, h7, h8, h9, h10, h11⟩ := hI
  have hk : k ≤ 511 := by omega
  refine g_aload_n hC dL_law_439 rfl 3 rfl (Or.inr ⟨_, rfl⟩) ?_
  refine g_aload_n hC dL_law_440 rfl 4 rfl (Or.inr ⟨_, rfl⟩) ?_
  refine g_iload hC dL_law_441 0 rfl ?_
  refine g_iconst hC dL_law_443 (v := nI 1) (by decide) ?_
  refine g_iaddN (a := 6 * k) (b := 1) hC dL_law_444 ?_
  refine g_sld hC hX hbl hbA ((6 * k) + 1) rfl (show (6 * k) + 1 < N by omega) (show N < 2 ^ 31 by omega) dL_law_445 ?_
  refine g_aload_n hC dL_law_446 rfl 4 rfl (Or.inr ⟨_, rfl⟩) ?_
  refine g_iload hC dL_law_447 0 rfl ?_
  refine g_iconst hC dL_law_449 (v := nI 2) (by decide) ?_
  refine g_iaddN (a := 6 * k) (b := 2) hC dL_law_450 ?_
  refine g_sld hC hX hbl hbA ((6 * k) + 2) rfl (show (6 * k) + 2 < N by omega) (show N < 2 ^ 31 by omega) dL_law_451 ?_
  refine g_aload_n hC dL_law_452 rfl 4 rfl (Or.inr ⟨_, rfl⟩) ?_
  refine g_iload hC dL_law_453 0 rfl ?_
  refine g_iconst hC dL_law_455 (v := nI 3) (by decide) ?_
  refine g_iaddN (a := 6 * k) (b := 3) hC dL_law_456 ?_
  refine g_sld hC hX hbl hbA ((6 * k) + 3) rfl (show (6 * k) + 3 < N by omega) (show N < 2 ^ 31 by omega) dL_law_457 ?_
  have hL9 : LI (k + 1) (s_get S (xs ((6 * k) + 1)) (xs ((6 * k) + 2)) (xs ((6 * k) + 3))).2 := h1.st (q_get (xs ((6 * k) + 1)) (xs ((6 * k) + 2)) (xs ((6 * k) + 3)))
  have hmo : mo S (s_get S (xs ((6 * k) + 1)) (xs ((6 * k) + 2)) (xs ((6 * k) + 3))).2 := mo.qt (q_get (xs ((6 * k) + 1)) (xs ((6 * k) + 2)) (xs ((6 * k) + 3)))
  have hra := rm_add h9 hmo
  have hbd := rm_bd hL9 (by omega)
  refine g_cls (As := [.int (xs ((6 * k) + 1)), .int (xs ((6 * k) + 2)), .int (xs ((6 * k) + 3))]) (st := []) hC 3 dL_law_458 h2 h3 h7 gL_law_X9_get rfl (by decide +kernel) ⟨Nat.le_of_ble_eq_true rfl, Nat.le_of_ble_eq_true rfl⟩ rfl (Nat.le_of_ble_eq_true rfl) ⟨(show (40 + 3 * k + rmC aS0 S) + 0 ≤ 601024 by omega), (show (930000 + 400 * k + rmS aS0 S) + 0 ≤ 7293034 by omega)⟩ (c2 := (40 + 3 * k + rmC aS0 S)) (s2 := (930000 + 400 * k + rmS aS0 S)) rfl rfl ((y_get h2 h1.1 x h3 (xs ((6 * k) + 1)) (xs ((6 * k) + 2)) (xs ((6 * k) + 3))).K gKS_K) (fun L1 f2 b1 hx1 hxo1 hM1 hd1 => ?_)
  show gW X vwCl 7 (L1 ++ (mL o ad ++ [u])) f2 (40 + 3 * k + rmC aS0 S) (930000 + 400 * k + rmS aS0 S) 461 [(4, .int (nI (6 * k))), (3, .ref u), (2, .ref o), (1, .ref x), (0, .ref bs)] [.long ((s_get S (xs ((6 * k) + 1)) (xs ((6 * k) + 2)) (xs ((6 * k) + 3))).1)]
  have hFm2 : ∀ a, a ∈ mL o ad → f2 a = mW o ad cy S a := fun a ha => (hM1 a (List.mem_append_left _ ha)).trans (h4 a ha)
  refine g_aload_n hC dL_law_461 rfl 2 rfl (Or.inr ⟨_, rfl⟩) ?_
  refine g_aload_n hC dL_law_462 rfl 4 rfl (Or.inr ⟨_, rfl⟩) ?_
  refine g_iload hC dL_law_463 0 rfl ?_
  refine g_iconst hC dL_law_465 (v := nI 1) (by decide) ?_
  refine g_iaddN (a := 6 * k) (b := 1) hC dL_law_466 ?_
  refine g_sld hC hX hbl hbA ((6 * k) + 1) rfl (show (6 * k) + 1 < N by omega) (show N < 2 ^ 31 by omega) dL_law_467 ?_
  refine g_aload_n hC dL_law_468 rfl 4 rfl (Or.inr ⟨_, rfl⟩) ?_
  refine g_iload hC dL_law_469 0 rfl ?_
  refine g_iconst hC dL_law_471 (v := nI 2) (by decide) ?_
  refine g_iaddN (a := 6 * k) (b := 2) hC dL_law_472 ?_
  refine g_sld hC hX hbl hbA ((6 * k) + 2) rfl (show (6 * k) + 2 < N by omega) (show N < 2 ^ 31 by omega) dL_law_473 ?_
  refine g_aload_n hC dL_law_474 rfl 4 rfl (Or.inr ⟨_, rfl⟩) ?_
  refine g_iload hC dL_law_475 0 rfl ?_
  refine g_iconst hC dL_law_477 (v := nI 3) (by decide) ?_
  refine g_iaddN (a := 6 * k) (b := 3) hC dL_law_478 ?_
  refine g_sld hC hX hbl hbA ((6 * k) + 3) rfl (show (6 * k) + 3 < N by omega) (show N < 2 ^ 31 by omega) dL_law_479 ?_
  refine g_ref (As := [.int (xs ((6 * k) + 1)), .int (xs ((6 * k) + 2)), .int (xs ((6 * k) + 3))]) (st := [.long ((s_get S (xs ((6 * k) + 1)) (xs ((6 * k) + 2)) (xs ((6 * k) + 3))).1)]) hC 3 dL_law_480 hFm2 gL_law_X10_get rfl (by decide +kernel) ⟨Nat.le_of_ble_eq_true rfl, Nat.le_of_ble_eq_true rfl⟩ rfl (Nat.le_of_ble_eq_true rfl) ⟨(show (40 + 3 * k + rmC aS0 S) + 0 ≤ 601024 by omega), (show (930000 + 400 * k + rmS aS0 S) + 0 ≤ 7293034 by omega)⟩ (c2 := (40 + 3 * k + rmC aS0 S)) (s2 := (930000 + 400 * k + rmS aS0 S)) rfl rfl (c_get gKS_ok h8 h1.1 (xs ((6 * k) + 1)) (xs ((6 * k) + 2)) (xs ((6 * k) + 3))) (fun f5 q1 q2 q3 => ?_)
  show gW X vwCl 7 (L1 ++ (mL o ad ++ [u])) f5 (40 + 3 * k + rmC aS0 S) (930000 + 400 * k + rmS aS0 S) 483 [(4, .int (nI (6 * k))), (3, .ref u), (2, .ref o), (1, .ref x), (0, .ref bs)] [.long ((s_get S (xs ((6 * k) + 1)) (xs ((6 * k) + 2)) (xs ((6 * k) + 3))).1), .long ((s_get S (xs ((6 * k) + 1)) (xs ((6 * k) + 2)) (xs ((6 * k) + 3))).1)]
  refine g_lcmp hC dL_law_483 ?_
  refine g_val (w := .int (nI 0)) (congrArg Value.int (lg_cmp_self _)) ?_
  refine g_ifN_eq (a := 0) (tgt := 1261) hC dL_law_484 (by decide) (by decide) (fun _ => ?_) (fun h => absurd rfl h)
  have hp23 : (s_get S (xs ((6 * k) + 1)) (xs ((6 * k) + 2)) (xs ((6 * k) + 3))).2.1 23 = S.1 23 ∧ (s_get S (xs ((6 * k) + 1)) (xs ((6 * k) + 2)) (xs ((6 * k) + 3))).2.1 24 = S.1 24 := by unfold s_get; (repeat' split) <;> exact ⟨rfl, rfl⟩
  refine g_widen (c2 := 40 + 3 * (k + 1) + rmC aS0 (s_get S (xs ((6 * k) + 1)) (xs ((6 * k) + 2)) (xs ((6 * k) + 3))).2) (s2 := 930000 + 400 * (k + 1) + rmS aS0 (s_get S (xs ((6 * k) + 1)) (xs ((6 * k) + 2)) (xs ((6 * k) + 3))).2) (by omega) (by omega) ?_
  exact kk _ b1 L1 f5 ⟨hL9, hx1.cg q2, hxo1, q1, (q3.trans (hM1 u (by simp))).trans h5, hd1, h8, h9.tr hmo, by omega, by omega⟩
set_option maxRecDepth 20000 in
set_option maxHeartbeats 4000000 in
theorem lc_set (hC : gC X l room_1 D vwCl (cyT cy) (gKS D cy adK adV) cL_law 7 wsL_law RL) (hX : va_X bs N xs X.2.1.1 X.2.1.1.heap) (hbl : bs < X.2.1.1.heap.size) (hbA : ¬ X.2.2.2.1 bs) (hN : N ≤ 3072) (hI : lwI cy x o u ad k S b Lx F gl) (h6 : 6 * k + 6 ≤ N) (kk : ∀ S' b' L' F', lwI cy x o u ad (k + 1) S' b' L' F' gl → gW X vwCl 7 (L' ++ (mL o ad ++ [u])) F' (40 + 3 * (k + 1) + rmC aS0 S') (930000 + 400 * (k + 1) + rmS aS0 S') 1261 [(4, .int (nI (6 * k))), (3, .ref u), (2, .ref o), (1, .ref x), (0, .ref bs)] []) : gW X vwCl 7 (Lx ++ (mL o ad ++ [u])) F (40 + 3 * k + rmC aS0 S) (930000 + 400 * k + rmS aS0 S) 489 [(4, .int (nI (6 * k))), (3, .ref u), (2, .ref o), (1, .ref x), (0, .ref bs)] [] := by
  obtain ⟨h1, h2, h3, h4, h5, h7, h8, h9, h10, h11⟩ := hI
  have hk : k ≤ 511 := by omega
  refine g_aload_n hC dL_law_489 rfl 3 rfl (Or.inr ⟨_, rfl⟩) ?_
  refine g_aload_n hC dL_law_490 rfl 4 rfl (Or.inr ⟨_, rfl⟩) ?_
  refine g_iload hC dL_law_491 0 rfl ?_
  refine g_iconst hC dL_law_493 (v := nI 1) (by decide) ?_
  refine g_iaddN (a := 6 * k) (b := 1) hC dL_law_494 ?_
  refine g_sld hC hX hbl hbA ((6 * k) + 1) rfl (show (6 * k) + 1 < N by omega) (show N < 2 ^ 31 by omega) dL_law_495 ?_
  refine g_aload_n hC dL_law_496 rfl 4 rfl (Or.inr ⟨_, rfl⟩) ?_
  refine g_iload hC dL_law_497 0 rfl ?_
  refine g_iconst hC dL_law_499 (v := nI 2) (by decide) ?_
  refine g_iaddN (a := 6 * k) (b := 2) hC dL_law_500 ?_
  refine g_sld hC hX hbl hbA ((6 * k) + 2) rfl (show (6 * k) + 2 < N by omega) (show N < 2 ^ 31 by omega) dL_law_501 ?_
  refine g_aload_n hC dL_law_502 rfl 4 rfl (Or.inr ⟨_, rfl⟩) ?_
  refine g_iload hC dL_law_503 0 rfl ?_
  refine g_iconst hC dL_law_505 (v := nI 3) (by decide) ?_
  refine g_iaddN (a := 6 * k) (b := 3) hC dL_law_506 ?_
  refine g_sld hC hX hbl hbA ((6 * k) + 3) rfl (show (6 * k) + 3 < N by omega) (show N < 2 ^ 31 by omega) dL_law_507 ?_
  refine g_aload_n hC dL_law_508 rfl 4 rfl (Or.inr ⟨_, rfl⟩) ?_
  refine g_iload hC dL_law_509 0 rfl ?_
  refine g_iconst hC dL_law_511 (v := nI 4) (by decide) ?_
  refine g_iaddN (a := 6 * k) (b := 4) hC dL_law_512 ?_
  refine g_sld hC hX hbl hbA ((6 * k) + 4) rfl (show (6 * k) + 4 < N by omega) (show N < 2 ^ 31 by omega) dL_law_513 ?_
  have hL9 : LI (k + 1) (s_set S (xs ((6 * k) + 1)) (xs ((6 * k) + 2)) (xs ((6 * k) + 3)) (xs ((6 * k) + 4))).2 := l_set h1 (xs ((6 * k) + 1)) (xs ((6 * k) + 2)) (xs ((6 * k) + 3)) (xs ((6 * k) + 4))
  have hmo : mo S (s_set S (xs ((6 * k) + 1)) (xs ((6 * k) + 2)) (xs ((6 * k) + 3)) (xs ((6 * k) + 4))).2 := m_set (xs ((6 * k) + 1)) (xs ((6 * k) + 2)) (xs ((6 * k) + 3)) (xs ((6 * k) + 4))
  have hra := rm_add h9 hmo
  have hbd := rm_bd hL9 (by omega)
  refine g_cls (As := [.int (xs ((6 * k) + 1)), .int (xs ((6 * k) + 2)), .int (xs ((6 * k) + 3)), .int (xs ((6 * k) + 4))]) (st := []) hC 4 dL_law_514 h2 h3 h7 gL_law_X9_set rfl (by decide +kernel) ⟨Nat.le_of_ble_eq_true rfl, Nat.le_of_ble_eq_true rfl⟩ rfl (Nat.le_of_ble_eq_true rfl) ⟨(show (40 + 3 * k + rmC aS0 S) + 0 ≤ 601024 by omega), (show (930000 + 400 * k + rmS aS0 S) + 0 ≤ 7293034 by omega)⟩ (c2 := (40 + 3 * k + rmC aS0 S)) (s2 := (930000 + 400 * k + rmS aS0 S)) rfl rfl ((y_set h2 h1.1 x h3 (xs ((6 * k) + 1)) (xs ((6 * k) + 2)) (xs ((6 * k) + 3)) (xs ((6 * k) + 4))).K gKS_K) (fun L1 f2 b1 hx1 hxo1 hM1 hd1 => ?_)
  show gW X vwCl 7 (L1 ++ (mL o ad ++ [u])) f2 (40 + 3 * k + rmC aS0 S) (930000 + 400 * k + rmS aS0 S) 517 [(4, .int (nI (6 * k))), (3, .ref u), (2, .ref o), (1, .ref x), (0, .ref bs)] [.int ((s_set S (xs ((6 * k) + 1)) (xs ((6 * k) + 2)) (xs ((6 * k) + 3)) (xs ((6 * k) + 4))).1)]
  have hFm2 : ∀ a, a ∈ mL o ad → f2 a = mW o ad cy S a := fun a ha => (hM1 a (List.mem_append_left _ ha)).trans (h4 a ha)
  refine g_aload_n hC dL_law_517 rfl 2 rfl (Or.inr ⟨_, rfl⟩) ?_
  refine g_aload_n hC dL_law_518 rfl 4 rfl (Or.inr ⟨_, rfl⟩) ?_
  refine g_iload hC dL_law_519 0 rfl ?_
  refine g_iconst hC dL_law_521 (v := nI 1) (by decide) ?_
  refine g_iaddN (a := 6 * k) (b := 1) hC dL_law_522 ?_
  refine g_sld hC hX hbl hbA ((6 * k) + 1) rfl (show (6 * k) + 1 < N by omega) (show N < 2 ^ 31 by omega) dL_law_523 ?_
  refine g_aload_n hC dL_law_524 rfl 4 rfl (Or.inr ⟨_, rfl⟩) ?_
  refine g_iload hC dL_law_525 0 rfl ?_
  refine g_iconst hC dL_law_527 (v := nI 2) (by decide) ?_
  refine g_iaddN (a := 6 * k) (b := 2) hC dL_law_528 ?_
  refine g_sld hC hX hbl hbA ((6 * k) + 2) rfl (show (6 * k) + 2 < N by omega) (show N < 2 ^ 31 by omega) dL_law_529 ?_
  refine g_aload_n hC dL_law_530 rfl 4 rfl (Or.inr ⟨_, rfl⟩) ?_
  refine g_iload hC dL_law_531 0 rfl ?_
  refine g_iconst hC dL_law_533 (v := nI 3) (by decide) ?_
  refine g_iaddN (a := 6 * k) (b := 3) hC dL_law_534 ?_
  refine g_sld hC hX hbl hbA ((6 * k) + 3) rfl (show (6 * k) + 3 < N by omega) (show N < 2 ^ 31 by omega) dL_law_535 ?_
  refine g_aload_n hC dL_law_536 rfl 4 rfl (Or.inr ⟨_, rfl⟩) ?_
  refine g_iload hC dL_law_537 0 rfl ?_
  refine g_iconst hC dL_law_539 (v := nI 4) (by decide) ?_
  refine g_iaddN (a := 6 * k) (b := 4) hC dL_law_540 ?_
  refine g_sld hC hX hbl hbA ((6 * k) + 4) rfl (show (6 * k) + 4 < N by omega) (show N < 2 ^ 31 by omega) dL_law_541 ?_
  refine g_ref (As := [.int (xs ((6 * k) + 1)), .int (xs ((6 * k) + 2)), .int (xs ((6 * k) + 3)), .int (xs ((6 * k) + 4))]) (st := [.int ((s_set S (xs ((6 * k) + 1)) (xs ((6 * k) + 2)) (xs ((6 * k) + 3)) (xs ((6 * k) + 4))).1)]) hC 4 dL_law_542 hFm2 gL_law_X10_set rfl (by decide +kernel) ⟨Nat.le_of_ble_eq_true rfl, Nat.le_of_ble_eq_true rfl⟩ rfl (Nat.le_of_ble_eq_true rfl) ⟨(show (40 + 3 * k + rmC aS0 S) + 0 ≤ 601024 by omega), (show (930000 + 400 * k + rmS aS0 S) + 0 ≤ 7293034 by omega)⟩ (c2 := (40 + 3 * k + rmC aS0 S)) (s2 := (930000 + 400 * k + rmS aS0 S)) rfl rfl (c_set gKS_ok h8 h1.1 (xs ((6 * k) + 1)) (xs ((6 * k) + 2)) (xs ((6 * k) + 3)) (xs ((6 * k) + 4))) (fun f5 q1 q2 q3 => ?_)
  show gW X vwCl 7 (L1 ++ (mL o ad ++ [u])) f5 (40 + 3 * k + rmC aS0 S) (930000 + 400 * k + rmS aS0 S) 545 [(4, .int (nI (6 * k))), (3, .ref u), (2, .ref o), (1, .ref x), (0, .ref bs)] [.int ((s_set S (xs ((6 * k) + 1)) (xs ((6 * k) + 2)) (xs ((6 * k) + 3)) (xs ((6 * k) + 4))).1), .int ((s_set S (xs ((6 * k) + 1)) (xs ((6 * k) + 2)) (xs ((6 * k) + 3)) (xs ((6 * k) + 4))).1)]
  refine g_icmp_eq (x := (s_set S (xs ((6 * k) + 1)) (xs ((6 * k) + 2)) (xs ((6 * k) + 3)) (xs ((6 * k) + 4))).1) (y := (s_set S (xs ((6 * k) + 1)) (xs ((6 * k) + 2)) (xs ((6 * k) + 3)) (xs ((6 * k) + 4))).1) (tgt := 1261) hC dL_law_545 (by decide) (fun _ => ?_) (fun h => absurd rfl h)
  have hp23 : (s_set S (xs ((6 * k) + 1)) (xs ((6 * k) + 2)) (xs ((6 * k) + 3)) (xs ((6 * k) + 4))).2.1 23 = S.1 23 ∧ (s_set S (xs ((6 * k) + 1)) (xs ((6 * k) + 2)) (xs ((6 * k) + 3)) (xs ((6 * k) + 4))).2.1 24 = S.1 24 := by unfold s_set; (repeat' split) <;> exact ⟨rfl, rfl⟩
  refine g_widen (c2 := 40 + 3 * (k + 1) + rmC aS0 (s_set S (xs ((6 * k) + 1)) (xs ((6 * k) + 2)) (xs ((6 * k) + 3)) (xs ((6 * k) + 4))).2) (s2 := 930000 + 400 * (k + 1) + rmS aS0 (s_set S (xs ((6 * k) + 1)) (xs ((6 * k) + 2)) (xs ((6 * k) + 3)) (xs ((6 * k) + 4))).2) (by omega) (by omega) ?_
  exact kk _ b1 L1 f5 ⟨hL9, hx1.cg q2, hxo1, q1, (q3.trans (hM1 u (by simp))).trans h5, hd1, h8, h9.tr hmo, by omega, by omega⟩
set_option maxRecDepth 20000 in
set_option maxHeartbeats 4000000 in
theorem lc_lay (hC : gC X l room_1 D vwCl (cyT cy) (gKS D cy adK adV) cL_law 7 wsL_law RL) (hX : va_X bs N xs X.2.1.1 X.2.1.1.heap) (hbl : bs < X.2.1.1.heap.size) (hbA : ¬ X.2.2.2.1 bs) (hN : N ≤ 3072) (hI : lwI cy x o u ad k S b Lx F gl) (h6 : 6 * k + 6 ≤ N) (kk : ∀ S' b' L' F', lwI cy x o u ad (k + 1) S' b' L' F' gl → gW X vwCl 7 (L' ++ (mL o ad ++ [u])) F' (40 + 3 * (k + 1) + rmC aS0 S') (930000 + 400 * (k + 1) + rmS aS0 S') 1261 [(4, .int (nI (6 * k))), (3, .ref u), (2, .ref o), (1, .ref x), (0, .ref bs)] []) : gW X vwCl 7 (Lx ++ (mL o ad ++ [u])) F (40 + 3 * k + rmC aS0 S) (930000 + 400 * k + rmS aS0 S) 550 [(4, .int (nI (6 * k))), (3, .ref u), (2, .ref o), (1, .ref x), (0, .ref bs)] [] := by
  obtain ⟨h1, h2, h3, h4, h5, h7, h8, h9, h10, h11⟩ := hI
  have hk : k ≤ 511 := by omega
  refine g_aload_n hC dL_law_550 rfl 3 rfl (Or.inr ⟨_, rfl⟩) ?_
  refine g_aload_n hC dL_law_551 rfl 4 rfl (Or.inr ⟨_, rfl⟩) ?_
  refine g_iload hC dL_law_552 0 rfl ?_
  refine g_iconst hC dL_law_554 (v := nI 1) (by decide) ?_
  refine g_iaddN (a := 6 * k) (b := 1) hC dL_law_555 ?_
  refine g_sld hC hX hbl hbA ((6 * k) + 1) rfl (show (6 * k) + 1 < N by omega) (show N < 2 ^ 31 by omega) dL_law_556 ?_
  refine g_aload_n hC dL_law_557 rfl 4 rfl (Or.inr ⟨_, rfl⟩) ?_
  refine g_iload hC dL_law_558 0 rfl ?_
  refine g_iconst hC dL_law_560 (v := nI 2) (by decide) ?_
  refine g_iaddN (a := 6 * k) (b := 2) hC dL_law_561 ?_
  refine g_sld hC hX hbl hbA ((6 * k) + 2) rfl (show (6 * k) + 2 < N by omega) (show N < 2 ^ 31 by omega) dL_law_562 ?_
  refine g_aload_n hC dL_law_563 rfl 4 rfl (Or.inr ⟨_, rfl⟩) ?_
  refine g_iload hC dL_law_564 0 rfl ?_
  refine g_iconst hC dL_law_566 (v := nI 3) (by decide) ?_
  refine g_iaddN (a := 6 * k) (b := 3) hC dL_law_567 ?_
  refine g_sld hC hX hbl hbA ((6 * k) + 3) rfl (show (6 * k) + 3 < N by omega) (show N < 2 ^ 31 by omega) dL_law_568 ?_
  have hL9 : LI (k + 1) (s_lay S (xs ((6 * k) + 1)) (xs ((6 * k) + 2)) (xs ((6 * k) + 3))).2 := l_lay h1 (xs ((6 * k) + 1)) (xs ((6 * k) + 2)) (xs ((6 * k) + 3))
  have hmo : mo S (s_lay S (xs ((6 * k) + 1)) (xs ((6 * k) + 2)) (xs ((6 * k) + 3))).2 := m_lay (xs ((6 * k) + 1)) (xs ((6 * k) + 2)) (xs ((6 * k) + 3))
  have hra := rm_add h9 hmo
  have hbd := rm_bd hL9 (by omega)
  refine g_cls (As := [.int (xs ((6 * k) + 1)), .int (xs ((6 * k) + 2)), .int (xs ((6 * k) + 3))]) (st := []) hC 3 dL_law_569 h2 h3 h7 gL_law_X9_lay rfl (by decide +kernel) ⟨Nat.le_of_ble_eq_true rfl, Nat.le_of_ble_eq_true rfl⟩ rfl (Nat.le_of_ble_eq_true rfl) ⟨(show (40 + 3 * k + rmC aS0 S) + 0 ≤ 601024 by omega), (show (930000 + 400 * k + rmS aS0 S) + 0 ≤ 7293034 by omega)⟩ (c2 := (40 + 3 * k + rmC aS0 S)) (s2 := (930000 + 400 * k + rmS aS0 S)) rfl rfl ((y_lay h2 h1.1 x h3 (xs ((6 * k) + 1)) (xs ((6 * k) + 2)) (xs ((6 * k) + 3))).K gKS_K) (fun L1 f2 b1 hx1 hxo1 hM1 hd1 => ?_)
  show gW X vwCl 7 (L1 ++ (mL o ad ++ [u])) f2 (40 + 3 * k + rmC aS0 S) (930000 + 400 * k + rmS aS0 S) 572 [(4, .int (nI (6 * k))), (3, .ref u), (2, .ref o), (1, .ref x), (0, .ref bs)] [.int ((s_lay S (xs ((6 * k) + 1)) (xs ((6 * k) + 2)) (xs ((6 * k) + 3))).1)]
  have hFm2 : ∀ a, a ∈ mL o ad → f2 a = mW o ad cy S a := fun a ha => (hM1 a (List.mem_append_left _ ha)).trans (h4 a ha)
  refine g_aload_n hC dL_law_572 rfl 2 rfl (Or.inr ⟨_, rfl⟩) ?_
  refine g_aload_n hC dL_law_573 rfl 4 rfl (Or.inr ⟨_, rfl⟩) ?_
  refine g_iload hC dL_law_574 0 rfl ?_
  refine g_iconst hC dL_law_576 (v := nI 1) (by decide) ?_
  refine g_iaddN (a := 6 * k) (b := 1) hC dL_law_577 ?_
  refine g_sld hC hX hbl hbA ((6 * k) + 1) rfl (show (6 * k) + 1 < N by omega) (show N < 2 ^ 31 by omega) dL_law_578 ?_
  refine g_aload_n hC dL_law_579 rfl 4 rfl (Or.inr ⟨_, rfl⟩) ?_
  refine g_iload hC dL_law_580 0 rfl ?_
  refine g_iconst hC dL_law_582 (v := nI 2) (by decide) ?_
  refine g_iaddN (a := 6 * k) (b := 2) hC dL_law_583 ?_
  refine g_sld hC hX hbl hbA ((6 * k) + 2) rfl (show (6 * k) + 2 < N by omega) (show N < 2 ^ 31 by omega) dL_law_584 ?_
  refine g_aload_n hC dL_law_585 rfl 4 rfl (Or.inr ⟨_, rfl⟩) ?_
  refine g_iload hC dL_law_586 0 rfl ?_
  refine g_iconst hC dL_law_588 (v := nI 3) (by decide) ?_
  refine g_iaddN (a := 6 * k) (b := 3) hC dL_law_589 ?_
  refine g_sld hC hX hbl hbA ((6 * k) + 3) rfl (show (6 * k) + 3 < N by omega) (show N < 2 ^ 31 by omega) dL_law_590 ?_
  refine g_ref (As := [.int (xs ((6 * k) + 1)), .int (xs ((6 * k) + 2)), .int (xs ((6 * k) + 3))]) (st := [.int ((s_lay S (xs ((6 * k) + 1)) (xs ((6 * k) + 2)) (xs ((6 * k) + 3))).1)]) hC 3 dL_law_591 hFm2 gL_law_X10_lay rfl (by decide +kernel) ⟨Nat.le_of_ble_eq_true rfl, Nat.le_of_ble_eq_true rfl⟩ rfl (Nat.le_of_ble_eq_true rfl) ⟨(show (40 + 3 * k + rmC aS0 S) + 0 ≤ 601024 by omega), (show (930000 + 400 * k + rmS aS0 S) + 0 ≤ 7293034 by omega)⟩ (c2 := (40 + 3 * k + rmC aS0 S)) (s2 := (930000 + 400 * k + rmS aS0 S)) rfl rfl (c_lay gKS_ok h8 h1.1 (xs ((6 * k) + 1)) (xs ((6 * k) + 2)) (xs ((6 * k) + 3))) (fun f5 q1 q2 q3 => ?_)
  show gW X vwCl 7 (L1 ++ (mL o ad ++ [u])) f5 (40 + 3 * k + rmC aS0 S) (930000 + 400 * k + rmS aS0 S) 594 [(4, .int (nI (6 * k))), (3, .ref u), (2, .ref o), (1, .ref x), (0, .ref bs)] [.int ((s_lay S (xs ((6 * k) + 1)) (xs ((6 * k) + 2)) (xs ((6 * k) + 3))).1), .int ((s_lay S (xs ((6 * k) + 1)) (xs ((6 * k) + 2)) (xs ((6 * k) + 3))).1)]
  refine g_icmp_eq (x := (s_lay S (xs ((6 * k) + 1)) (xs ((6 * k) + 2)) (xs ((6 * k) + 3))).1) (y := (s_lay S (xs ((6 * k) + 1)) (xs ((6 * k) + 2)) (xs ((6 * k) + 3))).1) (tgt := 1261) hC dL_law_594 (by decide) (fun _ => ?_) (fun h => absurd rfl h)
  have hp23 : (s_lay S (xs ((6 * k) + 1)) (xs ((6 * k) + 2)) (xs ((6 * k) + 3))).2.1 23 = S.1 23 ∧ (s_lay S (xs ((6 * k) + 1)) (xs ((6 * k) + 2)) (xs ((6 * k) + 3))).2.1 24 = S.1 24 := by unfold s_lay; (repeat' split) <;> exact ⟨rfl, rfl⟩
  refine g_widen (c2 := 40 + 3 * (k + 1) + rmC aS0 (s_lay S (xs ((6 * k) + 1)) (xs ((6 * k) + 2)) (xs ((6 * k) + 3))).2) (s2 := 930000 + 400 * (k + 1) + rmS aS0 (s_lay S (xs ((6 * k) + 1)) (xs ((6 * k) + 2)) (xs ((6 * k) + 3))).2) (by omega) (by omega) ?_
  exact kk _ b1 L1 f5 ⟨hL9, hx1.cg q2, hxo1, q1, (q3.trans (hM1 u (by simp))).trans h5, hd1, h8, h9.tr hmo, by omega, by omega⟩
set_option maxRecDepth 20000 in
set_option maxHeartbeats 4000000 in
theorem lc_take (hC : gC X l room_1 D vwCl (cyT cy) (gKS D cy adK adV) cL_law 7 wsL_law RL) (hX : va_X bs N xs X.2.1.1 X.2.1.1.heap) (hbl : bs < X.2.1.1.heap.size) (hbA : ¬ X.2.2.2.1 bs) (hN : N ≤ 3072) (hI : lwI cy x o u ad k S b Lx F gl) (h6 : 6 * k + 6 ≤ N) (kk : ∀ S' b' L' F', lwI cy x o u ad (k + 1) S' b' L' F' gl → gW X vwCl 7 (L' ++ (mL o ad ++ [u])) F' (40 + 3 * (k + 1) + rmC aS0 S') (930000 + 400 * (k + 1) + rmS aS0 S') 1261 [(4, .int (nI (6 * k))), (3, .ref u), (2, .ref o), (1, .ref x), (0, .ref bs)] []) : gW X vwCl 7 (Lx ++ (mL o ad ++ [u])) F (40 + 3 * k + rmC aS0 S) (930000 + 400 * k + rmS aS0 S) 599 [(4, .int (nI (6 * k))), (3, .ref u), (2, .ref o), (1, .ref x), (0, .ref bs)] [] := by
  obtain ⟨h1, h2, h3, h4, h5, h7, h8, h9, h10, h11⟩ := hI
  have hk : k ≤ 511 := by omega
  refine g_aload_n hC dL_law_599 rfl 3 rfl (Or.inr ⟨_, rfl⟩) ?_
  refine g_aload_n hC dL_law_600 rfl 4 rfl (Or.inr ⟨_, rfl⟩) ?_
  refine g_iload hC dL_law_601 0 rfl ?_
  refine g_iconst hC dL_law_603 (v := nI 1) (by decide) ?_
  refine g_iaddN (a := 6 * k) (b := 1) hC dL_law_604 ?_
  refine g_sld hC hX hbl hbA ((6 * k) + 1) rfl (show (6 * k) + 1 < N by omega) (show N < 2 ^ 31 by omega) dL_law_605 ?_
  refine g_aload_n hC dL_law_606 rfl 4 rfl (Or.inr ⟨_, rfl⟩) ?_
  refine g_iload hC dL_law_607 0 rfl ?_
  refine g_iconst hC dL_law_609 (v := nI 2) (by decide) ?_
  refine g_iaddN (a := 6 * k) (b := 2) hC dL_law_610 ?_
  refine g_sld hC hX hbl hbA ((6 * k) + 2) rfl (show (6 * k) + 2 < N by omega) (show N < 2 ^ 31 by omega) dL_law_611 ?_
  refine g_aload_n hC dL_law_612 rfl 4 rfl (Or.inr ⟨_, rfl⟩) ?_
  refine g_iload hC dL_law_613 0 rfl ?_
  refine g_iconst hC dL_law_615 (v := nI 3) (by decide) ?_
  refine g_iaddN (a := 6 * k) (b := 3) hC dL_law_616 ?_
  refine g_sld hC hX hbl hbA ((6 * k) + 3) rfl (show (6 * k) + 3 < N by omega) (show N < 2 ^ 31 by omega) dL_law_617 ?_
  have hL9 : LI (k + 1) (s_take S (xs ((6 * k) + 1)) (xs ((6 * k) + 2)) (xs ((6 * k) + 3))).2 := l_take h1 (xs ((6 * k) + 1)) (xs ((6 * k) + 2)) (xs ((6 * k) + 3))
  have hmo : mo S (s_take S (xs ((6 * k) + 1)) (xs ((6 * k) + 2)) (xs ((6 * k) + 3))).2 := m_take (xs ((6 * k) + 1)) (xs ((6 * k) + 2)) (xs ((6 * k) + 3))
  have hra := rm_add h9 hmo
  have hbd := rm_bd hL9 (by omega)
  refine g_cls (As := [.int (xs ((6 * k) + 1)), .int (xs ((6 * k) + 2)), .int (xs ((6 * k) + 3))]) (st := []) hC 3 dL_law_618 h2 h3 h7 gL_law_X9_take rfl (by decide +kernel) ⟨Nat.le_of_ble_eq_true rfl, Nat.le_of_ble_eq_true rfl⟩ rfl (Nat.le_of_ble_eq_true rfl) ⟨(show (40 + 3 * k + rmC aS0 S) + 0 ≤ 601024 by omega), (show (930000 + 400 * k + rmS aS0 S) + 0 ≤ 7293034 by omega)⟩ (c2 := (40 + 3 * k + rmC aS0 S)) (s2 := (930000 + 400 * k + rmS aS0 S)) rfl rfl ((y_take h2 h1.1 x h3 (xs ((6 * k) + 1)) (xs ((6 * k) + 2)) (xs ((6 * k) + 3))).K gKS_K) (fun L1 f2 b1 hx1 hxo1 hM1 hd1 => ?_)
  show gW X vwCl 7 (L1 ++ (mL o ad ++ [u])) f2 (40 + 3 * k + rmC aS0 S) (930000 + 400 * k + rmS aS0 S) 621 [(4, .int (nI (6 * k))), (3, .ref u), (2, .ref o), (1, .ref x), (0, .ref bs)] [.int ((s_take S (xs ((6 * k) + 1)) (xs ((6 * k) + 2)) (xs ((6 * k) + 3))).1)]
  have hFm2 : ∀ a, a ∈ mL o ad → f2 a = mW o ad cy S a := fun a ha => (hM1 a (List.mem_append_left _ ha)).trans (h4 a ha)
  refine g_aload_n hC dL_law_621 rfl 2 rfl (Or.inr ⟨_, rfl⟩) ?_
  refine g_aload_n hC dL_law_622 rfl 4 rfl (Or.inr ⟨_, rfl⟩) ?_
  refine g_iload hC dL_law_623 0 rfl ?_
  refine g_iconst hC dL_law_625 (v := nI 1) (by decide) ?_
  refine g_iaddN (a := 6 * k) (b := 1) hC dL_law_626 ?_
  refine g_sld hC hX hbl hbA ((6 * k) + 1) rfl (show (6 * k) + 1 < N by omega) (show N < 2 ^ 31 by omega) dL_law_627 ?_
  refine g_aload_n hC dL_law_628 rfl 4 rfl (Or.inr ⟨_, rfl⟩) ?_
  refine g_iload hC dL_law_629 0 rfl ?_
  refine g_iconst hC dL_law_631 (v := nI 2) (by decide) ?_
  refine g_iaddN (a := 6 * k) (b := 2) hC dL_law_632 ?_
  refine g_sld hC hX hbl hbA ((6 * k) + 2) rfl (show (6 * k) + 2 < N by omega) (show N < 2 ^ 31 by omega) dL_law_633 ?_
  refine g_aload_n hC dL_law_634 rfl 4 rfl (Or.inr ⟨_, rfl⟩) ?_
  refine g_iload hC dL_law_635 0 rfl ?_
  refine g_iconst hC dL_law_637 (v := nI 3) (by decide) ?_
  refine g_iaddN (a := 6 * k) (b := 3) hC dL_law_638 ?_
  refine g_sld hC hX hbl hbA ((6 * k) + 3) rfl (show (6 * k) + 3 < N by omega) (show N < 2 ^ 31 by omega) dL_law_639 ?_
  refine g_ref (As := [.int (xs ((6 * k) + 1)), .int (xs ((6 * k) + 2)), .int (xs ((6 * k) + 3))]) (st := [.int ((s_take S (xs ((6 * k) + 1)) (xs ((6 * k) + 2)) (xs ((6 * k) + 3))).1)]) hC 3 dL_law_640 hFm2 gL_law_X10_take rfl (by decide +kernel) ⟨Nat.le_of_ble_eq_true rfl, Nat.le_of_ble_eq_true rfl⟩ rfl (Nat.le_of_ble_eq_true rfl) ⟨(show (40 + 3 * k + rmC aS0 S) + 0 ≤ 601024 by omega), (show (930000 + 400 * k + rmS aS0 S) + 0 ≤ 7293034 by omega)⟩ (c2 := (40 + 3 * k + rmC aS0 S)) (s2 := (930000 + 400 * k + rmS aS0 S)) rfl rfl (c_take gKS_ok h8 h1.1 (xs ((6 * k) + 1)) (xs ((6 * k) + 2)) (xs ((6 * k) + 3))) (fun f5 q1 q2 q3 => ?_)
  show gW X vwCl 7 (L1 ++ (mL o ad ++ [u])) f5 (40 + 3 * k + rmC aS0 S) (930000 + 400 * k + rmS aS0 S) 643 [(4, .int (nI (6 * k))), (3, .ref u), (2, .ref o), (1, .ref x), (0, .ref bs)] [.int ((s_take S (xs ((6 * k) + 1)) (xs ((6 * k) + 2)) (xs ((6 * k) + 3))).1), .int ((s_take S (xs ((6 * k) + 1)) (xs ((6 * k) + 2)) (xs ((6 * k) + 3))).1)]
  refine g_icmp_eq (x := (s_take S (xs ((6 * k) + 1)) (xs ((6 * k) + 2)) (xs ((6 * k) + 3))).1) (y := (s_take S (xs ((6 * k) + 1)) (xs ((6 * k) + 2)) (xs ((6 * k) + 3))).1) (tgt := 1261) hC dL_law_643 (by decide) (fun _ => ?_) (fun h => absurd rfl h)
  have hp23 : (s_take S (xs ((6 * k) + 1)) (xs ((6 * k) + 2)) (xs ((6 * k) + 3))).2.1 23 = S.1 23 ∧ (s_take S (xs ((6 * k) + 1)) (xs ((6 * k) + 2)) (xs ((6 * k) + 3))).2.1 24 = S.1 24 := by unfold s_take; (repeat' split) <;> exact ⟨rfl, rfl⟩
  refine g_widen (c2 := 40 + 3 * (k + 1) + rmC aS0 (s_take S (xs ((6 * k) + 1)) (xs ((6 * k) + 2)) (xs ((6 * k) + 3))).2) (s2 := 930000 + 400 * (k + 1) + rmS aS0 (s_take S (xs ((6 * k) + 1)) (xs ((6 * k) + 2)) (xs ((6 * k) + 3))).2) (by omega) (by omega) ?_
  exact kk _ b1 L1 f5 ⟨hL9, hx1.cg q2, hxo1, q1, (q3.trans (hM1 u (by simp))).trans h5, hd1, h8, h9.tr hmo, by omega, by omega⟩
set_option maxRecDepth 20000 in
set_option maxHeartbeats 4000000 in
theorem lc_cell (hC : gC X l room_1 D vwCl (cyT cy) (gKS D cy adK adV) cL_law 7 wsL_law RL) (hX : va_X bs N xs X.2.1.1 X.2.1.1.heap) (hbl : bs < X.2.1.1.heap.size) (hbA : ¬ X.2.2.2.1 bs) (hN : N ≤ 3072) (hI : lwI cy x o u ad k S b Lx F gl) (h6 : 6 * k + 6 ≤ N) (kk : ∀ S' b' L' F', lwI cy x o u ad (k + 1) S' b' L' F' gl → gW X vwCl 7 (L' ++ (mL o ad ++ [u])) F' (40 + 3 * (k + 1) + rmC aS0 S') (930000 + 400 * (k + 1) + rmS aS0 S') 1261 [(4, .int (nI (6 * k))), (3, .ref u), (2, .ref o), (1, .ref x), (0, .ref bs)] []) : gW X vwCl 7 (Lx ++ (mL o ad ++ [u])) F (40 + 3 * k + rmC aS0 S) (930000 + 400 * k + rmS aS0 S) 648 [(4, .int (nI (6 * k))), (3, .ref u), (2, .ref o), (1, .ref x), (0, .ref bs)] [] := by
  obtain ⟨h1, h2, h3, h4, h5, h7, h8, h9, h10, h11⟩ := hI
  have hk : k ≤ 511 := by omega
  refine g_aload_n hC dL_law_648 rfl 3 rfl (Or.inr ⟨_, rfl⟩) ?_
  refine g_aload_n hC dL_law_649 rfl 4 rfl (Or.inr ⟨_, rfl⟩) ?_
  refine g_iload hC dL_law_650 0 rfl ?_
  refine g_iconst hC dL_law_652 (v := nI 1) (by decide) ?_
  refine g_iaddN (a := 6 * k) (b := 1) hC dL_law_653 ?_
  refine g_sld hC hX hbl hbA ((6 * k) + 1) rfl (show (6 * k) + 1 < N by omega) (show N < 2 ^ 31 by omega) dL_law_654 ?_
  refine g_aload_n hC dL_law_655 rfl 4 rfl (Or.inr ⟨_, rfl⟩) ?_
  refine g_iload hC dL_law_656 0 rfl ?_
  refine g_iconst hC dL_law_658 (v := nI 2) (by decide) ?_
  refine g_iaddN (a := 6 * k) (b := 2) hC dL_law_659 ?_
  refine g_sld hC hX hbl hbA ((6 * k) + 2) rfl (show (6 * k) + 2 < N by omega) (show N < 2 ^ 31 by omega) dL_law_660 ?_
  refine g_aload_n hC dL_law_661 rfl 4 rfl (Or.inr ⟨_, rfl⟩) ?_
  refine g_iload hC dL_law_662 0 rfl ?_
  refine g_iconst hC dL_law_664 (v := nI 3) (by decide) ?_
  refine g_iaddN (a := 6 * k) (b := 3) hC dL_law_665 ?_
  refine g_sld hC hX hbl hbA ((6 * k) + 3) rfl (show (6 * k) + 3 < N by omega) (show N < 2 ^ 31 by omega) dL_law_666 ?_
  have hL9 : LI (k + 1) (s_cell S (xs ((6 * k) + 1)) (xs ((6 * k) + 2)) (xs ((6 * k) + 3))).2 := h1.st (q_cell (xs ((6 * k) + 1)) (xs ((6 * k) + 2)) (xs ((6 * k) + 3)))
  have hmo : mo S (s_cell S (xs ((6 * k) + 1)) (xs ((6 * k) + 2)) (xs ((6 * k) + 3))).2 := mo.qt (q_cell (xs ((6 * k) + 1)) (xs ((6 * k) + 2)) (xs ((6 * k) + 3)))
  have hra := rm_add h9 hmo
  have hbd := rm_bd hL9 (by omega)
  refine g_cls (As := [.int (xs ((6 * k) + 1)), .int (xs ((6 * k) + 2)), .int (xs ((6 * k) + 3))]) (st := []) hC 3 dL_law_667 h2 h3 h7 gL_law_X9_cell rfl (by decide +kernel) ⟨Nat.le_of_ble_eq_true rfl, Nat.le_of_ble_eq_true rfl⟩ rfl (Nat.le_of_ble_eq_true rfl) ⟨(show (40 + 3 * k + rmC aS0 S) + 0 ≤ 601024 by omega), (show (930000 + 400 * k + rmS aS0 S) + 0 ≤ 7293034 by omega)⟩ (c2 := (40 + 3 * k + rmC aS0 S)) (s2 := (930000 + 400 * k + rmS aS0 S)) rfl rfl ((y_cell h2 h1.1 x h3 (xs ((6 * k) + 1)) (xs ((6 * k) + 2)) (xs ((6 * k) + 3))).K gKS_K) (fun L1 f2 b1 hx1 hxo1 hM1 hd1 => ?_)
  show gW X vwCl 7 (L1 ++ (mL o ad ++ [u])) f2 (40 + 3 * k + rmC aS0 S) (930000 + 400 * k + rmS aS0 S) 670 [(4, .int (nI (6 * k))), (3, .ref u), (2, .ref o), (1, .ref x), (0, .ref bs)] [.long ((s_cell S (xs ((6 * k) + 1)) (xs ((6 * k) + 2)) (xs ((6 * k) + 3))).1)]
  have hFm2 : ∀ a, a ∈ mL o ad → f2 a = mW o ad cy S a := fun a ha => (hM1 a (List.mem_append_left _ ha)).trans (h4 a ha)
  refine g_aload_n hC dL_law_670 rfl 2 rfl (Or.inr ⟨_, rfl⟩) ?_
  refine g_aload_n hC dL_law_671 rfl 4 rfl (Or.inr ⟨_, rfl⟩) ?_
  refine g_iload hC dL_law_672 0 rfl ?_
  refine g_iconst hC dL_law_674 (v := nI 1) (by decide) ?_
  refine g_iaddN (a := 6 * k) (b := 1) hC dL_law_675 ?_
  refine g_sld hC hX hbl hbA ((6 * k) + 1) rfl (show (6 * k) + 1 < N by omega) (show N < 2 ^ 31 by omega) dL_law_676 ?_
  refine g_aload_n hC dL_law_677 rfl 4 rfl (Or.inr ⟨_, rfl⟩) ?_
  refine g_iload hC dL_law_678 0 rfl ?_
  refine g_iconst hC dL_law_680 (v := nI 2) (by decide) ?_
  refine g_iaddN (a := 6 * k) (b := 2) hC dL_law_681 ?_
  refine g_sld hC hX hbl hbA ((6 * k) + 2) rfl (show (6 * k) + 2 < N by omega) (show N < 2 ^ 31 by omega) dL_law_682 ?_
  refine g_aload_n hC dL_law_683 rfl 4 rfl (Or.inr ⟨_, rfl⟩) ?_
  refine g_iload hC dL_law_684 0 rfl ?_
  refine g_iconst hC dL_law_686 (v := nI 3) (by decide) ?_
  refine g_iaddN (a := 6 * k) (b := 3) hC dL_law_687 ?_
  refine g_sld hC hX hbl hbA ((6 * k) + 3) rfl (show (6 * k) + 3 < N by omega) (show N < 2 ^ 31 by omega) dL_law_688 ?_
  refine g_ref (As := [.int (xs ((6 * k) + 1)), .int (xs ((6 * k) + 2)), .int (xs ((6 * k) + 3))]) (st := [.long ((s_cell S (xs ((6 * k) + 1)) (xs ((6 * k) + 2)) (xs ((6 * k) + 3))).1)]) hC 3 dL_law_689 hFm2 gL_law_X10_cell rfl (by decide +kernel) ⟨Nat.le_of_ble_eq_true rfl, Nat.le_of_ble_eq_true rfl⟩ rfl (Nat.le_of_ble_eq_true rfl) ⟨(show (40 + 3 * k + rmC aS0 S) + 0 ≤ 601024 by omega), (show (930000 + 400 * k + rmS aS0 S) + 0 ≤ 7293034 by omega)⟩ (c2 := (40 + 3 * k + rmC aS0 S)) (s2 := (930000 + 400 * k + rmS aS0 S)) rfl rfl (c_cell gKS_ok h8 h1.1 (xs ((6 * k) + 1)) (xs ((6 * k) + 2)) (xs ((6 * k) + 3))) (fun f5 q1 q2 q3 => ?_)
  show gW X vwCl 7 (L1 ++ (mL o ad ++ [u])) f5 (40 + 3 * k + rmC aS0 S) (930000 + 400 * k + rmS aS0 S) 692 [(4, .int (nI (6 * k))), (3, .ref u), (2, .ref o), (1, .ref x), (0, .ref bs)] [.long ((s_cell S (xs ((6 * k) + 1)) (xs ((6 * k) + 2)) (xs ((6 * k) + 3))).1), .long ((s_cell S (xs ((6 * k) + 1)) (xs ((6 * k) + 2)) (xs ((6 * k) + 3))).1)]
  refine g_lcmp hC dL_law_692 ?_
  refine g_val (w := .int (nI 0)) (congrArg Value.int (lg_cmp_self _)) ?_
  refine g_ifN_eq (a := 0) (tgt := 1261) hC dL_law_693 (by decide) (by decide) (fun _ => ?_) (fun h => absurd rfl h)
  have hp23 : (s_cell S (xs ((6 * k) + 1)) (xs ((6 * k) + 2)) (xs ((6 * k) + 3))).2.1 23 = S.1 23 ∧ (s_cell S (xs ((6 * k) + 1)) (xs ((6 * k) + 2)) (xs ((6 * k) + 3))).2.1 24 = S.1 24 := by unfold s_cell; (repeat' split) <;> exact ⟨rfl, rfl⟩
  refine g_widen (c2 := 40 + 3 * (k + 1) + rmC aS0 (s_cell S (xs ((6 * k) + 1)) (xs ((6 * k) + 2)) (xs ((6 * k) + 3))).2) (s2 := 930000 + 400 * (k + 1) + rmS aS0 (s_cell S (xs ((6 * k) + 1)) (xs ((6 * k) + 2)) (xs ((6 * k) + 3))).2) (by omega) (by omega) ?_
  exact kk _ b1 L1 f5 ⟨hL9, hx1.cg q2, hxo1, q1, (q3.trans (hM1 u (by simp))).trans h5, hd1, h8, h9.tr hmo, by omega, by omega⟩
set_option maxRecDepth 20000 in
set_option maxHeartbeats 4000000 in
theorem lc_copy (hC : gC X l room_1 D vwCl (cyT cy) (gKS D cy adK adV) cL_law 7 wsL_law RL) (hX : va_X bs N xs X.2.1.1 X.2.1.1.heap) (hbl : bs < X.2.1.1.heap.size) (hbA : ¬ X.2.2.2.1 bs) (hN : N ≤ 3072) (hI : lwI cy x o u ad k S b Lx F gl) (h6 : 6 * k + 6 ≤ N) (kk : ∀ S' b' L' F', lwI cy x o u ad (k + 1) S' b' L' F' gl → gW X vwCl 7 (L' ++ (mL o ad ++ [u])) F' (40 + 3 * (k + 1) + rmC aS0 S') (930000 + 400 * (k + 1) + rmS aS0 S') 1261 [(4, .int (nI (6 * k))), (3, .ref u), (2, .ref o), (1, .ref x), (0, .ref bs)] []) : gW X vwCl 7 (Lx ++ (mL o ad ++ [u])) F (40 + 3 * k + rmC aS0 S) (930000 + 400 * k + rmS aS0 S) 698 [(4, .int (nI (6 * k))), (3, .ref u), (2, .ref o), (1, .ref x), (0, .ref bs)] [] := by
  obtain ⟨h1, h2, h3, h4, h5, h7, h8, h9, h10, h11⟩ := hI
  have hk : k ≤ 511 := by omega
  refine g_aload_n hC dL_law_698 rfl 3 rfl (Or.inr ⟨_, rfl⟩) ?_
  refine g_aload_n hC dL_law_699 rfl 4 rfl (Or.inr ⟨_, rfl⟩) ?_
  refine g_iload hC dL_law_700 0 rfl ?_
  refine g_iconst hC dL_law_702 (v := nI 1) (by decide) ?_
  refine g_iaddN (a := 6 * k) (b := 1) hC dL_law_703 ?_
  refine g_sld hC hX hbl hbA ((6 * k) + 1) rfl (show (6 * k) + 1 < N by omega) (show N < 2 ^ 31 by omega) dL_law_704 ?_
  refine g_aload_n hC dL_law_705 rfl 4 rfl (Or.inr ⟨_, rfl⟩) ?_
  refine g_iload hC dL_law_706 0 rfl ?_
  refine g_iconst hC dL_law_708 (v := nI 2) (by decide) ?_
  refine g_iaddN (a := 6 * k) (b := 2) hC dL_law_709 ?_
  refine g_sld hC hX hbl hbA ((6 * k) + 2) rfl (show (6 * k) + 2 < N by omega) (show N < 2 ^ 31 by omega) dL_law_710 ?_
  refine g_aload_n hC dL_law_711 rfl 4 rfl (Or.inr ⟨_, rfl⟩) ?_
  refine g_iload hC dL_law_712 0 rfl ?_
  refine g_iconst hC dL_law_714 (v := nI 3) (by decide) ?_
  refine g_iaddN (a := 6 * k) (b := 3) hC dL_law_715 ?_
  refine g_sld hC hX hbl hbA ((6 * k) + 3) rfl (show (6 * k) + 3 < N by omega) (show N < 2 ^ 31 by omega) dL_law_716 ?_
  refine g_aload_n hC dL_law_717 rfl 4 rfl (Or.inr ⟨_, rfl⟩) ?_
  refine g_iload hC dL_law_718 0 rfl ?_
  refine g_iconst hC dL_law_720 (v := nI 4) (by decide) ?_
  refine g_iaddN (a := 6 * k) (b := 4) hC dL_law_721 ?_
  refine g_sld hC hX hbl hbA ((6 * k) + 4) rfl (show (6 * k) + 4 < N by omega) (show N < 2 ^ 31 by omega) dL_law_722 ?_
  refine g_aload_n hC dL_law_723 rfl 4 rfl (Or.inr ⟨_, rfl⟩) ?_
  refine g_iload hC dL_law_724 0 rfl ?_
  refine g_iconst hC dL_law_726 (v := nI 5) (by decide) ?_
  refine g_iaddN (a := 6 * k) (b := 5) hC dL_law_727 ?_
  refine g_sld hC hX hbl hbA ((6 * k) + 5) rfl (show (6 * k) + 5 < N by omega) (show N < 2 ^ 31 by omega) dL_law_728 ?_
  have hL9 : LI (k + 1) (s_copy S (xs ((6 * k) + 1)) (xs ((6 * k) + 2)) (xs ((6 * k) + 3)) (xs ((6 * k) + 4)) (xs ((6 * k) + 5))).2 := l_copy h1 (xs ((6 * k) + 1)) (xs ((6 * k) + 2)) (xs ((6 * k) + 3)) (xs ((6 * k) + 4)) (xs ((6 * k) + 5))
  have hmo : mo S (s_copy S (xs ((6 * k) + 1)) (xs ((6 * k) + 2)) (xs ((6 * k) + 3)) (xs ((6 * k) + 4)) (xs ((6 * k) + 5))).2 := m_copy (xs ((6 * k) + 1)) (xs ((6 * k) + 2)) (xs ((6 * k) + 3)) (xs ((6 * k) + 4)) (xs ((6 * k) + 5))
  have hra := rm_add h9 hmo
  have hbd := rm_bd hL9 (by omega)
  refine g_cls (As := [.int (xs ((6 * k) + 1)), .int (xs ((6 * k) + 2)), .int (xs ((6 * k) + 3)), .int (xs ((6 * k) + 4)), .int (xs ((6 * k) + 5))]) (st := []) hC 5 dL_law_729 h2 h3 h7 gL_law_X9_copy rfl (by decide +kernel) ⟨Nat.le_of_ble_eq_true rfl, Nat.le_of_ble_eq_true rfl⟩ rfl (Nat.le_of_ble_eq_true rfl) ⟨(show (40 + 3 * k + rmC aS0 S) + 1 ≤ 601024 by omega), (show (930000 + 400 * k + rmS aS0 S) + 16 ≤ 7293034 by omega)⟩ (c2 := ((40 + 3 * k + rmC aS0 S) + 1)) (s2 := ((930000 + 400 * k + rmS aS0 S) + 16)) rfl rfl ((y_copy h2 h1.1 x h3 (xs ((6 * k) + 1)) (xs ((6 * k) + 2)) (xs ((6 * k) + 3)) (xs ((6 * k) + 4)) (xs ((6 * k) + 5))).K gKS_K) (fun L1 f2 b1 hx1 hxo1 hM1 hd1 => ?_)
  show gW X vwCl 7 (L1 ++ (mL o ad ++ [u])) f2 ((40 + 3 * k + rmC aS0 S) + 1) ((930000 + 400 * k + rmS aS0 S) + 16) 732 [(4, .int (nI (6 * k))), (3, .ref u), (2, .ref o), (1, .ref x), (0, .ref bs)] [.int ((s_copy S (xs ((6 * k) + 1)) (xs ((6 * k) + 2)) (xs ((6 * k) + 3)) (xs ((6 * k) + 4)) (xs ((6 * k) + 5))).1)]
  have hFm2 : ∀ a, a ∈ mL o ad → f2 a = mW o ad cy S a := fun a ha => (hM1 a (List.mem_append_left _ ha)).trans (h4 a ha)
  refine g_aload_n hC dL_law_732 rfl 2 rfl (Or.inr ⟨_, rfl⟩) ?_
  refine g_aload_n hC dL_law_733 rfl 4 rfl (Or.inr ⟨_, rfl⟩) ?_
  refine g_iload hC dL_law_734 0 rfl ?_
  refine g_iconst hC dL_law_736 (v := nI 1) (by decide) ?_
  refine g_iaddN (a := 6 * k) (b := 1) hC dL_law_737 ?_
  refine g_sld hC hX hbl hbA ((6 * k) + 1) rfl (show (6 * k) + 1 < N by omega) (show N < 2 ^ 31 by omega) dL_law_738 ?_
  refine g_aload_n hC dL_law_739 rfl 4 rfl (Or.inr ⟨_, rfl⟩) ?_
  refine g_iload hC dL_law_740 0 rfl ?_
  refine g_iconst hC dL_law_742 (v := nI 2) (by decide) ?_
  refine g_iaddN (a := 6 * k) (b := 2) hC dL_law_743 ?_
  refine g_sld hC hX hbl hbA ((6 * k) + 2) rfl (show (6 * k) + 2 < N by omega) (show N < 2 ^ 31 by omega) dL_law_744 ?_
  refine g_aload_n hC dL_law_745 rfl 4 rfl (Or.inr ⟨_, rfl⟩) ?_
  refine g_iload hC dL_law_746 0 rfl ?_
  refine g_iconst hC dL_law_748 (v := nI 3) (by decide) ?_
  refine g_iaddN (a := 6 * k) (b := 3) hC dL_law_749 ?_
  refine g_sld hC hX hbl hbA ((6 * k) + 3) rfl (show (6 * k) + 3 < N by omega) (show N < 2 ^ 31 by omega) dL_law_750 ?_
  refine g_aload_n hC dL_law_751 rfl 4 rfl (Or.inr ⟨_, rfl⟩) ?_
  refine g_iload hC dL_law_752 0 rfl ?_
  refine g_iconst hC dL_law_754 (v := nI 4) (by decide) ?_
  refine g_iaddN (a := 6 * k) (b := 4) hC dL_law_755 ?_
  refine g_sld hC hX hbl hbA ((6 * k) + 4) rfl (show (6 * k) + 4 < N by omega) (show N < 2 ^ 31 by omega) dL_law_756 ?_
  refine g_aload_n hC dL_law_757 rfl 4 rfl (Or.inr ⟨_, rfl⟩) ?_
  refine g_iload hC dL_law_758 0 rfl ?_
  refine g_iconst hC dL_law_760 (v := nI 5) (by decide) ?_
  refine g_iaddN (a := 6 * k) (b := 5) hC dL_law_761 ?_
  refine g_sld hC hX hbl hbA ((6 * k) + 5) rfl (show (6 * k) + 5 < N by omega) (show N < 2 ^ 31 by omega) dL_law_762 ?_
  refine g_ref (As := [.int (xs ((6 * k) + 1)), .int (xs ((6 * k) + 2)), .int (xs ((6 * k) + 3)), .int (xs ((6 * k) + 4)), .int (xs ((6 * k) + 5))]) (st := [.int ((s_copy S (xs ((6 * k) + 1)) (xs ((6 * k) + 2)) (xs ((6 * k) + 3)) (xs ((6 * k) + 4)) (xs ((6 * k) + 5))).1)]) hC 5 dL_law_763 hFm2 gL_law_X10_copy rfl (by decide +kernel) ⟨Nat.le_of_ble_eq_true rfl, Nat.le_of_ble_eq_true rfl⟩ rfl (Nat.le_of_ble_eq_true rfl) ⟨(show ((40 + 3 * k + rmC aS0 S) + 1) + 0 ≤ 601024 by omega), (show ((930000 + 400 * k + rmS aS0 S) + 16) + 0 ≤ 7293034 by omega)⟩ (c2 := ((40 + 3 * k + rmC aS0 S) + 1)) (s2 := ((930000 + 400 * k + rmS aS0 S) + 16)) rfl rfl (c_copy gKS_ok h8 h1.1 (xs ((6 * k) + 1)) (xs ((6 * k) + 2)) (xs ((6 * k) + 3)) (xs ((6 * k) + 4)) (xs ((6 * k) + 5))) (fun f5 q1 q2 q3 => ?_)
  show gW X vwCl 7 (L1 ++ (mL o ad ++ [u])) f5 ((40 + 3 * k + rmC aS0 S) + 1) ((930000 + 400 * k + rmS aS0 S) + 16) 766 [(4, .int (nI (6 * k))), (3, .ref u), (2, .ref o), (1, .ref x), (0, .ref bs)] [.int ((s_copy S (xs ((6 * k) + 1)) (xs ((6 * k) + 2)) (xs ((6 * k) + 3)) (xs ((6 * k) + 4)) (xs ((6 * k) + 5))).1), .int ((s_copy S (xs ((6 * k) + 1)) (xs ((6 * k) + 2)) (xs ((6 * k) + 3)) (xs ((6 * k) + 4)) (xs ((6 * k) + 5))).1)]
  refine g_icmp_eq (x := (s_copy S (xs ((6 * k) + 1)) (xs ((6 * k) + 2)) (xs ((6 * k) + 3)) (xs ((6 * k) + 4)) (xs ((6 * k) + 5))).1) (y := (s_copy S (xs ((6 * k) + 1)) (xs ((6 * k) + 2)) (xs ((6 * k) + 3)) (xs ((6 * k) + 4)) (xs ((6 * k) + 5))).1) (tgt := 1261) hC dL_law_766 (by decide) (fun _ => ?_) (fun h => absurd rfl h)
  have hp23 := p_copy (S := S) (xs ((6 * k) + 1)) (xs ((6 * k) + 2)) (xs ((6 * k) + 3)) (xs ((6 * k) + 4)) (xs ((6 * k) + 5))
  refine g_widen (c2 := 40 + 3 * (k + 1) + rmC aS0 (s_copy S (xs ((6 * k) + 1)) (xs ((6 * k) + 2)) (xs ((6 * k) + 3)) (xs ((6 * k) + 4)) (xs ((6 * k) + 5))).2) (s2 := 930000 + 400 * (k + 1) + rmS aS0 (s_copy S (xs ((6 * k) + 1)) (xs ((6 * k) + 2)) (xs ((6 * k) + 3)) (xs ((6 * k) + 4)) (xs ((6 * k) + 5))).2) (by omega) (by omega) ?_
  exact kk _ b1 L1 f5 ⟨hL9, hx1.cg q2, hxo1, q1, (q3.trans (hM1 u (by simp))).trans h5, hd1, h8, h9.tr hmo, by omega, by omega⟩
set_option maxRecDepth 20000 in
set_option maxHeartbeats 4000000 in
theorem lc_twin (hC : gC X l room_1 D vwCl (cyT cy) (gKS D cy adK adV) cL_law 7 wsL_law RL) (hX : va_X bs N xs X.2.1.1 X.2.1.1.heap) (hbl : bs < X.2.1.1.heap.size) (hbA : ¬ X.2.2.2.1 bs) (hN : N ≤ 3072) (hI : lwI cy x o u ad k S b Lx F gl) (h6 : 6 * k + 6 ≤ N) (kk : ∀ S' b' L' F', lwI cy x o u ad (k + 1) S' b' L' F' gl → gW X vwCl 7 (L' ++ (mL o ad ++ [u])) F' (40 + 3 * (k + 1) + rmC aS0 S') (930000 + 400 * (k + 1) + rmS aS0 S') 1261 [(4, .int (nI (6 * k))), (3, .ref u), (2, .ref o), (1, .ref x), (0, .ref bs)] []) : gW X vwCl 7 (Lx ++ (mL o ad ++ [u])) F (40 + 3 * k + rmC aS0 S) (930000 + 400 * k + rmS aS0 S) 771 [(4, .int (nI (6 * k))), (3, .ref u), (2, .ref o), (1, .ref x), (0, .ref bs)] [] := by
  obtain ⟨h1, h2, h3, h4, h5, h7, h8, h9, h10, h11⟩ := hI
  have hk : k ≤ 511 := by omega
  refine g_aload_n hC dL_law_771 rfl 3 rfl (Or.inr ⟨_, rfl⟩) ?_
  refine g_aload_n hC dL_law_772 rfl 4 rfl (Or.inr ⟨_, rfl⟩) ?_
  refine g_iload hC dL_law_773 0 rfl ?_
  refine g_iconst hC dL_law_775 (v := nI 1) (by decide) ?_
  refine g_iaddN (a := 6 * k) (b := 1) hC dL_law_776 ?_
  refine g_sld hC hX hbl hbA ((6 * k) + 1) rfl (show (6 * k) + 1 < N by omega) (show N < 2 ^ 31 by omega) dL_law_777 ?_
  refine g_aload_n hC dL_law_778 rfl 4 rfl (Or.inr ⟨_, rfl⟩) ?_
  refine g_iload hC dL_law_779 0 rfl ?_
  refine g_iconst hC dL_law_781 (v := nI 2) (by decide) ?_
  refine g_iaddN (a := 6 * k) (b := 2) hC dL_law_782 ?_
  refine g_sld hC hX hbl hbA ((6 * k) + 2) rfl (show (6 * k) + 2 < N by omega) (show N < 2 ^ 31 by omega) dL_law_783 ?_
  have hL9 : LI (k + 1) (s_twin S (xs ((6 * k) + 1)) (xs ((6 * k) + 2))).2 := l_twin h1 hk (xs ((6 * k) + 1)) (xs ((6 * k) + 2))
  have hmo : mo S (s_twin S (xs ((6 * k) + 1)) (xs ((6 * k) + 2))).2 := m_twin (xs ((6 * k) + 1)) (xs ((6 * k) + 2))
  have hra := rm_add h9 hmo
  have hbd := rm_bd hL9 (by omega)
  refine g_cls (As := [.int (xs ((6 * k) + 1)), .int (xs ((6 * k) + 2))]) (st := []) hC 2 dL_law_784 h2 h3 h7 gL_law_X9_twin rfl (by decide +kernel) ⟨Nat.le_of_ble_eq_true rfl, Nat.le_of_ble_eq_true rfl⟩ rfl (Nat.le_of_ble_eq_true rfl) ⟨(show (40 + 3 * k + rmC aS0 S) + 3 ≤ 601024 by omega), (show (930000 + 400 * k + rmS aS0 S) + 33 ≤ 7293034 by omega)⟩ (c2 := ((40 + 3 * k + rmC aS0 S) + 3)) (s2 := ((930000 + 400 * k + rmS aS0 S) + 33)) rfl rfl ((y_twin h2 h1.1 x h3 (xs ((6 * k) + 1)) (xs ((6 * k) + 2))).K gKS_K) (fun L1 f2 b1 hx1 hxo1 hM1 hd1 => ?_)
  show gW X vwCl 7 (L1 ++ (mL o ad ++ [u])) f2 ((40 + 3 * k + rmC aS0 S) + 3) ((930000 + 400 * k + rmS aS0 S) + 33) 787 [(4, .int (nI (6 * k))), (3, .ref u), (2, .ref o), (1, .ref x), (0, .ref bs)] [.int ((s_twin S (xs ((6 * k) + 1)) (xs ((6 * k) + 2))).1)]
  have hFm2 : ∀ a, a ∈ mL o ad → f2 a = mW o ad cy S a := fun a ha => (hM1 a (List.mem_append_left _ ha)).trans (h4 a ha)
  refine g_aload_n hC dL_law_787 rfl 2 rfl (Or.inr ⟨_, rfl⟩) ?_
  refine g_aload_n hC dL_law_788 rfl 4 rfl (Or.inr ⟨_, rfl⟩) ?_
  refine g_iload hC dL_law_789 0 rfl ?_
  refine g_iconst hC dL_law_791 (v := nI 1) (by decide) ?_
  refine g_iaddN (a := 6 * k) (b := 1) hC dL_law_792 ?_
  refine g_sld hC hX hbl hbA ((6 * k) + 1) rfl (show (6 * k) + 1 < N by omega) (show N < 2 ^ 31 by omega) dL_law_793 ?_
  refine g_aload_n hC dL_law_794 rfl 4 rfl (Or.inr ⟨_, rfl⟩) ?_
  refine g_iload hC dL_law_795 0 rfl ?_
  refine g_iconst hC dL_law_797 (v := nI 2) (by decide) ?_
  refine g_iaddN (a := 6 * k) (b := 2) hC dL_law_798 ?_
  refine g_sld hC hX hbl hbA ((6 * k) + 2) rfl (show (6 * k) + 2 < N by omega) (show N < 2 ^ 31 by omega) dL_law_799 ?_
  refine g_ref (As := [.int (xs ((6 * k) + 1)), .int (xs ((6 * k) + 2))]) (st := [.int ((s_twin S (xs ((6 * k) + 1)) (xs ((6 * k) + 2))).1)]) hC 2 dL_law_800 hFm2 gL_law_X10_twin rfl (by decide +kernel) ⟨Nat.le_of_ble_eq_true rfl, Nat.le_of_ble_eq_true rfl⟩ rfl (Nat.le_of_ble_eq_true rfl) ⟨(show ((40 + 3 * k + rmC aS0 S) + 3) + 0 ≤ 601024 by omega), (show ((930000 + 400 * k + rmS aS0 S) + 33) + 0 ≤ 7293034 by omega)⟩ (c2 := ((40 + 3 * k + rmC aS0 S) + 3)) (s2 := ((930000 + 400 * k + rmS aS0 S) + 33)) rfl rfl (c_twin gKS_ok h8 h1.1 (xs ((6 * k) + 1)) (xs ((6 * k) + 2))) (fun f5 q1 q2 q3 => ?_)
  show gW X vwCl 7 (L1 ++ (mL o ad ++ [u])) f5 ((40 + 3 * k + rmC aS0 S) + 3) ((930000 + 400 * k + rmS aS0 S) + 33) 803 [(4, .int (nI (6 * k))), (3, .ref u), (2, .ref o), (1, .ref x), (0, .ref bs)] [.int ((s_twin S (xs ((6 * k) + 1)) (xs ((6 * k) + 2))).1), .int ((s_twin S (xs ((6 * k) + 1)) (xs ((6 * k) + 2))).1)]
  refine g_icmp_eq (x := (s_twin S (xs ((6 * k) + 1)) (xs ((6 * k) + 2))).1) (y := (s_twin S (xs ((6 * k) + 1)) (xs ((6 * k) + 2))).1) (tgt := 1261) hC dL_law_803 (by decide) (fun _ => ?_) (fun h => absurd rfl h)
  have hp23 : (s_twin S (xs ((6 * k) + 1)) (xs ((6 * k) + 2))).2.1 23 = S.1 23 ∧ (s_twin S (xs ((6 * k) + 1)) (xs ((6 * k) + 2))).2.1 24 = S.1 24 := by unfold s_twin; (repeat' split) <;> exact ⟨rfl, rfl⟩
  refine g_widen (c2 := 40 + 3 * (k + 1) + rmC aS0 (s_twin S (xs ((6 * k) + 1)) (xs ((6 * k) + 2))).2) (s2 := 930000 + 400 * (k + 1) + rmS aS0 (s_twin S (xs ((6 * k) + 1)) (xs ((6 * k) + 2))).2) (by omega) (by omega) ?_
  exact kk _ b1 L1 f5 ⟨hL9, hx1.cg q2, hxo1, q1, (q3.trans (hM1 u (by simp))).trans h5, hd1, h8, h9.tr hmo, by omega, by omega⟩
set_option maxRecDepth 20000 in
set_option maxHeartbeats 4000000 in
theorem lc_like (hC : gC X l room_1 D vwCl (cyT cy) (gKS D cy adK adV) cL_law 7 wsL_law RL) (hX : va_X bs N xs X.2.1.1 X.2.1.1.heap) (hbl : bs < X.2.1.1.heap.size) (hbA : ¬ X.2.2.2.1 bs) (hN : N ≤ 3072) (hI : lwI cy x o u ad k S b Lx F gl) (h6 : 6 * k + 6 ≤ N) (kk : ∀ S' b' L' F', lwI cy x o u ad (k + 1) S' b' L' F' gl → gW X vwCl 7 (L' ++ (mL o ad ++ [u])) F' (40 + 3 * (k + 1) + rmC aS0 S') (930000 + 400 * (k + 1) + rmS aS0 S') 1261 [(4, .int (nI (6 * k))), (3, .ref u), (2, .ref o), (1, .ref x), (0, .ref bs)] []) : gW X vwCl 7 (Lx ++ (mL o ad ++ [u])) F (40 + 3 * k + rmC aS0 S) (930000 + 400 * k + rmS aS0 S) 808 [(4, .int (nI (6 * k))), (3, .ref u), (2, .ref o), (1, .ref x), (0, .ref bs)] [] := by
  obtain ⟨h1, h2, h3, h4, h5, h7, h8, h9, h10, h11⟩ := hI
  have hk : k ≤ 511 := by omega
  refine g_aload_n hC dL_law_808 rfl 3 rfl (Or.inr ⟨_, rfl⟩) ?_
  refine g_aload_n hC dL_law_809 rfl 4 rfl (Or.inr ⟨_, rfl⟩) ?_
  refine g_iload hC dL_law_810 0 rfl ?_
  refine g_iconst hC dL_law_812 (v := nI 1) (by decide) ?_
  refine g_iaddN (a := 6 * k) (b := 1) hC dL_law_813 ?_
  refine g_sld hC hX hbl hbA ((6 * k) + 1) rfl (show (6 * k) + 1 < N by omega) (show N < 2 ^ 31 by omega) dL_law_814 ?_
  refine g_aload_n hC dL_law_815 rfl 4 rfl (Or.inr ⟨_, rfl⟩) ?_
  refine g_iload hC dL_law_816 0 rfl ?_
  refine g_iconst hC dL_law_818 (v := nI 2) (by decide) ?_
  refine g_iaddN (a := 6 * k) (b := 2) hC dL_law_819 ?_
  refine g_sld hC hX hbl hbA ((6 * k) + 2) rfl (show (6 * k) + 2 < N by omega) (show N < 2 ^ 31 by omega) dL_law_820 ?_
  have hL9 : LI (k + 1) (s_like S (xs ((6 * k) + 1)) (xs ((6 * k) + 2))).2 := h1.st (q_like (xs ((6 * k) + 1)) (xs ((6 * k) + 2)))
  have hmo : mo S (s_like S (xs ((6 * k) + 1)) (xs ((6 * k) + 2))).2 := mo.qt (q_like (xs ((6 * k) + 1)) (xs ((6 * k) + 2)))
  have hra := rm_add h9 hmo
  have hbd := rm_bd hL9 (by omega)
  refine g_cls (As := [.int (xs ((6 * k) + 1)), .int (xs ((6 * k) + 2))]) (st := []) hC 2 dL_law_821 h2 h3 h7 gL_law_X9_like rfl (by decide +kernel) ⟨Nat.le_of_ble_eq_true rfl, Nat.le_of_ble_eq_true rfl⟩ rfl (Nat.le_of_ble_eq_true rfl) ⟨(show (40 + 3 * k + rmC aS0 S) + 0 ≤ 601024 by omega), (show (930000 + 400 * k + rmS aS0 S) + 0 ≤ 7293034 by omega)⟩ (c2 := (40 + 3 * k + rmC aS0 S)) (s2 := (930000 + 400 * k + rmS aS0 S)) rfl rfl ((y_like h2 h1.1 x h3 (xs ((6 * k) + 1)) (xs ((6 * k) + 2))).K gKS_K) (fun L1 f2 b1 hx1 hxo1 hM1 hd1 => ?_)
  show gW X vwCl 7 (L1 ++ (mL o ad ++ [u])) f2 (40 + 3 * k + rmC aS0 S) (930000 + 400 * k + rmS aS0 S) 824 [(4, .int (nI (6 * k))), (3, .ref u), (2, .ref o), (1, .ref x), (0, .ref bs)] [.int ((s_like S (xs ((6 * k) + 1)) (xs ((6 * k) + 2))).1)]
  have hFm2 : ∀ a, a ∈ mL o ad → f2 a = mW o ad cy S a := fun a ha => (hM1 a (List.mem_append_left _ ha)).trans (h4 a ha)
  refine g_aload_n hC dL_law_824 rfl 2 rfl (Or.inr ⟨_, rfl⟩) ?_
  refine g_aload_n hC dL_law_825 rfl 4 rfl (Or.inr ⟨_, rfl⟩) ?_
  refine g_iload hC dL_law_826 0 rfl ?_
  refine g_iconst hC dL_law_828 (v := nI 1) (by decide) ?_
  refine g_iaddN (a := 6 * k) (b := 1) hC dL_law_829 ?_
  refine g_sld hC hX hbl hbA ((6 * k) + 1) rfl (show (6 * k) + 1 < N by omega) (show N < 2 ^ 31 by omega) dL_law_830 ?_
  refine g_aload_n hC dL_law_831 rfl 4 rfl (Or.inr ⟨_, rfl⟩) ?_
  refine g_iload hC dL_law_832 0 rfl ?_
  refine g_iconst hC dL_law_834 (v := nI 2) (by decide) ?_
  refine g_iaddN (a := 6 * k) (b := 2) hC dL_law_835 ?_
  refine g_sld hC hX hbl hbA ((6 * k) + 2) rfl (show (6 * k) + 2 < N by omega) (show N < 2 ^ 31 by omega) dL_law_836 ?_
  refine g_ref (As := [.int (xs ((6 * k) + 1)), .int (xs ((6 * k) + 2))]) (st := [.int ((s_like S (xs ((6 * k) + 1)) (xs ((6 * k) + 2))).1)]) hC 2 dL_law_837 hFm2 gL_law_X10_like rfl (by decide +kernel) ⟨Nat.le_of_ble_eq_true rfl, Nat.le_of_ble_eq_true rfl⟩ rfl (Nat.le_of_ble_eq_true rfl) ⟨(show (40 + 3 * k + rmC aS0 S) + 0 ≤ 601024 by omega), (show (930000 + 400 * k + rmS aS0 S) + 0 ≤ 7293034 by omega)⟩ (c2 := (40 + 3 * k + rmC aS0 S)) (s2 := (930000 + 400 * k + rmS aS0 S)) rfl rfl (c_like gKS_ok h8 h1.1 (xs ((6 * k) + 1)) (xs ((6 * k) + 2))) (fun f5 q1 q2 q3 => ?_)
  show gW X vwCl 7 (L1 ++ (mL o ad ++ [u])) f5 (40 + 3 * k + rmC aS0 S) (930000 + 400 * k + rmS aS0 S) 840 [(4, .int (nI (6 * k))), (3, .ref u), (2, .ref o), (1, .ref x), (0, .ref bs)] [.int ((s_like S (xs ((6 * k) + 1)) (xs ((6 * k) + 2))).1), .int ((s_like S (xs ((6 * k) + 1)) (xs ((6 * k) + 2))).1)]
  refine g_icmp_eq (x := (s_like S (xs ((6 * k) + 1)) (xs ((6 * k) + 2))).1) (y := (s_like S (xs ((6 * k) + 1)) (xs ((6 * k) + 2))).1) (tgt := 1261) hC dL_law_840 (by decide) (fun _ => ?_) (fun h => absurd rfl h)
  have hp23 : (s_like S (xs ((6 * k) + 1)) (xs ((6 * k) + 2))).2.1 23 = S.1 23 ∧ (s_like S (xs ((6 * k) + 1)) (xs ((6 * k) + 2))).2.1 24 = S.1 24 := by unfold s_like; (repeat' split) <;> exact ⟨rfl, rfl⟩
  refine g_widen (c2 := 40 + 3 * (k + 1) + rmC aS0 (s_like S (xs ((6 * k) + 1)) (xs ((6 * k) + 2))).2) (s2 := 930000 + 400 * (k + 1) + rmS aS0 (s_like S (xs ((6 * k) + 1)) (xs ((6 * k) + 2))).2) (by omega) (by omega) ?_
  exact kk _ b1 L1 f5 ⟨hL9, hx1.cg q2, hxo1, q1, (q3.trans (hM1 u (by simp))).trans h5, hd1, h8, h9.tr hmo, by omega, by omega⟩
set_option maxRecDepth 20000 in
set_option maxHeartbeats 4000000 in
theorem lc_hash (hC : gC X l room_1 D vwCl (cyT cy) (gKS D cy adK adV) cL_law 7 wsL_law RL) (hX : va_X bs N xs X.2.1.1 X.2.1.1.heap) (hbl : bs < X.2.1.1.heap.size) (hbA : ¬ X.2.2.2.1 bs) (hN : N ≤ 3072) (hI : lwI cy x o u ad k S b Lx F gl) (h6 : 6 * k + 6 ≤ N) (kk : ∀ S' b' L' F', lwI cy x o u ad (k + 1) S' b' L' F' gl → gW X vwCl 7 (L' ++ (mL o ad ++ [u])) F' (40 + 3 * (k + 1) + rmC aS0 S') (930000 + 400 * (k + 1) + rmS aS0 S') 1261 [(4, .int (nI (6 * k))), (3, .ref u), (2, .ref o), (1, .ref x), (0, .ref bs)] []) : gW X vwCl 7 (Lx ++ (mL o ad ++ [u])) F (40 + 3 * k + rmC aS0 S) (930000 + 400 * k + rmS aS0 S) 845 [(4, .int (nI (6 * k))), (3, .ref u), (2, .ref o), (1, .ref x), (0, .ref bs)] [] := by
  obtain ⟨h1, h2, h3, h4, h5, h7, h8, h9, h10, h11⟩ := hI
  have hk : k ≤ 511 := by omega
  refine g_aload_n hC dL_law_845 rfl 3 rfl (Or.inr ⟨_, rfl⟩) ?_
  refine g_aload_n hC dL_law_846 rfl 4 rfl (Or.inr ⟨_, rfl⟩) ?_
  refine g_iload hC dL_law_847 0 rfl ?_
  refine g_iconst hC dL_law_849 (v := nI 1) (by decide) ?_
  refine g_iaddN (a := 6 * k) (b := 1) hC dL_law_850 ?_
  refine g_sld hC hX hbl hbA ((6 * k) + 1) rfl (show (6 * k) + 1 < N by omega) (show N < 2 ^ 31 by omega) dL_law_851 ?_
  have hL9 : LI (k + 1) (s_hash S (xs ((6 * k) + 1))).2 := h1.st (q_hash (xs ((6 * k) + 1)))
  have hmo : mo S (s_hash S (xs ((6 * k) + 1))).2 := mo.qt (q_hash (xs ((6 * k) + 1)))
  have hra := rm_add h9 hmo
  have hbd := rm_bd hL9 (by omega)
  refine g_cls (As := [.int (xs ((6 * k) + 1))]) (st := []) hC 1 dL_law_852 h2 h3 h7 gL_law_X9_hash rfl (by decide +kernel) ⟨Nat.le_of_ble_eq_true rfl, Nat.le_of_ble_eq_true rfl⟩ rfl (Nat.le_of_ble_eq_true rfl) ⟨(show (40 + 3 * k + rmC aS0 S) + 0 ≤ 601024 by omega), (show (930000 + 400 * k + rmS aS0 S) + 0 ≤ 7293034 by omega)⟩ (c2 := (40 + 3 * k + rmC aS0 S)) (s2 := (930000 + 400 * k + rmS aS0 S)) rfl rfl ((y_hash h2 h1.1 x h3 (xs ((6 * k) + 1))).K gKS_K) (fun L1 f2 b1 hx1 hxo1 hM1 hd1 => ?_)
  show gW X vwCl 7 (L1 ++ (mL o ad ++ [u])) f2 (40 + 3 * k + rmC aS0 S) (930000 + 400 * k + rmS aS0 S) 855 [(4, .int (nI (6 * k))), (3, .ref u), (2, .ref o), (1, .ref x), (0, .ref bs)] [.long ((s_hash S (xs ((6 * k) + 1))).1)]
  have hFm2 : ∀ a, a ∈ mL o ad → f2 a = mW o ad cy S a := fun a ha => (hM1 a (List.mem_append_left _ ha)).trans (h4 a ha)
  refine g_aload_n hC dL_law_855 rfl 2 rfl (Or.inr ⟨_, rfl⟩) ?_
  refine g_aload_n hC dL_law_856 rfl 4 rfl (Or.inr ⟨_, rfl⟩) ?_
  refine g_iload hC dL_law_857 0 rfl ?_
  refine g_iconst hC dL_law_859 (v := nI 1) (by decide) ?_
  refine g_iaddN (a := 6 * k) (b := 1) hC dL_law_860 ?_
  refine g_sld hC hX hbl hbA ((6 * k) + 1) rfl (show (6 * k) + 1 < N by omega) (show N < 2 ^ 31 by omega) dL_law_861 ?_
  refine g_ref (As := [.int (xs ((6 * k) + 1))]) (st := [.long ((s_hash S (xs ((6 * k) + 1))).1)]) hC 1 dL_law_862 hFm2 gL_law_X10_hash rfl (by decide +kernel) ⟨Nat.le_of_ble_eq_true rfl, Nat.le_of_ble_eq_true rfl⟩ rfl (Nat.le_of_ble_eq_true rfl) ⟨(show (40 + 3 * k + rmC aS0 S) + 0 ≤ 601024 by omega), (show (930000 + 400 * k + rmS aS0 S) + 0 ≤ 7293034 by omega)⟩ (c2 := (40 + 3 * k + rmC aS0 S)) (s2 := (930000 + 400 * k + rmS aS0 S)) rfl rfl (c_hash gKS_ok h8 h1.1 (xs ((6 * k) + 1))) (fun f5 q1 q2 q3 => ?_)
  show gW X vwCl 7 (L1 ++ (mL o ad ++ [u])) f5 (40 + 3 * k + rmC aS0 S) (930000 + 400 * k + rmS aS0 S) 865 [(4, .int (nI (6 * k))), (3, .ref u), (2, .ref o), (1, .ref x), (0, .ref bs)] [.long ((s_hash S (xs ((6 * k) + 1))).1), .long ((s_hash S (xs ((6 * k) + 1))).1)]
  refine g_lcmp hC dL_law_865 ?_
  refine g_val (w := .int (nI 0)) (congrArg Value.int (lg_cmp_self _)) ?_
  refine g_ifN_eq (a := 0) (tgt := 1261) hC dL_law_866 (by decide) (by decide) (fun _ => ?_) (fun h => absurd rfl h)
  have hp23 : (s_hash S (xs ((6 * k) + 1))).2.1 23 = S.1 23 ∧ (s_hash S (xs ((6 * k) + 1))).2.1 24 = S.1 24 := by unfold s_hash; (repeat' split) <;> exact ⟨rfl, rfl⟩
  refine g_widen (c2 := 40 + 3 * (k + 1) + rmC aS0 (s_hash S (xs ((6 * k) + 1))).2) (s2 := 930000 + 400 * (k + 1) + rmS aS0 (s_hash S (xs ((6 * k) + 1))).2) (by omega) (by omega) ?_
  exact kk _ b1 L1 f5 ⟨hL9, hx1.cg q2, hxo1, q1, (q3.trans (hM1 u (by simp))).trans h5, hd1, h8, h9.tr hmo, by omega, by omega⟩
set_option maxRecDepth 20000 in
set_option maxHeartbeats 4000000 in
theorem lc_order (hC : gC X l room_1 D vwCl (cyT cy) (gKS D cy adK adV) cL_law 7 wsL_law RL) (hX : va_X bs N xs X.2.1.1 X.2.1.1.heap) (hbl : bs < X.2.1.1.heap.size) (hbA : ¬ X.2.2.2.1 bs) (hN : N ≤ 3072) (hI : lwI cy x o u ad k S b Lx F gl) (h6 : 6 * k + 6 ≤ N) (kk : ∀ S' b' L' F', lwI cy x o u ad (k + 1) S' b' L' F' gl → gW X vwCl 7 (L' ++ (mL o ad ++ [u])) F' (40 + 3 * (k + 1) + rmC aS0 S') (930000 + 400 * (k + 1) + rmS aS0 S') 1261 [(4, .int (nI (6 * k))), (3, .ref u), (2, .ref o), (1, .ref x), (0, .ref bs)] []) : gW X vwCl 7 (Lx ++ (mL o ad ++ [u])) F (40 + 3 * k + rmC aS0 S) (930000 + 400 * k + rmS aS0 S) 871 [(4, .int (nI (6 * k))), (3, .ref u), (2, .ref o), (1, .ref x), (0, .ref bs)] [] := by
  obtain ⟨h1, h2, h3, h4, h5, h7, h8, h9, h10, h11⟩ := hI
  have hk : k ≤ 511 := by omega
  refine g_aload_n hC dL_law_871 rfl 3 rfl (Or.inr ⟨_, rfl⟩) ?_
  refine g_aload_n hC dL_law_872 rfl 4 rfl (Or.inr ⟨_, rfl⟩) ?_
  refine g_iload hC dL_law_873 0 rfl ?_
  refine g_iconst hC dL_law_875 (v := nI 1) (by decide) ?_
  refine g_iaddN (a := 6 * k) (b := 1) hC dL_law_876 ?_
  refine g_sld hC hX hbl hbA ((6 * k) + 1) rfl (show (6 * k) + 1 < N by omega) (show N < 2 ^ 31 by omega) dL_law_877 ?_
  refine g_aload_n hC dL_law_878 rfl 4 rfl (Or.inr ⟨_, rfl⟩) ?_
  refine g_iload hC dL_law_879 0 rfl ?_
  refine g_iconst hC dL_law_881 (v := nI 2) (by decide) ?_
  refine g_iaddN (a := 6 * k) (b := 2) hC dL_law_882 ?_
  refine g_sld hC hX hbl hbA ((6 * k) + 2) rfl (show (6 * k) + 2 < N by omega) (show N < 2 ^ 31 by omega) dL_law_883 ?_
  have hL9 : LI (k + 1) (s_order S (xs ((6 * k) + 1)) (xs ((6 * k) + 2))).2 := h1.st (q_order (xs ((6 * k) + 1)) (xs ((6 * k) + 2)))
  have hmo : mo S (s_order S (xs ((6 * k) + 1)) (xs ((6 * k) + 2))).2 := mo.qt (q_order (xs ((6 * k) + 1)) (xs ((6 * k) + 2)))
  have hra := rm_add h9 hmo
  have hbd := rm_bd hL9 (by omega)
  refine g_cls (As := [.int (xs ((6 * k) + 1)), .int (xs ((6 * k) + 2))]) (st := []) hC 2 dL_law_884 h2 h3 h7 gL_law_X9_order rfl (by decide +kernel) ⟨Nat.le_of_ble_eq_true rfl, Nat.le_of_ble_eq_true rfl⟩ rfl (Nat.le_of_ble_eq_true rfl) ⟨(show (40 + 3 * k + rmC aS0 S) + 0 ≤ 601024 by omega), (show (930000 + 400 * k + rmS aS0 S) + 0 ≤ 7293034 by omega)⟩ (c2 := (40 + 3 * k + rmC aS0 S)) (s2 := (930000 + 400 * k + rmS aS0 S)) rfl rfl ((y_order h2 h1.1 x h3 (xs ((6 * k) + 1)) (xs ((6 * k) + 2))).K gKS_K) (fun L1 f2 b1 hx1 hxo1 hM1 hd1 => ?_)
  show gW X vwCl 7 (L1 ++ (mL o ad ++ [u])) f2 (40 + 3 * k + rmC aS0 S) (930000 + 400 * k + rmS aS0 S) 887 [(4, .int (nI (6 * k))), (3, .ref u), (2, .ref o), (1, .ref x), (0, .ref bs)] [.int ((s_order S (xs ((6 * k) + 1)) (xs ((6 * k) + 2))).1)]
  have hFm2 : ∀ a, a ∈ mL o ad → f2 a = mW o ad cy S a := fun a ha => (hM1 a (List.mem_append_left _ ha)).trans (h4 a ha)
  refine g_aload_n hC dL_law_887 rfl 2 rfl (Or.inr ⟨_, rfl⟩) ?_
  refine g_aload_n hC dL_law_888 rfl 4 rfl (Or.inr ⟨_, rfl⟩) ?_
  refine g_iload hC dL_law_889 0 rfl ?_
  refine g_iconst hC dL_law_891 (v := nI 1) (by decide) ?_
  refine g_iaddN (a := 6 * k) (b := 1) hC dL_law_892 ?_
  refine g_sld hC hX hbl hbA ((6 * k) + 1) rfl (show (6 * k) + 1 < N by omega) (show N < 2 ^ 31 by omega) dL_law_893 ?_
  refine g_aload_n hC dL_law_894 rfl 4 rfl (Or.inr ⟨_, rfl⟩) ?_
  refine g_iload hC dL_law_895 0 rfl ?_
  refine g_iconst hC dL_law_897 (v := nI 2) (by decide) ?_
  refine g_iaddN (a := 6 * k) (b := 2) hC dL_law_898 ?_
  refine g_sld hC hX hbl hbA ((6 * k) + 2) rfl (show (6 * k) + 2 < N by omega) (show N < 2 ^ 31 by omega) dL_law_899 ?_
  refine g_ref (As := [.int (xs ((6 * k) + 1)), .int (xs ((6 * k) + 2))]) (st := [.int ((s_order S (xs ((6 * k) + 1)) (xs ((6 * k) + 2))).1)]) hC 2 dL_law_900 hFm2 gL_law_X10_order rfl (by decide +kernel) ⟨Nat.le_of_ble_eq_true rfl, Nat.le_of_ble_eq_true rfl⟩ rfl (Nat.le_of_ble_eq_true rfl) ⟨(show (40 + 3 * k + rmC aS0 S) + 0 ≤ 601024 by omega), (show (930000 + 400 * k + rmS aS0 S) + 0 ≤ 7293034 by omega)⟩ (c2 := (40 + 3 * k + rmC aS0 S)) (s2 := (930000 + 400 * k + rmS aS0 S)) rfl rfl (c_order gKS_ok h8 h1.1 (xs ((6 * k) + 1)) (xs ((6 * k) + 2))) (fun f5 q1 q2 q3 => ?_)
  show gW X vwCl 7 (L1 ++ (mL o ad ++ [u])) f5 (40 + 3 * k + rmC aS0 S) (930000 + 400 * k + rmS aS0 S) 903 [(4, .int (nI (6 * k))), (3, .ref u), (2, .ref o), (1, .ref x), (0, .ref bs)] [.int ((s_order S (xs ((6 * k) + 1)) (xs ((6 * k) + 2))).1), .int ((s_order S (xs ((6 * k) + 1)) (xs ((6 * k) + 2))).1)]
  refine g_icmp_eq (x := (s_order S (xs ((6 * k) + 1)) (xs ((6 * k) + 2))).1) (y := (s_order S (xs ((6 * k) + 1)) (xs ((6 * k) + 2))).1) (tgt := 1261) hC dL_law_903 (by decide) (fun _ => ?_) (fun h => absurd rfl h)
  have hp23 : (s_order S (xs ((6 * k) + 1)) (xs ((6 * k) + 2))).2.1 23 = S.1 23 ∧ (s_order S (xs ((6 * k) + 1)) (xs ((6 * k) + 2))).2.1 24 = S.1 24 := by unfold s_order; (repeat' split) <;> exact ⟨rfl, rfl⟩
  refine g_widen (c2 := 40 + 3 * (k + 1) + rmC aS0 (s_order S (xs ((6 * k) + 1)) (xs ((6 * k) + 2))).2) (s2 := 930000 + 400 * (k + 1) + rmS aS0 (s_order S (xs ((6 * k) + 1)) (xs ((6 * k) + 2))).2) (by omega) (by omega) ?_
  exact kk _ b1 L1 f5 ⟨hL9, hx1.cg q2, hxo1, q1, (q3.trans (hM1 u (by simp))).trans h5, hd1, h8, h9.tr hmo, by omega, by omega⟩
set_option maxRecDepth 20000 in
set_option maxHeartbeats 4000000 in
theorem lc_named (hC : gC X l room_1 D vwCl (cyT cy) (gKS D cy adK adV) cL_law 7 wsL_law RL) (hX : va_X bs N xs X.2.1.1 X.2.1.1.heap) (hbl : bs < X.2.1.1.heap.size) (hbA : ¬ X.2.2.2.1 bs) (hN : N ≤ 3072) (hI : lwI cy x o u ad k S b Lx F gl) (h6 : 6 * k + 6 ≤ N) (kk : ∀ S' b' L' F', lwI cy x o u ad (k + 1) S' b' L' F' gl → gW X vwCl 7 (L' ++ (mL o ad ++ [u])) F' (40 + 3 * (k + 1) + rmC aS0 S') (930000 + 400 * (k + 1) + rmS aS0 S') 1261 [(4, .int (nI (6 * k))), (3, .ref u), (2, .ref o), (1, .ref x), (0, .ref bs)] []) : gW X vwCl 7 (Lx ++ (mL o ad ++ [u])) F (40 + 3 * k + rmC aS0 S) (930000 + 400 * k + rmS aS0 S) 908 [(4, .int (nI (6 * k))), (3, .ref u), (2, .ref o), (1, .ref x), (0, .ref bs)] [] := by
  obtain ⟨h1, h2, h3, h4, h5, h7, h8, h9, h10, h11⟩ := hI
  have hk : k ≤ 511 := by omega
  refine g_aload_n hC dL_law_908 rfl 3 rfl (Or.inr ⟨_, rfl⟩) ?_
  refine g_aload_n hC dL_law_909 rfl 4 rfl (Or.inr ⟨_, rfl⟩) ?_
  refine g_iload hC dL_law_910 0 rfl ?_
  refine g_iconst hC dL_law_912 (v := nI 1) (by decide) ?_
  refine g_iaddN (a := 6 * k) (b := 1) hC dL_law_913 ?_
  refine g_sld hC hX hbl hbA ((6 * k) + 1) rfl (show (6 * k) + 1 < N by omega) (show N < 2 ^ 31 by omega) dL_law_914 ?_
  have hL9 : LI (k + 1) (s_named S (xs ((6 * k) + 1))).2 := h1.st (q_named (xs ((6 * k) + 1)))
  have hmo : mo S (s_named S (xs ((6 * k) + 1))).2 := mo.qt (q_named (xs ((6 * k) + 1)))
  have hra := rm_add h9 hmo
  have hbd := rm_bd hL9 (by omega)
  refine g_cls (As := [.int (xs ((6 * k) + 1))]) (st := []) hC 1 dL_law_915 h2 h3 h7 gL_law_X9_named rfl (by decide +kernel) ⟨Nat.le_of_ble_eq_true rfl, Nat.le_of_ble_eq_true rfl⟩ rfl (Nat.le_of_ble_eq_true rfl) ⟨(show (40 + 3 * k + rmC aS0 S) + 0 ≤ 601024 by omega), (show (930000 + 400 * k + rmS aS0 S) + 0 ≤ 7293034 by omega)⟩ (c2 := (40 + 3 * k + rmC aS0 S)) (s2 := (930000 + 400 * k + rmS aS0 S)) rfl rfl (y_named h2 h1.1 x h3 (xs ((6 * k) + 1))) (fun L1 f2 b1 hx1 hxo1 hM1 hd1 => ?_)
  show gW X vwCl 7 (L1 ++ (mL o ad ++ [u])) f2 (40 + 3 * k + rmC aS0 S) (930000 + 400 * k + rmS aS0 S) 918 [(4, .int (nI (6 * k))), (3, .ref u), (2, .ref o), (1, .ref x), (0, .ref bs)] [.int ((s_named S (xs ((6 * k) + 1))).1)]
  have hFm2 : ∀ a, a ∈ mL o ad → f2 a = mW o ad cy S a := fun a ha => (hM1 a (List.mem_append_left _ ha)).trans (h4 a ha)
  refine g_aload_n hC dL_law_918 rfl 2 rfl (Or.inr ⟨_, rfl⟩) ?_
  refine g_aload_n hC dL_law_919 rfl 4 rfl (Or.inr ⟨_, rfl⟩) ?_
  refine g_iload hC dL_law_920 0 rfl ?_
  refine g_iconst hC dL_law_922 (v := nI 1) (by decide) ?_
  refine g_iaddN (a := 6 * k) (b := 1) hC dL_law_923 ?_
  refine g_sld hC hX hbl hbA ((6 * k) + 1) rfl (show (6 * k) + 1 < N by omega) (show N < 2 ^ 31 by omega) dL_law_924 ?_
  refine g_ref (As := [.int (xs ((6 * k) + 1))]) (st := [.int ((s_named S (xs ((6 * k) + 1))).1)]) hC 1 dL_law_925 hFm2 gL_law_X10_named rfl (by decide +kernel) ⟨Nat.le_of_ble_eq_true rfl, Nat.le_of_ble_eq_true rfl⟩ rfl (Nat.le_of_ble_eq_true rfl) ⟨(show (40 + 3 * k + rmC aS0 S) + 0 ≤ 601024 by omega), (show (930000 + 400 * k + rmS aS0 S) + 0 ≤ 7293034 by omega)⟩ (c2 := (40 + 3 * k + rmC aS0 S)) (s2 := (930000 + 400 * k + rmS aS0 S)) rfl rfl (c_named gKS_ok h8 h1.1 (xs ((6 * k) + 1))) (fun f5 q1 q2 q3 => ?_)
  show gW X vwCl 7 (L1 ++ (mL o ad ++ [u])) f5 (40 + 3 * k + rmC aS0 S) (930000 + 400 * k + rmS aS0 S) 928 [(4, .int (nI (6 * k))), (3, .ref u), (2, .ref o), (1, .ref x), (0, .ref bs)] [.int ((s_named S (xs ((6 * k) + 1))).1), .int ((s_named S (xs ((6 * k) + 1))).1)]
  refine g_icmp_eq (x := (s_named S (xs ((6 * k) + 1))).1) (y := (s_named S (xs ((6 * k) + 1))).1) (tgt := 1261) hC dL_law_928 (by decide) (fun _ => ?_) (fun h => absurd rfl h)
  have hp23 : (s_named S (xs ((6 * k) + 1))).2.1 23 = S.1 23 ∧ (s_named S (xs ((6 * k) + 1))).2.1 24 = S.1 24 := by unfold s_named; (repeat' split) <;> exact ⟨rfl, rfl⟩
  refine g_widen (c2 := 40 + 3 * (k + 1) + rmC aS0 (s_named S (xs ((6 * k) + 1))).2) (s2 := 930000 + 400 * (k + 1) + rmS aS0 (s_named S (xs ((6 * k) + 1))).2) (by omega) (by omega) ?_
  exact kk _ b1 L1 f5 ⟨hL9, hx1.cg q2, hxo1, q1, (q3.trans (hM1 u (by simp))).trans h5, hd1, h8, h9.tr hmo, by omega, by omega⟩
set_option maxRecDepth 20000 in
set_option maxHeartbeats 4000000 in
theorem lc_add (hC : gC X l room_1 D vwCl (cyT cy) (gKS D cy adK adV) cL_law 7 wsL_law RL) (hX : va_X bs N xs X.2.1.1 X.2.1.1.heap) (hbl : bs < X.2.1.1.heap.size) (hbA : ¬ X.2.2.2.1 bs) (hN : N ≤ 3072) (hI : lwI cy x o u ad k S b Lx F gl) (h6 : 6 * k + 6 ≤ N) (kk : ∀ S' b' L' F', lwI cy x o u ad (k + 1) S' b' L' F' gl → gW X vwCl 7 (L' ++ (mL o ad ++ [u])) F' (40 + 3 * (k + 1) + rmC aS0 S') (930000 + 400 * (k + 1) + rmS aS0 S') 1261 [(4, .int (nI (6 * k))), (3, .ref u), (2, .ref o), (1, .ref x), (0, .ref bs)] []) : gW X vwCl 7 (Lx ++ (mL o ad ++ [u])) F (40 + 3 * k + rmC aS0 S) (930000 + 400 * k + rmS aS0 S) 933 [(4, .int (nI (6 * k))), (3, .ref u), (2, .ref o), (1, .ref x), (0, .ref bs)] [] := by
  obtain ⟨h1, h2, h3, h4, h5, h7, h8, h9, h10, h11⟩ := hI
  have hk : k ≤ 511 := by omega
  refine g_aload_n hC dL_law_933 rfl 3 rfl (Or.inr ⟨_, rfl⟩) ?_
  refine g_aload_n hC dL_law_934 rfl 4 rfl (Or.inr ⟨_, rfl⟩) ?_
  refine g_iload hC dL_law_935 0 rfl ?_
  refine g_iconst hC dL_law_937 (v := nI 1) (by decide) ?_
  refine g_iaddN (a := 6 * k) (b := 1) hC dL_law_938 ?_
  refine g_sld hC hX hbl hbA ((6 * k) + 1) rfl (show (6 * k) + 1 < N by omega) (show N < 2 ^ 31 by omega) dL_law_939 ?_
  refine g_aload_n hC dL_law_940 rfl 4 rfl (Or.inr ⟨_, rfl⟩) ?_
  refine g_iload hC dL_law_941 0 rfl ?_
  refine g_iconst hC dL_law_943 (v := nI 2) (by decide) ?_
  refine g_iaddN (a := 6 * k) (b := 2) hC dL_law_944 ?_
  refine g_sld hC hX hbl hbA ((6 * k) + 2) rfl (show (6 * k) + 2 < N by omega) (show N < 2 ^ 31 by omega) dL_law_945 ?_
  have hL9 : LI (k + 1) (s_add S (xs ((6 * k) + 1)) (xs ((6 * k) + 2))).2 := l_add h1 hk (xs ((6 * k) + 1)) (xs ((6 * k) + 2))
  have hmo : mo S (s_add S (xs ((6 * k) + 1)) (xs ((6 * k) + 2))).2 := m_add (xs ((6 * k) + 1)) (xs ((6 * k) + 2))
  have hra := rm_add h9 hmo
  have hbd := rm_bd hL9 (by omega)
  have hb4 := h1.b4 (by omega)
  have hpo := h1.pool
  refine g_cls (As := [.int (xs ((6 * k) + 1)), .int (xs ((6 * k) + 2))]) (st := []) hC 2 dL_law_946 h2 h3 h7 gL_law_X9_add rfl (by decide +kernel) ⟨Nat.le_of_ble_eq_true rfl, Nat.le_of_ble_eq_true rfl⟩ rfl (Nat.le_of_ble_eq_true rfl) ⟨(show (40 + 3 * k + rmC aS0 S) + (rmC S (s_add S (xs ((6 * k) + 1)) (xs ((6 * k) + 2))).2) ≤ 601024 by omega), (show (930000 + 400 * k + rmS aS0 S) + (rmS S (s_add S (xs ((6 * k) + 1)) (xs ((6 * k) + 2))).2) ≤ 7293034 by omega)⟩ (c2 := ((40 + 3 * k + rmC aS0 S) + (rmC S (s_add S (xs ((6 * k) + 1)) (xs ((6 * k) + 2))).2))) (s2 := ((930000 + 400 * k + rmS aS0 S) + (rmS S (s_add S (xs ((6 * k) + 1)) (xs ((6 * k) + 2))).2))) rfl rfl ((y_add h2 h1.1 x h3 (by omega) (by omega) (xs ((6 * k) + 1)) (xs ((6 * k) + 2))).K gKS_K) (fun L1 f2 b1 hx1 hxo1 hM1 hd1 => ?_)
  show gW X vwCl 7 (L1 ++ (mL o ad ++ [u])) f2 ((40 + 3 * k + rmC aS0 S) + (rmC S (s_add S (xs ((6 * k) + 1)) (xs ((6 * k) + 2))).2)) ((930000 + 400 * k + rmS aS0 S) + (rmS S (s_add S (xs ((6 * k) + 1)) (xs ((6 * k) + 2))).2)) 949 [(4, .int (nI (6 * k))), (3, .ref u), (2, .ref o), (1, .ref x), (0, .ref bs)] [.int ((s_add S (xs ((6 * k) + 1)) (xs ((6 * k) + 2))).1)]
  have hFm2 : ∀ a, a ∈ mL o ad → f2 a = mW o ad cy S a := fun a ha => (hM1 a (List.mem_append_left _ ha)).trans (h4 a ha)
  refine g_aload_n hC dL_law_949 rfl 2 rfl (Or.inr ⟨_, rfl⟩) ?_
  refine g_aload_n hC dL_law_950 rfl 4 rfl (Or.inr ⟨_, rfl⟩) ?_
  refine g_iload hC dL_law_951 0 rfl ?_
  refine g_iconst hC dL_law_953 (v := nI 1) (by decide) ?_
  refine g_iaddN (a := 6 * k) (b := 1) hC dL_law_954 ?_
  refine g_sld hC hX hbl hbA ((6 * k) + 1) rfl (show (6 * k) + 1 < N by omega) (show N < 2 ^ 31 by omega) dL_law_955 ?_
  refine g_aload_n hC dL_law_956 rfl 4 rfl (Or.inr ⟨_, rfl⟩) ?_
  refine g_iload hC dL_law_957 0 rfl ?_
  refine g_iconst hC dL_law_959 (v := nI 2) (by decide) ?_
  refine g_iaddN (a := 6 * k) (b := 2) hC dL_law_960 ?_
  refine g_sld hC hX hbl hbA ((6 * k) + 2) rfl (show (6 * k) + 2 < N by omega) (show N < 2 ^ 31 by omega) dL_law_961 ?_
  refine g_ref (As := [.int (xs ((6 * k) + 1)), .int (xs ((6 * k) + 2))]) (st := [.int ((s_add S (xs ((6 * k) + 1)) (xs ((6 * k) + 2))).1)]) hC 2 dL_law_962 hFm2 gL_law_X10_add rfl (by decide +kernel) ⟨Nat.le_of_ble_eq_true rfl, Nat.le_of_ble_eq_true rfl⟩ rfl (Nat.le_of_ble_eq_true rfl) ⟨(show ((40 + 3 * k + rmC aS0 S) + (rmC S (s_add S (xs ((6 * k) + 1)) (xs ((6 * k) + 2))).2)) + 0 ≤ 601024 by omega), (show ((930000 + 400 * k + rmS aS0 S) + (rmS S (s_add S (xs ((6 * k) + 1)) (xs ((6 * k) + 2))).2)) + 0 ≤ 7293034 by omega)⟩ (c2 := ((40 + 3 * k + rmC aS0 S) + (rmC S (s_add S (xs ((6 * k) + 1)) (xs ((6 * k) + 2))).2))) (s2 := ((930000 + 400 * k + rmS aS0 S) + (rmS S (s_add S (xs ((6 * k) + 1)) (xs ((6 * k) + 2))).2))) rfl rfl (c_add gKS_ok h8 h1.1 (xs ((6 * k) + 1)) (xs ((6 * k) + 2))) (fun f5 q1 q2 q3 => ?_)
  show gW X vwCl 7 (L1 ++ (mL o ad ++ [u])) f5 ((40 + 3 * k + rmC aS0 S) + (rmC S (s_add S (xs ((6 * k) + 1)) (xs ((6 * k) + 2))).2)) ((930000 + 400 * k + rmS aS0 S) + (rmS S (s_add S (xs ((6 * k) + 1)) (xs ((6 * k) + 2))).2)) 965 [(4, .int (nI (6 * k))), (3, .ref u), (2, .ref o), (1, .ref x), (0, .ref bs)] [.int ((s_add S (xs ((6 * k) + 1)) (xs ((6 * k) + 2))).1), .int ((s_add S (xs ((6 * k) + 1)) (xs ((6 * k) + 2))).1)]
  refine g_icmp_eq (x := (s_add S (xs ((6 * k) + 1)) (xs ((6 * k) + 2))).1) (y := (s_add S (xs ((6 * k) + 1)) (xs ((6 * k) + 2))).1) (tgt := 1261) hC dL_law_965 (by decide) (fun _ => ?_) (fun h => absurd rfl h)
  have hp23 := p_add h1 (xs ((6 * k) + 1)) (xs ((6 * k) + 2))
  refine g_widen (c2 := 40 + 3 * (k + 1) + rmC aS0 (s_add S (xs ((6 * k) + 1)) (xs ((6 * k) + 2))).2) (s2 := 930000 + 400 * (k + 1) + rmS aS0 (s_add S (xs ((6 * k) + 1)) (xs ((6 * k) + 2))).2) (by omega) (by omega) ?_
  exact kk _ b1 L1 f5 ⟨hL9, hx1.cg q2, hxo1, q1, (q3.trans (hM1 u (by simp))).trans h5, hd1, h8, h9.tr hmo, by omega, by omega⟩
set_option maxRecDepth 20000 in
set_option maxHeartbeats 4000000 in
theorem lc_find (hC : gC X l room_1 D vwCl (cyT cy) (gKS D cy adK adV) cL_law 7 wsL_law RL) (hX : va_X bs N xs X.2.1.1 X.2.1.1.heap) (hbl : bs < X.2.1.1.heap.size) (hbA : ¬ X.2.2.2.1 bs) (hN : N ≤ 3072) (hI : lwI cy x o u ad k S b Lx F gl) (h6 : 6 * k + 6 ≤ N) (kk : ∀ S' b' L' F', lwI cy x o u ad (k + 1) S' b' L' F' gl → gW X vwCl 7 (L' ++ (mL o ad ++ [u])) F' (40 + 3 * (k + 1) + rmC aS0 S') (930000 + 400 * (k + 1) + rmS aS0 S') 1261 [(4, .int (nI (6 * k))), (3, .ref u), (2, .ref o), (1, .ref x), (0, .ref bs)] []) : gW X vwCl 7 (Lx ++ (mL o ad ++ [u])) F (40 + 3 * k + rmC aS0 S) (930000 + 400 * k + rmS aS0 S) 970 [(4, .int (nI (6 * k))), (3, .ref u), (2, .ref o), (1, .ref x), (0, .ref bs)] [] := by
  obtain ⟨h1, h2, h3, h4, h5, h7, h8, h9, h10, h11⟩ := hI
  have hk : k ≤ 511 := by omega
  refine g_aload_n hC dL_law_970 rfl 3 rfl (Or.inr ⟨_, rfl⟩) ?_
  refine g_aload_n hC dL_law_971 rfl 4 rfl (Or.inr ⟨_, rfl⟩) ?_
  refine g_iload hC dL_law_972 0 rfl ?_
  refine g_iconst hC dL_law_974 (v := nI 1) (by decide) ?_
  refine g_iaddN (a := 6 * k) (b := 1) hC dL_law_975 ?_
  refine g_sld hC hX hbl hbA ((6 * k) + 1) rfl (show (6 * k) + 1 < N by omega) (show N < 2 ^ 31 by omega) dL_law_976 ?_
  refine g_aload_n hC dL_law_977 rfl 4 rfl (Or.inr ⟨_, rfl⟩) ?_
  refine g_iload hC dL_law_978 0 rfl ?_
  refine g_iconst hC dL_law_980 (v := nI 2) (by decide) ?_
  refine g_iaddN (a := 6 * k) (b := 2) hC dL_law_981 ?_
  refine g_sld hC hX hbl hbA ((6 * k) + 2) rfl (show (6 * k) + 2 < N by omega) (show N < 2 ^ 31 by omega) dL_law_982 ?_
  have hL9 : LI (k + 1) (s_find S (xs ((6 * k) + 1)) (xs ((6 * k) + 2))).2 := h1.st (q_find (xs ((6 * k) + 1)) (xs ((6 * k) + 2)))
  have hmo : mo S (s_find S (xs ((6 * k) + 1)) (xs ((6 * k) + 2))).2 := mo.qt (q_find (xs ((6 * k) + 1)) (xs ((6 * k) + 2)))
  have hra := rm_add h9 hmo
  have hbd := rm_bd hL9 (by omega)
  refine g_cls (As := [.int (xs ((6 * k) + 1)), .int (xs ((6 * k) + 2))]) (st := []) hC 2 dL_law_983 h2 h3 h7 gL_law_X9_find rfl (by decide +kernel) ⟨Nat.le_of_ble_eq_true rfl, Nat.le_of_ble_eq_true rfl⟩ rfl (Nat.le_of_ble_eq_true rfl) ⟨(show (40 + 3 * k + rmC aS0 S) + 0 ≤ 601024 by omega), (show (930000 + 400 * k + rmS aS0 S) + 0 ≤ 7293034 by omega)⟩ (c2 := (40 + 3 * k + rmC aS0 S)) (s2 := (930000 + 400 * k + rmS aS0 S)) rfl rfl ((y_find h2 h1.1 x h3 (xs ((6 * k) + 1)) (xs ((6 * k) + 2))).K gKS_K) (fun L1 f2 b1 hx1 hxo1 hM1 hd1 => ?_)
  show gW X vwCl 7 (L1 ++ (mL o ad ++ [u])) f2 (40 + 3 * k + rmC aS0 S) (930000 + 400 * k + rmS aS0 S) 986 [(4, .int (nI (6 * k))), (3, .ref u), (2, .ref o), (1, .ref x), (0, .ref bs)] [.int ((s_find S (xs ((6 * k) + 1)) (xs ((6 * k) + 2))).1)]
  have hFm2 : ∀ a, a ∈ mL o ad → f2 a = mW o ad cy S a := fun a ha => (hM1 a (List.mem_append_left _ ha)).trans (h4 a ha)
  refine g_aload_n hC dL_law_986 rfl 2 rfl (Or.inr ⟨_, rfl⟩) ?_
  refine g_aload_n hC dL_law_987 rfl 4 rfl (Or.inr ⟨_, rfl⟩) ?_
  refine g_iload hC dL_law_988 0 rfl ?_
  refine g_iconst hC dL_law_990 (v := nI 1) (by decide) ?_
  refine g_iaddN (a := 6 * k) (b := 1) hC dL_law_991 ?_
  refine g_sld hC hX hbl hbA ((6 * k) + 1) rfl (show (6 * k) + 1 < N by omega) (show N < 2 ^ 31 by omega) dL_law_992 ?_
  refine g_aload_n hC dL_law_993 rfl 4 rfl (Or.inr ⟨_, rfl⟩) ?_
  refine g_iload hC dL_law_994 0 rfl ?_
  refine g_iconst hC dL_law_996 (v := nI 2) (by decide) ?_
  refine g_iaddN (a := 6 * k) (b := 2) hC dL_law_997 ?_
  refine g_sld hC hX hbl hbA ((6 * k) + 2) rfl (show (6 * k) + 2 < N by omega) (show N < 2 ^ 31 by omega) dL_law_998 ?_
  refine g_ref (As := [.int (xs ((6 * k) + 1)), .int (xs ((6 * k) + 2))]) (st := [.int ((s_find S (xs ((6 * k) + 1)) (xs ((6 * k) + 2))).1)]) hC 2 dL_law_999 hFm2 gL_law_X10_find rfl (by decide +kernel) ⟨Nat.le_of_ble_eq_true rfl, Nat.le_of_ble_eq_true rfl⟩ rfl (Nat.le_of_ble_eq_true rfl) ⟨(show (40 + 3 * k + rmC aS0 S) + 0 ≤ 601024 by omega), (show (930000 + 400 * k + rmS aS0 S) + 0 ≤ 7293034 by omega)⟩ (c2 := (40 + 3 * k + rmC aS0 S)) (s2 := (930000 + 400 * k + rmS aS0 S)) rfl rfl (c_find gKS_ok h8 h1.1 (xs ((6 * k) + 1)) (xs ((6 * k) + 2))) (fun f5 q1 q2 q3 => ?_)
  show gW X vwCl 7 (L1 ++ (mL o ad ++ [u])) f5 (40 + 3 * k + rmC aS0 S) (930000 + 400 * k + rmS aS0 S) 1002 [(4, .int (nI (6 * k))), (3, .ref u), (2, .ref o), (1, .ref x), (0, .ref bs)] [.int ((s_find S (xs ((6 * k) + 1)) (xs ((6 * k) + 2))).1), .int ((s_find S (xs ((6 * k) + 1)) (xs ((6 * k) + 2))).1)]
  refine g_icmp_eq (x := (s_find S (xs ((6 * k) + 1)) (xs ((6 * k) + 2))).1) (y := (s_find S (xs ((6 * k) + 1)) (xs ((6 * k) + 2))).1) (tgt := 1261) hC dL_law_1002 (by decide) (fun _ => ?_) (fun h => absurd rfl h)
  have hp23 := p_find h1 (xs ((6 * k) + 1)) (xs ((6 * k) + 2))
  refine g_widen (c2 := 40 + 3 * (k + 1) + rmC aS0 (s_find S (xs ((6 * k) + 1)) (xs ((6 * k) + 2))).2) (s2 := 930000 + 400 * (k + 1) + rmS aS0 (s_find S (xs ((6 * k) + 1)) (xs ((6 * k) + 2))).2) (by omega) (by omega) ?_
  exact kk _ b1 L1 f5 ⟨hL9, hx1.cg q2, hxo1, q1, (q3.trans (hM1 u (by simp))).trans h5, hd1, h8, h9.tr hmo, by omega, by omega⟩
set_option maxRecDepth 20000 in
set_option maxHeartbeats 4000000 in
theorem lc_term (hC : gC X l room_1 D vwCl (cyT cy) (gKS D cy adK adV) cL_law 7 wsL_law RL) (hX : va_X bs N xs X.2.1.1 X.2.1.1.heap) (hbl : bs < X.2.1.1.heap.size) (hbA : ¬ X.2.2.2.1 bs) (hN : N ≤ 3072) (hI : lwI cy x o u ad k S b Lx F gl) (h6 : 6 * k + 6 ≤ N) (kk : ∀ S' b' L' F', lwI cy x o u ad (k + 1) S' b' L' F' gl → gW X vwCl 7 (L' ++ (mL o ad ++ [u])) F' (40 + 3 * (k + 1) + rmC aS0 S') (930000 + 400 * (k + 1) + rmS aS0 S') 1261 [(4, .int (nI (6 * k))), (3, .ref u), (2, .ref o), (1, .ref x), (0, .ref bs)] []) : gW X vwCl 7 (Lx ++ (mL o ad ++ [u])) F (40 + 3 * k + rmC aS0 S) (930000 + 400 * k + rmS aS0 S) 1007 [(4, .int (nI (6 * k))), (3, .ref u), (2, .ref o), (1, .ref x), (0, .ref bs)] [] := by
  obtain ⟨h1, h2, h3, h4, h5, h7, h8, h9, h10, h11⟩ := hI
  have hk : k ≤ 511 := by omega
  refine g_aload_n hC dL_law_1007 rfl 3 rfl (Or.inr ⟨_, rfl⟩) ?_
  refine g_aload_n hC dL_law_1008 rfl 4 rfl (Or.inr ⟨_, rfl⟩) ?_
  refine g_iload hC dL_law_1009 0 rfl ?_
  refine g_iconst hC dL_law_1011 (v := nI 1) (by decide) ?_
  refine g_iaddN (a := 6 * k) (b := 1) hC dL_law_1012 ?_
  refine g_sld hC hX hbl hbA ((6 * k) + 1) rfl (show (6 * k) + 1 < N by omega) (show N < 2 ^ 31 by omega) dL_law_1013 ?_
  refine g_aload_n hC dL_law_1014 rfl 4 rfl (Or.inr ⟨_, rfl⟩) ?_
  refine g_iload hC dL_law_1015 0 rfl ?_
  refine g_iconst hC dL_law_1017 (v := nI 2) (by decide) ?_
  refine g_iaddN (a := 6 * k) (b := 2) hC dL_law_1018 ?_
  refine g_sld hC hX hbl hbA ((6 * k) + 2) rfl (show (6 * k) + 2 < N by omega) (show N < 2 ^ 31 by omega) dL_law_1019 ?_
  refine g_aload_n hC dL_law_1020 rfl 4 rfl (Or.inr ⟨_, rfl⟩) ?_
  refine g_iload hC dL_law_1021 0 rfl ?_
  refine g_iconst hC dL_law_1023 (v := nI 3) (by decide) ?_
  refine g_iaddN (a := 6 * k) (b := 3) hC dL_law_1024 ?_
  refine g_sld hC hX hbl hbA ((6 * k) + 3) rfl (show (6 * k) + 3 < N by omega) (show N < 2 ^ 31 by omega) dL_law_1025 ?_
  have hL9 : LI (k + 1) (s_term S (xs ((6 * k) + 1)) (xs ((6 * k) + 2)) (xs ((6 * k) + 3))).2 := l_term h1 (xs ((6 * k) + 1)) (xs ((6 * k) + 2)) (xs ((6 * k) + 3))
  have hmo : mo S (s_term S (xs ((6 * k) + 1)) (xs ((6 * k) + 2)) (xs ((6 * k) + 3))).2 := m_term (xs ((6 * k) + 1)) (xs ((6 * k) + 2)) (xs ((6 * k) + 3))
  have hra := rm_add h9 hmo
  have hbd := rm_bd hL9 (by omega)
  refine g_cls (As := [.int (xs ((6 * k) + 1)), .int (xs ((6 * k) + 2)), .int (xs ((6 * k) + 3))]) (st := []) hC 3 dL_law_1026 h2 h3 h7 gL_law_X9_term rfl (by decide +kernel) ⟨Nat.le_of_ble_eq_true rfl, Nat.le_of_ble_eq_true rfl⟩ rfl (Nat.le_of_ble_eq_true rfl) ⟨(show (40 + 3 * k + rmC aS0 S) + 0 ≤ 601024 by omega), (show (930000 + 400 * k + rmS aS0 S) + 0 ≤ 7293034 by omega)⟩ (c2 := (40 + 3 * k + rmC aS0 S)) (s2 := (930000 + 400 * k + rmS aS0 S)) rfl rfl ((y_term h2 h1.1 x h3 (xs ((6 * k) + 1)) (xs ((6 * k) + 2)) (xs ((6 * k) + 3))).K gKS_K) (fun L1 f2 b1 hx1 hxo1 hM1 hd1 => ?_)
  show gW X vwCl 7 (L1 ++ (mL o ad ++ [u])) f2 (40 + 3 * k + rmC aS0 S) (930000 + 400 * k + rmS aS0 S) 1029 [(4, .int (nI (6 * k))), (3, .ref u), (2, .ref o), (1, .ref x), (0, .ref bs)] [.int ((s_term S (xs ((6 * k) + 1)) (xs ((6 * k) + 2)) (xs ((6 * k) + 3))).1)]
  have hFm2 : ∀ a, a ∈ mL o ad → f2 a = mW o ad cy S a := fun a ha => (hM1 a (List.mem_append_left _ ha)).trans (h4 a ha)
  refine g_aload_n hC dL_law_1029 rfl 2 rfl (Or.inr ⟨_, rfl⟩) ?_
  refine g_aload_n hC dL_law_1030 rfl 4 rfl (Or.inr ⟨_, rfl⟩) ?_
  refine g_iload hC dL_law_1031 0 rfl ?_
  refine g_iconst hC dL_law_1033 (v := nI 1) (by decide) ?_
  refine g_iaddN (a := 6 * k) (b := 1) hC dL_law_1034 ?_
  refine g_sld hC hX hbl hbA ((6 * k) + 1) rfl (show (6 * k) + 1 < N by omega) (show N < 2 ^ 31 by omega) dL_law_1035 ?_
  refine g_aload_n hC dL_law_1036 rfl 4 rfl (Or.inr ⟨_, rfl⟩) ?_
  refine g_iload hC dL_law_1037 0 rfl ?_
  refine g_iconst hC dL_law_1039 (v := nI 2) (by decide) ?_
  refine g_iaddN (a := 6 * k) (b := 2) hC dL_law_1040 ?_
  refine g_sld hC hX hbl hbA ((6 * k) + 2) rfl (show (6 * k) + 2 < N by omega) (show N < 2 ^ 31 by omega) dL_law_1041 ?_
  refine g_aload_n hC dL_law_1042 rfl 4 rfl (Or.inr ⟨_, rfl⟩) ?_
  refine g_iload hC dL_law_1043 0 rfl ?_
  refine g_iconst hC dL_law_1045 (v := nI 3) (by decide) ?_
  refine g_iaddN (a := 6 * k) (b := 3) hC dL_law_1046 ?_
  refine g_sld hC hX hbl hbA ((6 * k) + 3) rfl (show (6 * k) + 3 < N by omega) (show N < 2 ^ 31 by omega) dL_law_1047 ?_
  refine g_ref (As := [.int (xs ((6 * k) + 1)), .int (xs ((6 * k) + 2)), .int (xs ((6 * k) + 3))]) (st := [.int ((s_term S (xs ((6 * k) + 1)) (xs ((6 * k) + 2)) (xs ((6 * k) + 3))).1)]) hC 3 dL_law_1048 hFm2 gL_law_X10_term rfl (by decide +kernel) ⟨Nat.le_of_ble_eq_true rfl, Nat.le_of_ble_eq_true rfl⟩ rfl (Nat.le_of_ble_eq_true rfl) ⟨(show (40 + 3 * k + rmC aS0 S) + 0 ≤ 601024 by omega), (show (930000 + 400 * k + rmS aS0 S) + 0 ≤ 7293034 by omega)⟩ (c2 := (40 + 3 * k + rmC aS0 S)) (s2 := (930000 + 400 * k + rmS aS0 S)) rfl rfl (c_term gKS_ok h8 h1.1 (xs ((6 * k) + 1)) (xs ((6 * k) + 2)) (xs ((6 * k) + 3))) (fun f5 q1 q2 q3 => ?_)
  show gW X vwCl 7 (L1 ++ (mL o ad ++ [u])) f5 (40 + 3 * k + rmC aS0 S) (930000 + 400 * k + rmS aS0 S) 1051 [(4, .int (nI (6 * k))), (3, .ref u), (2, .ref o), (1, .ref x), (0, .ref bs)] [.int ((s_term S (xs ((6 * k) + 1)) (xs ((6 * k) + 2)) (xs ((6 * k) + 3))).1), .int ((s_term S (xs ((6 * k) + 1)) (xs ((6 * k) + 2)) (xs ((6 * k) + 3))).1)]
  refine g_icmp_eq (x := (s_term S (xs ((6 * k) + 1)) (xs ((6 * k) + 2)) (xs ((6 * k) + 3))).1) (y := (s_term S (xs ((6 * k) + 1)) (xs ((6 * k) + 2)) (xs ((6 * k) + 3))).1) (tgt := 1261) hC dL_law_1051 (by decide) (fun _ => ?_) (fun h => absurd rfl h)
  have hp23 : (s_term S (xs ((6 * k) + 1)) (xs ((6 * k) + 2)) (xs ((6 * k) + 3))).2.1 23 = S.1 23 ∧ (s_term S (xs ((6 * k) + 1)) (xs ((6 * k) + 2)) (xs ((6 * k) + 3))).2.1 24 = S.1 24 := by unfold s_term; (repeat' split) <;> exact ⟨rfl, rfl⟩
  refine g_widen (c2 := 40 + 3 * (k + 1) + rmC aS0 (s_term S (xs ((6 * k) + 1)) (xs ((6 * k) + 2)) (xs ((6 * k) + 3))).2) (s2 := 930000 + 400 * (k + 1) + rmS aS0 (s_term S (xs ((6 * k) + 1)) (xs ((6 * k) + 2)) (xs ((6 * k) + 3))).2) (by omega) (by omega) ?_
  exact kk _ b1 L1 f5 ⟨hL9, hx1.cg q2, hxo1, q1, (q3.trans (hM1 u (by simp))).trans h5, hd1, h8, h9.tr hmo, by omega, by omega⟩
set_option maxRecDepth 20000 in
set_option maxHeartbeats 4000000 in
theorem lc_told (hC : gC X l room_1 D vwCl (cyT cy) (gKS D cy adK adV) cL_law 7 wsL_law RL) (hX : va_X bs N xs X.2.1.1 X.2.1.1.heap) (hbl : bs < X.2.1.1.heap.size) (hbA : ¬ X.2.2.2.1 bs) (hN : N ≤ 3072) (hI : lwI cy x o u ad k S b Lx F gl) (h6 : 6 * k + 6 ≤ N) (kk : ∀ S' b' L' F', lwI cy x o u ad (k + 1) S' b' L' F' gl → gW X vwCl 7 (L' ++ (mL o ad ++ [u])) F' (40 + 3 * (k + 1) + rmC aS0 S') (930000 + 400 * (k + 1) + rmS aS0 S') 1261 [(4, .int (nI (6 * k))), (3, .ref u), (2, .ref o), (1, .ref x), (0, .ref bs)] []) : gW X vwCl 7 (Lx ++ (mL o ad ++ [u])) F (40 + 3 * k + rmC aS0 S) (930000 + 400 * k + rmS aS0 S) 1056 [(4, .int (nI (6 * k))), (3, .ref u), (2, .ref o), (1, .ref x), (0, .ref bs)] [] := by
  obtain ⟨h1, h2, h3, h4, h5, h7, h8, h9, h10, h11⟩ := hI
  have hk : k ≤ 511 := by omega
  refine g_aload_n hC dL_law_1056 rfl 3 rfl (Or.inr ⟨_, rfl⟩) ?_
  refine g_aload_n hC dL_law_1057 rfl 4 rfl (Or.inr ⟨_, rfl⟩) ?_
  refine g_iload hC dL_law_1058 0 rfl ?_
  refine g_iconst hC dL_law_1060 (v := nI 1) (by decide) ?_
  refine g_iaddN (a := 6 * k) (b := 1) hC dL_law_1061 ?_
  refine g_sld hC hX hbl hbA ((6 * k) + 1) rfl (show (6 * k) + 1 < N by omega) (show N < 2 ^ 31 by omega) dL_law_1062 ?_
  refine g_aload_n hC dL_law_1063 rfl 4 rfl (Or.inr ⟨_, rfl⟩) ?_
  refine g_iload hC dL_law_1064 0 rfl ?_
  refine g_iconst hC dL_law_1066 (v := nI 2) (by decide) ?_
  refine g_iaddN (a := 6 * k) (b := 2) hC dL_law_1067 ?_
  refine g_sld hC hX hbl hbA ((6 * k) + 2) rfl (show (6 * k) + 2 < N by omega) (show N < 2 ^ 31 by omega) dL_law_1068 ?_
  have hL9 : LI (k + 1) (s_told S (xs ((6 * k) + 1)) (xs ((6 * k) + 2))).2 := h1.st (q_told (xs ((6 * k) + 1)) (xs ((6 * k) + 2)))
  have hmo : mo S (s_told S (xs ((6 * k) + 1)) (xs ((6 * k) + 2))).2 := mo.qt (q_told (xs ((6 * k) + 1)) (xs ((6 * k) + 2)))
  have hra := rm_add h9 hmo
  have hbd := rm_bd hL9 (by omega)
  refine g_cls (As := [.int (xs ((6 * k) + 1)), .int (xs ((6 * k) + 2))]) (st := []) hC 2 dL_law_1069 h2 h3 h7 gL_law_X9_told rfl (by decide +kernel) ⟨Nat.le_of_ble_eq_true rfl, Nat.le_of_ble_eq_true rfl⟩ rfl (Nat.le_of_ble_eq_true rfl) ⟨(show (40 + 3 * k + rmC aS0 S) + 0 ≤ 601024 by omega), (show (930000 + 400 * k + rmS aS0 S) + 0 ≤ 7293034 by omega)⟩ (c2 := (40 + 3 * k + rmC aS0 S)) (s2 := (930000 + 400 * k + rmS aS0 S)) rfl rfl ((y_told h2 h1.1 x h3 (xs ((6 * k) + 1)) (xs ((6 * k) + 2))).K gKS_K) (fun L1 f2 b1 hx1 hxo1 hM1 hd1 => ?_)
  show gW X vwCl 7 (L1 ++ (mL o ad ++ [u])) f2 (40 + 3 * k + rmC aS0 S) (930000 + 400 * k + rmS aS0 S) 1072 [(4, .int (nI (6 * k))), (3, .ref u), (2, .ref o), (1, .ref x), (0, .ref bs)] [.int ((s_told S (xs ((6 * k) + 1)) (xs ((6 * k) + 2))).1)]
  have hFm2 : ∀ a, a ∈ mL o ad → f2 a = mW o ad cy S a := fun a ha => (hM1 a (List.mem_append_left _ ha)).trans (h4 a ha)
  refine g_aload_n hC dL_law_1072 rfl 2 rfl (Or.inr ⟨_, rfl⟩) ?_
  refine g_aload_n hC dL_law_1073 rfl 4 rfl (Or.inr ⟨_, rfl⟩) ?_
  refine g_iload hC dL_law_1074 0 rfl ?_
  refine g_iconst hC dL_law_1076 (v := nI 1) (by decide) ?_
  refine g_iaddN (a := 6 * k) (b := 1) hC dL_law_1077 ?_
  refine g_sld hC hX hbl hbA ((6 * k) + 1) rfl (show (6 * k) + 1 < N by omega) (show N < 2 ^ 31 by omega) dL_law_1078 ?_
  refine g_aload_n hC dL_law_1079 rfl 4 rfl (Or.inr ⟨_, rfl⟩) ?_
  refine g_iload hC dL_law_1080 0 rfl ?_
  refine g_iconst hC dL_law_1082 (v := nI 2) (by decide) ?_
  refine g_iaddN (a := 6 * k) (b := 2) hC dL_law_1083 ?_
  refine g_sld hC hX hbl hbA ((6 * k) + 2) rfl (show (6 * k) + 2 < N by omega) (show N < 2 ^ 31 by omega) dL_law_1084 ?_
  refine g_ref (As := [.int (xs ((6 * k) + 1)), .int (xs ((6 * k) + 2))]) (st := [.int ((s_told S (xs ((6 * k) + 1)) (xs ((6 * k) + 2))).1)]) hC 2 dL_law_1085 hFm2 gL_law_X10_told rfl (by decide +kernel) ⟨Nat.le_of_ble_eq_true rfl, Nat.le_of_ble_eq_true rfl⟩ rfl (Nat.le_of_ble_eq_true rfl) ⟨(show (40 + 3 * k + rmC aS0 S) + 0 ≤ 601024 by omega), (show (930000 + 400 * k + rmS aS0 S) + 0 ≤ 7293034 by omega)⟩ (c2 := (40 + 3 * k + rmC aS0 S)) (s2 := (930000 + 400 * k + rmS aS0 S)) rfl rfl (c_told gKS_ok h8 h1.1 (xs ((6 * k) + 1)) (xs ((6 * k) + 2))) (fun f5 q1 q2 q3 => ?_)
  show gW X vwCl 7 (L1 ++ (mL o ad ++ [u])) f5 (40 + 3 * k + rmC aS0 S) (930000 + 400 * k + rmS aS0 S) 1088 [(4, .int (nI (6 * k))), (3, .ref u), (2, .ref o), (1, .ref x), (0, .ref bs)] [.int ((s_told S (xs ((6 * k) + 1)) (xs ((6 * k) + 2))).1), .int ((s_told S (xs ((6 * k) + 1)) (xs ((6 * k) + 2))).1)]
  refine g_icmp_eq (x := (s_told S (xs ((6 * k) + 1)) (xs ((6 * k) + 2))).1) (y := (s_told S (xs ((6 * k) + 1)) (xs ((6 * k) + 2))).1) (tgt := 1261) hC dL_law_1088 (by decide) (fun _ => ?_) (fun h => absurd rfl h)
  have hp23 : (s_told S (xs ((6 * k) + 1)) (xs ((6 * k) + 2))).2.1 23 = S.1 23 ∧ (s_told S (xs ((6 * k) + 1)) (xs ((6 * k) + 2))).2.1 24 = S.1 24 := by unfold s_told; (repeat' split) <;> exact ⟨rfl, rfl⟩
  refine g_widen (c2 := 40 + 3 * (k + 1) + rmC aS0 (s_told S (xs ((6 * k) + 1)) (xs ((6 * k) + 2))).2) (s2 := 930000 + 400 * (k + 1) + rmS aS0 (s_told S (xs ((6 * k) + 1)) (xs ((6 * k) + 2))).2) (by omega) (by omega) ?_
  exact kk _ b1 L1 f5 ⟨hL9, hx1.cg q2, hxo1, q1, (q3.trans (hM1 u (by simp))).trans h5, hd1, h8, h9.tr hmo, by omega, by omega⟩
set_option maxRecDepth 20000 in
set_option maxHeartbeats 4000000 in
theorem lc_slot (hC : gC X l room_1 D vwCl (cyT cy) (gKS D cy adK adV) cL_law 7 wsL_law RL) (hX : va_X bs N xs X.2.1.1 X.2.1.1.heap) (hbl : bs < X.2.1.1.heap.size) (hbA : ¬ X.2.2.2.1 bs) (hN : N ≤ 3072) (hI : lwI cy x o u ad k S b Lx F gl) (h6 : 6 * k + 6 ≤ N) (kk : ∀ S' b' L' F', lwI cy x o u ad (k + 1) S' b' L' F' gl → gW X vwCl 7 (L' ++ (mL o ad ++ [u])) F' (40 + 3 * (k + 1) + rmC aS0 S') (930000 + 400 * (k + 1) + rmS aS0 S') 1261 [(4, .int (nI (6 * k))), (3, .ref u), (2, .ref o), (1, .ref x), (0, .ref bs)] []) : gW X vwCl 7 (Lx ++ (mL o ad ++ [u])) F (40 + 3 * k + rmC aS0 S) (930000 + 400 * k + rmS aS0 S) 1093 [(4, .int (nI (6 * k))), (3, .ref u), (2, .ref o), (1, .ref x), (0, .ref bs)] [] := by
  obtain ⟨h1, h2, h3, h4, h5, h7, h8, h9, h10, h11⟩ := hI
  have hk : k ≤ 511 := by omega
  refine g_aload_n hC dL_law_1093 rfl 3 rfl (Or.inr ⟨_, rfl⟩) ?_
  refine g_aload_n hC dL_law_1094 rfl 4 rfl (Or.inr ⟨_, rfl⟩) ?_
  refine g_iload hC dL_law_1095 0 rfl ?_
  refine g_iconst hC dL_law_1097 (v := nI 1) (by decide) ?_
  refine g_iaddN (a := 6 * k) (b := 1) hC dL_law_1098 ?_
  refine g_sld hC hX hbl hbA ((6 * k) + 1) rfl (show (6 * k) + 1 < N by omega) (show N < 2 ^ 31 by omega) dL_law_1099 ?_
  refine g_aload_n hC dL_law_1100 rfl 4 rfl (Or.inr ⟨_, rfl⟩) ?_
  refine g_iload hC dL_law_1101 0 rfl ?_
  refine g_iconst hC dL_law_1103 (v := nI 2) (by decide) ?_
  refine g_iaddN (a := 6 * k) (b := 2) hC dL_law_1104 ?_
  refine g_sld hC hX hbl hbA ((6 * k) + 2) rfl (show (6 * k) + 2 < N by omega) (show N < 2 ^ 31 by omega) dL_law_1105 ?_
  have hL9 : LI (k + 1) (s_slot S (xs ((6 * k) + 1)) (xs ((6 * k) + 2))).2 := h1.st (q_slot (xs ((6 * k) + 1)) (xs ((6 * k) + 2)))
  have hmo : mo S (s_slot S (xs ((6 * k) + 1)) (xs ((6 * k) + 2))).2 := mo.qt (q_slot (xs ((6 * k) + 1)) (xs ((6 * k) + 2)))
  have hra := rm_add h9 hmo
  have hbd := rm_bd hL9 (by omega)
  refine g_cls (As := [.int (xs ((6 * k) + 1)), .int (xs ((6 * k) + 2))]) (st := []) hC 2 dL_law_1106 h2 h3 h7 gL_law_X9_slot rfl (by decide +kernel) ⟨Nat.le_of_ble_eq_true rfl, Nat.le_of_ble_eq_true rfl⟩ rfl (Nat.le_of_ble_eq_true rfl) ⟨(show (40 + 3 * k + rmC aS0 S) + 0 ≤ 601024 by omega), (show (930000 + 400 * k + rmS aS0 S) + 0 ≤ 7293034 by omega)⟩ (c2 := (40 + 3 * k + rmC aS0 S)) (s2 := (930000 + 400 * k + rmS aS0 S)) rfl rfl ((y_slot h2 h1.1 x h3 (xs ((6 * k) + 1)) (xs ((6 * k) + 2))).K gKS_K) (fun L1 f2 b1 hx1 hxo1 hM1 hd1 => ?_)
  show gW X vwCl 7 (L1 ++ (mL o ad ++ [u])) f2 (40 + 3 * k + rmC aS0 S) (930000 + 400 * k + rmS aS0 S) 1109 [(4, .int (nI (6 * k))), (3, .ref u), (2, .ref o), (1, .ref x), (0, .ref bs)] [.int ((s_slot S (xs ((6 * k) + 1)) (xs ((6 * k) + 2))).1)]
  have hFm2 : ∀ a, a ∈ mL o ad → f2 a = mW o ad cy S a := fun a ha => (hM1 a (List.mem_append_left _ ha)).trans (h4 a ha)
  refine g_aload_n hC dL_law_1109 rfl 2 rfl (Or.inr ⟨_, rfl⟩) ?_
  refine g_aload_n hC dL_law_1110 rfl 4 rfl (Or.inr ⟨_, rfl⟩) ?_
  refine g_iload hC dL_law_1111 0 rfl ?_
  refine g_iconst hC dL_law_1113 (v := nI 1) (by decide) ?_
  refine g_iaddN (a := 6 * k) (b := 1) hC dL_law_1114 ?_
  refine g_sld hC hX hbl hbA ((6 * k) + 1) rfl (show (6 * k) + 1 < N by omega) (show N < 2 ^ 31 by omega) dL_law_1115 ?_
  refine g_aload_n hC dL_law_1116 rfl 4 rfl (Or.inr ⟨_, rfl⟩) ?_
  refine g_iload hC dL_law_1117 0 rfl ?_
  refine g_iconst hC dL_law_1119 (v := nI 2) (by decide) ?_
  refine g_iaddN (a := 6 * k) (b := 2) hC dL_law_1120 ?_
  refine g_sld hC hX hbl hbA ((6 * k) + 2) rfl (show (6 * k) + 2 < N by omega) (show N < 2 ^ 31 by omega) dL_law_1121 ?_
  refine g_ref (As := [.int (xs ((6 * k) + 1)), .int (xs ((6 * k) + 2))]) (st := [.int ((s_slot S (xs ((6 * k) + 1)) (xs ((6 * k) + 2))).1)]) hC 2 dL_law_1122 hFm2 gL_law_X10_slot rfl (by decide +kernel) ⟨Nat.le_of_ble_eq_true rfl, Nat.le_of_ble_eq_true rfl⟩ rfl (Nat.le_of_ble_eq_true rfl) ⟨(show (40 + 3 * k + rmC aS0 S) + 0 ≤ 601024 by omega), (show (930000 + 400 * k + rmS aS0 S) + 0 ≤ 7293034 by omega)⟩ (c2 := (40 + 3 * k + rmC aS0 S)) (s2 := (930000 + 400 * k + rmS aS0 S)) rfl rfl (c_slot gKS_ok h8 h1.1 (xs ((6 * k) + 1)) (xs ((6 * k) + 2))) (fun f5 q1 q2 q3 => ?_)
  show gW X vwCl 7 (L1 ++ (mL o ad ++ [u])) f5 (40 + 3 * k + rmC aS0 S) (930000 + 400 * k + rmS aS0 S) 1125 [(4, .int (nI (6 * k))), (3, .ref u), (2, .ref o), (1, .ref x), (0, .ref bs)] [.int ((s_slot S (xs ((6 * k) + 1)) (xs ((6 * k) + 2))).1), .int ((s_slot S (xs ((6 * k) + 1)) (xs ((6 * k) + 2))).1)]
  refine g_icmp_eq (x := (s_slot S (xs ((6 * k) + 1)) (xs ((6 * k) + 2))).1) (y := (s_slot S (xs ((6 * k) + 1)) (xs ((6 * k) + 2))).1) (tgt := 1261) hC dL_law_1125 (by decide) (fun _ => ?_) (fun h => absurd rfl h)
  have hp23 : (s_slot S (xs ((6 * k) + 1)) (xs ((6 * k) + 2))).2.1 23 = S.1 23 ∧ (s_slot S (xs ((6 * k) + 1)) (xs ((6 * k) + 2))).2.1 24 = S.1 24 := by unfold s_slot; (repeat' split) <;> exact ⟨rfl, rfl⟩
  refine g_widen (c2 := 40 + 3 * (k + 1) + rmC aS0 (s_slot S (xs ((6 * k) + 1)) (xs ((6 * k) + 2))).2) (s2 := 930000 + 400 * (k + 1) + rmS aS0 (s_slot S (xs ((6 * k) + 1)) (xs ((6 * k) + 2))).2) (by omega) (by omega) ?_
  exact kk _ b1 L1 f5 ⟨hL9, hx1.cg q2, hxo1, q1, (q3.trans (hM1 u (by simp))).trans h5, hd1, h8, h9.tr hmo, by omega, by omega⟩
set_option maxRecDepth 20000 in
set_option maxHeartbeats 4000000 in
theorem lc_ranked (hC : gC X l room_1 D vwCl (cyT cy) (gKS D cy adK adV) cL_law 7 wsL_law RL) (hX : va_X bs N xs X.2.1.1 X.2.1.1.heap) (hbl : bs < X.2.1.1.heap.size) (hbA : ¬ X.2.2.2.1 bs) (hN : N ≤ 3072) (hI : lwI cy x o u ad k S b Lx F gl) (h6 : 6 * k + 6 ≤ N) (kk : ∀ S' b' L' F', lwI cy x o u ad (k + 1) S' b' L' F' gl → gW X vwCl 7 (L' ++ (mL o ad ++ [u])) F' (40 + 3 * (k + 1) + rmC aS0 S') (930000 + 400 * (k + 1) + rmS aS0 S') 1261 [(4, .int (nI (6 * k))), (3, .ref u), (2, .ref o), (1, .ref x), (0, .ref bs)] []) : gW X vwCl 7 (Lx ++ (mL o ad ++ [u])) F (40 + 3 * k + rmC aS0 S) (930000 + 400 * k + rmS aS0 S) 1130 [(4, .int (nI (6 * k))), (3, .ref u), (2, .ref o), (1, .ref x), (0, .ref bs)] [] := by
  obtain ⟨h1, h2, h3, h4, h5, h7, h8, h9, h10, h11⟩ := hI
  have hk : k ≤ 511 := by omega
  refine g_aload_n hC dL_law_1130 rfl 3 rfl (Or.inr ⟨_, rfl⟩) ?_
  refine g_aload_n hC dL_law_1131 rfl 4 rfl (Or.inr ⟨_, rfl⟩) ?_
  refine g_iload hC dL_law_1132 0 rfl ?_
  refine g_iconst hC dL_law_1134 (v := nI 1) (by decide) ?_
  refine g_iaddN (a := 6 * k) (b := 1) hC dL_law_1135 ?_
  refine g_sld hC hX hbl hbA ((6 * k) + 1) rfl (show (6 * k) + 1 < N by omega) (show N < 2 ^ 31 by omega) dL_law_1136 ?_
  refine g_aload_n hC dL_law_1137 rfl 4 rfl (Or.inr ⟨_, rfl⟩) ?_
  refine g_iload hC dL_law_1138 0 rfl ?_
  refine g_iconst hC dL_law_1140 (v := nI 2) (by decide) ?_
  refine g_iaddN (a := 6 * k) (b := 2) hC dL_law_1141 ?_
  refine g_sld hC hX hbl hbA ((6 * k) + 2) rfl (show (6 * k) + 2 < N by omega) (show N < 2 ^ 31 by omega) dL_law_1142 ?_
  have hL9 : LI (k + 1) (s_ranked S (xs ((6 * k) + 1)) (xs ((6 * k) + 2))).2 := h1.st (q_ranked (xs ((6 * k) + 1)) (xs ((6 * k) + 2)))
  have hmo : mo S (s_ranked S (xs ((6 * k) + 1)) (xs ((6 * k) + 2))).2 := mo.qt (q_ranked (xs ((6 * k) + 1)) (xs ((6 * k) + 2)))
  have hra := rm_add h9 hmo
  have hbd := rm_bd hL9 (by omega)
  refine g_cls (As := [.int (xs ((6 * k) + 1)), .int (xs ((6 * k) + 2))]) (st := []) hC 2 dL_law_1143 h2 h3 h7 gL_law_X9_ranked rfl (by decide +kernel) ⟨Nat.le_of_ble_eq_true rfl, Nat.le_of_ble_eq_true rfl⟩ rfl (Nat.le_of_ble_eq_true rfl) ⟨(show (40 + 3 * k + rmC aS0 S) + 0 ≤ 601024 by omega), (show (930000 + 400 * k + rmS aS0 S) + 0 ≤ 7293034 by omega)⟩ (c2 := (40 + 3 * k + rmC aS0 S)) (s2 := (930000 + 400 * k + rmS aS0 S)) rfl rfl ((y_ranked h2 h1.1 x h3 (xs ((6 * k) + 1)) (xs ((6 * k) + 2))).K gKS_K) (fun L1 f2 b1 hx1 hxo1 hM1 hd1 => ?_)
  show gW X vwCl 7 (L1 ++ (mL o ad ++ [u])) f2 (40 + 3 * k + rmC aS0 S) (930000 + 400 * k + rmS aS0 S) 1146 [(4, .int (nI (6 * k))), (3, .ref u), (2, .ref o), (1, .ref x), (0, .ref bs)] [.int ((s_ranked S (xs ((6 * k) + 1)) (xs ((6 * k) + 2))).1)]
  have hFm2 : ∀ a, a ∈ mL o ad → f2 a = mW o ad cy S a := fun a ha => (hM1 a (List.mem_append_left _ ha)).trans (h4 a ha)
  refine g_aload_n hC dL_law_1146 rfl 2 rfl (Or.inr ⟨_, rfl⟩) ?_
  refine g_aload_n hC dL_law_1147 rfl 4 rfl (Or.inr ⟨_, rfl⟩) ?_
  refine g_iload hC dL_law_1148 0 rfl ?_
  refine g_iconst hC dL_law_1150 (v := nI 1) (by decide) ?_
  refine g_iaddN (a := 6 * k) (b := 1) hC dL_law_1151 ?_
  refine g_sld hC hX hbl hbA ((6 * k) + 1) rfl (show (6 * k) + 1 < N by omega) (show N < 2 ^ 31 by omega) dL_law_1152 ?_
  refine g_aload_n hC dL_law_1153 rfl 4 rfl (Or.inr ⟨_, rfl⟩) ?_
  refine g_iload hC dL_law_1154 0 rfl ?_
  refine g_iconst hC dL_law_1156 (v := nI 2) (by decide) ?_
  refine g_iaddN (a := 6 * k) (b := 2) hC dL_law_1157 ?_
  refine g_sld hC hX hbl hbA ((6 * k) + 2) rfl (show (6 * k) + 2 < N by omega) (show N < 2 ^ 31 by omega) dL_law_1158 ?_
  refine g_ref (As := [.int (xs ((6 * k) + 1)), .int (xs ((6 * k) + 2))]) (st := [.int ((s_ranked S (xs ((6 * k) + 1)) (xs ((6 * k) + 2))).1)]) hC 2 dL_law_1159 hFm2 gL_law_X10_ranked rfl (by decide +kernel) ⟨Nat.le_of_ble_eq_true rfl, Nat.le_of_ble_eq_true rfl⟩ rfl (Nat.le_of_ble_eq_true rfl) ⟨(show (40 + 3 * k + rmC aS0 S) + 0 ≤ 601024 by omega), (show (930000 + 400 * k + rmS aS0 S) + 0 ≤ 7293034 by omega)⟩ (c2 := (40 + 3 * k + rmC aS0 S)) (s2 := (930000 + 400 * k + rmS aS0 S)) rfl rfl (c_ranked gKS_ok h8 h1.1 (xs ((6 * k) + 1)) (xs ((6 * k) + 2))) (fun f5 q1 q2 q3 => ?_)
  show gW X vwCl 7 (L1 ++ (mL o ad ++ [u])) f5 (40 + 3 * k + rmC aS0 S) (930000 + 400 * k + rmS aS0 S) 1162 [(4, .int (nI (6 * k))), (3, .ref u), (2, .ref o), (1, .ref x), (0, .ref bs)] [.int ((s_ranked S (xs ((6 * k) + 1)) (xs ((6 * k) + 2))).1), .int ((s_ranked S (xs ((6 * k) + 1)) (xs ((6 * k) + 2))).1)]
  refine g_icmp_eq (x := (s_ranked S (xs ((6 * k) + 1)) (xs ((6 * k) + 2))).1) (y := (s_ranked S (xs ((6 * k) + 1)) (xs ((6 * k) + 2))).1) (tgt := 1261) hC dL_law_1162 (by decide) (fun _ => ?_) (fun h => absurd rfl h)
  have hp23 : (s_ranked S (xs ((6 * k) + 1)) (xs ((6 * k) + 2))).2.1 23 = S.1 23 ∧ (s_ranked S (xs ((6 * k) + 1)) (xs ((6 * k) + 2))).2.1 24 = S.1 24 := by unfold s_ranked; (repeat' split) <;> exact ⟨rfl, rfl⟩
  refine g_widen (c2 := 40 + 3 * (k + 1) + rmC aS0 (s_ranked S (xs ((6 * k) + 1)) (xs ((6 * k) + 2))).2) (s2 := 930000 + 400 * (k + 1) + rmS aS0 (s_ranked S (xs ((6 * k) + 1)) (xs ((6 * k) + 2))).2) (by omega) (by omega) ?_
  exact kk _ b1 L1 f5 ⟨hL9, hx1.cg q2, hxo1, q1, (q3.trans (hM1 u (by simp))).trans h5, hd1, h8, h9.tr hmo, by omega, by omega⟩
set_option maxRecDepth 20000 in
set_option maxHeartbeats 4000000 in
theorem lc_merge (hC : gC X l room_1 D vwCl (cyT cy) (gKS D cy adK adV) cL_law 7 wsL_law RL) (hX : va_X bs N xs X.2.1.1 X.2.1.1.heap) (hbl : bs < X.2.1.1.heap.size) (hbA : ¬ X.2.2.2.1 bs) (hN : N ≤ 3072) (hI : lwI cy x o u ad k S b Lx F gl) (h6 : 6 * k + 6 ≤ N) (kk : ∀ S' b' L' F', lwI cy x o u ad (k + 1) S' b' L' F' gl → gW X vwCl 7 (L' ++ (mL o ad ++ [u])) F' (40 + 3 * (k + 1) + rmC aS0 S') (930000 + 400 * (k + 1) + rmS aS0 S') 1261 [(4, .int (nI (6 * k))), (3, .ref u), (2, .ref o), (1, .ref x), (0, .ref bs)] []) : gW X vwCl 7 (Lx ++ (mL o ad ++ [u])) F (40 + 3 * k + rmC aS0 S) (930000 + 400 * k + rmS aS0 S) 1167 [(4, .int (nI (6 * k))), (3, .ref u), (2, .ref o), (1, .ref x), (0, .ref bs)] [] := by
  obtain ⟨h1, h2, h3, h4, h5, h7, h8, h9, h10, h11⟩ := hI
  have hk : k ≤ 511 := by omega
  refine g_aload_n hC dL_law_1167 rfl 3 rfl (Or.inr ⟨_, rfl⟩) ?_
  refine g_aload_n hC dL_law_1168 rfl 4 rfl (Or.inr ⟨_, rfl⟩) ?_
  refine g_iload hC dL_law_1169 0 rfl ?_
  refine g_iconst hC dL_law_1171 (v := nI 1) (by decide) ?_
  refine g_iaddN (a := 6 * k) (b := 1) hC dL_law_1172 ?_
  refine g_sld hC hX hbl hbA ((6 * k) + 1) rfl (show (6 * k) + 1 < N by omega) (show N < 2 ^ 31 by omega) dL_law_1173 ?_
  refine g_aload_n hC dL_law_1174 rfl 4 rfl (Or.inr ⟨_, rfl⟩) ?_
  refine g_iload hC dL_law_1175 0 rfl ?_
  refine g_iconst hC dL_law_1177 (v := nI 2) (by decide) ?_
  refine g_iaddN (a := 6 * k) (b := 2) hC dL_law_1178 ?_
  refine g_sld hC hX hbl hbA ((6 * k) + 2) rfl (show (6 * k) + 2 < N by omega) (show N < 2 ^ 31 by omega) dL_law_1179 ?_
  have hL9 : LI (k + 1) (s_merge S (xs ((6 * k) + 1)) (xs ((6 * k) + 2))).2 := l_merge h1 hk (xs ((6 * k) + 1)) (xs ((6 * k) + 2))
  have hmo : mo S (s_merge S (xs ((6 * k) + 1)) (xs ((6 * k) + 2))).2 := m_merge (xs ((6 * k) + 1)) (xs ((6 * k) + 2))
  have hra := rm_add h9 hmo
  have hbd := rm_bd hL9 (by omega)
  have hb4 := h1.b4 (by omega)
  obtain ⟨G, Xk, hJ, hG, hXk⟩ := h1.2.2
  refine g_cls (As := [.int (xs ((6 * k) + 1)), .int (xs ((6 * k) + 2))]) (st := []) hC 2 dL_law_1180 h2 h3 h7 gL_law_X9_merge rfl (by decide +kernel) ⟨Nat.le_of_ble_eq_true rfl, Nat.le_of_ble_eq_true rfl⟩ rfl (Nat.le_of_ble_eq_true rfl) ⟨(show (40 + 3 * k + rmC aS0 S) + (rmC S (s_merge S (xs ((6 * k) + 1)) (xs ((6 * k) + 2))).2) ≤ 601024 by omega), (show (930000 + 400 * k + rmS aS0 S) + (rmS S (s_merge S (xs ((6 * k) + 1)) (xs ((6 * k) + 2))).2) ≤ 7293034 by omega)⟩ (c2 := ((40 + 3 * k + rmC aS0 S) + (rmC S (s_merge S (xs ((6 * k) + 1)) (xs ((6 * k) + 2))).2))) (s2 := ((930000 + 400 * k + rmS aS0 S) + (rmS S (s_merge S (xs ((6 * k) + 1)) (xs ((6 * k) + 2))).2))) rfl rfl ((y_merge (Inv := Jk G Xk) h2 h1.1 x h3 (by omega) (hJ.eq rfl rfl rfl rfl rfl) (fun Z t r hZ hr => hZ.com hr) (fun Z hZ => by have := hZ.bd; omega) (xs ((6 * k) + 1)) (xs ((6 * k) + 2))).K gKS_K) (fun L1 f2 b1 hx1 hxo1 hM1 hd1 => ?_)
  show gW X vwCl 7 (L1 ++ (mL o ad ++ [u])) f2 ((40 + 3 * k + rmC aS0 S) + (rmC S (s_merge S (xs ((6 * k) + 1)) (xs ((6 * k) + 2))).2)) ((930000 + 400 * k + rmS aS0 S) + (rmS S (s_merge S (xs ((6 * k) + 1)) (xs ((6 * k) + 2))).2)) 1183 [(4, .int (nI (6 * k))), (3, .ref u), (2, .ref o), (1, .ref x), (0, .ref bs)] [.int ((s_merge S (xs ((6 * k) + 1)) (xs ((6 * k) + 2))).1)]
  have hFm2 : ∀ a, a ∈ mL o ad → f2 a = mW o ad cy S a := fun a ha => (hM1 a (List.mem_append_left _ ha)).trans (h4 a ha)
  refine g_aload_n hC dL_law_1183 rfl 2 rfl (Or.inr ⟨_, rfl⟩) ?_
  refine g_aload_n hC dL_law_1184 rfl 4 rfl (Or.inr ⟨_, rfl⟩) ?_
  refine g_iload hC dL_law_1185 0 rfl ?_
  refine g_iconst hC dL_law_1187 (v := nI 1) (by decide) ?_
  refine g_iaddN (a := 6 * k) (b := 1) hC dL_law_1188 ?_
  refine g_sld hC hX hbl hbA ((6 * k) + 1) rfl (show (6 * k) + 1 < N by omega) (show N < 2 ^ 31 by omega) dL_law_1189 ?_
  refine g_aload_n hC dL_law_1190 rfl 4 rfl (Or.inr ⟨_, rfl⟩) ?_
  refine g_iload hC dL_law_1191 0 rfl ?_
  refine g_iconst hC dL_law_1193 (v := nI 2) (by decide) ?_
  refine g_iaddN (a := 6 * k) (b := 2) hC dL_law_1194 ?_
  refine g_sld hC hX hbl hbA ((6 * k) + 2) rfl (show (6 * k) + 2 < N by omega) (show N < 2 ^ 31 by omega) dL_law_1195 ?_
  refine g_ref (As := [.int (xs ((6 * k) + 1)), .int (xs ((6 * k) + 2))]) (st := [.int ((s_merge S (xs ((6 * k) + 1)) (xs ((6 * k) + 2))).1)]) hC 2 dL_law_1196 hFm2 gL_law_X10_merge rfl (by decide +kernel) ⟨Nat.le_of_ble_eq_true rfl, Nat.le_of_ble_eq_true rfl⟩ rfl (Nat.le_of_ble_eq_true rfl) ⟨(show ((40 + 3 * k + rmC aS0 S) + (rmC S (s_merge S (xs ((6 * k) + 1)) (xs ((6 * k) + 2))).2)) + 0 ≤ 601024 by omega), (show ((930000 + 400 * k + rmS aS0 S) + (rmS S (s_merge S (xs ((6 * k) + 1)) (xs ((6 * k) + 2))).2)) + 0 ≤ 7293034 by omega)⟩ (c2 := ((40 + 3 * k + rmC aS0 S) + (rmC S (s_merge S (xs ((6 * k) + 1)) (xs ((6 * k) + 2))).2))) (s2 := ((930000 + 400 * k + rmS aS0 S) + (rmS S (s_merge S (xs ((6 * k) + 1)) (xs ((6 * k) + 2))).2))) rfl rfl (c_merge gKS_ok h8 h1.1 (xs ((6 * k) + 1)) (xs ((6 * k) + 2)) (by omega)) (fun f5 q1 q2 q3 => ?_)
  show gW X vwCl 7 (L1 ++ (mL o ad ++ [u])) f5 ((40 + 3 * k + rmC aS0 S) + (rmC S (s_merge S (xs ((6 * k) + 1)) (xs ((6 * k) + 2))).2)) ((930000 + 400 * k + rmS aS0 S) + (rmS S (s_merge S (xs ((6 * k) + 1)) (xs ((6 * k) + 2))).2)) 1199 [(4, .int (nI (6 * k))), (3, .ref u), (2, .ref o), (1, .ref x), (0, .ref bs)] [.int ((s_merge S (xs ((6 * k) + 1)) (xs ((6 * k) + 2))).1), .int ((s_merge S (xs ((6 * k) + 1)) (xs ((6 * k) + 2))).1)]
  refine g_icmp_eq (x := (s_merge S (xs ((6 * k) + 1)) (xs ((6 * k) + 2))).1) (y := (s_merge S (xs ((6 * k) + 1)) (xs ((6 * k) + 2))).1) (tgt := 1261) hC dL_law_1199 (by decide) (fun _ => ?_) (fun h => absurd rfl h)
  have hp23 := p_merge h1 hk (xs ((6 * k) + 1)) (xs ((6 * k) + 2))
  refine g_widen (c2 := 40 + 3 * (k + 1) + rmC aS0 (s_merge S (xs ((6 * k) + 1)) (xs ((6 * k) + 2))).2) (s2 := 930000 + 400 * (k + 1) + rmS aS0 (s_merge S (xs ((6 * k) + 1)) (xs ((6 * k) + 2))).2) (by omega) (by omega) ?_
  exact kk _ b1 L1 f5 ⟨hL9, hx1.cg q2, hxo1, q1, (q3.trans (hM1 u (by simp))).trans h5, hd1, h8, h9.tr hmo, by omega, by omega⟩
set_option maxRecDepth 20000 in
set_option maxHeartbeats 4000000 in
theorem lc_kept (hC : gC X l room_1 D vwCl (cyT cy) (gKS D cy adK adV) cL_law 7 wsL_law RL) (hX : va_X bs N xs X.2.1.1 X.2.1.1.heap) (hbl : bs < X.2.1.1.heap.size) (hbA : ¬ X.2.2.2.1 bs) (hN : N ≤ 3072) (hI : lwI cy x o u ad k S b Lx F gl) (h6 : 6 * k + 6 ≤ N) (kk : ∀ S' b' L' F', lwI cy x o u ad (k + 1) S' b' L' F' gl → gW X vwCl 7 (L' ++ (mL o ad ++ [u])) F' (40 + 3 * (k + 1) + rmC aS0 S') (930000 + 400 * (k + 1) + rmS aS0 S') 1261 [(4, .int (nI (6 * k))), (3, .ref u), (2, .ref o), (1, .ref x), (0, .ref bs)] []) : gW X vwCl 7 (Lx ++ (mL o ad ++ [u])) F (40 + 3 * k + rmC aS0 S) (930000 + 400 * k + rmS aS0 S) 1204 [(4, .int (nI (6 * k))), (3, .ref u), (2, .ref o), (1, .ref x), (0, .ref bs)] [] := by
  obtain ⟨h1, h2, h3, h4, h5, h7, h8, h9, h10, h11⟩ := hI
  have hk : k ≤ 511 := by omega
  refine g_aload_n hC dL_law_1204 rfl 3 rfl (Or.inr ⟨_, rfl⟩) ?_
  have hL9 : LI (k + 1) (s_kept S).2 := h1.st (q_kept)
  have hmo : mo S (s_kept S).2 := mo.qt (q_kept)
  have hra := rm_add h9 hmo
  have hbd := rm_bd hL9 (by omega)
  refine g_cls (As := []) (st := []) hC 0 dL_law_1205 h2 h3 h7 gL_law_X9_kept rfl (by decide +kernel) ⟨Nat.le_of_ble_eq_true rfl, Nat.le_of_ble_eq_true rfl⟩ rfl (Nat.le_of_ble_eq_true rfl) ⟨(show (40 + 3 * k + rmC aS0 S) + 0 ≤ 601024 by omega), (show (930000 + 400 * k + rmS aS0 S) + 0 ≤ 7293034 by omega)⟩ (c2 := (40 + 3 * k + rmC aS0 S)) (s2 := (930000 + 400 * k + rmS aS0 S)) rfl rfl ((y_kept h2 h1.1 x h3).K gKS_K) (fun L1 f2 b1 hx1 hxo1 hM1 hd1 => ?_)
  show gW X vwCl 7 (L1 ++ (mL o ad ++ [u])) f2 (40 + 3 * k + rmC aS0 S) (930000 + 400 * k + rmS aS0 S) 1208 [(4, .int (nI (6 * k))), (3, .ref u), (2, .ref o), (1, .ref x), (0, .ref bs)] [.int ((s_kept S).1)]
  have hFm2 : ∀ a, a ∈ mL o ad → f2 a = mW o ad cy S a := fun a ha => (hM1 a (List.mem_append_left _ ha)).trans (h4 a ha)
  refine g_aload_n hC dL_law_1208 rfl 2 rfl (Or.inr ⟨_, rfl⟩) ?_
  refine g_ref (As := []) (st := [.int ((s_kept S).1)]) hC 0 dL_law_1209 hFm2 gL_law_X10_kept rfl (by decide +kernel) ⟨Nat.le_of_ble_eq_true rfl, Nat.le_of_ble_eq_true rfl⟩ rfl (Nat.le_of_ble_eq_true rfl) ⟨(show (40 + 3 * k + rmC aS0 S) + 0 ≤ 601024 by omega), (show (930000 + 400 * k + rmS aS0 S) + 0 ≤ 7293034 by omega)⟩ (c2 := (40 + 3 * k + rmC aS0 S)) (s2 := (930000 + 400 * k + rmS aS0 S)) rfl rfl (c_kept gKS_ok h8 h1.1) (fun f5 q1 q2 q3 => ?_)
  show gW X vwCl 7 (L1 ++ (mL o ad ++ [u])) f5 (40 + 3 * k + rmC aS0 S) (930000 + 400 * k + rmS aS0 S) 1212 [(4, .int (nI (6 * k))), (3, .ref u), (2, .ref o), (1, .ref x), (0, .ref bs)] [.int ((s_kept S).1), .int ((s_kept S).1)]
  refine g_icmp_eq (x := (s_kept S).1) (y := (s_kept S).1) (tgt := 1261) hC dL_law_1212 (by decide) (fun _ => ?_) (fun h => absurd rfl h)
  have hp23 : (s_kept S).2.1 23 = S.1 23 ∧ (s_kept S).2.1 24 = S.1 24 := by unfold s_kept; (repeat' split) <;> exact ⟨rfl, rfl⟩
  refine g_widen (c2 := 40 + 3 * (k + 1) + rmC aS0 (s_kept S).2) (s2 := 930000 + 400 * (k + 1) + rmS aS0 (s_kept S).2) (by omega) (by omega) ?_
  exact kk _ b1 L1 f5 ⟨hL9, hx1.cg q2, hxo1, q1, (q3.trans (hM1 u (by simp))).trans h5, hd1, h8, h9.tr hmo, by omega, by omega⟩
end LC
