theorem aN_aN {S : aS} {k j x y : Nat} : aN (aN S k j x) k j y = aN S k j y := by
  unfold aN
  congr 2
  funext i
  unfold va_up
  by_cases h : i = k
  · subst h
    simp only [if_pos]
    funext z
    by_cases e : z = j <;> simp [e]
  · simp [h]
theorem lkG_or {S : aS} {t r : Nat} : ∀ f i n, i < S.2.1 15 t → (∀ d, d < f → ¬ stp S t r ((i + d) % S.2.1 15 t)) ∨ (lkG S t r f i n).2 < n + f
  | 0, _, _, _ => Or.inl (fun d h => absurd h (by omega))
  | f + 1, i, n, hi => by
    by_cases h : stp S t r i
    · right; rw [lkG_stp h]; show n < n + (f + 1); omega
    · rcases lkG_or (S := S) (t := t) (r := r) f ((i + 1) % S.2.1 15 t) (n + 1) (Nat.mod_lt _ (by omega)) with q | q
      · left
        intro d hd
        rcases d with _ | d
        · rw [Nat.add_zero, Nat.mod_eq_of_lt hi]; exact h
        · have := q d (by omega)
          rwa [Nat.mod_add_mod, show i + 1 + d = i + (d + 1) by omega] at this
      · right
        rw [lkG, if_neg h]
        omega
theorem mod_at {i j n : Nat} (hi : i < n) (hj : j < n) : ∃ d, d < n ∧ (i + d) % n = j := by
  by_cases h : i ≤ j
  · exact ⟨j - i, by omega, by rw [show i + (j - i) = j by omega]; exact Nat.mod_eq_of_lt hj⟩
  · exact ⟨j + n - i, by omega, by rw [show i + (j + n - i) = j + n by omega, Nat.add_mod_right]; exact Nat.mod_eq_of_lt hj⟩
theorem tOk.fr {S : aS} {t : Nat} (h : tOk S t) : ∃ j, j < S.2.1 15 t ∧ S.2.1 19 (256 * t + j) = 0 := by
  have h1 := h.sl
  obtain ⟨h2, h3, h4, h5, h6, h7, h8⟩ := h
  exact cnz_ex _ (by omega)
theorem lk_b {S : aS} {t r : Nat} (h : tOk S t) : (lk S t r).2 ≤ S.2.1 15 t := by
  have h1 := h.sl
  have h0 : fst0 S t r < S.2.1 15 t := Nat.mod_lt _ (by omega)
  rcases lkG_or (S := S) (t := t) (r := r) (S.2.1 15 t) (fst0 S t r) 1 h0 with q | q
  · obtain ⟨j, hj, hz⟩ := h.fr
    obtain ⟨d, hd, he⟩ := mod_at h0 hj
    have := q d hd
    rw [he] at this
    exact absurd (Or.inl hz) this
  · unfold lk; omega
theorem lk_i {S : aS} {t r : Nat} (h : tOk S t) : (lk S t r).1 < S.2.1 15 t := by
  have h1 := h.sl
  have : ∀ f i n, i < S.2.1 15 t → (lkG S t r f i n).1 < S.2.1 15 t := by
    intro f
    induction f with
    | zero => intro i n hi; exact hi
    | succ f ih =>
      intro i n hi
      rw [lkG]
      split
      · exact hi
      · exact ih _ _ (Nat.mod_lt _ (by omega))
  exact this _ _ _ (Nat.mod_lt _ (by omega))
theorem bc_hshO {S : aS} {r : Nat} : hsh (bcF S r) (S.2.1 5 r) ^^^ ((hsh (bcF S r) (S.2.1 5 r)).toUInt32 >>> ((nI 16).toUInt32 &&& Int32.toUInt32 31)).toInt32 = hshO S r := by
  rw [bc_hsh]; rfl
section X5
variable {l : Launch} {D : va_G} {cy adK adV : Nat → Nat} {L : List Nat} {f : Nat → va_E}
set_option maxRecDepth 20000 in
set_option maxHeartbeats 4000000 in
theorem x_firstSlot_T {S : aS} {b : xB} (hx : xR cy S b L f) (t T : Nat) (ht : t < S.1 13) (hT : b.1 6 t = T) (hkb : S.2.1 14 t = 0) (r A : Nat) (hr : r < S.1 4) (hA : b.1 0 r = A) (hl : ∀ r, r < S.1 4 → S.2.1 5 r ≤ 16) (hsz : ∃ e, 2 ≤ e ∧ e ≤ 8 ∧ S.2.1 15 t = 2 ^ e) : gCt l D vwCl (gKK D cy adK adV) yX7_firstSlot wsX7_firstSlot { frames := 2, cells := 0, slots := 0, locals := 44 } [.ref T, .ref A] L f (pE (some (.int (nI (fst0 S t r)))) L f) := by
  refine gCt.of gKK_ok (by decide) rfl rfl (fun X hC hR hnm => ?_)
  have hC : gC X l _ D vwCl (cyT cy) (gKK D cy adK adV) cX7_firstSlot 3 wsX7_firstSlot RX7 := hC
  show gW X vwCl 3 L f 0 0 0 [(0, .ref T), (1, .ref A)] []
  have hsb := sz_b hsz
  refine g_aload_n hC dX7_firstSlot_0 rfl 1 rfl (Or.inr ⟨_, rfl⟩) ?_
  refine g_U (As := []) (st := []) hC 0 dX7_firstSlot_1 rfl (hx.B hr hA).1 (hx.B hr hA).2 gX7_firstSlot_X2_contentHash_u65X0 rfl rfl (by decide +kernel) ⟨Nat.le_of_ble_eq_true rfl, Nat.le_of_ble_eq_true rfl⟩ rfl (Nat.le_of_ble_eq_true rfl) ⟨Nat.le_of_ble_eq_true rfl, Nat.le_of_ble_eq_true rfl⟩ (c2 := 0) (s2 := 0) rfl rfl (x_2_contentHash_B A _ _ _ (hx.isB hr hA (hl r hr))) ?_
  refine g_istore_n (lv' := [(2, .int (hsh (bcF S r) (S.2.1 5 r))), (0, .ref T), (1, .ref A)]) hC dX7_firstSlot_4 rfl (by decide) rfl ?_
  refine g_iload_n hC dX7_firstSlot_5 rfl 0 rfl ?_
  refine g_iload_n hC dX7_firstSlot_6 rfl 0 rfl ?_
  refine g_bipush hC dX7_firstSlot_7 (v := nI 16) (by decide) ?_
  refine g_iushr hC dX7_firstSlot_9 rfl ?_
  refine g_ixor hC dX7_firstSlot_10 ?_
  refine g_aload_n hC dX7_firstSlot_11 rfl 1 rfl (Or.inr ⟨_, rfl⟩) ?_
  refine g_get hC (by decide +kernel) rfl (hx.T ht hT hkb).1 (hx.T ht hT hkb).2 1 (by decide) (by decide +kernel) (Or.inl rfl) rfl dX7_firstSlot_12 ?_
  refine g_alen hC 2 rfl (hx.Ts ht rfl).1 (hx.Ts ht rfl).2 dX7_firstSlot_15 ?_
  refine g_iconst hC dX7_firstSlot_16 (v := nI 1) (by decide) ?_
  refine g_isubN (a := S.2.1 15 t) (b := 1) hC (by omega) dX7_firstSlot_17 ?_
  refine g_iand hC dX7_firstSlot_18 ?_
  exact g_iret hC hR dX7_firstSlot_19 ⟨congrArg (fun z => some (Value.int z)) (by rw [bc_hshO]; exact and_sl _ hsz), rfl, rfl⟩
set_option maxRecDepth 20000 in
set_option maxHeartbeats 4000000 in
theorem x_nextSlot_T {S : aS} {b : xB} (hx : xR cy S b L f) (t T : Nat) (ht : t < S.1 13) (hT : b.1 6 t = T) (hkb : S.2.1 14 t = 0) (hsz : ∃ e, 2 ≤ e ∧ e ≤ 8 ∧ S.2.1 15 t = 2 ^ e) (i : Nat) (hi : i < S.2.1 15 t) : gCt l D vwCl (gKK D cy adK adV) yX7_nextSlot wsX7_nextSlot { frames := 0, cells := 0, slots := 0, locals := 0 } [.ref T, .int (nI i)] L f (pE (some (.int (nI ((i + 1) % S.2.1 15 t)))) L f) := by
  refine gCt.of gKK_ok (by decide) rfl rfl (fun X hC hR hnm => ?_)
  have hC : gC X l _ D vwCl (cyT cy) (gKK D cy adK adV) cX7_nextSlot 2 wsX7_nextSlot RX7 := hC
  show gW X vwCl 2 L f 0 0 0 [(0, .ref T), (1, .int (nI i))] []
  have hsb := sz_b hsz
  refine g_iload_n hC dX7_nextSlot_0 rfl 1 rfl ?_
  refine g_iconst hC dX7_nextSlot_1 (v := nI 1) (by decide) ?_
  refine g_iaddN (a := i) (b := 1) hC dX7_nextSlot_2 ?_
  refine g_aload_n hC dX7_nextSlot_3 rfl 0 rfl (Or.inr ⟨_, rfl⟩) ?_
  refine g_get hC (by decide +kernel) rfl (hx.T ht hT hkb).1 (hx.T ht hT hkb).2 1 (by decide) (by decide +kernel) (Or.inl rfl) rfl dX7_nextSlot_4 ?_
  refine g_alen hC 2 rfl (hx.Ts ht rfl).1 (hx.Ts ht rfl).2 dX7_nextSlot_7 ?_
  refine g_iconst hC dX7_nextSlot_8 (v := nI 1) (by decide) ?_
  refine g_isubN (a := S.2.1 15 t) (b := 1) hC (by omega) dX7_nextSlot_9 ?_
  refine g_iand hC dX7_nextSlot_10 ?_
  exact g_iret hC hR dX7_nextSlot_11 ⟨congrArg (fun z => some (Value.int z)) (and_slN (by omega) hsz), rfl, rfl⟩
set_option maxRecDepth 20000 in
set_option maxHeartbeats 4000000 in
theorem x_lookFor_T {S : aS} {b : xB} (hx : xR cy S b L f) (t T : Nat) (ht : t < S.1 13) (hT : b.1 6 t = T) (hkb : S.2.1 14 t = 0) (r A : Nat) (hr : r < S.1 4) (hA : b.1 0 r = A) (hl : ∀ r, r < S.1 4 → S.2.1 5 r ≤ 16) (hk9 : tOk S t) : gCt l D vwCl (gKK D cy adK adV) yX7_lookFor wsX7_lookFor { frames := 3, cells := 0, slots := 0, locals := 66 } [.ref T, .ref A] L f (xQ cy ((aN S 17 t (lk S t r).2)) b (some (.int (nI (lk S t r).1)))) := by
  refine gCt.of gKK_ok (by decide) rfl rfl (fun X hC hR hnm => ?_)
  have hC : gC X l _ D vwCl (cyT cy) (gKK D cy adK adV) cX7_lookFor 3 wsX7_lookFor RX7 := hC
  show gW X vwCl 3 L f 0 0 0 [(0, .ref T), (1, .ref A)] []
  have hsz := hk9.1
  have hsb := sz_b hsz
  have hlb := lk_b (r := r) hk9
  have htm := hk9.2.1
  refine g_aload_n hC dX7_lookFor_0 rfl 0 rfl (Or.inr ⟨_, rfl⟩) ?_
  refine g_aload_n hC dX7_lookFor_1 rfl 1 rfl (Or.inr ⟨_, rfl⟩) ?_
  refine g_V (As := [.ref A]) (st := []) hC 1 dX7_lookFor_2 rfl (hx.T ht hT hkb).1 (hx.T ht hT hkb).2 gX7_lookFor_X7_firstSlot rfl (by decide +kernel) ⟨Nat.le_of_ble_eq_true rfl, Nat.le_of_ble_eq_true rfl⟩ rfl (Nat.le_of_ble_eq_true rfl) ⟨Nat.le_of_ble_eq_true rfl, Nat.le_of_ble_eq_true rfl⟩ (c2 := 0) (s2 := 0) rfl rfl (x_firstSlot_T hx t T ht hT hkb r A hr hA hl hsz) ?_
  refine g_istore_n (lv' := [(2, .int (nI (fst0 S t r))), (0, .ref T), (1, .ref A)]) hC dX7_lookFor_5 rfl (by decide) rfl ?_
  refine g_aload_n hC dX7_lookFor_6 rfl 1 rfl (Or.inr ⟨_, rfl⟩) ?_
  refine g_iconst hC dX7_lookFor_7 (v := nI 1) (by decide) ?_
  refine g_put hC (by decide +kernel) tyX7 tyX7_ok nmX7 rfl (hx.T ht hT hkb).1 (hx.T ht hT hkb).2 3 (by decide) (by decide +kernel) (Or.inl rfl) rfl (tyX7_ok 3 (by decide)) rfl rfl (show 3 < 5 by decide) dX7_lookFor_8 ?_
  refine g_fx (P := xR cy ((aN S 17 t 1)) b) (hx.u17t (n := 1) ht hkb hT) (fun f1 hx1 => ?_)
  have lp : ∀ (m : Nat) (i n : Nat) (f1 : Nat → va_E), S.2.1 15 t + 1 - n < m → (i < S.2.1 15 t) → (1 ≤ n) → (n ≤ S.2.1 15 t) → (lkG S t r (S.2.1 15 t + 1 - n) i n = lk S t r) → (xR cy (aN S 17 t n) b L f1) → gW X vwCl 3 L f1 0 0 11 [(2, .int (nI i)), (0, .ref T), (1, .ref A)] [] := by
    intro m
    induction m with
    | zero => intros; omega
    | succ m ih =>
      intro i n f1 hm9 hi hn1 hn2 hg hx1
      have hso := hk9.2.2.2.2.2.1 i hi
      refine g_aload_n hC dX7_lookFor_11 rfl 1 rfl (Or.inr ⟨_, rfl⟩) ?_
      refine g_get hC (by decide +kernel) rfl (hx1.T ht hT hkb).1 (hx1.T ht hT hkb).2 3 (by decide) (by decide +kernel) (Or.inl rfl) rfl dX7_lookFor_12 ?_
      refine g_val (w := .int (nI n)) (by simp [aSc, aN, aW, aNr, aWr, va_up]) ?_
      refine g_aload_n hC dX7_lookFor_15 rfl 1 rfl (Or.inr ⟨_, rfl⟩) ?_
      refine g_get hC (by decide +kernel) rfl (hx1.T ht hT hkb).1 (hx1.T ht hT hkb).2 1 (by decide) (by decide +kernel) (Or.inl rfl) rfl dX7_lookFor_16 ?_
      refine g_alen hC 2 rfl (hx1.Ts ht rfl).1 (hx1.Ts ht rfl).2 dX7_lookFor_19 ?_
      refine g_icmpN_ge (a := n) (b := S.2.1 15 t) (tgt := 73) hC dX7_lookFor_20 (by decide) (by omega) (by omega) (fun h20 => ?_) (fun h20 => ?_)
      · have hx9 : lkG S t r (S.2.1 15 t + 1 - n) i n = (i, n) := by
          by_cases hst : stp S t r i
          · exact lkG_stp hst _
          · exfalso
            rw [← hg, show S.2.1 15 t + 1 - n = 0 + 1 by omega, lkG, if_neg hst] at hlb
            have : n + 1 ≤ S.2.1 15 t := hlb
            omega
        refine g_iload_n hC dX7_lookFor_73 rfl 0 rfl ?_
        have e9 : lk S t r = (i, n) := by rw [← hg]; exact hx9
        exact g_iret hC hR dX7_lookFor_74 ⟨by rw [e9], by rw [e9]; exact hx1⟩
      · refine g_aload_n hC dX7_lookFor_23 rfl 1 rfl (Or.inr ⟨_, rfl⟩) ?_
        refine g_get hC (by decide +kernel) rfl (hx1.T ht hT hkb).1 (hx1.T ht hT hkb).2 1 (by decide) (by decide +kernel) (Or.inl rfl) rfl dX7_lookFor_24 ?_
        refine g_iload_n hC dX7_lookFor_27 rfl 0 rfl ?_
        refine g_iald hC 2 rfl (hx1.Ts ht rfl).1 (hx1.Ts ht rfl).2 (i) rfl (show i < S.2.1 15 t by omega) (show S.2.1 15 t < 2 ^ 31 by omega) dX7_lookFor_28 ?_
        refine g_val (w := .int (slv (S.2.1 19 (256 * t + i)))) (congrArg Value.int (if_pos hi)) ?_
        refine g_bipush hC dX7_lookFor_29 (v := (-3)) (by decide) ?_
        refine g_icmp_eq (x := slv (S.2.1 19 (256 * t + i))) (y := (-3)) (tgt := 52) hC dX7_lookFor_31 (by decide) (fun h31 => ?_) (fun h31 => ?_)
        · have hx9 : lkG S t r (S.2.1 15 t + 1 - n) i n = (i, n) := lkG_stp (Or.inl ((slv_3 (by omega)).mp h31)) _
          refine g_iload_n hC dX7_lookFor_52 rfl 0 rfl ?_
          have e9 : lk S t r = (i, n) := by rw [← hg]; exact hx9
          exact g_iret hC hR dX7_lookFor_53 ⟨by rw [e9], by rw [e9]; exact hx1⟩
        · refine g_aload_n hC dX7_lookFor_34 rfl 1 rfl (Or.inr ⟨_, rfl⟩) ?_
          refine g_get hC (by decide +kernel) rfl (hx1.T ht hT hkb).1 (hx1.T ht hT hkb).2 0 (by decide) (by decide +kernel) (Or.inl rfl) rfl dX7_lookFor_35 ?_
          refine g_aload_n hC dX7_lookFor_38 rfl 1 rfl (Or.inr ⟨_, rfl⟩) ?_
          refine g_get hC (by decide +kernel) rfl (hx1.T ht hT hkb).1 (hx1.T ht hT hkb).2 1 (by decide) (by decide +kernel) (Or.inl rfl) rfl dX7_lookFor_39 ?_
          refine g_iload_n hC dX7_lookFor_42 rfl 0 rfl ?_
          refine g_iald hC 2 rfl (hx1.Ts ht rfl).1 (hx1.Ts ht rfl).2 (i) rfl (show i < S.2.1 15 t by omega) (show S.2.1 15 t < 2 ^ 31 by omega) dX7_lookFor_43 ?_
          have hx0 : S.2.1 19 (256 * t + i) ≠ 0 := fun q => h31 ((slv_3 (by omega)).mpr q)
          refine g_val (w := .int (nI (S.2.1 19 (256 * t + i) - 1))) (congrArg Value.int ((if_pos hi).trans (slv_n hx0))) ?_
          refine g_aald hC 4 rfl (hx1.Tt ht rfl).1 (hx1.Tt ht rfl).2 (S.2.1 19 (256 * t + i) - 1) rfl (show S.2.1 19 (256 * t + i) - 1 < 100 by omega) (by decide) dX7_lookFor_44 ?_
          refine g_val (w := .ref (b.1 0 (S.2.1 20 (100 * t + (S.2.1 19 (256 * t + i) - 1))))) (congrArg va_rf (if_pos (show S.2.1 19 (256 * t + i) - 1 < S.2.1 16 t by omega))) ?_
          have hto : S.2.1 20 (100 * t + (S.2.1 19 (256 * t + i) - 1)) < S.1 4 := hk9.2.2.2.2.1 _ (by omega)
          refine g_aload_n hC dX7_lookFor_45 rfl 2 rfl (Or.inr ⟨_, rfl⟩) ?_
          refine g_V (As := [.ref A]) (st := []) hC 1 dX7_lookFor_46 rfl (hx1.B hto rfl).1 (hx1.B hto rfl).2 gX7_lookFor_X0_isLike rfl (by decide +kernel) ⟨Nat.le_of_ble_eq_true rfl, Nat.le_of_ble_eq_true rfl⟩ rfl (Nat.le_of_ble_eq_true rfl) ⟨Nat.le_of_ble_eq_true rfl, Nat.le_of_ble_eq_true rfl⟩ (c2 := 0) (s2 := 0) rfl rfl (x_0_isLike_B _ _ _ _ _ _ _ _ (hx1.isB hto rfl (hl _ hto)) (hx1.isB hr hA (hl _ hr))) ?_
          refine g_ifB_eq (P := (aN S 17 t n).2.1 5 (S.2.1 20 (100 * t + (S.2.1 19 (256 * t + i) - 1))) = (aN S 17 t n).2.1 5 r ∧ ∀ i9, i9 < (aN S 17 t n).2.1 5 (S.2.1 20 (100 * t + (S.2.1 19 (256 * t + i) - 1))) → bcF (aN S 17 t n) (S.2.1 20 (100 * t + (S.2.1 19 (256 * t + i) - 1))) i9 = bcF (aN S 17 t n) r i9) (tgt := 54) hC dX7_lookFor_49 (by decide) (fun h49 => ?_) (fun h49 => ?_)
          · have hns : ¬ stp S t r i := fun q => by
              rcases q with q | q
              · exact hx0 q
              · exact h49 ((bc_lik (S := (aN S 17 t n))).mpr q)
            refine g_aload_n hC dX7_lookFor_54 rfl 1 rfl (Or.inr ⟨_, rfl⟩) ?_
            refine g_iload_n hC dX7_lookFor_55 rfl 0 rfl ?_
            refine g_V (As := [.int (nI i)]) (st := []) hC 1 dX7_lookFor_56 rfl (hx1.T ht hT hkb).1 (hx1.T ht hT hkb).2 gX7_lookFor_X7_nextSlot rfl (by decide +kernel) ⟨Nat.le_of_ble_eq_true rfl, Nat.le_of_ble_eq_true rfl⟩ rfl (Nat.le_of_ble_eq_true rfl) ⟨Nat.le_of_ble_eq_true rfl, Nat.le_of_ble_eq_true rfl⟩ (c2 := 0) (s2 := 0) rfl rfl (x_nextSlot_T hx1 t T ht hT hkb hsz i hi) ?_
            refine g_istore_n (lv' := [(2, .int (nI ((i + 1) % S.2.1 15 t))), (0, .ref T), (1, .ref A)]) hC dX7_lookFor_59 rfl (by decide) rfl ?_
            refine g_aload_n hC dX7_lookFor_60 rfl 1 rfl (Or.inr ⟨_, rfl⟩) ?_
            refine g_dup hC dX7_lookFor_61 rfl ?_
            refine g_get hC (by decide +kernel) rfl (hx1.T ht hT hkb).1 (hx1.T ht hT hkb).2 3 (by decide) (by decide +kernel) (Or.inl rfl) rfl dX7_lookFor_62 ?_
            refine g_val (w := .int (nI n)) (by simp [aSc, aN, aW, aNr, aWr, va_up]) ?_
            refine g_iconst hC dX7_lookFor_65 (v := nI 1) (by decide) ?_
            refine g_iaddN (a := n) (b := 1) hC dX7_lookFor_66 ?_
            refine g_put hC (by decide +kernel) tyX7 tyX7_ok nmX7 rfl (hx1.T ht hT hkb).1 (hx1.T ht hT hkb).2 3 (by decide) (by decide +kernel) (Or.inl rfl) rfl (tyX7_ok 3 (by decide)) rfl rfl (show 3 < 5 by decide) dX7_lookFor_67 ?_
            refine g_fx (P := xR cy ((aN S 17 t (n + 1))) b) (by have z := hx1.u17t (n := n + 1) ht hkb hT; rwa [aN_aN] at z) (fun f2 hx2 => ?_)
            refine g_goto (tgt := 11) hC dX7_lookFor_70 (by decide) ?_
            exact ih ((i + 1) % S.2.1 15 t) (n + 1) f2 (by omega) (Nat.mod_lt _ (by omega)) (by omega) (by omega) (by rw [← hg, show S.2.1 15 t + 1 - n = (S.2.1 15 t + 1 - (n + 1)) + 1 by omega, lkG, if_neg hns]) hx2
          · have hx9 : lkG S t r (S.2.1 15 t + 1 - n) i n = (i, n) := lkG_stp (S := S) (Or.inr (bc_lik.mp h49)) _
            refine g_iload_n hC dX7_lookFor_52 rfl 0 rfl ?_
            have e9 : lk S t r = (i, n) := by rw [← hg]; exact hx9
            exact g_iret hC hR dX7_lookFor_53 ⟨by rw [e9], by rw [e9]; exact hx1⟩
  exact lp (S.2.1 15 t + 1) (fst0 S t r) 1 _ (by omega) (Nat.mod_lt _ (by omega)) (by omega) (by omega) rfl hx1
set_option maxRecDepth 20000 in
set_option maxHeartbeats 4000000 in
theorem x_numberOf_T {S : aS} {b : xB} (hx : xR cy S b L f) (t T : Nat) (ht : t < S.1 13) (hT : b.1 6 t = T) (hkb : S.2.1 14 t = 0) (r A : Nat) (hr : r < S.1 4) (hA : b.1 0 r = A) (hl : ∀ r, r < S.1 4 → S.2.1 5 r ≤ 16) (hk9 : tOk S t) : gCt l D vwCl (gKK D cy adK adV) yX7_numberOf wsX7_numberOf { frames := 4, cells := 0, slots := 0, locals := 88 } [.ref T, .ref A] L f (xQ cy ((aN S 17 t (lk S t r).2)) b (some (.int (slv (S.2.1 19 (256 * t + (lk S t r).1)))))) := by
  refine gCt.of gKK_ok (by decide) rfl rfl (fun X hC hR hnm => ?_)
  have hC : gC X l _ D vwCl (cyT cy) (gKK D cy adK adV) cX7_numberOf 2 wsX7_numberOf RX7 := hC
  show gW X vwCl 2 L f 0 0 0 [(0, .ref T), (1, .ref A)] []
  have hsb := sz_b hk9.1
  have hli := lk_i (r := r) hk9
  refine g_aload_n hC dX7_numberOf_0 rfl 0 rfl (Or.inr ⟨_, rfl⟩) ?_
  refine g_get hC (by decide +kernel) rfl (hx.T ht hT hkb).1 (hx.T ht hT hkb).2 1 (by decide) (by decide +kernel) (Or.inl rfl) rfl dX7_numberOf_1 ?_
  refine g_aload_n hC dX7_numberOf_4 rfl 0 rfl (Or.inr ⟨_, rfl⟩) ?_
  refine g_aload_n hC dX7_numberOf_5 rfl 1 rfl (Or.inr ⟨_, rfl⟩) ?_
  refine g_Vx (As := [.ref A]) (st := [.ref (b.1 8 t)]) hC 1 dX7_numberOf_6 rfl (hx.T ht hT hkb).1 (hx.T ht hT hkb).2 gX7_numberOf_X7_lookFor rfl (by decide +kernel) ⟨Nat.le_of_ble_eq_true rfl, Nat.le_of_ble_eq_true rfl⟩ rfl (Nat.le_of_ble_eq_true rfl) ⟨Nat.le_of_ble_eq_true rfl, Nat.le_of_ble_eq_true rfl⟩ (c2 := 0) (s2 := 0) rfl rfl (x_lookFor_T hx t T ht hT hkb r A hr hA hl hk9) (fun v1 L1 f1 hp1 => ?_)
  obtain ⟨rfl, hx1⟩ := hp1
  show gW X vwCl 2 L1 f1 0 0 9 [(0, .ref T), (1, .ref A)] [.int (nI ((lk S t r).1)), .ref (b.1 8 t)]
  refine g_iald hC 2 rfl (hx1.Ts ht rfl).1 (hx1.Ts ht rfl).2 ((lk S t r).1) rfl (show (lk S t r).1 < S.2.1 15 t by omega) (show S.2.1 15 t < 2 ^ 31 by omega) dX7_numberOf_9 ?_
  exact g_iret hC hR dX7_numberOf_10 ⟨congrArg (fun z => some (Value.int z)) (if_pos hli), hx1⟩
set_option maxRecDepth 20000 in
set_option maxHeartbeats 4000000 in
theorem x_freeSlotFor_T {S : aS} {b : xB} (hx : xR cy S b L f) (t T : Nat) (ht : t < S.1 13) (hT : b.1 6 t = T) (hkb : S.2.1 14 t = 0) (r A : Nat) (hr : r < S.1 4) (hA : b.1 0 r = A) (hl : ∀ r, r < S.1 4 → S.2.1 5 r ≤ 16) (hsz : ∃ e, 2 ≤ e ∧ e ≤ 8 ∧ S.2.1 15 t = 2 ^ e) (hfr : ∃ j, j < S.2.1 15 t ∧ S.2.1 19 (256 * t + j) = 0) (hso : ∀ i, i < S.2.1 15 t → S.2.1 19 (256 * t + i) ≤ 100) : gCt l D vwCl (gKK D cy adK adV) yX7_freeSlotFor wsX7_freeSlotFor { frames := 3, cells := 0, slots := 0, locals := 66 } [.ref T, .ref A] L f (pE (some (.int (nI (frG S t (S.2.1 15 t) (fst0 S t r))))) L f) := by
  refine gCt.of gKK_ok (by decide) rfl rfl (fun X hC hR hnm => ?_)
  have hC : gC X l _ D vwCl (cyT cy) (gKK D cy adK adV) cX7_freeSlotFor 4 wsX7_freeSlotFor RX7 := hC
  show gW X vwCl 4 L f 0 0 0 [(0, .ref T), (1, .ref A)] []
  have hsb := sz_b hsz
  have hi0 : fst0 S t r < S.2.1 15 t := Nat.mod_lt _ (by omega)
  refine g_aload_n hC dX7_freeSlotFor_0 rfl 0 rfl (Or.inr ⟨_, rfl⟩) ?_
  refine g_aload_n hC dX7_freeSlotFor_1 rfl 1 rfl (Or.inr ⟨_, rfl⟩) ?_
  refine g_V (As := [.ref A]) (st := []) hC 1 dX7_freeSlotFor_2 rfl (hx.T ht hT hkb).1 (hx.T ht hT hkb).2 gX7_freeSlotFor_X7_firstSlot rfl (by decide +kernel) ⟨Nat.le_of_ble_eq_true rfl, Nat.le_of_ble_eq_true rfl⟩ rfl (Nat.le_of_ble_eq_true rfl) ⟨Nat.le_of_ble_eq_true rfl, Nat.le_of_ble_eq_true rfl⟩ (c2 := 0) (s2 := 0) rfl rfl (x_firstSlot_T hx t T ht hT hkb r A hr hA hl hsz) ?_
  refine g_istore_n (lv' := [(2, .int (nI (fst0 S t r))), (0, .ref T), (1, .ref A)]) hC dX7_freeSlotFor_5 rfl (by decide) rfl ?_
  refine g_iconst hC dX7_freeSlotFor_6 (v := nI 1) (by decide) ?_
  refine g_istore_n (lv' := [(3, .int (nI 1)), (2, .int (nI (fst0 S t r))), (0, .ref T), (1, .ref A)]) hC dX7_freeSlotFor_7 rfl (by decide) rfl ?_
  have lp : ∀ (m : Nat) (i n : Nat), S.2.1 15 t + 1 - n < m → (i < S.2.1 15 t) → (1 ≤ n) → (n ≤ S.2.1 15 t) → (frG S t (S.2.1 15 t + 1 - n) i = frG S t (S.2.1 15 t) (fst0 S t r)) → (i = (fst0 S t r + (n - 1)) % S.2.1 15 t) → (∀ d, d + 1 < n → S.2.1 19 (256 * t + (fst0 S t r + d) % S.2.1 15 t) ≠ 0) → gW X vwCl 4 L f 0 0 8 [(3, .int (nI n)), (2, .int (nI i)), (0, .ref T), (1, .ref A)] [] := by
    intro m
    induction m with
    | zero => intros; omega
    | succ m ih =>
      intro i n hm9 hi hn1 hn2 hg hie hvs
      refine g_iload_n hC dX7_freeSlotFor_8 rfl 0 rfl ?_
      refine g_aload_n hC dX7_freeSlotFor_9 rfl 2 rfl (Or.inr ⟨_, rfl⟩) ?_
      refine g_get hC (by decide +kernel) rfl (hx.T ht hT hkb).1 (hx.T ht hT hkb).2 1 (by decide) (by decide +kernel) (Or.inl rfl) rfl dX7_freeSlotFor_10 ?_
      refine g_alen hC 2 rfl (hx.Ts ht rfl).1 (hx.Ts ht rfl).2 dX7_freeSlotFor_13 ?_
      refine g_icmpN_ge (a := n) (b := S.2.1 15 t) (tgt := 40) hC dX7_freeSlotFor_14 (by decide) (by omega) (by omega) (fun h14 => ?_) (fun h14 => ?_)
      · have hx9 : frG S t (S.2.1 15 t + 1 - n) i = i := by
          obtain ⟨j, hj, hz⟩ := hfr
          obtain ⟨d, hd, he⟩ := mod_at hi0 hj
          by_cases hdn : d + 1 < n
          · exact absurd (he ▸ hz) (hvs d hdn)
          · have hji : j = i := by rw [← he, hie]; congr 1; omega
            rw [show S.2.1 15 t + 1 - n = 0 + 1 by omega, frG, if_pos (hji ▸ hz)]
        refine g_iload_n hC dX7_freeSlotFor_40 rfl 1 rfl ?_
        exact g_iret hC hR dX7_freeSlotFor_41 ⟨by rw [← hg, hx9], rfl, rfl⟩
      · refine g_aload_n hC dX7_freeSlotFor_17 rfl 2 rfl (Or.inr ⟨_, rfl⟩) ?_
        refine g_get hC (by decide +kernel) rfl (hx.T ht hT hkb).1 (hx.T ht hT hkb).2 1 (by decide) (by decide +kernel) (Or.inl rfl) rfl dX7_freeSlotFor_18 ?_
        refine g_iload_n hC dX7_freeSlotFor_21 rfl 1 rfl ?_
        refine g_iald hC 2 rfl (hx.Ts ht rfl).1 (hx.Ts ht rfl).2 (i) rfl (show i < S.2.1 15 t by omega) (show S.2.1 15 t < 2 ^ 31 by omega) dX7_freeSlotFor_22 ?_
        refine g_val (w := .int (slv (S.2.1 19 (256 * t + i)))) (congrArg Value.int (if_pos hi)) ?_
        refine g_bipush hC dX7_freeSlotFor_23 (v := (-3)) (by decide) ?_
        refine g_icmp_eq (x := slv (S.2.1 19 (256 * t + i))) (y := (-3)) (tgt := 40) hC dX7_freeSlotFor_25 (by decide) (fun h25 => ?_) (fun h25 => ?_)
        · have hx9 : frG S t (S.2.1 15 t + 1 - n) i = i := by
            rw [show S.2.1 15 t + 1 - n = (S.2.1 15 t - n) + 1 by omega, frG, if_pos ((slv_3 (by have := hso i hi; omega)).mp h25)]
          refine g_iload_n hC dX7_freeSlotFor_40 rfl 1 rfl ?_
          exact g_iret hC hR dX7_freeSlotFor_41 ⟨by rw [← hg, hx9], rfl, rfl⟩
        · have hnz : S.2.1 19 (256 * t + i) ≠ 0 := fun q => h25 ((slv_3 (by have := hso i hi; omega)).mpr q)
          refine g_aload_n hC dX7_freeSlotFor_28 rfl 2 rfl (Or.inr ⟨_, rfl⟩) ?_
          refine g_iload_n hC dX7_freeSlotFor_29 rfl 1 rfl ?_
          refine g_V (As := [.int (nI i)]) (st := []) hC 1 dX7_freeSlotFor_30 rfl (hx.T ht hT hkb).1 (hx.T ht hT hkb).2 gX7_freeSlotFor_X7_nextSlot rfl (by decide +kernel) ⟨Nat.le_of_ble_eq_true rfl, Nat.le_of_ble_eq_true rfl⟩ rfl (Nat.le_of_ble_eq_true rfl) ⟨Nat.le_of_ble_eq_true rfl, Nat.le_of_ble_eq_true rfl⟩ (c2 := 0) (s2 := 0) rfl rfl (x_nextSlot_T hx t T ht hT hkb hsz i hi) ?_
          refine g_istore_n (lv' := [(2, .int (nI ((i + 1) % S.2.1 15 t))), (3, .int (nI n)), (0, .ref T), (1, .ref A)]) hC dX7_freeSlotFor_33 rfl (by decide) rfl ?_
          refine g_iincN (n := 1) (a := n) (lv' := [(3, .int (nI (n + 1))), (2, .int (nI ((i + 1) % S.2.1 15 t))), (0, .ref T), (1, .ref A)]) hC dX7_freeSlotFor_34 1 rfl (by decide) rfl ?_
          refine g_goto (tgt := 8) hC dX7_freeSlotFor_37 (by decide) ?_
          exact ih ((i + 1) % S.2.1 15 t) (n + 1) (by omega) (Nat.mod_lt _ (by omega)) (by omega) (by omega) (by rw [← hg, show S.2.1 15 t + 1 - n = (S.2.1 15 t + 1 - (n + 1)) + 1 by omega, frG, if_neg hnz]) (by rw [hie, Nat.mod_add_mod]; congr 1; omega) (fun d hd => by
            by_cases e : d + 1 < n
            · exact hvs d e
            · rw [show d = n - 1 by omega, ← hie]; exact hnz)
  exact lp (S.2.1 15 t + 1) (fst0 S t r) 1 (by omega) hi0 (by omega) (by omega) rfl (by rw [Nat.sub_self, Nat.add_zero, Nat.mod_eq_of_lt hi0]) (fun d hd => by omega)
set_option maxRecDepth 20000 in
set_option maxHeartbeats 4000000 in
theorem x_figure_T {S : aS} {b : xB} (hx : xR cy S b L f) (t T : Nat) (ht : t < S.1 13) (hT : b.1 6 t = T) (hkb : S.2.1 14 t = 0) (v : Nat) (hv : v ≤ 3) : gCt l D vwCl (gKK D cy adK adV) yX7_figure wsX7_figure { frames := 0, cells := 0, slots := 0, locals := 0 } [.ref T, .int (nI v)] L f (pE (some (.int (nI (if v = 0 then S.2.1 16 t else if v = 1 then S.2.1 15 t else if v = 2 then S.2.1 17 t else S.2.1 18 t)))) L f) := by
  rcases (show v = 0 ∨ v = 1 ∨ v = 2 ∨ v = 3 by omega) with rfl | rfl | rfl | rfl
  · refine gCt.of gKK_ok (by decide) rfl rfl (fun X hC hR hnm => ?_)
    have hC : gC X l _ D vwCl (cyT cy) (gKK D cy adK adV) cX7_figure 2 wsX7_figure RX7 := hC
    show gW X vwCl 2 L f 0 0 0 [(0, .ref T), (1, .int (nI 0))] []
    refine g_iload_n hC dX7_figure_0 rfl 1 rfl ?_
    refine g_tableIn (tgt := 28) (off := 27) hC dX7_figure_1 (by decide) (by decide) rfl (by decide) ?_
    refine g_aload_n hC dX7_figure_28 rfl 0 rfl (Or.inr ⟨_, rfl⟩) ?_
    refine g_get hC (by decide +kernel) rfl (hx.T ht hT hkb).1 (hx.T ht hT hkb).2 2 (by decide) (by decide +kernel) (Or.inl rfl) rfl dX7_figure_29 ?_
    exact g_iret hC hR dX7_figure_32 ⟨rfl, rfl, rfl⟩
  · refine gCt.of gKK_ok (by decide) rfl rfl (fun X hC hR hnm => ?_)
    have hC : gC X l _ D vwCl (cyT cy) (gKK D cy adK adV) cX7_figure 2 wsX7_figure RX7 := hC
    show gW X vwCl 2 L f 0 0 0 [(0, .ref T), (1, .int (nI 1))] []
    refine g_iload_n hC dX7_figure_0 rfl 1 rfl ?_
    refine g_tableIn (tgt := 33) (off := 32) hC dX7_figure_1 (by decide) (by decide) rfl (by decide) ?_
    refine g_aload_n hC dX7_figure_33 rfl 0 rfl (Or.inr ⟨_, rfl⟩) ?_
    refine g_get hC (by decide +kernel) rfl (hx.T ht hT hkb).1 (hx.T ht hT hkb).2 1 (by decide) (by decide +kernel) (Or.inl rfl) rfl dX7_figure_34 ?_
    refine g_alen hC 2 rfl (hx.Ts ht rfl).1 (hx.Ts ht rfl).2 dX7_figure_37 ?_
    exact g_iret hC hR dX7_figure_38 ⟨rfl, rfl, rfl⟩
  · refine gCt.of gKK_ok (by decide) rfl rfl (fun X hC hR hnm => ?_)
    have hC : gC X l _ D vwCl (cyT cy) (gKK D cy adK adV) cX7_figure 2 wsX7_figure RX7 := hC
    show gW X vwCl 2 L f 0 0 0 [(0, .ref T), (1, .int (nI 2))] []
    refine g_iload_n hC dX7_figure_0 rfl 1 rfl ?_
    refine g_tableIn (tgt := 39) (off := 38) hC dX7_figure_1 (by decide) (by decide) rfl (by decide) ?_
    refine g_aload_n hC dX7_figure_39 rfl 0 rfl (Or.inr ⟨_, rfl⟩) ?_
    refine g_get hC (by decide +kernel) rfl (hx.T ht hT hkb).1 (hx.T ht hT hkb).2 3 (by decide) (by decide +kernel) (Or.inl rfl) rfl dX7_figure_40 ?_
    exact g_iret hC hR dX7_figure_43 ⟨rfl, rfl, rfl⟩
  · refine gCt.of gKK_ok (by decide) rfl rfl (fun X hC hR hnm => ?_)
    have hC : gC X l _ D vwCl (cyT cy) (gKK D cy adK adV) cX7_figure 2 wsX7_figure RX7 := hC
    show gW X vwCl 2 L f 0 0 0 [(0, .ref T), (1, .int (nI 3))] []
    refine g_iload_n hC dX7_figure_0 rfl 1 rfl ?_
    refine g_tableOut (tgt := 44) hC dX7_figure_1 (by decide) (by decide) ?_
    refine g_aload_n hC dX7_figure_44 rfl 0 rfl (Or.inr ⟨_, rfl⟩) ?_
    refine g_get hC (by decide +kernel) rfl (hx.T ht hT hkb).1 (hx.T ht hT hkb).2 4 (by decide) (by decide +kernel) (Or.inl rfl) rfl dX7_figure_45 ?_
    exact g_iret hC hR dX7_figure_48 ⟨rfl, rfl, rfl⟩
set_option maxRecDepth 20000 in
set_option maxHeartbeats 4000000 in
theorem x_firstSlot_K {S : aS} {b : xB} (hx : xR cy S b L f) (t T : Nat) (ht : t < S.1 13) (hT : b.1 6 t = T) (hkb : S.2.1 14 t ≠ 0) (r A : Nat) (hr : r < S.1 4) (hA : b.1 0 r = A) (hl : ∀ r, r < S.1 4 → S.2.1 5 r ≤ 16) (hsz : ∃ e, 2 ≤ e ∧ e ≤ 8 ∧ S.2.1 15 t = 2 ^ e) : gCt l D vwCl (gKK D cy adK adV) yX7_firstSlot wsX7_firstSlot { frames := 2, cells := 0, slots := 0, locals := 44 } [.ref T, .ref A] L f (pE (some (.int (nI (fst0 S t r)))) L f) := by
  refine gCt.of gKK_ok (by decide) rfl rfl (fun X hC hR hnm => ?_)
  have hC : gC X l _ D vwCl (cyT cy) (gKK D cy adK adV) cX7_firstSlot 3 wsX7_firstSlot RX7 := hC
  show gW X vwCl 3 L f 0 0 0 [(0, .ref T), (1, .ref A)] []
  have hsb := sz_b hsz
  refine g_aload_n hC dX7_firstSlot_0 rfl 1 rfl (Or.inr ⟨_, rfl⟩) ?_
  refine g_U (As := []) (st := []) hC 0 dX7_firstSlot_1 rfl (hx.B hr hA).1 (hx.B hr hA).2 gX7_firstSlot_X2_contentHash_u65X0 rfl rfl (by decide +kernel) ⟨Nat.le_of_ble_eq_true rfl, Nat.le_of_ble_eq_true rfl⟩ rfl (Nat.le_of_ble_eq_true rfl) ⟨Nat.le_of_ble_eq_true rfl, Nat.le_of_ble_eq_true rfl⟩ (c2 := 0) (s2 := 0) rfl rfl (x_2_contentHash_B A _ _ _ (hx.isB hr hA (hl r hr))) ?_
  refine g_istore_n (lv' := [(2, .int (hsh (bcF S r) (S.2.1 5 r))), (0, .ref T), (1, .ref A)]) hC dX7_firstSlot_4 rfl (by decide) rfl ?_
  refine g_iload_n hC dX7_firstSlot_5 rfl 0 rfl ?_
  refine g_iload_n hC dX7_firstSlot_6 rfl 0 rfl ?_
  refine g_bipush hC dX7_firstSlot_7 (v := nI 16) (by decide) ?_
  refine g_iushr hC dX7_firstSlot_9 rfl ?_
  refine g_ixor hC dX7_firstSlot_10 ?_
  refine g_aload_n hC dX7_firstSlot_11 rfl 1 rfl (Or.inr ⟨_, rfl⟩) ?_
  refine g_get hC (by decide +kernel) rfl (hx.K ht hT hkb).1 (hx.K ht hT hkb).2 1 (by decide) (by decide +kernel) (Or.inl rfl) rfl dX7_firstSlot_12 ?_
  refine g_alen hC 2 rfl (hx.Ts ht rfl).1 (hx.Ts ht rfl).2 dX7_firstSlot_15 ?_
  refine g_iconst hC dX7_firstSlot_16 (v := nI 1) (by decide) ?_
  refine g_isubN (a := S.2.1 15 t) (b := 1) hC (by omega) dX7_firstSlot_17 ?_
  refine g_iand hC dX7_firstSlot_18 ?_
  exact g_iret hC hR dX7_firstSlot_19 ⟨congrArg (fun z => some (Value.int z)) (by rw [bc_hshO]; exact and_sl _ hsz), rfl, rfl⟩
set_option maxRecDepth 20000 in
set_option maxHeartbeats 4000000 in
theorem x_nextSlot_K {S : aS} {b : xB} (hx : xR cy S b L f) (t T : Nat) (ht : t < S.1 13) (hT : b.1 6 t = T) (hkb : S.2.1 14 t ≠ 0) (hsz : ∃ e, 2 ≤ e ∧ e ≤ 8 ∧ S.2.1 15 t = 2 ^ e) (i : Nat) (hi : i < S.2.1 15 t) : gCt l D vwCl (gKK D cy adK adV) yX7_nextSlot wsX7_nextSlot { frames := 0, cells := 0, slots := 0, locals := 0 } [.ref T, .int (nI i)] L f (pE (some (.int (nI ((i + 1) % S.2.1 15 t)))) L f) := by
  refine gCt.of gKK_ok (by decide) rfl rfl (fun X hC hR hnm => ?_)
  have hC : gC X l _ D vwCl (cyT cy) (gKK D cy adK adV) cX7_nextSlot 2 wsX7_nextSlot RX7 := hC
  show gW X vwCl 2 L f 0 0 0 [(0, .ref T), (1, .int (nI i))] []
  have hsb := sz_b hsz
  refine g_iload_n hC dX7_nextSlot_0 rfl 1 rfl ?_
  refine g_iconst hC dX7_nextSlot_1 (v := nI 1) (by decide) ?_
  refine g_iaddN (a := i) (b := 1) hC dX7_nextSlot_2 ?_
  refine g_aload_n hC dX7_nextSlot_3 rfl 0 rfl (Or.inr ⟨_, rfl⟩) ?_
  refine g_get hC (by decide +kernel) rfl (hx.K ht hT hkb).1 (hx.K ht hT hkb).2 1 (by decide) (by decide +kernel) (Or.inl rfl) rfl dX7_nextSlot_4 ?_
  refine g_alen hC 2 rfl (hx.Ts ht rfl).1 (hx.Ts ht rfl).2 dX7_nextSlot_7 ?_
  refine g_iconst hC dX7_nextSlot_8 (v := nI 1) (by decide) ?_
  refine g_isubN (a := S.2.1 15 t) (b := 1) hC (by omega) dX7_nextSlot_9 ?_
  refine g_iand hC dX7_nextSlot_10 ?_
  exact g_iret hC hR dX7_nextSlot_11 ⟨congrArg (fun z => some (Value.int z)) (and_slN (by omega) hsz), rfl, rfl⟩
set_option maxRecDepth 20000 in
set_option maxHeartbeats 4000000 in
theorem x_lookFor_K {S : aS} {b : xB} (hx : xR cy S b L f) (t T : Nat) (ht : t < S.1 13) (hT : b.1 6 t = T) (hkb : S.2.1 14 t ≠ 0) (r A : Nat) (hr : r < S.1 4) (hA : b.1 0 r = A) (hl : ∀ r, r < S.1 4 → S.2.1 5 r ≤ 16) (hk9 : tOk S t) : gCt l D vwCl (gKK D cy adK adV) yX7_lookFor wsX7_lookFor { frames := 3, cells := 0, slots := 0, locals := 66 } [.ref T, .ref A] L f (xQ cy ((aN S 17 t (lk S t r).2)) b (some (.int (nI (lk S t r).1)))) := by
  refine gCt.of gKK_ok (by decide) rfl rfl (fun X hC hR hnm => ?_)
  have hC : gC X l _ D vwCl (cyT cy) (gKK D cy adK adV) cX7_lookFor 3 wsX7_lookFor RX7 := hC
  show gW X vwCl 3 L f 0 0 0 [(0, .ref T), (1, .ref A)] []
  have hsz := hk9.1
  have hsb := sz_b hsz
  have hlb := lk_b (r := r) hk9
  have htm := hk9.2.1
  refine g_aload_n hC dX7_lookFor_0 rfl 0 rfl (Or.inr ⟨_, rfl⟩) ?_
  refine g_aload_n hC dX7_lookFor_1 rfl 1 rfl (Or.inr ⟨_, rfl⟩) ?_
  refine g_U (As := [.ref A]) (st := []) hC 1 dX7_lookFor_2 rfl (hx.K ht hT hkb).1 (hx.K ht hT hkb).2 gX7_lookFor_X7_firstSlot_u69X1 rfl rfl (by decide +kernel) ⟨Nat.le_of_ble_eq_true rfl, Nat.le_of_ble_eq_true rfl⟩ rfl (Nat.le_of_ble_eq_true rfl) ⟨Nat.le_of_ble_eq_true rfl, Nat.le_of_ble_eq_true rfl⟩ (c2 := 0) (s2 := 0) rfl rfl (x_firstSlot_K hx t T ht hT hkb r A hr hA hl hsz) ?_
  refine g_istore_n (lv' := [(2, .int (nI (fst0 S t r))), (0, .ref T), (1, .ref A)]) hC dX7_lookFor_5 rfl (by decide) rfl ?_
  refine g_aload_n hC dX7_lookFor_6 rfl 1 rfl (Or.inr ⟨_, rfl⟩) ?_
  refine g_iconst hC dX7_lookFor_7 (v := nI 1) (by decide) ?_
  refine g_put hC (by decide +kernel) tyX1 tyX1_ok nmX1 rfl (hx.K ht hT hkb).1 (hx.K ht hT hkb).2 3 (by decide) (by decide +kernel) (Or.inl rfl) rfl (tyX1_ok 3 (by decide)) rfl rfl (show 3 < 6 by decide) dX7_lookFor_8 ?_
  refine g_fx (P := xR cy ((aN S 17 t 1)) b) (hx.u17k (n := 1) ht hkb hT) (fun f1 hx1 => ?_)
  have lp : ∀ (m : Nat) (i n : Nat) (f1 : Nat → va_E), S.2.1 15 t + 1 - n < m → (i < S.2.1 15 t) → (1 ≤ n) → (n ≤ S.2.1 15 t) → (lkG S t r (S.2.1 15 t + 1 - n) i n = lk S t r) → (xR cy (aN S 17 t n) b L f1) → gW X vwCl 3 L f1 0 0 11 [(2, .int (nI i)), (0, .ref T), (1, .ref A)] [] := by
    intro m
    induction m with
    | zero => intros; omega
    | succ m ih =>
      intro i n f1 hm9 hi hn1 hn2 hg hx1
      have hso := hk9.2.2.2.2.2.1 i hi
      refine g_aload_n hC dX7_lookFor_11 rfl 1 rfl (Or.inr ⟨_, rfl⟩) ?_
      refine g_get hC (by decide +kernel) rfl (hx1.K ht hT hkb).1 (hx1.K ht hT hkb).2 3 (by decide) (by decide +kernel) (Or.inl rfl) rfl dX7_lookFor_12 ?_
      refine g_val (w := .int (nI n)) (by simp [aSc, aN, aW, aNr, aWr, va_up]) ?_
      refine g_aload_n hC dX7_lookFor_15 rfl 1 rfl (Or.inr ⟨_, rfl⟩) ?_
      refine g_get hC (by decide +kernel) rfl (hx1.K ht hT hkb).1 (hx1.K ht hT hkb).2 1 (by decide) (by decide +kernel) (Or.inl rfl) rfl dX7_lookFor_16 ?_
      refine g_alen hC 2 rfl (hx1.Ts ht rfl).1 (hx1.Ts ht rfl).2 dX7_lookFor_19 ?_
      refine g_icmpN_ge (a := n) (b := S.2.1 15 t) (tgt := 73) hC dX7_lookFor_20 (by decide) (by omega) (by omega) (fun h20 => ?_) (fun h20 => ?_)
      · have hx9 : lkG S t r (S.2.1 15 t + 1 - n) i n = (i, n) := by
          by_cases hst : stp S t r i
          · exact lkG_stp hst _
          · exfalso
            rw [← hg, show S.2.1 15 t + 1 - n = 0 + 1 by omega, lkG, if_neg hst] at hlb
            have : n + 1 ≤ S.2.1 15 t := hlb
            omega
        refine g_iload_n hC dX7_lookFor_73 rfl 0 rfl ?_
        have e9 : lk S t r = (i, n) := by rw [← hg]; exact hx9
        exact g_iret hC hR dX7_lookFor_74 ⟨by rw [e9], by rw [e9]; exact hx1⟩
      · refine g_aload_n hC dX7_lookFor_23 rfl 1 rfl (Or.inr ⟨_, rfl⟩) ?_
        refine g_get hC (by decide +kernel) rfl (hx1.K ht hT hkb).1 (hx1.K ht hT hkb).2 1 (by decide) (by decide +kernel) (Or.inl rfl) rfl dX7_lookFor_24 ?_
        refine g_iload_n hC dX7_lookFor_27 rfl 0 rfl ?_
        refine g_iald hC 2 rfl (hx1.Ts ht rfl).1 (hx1.Ts ht rfl).2 (i) rfl (show i < S.2.1 15 t by omega) (show S.2.1 15 t < 2 ^ 31 by omega) dX7_lookFor_28 ?_
        refine g_val (w := .int (slv (S.2.1 19 (256 * t + i)))) (congrArg Value.int (if_pos hi)) ?_
        refine g_bipush hC dX7_lookFor_29 (v := (-3)) (by decide) ?_
        refine g_icmp_eq (x := slv (S.2.1 19 (256 * t + i))) (y := (-3)) (tgt := 52) hC dX7_lookFor_31 (by decide) (fun h31 => ?_) (fun h31 => ?_)
        · have hx9 : lkG S t r (S.2.1 15 t + 1 - n) i n = (i, n) := lkG_stp (Or.inl ((slv_3 (by omega)).mp h31)) _
          refine g_iload_n hC dX7_lookFor_52 rfl 0 rfl ?_
          have e9 : lk S t r = (i, n) := by rw [← hg]; exact hx9
          exact g_iret hC hR dX7_lookFor_53 ⟨by rw [e9], by rw [e9]; exact hx1⟩
        · refine g_aload_n hC dX7_lookFor_34 rfl 1 rfl (Or.inr ⟨_, rfl⟩) ?_
          refine g_get hC (by decide +kernel) rfl (hx1.K ht hT hkb).1 (hx1.K ht hT hkb).2 0 (by decide) (by decide +kernel) (Or.inl rfl) rfl dX7_lookFor_35 ?_
          refine g_aload_n hC dX7_lookFor_38 rfl 1 rfl (Or.inr ⟨_, rfl⟩) ?_
          refine g_get hC (by decide +kernel) rfl (hx1.K ht hT hkb).1 (hx1.K ht hT hkb).2 1 (by decide) (by decide +kernel) (Or.inl rfl) rfl dX7_lookFor_39 ?_
          refine g_iload_n hC dX7_lookFor_42 rfl 0 rfl ?_
          refine g_iald hC 2 rfl (hx1.Ts ht rfl).1 (hx1.Ts ht rfl).2 (i) rfl (show i < S.2.1 15 t by omega) (show S.2.1 15 t < 2 ^ 31 by omega) dX7_lookFor_43 ?_
          have hx0 : S.2.1 19 (256 * t + i) ≠ 0 := fun q => h31 ((slv_3 (by omega)).mpr q)
          refine g_val (w := .int (nI (S.2.1 19 (256 * t + i) - 1))) (congrArg Value.int ((if_pos hi).trans (slv_n hx0))) ?_
          refine g_aald hC 4 rfl (hx1.Tt ht rfl).1 (hx1.Tt ht rfl).2 (S.2.1 19 (256 * t + i) - 1) rfl (show S.2.1 19 (256 * t + i) - 1 < 100 by omega) (by decide) dX7_lookFor_44 ?_
          refine g_val (w := .ref (b.1 0 (S.2.1 20 (100 * t + (S.2.1 19 (256 * t + i) - 1))))) (congrArg va_rf (if_pos (show S.2.1 19 (256 * t + i) - 1 < S.2.1 16 t by omega))) ?_
          have hto : S.2.1 20 (100 * t + (S.2.1 19 (256 * t + i) - 1)) < S.1 4 := hk9.2.2.2.2.1 _ (by omega)
          refine g_aload_n hC dX7_lookFor_45 rfl 2 rfl (Or.inr ⟨_, rfl⟩) ?_
          refine g_V (As := [.ref A]) (st := []) hC 1 dX7_lookFor_46 rfl (hx1.B hto rfl).1 (hx1.B hto rfl).2 gX7_lookFor_X0_isLike rfl (by decide +kernel) ⟨Nat.le_of_ble_eq_true rfl, Nat.le_of_ble_eq_true rfl⟩ rfl (Nat.le_of_ble_eq_true rfl) ⟨Nat.le_of_ble_eq_true rfl, Nat.le_of_ble_eq_true rfl⟩ (c2 := 0) (s2 := 0) rfl rfl (x_0_isLike_B _ _ _ _ _ _ _ _ (hx1.isB hto rfl (hl _ hto)) (hx1.isB hr hA (hl _ hr))) ?_
          refine g_ifB_eq (P := (aN S 17 t n).2.1 5 (S.2.1 20 (100 * t + (S.2.1 19 (256 * t + i) - 1))) = (aN S 17 t n).2.1 5 r ∧ ∀ i9, i9 < (aN S 17 t n).2.1 5 (S.2.1 20 (100 * t + (S.2.1 19 (256 * t + i) - 1))) → bcF (aN S 17 t n) (S.2.1 20 (100 * t + (S.2.1 19 (256 * t + i) - 1))) i9 = bcF (aN S 17 t n) r i9) (tgt := 54) hC dX7_lookFor_49 (by decide) (fun h49 => ?_) (fun h49 => ?_)
          · have hns : ¬ stp S t r i := fun q => by
              rcases q with q | q
              · exact hx0 q
              · exact h49 ((bc_lik (S := (aN S 17 t n))).mpr q)
            refine g_aload_n hC dX7_lookFor_54 rfl 1 rfl (Or.inr ⟨_, rfl⟩) ?_
            refine g_iload_n hC dX7_lookFor_55 rfl 0 rfl ?_
            refine g_U (As := [.int (nI i)]) (st := []) hC 1 dX7_lookFor_56 rfl (hx1.K ht hT hkb).1 (hx1.K ht hT hkb).2 gX7_lookFor_X7_nextSlot_u76X1 rfl rfl (by decide +kernel) ⟨Nat.le_of_ble_eq_true rfl, Nat.le_of_ble_eq_true rfl⟩ rfl (Nat.le_of_ble_eq_true rfl) ⟨Nat.le_of_ble_eq_true rfl, Nat.le_of_ble_eq_true rfl⟩ (c2 := 0) (s2 := 0) rfl rfl (x_nextSlot_K hx1 t T ht hT hkb hsz i hi) ?_
            refine g_istore_n (lv' := [(2, .int (nI ((i + 1) % S.2.1 15 t))), (0, .ref T), (1, .ref A)]) hC dX7_lookFor_59 rfl (by decide) rfl ?_
            refine g_aload_n hC dX7_lookFor_60 rfl 1 rfl (Or.inr ⟨_, rfl⟩) ?_
            refine g_dup hC dX7_lookFor_61 rfl ?_
            refine g_get hC (by decide +kernel) rfl (hx1.K ht hT hkb).1 (hx1.K ht hT hkb).2 3 (by decide) (by decide +kernel) (Or.inl rfl) rfl dX7_lookFor_62 ?_
            refine g_val (w := .int (nI n)) (by simp [aSc, aN, aW, aNr, aWr, va_up]) ?_
            refine g_iconst hC dX7_lookFor_65 (v := nI 1) (by decide) ?_
            refine g_iaddN (a := n) (b := 1) hC dX7_lookFor_66 ?_
            refine g_put hC (by decide +kernel) tyX1 tyX1_ok nmX1 rfl (hx1.K ht hT hkb).1 (hx1.K ht hT hkb).2 3 (by decide) (by decide +kernel) (Or.inl rfl) rfl (tyX1_ok 3 (by decide)) rfl rfl (show 3 < 6 by decide) dX7_lookFor_67 ?_
            refine g_fx (P := xR cy ((aN S 17 t (n + 1))) b) (by have z := hx1.u17k (n := n + 1) ht hkb hT; rwa [aN_aN] at z) (fun f2 hx2 => ?_)
            refine g_goto (tgt := 11) hC dX7_lookFor_70 (by decide) ?_
            exact ih ((i + 1) % S.2.1 15 t) (n + 1) f2 (by omega) (Nat.mod_lt _ (by omega)) (by omega) (by omega) (by rw [← hg, show S.2.1 15 t + 1 - n = (S.2.1 15 t + 1 - (n + 1)) + 1 by omega, lkG, if_neg hns]) hx2
          · have hx9 : lkG S t r (S.2.1 15 t + 1 - n) i n = (i, n) := lkG_stp (S := S) (Or.inr (bc_lik.mp h49)) _
            refine g_iload_n hC dX7_lookFor_52 rfl 0 rfl ?_
            have e9 : lk S t r = (i, n) := by rw [← hg]; exact hx9
            exact g_iret hC hR dX7_lookFor_53 ⟨by rw [e9], by rw [e9]; exact hx1⟩
  exact lp (S.2.1 15 t + 1) (fst0 S t r) 1 _ (by omega) (Nat.mod_lt _ (by omega)) (by omega) (by omega) rfl hx1
set_option maxRecDepth 20000 in
set_option maxHeartbeats 4000000 in
theorem x_numberOf_K {S : aS} {b : xB} (hx : xR cy S b L f) (t T : Nat) (ht : t < S.1 13) (hT : b.1 6 t = T) (hkb : S.2.1 14 t ≠ 0) (r A : Nat) (hr : r < S.1 4) (hA : b.1 0 r = A) (hl : ∀ r, r < S.1 4 → S.2.1 5 r ≤ 16) (hk9 : tOk S t) : gCt l D vwCl (gKK D cy adK adV) yX7_numberOf wsX7_numberOf { frames := 4, cells := 0, slots := 0, locals := 88 } [.ref T, .ref A] L f (xQ cy ((aN S 17 t (lk S t r).2)) b (some (.int (slv (S.2.1 19 (256 * t + (lk S t r).1)))))) := by
  refine gCt.of gKK_ok (by decide) rfl rfl (fun X hC hR hnm => ?_)
  have hC : gC X l _ D vwCl (cyT cy) (gKK D cy adK adV) cX7_numberOf 2 wsX7_numberOf RX7 := hC
  show gW X vwCl 2 L f 0 0 0 [(0, .ref T), (1, .ref A)] []
  have hsb := sz_b hk9.1
  have hli := lk_i (r := r) hk9
  refine g_aload_n hC dX7_numberOf_0 rfl 0 rfl (Or.inr ⟨_, rfl⟩) ?_
  refine g_get hC (by decide +kernel) rfl (hx.K ht hT hkb).1 (hx.K ht hT hkb).2 1 (by decide) (by decide +kernel) (Or.inl rfl) rfl dX7_numberOf_1 ?_
  refine g_aload_n hC dX7_numberOf_4 rfl 0 rfl (Or.inr ⟨_, rfl⟩) ?_
  refine g_aload_n hC dX7_numberOf_5 rfl 1 rfl (Or.inr ⟨_, rfl⟩) ?_
  refine g_Ux (As := [.ref A]) (st := [.ref (b.1 8 t)]) hC 1 dX7_numberOf_6 rfl (hx.K ht hT hkb).1 (hx.K ht hT hkb).2 gX7_numberOf_X7_lookFor_u39X1 rfl rfl (by decide +kernel) ⟨Nat.le_of_ble_eq_true rfl, Nat.le_of_ble_eq_true rfl⟩ rfl (Nat.le_of_ble_eq_true rfl) ⟨Nat.le_of_ble_eq_true rfl, Nat.le_of_ble_eq_true rfl⟩ (c2 := 0) (s2 := 0) rfl rfl (x_lookFor_K hx t T ht hT hkb r A hr hA hl hk9) (fun v1 L1 f1 hp1 => ?_)
  obtain ⟨rfl, hx1⟩ := hp1
  show gW X vwCl 2 L1 f1 0 0 9 [(0, .ref T), (1, .ref A)] [.int (nI ((lk S t r).1)), .ref (b.1 8 t)]
  refine g_iald hC 2 rfl (hx1.Ts ht rfl).1 (hx1.Ts ht rfl).2 ((lk S t r).1) rfl (show (lk S t r).1 < S.2.1 15 t by omega) (show S.2.1 15 t < 2 ^ 31 by omega) dX7_numberOf_9 ?_
  exact g_iret hC hR dX7_numberOf_10 ⟨congrArg (fun z => some (Value.int z)) (if_pos hli), hx1⟩
set_option maxRecDepth 20000 in
set_option maxHeartbeats 4000000 in
theorem x_freeSlotFor_K {S : aS} {b : xB} (hx : xR cy S b L f) (t T : Nat) (ht : t < S.1 13) (hT : b.1 6 t = T) (hkb : S.2.1 14 t ≠ 0) (r A : Nat) (hr : r < S.1 4) (hA : b.1 0 r = A) (hl : ∀ r, r < S.1 4 → S.2.1 5 r ≤ 16) (hsz : ∃ e, 2 ≤ e ∧ e ≤ 8 ∧ S.2.1 15 t = 2 ^ e) (hfr : ∃ j, j < S.2.1 15 t ∧ S.2.1 19 (256 * t + j) = 0) (hso : ∀ i, i < S.2.1 15 t → S.2.1 19 (256 * t + i) ≤ 100) : gCt l D vwCl (gKK D cy adK adV) yX7_freeSlotFor wsX7_freeSlotFor { frames := 3, cells := 0, slots := 0, locals := 66 } [.ref T, .ref A] L f (pE (some (.int (nI (frG S t (S.2.1 15 t) (fst0 S t r))))) L f) := by
  refine gCt.of gKK_ok (by decide) rfl rfl (fun X hC hR hnm => ?_)
  have hC : gC X l _ D vwCl (cyT cy) (gKK D cy adK adV) cX7_freeSlotFor 4 wsX7_freeSlotFor RX7 := hC
  show gW X vwCl 4 L f 0 0 0 [(0, .ref T), (1, .ref A)] []
  have hsb := sz_b hsz
  have hi0 : fst0 S t r < S.2.1 15 t := Nat.mod_lt _ (by omega)
  refine g_aload_n hC dX7_freeSlotFor_0 rfl 0 rfl (Or.inr ⟨_, rfl⟩) ?_
  refine g_aload_n hC dX7_freeSlotFor_1 rfl 1 rfl (Or.inr ⟨_, rfl⟩) ?_
  refine g_U (As := [.ref A]) (st := []) hC 1 dX7_freeSlotFor_2 rfl (hx.K ht hT hkb).1 (hx.K ht hT hkb).2 gX7_freeSlotFor_X7_firstSlot_u69X1 rfl rfl (by decide +kernel) ⟨Nat.le_of_ble_eq_true rfl, Nat.le_of_ble_eq_true rfl⟩ rfl (Nat.le_of_ble_eq_true rfl) ⟨Nat.le_of_ble_eq_true rfl, Nat.le_of_ble_eq_true rfl⟩ (c2 := 0) (s2 := 0) rfl rfl (x_firstSlot_K hx t T ht hT hkb r A hr hA hl hsz) ?_
  refine g_istore_n (lv' := [(2, .int (nI (fst0 S t r))), (0, .ref T), (1, .ref A)]) hC dX7_freeSlotFor_5 rfl (by decide) rfl ?_
  refine g_iconst hC dX7_freeSlotFor_6 (v := nI 1) (by decide) ?_
  refine g_istore_n (lv' := [(3, .int (nI 1)), (2, .int (nI (fst0 S t r))), (0, .ref T), (1, .ref A)]) hC dX7_freeSlotFor_7 rfl (by decide) rfl ?_
  have lp : ∀ (m : Nat) (i n : Nat), S.2.1 15 t + 1 - n < m → (i < S.2.1 15 t) → (1 ≤ n) → (n ≤ S.2.1 15 t) → (frG S t (S.2.1 15 t + 1 - n) i = frG S t (S.2.1 15 t) (fst0 S t r)) → (i = (fst0 S t r + (n - 1)) % S.2.1 15 t) → (∀ d, d + 1 < n → S.2.1 19 (256 * t + (fst0 S t r + d) % S.2.1 15 t) ≠ 0) → gW X vwCl 4 L f 0 0 8 [(3, .int (nI n)), (2, .int (nI i)), (0, .ref T), (1, .ref A)] [] := by
    intro m
    induction m with
    | zero => intros; omega
    | succ m ih =>
      intro i n hm9 hi hn1 hn2 hg hie hvs
      refine g_iload_n hC dX7_freeSlotFor_8 rfl 0 rfl ?_
      refine g_aload_n hC dX7_freeSlotFor_9 rfl 2 rfl (Or.inr ⟨_, rfl⟩) ?_
      refine g_get hC (by decide +kernel) rfl (hx.K ht hT hkb).1 (hx.K ht hT hkb).2 1 (by decide) (by decide +kernel) (Or.inl rfl) rfl dX7_freeSlotFor_10 ?_
      refine g_alen hC 2 rfl (hx.Ts ht rfl).1 (hx.Ts ht rfl).2 dX7_freeSlotFor_13 ?_
      refine g_icmpN_ge (a := n) (b := S.2.1 15 t) (tgt := 40) hC dX7_freeSlotFor_14 (by decide) (by omega) (by omega) (fun h14 => ?_) (fun h14 => ?_)
      · have hx9 : frG S t (S.2.1 15 t + 1 - n) i = i := by
          obtain ⟨j, hj, hz⟩ := hfr
          obtain ⟨d, hd, he⟩ := mod_at hi0 hj
          by_cases hdn : d + 1 < n
          · exact absurd (he ▸ hz) (hvs d hdn)
          · have hji : j = i := by rw [← he, hie]; congr 1; omega
            rw [show S.2.1 15 t + 1 - n = 0 + 1 by omega, frG, if_pos (hji ▸ hz)]
        refine g_iload_n hC dX7_freeSlotFor_40 rfl 1 rfl ?_
        exact g_iret hC hR dX7_freeSlotFor_41 ⟨by rw [← hg, hx9], rfl, rfl⟩
      · refine g_aload_n hC dX7_freeSlotFor_17 rfl 2 rfl (Or.inr ⟨_, rfl⟩) ?_
        refine g_get hC (by decide +kernel) rfl (hx.K ht hT hkb).1 (hx.K ht hT hkb).2 1 (by decide) (by decide +kernel) (Or.inl rfl) rfl dX7_freeSlotFor_18 ?_
        refine g_iload_n hC dX7_freeSlotFor_21 rfl 1 rfl ?_
        refine g_iald hC 2 rfl (hx.Ts ht rfl).1 (hx.Ts ht rfl).2 (i) rfl (show i < S.2.1 15 t by omega) (show S.2.1 15 t < 2 ^ 31 by omega) dX7_freeSlotFor_22 ?_
        refine g_val (w := .int (slv (S.2.1 19 (256 * t + i)))) (congrArg Value.int (if_pos hi)) ?_
        refine g_bipush hC dX7_freeSlotFor_23 (v := (-3)) (by decide) ?_
        refine g_icmp_eq (x := slv (S.2.1 19 (256 * t + i))) (y := (-3)) (tgt := 40) hC dX7_freeSlotFor_25 (by decide) (fun h25 => ?_) (fun h25 => ?_)
        · have hx9 : frG S t (S.2.1 15 t + 1 - n) i = i := by
            rw [show S.2.1 15 t + 1 - n = (S.2.1 15 t - n) + 1 by omega, frG, if_pos ((slv_3 (by have := hso i hi; omega)).mp h25)]
          refine g_iload_n hC dX7_freeSlotFor_40 rfl 1 rfl ?_
          exact g_iret hC hR dX7_freeSlotFor_41 ⟨by rw [← hg, hx9], rfl, rfl⟩
        · have hnz : S.2.1 19 (256 * t + i) ≠ 0 := fun q => h25 ((slv_3 (by have := hso i hi; omega)).mpr q)
          refine g_aload_n hC dX7_freeSlotFor_28 rfl 2 rfl (Or.inr ⟨_, rfl⟩) ?_
          refine g_iload_n hC dX7_freeSlotFor_29 rfl 1 rfl ?_
          refine g_U (As := [.int (nI i)]) (st := []) hC 1 dX7_freeSlotFor_30 rfl (hx.K ht hT hkb).1 (hx.K ht hT hkb).2 gX7_freeSlotFor_X7_nextSlot_u76X1 rfl rfl (by decide +kernel) ⟨Nat.le_of_ble_eq_true rfl, Nat.le_of_ble_eq_true rfl⟩ rfl (Nat.le_of_ble_eq_true rfl) ⟨Nat.le_of_ble_eq_true rfl, Nat.le_of_ble_eq_true rfl⟩ (c2 := 0) (s2 := 0) rfl rfl (x_nextSlot_K hx t T ht hT hkb hsz i hi) ?_
          refine g_istore_n (lv' := [(2, .int (nI ((i + 1) % S.2.1 15 t))), (3, .int (nI n)), (0, .ref T), (1, .ref A)]) hC dX7_freeSlotFor_33 rfl (by decide) rfl ?_
          refine g_iincN (n := 1) (a := n) (lv' := [(3, .int (nI (n + 1))), (2, .int (nI ((i + 1) % S.2.1 15 t))), (0, .ref T), (1, .ref A)]) hC dX7_freeSlotFor_34 1 rfl (by decide) rfl ?_
          refine g_goto (tgt := 8) hC dX7_freeSlotFor_37 (by decide) ?_
          exact ih ((i + 1) % S.2.1 15 t) (n + 1) (by omega) (Nat.mod_lt _ (by omega)) (by omega) (by omega) (by rw [← hg, show S.2.1 15 t + 1 - n = (S.2.1 15 t + 1 - (n + 1)) + 1 by omega, frG, if_neg hnz]) (by rw [hie, Nat.mod_add_mod]; congr 1; omega) (fun d hd => by
            by_cases e : d + 1 < n
            · exact hvs d e
            · rw [show d = n - 1 by omega, ← hie]; exact hnz)
  exact lp (S.2.1 15 t + 1) (fst0 S t r) 1 (by omega) hi0 (by omega) (by omega) rfl (by rw [Nat.sub_self, Nat.add_zero, Nat.mod_eq_of_lt hi0]) (fun d hd => by omega)
set_option maxRecDepth 20000 in
set_option maxHeartbeats 4000000 in
theorem x_figure_K {S : aS} {b : xB} (hx : xR cy S b L f) (t T : Nat) (ht : t < S.1 13) (hT : b.1 6 t = T) (hkb : S.2.1 14 t ≠ 0) (v : Nat) (hv : v ≤ 3) : gCt l D vwCl (gKK D cy adK adV) yX7_figure wsX7_figure { frames := 0, cells := 0, slots := 0, locals := 0 } [.ref T, .int (nI v)] L f (pE (some (.int (nI (if v = 0 then S.2.1 16 t else if v = 1 then S.2.1 15 t else if v = 2 then S.2.1 17 t else S.2.1 18 t)))) L f) := by
  rcases (show v = 0 ∨ v = 1 ∨ v = 2 ∨ v = 3 by omega) with rfl | rfl | rfl | rfl
  · refine gCt.of gKK_ok (by decide) rfl rfl (fun X hC hR hnm => ?_)
    have hC : gC X l _ D vwCl (cyT cy) (gKK D cy adK adV) cX7_figure 2 wsX7_figure RX7 := hC
    show gW X vwCl 2 L f 0 0 0 [(0, .ref T), (1, .int (nI 0))] []
    refine g_iload_n hC dX7_figure_0 rfl 1 rfl ?_
    refine g_tableIn (tgt := 28) (off := 27) hC dX7_figure_1 (by decide) (by decide) rfl (by decide) ?_
    refine g_aload_n hC dX7_figure_28 rfl 0 rfl (Or.inr ⟨_, rfl⟩) ?_
    refine g_get hC (by decide +kernel) rfl (hx.K ht hT hkb).1 (hx.K ht hT hkb).2 2 (by decide) (by decide +kernel) (Or.inl rfl) rfl dX7_figure_29 ?_
    exact g_iret hC hR dX7_figure_32 ⟨rfl, rfl, rfl⟩
  · refine gCt.of gKK_ok (by decide) rfl rfl (fun X hC hR hnm => ?_)
    have hC : gC X l _ D vwCl (cyT cy) (gKK D cy adK adV) cX7_figure 2 wsX7_figure RX7 := hC
    show gW X vwCl 2 L f 0 0 0 [(0, .ref T), (1, .int (nI 1))] []
    refine g_iload_n hC dX7_figure_0 rfl 1 rfl ?_
    refine g_tableIn (tgt := 33) (off := 32) hC dX7_figure_1 (by decide) (by decide) rfl (by decide) ?_
    refine g_aload_n hC dX7_figure_33 rfl 0 rfl (Or.inr ⟨_, rfl⟩) ?_
    refine g_get hC (by decide +kernel) rfl (hx.K ht hT hkb).1 (hx.K ht hT hkb).2 1 (by decide) (by decide +kernel) (Or.inl rfl) rfl dX7_figure_34 ?_
    refine g_alen hC 2 rfl (hx.Ts ht rfl).1 (hx.Ts ht rfl).2 dX7_figure_37 ?_
    exact g_iret hC hR dX7_figure_38 ⟨rfl, rfl, rfl⟩
  · refine gCt.of gKK_ok (by decide) rfl rfl (fun X hC hR hnm => ?_)
    have hC : gC X l _ D vwCl (cyT cy) (gKK D cy adK adV) cX7_figure 2 wsX7_figure RX7 := hC
    show gW X vwCl 2 L f 0 0 0 [(0, .ref T), (1, .int (nI 2))] []
    refine g_iload_n hC dX7_figure_0 rfl 1 rfl ?_
    refine g_tableIn (tgt := 39) (off := 38) hC dX7_figure_1 (by decide) (by decide) rfl (by decide) ?_
    refine g_aload_n hC dX7_figure_39 rfl 0 rfl (Or.inr ⟨_, rfl⟩) ?_
    refine g_get hC (by decide +kernel) rfl (hx.K ht hT hkb).1 (hx.K ht hT hkb).2 3 (by decide) (by decide +kernel) (Or.inl rfl) rfl dX7_figure_40 ?_
    exact g_iret hC hR dX7_figure_43 ⟨rfl, rfl, rfl⟩
  · refine gCt.of gKK_ok (by decide) rfl rfl (fun X hC hR hnm => ?_)
    have hC : gC X l _ D vwCl (cyT cy) (gKK D cy adK adV) cX7_figure 2 wsX7_figure RX7 := hC
    show gW X vwCl 2 L f 0 0 0 [(0, .ref T), (1, .int (nI 3))] []
    refine g_iload_n hC dX7_figure_0 rfl 1 rfl ?_
    refine g_tableOut (tgt := 44) hC dX7_figure_1 (by decide) (by decide) ?_
    refine g_aload_n hC dX7_figure_44 rfl 0 rfl (Or.inr ⟨_, rfl⟩) ?_
    refine g_get hC (by decide +kernel) rfl (hx.K ht hT hkb).1 (hx.K ht hT hkb).2 4 (by decide) (by decide +kernel) (Or.inl rfl) rfl dX7_figure_45 ?_
    exact g_iret hC hR dX7_figure_48 ⟨rfl, rfl, rfl⟩
end X5
