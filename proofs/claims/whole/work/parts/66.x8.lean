theorem szS_up {S S' : aS} {t v : Nat} (h : S'.2.1 15 = va_up (S.2.1 15) t v) : ∀ n, szS S' n + (if t < n then S.2.1 15 t else 0) = szS S n + (if t < n then v else 0)
  | 0 => rfl
  | n + 1 => by
    have ih := szS_up h n
    rw [szS, szS, h]
    by_cases e : n = t
    · subst e
      rw [va_up_self]
      rw [if_neg (by omega), if_neg (by omega)] at ih
      rw [if_pos (by omega), if_pos (by omega)]
      omega
    · rw [va_up_ne _ _ e]
      by_cases e2 : t < n
      · rw [if_pos e2, if_pos e2] at ih
        rw [if_pos (by omega), if_pos (by omega)]
        omega
      · rw [if_neg e2, if_neg e2] at ih
        rw [if_neg (by omega), if_neg (by omega)]
        omega
theorem rm_cg {S S' T T' : aS} (h4 : S.1 4 = T.1 4) (h21 : S.1 21 = T.1 21) (h13 : S.1 13 = T.1 13) (h15 : S.2.1 15 = T.2.1 15) (g4 : S'.1 4 = T'.1 4) (g21 : S'.1 21 = T'.1 21) (g13 : S'.1 13 = T'.1 13) (g15 : S'.2.1 15 = T'.2.1 15) : rmC S S' = rmC T T' ∧ rmS S S' = rmS T T' := by
  have e1 : ∀ n, szS S n = szS T n := fun n => szS_eq n (fun t _ => by rw [h15])
  have e2 : ∀ n, szS S' n = szS T' n := fun n => szS_eq n (fun t _ => by rw [g15])
  unfold rmC rmS
  rw [h4, h21, h13, g4, g21, g13, e1, e2]
  exact ⟨rfl, rfl⟩
theorem rm_0 {S S' : aS} (g4 : S'.1 4 = S.1 4) (g21 : S'.1 21 = S.1 21) (g13 : S'.1 13 = S.1 13) (g15 : S'.2.1 15 = S.2.1 15) : rmC S S' = 0 ∧ rmS S S' = 0 := by
  have e2 : ∀ n, szS S' n = szS S n := fun n => szS_eq n (fun t _ => by rw [g15])
  unfold rmC rmS
  rw [g4, g21, g13, e2]
  omega
theorem rm_grow {S N : aS} {t : Nat} (ht : t < N.1 13) (h13 : N.1 13 = S.1 13) (h15 : N.2.1 15 = S.2.1 15) : rmC S (growS N t) = rmC S N + N.2.1 15 t ∧ rmS S (growS N t) = rmS S N + 2 * N.2.1 15 t := by
  have e1 : szS N (N.1 13) = szS S (S.1 13) := by rw [h13]; exact szS_eq _ (fun t _ => by rw [h15])
  have e2 := szS_up (growS_f (S := N) (t := t)).2.2.2 (N.1 13)
  rw [if_pos ht, if_pos ht] at e2
  have e3 : (growS N t).1 = N.1 := growS_f.1
  unfold rmC rmS
  rw [e3]
  omega
/-- as comS, without what is counted of all looks -/
abbrev lkA (S : aS) (t r : Nat) : aS := aN S 17 t (lk S t r).2
def comA (S : aS) (t r : Nat) : Int32 × aS :=
  if 0 < S.2.1 19 (256 * t + (lk S t r).1) then (nI (S.2.1 19 (256 * t + (lk S t r).1) - 1), lkA S t r)
  else if S.2.1 16 t = 100 then (-4, lkA S t r)
  else (nI (S.2.1 16 t), grwS (newTm (rowF (lkA S t r) t r).2 t (rowF (lkA S t r) t r).1 (lk S t r).1) t)
theorem aI.lkA {S : aS} (h : aI S) (t r : Nat) : aI (lkA S t r) := aI.of_eq (S := S) (h := h) (fun k hk => rfl) (fun k hk => by
    simp only [List.mem_cons, List.not_mem_nil, or_false] at hk
    rcases hk with rfl | rfl | rfl | rfl | rfl | rfl | rfl | rfl | rfl | rfl | rfl | rfl <;> rfl) rfl rfl
theorem rowF_1 {S : aS} {t r : Nat} : ∀ k, k ≠ 4 → k ≠ 21 → (rowF S t r).2.1 k = S.1 k := by
  intro k h4 h21
  unfold rowF
  by_cases e : S.2.1 14 t = 0
  · rw [if_pos e]; exact va_up_ne _ _ h4
  · rw [if_neg e]
    unfold keptS
    cases kpG S r (S.1 21) 0 with
    | some w => rfl
    | none => exact (va_up_ne _ _ h21).trans (va_up_ne _ _ h4)
theorem xV_row {S : aS} {t r0 k r : Nat} (hI : aI S) (hr0 : r0 < S.1 4) (hk : xV S k r) : xV (rowF S t r0).2 k r := by
  have h4 := (rowF_f (t := t) hI hr0).2.2.1
  have h7 : (rowF S t r0).2.1 7 = S.1 7 := rowF_1 7 (by decide) (by decide)
  have h10 : (rowF S t r0).2.1 10 = S.1 10 := rowF_1 10 (by decide) (by decide)
  have h13 : (rowF S t r0).2.1 13 = S.1 13 := rowF_1 13 (by decide) (by decide)
  exact hk.cs (P := fun k r => xV (rowF S t r0).2 k r) (fun h => show r < _ by omega) (fun h => show r < _ by omega) (fun h => show r < _ by omega) (fun h => show r < _ by omega) (fun h => show r < _ by omega) (fun h => show r < _ by omega) (fun h => show r < _ by omega) (fun h => show r < _ by omega) (fun h => show r < _ by omega) (show 0 < 4 by decide) (show 1 < 4 by decide) (show 2 < 4 by decide) (show 3 < 4 by decide) (show 0 < 1 by decide)
theorem xF.newTm {S : aS} {t w i : Nat} (h : xF S) (ht : t < S.1 13) (hw : w < S.1 4) : xF (newTm S t w i) := by
  refine ⟨h.1, h.2.1, fun u hu k hk => ?_, h.2.2.2⟩
  show (if 100 * u + k = 100 * t + S.2.1 16 t then w else S.2.1 20 (100 * u + k)) < S.1 4
  by_cases e : 100 * u + k = 100 * t + S.2.1 16 t
  · rw [if_pos e]; exact hw
  · rw [if_neg e]
    refine h.2.2.1 u hu k ?_
    have hk : k < va_up (S.2.1 16) t (S.2.1 16 t + 1) u := hk
    by_cases e2 : u = t
    · subst e2; rw [va_up_self] at hk; omega
    · rwa [va_up_ne _ _ e2] at hk
theorem grow_e {n : Nat} (h : ∃ e, 2 ≤ e ∧ e ≤ 8 ∧ n = 2 ^ e) (hn : n < 200) : ∃ e, 2 ≤ e ∧ e ≤ 7 ∧ n = 2 ^ e := by
  obtain ⟨e, h1, h2, h3⟩ := h
  by_cases e8 : e = 8
  · subst e8; rw [h3] at hn; exact absurd hn (by decide)
  · exact ⟨e, h1, by omega, h3⟩
section X8
variable {l : Launch} {D : va_G} {cy adK adV : Nat → Nat} {L : List Nat} {f : Nat → va_E}
set_option maxRecDepth 20000 in
set_option maxHeartbeats 4000000 in
theorem x_admit_T {S : aS} {b : xB} (hx : xR cy S b L f) (hI : aI S) (hb : S.1 4 + 1 ≤ 39000) (t T : Nat) (ht : t < S.1 13) (hT : b.1 6 t = T) (hkb : S.2.1 14 t = 0) (r A : Nat) (hr : r < S.1 4) (hA : b.1 0 r = A) : gCt l D vwCl (gKK D cy adK adV) yX7_admit wsX7_admit { frames := 7, cells := (rmC S (comA S t r).2), slots := (rmS S (comA S t r).2), locals := 143 } [.ref T, .ref A] L f (xP cy S b ((comA S t r).2) (fun b9 => some (.int (comA S t r).1))) := by
  refine gCt.of gKK_ok (by decide) rfl rfl (fun X hC hR hnm => ?_)
  have hC : gC X l _ D vwCl (cyT cy) (gKK D cy adK adV) cX7_admit 5 wsX7_admit RX7 := hC
  show gW X vwCl 5 L f 0 0 0 [(0, .ref T), (1, .ref A)] []
  have hk9 := hI.tk ht
  have hsb := sz_b hk9.1
  have hli := lk_i (r := r) hk9
  have htm := hk9.2.1
  have hso := hk9.2.2.2.2.2.1 _ hli
  refine g_aload_n hC dX7_admit_0 rfl 0 rfl (Or.inr ⟨_, rfl⟩) ?_
  refine g_aload_n hC dX7_admit_1 rfl 1 rfl (Or.inr ⟨_, rfl⟩) ?_
  refine g_Vx (As := [.ref A]) (st := []) hC 1 dX7_admit_2 rfl (hx.T ht hT hkb).1 (hx.T ht hT hkb).2 gX7_admit_X7_lookFor rfl (by decide +kernel) ⟨Nat.le_of_ble_eq_true rfl, Nat.le_of_ble_eq_true rfl⟩ rfl (Nat.le_of_ble_eq_true rfl) ⟨(show 0 + 0 ≤ (rmC S (comA S t r).2) by omega), (show 0 + 0 ≤ (rmS S (comA S t r).2) by omega)⟩ (c2 := 0) (s2 := 0) rfl rfl (x_lookFor_T hx t T ht hT hkb r A hr hA (fun r hr => hI.bl hr) hk9) (fun v1 L1 f1 hp1 => ?_)
  obtain ⟨rfl, hx1⟩ := hp1
  show gW X vwCl 5 L1 f1 0 0 5 [(0, .ref T), (1, .ref A)] [.int (nI ((lk S t r).1))]
  refine g_istore_n (lv' := [(2, .int (nI ((lk S t r).1))), (0, .ref T), (1, .ref A)]) hC dX7_admit_5 rfl (by decide) rfl ?_
  refine g_aload_n hC dX7_admit_6 rfl 1 rfl (Or.inr ⟨_, rfl⟩) ?_
  refine g_get hC (by decide +kernel) rfl (hx1.T ht hT hkb).1 (hx1.T ht hT hkb).2 1 (by decide) (by decide +kernel) (Or.inl rfl) rfl dX7_admit_7 ?_
  refine g_iload_n hC dX7_admit_10 rfl 0 rfl ?_
  refine g_iald hC 2 rfl (hx1.Ts ht rfl).1 (hx1.Ts ht rfl).2 ((lk S t r).1) rfl (show (lk S t r).1 < S.2.1 15 t by omega) (show S.2.1 15 t < 2 ^ 31 by omega) dX7_admit_11 ?_
  refine g_val (w := .int (slv (S.2.1 19 (256 * t + (lk S t r).1)))) (congrArg Value.int (if_pos hli)) ?_
  refine g_bipush hC dX7_admit_12 (v := (-3)) (by decide) ?_
  refine g_icmp_eq (x := slv (S.2.1 19 (256 * t + (lk S t r).1))) (y := (-3)) (tgt := 24) hC dX7_admit_14 (by decide) (fun h14 => ?_) (fun h14 => ?_)
  · have hx0 : S.2.1 19 (256 * t + (lk S t r).1) = 0 := (slv_3 (by omega)).mp h14
    refine g_aload_n hC dX7_admit_24 rfl 1 rfl (Or.inr ⟨_, rfl⟩) ?_
    refine g_get hC (by decide +kernel) rfl (hx1.T ht hT hkb).1 (hx1.T ht hT hkb).2 2 (by decide) (by decide +kernel) (Or.inl rfl) rfl dX7_admit_25 ?_
    refine g_bipush hC dX7_admit_28 (v := nI 100) (by decide) ?_
    refine g_icmpN_lt (a := S.2.1 16 t) (b := 100) (tgt := 36) hC dX7_admit_30 (by decide) (by omega) (by omega) (fun h30 => ?_) (fun h30 => ?_)
    · have hcA : comA S t r = (nI (S.2.1 16 t), grwS (newTm (rowF (lkA S t r) t r).2 t (rowF (lkA S t r) t r).1 (lk S t r).1) t) := by unfold comA; rw [if_neg (by omega), if_neg (by omega)]
      have hIA := hI.lkA t r
      have hIZ := aI.row (t := t) hIA (show r < (lkA S t r).1 4 from hr) hb
      have hZf := rowF_f (t := t) hIA (show r < (lkA S t r).1 4 from hr)
      have hZ1 := rowF_1 (S := lkA S t r) (t := t) (r := r)
      have hVZ : ∀ k r9, xV S k r9 → xV (rowF (lkA S t r) t r).2 k r9 := fun k r9 hk => xV_row (t := t) hIA (show r < (lkA S t r).1 4 from hr) hk
      have hrw := x_rowFor_T (l := l) (D := D) (adK := adK) (adV := adV) (S := lkA S t r) hx1 hIA t T ht hT hkb r A hr hA
      obtain ⟨w9, hw9⟩ : ∃ w9, (rowF (lkA S t r) t r).1 = w9 := ⟨_, rfl⟩
      obtain ⟨Z, hZ⟩ : ∃ Z, (rowF (lkA S t r) t r).2 = Z := ⟨_, rfl⟩
      rw [hw9, hZ] at hrw
      rw [hw9, hZ] at hcA
      rw [hZ] at hIZ
      rw [hw9, hZ] at hZf
      rw [hZ] at hZ1
      rw [hZ] at hVZ
      have h13Z : Z.1 13 = S.1 13 := hZ1 13 (by decide) (by decide)
      have htZ : t < Z.1 13 := by omega
      have h16Z : Z.2.1 16 t = S.2.1 16 t := by rw [hZf.1 16 (by decide) (by decide)]; rfl
      have h15Z : Z.2.1 15 = S.2.1 15 := by rw [hZf.1 15 (by decide) (by decide)]; rfl
      have h15t : Z.2.1 15 t = S.2.1 15 t := by rw [h15Z]
      have hkZ : Z.2.1 14 t = 0 := by rw [hZf.1 14 (by decide) (by decide)]; exact hkb
      have hkz9 := hIZ.tk htZ
      have h43z := hkz9.2.2.1
      have hlsZ : ∀ t, t < Z.1 13 → Z.2.1 15 t ≤ 256 := fun u hu => (sz_b (hIZ.tk hu).1).2
      have hmZ : ∀ t, t < Z.1 13 → Z.2.1 16 t ≤ 100 := fun u hu => (hIZ.tk hu).2.1
      have h16N : (newTm Z t w9 (lk S t r).1).2.1 16 t = Z.2.1 16 t + 1 := va_up_self _ _ _
      have h15N : (newTm Z t w9 (lk S t r).1).2.1 15 t = Z.2.1 15 t := rfl
      have hrm : rmC S (newTm Z t w9 (lk S t r).1) = rmC (lkA S t r) Z ∧ rmS S (newTm Z t w9 (lk S t r).1) = rmS (lkA S t r) Z := rm_cg rfl rfl rfl rfl rfl rfl rfl rfl
      refine g_aload_n hC dX7_admit_36 rfl 1 rfl (Or.inr ⟨_, rfl⟩) ?_
      refine g_aload_n hC dX7_admit_37 rfl 2 rfl (Or.inr ⟨_, rfl⟩) ?_
      have hrl : rmC (lkA S t r) Z ≤ rmC S (comA S t r).2 ∧ rmS (lkA S t r) Z ≤ rmS S (comA S t r).2 := by
        rw [hcA]
        show _ ≤ rmC S (grwS _ t) ∧ _ ≤ rmS S (grwS _ t)
        unfold grwS
        split
        · have := rm_grow (S := S) (N := newTm Z t w9 (lk S t r).1) htZ h13Z h15Z
          omega
        · omega
      refine g_Vx (As := [.ref A]) (st := []) hC 1 dX7_admit_38 rfl (hx1.T ht hT hkb).1 (hx1.T ht hT hkb).2 gX7_admit_X7_rowFor rfl (by decide +kernel) ⟨Nat.le_of_ble_eq_true rfl, Nat.le_of_ble_eq_true rfl⟩ rfl (Nat.le_of_ble_eq_true rfl) ⟨(show 0 + (rmC (lkA S t r) Z) ≤ (rmC S (comA S t r).2) by omega), (show 0 + (rmS (lkA S t r) Z) ≤ (rmS S (comA S t r).2) by omega)⟩ (c2 := (0 + (rmC (lkA S t r) Z))) (s2 := (0 + (rmS (lkA S t r) Z))) rfl rfl hrw (fun v2 L2 f2 hp2 => ?_)
      obtain ⟨b2, rfl, hx2, hg2⟩ := hp2
      show gW X vwCl 5 L2 f2 (0 + (rmC (lkA S t r) Z)) (0 + (rmS (lkA S t r) Z)) 41 [(2, .int (nI ((lk S t r).1))), (0, .ref T), (1, .ref A)] [.ref (b2.1 0 w9)]
      have hTZ : b2.1 6 t = T := (hg2 6 t (by decide) (by decide) ht).trans hT
      refine g_astore_n (lv' := [(3, .ref (b2.1 0 w9)), (2, .int (nI ((lk S t r).1))), (0, .ref T), (1, .ref A)]) hC dX7_admit_41 rfl (by decide) rfl (Or.inr ⟨_, rfl⟩) ?_
      refine g_aload_n hC dX7_admit_42 rfl 0 rfl (Or.inr ⟨_, rfl⟩) ?_
      refine g_ifnonnull (o := some (b2.1 0 w9)) (tgt := 49) hC dX7_admit_43 (by decide) (fun a43 h43 => ?_) (fun h43 => ?_)
      · refine g_aload_n hC dX7_admit_49 rfl 2 rfl (Or.inr ⟨_, rfl⟩) ?_
        refine g_get hC (by decide +kernel) rfl (hx2.T htZ hTZ hkZ).1 (hx2.T htZ hTZ hkZ).2 2 (by decide) (by decide +kernel) (Or.inl rfl) rfl dX7_admit_50 ?_
        refine g_istore (lv' := [(4, .int (nI (Z.2.1 16 t))), (3, .ref (b2.1 0 w9)), (2, .int (nI ((lk S t r).1))), (0, .ref T), (1, .ref A)]) hC dX7_admit_53 (by decide) rfl ?_
        refine g_aload_n hC dX7_admit_55 rfl 3 rfl (Or.inr ⟨_, rfl⟩) ?_
        refine g_get hC (by decide +kernel) rfl (hx2.T htZ hTZ hkZ).1 (hx2.T htZ hTZ hkZ).2 0 (by decide) (by decide +kernel) (Or.inl rfl) rfl dX7_admit_56 ?_
        refine g_iload hC dX7_admit_59 0 rfl ?_
        refine g_aload_n hC dX7_admit_61 rfl 1 rfl (Or.inr ⟨_, rfl⟩) ?_
        refine g_aast hC 4 rfl (r := (RX0, TX0, 1)) rfl (hx2.B hZf.2.1 rfl).1 (hx2.B hZf.2.1 rfl).2 (hx2.Tt htZ rfl).1 (hx2.Tt htZ rfl).2 (Z.2.1 16 t) rfl (show Z.2.1 16 t < 100 by omega) (by decide) dX7_admit_62 ?_
        have hn7 : T ≠ b2.1 7 t := hx2.apart hTZ rfl htZ htZ (Or.inl (by decide))
        have hn8 : T ≠ b2.1 8 t := hx2.apart hTZ rfl htZ htZ (Or.inl (by decide))
        have h87 : b2.1 8 t ≠ b2.1 7 t := hx2.apart rfl rfl htZ htZ (Or.inl (by decide))
        refine g_aload_n hC dX7_admit_63 rfl 3 rfl (Or.inr ⟨_, rfl⟩) ?_
        refine g_get hC (by decide +kernel) rfl (hx2.T htZ hTZ hkZ).1 ((va_up_ne _ _ hn7).trans (hx2.T htZ hTZ hkZ).2) 1 (by decide) (by decide +kernel) (Or.inl rfl) rfl dX7_admit_64 ?_
        refine g_iload_n hC dX7_admit_67 rfl 2 rfl ?_
        refine g_iload hC dX7_admit_68 0 rfl ?_
        refine g_iast hC 2 rfl (hx2.Ts htZ rfl).1 ((va_up_ne _ _ h87).trans (hx2.Ts htZ rfl).2) ((lk S t r).1) rfl (show (lk S t r).1 < Z.2.1 15 t by omega) (show Z.2.1 15 t < 2 ^ 31 by omega) dX7_admit_70 ?_
        refine g_aload_n hC dX7_admit_71 rfl 3 rfl (Or.inr ⟨_, rfl⟩) ?_
        refine g_dup hC dX7_admit_72 rfl ?_
        refine g_get hC (by decide +kernel) rfl (hx2.T htZ hTZ hkZ).1 ((va_up_ne _ _ hn8).trans ((va_up_ne _ _ hn7).trans (hx2.T htZ hTZ hkZ).2)) 2 (by decide) (by decide +kernel) (Or.inl rfl) rfl dX7_admit_73 ?_
        refine g_iconst hC dX7_admit_76 (v := nI 1) (by decide) ?_
        refine g_iaddN (a := Z.2.1 16 t) (b := 1) hC dX7_admit_77 ?_
        refine g_put hC (by decide +kernel) tyX7 tyX7_ok nmX7 rfl (hx2.T htZ hTZ hkZ).1 ((va_up_ne _ _ hn8).trans ((va_up_ne _ _ hn7).trans (hx2.T htZ hTZ hkZ).2)) 2 (by decide) (by decide +kernel) (Or.inl rfl) rfl (tyX7_ok 2 (by decide)) rfl rfl (show 2 < 5 by decide) dX7_admit_78 ?_
        refine g_fx (P := xR cy ((newTm Z t w9 (lk S t r).1)) b2) (hx2.newTmt (r := w9) hlsZ hmZ htZ hkZ (by omega) (by omega) hTZ) (fun f3 hx3 => ?_)
        show gW X vwCl 5 L2 f3 (0 + (rmC (lkA S t r) Z)) (0 + (rmS (lkA S t r) Z)) 81 [(4, .int (nI (Z.2.1 16 t))), (3, .ref (b2.1 0 w9)), (2, .int (nI ((lk S t r).1))), (0, .ref T), (1, .ref A)] []
        refine g_iconst hC dX7_admit_81 (v := nI 4) (by decide) ?_
        refine g_aload_n hC dX7_admit_82 rfl 3 rfl (Or.inr ⟨_, rfl⟩) ?_
        refine g_get hC (by decide +kernel) rfl (hx3.T (show t < (newTm Z t w9 (lk S t r).1).1 13 from htZ) hTZ hkZ).1 (hx3.T (show t < (newTm Z t w9 (lk S t r).1).1 13 from htZ) hTZ hkZ).2 2 (by decide) (by decide +kernel) (Or.inl rfl) rfl dX7_admit_83 ?_
        refine g_imulN (a := 4) (b := ((newTm Z t w9 (lk S t r).1)).2.1 16 t) hC dX7_admit_86 ?_
        refine g_iconst hC dX7_admit_87 (v := nI 3) (by decide) ?_
        refine g_aload_n hC dX7_admit_88 rfl 3 rfl (Or.inr ⟨_, rfl⟩) ?_
        refine g_get hC (by decide +kernel) rfl (hx3.T (show t < (newTm Z t w9 (lk S t r).1).1 13 from htZ) hTZ hkZ).1 (hx3.T (show t < (newTm Z t w9 (lk S t r).1).1 13 from htZ) hTZ hkZ).2 1 (by decide) (by decide +kernel) (Or.inl rfl) rfl dX7_admit_89 ?_
        refine g_alen hC 2 rfl (hx3.Ts htZ rfl).1 (hx3.Ts htZ rfl).2 dX7_admit_92 ?_
        refine g_imulN (a := 3) (b := ((newTm Z t w9 (lk S t r).1)).2.1 15 t) hC dX7_admit_93 ?_
        refine g_icmpN_le (a := 4 * (((newTm Z t w9 (lk S t r).1)).2.1 16 t)) (b := 3 * (((newTm Z t w9 (lk S t r).1)).2.1 15 t)) (tgt := 101) hC dX7_admit_94 (by decide) (by omega) (by omega) (fun h94 => ?_) (fun h94 => ?_)
        · refine g_iload hC dX7_admit_101 0 rfl ?_
          have hg43 : grwS (newTm Z t w9 (lk S t r).1) t = newTm Z t w9 (lk S t r).1 := if_neg (by omega)
          rw [hg43] at hcA
          refine g_widen (c2 := (rmC S (comA S t r).2)) (s2 := (rmS S (comA S t r).2)) (show (0 + (rmC (lkA S t r) Z)) ≤ (rmC S (comA S t r).2) by omega) (show (0 + (rmS (lkA S t r) Z)) ≤ (rmS S (comA S t r).2) by omega) ?_
          exact g_iret hC hR dX7_admit_103 ⟨b2, by rw [hcA, h16Z], by rw [hcA]; exact hx3, hg2⟩
        · refine g_aload_n hC dX7_admit_97 rfl 3 rfl (Or.inr ⟨_, rfl⟩) ?_
          have hg43 : grwS (newTm Z t w9 (lk S t r).1) t = growS (newTm Z t w9 (lk S t r).1) t := if_pos (by omega)
          have hrg := rm_grow (S := S) (N := newTm Z t w9 (lk S t r).1) htZ h13Z h15Z
          rw [hg43] at hcA
          rw [hcA] at hrl
          have hrE : rmC S (comA S t r).2 = rmC S (growS (newTm Z t w9 (lk S t r).1) t) ∧ rmS S (comA S t r).2 = rmS S (growS (newTm Z t w9 (lk S t r).1) t) := by rw [hcA]; exact ⟨rfl, rfl⟩
          refine g_Vx (As := []) (st := []) hC 0 dX7_admit_98 rfl (hx3.T (show t < (newTm Z t w9 (lk S t r).1).1 13 from htZ) hTZ hkZ).1 (hx3.T (show t < (newTm Z t w9 (lk S t r).1).1 13 from htZ) hTZ hkZ).2 gX7_admit_X7_grow rfl (by decide +kernel) ⟨Nat.le_of_ble_eq_true rfl, Nat.le_of_ble_eq_true rfl⟩ rfl (Nat.le_of_ble_eq_true rfl) ⟨(show (0 + (rmC (lkA S t r) Z)) + 1 ≤ (rmC S (comA S t r).2) by omega), (show (0 + (rmS (lkA S t r) Z)) + (2 * (newTm Z t w9 (lk S t r).1).2.1 15 t) ≤ (rmS S (comA S t r).2) by omega)⟩ (c2 := ((0 + (rmC (lkA S t r) Z)) + 1)) (s2 := ((0 + (rmS (lkA S t r) Z)) + (2 * (newTm Z t w9 (lk S t r).1).2.1 15 t))) rfl rfl (x_grow_T (S := newTm Z t w9 (lk S t r).1) hx3 (xF.newTm (xF.of hIZ) htZ hZf.2.1) t T htZ hTZ hkZ (fun r hr => hIZ.bl hr) hlsZ (grow_e hkz9.1 (by omega)) (by omega) (by omega)) (fun v4 L4 f4 hp4 => ?_)
          obtain ⟨b4, rfl, hx4, hg4⟩ := hp4
          show gW X vwCl 5 L4 f4 ((0 + (rmC (lkA S t r) Z)) + 1) ((0 + (rmS (lkA S t r) Z)) + (2 * (newTm Z t w9 (lk S t r).1).2.1 15 t)) 101 [(4, .int (nI (Z.2.1 16 t))), (3, .ref (b2.1 0 w9)), (2, .int (nI ((lk S t r).1))), (0, .ref T), (1, .ref A)] []
          refine g_iload hC dX7_admit_101 0 rfl ?_
          refine g_widen (c2 := (rmC S (comA S t r).2)) (s2 := (rmS S (comA S t r).2)) (show ((0 + (rmC (lkA S t r) Z)) + 1) ≤ (rmC S (comA S t r).2) by omega) (show ((0 + (rmS (lkA S t r) Z)) + (2 * (newTm Z t w9 (lk S t r).1).2.1 15 t)) ≤ (rmS S (comA S t r).2) by omega) ?_
          exact g_iret hC hR dX7_admit_103 ⟨b4, by rw [hcA, h16Z], by rw [hcA]; exact hx4, hg2.tr hVZ hg4⟩
      · cases h43
    · have hfull : S.2.1 16 t = 100 := by omega
      refine g_bipush hC dX7_admit_33 (v := (-4)) (by decide) ?_
      have hcA : comA S t r = (-4, lkA S t r) := by unfold comA; rw [if_neg (by omega), if_pos hfull]
      refine g_widen (c2 := (rmC S (comA S t r).2)) (s2 := (rmS S (comA S t r).2)) (show 0 ≤ (rmC S (comA S t r).2) by omega) (show 0 ≤ (rmS S (comA S t r).2) by omega) ?_
      exact g_iret hC hR dX7_admit_35 ⟨b, by rw [hcA], by rw [hcA]; exact hx1, xG.rf⟩
  · refine g_aload_n hC dX7_admit_17 rfl 1 rfl (Or.inr ⟨_, rfl⟩) ?_
    refine g_get hC (by decide +kernel) rfl (hx1.T ht hT hkb).1 (hx1.T ht hT hkb).2 1 (by decide) (by decide +kernel) (Or.inl rfl) rfl dX7_admit_18 ?_
    refine g_iload_n hC dX7_admit_21 rfl 0 rfl ?_
    refine g_iald hC 2 rfl (hx1.Ts ht rfl).1 (hx1.Ts ht rfl).2 ((lk S t r).1) rfl (show (lk S t r).1 < S.2.1 15 t by omega) (show S.2.1 15 t < 2 ^ 31 by omega) dX7_admit_22 ?_
    have hx0 : S.2.1 19 (256 * t + (lk S t r).1) ≠ 0 := fun q => h14 ((slv_3 (by omega)).mpr q)
    refine g_val (w := .int (nI (S.2.1 19 (256 * t + (lk S t r).1) - 1))) (congrArg Value.int ((if_pos hli).trans (slv_n hx0))) ?_
    have hcA : comA S t r = (nI (S.2.1 19 (256 * t + (lk S t r).1) - 1), lkA S t r) := if_pos (by omega)
    refine g_widen (c2 := (rmC S (comA S t r).2)) (s2 := (rmS S (comA S t r).2)) (show 0 ≤ (rmC S (comA S t r).2) by omega) (show 0 ≤ (rmS S (comA S t r).2) by omega) ?_
    exact g_iret hC hR dX7_admit_23 ⟨b, by rw [hcA], by rw [hcA]; exact hx1, xG.rf⟩
set_option maxRecDepth 20000 in
set_option maxHeartbeats 4000000 in
theorem x_admit_K {S : aS} {b : xB} (hx : xR cy S b L f) (hI : aI S) (hb : S.1 4 + 1 ≤ 39000) (h24 : S.1 21 < 1024) (t T : Nat) (ht : t < S.1 13) (hT : b.1 6 t = T) (hkb : S.2.1 14 t ≠ 0) (r A : Nat) (hr : r < S.1 4) (hA : b.1 0 r = A) : gCt l D vwCl (gKK D cy adK adV) yX7_admit wsX7_admit { frames := 7, cells := (rmC S (comA S t r).2), slots := (rmS S (comA S t r).2), locals := 143 } [.ref T, .ref A] L f (xP cy S b ((comA S t r).2) (fun b9 => some (.int (comA S t r).1))) := by
  refine gCt.of gKK_ok (by decide) rfl rfl (fun X hC hR hnm => ?_)
  have hC : gC X l _ D vwCl (cyT cy) (gKK D cy adK adV) cX7_admit 5 wsX7_admit RX7 := hC
  show gW X vwCl 5 L f 0 0 0 [(0, .ref T), (1, .ref A)] []
  have hk9 := hI.tk ht
  have hsb := sz_b hk9.1
  have hli := lk_i (r := r) hk9
  have htm := hk9.2.1
  have hso := hk9.2.2.2.2.2.1 _ hli
  refine g_aload_n hC dX7_admit_0 rfl 0 rfl (Or.inr ⟨_, rfl⟩) ?_
  refine g_aload_n hC dX7_admit_1 rfl 1 rfl (Or.inr ⟨_, rfl⟩) ?_
  refine g_Ux (As := [.ref A]) (st := []) hC 1 dX7_admit_2 rfl (hx.K ht hT hkb).1 (hx.K ht hT hkb).2 gX7_admit_X7_lookFor_u39X1 rfl rfl (by decide +kernel) ⟨Nat.le_of_ble_eq_true rfl, Nat.le_of_ble_eq_true rfl⟩ rfl (Nat.le_of_ble_eq_true rfl) ⟨(show 0 + 0 ≤ (rmC S (comA S t r).2) by omega), (show 0 + 0 ≤ (rmS S (comA S t r).2) by omega)⟩ (c2 := 0) (s2 := 0) rfl rfl (x_lookFor_K hx t T ht hT hkb r A hr hA (fun r hr => hI.bl hr) hk9) (fun v1 L1 f1 hp1 => ?_)
  obtain ⟨rfl, hx1⟩ := hp1
  show gW X vwCl 5 L1 f1 0 0 5 [(0, .ref T), (1, .ref A)] [.int (nI ((lk S t r).1))]
  refine g_istore_n (lv' := [(2, .int (nI ((lk S t r).1))), (0, .ref T), (1, .ref A)]) hC dX7_admit_5 rfl (by decide) rfl ?_
  refine g_aload_n hC dX7_admit_6 rfl 1 rfl (Or.inr ⟨_, rfl⟩) ?_
  refine g_get hC (by decide +kernel) rfl (hx1.K ht hT hkb).1 (hx1.K ht hT hkb).2 1 (by decide) (by decide +kernel) (Or.inl rfl) rfl dX7_admit_7 ?_
  refine g_iload_n hC dX7_admit_10 rfl 0 rfl ?_
  refine g_iald hC 2 rfl (hx1.Ts ht rfl).1 (hx1.Ts ht rfl).2 ((lk S t r).1) rfl (show (lk S t r).1 < S.2.1 15 t by omega) (show S.2.1 15 t < 2 ^ 31 by omega) dX7_admit_11 ?_
  refine g_val (w := .int (slv (S.2.1 19 (256 * t + (lk S t r).1)))) (congrArg Value.int (if_pos hli)) ?_
  refine g_bipush hC dX7_admit_12 (v := (-3)) (by decide) ?_
  refine g_icmp_eq (x := slv (S.2.1 19 (256 * t + (lk S t r).1))) (y := (-3)) (tgt := 24) hC dX7_admit_14 (by decide) (fun h14 => ?_) (fun h14 => ?_)
  · have hx0 : S.2.1 19 (256 * t + (lk S t r).1) = 0 := (slv_3 (by omega)).mp h14
    refine g_aload_n hC dX7_admit_24 rfl 1 rfl (Or.inr ⟨_, rfl⟩) ?_
    refine g_get hC (by decide +kernel) rfl (hx1.K ht hT hkb).1 (hx1.K ht hT hkb).2 2 (by decide) (by decide +kernel) (Or.inl rfl) rfl dX7_admit_25 ?_
    refine g_bipush hC dX7_admit_28 (v := nI 100) (by decide) ?_
    refine g_icmpN_lt (a := S.2.1 16 t) (b := 100) (tgt := 36) hC dX7_admit_30 (by decide) (by omega) (by omega) (fun h30 => ?_) (fun h30 => ?_)
    · have hcA : comA S t r = (nI (S.2.1 16 t), grwS (newTm (rowF (lkA S t r) t r).2 t (rowF (lkA S t r) t r).1 (lk S t r).1) t) := by unfold comA; rw [if_neg (by omega), if_neg (by omega)]
      have hIA := hI.lkA t r
      have hIZ := aI.row (t := t) hIA (show r < (lkA S t r).1 4 from hr) hb
      have hZf := rowF_f (t := t) hIA (show r < (lkA S t r).1 4 from hr)
      have hZ1 := rowF_1 (S := lkA S t r) (t := t) (r := r)
      have hVZ : ∀ k r9, xV S k r9 → xV (rowF (lkA S t r) t r).2 k r9 := fun k r9 hk => xV_row (t := t) hIA (show r < (lkA S t r).1 4 from hr) hk
      have hrw := x_rowFor_K (l := l) (D := D) (adK := adK) (adV := adV) (S := lkA S t r) hx1 hIA h24 t T ht hT hkb r A hr hA
      obtain ⟨w9, hw9⟩ : ∃ w9, (rowF (lkA S t r) t r).1 = w9 := ⟨_, rfl⟩
      obtain ⟨Z, hZ⟩ : ∃ Z, (rowF (lkA S t r) t r).2 = Z := ⟨_, rfl⟩
      rw [hw9, hZ] at hrw
      rw [hw9, hZ] at hcA
      rw [hZ] at hIZ
      rw [hw9, hZ] at hZf
      rw [hZ] at hZ1
      rw [hZ] at hVZ
      have h13Z : Z.1 13 = S.1 13 := hZ1 13 (by decide) (by decide)
      have htZ : t < Z.1 13 := by omega
      have h16Z : Z.2.1 16 t = S.2.1 16 t := by rw [hZf.1 16 (by decide) (by decide)]; rfl
      have h15Z : Z.2.1 15 = S.2.1 15 := by rw [hZf.1 15 (by decide) (by decide)]; rfl
      have h15t : Z.2.1 15 t = S.2.1 15 t := by rw [h15Z]
      have hkZ : Z.2.1 14 t ≠ 0 := by rw [hZf.1 14 (by decide) (by decide)]; exact hkb
      have hkz9 := hIZ.tk htZ
      have h43z := hkz9.2.2.1
      have hlsZ : ∀ t, t < Z.1 13 → Z.2.1 15 t ≤ 256 := fun u hu => (sz_b (hIZ.tk hu).1).2
      have hmZ : ∀ t, t < Z.1 13 → Z.2.1 16 t ≤ 100 := fun u hu => (hIZ.tk hu).2.1
      have h16N : (newTm Z t w9 (lk S t r).1).2.1 16 t = Z.2.1 16 t + 1 := va_up_self _ _ _
      have h15N : (newTm Z t w9 (lk S t r).1).2.1 15 t = Z.2.1 15 t := rfl
      have hrm : rmC S (newTm Z t w9 (lk S t r).1) = rmC (lkA S t r) Z ∧ rmS S (newTm Z t w9 (lk S t r).1) = rmS (lkA S t r) Z := rm_cg rfl rfl rfl rfl rfl rfl rfl rfl
      refine g_aload_n hC dX7_admit_36 rfl 1 rfl (Or.inr ⟨_, rfl⟩) ?_
      refine g_aload_n hC dX7_admit_37 rfl 2 rfl (Or.inr ⟨_, rfl⟩) ?_
      have hrl : rmC (lkA S t r) Z ≤ rmC S (comA S t r).2 ∧ rmS (lkA S t r) Z ≤ rmS S (comA S t r).2 := by
        rw [hcA]
        show _ ≤ rmC S (grwS _ t) ∧ _ ≤ rmS S (grwS _ t)
        unfold grwS
        split
        · have := rm_grow (S := S) (N := newTm Z t w9 (lk S t r).1) htZ h13Z h15Z
          omega
        · omega
      refine g_Ox (As := [.ref A]) (st := []) hC 1 dX7_admit_38 rfl (hx1.K ht hT hkb).1 (hx1.K ht hT hkb).2 gX7_admit_X1_rowFor_u43X1 rfl (b0 := cX7_rowFor) (m0 := 2) (r0 := (some (.object "KeptTerms$Bytes"))) (by decide +kernel) (by decide +kernel) ⟨Nat.le_of_ble_eq_true rfl, Nat.le_of_ble_eq_true rfl⟩ rfl (Nat.le_of_ble_eq_true rfl) ⟨(show 0 + (rmC (lkA S t r) Z) ≤ (rmC S (comA S t r).2) by omega), (show 0 + (rmS (lkA S t r) Z) ≤ (rmS S (comA S t r).2) by omega)⟩ (c2 := (0 + (rmC (lkA S t r) Z))) (s2 := (0 + (rmS (lkA S t r) Z))) rfl rfl hrw (fun v2 L2 f2 hp2 => ?_)
      obtain ⟨b2, rfl, hx2, hg2⟩ := hp2
      show gW X vwCl 5 L2 f2 (0 + (rmC (lkA S t r) Z)) (0 + (rmS (lkA S t r) Z)) 41 [(2, .int (nI ((lk S t r).1))), (0, .ref T), (1, .ref A)] [.ref (b2.1 0 w9)]
      have hTZ : b2.1 6 t = T := (hg2 6 t (by decide) (by decide) ht).trans hT
      refine g_astore_n (lv' := [(3, .ref (b2.1 0 w9)), (2, .int (nI ((lk S t r).1))), (0, .ref T), (1, .ref A)]) hC dX7_admit_41 rfl (by decide) rfl (Or.inr ⟨_, rfl⟩) ?_
      refine g_aload_n hC dX7_admit_42 rfl 0 rfl (Or.inr ⟨_, rfl⟩) ?_
      refine g_ifnonnull (o := some (b2.1 0 w9)) (tgt := 49) hC dX7_admit_43 (by decide) (fun a43 h43 => ?_) (fun h43 => ?_)
      · refine g_aload_n hC dX7_admit_49 rfl 2 rfl (Or.inr ⟨_, rfl⟩) ?_
        refine g_get hC (by decide +kernel) rfl (hx2.K htZ hTZ hkZ).1 (hx2.K htZ hTZ hkZ).2 2 (by decide) (by decide +kernel) (Or.inl rfl) rfl dX7_admit_50 ?_
        refine g_istore (lv' := [(4, .int (nI (Z.2.1 16 t))), (3, .ref (b2.1 0 w9)), (2, .int (nI ((lk S t r).1))), (0, .ref T), (1, .ref A)]) hC dX7_admit_53 (by decide) rfl ?_
        refine g_aload_n hC dX7_admit_55 rfl 3 rfl (Or.inr ⟨_, rfl⟩) ?_
        refine g_get hC (by decide +kernel) rfl (hx2.K htZ hTZ hkZ).1 (hx2.K htZ hTZ hkZ).2 0 (by decide) (by decide +kernel) (Or.inl rfl) rfl dX7_admit_56 ?_
        refine g_iload hC dX7_admit_59 0 rfl ?_
        refine g_aload_n hC dX7_admit_61 rfl 1 rfl (Or.inr ⟨_, rfl⟩) ?_
        refine g_aast hC 4 rfl (r := (RX0, TX0, 1)) rfl (hx2.B hZf.2.1 rfl).1 (hx2.B hZf.2.1 rfl).2 (hx2.Tt htZ rfl).1 (hx2.Tt htZ rfl).2 (Z.2.1 16 t) rfl (show Z.2.1 16 t < 100 by omega) (by decide) dX7_admit_62 ?_
        have hn7 : T ≠ b2.1 7 t := hx2.apart hTZ rfl htZ htZ (Or.inl (by decide))
        have hn8 : T ≠ b2.1 8 t := hx2.apart hTZ rfl htZ htZ (Or.inl (by decide))
        have h87 : b2.1 8 t ≠ b2.1 7 t := hx2.apart rfl rfl htZ htZ (Or.inl (by decide))
        refine g_aload_n hC dX7_admit_63 rfl 3 rfl (Or.inr ⟨_, rfl⟩) ?_
        refine g_get hC (by decide +kernel) rfl (hx2.K htZ hTZ hkZ).1 ((va_up_ne _ _ hn7).trans (hx2.K htZ hTZ hkZ).2) 1 (by decide) (by decide +kernel) (Or.inl rfl) rfl dX7_admit_64 ?_
        refine g_iload_n hC dX7_admit_67 rfl 2 rfl ?_
        refine g_iload hC dX7_admit_68 0 rfl ?_
        refine g_iast hC 2 rfl (hx2.Ts htZ rfl).1 ((va_up_ne _ _ h87).trans (hx2.Ts htZ rfl).2) ((lk S t r).1) rfl (show (lk S t r).1 < Z.2.1 15 t by omega) (show Z.2.1 15 t < 2 ^ 31 by omega) dX7_admit_70 ?_
        refine g_aload_n hC dX7_admit_71 rfl 3 rfl (Or.inr ⟨_, rfl⟩) ?_
        refine g_dup hC dX7_admit_72 rfl ?_
        refine g_get hC (by decide +kernel) rfl (hx2.K htZ hTZ hkZ).1 ((va_up_ne _ _ hn8).trans ((va_up_ne _ _ hn7).trans (hx2.K htZ hTZ hkZ).2)) 2 (by decide) (by decide +kernel) (Or.inl rfl) rfl dX7_admit_73 ?_
        refine g_iconst hC dX7_admit_76 (v := nI 1) (by decide) ?_
        refine g_iaddN (a := Z.2.1 16 t) (b := 1) hC dX7_admit_77 ?_
        refine g_put hC (by decide +kernel) tyX1 tyX1_ok nmX1 rfl (hx2.K htZ hTZ hkZ).1 ((va_up_ne _ _ hn8).trans ((va_up_ne _ _ hn7).trans (hx2.K htZ hTZ hkZ).2)) 2 (by decide) (by decide +kernel) (Or.inl rfl) rfl (tyX1_ok 2 (by decide)) rfl rfl (show 2 < 6 by decide) dX7_admit_78 ?_
        refine g_fx (P := xR cy ((newTm Z t w9 (lk S t r).1)) b2) (hx2.newTmk (r := w9) hlsZ hmZ htZ hkZ (by omega) (by omega) hTZ) (fun f3 hx3 => ?_)
        show gW X vwCl 5 L2 f3 (0 + (rmC (lkA S t r) Z)) (0 + (rmS (lkA S t r) Z)) 81 [(4, .int (nI (Z.2.1 16 t))), (3, .ref (b2.1 0 w9)), (2, .int (nI ((lk S t r).1))), (0, .ref T), (1, .ref A)] []
        refine g_iconst hC dX7_admit_81 (v := nI 4) (by decide) ?_
        refine g_aload_n hC dX7_admit_82 rfl 3 rfl (Or.inr ⟨_, rfl⟩) ?_
        refine g_get hC (by decide +kernel) rfl (hx3.K (show t < (newTm Z t w9 (lk S t r).1).1 13 from htZ) hTZ hkZ).1 (hx3.K (show t < (newTm Z t w9 (lk S t r).1).1 13 from htZ) hTZ hkZ).2 2 (by decide) (by decide +kernel) (Or.inl rfl) rfl dX7_admit_83 ?_
        refine g_imulN (a := 4) (b := ((newTm Z t w9 (lk S t r).1)).2.1 16 t) hC dX7_admit_86 ?_
        refine g_iconst hC dX7_admit_87 (v := nI 3) (by decide) ?_
        refine g_aload_n hC dX7_admit_88 rfl 3 rfl (Or.inr ⟨_, rfl⟩) ?_
        refine g_get hC (by decide +kernel) rfl (hx3.K (show t < (newTm Z t w9 (lk S t r).1).1 13 from htZ) hTZ hkZ).1 (hx3.K (show t < (newTm Z t w9 (lk S t r).1).1 13 from htZ) hTZ hkZ).2 1 (by decide) (by decide +kernel) (Or.inl rfl) rfl dX7_admit_89 ?_
        refine g_alen hC 2 rfl (hx3.Ts htZ rfl).1 (hx3.Ts htZ rfl).2 dX7_admit_92 ?_
        refine g_imulN (a := 3) (b := ((newTm Z t w9 (lk S t r).1)).2.1 15 t) hC dX7_admit_93 ?_
        refine g_icmpN_le (a := 4 * (((newTm Z t w9 (lk S t r).1)).2.1 16 t)) (b := 3 * (((newTm Z t w9 (lk S t r).1)).2.1 15 t)) (tgt := 101) hC dX7_admit_94 (by decide) (by omega) (by omega) (fun h94 => ?_) (fun h94 => ?_)
        · refine g_iload hC dX7_admit_101 0 rfl ?_
          have hg43 : grwS (newTm Z t w9 (lk S t r).1) t = newTm Z t w9 (lk S t r).1 := if_neg (by omega)
          rw [hg43] at hcA
          refine g_widen (c2 := (rmC S (comA S t r).2)) (s2 := (rmS S (comA S t r).2)) (show (0 + (rmC (lkA S t r) Z)) ≤ (rmC S (comA S t r).2) by omega) (show (0 + (rmS (lkA S t r) Z)) ≤ (rmS S (comA S t r).2) by omega) ?_
          exact g_iret hC hR dX7_admit_103 ⟨b2, by rw [hcA, h16Z], by rw [hcA]; exact hx3, hg2⟩
        · refine g_aload_n hC dX7_admit_97 rfl 3 rfl (Or.inr ⟨_, rfl⟩) ?_
          have hg43 : grwS (newTm Z t w9 (lk S t r).1) t = growS (newTm Z t w9 (lk S t r).1) t := if_pos (by omega)
          have hrg := rm_grow (S := S) (N := newTm Z t w9 (lk S t r).1) htZ h13Z h15Z
          rw [hg43] at hcA
          rw [hcA] at hrl
          have hrE : rmC S (comA S t r).2 = rmC S (growS (newTm Z t w9 (lk S t r).1) t) ∧ rmS S (comA S t r).2 = rmS S (growS (newTm Z t w9 (lk S t r).1) t) := by rw [hcA]; exact ⟨rfl, rfl⟩
          refine g_Ux (As := []) (st := []) hC 0 dX7_admit_98 rfl (hx3.K (show t < (newTm Z t w9 (lk S t r).1).1 13 from htZ) hTZ hkZ).1 (hx3.K (show t < (newTm Z t w9 (lk S t r).1).1 13 from htZ) hTZ hkZ).2 gX7_admit_X7_grow_u47X1 rfl rfl (by decide +kernel) ⟨Nat.le_of_ble_eq_true rfl, Nat.le_of_ble_eq_true rfl⟩ rfl (Nat.le_of_ble_eq_true rfl) ⟨(show (0 + (rmC (lkA S t r) Z)) + 1 ≤ (rmC S (comA S t r).2) by omega), (show (0 + (rmS (lkA S t r) Z)) + (2 * (newTm Z t w9 (lk S t r).1).2.1 15 t) ≤ (rmS S (comA S t r).2) by omega)⟩ (c2 := ((0 + (rmC (lkA S t r) Z)) + 1)) (s2 := ((0 + (rmS (lkA S t r) Z)) + (2 * (newTm Z t w9 (lk S t r).1).2.1 15 t))) rfl rfl (x_grow_K (S := newTm Z t w9 (lk S t r).1) hx3 (xF.newTm (xF.of hIZ) htZ hZf.2.1) t T htZ hTZ hkZ (fun r hr => hIZ.bl hr) hlsZ (grow_e hkz9.1 (by omega)) (by omega) (by omega)) (fun v4 L4 f4 hp4 => ?_)
          obtain ⟨b4, rfl, hx4, hg4⟩ := hp4
          show gW X vwCl 5 L4 f4 ((0 + (rmC (lkA S t r) Z)) + 1) ((0 + (rmS (lkA S t r) Z)) + (2 * (newTm Z t w9 (lk S t r).1).2.1 15 t)) 101 [(4, .int (nI (Z.2.1 16 t))), (3, .ref (b2.1 0 w9)), (2, .int (nI ((lk S t r).1))), (0, .ref T), (1, .ref A)] []
          refine g_iload hC dX7_admit_101 0 rfl ?_
          refine g_widen (c2 := (rmC S (comA S t r).2)) (s2 := (rmS S (comA S t r).2)) (show ((0 + (rmC (lkA S t r) Z)) + 1) ≤ (rmC S (comA S t r).2) by omega) (show ((0 + (rmS (lkA S t r) Z)) + (2 * (newTm Z t w9 (lk S t r).1).2.1 15 t)) ≤ (rmS S (comA S t r).2) by omega) ?_
          exact g_iret hC hR dX7_admit_103 ⟨b4, by rw [hcA, h16Z], by rw [hcA]; exact hx4, hg2.tr hVZ hg4⟩
      · cases h43
    · have hfull : S.2.1 16 t = 100 := by omega
      refine g_bipush hC dX7_admit_33 (v := (-4)) (by decide) ?_
      have hcA : comA S t r = (-4, lkA S t r) := by unfold comA; rw [if_neg (by omega), if_pos hfull]
      refine g_widen (c2 := (rmC S (comA S t r).2)) (s2 := (rmS S (comA S t r).2)) (show 0 ≤ (rmC S (comA S t r).2) by omega) (show 0 ≤ (rmS S (comA S t r).2) by omega) ?_
      exact g_iret hC hR dX7_admit_35 ⟨b, by rw [hcA], by rw [hcA]; exact hx1, xG.rf⟩
  · refine g_aload_n hC dX7_admit_17 rfl 1 rfl (Or.inr ⟨_, rfl⟩) ?_
    refine g_get hC (by decide +kernel) rfl (hx1.K ht hT hkb).1 (hx1.K ht hT hkb).2 1 (by decide) (by decide +kernel) (Or.inl rfl) rfl dX7_admit_18 ?_
    refine g_iload_n hC dX7_admit_21 rfl 0 rfl ?_
    refine g_iald hC 2 rfl (hx1.Ts ht rfl).1 (hx1.Ts ht rfl).2 ((lk S t r).1) rfl (show (lk S t r).1 < S.2.1 15 t by omega) (show S.2.1 15 t < 2 ^ 31 by omega) dX7_admit_22 ?_
    have hx0 : S.2.1 19 (256 * t + (lk S t r).1) ≠ 0 := fun q => h14 ((slv_3 (by omega)).mpr q)
    refine g_val (w := .int (nI (S.2.1 19 (256 * t + (lk S t r).1) - 1))) (congrArg Value.int ((if_pos hli).trans (slv_n hx0))) ?_
    have hcA : comA S t r = (nI (S.2.1 19 (256 * t + (lk S t r).1) - 1), lkA S t r) := if_pos (by omega)
    refine g_widen (c2 := (rmC S (comA S t r).2)) (s2 := (rmS S (comA S t r).2)) (show 0 ≤ (rmC S (comA S t r).2) by omega) (show 0 ≤ (rmS S (comA S t r).2) by omega) ?_
    exact g_iret hC hR dX7_admit_23 ⟨b, by rw [hcA], by rw [hcA]; exact hx1, xG.rf⟩
end X8
