theorem and31 (z : Int32) : ∃ j, j < 32 ∧ z &&& nI 31 = nI j := by
  refine ⟨(z &&& nI 31).toBitVec.toNat, ?_, ?_⟩
  · have h : (z &&& nI 31).toBitVec.toNat = z.toBitVec.toNat &&& 31 := by
      rw [Int32.toBitVec_and, BitVec.toNat_and]; rfl
    rw [h]; exact Nat.lt_succ_of_le Nat.and_le_right
  · apply Int32.toBitVec_inj.mp
    show _ = BitVec.ofNat 32 _
    simp
theorem gt6 {a n : Nat} (ha : a < 10000) (hn : n < 10000) : nI n - nI 6 < nI a ↔ n < a + 6 := by
  rw [Int32.lt_iff_toInt_lt, Int32.toInt_sub, nI_toInt (by omega), nI_toInt (by omega), nI_toInt (by omega)]
  have h : (((n : Int) - ((6 : Nat) : Int)).bmod (2 ^ 32)) = (n : Int) - 6 := by rw [Int.bmod_def]; omega
  rw [h]; omega
section LP
variable {X : gX} {l : Launch} {D : va_G} {cy adK adV : Nat → Nat} {sa x o u bs N : Nat} {ad : Nat → Nat} {xs : Nat → Int32} {gl : Nat → Int64} {k : Nat} {S : aS} {b : xB} {Lx : List Nat} {F : Nat → va_E}
set_option maxRecDepth 20000 in
set_option maxHeartbeats 4000000 in
theorem lw_sw (hC : gC X l room_1 D vwCl (cyT cy) (gKS D cy adK adV) cL_law 7 wsL_law RL) (hKM : gKM D cy adK adV sa X.2.2.2.1 X.2.1.1) (hlt : l.stackTraces = false) (hX : va_X bs N xs X.2.1.1 X.2.1.1.heap) (hbl : bs < X.2.1.1.heap.size) (hbA : ¬ X.2.2.2.1 bs) (hN : N ≤ 3072) (hI : lwI cy x o u ad k S b Lx F gl) (h6 : 6 * k + 6 ≤ N) (kk : ∀ S' b' L' F' gl', lwI cy x o u ad (k + 1) S' b' L' F' gl' → gW X vwCl 7 (L' ++ (mL o ad ++ [u])) F' (40 + 3 * (k + 1) + rmC aS0 S') (930000 + 400 * (k + 1) + rmS aS0 S') 1261 [(4, .int (nI (6 * k))), (3, .ref u), (2, .ref o), (1, .ref x), (0, .ref bs)] []) : ∀ j, j < 32 → gW X vwCl 7 (Lx ++ (mL o ad ++ [u])) F (40 + 3 * k + rmC aS0 S) (930000 + 400 * k + rmS aS0 S) 40 [(4, .int (nI (6 * k))), (3, .ref u), (2, .ref o), (1, .ref x), (0, .ref bs)] [.int (nI j)]
  | 0, _ => g_tableIn (off := 124) (tgt := 164) hC dL_law_40 (by decide +kernel) (by decide +kernel) (by decide +kernel) (by decide +kernel) (lc_fault hC hX hbl hbA hN hI h6 (fun S' b' L' F' h => kk S' b' L' F' gl h))
  | 1, _ => g_tableIn (off := 137) (tgt := 177) hC dL_law_40 (by decide +kernel) (by decide +kernel) (by decide +kernel) (by decide +kernel) (lc_make hC hX hbl hbA hN hI h6 (fun S' b' L' F' h => kk S' b' L' F' gl h))
  | 2, _ => g_tableIn (off := 186) (tgt := 226) hC dL_law_40 (by decide +kernel) (by decide +kernel) (by decide +kernel) (by decide +kernel) (lc_table hC hX hbl hbA hN hI h6 (fun S' b' L' F' h => kk S' b' L' F' gl h))
  | 3, _ => g_tableIn (off := 251) (tgt := 291) hC dL_law_40 (by decide +kernel) (by decide +kernel) (by decide +kernel) (by decide +kernel) (lc_move hC hX hbl hbA hN hI h6 (fun S' b' L' F' h => kk S' b' L' F' gl h))
  | 4, _ => g_tableIn (off := 288) (tgt := 328) hC dL_law_40 (by decide +kernel) (by decide +kernel) (by decide +kernel) (by decide +kernel) (lc_held hC hX hbl hbA hN hI h6 (fun S' b' L' F' h => kk S' b' L' F' gl h))
  | 5, _ => g_tableIn (off := 325) (tgt := 365) hC dL_law_40 (by decide +kernel) (by decide +kernel) (by decide +kernel) (by decide +kernel) (lc_same hC hX hbl hbA hN hI h6 (fun S' b' L' F' h => kk S' b' L' F' gl h))
  | 6, _ => g_tableIn (off := 362) (tgt := 402) hC dL_law_40 (by decide +kernel) (by decide +kernel) (by decide +kernel) (by decide +kernel) (lc_length hC hX hbl hbA hN hI h6 (fun S' b' L' F' h => kk S' b' L' F' gl h))
  | 7, _ => g_tableIn (off := 399) (tgt := 439) hC dL_law_40 (by decide +kernel) (by decide +kernel) (by decide +kernel) (by decide +kernel) (lc_get hC hX hbl hbA hN hI h6 (fun S' b' L' F' h => kk S' b' L' F' gl h))
  | 8, _ => g_tableIn (off := 449) (tgt := 489) hC dL_law_40 (by decide +kernel) (by decide +kernel) (by decide +kernel) (by decide +kernel) (lc_set hC hX hbl hbA hN hI h6 (fun S' b' L' F' h => kk S' b' L' F' gl h))
  | 9, _ => g_tableIn (off := 510) (tgt := 550) hC dL_law_40 (by decide +kernel) (by decide +kernel) (by decide +kernel) (by decide +kernel) (lc_lay hC hX hbl hbA hN hI h6 (fun S' b' L' F' h => kk S' b' L' F' gl h))
  | 10, _ => g_tableIn (off := 559) (tgt := 599) hC dL_law_40 (by decide +kernel) (by decide +kernel) (by decide +kernel) (by decide +kernel) (lc_take hC hX hbl hbA hN hI h6 (fun S' b' L' F' h => kk S' b' L' F' gl h))
  | 11, _ => g_tableIn (off := 608) (tgt := 648) hC dL_law_40 (by decide +kernel) (by decide +kernel) (by decide +kernel) (by decide +kernel) (lc_cell hC hX hbl hbA hN hI h6 (fun S' b' L' F' h => kk S' b' L' F' gl h))
  | 12, _ => g_tableIn (off := 658) (tgt := 698) hC dL_law_40 (by decide +kernel) (by decide +kernel) (by decide +kernel) (by decide +kernel) (lc_copy hC hX hbl hbA hN hI h6 (fun S' b' L' F' h => kk S' b' L' F' gl h))
  | 13, _ => g_tableIn (off := 731) (tgt := 771) hC dL_law_40 (by decide +kernel) (by decide +kernel) (by decide +kernel) (by decide +kernel) (lc_twin hC hX hbl hbA hN hI h6 (fun S' b' L' F' h => kk S' b' L' F' gl h))
  | 14, _ => g_tableIn (off := 768) (tgt := 808) hC dL_law_40 (by decide +kernel) (by decide +kernel) (by decide +kernel) (by decide +kernel) (lc_like hC hX hbl hbA hN hI h6 (fun S' b' L' F' h => kk S' b' L' F' gl h))
  | 15, _ => g_tableIn (off := 805) (tgt := 845) hC dL_law_40 (by decide +kernel) (by decide +kernel) (by decide +kernel) (by decide +kernel) (lc_hash hC hX hbl hbA hN hI h6 (fun S' b' L' F' h => kk S' b' L' F' gl h))
  | 16, _ => g_tableIn (off := 831) (tgt := 871) hC dL_law_40 (by decide +kernel) (by decide +kernel) (by decide +kernel) (by decide +kernel) (lc_order hC hX hbl hbA hN hI h6 (fun S' b' L' F' h => kk S' b' L' F' gl h))
  | 17, _ => g_tableIn (off := 868) (tgt := 908) hC dL_law_40 (by decide +kernel) (by decide +kernel) (by decide +kernel) (by decide +kernel) (lc_named hC hX hbl hbA hN hI h6 (fun S' b' L' F' h => kk S' b' L' F' gl h))
  | 18, _ => g_tableIn (off := 893) (tgt := 933) hC dL_law_40 (by decide +kernel) (by decide +kernel) (by decide +kernel) (by decide +kernel) (lc_add hC hX hbl hbA hN hI h6 (fun S' b' L' F' h => kk S' b' L' F' gl h))
  | 19, _ => g_tableIn (off := 930) (tgt := 970) hC dL_law_40 (by decide +kernel) (by decide +kernel) (by decide +kernel) (by decide +kernel) (lc_find hC hX hbl hbA hN hI h6 (fun S' b' L' F' h => kk S' b' L' F' gl h))
  | 20, _ => g_tableIn (off := 967) (tgt := 1007) hC dL_law_40 (by decide +kernel) (by decide +kernel) (by decide +kernel) (by decide +kernel) (lc_term hC hX hbl hbA hN hI h6 (fun S' b' L' F' h => kk S' b' L' F' gl h))
  | 21, _ => g_tableIn (off := 1016) (tgt := 1056) hC dL_law_40 (by decide +kernel) (by decide +kernel) (by decide +kernel) (by decide +kernel) (lc_told hC hX hbl hbA hN hI h6 (fun S' b' L' F' h => kk S' b' L' F' gl h))
  | 22, _ => g_tableIn (off := 1053) (tgt := 1093) hC dL_law_40 (by decide +kernel) (by decide +kernel) (by decide +kernel) (by decide +kernel) (lc_slot hC hX hbl hbA hN hI h6 (fun S' b' L' F' h => kk S' b' L' F' gl h))
  | 23, _ => g_tableIn (off := 1090) (tgt := 1130) hC dL_law_40 (by decide +kernel) (by decide +kernel) (by decide +kernel) (by decide +kernel) (lc_ranked hC hX hbl hbA hN hI h6 (fun S' b' L' F' h => kk S' b' L' F' gl h))
  | 24, _ => g_tableIn (off := 1127) (tgt := 1167) hC dL_law_40 (by decide +kernel) (by decide +kernel) (by decide +kernel) (by decide +kernel) (lc_merge hC hX hbl hbA hN hI h6 (fun S' b' L' F' h => kk S' b' L' F' gl h))
  | 25, _ => g_tableIn (off := 1164) (tgt := 1204) hC dL_law_40 (by decide +kernel) (by decide +kernel) (by decide +kernel) (by decide +kernel) (lc_kept hC hX hbl hbA hN hI h6 (fun S' b' L' F' h => kk S' b' L' F' gl h))
  | 26, _ => g_tableIn (off := 1177) (tgt := 1217) hC dL_law_40 (by decide +kernel) (by decide +kernel) (by decide +kernel) (by decide +kernel) (lc_mean hC hKM hlt hI (by omega) kk)
  | j + 27, hj => by
    refine g_tableOut (tgt := 1261) hC dL_law_40 (Or.inr (by rw [nI_toInt (by omega)]; omega)) (by decide +kernel) ?_
    obtain ⟨h1, h2, h3, h4, h5, h7, h8, h9, h10, h11⟩ := hI
    refine g_widen (c2 := 40 + 3 * (k + 1) + rmC aS0 S) (s2 := 930000 + 400 * (k + 1) + rmS aS0 S) (by omega) (by omega) ?_
    exact kk S b Lx F gl ⟨h1.up, h2, h3, h4, h5, h7, h8, h9, by omega, by omega⟩
set_option maxRecDepth 20000 in
set_option maxHeartbeats 4000000 in
theorem lw_loop (hC : gC X l room_1 D vwCl (cyT cy) (gKS D cy adK adV) cL_law 7 wsL_law RL) (hKM : gKM D cy adK adV sa X.2.2.2.1 X.2.1.1) (hlt : l.stackTraces = false) (hX : va_X bs N xs X.2.1.1 X.2.1.1.heap) (hbl : bs < X.2.1.1.heap.size) (hbA : ¬ X.2.2.2.1 bs) (hN : N ≤ 3072) (kE : ∀ (k : Nat) (S : aS) (b : xB) (Lx : List Nat) (F : Nat → va_E) (gl : Nat → Int64), k ≤ 512 → lwI cy x o u ad k S b Lx F gl → gW X vwCl 7 (Lx ++ (mL o ad ++ [u])) F (40 + 3 * k + rmC aS0 S) (930000 + 400 * k + rmS aS0 S) 1267 [(4, .int (nI (6 * k))), (3, .ref u), (2, .ref o), (1, .ref x), (0, .ref bs)] []) : ∀ (m k : Nat) (S : aS) (b : xB) (Lx : List Nat) (F : Nat → va_E) (gl : Nat → Int64), N ≤ 6 * k + 6 * m → 6 * k ≤ N → lwI cy x o u ad k S b Lx F gl → gW X vwCl 7 (Lx ++ (mL o ad ++ [u])) F (40 + 3 * k + rmC aS0 S) (930000 + 400 * k + rmS aS0 S) 23 [(4, .int (nI (6 * k))), (3, .ref u), (2, .ref o), (1, .ref x), (0, .ref bs)] []
  | m, k, S, b, Lx, F, gl, hm, hk, hI => by
    refine g_iload hC dL_law_23 0 rfl ?_
    refine g_aload_n hC dL_law_25 rfl 4 rfl (Or.inr ⟨_, rfl⟩) ?_
    refine g_slen hC hX hbl hbA dL_law_26 ?_
    refine g_bipush hC dL_law_27 (v := nI 6) (by decide) ?_
    refine g_isub hC dL_law_29 ?_
    refine g_icmp_gt (tgt := 1267) hC dL_law_30 (by decide) (fun _ => kE k S b Lx F gl (by omega) hI) (fun h9 => ?_)
    have h6 : 6 * k + 6 ≤ N := by
      have := mt (gt6 (a := 6 * k) (n := N) (by omega) (by omega)).mpr h9
      omega
    match m, hm with
    | 0, hm => exact absurd hm (by omega)
    | m + 1, hm =>
      refine g_aload_n hC dL_law_33 rfl 4 rfl (Or.inr ⟨_, rfl⟩) ?_
      refine g_iload hC dL_law_34 0 rfl ?_
      refine g_sld hC hX hbl hbA (6 * k) rfl (show 6 * k < N by omega) (show N < 2 ^ 31 by omega) dL_law_36 ?_
      refine g_bipush hC dL_law_37 (v := nI 31) (by decide) ?_
      refine g_iand hC dL_law_39 ?_
      obtain ⟨j, hj, hje⟩ := and31 (xs (6 * k))
      refine g_val (w := .int (nI j)) (congrArg Value.int hje) ?_
      refine lw_sw hC hKM hlt hX hbl hbA hN hI h6 (fun S' b' L' F' gl' hI' => ?_) j hj
      refine g_iinc (v := nI (6 * (k + 1))) hC dL_law_1261 0 rfl ?_ (by decide) rfl ?_
      · exact (nI_add (6 * k) 6).trans (congrArg nI (by omega))
      · refine g_goto (tgt := 23) hC dL_law_1264 (by decide) ?_
        exact lw_loop hC hKM hlt hX hbl hbA hN kE m (k + 1) S' b' L' F' gl' (by omega) (by omega) hI'
end LP
