section NM
variable {l : Launch} {D : va_G} {cy adK adV : Nat → Nat} {L : List Nat} {f : Nat → va_E}
set_option maxRecDepth 20000 in
set_option maxHeartbeats 4000000 in
theorem x_coder (i : Nat) (hi : i < 8) : gCt l D vwCl (gKS D cy adK adV) yJ0_coder_7d493 wsJ0_coder_7d493 { frames := 0, cells := 0, slots := 0, locals := 0 } [.ref (adK i)] L f (pE (some (.int (nI 0))) L f) := by
  refine gCt.of gKS_ok (by decide) rfl rfl (fun X hC hR hnm => ?_)
  have hC : gC X l _ D vwCl (cyT cy) (gKS D cy adK adV) cJ0_coder_7d493 1 wsJ0_coder_7d493 RJ0 := hC
  show gW X vwCl 1 L f 0 0 0 [(0, .ref (adK i))] []
  refine g_gets hC gKS_z (by decide +kernel) dJ0_coder_7d493_0 ?_
  refine g_ifN_eq (a := 1) (tgt := 13) hC dJ0_coder_7d493_3 (by decide) (by omega) (fun h3 => ?_) (fun h3 => ?_)
  · exfalso; omega
  · refine g_aload_n hC dJ0_coder_7d493_6 rfl 0 rfl (Or.inr ⟨_, rfl⟩) ?_
    refine g_getO hC (gKS_c hi) (by decide +kernel) dJ0_coder_7d493_7 ?_
    refine g_goto (tgt := 14) hC dJ0_coder_7d493_10 (by decide) ?_
    exact g_zret hC hR rfl dJ0_coder_7d493_14 ⟨rfl, rfl, rfl⟩
set_option maxRecDepth 20000 in
set_option maxHeartbeats 4000000 in
theorem x_slen (i : Nat) (hi : i < 8) : gCt l D vwCl (gKS D cy adK adV) yJ0_length_8abf5 wsJ0_length_8abf5 { frames := 1, cells := 0, slots := 0, locals := 20 } [.ref (adK i)] L f (pE (some (.int (nI (kLen.getD i 0)))) L f) := by
  refine gCt.of gKS_ok (by decide) rfl rfl (fun X hC hR hnm => ?_)
  have hC : gC X l _ D vwCl (cyT cy) (gKS D cy adK adV) cJ0_length_8abf5 1 wsJ0_length_8abf5 RJ0 := hC
  show gW X vwCl 1 L f 0 0 0 [(0, .ref (adK i))] []
  have hlb := kL_b i hi
  refine g_aload_n hC dJ0_length_8abf5_0 rfl 0 rfl (Or.inr ⟨_, rfl⟩) ?_
  refine g_getO hC (gKS_v hi) (by decide +kernel) dJ0_length_8abf5_1 ?_
  refine g_tlen hC (gKS_T hi) dJ0_length_8abf5_4 ?_
  refine g_aload_n hC dJ0_length_8abf5_5 rfl 0 rfl (Or.inr ⟨_, rfl⟩) ?_
  refine g_VK (As := []) (st := [.int (nI (kLen.getD i 0))]) hC 0 dJ0_length_8abf5_6 (gKS_r hi) gJ0_length_8abf5_J0_coder_7d493 rfl (by decide +kernel) ⟨Nat.le_of_ble_eq_true rfl, Nat.le_of_ble_eq_true rfl⟩ rfl (Nat.le_of_ble_eq_true rfl) ⟨Nat.le_of_ble_eq_true rfl, Nat.le_of_ble_eq_true rfl⟩ (c2 := 0) (s2 := 0) rfl rfl (x_coder i hi) ?_
  refine g_ishr hC dJ0_length_8abf5_9 ?_
  refine g_val (w := .int (nI (kLen.getD i 0))) (congrArg Value.int ((pk_shrN (by omega) _ 0 (by decide)).trans (by rw [Nat.pow_zero, Nat.div_one]))) ?_
  exact g_iret hC hR dJ0_length_8abf5_10 ⟨rfl, rfl, rfl⟩
set_option maxRecDepth 20000 in
set_option maxHeartbeats 4000000 in
theorem x_latin (i : Nat) (hi : i < 8) : gCt l D vwCl (gKS D cy adK adV) yJ0_isLatin1_aae02 wsJ0_isLatin1_aae02 { frames := 0, cells := 0, slots := 0, locals := 0 } [.ref (adK i)] L f (pE (some (.int (nI 1))) L f) := by
  refine gCt.of gKS_ok (by decide) rfl rfl (fun X hC hR hnm => ?_)
  have hC : gC X l _ D vwCl (cyT cy) (gKS D cy adK adV) cJ0_isLatin1_aae02 1 wsJ0_isLatin1_aae02 RJ0 := hC
  show gW X vwCl 1 L f 0 0 0 [(0, .ref (adK i))] []
  refine g_gets hC gKS_z (by decide +kernel) dJ0_isLatin1_aae02_0 ?_
  refine g_ifN_eq (a := 1) (tgt := 17) hC dJ0_isLatin1_aae02_3 (by decide) (by omega) (fun h3 => ?_) (fun h3 => ?_)
  · exfalso; omega
  · refine g_aload_n hC dJ0_isLatin1_aae02_6 rfl 0 rfl (Or.inr ⟨_, rfl⟩) ?_
    refine g_getO hC (gKS_c hi) (by decide +kernel) dJ0_isLatin1_aae02_7 ?_
    refine g_ifN_ne (a := 0) (tgt := 17) hC dJ0_isLatin1_aae02_10 (by decide) (by omega) (fun h10 => ?_) (fun h10 => ?_)
    · exfalso; omega
    · refine g_iconst hC dJ0_isLatin1_aae02_13 (v := nI 1) (by decide) ?_
      refine g_goto (tgt := 18) hC dJ0_isLatin1_aae02_14 (by decide) ?_
      exact g_zret hC hR rfl dJ0_isLatin1_aae02_18 ⟨rfl, rfl, rfl⟩
set_option maxRecDepth 20000 in
set_option maxHeartbeats 4000000 in
theorem x_check3 (o : Option Nat) (j n : Nat) (hj : j < n) (hn : n < 2 ^ 30) : gCt l D vwCl (gKS D cy adK adV) yJ3_checkIndex_8e157 wsJ3_checkIndex_8e157 { frames := 0, cells := 0, slots := 0, locals := 0 } [.int (nI j), .int (nI n), va_rf o] L f (pE (some (.int (nI j))) L f) := by
  rcases o with _ | a
  · refine gCt.of gKS_ok (by decide) rfl rfl (fun X hC hR hnm => ?_)
    have hC : gC X l _ D vwCl (cyT cy) (gKS D cy adK adV) cJ3_checkIndex_8e157 3 wsJ3_checkIndex_8e157 RJ3 := hC
    show gW X vwCl 3 L f 0 0 0 [(0, .int (nI j)), (1, .int (nI n)), (2, .null)] []
    refine g_iload_n hC dJ3_checkIndex_8e157_0 rfl 0 rfl ?_
    refine g_if_lt (x := nI j) (tgt := 9) hC dJ3_checkIndex_8e157_1 (by decide) (fun h1 => ?_) (fun h1 => ?_)
    · exact absurd h1 (nI_pos (by omega))
    · refine g_iload_n hC dJ3_checkIndex_8e157_4 rfl 0 rfl ?_
      refine g_iload_n hC dJ3_checkIndex_8e157_5 rfl 1 rfl ?_
      refine g_icmpN_lt (a := j) (b := n) (tgt := 16) hC dJ3_checkIndex_8e157_6 (by decide) (by omega) (by omega) (fun h6 => ?_) (fun h6 => ?_)
      · refine g_iload_n hC dJ3_checkIndex_8e157_16 rfl 0 rfl ?_
        exact g_iret hC hR dJ3_checkIndex_8e157_17 ⟨rfl, rfl, rfl⟩
      · exfalso; omega
  · refine gCt.of gKS_ok (by decide) rfl rfl (fun X hC hR hnm => ?_)
    have hC : gC X l _ D vwCl (cyT cy) (gKS D cy adK adV) cJ3_checkIndex_8e157 3 wsJ3_checkIndex_8e157 RJ3 := hC
    show gW X vwCl 3 L f 0 0 0 [(0, .int (nI j)), (1, .int (nI n)), (2, .ref a)] []
    refine g_iload_n hC dJ3_checkIndex_8e157_0 rfl 0 rfl ?_
    refine g_if_lt (x := nI j) (tgt := 9) hC dJ3_checkIndex_8e157_1 (by decide) (fun h1 => ?_) (fun h1 => ?_)
    · exact absurd h1 (nI_pos (by omega))
    · refine g_iload_n hC dJ3_checkIndex_8e157_4 rfl 0 rfl ?_
      refine g_iload_n hC dJ3_checkIndex_8e157_5 rfl 1 rfl ?_
      refine g_icmpN_lt (a := j) (b := n) (tgt := 16) hC dJ3_checkIndex_8e157_6 (by decide) (by omega) (by omega) (fun h6 => ?_) (fun h6 => ?_)
      · refine g_iload_n hC dJ3_checkIndex_8e157_16 rfl 0 rfl ?_
        exact g_iret hC hR dJ3_checkIndex_8e157_17 ⟨rfl, rfl, rfl⟩
      · exfalso; omega
set_option maxRecDepth 20000 in
set_option maxHeartbeats 4000000 in
theorem x_check (j n : Nat) (hj : j < n) (hn : n < 2 ^ 30) : gCt l D vwCl (gKS D cy adK adV) yJ0_checkIndex_df160 wsJ0_checkIndex_df160 { frames := 1, cells := 0, slots := 0, locals := 22 } [.int (nI j), .int (nI n)] L f (pE none L f) := by
  refine gCt.of gKS_ok (by decide) rfl rfl (fun X hC hR hnm => ?_)
  have hC : gC X l _ D vwCl (cyT cy) (gKS D cy adK adV) cJ0_checkIndex_df160 2 wsJ0_checkIndex_df160 RJ0 := hC
  show gW X vwCl 2 L f 0 0 0 [(0, .int (nI j)), (1, .int (nI n))] []
  refine g_iload_n hC dJ0_checkIndex_df160_0 rfl 0 rfl ?_
  refine g_iload_n hC dJ0_checkIndex_df160_1 rfl 1 rfl ?_
  refine g_getq hC gKS_q (by decide +kernel) dJ0_checkIndex_df160_2 (fun o => ?_)
  refine g_S (As := [.int (nI j), .int (nI n), va_rf o]) (st := []) hC 3 dJ0_checkIndex_df160_5 gJ0_checkIndex_df160_J3_checkIndex_8e157 rfl (by decide +kernel) ⟨Nat.le_of_ble_eq_true rfl, Nat.le_of_ble_eq_true rfl⟩ rfl (Nat.le_of_ble_eq_true rfl) ⟨Nat.le_of_ble_eq_true rfl, Nat.le_of_ble_eq_true rfl⟩ (c2 := 0) (s2 := 0) rfl rfl (x_check3 o j n hj hn) ?_
  refine g_pop hC dJ0_checkIndex_df160_8 rfl ?_
  exact g_vret hC hR dJ0_checkIndex_df160_9 ⟨rfl, rfl, rfl⟩
set_option maxRecDepth 20000 in
set_option maxHeartbeats 4000000 in
theorem x_char1 (i : Nat) (hi : i < 8) (j : Nat) (hj : j < kLen.getD i 0) : gCt l D vwCl (gKS D cy adK adV) yJ1_charAt_3b067 wsJ1_charAt_3b067 { frames := 2, cells := 0, slots := 0, locals := 43 } [.ref (adV i), .int (nI j)] L f (pE (some (.int ((kByt.getD i []).getD j 0))) L f) := by
  refine gCt.of gKS_ok (by decide) rfl rfl (fun X hC hR hnm => ?_)
  have hC : gC X l _ D vwCl (cyT cy) (gKS D cy adK adV) cJ1_charAt_3b067 2 wsJ1_charAt_3b067 RJ1 := hC
  show gW X vwCl 2 L f 0 0 0 [(0, .ref (adV i)), (1, .int (nI j))] []
  have hlb := kL_b i hi
  refine g_iload_n hC dJ1_charAt_3b067_0 rfl 1 rfl ?_
  refine g_aload_n hC dJ1_charAt_3b067_1 rfl 0 rfl (Or.inr ⟨_, rfl⟩) ?_
  refine g_tlen hC (gKS_T hi) dJ1_charAt_3b067_2 ?_
  refine g_Sv (As := [.int (nI j), .int (nI (kLen.getD i 0))]) (st := []) hC 2 dJ1_charAt_3b067_3 gJ1_charAt_3b067_J0_checkIndex_df160 rfl (by decide +kernel) ⟨Nat.le_of_ble_eq_true rfl, Nat.le_of_ble_eq_true rfl⟩ rfl (Nat.le_of_ble_eq_true rfl) ⟨Nat.le_of_ble_eq_true rfl, Nat.le_of_ble_eq_true rfl⟩ (c2 := 0) (s2 := 0) rfl rfl (x_check j (kLen.getD i 0) hj (by omega)) ?_
  refine g_aload_n hC dJ1_charAt_3b067_6 rfl 0 rfl (Or.inr ⟨_, rfl⟩) ?_
  refine g_iload_n hC dJ1_charAt_3b067_7 rfl 1 rfl ?_
  refine g_tb hC (gKS_T hi) j rfl (by omega) (show kLen.getD i 0 < 2 ^ 31 by omega) dJ1_charAt_3b067_8 ?_
  refine g_sipush hC dJ1_charAt_3b067_9 (v := nI 255) (by decide) ?_
  refine g_iand hC dJ1_charAt_3b067_12 ?_
  refine g_i2c hC dJ1_charAt_3b067_13 rfl ?_
  refine g_val (w := .int ((kByt.getD i []).getD j 0)) (congrArg Value.int (kB_c i hi j hj).1) ?_
  exact g_zret hC hR (kB_c i hi j hj).2 dJ1_charAt_3b067_14 ⟨rfl, rfl, rfl⟩
set_option maxRecDepth 20000 in
set_option maxHeartbeats 4000000 in
theorem x_charAt (i : Nat) (hi : i < 8) (j : Nat) (hj : j < kLen.getD i 0) : gCt l D vwCl (gKS D cy adK adV) yJ0_charAt_5068e wsJ0_charAt_5068e { frames := 4, cells := 0, slots := 0, locals := 85 } [.ref (adK i), .int (nI j)] L f (pE (some (.int ((kByt.getD i []).getD j 0))) L f) := by
  refine gCt.of gKS_ok (by decide) rfl rfl (fun X hC hR hnm => ?_)
  have hC : gC X l _ D vwCl (cyT cy) (gKS D cy adK adV) cJ0_charAt_5068e 2 wsJ0_charAt_5068e RJ0 := hC
  show gW X vwCl 2 L f 0 0 0 [(0, .ref (adK i)), (1, .int (nI j))] []
  refine g_aload_n hC dJ0_charAt_5068e_0 rfl 0 rfl (Or.inr ⟨_, rfl⟩) ?_
  refine g_VK (As := []) (st := []) hC 0 dJ0_charAt_5068e_1 (gKS_r hi) gJ0_charAt_5068e_J0_isLatin1_aae02 rfl (by decide +kernel) ⟨Nat.le_of_ble_eq_true rfl, Nat.le_of_ble_eq_true rfl⟩ rfl (Nat.le_of_ble_eq_true rfl) ⟨Nat.le_of_ble_eq_true rfl, Nat.le_of_ble_eq_true rfl⟩ (c2 := 0) (s2 := 0) rfl rfl (x_latin i hi) ?_
  refine g_ifN_eq (a := 1) (tgt := 16) hC dJ0_charAt_5068e_4 (by decide) (by omega) (fun h4 => ?_) (fun h4 => ?_)
  · exfalso; omega
  · refine g_aload_n hC dJ0_charAt_5068e_7 rfl 0 rfl (Or.inr ⟨_, rfl⟩) ?_
    refine g_getO hC (gKS_v hi) (by decide +kernel) dJ0_charAt_5068e_8 ?_
    refine g_iload_n hC dJ0_charAt_5068e_11 rfl 1 rfl ?_
    refine g_S (As := [.ref (adV i), .int (nI j)]) (st := []) hC 2 dJ0_charAt_5068e_12 gJ0_charAt_5068e_J1_charAt_3b067 rfl (by decide +kernel) ⟨Nat.le_of_ble_eq_true rfl, Nat.le_of_ble_eq_true rfl⟩ rfl (Nat.le_of_ble_eq_true rfl) ⟨Nat.le_of_ble_eq_true rfl, Nat.le_of_ble_eq_true rfl⟩ (c2 := 0) (s2 := 0) rfl rfl (x_char1 i hi j hj) ?_
    exact g_zret hC hR (kB_c i hi j hj).2 dJ0_charAt_5068e_15 ⟨rfl, rfl, rfl⟩
set_option maxRecDepth 20000 in
set_option maxHeartbeats 4000000 in
theorem x_nameText_0  : gCt l D vwCl (gKS D cy adK adV) yX9_nameText wsX9_nameText { frames := 0, cells := 0, slots := 0, locals := 0 } [.int (nI 1)] L f (pE (some (.ref (adK 0))) L f) := by
  refine gCt.of gKS_ok (by decide) rfl rfl (fun X hC hR hnm => ?_)
  have hC : gC X l _ D vwCl (cyT cy) (gKS D cy adK adV) cX9_nameText 1 wsX9_nameText RX9 := hC
  show gW X vwCl 1 L f 0 0 0 [(0, .int (nI 1))] []
  refine g_iload_n hC dX9_nameText_0 rfl 0 rfl ?_
  refine g_tableIn (tgt := 44) (off := 43) hC dX9_nameText_1 (by decide) (by decide) rfl (by decide) ?_
  refine g_ldcS hC (gKS_R (i := 0) (by decide)) dX9_nameText_44 ?_
  exact g_aret hC hR (Or.inl ⟨_, rfl⟩) (Or.inr ⟨_, rfl⟩) dX9_nameText_46 ⟨rfl, rfl, rfl⟩
set_option maxRecDepth 20000 in
set_option maxHeartbeats 4000000 in
theorem x_nameText_1  : gCt l D vwCl (gKS D cy adK adV) yX9_nameText wsX9_nameText { frames := 0, cells := 0, slots := 0, locals := 0 } [.int (nI 2)] L f (pE (some (.ref (adK 1))) L f) := by
  refine gCt.of gKS_ok (by decide) rfl rfl (fun X hC hR hnm => ?_)
  have hC : gC X l _ D vwCl (cyT cy) (gKS D cy adK adV) cX9_nameText 1 wsX9_nameText RX9 := hC
  show gW X vwCl 1 L f 0 0 0 [(0, .int (nI 2))] []
  refine g_iload_n hC dX9_nameText_0 rfl 0 rfl ?_
  refine g_tableIn (tgt := 47) (off := 46) hC dX9_nameText_1 (by decide) (by decide) rfl (by decide) ?_
  refine g_ldcS hC (gKS_R (i := 1) (by decide)) dX9_nameText_47 ?_
  exact g_aret hC hR (Or.inl ⟨_, rfl⟩) (Or.inr ⟨_, rfl⟩) dX9_nameText_49 ⟨rfl, rfl, rfl⟩
set_option maxRecDepth 20000 in
set_option maxHeartbeats 4000000 in
theorem x_nameText_2  : gCt l D vwCl (gKS D cy adK adV) yX9_nameText wsX9_nameText { frames := 0, cells := 0, slots := 0, locals := 0 } [.int (nI 3)] L f (pE (some (.ref (adK 2))) L f) := by
  refine gCt.of gKS_ok (by decide) rfl rfl (fun X hC hR hnm => ?_)
  have hC : gC X l _ D vwCl (cyT cy) (gKS D cy adK adV) cX9_nameText 1 wsX9_nameText RX9 := hC
  show gW X vwCl 1 L f 0 0 0 [(0, .int (nI 3))] []
  refine g_iload_n hC dX9_nameText_0 rfl 0 rfl ?_
  refine g_tableIn (tgt := 50) (off := 49) hC dX9_nameText_1 (by decide) (by decide) rfl (by decide) ?_
  refine g_ldcS hC (gKS_R (i := 2) (by decide)) dX9_nameText_50 ?_
  exact g_aret hC hR (Or.inl ⟨_, rfl⟩) (Or.inr ⟨_, rfl⟩) dX9_nameText_52 ⟨rfl, rfl, rfl⟩
set_option maxRecDepth 20000 in
set_option maxHeartbeats 4000000 in
theorem x_nameText_3  : gCt l D vwCl (gKS D cy adK adV) yX9_nameText wsX9_nameText { frames := 0, cells := 0, slots := 0, locals := 0 } [.int (nI 4)] L f (pE (some (.ref (adK 3))) L f) := by
  refine gCt.of gKS_ok (by decide) rfl rfl (fun X hC hR hnm => ?_)
  have hC : gC X l _ D vwCl (cyT cy) (gKS D cy adK adV) cX9_nameText 1 wsX9_nameText RX9 := hC
  show gW X vwCl 1 L f 0 0 0 [(0, .int (nI 4))] []
  refine g_iload_n hC dX9_nameText_0 rfl 0 rfl ?_
  refine g_tableIn (tgt := 53) (off := 52) hC dX9_nameText_1 (by decide) (by decide) rfl (by decide) ?_
  refine g_ldcS hC (gKS_R (i := 3) (by decide)) dX9_nameText_53 ?_
  exact g_aret hC hR (Or.inl ⟨_, rfl⟩) (Or.inr ⟨_, rfl⟩) dX9_nameText_55 ⟨rfl, rfl, rfl⟩
set_option maxRecDepth 20000 in
set_option maxHeartbeats 4000000 in
theorem x_nameText_4  : gCt l D vwCl (gKS D cy adK adV) yX9_nameText wsX9_nameText { frames := 0, cells := 0, slots := 0, locals := 0 } [.int (nI 5)] L f (pE (some (.ref (adK 4))) L f) := by
  refine gCt.of gKS_ok (by decide) rfl rfl (fun X hC hR hnm => ?_)
  have hC : gC X l _ D vwCl (cyT cy) (gKS D cy adK adV) cX9_nameText 1 wsX9_nameText RX9 := hC
  show gW X vwCl 1 L f 0 0 0 [(0, .int (nI 5))] []
  refine g_iload_n hC dX9_nameText_0 rfl 0 rfl ?_
  refine g_tableIn (tgt := 56) (off := 55) hC dX9_nameText_1 (by decide) (by decide) rfl (by decide) ?_
  refine g_ldcS hC (gKS_R (i := 4) (by decide)) dX9_nameText_56 ?_
  exact g_aret hC hR (Or.inl ⟨_, rfl⟩) (Or.inr ⟨_, rfl⟩) dX9_nameText_58 ⟨rfl, rfl, rfl⟩
set_option maxRecDepth 20000 in
set_option maxHeartbeats 4000000 in
theorem x_nameText_5  : gCt l D vwCl (gKS D cy adK adV) yX9_nameText wsX9_nameText { frames := 0, cells := 0, slots := 0, locals := 0 } [.int (nI 6)] L f (pE (some (.ref (adK 5))) L f) := by
  refine gCt.of gKS_ok (by decide) rfl rfl (fun X hC hR hnm => ?_)
  have hC : gC X l _ D vwCl (cyT cy) (gKS D cy adK adV) cX9_nameText 1 wsX9_nameText RX9 := hC
  show gW X vwCl 1 L f 0 0 0 [(0, .int (nI 6))] []
  refine g_iload_n hC dX9_nameText_0 rfl 0 rfl ?_
  refine g_tableIn (tgt := 59) (off := 58) hC dX9_nameText_1 (by decide) (by decide) rfl (by decide) ?_
  refine g_ldcS hC (gKS_R (i := 5) (by decide)) dX9_nameText_59 ?_
  exact g_aret hC hR (Or.inl ⟨_, rfl⟩) (Or.inr ⟨_, rfl⟩) dX9_nameText_61 ⟨rfl, rfl, rfl⟩
set_option maxRecDepth 20000 in
set_option maxHeartbeats 4000000 in
theorem x_nameText_6  : gCt l D vwCl (gKS D cy adK adV) yX9_nameText wsX9_nameText { frames := 0, cells := 0, slots := 0, locals := 0 } [.int (nI 7)] L f (pE (some (.ref (adK 6))) L f) := by
  refine gCt.of gKS_ok (by decide) rfl rfl (fun X hC hR hnm => ?_)
  have hC : gC X l _ D vwCl (cyT cy) (gKS D cy adK adV) cX9_nameText 1 wsX9_nameText RX9 := hC
  show gW X vwCl 1 L f 0 0 0 [(0, .int (nI 7))] []
  refine g_iload_n hC dX9_nameText_0 rfl 0 rfl ?_
  refine g_tableIn (tgt := 62) (off := 61) hC dX9_nameText_1 (by decide) (by decide) rfl (by decide) ?_
  refine g_ldcS hC (gKS_R (i := 6) (by decide)) dX9_nameText_62 ?_
  exact g_aret hC hR (Or.inl ⟨_, rfl⟩) (Or.inr ⟨_, rfl⟩) dX9_nameText_64 ⟨rfl, rfl, rfl⟩
set_option maxRecDepth 20000 in
set_option maxHeartbeats 4000000 in
theorem x_nameText_7  : gCt l D vwCl (gKS D cy adK adV) yX9_nameText wsX9_nameText { frames := 0, cells := 0, slots := 0, locals := 0 } [.int (nI 8)] L f (pE (some (.ref (adK 7))) L f) := by
  refine gCt.of gKS_ok (by decide) rfl rfl (fun X hC hR hnm => ?_)
  have hC : gC X l _ D vwCl (cyT cy) (gKS D cy adK adV) cX9_nameText 1 wsX9_nameText RX9 := hC
  show gW X vwCl 1 L f 0 0 0 [(0, .int (nI 8))] []
  refine g_iload_n hC dX9_nameText_0 rfl 0 rfl ?_
  refine g_tableOut (tgt := 65) hC dX9_nameText_1 (by decide) (by decide) ?_
  refine g_ldcS hC (gKS_R (i := 7) (by decide)) dX9_nameText_65 ?_
  exact g_aret hC hR (Or.inl ⟨_, rfl⟩) (Or.inr ⟨_, rfl⟩) dX9_nameText_67 ⟨rfl, rfl, rfl⟩
set_option maxRecDepth 20000 in
set_option maxHeartbeats 4000000 in
theorem x_spells_B (a c n : Nat) (g : Nat → Int32) (ha : isB cy L f a c n g) (i : Nat) (hi : i < 8) : gCt l D vwCl (gKS D cy adK adV) yX2_spells wsX2_spells { frames := 5, cells := 0, slots := 0, locals := 106 } [.ref a, .ref (adK i)] L f (fun w9 L9 f9 => L9 = L ∧ f9 = f ∧ ∃ v : Nat, w9 = some (.int (nI v)) ∧ ((v = 1 ∧ spT (fun j9 => g j9 &&& nI 255) n i) ∨ (v = 0 ∧ ¬ spT (fun j9 => g j9 &&& nI 255) n i))) := by
  refine gCt.of gKS_ok (by decide) rfl rfl (fun X hC hR hnm => ?_)
  have hC : gC X l _ D vwCl (cyT cy) (gKS D cy adK adV) cX2_spells 4 wsX2_spells RX2 := hC
  show gW X vwCl 4 L f 0 0 0 [(0, .ref a), (1, .ref (adK i))] []
  have hlb := kL_b i hi
  have hn := ha.2.2
  refine g_aload_n hC dX2_spells_0 rfl 0 rfl (Or.inr ⟨_, rfl⟩) ?_
  refine g_A (As := []) (st := []) hC 0 dX2_spells_1 rfl ha.1.1 ha.1.2 gX2_spells_X0_cellCount_u7X0 rfl (fun A9 s9 h9 => gKK_D ⟨"KeptTerms$Row", "cellCount", "()I"⟩ (by decide) A9 s9 h9.1) (by decide +kernel) ⟨Nat.le_of_ble_eq_true rfl, Nat.le_of_ble_eq_true rfl⟩ rfl (Nat.le_of_ble_eq_true rfl) ⟨Nat.le_of_ble_eq_true rfl, Nat.le_of_ble_eq_true rfl⟩ (c2 := 0) (s2 := 0) rfl rfl ((x_0_cellCount a c n g ha).K gKS_K) ?_
  refine g_istore_n (lv' := [(2, .int (nI n)), (0, .ref a), (1, .ref (adK i))]) hC dX2_spells_4 rfl (by decide) rfl ?_
  refine g_iload_n hC dX2_spells_5 rfl 0 rfl ?_
  refine g_aload_n hC dX2_spells_6 rfl 2 rfl (Or.inr ⟨_, rfl⟩) ?_
  refine g_VK (As := []) (st := [.int (nI n)]) hC 0 dX2_spells_7 (gKS_r hi) gX2_spells_J0_length_8abf5 rfl (by decide +kernel) ⟨Nat.le_of_ble_eq_true rfl, Nat.le_of_ble_eq_true rfl⟩ rfl (Nat.le_of_ble_eq_true rfl) ⟨Nat.le_of_ble_eq_true rfl, Nat.le_of_ble_eq_true rfl⟩ (c2 := 0) (s2 := 0) rfl rfl (x_slen i hi) ?_
  refine g_icmpN_eq (a := n) (b := kLen.getD i 0) (tgt := 15) hC dX2_spells_10 (by decide) (by omega) (by omega) (fun h10 => ?_) (fun h10 => ?_)
  · refine g_iconst hC dX2_spells_15 (v := nI 0) (by decide) ?_
    refine g_istore_n (lv' := [(3, .int (nI 0)), (2, .int (nI n)), (0, .ref a), (1, .ref (adK i))]) hC dX2_spells_16 rfl (by decide) rfl ?_
    have lp : ∀ (m : Nat) (k : Nat), n - k < m → (k ≤ n) → (∀ j9, j9 < k → g j9 &&& nI 255 = (kByt.getD i []).getD j9 0) → gW X vwCl 4 L f 0 0 17 [(3, .int (nI k)), (2, .int (nI n)), (0, .ref a), (1, .ref (adK i))] [] := by
      intro m
      induction m with
      | zero => intros; omega
      | succ m ih =>
        intro k hm9 hk hall
        refine g_iload_n hC dX2_spells_17 rfl 0 rfl ?_
        refine g_iload_n hC dX2_spells_18 rfl 1 rfl ?_
        refine g_icmpN_ge (a := k) (b := n) (tgt := 43) hC dX2_spells_19 (by decide) (by omega) (by omega) (fun h19 => ?_) (fun h19 => ?_)
        · refine g_iconst hC dX2_spells_43 (v := nI 1) (by decide) ?_
          exact g_zret hC hR rfl dX2_spells_44 ⟨rfl, rfl, 1, rfl, Or.inl ⟨rfl, h10, fun j9 hj9 => hall j9 (by omega)⟩⟩
        · refine g_aload_n hC dX2_spells_22 rfl 2 rfl (Or.inr ⟨_, rfl⟩) ?_
          refine g_iload_n hC dX2_spells_23 rfl 0 rfl ?_
          refine g_A (As := [.int (nI k)]) (st := []) hC 1 dX2_spells_24 rfl ha.1.1 ha.1.2 gX2_spells_X0_numberWithoutSign_u22X0 rfl (fun A9 s9 h9 => gKK_D ⟨"KeptTerms$Numbers", "numberWithoutSign", "(I)I"⟩ (by decide) A9 s9 h9.1) (by decide +kernel) ⟨Nat.le_of_ble_eq_true rfl, Nat.le_of_ble_eq_true rfl⟩ rfl (Nat.le_of_ble_eq_true rfl) ⟨Nat.le_of_ble_eq_true rfl, Nat.le_of_ble_eq_true rfl⟩ (c2 := 0) (s2 := 0) rfl rfl ((x_0_numberWithoutSign a c n g k (by omega) ha).K gKS_K) ?_
          refine g_aload_n hC dX2_spells_27 rfl 3 rfl (Or.inr ⟨_, rfl⟩) ?_
          refine g_iload_n hC dX2_spells_28 rfl 0 rfl ?_
          refine g_VK (As := [.int (nI k)]) (st := [.int (g k &&& nI 255)]) hC 1 dX2_spells_29 (gKS_r hi) gX2_spells_J0_charAt_5068e rfl (by decide +kernel) ⟨Nat.le_of_ble_eq_true rfl, Nat.le_of_ble_eq_true rfl⟩ rfl (Nat.le_of_ble_eq_true rfl) ⟨Nat.le_of_ble_eq_true rfl, Nat.le_of_ble_eq_true rfl⟩ (c2 := 0) (s2 := 0) rfl rfl (x_charAt i hi k (by omega)) ?_
          refine g_icmp_eq (x := g k &&& nI 255) (y := (kByt.getD i []).getD k 0) (tgt := 37) hC dX2_spells_32 (by decide) (fun h32 => ?_) (fun h32 => ?_)
          · refine g_iincN (n := 1) (a := k) (lv' := [(3, .int (nI (k + 1))), (2, .int (nI n)), (0, .ref a), (1, .ref (adK i))]) hC dX2_spells_37 0 rfl (by decide) rfl ?_
            refine g_goto (tgt := 17) hC dX2_spells_40 (by decide) ?_
            exact ih (k + 1) (by omega) (by omega) (fun j9 hj9 => by
              by_cases e : j9 = k
              · subst e; exact h32
              · exact hall j9 (by omega))
          · refine g_iconst hC dX2_spells_35 (v := nI 0) (by decide) ?_
            exact g_zret hC hR rfl dX2_spells_36 ⟨rfl, rfl, 0, rfl, Or.inr ⟨rfl, fun z => h32 (z.2 k (by omega))⟩⟩
    exact lp (n + 1) 0 (by omega) (by omega) (fun j9 hj9 => absurd hj9 (by omega))
  · refine g_iconst hC dX2_spells_13 (v := nI 0) (by decide) ?_
    exact g_zret hC hR rfl dX2_spells_14 ⟨rfl, rfl, 0, rfl, Or.inr ⟨rfl, fun z => h10 z.1⟩⟩
set_option maxRecDepth 20000 in
set_option maxHeartbeats 4000000 in
theorem x_spells_S (a c n : Nat) (g : Nat → Int32) (ha : isS cy L f a c n g) (i : Nat) (hi : i < 8) : gCt l D vwCl (gKS D cy adK adV) yX2_spells wsX2_spells { frames := 5, cells := 0, slots := 0, locals := 106 } [.ref a, .ref (adK i)] L f (fun w9 L9 f9 => L9 = L ∧ f9 = f ∧ ∃ v : Nat, w9 = some (.int (nI v)) ∧ ((v = 1 ∧ spT (fun j9 => g j9) n i) ∨ (v = 0 ∧ ¬ spT (fun j9 => g j9) n i))) := by
  refine gCt.of gKS_ok (by decide) rfl rfl (fun X hC hR hnm => ?_)
  have hC : gC X l _ D vwCl (cyT cy) (gKS D cy adK adV) cX2_spells 4 wsX2_spells RX2 := hC
  show gW X vwCl 4 L f 0 0 0 [(0, .ref a), (1, .ref (adK i))] []
  have hlb := kL_b i hi
  have hn := ha.2.2
  refine g_aload_n hC dX2_spells_0 rfl 0 rfl (Or.inr ⟨_, rfl⟩) ?_
  refine g_A (As := []) (st := []) hC 0 dX2_spells_1 rfl ha.1.1 ha.1.2 gX2_spells_X6_cellCount_u7X6 rfl (fun A9 s9 h9 => gKK_D ⟨"KeptTerms$Row", "cellCount", "()I"⟩ (by decide) A9 s9 h9.1) (by decide +kernel) ⟨Nat.le_of_ble_eq_true rfl, Nat.le_of_ble_eq_true rfl⟩ rfl (Nat.le_of_ble_eq_true rfl) ⟨Nat.le_of_ble_eq_true rfl, Nat.le_of_ble_eq_true rfl⟩ (c2 := 0) (s2 := 0) rfl rfl ((x_6_cellCount a c n g ha).K gKS_K) ?_
  refine g_istore_n (lv' := [(2, .int (nI n)), (0, .ref a), (1, .ref (adK i))]) hC dX2_spells_4 rfl (by decide) rfl ?_
  refine g_iload_n hC dX2_spells_5 rfl 0 rfl ?_
  refine g_aload_n hC dX2_spells_6 rfl 2 rfl (Or.inr ⟨_, rfl⟩) ?_
  refine g_VK (As := []) (st := [.int (nI n)]) hC 0 dX2_spells_7 (gKS_r hi) gX2_spells_J0_length_8abf5 rfl (by decide +kernel) ⟨Nat.le_of_ble_eq_true rfl, Nat.le_of_ble_eq_true rfl⟩ rfl (Nat.le_of_ble_eq_true rfl) ⟨Nat.le_of_ble_eq_true rfl, Nat.le_of_ble_eq_true rfl⟩ (c2 := 0) (s2 := 0) rfl rfl (x_slen i hi) ?_
  refine g_icmpN_eq (a := n) (b := kLen.getD i 0) (tgt := 15) hC dX2_spells_10 (by decide) (by omega) (by omega) (fun h10 => ?_) (fun h10 => ?_)
  · refine g_iconst hC dX2_spells_15 (v := nI 0) (by decide) ?_
    refine g_istore_n (lv' := [(3, .int (nI 0)), (2, .int (nI n)), (0, .ref a), (1, .ref (adK i))]) hC dX2_spells_16 rfl (by decide) rfl ?_
    have lp : ∀ (m : Nat) (k : Nat), n - k < m → (k ≤ n) → (∀ j9, j9 < k → g j9 = (kByt.getD i []).getD j9 0) → gW X vwCl 4 L f 0 0 17 [(3, .int (nI k)), (2, .int (nI n)), (0, .ref a), (1, .ref (adK i))] [] := by
      intro m
      induction m with
      | zero => intros; omega
      | succ m ih =>
        intro k hm9 hk hall
        refine g_iload_n hC dX2_spells_17 rfl 0 rfl ?_
        refine g_iload_n hC dX2_spells_18 rfl 1 rfl ?_
        refine g_icmpN_ge (a := k) (b := n) (tgt := 43) hC dX2_spells_19 (by decide) (by omega) (by omega) (fun h19 => ?_) (fun h19 => ?_)
        · refine g_iconst hC dX2_spells_43 (v := nI 1) (by decide) ?_
          exact g_zret hC hR rfl dX2_spells_44 ⟨rfl, rfl, 1, rfl, Or.inl ⟨rfl, h10, fun j9 hj9 => hall j9 (by omega)⟩⟩
        · refine g_aload_n hC dX2_spells_22 rfl 2 rfl (Or.inr ⟨_, rfl⟩) ?_
          refine g_iload_n hC dX2_spells_23 rfl 0 rfl ?_
          refine g_A (As := [.int (nI k)]) (st := []) hC 1 dX2_spells_24 rfl ha.1.1 ha.1.2 gX2_spells_X6_numberWithoutSign_u22X6 rfl (fun A9 s9 h9 => gKK_D ⟨"KeptTerms$Numbers", "numberWithoutSign", "(I)I"⟩ (by decide) A9 s9 h9.1) (by decide +kernel) ⟨Nat.le_of_ble_eq_true rfl, Nat.le_of_ble_eq_true rfl⟩ rfl (Nat.le_of_ble_eq_true rfl) ⟨Nat.le_of_ble_eq_true rfl, Nat.le_of_ble_eq_true rfl⟩ (c2 := 0) (s2 := 0) rfl rfl ((x_6_numberWithoutSign a c n g k (by omega) ha).K gKS_K) ?_
          refine g_aload_n hC dX2_spells_27 rfl 3 rfl (Or.inr ⟨_, rfl⟩) ?_
          refine g_iload_n hC dX2_spells_28 rfl 0 rfl ?_
          refine g_VK (As := [.int (nI k)]) (st := [.int (g k)]) hC 1 dX2_spells_29 (gKS_r hi) gX2_spells_J0_charAt_5068e rfl (by decide +kernel) ⟨Nat.le_of_ble_eq_true rfl, Nat.le_of_ble_eq_true rfl⟩ rfl (Nat.le_of_ble_eq_true rfl) ⟨Nat.le_of_ble_eq_true rfl, Nat.le_of_ble_eq_true rfl⟩ (c2 := 0) (s2 := 0) rfl rfl (x_charAt i hi k (by omega)) ?_
          refine g_icmp_eq (x := g k) (y := (kByt.getD i []).getD k 0) (tgt := 37) hC dX2_spells_32 (by decide) (fun h32 => ?_) (fun h32 => ?_)
          · refine g_iincN (n := 1) (a := k) (lv' := [(3, .int (nI (k + 1))), (2, .int (nI n)), (0, .ref a), (1, .ref (adK i))]) hC dX2_spells_37 0 rfl (by decide) rfl ?_
            refine g_goto (tgt := 17) hC dX2_spells_40 (by decide) ?_
            exact ih (k + 1) (by omega) (by omega) (fun j9 hj9 => by
              by_cases e : j9 = k
              · subst e; exact h32
              · exact hall j9 (by omega))
          · refine g_iconst hC dX2_spells_35 (v := nI 0) (by decide) ?_
            exact g_zret hC hR rfl dX2_spells_36 ⟨rfl, rfl, 0, rfl, Or.inr ⟨rfl, fun z => h32 (z.2 k (by omega))⟩⟩
    exact lp (n + 1) 0 (by omega) (by omega) (fun j9 hj9 => absurd hj9 (by omega))
  · refine g_iconst hC dX2_spells_13 (v := nI 0) (by decide) ?_
    exact g_zret hC hR rfl dX2_spells_14 ⟨rfl, rfl, 0, rfl, Or.inr ⟨rfl, fun z => h10 z.1⟩⟩
/-- the first text that is spelled -/
def nmG (h : Nat → Int32) (n : Nat) (v : Nat) : Prop := (1 ≤ v ∧ v ≤ 8 ∧ spT h n (v - 1)) ∨ (v = 0 ∧ ∀ i, i < 8 → ¬ spT h n i)
set_option maxRecDepth 20000 in
set_option maxHeartbeats 4000000 in
theorem x_nameOf_B (a c n : Nat) (g : Nat → Int32) (ha : isB cy L f a c n g) : gCt l D vwCl (gKS D cy adK adV) yX9_nameOf wsX9_nameOf { frames := 6, cells := 0, slots := 0, locals := 129 } [.ref a] L f (fun w9 L9 f9 => L9 = L ∧ f9 = f ∧ ∃ v : Nat, w9 = some (.int (nI v)) ∧ nmG (fun j9 => g j9 &&& nI 255) n v) := by
  refine gCt.of gKS_ok (by decide) rfl rfl (fun X hC hR hnm => ?_)
  have hC : gC X l _ D vwCl (cyT cy) (gKS D cy adK adV) cX9_nameOf 2 wsX9_nameOf RX9 := hC
  show gW X vwCl 2 L f 0 0 0 [(0, .ref a)] []
  refine g_iconst hC dX9_nameOf_0 (v := nI 1) (by decide) ?_
  refine g_istore_n (lv' := [(1, .int (nI 1)), (0, .ref a)]) hC dX9_nameOf_1 rfl (by decide) rfl ?_
  refine g_iload_n hC dX9_nameOf_2 rfl 0 rfl ?_
  refine g_bipush hC dX9_nameOf_3 (v := nI 8) (by decide) ?_
  refine g_icmpN_gt (a := 1) (b := 8) (tgt := 27) hC dX9_nameOf_5 (by decide) (by omega) (by omega) (fun h5 => ?_) (fun h5 => ?_)
  · exfalso; omega
  · refine g_aload_n hC dX9_nameOf_8 rfl 1 rfl (Or.inr ⟨_, rfl⟩) ?_
    refine g_iload_n hC dX9_nameOf_9 rfl 0 rfl ?_
    refine g_S (As := [.int (nI 1)]) (st := [.ref a]) hC 1 dX9_nameOf_10 gX9_nameOf_X9_nameText rfl (by decide +kernel) ⟨Nat.le_of_ble_eq_true rfl, Nat.le_of_ble_eq_true rfl⟩ rfl (Nat.le_of_ble_eq_true rfl) ⟨Nat.le_of_ble_eq_true rfl, Nat.le_of_ble_eq_true rfl⟩ (c2 := 0) (s2 := 0) rfl rfl x_nameText_0 ?_
    refine g_Ux (As := [.ref (adK 0)]) (st := []) hC 1 dX9_nameOf_13 rfl ha.1.1 ha.1.2 gX9_nameOf_X2_spells_u226X0 rfl rfl (by decide +kernel) ⟨Nat.le_of_ble_eq_true rfl, Nat.le_of_ble_eq_true rfl⟩ rfl (Nat.le_of_ble_eq_true rfl) ⟨(Nat.le_of_ble_eq_true rfl), (Nat.le_of_ble_eq_true rfl)⟩ (c2 := 0) (s2 := 0) rfl rfl (x_spells_B a c n g ha 0 (by decide)) (fun v1 L1 f1 hp1 => ?_)
    obtain ⟨hL1, hf1, w0, rfl, hs0⟩ := hp1
    rw [hL1, hf1]
    show gW X vwCl 2 L f 0 0 16 [(1, .int (nI 1)), (0, .ref a)] [.int (nI w0)]
    refine g_ifN_eq (a := w0) (tgt := 21) hC dX9_nameOf_16 (by decide) (by omega) (fun h16 => ?_) (fun h16 => ?_)
    · refine g_iincN (n := 1) (a := 1) (lv' := [(1, .int (nI 2)), (0, .ref a)]) hC dX9_nameOf_21 0 rfl (by decide) rfl ?_
      refine g_goto (tgt := 2) hC dX9_nameOf_24 (by decide) ?_
      refine g_iload_n hC dX9_nameOf_2 rfl 0 rfl ?_
      refine g_bipush hC dX9_nameOf_3 (v := nI 8) (by decide) ?_
      refine g_icmpN_gt (a := 2) (b := 8) (tgt := 27) hC dX9_nameOf_5 (by decide) (by omega) (by omega) (fun h5_1 => ?_) (fun h5_1 => ?_)
      · exfalso; omega
      · refine g_aload_n hC dX9_nameOf_8 rfl 1 rfl (Or.inr ⟨_, rfl⟩) ?_
        refine g_iload_n hC dX9_nameOf_9 rfl 0 rfl ?_
        refine g_S (As := [.int (nI 2)]) (st := [.ref a]) hC 1 dX9_nameOf_10 gX9_nameOf_X9_nameText rfl (by decide +kernel) ⟨Nat.le_of_ble_eq_true rfl, Nat.le_of_ble_eq_true rfl⟩ rfl (Nat.le_of_ble_eq_true rfl) ⟨Nat.le_of_ble_eq_true rfl, Nat.le_of_ble_eq_true rfl⟩ (c2 := 0) (s2 := 0) rfl rfl x_nameText_1 ?_
        refine g_Ux (As := [.ref (adK 1)]) (st := []) hC 1 dX9_nameOf_13 rfl ha.1.1 ha.1.2 gX9_nameOf_X2_spells_u226X0 rfl rfl (by decide +kernel) ⟨Nat.le_of_ble_eq_true rfl, Nat.le_of_ble_eq_true rfl⟩ rfl (Nat.le_of_ble_eq_true rfl) ⟨(Nat.le_of_ble_eq_true rfl), (Nat.le_of_ble_eq_true rfl)⟩ (c2 := 0) (s2 := 0) rfl rfl (x_spells_B a c n g ha 1 (by decide)) (fun v2 L2 f2 hp2 => ?_)
        obtain ⟨hL2, hf2, w1, rfl, hs1⟩ := hp2
        rw [hL2, hf2]
        show gW X vwCl 2 L f 0 0 16 [(1, .int (nI 2)), (0, .ref a)] [.int (nI w1)]
        refine g_ifN_eq (a := w1) (tgt := 21) hC dX9_nameOf_16 (by decide) (by omega) (fun h16_1 => ?_) (fun h16_1 => ?_)
        · refine g_iincN (n := 1) (a := 2) (lv' := [(1, .int (nI 3)), (0, .ref a)]) hC dX9_nameOf_21 0 rfl (by decide) rfl ?_
          refine g_goto (tgt := 2) hC dX9_nameOf_24 (by decide) ?_
          refine g_iload_n hC dX9_nameOf_2 rfl 0 rfl ?_
          refine g_bipush hC dX9_nameOf_3 (v := nI 8) (by decide) ?_
          refine g_icmpN_gt (a := 3) (b := 8) (tgt := 27) hC dX9_nameOf_5 (by decide) (by omega) (by omega) (fun h5_2 => ?_) (fun h5_2 => ?_)
          · exfalso; omega
          · refine g_aload_n hC dX9_nameOf_8 rfl 1 rfl (Or.inr ⟨_, rfl⟩) ?_
            refine g_iload_n hC dX9_nameOf_9 rfl 0 rfl ?_
            refine g_S (As := [.int (nI 3)]) (st := [.ref a]) hC 1 dX9_nameOf_10 gX9_nameOf_X9_nameText rfl (by decide +kernel) ⟨Nat.le_of_ble_eq_true rfl, Nat.le_of_ble_eq_true rfl⟩ rfl (Nat.le_of_ble_eq_true rfl) ⟨Nat.le_of_ble_eq_true rfl, Nat.le_of_ble_eq_true rfl⟩ (c2 := 0) (s2 := 0) rfl rfl x_nameText_2 ?_
            refine g_Ux (As := [.ref (adK 2)]) (st := []) hC 1 dX9_nameOf_13 rfl ha.1.1 ha.1.2 gX9_nameOf_X2_spells_u226X0 rfl rfl (by decide +kernel) ⟨Nat.le_of_ble_eq_true rfl, Nat.le_of_ble_eq_true rfl⟩ rfl (Nat.le_of_ble_eq_true rfl) ⟨(Nat.le_of_ble_eq_true rfl), (Nat.le_of_ble_eq_true rfl)⟩ (c2 := 0) (s2 := 0) rfl rfl (x_spells_B a c n g ha 2 (by decide)) (fun v3 L3 f3 hp3 => ?_)
            obtain ⟨hL3, hf3, w2, rfl, hs2⟩ := hp3
            rw [hL3, hf3]
            show gW X vwCl 2 L f 0 0 16 [(1, .int (nI 3)), (0, .ref a)] [.int (nI w2)]
            refine g_ifN_eq (a := w2) (tgt := 21) hC dX9_nameOf_16 (by decide) (by omega) (fun h16_2 => ?_) (fun h16_2 => ?_)
            · refine g_iincN (n := 1) (a := 3) (lv' := [(1, .int (nI 4)), (0, .ref a)]) hC dX9_nameOf_21 0 rfl (by decide) rfl ?_
              refine g_goto (tgt := 2) hC dX9_nameOf_24 (by decide) ?_
              refine g_iload_n hC dX9_nameOf_2 rfl 0 rfl ?_
              refine g_bipush hC dX9_nameOf_3 (v := nI 8) (by decide) ?_
              refine g_icmpN_gt (a := 4) (b := 8) (tgt := 27) hC dX9_nameOf_5 (by decide) (by omega) (by omega) (fun h5_3 => ?_) (fun h5_3 => ?_)
              · exfalso; omega
              · refine g_aload_n hC dX9_nameOf_8 rfl 1 rfl (Or.inr ⟨_, rfl⟩) ?_
                refine g_iload_n hC dX9_nameOf_9 rfl 0 rfl ?_
                refine g_S (As := [.int (nI 4)]) (st := [.ref a]) hC 1 dX9_nameOf_10 gX9_nameOf_X9_nameText rfl (by decide +kernel) ⟨Nat.le_of_ble_eq_true rfl, Nat.le_of_ble_eq_true rfl⟩ rfl (Nat.le_of_ble_eq_true rfl) ⟨Nat.le_of_ble_eq_true rfl, Nat.le_of_ble_eq_true rfl⟩ (c2 := 0) (s2 := 0) rfl rfl x_nameText_3 ?_
                refine g_Ux (As := [.ref (adK 3)]) (st := []) hC 1 dX9_nameOf_13 rfl ha.1.1 ha.1.2 gX9_nameOf_X2_spells_u226X0 rfl rfl (by decide +kernel) ⟨Nat.le_of_ble_eq_true rfl, Nat.le_of_ble_eq_true rfl⟩ rfl (Nat.le_of_ble_eq_true rfl) ⟨(Nat.le_of_ble_eq_true rfl), (Nat.le_of_ble_eq_true rfl)⟩ (c2 := 0) (s2 := 0) rfl rfl (x_spells_B a c n g ha 3 (by decide)) (fun v4 L4 f4 hp4 => ?_)
                obtain ⟨hL4, hf4, w3, rfl, hs3⟩ := hp4
                rw [hL4, hf4]
                show gW X vwCl 2 L f 0 0 16 [(1, .int (nI 4)), (0, .ref a)] [.int (nI w3)]
                refine g_ifN_eq (a := w3) (tgt := 21) hC dX9_nameOf_16 (by decide) (by omega) (fun h16_3 => ?_) (fun h16_3 => ?_)
                · refine g_iincN (n := 1) (a := 4) (lv' := [(1, .int (nI 5)), (0, .ref a)]) hC dX9_nameOf_21 0 rfl (by decide) rfl ?_
                  refine g_goto (tgt := 2) hC dX9_nameOf_24 (by decide) ?_
                  refine g_iload_n hC dX9_nameOf_2 rfl 0 rfl ?_
                  refine g_bipush hC dX9_nameOf_3 (v := nI 8) (by decide) ?_
                  refine g_icmpN_gt (a := 5) (b := 8) (tgt := 27) hC dX9_nameOf_5 (by decide) (by omega) (by omega) (fun h5_4 => ?_) (fun h5_4 => ?_)
                  · exfalso; omega
                  · refine g_aload_n hC dX9_nameOf_8 rfl 1 rfl (Or.inr ⟨_, rfl⟩) ?_
                    refine g_iload_n hC dX9_nameOf_9 rfl 0 rfl ?_
                    refine g_S (As := [.int (nI 5)]) (st := [.ref a]) hC 1 dX9_nameOf_10 gX9_nameOf_X9_nameText rfl (by decide +kernel) ⟨Nat.le_of_ble_eq_true rfl, Nat.le_of_ble_eq_true rfl⟩ rfl (Nat.le_of_ble_eq_true rfl) ⟨Nat.le_of_ble_eq_true rfl, Nat.le_of_ble_eq_true rfl⟩ (c2 := 0) (s2 := 0) rfl rfl x_nameText_4 ?_
                    refine g_Ux (As := [.ref (adK 4)]) (st := []) hC 1 dX9_nameOf_13 rfl ha.1.1 ha.1.2 gX9_nameOf_X2_spells_u226X0 rfl rfl (by decide +kernel) ⟨Nat.le_of_ble_eq_true rfl, Nat.le_of_ble_eq_true rfl⟩ rfl (Nat.le_of_ble_eq_true rfl) ⟨(Nat.le_of_ble_eq_true rfl), (Nat.le_of_ble_eq_true rfl)⟩ (c2 := 0) (s2 := 0) rfl rfl (x_spells_B a c n g ha 4 (by decide)) (fun v5 L5 f5 hp5 => ?_)
                    obtain ⟨hL5, hf5, w4, rfl, hs4⟩ := hp5
                    rw [hL5, hf5]
                    show gW X vwCl 2 L f 0 0 16 [(1, .int (nI 5)), (0, .ref a)] [.int (nI w4)]
                    refine g_ifN_eq (a := w4) (tgt := 21) hC dX9_nameOf_16 (by decide) (by omega) (fun h16_4 => ?_) (fun h16_4 => ?_)
                    · refine g_iincN (n := 1) (a := 5) (lv' := [(1, .int (nI 6)), (0, .ref a)]) hC dX9_nameOf_21 0 rfl (by decide) rfl ?_
                      refine g_goto (tgt := 2) hC dX9_nameOf_24 (by decide) ?_
                      refine g_iload_n hC dX9_nameOf_2 rfl 0 rfl ?_
                      refine g_bipush hC dX9_nameOf_3 (v := nI 8) (by decide) ?_
                      refine g_icmpN_gt (a := 6) (b := 8) (tgt := 27) hC dX9_nameOf_5 (by decide) (by omega) (by omega) (fun h5_5 => ?_) (fun h5_5 => ?_)
                      · exfalso; omega
                      · refine g_aload_n hC dX9_nameOf_8 rfl 1 rfl (Or.inr ⟨_, rfl⟩) ?_
                        refine g_iload_n hC dX9_nameOf_9 rfl 0 rfl ?_
                        refine g_S (As := [.int (nI 6)]) (st := [.ref a]) hC 1 dX9_nameOf_10 gX9_nameOf_X9_nameText rfl (by decide +kernel) ⟨Nat.le_of_ble_eq_true rfl, Nat.le_of_ble_eq_true rfl⟩ rfl (Nat.le_of_ble_eq_true rfl) ⟨Nat.le_of_ble_eq_true rfl, Nat.le_of_ble_eq_true rfl⟩ (c2 := 0) (s2 := 0) rfl rfl x_nameText_5 ?_
                        refine g_Ux (As := [.ref (adK 5)]) (st := []) hC 1 dX9_nameOf_13 rfl ha.1.1 ha.1.2 gX9_nameOf_X2_spells_u226X0 rfl rfl (by decide +kernel) ⟨Nat.le_of_ble_eq_true rfl, Nat.le_of_ble_eq_true rfl⟩ rfl (Nat.le_of_ble_eq_true rfl) ⟨(Nat.le_of_ble_eq_true rfl), (Nat.le_of_ble_eq_true rfl)⟩ (c2 := 0) (s2 := 0) rfl rfl (x_spells_B a c n g ha 5 (by decide)) (fun v6 L6 f6 hp6 => ?_)
                        obtain ⟨hL6, hf6, w5, rfl, hs5⟩ := hp6
                        rw [hL6, hf6]
                        show gW X vwCl 2 L f 0 0 16 [(1, .int (nI 6)), (0, .ref a)] [.int (nI w5)]
                        refine g_ifN_eq (a := w5) (tgt := 21) hC dX9_nameOf_16 (by decide) (by omega) (fun h16_5 => ?_) (fun h16_5 => ?_)
                        · refine g_iincN (n := 1) (a := 6) (lv' := [(1, .int (nI 7)), (0, .ref a)]) hC dX9_nameOf_21 0 rfl (by decide) rfl ?_
                          refine g_goto (tgt := 2) hC dX9_nameOf_24 (by decide) ?_
                          refine g_iload_n hC dX9_nameOf_2 rfl 0 rfl ?_
                          refine g_bipush hC dX9_nameOf_3 (v := nI 8) (by decide) ?_
                          refine g_icmpN_gt (a := 7) (b := 8) (tgt := 27) hC dX9_nameOf_5 (by decide) (by omega) (by omega) (fun h5_6 => ?_) (fun h5_6 => ?_)
                          · exfalso; omega
                          · refine g_aload_n hC dX9_nameOf_8 rfl 1 rfl (Or.inr ⟨_, rfl⟩) ?_
                            refine g_iload_n hC dX9_nameOf_9 rfl 0 rfl ?_
                            refine g_S (As := [.int (nI 7)]) (st := [.ref a]) hC 1 dX9_nameOf_10 gX9_nameOf_X9_nameText rfl (by decide +kernel) ⟨Nat.le_of_ble_eq_true rfl, Nat.le_of_ble_eq_true rfl⟩ rfl (Nat.le_of_ble_eq_true rfl) ⟨Nat.le_of_ble_eq_true rfl, Nat.le_of_ble_eq_true rfl⟩ (c2 := 0) (s2 := 0) rfl rfl x_nameText_6 ?_
                            refine g_Ux (As := [.ref (adK 6)]) (st := []) hC 1 dX9_nameOf_13 rfl ha.1.1 ha.1.2 gX9_nameOf_X2_spells_u226X0 rfl rfl (by decide +kernel) ⟨Nat.le_of_ble_eq_true rfl, Nat.le_of_ble_eq_true rfl⟩ rfl (Nat.le_of_ble_eq_true rfl) ⟨(Nat.le_of_ble_eq_true rfl), (Nat.le_of_ble_eq_true rfl)⟩ (c2 := 0) (s2 := 0) rfl rfl (x_spells_B a c n g ha 6 (by decide)) (fun v7 L7 f7 hp7 => ?_)
                            obtain ⟨hL7, hf7, w6, rfl, hs6⟩ := hp7
                            rw [hL7, hf7]
                            show gW X vwCl 2 L f 0 0 16 [(1, .int (nI 7)), (0, .ref a)] [.int (nI w6)]
                            refine g_ifN_eq (a := w6) (tgt := 21) hC dX9_nameOf_16 (by decide) (by omega) (fun h16_6 => ?_) (fun h16_6 => ?_)
                            · refine g_iincN (n := 1) (a := 7) (lv' := [(1, .int (nI 8)), (0, .ref a)]) hC dX9_nameOf_21 0 rfl (by decide) rfl ?_
                              refine g_goto (tgt := 2) hC dX9_nameOf_24 (by decide) ?_
                              refine g_iload_n hC dX9_nameOf_2 rfl 0 rfl ?_
                              refine g_bipush hC dX9_nameOf_3 (v := nI 8) (by decide) ?_
                              refine g_icmpN_gt (a := 8) (b := 8) (tgt := 27) hC dX9_nameOf_5 (by decide) (by omega) (by omega) (fun h5_7 => ?_) (fun h5_7 => ?_)
                              · exfalso; omega
                              · refine g_aload_n hC dX9_nameOf_8 rfl 1 rfl (Or.inr ⟨_, rfl⟩) ?_
                                refine g_iload_n hC dX9_nameOf_9 rfl 0 rfl ?_
                                refine g_S (As := [.int (nI 8)]) (st := [.ref a]) hC 1 dX9_nameOf_10 gX9_nameOf_X9_nameText rfl (by decide +kernel) ⟨Nat.le_of_ble_eq_true rfl, Nat.le_of_ble_eq_true rfl⟩ rfl (Nat.le_of_ble_eq_true rfl) ⟨Nat.le_of_ble_eq_true rfl, Nat.le_of_ble_eq_true rfl⟩ (c2 := 0) (s2 := 0) rfl rfl x_nameText_7 ?_
                                refine g_Ux (As := [.ref (adK 7)]) (st := []) hC 1 dX9_nameOf_13 rfl ha.1.1 ha.1.2 gX9_nameOf_X2_spells_u226X0 rfl rfl (by decide +kernel) ⟨Nat.le_of_ble_eq_true rfl, Nat.le_of_ble_eq_true rfl⟩ rfl (Nat.le_of_ble_eq_true rfl) ⟨(Nat.le_of_ble_eq_true rfl), (Nat.le_of_ble_eq_true rfl)⟩ (c2 := 0) (s2 := 0) rfl rfl (x_spells_B a c n g ha 7 (by decide)) (fun v8 L8 f8 hp8 => ?_)
                                obtain ⟨hL8, hf8, w7, rfl, hs7⟩ := hp8
                                rw [hL8, hf8]
                                show gW X vwCl 2 L f 0 0 16 [(1, .int (nI 8)), (0, .ref a)] [.int (nI w7)]
                                refine g_ifN_eq (a := w7) (tgt := 21) hC dX9_nameOf_16 (by decide) (by omega) (fun h16_7 => ?_) (fun h16_7 => ?_)
                                · refine g_iincN (n := 1) (a := 8) (lv' := [(1, .int (nI 9)), (0, .ref a)]) hC dX9_nameOf_21 0 rfl (by decide) rfl ?_
                                  refine g_goto (tgt := 2) hC dX9_nameOf_24 (by decide) ?_
                                  refine g_iload_n hC dX9_nameOf_2 rfl 0 rfl ?_
                                  refine g_bipush hC dX9_nameOf_3 (v := nI 8) (by decide) ?_
                                  refine g_icmpN_gt (a := 9) (b := 8) (tgt := 27) hC dX9_nameOf_5 (by decide) (by omega) (by omega) (fun h5_8 => ?_) (fun h5_8 => ?_)
                                  · refine g_iconst hC dX9_nameOf_27 (v := nI 0) (by decide) ?_
                                    exact g_iret hC hR dX9_nameOf_28 ⟨rfl, rfl, 0, rfl, Or.inr ⟨rfl, fun i hi => by
                                      rcases (show i = 0 ∨ i = 1 ∨ i = 2 ∨ i = 3 ∨ i = 4 ∨ i = 5 ∨ i = 6 ∨ i = 7 by omega) with rfl | rfl | rfl | rfl | rfl | rfl | rfl | rfl
                                      · exact hs0.elim (fun z => by omega) (fun z => z.2)
                                      · exact hs1.elim (fun z => by omega) (fun z => z.2)
                                      · exact hs2.elim (fun z => by omega) (fun z => z.2)
                                      · exact hs3.elim (fun z => by omega) (fun z => z.2)
                                      · exact hs4.elim (fun z => by omega) (fun z => z.2)
                                      · exact hs5.elim (fun z => by omega) (fun z => z.2)
                                      · exact hs6.elim (fun z => by omega) (fun z => z.2)
                                      · exact hs7.elim (fun z => by omega) (fun z => z.2)⟩⟩
                                  · exfalso; omega
                                · refine g_iload_n hC dX9_nameOf_19 rfl 0 rfl ?_
                                  exact g_iret hC hR dX9_nameOf_20 ⟨rfl, rfl, 8, rfl, Or.inl ⟨by decide, by decide, by
                                    rcases hs7 with z | z
                                    · exact z.2
                                    · omega⟩⟩
                            · refine g_iload_n hC dX9_nameOf_19 rfl 0 rfl ?_
                              exact g_iret hC hR dX9_nameOf_20 ⟨rfl, rfl, 7, rfl, Or.inl ⟨by decide, by decide, by
                                rcases hs6 with z | z
                                · exact z.2
                                · omega⟩⟩
                        · refine g_iload_n hC dX9_nameOf_19 rfl 0 rfl ?_
                          exact g_iret hC hR dX9_nameOf_20 ⟨rfl, rfl, 6, rfl, Or.inl ⟨by decide, by decide, by
                            rcases hs5 with z | z
                            · exact z.2
                            · omega⟩⟩
                    · refine g_iload_n hC dX9_nameOf_19 rfl 0 rfl ?_
                      exact g_iret hC hR dX9_nameOf_20 ⟨rfl, rfl, 5, rfl, Or.inl ⟨by decide, by decide, by
                        rcases hs4 with z | z
                        · exact z.2
                        · omega⟩⟩
                · refine g_iload_n hC dX9_nameOf_19 rfl 0 rfl ?_
                  exact g_iret hC hR dX9_nameOf_20 ⟨rfl, rfl, 4, rfl, Or.inl ⟨by decide, by decide, by
                    rcases hs3 with z | z
                    · exact z.2
                    · omega⟩⟩
            · refine g_iload_n hC dX9_nameOf_19 rfl 0 rfl ?_
              exact g_iret hC hR dX9_nameOf_20 ⟨rfl, rfl, 3, rfl, Or.inl ⟨by decide, by decide, by
                rcases hs2 with z | z
                · exact z.2
                · omega⟩⟩
        · refine g_iload_n hC dX9_nameOf_19 rfl 0 rfl ?_
          exact g_iret hC hR dX9_nameOf_20 ⟨rfl, rfl, 2, rfl, Or.inl ⟨by decide, by decide, by
            rcases hs1 with z | z
            · exact z.2
            · omega⟩⟩
    · refine g_iload_n hC dX9_nameOf_19 rfl 0 rfl ?_
      exact g_iret hC hR dX9_nameOf_20 ⟨rfl, rfl, 1, rfl, Or.inl ⟨by decide, by decide, by
        rcases hs0 with z | z
        · exact z.2
        · omega⟩⟩
set_option maxRecDepth 20000 in
set_option maxHeartbeats 4000000 in
theorem x_nameOf_S (a c n : Nat) (g : Nat → Int32) (ha : isS cy L f a c n g) : gCt l D vwCl (gKS D cy adK adV) yX9_nameOf wsX9_nameOf { frames := 6, cells := 0, slots := 0, locals := 129 } [.ref a] L f (fun w9 L9 f9 => L9 = L ∧ f9 = f ∧ ∃ v : Nat, w9 = some (.int (nI v)) ∧ nmG (fun j9 => g j9) n v) := by
  refine gCt.of gKS_ok (by decide) rfl rfl (fun X hC hR hnm => ?_)
  have hC : gC X l _ D vwCl (cyT cy) (gKS D cy adK adV) cX9_nameOf 2 wsX9_nameOf RX9 := hC
  show gW X vwCl 2 L f 0 0 0 [(0, .ref a)] []
  refine g_iconst hC dX9_nameOf_0 (v := nI 1) (by decide) ?_
  refine g_istore_n (lv' := [(1, .int (nI 1)), (0, .ref a)]) hC dX9_nameOf_1 rfl (by decide) rfl ?_
  refine g_iload_n hC dX9_nameOf_2 rfl 0 rfl ?_
  refine g_bipush hC dX9_nameOf_3 (v := nI 8) (by decide) ?_
  refine g_icmpN_gt (a := 1) (b := 8) (tgt := 27) hC dX9_nameOf_5 (by decide) (by omega) (by omega) (fun h5 => ?_) (fun h5 => ?_)
  · exfalso; omega
  · refine g_aload_n hC dX9_nameOf_8 rfl 1 rfl (Or.inr ⟨_, rfl⟩) ?_
    refine g_iload_n hC dX9_nameOf_9 rfl 0 rfl ?_
    refine g_S (As := [.int (nI 1)]) (st := [.ref a]) hC 1 dX9_nameOf_10 gX9_nameOf_X9_nameText rfl (by decide +kernel) ⟨Nat.le_of_ble_eq_true rfl, Nat.le_of_ble_eq_true rfl⟩ rfl (Nat.le_of_ble_eq_true rfl) ⟨Nat.le_of_ble_eq_true rfl, Nat.le_of_ble_eq_true rfl⟩ (c2 := 0) (s2 := 0) rfl rfl x_nameText_0 ?_
    refine g_Ux (As := [.ref (adK 0)]) (st := []) hC 1 dX9_nameOf_13 rfl ha.1.1 ha.1.2 gX9_nameOf_X2_spells_u226X6 rfl rfl (by decide +kernel) ⟨Nat.le_of_ble_eq_true rfl, Nat.le_of_ble_eq_true rfl⟩ rfl (Nat.le_of_ble_eq_true rfl) ⟨(Nat.le_of_ble_eq_true rfl), (Nat.le_of_ble_eq_true rfl)⟩ (c2 := 0) (s2 := 0) rfl rfl (x_spells_S a c n g ha 0 (by decide)) (fun v1 L1 f1 hp1 => ?_)
    obtain ⟨hL1, hf1, w0, rfl, hs0⟩ := hp1
    rw [hL1, hf1]
    show gW X vwCl 2 L f 0 0 16 [(1, .int (nI 1)), (0, .ref a)] [.int (nI w0)]
    refine g_ifN_eq (a := w0) (tgt := 21) hC dX9_nameOf_16 (by decide) (by omega) (fun h16 => ?_) (fun h16 => ?_)
    · refine g_iincN (n := 1) (a := 1) (lv' := [(1, .int (nI 2)), (0, .ref a)]) hC dX9_nameOf_21 0 rfl (by decide) rfl ?_
      refine g_goto (tgt := 2) hC dX9_nameOf_24 (by decide) ?_
      refine g_iload_n hC dX9_nameOf_2 rfl 0 rfl ?_
      refine g_bipush hC dX9_nameOf_3 (v := nI 8) (by decide) ?_
      refine g_icmpN_gt (a := 2) (b := 8) (tgt := 27) hC dX9_nameOf_5 (by decide) (by omega) (by omega) (fun h5_1 => ?_) (fun h5_1 => ?_)
      · exfalso; omega
      · refine g_aload_n hC dX9_nameOf_8 rfl 1 rfl (Or.inr ⟨_, rfl⟩) ?_
        refine g_iload_n hC dX9_nameOf_9 rfl 0 rfl ?_
        refine g_S (As := [.int (nI 2)]) (st := [.ref a]) hC 1 dX9_nameOf_10 gX9_nameOf_X9_nameText rfl (by decide +kernel) ⟨Nat.le_of_ble_eq_true rfl, Nat.le_of_ble_eq_true rfl⟩ rfl (Nat.le_of_ble_eq_true rfl) ⟨Nat.le_of_ble_eq_true rfl, Nat.le_of_ble_eq_true rfl⟩ (c2 := 0) (s2 := 0) rfl rfl x_nameText_1 ?_
        refine g_Ux (As := [.ref (adK 1)]) (st := []) hC 1 dX9_nameOf_13 rfl ha.1.1 ha.1.2 gX9_nameOf_X2_spells_u226X6 rfl rfl (by decide +kernel) ⟨Nat.le_of_ble_eq_true rfl, Nat.le_of_ble_eq_true rfl⟩ rfl (Nat.le_of_ble_eq_true rfl) ⟨(Nat.le_of_ble_eq_true rfl), (Nat.le_of_ble_eq_true rfl)⟩ (c2 := 0) (s2 := 0) rfl rfl (x_spells_S a c n g ha 1 (by decide)) (fun v2 L2 f2 hp2 => ?_)
        obtain ⟨hL2, hf2, w1, rfl, hs1⟩ := hp2
        rw [hL2, hf2]
        show gW X vwCl 2 L f 0 0 16 [(1, .int (nI 2)), (0, .ref a)] [.int (nI w1)]
        refine g_ifN_eq (a := w1) (tgt := 21) hC dX9_nameOf_16 (by decide) (by omega) (fun h16_1 => ?_) (fun h16_1 => ?_)
        · refine g_iincN (n := 1) (a := 2) (lv' := [(1, .int (nI 3)), (0, .ref a)]) hC dX9_nameOf_21 0 rfl (by decide) rfl ?_
          refine g_goto (tgt := 2) hC dX9_nameOf_24 (by decide) ?_
          refine g_iload_n hC dX9_nameOf_2 rfl 0 rfl ?_
          refine g_bipush hC dX9_nameOf_3 (v := nI 8) (by decide) ?_
          refine g_icmpN_gt (a := 3) (b := 8) (tgt := 27) hC dX9_nameOf_5 (by decide) (by omega) (by omega) (fun h5_2 => ?_) (fun h5_2 => ?_)
          · exfalso; omega
          · refine g_aload_n hC dX9_nameOf_8 rfl 1 rfl (Or.inr ⟨_, rfl⟩) ?_
            refine g_iload_n hC dX9_nameOf_9 rfl 0 rfl ?_
            refine g_S (As := [.int (nI 3)]) (st := [.ref a]) hC 1 dX9_nameOf_10 gX9_nameOf_X9_nameText rfl (by decide +kernel) ⟨Nat.le_of_ble_eq_true rfl, Nat.le_of_ble_eq_true rfl⟩ rfl (Nat.le_of_ble_eq_true rfl) ⟨Nat.le_of_ble_eq_true rfl, Nat.le_of_ble_eq_true rfl⟩ (c2 := 0) (s2 := 0) rfl rfl x_nameText_2 ?_
            refine g_Ux (As := [.ref (adK 2)]) (st := []) hC 1 dX9_nameOf_13 rfl ha.1.1 ha.1.2 gX9_nameOf_X2_spells_u226X6 rfl rfl (by decide +kernel) ⟨Nat.le_of_ble_eq_true rfl, Nat.le_of_ble_eq_true rfl⟩ rfl (Nat.le_of_ble_eq_true rfl) ⟨(Nat.le_of_ble_eq_true rfl), (Nat.le_of_ble_eq_true rfl)⟩ (c2 := 0) (s2 := 0) rfl rfl (x_spells_S a c n g ha 2 (by decide)) (fun v3 L3 f3 hp3 => ?_)
            obtain ⟨hL3, hf3, w2, rfl, hs2⟩ := hp3
            rw [hL3, hf3]
            show gW X vwCl 2 L f 0 0 16 [(1, .int (nI 3)), (0, .ref a)] [.int (nI w2)]
            refine g_ifN_eq (a := w2) (tgt := 21) hC dX9_nameOf_16 (by decide) (by omega) (fun h16_2 => ?_) (fun h16_2 => ?_)
            · refine g_iincN (n := 1) (a := 3) (lv' := [(1, .int (nI 4)), (0, .ref a)]) hC dX9_nameOf_21 0 rfl (by decide) rfl ?_
              refine g_goto (tgt := 2) hC dX9_nameOf_24 (by decide) ?_
              refine g_iload_n hC dX9_nameOf_2 rfl 0 rfl ?_
              refine g_bipush hC dX9_nameOf_3 (v := nI 8) (by decide) ?_
              refine g_icmpN_gt (a := 4) (b := 8) (tgt := 27) hC dX9_nameOf_5 (by decide) (by omega) (by omega) (fun h5_3 => ?_) (fun h5_3 => ?_)
              · exfalso; omega
              · refine g_aload_n hC dX9_nameOf_8 rfl 1 rfl (Or.inr ⟨_, rfl⟩) ?_
                refine g_iload_n hC dX9_nameOf_9 rfl 0 rfl ?_
                refine g_S (As := [.int (nI 4)]) (st := [.ref a]) hC 1 dX9_nameOf_10 gX9_nameOf_X9_nameText rfl (by decide +kernel) ⟨Nat.le_of_ble_eq_true rfl, Nat.le_of_ble_eq_true rfl⟩ rfl (Nat.le_of_ble_eq_true rfl) ⟨Nat.le_of_ble_eq_true rfl, Nat.le_of_ble_eq_true rfl⟩ (c2 := 0) (s2 := 0) rfl rfl x_nameText_3 ?_
                refine g_Ux (As := [.ref (adK 3)]) (st := []) hC 1 dX9_nameOf_13 rfl ha.1.1 ha.1.2 gX9_nameOf_X2_spells_u226X6 rfl rfl (by decide +kernel) ⟨Nat.le_of_ble_eq_true rfl, Nat.le_of_ble_eq_true rfl⟩ rfl (Nat.le_of_ble_eq_true rfl) ⟨(Nat.le_of_ble_eq_true rfl), (Nat.le_of_ble_eq_true rfl)⟩ (c2 := 0) (s2 := 0) rfl rfl (x_spells_S a c n g ha 3 (by decide)) (fun v4 L4 f4 hp4 => ?_)
                obtain ⟨hL4, hf4, w3, rfl, hs3⟩ := hp4
                rw [hL4, hf4]
                show gW X vwCl 2 L f 0 0 16 [(1, .int (nI 4)), (0, .ref a)] [.int (nI w3)]
                refine g_ifN_eq (a := w3) (tgt := 21) hC dX9_nameOf_16 (by decide) (by omega) (fun h16_3 => ?_) (fun h16_3 => ?_)
                · refine g_iincN (n := 1) (a := 4) (lv' := [(1, .int (nI 5)), (0, .ref a)]) hC dX9_nameOf_21 0 rfl (by decide) rfl ?_
                  refine g_goto (tgt := 2) hC dX9_nameOf_24 (by decide) ?_
                  refine g_iload_n hC dX9_nameOf_2 rfl 0 rfl ?_
                  refine g_bipush hC dX9_nameOf_3 (v := nI 8) (by decide) ?_
                  refine g_icmpN_gt (a := 5) (b := 8) (tgt := 27) hC dX9_nameOf_5 (by decide) (by omega) (by omega) (fun h5_4 => ?_) (fun h5_4 => ?_)
                  · exfalso; omega
                  · refine g_aload_n hC dX9_nameOf_8 rfl 1 rfl (Or.inr ⟨_, rfl⟩) ?_
                    refine g_iload_n hC dX9_nameOf_9 rfl 0 rfl ?_
                    refine g_S (As := [.int (nI 5)]) (st := [.ref a]) hC 1 dX9_nameOf_10 gX9_nameOf_X9_nameText rfl (by decide +kernel) ⟨Nat.le_of_ble_eq_true rfl, Nat.le_of_ble_eq_true rfl⟩ rfl (Nat.le_of_ble_eq_true rfl) ⟨Nat.le_of_ble_eq_true rfl, Nat.le_of_ble_eq_true rfl⟩ (c2 := 0) (s2 := 0) rfl rfl x_nameText_4 ?_
                    refine g_Ux (As := [.ref (adK 4)]) (st := []) hC 1 dX9_nameOf_13 rfl ha.1.1 ha.1.2 gX9_nameOf_X2_spells_u226X6 rfl rfl (by decide +kernel) ⟨Nat.le_of_ble_eq_true rfl, Nat.le_of_ble_eq_true rfl⟩ rfl (Nat.le_of_ble_eq_true rfl) ⟨(Nat.le_of_ble_eq_true rfl), (Nat.le_of_ble_eq_true rfl)⟩ (c2 := 0) (s2 := 0) rfl rfl (x_spells_S a c n g ha 4 (by decide)) (fun v5 L5 f5 hp5 => ?_)
                    obtain ⟨hL5, hf5, w4, rfl, hs4⟩ := hp5
                    rw [hL5, hf5]
                    show gW X vwCl 2 L f 0 0 16 [(1, .int (nI 5)), (0, .ref a)] [.int (nI w4)]
                    refine g_ifN_eq (a := w4) (tgt := 21) hC dX9_nameOf_16 (by decide) (by omega) (fun h16_4 => ?_) (fun h16_4 => ?_)
                    · refine g_iincN (n := 1) (a := 5) (lv' := [(1, .int (nI 6)), (0, .ref a)]) hC dX9_nameOf_21 0 rfl (by decide) rfl ?_
                      refine g_goto (tgt := 2) hC dX9_nameOf_24 (by decide) ?_
                      refine g_iload_n hC dX9_nameOf_2 rfl 0 rfl ?_
                      refine g_bipush hC dX9_nameOf_3 (v := nI 8) (by decide) ?_
                      refine g_icmpN_gt (a := 6) (b := 8) (tgt := 27) hC dX9_nameOf_5 (by decide) (by omega) (by omega) (fun h5_5 => ?_) (fun h5_5 => ?_)
                      · exfalso; omega
                      · refine g_aload_n hC dX9_nameOf_8 rfl 1 rfl (Or.inr ⟨_, rfl⟩) ?_
                        refine g_iload_n hC dX9_nameOf_9 rfl 0 rfl ?_
                        refine g_S (As := [.int (nI 6)]) (st := [.ref a]) hC 1 dX9_nameOf_10 gX9_nameOf_X9_nameText rfl (by decide +kernel) ⟨Nat.le_of_ble_eq_true rfl, Nat.le_of_ble_eq_true rfl⟩ rfl (Nat.le_of_ble_eq_true rfl) ⟨Nat.le_of_ble_eq_true rfl, Nat.le_of_ble_eq_true rfl⟩ (c2 := 0) (s2 := 0) rfl rfl x_nameText_5 ?_
                        refine g_Ux (As := [.ref (adK 5)]) (st := []) hC 1 dX9_nameOf_13 rfl ha.1.1 ha.1.2 gX9_nameOf_X2_spells_u226X6 rfl rfl (by decide +kernel) ⟨Nat.le_of_ble_eq_true rfl, Nat.le_of_ble_eq_true rfl⟩ rfl (Nat.le_of_ble_eq_true rfl) ⟨(Nat.le_of_ble_eq_true rfl), (Nat.le_of_ble_eq_true rfl)⟩ (c2 := 0) (s2 := 0) rfl rfl (x_spells_S a c n g ha 5 (by decide)) (fun v6 L6 f6 hp6 => ?_)
                        obtain ⟨hL6, hf6, w5, rfl, hs5⟩ := hp6
                        rw [hL6, hf6]
                        show gW X vwCl 2 L f 0 0 16 [(1, .int (nI 6)), (0, .ref a)] [.int (nI w5)]
                        refine g_ifN_eq (a := w5) (tgt := 21) hC dX9_nameOf_16 (by decide) (by omega) (fun h16_5 => ?_) (fun h16_5 => ?_)
                        · refine g_iincN (n := 1) (a := 6) (lv' := [(1, .int (nI 7)), (0, .ref a)]) hC dX9_nameOf_21 0 rfl (by decide) rfl ?_
                          refine g_goto (tgt := 2) hC dX9_nameOf_24 (by decide) ?_
                          refine g_iload_n hC dX9_nameOf_2 rfl 0 rfl ?_
                          refine g_bipush hC dX9_nameOf_3 (v := nI 8) (by decide) ?_
                          refine g_icmpN_gt (a := 7) (b := 8) (tgt := 27) hC dX9_nameOf_5 (by decide) (by omega) (by omega) (fun h5_6 => ?_) (fun h5_6 => ?_)
                          · exfalso; omega
                          · refine g_aload_n hC dX9_nameOf_8 rfl 1 rfl (Or.inr ⟨_, rfl⟩) ?_
                            refine g_iload_n hC dX9_nameOf_9 rfl 0 rfl ?_
                            refine g_S (As := [.int (nI 7)]) (st := [.ref a]) hC 1 dX9_nameOf_10 gX9_nameOf_X9_nameText rfl (by decide +kernel) ⟨Nat.le_of_ble_eq_true rfl, Nat.le_of_ble_eq_true rfl⟩ rfl (Nat.le_of_ble_eq_true rfl) ⟨Nat.le_of_ble_eq_true rfl, Nat.le_of_ble_eq_true rfl⟩ (c2 := 0) (s2 := 0) rfl rfl x_nameText_6 ?_
                            refine g_Ux (As := [.ref (adK 6)]) (st := []) hC 1 dX9_nameOf_13 rfl ha.1.1 ha.1.2 gX9_nameOf_X2_spells_u226X6 rfl rfl (by decide +kernel) ⟨Nat.le_of_ble_eq_true rfl, Nat.le_of_ble_eq_true rfl⟩ rfl (Nat.le_of_ble_eq_true rfl) ⟨(Nat.le_of_ble_eq_true rfl), (Nat.le_of_ble_eq_true rfl)⟩ (c2 := 0) (s2 := 0) rfl rfl (x_spells_S a c n g ha 6 (by decide)) (fun v7 L7 f7 hp7 => ?_)
                            obtain ⟨hL7, hf7, w6, rfl, hs6⟩ := hp7
                            rw [hL7, hf7]
                            show gW X vwCl 2 L f 0 0 16 [(1, .int (nI 7)), (0, .ref a)] [.int (nI w6)]
                            refine g_ifN_eq (a := w6) (tgt := 21) hC dX9_nameOf_16 (by decide) (by omega) (fun h16_6 => ?_) (fun h16_6 => ?_)
                            · refine g_iincN (n := 1) (a := 7) (lv' := [(1, .int (nI 8)), (0, .ref a)]) hC dX9_nameOf_21 0 rfl (by decide) rfl ?_
                              refine g_goto (tgt := 2) hC dX9_nameOf_24 (by decide) ?_
                              refine g_iload_n hC dX9_nameOf_2 rfl 0 rfl ?_
                              refine g_bipush hC dX9_nameOf_3 (v := nI 8) (by decide) ?_
                              refine g_icmpN_gt (a := 8) (b := 8) (tgt := 27) hC dX9_nameOf_5 (by decide) (by omega) (by omega) (fun h5_7 => ?_) (fun h5_7 => ?_)
                              · exfalso; omega
                              · refine g_aload_n hC dX9_nameOf_8 rfl 1 rfl (Or.inr ⟨_, rfl⟩) ?_
                                refine g_iload_n hC dX9_nameOf_9 rfl 0 rfl ?_
                                refine g_S (As := [.int (nI 8)]) (st := [.ref a]) hC 1 dX9_nameOf_10 gX9_nameOf_X9_nameText rfl (by decide +kernel) ⟨Nat.le_of_ble_eq_true rfl, Nat.le_of_ble_eq_true rfl⟩ rfl (Nat.le_of_ble_eq_true rfl) ⟨Nat.le_of_ble_eq_true rfl, Nat.le_of_ble_eq_true rfl⟩ (c2 := 0) (s2 := 0) rfl rfl x_nameText_7 ?_
                                refine g_Ux (As := [.ref (adK 7)]) (st := []) hC 1 dX9_nameOf_13 rfl ha.1.1 ha.1.2 gX9_nameOf_X2_spells_u226X6 rfl rfl (by decide +kernel) ⟨Nat.le_of_ble_eq_true rfl, Nat.le_of_ble_eq_true rfl⟩ rfl (Nat.le_of_ble_eq_true rfl) ⟨(Nat.le_of_ble_eq_true rfl), (Nat.le_of_ble_eq_true rfl)⟩ (c2 := 0) (s2 := 0) rfl rfl (x_spells_S a c n g ha 7 (by decide)) (fun v8 L8 f8 hp8 => ?_)
                                obtain ⟨hL8, hf8, w7, rfl, hs7⟩ := hp8
                                rw [hL8, hf8]
                                show gW X vwCl 2 L f 0 0 16 [(1, .int (nI 8)), (0, .ref a)] [.int (nI w7)]
                                refine g_ifN_eq (a := w7) (tgt := 21) hC dX9_nameOf_16 (by decide) (by omega) (fun h16_7 => ?_) (fun h16_7 => ?_)
                                · refine g_iincN (n := 1) (a := 8) (lv' := [(1, .int (nI 9)), (0, .ref a)]) hC dX9_nameOf_21 0 rfl (by decide) rfl ?_
                                  refine g_goto (tgt := 2) hC dX9_nameOf_24 (by decide) ?_
                                  refine g_iload_n hC dX9_nameOf_2 rfl 0 rfl ?_
                                  refine g_bipush hC dX9_nameOf_3 (v := nI 8) (by decide) ?_
                                  refine g_icmpN_gt (a := 9) (b := 8) (tgt := 27) hC dX9_nameOf_5 (by decide) (by omega) (by omega) (fun h5_8 => ?_) (fun h5_8 => ?_)
                                  · refine g_iconst hC dX9_nameOf_27 (v := nI 0) (by decide) ?_
                                    exact g_iret hC hR dX9_nameOf_28 ⟨rfl, rfl, 0, rfl, Or.inr ⟨rfl, fun i hi => by
                                      rcases (show i = 0 ∨ i = 1 ∨ i = 2 ∨ i = 3 ∨ i = 4 ∨ i = 5 ∨ i = 6 ∨ i = 7 by omega) with rfl | rfl | rfl | rfl | rfl | rfl | rfl | rfl
                                      · exact hs0.elim (fun z => by omega) (fun z => z.2)
                                      · exact hs1.elim (fun z => by omega) (fun z => z.2)
                                      · exact hs2.elim (fun z => by omega) (fun z => z.2)
                                      · exact hs3.elim (fun z => by omega) (fun z => z.2)
                                      · exact hs4.elim (fun z => by omega) (fun z => z.2)
                                      · exact hs5.elim (fun z => by omega) (fun z => z.2)
                                      · exact hs6.elim (fun z => by omega) (fun z => z.2)
                                      · exact hs7.elim (fun z => by omega) (fun z => z.2)⟩⟩
                                  · exfalso; omega
                                · refine g_iload_n hC dX9_nameOf_19 rfl 0 rfl ?_
                                  exact g_iret hC hR dX9_nameOf_20 ⟨rfl, rfl, 8, rfl, Or.inl ⟨by decide, by decide, by
                                    rcases hs7 with z | z
                                    · exact z.2
                                    · omega⟩⟩
                            · refine g_iload_n hC dX9_nameOf_19 rfl 0 rfl ?_
                              exact g_iret hC hR dX9_nameOf_20 ⟨rfl, rfl, 7, rfl, Or.inl ⟨by decide, by decide, by
                                rcases hs6 with z | z
                                · exact z.2
                                · omega⟩⟩
                        · refine g_iload_n hC dX9_nameOf_19 rfl 0 rfl ?_
                          exact g_iret hC hR dX9_nameOf_20 ⟨rfl, rfl, 6, rfl, Or.inl ⟨by decide, by decide, by
                            rcases hs5 with z | z
                            · exact z.2
                            · omega⟩⟩
                    · refine g_iload_n hC dX9_nameOf_19 rfl 0 rfl ?_
                      exact g_iret hC hR dX9_nameOf_20 ⟨rfl, rfl, 5, rfl, Or.inl ⟨by decide, by decide, by
                        rcases hs4 with z | z
                        · exact z.2
                        · omega⟩⟩
                · refine g_iload_n hC dX9_nameOf_19 rfl 0 rfl ?_
                  exact g_iret hC hR dX9_nameOf_20 ⟨rfl, rfl, 4, rfl, Or.inl ⟨by decide, by decide, by
                    rcases hs3 with z | z
                    · exact z.2
                    · omega⟩⟩
            · refine g_iload_n hC dX9_nameOf_19 rfl 0 rfl ?_
              exact g_iret hC hR dX9_nameOf_20 ⟨rfl, rfl, 3, rfl, Or.inl ⟨by decide, by decide, by
                rcases hs2 with z | z
                · exact z.2
                · omega⟩⟩
        · refine g_iload_n hC dX9_nameOf_19 rfl 0 rfl ?_
          exact g_iret hC hR dX9_nameOf_20 ⟨rfl, rfl, 2, rfl, Or.inl ⟨by decide, by decide, by
            rcases hs1 with z | z
            · exact z.2
            · omega⟩⟩
    · refine g_iload_n hC dX9_nameOf_19 rfl 0 rfl ?_
      exact g_iret hC hR dX9_nameOf_20 ⟨rfl, rfl, 1, rfl, Or.inl ⟨by decide, by decide, by
        rcases hs0 with z | z
        · exact z.2
        · omega⟩⟩
end NM
