theorem st_u9 : ∀ w ∈ u_ws RX9 TX9 6, w ∈ wsL_law := by decide +kernel
theorem st_u10 : ∀ w ∈ u_ws RX10 TX10 26, w ∈ wsL_law := by decide +kernel
theorem st_d9 : ∀ j, j < 6 → defaultValue (tyX9 j) = vp_V [.null, .null, .null, .int (nI 0), .long (lN 0), .long (lN 0)] j := by
  intro j hj
  match j, hj with
  | 0, _ => rfl
  | 1, _ => rfl
  | 2, _ => rfl
  | 3, _ => rfl
  | 4, _ => rfl
  | 5, _ => rfl
  | j + 6, hj => exact absurd hj (by omega)
theorem st_d10 : ∀ j, j < 26 → defaultValue (tyX10 j) = vp_V [.int 0, .int 0, .null, .null, .int 0, .null, .null, .int 0, .null, .null, .int 0, .null, .null, .int 0, .null, .null, .null, .null, .null, .null, .null, .int 0, .null, .long 0, .int 0, .null] j := by
  intro j hj
  match j, hj with
  | 0, _ => rfl
  | 1, _ => rfl
  | 2, _ => rfl
  | 3, _ => rfl
  | 4, _ => rfl
  | 5, _ => rfl
  | 6, _ => rfl
  | 7, _ => rfl
  | 8, _ => rfl
  | 9, _ => rfl
  | 10, _ => rfl
  | 11, _ => rfl
  | 12, _ => rfl
  | 13, _ => rfl
  | 14, _ => rfl
  | 15, _ => rfl
  | 16, _ => rfl
  | 17, _ => rfl
  | 18, _ => rfl
  | 19, _ => rfl
  | 20, _ => rfl
  | 21, _ => rfl
  | 22, _ => rfl
  | 23, _ => rfl
  | 24, _ => rfl
  | 25, _ => rfl
  | j + 26, hj => exact absurd hj (by omega)
section WS
variable {X : gX} {l : Launch} {D : va_G} {cy adK adV : Nat → Nat} {sa bs N : Nat} {xs : Nat → Int32}
set_option maxRecDepth 20000 in
set_option maxHeartbeats 4000000 in
theorem lw_begin (hC : gC X l room_1 D vwCl (cyT cy) (gKS D cy adK adV) cL_law 7 wsL_law RL) (hKM : gKM D cy adK adV sa X.2.2.2.1 X.2.1.1) (hlt : l.stackTraces = false) (hX : va_X bs N xs X.2.1.1 X.2.1.1.heap) (hbl : bs < X.2.1.1.heap.size) (hbA : ¬ X.2.2.2.1 bs) (hN : N ≤ 3072)
    (kE : ∀ (x o u : Nat) (ad : Nat → Nat) (k : Nat) (S : aS) (b : xB) (Lx : List Nat) (F : Nat → va_E) (gl : Nat → Int64), k ≤ 512 → lwI cy x o u ad k S b Lx F gl → gW X vwCl 7 (Lx ++ (mL o ad ++ [u])) F (40 + 3 * k + rmC aS0 S) (930000 + 400 * k + rmS aS0 S) 1267 [(4, .int (nI (6 * k))), (3, .ref u), (2, .ref o), (1, .ref x), (0, .ref bs)] []) : gW X vwCl 7 [] (fun _ => .inr (0, [])) 0 0 0 [(0, .ref bs)] [] := by
  refine g_new hC (fs := [.null, .null, .null, .int (nI 0), .long (lN 0), .long (lN 0)]) st_u9 tyX9 tyX9_ok (by decide +kernel) (by decide +kernel) (by decide +kernel) (ci := 6) rfl st_d9 (Nat.le_of_ble_eq_true rfl) (Nat.le_of_ble_eq_true rfl) dL_law_0 (fun x _ => ?_)
  refine g_dup hC dL_law_3 rfl ?_
  refine g_Ix (As := []) (st := [.ref x]) hC 0 dL_law_4 gL_law_X9_init rfl (by decide +kernel) (by decide +kernel) (by decide +kernel) rfl (by decide +kernel) ⟨Nat.le_of_ble_eq_true rfl, Nat.le_of_ble_eq_true rfl⟩ rfl (Nat.le_of_ble_eq_true rfl) ⟨(Nat.le_of_ble_eq_true rfl), (Nat.le_of_ble_eq_true rfl)⟩ (c2 := 5) (s2 := 134) rfl rfl ((x_9_init x ⟨by simp, va_up_self _ _ _⟩).K gKS_K) (fun v L9 f9 hp => ?_)
  obtain ⟨rfl, b, hb9, hx9⟩ := hp
  show gW X vwCl 7 L9 f9 5 134 7 [(0, .ref bs)] [.ref x]
  refine g_astore_n hC dL_law_7 rfl (by decide) rfl (Or.inr ⟨_, rfl⟩) ?_
  show gW X vwCl 7 L9 f9 5 134 8 [(1, .ref x), (0, .ref bs)] []
  refine g_new hC (fs := [.int 0, .int 0, .null, .null, .int 0, .null, .null, .int 0, .null, .null, .int 0, .null, .null, .int 0, .null, .null, .null, .null, .null, .null, .null, .int 0, .null, .long 0, .int 0, .null]) st_u10 tyX10 tyX10_ok (by decide +kernel) (by decide +kernel) (by decide +kernel) (ci := 7) rfl st_d10 (Nat.le_of_ble_eq_true rfl) (Nat.le_of_ble_eq_true rfl) dL_law_8 (fun o ho => ?_)
  refine g_dup hC dL_law_11 rfl ?_
  refine g_nd (fun hnd => ?_)
  have hpm : (L9 ++ [o]).Perm ([o] ++ L9) := List.perm_append_comm
  refine g_mem (L' := [o] ++ L9) (fun a ha => hpm.mem_iff.mpr ha) (hpm.nodup_iff.mp hnd) ?_
  refine g_Ix (As := []) (st := [.ref o]) hC 0 dL_law_12 gL_law_X10_init rfl (by decide +kernel) (by decide +kernel) (by decide +kernel) rfl (by decide +kernel) ⟨Nat.le_of_ble_eq_true rfl, Nat.le_of_ble_eq_true rfl⟩ rfl (Nat.le_of_ble_eq_true rfl) ⟨(Nat.le_of_ble_eq_true rfl), (Nat.le_of_ble_eq_true rfl)⟩ (c2 := 23) (s2 := 928316) rfl rfl ((c_minit gKS_ok (f := va_up f9 o (.inr (7, [.int 0, .int 0, .null, .null, .int 0, .null, .null, .int 0, .null, .null, .int 0, .null, .null, .int 0, .null, .null, .null, .null, .null, .null, .null, .int 0, .null, .long 0, .int 0, .null]))) (va_up_self _ _ _)).fr hC.2.1 (fun _ _ => rfl) (fun a ha hb => by
    rw [List.mem_singleton] at ha
    exact ho (ha ▸ hb))) (fun v L2 f2 hp => ?_)
  obtain ⟨L1, f1, ⟨rfl, ad, rfl, hok, hfm⟩, rfl, hf1, hf2, hd2⟩ := hp
  have hm2 : ∀ a, a ∈ mL o ad → f2 a = mW o ad cy aS0 a := fun a ha => (hf1 a ha).trans (hfm a ha)
  have hx2 : xR cy aS0 b L9 f2 := hx9.cg (fun a ha => (hf2 a ha).trans (va_up_ne (k := o) _ _ (fun z => ho (z ▸ ha))))
  show gW X vwCl 7 (mL o ad ++ L9) f2 23 928316 15 [(1, .ref x), (0, .ref bs)] [.ref o]
  refine g_astore_n hC dL_law_15 rfl (by decide) rfl (Or.inr ⟨_, rfl⟩) ?_
  show gW X vwCl 7 (mL o ad ++ L9) f2 23 928316 16 [(2, .ref o), (1, .ref x), (0, .ref bs)] []
  refine g_iconst hC dL_law_16 (v := nI 1) (by decide) ?_
  refine g_newa hC (a0 := (1, .inr (.inl (fun _ => 0)))) (N := 1) 6 rfl (by decide +kernel) rfl (fun _ => rfl) rfl (show 1 < 2 ^ 31 by omega) (show 1 * 8 ≤ 536870912 by omega) (Nat.le_of_ble_eq_true rfl) (Nat.le_of_ble_eq_true rfl) dL_law_17 (fun u hu => ?_)
  refine g_astore_n hC dL_law_19 rfl (by decide) rfl (Or.inr ⟨_, rfl⟩) ?_
  refine g_iconst hC dL_law_20 (v := nI 0) (by decide) ?_
  refine g_istore hC dL_law_21 (by decide) rfl ?_
  refine g_nd (fun hn2 => ?_)
  have hp2 : ((mL o ad ++ L9) ++ [u]).Perm (L9 ++ (mL o ad ++ [u])) := by
    rw [List.append_assoc]
    exact List.perm_append_comm_assoc (mL o ad) L9 [u]
  refine g_mem (L' := L9 ++ (mL o ad ++ [u])) (fun a ha => hp2.mem_iff.mpr ha) (hp2.nodup_iff.mp hn2) ?_
  refine g_widen (c2 := 40 + 3 * 0 + rmC aS0 aS0) (s2 := 930000 + 400 * 0 + rmS aS0 aS0) (by omega) (by omega) ?_
  have huL : ∀ a, a ∈ L9 → a ≠ u := fun a ha z => hu (z ▸ List.mem_append_right _ ha)
  have hum : ∀ a, a ∈ mL o ad → a ≠ u := fun a ha z => hu (z ▸ List.mem_append_left _ ha)
  exact lw_loop hC hKM hlt hX hbl hbA hN (kE x o u ad) 512 0 aS0 b L9 _ (fun _ => 0) (by omega) (by omega) ⟨LI_0, hx2.cg (fun a ha => va_up_ne (k := u) _ _ (huL a ha)), hb9, fun a ha => (va_up_ne (k := u) _ _ (hum a ha)).trans (hm2 a ha), va_up_self _ _ _, fun a ha hb => by
    rcases List.mem_append.mp hb with h | h
    · exact hd2 a h ha
    · exact huL a ha (List.mem_singleton.mp h), hok, mo.rf, Nat.le_refl _, Nat.le_refl _⟩
end WS
