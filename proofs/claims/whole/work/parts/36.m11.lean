theorem nd_inj {g : Nat → Nat} : ∀ l : List Nat, (l.map g).Nodup → ∀ j ∈ l, ∀ k ∈ l, g j = g k → j = k
  | [], _, j, hj, _, _, _ => by cases hj
  | a :: l, hn, j, hj, k, hk, e => by
    rw [List.map_cons, List.nodup_cons] at hn
    rcases List.mem_cons.mp hj with e1 | hj1
    · rcases List.mem_cons.mp hk with e2 | hk1
      · rw [e1, e2]
      · exact absurd (List.mem_map.mpr ⟨k, hk1, by rw [← e, e1]⟩) hn.1
    · rcases List.mem_cons.mp hk with e2 | hk1
      · exact absurd (List.mem_map.mpr ⟨j, hj1, by rw [e, e2]⟩) hn.1
      · exact nd_inj l hn.2 j hj1 k hk1 e
theorem nd_mOk {o : Nat} {ad : Nat → Nat} (h : (mL o ad).Nodup) : mOk o ad := by
  unfold mL at h
  rw [List.nodup_cons] at h
  exact ⟨fun k hk e => h.1 (List.mem_map.mpr ⟨k, hk, e⟩), nd_inj mIx h.2⟩
theorem nd_push {L : List Nat} {q : Nat} (h : L.Nodup) (hq : q ∉ L) : (L ++ [q]).Nodup := by
  rw [List.nodup_append]
  exact ⟨h, by simp, fun a ha b hb e => hq (by rw [List.mem_singleton.mp hb] at e; rw [← e]; exact ha)⟩
theorem up_keep {f : Nat → va_E} {a b : Nat} {e x : va_E} (h : f b = e) (hne : b ≠ a) : va_up f a x b = e := by rw [va_up_ne _ _ hne]; exact h
/-- the state of a new object -/
def aS0 : aS := (fun _ => 0, fun _ _ => 0, fun _ _ => 0)
section M3
variable {l : Launch} {D : va_G} {cy : Nat → ClassId} {K : gKt} {o : Nat} {ad : Nat → Nat} {S : aS}
set_option maxRecDepth 20000 in
set_option maxHeartbeats 4000000 in
theorem c_minit (hk : gKok D vwCl (cyT cy) K) {f : Nat → va_E} (hf : f o = .inr (7, [.int 0, .int 0, .null, .null, .int 0, .null, .null, .int 0, .null, .null, .int 0, .null, .null, .int 0, .null, .null, .null, .null, .null, .null, .null, .int 0, .null, .long 0, .int 0, .null])) : gCt l D vwCl K yX10_init wsX10_init { frames := 1, cells := 17, slots := 928156, locals := 20 } [.ref o] [o] f (fun v L' f' => v = none ∧ ∃ ad, L' = mL o ad ∧ mOk o ad ∧ ∀ a, a ∈ L' → f' a = mW o ad cy aS0 a) := by
  refine gCt.of hk (by decide) rfl rfl (fun X hC hR hnm => ?_)
  have hC : gC X l _ D vwCl (cyT cy) K cX10_init 1 wsX10_init RX10 := hC
  have hin : ∀ w ∈ wsX100, w ∈ wsX10_init := by decide +kernel
  show gW X vwCl 1 [o] f 0 0 0 [(0, .ref o)] []
  have hn9 : X.2.1.2.2.2.2.1.name = "<init>" := hnm
  refine g_aload_n hC dX10_init_0 rfl 0 rfl (Or.inr ⟨_, rfl⟩) ?_
  refine g_objInit hC (by decide +kernel) (by decide +kernel) (by decide +kernel) (Nat.le_of_ble_eq_true rfl) (Nat.le_of_ble_eq_true rfl) dX10_init_1 ?_
  have hnd : [o].Nodup := by simp
  refine g_aload_n hC dX10_init_4 rfl 0 rfl (Or.inr ⟨_, rfl⟩) ?_
  refine g_bipush hC dX10_init_5 (v := nI 10) (by decide) ?_
  refine g_newa (a0 := (10, .inl (fun _ => 0))) hC 2 rfl (by decide +kernel) rfl (fun _ => rfl) rfl (by decide) (by decide) (Nat.le_of_ble_eq_true rfl) (Nat.le_of_ble_eq_true rfl) dX10_init_7 (fun q2 hq2 => ?_)
  have hoq2 : o ≠ q2 := fun e => hq2 (by rw [← e]; simp)
  have hnd := nd_push hnd hq2
  show gW X vwCl 1 [o, q2] (va_up f q2 (.inl (cy 2, 10, .inl (fun _ => 0)))) 1 10 9 [(0, .ref o)] [.ref q2, .ref o]
  refine g_putF (T := TX10) (N := 26) (ci := 7) (C := RX10) (fs := [.int 0, .int 0, .null, .null, .int 0, .null, .null, .int 0, .null, .null, .int 0, .null, .null, .int 0, .null, .null, .null, .null, .null, .null, .null, .int 0, .null, .long 0, .int 0, .null]) hC hin tyX10 tyX10_ok nmX10 rfl (by simp) (up_keep hf hoq2) 2 (by decide) (by decide +kernel) (Or.inl rfl) rfl hn9 rfl (ty := .array .int) (by decide +kernel) rfl rfl (Nat.le_of_ble_eq_true rfl) dX10_init_9 ?_
  obtain ⟨f2, hg2⟩ : ∃ z, z = (va_up (va_up f q2 (.inl (cy 2, 10, .inl (fun _ => 0)))) o (.inr (7, [.int 0, .int 0, .ref q2, .null, .int 0, .null, .null, .int 0, .null, .null, .int 0, .null, .null, .int 0, .null, .null, .null, .null, .null, .null, .null, .int 0, .null, .long 0, .int 0, .null]))) := ⟨_, rfl⟩
  have hW9 : gW X vwCl 1 [o, q2] f2 1 10 12 [(0, .ref o)] [] → gW X vwCl 1 [o, q2] (va_up (va_up f q2 (.inl (cy 2, 10, .inl (fun _ => 0)))) o (.inr (7, [.int 0, .int 0, .ref q2, .null, .int 0, .null, .null, .int 0, .null, .null, .int 0, .null, .null, .int 0, .null, .null, .null, .null, .null, .null, .null, .int 0, .null, .long 0, .int 0, .null]))) 1 10 12 [(0, .ref o)] [] := fun z => by rw [← hg2]; exact z
  refine hW9 ?_
  have ho2 : f2 o = .inr (7, [.int 0, .int 0, .ref q2, .null, .int 0, .null, .null, .int 0, .null, .null, .int 0, .null, .null, .int 0, .null, .null, .null, .null, .null, .null, .null, .int 0, .null, .long 0, .int 0, .null]) := by rw [hg2, va_up_self]
  have hh2_2 : f2 q2 = .inl (cy 2, 10, .inl (fun _ => 0)) := by rw [hg2]; exact up_keep (va_up_self _ _ _) (Ne.symm hoq2)
  refine g_aload_n hC dX10_init_12 rfl 0 rfl (Or.inr ⟨_, rfl⟩) ?_
  refine g_bipush hC dX10_init_13 (v := nI 10) (by decide) ?_
  refine g_newa (a0 := (10, .inl (fun _ => 0))) hC 2 rfl (by decide +kernel) rfl (fun _ => rfl) rfl (by decide) (by decide) (Nat.le_of_ble_eq_true rfl) (Nat.le_of_ble_eq_true rfl) dX10_init_15 (fun q3 hq3 => ?_)
  have hoq3 : o ≠ q3 := fun e => hq3 (by rw [← e]; simp)
  have hd2_3 : q2 ≠ q3 := fun e => hq3 (by rw [← e]; simp)
  have hnd := nd_push hnd hq3
  show gW X vwCl 1 [o, q2, q3] (va_up f2 q3 (.inl (cy 2, 10, .inl (fun _ => 0)))) 2 20 17 [(0, .ref o)] [.ref q3, .ref o]
  refine g_putF (T := TX10) (N := 26) (ci := 7) (C := RX10) (fs := [.int 0, .int 0, .ref q2, .null, .int 0, .null, .null, .int 0, .null, .null, .int 0, .null, .null, .int 0, .null, .null, .null, .null, .null, .null, .null, .int 0, .null, .long 0, .int 0, .null]) hC hin tyX10 tyX10_ok nmX10 rfl (by simp) (up_keep ho2 hoq3) 3 (by decide) (by decide +kernel) (Or.inl rfl) rfl hn9 rfl (ty := .array .int) (by decide +kernel) rfl rfl (Nat.le_of_ble_eq_true rfl) dX10_init_17 ?_
  obtain ⟨f3, hg3⟩ : ∃ z, z = (va_up (va_up f2 q3 (.inl (cy 2, 10, .inl (fun _ => 0)))) o (.inr (7, [.int 0, .int 0, .ref q2, .ref q3, .int 0, .null, .null, .int 0, .null, .null, .int 0, .null, .null, .int 0, .null, .null, .null, .null, .null, .null, .null, .int 0, .null, .long 0, .int 0, .null]))) := ⟨_, rfl⟩
  have hW9 : gW X vwCl 1 [o, q2, q3] f3 2 20 20 [(0, .ref o)] [] → gW X vwCl 1 [o, q2, q3] (va_up (va_up f2 q3 (.inl (cy 2, 10, .inl (fun _ => 0)))) o (.inr (7, [.int 0, .int 0, .ref q2, .ref q3, .int 0, .null, .null, .int 0, .null, .null, .int 0, .null, .null, .int 0, .null, .null, .null, .null, .null, .null, .null, .int 0, .null, .long 0, .int 0, .null]))) 2 20 20 [(0, .ref o)] [] := fun z => by rw [← hg3]; exact z
  refine hW9 ?_
  have ho3 : f3 o = .inr (7, [.int 0, .int 0, .ref q2, .ref q3, .int 0, .null, .null, .int 0, .null, .null, .int 0, .null, .null, .int 0, .null, .null, .null, .null, .null, .null, .null, .int 0, .null, .long 0, .int 0, .null]) := by rw [hg3, va_up_self]
  have hh2_3 : f3 q2 = .inl (cy 2, 10, .inl (fun _ => 0)) := by rw [hg3]; exact up_keep (up_keep hh2_2 hd2_3) (Ne.symm hoq2)
  have hh3_3 : f3 q3 = .inl (cy 2, 10, .inl (fun _ => 0)) := by rw [hg3]; exact up_keep (va_up_self _ _ _) (Ne.symm hoq3)
  refine g_aload_n hC dX10_init_20 rfl 0 rfl (Or.inr ⟨_, rfl⟩) ?_
  refine g_ldc (v := nI 40000) hC (by decide +kernel) dX10_init_21 ?_
  refine g_newa (a0 := (40000, .inl (fun _ => 0))) hC 2 rfl (by decide +kernel) rfl (fun _ => rfl) rfl (by decide) (by decide) (Nat.le_of_ble_eq_true rfl) (Nat.le_of_ble_eq_true rfl) dX10_init_23 (fun q5 hq5 => ?_)
  have hoq5 : o ≠ q5 := fun e => hq5 (by rw [← e]; simp)
  have hd2_5 : q2 ≠ q5 := fun e => hq5 (by rw [← e]; simp)
  have hd3_5 : q3 ≠ q5 := fun e => hq5 (by rw [← e]; simp)
  have hnd := nd_push hnd hq5
  show gW X vwCl 1 [o, q2, q3, q5] (va_up f3 q5 (.inl (cy 2, 40000, .inl (fun _ => 0)))) 3 40020 25 [(0, .ref o)] [.ref q5, .ref o]
  refine g_putF (T := TX10) (N := 26) (ci := 7) (C := RX10) (fs := [.int 0, .int 0, .ref q2, .ref q3, .int 0, .null, .null, .int 0, .null, .null, .int 0, .null, .null, .int 0, .null, .null, .null, .null, .null, .null, .null, .int 0, .null, .long 0, .int 0, .null]) hC hin tyX10 tyX10_ok nmX10 rfl (by simp) (up_keep ho3 hoq5) 5 (by decide) (by decide +kernel) (Or.inl rfl) rfl hn9 rfl (ty := .array .int) (by decide +kernel) rfl rfl (Nat.le_of_ble_eq_true rfl) dX10_init_25 ?_
  obtain ⟨f5, hg5⟩ : ∃ z, z = (va_up (va_up f3 q5 (.inl (cy 2, 40000, .inl (fun _ => 0)))) o (.inr (7, [.int 0, .int 0, .ref q2, .ref q3, .int 0, .ref q5, .null, .int 0, .null, .null, .int 0, .null, .null, .int 0, .null, .null, .null, .null, .null, .null, .null, .int 0, .null, .long 0, .int 0, .null]))) := ⟨_, rfl⟩
  have hW9 : gW X vwCl 1 [o, q2, q3, q5] f5 3 40020 28 [(0, .ref o)] [] → gW X vwCl 1 [o, q2, q3, q5] (va_up (va_up f3 q5 (.inl (cy 2, 40000, .inl (fun _ => 0)))) o (.inr (7, [.int 0, .int 0, .ref q2, .ref q3, .int 0, .ref q5, .null, .int 0, .null, .null, .int 0, .null, .null, .int 0, .null, .null, .null, .null, .null, .null, .null, .int 0, .null, .long 0, .int 0, .null]))) 3 40020 28 [(0, .ref o)] [] := fun z => by rw [← hg5]; exact z
  refine hW9 ?_
  have ho5 : f5 o = .inr (7, [.int 0, .int 0, .ref q2, .ref q3, .int 0, .ref q5, .null, .int 0, .null, .null, .int 0, .null, .null, .int 0, .null, .null, .null, .null, .null, .null, .null, .int 0, .null, .long 0, .int 0, .null]) := by rw [hg5, va_up_self]
  have hh2_5 : f5 q2 = .inl (cy 2, 10, .inl (fun _ => 0)) := by rw [hg5]; exact up_keep (up_keep hh2_3 hd2_5) (Ne.symm hoq2)
  have hh3_5 : f5 q3 = .inl (cy 2, 10, .inl (fun _ => 0)) := by rw [hg5]; exact up_keep (up_keep hh3_3 hd3_5) (Ne.symm hoq3)
  have hh5_5 : f5 q5 = .inl (cy 2, 40000, .inl (fun _ => 0)) := by rw [hg5]; exact up_keep (va_up_self _ _ _) (Ne.symm hoq5)
  refine g_aload_n hC dX10_init_28 rfl 0 rfl (Or.inr ⟨_, rfl⟩) ?_
  refine g_ldc (v := nI 640000) hC (by decide +kernel) dX10_init_29 ?_
  refine g_newa (a0 := (640000, .inl (fun _ => 0))) hC 2 rfl (by decide +kernel) rfl (fun _ => rfl) rfl (by decide) (by decide) (Nat.le_of_ble_eq_true rfl) (Nat.le_of_ble_eq_true rfl) dX10_init_31 (fun q6 hq6 => ?_)
  have hoq6 : o ≠ q6 := fun e => hq6 (by rw [← e]; simp)
  have hd2_6 : q2 ≠ q6 := fun e => hq6 (by rw [← e]; simp)
  have hd3_6 : q3 ≠ q6 := fun e => hq6 (by rw [← e]; simp)
  have hd5_6 : q5 ≠ q6 := fun e => hq6 (by rw [← e]; simp)
  have hnd := nd_push hnd hq6
  show gW X vwCl 1 [o, q2, q3, q5, q6] (va_up f5 q6 (.inl (cy 2, 640000, .inl (fun _ => 0)))) 4 680020 33 [(0, .ref o)] [.ref q6, .ref o]
  refine g_putF (T := TX10) (N := 26) (ci := 7) (C := RX10) (fs := [.int 0, .int 0, .ref q2, .ref q3, .int 0, .ref q5, .null, .int 0, .null, .null, .int 0, .null, .null, .int 0, .null, .null, .null, .null, .null, .null, .null, .int 0, .null, .long 0, .int 0, .null]) hC hin tyX10 tyX10_ok nmX10 rfl (by simp) (up_keep ho5 hoq6) 6 (by decide) (by decide +kernel) (Or.inl rfl) rfl hn9 rfl (ty := .array .int) (by decide +kernel) rfl rfl (Nat.le_of_ble_eq_true rfl) dX10_init_33 ?_
  obtain ⟨f6, hg6⟩ : ∃ z, z = (va_up (va_up f5 q6 (.inl (cy 2, 640000, .inl (fun _ => 0)))) o (.inr (7, [.int 0, .int 0, .ref q2, .ref q3, .int 0, .ref q5, .ref q6, .int 0, .null, .null, .int 0, .null, .null, .int 0, .null, .null, .null, .null, .null, .null, .null, .int 0, .null, .long 0, .int 0, .null]))) := ⟨_, rfl⟩
  have hW9 : gW X vwCl 1 [o, q2, q3, q5, q6] f6 4 680020 36 [(0, .ref o)] [] → gW X vwCl 1 [o, q2, q3, q5, q6] (va_up (va_up f5 q6 (.inl (cy 2, 640000, .inl (fun _ => 0)))) o (.inr (7, [.int 0, .int 0, .ref q2, .ref q3, .int 0, .ref q5, .ref q6, .int 0, .null, .null, .int 0, .null, .null, .int 0, .null, .null, .null, .null, .null, .null, .null, .int 0, .null, .long 0, .int 0, .null]))) 4 680020 36 [(0, .ref o)] [] := fun z => by rw [← hg6]; exact z
  refine hW9 ?_
  have ho6 : f6 o = .inr (7, [.int 0, .int 0, .ref q2, .ref q3, .int 0, .ref q5, .ref q6, .int 0, .null, .null, .int 0, .null, .null, .int 0, .null, .null, .null, .null, .null, .null, .null, .int 0, .null, .long 0, .int 0, .null]) := by rw [hg6, va_up_self]
  have hh2_6 : f6 q2 = .inl (cy 2, 10, .inl (fun _ => 0)) := by rw [hg6]; exact up_keep (up_keep hh2_5 hd2_6) (Ne.symm hoq2)
  have hh3_6 : f6 q3 = .inl (cy 2, 10, .inl (fun _ => 0)) := by rw [hg6]; exact up_keep (up_keep hh3_5 hd3_6) (Ne.symm hoq3)
  have hh5_6 : f6 q5 = .inl (cy 2, 40000, .inl (fun _ => 0)) := by rw [hg6]; exact up_keep (up_keep hh5_5 hd5_6) (Ne.symm hoq5)
  have hh6_6 : f6 q6 = .inl (cy 2, 640000, .inl (fun _ => 0)) := by rw [hg6]; exact up_keep (va_up_self _ _ _) (Ne.symm hoq6)
  refine g_aload_n hC dX10_init_36 rfl 0 rfl (Or.inr ⟨_, rfl⟩) ?_
  refine g_sipush hC dX10_init_37 (v := nI 600) (by decide) ?_
  refine g_newa (a0 := (600, .inl (fun _ => 0))) hC 2 rfl (by decide +kernel) rfl (fun _ => rfl) rfl (by decide) (by decide) (Nat.le_of_ble_eq_true rfl) (Nat.le_of_ble_eq_true rfl) dX10_init_40 (fun q8 hq8 => ?_)
  have hoq8 : o ≠ q8 := fun e => hq8 (by rw [← e]; simp)
  have hd2_8 : q2 ≠ q8 := fun e => hq8 (by rw [← e]; simp)
  have hd3_8 : q3 ≠ q8 := fun e => hq8 (by rw [← e]; simp)
  have hd5_8 : q5 ≠ q8 := fun e => hq8 (by rw [← e]; simp)
  have hd6_8 : q6 ≠ q8 := fun e => hq8 (by rw [← e]; simp)
  have hnd := nd_push hnd hq8
  show gW X vwCl 1 [o, q2, q3, q5, q6, q8] (va_up f6 q8 (.inl (cy 2, 600, .inl (fun _ => 0)))) 5 680620 42 [(0, .ref o)] [.ref q8, .ref o]
  refine g_putF (T := TX10) (N := 26) (ci := 7) (C := RX10) (fs := [.int 0, .int 0, .ref q2, .ref q3, .int 0, .ref q5, .ref q6, .int 0, .null, .null, .int 0, .null, .null, .int 0, .null, .null, .null, .null, .null, .null, .null, .int 0, .null, .long 0, .int 0, .null]) hC hin tyX10 tyX10_ok nmX10 rfl (by simp) (up_keep ho6 hoq8) 8 (by decide) (by decide +kernel) (Or.inl rfl) rfl hn9 rfl (ty := .array .int) (by decide +kernel) rfl rfl (Nat.le_of_ble_eq_true rfl) dX10_init_42 ?_
  obtain ⟨f8, hg8⟩ : ∃ z, z = (va_up (va_up f6 q8 (.inl (cy 2, 600, .inl (fun _ => 0)))) o (.inr (7, [.int 0, .int 0, .ref q2, .ref q3, .int 0, .ref q5, .ref q6, .int 0, .ref q8, .null, .int 0, .null, .null, .int 0, .null, .null, .null, .null, .null, .null, .null, .int 0, .null, .long 0, .int 0, .null]))) := ⟨_, rfl⟩
  have hW9 : gW X vwCl 1 [o, q2, q3, q5, q6, q8] f8 5 680620 45 [(0, .ref o)] [] → gW X vwCl 1 [o, q2, q3, q5, q6, q8] (va_up (va_up f6 q8 (.inl (cy 2, 600, .inl (fun _ => 0)))) o (.inr (7, [.int 0, .int 0, .ref q2, .ref q3, .int 0, .ref q5, .ref q6, .int 0, .ref q8, .null, .int 0, .null, .null, .int 0, .null, .null, .null, .null, .null, .null, .null, .int 0, .null, .long 0, .int 0, .null]))) 5 680620 45 [(0, .ref o)] [] := fun z => by rw [← hg8]; exact z
  refine hW9 ?_
  have ho8 : f8 o = .inr (7, [.int 0, .int 0, .ref q2, .ref q3, .int 0, .ref q5, .ref q6, .int 0, .ref q8, .null, .int 0, .null, .null, .int 0, .null, .null, .null, .null, .null, .null, .null, .int 0, .null, .long 0, .int 0, .null]) := by rw [hg8, va_up_self]
  have hh2_8 : f8 q2 = .inl (cy 2, 10, .inl (fun _ => 0)) := by rw [hg8]; exact up_keep (up_keep hh2_6 hd2_8) (Ne.symm hoq2)
  have hh3_8 : f8 q3 = .inl (cy 2, 10, .inl (fun _ => 0)) := by rw [hg8]; exact up_keep (up_keep hh3_6 hd3_8) (Ne.symm hoq3)
  have hh5_8 : f8 q5 = .inl (cy 2, 40000, .inl (fun _ => 0)) := by rw [hg8]; exact up_keep (up_keep hh5_6 hd5_8) (Ne.symm hoq5)
  have hh6_8 : f8 q6 = .inl (cy 2, 640000, .inl (fun _ => 0)) := by rw [hg8]; exact up_keep (up_keep hh6_6 hd6_8) (Ne.symm hoq6)
  have hh8_8 : f8 q8 = .inl (cy 2, 600, .inl (fun _ => 0)) := by rw [hg8]; exact up_keep (va_up_self _ _ _) (Ne.symm hoq8)
  refine g_aload_n hC dX10_init_45 rfl 0 rfl (Or.inr ⟨_, rfl⟩) ?_
  refine g_sipush hC dX10_init_46 (v := nI 9600) (by decide) ?_
  refine g_newa (a0 := (9600, .inl (fun _ => 0))) hC 2 rfl (by decide +kernel) rfl (fun _ => rfl) rfl (by decide) (by decide) (Nat.le_of_ble_eq_true rfl) (Nat.le_of_ble_eq_true rfl) dX10_init_49 (fun q9 hq9 => ?_)
  have hoq9 : o ≠ q9 := fun e => hq9 (by rw [← e]; simp)
  have hd2_9 : q2 ≠ q9 := fun e => hq9 (by rw [← e]; simp)
  have hd3_9 : q3 ≠ q9 := fun e => hq9 (by rw [← e]; simp)
  have hd5_9 : q5 ≠ q9 := fun e => hq9 (by rw [← e]; simp)
  have hd6_9 : q6 ≠ q9 := fun e => hq9 (by rw [← e]; simp)
  have hd8_9 : q8 ≠ q9 := fun e => hq9 (by rw [← e]; simp)
  have hnd := nd_push hnd hq9
  show gW X vwCl 1 [o, q2, q3, q5, q6, q8, q9] (va_up f8 q9 (.inl (cy 2, 9600, .inl (fun _ => 0)))) 6 690220 51 [(0, .ref o)] [.ref q9, .ref o]
  refine g_putF (T := TX10) (N := 26) (ci := 7) (C := RX10) (fs := [.int 0, .int 0, .ref q2, .ref q3, .int 0, .ref q5, .ref q6, .int 0, .ref q8, .null, .int 0, .null, .null, .int 0, .null, .null, .null, .null, .null, .null, .null, .int 0, .null, .long 0, .int 0, .null]) hC hin tyX10 tyX10_ok nmX10 rfl (by simp) (up_keep ho8 hoq9) 9 (by decide) (by decide +kernel) (Or.inl rfl) rfl hn9 rfl (ty := .array .int) (by decide +kernel) rfl rfl (Nat.le_of_ble_eq_true rfl) dX10_init_51 ?_
  obtain ⟨f9, hg9⟩ : ∃ z, z = (va_up (va_up f8 q9 (.inl (cy 2, 9600, .inl (fun _ => 0)))) o (.inr (7, [.int 0, .int 0, .ref q2, .ref q3, .int 0, .ref q5, .ref q6, .int 0, .ref q8, .ref q9, .int 0, .null, .null, .int 0, .null, .null, .null, .null, .null, .null, .null, .int 0, .null, .long 0, .int 0, .null]))) := ⟨_, rfl⟩
  have hW9 : gW X vwCl 1 [o, q2, q3, q5, q6, q8, q9] f9 6 690220 54 [(0, .ref o)] [] → gW X vwCl 1 [o, q2, q3, q5, q6, q8, q9] (va_up (va_up f8 q9 (.inl (cy 2, 9600, .inl (fun _ => 0)))) o (.inr (7, [.int 0, .int 0, .ref q2, .ref q3, .int 0, .ref q5, .ref q6, .int 0, .ref q8, .ref q9, .int 0, .null, .null, .int 0, .null, .null, .null, .null, .null, .null, .null, .int 0, .null, .long 0, .int 0, .null]))) 6 690220 54 [(0, .ref o)] [] := fun z => by rw [← hg9]; exact z
  refine hW9 ?_
  have ho9 : f9 o = .inr (7, [.int 0, .int 0, .ref q2, .ref q3, .int 0, .ref q5, .ref q6, .int 0, .ref q8, .ref q9, .int 0, .null, .null, .int 0, .null, .null, .null, .null, .null, .null, .null, .int 0, .null, .long 0, .int 0, .null]) := by rw [hg9, va_up_self]
  have hh2_9 : f9 q2 = .inl (cy 2, 10, .inl (fun _ => 0)) := by rw [hg9]; exact up_keep (up_keep hh2_8 hd2_9) (Ne.symm hoq2)
  have hh3_9 : f9 q3 = .inl (cy 2, 10, .inl (fun _ => 0)) := by rw [hg9]; exact up_keep (up_keep hh3_8 hd3_9) (Ne.symm hoq3)
  have hh5_9 : f9 q5 = .inl (cy 2, 40000, .inl (fun _ => 0)) := by rw [hg9]; exact up_keep (up_keep hh5_8 hd5_9) (Ne.symm hoq5)
  have hh6_9 : f9 q6 = .inl (cy 2, 640000, .inl (fun _ => 0)) := by rw [hg9]; exact up_keep (up_keep hh6_8 hd6_9) (Ne.symm hoq6)
  have hh8_9 : f9 q8 = .inl (cy 2, 600, .inl (fun _ => 0)) := by rw [hg9]; exact up_keep (up_keep hh8_8 hd8_9) (Ne.symm hoq8)
  have hh9_9 : f9 q9 = .inl (cy 2, 9600, .inl (fun _ => 0)) := by rw [hg9]; exact up_keep (va_up_self _ _ _) (Ne.symm hoq9)
  refine g_aload_n hC dX10_init_54 rfl 0 rfl (Or.inr ⟨_, rfl⟩) ?_
  refine g_sipush hC dX10_init_55 (v := nI 600) (by decide) ?_
  refine g_newa (a0 := (600, .inl (fun _ => 0))) hC 2 rfl (by decide +kernel) rfl (fun _ => rfl) rfl (by decide) (by decide) (Nat.le_of_ble_eq_true rfl) (Nat.le_of_ble_eq_true rfl) dX10_init_58 (fun q11 hq11 => ?_)
  have hoq11 : o ≠ q11 := fun e => hq11 (by rw [← e]; simp)
  have hd2_11 : q2 ≠ q11 := fun e => hq11 (by rw [← e]; simp)
  have hd3_11 : q3 ≠ q11 := fun e => hq11 (by rw [← e]; simp)
  have hd5_11 : q5 ≠ q11 := fun e => hq11 (by rw [← e]; simp)
  have hd6_11 : q6 ≠ q11 := fun e => hq11 (by rw [← e]; simp)
  have hd8_11 : q8 ≠ q11 := fun e => hq11 (by rw [← e]; simp)
  have hd9_11 : q9 ≠ q11 := fun e => hq11 (by rw [← e]; simp)
  have hnd := nd_push hnd hq11
  show gW X vwCl 1 [o, q2, q3, q5, q6, q8, q9, q11] (va_up f9 q11 (.inl (cy 2, 600, .inl (fun _ => 0)))) 7 690820 60 [(0, .ref o)] [.ref q11, .ref o]
  refine g_putF (T := TX10) (N := 26) (ci := 7) (C := RX10) (fs := [.int 0, .int 0, .ref q2, .ref q3, .int 0, .ref q5, .ref q6, .int 0, .ref q8, .ref q9, .int 0, .null, .null, .int 0, .null, .null, .null, .null, .null, .null, .null, .int 0, .null, .long 0, .int 0, .null]) hC hin tyX10 tyX10_ok nmX10 rfl (by simp) (up_keep ho9 hoq11) 11 (by decide) (by decide +kernel) (Or.inl rfl) rfl hn9 rfl (ty := .array .int) (by decide +kernel) rfl rfl (Nat.le_of_ble_eq_true rfl) dX10_init_60 ?_
  obtain ⟨f11, hg11⟩ : ∃ z, z = (va_up (va_up f9 q11 (.inl (cy 2, 600, .inl (fun _ => 0)))) o (.inr (7, [.int 0, .int 0, .ref q2, .ref q3, .int 0, .ref q5, .ref q6, .int 0, .ref q8, .ref q9, .int 0, .ref q11, .null, .int 0, .null, .null, .null, .null, .null, .null, .null, .int 0, .null, .long 0, .int 0, .null]))) := ⟨_, rfl⟩
  have hW9 : gW X vwCl 1 [o, q2, q3, q5, q6, q8, q9, q11] f11 7 690820 63 [(0, .ref o)] [] → gW X vwCl 1 [o, q2, q3, q5, q6, q8, q9, q11] (va_up (va_up f9 q11 (.inl (cy 2, 600, .inl (fun _ => 0)))) o (.inr (7, [.int 0, .int 0, .ref q2, .ref q3, .int 0, .ref q5, .ref q6, .int 0, .ref q8, .ref q9, .int 0, .ref q11, .null, .int 0, .null, .null, .null, .null, .null, .null, .null, .int 0, .null, .long 0, .int 0, .null]))) 7 690820 63 [(0, .ref o)] [] := fun z => by rw [← hg11]; exact z
  refine hW9 ?_
  have ho11 : f11 o = .inr (7, [.int 0, .int 0, .ref q2, .ref q3, .int 0, .ref q5, .ref q6, .int 0, .ref q8, .ref q9, .int 0, .ref q11, .null, .int 0, .null, .null, .null, .null, .null, .null, .null, .int 0, .null, .long 0, .int 0, .null]) := by rw [hg11, va_up_self]
  have hh2_11 : f11 q2 = .inl (cy 2, 10, .inl (fun _ => 0)) := by rw [hg11]; exact up_keep (up_keep hh2_9 hd2_11) (Ne.symm hoq2)
  have hh3_11 : f11 q3 = .inl (cy 2, 10, .inl (fun _ => 0)) := by rw [hg11]; exact up_keep (up_keep hh3_9 hd3_11) (Ne.symm hoq3)
  have hh5_11 : f11 q5 = .inl (cy 2, 40000, .inl (fun _ => 0)) := by rw [hg11]; exact up_keep (up_keep hh5_9 hd5_11) (Ne.symm hoq5)
  have hh6_11 : f11 q6 = .inl (cy 2, 640000, .inl (fun _ => 0)) := by rw [hg11]; exact up_keep (up_keep hh6_9 hd6_11) (Ne.symm hoq6)
  have hh8_11 : f11 q8 = .inl (cy 2, 600, .inl (fun _ => 0)) := by rw [hg11]; exact up_keep (up_keep hh8_9 hd8_11) (Ne.symm hoq8)
  have hh9_11 : f11 q9 = .inl (cy 2, 9600, .inl (fun _ => 0)) := by rw [hg11]; exact up_keep (up_keep hh9_9 hd9_11) (Ne.symm hoq9)
  have hh11_11 : f11 q11 = .inl (cy 2, 600, .inl (fun _ => 0)) := by rw [hg11]; exact up_keep (va_up_self _ _ _) (Ne.symm hoq11)
  refine g_aload_n hC dX10_init_63 rfl 0 rfl (Or.inr ⟨_, rfl⟩) ?_
  refine g_sipush hC dX10_init_64 (v := nI 9600) (by decide) ?_
  refine g_newa (a0 := (9600, .inl (fun _ => 0))) hC 2 rfl (by decide +kernel) rfl (fun _ => rfl) rfl (by decide) (by decide) (Nat.le_of_ble_eq_true rfl) (Nat.le_of_ble_eq_true rfl) dX10_init_67 (fun q12 hq12 => ?_)
  have hoq12 : o ≠ q12 := fun e => hq12 (by rw [← e]; simp)
  have hd2_12 : q2 ≠ q12 := fun e => hq12 (by rw [← e]; simp)
  have hd3_12 : q3 ≠ q12 := fun e => hq12 (by rw [← e]; simp)
  have hd5_12 : q5 ≠ q12 := fun e => hq12 (by rw [← e]; simp)
  have hd6_12 : q6 ≠ q12 := fun e => hq12 (by rw [← e]; simp)
  have hd8_12 : q8 ≠ q12 := fun e => hq12 (by rw [← e]; simp)
  have hd9_12 : q9 ≠ q12 := fun e => hq12 (by rw [← e]; simp)
  have hd11_12 : q11 ≠ q12 := fun e => hq12 (by rw [← e]; simp)
  have hnd := nd_push hnd hq12
  show gW X vwCl 1 [o, q2, q3, q5, q6, q8, q9, q11, q12] (va_up f11 q12 (.inl (cy 2, 9600, .inl (fun _ => 0)))) 8 700420 69 [(0, .ref o)] [.ref q12, .ref o]
  refine g_putF (T := TX10) (N := 26) (ci := 7) (C := RX10) (fs := [.int 0, .int 0, .ref q2, .ref q3, .int 0, .ref q5, .ref q6, .int 0, .ref q8, .ref q9, .int 0, .ref q11, .null, .int 0, .null, .null, .null, .null, .null, .null, .null, .int 0, .null, .long 0, .int 0, .null]) hC hin tyX10 tyX10_ok nmX10 rfl (by simp) (up_keep ho11 hoq12) 12 (by decide) (by decide +kernel) (Or.inl rfl) rfl hn9 rfl (ty := .array .int) (by decide +kernel) rfl rfl (Nat.le_of_ble_eq_true rfl) dX10_init_69 ?_
  obtain ⟨f12, hg12⟩ : ∃ z, z = (va_up (va_up f11 q12 (.inl (cy 2, 9600, .inl (fun _ => 0)))) o (.inr (7, [.int 0, .int 0, .ref q2, .ref q3, .int 0, .ref q5, .ref q6, .int 0, .ref q8, .ref q9, .int 0, .ref q11, .ref q12, .int 0, .null, .null, .null, .null, .null, .null, .null, .int 0, .null, .long 0, .int 0, .null]))) := ⟨_, rfl⟩
  have hW9 : gW X vwCl 1 [o, q2, q3, q5, q6, q8, q9, q11, q12] f12 8 700420 72 [(0, .ref o)] [] → gW X vwCl 1 [o, q2, q3, q5, q6, q8, q9, q11, q12] (va_up (va_up f11 q12 (.inl (cy 2, 9600, .inl (fun _ => 0)))) o (.inr (7, [.int 0, .int 0, .ref q2, .ref q3, .int 0, .ref q5, .ref q6, .int 0, .ref q8, .ref q9, .int 0, .ref q11, .ref q12, .int 0, .null, .null, .null, .null, .null, .null, .null, .int 0, .null, .long 0, .int 0, .null]))) 8 700420 72 [(0, .ref o)] [] := fun z => by rw [← hg12]; exact z
  refine hW9 ?_
  have ho12 : f12 o = .inr (7, [.int 0, .int 0, .ref q2, .ref q3, .int 0, .ref q5, .ref q6, .int 0, .ref q8, .ref q9, .int 0, .ref q11, .ref q12, .int 0, .null, .null, .null, .null, .null, .null, .null, .int 0, .null, .long 0, .int 0, .null]) := by rw [hg12, va_up_self]
  have hh2_12 : f12 q2 = .inl (cy 2, 10, .inl (fun _ => 0)) := by rw [hg12]; exact up_keep (up_keep hh2_11 hd2_12) (Ne.symm hoq2)
  have hh3_12 : f12 q3 = .inl (cy 2, 10, .inl (fun _ => 0)) := by rw [hg12]; exact up_keep (up_keep hh3_11 hd3_12) (Ne.symm hoq3)
  have hh5_12 : f12 q5 = .inl (cy 2, 40000, .inl (fun _ => 0)) := by rw [hg12]; exact up_keep (up_keep hh5_11 hd5_12) (Ne.symm hoq5)
  have hh6_12 : f12 q6 = .inl (cy 2, 640000, .inl (fun _ => 0)) := by rw [hg12]; exact up_keep (up_keep hh6_11 hd6_12) (Ne.symm hoq6)
  have hh8_12 : f12 q8 = .inl (cy 2, 600, .inl (fun _ => 0)) := by rw [hg12]; exact up_keep (up_keep hh8_11 hd8_12) (Ne.symm hoq8)
  have hh9_12 : f12 q9 = .inl (cy 2, 9600, .inl (fun _ => 0)) := by rw [hg12]; exact up_keep (up_keep hh9_11 hd9_12) (Ne.symm hoq9)
  have hh11_12 : f12 q11 = .inl (cy 2, 600, .inl (fun _ => 0)) := by rw [hg12]; exact up_keep (up_keep hh11_11 hd11_12) (Ne.symm hoq11)
  have hh12_12 : f12 q12 = .inl (cy 2, 9600, .inl (fun _ => 0)) := by rw [hg12]; exact up_keep (va_up_self _ _ _) (Ne.symm hoq12)
  refine g_aload_n hC dX10_init_72 rfl 0 rfl (Or.inr ⟨_, rfl⟩) ?_
  refine g_sipush hC dX10_init_73 (v := nI 520) (by decide) ?_
  refine g_newa (a0 := (520, .inl (fun _ => 0))) hC 3 rfl (by decide +kernel) rfl (fun _ => rfl) rfl (by decide) (by decide) (Nat.le_of_ble_eq_true rfl) (Nat.le_of_ble_eq_true rfl) dX10_init_76 (fun q14 hq14 => ?_)
  have hoq14 : o ≠ q14 := fun e => hq14 (by rw [← e]; simp)
  have hd2_14 : q2 ≠ q14 := fun e => hq14 (by rw [← e]; simp)
  have hd3_14 : q3 ≠ q14 := fun e => hq14 (by rw [← e]; simp)
  have hd5_14 : q5 ≠ q14 := fun e => hq14 (by rw [← e]; simp)
  have hd6_14 : q6 ≠ q14 := fun e => hq14 (by rw [← e]; simp)
  have hd8_14 : q8 ≠ q14 := fun e => hq14 (by rw [← e]; simp)
  have hd9_14 : q9 ≠ q14 := fun e => hq14 (by rw [← e]; simp)
  have hd11_14 : q11 ≠ q14 := fun e => hq14 (by rw [← e]; simp)
  have hd12_14 : q12 ≠ q14 := fun e => hq14 (by rw [← e]; simp)
  have hnd := nd_push hnd hq14
  show gW X vwCl 1 [o, q2, q3, q5, q6, q8, q9, q11, q12, q14] (va_up f12 q14 (.inl (cy 3, 520, .inl (fun _ => 0)))) 9 700940 78 [(0, .ref o)] [.ref q14, .ref o]
  refine g_putF (T := TX10) (N := 26) (ci := 7) (C := RX10) (fs := [.int 0, .int 0, .ref q2, .ref q3, .int 0, .ref q5, .ref q6, .int 0, .ref q8, .ref q9, .int 0, .ref q11, .ref q12, .int 0, .null, .null, .null, .null, .null, .null, .null, .int 0, .null, .long 0, .int 0, .null]) hC hin tyX10 tyX10_ok nmX10 rfl (by simp) (up_keep ho12 hoq14) 14 (by decide) (by decide +kernel) (Or.inl rfl) rfl hn9 rfl (ty := .array .boolean) (by decide +kernel) rfl rfl (Nat.le_of_ble_eq_true rfl) dX10_init_78 ?_
  obtain ⟨f14, hg14⟩ : ∃ z, z = (va_up (va_up f12 q14 (.inl (cy 3, 520, .inl (fun _ => 0)))) o (.inr (7, [.int 0, .int 0, .ref q2, .ref q3, .int 0, .ref q5, .ref q6, .int 0, .ref q8, .ref q9, .int 0, .ref q11, .ref q12, .int 0, .ref q14, .null, .null, .null, .null, .null, .null, .int 0, .null, .long 0, .int 0, .null]))) := ⟨_, rfl⟩
  have hW9 : gW X vwCl 1 [o, q2, q3, q5, q6, q8, q9, q11, q12, q14] f14 9 700940 81 [(0, .ref o)] [] → gW X vwCl 1 [o, q2, q3, q5, q6, q8, q9, q11, q12, q14] (va_up (va_up f12 q14 (.inl (cy 3, 520, .inl (fun _ => 0)))) o (.inr (7, [.int 0, .int 0, .ref q2, .ref q3, .int 0, .ref q5, .ref q6, .int 0, .ref q8, .ref q9, .int 0, .ref q11, .ref q12, .int 0, .ref q14, .null, .null, .null, .null, .null, .null, .int 0, .null, .long 0, .int 0, .null]))) 9 700940 81 [(0, .ref o)] [] := fun z => by rw [← hg14]; exact z
  refine hW9 ?_
  have ho14 : f14 o = .inr (7, [.int 0, .int 0, .ref q2, .ref q3, .int 0, .ref q5, .ref q6, .int 0, .ref q8, .ref q9, .int 0, .ref q11, .ref q12, .int 0, .ref q14, .null, .null, .null, .null, .null, .null, .int 0, .null, .long 0, .int 0, .null]) := by rw [hg14, va_up_self]
  have hh2_14 : f14 q2 = .inl (cy 2, 10, .inl (fun _ => 0)) := by rw [hg14]; exact up_keep (up_keep hh2_12 hd2_14) (Ne.symm hoq2)
  have hh3_14 : f14 q3 = .inl (cy 2, 10, .inl (fun _ => 0)) := by rw [hg14]; exact up_keep (up_keep hh3_12 hd3_14) (Ne.symm hoq3)
  have hh5_14 : f14 q5 = .inl (cy 2, 40000, .inl (fun _ => 0)) := by rw [hg14]; exact up_keep (up_keep hh5_12 hd5_14) (Ne.symm hoq5)
  have hh6_14 : f14 q6 = .inl (cy 2, 640000, .inl (fun _ => 0)) := by rw [hg14]; exact up_keep (up_keep hh6_12 hd6_14) (Ne.symm hoq6)
  have hh8_14 : f14 q8 = .inl (cy 2, 600, .inl (fun _ => 0)) := by rw [hg14]; exact up_keep (up_keep hh8_12 hd8_14) (Ne.symm hoq8)
  have hh9_14 : f14 q9 = .inl (cy 2, 9600, .inl (fun _ => 0)) := by rw [hg14]; exact up_keep (up_keep hh9_12 hd9_14) (Ne.symm hoq9)
  have hh11_14 : f14 q11 = .inl (cy 2, 600, .inl (fun _ => 0)) := by rw [hg14]; exact up_keep (up_keep hh11_12 hd11_14) (Ne.symm hoq11)
  have hh12_14 : f14 q12 = .inl (cy 2, 9600, .inl (fun _ => 0)) := by rw [hg14]; exact up_keep (up_keep hh12_12 hd12_14) (Ne.symm hoq12)
  have hh14_14 : f14 q14 = .inl (cy 3, 520, .inl (fun _ => 0)) := by rw [hg14]; exact up_keep (va_up_self _ _ _) (Ne.symm hoq14)
  refine g_aload_n hC dX10_init_81 rfl 0 rfl (Or.inr ⟨_, rfl⟩) ?_
  refine g_sipush hC dX10_init_82 (v := nI 520) (by decide) ?_
  refine g_newa (a0 := (520, .inl (fun _ => 0))) hC 2 rfl (by decide +kernel) rfl (fun _ => rfl) rfl (by decide) (by decide) (Nat.le_of_ble_eq_true rfl) (Nat.le_of_ble_eq_true rfl) dX10_init_85 (fun q15 hq15 => ?_)
  have hoq15 : o ≠ q15 := fun e => hq15 (by rw [← e]; simp)
  have hd2_15 : q2 ≠ q15 := fun e => hq15 (by rw [← e]; simp)
  have hd3_15 : q3 ≠ q15 := fun e => hq15 (by rw [← e]; simp)
  have hd5_15 : q5 ≠ q15 := fun e => hq15 (by rw [← e]; simp)
  have hd6_15 : q6 ≠ q15 := fun e => hq15 (by rw [← e]; simp)
  have hd8_15 : q8 ≠ q15 := fun e => hq15 (by rw [← e]; simp)
  have hd9_15 : q9 ≠ q15 := fun e => hq15 (by rw [← e]; simp)
  have hd11_15 : q11 ≠ q15 := fun e => hq15 (by rw [← e]; simp)
  have hd12_15 : q12 ≠ q15 := fun e => hq15 (by rw [← e]; simp)
  have hd14_15 : q14 ≠ q15 := fun e => hq15 (by rw [← e]; simp)
  have hnd := nd_push hnd hq15
  show gW X vwCl 1 [o, q2, q3, q5, q6, q8, q9, q11, q12, q14, q15] (va_up f14 q15 (.inl (cy 2, 520, .inl (fun _ => 0)))) 10 701460 87 [(0, .ref o)] [.ref q15, .ref o]
  refine g_putF (T := TX10) (N := 26) (ci := 7) (C := RX10) (fs := [.int 0, .int 0, .ref q2, .ref q3, .int 0, .ref q5, .ref q6, .int 0, .ref q8, .ref q9, .int 0, .ref q11, .ref q12, .int 0, .ref q14, .null, .null, .null, .null, .null, .null, .int 0, .null, .long 0, .int 0, .null]) hC hin tyX10 tyX10_ok nmX10 rfl (by simp) (up_keep ho14 hoq15) 15 (by decide) (by decide +kernel) (Or.inl rfl) rfl hn9 rfl (ty := .array .int) (by decide +kernel) rfl rfl (Nat.le_of_ble_eq_true rfl) dX10_init_87 ?_
  obtain ⟨f15, hg15⟩ : ∃ z, z = (va_up (va_up f14 q15 (.inl (cy 2, 520, .inl (fun _ => 0)))) o (.inr (7, [.int 0, .int 0, .ref q2, .ref q3, .int 0, .ref q5, .ref q6, .int 0, .ref q8, .ref q9, .int 0, .ref q11, .ref q12, .int 0, .ref q14, .ref q15, .null, .null, .null, .null, .null, .int 0, .null, .long 0, .int 0, .null]))) := ⟨_, rfl⟩
  have hW9 : gW X vwCl 1 [o, q2, q3, q5, q6, q8, q9, q11, q12, q14, q15] f15 10 701460 90 [(0, .ref o)] [] → gW X vwCl 1 [o, q2, q3, q5, q6, q8, q9, q11, q12, q14, q15] (va_up (va_up f14 q15 (.inl (cy 2, 520, .inl (fun _ => 0)))) o (.inr (7, [.int 0, .int 0, .ref q2, .ref q3, .int 0, .ref q5, .ref q6, .int 0, .ref q8, .ref q9, .int 0, .ref q11, .ref q12, .int 0, .ref q14, .ref q15, .null, .null, .null, .null, .null, .int 0, .null, .long 0, .int 0, .null]))) 10 701460 90 [(0, .ref o)] [] := fun z => by rw [← hg15]; exact z
  refine hW9 ?_
  have ho15 : f15 o = .inr (7, [.int 0, .int 0, .ref q2, .ref q3, .int 0, .ref q5, .ref q6, .int 0, .ref q8, .ref q9, .int 0, .ref q11, .ref q12, .int 0, .ref q14, .ref q15, .null, .null, .null, .null, .null, .int 0, .null, .long 0, .int 0, .null]) := by rw [hg15, va_up_self]
  have hh2_15 : f15 q2 = .inl (cy 2, 10, .inl (fun _ => 0)) := by rw [hg15]; exact up_keep (up_keep hh2_14 hd2_15) (Ne.symm hoq2)
  have hh3_15 : f15 q3 = .inl (cy 2, 10, .inl (fun _ => 0)) := by rw [hg15]; exact up_keep (up_keep hh3_14 hd3_15) (Ne.symm hoq3)
  have hh5_15 : f15 q5 = .inl (cy 2, 40000, .inl (fun _ => 0)) := by rw [hg15]; exact up_keep (up_keep hh5_14 hd5_15) (Ne.symm hoq5)
  have hh6_15 : f15 q6 = .inl (cy 2, 640000, .inl (fun _ => 0)) := by rw [hg15]; exact up_keep (up_keep hh6_14 hd6_15) (Ne.symm hoq6)
  have hh8_15 : f15 q8 = .inl (cy 2, 600, .inl (fun _ => 0)) := by rw [hg15]; exact up_keep (up_keep hh8_14 hd8_15) (Ne.symm hoq8)
  have hh9_15 : f15 q9 = .inl (cy 2, 9600, .inl (fun _ => 0)) := by rw [hg15]; exact up_keep (up_keep hh9_14 hd9_15) (Ne.symm hoq9)
  have hh11_15 : f15 q11 = .inl (cy 2, 600, .inl (fun _ => 0)) := by rw [hg15]; exact up_keep (up_keep hh11_14 hd11_15) (Ne.symm hoq11)
  have hh12_15 : f15 q12 = .inl (cy 2, 9600, .inl (fun _ => 0)) := by rw [hg15]; exact up_keep (up_keep hh12_14 hd12_15) (Ne.symm hoq12)
  have hh14_15 : f15 q14 = .inl (cy 3, 520, .inl (fun _ => 0)) := by rw [hg15]; exact up_keep (up_keep hh14_14 hd14_15) (Ne.symm hoq14)
  have hh15_15 : f15 q15 = .inl (cy 2, 520, .inl (fun _ => 0)) := by rw [hg15]; exact up_keep (va_up_self _ _ _) (Ne.symm hoq15)
  refine g_aload_n hC dX10_init_90 rfl 0 rfl (Or.inr ⟨_, rfl⟩) ?_
  refine g_sipush hC dX10_init_91 (v := nI 520) (by decide) ?_
  refine g_newa (a0 := (520, .inl (fun _ => 0))) hC 2 rfl (by decide +kernel) rfl (fun _ => rfl) rfl (by decide) (by decide) (Nat.le_of_ble_eq_true rfl) (Nat.le_of_ble_eq_true rfl) dX10_init_94 (fun q16 hq16 => ?_)
  have hoq16 : o ≠ q16 := fun e => hq16 (by rw [← e]; simp)
  have hd2_16 : q2 ≠ q16 := fun e => hq16 (by rw [← e]; simp)
  have hd3_16 : q3 ≠ q16 := fun e => hq16 (by rw [← e]; simp)
  have hd5_16 : q5 ≠ q16 := fun e => hq16 (by rw [← e]; simp)
  have hd6_16 : q6 ≠ q16 := fun e => hq16 (by rw [← e]; simp)
  have hd8_16 : q8 ≠ q16 := fun e => hq16 (by rw [← e]; simp)
  have hd9_16 : q9 ≠ q16 := fun e => hq16 (by rw [← e]; simp)
  have hd11_16 : q11 ≠ q16 := fun e => hq16 (by rw [← e]; simp)
  have hd12_16 : q12 ≠ q16 := fun e => hq16 (by rw [← e]; simp)
  have hd14_16 : q14 ≠ q16 := fun e => hq16 (by rw [← e]; simp)
  have hd15_16 : q15 ≠ q16 := fun e => hq16 (by rw [← e]; simp)
  have hnd := nd_push hnd hq16
  show gW X vwCl 1 [o, q2, q3, q5, q6, q8, q9, q11, q12, q14, q15, q16] (va_up f15 q16 (.inl (cy 2, 520, .inl (fun _ => 0)))) 11 701980 96 [(0, .ref o)] [.ref q16, .ref o]
  refine g_putF (T := TX10) (N := 26) (ci := 7) (C := RX10) (fs := [.int 0, .int 0, .ref q2, .ref q3, .int 0, .ref q5, .ref q6, .int 0, .ref q8, .ref q9, .int 0, .ref q11, .ref q12, .int 0, .ref q14, .ref q15, .null, .null, .null, .null, .null, .int 0, .null, .long 0, .int 0, .null]) hC hin tyX10 tyX10_ok nmX10 rfl (by simp) (up_keep ho15 hoq16) 16 (by decide) (by decide +kernel) (Or.inl rfl) rfl hn9 rfl (ty := .array .int) (by decide +kernel) rfl rfl (Nat.le_of_ble_eq_true rfl) dX10_init_96 ?_
  obtain ⟨f16, hg16⟩ : ∃ z, z = (va_up (va_up f15 q16 (.inl (cy 2, 520, .inl (fun _ => 0)))) o (.inr (7, [.int 0, .int 0, .ref q2, .ref q3, .int 0, .ref q5, .ref q6, .int 0, .ref q8, .ref q9, .int 0, .ref q11, .ref q12, .int 0, .ref q14, .ref q15, .ref q16, .null, .null, .null, .null, .int 0, .null, .long 0, .int 0, .null]))) := ⟨_, rfl⟩
  have hW9 : gW X vwCl 1 [o, q2, q3, q5, q6, q8, q9, q11, q12, q14, q15, q16] f16 11 701980 99 [(0, .ref o)] [] → gW X vwCl 1 [o, q2, q3, q5, q6, q8, q9, q11, q12, q14, q15, q16] (va_up (va_up f15 q16 (.inl (cy 2, 520, .inl (fun _ => 0)))) o (.inr (7, [.int 0, .int 0, .ref q2, .ref q3, .int 0, .ref q5, .ref q6, .int 0, .ref q8, .ref q9, .int 0, .ref q11, .ref q12, .int 0, .ref q14, .ref q15, .ref q16, .null, .null, .null, .null, .int 0, .null, .long 0, .int 0, .null]))) 11 701980 99 [(0, .ref o)] [] := fun z => by rw [← hg16]; exact z
  refine hW9 ?_
  have ho16 : f16 o = .inr (7, [.int 0, .int 0, .ref q2, .ref q3, .int 0, .ref q5, .ref q6, .int 0, .ref q8, .ref q9, .int 0, .ref q11, .ref q12, .int 0, .ref q14, .ref q15, .ref q16, .null, .null, .null, .null, .int 0, .null, .long 0, .int 0, .null]) := by rw [hg16, va_up_self]
  have hh2_16 : f16 q2 = .inl (cy 2, 10, .inl (fun _ => 0)) := by rw [hg16]; exact up_keep (up_keep hh2_15 hd2_16) (Ne.symm hoq2)
  have hh3_16 : f16 q3 = .inl (cy 2, 10, .inl (fun _ => 0)) := by rw [hg16]; exact up_keep (up_keep hh3_15 hd3_16) (Ne.symm hoq3)
  have hh5_16 : f16 q5 = .inl (cy 2, 40000, .inl (fun _ => 0)) := by rw [hg16]; exact up_keep (up_keep hh5_15 hd5_16) (Ne.symm hoq5)
  have hh6_16 : f16 q6 = .inl (cy 2, 640000, .inl (fun _ => 0)) := by rw [hg16]; exact up_keep (up_keep hh6_15 hd6_16) (Ne.symm hoq6)
  have hh8_16 : f16 q8 = .inl (cy 2, 600, .inl (fun _ => 0)) := by rw [hg16]; exact up_keep (up_keep hh8_15 hd8_16) (Ne.symm hoq8)
  have hh9_16 : f16 q9 = .inl (cy 2, 9600, .inl (fun _ => 0)) := by rw [hg16]; exact up_keep (up_keep hh9_15 hd9_16) (Ne.symm hoq9)
  have hh11_16 : f16 q11 = .inl (cy 2, 600, .inl (fun _ => 0)) := by rw [hg16]; exact up_keep (up_keep hh11_15 hd11_16) (Ne.symm hoq11)
  have hh12_16 : f16 q12 = .inl (cy 2, 9600, .inl (fun _ => 0)) := by rw [hg16]; exact up_keep (up_keep hh12_15 hd12_16) (Ne.symm hoq12)
  have hh14_16 : f16 q14 = .inl (cy 3, 520, .inl (fun _ => 0)) := by rw [hg16]; exact up_keep (up_keep hh14_15 hd14_16) (Ne.symm hoq14)
  have hh15_16 : f16 q15 = .inl (cy 2, 520, .inl (fun _ => 0)) := by rw [hg16]; exact up_keep (up_keep hh15_15 hd15_16) (Ne.symm hoq15)
  have hh16_16 : f16 q16 = .inl (cy 2, 520, .inl (fun _ => 0)) := by rw [hg16]; exact up_keep (va_up_self _ _ _) (Ne.symm hoq16)
  refine g_aload_n hC dX10_init_99 rfl 0 rfl (Or.inr ⟨_, rfl⟩) ?_
  refine g_sipush hC dX10_init_100 (v := nI 520) (by decide) ?_
  refine g_newa (a0 := (520, .inl (fun _ => 0))) hC 2 rfl (by decide +kernel) rfl (fun _ => rfl) rfl (by decide) (by decide) (Nat.le_of_ble_eq_true rfl) (Nat.le_of_ble_eq_true rfl) dX10_init_103 (fun q17 hq17 => ?_)
  have hoq17 : o ≠ q17 := fun e => hq17 (by rw [← e]; simp)
  have hd2_17 : q2 ≠ q17 := fun e => hq17 (by rw [← e]; simp)
  have hd3_17 : q3 ≠ q17 := fun e => hq17 (by rw [← e]; simp)
  have hd5_17 : q5 ≠ q17 := fun e => hq17 (by rw [← e]; simp)
  have hd6_17 : q6 ≠ q17 := fun e => hq17 (by rw [← e]; simp)
  have hd8_17 : q8 ≠ q17 := fun e => hq17 (by rw [← e]; simp)
  have hd9_17 : q9 ≠ q17 := fun e => hq17 (by rw [← e]; simp)
  have hd11_17 : q11 ≠ q17 := fun e => hq17 (by rw [← e]; simp)
  have hd12_17 : q12 ≠ q17 := fun e => hq17 (by rw [← e]; simp)
  have hd14_17 : q14 ≠ q17 := fun e => hq17 (by rw [← e]; simp)
  have hd15_17 : q15 ≠ q17 := fun e => hq17 (by rw [← e]; simp)
  have hd16_17 : q16 ≠ q17 := fun e => hq17 (by rw [← e]; simp)
  have hnd := nd_push hnd hq17
  show gW X vwCl 1 [o, q2, q3, q5, q6, q8, q9, q11, q12, q14, q15, q16, q17] (va_up f16 q17 (.inl (cy 2, 520, .inl (fun _ => 0)))) 12 702500 105 [(0, .ref o)] [.ref q17, .ref o]
  refine g_putF (T := TX10) (N := 26) (ci := 7) (C := RX10) (fs := [.int 0, .int 0, .ref q2, .ref q3, .int 0, .ref q5, .ref q6, .int 0, .ref q8, .ref q9, .int 0, .ref q11, .ref q12, .int 0, .ref q14, .ref q15, .ref q16, .null, .null, .null, .null, .int 0, .null, .long 0, .int 0, .null]) hC hin tyX10 tyX10_ok nmX10 rfl (by simp) (up_keep ho16 hoq17) 17 (by decide) (by decide +kernel) (Or.inl rfl) rfl hn9 rfl (ty := .array .int) (by decide +kernel) rfl rfl (Nat.le_of_ble_eq_true rfl) dX10_init_105 ?_
  obtain ⟨f17, hg17⟩ : ∃ z, z = (va_up (va_up f16 q17 (.inl (cy 2, 520, .inl (fun _ => 0)))) o (.inr (7, [.int 0, .int 0, .ref q2, .ref q3, .int 0, .ref q5, .ref q6, .int 0, .ref q8, .ref q9, .int 0, .ref q11, .ref q12, .int 0, .ref q14, .ref q15, .ref q16, .ref q17, .null, .null, .null, .int 0, .null, .long 0, .int 0, .null]))) := ⟨_, rfl⟩
  have hW9 : gW X vwCl 1 [o, q2, q3, q5, q6, q8, q9, q11, q12, q14, q15, q16, q17] f17 12 702500 108 [(0, .ref o)] [] → gW X vwCl 1 [o, q2, q3, q5, q6, q8, q9, q11, q12, q14, q15, q16, q17] (va_up (va_up f16 q17 (.inl (cy 2, 520, .inl (fun _ => 0)))) o (.inr (7, [.int 0, .int 0, .ref q2, .ref q3, .int 0, .ref q5, .ref q6, .int 0, .ref q8, .ref q9, .int 0, .ref q11, .ref q12, .int 0, .ref q14, .ref q15, .ref q16, .ref q17, .null, .null, .null, .int 0, .null, .long 0, .int 0, .null]))) 12 702500 108 [(0, .ref o)] [] := fun z => by rw [← hg17]; exact z
  refine hW9 ?_
  have ho17 : f17 o = .inr (7, [.int 0, .int 0, .ref q2, .ref q3, .int 0, .ref q5, .ref q6, .int 0, .ref q8, .ref q9, .int 0, .ref q11, .ref q12, .int 0, .ref q14, .ref q15, .ref q16, .ref q17, .null, .null, .null, .int 0, .null, .long 0, .int 0, .null]) := by rw [hg17, va_up_self]
  have hh2_17 : f17 q2 = .inl (cy 2, 10, .inl (fun _ => 0)) := by rw [hg17]; exact up_keep (up_keep hh2_16 hd2_17) (Ne.symm hoq2)
  have hh3_17 : f17 q3 = .inl (cy 2, 10, .inl (fun _ => 0)) := by rw [hg17]; exact up_keep (up_keep hh3_16 hd3_17) (Ne.symm hoq3)
  have hh5_17 : f17 q5 = .inl (cy 2, 40000, .inl (fun _ => 0)) := by rw [hg17]; exact up_keep (up_keep hh5_16 hd5_17) (Ne.symm hoq5)
  have hh6_17 : f17 q6 = .inl (cy 2, 640000, .inl (fun _ => 0)) := by rw [hg17]; exact up_keep (up_keep hh6_16 hd6_17) (Ne.symm hoq6)
  have hh8_17 : f17 q8 = .inl (cy 2, 600, .inl (fun _ => 0)) := by rw [hg17]; exact up_keep (up_keep hh8_16 hd8_17) (Ne.symm hoq8)
  have hh9_17 : f17 q9 = .inl (cy 2, 9600, .inl (fun _ => 0)) := by rw [hg17]; exact up_keep (up_keep hh9_16 hd9_17) (Ne.symm hoq9)
  have hh11_17 : f17 q11 = .inl (cy 2, 600, .inl (fun _ => 0)) := by rw [hg17]; exact up_keep (up_keep hh11_16 hd11_17) (Ne.symm hoq11)
  have hh12_17 : f17 q12 = .inl (cy 2, 9600, .inl (fun _ => 0)) := by rw [hg17]; exact up_keep (up_keep hh12_16 hd12_17) (Ne.symm hoq12)
  have hh14_17 : f17 q14 = .inl (cy 3, 520, .inl (fun _ => 0)) := by rw [hg17]; exact up_keep (up_keep hh14_16 hd14_17) (Ne.symm hoq14)
  have hh15_17 : f17 q15 = .inl (cy 2, 520, .inl (fun _ => 0)) := by rw [hg17]; exact up_keep (up_keep hh15_16 hd15_17) (Ne.symm hoq15)
  have hh16_17 : f17 q16 = .inl (cy 2, 520, .inl (fun _ => 0)) := by rw [hg17]; exact up_keep (up_keep hh16_16 hd16_17) (Ne.symm hoq16)
  have hh17_17 : f17 q17 = .inl (cy 2, 520, .inl (fun _ => 0)) := by rw [hg17]; exact up_keep (va_up_self _ _ _) (Ne.symm hoq17)
  refine g_aload_n hC dX10_init_108 rfl 0 rfl (Or.inr ⟨_, rfl⟩) ?_
  refine g_sipush hC dX10_init_109 (v := nI 520) (by decide) ?_
  refine g_newa (a0 := (520, .inl (fun _ => 0))) hC 2 rfl (by decide +kernel) rfl (fun _ => rfl) rfl (by decide) (by decide) (Nat.le_of_ble_eq_true rfl) (Nat.le_of_ble_eq_true rfl) dX10_init_112 (fun q18 hq18 => ?_)
  have hoq18 : o ≠ q18 := fun e => hq18 (by rw [← e]; simp)
  have hd2_18 : q2 ≠ q18 := fun e => hq18 (by rw [← e]; simp)
  have hd3_18 : q3 ≠ q18 := fun e => hq18 (by rw [← e]; simp)
  have hd5_18 : q5 ≠ q18 := fun e => hq18 (by rw [← e]; simp)
  have hd6_18 : q6 ≠ q18 := fun e => hq18 (by rw [← e]; simp)
  have hd8_18 : q8 ≠ q18 := fun e => hq18 (by rw [← e]; simp)
  have hd9_18 : q9 ≠ q18 := fun e => hq18 (by rw [← e]; simp)
  have hd11_18 : q11 ≠ q18 := fun e => hq18 (by rw [← e]; simp)
  have hd12_18 : q12 ≠ q18 := fun e => hq18 (by rw [← e]; simp)
  have hd14_18 : q14 ≠ q18 := fun e => hq18 (by rw [← e]; simp)
  have hd15_18 : q15 ≠ q18 := fun e => hq18 (by rw [← e]; simp)
  have hd16_18 : q16 ≠ q18 := fun e => hq18 (by rw [← e]; simp)
  have hd17_18 : q17 ≠ q18 := fun e => hq18 (by rw [← e]; simp)
  have hnd := nd_push hnd hq18
  show gW X vwCl 1 [o, q2, q3, q5, q6, q8, q9, q11, q12, q14, q15, q16, q17, q18] (va_up f17 q18 (.inl (cy 2, 520, .inl (fun _ => 0)))) 13 703020 114 [(0, .ref o)] [.ref q18, .ref o]
  refine g_putF (T := TX10) (N := 26) (ci := 7) (C := RX10) (fs := [.int 0, .int 0, .ref q2, .ref q3, .int 0, .ref q5, .ref q6, .int 0, .ref q8, .ref q9, .int 0, .ref q11, .ref q12, .int 0, .ref q14, .ref q15, .ref q16, .ref q17, .null, .null, .null, .int 0, .null, .long 0, .int 0, .null]) hC hin tyX10 tyX10_ok nmX10 rfl (by simp) (up_keep ho17 hoq18) 18 (by decide) (by decide +kernel) (Or.inl rfl) rfl hn9 rfl (ty := .array .int) (by decide +kernel) rfl rfl (Nat.le_of_ble_eq_true rfl) dX10_init_114 ?_
  obtain ⟨f18, hg18⟩ : ∃ z, z = (va_up (va_up f17 q18 (.inl (cy 2, 520, .inl (fun _ => 0)))) o (.inr (7, [.int 0, .int 0, .ref q2, .ref q3, .int 0, .ref q5, .ref q6, .int 0, .ref q8, .ref q9, .int 0, .ref q11, .ref q12, .int 0, .ref q14, .ref q15, .ref q16, .ref q17, .ref q18, .null, .null, .int 0, .null, .long 0, .int 0, .null]))) := ⟨_, rfl⟩
  have hW9 : gW X vwCl 1 [o, q2, q3, q5, q6, q8, q9, q11, q12, q14, q15, q16, q17, q18] f18 13 703020 117 [(0, .ref o)] [] → gW X vwCl 1 [o, q2, q3, q5, q6, q8, q9, q11, q12, q14, q15, q16, q17, q18] (va_up (va_up f17 q18 (.inl (cy 2, 520, .inl (fun _ => 0)))) o (.inr (7, [.int 0, .int 0, .ref q2, .ref q3, .int 0, .ref q5, .ref q6, .int 0, .ref q8, .ref q9, .int 0, .ref q11, .ref q12, .int 0, .ref q14, .ref q15, .ref q16, .ref q17, .ref q18, .null, .null, .int 0, .null, .long 0, .int 0, .null]))) 13 703020 117 [(0, .ref o)] [] := fun z => by rw [← hg18]; exact z
  refine hW9 ?_
  have ho18 : f18 o = .inr (7, [.int 0, .int 0, .ref q2, .ref q3, .int 0, .ref q5, .ref q6, .int 0, .ref q8, .ref q9, .int 0, .ref q11, .ref q12, .int 0, .ref q14, .ref q15, .ref q16, .ref q17, .ref q18, .null, .null, .int 0, .null, .long 0, .int 0, .null]) := by rw [hg18, va_up_self]
  have hh2_18 : f18 q2 = .inl (cy 2, 10, .inl (fun _ => 0)) := by rw [hg18]; exact up_keep (up_keep hh2_17 hd2_18) (Ne.symm hoq2)
  have hh3_18 : f18 q3 = .inl (cy 2, 10, .inl (fun _ => 0)) := by rw [hg18]; exact up_keep (up_keep hh3_17 hd3_18) (Ne.symm hoq3)
  have hh5_18 : f18 q5 = .inl (cy 2, 40000, .inl (fun _ => 0)) := by rw [hg18]; exact up_keep (up_keep hh5_17 hd5_18) (Ne.symm hoq5)
  have hh6_18 : f18 q6 = .inl (cy 2, 640000, .inl (fun _ => 0)) := by rw [hg18]; exact up_keep (up_keep hh6_17 hd6_18) (Ne.symm hoq6)
  have hh8_18 : f18 q8 = .inl (cy 2, 600, .inl (fun _ => 0)) := by rw [hg18]; exact up_keep (up_keep hh8_17 hd8_18) (Ne.symm hoq8)
  have hh9_18 : f18 q9 = .inl (cy 2, 9600, .inl (fun _ => 0)) := by rw [hg18]; exact up_keep (up_keep hh9_17 hd9_18) (Ne.symm hoq9)
  have hh11_18 : f18 q11 = .inl (cy 2, 600, .inl (fun _ => 0)) := by rw [hg18]; exact up_keep (up_keep hh11_17 hd11_18) (Ne.symm hoq11)
  have hh12_18 : f18 q12 = .inl (cy 2, 9600, .inl (fun _ => 0)) := by rw [hg18]; exact up_keep (up_keep hh12_17 hd12_18) (Ne.symm hoq12)
  have hh14_18 : f18 q14 = .inl (cy 3, 520, .inl (fun _ => 0)) := by rw [hg18]; exact up_keep (up_keep hh14_17 hd14_18) (Ne.symm hoq14)
  have hh15_18 : f18 q15 = .inl (cy 2, 520, .inl (fun _ => 0)) := by rw [hg18]; exact up_keep (up_keep hh15_17 hd15_18) (Ne.symm hoq15)
  have hh16_18 : f18 q16 = .inl (cy 2, 520, .inl (fun _ => 0)) := by rw [hg18]; exact up_keep (up_keep hh16_17 hd16_18) (Ne.symm hoq16)
  have hh17_18 : f18 q17 = .inl (cy 2, 520, .inl (fun _ => 0)) := by rw [hg18]; exact up_keep (up_keep hh17_17 hd17_18) (Ne.symm hoq17)
  have hh18_18 : f18 q18 = .inl (cy 2, 520, .inl (fun _ => 0)) := by rw [hg18]; exact up_keep (va_up_self _ _ _) (Ne.symm hoq18)
  refine g_aload_n hC dX10_init_117 rfl 0 rfl (Or.inr ⟨_, rfl⟩) ?_
  refine g_ldc (v := nI 133120) hC (by decide +kernel) dX10_init_118 ?_
  refine g_newa (a0 := (133120, .inl (fun _ => 0))) hC 2 rfl (by decide +kernel) rfl (fun _ => rfl) rfl (by decide) (by decide) (Nat.le_of_ble_eq_true rfl) (Nat.le_of_ble_eq_true rfl) dX10_init_120 (fun q19 hq19 => ?_)
  have hoq19 : o ≠ q19 := fun e => hq19 (by rw [← e]; simp)
  have hd2_19 : q2 ≠ q19 := fun e => hq19 (by rw [← e]; simp)
  have hd3_19 : q3 ≠ q19 := fun e => hq19 (by rw [← e]; simp)
  have hd5_19 : q5 ≠ q19 := fun e => hq19 (by rw [← e]; simp)
  have hd6_19 : q6 ≠ q19 := fun e => hq19 (by rw [← e]; simp)
  have hd8_19 : q8 ≠ q19 := fun e => hq19 (by rw [← e]; simp)
  have hd9_19 : q9 ≠ q19 := fun e => hq19 (by rw [← e]; simp)
  have hd11_19 : q11 ≠ q19 := fun e => hq19 (by rw [← e]; simp)
  have hd12_19 : q12 ≠ q19 := fun e => hq19 (by rw [← e]; simp)
  have hd14_19 : q14 ≠ q19 := fun e => hq19 (by rw [← e]; simp)
  have hd15_19 : q15 ≠ q19 := fun e => hq19 (by rw [← e]; simp)
  have hd16_19 : q16 ≠ q19 := fun e => hq19 (by rw [← e]; simp)
  have hd17_19 : q17 ≠ q19 := fun e => hq19 (by rw [← e]; simp)
  have hd18_19 : q18 ≠ q19 := fun e => hq19 (by rw [← e]; simp)
  have hnd := nd_push hnd hq19
  show gW X vwCl 1 [o, q2, q3, q5, q6, q8, q9, q11, q12, q14, q15, q16, q17, q18, q19] (va_up f18 q19 (.inl (cy 2, 133120, .inl (fun _ => 0)))) 14 836140 122 [(0, .ref o)] [.ref q19, .ref o]
  refine g_putF (T := TX10) (N := 26) (ci := 7) (C := RX10) (fs := [.int 0, .int 0, .ref q2, .ref q3, .int 0, .ref q5, .ref q6, .int 0, .ref q8, .ref q9, .int 0, .ref q11, .ref q12, .int 0, .ref q14, .ref q15, .ref q16, .ref q17, .ref q18, .null, .null, .int 0, .null, .long 0, .int 0, .null]) hC hin tyX10 tyX10_ok nmX10 rfl (by simp) (up_keep ho18 hoq19) 19 (by decide) (by decide +kernel) (Or.inl rfl) rfl hn9 rfl (ty := .array .int) (by decide +kernel) rfl rfl (Nat.le_of_ble_eq_true rfl) dX10_init_122 ?_
  obtain ⟨f19, hg19⟩ : ∃ z, z = (va_up (va_up f18 q19 (.inl (cy 2, 133120, .inl (fun _ => 0)))) o (.inr (7, [.int 0, .int 0, .ref q2, .ref q3, .int 0, .ref q5, .ref q6, .int 0, .ref q8, .ref q9, .int 0, .ref q11, .ref q12, .int 0, .ref q14, .ref q15, .ref q16, .ref q17, .ref q18, .ref q19, .null, .int 0, .null, .long 0, .int 0, .null]))) := ⟨_, rfl⟩
  have hW9 : gW X vwCl 1 [o, q2, q3, q5, q6, q8, q9, q11, q12, q14, q15, q16, q17, q18, q19] f19 14 836140 125 [(0, .ref o)] [] → gW X vwCl 1 [o, q2, q3, q5, q6, q8, q9, q11, q12, q14, q15, q16, q17, q18, q19] (va_up (va_up f18 q19 (.inl (cy 2, 133120, .inl (fun _ => 0)))) o (.inr (7, [.int 0, .int 0, .ref q2, .ref q3, .int 0, .ref q5, .ref q6, .int 0, .ref q8, .ref q9, .int 0, .ref q11, .ref q12, .int 0, .ref q14, .ref q15, .ref q16, .ref q17, .ref q18, .ref q19, .null, .int 0, .null, .long 0, .int 0, .null]))) 14 836140 125 [(0, .ref o)] [] := fun z => by rw [← hg19]; exact z
  refine hW9 ?_
  have ho19 : f19 o = .inr (7, [.int 0, .int 0, .ref q2, .ref q3, .int 0, .ref q5, .ref q6, .int 0, .ref q8, .ref q9, .int 0, .ref q11, .ref q12, .int 0, .ref q14, .ref q15, .ref q16, .ref q17, .ref q18, .ref q19, .null, .int 0, .null, .long 0, .int 0, .null]) := by rw [hg19, va_up_self]
  have hh2_19 : f19 q2 = .inl (cy 2, 10, .inl (fun _ => 0)) := by rw [hg19]; exact up_keep (up_keep hh2_18 hd2_19) (Ne.symm hoq2)
  have hh3_19 : f19 q3 = .inl (cy 2, 10, .inl (fun _ => 0)) := by rw [hg19]; exact up_keep (up_keep hh3_18 hd3_19) (Ne.symm hoq3)
  have hh5_19 : f19 q5 = .inl (cy 2, 40000, .inl (fun _ => 0)) := by rw [hg19]; exact up_keep (up_keep hh5_18 hd5_19) (Ne.symm hoq5)
  have hh6_19 : f19 q6 = .inl (cy 2, 640000, .inl (fun _ => 0)) := by rw [hg19]; exact up_keep (up_keep hh6_18 hd6_19) (Ne.symm hoq6)
  have hh8_19 : f19 q8 = .inl (cy 2, 600, .inl (fun _ => 0)) := by rw [hg19]; exact up_keep (up_keep hh8_18 hd8_19) (Ne.symm hoq8)
  have hh9_19 : f19 q9 = .inl (cy 2, 9600, .inl (fun _ => 0)) := by rw [hg19]; exact up_keep (up_keep hh9_18 hd9_19) (Ne.symm hoq9)
  have hh11_19 : f19 q11 = .inl (cy 2, 600, .inl (fun _ => 0)) := by rw [hg19]; exact up_keep (up_keep hh11_18 hd11_19) (Ne.symm hoq11)
  have hh12_19 : f19 q12 = .inl (cy 2, 9600, .inl (fun _ => 0)) := by rw [hg19]; exact up_keep (up_keep hh12_18 hd12_19) (Ne.symm hoq12)
  have hh14_19 : f19 q14 = .inl (cy 3, 520, .inl (fun _ => 0)) := by rw [hg19]; exact up_keep (up_keep hh14_18 hd14_19) (Ne.symm hoq14)
  have hh15_19 : f19 q15 = .inl (cy 2, 520, .inl (fun _ => 0)) := by rw [hg19]; exact up_keep (up_keep hh15_18 hd15_19) (Ne.symm hoq15)
  have hh16_19 : f19 q16 = .inl (cy 2, 520, .inl (fun _ => 0)) := by rw [hg19]; exact up_keep (up_keep hh16_18 hd16_19) (Ne.symm hoq16)
  have hh17_19 : f19 q17 = .inl (cy 2, 520, .inl (fun _ => 0)) := by rw [hg19]; exact up_keep (up_keep hh17_18 hd17_19) (Ne.symm hoq17)
  have hh18_19 : f19 q18 = .inl (cy 2, 520, .inl (fun _ => 0)) := by rw [hg19]; exact up_keep (up_keep hh18_18 hd18_19) (Ne.symm hoq18)
  have hh19_19 : f19 q19 = .inl (cy 2, 133120, .inl (fun _ => 0)) := by rw [hg19]; exact up_keep (va_up_self _ _ _) (Ne.symm hoq19)
  refine g_aload_n hC dX10_init_125 rfl 0 rfl (Or.inr ⟨_, rfl⟩) ?_
  refine g_ldc (v := nI 52000) hC (by decide +kernel) dX10_init_126 ?_
  refine g_newa (a0 := (52000, .inl (fun _ => 0))) hC 2 rfl (by decide +kernel) rfl (fun _ => rfl) rfl (by decide) (by decide) (Nat.le_of_ble_eq_true rfl) (Nat.le_of_ble_eq_true rfl) dX10_init_128 (fun q20 hq20 => ?_)
  have hoq20 : o ≠ q20 := fun e => hq20 (by rw [← e]; simp)
  have hd2_20 : q2 ≠ q20 := fun e => hq20 (by rw [← e]; simp)
  have hd3_20 : q3 ≠ q20 := fun e => hq20 (by rw [← e]; simp)
  have hd5_20 : q5 ≠ q20 := fun e => hq20 (by rw [← e]; simp)
  have hd6_20 : q6 ≠ q20 := fun e => hq20 (by rw [← e]; simp)
  have hd8_20 : q8 ≠ q20 := fun e => hq20 (by rw [← e]; simp)
  have hd9_20 : q9 ≠ q20 := fun e => hq20 (by rw [← e]; simp)
  have hd11_20 : q11 ≠ q20 := fun e => hq20 (by rw [← e]; simp)
  have hd12_20 : q12 ≠ q20 := fun e => hq20 (by rw [← e]; simp)
  have hd14_20 : q14 ≠ q20 := fun e => hq20 (by rw [← e]; simp)
  have hd15_20 : q15 ≠ q20 := fun e => hq20 (by rw [← e]; simp)
  have hd16_20 : q16 ≠ q20 := fun e => hq20 (by rw [← e]; simp)
  have hd17_20 : q17 ≠ q20 := fun e => hq20 (by rw [← e]; simp)
  have hd18_20 : q18 ≠ q20 := fun e => hq20 (by rw [← e]; simp)
  have hd19_20 : q19 ≠ q20 := fun e => hq20 (by rw [← e]; simp)
  have hnd := nd_push hnd hq20
  show gW X vwCl 1 [o, q2, q3, q5, q6, q8, q9, q11, q12, q14, q15, q16, q17, q18, q19, q20] (va_up f19 q20 (.inl (cy 2, 52000, .inl (fun _ => 0)))) 15 888140 130 [(0, .ref o)] [.ref q20, .ref o]
  refine g_putF (T := TX10) (N := 26) (ci := 7) (C := RX10) (fs := [.int 0, .int 0, .ref q2, .ref q3, .int 0, .ref q5, .ref q6, .int 0, .ref q8, .ref q9, .int 0, .ref q11, .ref q12, .int 0, .ref q14, .ref q15, .ref q16, .ref q17, .ref q18, .ref q19, .null, .int 0, .null, .long 0, .int 0, .null]) hC hin tyX10 tyX10_ok nmX10 rfl (by simp) (up_keep ho19 hoq20) 20 (by decide) (by decide +kernel) (Or.inl rfl) rfl hn9 rfl (ty := .array .int) (by decide +kernel) rfl rfl (Nat.le_of_ble_eq_true rfl) dX10_init_130 ?_
  obtain ⟨f20, hg20⟩ : ∃ z, z = (va_up (va_up f19 q20 (.inl (cy 2, 52000, .inl (fun _ => 0)))) o (.inr (7, [.int 0, .int 0, .ref q2, .ref q3, .int 0, .ref q5, .ref q6, .int 0, .ref q8, .ref q9, .int 0, .ref q11, .ref q12, .int 0, .ref q14, .ref q15, .ref q16, .ref q17, .ref q18, .ref q19, .ref q20, .int 0, .null, .long 0, .int 0, .null]))) := ⟨_, rfl⟩
  have hW9 : gW X vwCl 1 [o, q2, q3, q5, q6, q8, q9, q11, q12, q14, q15, q16, q17, q18, q19, q20] f20 15 888140 133 [(0, .ref o)] [] → gW X vwCl 1 [o, q2, q3, q5, q6, q8, q9, q11, q12, q14, q15, q16, q17, q18, q19, q20] (va_up (va_up f19 q20 (.inl (cy 2, 52000, .inl (fun _ => 0)))) o (.inr (7, [.int 0, .int 0, .ref q2, .ref q3, .int 0, .ref q5, .ref q6, .int 0, .ref q8, .ref q9, .int 0, .ref q11, .ref q12, .int 0, .ref q14, .ref q15, .ref q16, .ref q17, .ref q18, .ref q19, .ref q20, .int 0, .null, .long 0, .int 0, .null]))) 15 888140 133 [(0, .ref o)] [] := fun z => by rw [← hg20]; exact z
  refine hW9 ?_
  have ho20 : f20 o = .inr (7, [.int 0, .int 0, .ref q2, .ref q3, .int 0, .ref q5, .ref q6, .int 0, .ref q8, .ref q9, .int 0, .ref q11, .ref q12, .int 0, .ref q14, .ref q15, .ref q16, .ref q17, .ref q18, .ref q19, .ref q20, .int 0, .null, .long 0, .int 0, .null]) := by rw [hg20, va_up_self]
  have hh2_20 : f20 q2 = .inl (cy 2, 10, .inl (fun _ => 0)) := by rw [hg20]; exact up_keep (up_keep hh2_19 hd2_20) (Ne.symm hoq2)
  have hh3_20 : f20 q3 = .inl (cy 2, 10, .inl (fun _ => 0)) := by rw [hg20]; exact up_keep (up_keep hh3_19 hd3_20) (Ne.symm hoq3)
  have hh5_20 : f20 q5 = .inl (cy 2, 40000, .inl (fun _ => 0)) := by rw [hg20]; exact up_keep (up_keep hh5_19 hd5_20) (Ne.symm hoq5)
  have hh6_20 : f20 q6 = .inl (cy 2, 640000, .inl (fun _ => 0)) := by rw [hg20]; exact up_keep (up_keep hh6_19 hd6_20) (Ne.symm hoq6)
  have hh8_20 : f20 q8 = .inl (cy 2, 600, .inl (fun _ => 0)) := by rw [hg20]; exact up_keep (up_keep hh8_19 hd8_20) (Ne.symm hoq8)
  have hh9_20 : f20 q9 = .inl (cy 2, 9600, .inl (fun _ => 0)) := by rw [hg20]; exact up_keep (up_keep hh9_19 hd9_20) (Ne.symm hoq9)
  have hh11_20 : f20 q11 = .inl (cy 2, 600, .inl (fun _ => 0)) := by rw [hg20]; exact up_keep (up_keep hh11_19 hd11_20) (Ne.symm hoq11)
  have hh12_20 : f20 q12 = .inl (cy 2, 9600, .inl (fun _ => 0)) := by rw [hg20]; exact up_keep (up_keep hh12_19 hd12_20) (Ne.symm hoq12)
  have hh14_20 : f20 q14 = .inl (cy 3, 520, .inl (fun _ => 0)) := by rw [hg20]; exact up_keep (up_keep hh14_19 hd14_20) (Ne.symm hoq14)
  have hh15_20 : f20 q15 = .inl (cy 2, 520, .inl (fun _ => 0)) := by rw [hg20]; exact up_keep (up_keep hh15_19 hd15_20) (Ne.symm hoq15)
  have hh16_20 : f20 q16 = .inl (cy 2, 520, .inl (fun _ => 0)) := by rw [hg20]; exact up_keep (up_keep hh16_19 hd16_20) (Ne.symm hoq16)
  have hh17_20 : f20 q17 = .inl (cy 2, 520, .inl (fun _ => 0)) := by rw [hg20]; exact up_keep (up_keep hh17_19 hd17_20) (Ne.symm hoq17)
  have hh18_20 : f20 q18 = .inl (cy 2, 520, .inl (fun _ => 0)) := by rw [hg20]; exact up_keep (up_keep hh18_19 hd18_20) (Ne.symm hoq18)
  have hh19_20 : f20 q19 = .inl (cy 2, 133120, .inl (fun _ => 0)) := by rw [hg20]; exact up_keep (up_keep hh19_19 hd19_20) (Ne.symm hoq19)
  have hh20_20 : f20 q20 = .inl (cy 2, 52000, .inl (fun _ => 0)) := by rw [hg20]; exact up_keep (va_up_self _ _ _) (Ne.symm hoq20)
  refine g_aload_n hC dX10_init_133 rfl 0 rfl (Or.inr ⟨_, rfl⟩) ?_
  refine g_ldc (v := nI 40000) hC (by decide +kernel) dX10_init_134 ?_
  refine g_newa (a0 := (40000, .inl (fun _ => 0))) hC 2 rfl (by decide +kernel) rfl (fun _ => rfl) rfl (by decide) (by decide) (Nat.le_of_ble_eq_true rfl) (Nat.le_of_ble_eq_true rfl) dX10_init_136 (fun q22 hq22 => ?_)
  have hoq22 : o ≠ q22 := fun e => hq22 (by rw [← e]; simp)
  have hd2_22 : q2 ≠ q22 := fun e => hq22 (by rw [← e]; simp)
  have hd3_22 : q3 ≠ q22 := fun e => hq22 (by rw [← e]; simp)
  have hd5_22 : q5 ≠ q22 := fun e => hq22 (by rw [← e]; simp)
  have hd6_22 : q6 ≠ q22 := fun e => hq22 (by rw [← e]; simp)
  have hd8_22 : q8 ≠ q22 := fun e => hq22 (by rw [← e]; simp)
  have hd9_22 : q9 ≠ q22 := fun e => hq22 (by rw [← e]; simp)
  have hd11_22 : q11 ≠ q22 := fun e => hq22 (by rw [← e]; simp)
  have hd12_22 : q12 ≠ q22 := fun e => hq22 (by rw [← e]; simp)
  have hd14_22 : q14 ≠ q22 := fun e => hq22 (by rw [← e]; simp)
  have hd15_22 : q15 ≠ q22 := fun e => hq22 (by rw [← e]; simp)
  have hd16_22 : q16 ≠ q22 := fun e => hq22 (by rw [← e]; simp)
  have hd17_22 : q17 ≠ q22 := fun e => hq22 (by rw [← e]; simp)
  have hd18_22 : q18 ≠ q22 := fun e => hq22 (by rw [← e]; simp)
  have hd19_22 : q19 ≠ q22 := fun e => hq22 (by rw [← e]; simp)
  have hd20_22 : q20 ≠ q22 := fun e => hq22 (by rw [← e]; simp)
  have hnd := nd_push hnd hq22
  show gW X vwCl 1 [o, q2, q3, q5, q6, q8, q9, q11, q12, q14, q15, q16, q17, q18, q19, q20, q22] (va_up f20 q22 (.inl (cy 2, 40000, .inl (fun _ => 0)))) 16 928140 138 [(0, .ref o)] [.ref q22, .ref o]
  refine g_putF (T := TX10) (N := 26) (ci := 7) (C := RX10) (fs := [.int 0, .int 0, .ref q2, .ref q3, .int 0, .ref q5, .ref q6, .int 0, .ref q8, .ref q9, .int 0, .ref q11, .ref q12, .int 0, .ref q14, .ref q15, .ref q16, .ref q17, .ref q18, .ref q19, .ref q20, .int 0, .null, .long 0, .int 0, .null]) hC hin tyX10 tyX10_ok nmX10 rfl (by simp) (up_keep ho20 hoq22) 22 (by decide) (by decide +kernel) (Or.inl rfl) rfl hn9 rfl (ty := .array .int) (by decide +kernel) rfl rfl (Nat.le_of_ble_eq_true rfl) dX10_init_138 ?_
  obtain ⟨f22, hg22⟩ : ∃ z, z = (va_up (va_up f20 q22 (.inl (cy 2, 40000, .inl (fun _ => 0)))) o (.inr (7, [.int 0, .int 0, .ref q2, .ref q3, .int 0, .ref q5, .ref q6, .int 0, .ref q8, .ref q9, .int 0, .ref q11, .ref q12, .int 0, .ref q14, .ref q15, .ref q16, .ref q17, .ref q18, .ref q19, .ref q20, .int 0, .ref q22, .long 0, .int 0, .null]))) := ⟨_, rfl⟩
  have hW9 : gW X vwCl 1 [o, q2, q3, q5, q6, q8, q9, q11, q12, q14, q15, q16, q17, q18, q19, q20, q22] f22 16 928140 141 [(0, .ref o)] [] → gW X vwCl 1 [o, q2, q3, q5, q6, q8, q9, q11, q12, q14, q15, q16, q17, q18, q19, q20, q22] (va_up (va_up f20 q22 (.inl (cy 2, 40000, .inl (fun _ => 0)))) o (.inr (7, [.int 0, .int 0, .ref q2, .ref q3, .int 0, .ref q5, .ref q6, .int 0, .ref q8, .ref q9, .int 0, .ref q11, .ref q12, .int 0, .ref q14, .ref q15, .ref q16, .ref q17, .ref q18, .ref q19, .ref q20, .int 0, .ref q22, .long 0, .int 0, .null]))) 16 928140 141 [(0, .ref o)] [] := fun z => by rw [← hg22]; exact z
  refine hW9 ?_
  have ho22 : f22 o = .inr (7, [.int 0, .int 0, .ref q2, .ref q3, .int 0, .ref q5, .ref q6, .int 0, .ref q8, .ref q9, .int 0, .ref q11, .ref q12, .int 0, .ref q14, .ref q15, .ref q16, .ref q17, .ref q18, .ref q19, .ref q20, .int 0, .ref q22, .long 0, .int 0, .null]) := by rw [hg22, va_up_self]
  have hh2_22 : f22 q2 = .inl (cy 2, 10, .inl (fun _ => 0)) := by rw [hg22]; exact up_keep (up_keep hh2_20 hd2_22) (Ne.symm hoq2)
  have hh3_22 : f22 q3 = .inl (cy 2, 10, .inl (fun _ => 0)) := by rw [hg22]; exact up_keep (up_keep hh3_20 hd3_22) (Ne.symm hoq3)
  have hh5_22 : f22 q5 = .inl (cy 2, 40000, .inl (fun _ => 0)) := by rw [hg22]; exact up_keep (up_keep hh5_20 hd5_22) (Ne.symm hoq5)
  have hh6_22 : f22 q6 = .inl (cy 2, 640000, .inl (fun _ => 0)) := by rw [hg22]; exact up_keep (up_keep hh6_20 hd6_22) (Ne.symm hoq6)
  have hh8_22 : f22 q8 = .inl (cy 2, 600, .inl (fun _ => 0)) := by rw [hg22]; exact up_keep (up_keep hh8_20 hd8_22) (Ne.symm hoq8)
  have hh9_22 : f22 q9 = .inl (cy 2, 9600, .inl (fun _ => 0)) := by rw [hg22]; exact up_keep (up_keep hh9_20 hd9_22) (Ne.symm hoq9)
  have hh11_22 : f22 q11 = .inl (cy 2, 600, .inl (fun _ => 0)) := by rw [hg22]; exact up_keep (up_keep hh11_20 hd11_22) (Ne.symm hoq11)
  have hh12_22 : f22 q12 = .inl (cy 2, 9600, .inl (fun _ => 0)) := by rw [hg22]; exact up_keep (up_keep hh12_20 hd12_22) (Ne.symm hoq12)
  have hh14_22 : f22 q14 = .inl (cy 3, 520, .inl (fun _ => 0)) := by rw [hg22]; exact up_keep (up_keep hh14_20 hd14_22) (Ne.symm hoq14)
  have hh15_22 : f22 q15 = .inl (cy 2, 520, .inl (fun _ => 0)) := by rw [hg22]; exact up_keep (up_keep hh15_20 hd15_22) (Ne.symm hoq15)
  have hh16_22 : f22 q16 = .inl (cy 2, 520, .inl (fun _ => 0)) := by rw [hg22]; exact up_keep (up_keep hh16_20 hd16_22) (Ne.symm hoq16)
  have hh17_22 : f22 q17 = .inl (cy 2, 520, .inl (fun _ => 0)) := by rw [hg22]; exact up_keep (up_keep hh17_20 hd17_22) (Ne.symm hoq17)
  have hh18_22 : f22 q18 = .inl (cy 2, 520, .inl (fun _ => 0)) := by rw [hg22]; exact up_keep (up_keep hh18_20 hd18_22) (Ne.symm hoq18)
  have hh19_22 : f22 q19 = .inl (cy 2, 133120, .inl (fun _ => 0)) := by rw [hg22]; exact up_keep (up_keep hh19_20 hd19_22) (Ne.symm hoq19)
  have hh20_22 : f22 q20 = .inl (cy 2, 52000, .inl (fun _ => 0)) := by rw [hg22]; exact up_keep (up_keep hh20_20 hd20_22) (Ne.symm hoq20)
  have hh22_22 : f22 q22 = .inl (cy 2, 40000, .inl (fun _ => 0)) := by rw [hg22]; exact up_keep (va_up_self _ _ _) (Ne.symm hoq22)
  refine g_aload_n hC dX10_init_141 rfl 0 rfl (Or.inr ⟨_, rfl⟩) ?_
  refine g_bipush hC dX10_init_142 (v := nI 16) (by decide) ?_
  refine g_newa (a0 := (16, .inl (fun _ => 0))) hC 2 rfl (by decide +kernel) rfl (fun _ => rfl) rfl (by decide) (by decide) (Nat.le_of_ble_eq_true rfl) (Nat.le_of_ble_eq_true rfl) dX10_init_144 (fun q25 hq25 => ?_)
  have hoq25 : o ≠ q25 := fun e => hq25 (by rw [← e]; simp)
  have hd2_25 : q2 ≠ q25 := fun e => hq25 (by rw [← e]; simp)
  have hd3_25 : q3 ≠ q25 := fun e => hq25 (by rw [← e]; simp)
  have hd5_25 : q5 ≠ q25 := fun e => hq25 (by rw [← e]; simp)
  have hd6_25 : q6 ≠ q25 := fun e => hq25 (by rw [← e]; simp)
  have hd8_25 : q8 ≠ q25 := fun e => hq25 (by rw [← e]; simp)
  have hd9_25 : q9 ≠ q25 := fun e => hq25 (by rw [← e]; simp)
  have hd11_25 : q11 ≠ q25 := fun e => hq25 (by rw [← e]; simp)
  have hd12_25 : q12 ≠ q25 := fun e => hq25 (by rw [← e]; simp)
  have hd14_25 : q14 ≠ q25 := fun e => hq25 (by rw [← e]; simp)
  have hd15_25 : q15 ≠ q25 := fun e => hq25 (by rw [← e]; simp)
  have hd16_25 : q16 ≠ q25 := fun e => hq25 (by rw [← e]; simp)
  have hd17_25 : q17 ≠ q25 := fun e => hq25 (by rw [← e]; simp)
  have hd18_25 : q18 ≠ q25 := fun e => hq25 (by rw [← e]; simp)
  have hd19_25 : q19 ≠ q25 := fun e => hq25 (by rw [← e]; simp)
  have hd20_25 : q20 ≠ q25 := fun e => hq25 (by rw [← e]; simp)
  have hd22_25 : q22 ≠ q25 := fun e => hq25 (by rw [← e]; simp)
  have hnd := nd_push hnd hq25
  show gW X vwCl 1 [o, q2, q3, q5, q6, q8, q9, q11, q12, q14, q15, q16, q17, q18, q19, q20, q22, q25] (va_up f22 q25 (.inl (cy 2, 16, .inl (fun _ => 0)))) 17 928156 146 [(0, .ref o)] [.ref q25, .ref o]
  refine g_putF (T := TX10) (N := 26) (ci := 7) (C := RX10) (fs := [.int 0, .int 0, .ref q2, .ref q3, .int 0, .ref q5, .ref q6, .int 0, .ref q8, .ref q9, .int 0, .ref q11, .ref q12, .int 0, .ref q14, .ref q15, .ref q16, .ref q17, .ref q18, .ref q19, .ref q20, .int 0, .ref q22, .long 0, .int 0, .null]) hC hin tyX10 tyX10_ok nmX10 rfl (by simp) (up_keep ho22 hoq25) 25 (by decide) (by decide +kernel) (Or.inl rfl) rfl hn9 rfl (ty := .array .int) (by decide +kernel) rfl rfl (Nat.le_of_ble_eq_true rfl) dX10_init_146 ?_
  obtain ⟨f25, hg25⟩ : ∃ z, z = (va_up (va_up f22 q25 (.inl (cy 2, 16, .inl (fun _ => 0)))) o (.inr (7, [.int 0, .int 0, .ref q2, .ref q3, .int 0, .ref q5, .ref q6, .int 0, .ref q8, .ref q9, .int 0, .ref q11, .ref q12, .int 0, .ref q14, .ref q15, .ref q16, .ref q17, .ref q18, .ref q19, .ref q20, .int 0, .ref q22, .long 0, .int 0, .ref q25]))) := ⟨_, rfl⟩
  have hW9 : gW X vwCl 1 [o, q2, q3, q5, q6, q8, q9, q11, q12, q14, q15, q16, q17, q18, q19, q20, q22, q25] f25 17 928156 149 [(0, .ref o)] [] → gW X vwCl 1 [o, q2, q3, q5, q6, q8, q9, q11, q12, q14, q15, q16, q17, q18, q19, q20, q22, q25] (va_up (va_up f22 q25 (.inl (cy 2, 16, .inl (fun _ => 0)))) o (.inr (7, [.int 0, .int 0, .ref q2, .ref q3, .int 0, .ref q5, .ref q6, .int 0, .ref q8, .ref q9, .int 0, .ref q11, .ref q12, .int 0, .ref q14, .ref q15, .ref q16, .ref q17, .ref q18, .ref q19, .ref q20, .int 0, .ref q22, .long 0, .int 0, .ref q25]))) 17 928156 149 [(0, .ref o)] [] := fun z => by rw [← hg25]; exact z
  refine hW9 ?_
  have ho25 : f25 o = .inr (7, [.int 0, .int 0, .ref q2, .ref q3, .int 0, .ref q5, .ref q6, .int 0, .ref q8, .ref q9, .int 0, .ref q11, .ref q12, .int 0, .ref q14, .ref q15, .ref q16, .ref q17, .ref q18, .ref q19, .ref q20, .int 0, .ref q22, .long 0, .int 0, .ref q25]) := by rw [hg25, va_up_self]
  have hh2_25 : f25 q2 = .inl (cy 2, 10, .inl (fun _ => 0)) := by rw [hg25]; exact up_keep (up_keep hh2_22 hd2_25) (Ne.symm hoq2)
  have hh3_25 : f25 q3 = .inl (cy 2, 10, .inl (fun _ => 0)) := by rw [hg25]; exact up_keep (up_keep hh3_22 hd3_25) (Ne.symm hoq3)
  have hh5_25 : f25 q5 = .inl (cy 2, 40000, .inl (fun _ => 0)) := by rw [hg25]; exact up_keep (up_keep hh5_22 hd5_25) (Ne.symm hoq5)
  have hh6_25 : f25 q6 = .inl (cy 2, 640000, .inl (fun _ => 0)) := by rw [hg25]; exact up_keep (up_keep hh6_22 hd6_25) (Ne.symm hoq6)
  have hh8_25 : f25 q8 = .inl (cy 2, 600, .inl (fun _ => 0)) := by rw [hg25]; exact up_keep (up_keep hh8_22 hd8_25) (Ne.symm hoq8)
  have hh9_25 : f25 q9 = .inl (cy 2, 9600, .inl (fun _ => 0)) := by rw [hg25]; exact up_keep (up_keep hh9_22 hd9_25) (Ne.symm hoq9)
  have hh11_25 : f25 q11 = .inl (cy 2, 600, .inl (fun _ => 0)) := by rw [hg25]; exact up_keep (up_keep hh11_22 hd11_25) (Ne.symm hoq11)
  have hh12_25 : f25 q12 = .inl (cy 2, 9600, .inl (fun _ => 0)) := by rw [hg25]; exact up_keep (up_keep hh12_22 hd12_25) (Ne.symm hoq12)
  have hh14_25 : f25 q14 = .inl (cy 3, 520, .inl (fun _ => 0)) := by rw [hg25]; exact up_keep (up_keep hh14_22 hd14_25) (Ne.symm hoq14)
  have hh15_25 : f25 q15 = .inl (cy 2, 520, .inl (fun _ => 0)) := by rw [hg25]; exact up_keep (up_keep hh15_22 hd15_25) (Ne.symm hoq15)
  have hh16_25 : f25 q16 = .inl (cy 2, 520, .inl (fun _ => 0)) := by rw [hg25]; exact up_keep (up_keep hh16_22 hd16_25) (Ne.symm hoq16)
  have hh17_25 : f25 q17 = .inl (cy 2, 520, .inl (fun _ => 0)) := by rw [hg25]; exact up_keep (up_keep hh17_22 hd17_25) (Ne.symm hoq17)
  have hh18_25 : f25 q18 = .inl (cy 2, 520, .inl (fun _ => 0)) := by rw [hg25]; exact up_keep (up_keep hh18_22 hd18_25) (Ne.symm hoq18)
  have hh19_25 : f25 q19 = .inl (cy 2, 133120, .inl (fun _ => 0)) := by rw [hg25]; exact up_keep (up_keep hh19_22 hd19_25) (Ne.symm hoq19)
  have hh20_25 : f25 q20 = .inl (cy 2, 52000, .inl (fun _ => 0)) := by rw [hg25]; exact up_keep (up_keep hh20_22 hd20_25) (Ne.symm hoq20)
  have hh22_25 : f25 q22 = .inl (cy 2, 40000, .inl (fun _ => 0)) := by rw [hg25]; exact up_keep (up_keep hh22_22 hd22_25) (Ne.symm hoq22)
  have hh25_25 : f25 q25 = .inl (cy 2, 16, .inl (fun _ => 0)) := by rw [hg25]; exact up_keep (va_up_self _ _ _) (Ne.symm hoq25)
  clear hW9
  have eL : [o, q2, q3, q5, q6, q8, q9, q11, q12, q14, q15, q16, q17, q18, q19, q20, q22, q25] = mL o (fun k => if k = 2 then q2 else if k = 3 then q3 else if k = 5 then q5 else if k = 6 then q6 else if k = 8 then q8 else if k = 9 then q9 else if k = 11 then q11 else if k = 12 then q12 else if k = 14 then q14 else if k = 15 then q15 else if k = 16 then q16 else if k = 17 then q17 else if k = 18 then q18 else if k = 19 then q19 else if k = 20 then q20 else if k = 22 then q22 else q25) := rfl
  have hok9 : mOk o (fun k => if k = 2 then q2 else if k = 3 then q3 else if k = 5 then q5 else if k = 6 then q6 else if k = 8 then q8 else if k = 9 then q9 else if k = 11 then q11 else if k = 12 then q12 else if k = 14 then q14 else if k = 15 then q15 else if k = 16 then q16 else if k = 17 then q17 else if k = 18 then q18 else if k = 19 then q19 else if k = 20 then q20 else if k = 22 then q22 else q25) := nd_mOk (by rw [← eL]; exact hnd)
  refine g_vret hC hR dX10_init_149 ⟨rfl, (fun k => if k = 2 then q2 else if k = 3 then q3 else if k = 5 then q5 else if k = 6 then q6 else if k = 8 then q8 else if k = 9 then q9 else if k = 11 then q11 else if k = 12 then q12 else if k = 14 then q14 else if k = 15 then q15 else if k = 16 then q16 else if k = 17 then q17 else if k = 18 then q18 else if k = 19 then q19 else if k = 20 then q20 else if k = 22 then q22 else q25), eL, hok9, fun a ha => ?_⟩
  simp only [List.mem_cons, List.not_mem_nil, or_false] at ha
  rcases ha with e9 | e9 | e9 | e9 | e9 | e9 | e9 | e9 | e9 | e9 | e9 | e9 | e9 | e9 | e9 | e9 | e9 | e9
  · rw [e9, mW_o, ho25]; rfl
  · rw [e9, hh2_25]; exact (mW_k (o := o) (ad := (fun k => if k = 2 then q2 else if k = 3 then q3 else if k = 5 then q5 else if k = 6 then q6 else if k = 8 then q8 else if k = 9 then q9 else if k = 11 then q11 else if k = 12 then q12 else if k = 14 then q14 else if k = 15 then q15 else if k = 16 then q16 else if k = 17 then q17 else if k = 18 then q18 else if k = 19 then q19 else if k = 20 then q20 else if k = 22 then q22 else q25)) (cy := cy) (S := aS0) hok9 (k := 2) (by decide)).symm
  · rw [e9, hh3_25]; exact (mW_k (o := o) (ad := (fun k => if k = 2 then q2 else if k = 3 then q3 else if k = 5 then q5 else if k = 6 then q6 else if k = 8 then q8 else if k = 9 then q9 else if k = 11 then q11 else if k = 12 then q12 else if k = 14 then q14 else if k = 15 then q15 else if k = 16 then q16 else if k = 17 then q17 else if k = 18 then q18 else if k = 19 then q19 else if k = 20 then q20 else if k = 22 then q22 else q25)) (cy := cy) (S := aS0) hok9 (k := 3) (by decide)).symm
  · rw [e9, hh5_25]; exact (mW_k (o := o) (ad := (fun k => if k = 2 then q2 else if k = 3 then q3 else if k = 5 then q5 else if k = 6 then q6 else if k = 8 then q8 else if k = 9 then q9 else if k = 11 then q11 else if k = 12 then q12 else if k = 14 then q14 else if k = 15 then q15 else if k = 16 then q16 else if k = 17 then q17 else if k = 18 then q18 else if k = 19 then q19 else if k = 20 then q20 else if k = 22 then q22 else q25)) (cy := cy) (S := aS0) hok9 (k := 5) (by decide)).symm
  · rw [e9, hh6_25]; exact (mW_k (o := o) (ad := (fun k => if k = 2 then q2 else if k = 3 then q3 else if k = 5 then q5 else if k = 6 then q6 else if k = 8 then q8 else if k = 9 then q9 else if k = 11 then q11 else if k = 12 then q12 else if k = 14 then q14 else if k = 15 then q15 else if k = 16 then q16 else if k = 17 then q17 else if k = 18 then q18 else if k = 19 then q19 else if k = 20 then q20 else if k = 22 then q22 else q25)) (cy := cy) (S := aS0) hok9 (k := 6) (by decide)).symm
  · rw [e9, hh8_25]; exact (mW_k (o := o) (ad := (fun k => if k = 2 then q2 else if k = 3 then q3 else if k = 5 then q5 else if k = 6 then q6 else if k = 8 then q8 else if k = 9 then q9 else if k = 11 then q11 else if k = 12 then q12 else if k = 14 then q14 else if k = 15 then q15 else if k = 16 then q16 else if k = 17 then q17 else if k = 18 then q18 else if k = 19 then q19 else if k = 20 then q20 else if k = 22 then q22 else q25)) (cy := cy) (S := aS0) hok9 (k := 8) (by decide)).symm
  · rw [e9, hh9_25]; exact (mW_k (o := o) (ad := (fun k => if k = 2 then q2 else if k = 3 then q3 else if k = 5 then q5 else if k = 6 then q6 else if k = 8 then q8 else if k = 9 then q9 else if k = 11 then q11 else if k = 12 then q12 else if k = 14 then q14 else if k = 15 then q15 else if k = 16 then q16 else if k = 17 then q17 else if k = 18 then q18 else if k = 19 then q19 else if k = 20 then q20 else if k = 22 then q22 else q25)) (cy := cy) (S := aS0) hok9 (k := 9) (by decide)).symm
  · rw [e9, hh11_25]; exact (mW_k (o := o) (ad := (fun k => if k = 2 then q2 else if k = 3 then q3 else if k = 5 then q5 else if k = 6 then q6 else if k = 8 then q8 else if k = 9 then q9 else if k = 11 then q11 else if k = 12 then q12 else if k = 14 then q14 else if k = 15 then q15 else if k = 16 then q16 else if k = 17 then q17 else if k = 18 then q18 else if k = 19 then q19 else if k = 20 then q20 else if k = 22 then q22 else q25)) (cy := cy) (S := aS0) hok9 (k := 11) (by decide)).symm
  · rw [e9, hh12_25]; exact (mW_k (o := o) (ad := (fun k => if k = 2 then q2 else if k = 3 then q3 else if k = 5 then q5 else if k = 6 then q6 else if k = 8 then q8 else if k = 9 then q9 else if k = 11 then q11 else if k = 12 then q12 else if k = 14 then q14 else if k = 15 then q15 else if k = 16 then q16 else if k = 17 then q17 else if k = 18 then q18 else if k = 19 then q19 else if k = 20 then q20 else if k = 22 then q22 else q25)) (cy := cy) (S := aS0) hok9 (k := 12) (by decide)).symm
  · rw [e9, hh14_25]; exact (mW_k (o := o) (ad := (fun k => if k = 2 then q2 else if k = 3 then q3 else if k = 5 then q5 else if k = 6 then q6 else if k = 8 then q8 else if k = 9 then q9 else if k = 11 then q11 else if k = 12 then q12 else if k = 14 then q14 else if k = 15 then q15 else if k = 16 then q16 else if k = 17 then q17 else if k = 18 then q18 else if k = 19 then q19 else if k = 20 then q20 else if k = 22 then q22 else q25)) (cy := cy) (S := aS0) hok9 (k := 14) (by decide)).symm
  · rw [e9, hh15_25]; exact (mW_k (o := o) (ad := (fun k => if k = 2 then q2 else if k = 3 then q3 else if k = 5 then q5 else if k = 6 then q6 else if k = 8 then q8 else if k = 9 then q9 else if k = 11 then q11 else if k = 12 then q12 else if k = 14 then q14 else if k = 15 then q15 else if k = 16 then q16 else if k = 17 then q17 else if k = 18 then q18 else if k = 19 then q19 else if k = 20 then q20 else if k = 22 then q22 else q25)) (cy := cy) (S := aS0) hok9 (k := 15) (by decide)).symm
  · rw [e9, hh16_25]; exact (mW_k (o := o) (ad := (fun k => if k = 2 then q2 else if k = 3 then q3 else if k = 5 then q5 else if k = 6 then q6 else if k = 8 then q8 else if k = 9 then q9 else if k = 11 then q11 else if k = 12 then q12 else if k = 14 then q14 else if k = 15 then q15 else if k = 16 then q16 else if k = 17 then q17 else if k = 18 then q18 else if k = 19 then q19 else if k = 20 then q20 else if k = 22 then q22 else q25)) (cy := cy) (S := aS0) hok9 (k := 16) (by decide)).symm
  · rw [e9, hh17_25]; exact (mW_k (o := o) (ad := (fun k => if k = 2 then q2 else if k = 3 then q3 else if k = 5 then q5 else if k = 6 then q6 else if k = 8 then q8 else if k = 9 then q9 else if k = 11 then q11 else if k = 12 then q12 else if k = 14 then q14 else if k = 15 then q15 else if k = 16 then q16 else if k = 17 then q17 else if k = 18 then q18 else if k = 19 then q19 else if k = 20 then q20 else if k = 22 then q22 else q25)) (cy := cy) (S := aS0) hok9 (k := 17) (by decide)).symm
  · rw [e9, hh18_25]; exact (mW_k (o := o) (ad := (fun k => if k = 2 then q2 else if k = 3 then q3 else if k = 5 then q5 else if k = 6 then q6 else if k = 8 then q8 else if k = 9 then q9 else if k = 11 then q11 else if k = 12 then q12 else if k = 14 then q14 else if k = 15 then q15 else if k = 16 then q16 else if k = 17 then q17 else if k = 18 then q18 else if k = 19 then q19 else if k = 20 then q20 else if k = 22 then q22 else q25)) (cy := cy) (S := aS0) hok9 (k := 18) (by decide)).symm
  · rw [e9, hh19_25]; exact (mW_k (o := o) (ad := (fun k => if k = 2 then q2 else if k = 3 then q3 else if k = 5 then q5 else if k = 6 then q6 else if k = 8 then q8 else if k = 9 then q9 else if k = 11 then q11 else if k = 12 then q12 else if k = 14 then q14 else if k = 15 then q15 else if k = 16 then q16 else if k = 17 then q17 else if k = 18 then q18 else if k = 19 then q19 else if k = 20 then q20 else if k = 22 then q22 else q25)) (cy := cy) (S := aS0) hok9 (k := 19) (by decide)).symm
  · rw [e9, hh20_25]; exact (mW_k (o := o) (ad := (fun k => if k = 2 then q2 else if k = 3 then q3 else if k = 5 then q5 else if k = 6 then q6 else if k = 8 then q8 else if k = 9 then q9 else if k = 11 then q11 else if k = 12 then q12 else if k = 14 then q14 else if k = 15 then q15 else if k = 16 then q16 else if k = 17 then q17 else if k = 18 then q18 else if k = 19 then q19 else if k = 20 then q20 else if k = 22 then q22 else q25)) (cy := cy) (S := aS0) hok9 (k := 20) (by decide)).symm
  · rw [e9, hh22_25]; exact (mW_k (o := o) (ad := (fun k => if k = 2 then q2 else if k = 3 then q3 else if k = 5 then q5 else if k = 6 then q6 else if k = 8 then q8 else if k = 9 then q9 else if k = 11 then q11 else if k = 12 then q12 else if k = 14 then q14 else if k = 15 then q15 else if k = 16 then q16 else if k = 17 then q17 else if k = 18 then q18 else if k = 19 then q19 else if k = 20 then q20 else if k = 22 then q22 else q25)) (cy := cy) (S := aS0) hok9 (k := 22) (by decide)).symm
  · rw [e9, hh25_25]; exact (mW_k (o := o) (ad := (fun k => if k = 2 then q2 else if k = 3 then q3 else if k = 5 then q5 else if k = 6 then q6 else if k = 8 then q8 else if k = 9 then q9 else if k = 11 then q11 else if k = 12 then q12 else if k = 14 then q14 else if k = 15 then q15 else if k = 16 then q16 else if k = 17 then q17 else if k = 18 then q18 else if k = 19 then q19 else if k = 20 then q20 else if k = 22 then q22 else q25)) (cy := cy) (S := aS0) hok9 (k := 25) (by decide)).symm
end M3
