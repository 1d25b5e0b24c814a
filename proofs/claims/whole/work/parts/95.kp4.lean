section Mo9
variable {S : aS}
theorem mo_b1 {S' : aS} (h4 : S'.1 4 = S.1 4 + 1) (h21 : S'.1 21 = S.1 21) (h13 : S'.1 13 = S.1 13) (h15 : S'.2.1 15 = S.2.1 15) : mo S S' := by
  have e2 : ∀ n, szS S' n = szS S n := fun n => szS_eq n (fun t _ => by rw [h15])
  unfold mo
  rw [h4, h21, h13, e2]
  exact ⟨Nat.le_succ _, Nat.le_refl _, Nat.le_refl _⟩
theorem m_make (p c n : Int32) : mo S (s_make S p c n).2 := by unfold s_make; (repeat' split) <;> first | exact mo.qt Qt.th | exact mo.qt Qt.fl | exact mo_b1 rfl rfl rfl rfl | exact mo.cg rfl rfl rfl rfl
theorem m_move (p q : Int32) : mo S (s_move S p q).2 := by unfold s_move; (repeat' split) <;> exact mo.cg rfl rfl rfl rfl
theorem m_set (p t i v : Int32) : mo S (s_set S p t i v).2 := by unfold s_set; (repeat' split) <;> exact mo.cg rfl rfl rfl rfl
theorem m_lay (p i q : Int32) : mo S (s_lay S p i q).2 := by unfold s_lay; (repeat' split) <;> exact mo.cg rfl rfl rfl rfl
theorem m_take (p q i : Int32) : mo S (s_take S p q i).2 := by unfold s_take; (repeat' split) <;> exact mo.cg rfl rfl rfl rfl
theorem m_term (p q i : Int32) : mo S (s_term S p q i).2 := by unfold s_term; (repeat' split) <;> exact mo.cg rfl rfl rfl rfl
theorem mo_cpy {j a q b n : Nat} : mo S (cpyS (thS S) j a q b n) := by unfold cpyS; (repeat' split) <;> exact mo.cg rfl rfl rfl rfl
theorem m_copy (p a q e n : Int32) : mo S (s_copy S p a q e n).2 := by unfold s_copy; (repeat' split) <;> first | exact mo.qt Qt.th | exact mo.qt Qt.fl | exact mo_cpy
theorem m_twin (p q : Int32) : mo S (s_twin S p q).2 := by unfold s_twin; (repeat' split) <;> first | exact mo.qt Qt.th | exact mo.qt Qt.fl | exact mo_b1 rfl rfl rfl rfl | exact mo.cg rfl rfl rfl rfl
theorem m_table (p : Int32) (kb : Nat) (n : Int32) : mo S (s_table S p kb n).2 := by
  unfold s_table
  split
  · split
    · refine ⟨Nat.le_refl _, Nat.le_refl _, ?_⟩
      show szS S (S.1 13) ≤ szS (holdS (newT (thS S) kb (szF (pl n))) (pl p) (if kb = 0 then 4 else 5) (S.1 13)) (S.1 13 + 1)
      have e : szS (holdS (newT (thS S) kb (szF (pl n))) (pl p) (if kb = 0 then 4 else 5) (S.1 13)) (S.1 13) = szS S (S.1 13) := szS_eq (S.1 13) (fun t ht => va_up_ne _ _ (show t ≠ S.1 13 by omega))
      rw [szS, e]
      omega
    · exact mo.qt Qt.th
  · exact mo.qt Qt.th
theorem m_add (p q : Int32) : mo S (s_add S p q).2 := by unfold s_add; (repeat' split) <;> first | exact mo.qt Qt.th | exact mo.qt Qt.fl | exact (mo.qt Qt.th).tr mo_com
theorem m_merge (p q : Int32) : mo S (s_merge S p q).2 := by unfold s_merge; (repeat' split) <;> first | exact mo.qt Qt.th | exact mo.qt Qt.fl | exact (mo.qt Qt.th).tr (mo_mg _ _ _ _)
end Mo9
theorem szS_le {S : aS} : ∀ n, (∀ t, t < n → S.2.1 15 t ≤ 256) → szS S n ≤ 256 * n
  | 0, _ => Nat.le_refl _
  | n + 1, h => by
    have := szS_le n (fun t ht => h t (by omega))
    have := h n (by omega)
    rw [szS]
    omega
/-- what the whole run may take -/
theorem rm_bd {k : Nat} {S : aS} (h : LI k S) (hk : k ≤ 512) : rmC aS0 S ≤ 200000 ∧ rmS aS0 S ≤ 800000 := by
  have h4 := h.b4 hk
  have h13 := h.2.1.2.2.1
  have hp := h.pool
  have hc := (capN_le (show S.1 21 ≤ 1024 by omega)).2.1
  have hs := szS_le (S := S) (S.1 13) (fun t ht => (sz_b (h.1.tk ht).1).2)
  have e : aS0.1 4 = 0 := rfl
  unfold rmC rmS
  rw [e]
  omega
theorem LI_0 : LI 0 aS0 := by
  refine ⟨⟨⟨by decide, by decide, by decide, by decide, by decide⟩, fun j hj => ⟨Nat.zero_le _, fun _ => rfl, fun z => absurd (show (0 : Nat) = 1 from z) (by decide), fun z => absurd (show (0 : Nat) = 2 from z) (by decide), fun z => absurd (show (0 : Nat) = 3 from z) (by decide), fun z => absurd (show 3 < (0 : Nat) from z) (by decide)⟩, fun r hr => Nat.zero_le _, fun r hr => Nat.zero_le _, fun r hr => Nat.zero_le _, fun i hi => Nat.zero_le _, fun t ht => absurd (show t < 0 from ht) (by omega), fun k hk => absurd (show k < 0 from hk) (by omega), fun i hi => rfl, fun i hi => rfl⟩, ⟨Nat.le_refl _, Nat.le_refl _, Nat.le_refl _, Nat.le_refl _, Nat.le_refl _⟩, [], [], ⟨fun r hr => absurd (show r < 0 from hr) (by omega), fun r hr => Nat.zero_le _, fun k hk => absurd (show k < 0 from hk) (by omega), fun k k' hk => absurd (show k < 0 from hk) (by omega), fun k k' hk => absurd (show k < 0 from hk) (by omega)⟩, Nat.le_refl _, Nat.le_refl _⟩
