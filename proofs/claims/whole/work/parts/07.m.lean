/-- the state that both sides hold: numbers by the reference's fields (S.1), its arrays of counts (S.2.1), its arrays of bytes and signs (S.2.2) -/
abbrev aS : Type := (Nat → Nat) × (Nat → Nat → Nat) × (Nat → Nat → Int32)
def aSc (S : aS) (k v : Nat) : aS := (va_up S.1 k v, S.2.1, S.2.2)
def aN (S : aS) (k j v : Nat) : aS := (S.1, va_up S.2.1 k (va_up (S.2.1 k) j v), S.2.2)
def aW (S : aS) (k j : Nat) (x : Int32) : aS := (S.1, S.2.1, va_up S.2.2 k (va_up (S.2.2 k) j x))
abbrev cyT (cy : Nat → ClassId) : List (ClassId × FieldType) := [(cy 0, .byte), (cy 1, .char), (cy 2, .int), (cy 3, .boolean), (cy 4, .object "KeptTerms$Bytes"), (cy 5, .object "KeptTerms$Thing"), (cy 6, .long)]
def mFs (ad : Nat → Nat) (S : aS) : List Value := [.int (nI (S.1 0)), .int (nI (S.1 1)), .ref (ad 2), .ref (ad 3), .int (nI (S.1 4)), .ref (ad 5), .ref (ad 6), .int (nI (S.1 7)), .ref (ad 8), .ref (ad 9), .int (nI (S.1 10)), .ref (ad 11), .ref (ad 12), .int (nI (S.1 13)), .ref (ad 14), .ref (ad 15), .ref (ad 16), .ref (ad 17), .ref (ad 18), .ref (ad 19), .ref (ad 20), .int (nI (S.1 21)), .ref (ad 22), .long (lN (S.1 23)), .int (nI (S.1 24)), .ref (ad 25)]
def mIx : List Nat := [2, 3, 5, 6, 8, 9, 11, 12, 14, 15, 16, 17, 18, 19, 20, 22, 25]
def mV (S : aS) (k : Nat) : Nat → Int32 := match k with
  | 6 => S.2.2 6
  | 9 => S.2.2 9
  | 25 => S.2.2 25
  | k => fun j => nI (S.2.1 k j)
def mN (k : Nat) : Nat := match k with
  | 2 => 10
  | 3 => 10
  | 5 => 40000
  | 6 => 640000
  | 8 => 600
  | 9 => 9600
  | 11 => 600
  | 12 => 9600
  | 14 => 520
  | 15 => 520
  | 16 => 520
  | 17 => 520
  | 18 => 520
  | 19 => 133120
  | 20 => 52000
  | 22 => 40000
  | 25 => 16
  | _ => 0
def mT (k : Nat) : Nat := match k with
  | 14 => 3
  | _ => 2
def mE (cy : Nat → ClassId) (S : aS) (k : Nat) : va_E := .inl (cy (mT k), mN k, .inl (mV S k))
def mL (o : Nat) (ad : Nat → Nat) : List Nat := o :: mIx.map ad
def mW (o : Nat) (ad : Nat → Nat) (cy : Nat → ClassId) (S : aS) : Nat → va_E := fun a => if a = o then .inr (7, mFs ad S) else match mIx.find? (fun k => ad k == a) with
  | some k => mE cy S k
  | none => .inr (0, [])
def mOk (o : Nat) (ad : Nat → Nat) : Prop := (∀ k ∈ mIx, ad k ≠ o) ∧ ∀ j ∈ mIx, ∀ k ∈ mIx, ad j = ad k → j = k
theorem mW_o {o : Nat} {ad : Nat → Nat} {cy : Nat → ClassId} {S : aS} : mW o ad cy S o = .inr (7, mFs ad S) := if_pos rfl
theorem mW_k {o : Nat} {ad : Nat → Nat} {cy : Nat → ClassId} {S : aS} (h : mOk o ad) {k : Nat} (hk : k ∈ mIx) : mW o ad cy S (ad k) = mE cy S k := by
  unfold mW
  rw [if_neg (h.1 k hk)]
  cases hf : mIx.find? (fun j => ad j == ad k) with
  | none => exact absurd (List.find?_eq_none.mp hf k hk) (by simp)
  | some j =>
    have h1 : ad j = ad k := by simpa using List.find?_some hf
    have h2 := h.2 j (List.mem_of_find?_eq_some hf) k hk h1
    subst h2
    rfl
theorem mL_o {o : Nat} {ad : Nat → Nat} : o ∈ mL o ad := List.mem_cons_self
theorem mL_k {o : Nat} {ad : Nat → Nat} {k : Nat} (hk : k ∈ mIx) : ad k ∈ mL o ad := List.mem_cons_of_mem _ (List.mem_map.mpr ⟨k, hk, rfl⟩)
theorem mW_sc {o : Nat} {ad : Nat → Nat} {cy : Nat → ClassId} {S S' : aS} (h : S'.2 = S.2) (a : Nat) : va_up (mW o ad cy S) o (.inr (7, mFs ad S')) a = mW o ad cy S' a := by
  have he : ∀ k, mE cy S' k = mE cy S k := fun k => by unfold mE mV; rw [h]
  by_cases ha : a = o
  · subst ha; rw [va_up_self, mW_o]
  · rw [va_up_ne _ _ ha]; unfold mW; rw [if_neg ha, if_neg ha]; cases mIx.find? (fun k => ad k == a) with
    | none => rfl
    | some k => exact (he k).symm
theorem mW_ar {o : Nat} {ad : Nat → Nat} {cy : Nat → ClassId} {S S' : aS} (h : mOk o ad) {k : Nat} (hk : k ∈ mIx) (h1 : S'.1 = S.1) (h2 : ∀ j, j ≠ k → mV S' j = mV S j) (a : Nat) : va_up (mW o ad cy S) (ad k) (mE cy S' k) a = mW o ad cy S' a := by
  have hF : mFs ad S' = mFs ad S := by unfold mFs; rw [h1]
  by_cases ha : a = ad k
  · subst ha; rw [va_up_self, mW_k h hk]
  · rw [va_up_ne _ _ ha]; unfold mW; rw [hF]
    by_cases ho : a = o
    · rw [if_pos ho, if_pos ho]
    · rw [if_neg ho, if_neg ho]
      cases hf : mIx.find? (fun k => ad k == a) with
      | none => rfl
      | some j =>
        have h3 : ad j = a := by simpa using List.find?_some hf
        have hjk : j ≠ k := fun q => ha (by rw [← h3, q])
        show mE cy S j = mE cy S' j
        unfold mE; rw [h2 j hjk]
theorem aN_V {S : aS} {k j x : Nat} {i : Nat} (hi : i ≠ k) : mV (aN S k j x) i = mV S i := by
  unfold mV; split <;> first | rfl | (simp only [aN, va_up_ne _ _ hi])
theorem aW_V {S : aS} {k j : Nat} {x : Int32} {i : Nat} (hi : i ≠ k) : mV (aW S k j x) i = mV S i := by
  unfold mV; split <;> first | rfl | (simp only [aW, va_up_ne _ _ hi])
section MR
variable {X : gX} {l : Launch} {R : Room} {D : va_G} {cy : Nat → ClassId} {K : gKt} {cc : ByteArray} {nL : Nat} {Ts : List Cond} {own : String} {cells slots pc : Nat} {lv lv' : List (Nat × Value)} {st : List Value} {o : Nat} {ad : Nat → Nat} {S : aS}
theorem m_get_0 (hC : gC X l R D vwCl (cyT cy) K cc nL Ts RX10) (hin : ∀ w ∈ wsX100, w ∈ Ts) {index : Nat} (hlink : Cond.fieldLink RX10 index "KeptTermsModel" "thrown" "I" ∈ Ts) (hd : decode cc pc = .ok (.getfield index, 3)) (k : gW X vwCl nL (mL o ad) (mW o ad cy S) cells slots (pc + 3) lv (.int (nI (S.1 0)) :: st)) : gW X vwCl nL (mL o ad) (mW o ad cy S) cells slots pc lv (.ref o :: st) :=
  g_get hC hin rfl mL_o mW_o 0 (by decide) hlink (Or.inl rfl) rfl hd k
theorem m_put_0 (hC : gC X l R D vwCl (cyT cy) K cc nL Ts RX10) (hin : ∀ w ∈ wsX100, w ∈ Ts) {index x : Nat} (hlink : Cond.fieldLink RX10 index "KeptTermsModel" "thrown" "I" ∈ Ts) (hd : decode cc pc = .ok (.putfield index, 3)) (k : gW X vwCl nL (mL o ad) (mW o ad cy (aSc S 0 x)) cells slots (pc + 3) lv st) : gW X vwCl nL (mL o ad) (mW o ad cy S) cells slots pc lv (.int (nI x) :: .ref o :: st) :=
  g_put hC hin tyX10 tyX10_ok nmX10 rfl mL_o mW_o 0 (by decide) hlink (Or.inl rfl) rfl (ty := .int) (by decide +kernel) rfl rfl (by show 0 < 26; decide) hd (g_world rfl (fun a => mW_sc (o := o) (ad := ad) (cy := cy) (S := S) (S' := aSc S 0 x) rfl a) k)
theorem m_get_1 (hC : gC X l R D vwCl (cyT cy) K cc nL Ts RX10) (hin : ∀ w ∈ wsX100, w ∈ Ts) {index : Nat} (hlink : Cond.fieldLink RX10 index "KeptTermsModel" "fault" "I" ∈ Ts) (hd : decode cc pc = .ok (.getfield index, 3)) (k : gW X vwCl nL (mL o ad) (mW o ad cy S) cells slots (pc + 3) lv (.int (nI (S.1 1)) :: st)) : gW X vwCl nL (mL o ad) (mW o ad cy S) cells slots pc lv (.ref o :: st) :=
  g_get hC hin rfl mL_o mW_o 1 (by decide) hlink (Or.inl rfl) rfl hd k
theorem m_put_1 (hC : gC X l R D vwCl (cyT cy) K cc nL Ts RX10) (hin : ∀ w ∈ wsX100, w ∈ Ts) {index x : Nat} (hlink : Cond.fieldLink RX10 index "KeptTermsModel" "fault" "I" ∈ Ts) (hd : decode cc pc = .ok (.putfield index, 3)) (k : gW X vwCl nL (mL o ad) (mW o ad cy (aSc S 1 x)) cells slots (pc + 3) lv st) : gW X vwCl nL (mL o ad) (mW o ad cy S) cells slots pc lv (.int (nI x) :: .ref o :: st) :=
  g_put hC hin tyX10 tyX10_ok nmX10 rfl mL_o mW_o 1 (by decide) hlink (Or.inl rfl) rfl (ty := .int) (by decide +kernel) rfl rfl (by show 1 < 26; decide) hd (g_world rfl (fun a => mW_sc (o := o) (ad := ad) (cy := cy) (S := S) (S' := aSc S 1 x) rfl a) k)
theorem m_get_2 (hC : gC X l R D vwCl (cyT cy) K cc nL Ts RX10) (hin : ∀ w ∈ wsX100, w ∈ Ts) {index : Nat} (hlink : Cond.fieldLink RX10 index "KeptTermsModel" "kind" "[I" ∈ Ts) (hd : decode cc pc = .ok (.getfield index, 3)) (k : gW X vwCl nL (mL o ad) (mW o ad cy S) cells slots (pc + 3) lv (.ref (ad 2) :: st)) : gW X vwCl nL (mL o ad) (mW o ad cy S) cells slots pc lv (.ref o :: st) :=
  g_get hC hin rfl mL_o mW_o 2 (by decide) hlink (Or.inl rfl) rfl hd k
theorem m_get_3 (hC : gC X l R D vwCl (cyT cy) K cc nL Ts RX10) (hin : ∀ w ∈ wsX100, w ∈ Ts) {index : Nat} (hlink : Cond.fieldLink RX10 index "KeptTermsModel" "which" "[I" ∈ Ts) (hd : decode cc pc = .ok (.getfield index, 3)) (k : gW X vwCl nL (mL o ad) (mW o ad cy S) cells slots (pc + 3) lv (.ref (ad 3) :: st)) : gW X vwCl nL (mL o ad) (mW o ad cy S) cells slots pc lv (.ref o :: st) :=
  g_get hC hin rfl mL_o mW_o 3 (by decide) hlink (Or.inl rfl) rfl hd k
theorem m_get_4 (hC : gC X l R D vwCl (cyT cy) K cc nL Ts RX10) (hin : ∀ w ∈ wsX100, w ∈ Ts) {index : Nat} (hlink : Cond.fieldLink RX10 index "KeptTermsModel" "byteRows" "I" ∈ Ts) (hd : decode cc pc = .ok (.getfield index, 3)) (k : gW X vwCl nL (mL o ad) (mW o ad cy S) cells slots (pc + 3) lv (.int (nI (S.1 4)) :: st)) : gW X vwCl nL (mL o ad) (mW o ad cy S) cells slots pc lv (.ref o :: st) :=
  g_get hC hin rfl mL_o mW_o 4 (by decide) hlink (Or.inl rfl) rfl hd k
theorem m_put_4 (hC : gC X l R D vwCl (cyT cy) K cc nL Ts RX10) (hin : ∀ w ∈ wsX100, w ∈ Ts) {index x : Nat} (hlink : Cond.fieldLink RX10 index "KeptTermsModel" "byteRows" "I" ∈ Ts) (hd : decode cc pc = .ok (.putfield index, 3)) (k : gW X vwCl nL (mL o ad) (mW o ad cy (aSc S 4 x)) cells slots (pc + 3) lv st) : gW X vwCl nL (mL o ad) (mW o ad cy S) cells slots pc lv (.int (nI x) :: .ref o :: st) :=
  g_put hC hin tyX10 tyX10_ok nmX10 rfl mL_o mW_o 4 (by decide) hlink (Or.inl rfl) rfl (ty := .int) (by decide +kernel) rfl rfl (by show 4 < 26; decide) hd (g_world rfl (fun a => mW_sc (o := o) (ad := ad) (cy := cy) (S := S) (S' := aSc S 4 x) rfl a) k)
theorem m_get_5 (hC : gC X l R D vwCl (cyT cy) K cc nL Ts RX10) (hin : ∀ w ∈ wsX100, w ∈ Ts) {index : Nat} (hlink : Cond.fieldLink RX10 index "KeptTermsModel" "byteLong" "[I" ∈ Ts) (hd : decode cc pc = .ok (.getfield index, 3)) (k : gW X vwCl nL (mL o ad) (mW o ad cy S) cells slots (pc + 3) lv (.ref (ad 5) :: st)) : gW X vwCl nL (mL o ad) (mW o ad cy S) cells slots pc lv (.ref o :: st) :=
  g_get hC hin rfl mL_o mW_o 5 (by decide) hlink (Or.inl rfl) rfl hd k
theorem m_get_6 (hC : gC X l R D vwCl (cyT cy) K cc nL Ts RX10) (hin : ∀ w ∈ wsX100, w ∈ Ts) {index : Nat} (hlink : Cond.fieldLink RX10 index "KeptTermsModel" "byteCell" "[I" ∈ Ts) (hd : decode cc pc = .ok (.getfield index, 3)) (k : gW X vwCl nL (mL o ad) (mW o ad cy S) cells slots (pc + 3) lv (.ref (ad 6) :: st)) : gW X vwCl nL (mL o ad) (mW o ad cy S) cells slots pc lv (.ref o :: st) :=
  g_get hC hin rfl mL_o mW_o 6 (by decide) hlink (Or.inl rfl) rfl hd k
theorem m_get_7 (hC : gC X l R D vwCl (cyT cy) K cc nL Ts RX10) (hin : ∀ w ∈ wsX100, w ∈ Ts) {index : Nat} (hlink : Cond.fieldLink RX10 index "KeptTermsModel" "signRows" "I" ∈ Ts) (hd : decode cc pc = .ok (.getfield index, 3)) (k : gW X vwCl nL (mL o ad) (mW o ad cy S) cells slots (pc + 3) lv (.int (nI (S.1 7)) :: st)) : gW X vwCl nL (mL o ad) (mW o ad cy S) cells slots pc lv (.ref o :: st) :=
  g_get hC hin rfl mL_o mW_o 7 (by decide) hlink (Or.inl rfl) rfl hd k
theorem m_put_7 (hC : gC X l R D vwCl (cyT cy) K cc nL Ts RX10) (hin : ∀ w ∈ wsX100, w ∈ Ts) {index x : Nat} (hlink : Cond.fieldLink RX10 index "KeptTermsModel" "signRows" "I" ∈ Ts) (hd : decode cc pc = .ok (.putfield index, 3)) (k : gW X vwCl nL (mL o ad) (mW o ad cy (aSc S 7 x)) cells slots (pc + 3) lv st) : gW X vwCl nL (mL o ad) (mW o ad cy S) cells slots pc lv (.int (nI x) :: .ref o :: st) :=
  g_put hC hin tyX10 tyX10_ok nmX10 rfl mL_o mW_o 7 (by decide) hlink (Or.inl rfl) rfl (ty := .int) (by decide +kernel) rfl rfl (by show 7 < 26; decide) hd (g_world rfl (fun a => mW_sc (o := o) (ad := ad) (cy := cy) (S := S) (S' := aSc S 7 x) rfl a) k)
theorem m_get_8 (hC : gC X l R D vwCl (cyT cy) K cc nL Ts RX10) (hin : ∀ w ∈ wsX100, w ∈ Ts) {index : Nat} (hlink : Cond.fieldLink RX10 index "KeptTermsModel" "signLong" "[I" ∈ Ts) (hd : decode cc pc = .ok (.getfield index, 3)) (k : gW X vwCl nL (mL o ad) (mW o ad cy S) cells slots (pc + 3) lv (.ref (ad 8) :: st)) : gW X vwCl nL (mL o ad) (mW o ad cy S) cells slots pc lv (.ref o :: st) :=
  g_get hC hin rfl mL_o mW_o 8 (by decide) hlink (Or.inl rfl) rfl hd k
theorem m_get_9 (hC : gC X l R D vwCl (cyT cy) K cc nL Ts RX10) (hin : ∀ w ∈ wsX100, w ∈ Ts) {index : Nat} (hlink : Cond.fieldLink RX10 index "KeptTermsModel" "signCell" "[I" ∈ Ts) (hd : decode cc pc = .ok (.getfield index, 3)) (k : gW X vwCl nL (mL o ad) (mW o ad cy S) cells slots (pc + 3) lv (.ref (ad 9) :: st)) : gW X vwCl nL (mL o ad) (mW o ad cy S) cells slots pc lv (.ref o :: st) :=
  g_get hC hin rfl mL_o mW_o 9 (by decide) hlink (Or.inl rfl) rfl hd k
theorem m_get_10 (hC : gC X l R D vwCl (cyT cy) K cc nL Ts RX10) (hin : ∀ w ∈ wsX100, w ∈ Ts) {index : Nat} (hlink : Cond.fieldLink RX10 index "KeptTermsModel" "rowRows" "I" ∈ Ts) (hd : decode cc pc = .ok (.getfield index, 3)) (k : gW X vwCl nL (mL o ad) (mW o ad cy S) cells slots (pc + 3) lv (.int (nI (S.1 10)) :: st)) : gW X vwCl nL (mL o ad) (mW o ad cy S) cells slots pc lv (.ref o :: st) :=
  g_get hC hin rfl mL_o mW_o 10 (by decide) hlink (Or.inl rfl) rfl hd k
theorem m_put_10 (hC : gC X l R D vwCl (cyT cy) K cc nL Ts RX10) (hin : ∀ w ∈ wsX100, w ∈ Ts) {index x : Nat} (hlink : Cond.fieldLink RX10 index "KeptTermsModel" "rowRows" "I" ∈ Ts) (hd : decode cc pc = .ok (.putfield index, 3)) (k : gW X vwCl nL (mL o ad) (mW o ad cy (aSc S 10 x)) cells slots (pc + 3) lv st) : gW X vwCl nL (mL o ad) (mW o ad cy S) cells slots pc lv (.int (nI x) :: .ref o :: st) :=
  g_put hC hin tyX10 tyX10_ok nmX10 rfl mL_o mW_o 10 (by decide) hlink (Or.inl rfl) rfl (ty := .int) (by decide +kernel) rfl rfl (by show 10 < 26; decide) hd (g_world rfl (fun a => mW_sc (o := o) (ad := ad) (cy := cy) (S := S) (S' := aSc S 10 x) rfl a) k)
theorem m_get_11 (hC : gC X l R D vwCl (cyT cy) K cc nL Ts RX10) (hin : ∀ w ∈ wsX100, w ∈ Ts) {index : Nat} (hlink : Cond.fieldLink RX10 index "KeptTermsModel" "rowLong" "[I" ∈ Ts) (hd : decode cc pc = .ok (.getfield index, 3)) (k : gW X vwCl nL (mL o ad) (mW o ad cy S) cells slots (pc + 3) lv (.ref (ad 11) :: st)) : gW X vwCl nL (mL o ad) (mW o ad cy S) cells slots pc lv (.ref o :: st) :=
  g_get hC hin rfl mL_o mW_o 11 (by decide) hlink (Or.inl rfl) rfl hd k
theorem m_get_12 (hC : gC X l R D vwCl (cyT cy) K cc nL Ts RX10) (hin : ∀ w ∈ wsX100, w ∈ Ts) {index : Nat} (hlink : Cond.fieldLink RX10 index "KeptTermsModel" "rowCell" "[I" ∈ Ts) (hd : decode cc pc = .ok (.getfield index, 3)) (k : gW X vwCl nL (mL o ad) (mW o ad cy S) cells slots (pc + 3) lv (.ref (ad 12) :: st)) : gW X vwCl nL (mL o ad) (mW o ad cy S) cells slots pc lv (.ref o :: st) :=
  g_get hC hin rfl mL_o mW_o 12 (by decide) hlink (Or.inl rfl) rfl hd k
theorem m_get_13 (hC : gC X l R D vwCl (cyT cy) K cc nL Ts RX10) (hin : ∀ w ∈ wsX100, w ∈ Ts) {index : Nat} (hlink : Cond.fieldLink RX10 index "KeptTermsModel" "tables" "I" ∈ Ts) (hd : decode cc pc = .ok (.getfield index, 3)) (k : gW X vwCl nL (mL o ad) (mW o ad cy S) cells slots (pc + 3) lv (.int (nI (S.1 13)) :: st)) : gW X vwCl nL (mL o ad) (mW o ad cy S) cells slots pc lv (.ref o :: st) :=
  g_get hC hin rfl mL_o mW_o 13 (by decide) hlink (Or.inl rfl) rfl hd k
theorem m_put_13 (hC : gC X l R D vwCl (cyT cy) K cc nL Ts RX10) (hin : ∀ w ∈ wsX100, w ∈ Ts) {index x : Nat} (hlink : Cond.fieldLink RX10 index "KeptTermsModel" "tables" "I" ∈ Ts) (hd : decode cc pc = .ok (.putfield index, 3)) (k : gW X vwCl nL (mL o ad) (mW o ad cy (aSc S 13 x)) cells slots (pc + 3) lv st) : gW X vwCl nL (mL o ad) (mW o ad cy S) cells slots pc lv (.int (nI x) :: .ref o :: st) :=
  g_put hC hin tyX10 tyX10_ok nmX10 rfl mL_o mW_o 13 (by decide) hlink (Or.inl rfl) rfl (ty := .int) (by decide +kernel) rfl rfl (by show 13 < 26; decide) hd (g_world rfl (fun a => mW_sc (o := o) (ad := ad) (cy := cy) (S := S) (S' := aSc S 13 x) rfl a) k)
theorem m_get_14 (hC : gC X l R D vwCl (cyT cy) K cc nL Ts RX10) (hin : ∀ w ∈ wsX100, w ∈ Ts) {index : Nat} (hlink : Cond.fieldLink RX10 index "KeptTermsModel" "keeps" "[Z" ∈ Ts) (hd : decode cc pc = .ok (.getfield index, 3)) (k : gW X vwCl nL (mL o ad) (mW o ad cy S) cells slots (pc + 3) lv (.ref (ad 14) :: st)) : gW X vwCl nL (mL o ad) (mW o ad cy S) cells slots pc lv (.ref o :: st) :=
  g_get hC hin rfl mL_o mW_o 14 (by decide) hlink (Or.inl rfl) rfl hd k
theorem m_get_15 (hC : gC X l R D vwCl (cyT cy) K cc nL Ts RX10) (hin : ∀ w ∈ wsX100, w ∈ Ts) {index : Nat} (hlink : Cond.fieldLink RX10 index "KeptTermsModel" "slots" "[I" ∈ Ts) (hd : decode cc pc = .ok (.getfield index, 3)) (k : gW X vwCl nL (mL o ad) (mW o ad cy S) cells slots (pc + 3) lv (.ref (ad 15) :: st)) : gW X vwCl nL (mL o ad) (mW o ad cy S) cells slots pc lv (.ref o :: st) :=
  g_get hC hin rfl mL_o mW_o 15 (by decide) hlink (Or.inl rfl) rfl hd k
theorem m_get_16 (hC : gC X l R D vwCl (cyT cy) K cc nL Ts RX10) (hin : ∀ w ∈ wsX100, w ∈ Ts) {index : Nat} (hlink : Cond.fieldLink RX10 index "KeptTermsModel" "terms" "[I" ∈ Ts) (hd : decode cc pc = .ok (.getfield index, 3)) (k : gW X vwCl nL (mL o ad) (mW o ad cy S) cells slots (pc + 3) lv (.ref (ad 16) :: st)) : gW X vwCl nL (mL o ad) (mW o ad cy S) cells slots pc lv (.ref o :: st) :=
  g_get hC hin rfl mL_o mW_o 16 (by decide) hlink (Or.inl rfl) rfl hd k
theorem m_get_17 (hC : gC X l R D vwCl (cyT cy) K cc nL Ts RX10) (hin : ∀ w ∈ wsX100, w ∈ Ts) {index : Nat} (hlink : Cond.fieldLink RX10 index "KeptTermsModel" "probes" "[I" ∈ Ts) (hd : decode cc pc = .ok (.getfield index, 3)) (k : gW X vwCl nL (mL o ad) (mW o ad cy S) cells slots (pc + 3) lv (.ref (ad 17) :: st)) : gW X vwCl nL (mL o ad) (mW o ad cy S) cells slots pc lv (.ref o :: st) :=
  g_get hC hin rfl mL_o mW_o 17 (by decide) hlink (Or.inl rfl) rfl hd k
theorem m_get_18 (hC : gC X l R D vwCl (cyT cy) K cc nL Ts RX10) (hin : ∀ w ∈ wsX100, w ∈ Ts) {index : Nat} (hlink : Cond.fieldLink RX10 index "KeptTermsModel" "grew" "[I" ∈ Ts) (hd : decode cc pc = .ok (.getfield index, 3)) (k : gW X vwCl nL (mL o ad) (mW o ad cy S) cells slots (pc + 3) lv (.ref (ad 18) :: st)) : gW X vwCl nL (mL o ad) (mW o ad cy S) cells slots pc lv (.ref o :: st) :=
  g_get hC hin rfl mL_o mW_o 18 (by decide) hlink (Or.inl rfl) rfl hd k
theorem m_get_19 (hC : gC X l R D vwCl (cyT cy) K cc nL Ts RX10) (hin : ∀ w ∈ wsX100, w ∈ Ts) {index : Nat} (hlink : Cond.fieldLink RX10 index "KeptTermsModel" "slotOf" "[I" ∈ Ts) (hd : decode cc pc = .ok (.getfield index, 3)) (k : gW X vwCl nL (mL o ad) (mW o ad cy S) cells slots (pc + 3) lv (.ref (ad 19) :: st)) : gW X vwCl nL (mL o ad) (mW o ad cy S) cells slots pc lv (.ref o :: st) :=
  g_get hC hin rfl mL_o mW_o 19 (by decide) hlink (Or.inl rfl) rfl hd k
theorem m_get_20 (hC : gC X l R D vwCl (cyT cy) K cc nL Ts RX10) (hin : ∀ w ∈ wsX100, w ∈ Ts) {index : Nat} (hlink : Cond.fieldLink RX10 index "KeptTermsModel" "termOf" "[I" ∈ Ts) (hd : decode cc pc = .ok (.getfield index, 3)) (k : gW X vwCl nL (mL o ad) (mW o ad cy S) cells slots (pc + 3) lv (.ref (ad 20) :: st)) : gW X vwCl nL (mL o ad) (mW o ad cy S) cells slots pc lv (.ref o :: st) :=
  g_get hC hin rfl mL_o mW_o 20 (by decide) hlink (Or.inl rfl) rfl hd k
theorem m_get_21 (hC : gC X l R D vwCl (cyT cy) K cc nL Ts RX10) (hin : ∀ w ∈ wsX100, w ∈ Ts) {index : Nat} (hlink : Cond.fieldLink RX10 index "KeptTermsModel" "keptMany" "I" ∈ Ts) (hd : decode cc pc = .ok (.getfield index, 3)) (k : gW X vwCl nL (mL o ad) (mW o ad cy S) cells slots (pc + 3) lv (.int (nI (S.1 21)) :: st)) : gW X vwCl nL (mL o ad) (mW o ad cy S) cells slots pc lv (.ref o :: st) :=
  g_get hC hin rfl mL_o mW_o 21 (by decide) hlink (Or.inl rfl) rfl hd k
theorem m_put_21 (hC : gC X l R D vwCl (cyT cy) K cc nL Ts RX10) (hin : ∀ w ∈ wsX100, w ∈ Ts) {index x : Nat} (hlink : Cond.fieldLink RX10 index "KeptTermsModel" "keptMany" "I" ∈ Ts) (hd : decode cc pc = .ok (.putfield index, 3)) (k : gW X vwCl nL (mL o ad) (mW o ad cy (aSc S 21 x)) cells slots (pc + 3) lv st) : gW X vwCl nL (mL o ad) (mW o ad cy S) cells slots pc lv (.int (nI x) :: .ref o :: st) :=
  g_put hC hin tyX10 tyX10_ok nmX10 rfl mL_o mW_o 21 (by decide) hlink (Or.inl rfl) rfl (ty := .int) (by decide +kernel) rfl rfl (by show 21 < 26; decide) hd (g_world rfl (fun a => mW_sc (o := o) (ad := ad) (cy := cy) (S := S) (S' := aSc S 21 x) rfl a) k)
theorem m_get_22 (hC : gC X l R D vwCl (cyT cy) K cc nL Ts RX10) (hin : ∀ w ∈ wsX100, w ∈ Ts) {index : Nat} (hlink : Cond.fieldLink RX10 index "KeptTermsModel" "keptRow" "[I" ∈ Ts) (hd : decode cc pc = .ok (.getfield index, 3)) (k : gW X vwCl nL (mL o ad) (mW o ad cy S) cells slots (pc + 3) lv (.ref (ad 22) :: st)) : gW X vwCl nL (mL o ad) (mW o ad cy S) cells slots pc lv (.ref o :: st) :=
  g_get hC hin rfl mL_o mW_o 22 (by decide) hlink (Or.inl rfl) rfl hd k
theorem m_get_23 (hC : gC X l R D vwCl (cyT cy) K cc nL Ts RX10) (hin : ∀ w ∈ wsX100, w ∈ Ts) {index : Nat} (hlink : Cond.fieldLink RX10 index "KeptTermsModel" "allProbes" "J" ∈ Ts) (hd : decode cc pc = .ok (.getfield index, 3)) (k : gW X vwCl nL (mL o ad) (mW o ad cy S) cells slots (pc + 3) lv (.long (lN (S.1 23)) :: st)) : gW X vwCl nL (mL o ad) (mW o ad cy S) cells slots pc lv (.ref o :: st) :=
  g_get hC hin rfl mL_o mW_o 23 (by decide) hlink (Or.inl rfl) rfl hd k
theorem m_put_23 (hC : gC X l R D vwCl (cyT cy) K cc nL Ts RX10) (hin : ∀ w ∈ wsX100, w ∈ Ts) {index x : Nat} (hlink : Cond.fieldLink RX10 index "KeptTermsModel" "allProbes" "J" ∈ Ts) (hd : decode cc pc = .ok (.putfield index, 3)) (k : gW X vwCl nL (mL o ad) (mW o ad cy (aSc S 23 x)) cells slots (pc + 3) lv st) : gW X vwCl nL (mL o ad) (mW o ad cy S) cells slots pc lv (.long (lN x) :: .ref o :: st) :=
  g_put hC hin tyX10 tyX10_ok nmX10 rfl mL_o mW_o 23 (by decide) hlink (Or.inl rfl) rfl (ty := .long) (by decide +kernel) rfl rfl (by show 23 < 26; decide) hd (g_world rfl (fun a => mW_sc (o := o) (ad := ad) (cy := cy) (S := S) (S' := aSc S 23 x) rfl a) k)
theorem m_get_24 (hC : gC X l R D vwCl (cyT cy) K cc nL Ts RX10) (hin : ∀ w ∈ wsX100, w ∈ Ts) {index : Nat} (hlink : Cond.fieldLink RX10 index "KeptTermsModel" "looks" "I" ∈ Ts) (hd : decode cc pc = .ok (.getfield index, 3)) (k : gW X vwCl nL (mL o ad) (mW o ad cy S) cells slots (pc + 3) lv (.int (nI (S.1 24)) :: st)) : gW X vwCl nL (mL o ad) (mW o ad cy S) cells slots pc lv (.ref o :: st) :=
  g_get hC hin rfl mL_o mW_o 24 (by decide) hlink (Or.inl rfl) rfl hd k
theorem m_put_24 (hC : gC X l R D vwCl (cyT cy) K cc nL Ts RX10) (hin : ∀ w ∈ wsX100, w ∈ Ts) {index x : Nat} (hlink : Cond.fieldLink RX10 index "KeptTermsModel" "looks" "I" ∈ Ts) (hd : decode cc pc = .ok (.putfield index, 3)) (k : gW X vwCl nL (mL o ad) (mW o ad cy (aSc S 24 x)) cells slots (pc + 3) lv st) : gW X vwCl nL (mL o ad) (mW o ad cy S) cells slots pc lv (.int (nI x) :: .ref o :: st) :=
  g_put hC hin tyX10 tyX10_ok nmX10 rfl mL_o mW_o 24 (by decide) hlink (Or.inl rfl) rfl (ty := .int) (by decide +kernel) rfl rfl (by show 24 < 26; decide) hd (g_world rfl (fun a => mW_sc (o := o) (ad := ad) (cy := cy) (S := S) (S' := aSc S 24 x) rfl a) k)
theorem m_get_25 (hC : gC X l R D vwCl (cyT cy) K cc nL Ts RX10) (hin : ∀ w ∈ wsX100, w ∈ Ts) {index : Nat} (hlink : Cond.fieldLink RX10 index "KeptTermsModel" "hands" "[I" ∈ Ts) (hd : decode cc pc = .ok (.getfield index, 3)) (k : gW X vwCl nL (mL o ad) (mW o ad cy S) cells slots (pc + 3) lv (.ref (ad 25) :: st)) : gW X vwCl nL (mL o ad) (mW o ad cy S) cells slots pc lv (.ref o :: st) :=
  g_get hC hin rfl mL_o mW_o 25 (by decide) hlink (Or.inl rfl) rfl hd k
theorem m_aldN (hC : gC X l R D vwCl (cyT cy) K cc nL Ts RX10) (hok : mOk o ad) {k : Nat} (hk : k ∈ mIx) (hT : mT k = 2) (hV : mV S k = fun j => nI (S.2.1 k j)) (hn : Nat.blt (mN k) 2147483648 = true) {j : Nat} (hd : decode cc pc = .ok (.iaload, 1)) (hj : j < mN k) (kk : gW X vwCl nL (mL o ad) (mW o ad cy S) cells slots (pc + 1) lv (.int (nI (S.2.1 k j)) :: st)) : gW X vwCl nL (mL o ad) (mW o ad cy S) cells slots pc lv (.int (nI j) :: .ref (ad k) :: st) :=
  g_iald hC 2 (by rw [hT]; rfl) (mL_k hk) (mW_k hok hk) j rfl hj (by simpa using hn) hd (by rw [hV]; exact kk)
theorem m_aldW (hC : gC X l R D vwCl (cyT cy) K cc nL Ts RX10) (hok : mOk o ad) {k : Nat} (hk : k ∈ mIx) (hT : mT k = 2) (hV : mV S k = S.2.2 k) (hn : Nat.blt (mN k) 2147483648 = true) {j : Nat} (hd : decode cc pc = .ok (.iaload, 1)) (hj : j < mN k) (kk : gW X vwCl nL (mL o ad) (mW o ad cy S) cells slots (pc + 1) lv (.int (S.2.2 k j) :: st)) : gW X vwCl nL (mL o ad) (mW o ad cy S) cells slots pc lv (.int (nI j) :: .ref (ad k) :: st) :=
  g_iald hC 2 (by rw [hT]; rfl) (mL_k hk) (mW_k hok hk) j rfl hj (by simpa using hn) hd (by rw [hV]; exact kk)
theorem m_aldZ (hC : gC X l R D vwCl (cyT cy) K cc nL Ts RX10) (hok : mOk o ad) {j : Nat} (hd : decode cc pc = .ok (.baload, 1)) (hj : j < 520) (kk : gW X vwCl nL (mL o ad) (mW o ad cy S) cells slots (pc + 1) lv (.int (nI (S.2.1 14 j)) :: st)) : gW X vwCl nL (mL o ad) (mW o ad cy S) cells slots pc lv (.int (nI j) :: .ref (ad 14) :: st) :=
  g_zald hC 3 rfl (mL_k (by decide)) (mW_k hok (k := 14) (by decide)) j rfl hj (by decide) hd kk
theorem m_astN (hC : gC X l R D vwCl (cyT cy) K cc nL Ts RX10) (hok : mOk o ad) {k : Nat} (hk : k ∈ mIx) (hT : mT k = 2) (hV : ∀ S' : aS, mV S' k = fun j => nI (S'.2.1 k j)) (hn : Nat.blt (mN k) 2147483648 = true) {j x : Nat} (hd : decode cc pc = .ok (.iastore, 1)) (hj : j < mN k) (kk : gW X vwCl nL (mL o ad) (mW o ad cy (aN S k j x)) cells slots (pc + 1) lv st) : gW X vwCl nL (mL o ad) (mW o ad cy S) cells slots pc lv (.int (nI x) :: .int (nI j) :: .ref (ad k) :: st) := by
  refine g_iast hC 2 (by rw [hT]; rfl) (mL_k hk) (mW_k hok hk) j rfl hj (by simpa using hn) hd (g_world rfl (fun a => ?_) kk)
  rw [← mW_ar (S := S) (S' := aN S k j x) hok hk rfl (fun i hi => aN_V hi)]
  congr 1
  unfold mE
  rw [hV, hV]
  congr 4
  funext i
  by_cases hi : i = j
  · subst hi; simp [upd, aN, va_up]
  · simp [upd, aN, va_up, hi]
theorem m_astW (hC : gC X l R D vwCl (cyT cy) K cc nL Ts RX10) (hok : mOk o ad) {k : Nat} (hk : k ∈ mIx) (hT : mT k = 2) (hV : ∀ S' : aS, mV S' k = S'.2.2 k) (hn : Nat.blt (mN k) 2147483648 = true) {j : Nat} {x : Int32} (hd : decode cc pc = .ok (.iastore, 1)) (hj : j < mN k) (kk : gW X vwCl nL (mL o ad) (mW o ad cy (aW S k j x)) cells slots (pc + 1) lv st) : gW X vwCl nL (mL o ad) (mW o ad cy S) cells slots pc lv (.int x :: .int (nI j) :: .ref (ad k) :: st) := by
  refine g_iast hC 2 (by rw [hT]; rfl) (mL_k hk) (mW_k hok hk) j rfl hj (by simpa using hn) hd (g_world rfl (fun a => ?_) kk)
  rw [← mW_ar (S := S) (S' := aW S k j x) hok hk rfl (fun i hi => aW_V hi)]
  congr 1
  unfold mE
  rw [hV, hV]
  congr 4
  funext i
  by_cases hi : i = j
  · subst hi; simp [upd, aW, va_up]
  · simp [upd, aW, va_up, hi]
theorem m_astZ (hC : gC X l R D vwCl (cyT cy) K cc nL Ts RX10) (hok : mOk o ad) {j x : Nat} (hx : x < 2) (hd : decode cc pc = .ok (.bastore, 1)) (hj : j < 520) (kk : gW X vwCl nL (mL o ad) (mW o ad cy (aN S 14 j x)) cells slots (pc + 1) lv st) : gW X vwCl nL (mL o ad) (mW o ad cy S) cells slots pc lv (.int (nI x) :: .int (nI j) :: .ref (ad 14) :: st) := by
  have hz : vp_nar .boolean (nI x) = nI x := by
    rcases (show x = 0 ∨ x = 1 by omega) with rfl | rfl <;> decide +kernel
  refine g_zast hC 3 rfl (mL_k (by decide)) (mW_k hok (k := 14) (by decide)) j rfl hj (by decide) hd (g_world rfl (fun a => ?_) kk)
  rw [← mW_ar (S := S) (S' := aN S 14 j x) hok (k := 14) (by decide) rfl (fun i hi => aN_V hi)]
  congr 1
  unfold mE
  congr 4
  funext i
  by_cases hi : i = j
  · subst hi; simp [upd, aN, va_up, mV, hz]
  · simp [upd, aN, va_up, mV, hi]
end MR
