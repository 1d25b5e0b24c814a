theorem st_prim {s : State} {args : Array Value} {ty : FieldType} (hr : ∀ c, va_RA s c ty = (s.vm.findClass ("[" ++ ty.toString) = some c)) (h : (Cond.arrayClass ty).before args s = true) : ∃ c, ArrOfT s c ty ∧ va_RA s c ty := by
  obtain ⟨c, k, comp, h1, h2, h3⟩ := Cond.arrayClass_spec h
  exact ⟨c, fun n z => ⟨(fun k h => by cases h), k, h2, comp, h3⟩, by rw [hr]; exact h1⟩
theorem st_obj {s : State} {args : Array Value} {C : String} (h : (Cond.arrayOver (.object C)).before args s = true) : ∃ c, ArrOfT s c (.object C) ∧ va_RA s c (.object C) := by
  obtain ⟨comp, c, k, h1, -, h3, h4, h5⟩ := Cond.arrayOver_spec h
  exact ⟨c, fun n z => ⟨(fun k h => by cases h), k, h3, comp, h4⟩, k, comp, h3, h4, h1, h5⟩
set_option maxRecDepth 20000 in
theorem st_K {s : State} {args : Array Value} (hts : ∀ w ∈ lw_tbl, w.before args s = true) : ∃ (D : va_G) (cy : Nat → ClassId), va_K D vwCl (cyT cy) s := by
  obtain ⟨c0, i0, k0⟩ := u_known (C := RX0) (T := TX0) (N := 1) (n := 1) hts li_wsX00 (hts (.instantiable RX0 1) (by decide +kernel))
  obtain ⟨c1, i1, k1⟩ := u_known (C := RX1) (T := TX1) (N := 6) (n := 6) hts li_wsX10 (hts (.instantiable RX1 6) (by decide +kernel))
  obtain ⟨c2, i2, k2⟩ := u_known (C := RX3) (T := TX3) (N := 2) (n := 2) hts li_wsX30 (hts (.instantiable RX3 2) (by decide +kernel))
  obtain ⟨c3, i3, k3⟩ := u_known (C := RX5) (T := TX5) (N := 1) (n := 1) hts li_wsX50 (hts (.instantiable RX5 1) (by decide +kernel))
  obtain ⟨c4, i4, k4⟩ := u_known (C := RX6) (T := TX6) (N := 1) (n := 1) hts li_wsX60 (hts (.instantiable RX6 1) (by decide +kernel))
  obtain ⟨c5, i5, k5⟩ := u_known (C := RX7) (T := TX7) (N := 5) (n := 5) hts li_wsX70 (hts (.instantiable RX7 5) (by decide +kernel))
  obtain ⟨c6, i6, k6⟩ := u_known (C := RX9) (T := TX9) (N := 6) (n := 6) hts li_wsX90 (hts (.instantiable RX9 6) (by decide +kernel))
  obtain ⟨c7, i7, k7⟩ := u_known (C := RX10) (T := TX10) (N := 26) (n := 26) hts li_wsX100 (hts (.instantiable RX10 26) (by decide +kernel))
  obtain ⟨a0, b0⟩ := st_prim (ty := .byte) (fun _ => rfl) (hts _ (by decide +kernel))
  obtain ⟨a1, b1⟩ := st_prim (ty := .char) (fun _ => rfl) (hts _ (by decide +kernel))
  obtain ⟨a2, b2⟩ := st_prim (ty := .int) (fun _ => rfl) (hts _ (by decide +kernel))
  obtain ⟨a3, b3⟩ := st_prim (ty := .boolean) (fun _ => rfl) (hts _ (by decide +kernel))
  obtain ⟨a4, b4⟩ := st_obj (C := "KeptTerms$Bytes") (hts _ (by decide +kernel))
  obtain ⟨a5, b5⟩ := st_obj (C := "KeptTerms$Thing") (hts _ (by decide +kernel))
  obtain ⟨a6, b6⟩ := st_prim (ty := .long) (fun _ => rfl) (hts _ (by decide +kernel))
  refine ⟨(fun k => ([c0, c1, c2, c3, c4, c5, c6, c7] : List ClassId).getD k 0, fun k => ([i0, i1, i2, i3, i4, i5, i6, i7] : List (Nat → Nat)).getD k i0), fun k => ([a0, a1, a2, a3, a4, a5, a6] : List ClassId).getD k 0, ?_, ?_⟩
  · intro k q hq
    match k, hq with
    | 0, hq => cases hq; exact k0
    | 1, hq => cases hq; exact k1
    | 2, hq => cases hq; exact k2
    | 3, hq => cases hq; exact k3
    | 4, hq => cases hq; exact k4
    | 5, hq => cases hq; exact k5
    | 6, hq => cases hq; exact k6
    | 7, hq => cases hq; exact k7
    | k + 8, hq => simp [vwCl] at hq
  · intro k q hq
    match k, hq with
    | 0, hq => cases hq; exact b0
    | 1, hq => cases hq; exact b1
    | 2, hq => cases hq; exact b2
    | 3, hq => cases hq; exact b3
    | 4, hq => cases hq; exact b4
    | 5, hq => cases hq; exact b5
    | 6, hq => cases hq; exact b6
    | k + 7, hq => simp at hq
set_option maxRecDepth 20000 in
theorem st_F : ∀ q ∈ kF, Cond.fieldLinkNest q.1 q.2.1 q.2.2.1 q.2.2.2.1 q.2.2.2.2 "KeptTerms" ∈ lw_tbl := by decide +kernel
set_option maxRecDepth 20000 in
theorem st_M : ∀ q ∈ kM, Cond.methodLinkNest q.1 q.2.1 q.2.2 "KeptTerms" ∈ lw_tbl := by decide +kernel
set_option maxRecDepth 20000 in
theorem st_C : ∀ q ∈ kC, Cond.castable q.1 q.2 ∈ lw_tbl := by decide +kernel
set_option maxRecDepth 20000 in
theorem st_D : ∀ q ∈ kD, Cond.declares q ∈ lw_tbl := by decide +kernel
set_option maxRecDepth 20000 in
theorem st_X : ∀ q ∈ kDx, Cond.declares q ∈ lw_tbl := by decide +kernel
abbrev stF : List Cond := flatC (Jvm.Cond.and given_1 narrow_1)
set_option maxRecDepth 20000 in
theorem st_N : ∀ q ∈ kN, Cond.not (Cond.castable q.1 q.2) ∈ stF := by decide +kernel
abbrev stT (i : Nat) : Term := Term.string "KeptTerms" (kIx.getD i 0)
set_option maxRecDepth 20000 in
theorem st_ex : ∀ i, i < 8 → Cond.exactly (stT i) "java/lang/String" ∈ stF := by decide +kernel
set_option maxRecDepth 20000 in
theorem st_co : ∀ i, i < 8 → Cond.eq (.field (stT i) "java/lang/String" "coder" "B") (.int 0) ∈ stF := by decide +kernel
set_option maxRecDepth 20000 in
theorem st_ar : ∀ i, i < 8 → Cond.arrayOf (.field (stT i) "java/lang/String" "value" "[B") .byte ∈ stF := by decide +kernel
set_option maxRecDepth 20000 in
theorem st_le : ∀ i, i < 8 → Cond.eq (.length (.field (stT i) "java/lang/String" "value" "[B")) (.int (Int32.ofNat (kLen.getD i 0))) ∈ stF := by decide +kernel
set_option maxRecDepth 20000 in
theorem st_el : ∀ i, i < 8 → ∀ j, j < kLen.getD i 0 → Cond.eq (.elem (.field (stT i) "java/lang/String" "value" "[B") (.int (Int32.ofNat j))) (.int ((kByt.getD i []).getD j 0)) ∈ stF := by decide +kernel
set_option maxRecDepth 20000 in
theorem st_ne : ∀ i, i < 8 → ∀ j, j < 8 → i ≠ j → Cond.not (Cond.eq (stT i) (stT j)) ∈ stF ∨ Cond.not (Cond.eq (stT j) (stT i)) ∈ stF := by decide +kernel
set_option maxRecDepth 20000 in
theorem st_sr : ∀ i, i < 8 → Cond.stringRef "KeptTerms" (kIx.getD i 0) (kTx.getD i "") ∈ lw_tbl := by decide +kernel
set_option maxRecDepth 20000 in
theorem st_all {s : State} {args : Array Value} (hts : ∀ w ∈ lw_tbl, w.before args s = true) (hfl : ∀ w ∈ stF, w.before args s = true) {A : Nat → Prop} (hA : ∀ a : Nat, a < s.heap.size → ¬ A a) : ∃ (D : va_G) (cy adK adV : Nat → Nat) (sa : Nat), gKM D cy adK adV sa A s := by
  obtain ⟨D, cy, hK⟩ := st_K hts
  obtain ⟨adK, adV, hS, hE⟩ := vk_Sof (args := args) (s := s) (N := 8) (tm := stT) (len := kLen) (byt := kByt) (A := A) (by decide) (fun i hi => hfl _ (st_ex i hi)) (fun i hi => hfl _ (st_co i hi)) (fun i hi => hfl _ (st_ar i hi)) (fun i hi => hfl _ (st_le i hi)) (fun i hi j hj => hfl _ (st_el i hi j hj)) (fun i j hi hj hij => (st_ne i hi j hj hij).elim (fun h => Or.inl (hfl _ h)) (fun h => Or.inr (hfl _ h))) hA
  obtain ⟨sa, -, -, -, hsa, -⟩ := Cond.exactly_spec (args := args) (first := s) (o := none) (s := s) (idx := []) (t := Term.string "KeptTerms" 201) (cls := "java/lang/String") (hfl _ (by decide +kernel))
  refine ⟨D, cy, adK, adV, sa, ⟨⟨hK, fun q hq => va_Nw.of rfl (hts _ (st_F q hq)), fun q hq => va_Nw.of rfl (hts _ (st_M q hq)), fun q hq => va_Nw.of rfl (hts _ (st_C q hq)), fun q hq => va_Nw.of rfl (hts _ (st_D q hq)), fun q hq => va_Nc.of (hfl _ (st_N q hq)), ⟨va_AO.of (hts _ (by decide +kernel)), va_AO.of (hts _ (by decide +kernel))⟩, hS, fun i hi => vk_R.of (hts _ (st_sr i hi)) (hE i hi), va_Zof (hts _ (by decide +kernel)) (hts _ (by decide +kernel)) (va_eqt (hfl (Cond.eq (.static "java/lang/String" "COMPACT_STRINGS" "Z") (.int 1)) (by decide +kernel))) hA⟩, va_Zqof (hts _ (by decide +kernel)) (hts _ (by decide +kernel)) (hfl _ (by decide +kernel)) hA⟩, vx_Zqof (hts _ (by decide +kernel)) (hts _ (by decide +kernel)) (hfl _ (by decide +kernel)) hA, vx_Zqof (hts _ (by decide +kernel)) (hts _ (by decide +kernel)) (hfl _ (by decide +kernel)) hA, vk_R.of (hts _ (by decide +kernel)) hsa, va_Nw.of rfl (hts _ (by decide +kernel)), fun q hq => va_Nw.of rfl (hts _ (st_X q hq))⟩
