theorem g_aastQ {X : gX} {l : Launch} {R : Room} {D : va_G} {cl : List vw_C} {tys : List (ClassId × FieldType)} {K : gKt} {cc : ByteArray} {nL : Nat} {Ts : List Cond} {own : String} {L : List Nat} {f : Nat → va_E} {cells slots pc : Nat} {lv : List (Nat × Value)} {st : List Value} (hC : gC X l R D cl tys K cc nL Ts own) {a ci : Nat} {o : Option Nat} {cA : ClassId} {n : Nat} {r : vw_C} {g : Nat → Option Nat} {i : Int32} (t0 : Nat) (ht : tys[t0]? = some (cA, .object r.1)) (ho : ∀ b, o = some b → b ∈ L ∧ ∃ vs, f b = .inr (ci, vs)) (hc : cl[ci]? = some r) (hL : a ∈ L) (hf : f a = .inl (cA, n, .inr (.inr (.inr (.inr g))))) (j : Nat) (hj : i = nI j) (hjn : j < n) (hn : n < 2 ^ 31) (hd : decode cc pc = .ok (.aastore, 1)) (k : gW X cl nL L (va_up f a (.inl (cA, n, .inr (.inr (.inr (.inr (va_up g j o))))))) cells slots (pc + 1) lv st) : gW X cl nL L f cells slots pc lv (va_rf o :: .int i :: .ref a :: st) := by
  cases o with
  | none => exact g_aastN hC t0 ht hL hf j hj hjn hn hd k
  | some b =>
    obtain ⟨h1, vs, h2⟩ := ho b rfl
    exact g_aast hC t0 ht hc h1 h2 hL hf j hj hjn hn hd k
theorem fit_c {x : Int32} (h : x.toUInt32.toUInt16.toUInt32.toInt32 = x) : fits .char (.int x) = true := by
  have e : x.toUInt32.toUInt16.toUInt32 = x.toUInt32 % 65536 := by
    apply UInt32.toNat_inj.mp
    simp
  rw [← h, e]
  exact pk_fc x
theorem fit_b {x : Int32} (h : x.toInt8.toInt32 = x) : fits .byte (.int x) = true := by rw [← h]; exact pk_fb x
theorem cut_c (v : Int32) : (v.toUInt32 % 65536).toInt32 = v &&& nI 65535 := (pk_char v).trans (pk_and v 16 (pk_tn (by decide))).symm
/-- the same for all that the class holds -/
theorem xR.eqv {cy : Nat → ClassId} {S S' : aS} {b : xB} {L : List Nat} {f : Nat → va_E} (h : xR cy S b L f) (hA : xA S S') (hF : xF S) (h4 : S'.1 4 = S.1 4) (h7 : S'.1 7 = S.1 7) (h10 : S'.1 10 = S.1 10) (h13 : S'.1 13 = S.1 13) : xR cy S' b L f := by
  have hv : ∀ k r, xV S' k r → xV S k r := fun k r hk => hk.cs (P := fun k r => xV S k r) (fun h => show _ < S.1 4 from h4 ▸ h) (fun h => show _ < S.1 4 from h4 ▸ h) (fun h => show _ < S.1 7 from h7 ▸ h) (fun h => show _ < S.1 7 from h7 ▸ h) (fun h => show _ < S.1 10 from h10 ▸ h) (fun h => show _ < S.1 10 from h10 ▸ h) (fun h => show _ < S.1 13 from h13 ▸ h) (fun h => show _ < S.1 13 from h13 ▸ h) (fun h => show _ < S.1 13 from h13 ▸ h) (show 0 < 4 by decide) (show 1 < 4 by decide) (show 2 < 4 by decide) (show 3 < 4 by decide) (show 0 < 1 by decide)
  exact ⟨fun k r hk => ⟨(h.1 k r (hv k r hk)).1, (h.1 k r (hv k r hk)).2.trans (xE_ext hA hF (fun _ _ _ => rfl) rfl (hv k r hk)).symm⟩, fun k r k' r' h1 h2 => h.2 k r k' r' (hv _ _ h1) (hv _ _ h2)⟩
theorem xV.n0 {S S' : aS} (h4 : S'.1 4 = S.1 4 + 1) (h7 : S'.1 7 = S.1 7) (h10 : S'.1 10 = S.1 10) (h13 : S'.1 13 = S.1 13) (k r : Nat) (hk : xV S' k r) : xV S k r ∨ ((k = 0 ∨ k = 0 + 1) ∧ r = S.1 4) :=
  hk.cs (P := fun k r => xV S k r ∨ ((k = 0 ∨ k = 0 + 1) ∧ r = S.1 4))
  (fun h => by
    by_cases e : r = S.1 4
    · exact Or.inr ⟨by omega, e⟩
    · exact Or.inl (show r < S.1 4 by omega))
  (fun h => by
    by_cases e : r = S.1 4
    · exact Or.inr ⟨by omega, e⟩
    · exact Or.inl (show r < S.1 4 by omega))
  (fun h => Or.inl (show r < S.1 7 by omega))
  (fun h => Or.inl (show r < S.1 7 by omega))
  (fun h => Or.inl (show r < S.1 10 by omega))
  (fun h => Or.inl (show r < S.1 10 by omega))
  (fun h => Or.inl (show r < S.1 13 by omega))
  (fun h => Or.inl (show r < S.1 13 by omega))
  (fun h => Or.inl (show r < S.1 13 by omega))
  (Or.inl (show 0 < 4 by decide))
  (Or.inl (show 1 < 4 by decide))
  (Or.inl (show 2 < 4 by decide))
  (Or.inl (show 3 < 4 by decide))
  (Or.inl (show 0 < 1 by decide))
theorem xV.n2 {S S' : aS} (h4 : S'.1 4 = S.1 4) (h7 : S'.1 7 = S.1 7 + 1) (h10 : S'.1 10 = S.1 10) (h13 : S'.1 13 = S.1 13) (k r : Nat) (hk : xV S' k r) : xV S k r ∨ ((k = 2 ∨ k = 2 + 1) ∧ r = S.1 7) :=
  hk.cs (P := fun k r => xV S k r ∨ ((k = 2 ∨ k = 2 + 1) ∧ r = S.1 7))
  (fun h => Or.inl (show r < S.1 4 by omega))
  (fun h => Or.inl (show r < S.1 4 by omega))
  (fun h => by
    by_cases e : r = S.1 7
    · exact Or.inr ⟨by omega, e⟩
    · exact Or.inl (show r < S.1 7 by omega))
  (fun h => by
    by_cases e : r = S.1 7
    · exact Or.inr ⟨by omega, e⟩
    · exact Or.inl (show r < S.1 7 by omega))
  (fun h => Or.inl (show r < S.1 10 by omega))
  (fun h => Or.inl (show r < S.1 10 by omega))
  (fun h => Or.inl (show r < S.1 13 by omega))
  (fun h => Or.inl (show r < S.1 13 by omega))
  (fun h => Or.inl (show r < S.1 13 by omega))
  (Or.inl (show 0 < 4 by decide))
  (Or.inl (show 1 < 4 by decide))
  (Or.inl (show 2 < 4 by decide))
  (Or.inl (show 3 < 4 by decide))
  (Or.inl (show 0 < 1 by decide))
theorem xV.n4 {S S' : aS} (h4 : S'.1 4 = S.1 4) (h7 : S'.1 7 = S.1 7) (h10 : S'.1 10 = S.1 10 + 1) (h13 : S'.1 13 = S.1 13) (k r : Nat) (hk : xV S' k r) : xV S k r ∨ ((k = 4 ∨ k = 4 + 1) ∧ r = S.1 10) :=
  hk.cs (P := fun k r => xV S k r ∨ ((k = 4 ∨ k = 4 + 1) ∧ r = S.1 10))
  (fun h => Or.inl (show r < S.1 4 by omega))
  (fun h => Or.inl (show r < S.1 4 by omega))
  (fun h => Or.inl (show r < S.1 7 by omega))
  (fun h => Or.inl (show r < S.1 7 by omega))
  (fun h => by
    by_cases e : r = S.1 10
    · exact Or.inr ⟨by omega, e⟩
    · exact Or.inl (show r < S.1 10 by omega))
  (fun h => by
    by_cases e : r = S.1 10
    · exact Or.inr ⟨by omega, e⟩
    · exact Or.inl (show r < S.1 10 by omega))
  (fun h => Or.inl (show r < S.1 13 by omega))
  (fun h => Or.inl (show r < S.1 13 by omega))
  (fun h => Or.inl (show r < S.1 13 by omega))
  (Or.inl (show 0 < 4 by decide))
  (Or.inl (show 1 < 4 by decide))
  (Or.inl (show 2 < 4 by decide))
  (Or.inl (show 3 < 4 by decide))
  (Or.inl (show 0 < 1 by decide))
theorem xA.newB {S : aS} (hI : aI S) {n : Nat} : xA S (newB S n) :=
  ⟨⟨rfl, rfl, rfl, rfl⟩, fun r9 hr => ⟨va_up_ne _ _ (show r9 ≠ S.1 4 by omega), fun i hi => by
    have := hI.bl hr
    show (if 16 * S.1 4 ≤ 16 * r9 + i ∧ 16 * r9 + i < 16 * S.1 4 + 16 then _ else S.2.2 6 (16 * r9 + i)) = _
    rw [if_neg (by omega)]⟩, fun _ _ => ⟨rfl, fun _ _ => rfl⟩, fun _ _ => ⟨rfl, fun _ _ => rfl⟩, fun _ _ => ⟨rfl, rfl, rfl, rfl, rfl, fun _ _ => rfl, fun _ _ => rfl⟩, fun _ _ => rfl, fun _ _ => ⟨rfl, rfl⟩⟩
theorem xA.twinB {S : aS} (hI : aI S) {r : Nat} : xA S (twinB S r) :=
  ⟨⟨rfl, rfl, rfl, rfl⟩, fun r9 hr => ⟨va_up_ne _ _ (show r9 ≠ S.1 4 by omega), fun i hi => by
    have := hI.bl hr
    show (if 16 * S.1 4 ≤ 16 * r9 + i ∧ 16 * r9 + i < 16 * S.1 4 + 16 then _ else (if 16 * S.1 4 ≤ 16 * r9 + i ∧ 16 * r9 + i < 16 * S.1 4 + 16 then _ else S.2.2 6 (16 * r9 + i))) = _
    rw [if_neg (by omega), if_neg (by omega)]⟩, fun _ _ => ⟨rfl, fun _ _ => rfl⟩, fun _ _ => ⟨rfl, fun _ _ => rfl⟩, fun _ _ => ⟨rfl, rfl, rfl, rfl, rfl, fun _ _ => rfl, fun _ _ => rfl⟩, fun _ _ => rfl, fun _ _ => ⟨rfl, rfl⟩⟩
theorem xA.newG {S : aS} (hI : aI S) {n : Nat} {g : Nat → Int32} : xA S (aSc (newSg S n g) 7 (S.1 7 + 1)) :=
  ⟨⟨rfl, rfl, rfl, rfl⟩, fun _ _ => ⟨rfl, fun _ _ => rfl⟩, fun r9 hr => ⟨va_up_ne _ _ (show r9 ≠ S.1 7 by omega), fun i hi => by
    have := hI.2.2.2.1 r9 hr
    show (if 16 * S.1 7 ≤ 16 * r9 + i ∧ 16 * r9 + i < 16 * S.1 7 + 16 then _ else S.2.2 9 (16 * r9 + i)) = _
    rw [if_neg (by omega)]⟩, fun _ _ => ⟨rfl, fun _ _ => rfl⟩, fun _ _ => ⟨rfl, rfl, rfl, rfl, rfl, fun _ _ => rfl, fun _ _ => rfl⟩, fun _ _ => rfl, fun _ _ => ⟨rfl, rfl⟩⟩
theorem xA.newW {S : aS} (hI : aI S) {n : Nat} {g : Nat → Nat} : xA S (aSc (newRw S n g) 10 (S.1 10 + 1)) :=
  ⟨⟨rfl, rfl, rfl, rfl⟩, fun _ _ => ⟨rfl, fun _ _ => rfl⟩, fun _ _ => ⟨rfl, fun _ _ => rfl⟩, fun r9 hr => ⟨va_up_ne _ _ (show r9 ≠ S.1 10 by omega), fun i hi => by
    have := hI.2.2.2.2.1 r9 hr
    show (if 16 * S.1 10 ≤ 16 * r9 + i ∧ 16 * r9 + i < 16 * S.1 10 + 16 then _ else S.2.1 12 (16 * r9 + i)) = _
    rw [if_neg (by omega)]⟩, fun _ _ => ⟨rfl, rfl, rfl, rfl, rfl, fun _ _ => rfl, fun _ _ => rfl⟩, fun _ _ => rfl, fun _ _ => ⟨rfl, rfl⟩⟩
theorem xR.rowB {cy : Nat → ClassId} {S : aS} {b : xB} {L : List Nat} {f : Nat → va_E} {q c : Nat} {n : Nat} (h : xR cy S b L f) (hI : aI S) (hn : n ≤ 16) (hq : xN cy S b L f q (.inr (0, [.ref c]))) (hc : xN cy S b L f c (iA (cy 0) n (fun _ => 0))) (hqc : q ≠ c) : xR cy (newB S n) (bkU b 0 (S.1 4) q c) L f ∧ xG S b (bkU b 0 (S.1 4) q c) :=
  h.row 0 (by decide) hq hc hqc (show ¬ (S.1 4 < S.1 4) by omega) (xA.newB hI) (xF.of hI) (xV.n0 rfl rfl rfl rfl) (show ¬ (S.1 4 < S.1 4) by omega)
    (by show _ = Sum.inr (0, [Value.ref ((bkU b 0 (S.1 4) q c).1 (0 + 1) (S.1 4))]); rw [bkU_c])
    (by
      show _ = iA (cy 0) ((newB S n).2.1 5 (S.1 4)) (bcF (newB S n) (S.1 4))
      rw [show (newB S n).2.1 5 (S.1 4) = n from va_up_self _ _ _]
      refine congrArg (iA (cy 0) n) (funext fun i => ?_)
      unfold bcF
      rw [show (newB S n).2.1 5 (S.1 4) = n from va_up_self _ _ _]
      by_cases e : i < n
      · rw [if_pos e]
        show (0 : Int32) = (if 16 * S.1 4 ≤ 16 * S.1 4 + i ∧ 16 * S.1 4 + i < 16 * S.1 4 + 16 then 0 else _)
        rw [if_pos (by omega)]
      · rw [if_neg e]
        skip)
theorem xR.rowT {cy : Nat → ClassId} {S : aS} {b : xB} {L : List Nat} {f : Nat → va_E} {q c : Nat} {r : Nat} (h : xR cy S b L f) (hI : aI S) (hr : r < S.1 4) (hq : xN cy S b L f q (.inr (0, [.ref c]))) (hc : xN cy S b L f c (iA (cy 0) (S.2.1 5 r) (bcF S r))) (hqc : q ≠ c) : xR cy (twinB S r) (bkU b 0 (S.1 4) q c) L f ∧ xG S b (bkU b 0 (S.1 4) q c) :=
  h.row 0 (by decide) hq hc hqc (show ¬ (S.1 4 < S.1 4) by omega) (xA.twinB hI) (xF.of hI) (xV.n0 rfl rfl rfl rfl) (show ¬ (S.1 4 < S.1 4) by omega)
    (by show _ = Sum.inr (0, [Value.ref ((bkU b 0 (S.1 4) q c).1 (0 + 1) (S.1 4))]); rw [bkU_c])
    (by
      show _ = iA (cy 0) ((twinB S r).2.1 5 (S.1 4)) (bcF (twinB S r) (S.1 4))
      rw [show (twinB S r).2.1 5 (S.1 4) = S.2.1 5 r from va_up_self _ _ _]
      refine congrArg (iA (cy 0) (S.2.1 5 r)) (funext fun i => ?_)
      unfold bcF
      rw [show (twinB S r).2.1 5 (S.1 4) = S.2.1 5 r from va_up_self _ _ _]
      by_cases e : i < S.2.1 5 r
      · rw [if_pos e]
        have := hI.bl hr
        rw [if_pos e]
        show _ = (if 16 * S.1 4 ≤ 16 * S.1 4 + i ∧ 16 * S.1 4 + i < 16 * S.1 4 + 16 then S.2.2 6 (16 * r + (16 * S.1 4 + i - 16 * S.1 4)) else _)
        rw [if_pos (by omega), show 16 * S.1 4 + i - 16 * S.1 4 = i by omega]
      · rw [if_neg e]
        rw [if_neg e])
theorem xR.rowG {cy : Nat → ClassId} {S : aS} {b : xB} {L : List Nat} {f : Nat → va_E} {q c : Nat} {n : Nat} (h : xR cy S b L f) (hI : aI S) (hn : n ≤ 16) {g G : Nat → Int32} (hG1 : ∀ i, i < n → G i = g i) (hG2 : ∀ i, ¬ i < n → G i = 0) (hq : xN cy S b L f q (.inr (4, [.ref c]))) (hc : xN cy S b L f c (iA (cy 1) n G)) (hqc : q ≠ c) : xR cy (aSc (newSg S n g) 7 (S.1 7 + 1)) (bkU b 2 (S.1 7) q c) L f ∧ xG S b (bkU b 2 (S.1 7) q c) :=
  h.row 2 (by decide) hq hc hqc (show ¬ (S.1 7 < S.1 7) by omega) (xA.newG hI) (xF.of hI) (xV.n2 rfl rfl rfl rfl) (show ¬ (S.1 7 < S.1 7) by omega)
    (by show _ = Sum.inr (4, [Value.ref ((bkU b 2 (S.1 7) q c).1 (2 + 1) (S.1 7))]); rw [bkU_c])
    (by
      show _ = iA (cy 1) ((aSc (newSg S n g) 7 (S.1 7 + 1)).2.1 8 (S.1 7)) (scF (aSc (newSg S n g) 7 (S.1 7 + 1)) (S.1 7))
      rw [show (aSc (newSg S n g) 7 (S.1 7 + 1)).2.1 8 (S.1 7) = n from va_up_self _ _ _]
      refine congrArg (iA (cy 1) n) (funext fun i => ?_)
      unfold scF
      rw [show (aSc (newSg S n g) 7 (S.1 7 + 1)).2.1 8 (S.1 7) = n from va_up_self _ _ _]
      by_cases e : i < n
      · rw [if_pos e]
        show _ = (if 16 * S.1 7 ≤ 16 * S.1 7 + i ∧ 16 * S.1 7 + i < 16 * S.1 7 + 16 then g (16 * S.1 7 + i - 16 * S.1 7) else _)
        rw [if_pos (by omega), show 16 * S.1 7 + i - 16 * S.1 7 = i by omega]
        exact hG1 i e
      · rw [if_neg e]
        exact hG2 i e)
theorem xR.rowW {cy : Nat → ClassId} {S : aS} {b : xB} {L : List Nat} {f : Nat → va_E} {q c : Nat} {n : Nat} (h : xR cy S b L f) (hI : aI S) (hn : n ≤ 16) {g : Nat → Nat} {G : Nat → Option Nat} (hG1 : ∀ i, i < n → G i = rfo b (g i)) (hG2 : ∀ i, ¬ i < n → G i = none) (hq : xN cy S b L f q (.inr (3, [.ref c]))) (hc : xN cy S b L f c (qA (cy 4) n G)) (hqc : q ≠ c) : xR cy (aSc (newRw S n g) 10 (S.1 10 + 1)) (bkU b 4 (S.1 10) q c) L f ∧ xG S b (bkU b 4 (S.1 10) q c) :=
  h.row 4 (by decide) hq hc hqc (show ¬ (S.1 10 < S.1 10) by omega) (xA.newW hI) (xF.of hI) (xV.n4 rfl rfl rfl rfl) (show ¬ (S.1 10 < S.1 10) by omega)
    (by show _ = Sum.inr (3, [Value.ref ((bkU b 4 (S.1 10) q c).1 (4 + 1) (S.1 10))]); rw [bkU_c])
    (by
      show _ = qA (cy 4) ((aSc (newRw S n g) 10 (S.1 10 + 1)).2.1 11 (S.1 10)) (rcF (aSc (newRw S n g) 10 (S.1 10 + 1)) (bkU b 4 (S.1 10) q c) (S.1 10))
      rw [show (aSc (newRw S n g) 10 (S.1 10 + 1)).2.1 11 (S.1 10) = n from va_up_self _ _ _]
      refine congrArg (qA (cy 4) n) (funext fun i => ?_)
      unfold rcF
      rw [show (aSc (newRw S n g) 10 (S.1 10 + 1)).2.1 11 (S.1 10) = n from va_up_self _ _ _]
      by_cases e : i < n
      · rw [if_pos e]
        show _ = rfo _ (if 16 * S.1 10 ≤ 16 * S.1 10 + i ∧ 16 * S.1 10 + i < 16 * S.1 10 + 16 then g (16 * S.1 10 + i - 16 * S.1 10) else _)
        rw [if_pos (by omega), show 16 * S.1 10 + i - 16 * S.1 10 = i by omega, hG1 i e]
        unfold rfo
        rw [bkU_o (by omega)]
      · rw [if_neg e]
        exact hG2 i e)
theorem xR.bcpy {cy : Nat → ClassId} {S : aS} {b : xB} {L : List Nat} {f : Nat → va_E} {r r0 u v w A : Nat} (h : xR cy S b L f) (hl : ∀ r, r < S.1 4 → S.2.1 5 r ≤ 16) (hr : r < S.1 4) (hu : u + w ≤ S.2.1 5 r0) (hv : v + w ≤ S.2.1 5 r) (hA : b.1 1 r = A) : xR cy (aWr S 6 (16 * r + v) w (fun i => S.2.2 6 (16 * r0 + (u + i)))) b L (va_up f A (iA (cy 0) (S.2.1 5 r) (va_cpy (bcF S r0) (bcF S r) u v w))) := by
  have hri := hl r hr
  exact h.up (S' := (aWr S 6 (16 * r + v) w (fun i => S.2.2 6 (16 * r0 + (u + i))))) hA hr (fun k r h => h) (by
    show _ = iA _ _ (bcF (aWr S 6 (16 * r + v) w (fun i => S.2.2 6 (16 * r0 + (u + i)))) r)
    congr 3
    funext i9
    unfold bcF
    show (if v ≤ i9 ∧ i9 < v + w then (if u + (i9 - v) < S.2.1 5 r0 then _ else _) else (if i9 < S.2.1 5 r then _ else _)) = (if i9 < S.2.1 5 r then (if 16 * r + v ≤ 16 * r + i9 ∧ 16 * r + i9 < 16 * r + v + w then S.2.2 6 (16 * r0 + (u + (16 * r + i9 - (16 * r + v)))) else _) else _)
    by_cases e : v ≤ i9 ∧ i9 < v + w
    · rw [if_pos e, if_pos (by omega), if_pos (by omega), if_pos (by omega), show 16 * r + i9 - (16 * r + v) = i9 - v by omega]
    · rw [if_neg e]
      by_cases e2 : i9 < S.2.1 5 r
      · rw [if_pos e2, if_pos e2, if_neg (by omega)]
      · rw [if_neg e2, if_neg e2]) (fun k9 r9 hk9 => hk9.cs (P := fun k9 r9 => (k9 = 1 → r9 ≠ r) → xE cy (aWr S 6 (16 * r + v) w (fun i => S.2.2 6 (16 * r0 + (u + i)))) b k9 r9 = xE cy S b k9 r9)
    (fun hr hne => rfl)
    (fun hr hne => by
      have hne : r9 ≠ r := hne rfl
      show iA _ _ (bcF (aWr S 6 (16 * r + v) w (fun i => S.2.2 6 (16 * r0 + (u + i)))) r9) = iA _ _ (bcF S r9)
      have := hl r9 hr
      unfold bcF
      congr 3
      funext i9
      show (if i9 < S.2.1 5 r9 then (if 16 * r + v ≤ 16 * r9 + i9 ∧ 16 * r9 + i9 < 16 * r + v + w then _ else _) else _) = (if i9 < S.2.1 5 r9 then _ else _)
      by_cases e : i9 < S.2.1 5 r9
      · rw [if_pos e, if_pos e, if_neg (by omega)]
      · rw [if_neg e, if_neg e])
    (fun hr hne => rfl)
    (fun hr hne => rfl)
    (fun hr hne => rfl)
    (fun hr hne => rfl)
    (fun hr hne => rfl)
    (fun hr hne => rfl)
    (fun hr hne => rfl)
    (fun hne => rfl)
    (fun hne => rfl)
    (fun hne => rfl)
    (fun hne => rfl)
    (fun hne => rfl))
theorem xR.scpy {cy : Nat → ClassId} {S : aS} {b : xB} {L : List Nat} {f : Nat → va_E} {r r0 u v w A : Nat} (h : xR cy S b L f) (hl : ∀ r, r < S.1 7 → S.2.1 8 r ≤ 16) (hr : r < S.1 7) (hu : u + w ≤ S.2.1 8 r0) (hv : v + w ≤ S.2.1 8 r) (hA : b.1 3 r = A) : xR cy (aWr S 9 (16 * r + v) w (fun i => S.2.2 9 (16 * r0 + (u + i)))) b L (va_up f A (iA (cy 1) (S.2.1 8 r) (va_cpy (scF S r0) (scF S r) u v w))) := by
  have hri := hl r hr
  exact h.up (S' := (aWr S 9 (16 * r + v) w (fun i => S.2.2 9 (16 * r0 + (u + i))))) hA hr (fun k r h => h) (by
    show _ = iA _ _ (scF (aWr S 9 (16 * r + v) w (fun i => S.2.2 9 (16 * r0 + (u + i)))) r)
    congr 3
    funext i9
    unfold scF
    show (if v ≤ i9 ∧ i9 < v + w then (if u + (i9 - v) < S.2.1 8 r0 then _ else _) else (if i9 < S.2.1 8 r then _ else _)) = (if i9 < S.2.1 8 r then (if 16 * r + v ≤ 16 * r + i9 ∧ 16 * r + i9 < 16 * r + v + w then S.2.2 9 (16 * r0 + (u + (16 * r + i9 - (16 * r + v)))) else _) else _)
    by_cases e : v ≤ i9 ∧ i9 < v + w
    · rw [if_pos e, if_pos (by omega), if_pos (by omega), if_pos (by omega), show 16 * r + i9 - (16 * r + v) = i9 - v by omega]
    · rw [if_neg e]
      by_cases e2 : i9 < S.2.1 8 r
      · rw [if_pos e2, if_pos e2, if_neg (by omega)]
      · rw [if_neg e2, if_neg e2]) (fun k9 r9 hk9 => hk9.cs (P := fun k9 r9 => (k9 = 3 → r9 ≠ r) → xE cy (aWr S 9 (16 * r + v) w (fun i => S.2.2 9 (16 * r0 + (u + i)))) b k9 r9 = xE cy S b k9 r9)
    (fun hr hne => rfl)
    (fun hr hne => rfl)
    (fun hr hne => rfl)
    (fun hr hne => by
      have hne : r9 ≠ r := hne rfl
      show iA _ _ (scF (aWr S 9 (16 * r + v) w (fun i => S.2.2 9 (16 * r0 + (u + i)))) r9) = iA _ _ (scF S r9)
      have := hl r9 hr
      unfold scF
      congr 3
      funext i9
      show (if i9 < S.2.1 8 r9 then (if 16 * r + v ≤ 16 * r9 + i9 ∧ 16 * r9 + i9 < 16 * r + v + w then _ else _) else _) = (if i9 < S.2.1 8 r9 then _ else _)
      by_cases e : i9 < S.2.1 8 r9
      · rw [if_pos e, if_pos e, if_neg (by omega)]
      · rw [if_neg e, if_neg e])
    (fun hr hne => rfl)
    (fun hr hne => rfl)
    (fun hr hne => rfl)
    (fun hr hne => rfl)
    (fun hr hne => rfl)
    (fun hne => rfl)
    (fun hne => rfl)
    (fun hne => rfl)
    (fun hne => rfl)
    (fun hne => rfl))
theorem xR.rcE {cy : Nat → ClassId} {S : aS} {b : xB} {L : List Nat} {f : Nat → va_E} {r i : Nat} (h : xR cy S b L f) (hF : xF S) (hr : r < S.1 10) : ∀ a, rcF S b r i = some a → a ∈ L ∧ ∃ vs, f a = .inr (0, vs) := by
  intro a ha
  unfold rcF rfo at ha
  by_cases e : i < S.2.1 11 r
  · rw [if_pos e] at ha
    by_cases e2 : S.2.1 12 (16 * r + i) = 0
    · rw [if_pos e2] at ha; cases ha
    · rw [if_neg e2] at ha
      have := hF.2.1 r hr i e
      have := h.B (r := S.2.1 12 (16 * r + i) - 1) (by omega) rfl
      cases ha
      exact ⟨this.1, _, this.2⟩
  · rw [if_neg e] at ha; cases ha
theorem xR.rfE {cy : Nat → ClassId} {S : aS} {b : xB} {L : List Nat} {f : Nat → va_E} {x : Nat} (h : xR cy S b L f) (hx : x ≤ S.1 4) : ∀ a, rfo b x = some a → a ∈ L ∧ ∃ vs, f a = .inr (0, vs) := by
  intro a ha
  unfold rfo at ha
  by_cases e2 : x = 0
  · rw [if_pos e2] at ha; cases ha
  · rw [if_neg e2] at ha
    have := h.B (r := x - 1) (by omega) rfl
    cases ha
    exact ⟨this.1, _, this.2⟩
theorem up_lt {α : Type} {g : Nat → α} {z : α} {k : Nat} : va_up (fun i => if i < k then g i else z) k (g k) = fun i => if i < k + 1 then g i else z := by
  funext i
  show (if i = k then g k else (if i < k then g i else z)) = _
  by_cases e : i = k
  · subst e; rw [if_pos rfl, if_pos (by omega)]
  · rw [if_neg e]
    by_cases h : i < k
    · rw [if_pos h, if_pos (by omega)]
    · rw [if_neg h, if_neg (by omega)]
theorem min_nI {n m : Nat} (hn : n ≤ 16) (hm : m ≤ 16) : (if nI m < nI n then nI m else nI n) = nI (if n < m then n else m) := by
  have h : nI m < nI n ↔ m < n := by rw [Int32.lt_iff_toInt_lt, nI_toInt (by omega), nI_toInt (by omega)]; omega
  by_cases e : m < n
  · rw [if_pos (h.mpr e), if_neg (by omega)]
  · rw [if_neg (fun q => e (h.mp q))]
    by_cases e2 : n < m
    · rw [if_pos e2]
    · rw [if_neg e2, show n = m by omega]
theorem pos_of {x : Int32} (h : ¬ x < 0) (h0 : x ≠ 0) : 0 < x := by
  rw [Int32.lt_iff_toInt_lt, Int32.toInt_zero] at *
  have : x.toInt ≠ 0 := fun q => h0 (Int32.toInt_inj.mp (by rw [q, Int32.toInt_zero]))
  omega
section X6
variable {l : Launch} {D : va_G} {cy adK adV : Nat → Nat} {L : List Nat} {f : Nat → va_E}
set_option maxRecDepth 20000 in
set_option maxHeartbeats 4000000 in
theorem x_8_init (a : Nat) : gCt l D vwCl (gKK D cy adK adV) yX8_init wsX8_init { frames := 1, cells := 0, slots := 0, locals := 20 } [.ref a] L f (pE none L f) := by
  refine gCt.of gKK_ok (by decide) rfl rfl (fun X hC hR hnm => ?_)
  have hC : gC X l _ D vwCl (cyT cy) (gKK D cy adK adV) cX8_init 1 wsX8_init RX8 := hC
  show gW X vwCl 1 L f 0 0 0 [(0, .ref a)] []
  refine g_aload_n hC dX8_init_0 rfl 0 rfl (Or.inr ⟨_, rfl⟩) ?_
  refine g_objInit hC (by decide +kernel) (by decide +kernel) (by decide +kernel) (Nat.le_of_ble_eq_true rfl) (Nat.le_of_ble_eq_true rfl) dX8_init_1 ?_
  exact g_vret hC hR dX8_init_4 ⟨rfl, rfl, rfl⟩
set_option maxRecDepth 20000 in
set_option maxHeartbeats 4000000 in
theorem x_4_init (a : Nat) : gCt l D vwCl (gKK D cy adK adV) yX4_init wsX4_init { frames := 2, cells := 0, slots := 0, locals := 40 } [.ref a] L f (pE none L f) := by
  refine gCt.of gKK_ok (by decide) rfl rfl (fun X hC hR hnm => ?_)
  have hC : gC X l _ D vwCl (cyT cy) (gKK D cy adK adV) cX4_init 1 wsX4_init RX4 := hC
  show gW X vwCl 1 L f 0 0 0 [(0, .ref a)] []
  refine g_aload_n hC dX4_init_0 rfl 0 rfl (Or.inr ⟨_, rfl⟩) ?_
  refine g_IN (As := []) (st := []) hC 0 dX4_init_1 ggX4_init_X8_init rfl (by decide +kernel) (gKK_M ("KeptTerms$Row", 1, yX8_init) (by decide)) (by decide +kernel) rfl (by decide +kernel) ⟨Nat.le_of_ble_eq_true rfl, Nat.le_of_ble_eq_true rfl⟩ rfl (Nat.le_of_ble_eq_true rfl) ⟨(Nat.le_of_ble_eq_true rfl), (Nat.le_of_ble_eq_true rfl)⟩ (c2 := 0) (s2 := 0) rfl rfl (x_8_init a) ?_
  exact g_vret hC hR dX4_init_4 ⟨rfl, rfl, rfl⟩
set_option maxRecDepth 20000 in
set_option maxHeartbeats 4000000 in
theorem x_2_init (a : Nat) : gCt l D vwCl (gKK D cy adK adV) yX2_init wsX2_init { frames := 3, cells := 0, slots := 0, locals := 60 } [.ref a] L f (pE none L f) := by
  refine gCt.of gKK_ok (by decide) rfl rfl (fun X hC hR hnm => ?_)
  have hC : gC X l _ D vwCl (cyT cy) (gKK D cy adK adV) cX2_init 1 wsX2_init RX2 := hC
  show gW X vwCl 1 L f 0 0 0 [(0, .ref a)] []
  refine g_aload_n hC dX2_init_0 rfl 0 rfl (Or.inr ⟨_, rfl⟩) ?_
  refine g_IN (As := []) (st := []) hC 0 dX2_init_1 ggX2_init_X4_init rfl (by decide +kernel) (gKK_M ("KeptTerms$Numbers", 1, yX4_init) (by decide)) (by decide +kernel) rfl (by decide +kernel) ⟨Nat.le_of_ble_eq_true rfl, Nat.le_of_ble_eq_true rfl⟩ rfl (Nat.le_of_ble_eq_true rfl) ⟨(Nat.le_of_ble_eq_true rfl), (Nat.le_of_ble_eq_true rfl)⟩ (c2 := 0) (s2 := 0) rfl rfl (x_4_init a) ?_
  exact g_vret hC hR dX2_init_4 ⟨rfl, rfl, rfl⟩
set_option maxRecDepth 20000 in
set_option maxHeartbeats 4000000 in
theorem x_0_init (a c : Nat) (ha : a ∈ L ∧ f a = .inr (0, [.null])) : gCt l D vwCl (gKK D cy adK adV) yX0_init wsX0_init { frames := 4, cells := 0, slots := 0, locals := 80 } [.ref a, .ref c] L f (pE none L (va_up f a (.inr (0, [.ref c])))) := by
  refine gCt.of gKK_ok (by decide) rfl rfl (fun X hC hR hnm => ?_)
  have hC : gC X l _ D vwCl (cyT cy) (gKK D cy adK adV) cX0_init 2 wsX0_init RX0 := hC
  show gW X vwCl 2 L f 0 0 0 [(0, .ref a), (1, .ref c)] []
  refine g_aload_n hC dX0_init_0 rfl 0 rfl (Or.inr ⟨_, rfl⟩) ?_
  refine g_IN (As := []) (st := []) hC 0 dX0_init_1 ggX0_init_X2_init rfl (by decide +kernel) (gKK_M ("KeptTerms$Bytes", 3, yX2_init) (by decide)) (by decide +kernel) rfl (by decide +kernel) ⟨Nat.le_of_ble_eq_true rfl, Nat.le_of_ble_eq_true rfl⟩ rfl (Nat.le_of_ble_eq_true rfl) ⟨(Nat.le_of_ble_eq_true rfl), (Nat.le_of_ble_eq_true rfl)⟩ (c2 := 0) (s2 := 0) rfl rfl (x_2_init a) ?_
  refine g_aload_n hC dX0_init_4 rfl 0 rfl (Or.inr ⟨_, rfl⟩) ?_
  refine g_aload_n hC dX0_init_5 rfl 1 rfl (Or.inr ⟨_, rfl⟩) ?_
  refine g_putF hC (by decide +kernel) tyX0 tyX0_ok nmX0 rfl ha.1 ha.2 0 (by decide) (by decide +kernel) (Or.inl rfl) rfl hnm rfl (tyX0_ok 0 (by decide)) rfl rfl (show 0 < 1 by decide) dX0_init_6 ?_
  exact g_vret hC hR dX0_init_9 ⟨rfl, rfl, rfl⟩
set_option maxRecDepth 20000 in
set_option maxHeartbeats 4000000 in
theorem x_6_init (a c : Nat) (ha : a ∈ L ∧ f a = .inr (4, [.null])) : gCt l D vwCl (gKK D cy adK adV) yX6_init wsX6_init { frames := 4, cells := 0, slots := 0, locals := 80 } [.ref a, .ref c] L f (pE none L (va_up f a (.inr (4, [.ref c])))) := by
  refine gCt.of gKK_ok (by decide) rfl rfl (fun X hC hR hnm => ?_)
  have hC : gC X l _ D vwCl (cyT cy) (gKK D cy adK adV) cX6_init 2 wsX6_init RX6 := hC
  show gW X vwCl 2 L f 0 0 0 [(0, .ref a), (1, .ref c)] []
  refine g_aload_n hC dX6_init_0 rfl 0 rfl (Or.inr ⟨_, rfl⟩) ?_
  refine g_IN (As := []) (st := []) hC 0 dX6_init_1 ggX6_init_X2_init rfl (by decide +kernel) (gKK_M ("KeptTerms$Signs", 3, yX2_init) (by decide)) (by decide +kernel) rfl (by decide +kernel) ⟨Nat.le_of_ble_eq_true rfl, Nat.le_of_ble_eq_true rfl⟩ rfl (Nat.le_of_ble_eq_true rfl) ⟨(Nat.le_of_ble_eq_true rfl), (Nat.le_of_ble_eq_true rfl)⟩ (c2 := 0) (s2 := 0) rfl rfl (x_2_init a) ?_
  refine g_aload_n hC dX6_init_4 rfl 0 rfl (Or.inr ⟨_, rfl⟩) ?_
  refine g_aload_n hC dX6_init_5 rfl 1 rfl (Or.inr ⟨_, rfl⟩) ?_
  refine g_putF hC (by decide +kernel) tyX6 tyX6_ok nmX6 rfl ha.1 ha.2 0 (by decide) (by decide +kernel) (Or.inl rfl) rfl hnm rfl (tyX6_ok 0 (by decide)) rfl rfl (show 0 < 1 by decide) dX6_init_6 ?_
  exact g_vret hC hR dX6_init_9 ⟨rfl, rfl, rfl⟩
set_option maxRecDepth 20000 in
set_option maxHeartbeats 4000000 in
theorem x_5_init (a c : Nat) (ha : a ∈ L ∧ f a = .inr (3, [.null])) : gCt l D vwCl (gKK D cy adK adV) yX5_init wsX5_init { frames := 3, cells := 0, slots := 0, locals := 60 } [.ref a, .ref c] L f (pE none L (va_up f a (.inr (3, [.ref c])))) := by
  refine gCt.of gKK_ok (by decide) rfl rfl (fun X hC hR hnm => ?_)
  have hC : gC X l _ D vwCl (cyT cy) (gKK D cy adK adV) cX5_init 2 wsX5_init RX5 := hC
  show gW X vwCl 2 L f 0 0 0 [(0, .ref a), (1, .ref c)] []
  refine g_aload_n hC dX5_init_0 rfl 0 rfl (Or.inr ⟨_, rfl⟩) ?_
  refine g_IN (As := []) (st := []) hC 0 dX5_init_1 ggX5_init_X4_init rfl (by decide +kernel) (gKK_M ("KeptTerms$Rows", 3, yX4_init) (by decide)) (by decide +kernel) rfl (by decide +kernel) ⟨Nat.le_of_ble_eq_true rfl, Nat.le_of_ble_eq_true rfl⟩ rfl (Nat.le_of_ble_eq_true rfl) ⟨(Nat.le_of_ble_eq_true rfl), (Nat.le_of_ble_eq_true rfl)⟩ (c2 := 0) (s2 := 0) rfl rfl (x_4_init a) ?_
  refine g_aload_n hC dX5_init_4 rfl 0 rfl (Or.inr ⟨_, rfl⟩) ?_
  refine g_aload_n hC dX5_init_5 rfl 1 rfl (Or.inr ⟨_, rfl⟩) ?_
  refine g_putF hC (by decide +kernel) tyX5 tyX5_ok nmX5 rfl ha.1 ha.2 0 (by decide) (by decide +kernel) (Or.inl rfl) rfl hnm rfl (tyX5_ok 0 (by decide)) rfl rfl (show 0 < 1 by decide) dX5_init_6 ?_
  exact g_vret hC hR dX5_init_9 ⟨rfl, rfl, rfl⟩
set_option maxRecDepth 20000 in
set_option maxHeartbeats 4000000 in
theorem x_newTwin_B {S : aS} {b : xB} (hx : xR cy S b L f) (hI : aI S) (r A : Nat) (hr : r < S.1 4) (hA : b.1 0 r = A) : gCt l D vwCl (gKK D cy adK adV) yX0_newTwin wsX0_newTwin { frames := 5, cells := 2, slots := 17, locals := 101 } [.ref A] L f (xP cy S b (twinB S r) (fun b9 => some (.ref (b9.1 0 (S.1 4))))) := by
  refine gCt.of gKK_ok (by decide) rfl rfl (fun X hC hR hnm => ?_)
  have hC : gC X l _ D vwCl (cyT cy) (gKK D cy adK adV) cX0_newTwin 1 wsX0_newTwin RX0 := hC
  show gW X vwCl 1 L f 0 0 0 [(0, .ref A)] []
  have hl := hI.bl hr
  refine g_new hC (fs := [.null]) (by decide +kernel) tyX0 tyX0_ok (by decide +kernel) (by decide +kernel) (by decide +kernel) (ci := 0) rfl (fun j hj => by
    rcases (show j = 0 by omega) with rfl <;> rfl) (Nat.le_of_ble_eq_true rfl) (Nat.le_of_ble_eq_true rfl) dX0_newTwin_0 (fun q0 hq0 => ?_)
  refine g_wx (P := fun L9 f9 => xR cy S b L9 f9 ∧ xN cy S b L9 f9 q0 (.inr (0, [.null]))) ⟨hx.more hq0, xN.new hx hq0⟩ (fun L1 f1 hw1 => ?_)
  obtain ⟨hx1, hq0_1⟩ := hw1
  show gW X vwCl 1 L1 f1 1 1 3 [(0, .ref A)] [.ref q0]
  refine g_dup hC dX0_newTwin_3 rfl ?_
  refine g_aload_n hC dX0_newTwin_4 rfl 0 rfl (Or.inr ⟨_, rfl⟩) ?_
  refine g_get hC (by decide +kernel) rfl (hx1.B hr hA).1 (hx1.B hr hA).2 0 (by decide) (by decide +kernel) (Or.inl rfl) rfl dX0_newTwin_5 ?_
  refine g_clone hC (ad := "[B") 0 rfl (hx1.Bc hr rfl).1 (hx1.Bc hr rfl).2 (by decide +kernel) (by decide +kernel) (by decide +kernel) (by decide +kernel) (by decide +kernel) (gKK_C "[B" "java/lang/Cloneable" (by decide)) (fun _ hK9 => ty_name hK9 (t0 := 0) rfl (fun _ => by simp) rfl) (va_fit (fun i hi => by
    show fits _ (.int (bcF S r i)) = true
    unfold bcF
    have hi : i < S.2.1 5 r := hi
    rw [if_pos hi]
    exact fit_b (hI.2.2.2.2.2.2.2.2.1 _ (by omega)))) (Nat.le_of_ble_eq_true rfl) (Nat.le_of_ble_eq_true rfl) (Nat.le_of_ble_eq_true rfl) (show 1 + S.2.1 5 r ≤ 17 by omega) dX0_newTwin_8 (fun q8 hq8 => ?_)
  have hne_q0_q8 : q0 ≠ q8 := hq0_1.ne hq8
  refine g_wx (P := fun L9 f9 => xR cy S b L9 f9 ∧ xN cy S b L9 f9 q0 (.inr (0, [.null])) ∧ xN cy S b L9 f9 q8 (iA (cy 0) (S.2.1 5 r) (bcF S r))) ⟨hx1.more hq8, hq0_1.more hq8, xN.new hx1 hq8⟩ (fun L2 f2 hw2 => ?_)
  obtain ⟨hx2, hq0_2, hq8_2⟩ := hw2
  show gW X vwCl 1 L2 f2 2 (1 + S.2.1 5 r) 11 [(0, .ref A)] [.ref q8, .ref q0, .ref q0]
  refine g_widen (c2 := 2) (s2 := 17) (Nat.le_of_ble_eq_true rfl) (show (1 + S.2.1 5 r) ≤ 17 by omega) ?_
  refine g_castA hC (by decide +kernel) (fun _ hK9 => ty_name hK9 (t0 := 0) rfl (fun _ => by simp) rfl) hq8_2.1.1 hq8_2.1.2 dX0_newTwin_11 ?_
  refine g_I (As := [.ref q8]) (st := [.ref q0]) hC 1 dX0_newTwin_14 ggX0_newTwin_X0_init rfl (by decide +kernel) (by decide +kernel) (by decide +kernel) rfl (by decide +kernel) ⟨Nat.le_of_ble_eq_true rfl, Nat.le_of_ble_eq_true rfl⟩ rfl (Nat.le_of_ble_eq_true rfl) ⟨(Nat.le_of_ble_eq_true rfl), (Nat.le_of_ble_eq_true rfl)⟩ (c2 := 2) (s2 := 17) rfl rfl (x_0_init q0 q8 hq0_2.1) ?_
  refine g_wx (P := fun L9 f9 => xR cy S b L9 f9 ∧ xN cy S b L9 f9 q0 (.inr (0, [.ref q8])) ∧ xN cy S b L9 f9 q8 (iA (cy 0) (S.2.1 5 r) (bcF S r))) ⟨hx2.put hq0_2, hq0_2.put, hq8_2.keep hne_q0_q8.symm⟩ (fun L3 f3 hw3 => ?_)
  obtain ⟨hx3, hq0_3, hq8_3⟩ := hw3
  show gW X vwCl 1 L3 f3 2 17 17 [(0, .ref A)] [.ref q0]
  obtain ⟨hy1, hy2⟩ := hx3.rowT hI hr hq0_3 hq8_3 hne_q0_q8
  exact g_aret hC hR (Or.inl ⟨_, rfl⟩) (Or.inr ⟨_, rfl⟩) dX0_newTwin_17 ⟨_, congrArg (fun z => some (Value.ref z)) bkU_q.symm, hy1, hy2⟩
set_option maxRecDepth 20000 in
set_option maxHeartbeats 4000000 in
theorem x_newTwin__B {S : aS} {b : xB} (hx : xR cy S b L f) (hI : aI S) (r A : Nat) (hr : r < S.1 4) (hA : b.1 0 r = A) : gCt l D vwCl (gKK D cy adK adV) yX0_newTwin_ wsX0_newTwin_ { frames := 6, cells := 2, slots := 17, locals := 121 } [.ref A] L f (xP cy S b (twinB S r) (fun b9 => some (.ref (b9.1 0 (S.1 4))))) := by
  refine gCt.of gKK_ok (by decide) rfl rfl (fun X hC hR hnm => ?_)
  have hC : gC X l _ D vwCl (cyT cy) (gKK D cy adK adV) cX0_newTwin_ 1 wsX0_newTwin_ RX0 := hC
  show gW X vwCl 1 L f 0 0 0 [(0, .ref A)] []
  refine g_aload_n hC dX0_newTwin__0 rfl 0 rfl (Or.inr ⟨_, rfl⟩) ?_
  refine g_Vx (As := []) (st := []) hC 0 dX0_newTwin__1 rfl (hx.B hr hA).1 (hx.B hr hA).2 gX0_newTwin__X0_newTwin rfl (by decide +kernel) ⟨Nat.le_of_ble_eq_true rfl, Nat.le_of_ble_eq_true rfl⟩ rfl (Nat.le_of_ble_eq_true rfl) ⟨(Nat.le_of_ble_eq_true rfl), (Nat.le_of_ble_eq_true rfl)⟩ (c2 := 2) (s2 := 17) rfl rfl (x_newTwin_B hx hI r A hr hA) (fun v1 L1 f1 hp1 => ?_)
  obtain ⟨b1, rfl, hx1, hg1⟩ := hp1
  show gW X vwCl 1 L1 f1 2 17 4 [(0, .ref A)] [.ref (b1.1 0 (S.1 4))]
  exact g_aret hC hR (Or.inl ⟨_, rfl⟩) (Or.inr ⟨_, rfl⟩) dX0_newTwin__4 ⟨b1, rfl, hx1, hg1⟩
set_option maxRecDepth 20000 in
set_option maxHeartbeats 4000000 in
theorem x_newTwin_S {S : aS} {b : xB} (hx : xR cy S b L f) (hI : aI S) (r A : Nat) (hr : r < S.1 7) (hA : b.1 2 r = A) : gCt l D vwCl (gKK D cy adK adV) yX6_newTwin wsX6_newTwin { frames := 5, cells := 2, slots := 17, locals := 101 } [.ref A] L f (xP cy S b (aSc (newSg S (S.2.1 8 r) (fun k => S.2.2 9 (16 * r + k))) 7 (S.1 7 + 1)) (fun b9 => some (.ref (b9.1 2 (S.1 7))))) := by
  refine gCt.of gKK_ok (by decide) rfl rfl (fun X hC hR hnm => ?_)
  have hC : gC X l _ D vwCl (cyT cy) (gKK D cy adK adV) cX6_newTwin 1 wsX6_newTwin RX6 := hC
  show gW X vwCl 1 L f 0 0 0 [(0, .ref A)] []
  have hl := hI.2.2.2.1 r hr
  refine g_new hC (fs := [.null]) (by decide +kernel) tyX6 tyX6_ok (by decide +kernel) (by decide +kernel) (by decide +kernel) (ci := 4) rfl (fun j hj => by
    rcases (show j = 0 by omega) with rfl <;> rfl) (Nat.le_of_ble_eq_true rfl) (Nat.le_of_ble_eq_true rfl) dX6_newTwin_0 (fun q0 hq0 => ?_)
  refine g_wx (P := fun L9 f9 => xR cy S b L9 f9 ∧ xN cy S b L9 f9 q0 (.inr (4, [.null]))) ⟨hx.more hq0, xN.new hx hq0⟩ (fun L1 f1 hw1 => ?_)
  obtain ⟨hx1, hq0_1⟩ := hw1
  show gW X vwCl 1 L1 f1 1 1 3 [(0, .ref A)] [.ref q0]
  refine g_dup hC dX6_newTwin_3 rfl ?_
  refine g_aload_n hC dX6_newTwin_4 rfl 0 rfl (Or.inr ⟨_, rfl⟩) ?_
  refine g_get hC (by decide +kernel) rfl (hx1.G hr hA).1 (hx1.G hr hA).2 0 (by decide) (by decide +kernel) (Or.inl rfl) rfl dX6_newTwin_5 ?_
  refine g_clone hC (ad := "[C") 1 rfl (hx1.Gc hr rfl).1 (hx1.Gc hr rfl).2 (by decide +kernel) (by decide +kernel) (by decide +kernel) (by decide +kernel) (by decide +kernel) (gKK_C "[C" "java/lang/Cloneable" (by decide)) (fun _ hK9 => ty_name hK9 (t0 := 1) rfl (fun _ => by simp) rfl) (va_fit (fun i hi => by
    show fits _ (.int (scF S r i)) = true
    unfold scF
    have hi : i < S.2.1 8 r := hi
    rw [if_pos hi]
    exact fit_c (hI.2.2.2.2.2.2.2.2.2 _ (by omega)))) (Nat.le_of_ble_eq_true rfl) (Nat.le_of_ble_eq_true rfl) (Nat.le_of_ble_eq_true rfl) (show 1 + S.2.1 8 r ≤ 17 by omega) dX6_newTwin_8 (fun q8 hq8 => ?_)
  have hne_q0_q8 : q0 ≠ q8 := hq0_1.ne hq8
  refine g_wx (P := fun L9 f9 => xR cy S b L9 f9 ∧ xN cy S b L9 f9 q0 (.inr (4, [.null])) ∧ xN cy S b L9 f9 q8 (iA (cy 1) (S.2.1 8 r) (scF S r))) ⟨hx1.more hq8, hq0_1.more hq8, xN.new hx1 hq8⟩ (fun L2 f2 hw2 => ?_)
  obtain ⟨hx2, hq0_2, hq8_2⟩ := hw2
  show gW X vwCl 1 L2 f2 2 (1 + S.2.1 8 r) 11 [(0, .ref A)] [.ref q8, .ref q0, .ref q0]
  refine g_widen (c2 := 2) (s2 := 17) (Nat.le_of_ble_eq_true rfl) (show (1 + S.2.1 8 r) ≤ 17 by omega) ?_
  refine g_castA hC (by decide +kernel) (fun _ hK9 => ty_name hK9 (t0 := 1) rfl (fun _ => by simp) rfl) hq8_2.1.1 hq8_2.1.2 dX6_newTwin_11 ?_
  refine g_I (As := [.ref q8]) (st := [.ref q0]) hC 1 dX6_newTwin_14 ggX6_newTwin_X6_init rfl (by decide +kernel) (by decide +kernel) (by decide +kernel) rfl (by decide +kernel) ⟨Nat.le_of_ble_eq_true rfl, Nat.le_of_ble_eq_true rfl⟩ rfl (Nat.le_of_ble_eq_true rfl) ⟨(Nat.le_of_ble_eq_true rfl), (Nat.le_of_ble_eq_true rfl)⟩ (c2 := 2) (s2 := 17) rfl rfl (x_6_init q0 q8 hq0_2.1) ?_
  refine g_wx (P := fun L9 f9 => xR cy S b L9 f9 ∧ xN cy S b L9 f9 q0 (.inr (4, [.ref q8])) ∧ xN cy S b L9 f9 q8 (iA (cy 1) (S.2.1 8 r) (scF S r))) ⟨hx2.put hq0_2, hq0_2.put, hq8_2.keep hne_q0_q8.symm⟩ (fun L3 f3 hw3 => ?_)
  obtain ⟨hx3, hq0_3, hq8_3⟩ := hw3
  show gW X vwCl 1 L3 f3 2 17 17 [(0, .ref A)] [.ref q0]
  obtain ⟨hy1, hy2⟩ := hx3.rowG hI hl (g := fun k => S.2.2 9 (16 * r + k)) (fun i hi => if_pos hi) (fun i hi => if_neg hi) hq0_3 hq8_3 hne_q0_q8
  exact g_aret hC hR (Or.inl ⟨_, rfl⟩) (Or.inr ⟨_, rfl⟩) dX6_newTwin_17 ⟨_, congrArg (fun z => some (Value.ref z)) bkU_q.symm, hy1, hy2⟩
set_option maxRecDepth 20000 in
set_option maxHeartbeats 4000000 in
theorem x_newTwin__S {S : aS} {b : xB} (hx : xR cy S b L f) (hI : aI S) (r A : Nat) (hr : r < S.1 7) (hA : b.1 2 r = A) : gCt l D vwCl (gKK D cy adK adV) yX6_newTwin_ wsX6_newTwin_ { frames := 6, cells := 2, slots := 17, locals := 121 } [.ref A] L f (xP cy S b (aSc (newSg S (S.2.1 8 r) (fun k => S.2.2 9 (16 * r + k))) 7 (S.1 7 + 1)) (fun b9 => some (.ref (b9.1 2 (S.1 7))))) := by
  refine gCt.of gKK_ok (by decide) rfl rfl (fun X hC hR hnm => ?_)
  have hC : gC X l _ D vwCl (cyT cy) (gKK D cy adK adV) cX6_newTwin_ 1 wsX6_newTwin_ RX6 := hC
  show gW X vwCl 1 L f 0 0 0 [(0, .ref A)] []
  refine g_aload_n hC dX6_newTwin__0 rfl 0 rfl (Or.inr ⟨_, rfl⟩) ?_
  refine g_Vx (As := []) (st := []) hC 0 dX6_newTwin__1 rfl (hx.G hr hA).1 (hx.G hr hA).2 gX6_newTwin__X6_newTwin rfl (by decide +kernel) ⟨Nat.le_of_ble_eq_true rfl, Nat.le_of_ble_eq_true rfl⟩ rfl (Nat.le_of_ble_eq_true rfl) ⟨(Nat.le_of_ble_eq_true rfl), (Nat.le_of_ble_eq_true rfl)⟩ (c2 := 2) (s2 := 17) rfl rfl (x_newTwin_S hx hI r A hr hA) (fun v1 L1 f1 hp1 => ?_)
  obtain ⟨b1, rfl, hx1, hg1⟩ := hp1
  show gW X vwCl 1 L1 f1 2 17 4 [(0, .ref A)] [.ref (b1.1 2 (S.1 7))]
  exact g_aret hC hR (Or.inl ⟨_, rfl⟩) (Or.inr ⟨_, rfl⟩) dX6_newTwin__4 ⟨b1, rfl, hx1, hg1⟩
set_option maxRecDepth 20000 in
set_option maxHeartbeats 4000000 in
theorem x_newRow_B {S : aS} {b : xB} (hx : xR cy S b L f) (hI : aI S) (n : Nat) (hn : n ≤ 16) : gCt l D vwCl (gKK D cy adK adV) yX9_newRow wsX9_newRow { frames := 5, cells := 2, slots := 17, locals := 101 } [.int (nI 1), .int (nI n)] L f (xP cy S b (newB S n) (fun b9 => some (.ref (b9.1 0 (S.1 4))))) := by
  refine gCt.of gKK_ok (by decide) rfl rfl (fun X hC hR hnm => ?_)
  have hC : gC X l _ D vwCl (cyT cy) (gKK D cy adK adV) cX9_newRow 2 wsX9_newRow RX9 := hC
  show gW X vwCl 2 L f 0 0 0 [(0, .int (nI 1)), (1, .int (nI n))] []
  refine g_iload_n hC dX9_newRow_0 rfl 0 rfl ?_
  refine g_iconst hC dX9_newRow_1 (v := nI 1) (by decide) ?_
  refine g_icmpN_ne (a := 1) (b := 1) (tgt := 16) hC dX9_newRow_2 (by decide) (by omega) (by omega) (fun h2 => ?_) (fun h2 => ?_)
  · exfalso; omega
  · refine g_new hC (fs := [.null]) (by decide +kernel) tyX0 tyX0_ok (by decide +kernel) (by decide +kernel) (by decide +kernel) (ci := 0) rfl (fun j hj => by
      rcases (show j = 0 by omega) with rfl <;> rfl) (Nat.le_of_ble_eq_true rfl) (Nat.le_of_ble_eq_true rfl) dX9_newRow_5 (fun q5 hq5 => ?_)
    refine g_wx (P := fun L9 f9 => xR cy S b L9 f9 ∧ xN cy S b L9 f9 q5 (.inr (0, [.null]))) ⟨hx.more hq5, xN.new hx hq5⟩ (fun L1 f1 hw1 => ?_)
    obtain ⟨hx1, hq5_1⟩ := hw1
    show gW X vwCl 2 L1 f1 1 1 8 [(0, .int (nI 1)), (1, .int (nI n))] [.ref q5]
    refine g_dup hC dX9_newRow_8 rfl ?_
    refine g_iload_n hC dX9_newRow_9 rfl 1 rfl ?_
    refine g_newa hC (a0 := (n, .inl (fun _ => 0))) (N := n) 0 rfl (by decide +kernel) rfl (fun _ => rfl) rfl (show n < 2 ^ 31 by omega) (show n * 1 ≤ 536870912 by omega) (Nat.le_of_ble_eq_true rfl) (show 1 + n ≤ 17 by omega) dX9_newRow_10 (fun q10 hq10 => ?_)
    have hne_q5_q10 : q5 ≠ q10 := hq5_1.ne hq10
    refine g_wx (P := fun L9 f9 => xR cy S b L9 f9 ∧ xN cy S b L9 f9 q5 (.inr (0, [.null])) ∧ xN cy S b L9 f9 q10 (iA (cy 0) n (fun _ => 0))) ⟨hx1.more hq10, hq5_1.more hq10, xN.new hx1 hq10⟩ (fun L2 f2 hw2 => ?_)
    obtain ⟨hx2, hq5_2, hq10_2⟩ := hw2
    show gW X vwCl 2 L2 f2 2 (1 + n) 12 [(0, .int (nI 1)), (1, .int (nI n))] [.ref q10, .ref q5, .ref q5]
    refine g_widen (c2 := 2) (s2 := 17) (Nat.le_of_ble_eq_true rfl) (show (1 + n) ≤ 17 by omega) ?_
    refine g_I (As := [.ref q10]) (st := [.ref q5]) hC 1 dX9_newRow_12 ggX9_newRow_X0_init rfl (by decide +kernel) (by decide +kernel) (by decide +kernel) rfl (by decide +kernel) ⟨Nat.le_of_ble_eq_true rfl, Nat.le_of_ble_eq_true rfl⟩ rfl (Nat.le_of_ble_eq_true rfl) ⟨(Nat.le_of_ble_eq_true rfl), (Nat.le_of_ble_eq_true rfl)⟩ (c2 := 2) (s2 := 17) rfl rfl (x_0_init q5 q10 hq5_2.1) ?_
    refine g_wx (P := fun L9 f9 => xR cy S b L9 f9 ∧ xN cy S b L9 f9 q5 (.inr (0, [.ref q10])) ∧ xN cy S b L9 f9 q10 (iA (cy 0) n (fun _ => 0))) ⟨hx2.put hq5_2, hq5_2.put, hq10_2.keep hne_q5_q10.symm⟩ (fun L3 f3 hw3 => ?_)
    obtain ⟨hx3, hq5_3, hq10_3⟩ := hw3
    show gW X vwCl 2 L3 f3 2 17 15 [(0, .int (nI 1)), (1, .int (nI n))] [.ref q5]
    obtain ⟨hy1, hy2⟩ := hx3.rowB hI hn hq5_3 hq10_3 hne_q5_q10
    exact g_aret hC hR (Or.inl ⟨_, rfl⟩) (Or.inr ⟨_, rfl⟩) dX9_newRow_15 ⟨_, congrArg (fun z => some (Value.ref z)) bkU_q.symm, hy1, hy2⟩
set_option maxRecDepth 20000 in
set_option maxHeartbeats 4000000 in
theorem x_newRow_S {S : aS} {b : xB} (hx : xR cy S b L f) (hI : aI S) (n : Nat) (hn : n ≤ 16) : gCt l D vwCl (gKK D cy adK adV) yX9_newRow wsX9_newRow { frames := 5, cells := 2, slots := 17, locals := 101 } [.int (nI 2), .int (nI n)] L f (xP cy S b (aSc (newSg S n (fun _ => 0)) 7 (S.1 7 + 1)) (fun b9 => some (.ref (b9.1 2 (S.1 7))))) := by
  refine gCt.of gKK_ok (by decide) rfl rfl (fun X hC hR hnm => ?_)
  have hC : gC X l _ D vwCl (cyT cy) (gKK D cy adK adV) cX9_newRow 2 wsX9_newRow RX9 := hC
  show gW X vwCl 2 L f 0 0 0 [(0, .int (nI 2)), (1, .int (nI n))] []
  refine g_iload_n hC dX9_newRow_0 rfl 0 rfl ?_
  refine g_iconst hC dX9_newRow_1 (v := nI 1) (by decide) ?_
  refine g_icmpN_ne (a := 2) (b := 1) (tgt := 16) hC dX9_newRow_2 (by decide) (by omega) (by omega) (fun h2 => ?_) (fun h2 => ?_)
  · refine g_iload_n hC dX9_newRow_16 rfl 0 rfl ?_
    refine g_iconst hC dX9_newRow_17 (v := nI 2) (by decide) ?_
    refine g_icmpN_ne (a := 2) (b := 2) (tgt := 32) hC dX9_newRow_18 (by decide) (by omega) (by omega) (fun h18 => ?_) (fun h18 => ?_)
    · exfalso; omega
    · refine g_new hC (fs := [.null]) (by decide +kernel) tyX6 tyX6_ok (by decide +kernel) (by decide +kernel) (by decide +kernel) (ci := 4) rfl (fun j hj => by
        rcases (show j = 0 by omega) with rfl <;> rfl) (Nat.le_of_ble_eq_true rfl) (Nat.le_of_ble_eq_true rfl) dX9_newRow_21 (fun q21 hq21 => ?_)
      refine g_wx (P := fun L9 f9 => xR cy S b L9 f9 ∧ xN cy S b L9 f9 q21 (.inr (4, [.null]))) ⟨hx.more hq21, xN.new hx hq21⟩ (fun L1 f1 hw1 => ?_)
      obtain ⟨hx1, hq21_1⟩ := hw1
      show gW X vwCl 2 L1 f1 1 1 24 [(0, .int (nI 2)), (1, .int (nI n))] [.ref q21]
      refine g_dup hC dX9_newRow_24 rfl ?_
      refine g_iload_n hC dX9_newRow_25 rfl 1 rfl ?_
      refine g_newa hC (a0 := (n, .inl (fun _ => 0))) (N := n) 1 rfl (by decide +kernel) rfl (fun _ => rfl) rfl (show n < 2 ^ 31 by omega) (show n * 2 ≤ 536870912 by omega) (Nat.le_of_ble_eq_true rfl) (show 1 + n ≤ 17 by omega) dX9_newRow_26 (fun q26 hq26 => ?_)
      have hne_q21_q26 : q21 ≠ q26 := hq21_1.ne hq26
      refine g_wx (P := fun L9 f9 => xR cy S b L9 f9 ∧ xN cy S b L9 f9 q21 (.inr (4, [.null])) ∧ xN cy S b L9 f9 q26 (iA (cy 1) n (fun _ => 0))) ⟨hx1.more hq26, hq21_1.more hq26, xN.new hx1 hq26⟩ (fun L2 f2 hw2 => ?_)
      obtain ⟨hx2, hq21_2, hq26_2⟩ := hw2
      show gW X vwCl 2 L2 f2 2 (1 + n) 28 [(0, .int (nI 2)), (1, .int (nI n))] [.ref q26, .ref q21, .ref q21]
      refine g_widen (c2 := 2) (s2 := 17) (Nat.le_of_ble_eq_true rfl) (show (1 + n) ≤ 17 by omega) ?_
      refine g_I (As := [.ref q26]) (st := [.ref q21]) hC 1 dX9_newRow_28 ggX9_newRow_X6_init rfl (by decide +kernel) (by decide +kernel) (by decide +kernel) rfl (by decide +kernel) ⟨Nat.le_of_ble_eq_true rfl, Nat.le_of_ble_eq_true rfl⟩ rfl (Nat.le_of_ble_eq_true rfl) ⟨(Nat.le_of_ble_eq_true rfl), (Nat.le_of_ble_eq_true rfl)⟩ (c2 := 2) (s2 := 17) rfl rfl (x_6_init q21 q26 hq21_2.1) ?_
      refine g_wx (P := fun L9 f9 => xR cy S b L9 f9 ∧ xN cy S b L9 f9 q21 (.inr (4, [.ref q26])) ∧ xN cy S b L9 f9 q26 (iA (cy 1) n (fun _ => 0))) ⟨hx2.put hq21_2, hq21_2.put, hq26_2.keep hne_q21_q26.symm⟩ (fun L3 f3 hw3 => ?_)
      obtain ⟨hx3, hq21_3, hq26_3⟩ := hw3
      show gW X vwCl 2 L3 f3 2 17 31 [(0, .int (nI 2)), (1, .int (nI n))] [.ref q21]
      obtain ⟨hy1, hy2⟩ := hx3.rowG hI hn (g := fun _ => 0) (fun _ _ => rfl) (fun _ _ => rfl) hq21_3 hq26_3 hne_q21_q26
      exact g_aret hC hR (Or.inl ⟨_, rfl⟩) (Or.inr ⟨_, rfl⟩) dX9_newRow_31 ⟨_, congrArg (fun z => some (Value.ref z)) bkU_q.symm, hy1, hy2⟩
  · exfalso; omega
set_option maxRecDepth 20000 in
set_option maxHeartbeats 4000000 in
theorem x_newRow_R {S : aS} {b : xB} (hx : xR cy S b L f) (hI : aI S) (n : Nat) (hn : n ≤ 16) : gCt l D vwCl (gKK D cy adK adV) yX9_newRow wsX9_newRow { frames := 5, cells := 2, slots := 17, locals := 101 } [.int (nI 3), .int (nI n)] L f (xP cy S b (aSc (newRw S n (fun _ => 0)) 10 (S.1 10 + 1)) (fun b9 => some (.ref (b9.1 4 (S.1 10))))) := by
  refine gCt.of gKK_ok (by decide) rfl rfl (fun X hC hR hnm => ?_)
  have hC : gC X l _ D vwCl (cyT cy) (gKK D cy adK adV) cX9_newRow 2 wsX9_newRow RX9 := hC
  show gW X vwCl 2 L f 0 0 0 [(0, .int (nI 3)), (1, .int (nI n))] []
  refine g_iload_n hC dX9_newRow_0 rfl 0 rfl ?_
  refine g_iconst hC dX9_newRow_1 (v := nI 1) (by decide) ?_
  refine g_icmpN_ne (a := 3) (b := 1) (tgt := 16) hC dX9_newRow_2 (by decide) (by omega) (by omega) (fun h2 => ?_) (fun h2 => ?_)
  · refine g_iload_n hC dX9_newRow_16 rfl 0 rfl ?_
    refine g_iconst hC dX9_newRow_17 (v := nI 2) (by decide) ?_
    refine g_icmpN_ne (a := 3) (b := 2) (tgt := 32) hC dX9_newRow_18 (by decide) (by omega) (by omega) (fun h18 => ?_) (fun h18 => ?_)
    · refine g_new hC (fs := [.null]) (by decide +kernel) tyX5 tyX5_ok (by decide +kernel) (by decide +kernel) (by decide +kernel) (ci := 3) rfl (fun j hj => by
        rcases (show j = 0 by omega) with rfl <;> rfl) (Nat.le_of_ble_eq_true rfl) (Nat.le_of_ble_eq_true rfl) dX9_newRow_32 (fun q32 hq32 => ?_)
      refine g_wx (P := fun L9 f9 => xR cy S b L9 f9 ∧ xN cy S b L9 f9 q32 (.inr (3, [.null]))) ⟨hx.more hq32, xN.new hx hq32⟩ (fun L1 f1 hw1 => ?_)
      obtain ⟨hx1, hq32_1⟩ := hw1
      show gW X vwCl 2 L1 f1 1 1 35 [(0, .int (nI 3)), (1, .int (nI n))] [.ref q32]
      refine g_dup hC dX9_newRow_35 rfl ?_
      refine g_iload_n hC dX9_newRow_36 rfl 1 rfl ?_
      refine g_newq hC (N := n) 4 rfl (by decide +kernel) gKK_B rfl (show n < 2 ^ 31 by omega) (show n * 4 ≤ 536870912 by omega) (Nat.le_of_ble_eq_true rfl) (show 1 + n ≤ 17 by omega) dX9_newRow_37 (fun q37 hq37 => ?_)
      have hne_q32_q37 : q32 ≠ q37 := hq32_1.ne hq37
      refine g_wx (P := fun L9 f9 => xR cy S b L9 f9 ∧ xN cy S b L9 f9 q32 (.inr (3, [.null])) ∧ xN cy S b L9 f9 q37 (qA (cy 4) n (fun _ => none))) ⟨hx1.more hq37, hq32_1.more hq37, xN.new hx1 hq37⟩ (fun L2 f2 hw2 => ?_)
      obtain ⟨hx2, hq32_2, hq37_2⟩ := hw2
      show gW X vwCl 2 L2 f2 2 (1 + n) 40 [(0, .int (nI 3)), (1, .int (nI n))] [.ref q37, .ref q32, .ref q32]
      refine g_widen (c2 := 2) (s2 := 17) (Nat.le_of_ble_eq_true rfl) (show (1 + n) ≤ 17 by omega) ?_
      refine g_I (As := [.ref q37]) (st := [.ref q32]) hC 1 dX9_newRow_40 ggX9_newRow_X5_init rfl (by decide +kernel) (by decide +kernel) (by decide +kernel) rfl (by decide +kernel) ⟨Nat.le_of_ble_eq_true rfl, Nat.le_of_ble_eq_true rfl⟩ rfl (Nat.le_of_ble_eq_true rfl) ⟨(Nat.le_of_ble_eq_true rfl), (Nat.le_of_ble_eq_true rfl)⟩ (c2 := 2) (s2 := 17) rfl rfl (x_5_init q32 q37 hq32_2.1) ?_
      refine g_wx (P := fun L9 f9 => xR cy S b L9 f9 ∧ xN cy S b L9 f9 q32 (.inr (3, [.ref q37])) ∧ xN cy S b L9 f9 q37 (qA (cy 4) n (fun _ => none))) ⟨hx2.put hq32_2, hq32_2.put, hq37_2.keep hne_q32_q37.symm⟩ (fun L3 f3 hw3 => ?_)
      obtain ⟨hx3, hq32_3, hq37_3⟩ := hw3
      show gW X vwCl 2 L3 f3 2 17 43 [(0, .int (nI 3)), (1, .int (nI n))] [.ref q32]
      obtain ⟨hy1, hy2⟩ := hx3.rowW hI hn (g := fun _ => 0) (fun _ _ => rfl) (fun _ _ => rfl) hq32_3 hq37_3 hne_q32_q37
      exact g_aret hC hR (Or.inl ⟨_, rfl⟩) (Or.inr ⟨_, rfl⟩) dX9_newRow_43 ⟨_, congrArg (fun z => some (Value.ref z)) bkU_q.symm, hy1, hy2⟩
    · exfalso; omega
  · exfalso; omega
set_option maxRecDepth 20000 in
set_option maxHeartbeats 4000000 in
theorem x_putNumber_B {S : aS} {b : xB} (hx : xR cy S b L f) (hl : ∀ r, r < S.1 4 → S.2.1 5 r ≤ 16) (r A : Nat) (hr : r < S.1 4) (hA : b.1 0 r = A) (i : Nat) (hi : i < S.2.1 5 r) (v : Int32) : gCt l D vwCl (gKK D cy adK adV) yX0_putNumber wsX0_putNumber { frames := 0, cells := 0, slots := 0, locals := 0 } [.ref A, .int (nI i), .int v] L f (xQ cy (aW S 6 (16 * r + i) (v.toInt8.toInt32)) b none) := by
  refine gCt.of gKK_ok (by decide) rfl rfl (fun X hC hR hnm => ?_)
  have hC : gC X l _ D vwCl (cyT cy) (gKK D cy adK adV) cX0_putNumber 3 wsX0_putNumber RX0 := hC
  show gW X vwCl 3 L f 0 0 0 [(0, .ref A), (1, .int (nI i)), (2, .int v)] []
  have hlr := hl r hr
  refine g_aload_n hC dX0_putNumber_0 rfl 0 rfl (Or.inr ⟨_, rfl⟩) ?_
  refine g_get hC (by decide +kernel) rfl (hx.B hr hA).1 (hx.B hr hA).2 0 (by decide) (by decide +kernel) (Or.inl rfl) rfl dX0_putNumber_1 ?_
  refine g_iload_n hC dX0_putNumber_4 rfl 1 rfl ?_
  refine g_iload_n hC dX0_putNumber_5 rfl 2 rfl ?_
  refine g_i2b hC dX0_putNumber_6 rfl ?_
  refine g_bast hC 0 rfl (hx.Bc hr rfl).1 (hx.Bc hr rfl).2 (i) rfl (show i < S.2.1 5 r by omega) (show S.2.1 5 r < 2 ^ 31 by omega) dX0_putNumber_7 ?_
  refine g_fx (P := xR cy (aW S 6 (16 * r + i) (v.toInt8.toInt32)) b) (by rw [pk_vb]; exact hx.bset hl hr hi rfl) (fun f1 hx1 => ?_)
  exact g_vret hC hR dX0_putNumber_8 ⟨rfl, hx1⟩
set_option maxRecDepth 20000 in
set_option maxHeartbeats 4000000 in
theorem x_putNumber_S {S : aS} {b : xB} (hx : xR cy S b L f) (hl : ∀ r, r < S.1 7 → S.2.1 8 r ≤ 16) (r A : Nat) (hr : r < S.1 7) (hA : b.1 2 r = A) (i : Nat) (hi : i < S.2.1 8 r) (v : Int32) : gCt l D vwCl (gKK D cy adK adV) yX6_putNumber wsX6_putNumber { frames := 0, cells := 0, slots := 0, locals := 0 } [.ref A, .int (nI i), .int v] L f (xQ cy (aW S 9 (16 * r + i) (v &&& nI 65535)) b none) := by
  refine gCt.of gKK_ok (by decide) rfl rfl (fun X hC hR hnm => ?_)
  have hC : gC X l _ D vwCl (cyT cy) (gKK D cy adK adV) cX6_putNumber 3 wsX6_putNumber RX6 := hC
  show gW X vwCl 3 L f 0 0 0 [(0, .ref A), (1, .int (nI i)), (2, .int v)] []
  have hlr := hl r hr
  refine g_aload_n hC dX6_putNumber_0 rfl 0 rfl (Or.inr ⟨_, rfl⟩) ?_
  refine g_get hC (by decide +kernel) rfl (hx.G hr hA).1 (hx.G hr hA).2 0 (by decide) (by decide +kernel) (Or.inl rfl) rfl dX6_putNumber_1 ?_
  refine g_iload_n hC dX6_putNumber_4 rfl 1 rfl ?_
  refine g_iload_n hC dX6_putNumber_5 rfl 2 rfl ?_
  refine g_i2c hC dX6_putNumber_6 rfl ?_
  refine g_cast hC 1 rfl (hx.Gc hr rfl).1 (hx.Gc hr rfl).2 (i) rfl (show i < S.2.1 8 r by omega) (show S.2.1 8 r < 2 ^ 31 by omega) dX6_putNumber_7 ?_
  refine g_fx (P := xR cy (aW S 9 (16 * r + i) (v &&& nI 65535)) b) (by rw [pk_vc, cut_c]; exact hx.sset hl hr hi rfl) (fun f1 hx1 => ?_)
  exact g_vret hC hR dX6_putNumber_8 ⟨rfl, hx1⟩
set_option maxRecDepth 20000 in
set_option maxHeartbeats 4000000 in
theorem x_passTo_B {S : aS} {b : xB} (hx : xR cy S b L f) (hI : aI S) (r A : Nat) (hr : r < S.1 4) (hA : b.1 0 r = A) (r2 A2 : Nat) (hr2 : r2 < S.1 4) (hA2 : b.1 0 r2 = A2) (u v n : Nat) (hu : u + n ≤ S.2.1 5 r) (hv : v + n ≤ S.2.1 5 r2) : gCt l D vwCl (gKK D cy adK adV) yX0_passTo wsX0_passTo { frames := 1, cells := 0, slots := 0, locals := 20 } [.ref A, .ref A2, .int (nI u), .int (nI v), .int (nI n)] L f (xQ cy (aWr S 6 (16 * r2 + v) n (fun i => S.2.2 6 (16 * r + (u + i)))) b none) := by
  refine gCt.of gKK_ok (by decide) rfl rfl (fun X hC hR hnm => ?_)
  have hC : gC X l _ D vwCl (cyT cy) (gKK D cy adK adV) cX0_passTo 5 wsX0_passTo RX0 := hC
  show gW X vwCl 5 L f 0 0 0 [(0, .ref A), (1, .ref A2), (2, .int (nI u)), (3, .int (nI v)), (4, .int (nI n))] []
  have hl : ∀ r, r < S.1 4 → S.2.1 5 r ≤ 16 := hI.2.2.1
  have hlr := hl r hr
  have hlr2 := hl r2 hr2
  refine g_aload_n hC dX0_passTo_0 rfl 1 rfl (Or.inr ⟨_, rfl⟩) ?_
  refine g_instY hC (by decide +kernel) (gKK_C "KeptTerms$Bytes" "KeptTerms$Bytes" (by decide)) rfl (hx.B hr2 hA2).1 (hx.B hr2 hA2).2 dX0_passTo_1 ?_
  refine g_val (w := .int (nI 1)) rfl ?_
  refine g_ifN_eq (a := 1) (tgt := 25) hC dX0_passTo_4 (by decide) (by omega) (fun h4 => ?_) (fun h4 => ?_)
  · exfalso; omega
  · refine g_aload_n hC dX0_passTo_7 rfl 0 rfl (Or.inr ⟨_, rfl⟩) ?_
    refine g_get hC (by decide +kernel) rfl (hx.B hr hA).1 (hx.B hr hA).2 0 (by decide) (by decide +kernel) (Or.inl rfl) rfl dX0_passTo_8 ?_
    refine g_iload_n hC dX0_passTo_11 rfl 2 rfl ?_
    refine g_aload_n hC dX0_passTo_12 rfl 1 rfl (Or.inr ⟨_, rfl⟩) ?_
    refine g_castY hC (by decide +kernel) (gKK_C "KeptTerms$Bytes" "KeptTerms$Bytes" (by decide)) rfl (hx.B hr2 hA2).1 (hx.B hr2 hA2).2 dX0_passTo_13 ?_
    refine g_get hC (by decide +kernel) rfl (hx.B hr2 hA2).1 (hx.B hr2 hA2).2 0 (by decide) (by decide +kernel) (Or.inl rfl) rfl dX0_passTo_16 ?_
    refine g_iload_n hC dX0_passTo_19 rfl 3 rfl ?_
    refine g_iload hC dX0_passTo_20 4 rfl ?_
    refine g_copyi hC 0 rfl rfl (hx.Bc hr rfl).1 (hx.Bc hr rfl).2 (hx.Bc hr2 rfl).1 (hx.Bc hr2 rfl).2 rfl (by decide +kernel) (by decide +kernel) (by decide +kernel) (by decide +kernel) (u) (v) (n) rfl rfl rfl (by omega) (by omega) (by omega) (show u + n ≤ S.2.1 5 r by omega) (show v + n ≤ S.2.1 5 r2 by omega) (fun i hi => by
      show fits _ (.int (bcF S r (u + i))) = true
      unfold bcF
      rw [if_pos (by omega)]
      exact fit_b (hI.2.2.2.2.2.2.2.2.1 _ (by omega))) (Nat.le_of_ble_eq_true rfl) (Nat.le_of_ble_eq_true rfl) dX0_passTo_22 ?_
    refine g_fx (P := xR cy (aWr S 6 (16 * r2 + v) n (fun i => S.2.2 6 (16 * r + (u + i)))) b) (hx.bcpy hl hr2 hu hv rfl) (fun f1 hx1 => ?_)
    exact g_vret hC hR dX0_passTo_25 ⟨rfl, hx1⟩
set_option maxRecDepth 20000 in
set_option maxHeartbeats 4000000 in
theorem x_passTo_S {S : aS} {b : xB} (hx : xR cy S b L f) (hI : aI S) (r A : Nat) (hr : r < S.1 7) (hA : b.1 2 r = A) (r2 A2 : Nat) (hr2 : r2 < S.1 7) (hA2 : b.1 2 r2 = A2) (u v n : Nat) (hu : u + n ≤ S.2.1 8 r) (hv : v + n ≤ S.2.1 8 r2) : gCt l D vwCl (gKK D cy adK adV) yX6_passTo wsX6_passTo { frames := 1, cells := 0, slots := 0, locals := 20 } [.ref A, .ref A2, .int (nI u), .int (nI v), .int (nI n)] L f (xQ cy (aWr S 9 (16 * r2 + v) n (fun i => S.2.2 9 (16 * r + (u + i)))) b none) := by
  refine gCt.of gKK_ok (by decide) rfl rfl (fun X hC hR hnm => ?_)
  have hC : gC X l _ D vwCl (cyT cy) (gKK D cy adK adV) cX6_passTo 5 wsX6_passTo RX6 := hC
  show gW X vwCl 5 L f 0 0 0 [(0, .ref A), (1, .ref A2), (2, .int (nI u)), (3, .int (nI v)), (4, .int (nI n))] []
  have hl : ∀ r, r < S.1 7 → S.2.1 8 r ≤ 16 := hI.2.2.2.1
  have hlr := hl r hr
  have hlr2 := hl r2 hr2
  refine g_aload_n hC dX6_passTo_0 rfl 1 rfl (Or.inr ⟨_, rfl⟩) ?_
  refine g_instY hC (by decide +kernel) (gKK_C "KeptTerms$Signs" "KeptTerms$Signs" (by decide)) rfl (hx.G hr2 hA2).1 (hx.G hr2 hA2).2 dX6_passTo_1 ?_
  refine g_val (w := .int (nI 1)) rfl ?_
  refine g_ifN_eq (a := 1) (tgt := 25) hC dX6_passTo_4 (by decide) (by omega) (fun h4 => ?_) (fun h4 => ?_)
  · exfalso; omega
  · refine g_aload_n hC dX6_passTo_7 rfl 0 rfl (Or.inr ⟨_, rfl⟩) ?_
    refine g_get hC (by decide +kernel) rfl (hx.G hr hA).1 (hx.G hr hA).2 0 (by decide) (by decide +kernel) (Or.inl rfl) rfl dX6_passTo_8 ?_
    refine g_iload_n hC dX6_passTo_11 rfl 2 rfl ?_
    refine g_aload_n hC dX6_passTo_12 rfl 1 rfl (Or.inr ⟨_, rfl⟩) ?_
    refine g_castY hC (by decide +kernel) (gKK_C "KeptTerms$Signs" "KeptTerms$Signs" (by decide)) rfl (hx.G hr2 hA2).1 (hx.G hr2 hA2).2 dX6_passTo_13 ?_
    refine g_get hC (by decide +kernel) rfl (hx.G hr2 hA2).1 (hx.G hr2 hA2).2 0 (by decide) (by decide +kernel) (Or.inl rfl) rfl dX6_passTo_16 ?_
    refine g_iload_n hC dX6_passTo_19 rfl 3 rfl ?_
    refine g_iload hC dX6_passTo_20 4 rfl ?_
    refine g_copyi hC 1 rfl rfl (hx.Gc hr rfl).1 (hx.Gc hr rfl).2 (hx.Gc hr2 rfl).1 (hx.Gc hr2 rfl).2 rfl (by decide +kernel) (by decide +kernel) (by decide +kernel) (by decide +kernel) (u) (v) (n) rfl rfl rfl (by omega) (by omega) (by omega) (show u + n ≤ S.2.1 8 r by omega) (show v + n ≤ S.2.1 8 r2 by omega) (fun i hi => by
      show fits _ (.int (scF S r (u + i))) = true
      unfold scF
      rw [if_pos (by omega)]
      exact fit_c (hI.2.2.2.2.2.2.2.2.2 _ (by omega))) (Nat.le_of_ble_eq_true rfl) (Nat.le_of_ble_eq_true rfl) dX6_passTo_22 ?_
    refine g_fx (P := xR cy (aWr S 9 (16 * r2 + v) n (fun i => S.2.2 9 (16 * r + (u + i)))) b) (hx.scpy hl hr2 hu hv rfl) (fun f1 hx1 => ?_)
    exact g_vret hC hR dX6_passTo_25 ⟨rfl, hx1⟩
set_option maxRecDepth 20000 in
set_option maxHeartbeats 4000000 in
theorem x_against (a c n : Nat) (g : Nat → Int32) (a2 c2 n2 : Nat) (g2 : Nat → Int32) (ha : isB cy L f a c n g) (ha2 : isB cy L f a2 c2 n2 g2) : gCt l D vwCl (gKK D cy adK adV) yX0_against wsX0_against { frames := 1, cells := 0, slots := 0, locals := 21 } [.ref a, .ref a2] L f (pE (some (.int (sgn (agG g g2 n n2)))) L f) := by
  refine gCt.of gKK_ok (by decide) rfl rfl (fun X hC hR hnm => ?_)
  have hC : gC X l _ D vwCl (cyT cy) (gKK D cy adK adV) cX0_against 5 wsX0_against RX0 := hC
  show gW X vwCl 5 L f 0 0 0 [(0, .ref a), (1, .ref a2)] []
  have hn := ha.2.2
  have hn2 := ha2.2.2
  obtain ⟨mm, hm⟩ : ∃ m, m = if n < n2 then n else n2 := ⟨_, rfl⟩
  have hm1 : mm ≤ n ∧ mm ≤ n2 := by subst hm; split <;> omega
  refine g_aload_n hC dX0_against_0 rfl 0 rfl (Or.inr ⟨_, rfl⟩) ?_
  refine g_get hC (by decide +kernel) rfl ha.1.1 ha.1.2 0 (by decide) (by decide +kernel) (Or.inl rfl) rfl dX0_against_1 ?_
  refine g_alen hC 0 rfl ha.2.1.1 ha.2.1.2 dX0_against_4 ?_
  refine g_aload_n hC dX0_against_5 rfl 1 rfl (Or.inr ⟨_, rfl⟩) ?_
  refine g_get hC (by decide +kernel) rfl ha2.1.1 ha2.1.2 0 (by decide) (by decide +kernel) (Or.inl rfl) rfl dX0_against_6 ?_
  refine g_alen hC 0 rfl ha2.2.1.1 ha2.2.1.2 dX0_against_9 ?_
  refine g_min hC (by decide +kernel) (by decide +kernel) (by decide +kernel) (by decide +kernel) (Nat.le_of_ble_eq_true rfl) (Nat.le_of_ble_eq_true rfl) (Nat.le_of_ble_eq_true rfl) (Nat.le_of_ble_eq_true rfl) dX0_against_10 ?_
  refine g_val (w := .int (nI mm)) (congrArg Value.int (by rw [hm]; exact min_nI hn hn2)) ?_
  refine g_istore_n (lv' := [(2, .int (nI mm)), (0, .ref a), (1, .ref a2)]) hC dX0_against_13 rfl (by decide) rfl ?_
  refine g_iconst hC dX0_against_14 (v := nI 0) (by decide) ?_
  refine g_istore_n (lv' := [(3, .int (nI 0)), (2, .int (nI mm)), (0, .ref a), (1, .ref a2)]) hC dX0_against_15 rfl (by decide) rfl ?_
  have lp : ∀ (m : Nat) (k : Nat), mm - k < m → (k ≤ mm) → (agl (fun k => (g k &&& nI 255) - (g2 k &&& nI 255)) (nI n - nI n2) (mm - k) k = agG g g2 n n2) → gW X vwCl 5 L f 0 0 16 [(3, .int (nI k)), (2, .int (nI mm)), (0, .ref a), (1, .ref a2)] [] := by
    intro m
    induction m with
    | zero => intros; omega
    | succ m ih =>
      intro k hm9 hk hg
      refine g_iload_n hC dX0_against_16 rfl 0 rfl ?_
      refine g_iload_n hC dX0_against_17 rfl 1 rfl ?_
      refine g_icmpN_ge (a := k) (b := mm) (tgt := 66) hC dX0_against_18 (by decide) (by omega) (by omega) (fun h18 => ?_) (fun h18 => ?_)
      · refine g_aload_n hC dX0_against_66 rfl 2 rfl (Or.inr ⟨_, rfl⟩) ?_
        refine g_get hC (by decide +kernel) rfl ha.1.1 ha.1.2 0 (by decide) (by decide +kernel) (Or.inl rfl) rfl dX0_against_67 ?_
        refine g_alen hC 0 rfl ha.2.1.1 ha.2.1.2 dX0_against_70 ?_
        refine g_aload_n hC dX0_against_71 rfl 3 rfl (Or.inr ⟨_, rfl⟩) ?_
        refine g_get hC (by decide +kernel) rfl ha2.1.1 ha2.1.2 0 (by decide) (by decide +kernel) (Or.inl rfl) rfl dX0_against_72 ?_
        refine g_alen hC 0 rfl ha2.2.1.1 ha2.2.1.2 dX0_against_75 ?_
        refine g_S (As := [.int (nI n), .int (nI n2)]) (st := []) hC 2 dX0_against_76 gX0_against_J6_compare_7cf53 rfl (by decide +kernel) ⟨Nat.le_of_ble_eq_true rfl, Nat.le_of_ble_eq_true rfl⟩ rfl (Nat.le_of_ble_eq_true rfl) ⟨Nat.le_of_ble_eq_true rfl, Nat.le_of_ble_eq_true rfl⟩ (c2 := 0) (s2 := 0) rfl rfl (x_compare n n2 (by omega) (by omega)) ?_
        have h9 : (agG g g2 n n2) = nI n - nI n2 := by rw [← hg, show mm - k = 0 by omega]; rfl
        exact g_iret hC hR dX0_against_79 ⟨by rw [h9], rfl, rfl⟩
      · refine g_aload_n hC dX0_against_21 rfl 2 rfl (Or.inr ⟨_, rfl⟩) ?_
        refine g_get hC (by decide +kernel) rfl ha.1.1 ha.1.2 0 (by decide) (by decide +kernel) (Or.inl rfl) rfl dX0_against_22 ?_
        refine g_iload_n hC dX0_against_25 rfl 0 rfl ?_
        refine g_bald hC 0 rfl ha.2.1.1 ha.2.1.2 (k) rfl (show k < n by omega) (show n < 2 ^ 31 by omega) dX0_against_26 ?_
        refine g_sipush hC dX0_against_27 (v := nI 255) (by decide) ?_
        refine g_iand hC dX0_against_30 ?_
        refine g_aload_n hC dX0_against_31 rfl 3 rfl (Or.inr ⟨_, rfl⟩) ?_
        refine g_get hC (by decide +kernel) rfl ha2.1.1 ha2.1.2 0 (by decide) (by decide +kernel) (Or.inl rfl) rfl dX0_against_32 ?_
        refine g_iload_n hC dX0_against_35 rfl 0 rfl ?_
        refine g_bald hC 0 rfl ha2.2.1.1 ha2.2.1.2 (k) rfl (show k < n2 by omega) (show n2 < 2 ^ 31 by omega) dX0_against_36 ?_
        refine g_sipush hC dX0_against_37 (v := nI 255) (by decide) ?_
        refine g_iand hC dX0_against_40 ?_
        refine g_isub hC dX0_against_41 ?_
        refine g_istore (lv' := [(4, .int (((g k) &&& (nI 255)) - ((g2 k) &&& (nI 255)))), (3, .int (nI k)), (2, .int (nI mm)), (0, .ref a), (1, .ref a2)]) hC dX0_against_42 (by decide) rfl ?_
        refine g_iload hC dX0_against_44 0 rfl ?_
        refine g_if_eq (x := ((g k) &&& (nI 255)) - ((g2 k) &&& (nI 255))) (tgt := 60) hC dX0_against_46 (by decide) (fun h46 => ?_) (fun h46 => ?_)
        · refine g_iincN (n := 1) (a := k) (lv' := [(3, .int (nI (k + 1))), (4, .int (((g k) &&& (nI 255)) - ((g2 k) &&& (nI 255)))), (2, .int (nI mm)), (0, .ref a), (1, .ref a2)]) hC dX0_against_60 1 rfl (by decide) rfl ?_
          refine g_goto (tgt := 16) hC dX0_against_63 (by decide) ?_
          refine g_lv (lv' := [(3, .int (nI (k + 1))), (2, .int (nI mm)), (0, .ref a), (1, .ref a2)]) [0, 2, 3, 4] rfl ?_
          exact ih (k + 1) (by omega) (by omega) (by rw [← hg, show mm - k = (mm - (k + 1)) + 1 by omega, agl, if_pos h46])
        · refine g_iload hC dX0_against_49 0 rfl ?_
          refine g_if_ge (x := ((g k) &&& (nI 255)) - ((g2 k) &&& (nI 255))) (tgt := 58) hC dX0_against_51 (by decide) (fun h51 => ?_) (fun h51 => ?_)
          · refine g_iconst hC dX0_against_58 (v := nI 1) (by decide) ?_
            have h9 : (agG g g2 n n2) = (g k &&& nI 255) - (g2 k &&& nI 255) := by rw [← hg, show mm - k = (mm - k - 1) + 1 by omega, agl, if_neg h46]
            exact g_iret hC hR dX0_against_59 ⟨by rw [h9]; unfold sgn; rw [if_neg (Int32.not_lt.mpr h51), if_pos (pos_of (Int32.not_lt.mpr h51) h46)]; rfl, rfl, rfl⟩
          · refine g_iconst hC dX0_against_54 (v := (-1)) (by decide) ?_
            refine g_goto (tgt := 59) hC dX0_against_55 (by decide) ?_
            have h9 : (agG g g2 n n2) = (g k &&& nI 255) - (g2 k &&& nI 255) := by rw [← hg, show mm - k = (mm - k - 1) + 1 by omega, agl, if_neg h46]
            exact g_iret hC hR dX0_against_59 ⟨by rw [h9]; unfold sgn; rw [if_pos (Int32.not_le.mp h51)], rfl, rfl⟩
  exact lp (mm + 1) 0 (by omega) (by omega) (by rw [Nat.sub_zero, hm]; rfl)
set_option maxRecDepth 20000 in
set_option maxHeartbeats 4000000 in
theorem x_passTo_R {S : aS} {b : xB} (hx : xR cy S b L f) (hF : xF S) (hl : ∀ r, r < S.1 10 → S.2.1 11 r ≤ 16) (r A : Nat) (hr : r < S.1 10) (hA : b.1 4 r = A) (r2 A2 : Nat) (hr2 : r2 < S.1 10) (hA2 : b.1 4 r2 = A2) (u v n : Nat) (hu : u + n ≤ S.2.1 11 r) (hv : v + n ≤ S.2.1 11 r2) : gCt l D vwCl (gKK D cy adK adV) yX5_passTo wsX5_passTo { frames := 0, cells := 1, slots := 16, locals := 0 } [.ref A, .ref A2, .int (nI u), .int (nI v), .int (nI n)] L f (xQ cy (aNr S 12 (16 * r2 + v) n (fun i => S.2.1 12 (16 * r + (u + i)))) b none) := by
  refine gCt.of gKK_ok (by decide) rfl rfl (fun X hC hR hnm => ?_)
  have hC : gC X l _ D vwCl (cyT cy) (gKK D cy adK adV) cX5_passTo 8 wsX5_passTo RX5 := hC
  show gW X vwCl 8 L f 0 0 0 [(0, .ref A), (1, .ref A2), (2, .int (nI u)), (3, .int (nI v)), (4, .int (nI n))] []
  have hlr := hl r hr
  have hlr2 := hl r2 hr2
  refine g_aload_n hC dX5_passTo_0 rfl 1 rfl (Or.inr ⟨_, rfl⟩) ?_
  refine g_instY hC (by decide +kernel) (gKK_C "KeptTerms$Rows" "KeptTerms$Rows" (by decide)) rfl (hx.W hr2 hA2).1 (hx.W hr2 hA2).2 dX5_passTo_1 ?_
  refine g_val (w := .int (nI 1)) rfl ?_
  refine g_ifN_eq (a := 1) (tgt := 81) hC dX5_passTo_4 (by decide) (by omega) (fun h4 => ?_) (fun h4 => ?_)
  · exfalso; omega
  · refine g_aload_n hC dX5_passTo_7 rfl 1 rfl (Or.inr ⟨_, rfl⟩) ?_
    refine g_castY hC (by decide +kernel) (gKK_C "KeptTerms$Rows" "KeptTerms$Rows" (by decide)) rfl (hx.W hr2 hA2).1 (hx.W hr2 hA2).2 dX5_passTo_8 ?_
    refine g_astore (lv' := [(5, .ref A2), (0, .ref A), (1, .ref A2), (2, .int (nI u)), (3, .int (nI v)), (4, .int (nI n))]) hC dX5_passTo_11 (by decide) rfl (Or.inr ⟨_, rfl⟩) ?_
    refine g_iload hC dX5_passTo_13 5 rfl ?_
    refine g_newq hC (N := n) 4 rfl (by decide +kernel) gKK_B rfl (show n < 2 ^ 31 by omega) (show n * 4 ≤ 536870912 by omega) (Nat.le_of_ble_eq_true rfl) (show 0 + n ≤ 16 by omega) dX5_passTo_15 (fun q15 hq15 => ?_)
    refine g_wx (P := fun L9 f9 => xR cy S b L9 f9 ∧ xN cy S b L9 f9 q15 (qA (cy 4) n (fun _ => none))) ⟨hx.more hq15, xN.new hx hq15⟩ (fun L1 f1 hw1 => ?_)
    obtain ⟨hx1, hq15_1⟩ := hw1
    show gW X vwCl 8 L1 f1 1 (0 + n) 18 [(5, .ref A2), (0, .ref A), (1, .ref A2), (2, .int (nI u)), (3, .int (nI v)), (4, .int (nI n))] [.ref q15]
    refine g_astore (lv' := [(6, .ref q15), (5, .ref A2), (0, .ref A), (1, .ref A2), (2, .int (nI u)), (3, .int (nI v)), (4, .int (nI n))]) hC dX5_passTo_18 (by decide) rfl (Or.inr ⟨_, rfl⟩) ?_
    refine g_iconst hC dX5_passTo_20 (v := nI 0) (by decide) ?_
    refine g_istore (lv' := [(7, .int (nI 0)), (6, .ref q15), (5, .ref A2), (0, .ref A), (1, .ref A2), (2, .int (nI u)), (3, .int (nI v)), (4, .int (nI n))]) hC dX5_passTo_21 (by decide) rfl ?_
    refine g_widen (c2 := 1) (s2 := 16) (Nat.le_of_ble_eq_true rfl) (show (0 + n) ≤ 16 by omega) ?_
    have lp : ∀ (m : Nat) (k : Nat) (L3 : List Nat) (f3 : Nat → va_E), n - k < m → (k ≤ n) → (xR cy S b L3 f3) → (xN cy S b L3 f3 q15 (qA (cy 4) n (fun i => if i < k then rcF S b r (u + i) else none))) → gW X vwCl 8 L3 f3 1 16 23 [(7, .int (nI k)), (6, .ref q15), (5, .ref A2), (0, .ref A), (1, .ref A2), (2, .int (nI u)), (3, .int (nI v)), (4, .int (nI n))] [] := by
      intro m
      induction m with
      | zero => intros; omega
      | succ m ih =>
        intro k L3 f3 hm9 hk hx3 hq3
        refine g_iload hC dX5_passTo_23 0 rfl ?_
        refine g_iload hC dX5_passTo_25 7 rfl ?_
        refine g_icmpN_ge (a := k) (b := n) (tgt := 50) hC dX5_passTo_27 (by decide) (by omega) (by omega) (fun h27 => ?_) (fun h27 => ?_)
        · refine g_iconst hC dX5_passTo_50 (v := nI 0) (by decide) ?_
          refine g_istore (lv' := [(7, .int (nI 0)), (6, .ref q15), (5, .ref A2), (0, .ref A), (1, .ref A2), (2, .int (nI u)), (3, .int (nI v)), (4, .int (nI n))]) hC dX5_passTo_51 (by decide) rfl ?_
          have hkn : k = n := by omega
          have lp2 : ∀ (m : Nat) (k : Nat) (L5 : List Nat) (f5 : Nat → va_E), n - k < m → (k ≤ n) → (xR cy (aNr S 12 (16 * r2 + v) k (fun i => S.2.1 12 (16 * r + (u + i)))) b L5 f5) → (xN cy S b L5 f5 q15 (qA (cy 4) n (fun i => if i < n then rcF S b r (u + i) else none))) → gW X vwCl 8 L5 f5 1 16 53 [(7, .int (nI k)), (6, .ref q15), (5, .ref A2), (0, .ref A), (1, .ref A2), (2, .int (nI u)), (3, .int (nI v)), (4, .int (nI n))] [] := by
            intro m
            induction m with
            | zero => intros; omega
            | succ m ih =>
              intro k L5 f5 hm9 hk hx5 hq5
              have h11 : (aNr S 12 (16 * r2 + v) k (fun i => S.2.1 12 (16 * r + (u + i)))).2.1 11 r2 = S.2.1 11 r2 := rfl
              have ih2 := ih
              refine g_iload hC dX5_passTo_53 0 rfl ?_
              refine g_iload hC dX5_passTo_55 7 rfl ?_
              refine g_icmpN_ge (a := k) (b := n) (tgt := 81) hC dX5_passTo_57 (by decide) (by omega) (by omega) (fun h57 => ?_) (fun h57 => ?_)
              · have hkn : k = n := by omega
                subst hkn
                exact g_vret hC hR dX5_passTo_81 ⟨rfl, hx5⟩
              · refine g_aload hC dX5_passTo_60 2 rfl (Or.inr ⟨_, rfl⟩) ?_
                refine g_get hC (by decide +kernel) rfl (hx5.W hr2 hA2).1 (hx5.W hr2 hA2).2 0 (by decide) (by decide +kernel) (Or.inl rfl) rfl dX5_passTo_62 ?_
                refine g_iload_n hC dX5_passTo_65 rfl 6 rfl ?_
                refine g_iload hC dX5_passTo_66 0 rfl ?_
                refine g_iaddN (a := v) (b := k) hC dX5_passTo_68 ?_
                refine g_aload hC dX5_passTo_69 1 rfl (Or.inr ⟨_, rfl⟩) ?_
                refine g_iload hC dX5_passTo_71 0 rfl ?_
                refine g_aald hC 4 rfl hq5.1.1 hq5.1.2 (k) rfl (show k < n by omega) (show n < 2 ^ 31 by omega) dX5_passTo_73 ?_
                refine g_val (w := va_rf (rfo b (S.2.1 12 (16 * r + (u + k))))) (congrArg va_rf ((if_pos (show k < n by omega)).trans (if_pos (show u + k < S.2.1 11 r by omega)))) ?_
                refine g_aastQ hC 4 rfl (hx5.rfE (show S.2.1 12 (16 * r + (u + k)) ≤ S.1 4 from hF.2.1 r hr (u + k) (by omega))) rfl (hx5.Wc hr2 rfl).1 (hx5.Wc hr2 rfl).2 (v + k) rfl (show v + k < (aNr S 12 (16 * r2 + v) k (fun i => S.2.1 12 (16 * r + (u + i)))).2.1 11 r2 by omega) (show (aNr S 12 (16 * r2 + v) k (fun i => S.2.1 12 (16 * r + (u + i)))).2.1 11 r2 < 2 ^ 31 by omega) dX5_passTo_74 ?_
                refine g_wx (P := fun L9 f9 => xR cy (aN (aNr S 12 (16 * r2 + v) k (fun i => S.2.1 12 (16 * r + (u + i)))) 12 (16 * r2 + (v + k)) (S.2.1 12 (16 * r + (u + k)))) b L9 f9 ∧ xN cy (aN (aNr S 12 (16 * r2 + v) k (fun i => S.2.1 12 (16 * r + (u + i)))) 12 (16 * r2 + (v + k)) (S.2.1 12 (16 * r + (u + k)))) b L9 f9 q15 (qA (cy 4) n (fun i => if i < n then rcF S b r (u + i) else none))) ⟨hx5.rset (show ∀ r, r < S.1 10 → S.2.1 11 r ≤ 16 from hl) hr2 (show v + k < S.2.1 11 r2 by omega) rfl, (xN.keep hq5 (hq5.2 5 r2 hr2).symm)⟩ (fun L6 f6 hw6 => ?_)
                obtain ⟨hx6, hq15_6⟩ := hw6
                show gW X vwCl 8 L6 f6 1 16 75 [(7, .int (nI k)), (6, .ref q15), (5, .ref A2), (0, .ref A), (1, .ref A2), (2, .int (nI u)), (3, .int (nI v)), (4, .int (nI n))] []
                refine g_iincN (n := 1) (a := k) (lv' := [(7, .int (nI (k + 1))), (6, .ref q15), (5, .ref A2), (0, .ref A), (1, .ref A2), (2, .int (nI u)), (3, .int (nI v)), (4, .int (nI n))]) hC dX5_passTo_75 0 rfl (by decide) rfl ?_
                refine g_goto (tgt := 53) hC dX5_passTo_78 (by decide) ?_
                exact ih2 (k + 1) L6 f6 (by omega) (by omega) (by rw [← aNr_s (g := fun i => S.2.1 12 (16 * r + (u + i))), Nat.add_assoc]; exact hx6) hq15_6
          exact lp2 (n + 1) 0 L3 f3 (by omega) (by omega) (by rw [aNr_0]; exact hx3) (by
            have e : k = n := by omega
            subst e
            exact hq3)
        · refine g_aload hC dX5_passTo_30 1 rfl (Or.inr ⟨_, rfl⟩) ?_
          refine g_iload hC dX5_passTo_32 0 rfl ?_
          refine g_aload_n hC dX5_passTo_34 rfl 3 rfl (Or.inr ⟨_, rfl⟩) ?_
          refine g_get hC (by decide +kernel) rfl (hx3.W hr hA).1 (hx3.W hr hA).2 0 (by decide) (by decide +kernel) (Or.inl rfl) rfl dX5_passTo_35 ?_
          refine g_iload_n hC dX5_passTo_38 rfl 5 rfl ?_
          refine g_iload hC dX5_passTo_39 0 rfl ?_
          refine g_iaddN (a := u) (b := k) hC dX5_passTo_41 ?_
          refine g_aald hC 4 rfl (hx3.Wc hr rfl).1 (hx3.Wc hr rfl).2 (u + k) rfl (show u + k < S.2.1 11 r by omega) (show S.2.1 11 r < 2 ^ 31 by omega) dX5_passTo_42 ?_
          refine g_aastQ hC 4 rfl (hx3.rcE hF hr) rfl hq3.1.1 hq3.1.2 (k) rfl (show k < n by omega) (show n < 2 ^ 31 by omega) dX5_passTo_43 ?_
          refine g_wx (P := fun L9 f9 => xR cy S b L9 f9 ∧ xN cy S b L9 f9 q15 (qA (cy 4) n (va_up (fun i => if i < k then rcF S b r (u + i) else none) k (rcF S b r (u + k))))) ⟨hx3.put hq3, hq3.put⟩ (fun L4 f4 hw4 => ?_)
          obtain ⟨hx4, hq15_4⟩ := hw4
          show gW X vwCl 8 L4 f4 1 16 44 [(7, .int (nI k)), (6, .ref q15), (5, .ref A2), (0, .ref A), (1, .ref A2), (2, .int (nI u)), (3, .int (nI v)), (4, .int (nI n))] []
          refine g_iincN (n := 1) (a := k) (lv' := [(7, .int (nI (k + 1))), (6, .ref q15), (5, .ref A2), (0, .ref A), (1, .ref A2), (2, .int (nI u)), (3, .int (nI v)), (4, .int (nI n))]) hC dX5_passTo_44 0 rfl (by decide) rfl ?_
          refine g_goto (tgt := 23) hC dX5_passTo_47 (by decide) ?_
          exact ih (k + 1) L4 f4 (by omega) (by omega) hx4 (by rw [← up_lt]; exact hq15_4)
    exact lp (n + 1) 0 L1 f1 (by omega) (by omega) hx1 (by simpa using hq15_1)
end X6
