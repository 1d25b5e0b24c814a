section XT
variable {cy : Nat → ClassId} {S S' : aS} {b : xB} {L : List Nat} {f : Nat → va_E} {q c d n r t A B T i : Nat} {e e1 e2 e3 : va_E}
theorem xR.apart (h : xR cy S b L f) {k r k' r' A B : Nat} (hA : b.1 k r = A) (hB : b.1 k' r' = B) (hv : xV S k r) (hv' : xV S k' r') (hne : k ≠ k' ∨ r ≠ r') : A ≠ B := by
  subst hA hB
  intro z
  have := h.2 k r k' r' hv hv' z
  omega
theorem xR.up2 (h : xR cy S b L f) {k0 r0 k1 r1 : Nat} (hA : b.1 k0 r0 = A) (hB : b.1 k1 r1 = B) (hv0 : xV S k0 r0) (hv1 : xV S k1 r1) (h01 : k0 ≠ k1) (hv : ∀ k r, xV S' k r → xV S k r) (he1 : e1 = xE cy S' b k0 r0) (he2 : e2 = xE cy S' b k1 r1) (ho : ∀ k r, xV S k r → (k = k0 → r ≠ r0) → (k = k1 → r ≠ r1) → xE cy S' b k r = xE cy S b k r) : xR cy S' b L (va_up (va_up f A e1) B e2) := by
  have hAB := h.apart hA hB hv0 hv1 (Or.inl h01)
  subst hA hB
  refine ⟨fun k r hk => ⟨(h.1 k r (hv k r hk)).1, ?_⟩, fun k r k' r' h1 h2 => h.2 k r k' r' (hv _ _ h1) (hv _ _ h2)⟩
  have hk' := hv k r hk
  by_cases q1 : b.1 k r = b.1 k1 r1
  · obtain ⟨rfl, rfl⟩ := h.2 k r k1 r1 hk' hv1 q1
    rw [va_up_self]; exact he2
  · rw [va_up_ne _ _ q1]
    by_cases q0 : b.1 k r = b.1 k0 r0
    · obtain ⟨rfl, rfl⟩ := h.2 k r k0 r0 hk' hv0 q0
      rw [va_up_self]; exact he1
    · rw [va_up_ne _ _ q0, (h.1 k r hk').2]
      exact (ho k r hk' (fun z1 z2 => q0 (by rw [z1, z2])) (fun z1 z2 => q1 (by rw [z1, z2]))).symm
theorem xR.up3 (h : xR cy S b L f) {k0 r0 k1 r1 k2 r2 C : Nat} (hA : b.1 k0 r0 = A) (hB : b.1 k1 r1 = B) (hC : b.1 k2 r2 = C) (hv0 : xV S k0 r0) (hv1 : xV S k1 r1) (hv2 : xV S k2 r2) (h01 : k0 ≠ k1) (h02 : k0 ≠ k2) (h12 : k1 ≠ k2) (hv : ∀ k r, xV S' k r → xV S k r) (he1 : e1 = xE cy S' b k0 r0) (he2 : e2 = xE cy S' b k1 r1) (he3 : e3 = xE cy S' b k2 r2) (ho : ∀ k r, xV S k r → (k = k0 → r ≠ r0) → (k = k1 → r ≠ r1) → (k = k2 → r ≠ r2) → xE cy S' b k r = xE cy S b k r) : xR cy S' b L (va_up (va_up (va_up f A e1) B e2) C e3) := by
  subst hA hB hC
  refine ⟨fun k r hk => ⟨(h.1 k r (hv k r hk)).1, ?_⟩, fun k r k' r' h1 h2 => h.2 k r k' r' (hv _ _ h1) (hv _ _ h2)⟩
  have hk' := hv k r hk
  by_cases q2 : b.1 k r = b.1 k2 r2
  · obtain ⟨rfl, rfl⟩ := h.2 k r k2 r2 hk' hv2 q2
    rw [va_up_self]; exact he3
  · rw [va_up_ne _ _ q2]
    by_cases q1 : b.1 k r = b.1 k1 r1
    · obtain ⟨rfl, rfl⟩ := h.2 k r k1 r1 hk' hv1 q1
      rw [va_up_self]; exact he2
    · rw [va_up_ne _ _ q1]
      by_cases q0 : b.1 k r = b.1 k0 r0
      · obtain ⟨rfl, rfl⟩ := h.2 k r k0 r0 hk' hv0 q0
        rw [va_up_self]; exact he1
      · rw [va_up_ne _ _ q0, (h.1 k r hk').2]
        exact (ho k r hk' (fun z1 z2 => q0 (by rw [z1, z2])) (fun z1 z2 => q1 (by rw [z1, z2])) (fun z1 z2 => q2 (by rw [z1, z2]))).symm
/-- a book in which one thing lies elsewhere -/
def bkM (b : xB) (k0 r0 q : Nat) : xB := (fun k r => if k = k0 ∧ r = r0 then q else b.1 k r, b.2)
theorem bkM_q {b : xB} {k0 r0 q : Nat} : (bkM b k0 r0 q).1 k0 r0 = q := if_pos ⟨rfl, rfl⟩
theorem bkM_o {b : xB} {k0 r0 q k r : Nat} (h : k = k0 → r ≠ r0) : (bkM b k0 r0 q).1 k r = b.1 k r := if_neg (fun z => h z.1 z.2)
theorem xG.mv {k0 : Nat} (h : k0 = 8 ∨ k0 = 10) : xG S b (bkM b k0 r q) := fun k r' h8 h10 _ => bkM_o (fun z => by omega)
theorem xR.move (h : xR cy S b L f) (hN : xN cy S b L f q e) {k0 r0 k1 r1 : Nat} (hA : b.1 k1 r1 = A) (hv0 : xV S k0 r0) (hv1 : xV S k1 r1) (h01 : k0 ≠ k1) (hv : ∀ k r, xV S' k r → xV S k r) (he : e = xE cy S' (bkM b k0 r0 q) k0 r0) (he1 : e1 = xE cy S' (bkM b k0 r0 q) k1 r1) (ho : ∀ k r, xV S k r → (k = k0 → r ≠ r0) → (k = k1 → r ≠ r1) → xE cy S' (bkM b k0 r0 q) k r = xE cy S b k r) : xR cy S' (bkM b k0 r0 q) L (va_up f A e1) := by
  subst hA
  refine h.ext (fun k r => k = k0 ∧ r = r0) (fun _ z => z) (fun k r hk hw => ?_) (fun k r hw => ?_) (fun k r k' r' h1 h2 _ => by omega)
  · have hk' := hv k r hk
    have hbo : (bkM b k0 r0 q).1 k r = b.1 k r := if_neg hw
    refine ⟨hk', hbo, ?_⟩
    by_cases q1 : b.1 k r = b.1 k1 r1
    · obtain ⟨rfl, rfl⟩ := h.2 k r k1 r1 hk' hv1 q1
      rw [va_up_self]; exact he1
    · rw [va_up_ne _ _ q1, (h.1 k r hk').2]
      exact (ho k r hk' (fun z1 z2 => hw ⟨z1, z2⟩) (fun z1 z2 => q1 (by rw [z1, z2]))).symm
  · obtain ⟨rfl, rfl⟩ := hw
    rw [bkM_q]
    exact ⟨hN.1.1, hN.2, by rw [va_up_ne _ _ (fun z => hN.2 k1 r1 hv1 z.symm), hN.1.2]; exact he⟩
theorem thk_6 {k : Nat} : thk k ≤ 6 := by unfold thk; split <;> omega
theorem plc_M {k0 r0 : Nat} (h : 7 ≤ k0) : plcF S (bkM b k0 r0 q) = plcF S b := by
  funext j
  unfold plcF pvo
  rw [bkM_o (fun z => by have := thk_6 (k := kd S j); omega)]
/-- the SLOTS of t are twice as many, all with none -/
def clr1 (S : aS) (t : Nat) : aS := aNr (aN S 15 t (S.2.1 15 t * 2)) 19 (256 * t) (S.2.1 15 t * 2) (fun _ => 0)
theorem xR.clrt (h : xR cy S b L f) (hl : ∀ t, t < S.1 13 → S.2.1 15 t ≤ 256) (ht : t < S.1 13) (hk : S.2.1 14 t = 0) (h128 : S.2.1 15 t ≤ 128) (hT : b.1 6 t = T) (hN : xN cy S b L f q (iA (cy 2) (2 * S.2.1 15 t) (fun i => if i < 2 * S.2.1 15 t then -3 else 0))) : xR cy (clr1 S t) (bkM b 8 t q) L (va_up f T (.inr (5, (tbF S b t).set 1 (.ref q)))) := by
  have h15 : (clr1 S t).2.1 15 t = S.2.1 15 t * 2 := va_up_self _ _ _
  exact h.move hN (k0 := 8) (r0 := t) (k1 := 6) (r1 := t) hT ht ht (by decide) (fun _ _ z => z)
    (by
      show _ = iA _ ((clr1 S t).2.1 15 t) (slF (clr1 S t) t)
      rw [h15, Nat.mul_comm 2]
      refine congrArg (iA _ _) (funext fun i9 => ?_)
      unfold slF
      rw [h15]
      by_cases e : i9 < S.2.1 15 t * 2
      · rw [if_pos e, if_pos e, show (clr1 S t).2.1 19 (256 * t + i9) = 0 from if_pos (by omega)]; rfl
      · rw [if_neg e, if_neg e])
    (by
      show _ = (if S.2.1 14 t = 0 then _ else _)
      rw [if_pos hk]
      show _ = Sum.inr (5, tbF (clr1 S t) (bkM b 8 t q) t)
      unfold tbF
      rw [bkM_q]
      rfl)
    (fun k9 r9 hk9 => hk9.cs (P := fun k9 r9 => (k9 = 8 → r9 ≠ t) → (k9 = 6 → r9 ≠ t) → xE cy (clr1 S t) (bkM b 8 t q) k9 r9 = xE cy S b k9 r9)
    (fun _ _ _ => rfl)
    (fun _ _ _ => rfl)
    (fun _ _ _ => rfl)
    (fun _ _ _ => rfl)
    (fun _ _ _ => rfl)
    (fun _ _ _ => rfl)
    (fun hr _ hne => by
      have hne : r9 ≠ t := hne rfl
      show (if S.2.1 14 r9 = 0 then _ else _) = (if S.2.1 14 r9 = 0 then _ else _)
      unfold tbF tkF
      rw [show (bkM b 8 t q).1 8 r9 = b.1 8 r9 from bkM_o (fun _ => hne)]
      rfl)
    (fun _ _ _ => rfl)
    (fun hr hne _ => by
      have hne : r9 ≠ t := hne rfl
      show iA _ ((clr1 S t).2.1 15 r9) (slF (clr1 S t) r9) = iA _ _ (slF S r9)
      have h15 : (clr1 S t).2.1 15 r9 = S.2.1 15 r9 := va_up_ne _ _ hne
      have := hl r9 hr
      rw [h15]
      refine congrArg (iA _ _) (funext fun i9 => ?_)
      unfold slF
      rw [h15]
      by_cases e : i9 < S.2.1 15 r9
      · rw [if_pos e, if_pos e]
        congr 1
        exact if_neg (by omega)
      · rw [if_neg e, if_neg e])
    (fun _ _ => rfl)
    (fun _ _ => congrArg (qA (cy 5) 10) (plc_M (by decide)))
    (fun _ _ => rfl)
    (fun _ _ => rfl)
    (fun _ _ => rfl))
theorem xR.newTmt (h : xR cy S b L f) (hl : ∀ t, t < S.1 13 → S.2.1 15 t ≤ 256) (hm : ∀ t, t < S.1 13 → S.2.1 16 t ≤ 100) (ht : t < S.1 13) (hk : S.2.1 14 t = 0) (hm1 : S.2.1 16 t < 100) (hi : i < S.2.1 15 t) (hT : b.1 6 t = T) : xR cy (newTm S t r i) b L (va_up (va_up (va_up f (b.1 7 t) (qA (cy 4) 100 (va_up (tmF S b t) (S.2.1 16 t) (some (b.1 0 r))))) (b.1 8 t) (iA (cy 2) (S.2.1 15 t) (upd (slF S t) i (nI (S.2.1 16 t))))) T (.inr (5, (tbF S b t).set 2 (.int (nI (S.2.1 16 t + 1)))))) := by
  have h16 : (newTm S t r i).2.1 16 t = S.2.1 16 t + 1 := va_up_self _ _ _
  have hl9 := hl t ht
  exact h.up3 (k0 := 7) (r0 := t) (k1 := 8) (r1 := t) (k2 := 6) (r2 := t) rfl rfl hT ht ht ht (by decide) (by decide) (by decide) (fun _ _ z => z)
    (by
      show _ = qA _ _ (tmF (newTm S t r i) b t)
      refine congrArg (qA _ _) (funext fun i9 => ?_)
      unfold tmF
      rw [h16]
      show (if i9 = S.2.1 16 t then _ else (if i9 < S.2.1 16 t then _ else _)) = (if i9 < S.2.1 16 t + 1 then some (b.1 0 (if 100 * t + i9 = 100 * t + S.2.1 16 t then r else _)) else _)
      by_cases e : i9 = S.2.1 16 t
      · rw [if_pos e, if_pos (by omega), if_pos (by omega)]
      · rw [if_neg e]
        by_cases e2 : i9 < S.2.1 16 t
        · rw [if_pos e2, if_pos (by omega), if_neg (by omega)]
        · rw [if_neg e2, if_neg (by omega)])
    (by
      show _ = iA _ _ (slF (newTm S t r i) t)
      refine congrArg (iA _ _) (funext fun i9 => ?_)
      unfold slF
      show (if i9 = i then _ else (if i9 < S.2.1 15 t then _ else _)) = (if i9 < S.2.1 15 t then slv (if 256 * t + i9 = 256 * t + i then S.2.1 16 t + 1 else _) else _)
      by_cases e : i9 = i
      · subst e; rw [if_pos rfl, if_pos hi, if_pos rfl]; rfl
      · rw [if_neg e]
        by_cases e2 : i9 < S.2.1 15 t
        · rw [if_pos e2, if_pos e2, if_neg (by omega)]; rfl
        · rw [if_neg e2, if_neg e2])
    (by
      show _ = (if S.2.1 14 t = 0 then _ else _)
      rw [if_pos hk]
      show _ = Sum.inr (5, tbF (newTm S t r i) b t)
      unfold tbF
      rw [h16]
      rfl)
    (fun k9 r9 hk9 => hk9.cs (P := fun k9 r9 => (k9 = 7 → r9 ≠ t) → (k9 = 8 → r9 ≠ t) → (k9 = 6 → r9 ≠ t) → xE cy (newTm S t r i) b k9 r9 = xE cy S b k9 r9)
    (fun _ _ _ _ => rfl)
    (fun _ _ _ _ => rfl)
    (fun _ _ _ _ => rfl)
    (fun _ _ _ _ => rfl)
    (fun _ _ _ _ => rfl)
    (fun _ _ _ _ => rfl)
    (fun hr _ _ hne => by
      have hne : r9 ≠ t := hne rfl
      show (if S.2.1 14 r9 = 0 then _ else _) = (if S.2.1 14 r9 = 0 then _ else _)
      unfold tbF tkF
      rw [show (newTm S t r i).2.1 16 r9 = S.2.1 16 r9 from va_up_ne _ _ hne]
      rfl)
    (fun hr hne _ _ => by
      have hne : r9 ≠ t := hne rfl
      show qA _ _ (tmF (newTm S t r i) b r9) = qA _ _ (tmF S b r9)
      have h16 : (newTm S t r i).2.1 16 r9 = S.2.1 16 r9 := va_up_ne _ _ hne
      have := hm r9 hr
      refine congrArg (qA _ _) (funext fun i9 => ?_)
      unfold tmF
      rw [h16]
      by_cases e : i9 < S.2.1 16 r9
      · rw [if_pos e, if_pos e, show (newTm S t r i).2.1 20 (100 * r9 + i9) = S.2.1 20 (100 * r9 + i9) from if_neg (by omega)]
      · rw [if_neg e, if_neg e])
    (fun hr _ hne _ => by
      have hne : r9 ≠ t := hne rfl
      show iA _ _ (slF (newTm S t r i) r9) = iA _ _ (slF S r9)
      have := hl r9 hr
      refine congrArg (iA _ _) (funext fun i9 => ?_)
      unfold slF
      show (if i9 < S.2.1 15 r9 then _ else _) = (if i9 < S.2.1 15 r9 then _ else _)
      by_cases e : i9 < S.2.1 15 r9
      · rw [if_pos e, if_pos e]; congr 1; exact if_neg (by omega)
      · rw [if_neg e, if_neg e])
    (fun _ _ _ => rfl)
    (fun _ _ _ => rfl)
    (fun _ _ _ => rfl)
    (fun _ _ _ => rfl)
    (fun _ _ _ => rfl))
theorem xR.clrk (h : xR cy S b L f) (hl : ∀ t, t < S.1 13 → S.2.1 15 t ≤ 256) (ht : t < S.1 13) (hk : S.2.1 14 t ≠ 0) (h128 : S.2.1 15 t ≤ 128) (hT : b.1 6 t = T) (hN : xN cy S b L f q (iA (cy 2) (2 * S.2.1 15 t) (fun i => if i < 2 * S.2.1 15 t then -3 else 0))) : xR cy (clr1 S t) (bkM b 8 t q) L (va_up f T (.inr (1, (tkF S b t).set 1 (.ref q)))) := by
  have h15 : (clr1 S t).2.1 15 t = S.2.1 15 t * 2 := va_up_self _ _ _
  exact h.move hN (k0 := 8) (r0 := t) (k1 := 6) (r1 := t) hT ht ht (by decide) (fun _ _ z => z)
    (by
      show _ = iA _ ((clr1 S t).2.1 15 t) (slF (clr1 S t) t)
      rw [h15, Nat.mul_comm 2]
      refine congrArg (iA _ _) (funext fun i9 => ?_)
      unfold slF
      rw [h15]
      by_cases e : i9 < S.2.1 15 t * 2
      · rw [if_pos e, if_pos e, show (clr1 S t).2.1 19 (256 * t + i9) = 0 from if_pos (by omega)]; rfl
      · rw [if_neg e, if_neg e])
    (by
      show _ = (if S.2.1 14 t = 0 then _ else _)
      rw [if_neg hk]
      show _ = Sum.inr (1, tkF (clr1 S t) (bkM b 8 t q) t)
      unfold tkF
      rw [bkM_q]
      rfl)
    (fun k9 r9 hk9 => hk9.cs (P := fun k9 r9 => (k9 = 8 → r9 ≠ t) → (k9 = 6 → r9 ≠ t) → xE cy (clr1 S t) (bkM b 8 t q) k9 r9 = xE cy S b k9 r9)
    (fun _ _ _ => rfl)
    (fun _ _ _ => rfl)
    (fun _ _ _ => rfl)
    (fun _ _ _ => rfl)
    (fun _ _ _ => rfl)
    (fun _ _ _ => rfl)
    (fun hr _ hne => by
      have hne : r9 ≠ t := hne rfl
      show (if S.2.1 14 r9 = 0 then _ else _) = (if S.2.1 14 r9 = 0 then _ else _)
      unfold tbF tkF
      rw [show (bkM b 8 t q).1 8 r9 = b.1 8 r9 from bkM_o (fun _ => hne)]
      rfl)
    (fun _ _ _ => rfl)
    (fun hr hne _ => by
      have hne : r9 ≠ t := hne rfl
      show iA _ ((clr1 S t).2.1 15 r9) (slF (clr1 S t) r9) = iA _ _ (slF S r9)
      have h15 : (clr1 S t).2.1 15 r9 = S.2.1 15 r9 := va_up_ne _ _ hne
      have := hl r9 hr
      rw [h15]
      refine congrArg (iA _ _) (funext fun i9 => ?_)
      unfold slF
      rw [h15]
      by_cases e : i9 < S.2.1 15 r9
      · rw [if_pos e, if_pos e]
        congr 1
        exact if_neg (by omega)
      · rw [if_neg e, if_neg e])
    (fun _ _ => rfl)
    (fun _ _ => congrArg (qA (cy 5) 10) (plc_M (by decide)))
    (fun _ _ => rfl)
    (fun _ _ => rfl)
    (fun _ _ => rfl))
theorem xR.newTmk (h : xR cy S b L f) (hl : ∀ t, t < S.1 13 → S.2.1 15 t ≤ 256) (hm : ∀ t, t < S.1 13 → S.2.1 16 t ≤ 100) (ht : t < S.1 13) (hk : S.2.1 14 t ≠ 0) (hm1 : S.2.1 16 t < 100) (hi : i < S.2.1 15 t) (hT : b.1 6 t = T) : xR cy (newTm S t r i) b L (va_up (va_up (va_up f (b.1 7 t) (qA (cy 4) 100 (va_up (tmF S b t) (S.2.1 16 t) (some (b.1 0 r))))) (b.1 8 t) (iA (cy 2) (S.2.1 15 t) (upd (slF S t) i (nI (S.2.1 16 t))))) T (.inr (1, (tkF S b t).set 2 (.int (nI (S.2.1 16 t + 1)))))) := by
  have h16 : (newTm S t r i).2.1 16 t = S.2.1 16 t + 1 := va_up_self _ _ _
  have hl9 := hl t ht
  exact h.up3 (k0 := 7) (r0 := t) (k1 := 8) (r1 := t) (k2 := 6) (r2 := t) rfl rfl hT ht ht ht (by decide) (by decide) (by decide) (fun _ _ z => z)
    (by
      show _ = qA _ _ (tmF (newTm S t r i) b t)
      refine congrArg (qA _ _) (funext fun i9 => ?_)
      unfold tmF
      rw [h16]
      show (if i9 = S.2.1 16 t then _ else (if i9 < S.2.1 16 t then _ else _)) = (if i9 < S.2.1 16 t + 1 then some (b.1 0 (if 100 * t + i9 = 100 * t + S.2.1 16 t then r else _)) else _)
      by_cases e : i9 = S.2.1 16 t
      · rw [if_pos e, if_pos (by omega), if_pos (by omega)]
      · rw [if_neg e]
        by_cases e2 : i9 < S.2.1 16 t
        · rw [if_pos e2, if_pos (by omega), if_neg (by omega)]
        · rw [if_neg e2, if_neg (by omega)])
    (by
      show _ = iA _ _ (slF (newTm S t r i) t)
      refine congrArg (iA _ _) (funext fun i9 => ?_)
      unfold slF
      show (if i9 = i then _ else (if i9 < S.2.1 15 t then _ else _)) = (if i9 < S.2.1 15 t then slv (if 256 * t + i9 = 256 * t + i then S.2.1 16 t + 1 else _) else _)
      by_cases e : i9 = i
      · subst e; rw [if_pos rfl, if_pos hi, if_pos rfl]; rfl
      · rw [if_neg e]
        by_cases e2 : i9 < S.2.1 15 t
        · rw [if_pos e2, if_pos e2, if_neg (by omega)]; rfl
        · rw [if_neg e2, if_neg e2])
    (by
      show _ = (if S.2.1 14 t = 0 then _ else _)
      rw [if_neg hk]
      show _ = Sum.inr (1, tkF (newTm S t r i) b t)
      unfold tkF
      rw [h16]
      rfl)
    (fun k9 r9 hk9 => hk9.cs (P := fun k9 r9 => (k9 = 7 → r9 ≠ t) → (k9 = 8 → r9 ≠ t) → (k9 = 6 → r9 ≠ t) → xE cy (newTm S t r i) b k9 r9 = xE cy S b k9 r9)
    (fun _ _ _ _ => rfl)
    (fun _ _ _ _ => rfl)
    (fun _ _ _ _ => rfl)
    (fun _ _ _ _ => rfl)
    (fun _ _ _ _ => rfl)
    (fun _ _ _ _ => rfl)
    (fun hr _ _ hne => by
      have hne : r9 ≠ t := hne rfl
      show (if S.2.1 14 r9 = 0 then _ else _) = (if S.2.1 14 r9 = 0 then _ else _)
      unfold tbF tkF
      rw [show (newTm S t r i).2.1 16 r9 = S.2.1 16 r9 from va_up_ne _ _ hne]
      rfl)
    (fun hr hne _ _ => by
      have hne : r9 ≠ t := hne rfl
      show qA _ _ (tmF (newTm S t r i) b r9) = qA _ _ (tmF S b r9)
      have h16 : (newTm S t r i).2.1 16 r9 = S.2.1 16 r9 := va_up_ne _ _ hne
      have := hm r9 hr
      refine congrArg (qA _ _) (funext fun i9 => ?_)
      unfold tmF
      rw [h16]
      by_cases e : i9 < S.2.1 16 r9
      · rw [if_pos e, if_pos e, show (newTm S t r i).2.1 20 (100 * r9 + i9) = S.2.1 20 (100 * r9 + i9) from if_neg (by omega)]
      · rw [if_neg e, if_neg e])
    (fun hr _ hne _ => by
      have hne : r9 ≠ t := hne rfl
      show iA _ _ (slF (newTm S t r i) r9) = iA _ _ (slF S r9)
      have := hl r9 hr
      refine congrArg (iA _ _) (funext fun i9 => ?_)
      unfold slF
      show (if i9 < S.2.1 15 r9 then _ else _) = (if i9 < S.2.1 15 r9 then _ else _)
      by_cases e : i9 < S.2.1 15 r9
      · rw [if_pos e, if_pos e]; congr 1; exact if_neg (by omega)
      · rw [if_neg e, if_neg e])
    (fun _ _ _ => rfl)
    (fun _ _ _ => rfl)
    (fun _ _ _ => rfl)
    (fun _ _ _ => rfl)
    (fun _ _ _ => rfl))
theorem capN_le {n : Nat} (h : n ≤ 1024) : n ≤ capN n ∧ capN n ≤ 1024 ∧ 16 ≤ capN n := by unfold capN; (repeat' split) <;> omega
theorem capN_s {n : Nat} (h : n < capN n) : capN (n + 1) = capN n := by
  unfold capN at *
  repeat' split at h
  all_goals (repeat' split)
  all_goals omega
theorem capN_w {n : Nat} (h1 : n < 1024) (h : ¬ n < capN n) : capN n = n ∧ capN (n + 1) = 2 * n ∧ 16 ≤ n := by
  have e : n = 16 ∨ n = 32 ∨ n = 64 ∨ n = 128 ∨ n = 256 ∨ n = 512 := by
    unfold capN at h
    repeat' split at h
    all_goals omega
  rcases e with rfl | rfl | rfl | rfl | rfl | rfl <;> decide
abbrev kpS (S : aS) (r : Nat) : aS := aSc (aN S 22 (S.1 21) r) 21 (S.1 21 + 1)
theorem plF_kp {S : aS} {b : xB} {r : Nat} : plF (kpS S r) b = va_up (plF S b) (S.1 21) (some (b.1 0 r)) := by
  funext i9
  unfold plF
  show (if i9 < S.1 21 + 1 then some (b.1 0 (if i9 = S.1 21 then r else _)) else _) = (if i9 = S.1 21 then _ else (if i9 < S.1 21 then _ else _))
  by_cases e : i9 = S.1 21
  · rw [if_pos (by omega), if_pos e, if_pos e]
  · rw [if_neg e, if_neg e]
    by_cases e2 : i9 < S.1 21
    · rw [if_pos e2, if_pos (by omega)]
    · rw [if_neg e2, if_neg (by omega)]
theorem xR.keep1 (h : xR cy S b L f) (hn : S.1 21 < capN (S.1 21)) : xR cy (kpS S r) b L (va_up (va_up f (b.1 10 0) (qA (cy 4) (capN (S.1 21)) (va_up (plF S b) (S.1 21) (some (b.1 0 r))))) (b.1 9 2) (.inr (2, [.ref (b.1 10 0), .int (nI (S.1 21 + 1))]))) :=
  h.up2 (k0 := 10) (r0 := 0) (k1 := 9) (r1 := 2) rfl rfl (show 0 < 1 by decide) (show 2 < 4 by decide) (by decide) (fun _ _ z => z)
    (by
      show _ = qA _ (capN (S.1 21 + 1)) (plF (kpS S r) b)
      rw [capN_s hn, plF_kp])
    rfl
    (fun k9 r9 hk9 => hk9.cs (P := fun k9 r9 => (k9 = 10 → r9 ≠ 0) → (k9 = 9 → r9 ≠ 2) → xE cy (kpS S r) b k9 r9 = xE cy S b k9 r9)
    (fun _ _ _ => rfl)
    (fun _ _ _ => rfl)
    (fun _ _ _ => rfl)
    (fun _ _ _ => rfl)
    (fun _ _ _ => rfl)
    (fun _ _ _ => rfl)
    (fun _ _ _ => rfl)
    (fun _ _ _ => rfl)
    (fun _ _ _ => rfl)
    (fun _ _ => rfl)
    (fun _ _ => rfl)
    (fun _ h9 => absurd rfl (h9 rfl))
    (fun _ _ => rfl)
    (fun h9 _ => absurd rfl (h9 rfl)))
theorem xR.keep2 (h : xR cy S b L f) (h1 : S.1 21 < 1024) (hn : ¬ S.1 21 < capN (S.1 21)) (hN : xN cy S b L f q (qA (cy 4) (2 * capN (S.1 21)) (va_up (plF S b) (S.1 21) (some (b.1 0 r))))) : xR cy (kpS S r) (bkM b 10 0 q) L (va_up f (b.1 9 2) (.inr (2, [.ref q, .int (nI (S.1 21 + 1))]))) :=
  h.move hN (k0 := 10) (r0 := 0) (k1 := 9) (r1 := 2) rfl (show 0 < 1 by decide) (show 2 < 4 by decide) (by decide) (fun _ _ z => z)
    (by
      show _ = qA _ (capN (S.1 21 + 1)) (plF (kpS S r) b)
      obtain ⟨c1, c2, c3⟩ := capN_w h1 hn
      rw [c2, c1, plF_kp])
    (by show _ = Sum.inr (2, [Value.ref ((bkM b 10 0 q).1 10 0), Value.int (nI (S.1 21 + 1))]); rw [bkM_q])
    (fun k9 r9 hk9 => hk9.cs (P := fun k9 r9 => (k9 = 10 → r9 ≠ 0) → (k9 = 9 → r9 ≠ 2) → xE cy (kpS S r) (bkM b 10 0 q) k9 r9 = xE cy S b k9 r9)
    (fun _ _ _ => rfl)
    (fun _ _ _ => rfl)
    (fun _ _ _ => rfl)
    (fun _ _ _ => rfl)
    (fun _ _ _ => rfl)
    (fun _ _ _ => rfl)
    (fun _ _ _ => rfl)
    (fun _ _ _ => rfl)
    (fun _ _ _ => rfl)
    (fun _ _ => rfl)
    (fun _ _ => congrArg (qA (cy 5) 10) (plc_M (by decide)))
    (fun _ h9 => absurd rfl (h9 rfl))
    (fun _ _ => rfl)
    (fun h9 _ => absurd rfl (h9 rfl)))
def bkT (b : xB) (n q c d : Nat) : xB := (fun k r => if r = n then (if k = 6 then q else if k = 7 then c else if k = 8 then d else b.1 k r) else b.1 k r, b.2)
theorem bkT_o {b : xB} {n q c d k r : Nat} (h : ¬ ((k = 6 ∨ k = 7 ∨ k = 8) ∧ r = n)) : (bkT b n q c d).1 k r = b.1 k r := by
  show (if r = n then (if k = 6 then q else if k = 7 then c else if k = 8 then d else b.1 k r) else b.1 k r) = _
  by_cases e : r = n
  · rw [if_pos e, if_neg (by omega), if_neg (by omega), if_neg (by omega)]
  · rw [if_neg e]
theorem bkT_6 {b : xB} {n q c d : Nat} : (bkT b n q c d).1 6 n = q := if_pos rfl
theorem bkT_7 {b : xB} {n q c d : Nat} : (bkT b n q c d).1 7 n = c := if_pos rfl
theorem bkT_8 {b : xB} {n q c d : Nat} : (bkT b n q c d).1 8 n = d := if_pos rfl
theorem xA.newT {kb size : Nat} (hI : ∀ t, t < S.1 13 → S.2.1 15 t ≤ 256) : xA S (newT S kb size) :=
  ⟨⟨rfl, rfl, rfl, rfl⟩, fun _ _ => ⟨rfl, fun _ _ => rfl⟩, fun _ _ => ⟨rfl, fun _ _ => rfl⟩, fun _ _ => ⟨rfl, fun _ _ => rfl⟩, fun t ht => ⟨va_up_ne _ _ (by omega), va_up_ne _ _ (by omega), va_up_ne _ _ (by omega), va_up_ne _ _ (by omega), va_up_ne _ _ (by omega), fun i hi => by
    have := hI t ht
    exact if_neg (by omega), fun _ _ => rfl⟩, fun _ _ => rfl, fun _ _ => ⟨rfl, rfl⟩⟩
theorem xR.tab (h : xR cy S b L f) (hF : xF S) (hl : ∀ t, t < S.1 13 → S.2.1 15 t ≤ 256) {kb size : Nat} (hz : size ≤ 256) (hq : xN cy S b L f q e) (hc : xN cy S b L f c (qA (cy 4) 100 (fun _ => none))) (hd : xN cy S b L f d (iA (cy 2) size (fun i => if i < size then -3 else 0))) (hqc : q ≠ c) (hqd : q ≠ d) (hcd : c ≠ d)
    (he : e = if kb = 0 then .inr (5, [.ref c, .ref d, .int (nI 0), .int (nI 0), .int (nI 0)]) else .inr (1, [.ref c, .ref d, .int (nI 0), .int (nI 0), .int (nI 0), .ref (b.1 9 2)])) : xR cy (newT S kb size) (bkT b (S.1 13) q c d) L f ∧ xG S b (bkT b (S.1 13) q c d) := by
  have hbo : ∀ k r, xV S k r → (bkT b (S.1 13) q c d).1 k r = b.1 k r := fun k r hk => bkT_o (fun z => by
    obtain ⟨z1, z2⟩ := z
    subst z2
    rcases z1 with z1 | z1 | z1 <;> (rw [z1] at hk; exact absurd (show S.1 13 < S.1 13 from hk) (by omega)))
  have h14 : (newT S kb size).2.1 14 (S.1 13) = kb := va_up_self _ _ _
  have h15 : (newT S kb size).2.1 15 (S.1 13) = size := va_up_self _ _ _
  have h16 : (newT S kb size).2.1 16 (S.1 13) = 0 := va_up_self _ _ _
  have h17 : (newT S kb size).2.1 17 (S.1 13) = 0 := va_up_self _ _ _
  have h18 : (newT S kb size).2.1 18 (S.1 13) = 0 := va_up_self _ _ _
  refine ⟨h.ext (fun k r => (k = 6 ∨ k = 7 ∨ k = 8) ∧ r = S.1 13) (fun _ z => z) (fun k r hk hw => ?_) (fun k r hw => ?_) (fun k r k' r' h1 h2 h3 => ?_), fun k r _ _ hk => hbo k r hk⟩
  · have hk' : xV S k r := by
      revert hw
      exact hk.cs (P := fun k r => ¬ ((k = 6 ∨ k = 7 ∨ k = 8) ∧ r = S.1 13) → xV S k r) (fun h _ => h) (fun h _ => h) (fun h _ => h) (fun h _ => h) (fun h _ => h) (fun h _ => h) (fun h hw => by
        have h : r < S.1 13 + 1 := h
        show r < S.1 13
        omega) (fun h hw => by
        have h : r < S.1 13 + 1 := h
        show r < S.1 13
        omega) (fun h hw => by
        have h : r < S.1 13 + 1 := h
        show r < S.1 13
        omega) (fun _ => show 0 < 4 by decide) (fun _ => show 1 < 4 by decide) (fun _ => show 2 < 4 by decide) (fun _ => show 3 < 4 by decide) (fun _ => show 0 < 1 by decide)
    exact ⟨hk', hbo k r hk', (h.1 k r hk').2.trans (xE_ext (xA.newT hl) hF hbo rfl hk').symm⟩
  · obtain ⟨z1, rfl⟩ := hw
    rcases z1 with rfl | rfl | rfl
    · rw [bkT_6]
      refine ⟨hq.1.1, hq.2, hq.1.2.trans (he.trans ?_)⟩
      show _ = (if (newT S kb size).2.1 14 (S.1 13) = 0 then _ else _)
      unfold tbF tkF
      rw [h14, h16, h17, h18, bkT_7, bkT_8, hbo 9 2 (show 2 < 4 by decide)]
    · rw [bkT_7]
      refine ⟨hc.1.1, hc.2, hc.1.2.trans ?_⟩
      show _ = qA _ _ (tmF _ _ _)
      refine congrArg (qA _ _) (funext fun i9 => ?_)
      unfold tmF
      rw [h16, if_neg (by omega)]
    · rw [bkT_8]
      refine ⟨hd.1.1, hd.2, hd.1.2.trans ?_⟩
      show _ = iA _ ((newT S kb size).2.1 15 (S.1 13)) (slF _ _)
      rw [h15]
      refine congrArg (iA _ _) (funext fun i9 => ?_)
      unfold slF
      rw [h15]
      by_cases e : i9 < size
      · rw [if_pos e, if_pos e, show (newT S kb size).2.1 19 (256 * S.1 13 + i9) = 0 from if_pos (by omega)]; rfl
      · rw [if_neg e, if_neg e]
  · obtain ⟨z1, rfl⟩ := h1
    obtain ⟨y1, rfl⟩ := h2
    rcases z1 with rfl | rfl | rfl <;> rcases y1 with rfl | rfl | rfl
    all_goals first | exact ⟨rfl, rfl⟩ | (simp only [bkT_6, bkT_7, bkT_8] at h3; first | exact absurd h3 hqc | exact absurd h3 hqd | exact absurd h3 hcd | exact absurd h3.symm hqc | exact absurd h3.symm hqd | exact absurd h3.symm hcd)
end XT
