theorem xV.cs {S : aS} {k r : Nat} {P : Nat → Nat → Prop} (hk : xV S k r) (h0 : r < S.1 4 → P 0 r) (h1 : r < S.1 4 → P 1 r) (h2 : r < S.1 7 → P 2 r) (h3 : r < S.1 7 → P 3 r) (h4 : r < S.1 10 → P 4 r) (h5 : r < S.1 10 → P 5 r) (h6 : r < S.1 13 → P 6 r) (h7 : r < S.1 13 → P 7 r) (h8 : r < S.1 13 → P 8 r) (h90 : P 9 0) (h91 : P 9 1) (h92 : P 9 2) (h93 : P 9 3) (h10 : P 10 0) : P k r := by
  match k, hk with
  | 0, hk => exact h0 hk
  | 1, hk => exact h1 hk
  | 2, hk => exact h2 hk
  | 3, hk => exact h3 hk
  | 4, hk => exact h4 hk
  | 5, hk => exact h5 hk
  | 6, hk => exact h6 hk
  | 7, hk => exact h7 hk
  | 8, hk => exact h8 hk
  | 9, hk =>
    match r, hk with
    | 0, _ => exact h90
    | 1, _ => exact h91
    | 2, _ => exact h92
    | 3, _ => exact h93
    | r + 4, hk => exact absurd (show r + 4 < 4 from hk) (by omega)
  | 10, hk =>
    have : r < 1 := hk
    have : r = 0 := by omega
    subst this
    exact h10
  | k + 11, hk => exact hk.elim
section XU
variable {cy : Nat → ClassId} {S : aS} {b : xB} {L : List Nat} {f : Nat → va_E} {r t A j i n x : Nat}
theorem xR.u1 (h : xR cy S b L f)  (hA : b.1 9 0 = A) : xR cy (aSc S 1 n) b L (va_up f A (.inr (6, (ktF S b).set 3 (.int (nI n))))) := by
  exact h.up (S' := (aSc S 1 n)) hA (show 0 < 4 by decide) (fun k r h => h) rfl (fun k9 r9 hk9 => hk9.cs (P := fun k9 r9 => (k9 = 9 → r9 ≠ 0) → xE cy (aSc S 1 n) b k9 r9 = xE cy S b k9 r9)
    (fun hr hne => rfl)
    (fun hr hne => rfl)
    (fun hr hne => rfl)
    (fun hr hne => rfl)
    (fun hr hne => rfl)
    (fun hr hne => rfl)
    (fun hr hne => rfl)
    (fun hr hne => rfl)
    (fun hr hne => rfl)
    (fun hne => absurd rfl (hne rfl))
    (fun hne => rfl)
    (fun hne => rfl)
    (fun hne => rfl)
    (fun hne => rfl))
theorem xR.u23 (h : xR cy S b L f)  (hA : b.1 9 0 = A) : xR cy (aSc S 23 n) b L (va_up f A (.inr (6, (ktF S b).set 4 (.long (lN n))))) := by
  exact h.up (S' := (aSc S 23 n)) hA (show 0 < 4 by decide) (fun k r h => h) rfl (fun k9 r9 hk9 => hk9.cs (P := fun k9 r9 => (k9 = 9 → r9 ≠ 0) → xE cy (aSc S 23 n) b k9 r9 = xE cy S b k9 r9)
    (fun hr hne => rfl)
    (fun hr hne => rfl)
    (fun hr hne => rfl)
    (fun hr hne => rfl)
    (fun hr hne => rfl)
    (fun hr hne => rfl)
    (fun hr hne => rfl)
    (fun hr hne => rfl)
    (fun hr hne => rfl)
    (fun hne => absurd rfl (hne rfl))
    (fun hne => rfl)
    (fun hne => rfl)
    (fun hne => rfl)
    (fun hne => rfl))
theorem xR.u24 (h : xR cy S b L f)  (hA : b.1 9 0 = A) : xR cy (aSc S 24 n) b L (va_up f A (.inr (6, (ktF S b).set 5 (.long (lN n))))) := by
  exact h.up (S' := (aSc S 24 n)) hA (show 0 < 4 by decide) (fun k r h => h) rfl (fun k9 r9 hk9 => hk9.cs (P := fun k9 r9 => (k9 = 9 → r9 ≠ 0) → xE cy (aSc S 24 n) b k9 r9 = xE cy S b k9 r9)
    (fun hr hne => rfl)
    (fun hr hne => rfl)
    (fun hr hne => rfl)
    (fun hr hne => rfl)
    (fun hr hne => rfl)
    (fun hr hne => rfl)
    (fun hr hne => rfl)
    (fun hr hne => rfl)
    (fun hr hne => rfl)
    (fun hne => absurd rfl (hne rfl))
    (fun hne => rfl)
    (fun hne => rfl)
    (fun hne => rfl)
    (fun hne => rfl))
theorem xR.u17t (h : xR cy S b L f) (ht : t < S.1 13) (hk : S.2.1 14 t = 0) (hA : b.1 6 t = A) : xR cy (aN S 17 t n) b L (va_up f A (.inr (5, (tbF S b t).set 3 (.int (nI n))))) := by
  exact h.up (S' := (aN S 17 t n)) hA ht (fun k r h => h) (by
    show _ = (if (aN S 17 t n).2.1 14 t = 0 then _ else _)
    rw [if_pos (show (aN S 17 t n).2.1 14 t = 0 from hk)]
    simp [tbF, tkF, aN, va_up]) (fun k9 r9 hk9 => hk9.cs (P := fun k9 r9 => (k9 = 6 → r9 ≠ t) → xE cy (aN S 17 t n) b k9 r9 = xE cy S b k9 r9)
    (fun hr hne => rfl)
    (fun hr hne => rfl)
    (fun hr hne => rfl)
    (fun hr hne => rfl)
    (fun hr hne => rfl)
    (fun hr hne => rfl)
    (fun hr hne => by
      have hne : r9 ≠ t := hne rfl
      show (if (aN S 17 t n).2.1 14 r9 = 0 then _ else _) = (if S.2.1 14 r9 = 0 then _ else _)
      have e1 : (aN S 17 t n).2.1 17 r9 = S.2.1 17 r9 := by simp [aN, va_up, hne]
      unfold tbF tkF
      rw [e1]
      rfl)
    (fun hr hne => rfl)
    (fun hr hne => rfl)
    (fun hne => rfl)
    (fun hne => rfl)
    (fun hne => rfl)
    (fun hne => rfl)
    (fun hne => rfl))
theorem xR.u17k (h : xR cy S b L f) (ht : t < S.1 13) (hk : S.2.1 14 t ≠ 0) (hA : b.1 6 t = A) : xR cy (aN S 17 t n) b L (va_up f A (.inr (1, (tkF S b t).set 3 (.int (nI n))))) := by
  exact h.up (S' := (aN S 17 t n)) hA ht (fun k r h => h) (by
    show _ = (if (aN S 17 t n).2.1 14 t = 0 then _ else _)
    rw [if_neg (show ¬ (aN S 17 t n).2.1 14 t = 0 from hk)]
    simp [tbF, tkF, aN, va_up]) (fun k9 r9 hk9 => hk9.cs (P := fun k9 r9 => (k9 = 6 → r9 ≠ t) → xE cy (aN S 17 t n) b k9 r9 = xE cy S b k9 r9)
    (fun hr hne => rfl)
    (fun hr hne => rfl)
    (fun hr hne => rfl)
    (fun hr hne => rfl)
    (fun hr hne => rfl)
    (fun hr hne => rfl)
    (fun hr hne => by
      have hne : r9 ≠ t := hne rfl
      show (if (aN S 17 t n).2.1 14 r9 = 0 then _ else _) = (if S.2.1 14 r9 = 0 then _ else _)
      have e1 : (aN S 17 t n).2.1 17 r9 = S.2.1 17 r9 := by simp [aN, va_up, hne]
      unfold tbF tkF
      rw [e1]
      rfl)
    (fun hr hne => rfl)
    (fun hr hne => rfl)
    (fun hne => rfl)
    (fun hne => rfl)
    (fun hne => rfl)
    (fun hne => rfl)
    (fun hne => rfl))
theorem xR.u18t (h : xR cy S b L f) (ht : t < S.1 13) (hk : S.2.1 14 t = 0) (hA : b.1 6 t = A) : xR cy (aN S 18 t n) b L (va_up f A (.inr (5, (tbF S b t).set 4 (.int (nI n))))) := by
  exact h.up (S' := (aN S 18 t n)) hA ht (fun k r h => h) (by
    show _ = (if (aN S 18 t n).2.1 14 t = 0 then _ else _)
    rw [if_pos (show (aN S 18 t n).2.1 14 t = 0 from hk)]
    simp [tbF, tkF, aN, va_up]) (fun k9 r9 hk9 => hk9.cs (P := fun k9 r9 => (k9 = 6 → r9 ≠ t) → xE cy (aN S 18 t n) b k9 r9 = xE cy S b k9 r9)
    (fun hr hne => rfl)
    (fun hr hne => rfl)
    (fun hr hne => rfl)
    (fun hr hne => rfl)
    (fun hr hne => rfl)
    (fun hr hne => rfl)
    (fun hr hne => by
      have hne : r9 ≠ t := hne rfl
      show (if (aN S 18 t n).2.1 14 r9 = 0 then _ else _) = (if S.2.1 14 r9 = 0 then _ else _)
      have e1 : (aN S 18 t n).2.1 18 r9 = S.2.1 18 r9 := by simp [aN, va_up, hne]
      unfold tbF tkF
      rw [e1]
      rfl)
    (fun hr hne => rfl)
    (fun hr hne => rfl)
    (fun hne => rfl)
    (fun hne => rfl)
    (fun hne => rfl)
    (fun hne => rfl)
    (fun hne => rfl))
theorem xR.u18k (h : xR cy S b L f) (ht : t < S.1 13) (hk : S.2.1 14 t ≠ 0) (hA : b.1 6 t = A) : xR cy (aN S 18 t n) b L (va_up f A (.inr (1, (tkF S b t).set 4 (.int (nI n))))) := by
  exact h.up (S' := (aN S 18 t n)) hA ht (fun k r h => h) (by
    show _ = (if (aN S 18 t n).2.1 14 t = 0 then _ else _)
    rw [if_neg (show ¬ (aN S 18 t n).2.1 14 t = 0 from hk)]
    simp [tbF, tkF, aN, va_up]) (fun k9 r9 hk9 => hk9.cs (P := fun k9 r9 => (k9 = 6 → r9 ≠ t) → xE cy (aN S 18 t n) b k9 r9 = xE cy S b k9 r9)
    (fun hr hne => rfl)
    (fun hr hne => rfl)
    (fun hr hne => rfl)
    (fun hr hne => rfl)
    (fun hr hne => rfl)
    (fun hr hne => rfl)
    (fun hr hne => by
      have hne : r9 ≠ t := hne rfl
      show (if (aN S 18 t n).2.1 14 r9 = 0 then _ else _) = (if S.2.1 14 r9 = 0 then _ else _)
      have e1 : (aN S 18 t n).2.1 18 r9 = S.2.1 18 r9 := by simp [aN, va_up, hne]
      unfold tbF tkF
      rw [e1]
      rfl)
    (fun hr hne => rfl)
    (fun hr hne => rfl)
    (fun hne => rfl)
    (fun hne => rfl)
    (fun hne => rfl)
    (fun hne => rfl)
    (fun hne => rfl))
theorem xR.hold (h : xR cy S b L f) (hj : j < 10) (hx0 : x ≠ 0) (hA : b.1 9 1 = A) : xR cy (holdS S j x r) b L (va_up f A (qA (cy 5) 10 (va_up (plcF S b) j (some (b.1 (thk x) r))))) := by
  exact h.up (S' := (holdS S j x r)) hA (show 1 < 4 by decide) (fun k r h => h) (by
    show _ = qA (cy 5) 10 (plcF (holdS S j x r) b)
    congr 4
    funext i
    unfold plcF pvo
    by_cases e : i = j
    · subst e; simp [va_up, kd, wh, aN, hx0, hj]
    · simp [va_up, kd, wh, aN, e]) (fun k9 r9 hk9 => hk9.cs (P := fun k9 r9 => (k9 = 9 → r9 ≠ 1) → xE cy (holdS S j x r) b k9 r9 = xE cy S b k9 r9)
    (fun hr hne => rfl)
    (fun hr hne => rfl)
    (fun hr hne => rfl)
    (fun hr hne => rfl)
    (fun hr hne => rfl)
    (fun hr hne => rfl)
    (fun hr hne => rfl)
    (fun hr hne => rfl)
    (fun hr hne => rfl)
    (fun hne => rfl)
    (fun hne => absurd rfl (hne rfl))
    (fun hne => rfl)
    (fun hne => rfl)
    (fun hne => rfl))
theorem xR.hold0 (h : xR cy S b L f) (hj : j < 10) (hA : b.1 9 1 = A) : xR cy (holdS S j 0 0) b L (va_up f A (qA (cy 5) 10 (va_up (plcF S b) j none))) := by
  exact h.up (S' := (holdS S j 0 0)) hA (show 1 < 4 by decide) (fun k r h => h) (by
    show _ = qA (cy 5) 10 (plcF (holdS S j 0 0) b)
    congr 4
    funext i
    unfold plcF pvo
    by_cases e : i = j
    · subst e; simp [va_up, kd, wh, aN, hj]
    · simp [va_up, kd, wh, aN, e]) (fun k9 r9 hk9 => hk9.cs (P := fun k9 r9 => (k9 = 9 → r9 ≠ 1) → xE cy (holdS S j 0 0) b k9 r9 = xE cy S b k9 r9)
    (fun hr hne => rfl)
    (fun hr hne => rfl)
    (fun hr hne => rfl)
    (fun hr hne => rfl)
    (fun hr hne => rfl)
    (fun hr hne => rfl)
    (fun hr hne => rfl)
    (fun hr hne => rfl)
    (fun hr hne => rfl)
    (fun hne => rfl)
    (fun hne => absurd rfl (hne rfl))
    (fun hne => rfl)
    (fun hne => rfl)
    (fun hne => rfl))
theorem xR.bset (h : xR cy S b L f) (hl : ∀ r, r < S.1 4 → S.2.1 5 r ≤ 16) (hr : r < S.1 4) (hi : i < S.2.1 5 r) {v : Int32} (hA : b.1 1 r = A) : xR cy (aW S 6 (16 * r + i) v) b L (va_up f A (iA (cy 0) (S.2.1 5 r) (upd (bcF S r) i v))) := by
  have hri := hl r hr
  exact h.up (S' := (aW S 6 (16 * r + i) v)) hA hr (fun k r h => h) (by
    show _ = iA _ _ (bcF (aW S 6 (16 * r + i) v) r)
    congr 3
    funext i9
    unfold bcF
    show (if i9 = i then v else (if i9 < S.2.1 5 r then _ else _)) = (if i9 < S.2.1 5 r then (if 16 * r + i9 = 16 * r + i then v else _) else _)
    by_cases e : i9 = i
    · subst e; rw [if_pos rfl, if_pos hi, if_pos rfl]
    · rw [if_neg e]
      by_cases e2 : i9 < S.2.1 5 r
      · rw [if_pos e2, if_pos e2, if_neg (by omega)]
      · rw [if_neg e2, if_neg e2]) (fun k9 r9 hk9 => hk9.cs (P := fun k9 r9 => (k9 = 1 → r9 ≠ r) → xE cy (aW S 6 (16 * r + i) v) b k9 r9 = xE cy S b k9 r9)
    (fun hr hne => rfl)
    (fun hr hne => by
      have hne : r9 ≠ r := hne rfl
      show iA _ _ (bcF (aW S 6 (16 * r + i) v) r9) = iA _ _ (bcF S r9)
      have := hl r9 hr
      unfold bcF
      congr 3
      funext i9
      show (if i9 < S.2.1 5 r9 then _ else _) = (if i9 < S.2.1 5 r9 then _ else _)
      by_cases e : i9 < S.2.1 5 r9
      · rw [if_pos e, if_pos e]; exact if_neg (by omega)
      · rw [if_neg e, if_neg e])
    (fun hr hne => rfl)
    (fun hr hne => rfl)
    (fun hr hne => rfl)
    (fun hr hne => rfl)
    (fun hr hne => rfl)
    (fun hr hne => rfl)
    (fun hr hne => rfl)
    (fun hne => rfl)
    (fun hne => rfl)
    (fun hne => rfl)
    (fun hne => rfl)
    (fun hne => rfl))
theorem xR.sset (h : xR cy S b L f) (hl : ∀ r, r < S.1 7 → S.2.1 8 r ≤ 16) (hr : r < S.1 7) (hi : i < S.2.1 8 r) {v : Int32} (hA : b.1 3 r = A) : xR cy (aW S 9 (16 * r + i) v) b L (va_up f A (iA (cy 1) (S.2.1 8 r) (upd (scF S r) i v))) := by
  have hri := hl r hr
  exact h.up (S' := (aW S 9 (16 * r + i) v)) hA hr (fun k r h => h) (by
    show _ = iA _ _ (scF (aW S 9 (16 * r + i) v) r)
    congr 3
    funext i9
    unfold scF
    show (if i9 = i then v else (if i9 < S.2.1 8 r then _ else _)) = (if i9 < S.2.1 8 r then (if 16 * r + i9 = 16 * r + i then v else _) else _)
    by_cases e : i9 = i
    · subst e; rw [if_pos rfl, if_pos hi, if_pos rfl]
    · rw [if_neg e]
      by_cases e2 : i9 < S.2.1 8 r
      · rw [if_pos e2, if_pos e2, if_neg (by omega)]
      · rw [if_neg e2, if_neg e2]) (fun k9 r9 hk9 => hk9.cs (P := fun k9 r9 => (k9 = 3 → r9 ≠ r) → xE cy (aW S 9 (16 * r + i) v) b k9 r9 = xE cy S b k9 r9)
    (fun hr hne => rfl)
    (fun hr hne => rfl)
    (fun hr hne => rfl)
    (fun hr hne => by
      have hne : r9 ≠ r := hne rfl
      show iA _ _ (scF (aW S 9 (16 * r + i) v) r9) = iA _ _ (scF S r9)
      have := hl r9 hr
      unfold scF
      congr 3
      funext i9
      show (if i9 < S.2.1 8 r9 then _ else _) = (if i9 < S.2.1 8 r9 then _ else _)
      by_cases e : i9 < S.2.1 8 r9
      · rw [if_pos e, if_pos e]; exact if_neg (by omega)
      · rw [if_neg e, if_neg e])
    (fun hr hne => rfl)
    (fun hr hne => rfl)
    (fun hr hne => rfl)
    (fun hr hne => rfl)
    (fun hr hne => rfl)
    (fun hne => rfl)
    (fun hne => rfl)
    (fun hne => rfl)
    (fun hne => rfl)
    (fun hne => rfl))
theorem xR.slot (h : xR cy S b L f) (hl : ∀ t, t < S.1 13 → S.2.1 15 t ≤ 256) (ht : t < S.1 13) (hi : i < S.2.1 15 t) (hA : b.1 8 t = A) : xR cy (aN S 19 (256 * t + i) (n + 1)) b L (va_up f A (iA (cy 2) (S.2.1 15 t) (upd (slF S t) i (nI n)))) := by
  have hri := hl t ht
  exact h.up (S' := (aN S 19 (256 * t + i) (n + 1))) hA ht (fun k r h => h) (by
    show _ = iA _ _ (slF (aN S 19 (256 * t + i) (n + 1)) t)
    congr 3
    funext i9
    unfold slF
    show (if i9 = i then nI n else (if i9 < S.2.1 15 t then _ else _)) = (if i9 < S.2.1 15 t then slv (if 256 * t + i9 = 256 * t + i then n + 1 else _) else _)
    by_cases e : i9 = i
    · subst e; rw [if_pos rfl, if_pos hi, if_pos rfl]; rfl
    · rw [if_neg e]
      by_cases e2 : i9 < S.2.1 15 t
      · rw [if_pos e2, if_pos e2, if_neg (by omega)]
      · rw [if_neg e2, if_neg e2]) (fun k9 r9 hk9 => hk9.cs (P := fun k9 r9 => (k9 = 8 → r9 ≠ t) → xE cy (aN S 19 (256 * t + i) (n + 1)) b k9 r9 = xE cy S b k9 r9)
    (fun hr hne => rfl)
    (fun hr hne => rfl)
    (fun hr hne => rfl)
    (fun hr hne => rfl)
    (fun hr hne => rfl)
    (fun hr hne => rfl)
    (fun hr hne => rfl)
    (fun hr hne => rfl)
    (fun hr hne => by
      have hne : r9 ≠ t := hne rfl
      show iA _ _ (slF (aN S 19 (256 * t + i) (n + 1)) r9) = iA _ _ (slF S r9)
      have := hl r9 hr
      unfold slF
      congr 3
      funext i9
      show (if i9 < S.2.1 15 r9 then _ else _) = (if i9 < S.2.1 15 r9 then _ else _)
      by_cases e : i9 < S.2.1 15 r9
      · rw [if_pos e, if_pos e]; congr 1; exact if_neg (by omega)
      · rw [if_neg e, if_neg e])
    (fun hne => rfl)
    (fun hne => rfl)
    (fun hne => rfl)
    (fun hne => rfl)
    (fun hne => rfl))
theorem xR.rset (h : xR cy S b L f) (hl : ∀ r, r < S.1 10 → S.2.1 11 r ≤ 16) (hr : r < S.1 10) (hi : i < S.2.1 11 r) (hA : b.1 5 r = A) : xR cy (aN S 12 (16 * r + i) x) b L (va_up f A (qA (cy 4) (S.2.1 11 r) (va_up (rcF S b r) i (rfo b x)))) := by
  have hri := hl r hr
  exact h.up (S' := (aN S 12 (16 * r + i) x)) hA hr (fun k r h => h) (by
    show _ = qA _ _ (rcF (aN S 12 (16 * r + i) x) b r)
    congr 6
    funext i9
    unfold rcF
    show (if i9 = i then rfo b x else (if i9 < S.2.1 11 r then _ else _)) = (if i9 < S.2.1 11 r then rfo b (if 16 * r + i9 = 16 * r + i then x else _) else _)
    by_cases e : i9 = i
    · subst e; rw [if_pos rfl, if_pos hi, if_pos rfl]
    · rw [if_neg e]
      by_cases e2 : i9 < S.2.1 11 r
      · rw [if_pos e2, if_pos e2, if_neg (by omega)]
      · rw [if_neg e2, if_neg e2]) (fun k9 r9 hk9 => hk9.cs (P := fun k9 r9 => (k9 = 5 → r9 ≠ r) → xE cy (aN S 12 (16 * r + i) x) b k9 r9 = xE cy S b k9 r9)
    (fun hr hne => rfl)
    (fun hr hne => rfl)
    (fun hr hne => rfl)
    (fun hr hne => rfl)
    (fun hr hne => rfl)
    (fun hr hne => by
      have hne : r9 ≠ r := hne rfl
      show qA _ _ (rcF (aN S 12 (16 * r + i) x) b r9) = qA _ _ (rcF S b r9)
      have := hl r9 hr
      unfold rcF
      congr 6
      funext i9
      show (if i9 < S.2.1 11 r9 then _ else _) = (if i9 < S.2.1 11 r9 then _ else _)
      by_cases e : i9 < S.2.1 11 r9
      · rw [if_pos e, if_pos e]; congr 1; exact if_neg (by omega)
      · rw [if_neg e, if_neg e])
    (fun hr hne => rfl)
    (fun hr hne => rfl)
    (fun hr hne => rfl)
    (fun hne => rfl)
    (fun hne => rfl)
    (fun hne => rfl)
    (fun hne => rfl)
    (fun hne => rfl))
theorem xR.ranks (h : xR cy S b L f) (g : Nat → Int32) (hA : b.1 9 3 = A) : xR cy S (b.1, g) L (va_up f A (iA (cy 2) 100 g)) := by
  subst hA
  refine ⟨fun k r hk => ?_, h.2⟩
  refine ⟨(h.1 k r hk).1, ?_⟩
  by_cases e : b.1 k r = b.1 9 3
  · obtain ⟨rfl, rfl⟩ := h.2 k r 9 3 hk (show 3 < 4 by decide) e
    exact va_up_self _ _ _
  · refine (va_up_ne _ _ e).trans ((h.1 k r hk).2.trans ?_)
    revert e
    exact hk.cs (P := fun k r => b.1 k r ≠ b.1 9 3 → xE cy S b k r = xE cy S (b.1, g) k r) (fun _ _ => rfl) (fun _ _ => rfl) (fun _ _ => rfl) (fun _ _ => rfl) (fun _ _ => rfl) (fun _ _ => rfl) (fun _ _ => rfl) (fun _ _ => rfl) (fun _ _ => rfl) (fun _ => rfl) (fun _ => rfl) (fun _ => rfl) (fun e => absurd rfl e) (fun _ => rfl)
end XU
