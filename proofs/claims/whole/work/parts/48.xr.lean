/-! THE CLASS'S WORLD: the book b says where everything lies (b.1 k r: 0 the Bytes of byte row r, 1 its byte[]; 2, 3 Signs; 4, 5 Rows; 6 the Table or Keeper t, 7 its terms, 8 its slots; 9: 0 the KeptTerms, 1 places, 2 the Pool, 3 ranks; 10 the Pool's rows), b.2 what lies in ranks -/
abbrev xB : Type := (Nat → Nat → Nat) × (Nat → Int32)
def xV (S : aS) (k r : Nat) : Prop := match k with
  | 0 => r < S.1 4
  | 1 => r < S.1 4
  | 2 => r < S.1 7
  | 3 => r < S.1 7
  | 4 => r < S.1 10
  | 5 => r < S.1 10
  | 6 => r < S.1 13
  | 7 => r < S.1 13
  | 8 => r < S.1 13
  | 9 => r < 4
  | 10 => r < 1
  | _ => False
def thk (k : Nat) : Nat := if k ≤ 3 then 2 * k - 2 else 6
def pvo (S : aS) (b : xB) (j : Nat) : Option Nat := if kd S j = 0 then none else some (b.1 (thk (kd S j)) (wh S j))
def plcF (S : aS) (b : xB) : Nat → Option Nat := fun j => if j < 10 then pvo S b j else none
def rfo (b : xB) (x : Nat) : Option Nat := if x = 0 then none else some (b.1 0 (x - 1))
def slv (x : Nat) : Int32 := if x = 0 then (-3) else nI (x - 1)
def capN (n : Nat) : Nat := if n ≤ 16 then 16 else if n ≤ 32 then 32 else if n ≤ 64 then 64 else if n ≤ 128 then 128 else if n ≤ 256 then 256 else if n ≤ 512 then 512 else 1024
def bcF (S : aS) (r : Nat) : Nat → Int32 := fun i => if i < S.2.1 5 r then S.2.2 6 (16 * r + i) else 0
def scF (S : aS) (r : Nat) : Nat → Int32 := fun i => if i < S.2.1 8 r then S.2.2 9 (16 * r + i) else 0
def rcF (S : aS) (b : xB) (r : Nat) : Nat → Option Nat := fun i => if i < S.2.1 11 r then rfo b (S.2.1 12 (16 * r + i)) else none
def tmF (S : aS) (b : xB) (r : Nat) : Nat → Option Nat := fun i => if i < S.2.1 16 r then some (b.1 0 (S.2.1 20 (100 * r + i))) else none
def slF (S : aS) (r : Nat) : Nat → Int32 := fun i => if i < S.2.1 15 r then slv (S.2.1 19 (256 * r + i)) else 0
def plF (S : aS) (b : xB) : Nat → Option Nat := fun i => if i < S.1 21 then some (b.1 0 (S.2.1 22 i)) else none
def tbF (S : aS) (b : xB) (r : Nat) : List Value := [.ref (b.1 7 r), .ref (b.1 8 r), .int (nI (S.2.1 16 r)), .int (nI (S.2.1 17 r)), .int (nI (S.2.1 18 r))]
def tkF (S : aS) (b : xB) (r : Nat) : List Value := [.ref (b.1 7 r), .ref (b.1 8 r), .int (nI (S.2.1 16 r)), .int (nI (S.2.1 17 r)), .int (nI (S.2.1 18 r)), .ref (b.1 9 2)]
def ktF (S : aS) (b : xB) : List Value := [.ref (b.1 9 1), .ref (b.1 9 2), .ref (b.1 9 3), .int (nI (S.1 1)), .long (lN (S.1 23)), .long (lN (S.1 24))]
abbrev qA (c : ClassId) (n : Nat) (g : Nat → Option Nat) : va_E := .inl (c, n, .inr (.inr (.inr (.inr g))))
abbrev iA (c : ClassId) (n : Nat) (g : Nat → Int32) : va_E := .inl (c, n, .inl g)
def xE (cy : Nat → ClassId) (S : aS) (b : xB) (k r : Nat) : va_E := match k with
  | 0 => .inr (0, [.ref (b.1 1 r)])
  | 1 => iA (cy 0) (S.2.1 5 r) (bcF S r)
  | 2 => .inr (4, [.ref (b.1 3 r)])
  | 3 => iA (cy 1) (S.2.1 8 r) (scF S r)
  | 4 => .inr (3, [.ref (b.1 5 r)])
  | 5 => qA (cy 4) (S.2.1 11 r) (rcF S b r)
  | 6 => if S.2.1 14 r = 0 then .inr (5, tbF S b r) else .inr (1, tkF S b r)
  | 7 => qA (cy 4) 100 (tmF S b r)
  | 8 => iA (cy 2) (S.2.1 15 r) (slF S r)
  | 9 => match r with
    | 0 => .inr (6, ktF S b)
    | 1 => qA (cy 5) 10 (plcF S b)
    | 2 => .inr (2, [.ref (b.1 10 0), .int (nI (S.1 21))])
    | _ => iA (cy 2) 100 b.2
  | _ => qA (cy 4) (capN (S.1 21)) (plF S b)
def xR (cy : Nat → ClassId) (S : aS) (b : xB) (L : List Nat) (f : Nat → va_E) : Prop :=
  (∀ k r, xV S k r → b.1 k r ∈ L ∧ f (b.1 k r) = xE cy S b k r) ∧ ∀ k r k' r', xV S k r → xV S k' r' → b.1 k r = b.1 k' r' → k = k' ∧ r = r'
/-- what the book says stays, but for slots and the Pool's rows -/
def xG (S : aS) (b b' : xB) : Prop := ∀ k r, k ≠ 8 → k ≠ 10 → xV S k r → b'.1 k r = b.1 k r
theorem xG.rf {S : aS} {b : xB} : xG S b b := fun _ _ _ _ _ => rfl
theorem xG.tr {S S' : aS} {b b' b'' : xB} (h1 : xG S b b') (hv : ∀ k r, xV S k r → xV S' k r) (h2 : xG S' b' b'') : xG S b b'' := fun k r h8 h10 h => (h2 k r h8 h10 (hv k r h)).trans (h1 k r h8 h10 h)
/-- an end: the answer, the new state, the book as it was -/
def xQ (cy : Nat → ClassId) (S' : aS) (b : xB) (v : Option Value) : gPost := fun w L' f' => w = v ∧ xR cy S' b L' f'
/-- an end: the answer, the new state, a new book -/
def xP (cy : Nat → ClassId) (S : aS) (b : xB) (S' : aS) (v : xB → Option Value) : gPost := fun w L' f' => ∃ b' : xB, w = v b' ∧ xR cy S' b' L' f' ∧ xG S b b'
section XR
variable {cy : Nat → ClassId} {S S' : aS} {b b' : xB} {L L' : List Nat} {f f' : Nat → va_E} {r t A q : Nat}
theorem xR.B (h : xR cy S b L f) (hr : r < S.1 4) (hA : b.1 0 r = A) : A ∈ L ∧ f A = .inr (0, [.ref (b.1 1 r)]) := by subst hA; exact h.1 0 r hr
theorem xR.Bc (h : xR cy S b L f) (hr : r < S.1 4) (hA : b.1 1 r = A) : A ∈ L ∧ f A = iA (cy 0) (S.2.1 5 r) (bcF S r) := by subst hA; exact h.1 1 r hr
theorem xR.G (h : xR cy S b L f) (hr : r < S.1 7) (hA : b.1 2 r = A) : A ∈ L ∧ f A = .inr (4, [.ref (b.1 3 r)]) := by subst hA; exact h.1 2 r hr
theorem xR.Gc (h : xR cy S b L f) (hr : r < S.1 7) (hA : b.1 3 r = A) : A ∈ L ∧ f A = iA (cy 1) (S.2.1 8 r) (scF S r) := by subst hA; exact h.1 3 r hr
theorem xR.W (h : xR cy S b L f) (hr : r < S.1 10) (hA : b.1 4 r = A) : A ∈ L ∧ f A = .inr (3, [.ref (b.1 5 r)]) := by subst hA; exact h.1 4 r hr
theorem xR.Wc (h : xR cy S b L f) (hr : r < S.1 10) (hA : b.1 5 r = A) : A ∈ L ∧ f A = qA (cy 4) (S.2.1 11 r) (rcF S b r) := by subst hA; exact h.1 5 r hr
theorem xR.T (h : xR cy S b L f) (hr : t < S.1 13) (hA : b.1 6 t = A) (hk : S.2.1 14 t = 0) : A ∈ L ∧ f A = .inr (5, tbF S b t) := by
  subst hA
  have h1 := h.1 6 t hr
  exact ⟨h1.1, h1.2.trans (if_pos hk)⟩
theorem xR.K (h : xR cy S b L f) (hr : t < S.1 13) (hA : b.1 6 t = A) (hk : S.2.1 14 t ≠ 0) : A ∈ L ∧ f A = .inr (1, tkF S b t) := by
  subst hA
  have h1 := h.1 6 t hr
  exact ⟨h1.1, h1.2.trans (if_neg hk)⟩
theorem xR.Tt (h : xR cy S b L f) (hr : t < S.1 13) (hA : b.1 7 t = A) : A ∈ L ∧ f A = qA (cy 4) 100 (tmF S b t) := by subst hA; exact h.1 7 t hr
theorem xR.Ts (h : xR cy S b L f) (hr : t < S.1 13) (hA : b.1 8 t = A) : A ∈ L ∧ f A = iA (cy 2) (S.2.1 15 t) (slF S t) := by subst hA; exact h.1 8 t hr
theorem xR.M (h : xR cy S b L f) (hA : b.1 9 0 = A) : A ∈ L ∧ f A = .inr (6, ktF S b) := by subst hA; exact h.1 9 0 (show 0 < 4 by decide)
theorem xR.Mp (h : xR cy S b L f) (hA : b.1 9 1 = A) : A ∈ L ∧ f A = qA (cy 5) 10 (plcF S b) := by subst hA; exact h.1 9 1 (show 1 < 4 by decide)
theorem xR.P (h : xR cy S b L f) (hA : b.1 9 2 = A) : A ∈ L ∧ f A = .inr (2, [.ref (b.1 10 0), .int (nI (S.1 21))]) := by subst hA; exact h.1 9 2 (show 2 < 4 by decide)
theorem xR.Mr (h : xR cy S b L f) (hA : b.1 9 3 = A) : A ∈ L ∧ f A = iA (cy 2) 100 b.2 := by subst hA; exact h.1 9 3 (show 3 < 4 by decide)
theorem xR.Pr (h : xR cy S b L f) (hA : b.1 10 0 = A) : A ∈ L ∧ f A = qA (cy 4) (capN (S.1 21)) (plF S b) := by subst hA; exact h.1 10 0 (show 0 < 1 by decide)
theorem xR.isB (h : xR cy S b L f) (hr : r < S.1 4) (hA : b.1 0 r = A) (hn : S.2.1 5 r ≤ 16) : isB cy L f A (b.1 1 r) (S.2.1 5 r) (bcF S r) := ⟨h.B hr hA, h.Bc hr rfl, hn⟩
theorem xR.isS (h : xR cy S b L f) (hr : r < S.1 7) (hA : b.1 2 r = A) (hn : S.2.1 8 r ≤ 16) : isS cy L f A (b.1 3 r) (S.2.1 8 r) (scF S r) := ⟨h.G hr hA, h.Gc hr rfl, hn⟩
/-- a store: one of the book's cells is another now, and the state is another -/
theorem xR.up (h : xR cy S b L f) {k0 r0 : Nat} {e : va_E} (hA : b.1 k0 r0 = A) (hv0 : xV S k0 r0) (hv : ∀ k r, xV S' k r → xV S k r) (he : e = xE cy S' b k0 r0) (ho : ∀ k r, xV S k r → (k = k0 → r ≠ r0) → xE cy S' b k r = xE cy S b k r) : xR cy S' b L (va_up f A e) := by
  subst hA
  refine ⟨fun k r hk => ?_, fun k r k' r' h1 h2 => h.2 k r k' r' (hv _ _ h1) (hv _ _ h2)⟩
  have h1 := h.1 k r (hv k r hk)
  refine ⟨h1.1, ?_⟩
  by_cases hq : b.1 k r = b.1 k0 r0
  · obtain ⟨rfl, rfl⟩ := h.2 k r k0 r0 (hv k r hk) hv0 hq
    rw [va_up_self]
    exact he
  · rw [va_up_ne _ _ hq, h1.2]
    refine (ho k r (hv k r hk) (fun e1 e2 => hq ?_)).symm
    rw [e1, e2]
/-- something new that the book doesn't name -/
theorem xR.more (h : xR cy S b L f) {e : va_E} (hq : q ∉ L) : xR cy S b (L ++ [q]) (va_up f q e) := by
  refine ⟨fun k r hk => ?_, h.2⟩
  have h1 := h.1 k r hk
  refine ⟨List.mem_append_left _ h1.1, ?_⟩
  rw [va_up_ne _ _ (show b.1 k r ≠ q from fun z => hq (z ▸ h1.1))]
  exact h1.2
/-- what the book doesn't name may change -/
theorem xR.aside (h : xR cy S b L f) {e : va_E} (hq : ∀ k r, xV S k r → b.1 k r ≠ q) : xR cy S b L (va_up f q e) := by
  refine ⟨fun k r hk => ?_, h.2⟩
  have h1 := h.1 k r hk
  refine ⟨h1.1, ?_⟩
  rw [va_up_ne _ _ (hq k r hk)]
  exact h1.2
theorem xR.off (h : xR cy S b L f) (hq : q ∉ L) : ∀ k r, xV S k r → b.1 k r ≠ q := fun k r hk z => hq (z ▸ (h.1 k r hk).1)
/-- new entries of the book -/
theorem xR.ext (h : xR cy S b L f) (nw : Nat → Nat → Prop) (hL : ∀ a, a ∈ L → a ∈ L') (ho : ∀ k r, xV S' k r → ¬ nw k r → xV S k r ∧ b'.1 k r = b.1 k r ∧ f' (b.1 k r) = xE cy S' b' k r) (hn : ∀ k r, nw k r → b'.1 k r ∈ L' ∧ (∀ k1 r1, xV S k1 r1 → b.1 k1 r1 ≠ b'.1 k r) ∧ f' (b'.1 k r) = xE cy S' b' k r) (hj : ∀ k r k' r', nw k r → nw k' r' → b'.1 k r = b'.1 k' r' → k = k' ∧ r = r') : xR cy S' b' L' f' := by
  refine ⟨fun k r hk => ?_, fun k r k' r' h1 h2 h3 => ?_⟩
  · by_cases hw : nw k r
    · exact ⟨(hn k r hw).1, (hn k r hw).2.2⟩
    · obtain ⟨o1, o2, o3⟩ := ho k r hk hw
      rw [o2]
      exact ⟨hL _ (h.1 k r o1).1, o3⟩
  · by_cases w1 : nw k r
    · by_cases w2 : nw k' r'
      · exact hj _ _ _ _ w1 w2 h3
      · obtain ⟨o1, o2, o3⟩ := ho k' r' h2 w2
        rw [o2] at h3
        exact absurd h3.symm ((hn k r w1).2.1 _ _ o1)
    · obtain ⟨o1, o2, o3⟩ := ho k r h1 w1
      by_cases w2 : nw k' r'
      · rw [o2] at h3
        exact absurd h3 ((hn k' r' w2).2.1 _ _ o1)
      · obtain ⟨p1, p2, p3⟩ := ho k' r' h2 w2
        rw [o2, p2] at h3
        exact h.2 _ _ _ _ o1 p1 h3
end XR
