/-! rows by a key: the order of BYTES is that of the keys -/
def bv (S : aS) (r k : Nat) : Nat := (S.2.2 6 (16 * r + k)).toBitVec.toNat % 256
def dg (S : aS) (r k : Nat) : Nat := if k < S.2.1 5 r then bv S r k + 1 else 0
def kyG (S : aS) (r : Nat) : Nat → Nat → Nat
  | 0, _ => 0
  | m + 1, k => dg S r k * 257 ^ m + kyG S r m (k + 1)
def ky (S : aS) (r : Nat) : Nat := kyG S r 16 0
theorem dg_le {S : aS} {r k : Nat} : dg S r k ≤ 256 := by
  unfold dg bv
  split
  · have := Nat.mod_lt (S.2.2 6 (16 * r + k)).toBitVec.toNat (show 256 > 0 by decide)
    omega
  · omega
theorem kyG_lt {S : aS} {r : Nat} : ∀ m k, kyG S r m k < 257 ^ m
  | 0, _ => by show 0 < 1; decide
  | m + 1, k => by
    have ih := kyG_lt (S := S) (r := r) m (k + 1)
    have h1 : dg S r k * 257 ^ m ≤ 256 * 257 ^ m := Nat.mul_le_mul_right _ dg_le
    rw [kyG, Nat.pow_succ]
    omega
theorem kyG_0 {S : aS} {r : Nat} : ∀ m k, S.2.1 5 r ≤ k → kyG S r m k = 0
  | 0, _, _ => rfl
  | m + 1, k, h => by rw [kyG, kyG_0 m (k + 1) (by omega), show dg S r k = 0 from if_neg (by omega), Nat.zero_mul]
theorem kyG_p {S : aS} {r m k : Nat} (h : k < S.2.1 5 r) : 0 < kyG S r (m + 1) k := by
  rw [kyG, show dg S r k = bv S r k + 1 from if_pos h]
  have : 0 < (bv S r k + 1) * 257 ^ m := Nat.mul_pos (by omega) (Nat.pow_pos (by decide))
  omega
theorem dig_lt {a b P x y : Nat} (h : a < b) (hx : x < P) : a * P + x < b * P + y := by
  have : (a + 1) * P ≤ b * P := Nat.mul_le_mul_right _ h
  rw [Nat.add_mul, Nat.one_mul] at this
  omega
theorem and_bv {S : aS} {r k : Nat} : S.2.2 6 (16 * r + k) &&& nI 255 = nI (bv S r k) := pk_and _ 8 (pk_tn (by decide))
theorem bv_lt {S : aS} {r k : Nat} : bv S r k < 256 := Nat.mod_lt _ (by decide)
abbrev agD (S : aS) (a b : Nat) : Nat → Int32 := fun k => (S.2.2 6 (16 * a + k) &&& nI 255) - (S.2.2 6 (16 * b + k) &&& nI 255)
theorem agD_i {S : aS} {a b k : Nat} : (agD S a b k).toInt = (bv S a k : Int) - bv S b k := by
  show ((S.2.2 6 (16 * a + k) &&& nI 255) - (S.2.2 6 (16 * b + k) &&& nI 255)).toInt = _
  have := bv_lt (S := S) (r := a) (k := k)
  have := bv_lt (S := S) (r := b) (k := k)
  rw [and_bv, and_bv, pk_sub_toInt (by omega) (by omega)]
theorem i0 {x : Int32} : x = 0 ↔ x.toInt = 0 := ⟨fun h => by rw [h, Int32.toInt_zero], fun h => Int32.toInt_inj.mp (by rw [h, Int32.toInt_zero])⟩
theorem agl_ky {S : aS} {a b : Nat} (ha : S.2.1 5 a ≤ 16) (hb : S.2.1 5 b ≤ 16) : ∀ m k, k + m = 16 → k ≤ S.2.1 5 a → k ≤ S.2.1 5 b →
    (agl (agD S a b) (nI (S.2.1 5 a) - nI (S.2.1 5 b)) ((if S.2.1 5 a < S.2.1 5 b then S.2.1 5 a else S.2.1 5 b) - k) k < 0 ↔ kyG S a m k < kyG S b m k) ∧ (agl (agD S a b) (nI (S.2.1 5 a) - nI (S.2.1 5 b)) ((if S.2.1 5 a < S.2.1 5 b then S.2.1 5 a else S.2.1 5 b) - k) k = 0 ↔ kyG S a m k = kyG S b m k) := by
  intro m
  obtain ⟨mn, hmn⟩ : ∃ mn, mn = (if S.2.1 5 a < S.2.1 5 b then S.2.1 5 a else S.2.1 5 b) := ⟨_, rfl⟩
  have hm2 : (mn = S.2.1 5 a ∧ S.2.1 5 a ≤ S.2.1 5 b) ∨ (mn = S.2.1 5 b ∧ S.2.1 5 b ≤ S.2.1 5 a) := by
    rw [hmn]; split
    · left; omega
    · right; omega
  rw [← hmn]
  have tl : (nI (S.2.1 5 a) - nI (S.2.1 5 b)).toInt = (S.2.1 5 a : Int) - S.2.1 5 b := pk_sub_toInt (by omega) (by omega)
  induction m with
  | zero =>
    intro k hk h1 h2
    rw [show mn - k = 0 by omega]
    show (nI (S.2.1 5 a) - nI (S.2.1 5 b) < 0 ↔ 0 < 0) ∧ (nI (S.2.1 5 a) - nI (S.2.1 5 b) = 0 ↔ 0 = 0)
    rw [Int32.lt_iff_toInt_lt, i0, tl, Int32.toInt_zero]
    omega
  | succ m ih =>
    intro k hk h1 h2
    by_cases e : k < mn
    · have hda : dg S a k = bv S a k + 1 := if_pos (by omega)
      have hdb : dg S b k = bv S b k + 1 := if_pos (by omega)
      have ih := ih (k + 1) (by omega) (by omega) (by omega)
      rw [show mn - k = (mn - (k + 1)) + 1 by omega, agl, kyG, kyG, hda, hdb]
      have la := kyG_lt (S := S) (r := a) m (k + 1)
      have lb := kyG_lt (S := S) (r := b) m (k + 1)
      rcases Nat.lt_trichotomy (bv S a k) (bv S b k) with q | q | q
      · have hd : ¬ agD S a b k = 0 := by rw [i0, agD_i]; omega
        have z := dig_lt (y := kyG S b m (k + 1)) (show bv S a k + 1 < bv S b k + 1 by omega) la
        rw [if_neg hd, Int32.lt_iff_toInt_lt, i0, agD_i, Int32.toInt_zero]
        omega
      · have hd : agD S a b k = 0 := by rw [i0, agD_i]; omega
        rw [if_pos hd, q, Nat.add_lt_add_iff_left, Nat.add_left_cancel_iff]
        exact ih
      · have hd : ¬ agD S a b k = 0 := by rw [i0, agD_i]; omega
        have z := dig_lt (y := kyG S a m (k + 1)) (show bv S b k + 1 < bv S a k + 1 by omega) lb
        rw [if_neg hd, Int32.lt_iff_toInt_lt, i0, agD_i, Int32.toInt_zero]
        omega
    · rw [show mn - k = 0 by omega]
      show (nI (S.2.1 5 a) - nI (S.2.1 5 b) < 0 ↔ _) ∧ (nI (S.2.1 5 a) - nI (S.2.1 5 b) = 0 ↔ _)
      rw [Int32.lt_iff_toInt_lt, i0, tl, Int32.toInt_zero]
      rcases Nat.lt_trichotomy (S.2.1 5 a) (S.2.1 5 b) with q | q | q
      · have z1 := kyG_0 (S := S) (r := a) (m + 1) k (by omega)
        have z2 := kyG_p (S := S) (r := b) (m := m) (k := k) (by omega)
        omega
      · have z1 := kyG_0 (S := S) (r := a) (m + 1) k (by omega)
        have z2 := kyG_0 (S := S) (r := b) (m + 1) k (by omega)
        omega
      · have z1 := kyG_0 (S := S) (r := b) (m + 1) k (by omega)
        have z2 := kyG_p (S := S) (r := a) (m := m) (k := k) (by omega)
        omega
theorem ag_ky {S : aS} {a b : Nat} (ha : S.2.1 5 a ≤ 16) (hb : S.2.1 5 b ≤ 16) : (agst S a b < 0 ↔ ky S a < ky S b) ∧ (agst S a b = 0 ↔ ky S a = ky S b) := agl_ky ha hb 16 0 rfl (Nat.zero_le _) (Nat.zero_le _)
/-! positions by a key and a number -/
abbrev hd9 (K : Nat → Nat) (j k : Nat) : Prop := K j < K k ∨ (K j = K k ∧ j < k)
def ct9 (K : Nat → Nat) (k : Nat) : Nat → Nat
  | 0 => 0
  | n + 1 => ct9 K k n + (if hd9 K n k then 1 else 0)
theorem ct9_mono {K : Nat → Nat} {a b : Nat} (h : hd9 K a b) : ∀ n, ct9 K a n ≤ ct9 K b n
  | 0 => Nat.le_refl _
  | n + 1 => by
    have ih := ct9_mono h n
    rw [ct9, ct9]
    by_cases e : hd9 K n a
    · have : hd9 K n b := by unfold hd9 at *; omega
      rw [if_pos e, if_pos this]; omega
    · rw [if_neg e]; omega
theorem ct9_lt {K : Nat → Nat} {a b : Nat} (h : hd9 K a b) : ∀ n, a < n → ct9 K a n < ct9 K b n
  | 0, h0 => absurd h0 (by omega)
  | n + 1, h0 => by
    rw [ct9, ct9]
    by_cases e : a = n
    · subst e
      have := ct9_mono h a
      rw [if_pos h, if_neg (by unfold hd9; omega)]
      omega
    · have ih := ct9_lt h n (by omega)
      by_cases e : hd9 K n a
      · have : hd9 K n b := by unfold hd9 at *; omega
        rw [if_pos e, if_pos this]; omega
      · rw [if_neg e]; omega
theorem ct9_le {K : Nat → Nat} {k : Nat} : ∀ n, ct9 K k n ≤ n
  | 0 => Nat.le_refl _
  | n + 1 => by have := ct9_le (K := K) (k := k) n; rw [ct9]; split <;> omega
/-- the first k places of g hold the numbers below k by their order -/
def Rk (K : Nat → Nat) (k : Nat) (g : Nat → Int32) : Prop := ∀ p, p < k → ∃ j, j < k ∧ g p = nI j ∧ ct9 K j k = p
theorem Rk_hd {K : Nat → Nat} {k p j : Nat} (hj : j < k) (hp : ct9 K j k = p) : hd9 K j k ↔ p < ct9 K k k := by
  constructor
  · intro h; rw [← hp]; exact ct9_lt h k hj
  · intro h
    by_cases e : hd9 K j k
    · exact e
    · have : hd9 K k j := by unfold hd9 at *; omega
      have := ct9_mono this k
      omega
theorem Rk_step {K : Nat → Nat} {k : Nat} {g : Nat → Int32} (h : Rk K k g) : Rk K (k + 1) (upd (va_cpy g g (ct9 K k k) (ct9 K k k + 1) (k - ct9 K k k)) (ct9 K k k) (nI k)) := by
  intro p hp
  have hc := ct9_le (K := K) (k := k) k
  rcases Nat.lt_trichotomy p (ct9 K k k) with q | q | q
  · obtain ⟨j, h1, h2, h3⟩ := h p (by omega)
    have hh := (Rk_hd h1 h3).mpr q
    refine ⟨j, by omega, ?_, ?_⟩
    · rw [pk_un (by omega), pk_cpy_out (by omega), h2]
    · rw [ct9, h3, if_neg (by unfold hd9 at *; omega), Nat.add_zero]
  · subst q
    refine ⟨k, by omega, pk_us, ?_⟩
    rw [ct9, if_neg (by unfold hd9; omega), Nat.add_zero]
  · obtain ⟨j, h1, h2, h3⟩ := h (p - 1) (by omega)
    have hh : ¬ hd9 K j k := fun z => by
      have := (Rk_hd h1 h3).mp z
      omega
    refine ⟨j, by omega, ?_, ?_⟩
    · rw [pk_un (by omega), pk_cpy_in (by omega) (by omega), show ct9 K k k + (p - (ct9 K k k + 1)) = p - 1 by omega, h2]
    · rw [ct9, h3, if_pos (by unfold hd9 at *; omega)]
      omega
/-- the TERMS' keys -/
abbrev tK (S : aS) (t : Nat) : Nat → Nat := fun j => ky S (S.2.1 20 (100 * t + j))
theorem ahd_hd {S : aS} {t j k : Nat} (h1 : S.2.1 5 (S.2.1 20 (100 * t + j)) ≤ 16) (h2 : S.2.1 5 (S.2.1 20 (100 * t + k)) ≤ 16) : ahd S t j k ↔ hd9 (tK S t) j k := by
  unfold ahd hd9
  rw [(ag_ky h1 h2).1, (ag_ky h1 h2).2]
theorem ahC_ct {S : aS} {t k : Nat} (h2 : S.2.1 5 (S.2.1 20 (100 * t + k)) ≤ 16) : ∀ n, (∀ j, j < n → S.2.1 5 (S.2.1 20 (100 * t + j)) ≤ 16) → ahC S t k n = ct9 (tK S t) k n
  | 0, _ => rfl
  | n + 1, h => by
    rw [ahC, ct9, ahC_ct h2 n (fun j hj => h j (by omega))]
    by_cases e : ahd S t n k
    · rw [if_pos e, if_pos ((ahd_hd (h n (by omega)) h2).mp e)]
    · rw [if_neg e, if_neg (fun z => e ((ahd_hd (h n (by omega)) h2).mpr z))]
theorem rkA_Rk {S : aS} {t i : Nat} {g : Nat → Int32} (hl : ∀ j, j < S.2.1 16 t → S.2.1 5 (S.2.1 20 (100 * t + j)) ≤ 16) (h : Rk (tK S t) (S.2.1 16 t) g) (hi : i < S.2.1 16 t) : rkA S t i (S.2.1 16 t) = g i := by
  obtain ⟨j, h1, h2, h3⟩ := h i hi
  have hu : ∀ k, k < S.2.1 16 t → ahC S t k (S.2.1 16 t) = i → k = j := by
    intro k hk e
    rw [ahC_ct (hl k hk) _ hl] at e
    by_cases hkj : k = j
    · exact hkj
    · exfalso
      have : hd9 (tK S t) k j ∨ hd9 (tK S t) j k := by unfold hd9; omega
      rcases this with z | z
      · have := ct9_lt z _ hk; omega
      · have := ct9_lt z _ h1; omega
  have hj : ahC S t j (S.2.1 16 t) = i := by rw [ahC_ct (hl j h1) _ hl]; exact h3
  rw [h2]
  have : ∀ n, n ≤ S.2.1 16 t → j < n → rkA S t i n = nI j := by
    intro n
    induction n with
    | zero => intro _ h; omega
    | succ n ih =>
      intro hn hjn
      rw [rkA]
      by_cases e : ahC S t n (S.2.1 16 t) = i
      · rw [if_pos e, hu n (by omega) e]
      · rw [if_neg e]
        refine ih (by omega) ?_
        by_cases q : j = n
        · subst q; exact absurd hj e
        · omega
  exact this _ (Nat.le_refl _) h1
theorem sgn_pos {x : Int32} : ¬ sgn x ≤ 0 ↔ (¬ x < 0 ∧ ¬ x = 0) := by
  unfold sgn
  by_cases h : x < 0
  · rw [if_pos h]; exact ⟨fun z => absurd (by decide) z, fun z => absurd h z.1⟩
  · rw [if_neg h]
    by_cases h2 : 0 < x
    · rw [if_pos h2]
      refine ⟨fun _ => ⟨h, fun z => ?_⟩, fun _ => by decide⟩
      rw [z] at h2
      exact absurd h2 (by decide)
    · rw [if_neg h2]
      refine ⟨fun z => absurd (by decide) z, fun z => ?_⟩
      exact absurd (pos_of z.1 z.2) h2
section X9r
variable {l : Launch} {D : va_G} {cy adK adV : Nat → Nat} {L : List Nat} {f : Nat → va_E}
set_option maxRecDepth 20000 in
set_option maxHeartbeats 4000000 in
theorem x_rankInto_T {S : aS} {b : xB} (hx : xR cy S b L f) (hI : aI S) (t T : Nat) (ht : t < S.1 13) (hT : b.1 6 t = T) (hkb : S.2.1 14 t = 0) (R9 : Nat) (hR9 : b.1 9 3 = R9) : gCt l D vwCl (gKK D cy adK adV) yX7_rankInto wsX7_rankInto { frames := 2, cells := 0, slots := 0, locals := 45 } [.ref T, .ref R9] L f (fun w9 L9 f9 => w9 = none ∧ ∃ g, xR cy S (b.1, g) L9 f9 ∧ Rk (tK S t) (S.2.1 16 t) g) := by
  refine gCt.of gKK_ok (by decide) rfl rfl (fun X hC hR hnm => ?_)
  have hC : gC X l _ D vwCl (cyT cy) (gKK D cy adK adV) cX7_rankInto 6 wsX7_rankInto RX7 := hC
  show gW X vwCl 6 L f 0 0 0 [(0, .ref T), (1, .ref R9)] []
  have hk9 := hI.tk ht
  have htm := hk9.2.1
  have hto : ∀ j, j < S.2.1 16 t → S.2.1 20 (100 * t + j) < S.1 4 := hk9.2.2.2.2.1
  have hcl9 : ∀ k, ct9 (tK S t) k k ≤ k := fun k => ct9_le k
  refine g_iconst hC dX7_rankInto_0 (v := nI 0) (by decide) ?_
  refine g_istore_n (lv' := [(2, .int (nI 0)), (0, .ref T), (1, .ref R9)]) hC dX7_rankInto_1 rfl (by decide) rfl ?_
  have lp : ∀ (m : Nat) (k : Nat) (g : Nat → Int32) (f6 : Nat → va_E), S.2.1 16 t - k < m → (k ≤ S.2.1 16 t) → (xR cy S (b.1, g) L f6) → (Rk (tK S t) k g) → gW X vwCl 6 L f6 0 0 2 [(2, .int (nI k)), (0, .ref T), (1, .ref R9)] [] := by
    intro m
    induction m with
    | zero => intros; omega
    | succ m ih =>
      intro k g f6 hm9 hk hx6 hrk
      refine g_iload_n hC dX7_rankInto_2 rfl 0 rfl ?_
      refine g_aload_n hC dX7_rankInto_3 rfl 1 rfl (Or.inr ⟨_, rfl⟩) ?_
      refine g_get hC (by decide +kernel) rfl (hx6.T ht hT hkb).1 (hx6.T ht hT hkb).2 2 (by decide) (by decide +kernel) (Or.inl rfl) rfl dX7_rankInto_4 ?_
      refine g_icmpN_ge (a := k) (b := S.2.1 16 t) (tgt := 87) hC dX7_rankInto_7 (by decide) (by omega) (by omega) (fun h7 => ?_) (fun h7 => ?_)
      · have hkn : k = S.2.1 16 t := by omega
        exact g_vret hC hR dX7_rankInto_87 ⟨rfl, g, hx6, by rw [← hkn]; exact hrk⟩
      · refine g_iconst hC dX7_rankInto_10 (v := nI 0) (by decide) ?_
        refine g_istore_n (lv' := [(3, .int (nI 0)), (2, .int (nI k)), (0, .ref T), (1, .ref R9)]) hC dX7_rankInto_11 rfl (by decide) rfl ?_
        refine g_iload_n hC dX7_rankInto_12 rfl 1 rfl ?_
        refine g_istore (lv' := [(4, .int (nI k)), (3, .int (nI 0)), (2, .int (nI k)), (0, .ref T), (1, .ref R9)]) hC dX7_rankInto_13 (by decide) rfl ?_
        have ihO := ih
        have lpI : ∀ (m : Nat) (lo hi : Nat), hi - lo < m → (lo ≤ ct9 (tK S t) k k) → (ct9 (tK S t) k k ≤ hi) → (hi ≤ k) → gW X vwCl 6 L f6 0 0 15 [(3, .int (nI lo)), (4, .int (nI hi)), (2, .int (nI k)), (0, .ref T), (1, .ref R9)] [] := by
          intro m
          induction m with
          | zero => intros; omega
          | succ m ih =>
            intro lo hi hm9 hlo hhi hhk
            have ihI := ih
            have hck := hcl9 k
            refine g_iload_n hC dX7_rankInto_15 rfl 0 rfl ?_
            refine g_iload hC dX7_rankInto_16 1 rfl ?_
            refine g_icmpN_ge (a := lo) (b := hi) (tgt := 65) hC dX7_rankInto_18 (by decide) (by omega) (by omega) (fun h18 => ?_) (fun h18 => ?_)
            · refine g_aload_n hC dX7_rankInto_65 rfl 4 rfl (Or.inr ⟨_, rfl⟩) ?_
              refine g_iload_n hC dX7_rankInto_66 rfl 0 rfl ?_
              refine g_aload_n hC dX7_rankInto_67 rfl 4 rfl (Or.inr ⟨_, rfl⟩) ?_
              refine g_iload_n hC dX7_rankInto_68 rfl 0 rfl ?_
              refine g_iconst hC dX7_rankInto_69 (v := nI 1) (by decide) ?_
              refine g_iaddN (a := lo) (b := 1) hC dX7_rankInto_70 ?_
              refine g_iload_n hC dX7_rankInto_71 rfl 2 rfl ?_
              refine g_iload_n hC dX7_rankInto_72 rfl 0 rfl ?_
              refine g_isubN (a := k) (b := lo) hC (by omega) dX7_rankInto_73 ?_
              refine g_copyi hC 2 rfl rfl (hx6.Mr hR9).1 (hx6.Mr hR9).2 (hx6.Mr hR9).1 (hx6.Mr hR9).2 rfl (by decide +kernel) (by decide +kernel) (by decide +kernel) (by decide +kernel) (lo) (lo + 1) (k - lo) rfl rfl rfl (by omega) (by omega) (by omega) (show lo + (k - lo) ≤ 100 by omega) (show (lo + 1) + (k - lo) ≤ 100 by omega) (fun _ _ => rfl) (Nat.le_of_ble_eq_true rfl) (Nat.le_of_ble_eq_true rfl) dX7_rankInto_74 ?_
              refine g_fx (P := xR cy S ((b.1, (va_cpy g g lo (lo + 1) (k - lo))))) (hx6.ranks (va_cpy g g lo (lo + 1) (k - lo)) hR9) (fun f7 hx7 => ?_)
              show gW X vwCl 6 L f7 0 0 77 [(3, .int (nI lo)), (4, .int (nI hi)), (2, .int (nI k)), (0, .ref T), (1, .ref R9)] []
              refine g_aload_n hC dX7_rankInto_77 rfl 4 rfl (Or.inr ⟨_, rfl⟩) ?_
              refine g_iload_n hC dX7_rankInto_78 rfl 0 rfl ?_
              refine g_iload_n hC dX7_rankInto_79 rfl 2 rfl ?_
              refine g_iast hC 2 rfl (hx7.Mr hR9).1 (hx7.Mr hR9).2 (lo) rfl (show lo < 100 by omega) (by decide) dX7_rankInto_80 ?_
              refine g_fx (P := xR cy S ((b.1, (upd (va_cpy g g lo (lo + 1) (k - lo)) lo (nI k))))) (hx7.ranks (upd (va_cpy g g lo (lo + 1) (k - lo)) lo (nI k)) hR9) (fun f8 hx8 => ?_)
              show gW X vwCl 6 L f8 0 0 81 [(3, .int (nI lo)), (4, .int (nI hi)), (2, .int (nI k)), (0, .ref T), (1, .ref R9)] []
              refine g_iincN (n := 1) (a := k) (lv' := [(2, .int (nI (k + 1))), (3, .int (nI lo)), (4, .int (nI hi)), (0, .ref T), (1, .ref R9)]) hC dX7_rankInto_81 2 rfl (by decide) rfl ?_
              refine g_goto (tgt := 2) hC dX7_rankInto_84 (by decide) ?_
              refine g_lv (lv' := [(2, .int (nI (k + 1))), (0, .ref T), (1, .ref R9)]) [0, 3, 4] rfl ?_
              exact ihO (k + 1) (upd (va_cpy g g lo (lo + 1) (k - lo)) lo (nI k)) f8 (by omega) (by omega) hx8 (by rw [show lo = ct9 (tK S t) k k by omega]; exact Rk_step hrk)
            · refine g_iload_n hC dX7_rankInto_21 rfl 0 rfl ?_
              refine g_iload hC dX7_rankInto_22 1 rfl ?_
              refine g_iaddN (a := lo) (b := hi) hC dX7_rankInto_24 ?_
              refine g_iconst hC dX7_rankInto_25 (v := nI 2) (by decide) ?_
              refine g_idiv hC dX7_rankInto_26 (by decide) ?_
              refine g_val (w := .int (nI ((lo + hi) / 2))) (congrArg Value.int (pk_div (by omega) (by decide) (by decide))) ?_
              refine g_istore (lv' := [(5, .int (nI ((lo + hi) / 2))), (3, .int (nI lo)), (4, .int (nI hi)), (2, .int (nI k)), (0, .ref T), (1, .ref R9)]) hC dX7_rankInto_27 (by decide) rfl ?_
              refine g_aload_n hC dX7_rankInto_29 rfl 4 rfl (Or.inr ⟨_, rfl⟩) ?_
              refine g_get hC (by decide +kernel) rfl (hx6.T ht hT hkb).1 (hx6.T ht hT hkb).2 0 (by decide) (by decide +kernel) (Or.inl rfl) rfl dX7_rankInto_30 ?_
              refine g_aload_n hC dX7_rankInto_33 rfl 5 rfl (Or.inr ⟨_, rfl⟩) ?_
              refine g_iload hC dX7_rankInto_34 0 rfl ?_
              refine g_iald hC 2 rfl (hx6.Mr hR9).1 (hx6.Mr hR9).2 ((lo + hi) / 2) rfl (show (lo + hi) / 2 < 100 by omega) (by decide) dX7_rankInto_36 ?_
              obtain ⟨j, hj, hgj, hcj⟩ := hrk ((lo + hi) / 2) (by omega)
              refine g_val (w := .int (nI j)) (congrArg Value.int hgj) ?_
              refine g_aald hC 4 rfl (hx6.Tt ht rfl).1 (hx6.Tt ht rfl).2 (j) rfl (show j < 100 by omega) (by decide) dX7_rankInto_37 ?_
              refine g_val (w := .ref (b.1 0 (S.2.1 20 (100 * t + j)))) (congrArg va_rf (if_pos (show j < S.2.1 16 t by omega))) ?_
              have hrj := hto j (by omega)
              refine g_aload_n hC dX7_rankInto_38 rfl 4 rfl (Or.inr ⟨_, rfl⟩) ?_
              refine g_get hC (by decide +kernel) rfl (hx6.T ht hT hkb).1 (hx6.T ht hT hkb).2 0 (by decide) (by decide +kernel) (Or.inl rfl) rfl dX7_rankInto_39 ?_
              refine g_iload_n hC dX7_rankInto_42 rfl 3 rfl ?_
              refine g_aald hC 4 rfl (hx6.Tt ht rfl).1 (hx6.Tt ht rfl).2 (k) rfl (show k < 100 by omega) (by decide) dX7_rankInto_43 ?_
              refine g_val (w := .ref (b.1 0 (S.2.1 20 (100 * t + k)))) (congrArg va_rf (if_pos (show k < S.2.1 16 t by omega))) ?_
              have hrk9 := hto k (by omega)
              refine g_V (As := [.ref (b.1 0 (S.2.1 20 (100 * t + k)))]) (st := []) hC 1 dX7_rankInto_44 rfl (hx6.B hrj rfl).1 (hx6.B hrj rfl).2 gX7_rankInto_X0_against rfl (by decide +kernel) ⟨Nat.le_of_ble_eq_true rfl, Nat.le_of_ble_eq_true rfl⟩ rfl (Nat.le_of_ble_eq_true rfl) ⟨Nat.le_of_ble_eq_true rfl, Nat.le_of_ble_eq_true rfl⟩ (c2 := 0) (s2 := 0) rfl rfl (x_against _ _ _ _ _ _ _ _ (hx6.isB hrj rfl (hI.bl hrj)) (hx6.isB hrk9 rfl (hI.bl hrk9))) ?_
              refine g_if_le (x := sgn (agG (bcF S (S.2.1 20 (100 * t + j))) (bcF S (S.2.1 20 (100 * t + k))) (S.2.1 5 (S.2.1 20 (100 * t + j))) (S.2.1 5 (S.2.1 20 (100 * t + k))))) (tgt := 57) hC dX7_rankInto_47 (by decide) (fun h47 => ?_) (fun h47 => ?_)
              · rw [bc_ag] at h47
                have hgt := ag_ky (hI.bl hrj) (hI.bl hrk9)
                have hhd : hd9 (tK S t) j k := by
                  have z : ¬ (¬ agst S _ _ < 0 ∧ ¬ agst S _ _ = 0) := fun z => sgn_pos.mpr z h47
                  rw [hgt.1, hgt.2] at z
                  show ky S (S.2.1 20 (100 * t + j)) < ky S (S.2.1 20 (100 * t + k)) ∨ (ky S (S.2.1 20 (100 * t + j)) = ky S (S.2.1 20 (100 * t + k)) ∧ j < k)
                  omega
                rw [Rk_hd hj hcj] at hhd
                refine g_iload hC dX7_rankInto_57 0 rfl ?_
                refine g_iconst hC dX7_rankInto_59 (v := nI 1) (by decide) ?_
                refine g_iaddN (a := (lo + hi) / 2) (b := 1) hC dX7_rankInto_60 ?_
                refine g_istore_n (lv' := [(3, .int (nI (((lo + hi) / 2) + 1))), (5, .int (nI ((lo + hi) / 2))), (4, .int (nI hi)), (2, .int (nI k)), (0, .ref T), (1, .ref R9)]) hC dX7_rankInto_61 rfl (by decide) rfl ?_
                refine g_goto (tgt := 15) hC dX7_rankInto_62 (by decide) ?_
                refine g_lv (lv' := [(3, .int (nI (((lo + hi) / 2) + 1))), (4, .int (nI hi)), (2, .int (nI k)), (0, .ref T), (1, .ref R9)]) [0, 2, 3, 4, 5] rfl ?_
                exact ihI (((lo + hi) / 2) + 1) hi (by omega) (by omega) (by omega) (by omega)
              · rw [bc_ag] at h47
                have hgt := ag_ky (hI.bl hrj) (hI.bl hrk9)
                have hhd : ¬ hd9 (tK S t) j k := by
                  have z := sgn_pos.mp h47
                  rw [hgt.1, hgt.2] at z
                  show ¬ (ky S (S.2.1 20 (100 * t + j)) < ky S (S.2.1 20 (100 * t + k)) ∨ (ky S (S.2.1 20 (100 * t + j)) = ky S (S.2.1 20 (100 * t + k)) ∧ j < k))
                  omega
                rw [Rk_hd hj hcj] at hhd
                refine g_iload hC dX7_rankInto_50 0 rfl ?_
                refine g_istore (lv' := [(4, .int (nI ((lo + hi) / 2))), (5, .int (nI ((lo + hi) / 2))), (3, .int (nI lo)), (2, .int (nI k)), (0, .ref T), (1, .ref R9)]) hC dX7_rankInto_52 (by decide) rfl ?_
                refine g_goto (tgt := 62) hC dX7_rankInto_54 (by decide) ?_
                refine g_goto (tgt := 15) hC dX7_rankInto_62 (by decide) ?_
                refine g_lv (lv' := [(3, .int (nI lo)), (4, .int (nI ((lo + hi) / 2))), (2, .int (nI k)), (0, .ref T), (1, .ref R9)]) [2, 0, 3, 4, 5] rfl ?_
                exact ihI lo ((lo + hi) / 2) (by omega) (by omega) (by omega) (by omega)
        refine g_lv (lv' := [(3, .int (nI 0)), (4, .int (nI k)), (2, .int (nI k)), (0, .ref T), (1, .ref R9)]) [1, 0, 2, 3, 4] rfl ?_
        exact lpI (k + 1) 0 k (by omega) (by omega) (ct9_le k) (by omega)
  exact lp (S.2.1 16 t + 1) 0 b.2 f (by omega) (by omega) hx (fun p hp => absurd hp (by omega))
set_option maxRecDepth 20000 in
set_option maxHeartbeats 4000000 in
theorem x_rankInto_K {S : aS} {b : xB} (hx : xR cy S b L f) (hI : aI S) (t T : Nat) (ht : t < S.1 13) (hT : b.1 6 t = T) (hkb : S.2.1 14 t ≠ 0) (R9 : Nat) (hR9 : b.1 9 3 = R9) : gCt l D vwCl (gKK D cy adK adV) yX7_rankInto wsX7_rankInto { frames := 2, cells := 0, slots := 0, locals := 45 } [.ref T, .ref R9] L f (fun w9 L9 f9 => w9 = none ∧ ∃ g, xR cy S (b.1, g) L9 f9 ∧ Rk (tK S t) (S.2.1 16 t) g) := by
  refine gCt.of gKK_ok (by decide) rfl rfl (fun X hC hR hnm => ?_)
  have hC : gC X l _ D vwCl (cyT cy) (gKK D cy adK adV) cX7_rankInto 6 wsX7_rankInto RX7 := hC
  show gW X vwCl 6 L f 0 0 0 [(0, .ref T), (1, .ref R9)] []
  have hk9 := hI.tk ht
  have htm := hk9.2.1
  have hto : ∀ j, j < S.2.1 16 t → S.2.1 20 (100 * t + j) < S.1 4 := hk9.2.2.2.2.1
  have hcl9 : ∀ k, ct9 (tK S t) k k ≤ k := fun k => ct9_le k
  refine g_iconst hC dX7_rankInto_0 (v := nI 0) (by decide) ?_
  refine g_istore_n (lv' := [(2, .int (nI 0)), (0, .ref T), (1, .ref R9)]) hC dX7_rankInto_1 rfl (by decide) rfl ?_
  have lp : ∀ (m : Nat) (k : Nat) (g : Nat → Int32) (f6 : Nat → va_E), S.2.1 16 t - k < m → (k ≤ S.2.1 16 t) → (xR cy S (b.1, g) L f6) → (Rk (tK S t) k g) → gW X vwCl 6 L f6 0 0 2 [(2, .int (nI k)), (0, .ref T), (1, .ref R9)] [] := by
    intro m
    induction m with
    | zero => intros; omega
    | succ m ih =>
      intro k g f6 hm9 hk hx6 hrk
      refine g_iload_n hC dX7_rankInto_2 rfl 0 rfl ?_
      refine g_aload_n hC dX7_rankInto_3 rfl 1 rfl (Or.inr ⟨_, rfl⟩) ?_
      refine g_get hC (by decide +kernel) rfl (hx6.K ht hT hkb).1 (hx6.K ht hT hkb).2 2 (by decide) (by decide +kernel) (Or.inl rfl) rfl dX7_rankInto_4 ?_
      refine g_icmpN_ge (a := k) (b := S.2.1 16 t) (tgt := 87) hC dX7_rankInto_7 (by decide) (by omega) (by omega) (fun h7 => ?_) (fun h7 => ?_)
      · have hkn : k = S.2.1 16 t := by omega
        exact g_vret hC hR dX7_rankInto_87 ⟨rfl, g, hx6, by rw [← hkn]; exact hrk⟩
      · refine g_iconst hC dX7_rankInto_10 (v := nI 0) (by decide) ?_
        refine g_istore_n (lv' := [(3, .int (nI 0)), (2, .int (nI k)), (0, .ref T), (1, .ref R9)]) hC dX7_rankInto_11 rfl (by decide) rfl ?_
        refine g_iload_n hC dX7_rankInto_12 rfl 1 rfl ?_
        refine g_istore (lv' := [(4, .int (nI k)), (3, .int (nI 0)), (2, .int (nI k)), (0, .ref T), (1, .ref R9)]) hC dX7_rankInto_13 (by decide) rfl ?_
        have ihO := ih
        have lpI : ∀ (m : Nat) (lo hi : Nat), hi - lo < m → (lo ≤ ct9 (tK S t) k k) → (ct9 (tK S t) k k ≤ hi) → (hi ≤ k) → gW X vwCl 6 L f6 0 0 15 [(3, .int (nI lo)), (4, .int (nI hi)), (2, .int (nI k)), (0, .ref T), (1, .ref R9)] [] := by
          intro m
          induction m with
          | zero => intros; omega
          | succ m ih =>
            intro lo hi hm9 hlo hhi hhk
            have ihI := ih
            have hck := hcl9 k
            refine g_iload_n hC dX7_rankInto_15 rfl 0 rfl ?_
            refine g_iload hC dX7_rankInto_16 1 rfl ?_
            refine g_icmpN_ge (a := lo) (b := hi) (tgt := 65) hC dX7_rankInto_18 (by decide) (by omega) (by omega) (fun h18 => ?_) (fun h18 => ?_)
            · refine g_aload_n hC dX7_rankInto_65 rfl 4 rfl (Or.inr ⟨_, rfl⟩) ?_
              refine g_iload_n hC dX7_rankInto_66 rfl 0 rfl ?_
              refine g_aload_n hC dX7_rankInto_67 rfl 4 rfl (Or.inr ⟨_, rfl⟩) ?_
              refine g_iload_n hC dX7_rankInto_68 rfl 0 rfl ?_
              refine g_iconst hC dX7_rankInto_69 (v := nI 1) (by decide) ?_
              refine g_iaddN (a := lo) (b := 1) hC dX7_rankInto_70 ?_
              refine g_iload_n hC dX7_rankInto_71 rfl 2 rfl ?_
              refine g_iload_n hC dX7_rankInto_72 rfl 0 rfl ?_
              refine g_isubN (a := k) (b := lo) hC (by omega) dX7_rankInto_73 ?_
              refine g_copyi hC 2 rfl rfl (hx6.Mr hR9).1 (hx6.Mr hR9).2 (hx6.Mr hR9).1 (hx6.Mr hR9).2 rfl (by decide +kernel) (by decide +kernel) (by decide +kernel) (by decide +kernel) (lo) (lo + 1) (k - lo) rfl rfl rfl (by omega) (by omega) (by omega) (show lo + (k - lo) ≤ 100 by omega) (show (lo + 1) + (k - lo) ≤ 100 by omega) (fun _ _ => rfl) (Nat.le_of_ble_eq_true rfl) (Nat.le_of_ble_eq_true rfl) dX7_rankInto_74 ?_
              refine g_fx (P := xR cy S ((b.1, (va_cpy g g lo (lo + 1) (k - lo))))) (hx6.ranks (va_cpy g g lo (lo + 1) (k - lo)) hR9) (fun f7 hx7 => ?_)
              show gW X vwCl 6 L f7 0 0 77 [(3, .int (nI lo)), (4, .int (nI hi)), (2, .int (nI k)), (0, .ref T), (1, .ref R9)] []
              refine g_aload_n hC dX7_rankInto_77 rfl 4 rfl (Or.inr ⟨_, rfl⟩) ?_
              refine g_iload_n hC dX7_rankInto_78 rfl 0 rfl ?_
              refine g_iload_n hC dX7_rankInto_79 rfl 2 rfl ?_
              refine g_iast hC 2 rfl (hx7.Mr hR9).1 (hx7.Mr hR9).2 (lo) rfl (show lo < 100 by omega) (by decide) dX7_rankInto_80 ?_
              refine g_fx (P := xR cy S ((b.1, (upd (va_cpy g g lo (lo + 1) (k - lo)) lo (nI k))))) (hx7.ranks (upd (va_cpy g g lo (lo + 1) (k - lo)) lo (nI k)) hR9) (fun f8 hx8 => ?_)
              show gW X vwCl 6 L f8 0 0 81 [(3, .int (nI lo)), (4, .int (nI hi)), (2, .int (nI k)), (0, .ref T), (1, .ref R9)] []
              refine g_iincN (n := 1) (a := k) (lv' := [(2, .int (nI (k + 1))), (3, .int (nI lo)), (4, .int (nI hi)), (0, .ref T), (1, .ref R9)]) hC dX7_rankInto_81 2 rfl (by decide) rfl ?_
              refine g_goto (tgt := 2) hC dX7_rankInto_84 (by decide) ?_
              refine g_lv (lv' := [(2, .int (nI (k + 1))), (0, .ref T), (1, .ref R9)]) [0, 3, 4] rfl ?_
              exact ihO (k + 1) (upd (va_cpy g g lo (lo + 1) (k - lo)) lo (nI k)) f8 (by omega) (by omega) hx8 (by rw [show lo = ct9 (tK S t) k k by omega]; exact Rk_step hrk)
            · refine g_iload_n hC dX7_rankInto_21 rfl 0 rfl ?_
              refine g_iload hC dX7_rankInto_22 1 rfl ?_
              refine g_iaddN (a := lo) (b := hi) hC dX7_rankInto_24 ?_
              refine g_iconst hC dX7_rankInto_25 (v := nI 2) (by decide) ?_
              refine g_idiv hC dX7_rankInto_26 (by decide) ?_
              refine g_val (w := .int (nI ((lo + hi) / 2))) (congrArg Value.int (pk_div (by omega) (by decide) (by decide))) ?_
              refine g_istore (lv' := [(5, .int (nI ((lo + hi) / 2))), (3, .int (nI lo)), (4, .int (nI hi)), (2, .int (nI k)), (0, .ref T), (1, .ref R9)]) hC dX7_rankInto_27 (by decide) rfl ?_
              refine g_aload_n hC dX7_rankInto_29 rfl 4 rfl (Or.inr ⟨_, rfl⟩) ?_
              refine g_get hC (by decide +kernel) rfl (hx6.K ht hT hkb).1 (hx6.K ht hT hkb).2 0 (by decide) (by decide +kernel) (Or.inl rfl) rfl dX7_rankInto_30 ?_
              refine g_aload_n hC dX7_rankInto_33 rfl 5 rfl (Or.inr ⟨_, rfl⟩) ?_
              refine g_iload hC dX7_rankInto_34 0 rfl ?_
              refine g_iald hC 2 rfl (hx6.Mr hR9).1 (hx6.Mr hR9).2 ((lo + hi) / 2) rfl (show (lo + hi) / 2 < 100 by omega) (by decide) dX7_rankInto_36 ?_
              obtain ⟨j, hj, hgj, hcj⟩ := hrk ((lo + hi) / 2) (by omega)
              refine g_val (w := .int (nI j)) (congrArg Value.int hgj) ?_
              refine g_aald hC 4 rfl (hx6.Tt ht rfl).1 (hx6.Tt ht rfl).2 (j) rfl (show j < 100 by omega) (by decide) dX7_rankInto_37 ?_
              refine g_val (w := .ref (b.1 0 (S.2.1 20 (100 * t + j)))) (congrArg va_rf (if_pos (show j < S.2.1 16 t by omega))) ?_
              have hrj := hto j (by omega)
              refine g_aload_n hC dX7_rankInto_38 rfl 4 rfl (Or.inr ⟨_, rfl⟩) ?_
              refine g_get hC (by decide +kernel) rfl (hx6.K ht hT hkb).1 (hx6.K ht hT hkb).2 0 (by decide) (by decide +kernel) (Or.inl rfl) rfl dX7_rankInto_39 ?_
              refine g_iload_n hC dX7_rankInto_42 rfl 3 rfl ?_
              refine g_aald hC 4 rfl (hx6.Tt ht rfl).1 (hx6.Tt ht rfl).2 (k) rfl (show k < 100 by omega) (by decide) dX7_rankInto_43 ?_
              refine g_val (w := .ref (b.1 0 (S.2.1 20 (100 * t + k)))) (congrArg va_rf (if_pos (show k < S.2.1 16 t by omega))) ?_
              have hrk9 := hto k (by omega)
              refine g_V (As := [.ref (b.1 0 (S.2.1 20 (100 * t + k)))]) (st := []) hC 1 dX7_rankInto_44 rfl (hx6.B hrj rfl).1 (hx6.B hrj rfl).2 gX7_rankInto_X0_against rfl (by decide +kernel) ⟨Nat.le_of_ble_eq_true rfl, Nat.le_of_ble_eq_true rfl⟩ rfl (Nat.le_of_ble_eq_true rfl) ⟨Nat.le_of_ble_eq_true rfl, Nat.le_of_ble_eq_true rfl⟩ (c2 := 0) (s2 := 0) rfl rfl (x_against _ _ _ _ _ _ _ _ (hx6.isB hrj rfl (hI.bl hrj)) (hx6.isB hrk9 rfl (hI.bl hrk9))) ?_
              refine g_if_le (x := sgn (agG (bcF S (S.2.1 20 (100 * t + j))) (bcF S (S.2.1 20 (100 * t + k))) (S.2.1 5 (S.2.1 20 (100 * t + j))) (S.2.1 5 (S.2.1 20 (100 * t + k))))) (tgt := 57) hC dX7_rankInto_47 (by decide) (fun h47 => ?_) (fun h47 => ?_)
              · rw [bc_ag] at h47
                have hgt := ag_ky (hI.bl hrj) (hI.bl hrk9)
                have hhd : hd9 (tK S t) j k := by
                  have z : ¬ (¬ agst S _ _ < 0 ∧ ¬ agst S _ _ = 0) := fun z => sgn_pos.mpr z h47
                  rw [hgt.1, hgt.2] at z
                  show ky S (S.2.1 20 (100 * t + j)) < ky S (S.2.1 20 (100 * t + k)) ∨ (ky S (S.2.1 20 (100 * t + j)) = ky S (S.2.1 20 (100 * t + k)) ∧ j < k)
                  omega
                rw [Rk_hd hj hcj] at hhd
                refine g_iload hC dX7_rankInto_57 0 rfl ?_
                refine g_iconst hC dX7_rankInto_59 (v := nI 1) (by decide) ?_
                refine g_iaddN (a := (lo + hi) / 2) (b := 1) hC dX7_rankInto_60 ?_
                refine g_istore_n (lv' := [(3, .int (nI (((lo + hi) / 2) + 1))), (5, .int (nI ((lo + hi) / 2))), (4, .int (nI hi)), (2, .int (nI k)), (0, .ref T), (1, .ref R9)]) hC dX7_rankInto_61 rfl (by decide) rfl ?_
                refine g_goto (tgt := 15) hC dX7_rankInto_62 (by decide) ?_
                refine g_lv (lv' := [(3, .int (nI (((lo + hi) / 2) + 1))), (4, .int (nI hi)), (2, .int (nI k)), (0, .ref T), (1, .ref R9)]) [0, 2, 3, 4, 5] rfl ?_
                exact ihI (((lo + hi) / 2) + 1) hi (by omega) (by omega) (by omega) (by omega)
              · rw [bc_ag] at h47
                have hgt := ag_ky (hI.bl hrj) (hI.bl hrk9)
                have hhd : ¬ hd9 (tK S t) j k := by
                  have z := sgn_pos.mp h47
                  rw [hgt.1, hgt.2] at z
                  show ¬ (ky S (S.2.1 20 (100 * t + j)) < ky S (S.2.1 20 (100 * t + k)) ∨ (ky S (S.2.1 20 (100 * t + j)) = ky S (S.2.1 20 (100 * t + k)) ∧ j < k))
                  omega
                rw [Rk_hd hj hcj] at hhd
                refine g_iload hC dX7_rankInto_50 0 rfl ?_
                refine g_istore (lv' := [(4, .int (nI ((lo + hi) / 2))), (5, .int (nI ((lo + hi) / 2))), (3, .int (nI lo)), (2, .int (nI k)), (0, .ref T), (1, .ref R9)]) hC dX7_rankInto_52 (by decide) rfl ?_
                refine g_goto (tgt := 62) hC dX7_rankInto_54 (by decide) ?_
                refine g_goto (tgt := 15) hC dX7_rankInto_62 (by decide) ?_
                refine g_lv (lv' := [(3, .int (nI lo)), (4, .int (nI ((lo + hi) / 2))), (2, .int (nI k)), (0, .ref T), (1, .ref R9)]) [2, 0, 3, 4, 5] rfl ?_
                exact ihI lo ((lo + hi) / 2) (by omega) (by omega) (by omega) (by omega)
        refine g_lv (lv' := [(3, .int (nI 0)), (4, .int (nI k)), (2, .int (nI k)), (0, .ref T), (1, .ref R9)]) [1, 0, 2, 3, 4] rfl ?_
        exact lpI (k + 1) 0 k (by omega) (by omega) (ct9_le k) (by omega)
  exact lp (S.2.1 16 t + 1) 0 b.2 f (by omega) (by omega) hx (fun p hp => absurd hp (by omega))
end X9r
