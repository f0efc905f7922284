/-! ===== small rules for sets, and the holder ===== -/
theorem lc0 {x y : Int} : (if y < x then (1 : Int) else if x = y then 0 else -1) = 0 ↔ x = y := by
  by_cases h1 : y < x
  · rw [if_pos h1]; omega
  · rw [if_neg h1]
    by_cases h2 : x = y
    · rw [if_pos h2]; omega
    · rw [if_neg h2]; omega
theorem i64_r (x : Int64) : -9223372036854775808 ≤ x.toInt ∧ x.toInt ≤ 9223372036854775807 := by
  have h1 := x.le_toInt
  have h2 := x.toInt_lt
  omega
theorem lA_r (x y : Int) : -9223372036854775808 ≤ lA x y ∧ lA x y ≤ 9223372036854775807 := i64_r _
theorem bcL_r (x : Int) : -2147483648 ≤ bcL x ∧ bcL x ≤ 2147483647 := iA_r _ _
theorem bcI_r (x : Int) : -2147483648 ≤ bcI x ∧ bcI x ≤ 2147483647 := iA_r _ _
theorem bestP_r {f : Int → Int} {g : Int → Bool} (hf : ∀ x, -2147483648 ≤ f x ∧ f x ≤ 2147483647) : ∀ n : Nat, -2147483648 ≤ bestP f g n ∧ bestP f g n ≤ 2147483647
  | 0 => by simp [bestP]
  | n + 1 => by
    simp only [bestP]
    split
    · exact hf _
    · exact bestP_r hf n
theorem hgI_r (on ot : Int → Int) (s : Int) (q : Int × Int) (h : -2147483648 ≤ q.2 ∧ q.2 ≤ 2147483647) : ∀ n : Nat, -2147483648 ≤ (hgI on ot s q n).2 ∧ (hgI on ot s q n).2 ≤ 2147483647
  | 0 => h
  | n + 1 => by
    show -2147483648 ≤ (hg1 on ot s (n : Int) (hgI on ot s q n)).2 ∧ (hg1 on ot s (n : Int) (hgI on ot s q n)).2 ≤ 2147483647
    unfold hg1
    split
    · exact iO_r _ _
    · exact hgI_r on ot s q h n
theorem hgO_r (on ot : Int → Int) (c : Nat) (s : Int) : ∀ n : Nat, -2147483648 ≤ (hgO on ot c s n).2 ∧ (hgO on ot c s n).2 ≤ 2147483647
  | 0 => by show -2147483648 ≤ (0 : Int) ∧ (0 : Int) ≤ 2147483647; omega
  | n + 1 => hgI_r on ot s _ (hgO_r on ot c s n) c
theorem sl_fin : ∀ r : Fin 9, iSl 1 (r.val : Int) = ((2 ^ r.val - 1 : Nat) : Int) + 1 ∧ 2 ^ r.val - 1 ≤ 255 := by decide +kernel
theorem sl_8 {r : Nat} (hr : r ≤ 8) : iSl 1 (r : Int) = ((2 ^ r - 1 : Nat) : Int) + 1 ∧ 2 ^ r - 1 ≤ 255 := sl_fin ⟨r, by omega⟩
/-- what is gathered after some players -/
def utK (b r : Int → Int) (κ : St) : Nat → St
  | 0 => κ
  | n + 1 => gaN b r (n : Int) (utK b r κ n) 30
theorem utK_succ (b r : Int → Int) (κ : St) (n : Nat) : utK b r κ (n + 1) = gaN b r (n : Int) (utK b r κ n) 30 := rfl
theorem utK_on (b r : Int → Int) (κ : St) (h0 : ∀ i, 0 ≤ κ.2.1 0 i ∧ κ.2.1 0 i ≤ 63) : ∀ (n : Nat) (i : Int), 0 ≤ (utK b r κ n).2.1 0 i ∧ (utK b r κ n).2.1 0 i ≤ 63
  | 0 => h0
  | n + 1 => by
    rw [utK_succ]
    exact gaN_on b r _ _ (utK_on b r κ h0 n) 30 (by omega)
theorem utK_ot (b r : Int → Int) (κ : St) (h0 : ∀ i, 0 ≤ κ.2.1 1 i ∧ κ.2.1 1 i ≤ 63) : ∀ (n : Nat) (i : Int), 0 ≤ (utK b r κ n).2.1 1 i ∧ (utK b r κ n).2.1 1 i ≤ 63
  | 0 => h0
  | n + 1 => by
    rw [utK_succ]
    exact gaN_ot b r _ _ (utK_ot b r κ h0 n) 30 (by omega)
theorem ow8 {τ : St} (hrc : ∀ p, 0 ≤ p ∧ p < 3 → cntN (τ.2.1 3) p 30 ≤ 8) {p : Int} (hp : 0 ≤ p ∧ p < 3) : (owL (τ.2.1 3) p 30).length ≤ 8 := by
  have h1 := hrc p hp
  have h2 := owL_len (τ.2.1 3) p 30
  omega
def ho1 (L h p : Int) (q : Int × Int × Int × Int) : Int × Int × Int × Int := if q.1 < L then (L, 1, p, if p = h then 1 else 0) else if L = q.1 then (q.1, q.2.1 + 1, p, if q.2.2.2 ≠ 0 ∨ p = h then 1 else 0) else q
def hoN (L : Int → Int) (h : Int) : Nat → Int × Int × Int × Int
  | 0 => (0, 0, -1, 0)
  | n + 1 => ho1 (L (n : Int)) h (n : Int) (hoN L h n)
theorem hoN_r {L : Int → Int} (h : Int) (hL : ∀ p, 0 ≤ p ∧ p < 3 → 0 ≤ L p ∧ L p ≤ 8) : ∀ n : Nat, n ≤ 3 → (0 ≤ (hoN L h n).1 ∧ (hoN L h n).1 ≤ 8) ∧ (0 ≤ (hoN L h n).2.1 ∧ (hoN L h n).2.1 ≤ 3) ∧ (-1 ≤ (hoN L h n).2.2.1 ∧ (hoN L h n).2.2.1 ≤ 2) ∧ (0 ≤ (hoN L h n).2.2.2 ∧ (hoN L h n).2.2.2 ≤ 1) ∧ (hoN L h n).2.1 ≤ n
  | 0, _ => by simp [hoN]
  | n + 1, hn => by
    obtain ⟨h1, h2, h3, h4, h5⟩ := hoN_r h hL n (by omega)
    have h6 := hL (n : Int) (by omega)
    show (0 ≤ (ho1 (L (n : Int)) h (n : Int) (hoN L h n)).1 ∧ (ho1 (L (n : Int)) h (n : Int) (hoN L h n)).1 ≤ 8) ∧ (0 ≤ (ho1 (L (n : Int)) h (n : Int) (hoN L h n)).2.1 ∧ (ho1 (L (n : Int)) h (n : Int) (hoN L h n)).2.1 ≤ 3) ∧ (-1 ≤ (ho1 (L (n : Int)) h (n : Int) (hoN L h n)).2.2.1 ∧ (ho1 (L (n : Int)) h (n : Int) (hoN L h n)).2.2.1 ≤ 2) ∧ (0 ≤ (ho1 (L (n : Int)) h (n : Int) (hoN L h n)).2.2.2 ∧ (ho1 (L (n : Int)) h (n : Int) (hoN L h n)).2.2.2 ≤ 1) ∧ (ho1 (L (n : Int)) h (n : Int) (hoN L h n)).2.1 ≤ (n + 1 : Nat)
    unfold ho1
    by_cases q1 : (hoN L h n).1 < L (n : Int)
    · rw [if_pos q1]
      refine ⟨h6, ?_, ?_, ?_, ?_⟩
      · show 0 ≤ (1 : Int) ∧ (1 : Int) ≤ 3; omega
      · show -1 ≤ (n : Int) ∧ (n : Int) ≤ 2; omega
      · show 0 ≤ (if (n : Int) = h then (1 : Int) else 0) ∧ (if (n : Int) = h then (1 : Int) else 0) ≤ 1; split <;> omega
      · show (1 : Int) ≤ ((n + 1 : Nat) : Int); omega
    · rw [if_neg q1]
      by_cases q2 : L (n : Int) = (hoN L h n).1
      · rw [if_pos q2]
        refine ⟨h1, ?_, ?_, ?_, ?_⟩
        · show 0 ≤ (hoN L h n).2.1 + 1 ∧ (hoN L h n).2.1 + 1 ≤ 3; omega
        · show -1 ≤ (n : Int) ∧ (n : Int) ≤ 2; omega
        · show 0 ≤ (if (hoN L h n).2.2.2 ≠ 0 ∨ (n : Int) = h then (1 : Int) else 0) ∧ (if (hoN L h n).2.2.2 ≠ 0 ∨ (n : Int) = h then (1 : Int) else 0) ≤ 1; split <;> omega
        · show (hoN L h n).2.1 + 1 ≤ ((n + 1 : Nat) : Int); omega
      · rw [if_neg q2]
        exact ⟨h1, h2, h3, h4, by omega⟩
/-- who holds the trail -/
def hoF (L : Int → Int) (h : Int) : Int := if (hoN L h 3).1 < 5 then -1 else if (hoN L h 3).2.2.2 = 0 then (if (hoN L h 3).2.1 = 1 then (hoN L h 3).2.2.1 else -1) else h
/-- the same, as the reference reckons it -/
def rm1 (L : Int) (m : Int) : Int := if m < L then L else m
def rmN (L : Int → Int) : Nat → Int
  | 0 => 0
  | n + 1 => rm1 (L (n : Int)) (rmN L n)
def rh1 (L m h p : Int) (q : Int × Int × Bool) : Int × Int × Bool := (q.1 + (if L = m then 1 else 0), (if L = m then p else q.2.1), q.2.2 || (decide (L = m) && decide (p = h)))
def rhN (L : Int → Int) (m h : Int) : Nat → Int × Int × Bool
  | 0 => (0, -1, false)
  | n + 1 => rh1 (L (n : Int)) m h (n : Int) (rhN L m h n)
def hoR (L : Int → Int) (h : Int) : Int := if rmN L 3 < 5 then -1 else if (rhN L (rmN L 3) h 3).2.2 = true then h else if (rhN L (rmN L 3) h 3).1 = 1 then (rhN L (rmN L 3) h 3).2.1 else -1
theorem rmN_r {L : Int → Int} (hL : ∀ p, 0 ≤ p ∧ p < 3 → 0 ≤ L p ∧ L p ≤ 8) : ∀ n : Nat, n ≤ 3 → 0 ≤ rmN L n ∧ rmN L n ≤ 8
  | 0, _ => by simp [rmN]
  | n + 1, hn => by
    have h1 := rmN_r hL n (by omega)
    have h6 := hL (n : Int) (by omega)
    simp only [rmN, rm1]
    split <;> omega
theorem rhN_r (L : Int → Int) (m h : Int) : ∀ n : Nat, (0 ≤ (rhN L m h n).1 ∧ (rhN L m h n).1 ≤ n) ∧ -1 ≤ (rhN L m h n).2.1 ∧ (rhN L m h n).2.1 < n ∨ (rhN L m h n).2.1 = -1 ∧ 0 ≤ (rhN L m h n).1 ∧ (rhN L m h n).1 ≤ n
  | 0 => by simp [rhN]
  | n + 1 => by
    have ih := rhN_r L m h n
    simp only [rhN, rh1]
    split <;> omega
/-- the plain words -/
def hoP (a b c h : Int) : Int := if (if (if a < b then b else a) < c then c else (if a < b then b else a)) < 5 then -1 else if (h = 0 ∧ ¬ a < b ∧ ¬ a < c) ∨ (h = 1 ∧ ¬ b < a ∧ ¬ b < c) ∨ (h = 2 ∧ ¬ c < a ∧ ¬ c < b) then h else if b < a ∧ c < a then 0 else if a < b ∧ c < b then 1 else if a < c ∧ b < c then 2 else -1
def L3 (a b c : Int) (p : Int) : Int := if p = 0 then a else if p = 1 then b else c
theorem ho_fin : ∀ (a b c : Fin 9) (h : Fin 4), hoF (L3 (a.val : Int) (b.val : Int) (c.val : Int)) ((h.val : Int) - 1) = hoP (a.val : Int) (b.val : Int) (c.val : Int) ((h.val : Int) - 1) ∧ hoR (L3 (a.val : Int) (b.val : Int) (c.val : Int)) ((h.val : Int) - 1) = hoP (a.val : Int) (b.val : Int) (c.val : Int) ((h.val : Int) - 1) := by decide +kernel
theorem ho_P {L : Int → Int} {h : Int} (hL : ∀ p, 0 ≤ p ∧ p < 3 → 0 ≤ L p ∧ L p ≤ 8) (hh : -1 ≤ h ∧ h < 3) : hoF L h = hoP (L 0) (L 1) (L 2) h ∧ hoR L h = hoP (L 0) (L 1) (L 2) h := by
  have h0 := hL 0 (by omega)
  have h1 := hL 1 (by omega)
  have h2 := hL 2 (by omega)
  have eF : hoF L h = hoF (L3 (L 0) (L 1) (L 2)) h := rfl
  have eR : hoR L h = hoR (L3 (L 0) (L 1) (L 2)) h := rfl
  rw [eF, eR]
  obtain ⟨a, ha⟩ := Int.eq_ofNat_of_zero_le h0.1
  obtain ⟨b, hb⟩ := Int.eq_ofNat_of_zero_le h1.1
  obtain ⟨c, hc⟩ := Int.eq_ofNat_of_zero_le h2.1
  obtain ⟨k, hk⟩ := Int.eq_ofNat_of_zero_le (show 0 ≤ h + 1 by omega)
  have := ho_fin ⟨a, by omega⟩ ⟨b, by omega⟩ ⟨c, by omega⟩ ⟨k, by omega⟩
  simp only at this
  rw [ha, hb, hc, show h = (k : Int) - 1 by omega]
  exact this
theorem hoP_r (a b c : Int) {h : Int} (hh : -1 ≤ h ∧ h < 3) : -1 ≤ hoP a b c h ∧ hoP a b c h < 3 := by
  unfold hoP
  (repeat' split) <;> omega
theorem hoP_spec {a b c h : Int} (hh : -1 ≤ h ∧ h < 3) (hf : hoP a b c h = h) : (h = 0 → 5 ≤ a ∧ b ≤ a ∧ c ≤ a) ∧ (h = 1 → 5 ≤ b ∧ a ≤ b ∧ c ≤ b) ∧ (h = 2 → 5 ≤ c ∧ a ≤ c ∧ b ≤ c) ∧ (h = -1 → (a < 5 ∧ b < 5 ∧ c < 5) ∨ (a = b ∧ c ≤ a) ∨ (a = c ∧ b ≤ a) ∨ (b = c ∧ a ≤ b)) := by
  unfold hoP at hf
  (repeat' split at hf) <;> omega
theorem hoP_low {a b c h : Int} (h1 : a < 5 ∧ b < 5 ∧ c < 5) : hoP a b c h = -1 := by
  unfold hoP
  (repeat' split) <;> omega
theorem hoP_u0 {a b c h : Int} (h1 : 5 ≤ a ∧ b < a ∧ c < a) : hoP a b c h = 0 := by
  unfold hoP
  (repeat' split) <;> omega
theorem hoP_s0 {a b c : Int} (h1 : 5 ≤ a ∧ b ≤ a ∧ c ≤ a) : hoP a b c 0 = 0 := by
  unfold hoP
  (repeat' split) <;> omega
theorem hoP_u1 {a b c h : Int} (h1 : 5 ≤ b ∧ a < b ∧ c < b) : hoP a b c h = 1 := by
  unfold hoP
  (repeat' split) <;> omega
theorem hoP_s1 {a b c : Int} (h1 : 5 ≤ b ∧ a ≤ b ∧ c ≤ b) : hoP a b c 1 = 1 := by
  unfold hoP
  (repeat' split) <;> omega
theorem hoP_u2 {a b c h : Int} (h1 : 5 ≤ c ∧ a < c ∧ b < c) : hoP a b c h = 2 := by
  unfold hoP
  (repeat' split) <;> omega
theorem hoP_s2 {a b c : Int} (h1 : 5 ≤ c ∧ a ≤ c ∧ b ≤ c) : hoP a b c 2 = 2 := by
  unfold hoP
  (repeat' split) <;> omega
theorem hoP_n {a b c : Int} (h1 : (a = b ∧ c ≤ a) ∨ (a = c ∧ b ≤ a) ∨ (b = c ∧ a ≤ b)) : hoP a b c (-1) = -1 := by
  unfold hoP
  (repeat' split) <;> omega
theorem hoP_two0 {a b c h x1 x2 : Int} (h1 : a ≤ x1) (h2 : x1 ≤ x2) (hh : -1 ≤ h ∧ h < 3) (hf : hoP a b c h = h) : hoP x2 b c (hoP x1 b c h) = hoP x2 b c h := by
  obtain ⟨s0, s1, s2, sn⟩ := hoP_spec hh hf
  by_cases big : 5 ≤ x1 ∧ b < x1 ∧ c < x1
  · rw [hoP_u0 (h := h) big, hoP_u0 (show 5 ≤ x2 ∧ b < x2 ∧ c < x2 by omega), hoP_u0 (show 5 ≤ x2 ∧ b < x2 ∧ c < x2 by omega)]
  · have e : hoP x1 b c h = h := by
      rcases (show h = 0 ∨ h = 1 ∨ h = 2 ∨ h = -1 from by omega) with rfl | rfl | rfl | rfl
      · have := s0 rfl
        exact hoP_s0 (by omega)
      · have := s1 rfl
        exact hoP_s1 (by omega)
      · have := s2 rfl
        exact hoP_s2 (by omega)
      · have := sn rfl
        by_cases low : x1 < 5 ∧ b < 5 ∧ c < 5
        · exact hoP_low (by omega)
        · exact hoP_n (by omega)
    rw [e]
theorem hoP_two1 {a b c h x1 x2 : Int} (h1 : b ≤ x1) (h2 : x1 ≤ x2) (hh : -1 ≤ h ∧ h < 3) (hf : hoP a b c h = h) : hoP a x2 c (hoP a x1 c h) = hoP a x2 c h := by
  obtain ⟨s0, s1, s2, sn⟩ := hoP_spec hh hf
  by_cases big : 5 ≤ x1 ∧ a < x1 ∧ c < x1
  · rw [hoP_u1 (h := h) big, hoP_u1 (show 5 ≤ x2 ∧ a < x2 ∧ c < x2 by omega), hoP_u1 (show 5 ≤ x2 ∧ a < x2 ∧ c < x2 by omega)]
  · have e : hoP a x1 c h = h := by
      rcases (show h = 0 ∨ h = 1 ∨ h = 2 ∨ h = -1 from by omega) with rfl | rfl | rfl | rfl
      · have := s0 rfl
        exact hoP_s0 (by omega)
      · have := s1 rfl
        exact hoP_s1 (by omega)
      · have := s2 rfl
        exact hoP_s2 (by omega)
      · have := sn rfl
        by_cases low : x1 < 5 ∧ a < 5 ∧ c < 5
        · exact hoP_low (by omega)
        · exact hoP_n (by omega)
    rw [e]
theorem hoP_two2 {a b c h x1 x2 : Int} (h1 : c ≤ x1) (h2 : x1 ≤ x2) (hh : -1 ≤ h ∧ h < 3) (hf : hoP a b c h = h) : hoP a b x2 (hoP a b x1 h) = hoP a b x2 h := by
  obtain ⟨s0, s1, s2, sn⟩ := hoP_spec hh hf
  by_cases big : 5 ≤ x1 ∧ a < x1 ∧ b < x1
  · rw [hoP_u2 (h := h) big, hoP_u2 (show 5 ≤ x2 ∧ a < x2 ∧ b < x2 by omega), hoP_u2 (show 5 ≤ x2 ∧ a < x2 ∧ b < x2 by omega)]
  · have e : hoP a b x1 h = h := by
      rcases (show h = 0 ∨ h = 1 ∨ h = 2 ∨ h = -1 from by omega) with rfl | rfl | rfl | rfl
      · have := s0 rfl
        exact hoP_s0 (by omega)
      · have := s1 rfl
        exact hoP_s1 (by omega)
      · have := s2 rfl
        exact hoP_s2 (by omega)
      · have := sn rfl
        by_cases low : x1 < 5 ∧ a < 5 ∧ b < 5
        · exact hoP_low (by omega)
        · exact hoP_n (by omega)
    rw [e]
