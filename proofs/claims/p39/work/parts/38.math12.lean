/-! ===== yields by corners and by hexagons ===== -/
theorem sAt_at (ρ : St) (k : Nat) (i v j : Int) : (sAt ρ k i v).2.1 k j = if j = i then v else ρ.2.1 k j := by simp [sAt, sA, sup, pup]
def zerN (ρ : St) : Nat → St
  | 0 => ρ
  | n + 1 => sAt (zerN ρ n) 2 (n : Int) 0
def rk1 (τ : St) (u h c : Int) (ρ : St) : St := if (τ.2.1 1 h = u ∧ u ≠ 7 ∧ h ≠ τ.1 5 ∧ arnd h c = true) ∧ 0 ≤ τ.2.1 2 c then sAt ρ 2 (5 * ownB (τ.2.1 2 c) + τ.2.1 0 h) (ρ.2.1 2 (5 * ownB (τ.2.1 2 c) + τ.2.1 0 h) + (if 3 ≤ τ.2.1 2 c then 2 else 1)) else ρ
def rkI (τ : St) (u h : Int) (ρ : St) : Nat → St
  | 0 => ρ
  | n + 1 => rk1 τ u h (n : Int) (rkI τ u h ρ n)
def rkO (τ : St) (u : Int) (ρ : St) : Nat → St
  | 0 => ρ
  | n + 1 => rkI τ u (n : Int) (rkO τ u ρ n) 24
def wtI (b : Int → Int) (p h : Int) : Nat → Int
  | 0 => 0
  | n + 1 => wtI b p h n + if arnd h (n : Int) = true then wt1 b p (n : Int) else 0
theorem wtI_eq {b : Int → Int} {p h : Int} (hh : 0 ≤ h ∧ h < 7) : wtI b p h 24 = wt b p h := by
  rw [wt_sum]
  rcases (show h = 0 ∨ h = 1 ∨ h = 2 ∨ h = 3 ∨ h = 4 ∨ h = 5 ∨ h = 6 from by omega) with rfl | rfl | rfl | rfl | rfl | rfl | rfl <;> simp [wtI, arnd, anyN, hexC] <;> omega
theorem rkI_at {τ : St} {u h p g : Int} (hp : 0 ≤ p ∧ p < 3) (hg : 0 ≤ g ∧ g < 5) (hb : ∀ c, -1 ≤ τ.2.1 2 c ∧ τ.2.1 2 c ≤ 5) (hgd : 0 ≤ τ.2.1 0 h ∧ τ.2.1 0 h ≤ 5) (h7 : τ.2.1 1 h = 7 ↔ τ.2.1 0 h = 5) (ρ : St) : ∀ n : Nat, (rkI τ u h ρ n).2.1 2 (5 * p + g) = ρ.2.1 2 (5 * p + g) + if τ.2.1 1 h = u ∧ τ.2.1 0 h = g ∧ h ≠ τ.1 5 then wtI (τ.2.1 2) p h n else 0
  | 0 => by simp [rkI, wtI]
  | n + 1 => by
    have ih := rkI_at (u := u) hp hg hb hgd h7 ρ n
    have hbn := hb (n : Int)
    simp only [rkI, wtI, rk1]
    by_cases hc : (τ.2.1 1 h = u ∧ u ≠ 7 ∧ h ≠ τ.1 5 ∧ arnd h (n : Int) = true) ∧ 0 ≤ τ.2.1 2 (n : Int)
    · rw [if_pos hc, sAt_at]
      obtain ⟨⟨c1, c2, c3, c4⟩, c5⟩ := hc
      rw [if_pos c4]
      have ho : 0 ≤ ownB (τ.2.1 2 (n : Int)) ∧ ownB (τ.2.1 2 (n : Int)) ≤ 2 := by unfold ownB; split <;> omega
      by_cases e : 5 * p + g = 5 * ownB (τ.2.1 2 (n : Int)) + τ.2.1 0 h
      · rw [if_pos e, ← e, ih]
        have e1 : τ.2.1 0 h = g := by omega
        have e2 : ownB (τ.2.1 2 (n : Int)) = p := by omega
        have cc : τ.2.1 1 h = u ∧ τ.2.1 0 h = g ∧ h ≠ τ.1 5 := ⟨c1, e1, c3⟩
        rw [if_pos cc, if_pos cc]
        unfold ownB at e2
        unfold wt1
        (repeat' split) <;> (try split at e2) <;> omega
      · rw [if_neg e, ih]
        by_cases e1 : τ.2.1 0 h = g
        · have cc : τ.2.1 1 h = u ∧ τ.2.1 0 h = g ∧ h ≠ τ.1 5 := ⟨c1, e1, c3⟩
          rw [if_pos cc, if_pos cc]
          have e2 : ownB (τ.2.1 2 (n : Int)) ≠ p := by omega
          unfold ownB at e2
          unfold wt1
          (repeat' split) <;> (try split at e2) <;> omega
        · rw [if_neg (fun z => e1 z.2.1), if_neg (fun z => e1 z.2.1)]
    · rw [if_neg hc, ih]
      by_cases e1 : τ.2.1 1 h = u ∧ τ.2.1 0 h = g ∧ h ≠ τ.1 5
      · rw [if_pos e1, if_pos e1]
        by_cases e2 : arnd h (n : Int) = true
        · rw [if_pos e2]
          have : ¬ 0 ≤ τ.2.1 2 (n : Int) := fun z => hc ⟨⟨e1.1, by omega, e1.2.2, e2⟩, z⟩
          unfold wt1
          (repeat' split) <;> omega
        · rw [if_neg e2]
          omega
      · rw [if_neg e1, if_neg e1]
theorem rkO_at {τ : St} {u p g : Int} (hI : Iv τ) (hp : 0 ≤ p ∧ p < 3) (hg : 0 ≤ g ∧ g < 5) (ρ : St) : ∀ n : Nat, n ≤ 7 → (rkO τ u ρ n).2.1 2 (5 * p + g) = ρ.2.1 2 (5 * p + g) + yldN (τ.2.1 0) (τ.2.1 1) (τ.2.1 2) (τ.1 5) p g u n
  | 0, _ => by simp [rkO, yldN]
  | n + 1, hn => by
    have ih := rkO_at (u := u) hI hp hg ρ n (by omega)
    simp only [rkO, yldN]
    rw [rkI_at hp hg hI.hb (hI.hg _) (hI.h7 _), ih, wtI_eq (by omega)]
    omega
theorem zerN_at (ρ : St) : ∀ (n : Nat) (j : Int), 0 ≤ j → j < n → (zerN ρ n).2.1 2 j = 0
  | 0, j, h0, h => by omega
  | n + 1, j, h0, h => by
    simp only [zerN, sAt_at]
    split
    · rfl
    · next e => exact zerN_at ρ n j h0 (by omega)
def fx1 (τ : St) (g : Int) (ρ : St) : St := if ρ.2.1 2 g + ρ.2.1 2 (5 + g) + ρ.2.1 2 (10 + g) ≤ τ.2.2 0 3 g then ρ else
  sAt (sAt (sAt ρ 2 (0 + g) (if ρ.2.1 2 (0 + g) = ρ.2.1 2 g + ρ.2.1 2 (5 + g) + ρ.2.1 2 (10 + g) then τ.2.2 0 3 g else 0)) 2 (5 + g) (if ρ.2.1 2 (5 + g) = ρ.2.1 2 g + ρ.2.1 2 (5 + g) + ρ.2.1 2 (10 + g) then τ.2.2 0 3 g else 0)) 2 (10 + g) (if ρ.2.1 2 (10 + g) = ρ.2.1 2 g + ρ.2.1 2 (5 + g) + ρ.2.1 2 (10 + g) then τ.2.2 0 3 g else 0)
def fxN (τ : St) (ρ : St) : Nat → St
  | 0 => ρ
  | n + 1 => fx1 τ (n : Int) (fxN τ ρ n)
theorem fx1_at (τ ρ : St) {g p k : Int} (hg : 0 ≤ g ∧ g < 5) (hp : 0 ≤ p ∧ p < 3) (hk : 0 ≤ k ∧ k < 5) : (fx1 τ g ρ).2.1 2 (5 * p + k) = if k = g then (if ρ.2.1 2 (5 * 0 + g) + ρ.2.1 2 (5 * 1 + g) + ρ.2.1 2 (5 * 2 + g) ≤ τ.2.2 0 3 g then ρ.2.1 2 (5 * p + k) else if ρ.2.1 2 (5 * p + k) = ρ.2.1 2 (5 * 0 + g) + ρ.2.1 2 (5 * 1 + g) + ρ.2.1 2 (5 * 2 + g) then τ.2.2 0 3 g else 0) else ρ.2.1 2 (5 * p + k) := by
  unfold fx1
  have a0 : (5 : Int) * 0 + g = g := by omega
  have a1 : (5 : Int) * 1 + g = 5 + g := by omega
  have a2 : (5 : Int) * 2 + g = 10 + g := by omega
  have a3 : (0 : Int) + g = g := by omega
  rw [a0, a1, a2, a3]
  by_cases e : k = g
  · subst e
    rw [if_pos rfl]
    by_cases h1 : ρ.2.1 2 k + ρ.2.1 2 (5 + k) + ρ.2.1 2 (10 + k) ≤ τ.2.2 0 3 k
    · rw [if_pos h1, if_pos h1]
    · rw [if_neg h1, if_neg h1]
      simp only [sAt_at]
      rcases (show p = 0 ∨ p = 1 ∨ p = 2 from by omega) with rfl | rfl | rfl
      · rw [if_neg (by omega), if_neg (by omega), if_pos (by omega), show (5 : Int) * 0 + k = k by omega]
      · rw [if_neg (by omega), if_pos (by omega), show (5 : Int) * 1 + k = 5 + k by omega]
      · rw [if_pos (by omega), show (5 : Int) * 2 + k = 10 + k by omega]
  · rw [if_neg e]
    split
    · rfl
    · simp only [sAt_at]
      rw [if_neg (by omega), if_neg (by omega), if_neg (by omega)]
theorem fxN_keep (τ ρ : St) {p k : Int} (hp : 0 ≤ p ∧ p < 3) (hk : 0 ≤ k ∧ k < 5) : ∀ n : Nat, (n : Int) ≤ k → (fxN τ ρ n).2.1 2 (5 * p + k) = ρ.2.1 2 (5 * p + k)
  | 0, _ => rfl
  | n + 1, h => by
    simp only [fxN]
    rw [fx1_at τ _ (by omega) hp hk, if_neg (by omega)]
    exact fxN_keep τ ρ hp hk n (by omega)
theorem fxN_at (τ ρ : St) {p k : Int} (hp : 0 ≤ p ∧ p < 3) (hk : 0 ≤ k ∧ k < 5) : ∀ n : Nat, k < n → n ≤ 5 → (fxN τ ρ n).2.1 2 (5 * p + k) = if ρ.2.1 2 (5 * 0 + k) + ρ.2.1 2 (5 * 1 + k) + ρ.2.1 2 (5 * 2 + k) ≤ τ.2.2 0 3 k then ρ.2.1 2 (5 * p + k) else if ρ.2.1 2 (5 * p + k) = ρ.2.1 2 (5 * 0 + k) + ρ.2.1 2 (5 * 1 + k) + ρ.2.1 2 (5 * 2 + k) then τ.2.2 0 3 k else 0
  | 0, h, _ => by omega
  | n + 1, h, hn => by
    simp only [fxN]
    rw [fx1_at τ _ (by omega) hp hk]
    by_cases e : k = (n : Int)
    · rw [if_pos e, fxN_keep τ ρ hp hk n (by omega), ← e, fxN_keep τ ρ (p := 0) (by omega) hk n (by omega), fxN_keep τ ρ (p := 1) (by omega) hk n (by omega), fxN_keep τ ρ (p := 2) (by omega) hk n (by omega)]
    · rw [if_neg e]
      exact fxN_at τ ρ hp hk n (by omega) (by omega)
/-- the reference's row of yields, ready -/
def rkF (τ : St) (u : Int) (ρ : St) : St := fxN τ (rkO τ u (zerN ρ 15) 7) 5
theorem rk_sum {τ : St} {u p g : Int} (hI : Iv τ) (hp : 0 ≤ p ∧ p < 3) (hg : 0 ≤ g ∧ g < 5) (ρ : St) : (rkO τ u (zerN ρ 15) 7).2.1 2 (5 * p + g) = yldN (τ.2.1 0) (τ.2.1 1) (τ.2.1 2) (τ.1 5) p g u 7 := by
  rw [rkO_at hI hp hg _ 7 (by omega), zerN_at _ _ _ (by omega) (by omega)]
  omega
theorem rkF_at {τ : St} {u p g : Int} (hI : Iv τ) (hp : 0 ≤ p ∧ p < 3) (hg : 0 ≤ g ∧ g < 5) (ρ : St) : (rkF τ u ρ).2.1 2 (5 * p + g) = yTo τ p g u := by
  unfold rkF
  rw [fxN_at τ _ hp hg 5 (by omega) (by omega), rk_sum hI hp hg, rk_sum hI (p := 0) (by omega) hg, rk_sum hI (p := 1) (by omega) hg, rk_sum hI (p := 2) (by omega) hg]
  rfl
theorem sAt_s (ρ : St) (k : Nat) (i v : Int) : (sAt ρ k i v).1 = ρ.1 := rfl
theorem zerN_s (ρ : St) : ∀ n : Nat, (zerN ρ n).1 = ρ.1
  | 0 => rfl
  | n + 1 => zerN_s ρ n
theorem rkI_s (τ : St) (u h : Int) (ρ : St) : ∀ n : Nat, (rkI τ u h ρ n).1 = ρ.1
  | 0 => rfl
  | n + 1 => by
    show (rk1 τ u h (n : Int) (rkI τ u h ρ n)).1 = _
    unfold rk1
    split
    · exact rkI_s τ u h ρ n
    · exact rkI_s τ u h ρ n
theorem rkO_s (τ : St) (u : Int) (ρ : St) : ∀ n : Nat, (rkO τ u ρ n).1 = ρ.1
  | 0 => rfl
  | n + 1 => by
    show (rkI τ u (n : Int) (rkO τ u ρ n) 24).1 = _
    rw [rkI_s, rkO_s τ u ρ n]
theorem fxN_s (τ ρ : St) : ∀ n : Nat, (fxN τ ρ n).1 = ρ.1
  | 0 => rfl
  | n + 1 => by
    show (fx1 τ (n : Int) (fxN τ ρ n)).1 = _
    unfold fx1
    split
    · exact fxN_s τ ρ n
    · exact fxN_s τ ρ n
theorem rkF_s (τ : St) (u : Int) (ρ : St) : (rkF τ u ρ).1 = ρ.1 := by
  unfold rkF
  rw [fxN_s, rkO_s, zerN_s]
/-! ===== what all get ===== -/
def yaF (τ : St) (u : Int) : Int → Int → Int := fun p g => if 0 ≤ g ∧ g < 5 then (if 0 ≤ p ∧ p < 3 then τ.2.2 0 p g + yTo τ p g u else if p = 3 then τ.2.2 0 3 g - yTo τ 0 g u - yTo τ 1 g u - yTo τ 2 g u else τ.2.2 0 p g) else τ.2.2 0 p g
def yaS (τ : St) (u : Int) : St := sH τ 0 (yaF τ u)
theorem mvS_h (τ : St) (h : Int → Int → Int) (f t g m : Int) : mvS (sH τ 0 h) f t g m = sH τ 0 (mvF h f t (one1 g m)) := by
  rw [mvS_eq, sH_sH, sH_at]
theorem sH_self (τ : St) (k : Nat) : sH τ k (τ.2.2 k) = τ := by
  unfold sH
  refine Prod.ext rfl (Prod.ext rfl (funext fun j => ?_))
  simp only [sup]
  split
  · next h => rw [h]
  · rfl
def mv3 (h : Int → Int → Int) (p g m : Int) : Int → Int → Int := mvF h 3 p (one1 g m)
theorem mv3_at (h : Int → Int → Int) (p g m i j : Int) : mv3 h p g m i j = h i j + ((if i = p ∧ j = g then m else 0) - (if i = 3 ∧ j = g then m else 0)) := by
  simp only [mv3, mvF, one1]
  by_cases h1 : j = g <;> by_cases h2 : i = p <;> by_cases h3 : i = 3 <;> simp [h1, h2, h3]
theorem mvS_3 (τ : St) (h : Int → Int → Int) (p g m : Int) : mvS (sH τ 0 h) 3 p g m = sH τ 0 (mv3 h p g m) := mvS_h τ h 3 p g m
theorem yTo_c {σ τ : St} {p g u : Int} (h1 : σ.2.1 = τ.2.1) (h2 : σ.1 5 = τ.1 5) (h3 : σ.2.2 0 3 g = τ.2.2 0 3 g) : yTo σ p g u = yTo τ p g u := by
  unfold yTo
  rw [h1, h2, h3]
theorem mvS_far (τ : St) {f t g m q k : Int} (hk : k ≠ g) : (mvS τ f t g m).2.2 0 q k = τ.2.2 0 q k := by
  rw [mvS_eq, sH_at]
  simp only [mvF, one1, if_neg hk]
  (repeat' split) <;> omega
theorem yTo_r {τ : St} {p g u : Int} (hh : 0 ≤ τ.2.2 0 3 g ∧ τ.2.2 0 3 g ≤ 12) : 0 ≤ yTo τ p g u ∧ yTo τ p g u ≤ 84 := by
  have h0 := yldN_r (τ.2.1 0) (τ.2.1 1) (τ.2.1 2) (τ.1 5) p g u 7
  unfold yTo
  (repeat' split) <;> omega
theorem yTo_sum {τ : St} {g u : Int} (hh : 0 ≤ τ.2.2 0 3 g) : yTo τ 0 g u + yTo τ 1 g u + yTo τ 2 g u ≤ τ.2.2 0 3 g := by
  have h0 := yldN_r (τ.2.1 0) (τ.2.1 1) (τ.2.1 2) (τ.1 5) 0 g u 7
  have h1 := yldN_r (τ.2.1 0) (τ.2.1 1) (τ.2.1 2) (τ.1 5) 1 g u 7
  have h2 := yldN_r (τ.2.1 0) (τ.2.1 1) (τ.2.1 2) (τ.1 5) 2 g u 7
  unfold yTo
  (repeat' split) <;> omega
theorem yaF_HH {τ : St} {u : Int} (hI : Iv τ) : HH (yaF τ u) := by
  have y0 : ∀ p g, 0 ≤ yTo τ p g u := fun p g => (yTo_r (hI.hh 3 g)).1
  have ys : ∀ g, yTo τ 0 g u + yTo τ 1 g u + yTo τ 2 g u ≤ τ.2.2 0 3 g := fun g => yTo_sum (hI.hh 3 g).1
  refine ⟨fun p g => ?_, fun g hg => ?_⟩
  · have hp := hI.hh p g
    unfold yaF
    split
    · next hg =>
      have s := hI.hsm g hg
      have a := ys g
      have b0 := y0 0 g
      have b1 := y0 1 g
      have b2 := y0 2 g
      have c0 := hI.hh 0 g
      have c1 := hI.hh 1 g
      have c2 := hI.hh 2 g
      have c3 := hI.hh 3 g
      split
      · next h3 => rcases (show p = 0 ∨ p = 1 ∨ p = 2 from by omega) with rfl | rfl | rfl <;> omega
      · split
        · omega
        · exact hp
    · exact hp
  · have s := hI.hsm g hg
    unfold yaF
    simp [hg]
    omega
def xRoll (τ : St) (a b : Int) : XR := if ¬ ((1 ≤ a ∧ a ≤ 6) ∧ (1 ≤ b ∧ b ≤ 6)) then (1, 0, τ) else if ¬ τ.1 0 = 1 then (2, 0, τ) else if a + b = 7 then (0, (demS (sS τ 3 1)).1 0, demS (sS τ 3 1)) else (0, 2, sS (yaS (sS τ 3 1) (a + b)) 0 2)
theorem yaM_eq (τ : St) (u : Int) : mvS (mvS (mvS (mvS (mvS (mvS (mvS (mvS (mvS (mvS (mvS (mvS (mvS (mvS (mvS (τ) 3 0 0 (yTo τ 0 0 u)) 3 0 1 (yTo τ 0 1 u)) 3 0 2 (yTo τ 0 2 u)) 3 0 3 (yTo τ 0 3 u)) 3 0 4 (yTo τ 0 4 u)) 3 1 0 (yTo τ 1 0 u)) 3 1 1 (yTo τ 1 1 u)) 3 1 2 (yTo τ 1 2 u)) 3 1 3 (yTo τ 1 3 u)) 3 1 4 (yTo τ 1 4 u)) 3 2 0 (yTo τ 2 0 u)) 3 2 1 (yTo τ 2 1 u)) 3 2 2 (yTo τ 2 2 u)) 3 2 3 (yTo τ 2 3 u)) 3 2 4 (yTo τ 2 4 u) = yaS τ u := by
  have e0 : τ = sH τ 0 (τ.2.2 0) := (sH_self τ 0).symm
  have e1 : mvS (mvS (mvS (mvS (mvS (mvS (mvS (mvS (mvS (mvS (mvS (mvS (mvS (mvS (mvS (τ) 3 0 0 (yTo τ 0 0 u)) 3 0 1 (yTo τ 0 1 u)) 3 0 2 (yTo τ 0 2 u)) 3 0 3 (yTo τ 0 3 u)) 3 0 4 (yTo τ 0 4 u)) 3 1 0 (yTo τ 1 0 u)) 3 1 1 (yTo τ 1 1 u)) 3 1 2 (yTo τ 1 2 u)) 3 1 3 (yTo τ 1 3 u)) 3 1 4 (yTo τ 1 4 u)) 3 2 0 (yTo τ 2 0 u)) 3 2 1 (yTo τ 2 1 u)) 3 2 2 (yTo τ 2 2 u)) 3 2 3 (yTo τ 2 3 u)) 3 2 4 (yTo τ 2 4 u) = sH τ 0 (mv3 (mv3 (mv3 (mv3 (mv3 (mv3 (mv3 (mv3 (mv3 (mv3 (mv3 (mv3 (mv3 (mv3 (mv3 (τ.2.2 0) 0 0 (yTo τ 0 0 u)) 0 1 (yTo τ 0 1 u)) 0 2 (yTo τ 0 2 u)) 0 3 (yTo τ 0 3 u)) 0 4 (yTo τ 0 4 u)) 1 0 (yTo τ 1 0 u)) 1 1 (yTo τ 1 1 u)) 1 2 (yTo τ 1 2 u)) 1 3 (yTo τ 1 3 u)) 1 4 (yTo τ 1 4 u)) 2 0 (yTo τ 2 0 u)) 2 1 (yTo τ 2 1 u)) 2 2 (yTo τ 2 2 u)) 2 3 (yTo τ 2 3 u)) 2 4 (yTo τ 2 4 u)) := by
    simp only [← mvS_3, sH_self]
  rw [e1]
  refine congrArg (sH τ 0) (funext fun p => funext fun g => ?_)
  simp only [mv3_at, yaF]
  by_cases hg : 0 ≤ g ∧ g < 5
  · rw [if_pos hg]
    by_cases hp : 0 ≤ p ∧ p < 4
    · rcases (show p = 0 ∨ p = 1 ∨ p = 2 ∨ p = 3 from by omega) with rfl | rfl | rfl | rfl <;> rcases (show g = 0 ∨ g = 1 ∨ g = 2 ∨ g = 3 ∨ g = 4 from by omega) with rfl | rfl | rfl | rfl | rfl <;> simp <;> omega
    · rw [if_neg (by omega), if_neg (by omega)]
      have n0 : ¬ p = 0 := by omega
      have n1 : ¬ p = 1 := by omega
      have n2 : ¬ p = 2 := by omega
      have n3 : ¬ p = 3 := by omega
      simp [n0, n1, n2, n3]
      intros
      omega
  · rw [if_neg hg]
    have n0 : ¬ g = 0 := by omega
    have n1 : ¬ g = 1 := by omega
    have n2 : ¬ g = 2 := by omega
    have n3 : ¬ g = 3 := by omega
    have n4 : ¬ g = 4 := by omega
    simp [n0, n1, n2, n3, n4]
theorem yaG_eq (τ : St) (u : Int) : mvS (mvS (mvS (mvS (mvS (mvS (mvS (mvS (mvS (mvS (mvS (mvS (mvS (mvS (mvS (τ) 3 0 0 (yTo τ 0 0 u)) 3 1 0 (yTo τ 1 0 u)) 3 2 0 (yTo τ 2 0 u)) 3 0 1 (yTo τ 0 1 u)) 3 1 1 (yTo τ 1 1 u)) 3 2 1 (yTo τ 2 1 u)) 3 0 2 (yTo τ 0 2 u)) 3 1 2 (yTo τ 1 2 u)) 3 2 2 (yTo τ 2 2 u)) 3 0 3 (yTo τ 0 3 u)) 3 1 3 (yTo τ 1 3 u)) 3 2 3 (yTo τ 2 3 u)) 3 0 4 (yTo τ 0 4 u)) 3 1 4 (yTo τ 1 4 u)) 3 2 4 (yTo τ 2 4 u) = yaS τ u := by
  have e0 : τ = sH τ 0 (τ.2.2 0) := (sH_self τ 0).symm
  have e1 : mvS (mvS (mvS (mvS (mvS (mvS (mvS (mvS (mvS (mvS (mvS (mvS (mvS (mvS (mvS (τ) 3 0 0 (yTo τ 0 0 u)) 3 1 0 (yTo τ 1 0 u)) 3 2 0 (yTo τ 2 0 u)) 3 0 1 (yTo τ 0 1 u)) 3 1 1 (yTo τ 1 1 u)) 3 2 1 (yTo τ 2 1 u)) 3 0 2 (yTo τ 0 2 u)) 3 1 2 (yTo τ 1 2 u)) 3 2 2 (yTo τ 2 2 u)) 3 0 3 (yTo τ 0 3 u)) 3 1 3 (yTo τ 1 3 u)) 3 2 3 (yTo τ 2 3 u)) 3 0 4 (yTo τ 0 4 u)) 3 1 4 (yTo τ 1 4 u)) 3 2 4 (yTo τ 2 4 u) = sH τ 0 (mv3 (mv3 (mv3 (mv3 (mv3 (mv3 (mv3 (mv3 (mv3 (mv3 (mv3 (mv3 (mv3 (mv3 (mv3 (τ.2.2 0) 0 0 (yTo τ 0 0 u)) 1 0 (yTo τ 1 0 u)) 2 0 (yTo τ 2 0 u)) 0 1 (yTo τ 0 1 u)) 1 1 (yTo τ 1 1 u)) 2 1 (yTo τ 2 1 u)) 0 2 (yTo τ 0 2 u)) 1 2 (yTo τ 1 2 u)) 2 2 (yTo τ 2 2 u)) 0 3 (yTo τ 0 3 u)) 1 3 (yTo τ 1 3 u)) 2 3 (yTo τ 2 3 u)) 0 4 (yTo τ 0 4 u)) 1 4 (yTo τ 1 4 u)) 2 4 (yTo τ 2 4 u)) := by
    simp only [← mvS_3, sH_self]
  rw [e1]
  refine congrArg (sH τ 0) (funext fun p => funext fun g => ?_)
  simp only [mv3_at, yaF]
  by_cases hg : 0 ≤ g ∧ g < 5
  · rw [if_pos hg]
    by_cases hp : 0 ≤ p ∧ p < 4
    · rcases (show p = 0 ∨ p = 1 ∨ p = 2 ∨ p = 3 from by omega) with rfl | rfl | rfl | rfl <;> rcases (show g = 0 ∨ g = 1 ∨ g = 2 ∨ g = 3 ∨ g = 4 from by omega) with rfl | rfl | rfl | rfl | rfl <;> simp <;> omega
    · rw [if_neg (by omega), if_neg (by omega)]
      have n0 : ¬ p = 0 := by omega
      have n1 : ¬ p = 1 := by omega
      have n2 : ¬ p = 2 := by omega
      have n3 : ¬ p = 3 := by omega
      simp [n0, n1, n2, n3]
      intros
      omega
  · rw [if_neg hg]
    have n0 : ¬ g = 0 := by omega
    have n1 : ¬ g = 1 := by omega
    have n2 : ¬ g = 2 := by omega
    have n3 : ¬ g = 3 := by omega
    have n4 : ¬ g = 4 := by omega
    simp [n0, n1, n2, n3, n4]
theorem Iv.roll {τ : St} (h : Iv τ) (h1 : τ.1 0 = 1) : Iv (sS τ 3 1) := Iv.mk h.hb h.hr h.hg h.hn h.h7 h.hh h.hsm h.hcd h.hfr h.hkn h.hbo h.hus (by show (0 : Int) ≤ 1 ∧ (1 : Int) ≤ 1; omega) h.har h.hth h.hph h.htu h.hrb h.hpl h.hdu h.hdp h.hof h.how h.hga h.hwa h.hck h.hkz h.hcb h.hfb (fun e => absurd (show (1 : Int) = 0 from e) (by decide)) (fun e => absurd (h1.symm.trans (show τ.1 0 = 0 from e)) (by decide)) h.hpq h.hrc h.hbc h.hcc h.hac
theorem Iv.roll2 {τ : St} (h : Iv τ) (h1 : τ.1 0 = 1) : Iv (sS (sS τ 3 1) 0 2) := Iv.mk (h.roll h1).hb (h.roll h1).hr (h.roll h1).hg (h.roll h1).hn (h.roll h1).h7 (h.roll h1).hh (h.roll h1).hsm (h.roll h1).hcd (h.roll h1).hfr (h.roll h1).hkn (h.roll h1).hbo (h.roll h1).hus (h.roll h1).hro (h.roll h1).har (h.roll h1).hth (by show (0 : Int) ≤ 2 ∧ (2 : Int) ≤ 5; omega) (h.roll h1).htu (h.roll h1).hrb (h.roll h1).hpl (h.roll h1).hdu (fun _ => h.hdp (by omega)) (h.roll h1).hof (h.roll h1).how (h.roll h1).hga (h.roll h1).hwa (h.roll h1).hck (h.roll h1).hkz (h.roll h1).hcb (h.roll h1).hfb (fun e => absurd (show (1 : Int) = 0 from e) (by decide)) (fun e => absurd (show (2 : Int) = 0 from e) (by decide)) (fun _ => h.hpq (by omega)) (h.roll h1).hrc (h.roll h1).hbc (h.roll h1).hcc (h.roll h1).hac
theorem gvB (X : St) {p g m : Int} (hp : p ≠ 3) : sHt (sHt X 0 p g (X.2.2 0 p g + m)) 0 3 g ((sHt X 0 p g (X.2.2 0 p g + m)).2.2 0 3 g - m) = mvS X 3 p g m := by
  rw [mvS_eq]
  unfold sHt
  rw [sH_sH]
  refine congrArg (sH X 0) (funext fun i => funext fun k => ?_)
  simp only [sH_at, pup2_at, mvF, one1]
  by_cases h1 : i = p <;> by_cases h2 : i = 3 <;> by_cases h3 : k = g <;> simp_all <;> omega
def rRoll (τ ρ : St) (a b : Int) : St := if (xRoll τ a b).1 = 0 ∧ a + b ≠ 7 then rkF (sS (sS τ 3 1) 0 2) (a + b) (sS ρ 0 0) else sS ρ 0 (xRoll τ a b).1
theorem sS_over {Y Z : St} {v : Int} (h2 : Y.2 = Z.2) (h1 : ∀ j, j ≠ 0 → Y.1 j = Z.1 j) : sS Y 0 v = sS Z 0 v := by
  unfold sS
  refine Prod.ext (funext fun j => ?_) h2
  simp only [sup]
  split
  · rfl
  · next h => exact h1 j h
/-! ===== what the second house brings ===== -/
def gnC (τ : St) (c h : Int) : Bool := (decide (τ.2.1 0 h ≠ 5) && arnd h c) && decide (0 < τ.2.2 0 3 (τ.2.1 0 h))
def gn1 (p c h : Int) (τ : St) : St := if gnC τ c h = true then mvS τ 3 p (τ.2.1 0 h) 1 else τ
def gnN (p c : Int) (τ : St) : Nat → St
  | 0 => τ
  | n + 1 => gn1 p c (n : Int) (gnN p c τ n)
def gkN (p c : Int) (τ κ : St) : Nat → St
  | 0 => κ
  | n + 1 => if gnC (gnN p c τ n) c (n : Int) = true then mvK (gkN p c τ κ n) 3 p ((gnN p c τ n).2.1 0 (n : Int)) 1 else gkN p c τ κ n
theorem gnN_s (p c : Int) (τ : St) : ∀ n : Nat, (gnN p c τ n).1 = τ.1
  | 0 => rfl
  | n + 1 => by
    show (gn1 p c (n : Int) (gnN p c τ n)).1 = _
    unfold gn1
    split
    · exact gnN_s p c τ n
    · exact gnN_s p c τ n
theorem gnN_2 (p c : Int) (τ : St) : ∀ n : Nat, (gnN p c τ n).2.1 = τ.2.1
  | 0 => rfl
  | n + 1 => by
    show (gn1 p c (n : Int) (gnN p c τ n)).2.1 = _
    unfold gn1
    split
    · exact gnN_2 p c τ n
    · exact gnN_2 p c τ n
theorem gnN_3 (p c : Int) (τ : St) (j : Nat) (hj : j ≠ 0) : ∀ n : Nat, (gnN p c τ n).2.2 j = τ.2.2 j
  | 0 => rfl
  | n + 1 => by
    show (gn1 p c (n : Int) (gnN p c τ n)).2.2 j = _
    unfold gn1
    split
    · rw [← gnN_3 p c τ j hj n]
      rw [mvS_eq]
      simp [sH, sup, hj]
    · exact gnN_3 p c τ j hj n
theorem gnN_HH {p c : Int} {τ : St} (hp : 0 ≤ p ∧ p < 3) (hg : ∀ h, 0 ≤ τ.2.1 0 h ∧ τ.2.1 0 h ≤ 5) (hH : HH (τ.2.2 0)) : ∀ n : Nat, HH ((gnN p c τ n).2.2 0)
  | 0 => hH
  | n + 1 => by
    have ih := gnN_HH (c := c) hp hg hH n
    show HH ((gn1 p c (n : Int) (gnN p c τ n)).2.2 0)
    unfold gn1
    split
    · next h =>
      simp only [gnC, Bool.and_eq_true, decide_eq_true_eq] at h
      have h5 := h.1.1
      rw [gnN_2] at h5
      have hgn := hg (n : Int)
      refine HH_mvS ih (by omega) (by omega) ?_ (by omega)
      rw [gnN_2]
      omega
    · exact ih
def rWould (τ ρ : St) (p g u : Int) : St := if (xWould τ p g u).1 = 0 then rkF τ u (sS ρ 0 0) else sS ρ 0 (xWould τ p g u).1
def ygN (τ : St) (u : Int) : Nat → St
  | 0 => τ
  | n + 1 => mvS (mvS (mvS (ygN τ u n) 3 0 (n : Int) (yTo τ 0 (n : Int) u)) 3 1 (n : Int) (yTo τ 1 (n : Int) u)) 3 2 (n : Int) (yTo τ 2 (n : Int) u)
def ykN (τ κ : St) (u : Int) : Nat → St
  | 0 => κ
  | n + 1 => mvK (mvK (mvK (sAt (sAt (sAt (ykN τ κ u n) 2 0 (yTo τ 0 (n : Int) u)) 2 1 (yTo τ 1 (n : Int) u)) 2 2 (yTo τ 2 (n : Int) u)) 3 0 (n : Int) (yTo τ 0 (n : Int) u)) 3 1 (n : Int) (yTo τ 1 (n : Int) u)) 3 2 (n : Int) (yTo τ 2 (n : Int) u)
def yaK (τ κ : St) (u : Int) : St := ykN τ κ u 5
theorem ygN_s (τ : St) (u : Int) : ∀ n : Nat, (ygN τ u n).1 = τ.1
  | 0 => rfl
  | n + 1 => ygN_s τ u n
theorem ygN_2 (τ : St) (u : Int) : ∀ n : Nat, (ygN τ u n).2.1 = τ.2.1
  | 0 => rfl
  | n + 1 => ygN_2 τ u n
theorem ygN_far (τ : St) (u : Int) {q k : Int} : ∀ n : Nat, (n : Int) ≤ k → (ygN τ u n).2.2 0 q k = τ.2.2 0 q k
  | 0, _ => rfl
  | n + 1, h => by
    simp only [ygN]
    rw [mvS_far _ (by omega), mvS_far _ (by omega), mvS_far _ (by omega)]
    exact ygN_far τ u n (by omega)
theorem yg_all (τ : St) (u : Int) : ygN τ u 5 = yaS τ u := yaG_eq τ u
def kRoll (κ τ : St) (a b : Int) : St := if (xRoll τ a b).1 = 0 ∧ a + b ≠ 7 then yaK (sS τ 3 1) κ (a + b) else κ
