/-! ===== the reference's ways, turned to the class's ===== -/
theorem sS_self (τ : St) (k : Nat) : sS τ k (τ.1 k) = τ := by
  unfold sS
  refine Prod.ext (funext fun j => ?_) rfl
  simp only [sup]
  split
  · next h => rw [h]
  · rfl
theorem pup_ge {f : Int → Int} {p v : Int} (h : f p ≤ v) : ∀ i, f i ≤ pup f p v i := by
  intro i
  unfold pup
  split
  · next e => rw [e]; exact h
  · exact Int.le_refl _
theorem arm_is {X : St} {p : Int} (h : (if X.1 8 = -1 then 3 else X.2.1 6 (X.1 8) + 1) ≤ X.2.1 6 p) : sS X 8 p = armS X p := by
  unfold armS
  rw [if_pos h]
theorem arm_not {X : St} {p : Int} (h : ¬ (if X.1 8 = -1 then 3 else X.2.1 6 (X.1 8) + 1) ≤ X.2.1 6 p) : sS X 8 (X.1 8) = armS X p := by
  unfold armS
  rw [if_neg h, sS_self]
theorem arC_0 {h v d : Int} (q : arC h v d = 0) : ((0 ≤ h ∧ h < 7) ∧ (v = -1 ∨ (0 ≤ v ∧ v < 3))) ∧ 0 ≤ d ∧ d ≤ 999 := by
  unfold arC at q
  split at q
  · omega
  · next h1 =>
    split at q
    · omega
    · next h2 => exact ⟨Decidable.not_not.mp h1, Decidable.not_not.mp h2⟩
theorem arC_1 {h v d : Int} (q : ((0 ≤ h ∧ h < 7) ∧ (v = -1 ∨ (0 ≤ v ∧ v < 3))) ∧ 0 ≤ d ∧ d ≤ 999) : arC h v d = 0 := by
  unfold arC
  rw [if_neg (fun hn => hn q.1), if_neg (fun hn => hn q.2)]
theorem mayR_tot {τ : St} {h v : Int} (q : mayR τ h v = true) (hv : v ≠ -1) : 0 < tot (τ.2.2 0) v := by
  simp only [mayR, if_neg hv, canB, Bool.and_eq_true, decide_eq_true_eq] at q
  exact q.2.2
theorem mayU_canU {τ : St} {k : Int} (q : mayU τ k = true) : canU τ (τ.1 1) k = true := by
  simp only [mayU, Bool.and_eq_true] at q
  exact q.2
theorem has_two {h : Int → Int → Int} {p a b : Int} (hh : ∀ g, 0 ≤ h p g) (ha : 0 ≤ a ∧ a < 5) (hb : 0 ≤ b ∧ b < 5) : hasG h p (sgl a + sgl b) = true ↔ ((if a = b then 1 else 0) < h p a ∧ 0 < h p b) := by
  have h0 := hh 0
  have h1 := hh 1
  have h2 := hh 2
  have h3 := hh 3
  have h4 := hh 4
  rcases (show a = 0 ∨ a = 1 ∨ a = 2 ∨ a = 3 ∨ a = 4 from by omega) with rfl | rfl | rfl | rfl | rfl <;> rcases (show b = 0 ∨ b = 1 ∨ b = 2 ∨ b = 3 ∨ b = 4 from by omega) with rfl | rfl | rfl | rfl | rfl <;> simp [hasG, dgt, sgl] <;> omega
theorem two_mvA {τ : St} {f t a b : Int} (ha : 0 ≤ a ∧ a < 5) (hb : 0 ≤ b ∧ b < 5) : mvS (mvS τ f t a 1) f t b 1 = mvA τ f t (sgl a + sgl b) := by
  simp only [mvS_eq, mvA_eq, sH_sH, sH_at, mvF_mvF]
  refine congrArg (sH τ 0) (congrArg (mvF (τ.2.2 0) f t) (funext fun k => ?_))
  simp only [one1, dgs]
  by_cases h : 0 ≤ k ∧ k < 5
  · rw [if_pos h]
    rcases (show a = 0 ∨ a = 1 ∨ a = 2 ∨ a = 3 ∨ a = 4 from by omega) with rfl | rfl | rfl | rfl | rfl <;> rcases (show b = 0 ∨ b = 1 ∨ b = 2 ∨ b = 3 ∨ b = 4 from by omega) with rfl | rfl | rfl | rfl | rfl <;> rcases (show k = 0 ∨ k = 1 ∨ k = 2 ∨ k = 3 ∨ k = 4 from by omega) with rfl | rfl | rfl | rfl | rfl <;> simp [dgt, sgl]
  · rw [if_neg h]
    (repeat' split) <;> omega
theorem of_set (τ : St) (a b : Int) : sS (sS (ofS τ 0 0) 9 a) 10 b = ofS τ a b := by
  unfold ofS sAt sA sS
  refine Prod.ext (funext fun j => ?_) rfl
  simp only [sup]
  (repeat' split) <;> first | rfl | omega
/-- the dearest rate by harbours, as the reference asks for it -/
def rt6 (b : Int → Int) (p g : Int) : Nat → Int
  | 0 => 4
  | k + 1 => if (if ownB (b (7 + 3 * (k : Int))) = p ∨ ownB (b (8 + 3 * (k : Int))) = p then (if (k : Int) = 5 then 3 else if (k : Int) = g then 2 else 4) else 4) < rt6 b p g k then (if ownB (b (7 + 3 * (k : Int))) = p ∨ ownB (b (8 + 3 * (k : Int))) = p then (if (k : Int) = 5 then 3 else if (k : Int) = g then 2 else 4) else 4) else rt6 b p g k
theorem rt6_r (b : Int → Int) (p g : Int) : ∀ k : Nat, 2 ≤ rt6 b p g k ∧ rt6 b p g k ≤ 4
  | 0 => by simp [rt6]
  | k + 1 => by
    have := rt6_r b p g k
    simp only [rt6]
    (repeat' split) <;> omega
theorem rt_lo (b : Int → Int) (p g : Int) : ∀ n : Nat, n ≤ 7 → rtN b p g n = 4
  | 0, _ => rfl
  | n + 1, h => by
    have := rt_lo b p g n (by omega)
    have e : rtA (n : Int) g = 4 := by
      unfold rtA
      rw [if_pos (by omega)]
    simp only [rtN]
    rw [e, this]
    (repeat' split) <;> omega
theorem rt_step (b : Int → Int) (p g : Int) (n : Nat) : rtN b p g (n + 1) = if ownB (b (n : Int)) = p ∧ rtA (n : Int) g < rtN b p g n then rtA (n : Int) g else rtN b p g n := by
  simp only [rtN]
  (repeat' split) <;> first | rfl | omega
theorem rt6_eq (b : Int → Int) (p g : Int) : ∀ k : Nat, rt6 b p g k = rtN b p g (7 + 3 * k)
  | 0 => (rt_lo b p g 7 (by omega)).symm
  | k + 1 => by
    have ih := rt6_eq b p g k
    have r0 := rtN_r b p g (7 + 3 * k)
    rw [show 7 + 3 * (k + 1) = (7 + 3 * k) + 1 + 1 + 1 by omega, rt_step, rt_step, rt_step]
    simp only [rt6]
    rw [ih]
    have a0 : rtA ((7 + 3 * k : Nat) : Int) g = if (k : Int) = 5 then 3 else if (k : Int) = g then 2 else 4 := by
      unfold rtA
      rw [if_neg (by omega), if_neg (by omega), show (((7 + 3 * k : Nat) : Int) - 7) / 3 = k by omega]
    have a1 : rtA ((7 + 3 * k + 1 : Nat) : Int) g = if (k : Int) = 5 then 3 else if (k : Int) = g then 2 else 4 := by
      unfold rtA
      rw [if_neg (by omega), if_neg (by omega), show (((7 + 3 * k + 1 : Nat) : Int) - 7) / 3 = k by omega]
    have a2 : rtA ((7 + 3 * k + 1 + 1 : Nat) : Int) g = 4 := by
      unfold rtA
      rw [if_neg (by omega), if_pos (by omega)]
    rw [a0, a1, a2]
    rw [show ((7 + 3 * k : Nat) : Int) = 7 + 3 * (k : Int) by omega, show ((7 + 3 * k + 1 : Nat) : Int) = 8 + 3 * (k : Int) by omega]
    by_cases c1 : ownB (b (7 + 3 * (k : Int))) = p <;> by_cases c2 : ownB (b (8 + 3 * (k : Int))) = p <;> simp only [c1, c2, true_and, false_and, true_or, or_true, or_self, if_true, if_false] <;> (repeat' split) <;> omega
theorem rt6_24 (b : Int → Int) (p g : Int) : rt6 b p g 6 = rtN b p g 24 := by
  rw [rt6_eq, show 7 + 3 * 6 = 24 + 1 by omega, rt_step]
  have a2 : rtA ((24 : Nat) : Int) g = 4 := by
    unfold rtA
    rw [if_neg (by omega), if_pos (by omega)]
  have r0 := rtN_r b p g 24
  rw [a2]
  split <;> omega
