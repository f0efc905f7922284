/-! ===== the course of the game, in numbers ===== -/
def ptsF (τ : St) (p : Int) : Int := cntN (τ.2.1 2) p 24 + 2 * cntN (τ.2.1 2) (3 + p) 24 + τ.2.2 1 p 4 + (if p = τ.1 4 then 2 else 0) + (if p = τ.1 8 then 2 else 0)
def winS (τ : St) : St := if τ.1 0 ≠ 0 ∧ 8 ≤ ptsF τ (τ.1 1) then sS τ 0 5 else τ
def anyDue (d : Int → Int) : Bool := decide (0 < d 0) || decide (0 < d 1) || decide (0 < d 2)
def yTo (τ : St) (p g u : Int) : Int := if yldN (τ.2.1 0) (τ.2.1 1) (τ.2.1 2) (τ.1 5) 0 g u 7 + yldN (τ.2.1 0) (τ.2.1 1) (τ.2.1 2) (τ.1 5) 1 g u 7 + yldN (τ.2.1 0) (τ.2.1 1) (τ.2.1 2) (τ.1 5) 2 g u 7 ≤ τ.2.2 0 3 g then yldN (τ.2.1 0) (τ.2.1 1) (τ.2.1 2) (τ.1 5) p g u 7 else if yldN (τ.2.1 0) (τ.2.1 1) (τ.2.1 2) (τ.1 5) p g u 7 = yldN (τ.2.1 0) (τ.2.1 1) (τ.2.1 2) (τ.1 5) 0 g u 7 + yldN (τ.2.1 0) (τ.2.1 1) (τ.2.1 2) (τ.1 5) 1 g u 7 + yldN (τ.2.1 0) (τ.2.1 1) (τ.2.1 2) (τ.1 5) 2 g u 7 then τ.2.2 0 3 g else 0
def half (t : Int) : Int := if 7 < t then t / 2 else 0
def demS (τ : St) : St := sS (sAt (sAt (sAt τ 4 0 (half (tot (τ.2.2 0) 0))) 4 1 (half (tot (τ.2.2 0) 1))) 4 2 (half (tot (τ.2.2 0) 2))) 0 (if anyDue ((sAt (sAt (sAt τ 4 0 (half (tot (τ.2.2 0) 0))) 4 1 (half (tot (τ.2.2 0) 1))) 4 2 (half (tot (τ.2.2 0) 2))).2.1 4) = true then 3 else 4)
theorem half_r {t : Int} (h : 0 ≤ t ∧ t ≤ 60) : 0 ≤ half t ∧ half t ≤ 30 := by unfold half; split <;> omega
def canB (τ : St) (p h : Int) : Bool := decide (p ≠ τ.1 1) && decide (0 < wt (τ.2.1 2) p h) && decide (0 < tot (τ.2.2 0) p)
def mayR (τ : St) (h v : Int) : Bool := decide (h ≠ τ.1 5) && (if v = -1 then !canB τ 0 h && !canB τ 1 h && !canB τ 2 h else canB τ v h)
def canR (τ : St) (e : Int) : Bool := decide (cntN (τ.2.1 3) (τ.1 1) 30 < 8) && roadC (τ.2.1 2) (τ.2.1 3) e (τ.1 1)
def gopS (τ : St) : St := if 6 ≤ τ.1 2 then sS (sS τ 1 0) 0 1 else sS τ 1 (if τ.1 2 < 3 then τ.1 2 else 5 - τ.1 2)
def robS (τ : St) (h v d : Int) : St := if drw (τ.2.2 0) v d = -1 then sS τ 5 h else mvS (sS τ 5 h) v (τ.1 1) (drw (τ.2.2 0) v d) 1
def robK (τ κ : St) (v d : Int) : St := if drw (τ.2.2 0) v d = -1 then κ else mvK κ v (τ.1 1) (drw (τ.2.2 0) v d) 1
def excS (τ : St) (p g w : Int) : St := ofS (mvA (mvA τ p (τ.1 1) g) (τ.1 1) p w) 0 0
def excK (τ κ : St) (p g w : Int) : St := mvAK (mvAK κ p (τ.1 1) g) (τ.1 1) p w
def rtN (b : Int → Int) (p g : Int) : Nat → Int
  | 0 => 4
  | n + 1 => if ownB (b (n : Int)) = p then (if rtA (n : Int) g < rtN b p g n then rtA (n : Int) g else rtN b p g n) else rtN b p g n
theorem rtN_r (b : Int → Int) (p g : Int) : ∀ n : Nat, 2 ≤ rtN b p g n ∧ rtN b p g n ≤ 4
  | 0 => by simp [rtN]
  | n + 1 => by
    have := rtN_r b p g n
    have := rtA_r (n : Int) g
    simp only [rtN]
    (repeat' split) <;> omega
theorem drw_r (h : Int → Int → Int) (v d : Int) : -1 ≤ drw h v d ∧ drw h v d ≤ 4 := by unfold drw; (repeat' split) <;> omega
theorem ptsF_r {τ : St} (p : Int) (h : 0 ≤ τ.2.2 1 p 4 ∧ τ.2.2 1 p 4 ≤ 15) : 0 ≤ ptsF τ p ∧ ptsF τ p ≤ 100 := by
  have h1 := cntN_r (τ.2.1 2) p 24
  have h2 := cntN_r (τ.2.1 2) (3 + p) 24
  unfold ptsF
  (repeat' split) <;> omega
