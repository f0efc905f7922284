/-! ===== goods, in numbers ===== -/
def rtA (c g : Int) : Int := if c < 7 then 4 else if (c - 7) % 3 = 2 then 4 else if (c - 7) / 3 = 5 then 3 else if (c - 7) / 3 = g then 2 else 4
theorem rtA_r (c g : Int) : 2 ≤ rtA c g ∧ rtA c g ≤ 4 := by unfold rtA; (repeat' split) <;> omega
def dgt (n g : Int) : Int := if g = 0 then n % 10 else if g = 1 then n / 10 % 10 else if g = 2 then n / 100 % 10 else if g = 3 then n / 1000 % 10 else n / 10000 % 10
theorem dgt_r (n g : Int) : 0 ≤ dgt n g ∧ dgt n g ≤ 9 := by unfold dgt; (repeat' split) <;> omega
def sgl (g : Int) : Int := if g = 0 then 1 else if g = 1 then 10 else if g = 2 then 100 else if g = 3 then 1000 else 10000
def szG (n : Int) : Int := dgt n 0 + dgt n 1 + dgt n 2 + dgt n 3 + dgt n 4
def tot (h : Int → Int → Int) (p : Int) : Int := h p 0 + h p 1 + h p 2 + h p 3 + h p 4
def hasG (h : Int → Int → Int) (p n : Int) : Bool := decide (dgt n 0 ≤ h p 0) && decide (dgt n 1 ≤ h p 1) && decide (dgt n 2 ≤ h p 2) && decide (dgt n 3 ≤ h p 3) && decide (dgt n 4 ≤ h p 4)
def mvS (τ : St) (f t g m : Int) : St := sHt (sHt τ 0 f g (τ.2.2 0 f g - m)) 0 t g ((sHt τ 0 f g (τ.2.2 0 f g - m)).2.2 0 t g + m)
def mvK (κ : St) (f t g m : Int) : St := sHt κ 0 (f * 4 + t) g (κ.2.2 0 (f * 4 + t) g + m)
def mvA (τ : St) (f t n : Int) : St := mvS (mvS (mvS (mvS (mvS τ f t 0 (dgt n 0)) f t 1 (dgt n 1)) f t 2 (dgt n 2)) f t 3 (dgt n 3)) f t 4 (dgt n 4)
def mvAK (κ : St) (f t n : Int) : St := mvK (mvK (mvK (mvK (mvK κ f t 0 (dgt n 0)) f t 1 (dgt n 1)) f t 2 (dgt n 2)) f t 3 (dgt n 3)) f t 4 (dgt n 4)
def cbm (m : Int → Int → Int) (p g : Int) : Int := (if p = 3 then 12 else 0) + m (0 * 4 + p) g - m (p * 4 + 0) g + m (1 * 4 + p) g - m (p * 4 + 1) g + m (2 * 4 + p) g - m (p * 4 + 2) g + m (3 * 4 + p) g - m (p * 4 + 3) g
def drw (h : Int → Int → Int) (v d : Int) : Int := if v = -1 ∨ tot h v ≤ 0 then -1 else if d % tot h v < h v 0 then 0 else if d % tot h v < h v 0 + h v 1 then 1 else if d % tot h v < h v 0 + h v 1 + h v 2 then 2 else if d % tot h v < h v 0 + h v 1 + h v 2 + h v 3 then 3 else 4
theorem wtN_r (b : Int → Int) (p h : Int) : ∀ n : Nat, 0 ≤ wtN b p h n ∧ wtN b p h n ≤ 2 * n
  | 0 => by simp [wtN]
  | n + 1 => by
    have := wtN_r b p h n
    simp only [wtN]
    (repeat' split) <;> omega
theorem wt_r (b : Int → Int) (p h : Int) : 0 ≤ wt b p h ∧ wt b p h ≤ 12 := by
  have := wtN_r b p h 6
  unfold wt
  omega
theorem yldN_r (hg hn b : Int → Int) (rob p g sum : Int) : ∀ n : Nat, 0 ≤ yldN hg hn b rob p g sum n ∧ yldN hg hn b rob p g sum n ≤ 12 * n
  | 0 => by simp [yldN]
  | n + 1 => by
    have := yldN_r hg hn b rob p g sum n
    have := wt_r b p n
    simp only [yldN]
    (repeat' split) <;> omega
theorem szG_r (n : Int) : 0 ≤ szG n ∧ szG n ≤ 45 := by
  have h0 := dgt_r n 0
  have h1 := dgt_r n 1
  have h2 := dgt_r n 2
  have h3 := dgt_r n 3
  have h4 := dgt_r n 4
  unfold szG
  omega
theorem tot_r {h : Int → Int → Int} (hh : ∀ p g, 0 ≤ h p g ∧ h p g ≤ 12) (p : Int) : 0 ≤ tot h p ∧ tot h p ≤ 60 := by
  have h0 := hh p 0
  have h1 := hh p 1
  have h2 := hh p 2
  have h3 := hh p 3
  have h4 := hh p 4
  unfold tot
  omega
