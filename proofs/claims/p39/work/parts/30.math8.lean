/-! ===== the robber's victims, two ways ===== -/
def wt1 (b : Int → Int) (p x : Int) : Int := if b x = p then 1 else if b x = 3 + p then 2 else 0
theorem wt1_iff {b : Int → Int} {p x : Int} (hp : 0 ≤ p ∧ p < 3) (hb : -1 ≤ b x ∧ b x ≤ 5) : 0 ≤ wt1 b p x ∧ (0 < wt1 b p x ↔ ownB (b x) = p) := by
  unfold wt1 ownB
  (repeat' split) <;> omega
theorem wt_sum (b : Int → Int) (p h : Int) : wt b p h = wt1 b p (hexC h 0) + wt1 b p (hexC h 1) + wt1 b p (hexC h 2) + wt1 b p (hexC h 3) + wt1 b p (hexC h 4) + wt1 b p (hexC h 5) := by
  simp only [wt, wtN, wt1]
  simp
def vicN (b : Int → Int) (p h : Int) (n : Nat) : Bool := anyN (fun c => arnd h c && decide (ownB (b c) = p)) n
theorem vic_eq {b : Int → Int} {p h : Int} (hp : 0 ≤ p ∧ p < 3) (hh : 0 ≤ h ∧ h < 7) (hb : ∀ c, -1 ≤ b c ∧ b c ≤ 5) : vicN b p h 24 = decide (0 < wt b p h) := by
  have e : vicN b p h 24 = true ↔ (ownB (b (hexC h 0)) = p ∨ ownB (b (hexC h 1)) = p ∨ ownB (b (hexC h 2)) = p ∨ ownB (b (hexC h 3)) = p ∨ ownB (b (hexC h 4)) = p ∨ ownB (b (hexC h 5)) = p) := by
    rcases (show h = 0 ∨ h = 1 ∨ h = 2 ∨ h = 3 ∨ h = 4 ∨ h = 5 ∨ h = 6 from by omega) with rfl | rfl | rfl | rfl | rfl | rfl | rfl <;> (simp [vicN, anyN, arnd, hexC]; try (constructor <;> intro h <;> omega))
  have w0 := wt1_iff hp (hb (hexC h 0))
  have w1 := wt1_iff hp (hb (hexC h 1))
  have w2 := wt1_iff hp (hb (hexC h 2))
  have w3 := wt1_iff hp (hb (hexC h 3))
  have w4 := wt1_iff hp (hb (hexC h 4))
  have w5 := wt1_iff hp (hb (hexC h 5))
  have w := wt_sum b p h
  rw [Bool.eq_iff_iff, e, decide_eq_true_eq]
  omega
def arC (h v d : Int) : Int := if ¬ ((0 ≤ h ∧ h < 7) ∧ (v = -1 ∨ (0 ≤ v ∧ v < 3))) then 1 else if ¬ (0 ≤ d ∧ d ≤ 999) then 2 else 0
def mayU (τ : St) (k : Int) : Bool := (decide (τ.1 0 = 1) || decide (τ.1 0 = 2)) && canU τ (τ.1 1) k
def kndF (i : Int) : Int := ordF i
