/-! ===== cards and offers, in numbers ===== -/
theorem pup_b {f : Int → Int} {a b k v : Int} (hf : ∀ i, a ≤ f i ∧ f i ≤ b) (hv : a ≤ v ∧ v ≤ b) : ∀ i, a ≤ pup f k v i ∧ pup f k v i ≤ b := by
  intro i
  unfold pup
  split
  · exact hv
  · exact hf i
theorem ordF_r (i : Int) : 0 ≤ ordF i ∧ ordF i < 5 := by unfold ordF; (repeat' split) <;> omega
def gvS (τ : St) (p : Int) : St := sAt (sHt (sS τ 6 (τ.1 6 + 1)) 1 p (ordF (τ.1 6)) (τ.2.2 1 p (ordF (τ.1 6)) + 1)) 5 (ordF (τ.1 6)) (τ.2.1 5 (ordF (τ.1 6)) + 1)
def canU (τ : St) (p k : Int) : Bool := decide (τ.1 7 = 0) && decide (τ.2.1 5 k < τ.2.2 1 p k)
def armS (τ : St) (p : Int) : St := if (if τ.1 8 = -1 then 3 else τ.2.1 6 (τ.1 8) + 1) ≤ τ.2.1 6 p then sS τ 8 p else τ
def usS (τ : St) (p k : Int) : St := if k = 0 then armS (sAt (sS (sHt τ 1 p k (τ.2.2 1 p k - 1)) 7 1) 6 p (τ.2.1 6 p + 1)) p else sS (sHt τ 1 p k (τ.2.2 1 p k - 1)) 7 1
def strt (τ : St) : St := sAt (sAt (sAt (sAt (sAt (sS τ 7 0) 5 0 0) 5 1 0) 5 2 0) 5 3 0) 5 4 0
def ofS (τ : St) (g w : Int) : St := sAt (sAt (sAt (sAt (sAt (sAt (sS (sS τ 9 g) 10 w) 7 0 0) 8 0 0) 7 1 0) 8 1 0) 7 2 0) 8 2 0
