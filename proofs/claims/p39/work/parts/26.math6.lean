/-! ===== the reference's own ways of asking ===== -/
theorem bI_t : bI true = 1 := rfl
theorem bI_f : bI false = 0 := rfl
theorem bIe1 {b : Bool} (h : bI b = 1) : b = true := by cases b <;> simp_all [bI]
theorem bIn1 {b : Bool} (h : ¬ bI b = 1) : b = false := by cases b <;> simp_all [bI]
def arnd (h c : Int) : Bool := anyN (fun i => decide (hexC h i = c)) 6
def roadBut (r : Int → Int) (p c but : Int) : Bool := anyN (fun e => decide (e ≠ but) && (decide (r e = p) && isE e c)) 30
theorem anyN_congr {p q : Int → Bool} : ∀ {n : Nat}, (∀ i : Nat, i < n → p (i : Int) = q (i : Int)) → anyN p n = anyN q n
  | 0, _ => rfl
  | n + 1, h => by
    simp only [anyN]
    rw [anyN_congr (fun i hi => h i (by omega)), h n (by omega)]
theorem roadBut_eq {r : Int → Int} {p c but : Int} (h : (but < 0 ∨ 30 ≤ but) ∨ r but ≠ p) : roadBut r p c but = roadAtC r p c := by
  refine anyN_congr (fun i hi => ?_)
  by_cases e : (i : Int) = but
  · subst e
    have h2 : r (i : Int) ≠ p := by
      rcases h with h | h
      · omega
      · exact h
    simp [h2]
  · simp [e]
