/-! ===== what holds at the start ===== -/
theorem cnt_no {f : Int → Int} {b : Int} (h : ∀ i, f i ≠ b) : ∀ n : Nat, cntN f b n = 0
  | 0 => rfl
  | n + 1 => by
    have ih := cnt_no h n
    unfold cntN
    rw [if_neg (h _), ih]
    rfl
theorem hg0_r (h : Int) : 0 ≤ hg0 h ∧ hg0 h ≤ 5 := by unfold hg0; (repeat' split) <;> omega
theorem hn0_r (h : Int) : 2 ≤ hn0 h ∧ hn0 h ≤ 12 := by unfold hn0; (repeat' split) <;> omega
theorem hn0_7 (h : Int) : hn0 h = 7 ↔ hg0 h = 5 := by unfold hn0 hg0; (repeat' split) <;> omega
theorem ban0_r (p g : Int) : 0 ≤ ban0 p g ∧ ban0 p g ≤ 12 := by unfold ban0; split <;> omega
theorem no_b (p : Int) (hp : 0 ≤ p) : ∀ n : Nat, cntN (fun _ => -1) p n = 0 := cnt_no (fun i => by omega)
theorem I_start : Iv τ0 := by
  refine ⟨fun c => (show (-1 : Int) ≤ -1 ∧ (-1 : Int) ≤ 5 from by decide), fun e => (show (-1 : Int) ≤ -1 ∧ (-1 : Int) ≤ 2 from by decide), hg0_r, hn0_r, hn0_7, ban0_r, fun g _ => rfl, fun p k => (show (0 : Int) ≤ 0 ∧ (0 : Int) ≤ 15 from by decide), fun k => (show (0 : Int) ≤ 0 ∧ (0 : Int) ≤ 15 from by decide), fun p => (show (0 : Int) ≤ 0 ∧ (0 : Int) ≤ 15 from by decide), by decide, by decide, by decide, by decide, by decide, by decide, by decide, by decide, by decide, fun p => (show (0 : Int) ≤ 0 ∧ (0 : Int) ≤ 30 from by decide), fun _ p => rfl, by decide, by decide, fun p => (show (0 : Int) ≤ 0 ∧ (0 : Int) ≤ 99999 from by decide), fun p => (show (0 : Int) ≤ 0 ∧ (0 : Int) ≤ 99999 from by decide), by decide, fun p _ => rfl, fun p k => (show (0 : Int) ≤ 0 from by decide), fun k => (show (0 : Int) ≤ 0 from by decide), fun _ => (by decide), fun _ => ⟨by decide, by decide, fun p hp => ?_, rfl⟩, fun h => absurd rfl h, fun p hp => ?_, fun p hp => ?_, fun p hp => ?_, fun h => absurd rfl h⟩
  · have h2 : plc (τ0.1 2) p = 0 := by
      show plc 0 p = 0
      unfold plc
      rw [if_neg (by omega), if_neg (by omega)]
      rfl
    rw [h2]
    exact ⟨no_b p hp.1 24, no_b (3 + p) (by omega) 24, no_b p hp.1 30⟩
  · rw [show cntN (τ0.2.1 3) p 30 = 0 from no_b p hp.1 30]
    decide
  · rw [show cntN (τ0.2.1 2) p 24 = 0 from no_b p hp.1 24]
    decide
  · rw [show cntN (τ0.2.1 2) (3 + p) 24 = 0 from no_b (3 + p) (by omega) 24]
    decide
theorem H_start : hoF (trT τ0) (τ0.1 4) = τ0.1 4 := by decide +kernel
theorem J_start : Jv τ0 κ0 := by
  refine ⟨I_start, H_start, fun i => (show (0 : Int) ≤ 0 ∧ (0 : Int) ≤ 63 from by decide), fun i => (show (0 : Int) ≤ 0 ∧ (0 : Int) ≤ 63 from by decide), fun p g hp hg => ?_, fun p _ => rfl⟩
  show cbm (fun _ _ => 0) p g = ban0 p g
  unfold cbm ban0
  split <;> rfl
