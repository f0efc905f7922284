theorem sr_asksRob_t (τ ρ : St) {h v d : Int} (hh : -2147483648 ≤ h ∧ h ≤ 2147483647) (hv : -2147483648 ≤ v ∧ v ≤ 2147483647) (hd : -2147483648 ≤ d ∧ d ≤ 2147483647) (q : arC h v d = 0) : Sp mX6_asksRob roC 1 [vR 100, vI h, vI v, vI d] (mW τ ρ) (.inl (some (vI 1))) (mW τ (sS ρ 0 0)) := by
  have := sr_asksRob τ ρ hh hv hd
  rw [q] at this
  exact this
theorem sr_asksRob_f (τ ρ : St) {h v d : Int} (hh : -2147483648 ≤ h ∧ h ≤ 2147483647) (hv : -2147483648 ≤ v ∧ v ≤ 2147483647) (hd : -2147483648 ≤ d ∧ d ≤ 2147483647) (q : ¬ arC h v d = 0) : Sp mX6_asksRob roC 1 [vR 100, vI h, vI v, vI d] (mW τ ρ) (.inl (some (vI 0))) (mW τ (sS ρ 0 (arC h v d))) := by
  have := sr_asksRob τ ρ hh hv hd
  rw [decide_eq_false q] at this
  exact this
theorem sr_kindOf_0 (ro : PRO) (w : PW)  : Sp mX6_kindOf ro 0 [vI 0] (w) (.inl (some (vI (ordF 0)))) (w) := by
  refine Sp.of (lk := lkX6) (tb := bX6_kindOf) (by decide) lkX6_ok tX6_kindOf rfl (Nat.le_of_ble_eq_true rfl) (fun G hR => ?_)
  refine hR.run1 3 (S' := (81, [some (vI 0)], [vI 0], w)) rfl (by first | omega | (dsimp only; omega) | (simp [sHt, sH, sS, sAt, sA, sup]; done) | (simp [sHt, sH, sS, sAt, sA, sup]; omega)) ?_
  exact hR.rt rfl trivial rfl rfl
theorem sr_kindOf_1 (ro : PRO) (w : PW)  : Sp mX6_kindOf ro 0 [vI 1] (w) (.inl (some (vI (ordF 1)))) (w) := by
  refine Sp.of (lk := lkX6) (tb := bX6_kindOf) (by decide) lkX6_ok tX6_kindOf rfl (Nat.le_of_ble_eq_true rfl) (fun G hR => ?_)
  refine hR.run1 3 (S' := (73, [some (vI 1)], [vI 4], w)) rfl (by first | omega | (dsimp only; omega) | (simp [sHt, sH, sS, sAt, sA, sup]; done) | (simp [sHt, sH, sS, sAt, sA, sup]; omega)) ?_
  exact hR.rt rfl trivial rfl rfl
theorem sr_kindOf_2 (ro : PRO) (w : PW)  : Sp mX6_kindOf ro 0 [vI 2] (w) (.inl (some (vI (ordF 2)))) (w) := by
  refine Sp.of (lk := lkX6) (tb := bX6_kindOf) (by decide) lkX6_ok tX6_kindOf rfl (Nat.le_of_ble_eq_true rfl) (fun G hR => ?_)
  refine hR.run1 3 (S' := (75, [some (vI 2)], [vI 1], w)) rfl (by first | omega | (dsimp only; omega) | (simp [sHt, sH, sS, sAt, sA, sup]; done) | (simp [sHt, sH, sS, sAt, sA, sup]; omega)) ?_
  exact hR.rt rfl trivial rfl rfl
theorem sr_kindOf_3 (ro : PRO) (w : PW)  : Sp mX6_kindOf ro 0 [vI 3] (w) (.inl (some (vI (ordF 3)))) (w) := by
  refine Sp.of (lk := lkX6) (tb := bX6_kindOf) (by decide) lkX6_ok tX6_kindOf rfl (Nat.le_of_ble_eq_true rfl) (fun G hR => ?_)
  refine hR.run1 3 (S' := (81, [some (vI 3)], [vI 0], w)) rfl (by first | omega | (dsimp only; omega) | (simp [sHt, sH, sS, sAt, sA, sup]; done) | (simp [sHt, sH, sS, sAt, sA, sup]; omega)) ?_
  exact hR.rt rfl trivial rfl rfl
theorem sr_kindOf_4 (ro : PRO) (w : PW)  : Sp mX6_kindOf ro 0 [vI 4] (w) (.inl (some (vI (ordF 4)))) (w) := by
  refine Sp.of (lk := lkX6) (tb := bX6_kindOf) (by decide) lkX6_ok tX6_kindOf rfl (Nat.le_of_ble_eq_true rfl) (fun G hR => ?_)
  refine hR.run1 3 (S' := (77, [some (vI 4)], [vI 2], w)) rfl (by first | omega | (dsimp only; omega) | (simp [sHt, sH, sS, sAt, sA, sup]; done) | (simp [sHt, sH, sS, sAt, sA, sup]; omega)) ?_
  exact hR.rt rfl trivial rfl rfl
theorem sr_kindOf_5 (ro : PRO) (w : PW)  : Sp mX6_kindOf ro 0 [vI 5] (w) (.inl (some (vI (ordF 5)))) (w) := by
  refine Sp.of (lk := lkX6) (tb := bX6_kindOf) (by decide) lkX6_ok tX6_kindOf rfl (Nat.le_of_ble_eq_true rfl) (fun G hR => ?_)
  refine hR.run1 3 (S' := (79, [some (vI 5)], [vI 3], w)) rfl (by first | omega | (dsimp only; omega) | (simp [sHt, sH, sS, sAt, sA, sup]; done) | (simp [sHt, sH, sS, sAt, sA, sup]; omega)) ?_
  exact hR.rt rfl trivial rfl rfl
theorem sr_kindOf_6 (ro : PRO) (w : PW)  : Sp mX6_kindOf ro 0 [vI 6] (w) (.inl (some (vI (ordF 6)))) (w) := by
  refine Sp.of (lk := lkX6) (tb := bX6_kindOf) (by decide) lkX6_ok tX6_kindOf rfl (Nat.le_of_ble_eq_true rfl) (fun G hR => ?_)
  refine hR.run1 3 (S' := (81, [some (vI 6)], [vI 0], w)) rfl (by first | omega | (dsimp only; omega) | (simp [sHt, sH, sS, sAt, sA, sup]; done) | (simp [sHt, sH, sS, sAt, sA, sup]; omega)) ?_
  exact hR.rt rfl trivial rfl rfl
theorem sr_kindOf_7 (ro : PRO) (w : PW)  : Sp mX6_kindOf ro 0 [vI 7] (w) (.inl (some (vI (ordF 7)))) (w) := by
  refine Sp.of (lk := lkX6) (tb := bX6_kindOf) (by decide) lkX6_ok tX6_kindOf rfl (Nat.le_of_ble_eq_true rfl) (fun G hR => ?_)
  refine hR.run1 3 (S' := (73, [some (vI 7)], [vI 4], w)) rfl (by first | omega | (dsimp only; omega) | (simp [sHt, sH, sS, sAt, sA, sup]; done) | (simp [sHt, sH, sS, sAt, sA, sup]; omega)) ?_
  exact hR.rt rfl trivial rfl rfl
theorem sr_kindOf_8 (ro : PRO) (w : PW)  : Sp mX6_kindOf ro 0 [vI 8] (w) (.inl (some (vI (ordF 8)))) (w) := by
  refine Sp.of (lk := lkX6) (tb := bX6_kindOf) (by decide) lkX6_ok tX6_kindOf rfl (Nat.le_of_ble_eq_true rfl) (fun G hR => ?_)
  refine hR.run1 3 (S' := (81, [some (vI 8)], [vI 0], w)) rfl (by first | omega | (dsimp only; omega) | (simp [sHt, sH, sS, sAt, sA, sup]; done) | (simp [sHt, sH, sS, sAt, sA, sup]; omega)) ?_
  exact hR.rt rfl trivial rfl rfl
theorem sr_kindOf_9 (ro : PRO) (w : PW)  : Sp mX6_kindOf ro 0 [vI 9] (w) (.inl (some (vI (ordF 9)))) (w) := by
  refine Sp.of (lk := lkX6) (tb := bX6_kindOf) (by decide) lkX6_ok tX6_kindOf rfl (Nat.le_of_ble_eq_true rfl) (fun G hR => ?_)
  refine hR.run1 3 (S' := (75, [some (vI 9)], [vI 1], w)) rfl (by first | omega | (dsimp only; omega) | (simp [sHt, sH, sS, sAt, sA, sup]; done) | (simp [sHt, sH, sS, sAt, sA, sup]; omega)) ?_
  exact hR.rt rfl trivial rfl rfl
theorem sr_kindOf_10 (ro : PRO) (w : PW)  : Sp mX6_kindOf ro 0 [vI 10] (w) (.inl (some (vI (ordF 10)))) (w) := by
  refine Sp.of (lk := lkX6) (tb := bX6_kindOf) (by decide) lkX6_ok tX6_kindOf rfl (Nat.le_of_ble_eq_true rfl) (fun G hR => ?_)
  refine hR.run1 3 (S' := (77, [some (vI 10)], [vI 2], w)) rfl (by first | omega | (dsimp only; omega) | (simp [sHt, sH, sS, sAt, sA, sup]; done) | (simp [sHt, sH, sS, sAt, sA, sup]; omega)) ?_
  exact hR.rt rfl trivial rfl rfl
theorem sr_kindOf_11 (ro : PRO) (w : PW)  : Sp mX6_kindOf ro 0 [vI 11] (w) (.inl (some (vI (ordF 11)))) (w) := by
  refine Sp.of (lk := lkX6) (tb := bX6_kindOf) (by decide) lkX6_ok tX6_kindOf rfl (Nat.le_of_ble_eq_true rfl) (fun G hR => ?_)
  refine hR.run1 3 (S' := (81, [some (vI 11)], [vI 0], w)) rfl (by first | omega | (dsimp only; omega) | (simp [sHt, sH, sS, sAt, sA, sup]; done) | (simp [sHt, sH, sS, sAt, sA, sup]; omega)) ?_
  exact hR.rt rfl trivial rfl rfl
theorem sr_kindOf_12 (ro : PRO) (w : PW)  : Sp mX6_kindOf ro 0 [vI 12] (w) (.inl (some (vI (ordF 12)))) (w) := by
  refine Sp.of (lk := lkX6) (tb := bX6_kindOf) (by decide) lkX6_ok tX6_kindOf rfl (Nat.le_of_ble_eq_true rfl) (fun G hR => ?_)
  refine hR.run1 3 (S' := (79, [some (vI 12)], [vI 3], w)) rfl (by first | omega | (dsimp only; omega) | (simp [sHt, sH, sS, sAt, sA, sup]; done) | (simp [sHt, sH, sS, sAt, sA, sup]; omega)) ?_
  exact hR.rt rfl trivial rfl rfl
theorem sr_kindOf_13 (ro : PRO) (w : PW)  : Sp mX6_kindOf ro 0 [vI 13] (w) (.inl (some (vI (ordF 13)))) (w) := by
  refine Sp.of (lk := lkX6) (tb := bX6_kindOf) (by decide) lkX6_ok tX6_kindOf rfl (Nat.le_of_ble_eq_true rfl) (fun G hR => ?_)
  refine hR.run1 3 (S' := (81, [some (vI 13)], [vI 0], w)) rfl (by first | omega | (dsimp only; omega) | (simp [sHt, sH, sS, sAt, sA, sup]; done) | (simp [sHt, sH, sS, sAt, sA, sup]; omega)) ?_
  exact hR.rt rfl trivial rfl rfl
theorem sr_kindOf_14 (ro : PRO) (w : PW)  : Sp mX6_kindOf ro 0 [vI 14] (w) (.inl (some (vI (ordF 14)))) (w) := by
  refine Sp.of (lk := lkX6) (tb := bX6_kindOf) (by decide) lkX6_ok tX6_kindOf rfl (Nat.le_of_ble_eq_true rfl) (fun G hR => ?_)
  refine hR.run1 3 (S' := (73, [some (vI 14)], [vI 4], w)) rfl (by first | omega | (dsimp only; omega) | (simp [sHt, sH, sS, sAt, sA, sup]; done) | (simp [sHt, sH, sS, sAt, sA, sup]; omega)) ?_
  exact hR.rt rfl trivial rfl rfl
theorem sr_kindOf (ro : PRO) (w : PW) {k : Int} (hk : 0 ≤ k ∧ k < 15) : Sp mX6_kindOf ro 0 [vI k] w (.inl (some (vI (ordF k)))) w := by
  rcases (show k = 0 ∨ k = 1 ∨ k = 2 ∨ k = 3 ∨ k = 4 ∨ k = 5 ∨ k = 6 ∨ k = 7 ∨ k = 8 ∨ k = 9 ∨ k = 10 ∨ k = 11 ∨ k = 12 ∨ k = 13 ∨ k = 14 from by omega) with rfl | rfl | rfl | rfl | rfl | rfl | rfl | rfl | rfl | rfl | rfl | rfl | rfl | rfl | rfl
  · exact sr_kindOf_0 ro w
  · exact sr_kindOf_1 ro w
  · exact sr_kindOf_2 ro w
  · exact sr_kindOf_3 ro w
  · exact sr_kindOf_4 ro w
  · exact sr_kindOf_5 ro w
  · exact sr_kindOf_6 ro w
  · exact sr_kindOf_7 ro w
  · exact sr_kindOf_8 ro w
  · exact sr_kindOf_9 ro w
  · exact sr_kindOf_10 ro w
  · exact sr_kindOf_11 ro w
  · exact sr_kindOf_12 ro w
  · exact sr_kindOf_13 ro w
  · exact sr_kindOf_14 ro w
theorem sr_rateOf (τ ρ : St) {p g : Int} (hp : 0 ≤ p ∧ p < 3) (hgg : 0 ≤ g ∧ g < 5) (hb : ∀ c, -1 ≤ τ.2.1 2 c ∧ τ.2.1 2 c ≤ 5) : Sp mX6_rateOf roC 1 [vR 100, vI p, vI g] (mW τ ρ) (.inl (some (vI (rtN (τ.2.1 2) p g 24)))) (mW τ ρ) := by
  refine Sp.of (lk := lkX6) (tb := bX6_rateOf) (by decide) lkX6_ok tX6_rateOf (mW_keys _ _ _ _) (Nat.le_of_ble_eq_true rfl) (fun G hR => ?_)
  refine hR.run0 4 (S' := (5, [some (vR 100), some (vI p), some (vI g), some (vI 4), some (vI 0), none, none], [], mW τ ρ)) rfl ?_
  have hL : ∀ i : Nat, i ≤ 6 → G (5, [some (vR 100), some (vI p), some (vI g), some (vI (rt6 (τ.2.1 2) p g i)), some (vI ((i : Nat) : Int)), none, none], [], mW τ ρ) := by
    refine back (P := fun i : Nat => G (5, [some (vR 100), some (vI p), some (vI g), some (vI (rt6 (τ.2.1 2) p g i)), some (vI ((i : Nat) : Int)), none, none], [], mW τ ρ)) ?_ ?_
    · intro i hii ihi
      replace ihi : G (5, [some (vR 100), some (vI p), some (vI g), some (vI (rt6 (τ.2.1 2) p g (i + 1))), some (vI ((i + 1 : Nat) : Int)), none, none], [], mW τ ρ) := ihi
      show G (5, [some (vR 100), some (vI p), some (vI g), some (vI (rt6 (τ.2.1 2) p g i)), some (vI (i : Int)), none, none], [], mW τ ρ)
      have q1 := rt6_r (τ.2.1 2) p g i
      refine hR.run0 2 (S' := (9, [some (vR 100), some (vI p), some (vI g), some (vI (rt6 (τ.2.1 2) p g i)), some (vI (i : Int)), none, none], [vI 6, vI (i : Int)], mW τ ρ)) rfl ?_
      refine hR.br (C := 6 ≤ (i : Int)) rfl (by first | omega | (dsimp only [plus1]; omega) | (simp [plus1, sHt, sH, sS, sAt, sA, sup]; done) | (simp [plus1, sHt, sH, sS, sAt, sA, sup]; omega)) (fun c1 => ?_) (fun c1 => ?_)
      · exfalso; omega
      refine hR.run0 6 (S' := (20, [some (vR 100), some (vI p), some (vI g), some (vI (rt6 (τ.2.1 2) p g i)), some (vI (i : Int)), none, none], [vI (7 + (3 * (i : Int))), vR 100], mW τ ρ)) rfl ?_
      have f1 := ownB_r (hb (7 + (3 * (i : Int))))
      refine hR.cv [vI (7 + (3 * (i : Int)))] kX6_74 rfl rfl ⟨_, _, _, rfl, rfl, rfl⟩ (by first | decide | exact Nat.le_refl _) (by decide) (Nat.le_of_ble_eq_true rfl) rfl (sr_ownerAt _ _ (by omega) hb) ?_
      show G (23, [some (vR 100), some (vI p), some (vI g), some (vI (rt6 (τ.2.1 2) p g i)), some (vI (i : Int)), none, none], [vI (ownB (τ.2.1 2 (7 + (3 * (i : Int)))))], mW τ ρ)
      refine hR.run0 1 (S' := (24, [some (vR 100), some (vI p), some (vI g), some (vI (rt6 (τ.2.1 2) p g i)), some (vI (i : Int)), none, none], [vI p, vI (ownB (τ.2.1 2 (7 + (3 * (i : Int)))))], mW τ ρ)) rfl ?_
      refine hR.br (C := ownB (τ.2.1 2 (7 + (3 * (i : Int)))) = p) rfl (by first | omega | (dsimp only [plus1]; omega) | (simp [plus1, sHt, sH, sS, sAt, sA, sup]; done) | (simp [plus1, sHt, sH, sS, sAt, sA, sup]; omega)) (fun c2 => ?_) (fun c2 => ?_)
      · skip
        refine hR.run0 4 (S' := (51, [some (vR 100), some (vI p), some (vI g), some (vI (rt6 (τ.2.1 2) p g i)), some (vI (i : Int)), some (vI 1), none], [vI 1], mW τ ρ)) rfl ?_
        refine hR.br (C := 1 ≠ 0) rfl (by first | omega | (dsimp only [plus1]; omega) | (simp [plus1, sHt, sH, sS, sAt, sA, sup]; done) | (simp [plus1, sHt, sH, sS, sAt, sA, sup]; omega)) (fun c3 => ?_) (fun c3 => ?_)
        · skip
          refine hR.run0 2 (S' := (61, [some (vR 100), some (vI p), some (vI g), some (vI (rt6 (τ.2.1 2) p g i)), some (vI (i : Int)), some (vI 1), none], [vI 5, vI (i : Int)], mW τ ρ)) rfl ?_
          refine hR.br (C := (i : Int) ≠ 5) rfl (by first | omega | (dsimp only [plus1]; omega) | (simp [plus1, sHt, sH, sS, sAt, sA, sup]; done) | (simp [plus1, sHt, sH, sS, sAt, sA, sup]; omega)) (fun c4 => ?_) (fun c4 => ?_)
          · skip
            refine hR.run0 2 (S' := (71, [some (vR 100), some (vI p), some (vI g), some (vI (rt6 (τ.2.1 2) p g i)), some (vI (i : Int)), some (vI 1), none], [vI g, vI (i : Int)], mW τ ρ)) rfl ?_
            refine hR.br (C := (i : Int) ≠ g) rfl (by first | omega | (dsimp only [plus1]; omega) | (simp [plus1, sHt, sH, sS, sAt, sA, sup]; done) | (simp [plus1, sHt, sH, sS, sAt, sA, sup]; omega)) (fun c5 => ?_) (fun c5 => ?_)
            · skip
              refine hR.run0 4 (S' := (84, [some (vR 100), some (vI p), some (vI g), some (vI (rt6 (τ.2.1 2) p g i)), some (vI (i : Int)), some (vI 1), some (vI 4)], [vI (rt6 (τ.2.1 2) p g i), vI 4], mW τ ρ)) rfl ?_
              refine hR.br (C := rt6 (τ.2.1 2) p g i ≤ 4) rfl (by first | omega | (dsimp only [plus1]; omega) | (simp [plus1, sHt, sH, sS, sAt, sA, sup]; done) | (simp [plus1, sHt, sH, sS, sAt, sA, sup]; omega)) (fun c6 => ?_) (fun c6 => ?_)
              · skip
                refine hR.run0 4 (S' := (5, [some (vR 100), some (vI p), some (vI g), some (vI (rt6 (τ.2.1 2) p g i)), some (vI ((i : Int) + 1)), some (vI 1), some (vI 4)], [], mW τ ρ)) rfl ?_
                rw [show rt6 (τ.2.1 2) p g (i + 1) = (rt6 (τ.2.1 2) p g i) from by simp only [rt6]; (repeat' split) <;> omega] at ihi
                refine hR.fg 5 ?_
                show G (5, [some (vR 100), some (vI p), some (vI g), some (vI (rt6 (τ.2.1 2) p g i)), some (vI ((i : Int) + 1)), none, some (vI 4)], [], mW τ ρ)
                refine hR.fg 6 ?_
                show G (5, [some (vR 100), some (vI p), some (vI g), some (vI (rt6 (τ.2.1 2) p g i)), some (vI ((i : Int) + 1)), none, none], [], mW τ ρ)
                exact ihi
              · exfalso; omega
            · skip
              refine hR.run0 5 (S' := (84, [some (vR 100), some (vI p), some (vI g), some (vI (rt6 (τ.2.1 2) p g i)), some (vI (i : Int)), some (vI 1), some (vI 2)], [vI (rt6 (τ.2.1 2) p g i), vI 2], mW τ ρ)) rfl ?_
              refine hR.br (C := rt6 (τ.2.1 2) p g i ≤ 2) rfl (by first | omega | (dsimp only [plus1]; omega) | (simp [plus1, sHt, sH, sS, sAt, sA, sup]; done) | (simp [plus1, sHt, sH, sS, sAt, sA, sup]; omega)) (fun c7 => ?_) (fun c7 => ?_)
              · skip
                refine hR.run0 4 (S' := (5, [some (vR 100), some (vI p), some (vI g), some (vI (rt6 (τ.2.1 2) p g i)), some (vI ((i : Int) + 1)), some (vI 1), some (vI 2)], [], mW τ ρ)) rfl ?_
                rw [show rt6 (τ.2.1 2) p g (i + 1) = (rt6 (τ.2.1 2) p g i) from by simp only [rt6]; (repeat' split) <;> omega] at ihi
                refine hR.fg 5 ?_
                show G (5, [some (vR 100), some (vI p), some (vI g), some (vI (rt6 (τ.2.1 2) p g i)), some (vI ((i : Int) + 1)), none, some (vI 2)], [], mW τ ρ)
                refine hR.fg 6 ?_
                show G (5, [some (vR 100), some (vI p), some (vI g), some (vI (rt6 (τ.2.1 2) p g i)), some (vI ((i : Int) + 1)), none, none], [], mW τ ρ)
                exact ihi
              · skip
                refine hR.run0 5 (S' := (5, [some (vR 100), some (vI p), some (vI g), some (vI 2), some (vI ((i : Int) + 1)), some (vI 1), some (vI 2)], [], mW τ ρ)) rfl ?_
                rw [show rt6 (τ.2.1 2) p g (i + 1) = 2 from by simp only [rt6]; (repeat' split) <;> omega] at ihi
                refine hR.fg 5 ?_
                show G (5, [some (vR 100), some (vI p), some (vI g), some (vI 2), some (vI ((i : Int) + 1)), none, some (vI 2)], [], mW τ ρ)
                refine hR.fg 6 ?_
                show G (5, [some (vR 100), some (vI p), some (vI g), some (vI 2), some (vI ((i : Int) + 1)), none, none], [], mW τ ρ)
                exact ihi
          · skip
            refine hR.run0 5 (S' := (84, [some (vR 100), some (vI p), some (vI g), some (vI (rt6 (τ.2.1 2) p g i)), some (vI (i : Int)), some (vI 1), some (vI 3)], [vI (rt6 (τ.2.1 2) p g i), vI 3], mW τ ρ)) rfl ?_
            refine hR.br (C := rt6 (τ.2.1 2) p g i ≤ 3) rfl (by first | omega | (dsimp only [plus1]; omega) | (simp [plus1, sHt, sH, sS, sAt, sA, sup]; done) | (simp [plus1, sHt, sH, sS, sAt, sA, sup]; omega)) (fun c8 => ?_) (fun c8 => ?_)
            · skip
              refine hR.run0 4 (S' := (5, [some (vR 100), some (vI p), some (vI g), some (vI (rt6 (τ.2.1 2) p g i)), some (vI ((i : Int) + 1)), some (vI 1), some (vI 3)], [], mW τ ρ)) rfl ?_
              rw [show rt6 (τ.2.1 2) p g (i + 1) = (rt6 (τ.2.1 2) p g i) from by simp only [rt6]; (repeat' split) <;> omega] at ihi
              refine hR.fg 5 ?_
              show G (5, [some (vR 100), some (vI p), some (vI g), some (vI (rt6 (τ.2.1 2) p g i)), some (vI ((i : Int) + 1)), none, some (vI 3)], [], mW τ ρ)
              refine hR.fg 6 ?_
              show G (5, [some (vR 100), some (vI p), some (vI g), some (vI (rt6 (τ.2.1 2) p g i)), some (vI ((i : Int) + 1)), none, none], [], mW τ ρ)
              exact ihi
            · skip
              refine hR.run0 5 (S' := (5, [some (vR 100), some (vI p), some (vI g), some (vI 3), some (vI ((i : Int) + 1)), some (vI 1), some (vI 3)], [], mW τ ρ)) rfl ?_
              rw [show rt6 (τ.2.1 2) p g (i + 1) = 3 from by simp only [rt6]; (repeat' split) <;> omega] at ihi
              refine hR.fg 5 ?_
              show G (5, [some (vR 100), some (vI p), some (vI g), some (vI 3), some (vI ((i : Int) + 1)), none, some (vI 3)], [], mW τ ρ)
              refine hR.fg 6 ?_
              show G (5, [some (vR 100), some (vI p), some (vI g), some (vI 3), some (vI ((i : Int) + 1)), none, none], [], mW τ ρ)
              exact ihi
        · exfalso; omega
      · skip
        refine hR.run0 6 (S' := (35, [some (vR 100), some (vI p), some (vI g), some (vI (rt6 (τ.2.1 2) p g i)), some (vI (i : Int)), none, none], [vI (8 + (3 * (i : Int))), vR 100], mW τ ρ)) rfl ?_
        have f2 := ownB_r (hb (8 + (3 * (i : Int))))
        refine hR.cv [vI (8 + (3 * (i : Int)))] kX6_74 rfl rfl ⟨_, _, _, rfl, rfl, rfl⟩ (by first | decide | exact Nat.le_refl _) (by decide) (Nat.le_of_ble_eq_true rfl) rfl (sr_ownerAt _ _ (by omega) hb) ?_
        show G (38, [some (vR 100), some (vI p), some (vI g), some (vI (rt6 (τ.2.1 2) p g i)), some (vI (i : Int)), none, none], [vI (ownB (τ.2.1 2 (8 + (3 * (i : Int)))))], mW τ ρ)
        refine hR.run0 1 (S' := (39, [some (vR 100), some (vI p), some (vI g), some (vI (rt6 (τ.2.1 2) p g i)), some (vI (i : Int)), none, none], [vI p, vI (ownB (τ.2.1 2 (8 + (3 * (i : Int)))))], mW τ ρ)) rfl ?_
        refine hR.br (C := ownB (τ.2.1 2 (8 + (3 * (i : Int)))) ≠ p) rfl (by first | omega | (dsimp only [plus1]; omega) | (simp [plus1, sHt, sH, sS, sAt, sA, sup]; done) | (simp [plus1, sHt, sH, sS, sAt, sA, sup]; omega)) (fun c9 => ?_) (fun c9 => ?_)
        · skip
          refine hR.run0 3 (S' := (51, [some (vR 100), some (vI p), some (vI g), some (vI (rt6 (τ.2.1 2) p g i)), some (vI (i : Int)), some (vI 0), none], [vI 0], mW τ ρ)) rfl ?_
          refine hR.br (C := 0 ≠ 0) rfl (by first | omega | (dsimp only [plus1]; omega) | (simp [plus1, sHt, sH, sS, sAt, sA, sup]; done) | (simp [plus1, sHt, sH, sS, sAt, sA, sup]; omega)) (fun c10 => ?_) (fun c10 => ?_)
          · exfalso; omega
          refine hR.run0 5 (S' := (84, [some (vR 100), some (vI p), some (vI g), some (vI (rt6 (τ.2.1 2) p g i)), some (vI (i : Int)), some (vI 0), some (vI 4)], [vI (rt6 (τ.2.1 2) p g i), vI 4], mW τ ρ)) rfl ?_
          refine hR.br (C := rt6 (τ.2.1 2) p g i ≤ 4) rfl (by first | omega | (dsimp only [plus1]; omega) | (simp [plus1, sHt, sH, sS, sAt, sA, sup]; done) | (simp [plus1, sHt, sH, sS, sAt, sA, sup]; omega)) (fun c11 => ?_) (fun c11 => ?_)
          · skip
            refine hR.run0 4 (S' := (5, [some (vR 100), some (vI p), some (vI g), some (vI (rt6 (τ.2.1 2) p g i)), some (vI ((i : Int) + 1)), some (vI 0), some (vI 4)], [], mW τ ρ)) rfl ?_
            rw [show rt6 (τ.2.1 2) p g (i + 1) = (rt6 (τ.2.1 2) p g i) from by simp only [rt6]; (repeat' split) <;> omega] at ihi
            refine hR.fg 5 ?_
            show G (5, [some (vR 100), some (vI p), some (vI g), some (vI (rt6 (τ.2.1 2) p g i)), some (vI ((i : Int) + 1)), none, some (vI 4)], [], mW τ ρ)
            refine hR.fg 6 ?_
            show G (5, [some (vR 100), some (vI p), some (vI g), some (vI (rt6 (τ.2.1 2) p g i)), some (vI ((i : Int) + 1)), none, none], [], mW τ ρ)
            exact ihi
          · exfalso; omega
        · skip
          refine hR.run0 4 (S' := (51, [some (vR 100), some (vI p), some (vI g), some (vI (rt6 (τ.2.1 2) p g i)), some (vI (i : Int)), some (vI 1), none], [vI 1], mW τ ρ)) rfl ?_
          refine hR.br (C := 1 ≠ 0) rfl (by first | omega | (dsimp only [plus1]; omega) | (simp [plus1, sHt, sH, sS, sAt, sA, sup]; done) | (simp [plus1, sHt, sH, sS, sAt, sA, sup]; omega)) (fun c12 => ?_) (fun c12 => ?_)
          · skip
            refine hR.run0 2 (S' := (61, [some (vR 100), some (vI p), some (vI g), some (vI (rt6 (τ.2.1 2) p g i)), some (vI (i : Int)), some (vI 1), none], [vI 5, vI (i : Int)], mW τ ρ)) rfl ?_
            refine hR.br (C := (i : Int) ≠ 5) rfl (by first | omega | (dsimp only [plus1]; omega) | (simp [plus1, sHt, sH, sS, sAt, sA, sup]; done) | (simp [plus1, sHt, sH, sS, sAt, sA, sup]; omega)) (fun c13 => ?_) (fun c13 => ?_)
            · skip
              refine hR.run0 2 (S' := (71, [some (vR 100), some (vI p), some (vI g), some (vI (rt6 (τ.2.1 2) p g i)), some (vI (i : Int)), some (vI 1), none], [vI g, vI (i : Int)], mW τ ρ)) rfl ?_
              refine hR.br (C := (i : Int) ≠ g) rfl (by first | omega | (dsimp only [plus1]; omega) | (simp [plus1, sHt, sH, sS, sAt, sA, sup]; done) | (simp [plus1, sHt, sH, sS, sAt, sA, sup]; omega)) (fun c14 => ?_) (fun c14 => ?_)
              · skip
                refine hR.run0 4 (S' := (84, [some (vR 100), some (vI p), some (vI g), some (vI (rt6 (τ.2.1 2) p g i)), some (vI (i : Int)), some (vI 1), some (vI 4)], [vI (rt6 (τ.2.1 2) p g i), vI 4], mW τ ρ)) rfl ?_
                refine hR.br (C := rt6 (τ.2.1 2) p g i ≤ 4) rfl (by first | omega | (dsimp only [plus1]; omega) | (simp [plus1, sHt, sH, sS, sAt, sA, sup]; done) | (simp [plus1, sHt, sH, sS, sAt, sA, sup]; omega)) (fun c15 => ?_) (fun c15 => ?_)
                · skip
                  refine hR.run0 4 (S' := (5, [some (vR 100), some (vI p), some (vI g), some (vI (rt6 (τ.2.1 2) p g i)), some (vI ((i : Int) + 1)), some (vI 1), some (vI 4)], [], mW τ ρ)) rfl ?_
                  rw [show rt6 (τ.2.1 2) p g (i + 1) = (rt6 (τ.2.1 2) p g i) from by simp only [rt6]; (repeat' split) <;> omega] at ihi
                  refine hR.fg 5 ?_
                  show G (5, [some (vR 100), some (vI p), some (vI g), some (vI (rt6 (τ.2.1 2) p g i)), some (vI ((i : Int) + 1)), none, some (vI 4)], [], mW τ ρ)
                  refine hR.fg 6 ?_
                  show G (5, [some (vR 100), some (vI p), some (vI g), some (vI (rt6 (τ.2.1 2) p g i)), some (vI ((i : Int) + 1)), none, none], [], mW τ ρ)
                  exact ihi
                · exfalso; omega
              · skip
                refine hR.run0 5 (S' := (84, [some (vR 100), some (vI p), some (vI g), some (vI (rt6 (τ.2.1 2) p g i)), some (vI (i : Int)), some (vI 1), some (vI 2)], [vI (rt6 (τ.2.1 2) p g i), vI 2], mW τ ρ)) rfl ?_
                refine hR.br (C := rt6 (τ.2.1 2) p g i ≤ 2) rfl (by first | omega | (dsimp only [plus1]; omega) | (simp [plus1, sHt, sH, sS, sAt, sA, sup]; done) | (simp [plus1, sHt, sH, sS, sAt, sA, sup]; omega)) (fun c16 => ?_) (fun c16 => ?_)
                · skip
                  refine hR.run0 4 (S' := (5, [some (vR 100), some (vI p), some (vI g), some (vI (rt6 (τ.2.1 2) p g i)), some (vI ((i : Int) + 1)), some (vI 1), some (vI 2)], [], mW τ ρ)) rfl ?_
                  rw [show rt6 (τ.2.1 2) p g (i + 1) = (rt6 (τ.2.1 2) p g i) from by simp only [rt6]; (repeat' split) <;> omega] at ihi
                  refine hR.fg 5 ?_
                  show G (5, [some (vR 100), some (vI p), some (vI g), some (vI (rt6 (τ.2.1 2) p g i)), some (vI ((i : Int) + 1)), none, some (vI 2)], [], mW τ ρ)
                  refine hR.fg 6 ?_
                  show G (5, [some (vR 100), some (vI p), some (vI g), some (vI (rt6 (τ.2.1 2) p g i)), some (vI ((i : Int) + 1)), none, none], [], mW τ ρ)
                  exact ihi
                · skip
                  refine hR.run0 5 (S' := (5, [some (vR 100), some (vI p), some (vI g), some (vI 2), some (vI ((i : Int) + 1)), some (vI 1), some (vI 2)], [], mW τ ρ)) rfl ?_
                  rw [show rt6 (τ.2.1 2) p g (i + 1) = 2 from by simp only [rt6]; (repeat' split) <;> omega] at ihi
                  refine hR.fg 5 ?_
                  show G (5, [some (vR 100), some (vI p), some (vI g), some (vI 2), some (vI ((i : Int) + 1)), none, some (vI 2)], [], mW τ ρ)
                  refine hR.fg 6 ?_
                  show G (5, [some (vR 100), some (vI p), some (vI g), some (vI 2), some (vI ((i : Int) + 1)), none, none], [], mW τ ρ)
                  exact ihi
            · skip
              refine hR.run0 5 (S' := (84, [some (vR 100), some (vI p), some (vI g), some (vI (rt6 (τ.2.1 2) p g i)), some (vI (i : Int)), some (vI 1), some (vI 3)], [vI (rt6 (τ.2.1 2) p g i), vI 3], mW τ ρ)) rfl ?_
              refine hR.br (C := rt6 (τ.2.1 2) p g i ≤ 3) rfl (by first | omega | (dsimp only [plus1]; omega) | (simp [plus1, sHt, sH, sS, sAt, sA, sup]; done) | (simp [plus1, sHt, sH, sS, sAt, sA, sup]; omega)) (fun c17 => ?_) (fun c17 => ?_)
              · skip
                refine hR.run0 4 (S' := (5, [some (vR 100), some (vI p), some (vI g), some (vI (rt6 (τ.2.1 2) p g i)), some (vI ((i : Int) + 1)), some (vI 1), some (vI 3)], [], mW τ ρ)) rfl ?_
                rw [show rt6 (τ.2.1 2) p g (i + 1) = (rt6 (τ.2.1 2) p g i) from by simp only [rt6]; (repeat' split) <;> omega] at ihi
                refine hR.fg 5 ?_
                show G (5, [some (vR 100), some (vI p), some (vI g), some (vI (rt6 (τ.2.1 2) p g i)), some (vI ((i : Int) + 1)), none, some (vI 3)], [], mW τ ρ)
                refine hR.fg 6 ?_
                show G (5, [some (vR 100), some (vI p), some (vI g), some (vI (rt6 (τ.2.1 2) p g i)), some (vI ((i : Int) + 1)), none, none], [], mW τ ρ)
                exact ihi
              · skip
                refine hR.run0 5 (S' := (5, [some (vR 100), some (vI p), some (vI g), some (vI 3), some (vI ((i : Int) + 1)), some (vI 1), some (vI 3)], [], mW τ ρ)) rfl ?_
                rw [show rt6 (τ.2.1 2) p g (i + 1) = 3 from by simp only [rt6]; (repeat' split) <;> omega] at ihi
                refine hR.fg 5 ?_
                show G (5, [some (vR 100), some (vI p), some (vI g), some (vI 3), some (vI ((i : Int) + 1)), none, some (vI 3)], [], mW τ ρ)
                refine hR.fg 6 ?_
                show G (5, [some (vR 100), some (vI p), some (vI g), some (vI 3), some (vI ((i : Int) + 1)), none, none], [], mW τ ρ)
                exact ihi
          · exfalso; omega
    · show G (5, [some (vR 100), some (vI p), some (vI g), some (vI (rt6 (τ.2.1 2) p g 6)), some (vI ((6 : Nat) : Int)), none, none], [], mW τ ρ)
      show G (5, [some (vR 100), some (vI p), some (vI g), some (vI (rt6 (τ.2.1 2) p g 6)), some (vI 6), none, none], [], mW τ ρ)
      refine hR.run0 2 (S' := (9, [some (vR 100), some (vI p), some (vI g), some (vI (rt6 (τ.2.1 2) p g 6)), some (vI 6), none, none], [vI 6, vI 6], mW τ ρ)) rfl ?_
      refine hR.br (C := 6 ≤ 6) rfl (by first | omega | (dsimp only [plus1]; omega) | (simp [plus1, sHt, sH, sS, sAt, sA, sup]; done) | (simp [plus1, sHt, sH, sS, sAt, sA, sup]; omega)) (fun c18 => ?_) (fun c18 => ?_)
      · skip
        refine hR.run0 1 (S' := (101, [some (vR 100), some (vI p), some (vI g), some (vI (rt6 (τ.2.1 2) p g 6)), some (vI 6), none, none], [vI (rt6 (τ.2.1 2) p g 6)], mW τ ρ)) rfl ?_
        exact hR.rt rfl trivial (by rw [rt6_24]) rfl
      · exfalso; omega
  exact hL 0 (Nat.zero_le _)
theorem pX6_rate (τ ρ : St) {p g : Int} (hp : -2147483648 ≤ p ∧ p ≤ 2147483647) (hg0 : -2147483648 ≤ g ∧ g ≤ 2147483647) (hI : Iv τ)  : Sp mX6_rate roC 2 [vR 100, vI p, vI g] (mW τ ρ) (.inl (some (vI (xRate τ p g).2.1))) (mW (xRate τ p g).2.2 (sS ρ 0 (xRate τ p g).1)) := by
  have hb := hI.hb
  have hr := hI.hr
  have hg := hI.hg
  have hn := hI.hn
  have h7 := hI.h7
  have hh := hI.hh
  have hsm := hI.hsm
  have hcd := hI.hcd
  have hfr := hI.hfr
  have hkn := hI.hkn
  have hbo := hI.hbo
  have hus := hI.hus
  have hro := hI.hro
  have har := hI.har
  have hth := hI.hth
  have hph := hI.hph
  have htu := hI.htu
  have hrb := hI.hrb
  have hpl := hI.hpl
  have hdu := hI.hdu
  have hdp := hI.hdp
  have hof := hI.hof
  have how := hI.how
  have hga := hI.hga
  have hwa := hI.hwa
  have hck := hI.hck
  have hkz := hI.hkz
  have hcb := hI.hcb
  have hfb := hI.hfb
  have hnr := hI.hnr
  have hpq := hI.hpq
  have hrc := hI.hrc
  have hbc := hI.hbc
  have hcc := hI.hcc
  have hac := hI.hac
  refine Sp.of (lk := lkX6) (tb := bX6_rate) (by decide) lkX6_ok tX6_rate (mW_keys _ _ _ _) (Nat.le_of_ble_eq_true rfl) (fun G hR => ?_)
  refine hR.run0 2 (S' := (2, [some (vR 100), some (vI p), some (vI g)], [vI p, vR 100], mW τ ρ)) rfl ?_
  refine hR.cs [vI p] kX6_159 rfl rfl (by first | decide | exact Nat.le_refl _) (by decide) (Nat.le_of_ble_eq_true rfl) rfl (sr_isPlayer _ _ (by omega)) ?_
  show G (5, [some (vR 100), some (vI p), some (vI g)], [vI (bI (decide (0 ≤ p) && decide (p < 3))), vR 100], mW τ ρ)
  by_cases q1 : (decide (0 ≤ p) && decide (p < 3)) = true
  · skip
    have q1b := q1
    try simp only [Bool.and_eq_true, Bool.or_eq_true, Bool.and_eq_false_iff, Bool.or_eq_false_iff, decide_eq_true_eq, decide_eq_false_iff_not] at q1
    refine hR.cv [vI (bI (decide (0 ≤ p) && decide (p < 3)))] kX6_127 rfl rfl ⟨_, _, _, rfl, rfl, rfl⟩ (by first | decide | exact Nat.le_refl _) (by decide) (Nat.le_of_ble_eq_true rfl) rfl (sr_asksb_t _ _ q1b) ?_
    show G (8, [some (vR 100), some (vI p), some (vI g)], [vI 1], mW τ (sS ρ 0 0))
    refine hR.br (C := 1 ≠ 0) rfl (by first | omega | (dsimp only [plus1]; omega) | (simp [plus1, sHt, sH, sS, sAt, sA, sup]; done) | (simp [plus1, sHt, sH, sS, sAt, sA, sup]; omega)) (fun c2 => ?_) (fun c2 => ?_)
    · skip
      refine hR.run0 1 (S' := (14, [some (vR 100), some (vI p), some (vI g)], [vI g], mW τ (sS ρ 0 0))) rfl ?_
      refine hR.cs [vI g] kX6_227 rfl rfl (by first | decide | exact Nat.le_refl _) (by decide) (Nat.le_of_ble_eq_true rfl) rfl (sr_isGood _ _ (by omega)) ?_
      show G (17, [some (vR 100), some (vI p), some (vI g)], [vI (bI (decide (0 ≤ g) && decide (g < 5)))], mW τ (sS ρ 0 0))
      refine hR.br (C := (bI (decide (0 ≤ g) && decide (g < 5))) = 0) rfl (bI_r _) (fun c3 => ?_) (fun c3 => ?_)
      · replace c3 : (decide (0 ≤ g) && decide (g < 5)) = false := bI0 c3
        try simp only [Bool.and_eq_true, Bool.or_eq_true, Bool.and_eq_false_iff, Bool.or_eq_false_iff, decide_eq_true_eq, decide_eq_false_iff_not] at c3
        refine hR.run0 2 (S' := (31, [some (vR 100), some (vI p), some (vI g)], [vI 2, vR 100], mW τ (sS ρ 0 0))) rfl ?_
        refine hR.cv [vI 2] kX6_149 rfl rfl ⟨_, _, _, rfl, rfl, rfl⟩ (by first | decide | exact Nat.le_refl _) (by decide) (Nat.le_of_ble_eq_true rfl) rfl (sr_fails _ _ _) ?_
        show G (34, [some (vR 100), some (vI p), some (vI g)], [vI 0], mW τ (sS (sS ρ 0 0) 0 2))
        rw [sS_sS]
        show G (34, [some (vR 100), some (vI p), some (vI g)], [vI 0], mW τ (sS ρ 0 2))
        have hx : xRate τ p g = (2, 0, τ) := by unfold xRate; (repeat' split) <;> first | rfl | (exfalso; omega) | (exfalso; simp_all; done) | (simp_all; done) | (exfalso; simp_all; omega)
        exact hR.rt rfl trivial (by rw [hx]) (by rw [hx])
      · replace c3 : (decide (0 ≤ g) && decide (g < 5)) = true := bI1 c3
        try simp only [Bool.and_eq_true, Bool.or_eq_true, Bool.and_eq_false_iff, Bool.or_eq_false_iff, decide_eq_true_eq, decide_eq_false_iff_not] at c3
        refine hR.run0 3 (S' := (23, [some (vR 100), some (vI p), some (vI g)], [vI g, vI p, vR 100], mW τ (sS ρ 0 0))) rfl ?_
        have f1 := rtN_r (τ.2.1 2) p g 24
        refine hR.cv [vI p, vI g] kX6_234 rfl rfl ⟨_, _, _, rfl, rfl, rfl⟩ (by first | decide | exact Nat.le_refl _) (by decide) (Nat.le_of_ble_eq_true rfl) rfl (sr_rateOf _ _ (by omega) (by omega) hb) ?_
        show G (26, [some (vR 100), some (vI p), some (vI g)], [vI (rtN (τ.2.1 2) p g 24)], mW τ (sS ρ 0 0))
        refine hR.run0 1 (S' := (34, [some (vR 100), some (vI p), some (vI g)], [vI (rtN (τ.2.1 2) p g 24)], mW τ (sS ρ 0 0))) rfl ?_
        have hx : xRate τ p g = (0, rtN (τ.2.1 2) p g 24, τ) := by unfold xRate; (repeat' split) <;> first | rfl | (exfalso; omega) | (exfalso; simp_all; done) | (simp_all; done) | (exfalso; simp_all; omega)
        exact hR.rt rfl trivial (by rw [hx]) (by rw [hx])
    · exfalso; omega
  · replace q1 := Bool.eq_false_iff.mpr q1
    have q1b := q1
    try simp only [Bool.and_eq_true, Bool.or_eq_true, Bool.and_eq_false_iff, Bool.or_eq_false_iff, decide_eq_true_eq, decide_eq_false_iff_not] at q1
    refine hR.cv [vI (bI (decide (0 ≤ p) && decide (p < 3)))] kX6_127 rfl rfl ⟨_, _, _, rfl, rfl, rfl⟩ (by first | decide | exact Nat.le_refl _) (by decide) (Nat.le_of_ble_eq_true rfl) rfl (sr_asksb_f _ _ q1b) ?_
    show G (8, [some (vR 100), some (vI p), some (vI g)], [vI 0], mW τ (sS ρ 0 1))
    refine hR.br (C := 0 ≠ 0) rfl (by first | omega | (dsimp only [plus1]; omega) | (simp [plus1, sHt, sH, sS, sAt, sA, sup]; done) | (simp [plus1, sHt, sH, sS, sAt, sA, sup]; omega)) (fun c4 => ?_) (fun c4 => ?_)
    · exfalso; omega
    refine hR.run0 1 (S' := (12, [some (vR 100), some (vI p), some (vI g)], [vI 0], mW τ (sS ρ 0 1))) rfl ?_
    have hx : xRate τ p g = (1, 0, τ) := by unfold xRate; (repeat' split) <;> first | rfl | (exfalso; omega) | (exfalso; simp_all; done) | (simp_all; done) | (exfalso; simp_all; omega)
    exact hR.rt rfl trivial (by rw [hx]) (by rw [hx])
theorem pX6_layHex (τ ρ : St) {h g n : Int} (hh0 : -2147483648 ≤ h ∧ h ≤ 2147483647) (hg0 : -2147483648 ≤ g ∧ g ≤ 2147483647) (hn0 : -2147483648 ≤ n ∧ n ≤ 2147483647) (hI : Iv τ)  : Sp mX6_layHex roC 1 [vR 100, vI h, vI g, vI n] (mW τ ρ) (.inl none) (mW (xLay τ h g n).2.2 (sS ρ 0 (xLay τ h g n).1)) := by
  have hb := hI.hb
  have hr := hI.hr
  have hg := hI.hg
  have hn := hI.hn
  have h7 := hI.h7
  have hh := hI.hh
  have hsm := hI.hsm
  have hcd := hI.hcd
  have hfr := hI.hfr
  have hkn := hI.hkn
  have hbo := hI.hbo
  have hus := hI.hus
  have hro := hI.hro
  have har := hI.har
  have hth := hI.hth
  have hph := hI.hph
  have htu := hI.htu
  have hrb := hI.hrb
  have hpl := hI.hpl
  have hdu := hI.hdu
  have hdp := hI.hdp
  have hof := hI.hof
  have how := hI.how
  have hga := hI.hga
  have hwa := hI.hwa
  have hck := hI.hck
  have hkz := hI.hkz
  have hcb := hI.hcb
  have hfb := hI.hfb
  have hnr := hI.hnr
  have hpq := hI.hpq
  have hrc := hI.hrc
  have hbc := hI.hbc
  have hcc := hI.hcc
  have hac := hI.hac
  refine Sp.of (lk := lkX6) (tb := bX6_layHex) (by decide) lkX6_ok tX6_layHex (mW_keys _ _ _ _) (Nat.le_of_ble_eq_true rfl) (fun G hR => ?_)
  refine hR.run0 2 (S' := (2, [some (vR 100), some (vI h), some (vI g), some (vI n)], [vI h, vR 100], mW τ ρ)) rfl ?_
  refine hR.cs [vI h] kX6_124 rfl rfl (by first | decide | exact Nat.le_refl _) (by decide) (Nat.le_of_ble_eq_true rfl) rfl (sr_isHex _ _ (by omega)) ?_
  show G (5, [some (vR 100), some (vI h), some (vI g), some (vI n)], [vI (bI (decide (0 ≤ h) && decide (h < 7))), vR 100], mW τ ρ)
  by_cases q1 : (decide (0 ≤ h) && decide (h < 7)) = true
  · skip
    have q1b := q1
    try simp only [Bool.and_eq_true, Bool.or_eq_true, Bool.and_eq_false_iff, Bool.or_eq_false_iff, decide_eq_true_eq, decide_eq_false_iff_not] at q1
    refine hR.cv [vI (bI (decide (0 ≤ h) && decide (h < 7)))] kX6_127 rfl rfl ⟨_, _, _, rfl, rfl, rfl⟩ (by first | decide | exact Nat.le_refl _) (by decide) (Nat.le_of_ble_eq_true rfl) rfl (sr_asksb_t _ _ q1b) ?_
    show G (8, [some (vR 100), some (vI h), some (vI g), some (vI n)], [vI 1], mW τ (sS ρ 0 0))
    refine hR.br (C := 1 ≠ 0) rfl (by first | omega | (dsimp only [plus1]; omega) | (simp [plus1, sHt, sH, sS, sAt, sA, sup]; done) | (simp [plus1, sHt, sH, sS, sAt, sA, sup]; omega)) (fun c2 => ?_) (fun c2 => ?_)
    · skip
      refine hR.run0 3 (S' := (15, [some (vR 100), some (vI h), some (vI g), some (vI n)], [vI 5, vI 0, vI g], mW τ (sS ρ 0 0))) rfl ?_
      refine hR.cs [vI g, vI 0, vI 5] kX6_131 rfl rfl (by first | decide | exact Nat.le_refl _) (by decide) (Nat.le_of_ble_eq_true rfl) rfl (sr_in _ _ (by omega) (by omega) (by omega)) ?_
      show G (18, [some (vR 100), some (vI h), some (vI g), some (vI n)], [vI (bI (decide (0 ≤ g) && decide (g ≤ 5)))], mW τ (sS ρ 0 0))
      refine hR.br (C := bI (decide (0 ≤ g) && decide (g ≤ 5)) = 0) rfl (bI_r _) (fun c3 => ?_) (fun c3 => ?_)
      · replace c3 : (decide (0 ≤ g) && decide (g ≤ 5)) = false := bI0 c3
        try simp only [Bool.and_eq_true, Bool.or_eq_true, Bool.and_eq_false_iff, Bool.or_eq_false_iff, decide_eq_true_eq, decide_eq_false_iff_not] at c3
        refine hR.run0 3 (S' := (60, [some (vR 100), some (vI h), some (vI g), some (vI n)], [], pset (mW τ (sS ρ 0 0)) 100 (.inr (6, [vR 101, vR 102, vI (τ.1 5), vR 103, vR 104, vR 105, vR 106, vI (τ.1 0), vI (τ.1 1), vI (τ.1 2), vI (τ.1 3), vR 107, vR 108, vI (τ.1 6), vI (τ.1 7), vR 109, vI (τ.1 8), vI (τ.1 4), vI (τ.1 9), vI (τ.1 10), vR 110, vR 111, vR 112, vR 113, vR 114, vI 2])))) rfl ?_
        rw [mW_x0]
        rw [sS_sS]
        show G (60, [some (vR 100), some (vI h), some (vI g), some (vI n)], [], mW τ (sS ρ 0 2))
        have hx : xLay τ h g n = (2, 0, τ) := by unfold xLay; (repeat' split) <;> first | rfl | (exfalso; omega) | (exfalso; simp_all; done) | (simp_all; done) | (exfalso; simp_all; omega)
        exact hR.rt rfl trivial rfl (by rw [hx])
      · replace c3 : (decide (0 ≤ g) && decide (g ≤ 5)) = true := bI1 c3
        try simp only [Bool.and_eq_true, Bool.or_eq_true, Bool.and_eq_false_iff, Bool.or_eq_false_iff, decide_eq_true_eq, decide_eq_false_iff_not] at c3
        refine hR.run0 3 (S' := (25, [some (vR 100), some (vI h), some (vI g), some (vI n)], [vI 12, vI 2, vI n], mW τ (sS ρ 0 0))) rfl ?_
        refine hR.cs [vI n, vI 2, vI 12] kX6_131 rfl rfl (by first | decide | exact Nat.le_refl _) (by decide) (Nat.le_of_ble_eq_true rfl) rfl (sr_in _ _ (by omega) (by omega) (by omega)) ?_
        show G (28, [some (vR 100), some (vI h), some (vI g), some (vI n)], [vI (bI (decide (2 ≤ n) && decide (n ≤ 12)))], mW τ (sS ρ 0 0))
        refine hR.br (C := bI (decide (2 ≤ n) && decide (n ≤ 12)) = 0) rfl (bI_r _) (fun c4 => ?_) (fun c4 => ?_)
        · replace c4 : (decide (2 ≤ n) && decide (n ≤ 12)) = false := bI0 c4
          try simp only [Bool.and_eq_true, Bool.or_eq_true, Bool.and_eq_false_iff, Bool.or_eq_false_iff, decide_eq_true_eq, decide_eq_false_iff_not] at c4
          refine hR.run0 3 (S' := (60, [some (vR 100), some (vI h), some (vI g), some (vI n)], [], pset (mW τ (sS ρ 0 0)) 100 (.inr (6, [vR 101, vR 102, vI (τ.1 5), vR 103, vR 104, vR 105, vR 106, vI (τ.1 0), vI (τ.1 1), vI (τ.1 2), vI (τ.1 3), vR 107, vR 108, vI (τ.1 6), vI (τ.1 7), vR 109, vI (τ.1 8), vI (τ.1 4), vI (τ.1 9), vI (τ.1 10), vR 110, vR 111, vR 112, vR 113, vR 114, vI 2])))) rfl ?_
          rw [mW_x0]
          rw [sS_sS]
          show G (60, [some (vR 100), some (vI h), some (vI g), some (vI n)], [], mW τ (sS ρ 0 2))
          have hx : xLay τ h g n = (2, 0, τ) := by unfold xLay; (repeat' split) <;> first | rfl | (exfalso; omega) | (exfalso; simp_all; done) | (simp_all; done) | (exfalso; simp_all; omega)
          exact hR.rt rfl trivial rfl (by rw [hx])
        · replace c4 : (decide (2 ≤ n) && decide (n ≤ 12)) = true := bI1 c4
          try simp only [Bool.and_eq_true, Bool.or_eq_true, Bool.and_eq_false_iff, Bool.or_eq_false_iff, decide_eq_true_eq, decide_eq_false_iff_not] at c4
          refine hR.run0 2 (S' := (34, [some (vR 100), some (vI h), some (vI g), some (vI n)], [vI 7, vI n], mW τ (sS ρ 0 0))) rfl ?_
          refine hR.br (C := n ≠ 7) rfl (by first | omega | (dsimp only [plus1]; omega) | (simp [plus1, sHt, sH, sS, sAt, sA, sup]; done) | (simp [plus1, sHt, sH, sS, sAt, sA, sup]; omega)) (fun c5 => ?_) (fun c5 => ?_)
          · skip
            refine hR.run0 3 (S' := (44, [some (vR 100), some (vI h), some (vI g), some (vI n)], [vI 5, vI g, vI 0], mW τ (sS ρ 0 0))) rfl ?_
            refine hR.br (C := g ≠ 5) rfl (by first | omega | (dsimp only [plus1]; omega) | (simp [plus1, sHt, sH, sS, sAt, sA, sup]; done) | (simp [plus1, sHt, sH, sS, sAt, sA, sup]; omega)) (fun c6 => ?_) (fun c6 => ?_)
            · skip
              refine hR.run0 1 (S' := (52, [some (vR 100), some (vI h), some (vI g), some (vI n)], [vI 0, vI 0], mW τ (sS ρ 0 0))) rfl ?_
              refine hR.br (C := 0 = 0) rfl (by first | omega | (dsimp only [plus1]; omega) | (simp [plus1, sHt, sH, sS, sAt, sA, sup]; done) | (simp [plus1, sHt, sH, sS, sAt, sA, sup]; omega)) (fun c7 => ?_) (fun c7 => ?_)
              · skip
                refine hR.run0 2 (S' := (65, [some (vR 100), some (vI h), some (vI g), some (vI n)], [vI (τ.1 2)], mW τ (sS ρ 0 0))) rfl ?_
                refine hR.br (C := τ.1 2 ≤ 0) rfl (by first | omega | (dsimp only [plus1]; omega) | (simp [plus1, sHt, sH, sS, sAt, sA, sup]; done) | (simp [plus1, sHt, sH, sS, sAt, sA, sup]; omega)) (fun c8 => ?_) (fun c8 => ?_)
                · skip
                  refine hR.run1 5 (S' := (81, [some (vR 100), some (vI h), some (vI g), some (vI n)], [], pset (mW τ (sS ρ 0 0)) 101 (.inl (7, .inl (pup (τ.2.1 0) h g))))) rfl (by first | omega | (dsimp only [plus1]; omega) | (simp [plus1, sHt, sH, sS, sAt, sA, sup]; done) | (simp [plus1, sHt, sH, sS, sAt, sA, sup]; omega)) ?_
                  rw [mW_a0]
                  refine hR.run1 5 (S' := (88, [some (vR 100), some (vI h), some (vI g), some (vI n)], [], pset (mW (sAt τ 0 h g) (sS ρ 0 0)) 102 (.inl (7, .inl (pup ((sAt τ 0 h g).2.1 1) h n))))) rfl (by first | omega | (dsimp only [plus1]; omega) | (simp [plus1, sHt, sH, sS, sAt, sA, sup]; done) | (simp [plus1, sHt, sH, sS, sAt, sA, sup]; omega)) ?_
                  rw [mW_a1]
                  have hx : xLay τ h g n = (0, 0, sAt (sAt τ 0 h g) 1 h n) := by unfold xLay; (repeat' split) <;> first | rfl | (exfalso; omega) | (exfalso; simp_all; done) | (simp_all; done) | (exfalso; simp_all; omega)
                  exact hR.rt rfl trivial rfl (by rw [hx])
                · skip
                  refine hR.run0 3 (S' := (73, [some (vR 100), some (vI h), some (vI g), some (vI n)], [], pset (mW τ (sS ρ 0 0)) 100 (.inr (6, [vR 101, vR 102, vI (τ.1 5), vR 103, vR 104, vR 105, vR 106, vI (τ.1 0), vI (τ.1 1), vI (τ.1 2), vI (τ.1 3), vR 107, vR 108, vI (τ.1 6), vI (τ.1 7), vR 109, vI (τ.1 8), vI (τ.1 4), vI (τ.1 9), vI (τ.1 10), vR 110, vR 111, vR 112, vR 113, vR 114, vI 3])))) rfl ?_
                  rw [mW_x0]
                  rw [sS_sS]
                  show G (73, [some (vR 100), some (vI h), some (vI g), some (vI n)], [], mW τ (sS ρ 0 3))
                  have hx : xLay τ h g n = (3, 0, τ) := by unfold xLay; (repeat' split) <;> first | rfl | (exfalso; omega) | (exfalso; simp_all; done) | (simp_all; done) | (exfalso; simp_all; omega)
                  exact hR.rt rfl trivial rfl (by rw [hx])
              · exfalso; omega
            · skip
              refine hR.run0 2 (S' := (52, [some (vR 100), some (vI h), some (vI g), some (vI n)], [vI 1, vI 0], mW τ (sS ρ 0 0))) rfl ?_
              refine hR.br (C := 0 = 1) rfl (by first | omega | (dsimp only [plus1]; omega) | (simp [plus1, sHt, sH, sS, sAt, sA, sup]; done) | (simp [plus1, sHt, sH, sS, sAt, sA, sup]; omega)) (fun c9 => ?_) (fun c9 => ?_)
              · exfalso; omega
              refine hR.run0 3 (S' := (60, [some (vR 100), some (vI h), some (vI g), some (vI n)], [], pset (mW τ (sS ρ 0 0)) 100 (.inr (6, [vR 101, vR 102, vI (τ.1 5), vR 103, vR 104, vR 105, vR 106, vI (τ.1 0), vI (τ.1 1), vI (τ.1 2), vI (τ.1 3), vR 107, vR 108, vI (τ.1 6), vI (τ.1 7), vR 109, vI (τ.1 8), vI (τ.1 4), vI (τ.1 9), vI (τ.1 10), vR 110, vR 111, vR 112, vR 113, vR 114, vI 2])))) rfl ?_
              rw [mW_x0]
              rw [sS_sS]
              show G (60, [some (vR 100), some (vI h), some (vI g), some (vI n)], [], mW τ (sS ρ 0 2))
              have hx : xLay τ h g n = (2, 0, τ) := by unfold xLay; (repeat' split) <;> first | rfl | (exfalso; omega) | (exfalso; simp_all; done) | (simp_all; done) | (exfalso; simp_all; omega)
              exact hR.rt rfl trivial rfl (by rw [hx])
          · skip
            refine hR.run0 4 (S' := (44, [some (vR 100), some (vI h), some (vI g), some (vI n)], [vI 5, vI g, vI 1], mW τ (sS ρ 0 0))) rfl ?_
            refine hR.br (C := g ≠ 5) rfl (by first | omega | (dsimp only [plus1]; omega) | (simp [plus1, sHt, sH, sS, sAt, sA, sup]; done) | (simp [plus1, sHt, sH, sS, sAt, sA, sup]; omega)) (fun c10 => ?_) (fun c10 => ?_)
            · skip
              refine hR.run0 1 (S' := (52, [some (vR 100), some (vI h), some (vI g), some (vI n)], [vI 0, vI 1], mW τ (sS ρ 0 0))) rfl ?_
              refine hR.br (C := 1 = 0) rfl (by first | omega | (dsimp only [plus1]; omega) | (simp [plus1, sHt, sH, sS, sAt, sA, sup]; done) | (simp [plus1, sHt, sH, sS, sAt, sA, sup]; omega)) (fun c11 => ?_) (fun c11 => ?_)
              · exfalso; omega
              refine hR.run0 3 (S' := (60, [some (vR 100), some (vI h), some (vI g), some (vI n)], [], pset (mW τ (sS ρ 0 0)) 100 (.inr (6, [vR 101, vR 102, vI (τ.1 5), vR 103, vR 104, vR 105, vR 106, vI (τ.1 0), vI (τ.1 1), vI (τ.1 2), vI (τ.1 3), vR 107, vR 108, vI (τ.1 6), vI (τ.1 7), vR 109, vI (τ.1 8), vI (τ.1 4), vI (τ.1 9), vI (τ.1 10), vR 110, vR 111, vR 112, vR 113, vR 114, vI 2])))) rfl ?_
              rw [mW_x0]
              rw [sS_sS]
              show G (60, [some (vR 100), some (vI h), some (vI g), some (vI n)], [], mW τ (sS ρ 0 2))
              have hx : xLay τ h g n = (2, 0, τ) := by unfold xLay; (repeat' split) <;> first | rfl | (exfalso; omega) | (exfalso; simp_all; done) | (simp_all; done) | (exfalso; simp_all; omega)
              exact hR.rt rfl trivial rfl (by rw [hx])
            · skip
              refine hR.run0 2 (S' := (52, [some (vR 100), some (vI h), some (vI g), some (vI n)], [vI 1, vI 1], mW τ (sS ρ 0 0))) rfl ?_
              refine hR.br (C := 1 = 1) rfl (by first | omega | (dsimp only [plus1]; omega) | (simp [plus1, sHt, sH, sS, sAt, sA, sup]; done) | (simp [plus1, sHt, sH, sS, sAt, sA, sup]; omega)) (fun c12 => ?_) (fun c12 => ?_)
              · skip
                refine hR.run0 2 (S' := (65, [some (vR 100), some (vI h), some (vI g), some (vI n)], [vI (τ.1 2)], mW τ (sS ρ 0 0))) rfl ?_
                refine hR.br (C := τ.1 2 ≤ 0) rfl (by first | omega | (dsimp only [plus1]; omega) | (simp [plus1, sHt, sH, sS, sAt, sA, sup]; done) | (simp [plus1, sHt, sH, sS, sAt, sA, sup]; omega)) (fun c13 => ?_) (fun c13 => ?_)
                · skip
                  refine hR.run1 5 (S' := (81, [some (vR 100), some (vI h), some (vI g), some (vI n)], [], pset (mW τ (sS ρ 0 0)) 101 (.inl (7, .inl (pup (τ.2.1 0) h g))))) rfl (by first | omega | (dsimp only [plus1]; omega) | (simp [plus1, sHt, sH, sS, sAt, sA, sup]; done) | (simp [plus1, sHt, sH, sS, sAt, sA, sup]; omega)) ?_
                  rw [mW_a0]
                  refine hR.run1 5 (S' := (88, [some (vR 100), some (vI h), some (vI g), some (vI n)], [], pset (mW (sAt τ 0 h g) (sS ρ 0 0)) 102 (.inl (7, .inl (pup ((sAt τ 0 h g).2.1 1) h n))))) rfl (by first | omega | (dsimp only [plus1]; omega) | (simp [plus1, sHt, sH, sS, sAt, sA, sup]; done) | (simp [plus1, sHt, sH, sS, sAt, sA, sup]; omega)) ?_
                  rw [mW_a1]
                  have hx : xLay τ h g n = (0, 0, sAt (sAt τ 0 h g) 1 h n) := by unfold xLay; (repeat' split) <;> first | rfl | (exfalso; omega) | (exfalso; simp_all; done) | (simp_all; done) | (exfalso; simp_all; omega)
                  exact hR.rt rfl trivial rfl (by rw [hx])
                · skip
                  refine hR.run0 3 (S' := (73, [some (vR 100), some (vI h), some (vI g), some (vI n)], [], pset (mW τ (sS ρ 0 0)) 100 (.inr (6, [vR 101, vR 102, vI (τ.1 5), vR 103, vR 104, vR 105, vR 106, vI (τ.1 0), vI (τ.1 1), vI (τ.1 2), vI (τ.1 3), vR 107, vR 108, vI (τ.1 6), vI (τ.1 7), vR 109, vI (τ.1 8), vI (τ.1 4), vI (τ.1 9), vI (τ.1 10), vR 110, vR 111, vR 112, vR 113, vR 114, vI 3])))) rfl ?_
                  rw [mW_x0]
                  rw [sS_sS]
                  show G (73, [some (vR 100), some (vI h), some (vI g), some (vI n)], [], mW τ (sS ρ 0 3))
                  have hx : xLay τ h g n = (3, 0, τ) := by unfold xLay; (repeat' split) <;> first | rfl | (exfalso; omega) | (exfalso; simp_all; done) | (simp_all; done) | (exfalso; simp_all; omega)
                  exact hR.rt rfl trivial rfl (by rw [hx])
              · exfalso; omega
    · exfalso; omega
  · replace q1 := Bool.eq_false_iff.mpr q1
    have q1b := q1
    try simp only [Bool.and_eq_true, Bool.or_eq_true, Bool.and_eq_false_iff, Bool.or_eq_false_iff, decide_eq_true_eq, decide_eq_false_iff_not] at q1
    refine hR.cv [vI (bI (decide (0 ≤ h) && decide (h < 7)))] kX6_127 rfl rfl ⟨_, _, _, rfl, rfl, rfl⟩ (by first | decide | exact Nat.le_refl _) (by decide) (Nat.le_of_ble_eq_true rfl) rfl (sr_asksb_f _ _ q1b) ?_
    show G (8, [some (vR 100), some (vI h), some (vI g), some (vI n)], [vI 0], mW τ (sS ρ 0 1))
    refine hR.br (C := 0 ≠ 0) rfl (by first | omega | (dsimp only [plus1]; omega) | (simp [plus1, sHt, sH, sS, sAt, sA, sup]; done) | (simp [plus1, sHt, sH, sS, sAt, sA, sup]; omega)) (fun c14 => ?_) (fun c14 => ?_)
    · exfalso; omega
    have hx : xLay τ h g n = (1, 0, τ) := by unfold xLay; (repeat' split) <;> first | rfl | (exfalso; omega) | (exfalso; simp_all; done) | (simp_all; done) | (exfalso; simp_all; omega)
    exact hR.rt rfl trivial rfl (by rw [hx])
theorem pX6_deal (τ ρ : St) {p n : Int} (hp : -2147483648 ≤ p ∧ p ≤ 2147483647) (hn0 : -2147483648 ≤ n ∧ n ≤ 2147483647) (hI : Iv τ)  : Sp mX6_deal roC 2 [vR 100, vI p, vI n] (mW τ ρ) (.inl (some (vI (xDeal τ p n).2.1))) (mW (xDeal τ p n).2.2 (sS ρ 0 (xDeal τ p n).1)) := by
  have hb := hI.hb
  have hr := hI.hr
  have hg := hI.hg
  have hn := hI.hn
  have h7 := hI.h7
  have hh := hI.hh
  have hsm := hI.hsm
  have hcd := hI.hcd
  have hfr := hI.hfr
  have hkn := hI.hkn
  have hbo := hI.hbo
  have hus := hI.hus
  have hro := hI.hro
  have har := hI.har
  have hth := hI.hth
  have hph := hI.hph
  have htu := hI.htu
  have hrb := hI.hrb
  have hpl := hI.hpl
  have hdu := hI.hdu
  have hdp := hI.hdp
  have hof := hI.hof
  have how := hI.how
  have hga := hI.hga
  have hwa := hI.hwa
  have hck := hI.hck
  have hkz := hI.hkz
  have hcb := hI.hcb
  have hfb := hI.hfb
  have hnr := hI.hnr
  have hpq := hI.hpq
  have hrc := hI.hrc
  have hbc := hI.hbc
  have hcc := hI.hcc
  have hac := hI.hac
  refine Sp.of (lk := lkX6) (tb := bX6_deal) (by decide) lkX6_ok tX6_deal (mW_keys _ _ _ _) (Nat.le_of_ble_eq_true rfl) (fun G hR => ?_)
  refine hR.run0 2 (S' := (2, [some (vR 100), some (vI p), some (vI n)], [vI p, vR 100], mW τ ρ)) rfl ?_
  refine hR.cs [vI p] kX6_159 rfl rfl (by first | decide | exact Nat.le_refl _) (by decide) (Nat.le_of_ble_eq_true rfl) rfl (sr_isPlayer _ _ (by omega)) ?_
  show G (5, [some (vR 100), some (vI p), some (vI n)], [vI (bI (decide (0 ≤ p) && decide (p < 3))), vR 100], mW τ ρ)
  by_cases q1 : (decide (0 ≤ p) && decide (p < 3)) = true
  · skip
    have q1b := q1
    try simp only [Bool.and_eq_true, Bool.or_eq_true, Bool.and_eq_false_iff, Bool.or_eq_false_iff, decide_eq_true_eq, decide_eq_false_iff_not] at q1
    refine hR.cv [vI (bI (decide (0 ≤ p) && decide (p < 3)))] kX6_127 rfl rfl ⟨_, _, _, rfl, rfl, rfl⟩ (by first | decide | exact Nat.le_refl _) (by decide) (Nat.le_of_ble_eq_true rfl) rfl (sr_asksb_t _ _ q1b) ?_
    show G (8, [some (vR 100), some (vI p), some (vI n)], [vI 1], mW τ (sS ρ 0 0))
    refine hR.br (C := 1 ≠ 0) rfl (by first | omega | (dsimp only [plus1]; omega) | (simp [plus1, sHt, sH, sS, sAt, sA, sup]; done) | (simp [plus1, sHt, sH, sS, sAt, sA, sup]; omega)) (fun c2 => ?_) (fun c2 => ?_)
    · skip
      refine hR.run0 1 (S' := (14, [some (vR 100), some (vI p), some (vI n)], [vI n], mW τ (sS ρ 0 0))) rfl ?_
      refine hR.cs [vI n] kX6_162 rfl rfl (by first | decide | exact Nat.le_refl _) (by decide) (Nat.le_of_ble_eq_true rfl) rfl (sr_areGoods _ _ (by omega)) ?_
      show G (17, [some (vR 100), some (vI p), some (vI n)], [vI (bI (decide (0 ≤ n) && decide (n ≤ 99999)))], mW τ (sS ρ 0 0))
      refine hR.br (C := bI (decide (0 ≤ n) && decide (n ≤ 99999)) ≠ 0) rfl (bI_r _) (fun c3 => ?_) (fun c3 => ?_)
      · replace c3 : (decide (0 ≤ n) && decide (n ≤ 99999)) = true := bI1 c3
        try simp only [Bool.and_eq_true, Bool.or_eq_true, Bool.and_eq_false_iff, Bool.or_eq_false_iff, decide_eq_true_eq, decide_eq_false_iff_not] at c3
        refine hR.run0 2 (S' := (30, [some (vR 100), some (vI p), some (vI n)], [vI (τ.1 3)], mW τ (sS ρ 0 0))) rfl ?_
        refine hR.br (C := τ.1 3 ≠ 0) rfl (by first | omega | (dsimp only [plus1]; omega) | (simp [plus1, sHt, sH, sS, sAt, sA, sup]; done) | (simp [plus1, sHt, sH, sS, sAt, sA, sup]; omega)) (fun c4 => ?_) (fun c4 => ?_)
        · skip
          refine hR.run0 2 (S' := (52, [some (vR 100), some (vI p), some (vI n)], [vI 3, vR 100], mW τ (sS ρ 0 0))) rfl ?_
          refine hR.cv [vI 3] kX6_149 rfl rfl ⟨_, _, _, rfl, rfl, rfl⟩ (by first | decide | exact Nat.le_refl _) (by decide) (Nat.le_of_ble_eq_true rfl) rfl (sr_fails _ _ _) ?_
          show G (55, [some (vR 100), some (vI p), some (vI n)], [vI 0], mW τ (sS (sS ρ 0 0) 0 3))
          rw [sS_sS]
          show G (55, [some (vR 100), some (vI p), some (vI n)], [vI 0], mW τ (sS ρ 0 3))
          have hx : xDeal τ p n = (3, 0, τ) := by unfold xDeal; (repeat' split) <;> first | rfl | (exfalso; omega) | (exfalso; simp_all; done) | (simp_all; done) | (exfalso; simp_all; omega)
          exact hR.rt rfl trivial (by rw [hx]) (by rw [hx])
        · skip
          refine hR.run0 3 (S' := (36, [some (vR 100), some (vI p), some (vI n)], [vI n, vI 3, vR 100], mW τ (sS ρ 0 0))) rfl ?_
          refine hR.cv [vI 3, vI n] kX6_169 rfl rfl ⟨_, _, _, rfl, rfl, rfl⟩ (by first | decide | exact Nat.le_refl _) (by decide) (Nat.le_of_ble_eq_true rfl) rfl (sr_hasAll _ _ (by omega) (by omega) hh) ?_
          show G (39, [some (vR 100), some (vI p), some (vI n)], [vI (bI (hasG (τ.2.2 0) 3 n))], mW τ (sS ρ 0 0))
          refine hR.br (C := bI (hasG (τ.2.2 0) 3 n) = 0) rfl (bI_r _) (fun c5 => ?_) (fun c5 => ?_)
          · replace c5 : (hasG (τ.2.2 0) 3 n) = false := bI0 c5
            try simp only [Bool.and_eq_true, Bool.or_eq_true, Bool.and_eq_false_iff, Bool.or_eq_false_iff, decide_eq_true_eq, decide_eq_false_iff_not] at c5
            refine hR.run0 2 (S' := (52, [some (vR 100), some (vI p), some (vI n)], [vI 3, vR 100], mW τ (sS ρ 0 0))) rfl ?_
            refine hR.cv [vI 3] kX6_149 rfl rfl ⟨_, _, _, rfl, rfl, rfl⟩ (by first | decide | exact Nat.le_refl _) (by decide) (Nat.le_of_ble_eq_true rfl) rfl (sr_fails _ _ _) ?_
            show G (55, [some (vR 100), some (vI p), some (vI n)], [vI 0], mW τ (sS (sS ρ 0 0) 0 3))
            rw [sS_sS]
            show G (55, [some (vR 100), some (vI p), some (vI n)], [vI 0], mW τ (sS ρ 0 3))
            have hx : xDeal τ p n = (3, 0, τ) := by unfold xDeal; (repeat' split) <;> first | rfl | (exfalso; omega) | (exfalso; simp_all; done) | (simp_all; done) | (exfalso; simp_all; omega)
            exact hR.rt rfl trivial (by rw [hx]) (by rw [hx])
          · replace c5 : (hasG (τ.2.2 0) 3 n) = true := bI1 c5
            try simp only [Bool.and_eq_true, Bool.or_eq_true, Bool.and_eq_false_iff, Bool.or_eq_false_iff, decide_eq_true_eq, decide_eq_false_iff_not] at c5
            refine hR.run0 3 (S' := (47, [some (vR 100), some (vI p), some (vI n)], [vI 5, vI (τ.1 0)], mW τ (sS ρ 0 0))) rfl ?_
            refine hR.br (C := τ.1 0 ≠ 5) rfl (by first | omega | (dsimp only [plus1]; omega) | (simp [plus1, sHt, sH, sS, sAt, sA, sup]; done) | (simp [plus1, sHt, sH, sS, sAt, sA, sup]; omega)) (fun c6 => ?_) (fun c6 => ?_)
            · skip
              refine hR.run0 4 (S' := (60, [some (vR 100), some (vI p), some (vI n)], [vI n, vI p, vI 3, vR 100], mW τ (sS ρ 0 0))) rfl ?_
              refine hR.cv [vI 3, vI p, vI n] kX6_172 rfl rfl ⟨_, _, _, rfl, rfl, rfl⟩ (by first | decide | exact Nat.le_refl _) (by decide) (Nat.le_of_ble_eq_true rfl) rfl (sr_gives _ _ (by omega) (by omega) (by omega)) ?_
              show G (63, [some (vR 100), some (vI p), some (vI n)], [], mW (mvA τ 3 p n) (sS ρ 0 0))
              have ez1 : (mvA τ 3 p n).1 1 = τ.1 1 := rfl
              refine hR.run0 2 (S' := (65, [some (vR 100), some (vI p), some (vI n)], [vI p, vR 100], mW (mvA τ 3 p n) (sS ρ 0 0))) rfl ?_
              refine hR.cv [vI p] kX6_175 rfl rfl ⟨_, _, _, rfl, rfl, rfl⟩ (by first | decide | exact Nat.le_refl _) (by decide) (Nat.le_of_ble_eq_true rfl) rfl (sr_handOf _ _ (by omega) (HH_mvA hI.hH (by omega) (by omega) (by assumption)).1) ?_
              show G (68, [some (vR 100), some (vI p), some (vI n)], [vI (tot ((mvA τ 3 p n).2.2 0) p)], mW (mvA τ 3 p n) (sS ρ 0 0))
              have hx : xDeal τ p n = (0, tot ((mvA τ 3 p n).2.2 0) p, mvA τ 3 p n) := by unfold xDeal; (repeat' split) <;> first | rfl | (exfalso; omega) | (exfalso; simp_all; done) | (simp_all; done) | (exfalso; simp_all; omega)
              exact hR.rt rfl trivial (by rw [hx]) (by rw [hx])
            · skip
              refine hR.run0 2 (S' := (52, [some (vR 100), some (vI p), some (vI n)], [vI 3, vR 100], mW τ (sS ρ 0 0))) rfl ?_
              refine hR.cv [vI 3] kX6_149 rfl rfl ⟨_, _, _, rfl, rfl, rfl⟩ (by first | decide | exact Nat.le_refl _) (by decide) (Nat.le_of_ble_eq_true rfl) rfl (sr_fails _ _ _) ?_
              show G (55, [some (vR 100), some (vI p), some (vI n)], [vI 0], mW τ (sS (sS ρ 0 0) 0 3))
              rw [sS_sS]
              show G (55, [some (vR 100), some (vI p), some (vI n)], [vI 0], mW τ (sS ρ 0 3))
              have hx : xDeal τ p n = (3, 0, τ) := by unfold xDeal; (repeat' split) <;> first | rfl | (exfalso; omega) | (exfalso; simp_all; done) | (simp_all; done) | (exfalso; simp_all; omega)
              exact hR.rt rfl trivial (by rw [hx]) (by rw [hx])
      · replace c3 : (decide (0 ≤ n) && decide (n ≤ 99999)) = false := bI0 (Classical.not_not.mp c3)
        try simp only [Bool.and_eq_true, Bool.or_eq_true, Bool.and_eq_false_iff, Bool.or_eq_false_iff, decide_eq_true_eq, decide_eq_false_iff_not] at c3
        refine hR.run0 2 (S' := (22, [some (vR 100), some (vI p), some (vI n)], [vI 2, vR 100], mW τ (sS ρ 0 0))) rfl ?_
        refine hR.cv [vI 2] kX6_149 rfl rfl ⟨_, _, _, rfl, rfl, rfl⟩ (by first | decide | exact Nat.le_refl _) (by decide) (Nat.le_of_ble_eq_true rfl) rfl (sr_fails _ _ _) ?_
        show G (25, [some (vR 100), some (vI p), some (vI n)], [vI 0], mW τ (sS (sS ρ 0 0) 0 2))
        rw [sS_sS]
        show G (25, [some (vR 100), some (vI p), some (vI n)], [vI 0], mW τ (sS ρ 0 2))
        have hx : xDeal τ p n = (2, 0, τ) := by unfold xDeal; (repeat' split) <;> first | rfl | (exfalso; omega) | (exfalso; simp_all; done) | (simp_all; done) | (exfalso; simp_all; omega)
        exact hR.rt rfl trivial (by rw [hx]) (by rw [hx])
    · exfalso; omega
  · replace q1 := Bool.eq_false_iff.mpr q1
    have q1b := q1
    try simp only [Bool.and_eq_true, Bool.or_eq_true, Bool.and_eq_false_iff, Bool.or_eq_false_iff, decide_eq_true_eq, decide_eq_false_iff_not] at q1
    refine hR.cv [vI (bI (decide (0 ≤ p) && decide (p < 3)))] kX6_127 rfl rfl ⟨_, _, _, rfl, rfl, rfl⟩ (by first | decide | exact Nat.le_refl _) (by decide) (Nat.le_of_ble_eq_true rfl) rfl (sr_asksb_f _ _ q1b) ?_
    show G (8, [some (vR 100), some (vI p), some (vI n)], [vI 0], mW τ (sS ρ 0 1))
    refine hR.br (C := 0 ≠ 0) rfl (by first | omega | (dsimp only [plus1]; omega) | (simp [plus1, sHt, sH, sS, sAt, sA, sup]; done) | (simp [plus1, sHt, sH, sS, sAt, sA, sup]; omega)) (fun c7 => ?_) (fun c7 => ?_)
    · exfalso; omega
    refine hR.run0 1 (S' := (12, [some (vR 100), some (vI p), some (vI n)], [vI 0], mW τ (sS ρ 0 1))) rfl ?_
    have hx : xDeal τ p n = (1, 0, τ) := by unfold xDeal; (repeat' split) <;> first | rfl | (exfalso; omega) | (exfalso; simp_all; done) | (simp_all; done) | (exfalso; simp_all; omega)
    exact hR.rt rfl trivial (by rw [hx]) (by rw [hx])
theorem pX6_discard (τ ρ : St) {p n : Int} (hp : -2147483648 ≤ p ∧ p ≤ 2147483647) (hn0 : -2147483648 ≤ n ∧ n ≤ 2147483647) (hI : Iv τ)  : Sp mX6_discard roC 2 [vR 100, vI p, vI n] (mW τ ρ) (.inl (some (vI (xDisc τ p n).2.1))) (mW (xDisc τ p n).2.2 (sS ρ 0 (xDisc τ p n).1)) := by
  have hb := hI.hb
  have hr := hI.hr
  have hg := hI.hg
  have hn := hI.hn
  have h7 := hI.h7
  have hh := hI.hh
  have hsm := hI.hsm
  have hcd := hI.hcd
  have hfr := hI.hfr
  have hkn := hI.hkn
  have hbo := hI.hbo
  have hus := hI.hus
  have hro := hI.hro
  have har := hI.har
  have hth := hI.hth
  have hph := hI.hph
  have htu := hI.htu
  have hrb := hI.hrb
  have hpl := hI.hpl
  have hdu := hI.hdu
  have hdp := hI.hdp
  have hof := hI.hof
  have how := hI.how
  have hga := hI.hga
  have hwa := hI.hwa
  have hck := hI.hck
  have hkz := hI.hkz
  have hcb := hI.hcb
  have hfb := hI.hfb
  have hnr := hI.hnr
  have hpq := hI.hpq
  have hrc := hI.hrc
  have hbc := hI.hbc
  have hcc := hI.hcc
  have hac := hI.hac
  refine Sp.of (lk := lkX6) (tb := bX6_discard) (by decide) lkX6_ok tX6_discard (mW_keys _ _ _ _) (Nat.le_of_ble_eq_true rfl) (fun G hR => ?_)
  refine hR.run0 2 (S' := (2, [some (vR 100), some (vI p), some (vI n)], [vI p, vR 100], mW τ ρ)) rfl ?_
  refine hR.cs [vI p] kX6_159 rfl rfl (by first | decide | exact Nat.le_refl _) (by decide) (Nat.le_of_ble_eq_true rfl) rfl (sr_isPlayer _ _ (by omega)) ?_
  show G (5, [some (vR 100), some (vI p), some (vI n)], [vI (bI (decide (0 ≤ p) && decide (p < 3))), vR 100], mW τ ρ)
  by_cases q1 : (decide (0 ≤ p) && decide (p < 3)) = true
  · skip
    have q1b := q1
    try simp only [Bool.and_eq_true, Bool.or_eq_true, Bool.and_eq_false_iff, Bool.or_eq_false_iff, decide_eq_true_eq, decide_eq_false_iff_not] at q1
    refine hR.cv [vI (bI (decide (0 ≤ p) && decide (p < 3)))] kX6_127 rfl rfl ⟨_, _, _, rfl, rfl, rfl⟩ (by first | decide | exact Nat.le_refl _) (by decide) (Nat.le_of_ble_eq_true rfl) rfl (sr_asksb_t _ _ q1b) ?_
    show G (8, [some (vR 100), some (vI p), some (vI n)], [vI 1], mW τ (sS ρ 0 0))
    refine hR.br (C := 1 ≠ 0) rfl (by first | omega | (dsimp only [plus1]; omega) | (simp [plus1, sHt, sH, sS, sAt, sA, sup]; done) | (simp [plus1, sHt, sH, sS, sAt, sA, sup]; omega)) (fun c2 => ?_) (fun c2 => ?_)
    · skip
      refine hR.run0 1 (S' := (14, [some (vR 100), some (vI p), some (vI n)], [vI n], mW τ (sS ρ 0 0))) rfl ?_
      refine hR.cs [vI n] kX6_162 rfl rfl (by first | decide | exact Nat.le_refl _) (by decide) (Nat.le_of_ble_eq_true rfl) rfl (sr_areGoods _ _ (by omega)) ?_
      show G (17, [some (vR 100), some (vI p), some (vI n)], [vI (bI (decide (0 ≤ n) && decide (n ≤ 99999)))], mW τ (sS ρ 0 0))
      refine hR.br (C := bI (decide (0 ≤ n) && decide (n ≤ 99999)) ≠ 0) rfl (bI_r _) (fun c3 => ?_) (fun c3 => ?_)
      · replace c3 : (decide (0 ≤ n) && decide (n ≤ 99999)) = true := bI1 c3
        try simp only [Bool.and_eq_true, Bool.or_eq_true, Bool.and_eq_false_iff, Bool.or_eq_false_iff, decide_eq_true_eq, decide_eq_false_iff_not] at c3
        refine hR.run0 3 (S' := (31, [some (vR 100), some (vI p), some (vI n)], [vI 3, vI (τ.1 0)], mW τ (sS ρ 0 0))) rfl ?_
        refine hR.br (C := τ.1 0 ≠ 3) rfl (by first | omega | (dsimp only [plus1]; omega) | (simp [plus1, sHt, sH, sS, sAt, sA, sup]; done) | (simp [plus1, sHt, sH, sS, sAt, sA, sup]; omega)) (fun c4 => ?_) (fun c4 => ?_)
        · skip
          refine hR.run0 2 (S' := (67, [some (vR 100), some (vI p), some (vI n)], [vI 3, vR 100], mW τ (sS ρ 0 0))) rfl ?_
          refine hR.cv [vI 3] kX6_149 rfl rfl ⟨_, _, _, rfl, rfl, rfl⟩ (by first | decide | exact Nat.le_refl _) (by decide) (Nat.le_of_ble_eq_true rfl) rfl (sr_fails _ _ _) ?_
          show G (70, [some (vR 100), some (vI p), some (vI n)], [vI 0], mW τ (sS (sS ρ 0 0) 0 3))
          rw [sS_sS]
          show G (70, [some (vR 100), some (vI p), some (vI n)], [vI 0], mW τ (sS ρ 0 3))
          have hx : xDisc τ p n = (3, 0, τ) := by unfold xDisc; (repeat' split) <;> first | rfl | (exfalso; omega) | (exfalso; simp_all; done) | (exfalso; simp_all; omega)
          exact hR.rt rfl trivial (by rw [hx]) (by rw [hx])
        · skip
          have f1 := hdu p
          refine hR.run1 4 (S' := (40, [some (vR 100), some (vI p), some (vI n)], [vI (τ.2.1 4 p)], mW τ (sS ρ 0 0))) rfl (by first | omega | (dsimp only [plus1]; omega) | (simp [plus1, sHt, sH, sS, sAt, sA, sup]; done) | (simp [plus1, sHt, sH, sS, sAt, sA, sup]; omega)) ?_
          refine hR.br (C := τ.2.1 4 p = 0) rfl (by first | omega | (dsimp only [plus1]; omega) | (simp [plus1, sHt, sH, sS, sAt, sA, sup]; done) | (simp [plus1, sHt, sH, sS, sAt, sA, sup]; omega)) (fun c5 => ?_) (fun c5 => ?_)
          · skip
            refine hR.run0 2 (S' := (67, [some (vR 100), some (vI p), some (vI n)], [vI 3, vR 100], mW τ (sS ρ 0 0))) rfl ?_
            refine hR.cv [vI 3] kX6_149 rfl rfl ⟨_, _, _, rfl, rfl, rfl⟩ (by first | decide | exact Nat.le_refl _) (by decide) (Nat.le_of_ble_eq_true rfl) rfl (sr_fails _ _ _) ?_
            show G (70, [some (vR 100), some (vI p), some (vI n)], [vI 0], mW τ (sS (sS ρ 0 0) 0 3))
            rw [sS_sS]
            show G (70, [some (vR 100), some (vI p), some (vI n)], [vI 0], mW τ (sS ρ 0 3))
            have hx : xDisc τ p n = (3, 0, τ) := by unfold xDisc; (repeat' split) <;> first | rfl | (exfalso; omega) | (exfalso; simp_all; done) | (exfalso; simp_all; omega)
            exact hR.rt rfl trivial (by rw [hx]) (by rw [hx])
          · skip
            refine hR.run0 1 (S' := (44, [some (vR 100), some (vI p), some (vI n)], [vI n], mW τ (sS ρ 0 0))) rfl ?_
            have f2 := szG_r n
            refine hR.cs [vI n] kX6_185 rfl rfl (by first | decide | exact Nat.le_refl _) (by decide) (Nat.le_of_ble_eq_true rfl) rfl (sr_sizeOf _ _ (by omega)) ?_
            show G (47, [some (vR 100), some (vI p), some (vI n)], [vI (szG n)], mW τ (sS ρ 0 0))
            have f3 := hdu p
            refine hR.run1 4 (S' := (53, [some (vR 100), some (vI p), some (vI n)], [vI (τ.2.1 4 p), vI (szG n)], mW τ (sS ρ 0 0))) rfl (by first | omega | (dsimp only [plus1]; omega) | (simp [plus1, sHt, sH, sS, sAt, sA, sup]; done) | (simp [plus1, sHt, sH, sS, sAt, sA, sup]; omega)) ?_
            refine hR.br (C := szG n ≠ τ.2.1 4 p) rfl (by first | omega | (dsimp only [plus1]; omega) | (simp [plus1, sHt, sH, sS, sAt, sA, sup]; done) | (simp [plus1, sHt, sH, sS, sAt, sA, sup]; omega)) (fun c6 => ?_) (fun c6 => ?_)
            · skip
              refine hR.run0 2 (S' := (67, [some (vR 100), some (vI p), some (vI n)], [vI 3, vR 100], mW τ (sS ρ 0 0))) rfl ?_
              refine hR.cv [vI 3] kX6_149 rfl rfl ⟨_, _, _, rfl, rfl, rfl⟩ (by first | decide | exact Nat.le_refl _) (by decide) (Nat.le_of_ble_eq_true rfl) rfl (sr_fails _ _ _) ?_
              show G (70, [some (vR 100), some (vI p), some (vI n)], [vI 0], mW τ (sS (sS ρ 0 0) 0 3))
              rw [sS_sS]
              show G (70, [some (vR 100), some (vI p), some (vI n)], [vI 0], mW τ (sS ρ 0 3))
              have hx : xDisc τ p n = (3, 0, τ) := by unfold xDisc; (repeat' split) <;> first | rfl | (exfalso; omega) | (exfalso; simp_all; done) | (exfalso; simp_all; omega)
              exact hR.rt rfl trivial (by rw [hx]) (by rw [hx])
            · skip
              refine hR.run0 3 (S' := (59, [some (vR 100), some (vI p), some (vI n)], [vI n, vI p, vR 100], mW τ (sS ρ 0 0))) rfl ?_
              refine hR.cv [vI p, vI n] kX6_169 rfl rfl ⟨_, _, _, rfl, rfl, rfl⟩ (by first | decide | exact Nat.le_refl _) (by decide) (Nat.le_of_ble_eq_true rfl) rfl (sr_hasAll _ _ (by omega) (by omega) hh) ?_
              show G (62, [some (vR 100), some (vI p), some (vI n)], [vI (bI (hasG (τ.2.2 0) p n))], mW τ (sS ρ 0 0))
              refine hR.br (C := bI (hasG (τ.2.2 0) p n) ≠ 0) rfl (bI_r _) (fun c7 => ?_) (fun c7 => ?_)
              · replace c7 : (hasG (τ.2.2 0) p n) = true := bI1 c7
                try simp only [Bool.and_eq_true, Bool.or_eq_true, Bool.and_eq_false_iff, Bool.or_eq_false_iff, decide_eq_true_eq, decide_eq_false_iff_not] at c7
                refine hR.run0 4 (S' := (75, [some (vR 100), some (vI p), some (vI n)], [vI n, vI 3, vI p, vR 100], mW τ (sS ρ 0 0))) rfl ?_
                refine hR.cv [vI p, vI 3, vI n] kX6_172 rfl rfl ⟨_, _, _, rfl, rfl, rfl⟩ (by first | decide | exact Nat.le_refl _) (by decide) (Nat.le_of_ble_eq_true rfl) rfl (sr_gives _ _ (by omega) (by omega) (by omega)) ?_
                show G (78, [some (vR 100), some (vI p), some (vI n)], [], mW (mvA τ p 3 n) (sS ρ 0 0))
                have ez4 : (mvA τ p 3 n).1 1 = τ.1 1 := rfl
                refine hR.run1 5 (S' := (85, [some (vR 100), some (vI p), some (vI n)], [], pset (mW (mvA τ p 3 n) (sS ρ 0 0)) 106 (.inl (3, .inl (pup ((mvA τ p 3 n).2.1 4) p 0))))) rfl (by first | omega | (dsimp only [plus1]; omega) | (simp [plus1, sHt, sH, sS, sAt, sA, sup]; done) | (simp [plus1, sHt, sH, sS, sAt, sA, sup]; omega)) ?_
                rw [mW_a4]
                have f5 : 0 ≤ (sAt (mvA τ p 3 n) 4 p 0).2.1 4 0 ∧ (sAt (mvA τ p 3 n) 4 p 0).2.1 4 0 ≤ 30 := pup_b hdu (by omega) _
                have f6 : 0 ≤ (sAt (mvA τ p 3 n) 4 p 0).2.1 4 1 ∧ (sAt (mvA τ p 3 n) 4 p 0).2.1 4 1 ≤ 30 := pup_b hdu (by omega) _
                have f7 : 0 ≤ (sAt (mvA τ p 3 n) 4 p 0).2.1 4 2 ∧ (sAt (mvA τ p 3 n) 4 p 0).2.1 4 2 ≤ 30 := pup_b hdu (by omega) _
                refine hR.run1 15 (S' := (106, [some (vR 100), some (vI p), some (vI n)], [vI ((((sAt (mvA τ p 3 n) 4 p 0).2.1 4 0) + ((sAt (mvA τ p 3 n) 4 p 0).2.1 4 1)) + ((sAt (mvA τ p 3 n) 4 p 0).2.1 4 2)), vR 100], mW (sAt (mvA τ p 3 n) 4 p 0) (sS ρ 0 0))) rfl (by first | omega | (dsimp only [plus1]; omega) | (simp [plus1, sHt, sH, sS, sAt, sA, sup]; done) | (simp [plus1, sHt, sH, sS, sAt, sA, sup]; omega)) ?_
                refine hR.br (C := (((sAt (mvA τ p 3 n) 4 p 0).2.1 4 0) + ((sAt (mvA τ p 3 n) 4 p 0).2.1 4 1)) + ((sAt (mvA τ p 3 n) 4 p 0).2.1 4 2) ≠ 0) rfl (by first | omega | (dsimp only [plus1]; omega) | (simp [plus1, sHt, sH, sS, sAt, sA, sup]; done) | (simp [plus1, sHt, sH, sS, sAt, sA, sup]; omega)) (fun c8 => ?_) (fun c8 => ?_)
                · skip
                  refine hR.run0 2 (S' := (117, [some (vR 100), some (vI p), some (vI n)], [], pset (mW (sAt (mvA τ p 3 n) 4 p 0) (sS ρ 0 0)) 100 (.inr (6, [vR 101, vR 102, vI ((sAt (mvA τ p 3 n) 4 p 0).1 5), vR 103, vR 104, vR 105, vR 106, vI 3, vI ((sAt (mvA τ p 3 n) 4 p 0).1 1), vI ((sAt (mvA τ p 3 n) 4 p 0).1 2), vI ((sAt (mvA τ p 3 n) 4 p 0).1 3), vR 107, vR 108, vI ((sAt (mvA τ p 3 n) 4 p 0).1 6), vI ((sAt (mvA τ p 3 n) 4 p 0).1 7), vR 109, vI ((sAt (mvA τ p 3 n) 4 p 0).1 8), vI ((sAt (mvA τ p 3 n) 4 p 0).1 4), vI ((sAt (mvA τ p 3 n) 4 p 0).1 9), vI ((sAt (mvA τ p 3 n) 4 p 0).1 10), vR 110, vR 111, vR 112, vR 113, vR 114, vI ((sS ρ 0 0).1 0)])))) rfl ?_
                  rw [mW_s0]
                  refine hR.run0 2 (S' := (121, [some (vR 100), some (vI p), some (vI n)], [vI 3], mW (sS (sAt (mvA τ p 3 n) 4 p 0) 0 3) (sS ρ 0 0))) rfl ?_
                  have hd : phD (disS τ p n) = 3 := by unfold phD anyDue; simp only [Bool.or_eq_true, decide_eq_true_eq]; unfold disS; split <;> omega
                  have hx : xDisc τ p n = (0, 3, sS (sAt (mvA τ p 3 n) 4 p 0) 0 3) := by unfold xDisc; rw [if_neg (by omega), if_neg (by omega), if_neg (fun hn => hn ⟨by omega, by omega, by assumption⟩), hd]; rfl
                  exact hR.rt rfl trivial (by rw [hx]) (by rw [hx])
                · skip
                  refine hR.run0 3 (S' := (117, [some (vR 100), some (vI p), some (vI n)], [], pset (mW (sAt (mvA τ p 3 n) 4 p 0) (sS ρ 0 0)) 100 (.inr (6, [vR 101, vR 102, vI ((sAt (mvA τ p 3 n) 4 p 0).1 5), vR 103, vR 104, vR 105, vR 106, vI 4, vI ((sAt (mvA τ p 3 n) 4 p 0).1 1), vI ((sAt (mvA τ p 3 n) 4 p 0).1 2), vI ((sAt (mvA τ p 3 n) 4 p 0).1 3), vR 107, vR 108, vI ((sAt (mvA τ p 3 n) 4 p 0).1 6), vI ((sAt (mvA τ p 3 n) 4 p 0).1 7), vR 109, vI ((sAt (mvA τ p 3 n) 4 p 0).1 8), vI ((sAt (mvA τ p 3 n) 4 p 0).1 4), vI ((sAt (mvA τ p 3 n) 4 p 0).1 9), vI ((sAt (mvA τ p 3 n) 4 p 0).1 10), vR 110, vR 111, vR 112, vR 113, vR 114, vI ((sS ρ 0 0).1 0)])))) rfl ?_
                  rw [mW_s0]
                  refine hR.run0 2 (S' := (121, [some (vR 100), some (vI p), some (vI n)], [vI 4], mW (sS (sAt (mvA τ p 3 n) 4 p 0) 0 4) (sS ρ 0 0))) rfl ?_
                  have hd : phD (disS τ p n) = 4 := by unfold phD anyDue; simp only [Bool.or_eq_true, decide_eq_true_eq]; unfold disS; split <;> omega
                  have hx : xDisc τ p n = (0, 4, sS (sAt (mvA τ p 3 n) 4 p 0) 0 4) := by unfold xDisc; rw [if_neg (by omega), if_neg (by omega), if_neg (fun hn => hn ⟨by omega, by omega, by assumption⟩), hd]; rfl
                  exact hR.rt rfl trivial (by rw [hx]) (by rw [hx])
              · replace c7 : (hasG (τ.2.2 0) p n) = false := bI0 (Classical.not_not.mp c7)
                try simp only [Bool.and_eq_true, Bool.or_eq_true, Bool.and_eq_false_iff, Bool.or_eq_false_iff, decide_eq_true_eq, decide_eq_false_iff_not] at c7
                refine hR.run0 2 (S' := (67, [some (vR 100), some (vI p), some (vI n)], [vI 3, vR 100], mW τ (sS ρ 0 0))) rfl ?_
                refine hR.cv [vI 3] kX6_149 rfl rfl ⟨_, _, _, rfl, rfl, rfl⟩ (by first | decide | exact Nat.le_refl _) (by decide) (Nat.le_of_ble_eq_true rfl) rfl (sr_fails _ _ _) ?_
                show G (70, [some (vR 100), some (vI p), some (vI n)], [vI 0], mW τ (sS (sS ρ 0 0) 0 3))
                rw [sS_sS]
                show G (70, [some (vR 100), some (vI p), some (vI n)], [vI 0], mW τ (sS ρ 0 3))
                have hx : xDisc τ p n = (3, 0, τ) := by unfold xDisc; (repeat' split) <;> first | rfl | (exfalso; omega) | (exfalso; simp_all; done) | (exfalso; simp_all; omega)
                exact hR.rt rfl trivial (by rw [hx]) (by rw [hx])
      · replace c3 : (decide (0 ≤ n) && decide (n ≤ 99999)) = false := bI0 (Classical.not_not.mp c3)
        try simp only [Bool.and_eq_true, Bool.or_eq_true, Bool.and_eq_false_iff, Bool.or_eq_false_iff, decide_eq_true_eq, decide_eq_false_iff_not] at c3
        refine hR.run0 2 (S' := (22, [some (vR 100), some (vI p), some (vI n)], [vI 2, vR 100], mW τ (sS ρ 0 0))) rfl ?_
        refine hR.cv [vI 2] kX6_149 rfl rfl ⟨_, _, _, rfl, rfl, rfl⟩ (by first | decide | exact Nat.le_refl _) (by decide) (Nat.le_of_ble_eq_true rfl) rfl (sr_fails _ _ _) ?_
        show G (25, [some (vR 100), some (vI p), some (vI n)], [vI 0], mW τ (sS (sS ρ 0 0) 0 2))
        rw [sS_sS]
        show G (25, [some (vR 100), some (vI p), some (vI n)], [vI 0], mW τ (sS ρ 0 2))
        have hx : xDisc τ p n = (2, 0, τ) := by unfold xDisc; (repeat' split) <;> first | rfl | (exfalso; omega) | (exfalso; simp_all; done) | (exfalso; simp_all; omega)
        exact hR.rt rfl trivial (by rw [hx]) (by rw [hx])
    · exfalso; omega
  · replace q1 := Bool.eq_false_iff.mpr q1
    have q1b := q1
    try simp only [Bool.and_eq_true, Bool.or_eq_true, Bool.and_eq_false_iff, Bool.or_eq_false_iff, decide_eq_true_eq, decide_eq_false_iff_not] at q1
    refine hR.cv [vI (bI (decide (0 ≤ p) && decide (p < 3)))] kX6_127 rfl rfl ⟨_, _, _, rfl, rfl, rfl⟩ (by first | decide | exact Nat.le_refl _) (by decide) (Nat.le_of_ble_eq_true rfl) rfl (sr_asksb_f _ _ q1b) ?_
    show G (8, [some (vR 100), some (vI p), some (vI n)], [vI 0], mW τ (sS ρ 0 1))
    refine hR.br (C := 0 ≠ 0) rfl (by first | omega | (dsimp only [plus1]; omega) | (simp [plus1, sHt, sH, sS, sAt, sA, sup]; done) | (simp [plus1, sHt, sH, sS, sAt, sA, sup]; omega)) (fun c9 => ?_) (fun c9 => ?_)
    · exfalso; omega
    refine hR.run0 1 (S' := (12, [some (vR 100), some (vI p), some (vI n)], [vI 0], mW τ (sS ρ 0 1))) rfl ?_
    have hx : xDisc τ p n = (1, 0, τ) := by unfold xDisc; (repeat' split) <;> first | rfl | (exfalso; omega) | (exfalso; simp_all; done) | (exfalso; simp_all; omega)
    exact hR.rt rfl trivial (by rw [hx]) (by rw [hx])
theorem pX6_rob_n (τ ρ : St) {h d : Int} (hh0 : -2147483648 ≤ h ∧ h ≤ 2147483647) (hd0 : -2147483648 ≤ d ∧ d ≤ 2147483647) (hI : Iv τ)  : Sp mX6_rob roC 3 [vR 100, vI h, vI (-1), vI d] (mW τ ρ) (.inl (some (vI (xRob τ h (-1) d).2.1))) (mW (xRob τ h (-1) d).2.2 (sS ρ 0 (xRob τ h (-1) d).1)) := by
  have hb := hI.hb
  have hr := hI.hr
  have hg := hI.hg
  have hn := hI.hn
  have h7 := hI.h7
  have hh := hI.hh
  have hsm := hI.hsm
  have hcd := hI.hcd
  have hfr := hI.hfr
  have hkn := hI.hkn
  have hbo := hI.hbo
  have hus := hI.hus
  have hro := hI.hro
  have har := hI.har
  have hth := hI.hth
  have hph := hI.hph
  have htu := hI.htu
  have hrb := hI.hrb
  have hpl := hI.hpl
  have hdu := hI.hdu
  have hdp := hI.hdp
  have hof := hI.hof
  have how := hI.how
  have hga := hI.hga
  have hwa := hI.hwa
  have hck := hI.hck
  have hkz := hI.hkz
  have hcb := hI.hcb
  have hfb := hI.hfb
  have hnr := hI.hnr
  have hpq := hI.hpq
  have hrc := hI.hrc
  have hbc := hI.hbc
  have hcc := hI.hcc
  have hac := hI.hac
  refine Sp.of (lk := lkX6) (tb := bX6_rob) (by decide) lkX6_ok tX6_rob (mW_keys _ _ _ _) (Nat.le_of_ble_eq_true rfl) (fun G hR => ?_)
  refine hR.run0 4 (S' := (4, [some (vR 100), some (vI h), some (vI (-1)), some (vI d)], [vI d, vI (-1), vI h, vR 100], mW τ ρ)) rfl ?_
  by_cases qa : arC h (-1) d = 0
  · have qb := arC_0 qa
    refine hR.cv [vI h, vI (-1), vI d] kX6_191 rfl rfl ⟨_, _, _, rfl, rfl, rfl⟩ (by first | decide | exact Nat.le_refl _) (by decide) (Nat.le_of_ble_eq_true rfl) rfl (sr_asksRob_t _ _ (by omega) (by omega) (by omega) qa) ?_
    show G (7, [some (vR 100), some (vI h), some (vI (-1)), some (vI d)], [vI 1], mW τ (sS ρ 0 0))
    refine hR.br (C := 1 ≠ 0) rfl (by first | omega | (dsimp only [plus1]; omega) | (simp [plus1, sHt, sH, sS, sAt, sA, sup]; done) | (simp [plus1, sHt, sH, sS, sAt, sA, sup]; omega)) (fun c1 => ?_) (fun c1 => ?_)
    · skip
      refine hR.run0 3 (S' := (17, [some (vR 100), some (vI h), some (vI (-1)), some (vI d)], [vI 4, vI (τ.1 0)], mW τ (sS ρ 0 0))) rfl ?_
      refine hR.br (C := τ.1 0 ≠ 4) rfl (by first | omega | (dsimp only [plus1]; omega) | (simp [plus1, sHt, sH, sS, sAt, sA, sup]; done) | (simp [plus1, sHt, sH, sS, sAt, sA, sup]; omega)) (fun c2 => ?_) (fun c2 => ?_)
      · skip
        refine hR.run0 2 (S' := (31, [some (vR 100), some (vI h), some (vI (-1)), some (vI d)], [vI 3, vR 100], mW τ (sS ρ 0 0))) rfl ?_
        refine hR.cv [vI 3] kX6_149 rfl rfl ⟨_, _, _, rfl, rfl, rfl⟩ (by first | decide | exact Nat.le_refl _) (by decide) (Nat.le_of_ble_eq_true rfl) rfl (sr_fails _ _ _) ?_
        show G (34, [some (vR 100), some (vI h), some (vI (-1)), some (vI d)], [vI 0], mW τ (sS (sS ρ 0 0) 0 3))
        rw [sS_sS]
        show G (34, [some (vR 100), some (vI h), some (vI (-1)), some (vI d)], [vI 0], mW τ (sS ρ 0 3))
        have hx : xRob τ h (-1) d = (3, 0, τ) := by unfold xRob; rw [if_neg (by rw [qa]; decide)]; (repeat' split) <;> first | rfl | (exfalso; omega) | (exfalso; simp_all; done) | (simp_all [robS_n]; done) | (simp [robS_n, drw]; done) | (exfalso; simp_all; omega)
        exact hR.rt rfl trivial (by rw [hx]) (by rw [hx])
      · skip
        refine hR.run0 3 (S' := (23, [some (vR 100), some (vI h), some (vI (-1)), some (vI d)], [vI (-1), vI h, vR 100], mW τ (sS ρ 0 0))) rfl ?_
        refine hR.cv [vI h, vI (-1)] kX6_194 rfl rfl ⟨_, _, _, rfl, rfl, rfl⟩ (by first | decide | exact Nat.le_refl _) (by decide) (Nat.le_of_ble_eq_true rfl) rfl (sr_mayRobn _ _ (by omega) hb hh htu hrb) ?_
        show G (26, [some (vR 100), some (vI h), some (vI (-1)), some (vI d)], [vI (bI (mayR τ h (-1)))], mW τ (sS ρ 0 0))
        refine hR.br (C := bI (mayR τ h (-1)) ≠ 0) rfl (bI_r _) (fun c3 => ?_) (fun c3 => ?_)
        · replace c3 : (mayR τ h (-1)) = true := bI1 c3
          try simp only [Bool.and_eq_true, Bool.or_eq_true, Bool.and_eq_false_iff, Bool.or_eq_false_iff, decide_eq_true_eq, decide_eq_false_iff_not] at c3
          refine hR.run0 3 (S' := (40, [some (vR 100), some (vI h), some (vI (-1)), some (vI d)], [], pset (mW τ (sS ρ 0 0)) 100 (.inr (6, [vR 101, vR 102, vI (τ.1 5), vR 103, vR 104, vR 105, vR 106, vI 2, vI (τ.1 1), vI (τ.1 2), vI (τ.1 3), vR 107, vR 108, vI (τ.1 6), vI (τ.1 7), vR 109, vI (τ.1 8), vI (τ.1 4), vI (τ.1 9), vI (τ.1 10), vR 110, vR 111, vR 112, vR 113, vR 114, vI ((sS ρ 0 0).1 0)])))) rfl ?_
          rw [mW_s0]
          refine hR.run0 4 (S' := (44, [some (vR 100), some (vI h), some (vI (-1)), some (vI d)], [vI d, vI (-1), vI h, vR 100], mW (sS τ 0 2) (sS ρ 0 0))) rfl ?_
          refine hR.cv [vI h, vI (-1), vI d] kX6_197 rfl rfl ⟨_, _, _, rfl, rfl, rfl⟩ (by first | decide | exact Nat.le_refl _) (by decide) (Nat.le_of_ble_eq_true rfl) rfl (sr_robsN _ _ _ _) ?_
          show G (47, [some (vR 100), some (vI h), some (vI (-1)), some (vI d)], [vI (-1)], mW (sS (sS τ 0 2) 5 h) (sS ρ 0 0))
          have hx : xRob τ h (-1) d = (0, (-1), sS (sS τ 0 2) 5 h) := by unfold xRob; rw [if_neg (by rw [qa]; decide)]; (repeat' split) <;> first | rfl | (exfalso; omega) | (exfalso; simp_all; done) | (simp_all [robS_n]; done) | (simp [robS_n, drw]; done) | (exfalso; simp_all; omega)
          exact hR.rt rfl trivial (by rw [hx]) (by rw [hx])
        · replace c3 : (mayR τ h (-1)) = false := bI0 (Classical.not_not.mp c3)
          try simp only [Bool.and_eq_true, Bool.or_eq_true, Bool.and_eq_false_iff, Bool.or_eq_false_iff, decide_eq_true_eq, decide_eq_false_iff_not] at c3
          refine hR.run0 2 (S' := (31, [some (vR 100), some (vI h), some (vI (-1)), some (vI d)], [vI 3, vR 100], mW τ (sS ρ 0 0))) rfl ?_
          refine hR.cv [vI 3] kX6_149 rfl rfl ⟨_, _, _, rfl, rfl, rfl⟩ (by first | decide | exact Nat.le_refl _) (by decide) (Nat.le_of_ble_eq_true rfl) rfl (sr_fails _ _ _) ?_
          show G (34, [some (vR 100), some (vI h), some (vI (-1)), some (vI d)], [vI 0], mW τ (sS (sS ρ 0 0) 0 3))
          rw [sS_sS]
          show G (34, [some (vR 100), some (vI h), some (vI (-1)), some (vI d)], [vI 0], mW τ (sS ρ 0 3))
          have hx : xRob τ h (-1) d = (3, 0, τ) := by unfold xRob; rw [if_neg (by rw [qa]; decide)]; (repeat' split) <;> first | rfl | (exfalso; omega) | (exfalso; simp_all; done) | (simp_all [robS_n]; done) | (simp [robS_n, drw]; done) | (exfalso; simp_all; omega)
          exact hR.rt rfl trivial (by rw [hx]) (by rw [hx])
    · exfalso; omega
  · skip
    refine hR.cv [vI h, vI (-1), vI d] kX6_191 rfl rfl ⟨_, _, _, rfl, rfl, rfl⟩ (by first | decide | exact Nat.le_refl _) (by decide) (Nat.le_of_ble_eq_true rfl) rfl (sr_asksRob_f _ _ (by omega) (by omega) (by omega) qa) ?_
    show G (7, [some (vR 100), some (vI h), some (vI (-1)), some (vI d)], [vI 0], mW τ (sS ρ 0 (arC h (-1) d)))
    refine hR.br (C := 0 ≠ 0) rfl (by first | omega | (dsimp only [plus1]; omega) | (simp [plus1, sHt, sH, sS, sAt, sA, sup]; done) | (simp [plus1, sHt, sH, sS, sAt, sA, sup]; omega)) (fun c4 => ?_) (fun c4 => ?_)
    · exfalso; omega
    refine hR.run0 1 (S' := (11, [some (vR 100), some (vI h), some (vI (-1)), some (vI d)], [vI 0], mW τ (sS ρ 0 (arC h (-1) d)))) rfl ?_
    have hx : xRob τ h (-1) d = (arC h (-1) d, 0, τ) := by unfold xRob; rw [if_pos qa]
    exact hR.rt rfl trivial (by rw [hx]) (by rw [hx])
theorem pX6_rob_v (τ ρ : St) {h v d : Int} (hh0 : -2147483648 ≤ h ∧ h ≤ 2147483647) (hv0 : -2147483648 ≤ v ∧ v ≤ 2147483647) (hd0 : -2147483648 ≤ d ∧ d ≤ 2147483647) (hv1 : v ≠ -1) (hI : Iv τ)  : Sp mX6_rob roC 3 [vR 100, vI h, vI v, vI d] (mW τ ρ) (.inl (some (vI (xRob τ h v d).2.1))) (mW (xRob τ h v d).2.2 (sS ρ 0 (xRob τ h v d).1)) := by
  have hb := hI.hb
  have hr := hI.hr
  have hg := hI.hg
  have hn := hI.hn
  have h7 := hI.h7
  have hh := hI.hh
  have hsm := hI.hsm
  have hcd := hI.hcd
  have hfr := hI.hfr
  have hkn := hI.hkn
  have hbo := hI.hbo
  have hus := hI.hus
  have hro := hI.hro
  have har := hI.har
  have hth := hI.hth
  have hph := hI.hph
  have htu := hI.htu
  have hrb := hI.hrb
  have hpl := hI.hpl
  have hdu := hI.hdu
  have hdp := hI.hdp
  have hof := hI.hof
  have how := hI.how
  have hga := hI.hga
  have hwa := hI.hwa
  have hck := hI.hck
  have hkz := hI.hkz
  have hcb := hI.hcb
  have hfb := hI.hfb
  have hnr := hI.hnr
  have hpq := hI.hpq
  have hrc := hI.hrc
  have hbc := hI.hbc
  have hcc := hI.hcc
  have hac := hI.hac
  refine Sp.of (lk := lkX6) (tb := bX6_rob) (by decide) lkX6_ok tX6_rob (mW_keys _ _ _ _) (Nat.le_of_ble_eq_true rfl) (fun G hR => ?_)
  refine hR.run0 4 (S' := (4, [some (vR 100), some (vI h), some (vI v), some (vI d)], [vI d, vI v, vI h, vR 100], mW τ ρ)) rfl ?_
  by_cases qa : arC h v d = 0
  · have qb := arC_0 qa
    refine hR.cv [vI h, vI v, vI d] kX6_191 rfl rfl ⟨_, _, _, rfl, rfl, rfl⟩ (by first | decide | exact Nat.le_refl _) (by decide) (Nat.le_of_ble_eq_true rfl) rfl (sr_asksRob_t _ _ (by omega) (by omega) (by omega) qa) ?_
    show G (7, [some (vR 100), some (vI h), some (vI v), some (vI d)], [vI 1], mW τ (sS ρ 0 0))
    refine hR.br (C := 1 ≠ 0) rfl (by first | omega | (dsimp only [plus1]; omega) | (simp [plus1, sHt, sH, sS, sAt, sA, sup]; done) | (simp [plus1, sHt, sH, sS, sAt, sA, sup]; omega)) (fun c1 => ?_) (fun c1 => ?_)
    · skip
      refine hR.run0 3 (S' := (17, [some (vR 100), some (vI h), some (vI v), some (vI d)], [vI 4, vI (τ.1 0)], mW τ (sS ρ 0 0))) rfl ?_
      refine hR.br (C := τ.1 0 ≠ 4) rfl (by first | omega | (dsimp only [plus1]; omega) | (simp [plus1, sHt, sH, sS, sAt, sA, sup]; done) | (simp [plus1, sHt, sH, sS, sAt, sA, sup]; omega)) (fun c2 => ?_) (fun c2 => ?_)
      · skip
        refine hR.run0 2 (S' := (31, [some (vR 100), some (vI h), some (vI v), some (vI d)], [vI 3, vR 100], mW τ (sS ρ 0 0))) rfl ?_
        refine hR.cv [vI 3] kX6_149 rfl rfl ⟨_, _, _, rfl, rfl, rfl⟩ (by first | decide | exact Nat.le_refl _) (by decide) (Nat.le_of_ble_eq_true rfl) rfl (sr_fails _ _ _) ?_
        show G (34, [some (vR 100), some (vI h), some (vI v), some (vI d)], [vI 0], mW τ (sS (sS ρ 0 0) 0 3))
        rw [sS_sS]
        show G (34, [some (vR 100), some (vI h), some (vI v), some (vI d)], [vI 0], mW τ (sS ρ 0 3))
        have hx : xRob τ h v d = (3, 0, τ) := by unfold xRob; rw [if_neg (by rw [qa]; decide)]; (repeat' split) <;> first | rfl | (exfalso; omega) | (exfalso; simp_all; done) | (simp_all [robS_n]; done) | (simp [robS_n, drw]; done) | (exfalso; simp_all; omega)
        exact hR.rt rfl trivial (by rw [hx]) (by rw [hx])
      · skip
        refine hR.run0 3 (S' := (23, [some (vR 100), some (vI h), some (vI v), some (vI d)], [vI v, vI h, vR 100], mW τ (sS ρ 0 0))) rfl ?_
        refine hR.cv [vI h, vI v] kX6_194 rfl rfl ⟨_, _, _, rfl, rfl, rfl⟩ (by first | decide | exact Nat.le_refl _) (by decide) (Nat.le_of_ble_eq_true rfl) rfl (sr_mayRobv _ _ (by omega) (by omega) hb hh htu hrb) ?_
        show G (26, [some (vR 100), some (vI h), some (vI v), some (vI d)], [vI (bI (mayR τ h v))], mW τ (sS ρ 0 0))
        refine hR.br (C := bI (mayR τ h v) ≠ 0) rfl (bI_r _) (fun c3 => ?_) (fun c3 => ?_)
        · replace c3 : (mayR τ h v) = true := bI1 c3
          try simp only [Bool.and_eq_true, Bool.or_eq_true, Bool.and_eq_false_iff, Bool.or_eq_false_iff, decide_eq_true_eq, decide_eq_false_iff_not] at c3
          refine hR.run0 3 (S' := (40, [some (vR 100), some (vI h), some (vI v), some (vI d)], [], pset (mW τ (sS ρ 0 0)) 100 (.inr (6, [vR 101, vR 102, vI (τ.1 5), vR 103, vR 104, vR 105, vR 106, vI 2, vI (τ.1 1), vI (τ.1 2), vI (τ.1 3), vR 107, vR 108, vI (τ.1 6), vI (τ.1 7), vR 109, vI (τ.1 8), vI (τ.1 4), vI (τ.1 9), vI (τ.1 10), vR 110, vR 111, vR 112, vR 113, vR 114, vI ((sS ρ 0 0).1 0)])))) rfl ?_
          rw [mW_s0]
          refine hR.run0 4 (S' := (44, [some (vR 100), some (vI h), some (vI v), some (vI d)], [vI d, vI v, vI h, vR 100], mW (sS τ 0 2) (sS ρ 0 0))) rfl ?_
          refine hR.cv [vI h, vI v, vI d] kX6_197 rfl rfl ⟨_, _, _, rfl, rfl, rfl⟩ (by first | decide | exact Nat.le_refl _) (by decide) (Nat.le_of_ble_eq_true rfl) rfl (sr_robs _ _ (by omega) (by omega) (mayR_tot (by assumption) (by omega)) hh htu) ?_
          show G (47, [some (vR 100), some (vI h), some (vI v), some (vI d)], [vI (drw ((sS τ 0 2).2.2 0) v d)], mW (robS (sS τ 0 2) h v d) (sS ρ 0 0))
          have hx : xRob τ h v d = (0, drw ((sS τ 0 2).2.2 0) v d, robS (sS τ 0 2) h v d) := by unfold xRob; rw [if_neg (by rw [qa]; decide)]; (repeat' split) <;> first | rfl | (exfalso; omega) | (exfalso; simp_all; done) | (simp_all [robS_n]; done) | (simp [robS_n, drw]; done) | (exfalso; simp_all; omega)
          exact hR.rt rfl trivial (by rw [hx]) (by rw [hx])
        · replace c3 : (mayR τ h v) = false := bI0 (Classical.not_not.mp c3)
          try simp only [Bool.and_eq_true, Bool.or_eq_true, Bool.and_eq_false_iff, Bool.or_eq_false_iff, decide_eq_true_eq, decide_eq_false_iff_not] at c3
          refine hR.run0 2 (S' := (31, [some (vR 100), some (vI h), some (vI v), some (vI d)], [vI 3, vR 100], mW τ (sS ρ 0 0))) rfl ?_
          refine hR.cv [vI 3] kX6_149 rfl rfl ⟨_, _, _, rfl, rfl, rfl⟩ (by first | decide | exact Nat.le_refl _) (by decide) (Nat.le_of_ble_eq_true rfl) rfl (sr_fails _ _ _) ?_
          show G (34, [some (vR 100), some (vI h), some (vI v), some (vI d)], [vI 0], mW τ (sS (sS ρ 0 0) 0 3))
          rw [sS_sS]
          show G (34, [some (vR 100), some (vI h), some (vI v), some (vI d)], [vI 0], mW τ (sS ρ 0 3))
          have hx : xRob τ h v d = (3, 0, τ) := by unfold xRob; rw [if_neg (by rw [qa]; decide)]; (repeat' split) <;> first | rfl | (exfalso; omega) | (exfalso; simp_all; done) | (simp_all [robS_n]; done) | (simp [robS_n, drw]; done) | (exfalso; simp_all; omega)
          exact hR.rt rfl trivial (by rw [hx]) (by rw [hx])
    · exfalso; omega
  · skip
    refine hR.cv [vI h, vI v, vI d] kX6_191 rfl rfl ⟨_, _, _, rfl, rfl, rfl⟩ (by first | decide | exact Nat.le_refl _) (by decide) (Nat.le_of_ble_eq_true rfl) rfl (sr_asksRob_f _ _ (by omega) (by omega) (by omega) qa) ?_
    show G (7, [some (vR 100), some (vI h), some (vI v), some (vI d)], [vI 0], mW τ (sS ρ 0 (arC h v d)))
    refine hR.br (C := 0 ≠ 0) rfl (by first | omega | (dsimp only [plus1]; omega) | (simp [plus1, sHt, sH, sS, sAt, sA, sup]; done) | (simp [plus1, sHt, sH, sS, sAt, sA, sup]; omega)) (fun c4 => ?_) (fun c4 => ?_)
    · exfalso; omega
    refine hR.run0 1 (S' := (11, [some (vR 100), some (vI h), some (vI v), some (vI d)], [vI 0], mW τ (sS ρ 0 (arC h v d)))) rfl ?_
    have hx : xRob τ h v d = (arC h v d, 0, τ) := by unfold xRob; rw [if_pos qa]
    exact hR.rt rfl trivial (by rw [hx]) (by rw [hx])
theorem pX6_rob (τ ρ : St) {h v d : Int} (hh0 : -2147483648 ≤ h ∧ h ≤ 2147483647) (hv0 : -2147483648 ≤ v ∧ v ≤ 2147483647) (hd0 : -2147483648 ≤ d ∧ d ≤ 2147483647) (hI : Iv τ) : Sp mX6_rob roC 3 [vR 100, vI h, vI v, vI d] (mW τ ρ) (.inl (some (vI (xRob τ h v d).2.1))) (mW (xRob τ h v d).2.2 (sS ρ 0 (xRob τ h v d).1)) := by
  by_cases e : v = -1
  · subst e
    exact pX6_rob_n τ ρ hh0 hd0 hI
  · exact pX6_rob_v τ ρ hh0 hv0 hd0 e hI
theorem pX6_buy (τ ρ : St)  (hI : Iv τ)  : Sp mX6_buy roC 4 [vR 100] (mW τ ρ) (.inl (some (vI (xBuy τ).2.1))) (mW (xBuy τ).2.2 (sS ρ 0 (xBuy τ).1)) := by
  have hb := hI.hb
  have hr := hI.hr
  have hg := hI.hg
  have hn := hI.hn
  have h7 := hI.h7
  have hh := hI.hh
  have hsm := hI.hsm
  have hcd := hI.hcd
  have hfr := hI.hfr
  have hkn := hI.hkn
  have hbo := hI.hbo
  have hus := hI.hus
  have hro := hI.hro
  have har := hI.har
  have hth := hI.hth
  have hph := hI.hph
  have htu := hI.htu
  have hrb := hI.hrb
  have hpl := hI.hpl
  have hdu := hI.hdu
  have hdp := hI.hdp
  have hof := hI.hof
  have how := hI.how
  have hga := hI.hga
  have hwa := hI.hwa
  have hck := hI.hck
  have hkz := hI.hkz
  have hcb := hI.hcb
  have hfb := hI.hfb
  have hnr := hI.hnr
  have hpq := hI.hpq
  have hrc := hI.hrc
  have hbc := hI.hbc
  have hcc := hI.hcc
  have hac := hI.hac
  refine Sp.of (lk := lkX6) (tb := bX6_buy) (by decide) lkX6_ok tX6_buy (mW_keys _ _ _ _) (Nat.le_of_ble_eq_true rfl) (fun G hR => ?_)
  refine hR.run0 4 (S' := (6, [some (vR 100), none], [vI 2, vI (τ.1 0), vR 100], mW τ ρ)) rfl ?_
  refine hR.br (C := τ.1 0 ≠ 2) rfl (by first | omega | (dsimp only [plus1]; omega) | (simp [plus1, sHt, sH, sS, sAt, sA, sup]; done) | (simp [plus1, sHt, sH, sS, sAt, sA, sup]; omega)) (fun c1 => ?_) (fun c1 => ?_)
  · skip
    refine hR.run0 1 (S' := (37, [some (vR 100), none], [vI 0, vR 100], mW τ ρ)) rfl ?_
    refine hR.cv [vI 0] kX6_127 rfl rfl ⟨_, _, _, rfl, rfl, rfl⟩ (by first | decide | exact Nat.le_refl _) (by decide) (Nat.le_of_ble_eq_true rfl) rfl (sr_asks_f _ _) ?_
    show G (40, [some (vR 100), none], [vI 0], mW τ (sS ρ 0 1))
    refine hR.br (C := 0 ≠ 0) rfl (by first | omega | (dsimp only [plus1]; omega) | (simp [plus1, sHt, sH, sS, sAt, sA, sup]; done) | (simp [plus1, sHt, sH, sS, sAt, sA, sup]; omega)) (fun c2 => ?_) (fun c2 => ?_)
    · exfalso; omega
    refine hR.run0 1 (S' := (44, [some (vR 100), none], [vI 0], mW τ (sS ρ 0 1))) rfl ?_
    have hx : xBuy τ = (1, 0, τ) := by unfold xBuy; (repeat' split) <;> first | rfl | (exfalso; omega) | (exfalso; simp_all; done) | (simp_all; done) | (exfalso; simp_all; omega)
    exact hR.rt rfl trivial (by rw [hx]) (by rw [hx])
  · skip
    refine hR.run0 3 (S' := (15, [some (vR 100), none], [vI 15, vI (τ.1 6), vR 100], mW τ ρ)) rfl ?_
    refine hR.br (C := 15 ≤ τ.1 6) rfl (by first | omega | (dsimp only [plus1]; omega) | (simp [plus1, sHt, sH, sS, sAt, sA, sup]; done) | (simp [plus1, sHt, sH, sS, sAt, sA, sup]; omega)) (fun c3 => ?_) (fun c3 => ?_)
    · skip
      refine hR.run0 1 (S' := (37, [some (vR 100), none], [vI 0, vR 100], mW τ ρ)) rfl ?_
      refine hR.cv [vI 0] kX6_127 rfl rfl ⟨_, _, _, rfl, rfl, rfl⟩ (by first | decide | exact Nat.le_refl _) (by decide) (Nat.le_of_ble_eq_true rfl) rfl (sr_asks_f _ _) ?_
      show G (40, [some (vR 100), none], [vI 0], mW τ (sS ρ 0 1))
      refine hR.br (C := 0 ≠ 0) rfl (by first | omega | (dsimp only [plus1]; omega) | (simp [plus1, sHt, sH, sS, sAt, sA, sup]; done) | (simp [plus1, sHt, sH, sS, sAt, sA, sup]; omega)) (fun c4 => ?_) (fun c4 => ?_)
      · exfalso; omega
      refine hR.run0 1 (S' := (44, [some (vR 100), none], [vI 0], mW τ (sS ρ 0 1))) rfl ?_
      have hx : xBuy τ = (1, 0, τ) := by unfold xBuy; (repeat' split) <;> first | rfl | (exfalso; omega) | (exfalso; simp_all; done) | (simp_all; done) | (exfalso; simp_all; omega)
      exact hR.rt rfl trivial (by rw [hx]) (by rw [hx])
    · skip
      refine hR.run0 4 (S' := (26, [some (vR 100), none], [vI 11100, vI (τ.1 1), vR 100, vR 100], mW τ ρ)) rfl ?_
      refine hR.cv [vI (τ.1 1), vI 11100] kX6_169 rfl rfl ⟨_, _, _, rfl, rfl, rfl⟩ (by first | decide | exact Nat.le_refl _) (by decide) (Nat.le_of_ble_eq_true rfl) rfl (sr_hasAll _ _ (by omega) (by omega) hh) ?_
      show G (29, [some (vR 100), none], [vI (bI (hasG (τ.2.2 0) (τ.1 1) 11100)), vR 100], mW τ ρ)
      refine hR.br (C := bI (hasG (τ.2.2 0) (τ.1 1) 11100) = 0) rfl (bI_r _) (fun c5 => ?_) (fun c5 => ?_)
      · replace c5 : (hasG (τ.2.2 0) (τ.1 1) 11100) = false := bI0 c5
        try simp only [Bool.and_eq_true, Bool.or_eq_true, Bool.and_eq_false_iff, Bool.or_eq_false_iff, decide_eq_true_eq, decide_eq_false_iff_not] at c5
        refine hR.run0 1 (S' := (37, [some (vR 100), none], [vI 0, vR 100], mW τ ρ)) rfl ?_
        refine hR.cv [vI 0] kX6_127 rfl rfl ⟨_, _, _, rfl, rfl, rfl⟩ (by first | decide | exact Nat.le_refl _) (by decide) (Nat.le_of_ble_eq_true rfl) rfl (sr_asks_f _ _) ?_
        show G (40, [some (vR 100), none], [vI 0], mW τ (sS ρ 0 1))
        refine hR.br (C := 0 ≠ 0) rfl (by first | omega | (dsimp only [plus1]; omega) | (simp [plus1, sHt, sH, sS, sAt, sA, sup]; done) | (simp [plus1, sHt, sH, sS, sAt, sA, sup]; omega)) (fun c6 => ?_) (fun c6 => ?_)
        · exfalso; omega
        refine hR.run0 1 (S' := (44, [some (vR 100), none], [vI 0], mW τ (sS ρ 0 1))) rfl ?_
        have hx : xBuy τ = (1, 0, τ) := by unfold xBuy; (repeat' split) <;> first | rfl | (exfalso; omega) | (exfalso; simp_all; done) | (simp_all; done) | (exfalso; simp_all; omega)
        exact hR.rt rfl trivial (by rw [hx]) (by rw [hx])
      · replace c5 : (hasG (τ.2.2 0) (τ.1 1) 11100) = true := bI1 c5
        try simp only [Bool.and_eq_true, Bool.or_eq_true, Bool.and_eq_false_iff, Bool.or_eq_false_iff, decide_eq_true_eq, decide_eq_false_iff_not] at c5
        refine hR.run0 2 (S' := (37, [some (vR 100), none], [vI 1, vR 100], mW τ ρ)) rfl ?_
        refine hR.cv [vI 1] kX6_127 rfl rfl ⟨_, _, _, rfl, rfl, rfl⟩ (by first | decide | exact Nat.le_refl _) (by decide) (Nat.le_of_ble_eq_true rfl) rfl (sr_asks_t _ _) ?_
        show G (40, [some (vR 100), none], [vI 1], mW τ (sS ρ 0 0))
        refine hR.br (C := 1 ≠ 0) rfl (by first | omega | (dsimp only [plus1]; omega) | (simp [plus1, sHt, sH, sS, sAt, sA, sup]; done) | (simp [plus1, sHt, sH, sS, sAt, sA, sup]; omega)) (fun c7 => ?_) (fun c7 => ?_)
        · skip
          refine hR.run0 2 (S' := (49, [some (vR 100), none], [vI 11100, vR 100], mW τ (sS ρ 0 0))) rfl ?_
          refine hR.cv [vI 11100] kX6_203 rfl rfl ⟨_, _, _, rfl, rfl, rfl⟩ (by first | decide | exact Nat.le_refl _) (by decide) (Nat.le_of_ble_eq_true rfl) rfl (sr_pays _ _ (by omega) htu) ?_
          show G (52, [some (vR 100), none], [], mW (mvA τ (τ.1 1) 3 11100) (sS ρ 0 0))
          have ez1 : (mvA τ (τ.1 1) 3 11100).1 1 = τ.1 1 := rfl
          refine hR.run0 2 (S' := (56, [some (vR 100), none], [vI (τ.1 6)], mW (mvA τ (τ.1 1) 3 11100) (sS ρ 0 0))) rfl ?_
          have f2 := ordF_r (τ.1 6)
          refine hR.cs [vI (τ.1 6)] kX6_215 rfl rfl (by first | decide | exact Nat.le_refl _) (by decide) (Nat.le_of_ble_eq_true rfl) rfl (sr_kindOf _ _ (by omega)) ?_
          show G (59, [some (vR 100), none], [vI (ordF (τ.1 6))], mW (mvA τ (τ.1 1) 3 11100) (sS ρ 0 0))
          refine hR.run0 7 (S' := (70, [some (vR 100), some (vI (ordF (τ.1 6)))], [], pset (mW (mvA τ (τ.1 1) 3 11100) (sS ρ 0 0)) 100 (.inr (6, [vR 101, vR 102, vI ((mvA τ (τ.1 1) 3 11100).1 5), vR 103, vR 104, vR 105, vR 106, vI ((mvA τ (τ.1 1) 3 11100).1 0), vI ((mvA τ (τ.1 1) 3 11100).1 1), vI ((mvA τ (τ.1 1) 3 11100).1 2), vI ((mvA τ (τ.1 1) 3 11100).1 3), vR 107, vR 108, vI ((τ.1 6) + 1), vI ((mvA τ (τ.1 1) 3 11100).1 7), vR 109, vI ((mvA τ (τ.1 1) 3 11100).1 8), vI ((mvA τ (τ.1 1) 3 11100).1 4), vI ((mvA τ (τ.1 1) 3 11100).1 9), vI ((mvA τ (τ.1 1) 3 11100).1 10), vR 110, vR 111, vR 112, vR 113, vR 114, vI ((sS ρ 0 0).1 0)])))) rfl ?_
          rw [mW_s6]
          refine hR.run1 10 (S' := (84, [some (vR 100), some (vI (ordF (τ.1 6)))], [vI (flat (τ.2.2 1) ((5 * (τ.1 1)) + (ordF (τ.1 6)))), vI ((5 * (τ.1 1)) + (ordF (τ.1 6))), vR 107], mW (sS (mvA τ (τ.1 1) 3 11100) 6 ((τ.1 6) + 1)) (sS ρ 0 0))) rfl (by first | omega | (dsimp only [plus1]; omega) | (simp [plus1, sHt, sH, sS, sAt, sA, sup]; done) | (simp [plus1, sHt, sH, sS, sAt, sA, sup]; omega)) ?_
          rw [show flat (τ.2.2 1) ((5 * (τ.1 1)) + (ordF (τ.1 6))) = τ.2.2 1 (τ.1 1) (ordF (τ.1 6)) from flat_at (p := (τ.1 1)) _ (by omega)]
          refine hR.run1 3 (S' := (87, [some (vR 100), some (vI (ordF (τ.1 6)))], [], pset (mW (sS (mvA τ (τ.1 1) 3 11100) 6 ((τ.1 6) + 1)) (sS ρ 0 0)) 107 (.inl (15, .inl (pup (flat ((sS (mvA τ (τ.1 1) 3 11100) 6 ((τ.1 6) + 1)).2.2 1)) (5 * (τ.1 1) + (ordF (τ.1 6))) ((τ.2.2 1 (τ.1 1) (ordF (τ.1 6))) + 1)))))) rfl (by first | omega | (dsimp only [plus1]; omega) | (simp [plus1, sHt, sH, sS, sAt, sA, sup]; done) | (simp [plus1, sHt, sH, sS, sAt, sA, sup]; omega)) ?_
          rw [mW_c _ _ _ (by omega)]
          refine hR.run1 8 (S' := (97, [some (vR 100), some (vI (ordF (τ.1 6)))], [], pset (mW (sHt (sS (mvA τ (τ.1 1) 3 11100) 6 ((τ.1 6) + 1)) 1 (τ.1 1) (ordF (τ.1 6)) ((τ.2.2 1 (τ.1 1) (ordF (τ.1 6))) + 1)) (sS ρ 0 0)) 108 (.inl (5, .inl (pup ((sHt (sS (mvA τ (τ.1 1) 3 11100) 6 ((τ.1 6) + 1)) 1 (τ.1 1) (ordF (τ.1 6)) ((τ.2.2 1 (τ.1 1) (ordF (τ.1 6))) + 1)).2.1 5) (ordF (τ.1 6)) ((τ.2.1 5 (ordF (τ.1 6))) + 1)))))) rfl (by first | omega | (dsimp only [plus1]; omega) | (simp [plus1, sHt, sH, sS, sAt, sA, sup]; done) | (simp [plus1, sHt, sH, sS, sAt, sA, sup]; omega)) ?_
          rw [mW_a5]
          refine hR.run0 1 (S' := (98, [some (vR 100), some (vI (ordF (τ.1 6)))], [vR 100], mW (sAt (sHt (sS (mvA τ (τ.1 1) 3 11100) 6 ((τ.1 6) + 1)) 1 (τ.1 1) (ordF (τ.1 6)) ((τ.2.2 1 (τ.1 1) (ordF (τ.1 6))) + 1)) 5 (ordF (τ.1 6)) ((τ.2.1 5 (ordF (τ.1 6))) + 1)) (sS ρ 0 0))) rfl ?_
          rw [show sAt (sHt (sS (mvA τ (τ.1 1) 3 11100) 6 ((τ.1 6) + 1)) 1 (τ.1 1) (ordF (τ.1 6)) ((τ.2.2 1 (τ.1 1) (ordF (τ.1 6))) + 1)) 5 (ordF (τ.1 6)) ((τ.2.1 5 (ordF (τ.1 6))) + 1) = gvS (mvA τ (τ.1 1) 3 11100) (τ.1 1) from by rfl]
          refine hR.cv [] kX6_209 rfl rfl ⟨_, _, _, rfl, rfl, rfl⟩ (by first | decide | exact Nat.le_refl _) (by decide) (Nat.le_of_ble_eq_true rfl) rfl (sr_lookW _ _ (by first | exact (Wi.use hI.wi (fun k => (hI.hfr k).1) (by assumption) : Wi (usS τ (τ.1 1) 0)) | exact Wi.rob (Wi.use hI.wi (fun k => (hI.hfr k).1) (by assumption)) _ _ _ | exact Wi.gv hI.wi (by omega) hI.hcb _ | exact Wi.nd hI.wi (by omega) | assumption)) ?_
          show G (101, [some (vR 100), some (vI (ordF (τ.1 6)))], [], mW (winS (gvS (mvA τ (τ.1 1) 3 11100) (τ.1 1))) (sS ρ 0 0))
          refine hR.run0 1 (S' := (102, [some (vR 100), some (vI (ordF (τ.1 6)))], [vI (ordF (τ.1 6))], mW (winS (gvS (mvA τ (τ.1 1) 3 11100) (τ.1 1))) (sS ρ 0 0))) rfl ?_
          have hx : xBuy τ = (0, ordF (τ.1 6), winS (gvS (mvA τ (τ.1 1) 3 11100) (τ.1 1))) := by unfold xBuy; (repeat' split) <;> first | rfl | (exfalso; omega) | (exfalso; simp_all; done) | (simp_all; done) | (exfalso; simp_all; omega)
          exact hR.rt rfl trivial (by rw [hx]) (by rw [hx])
        · exfalso; omega
theorem pX6_knight_n (τ ρ : St) {h d : Int} (hh0 : -2147483648 ≤ h ∧ h ≤ 2147483647) (hd0 : -2147483648 ≤ d ∧ d ≤ 2147483647) (hI : Iv τ)  : Sp mX6_knight roC 4 [vR 100, vI h, vI (-1), vI d] (mW τ ρ) (.inl (some (vI (xKnight τ h (-1) d).2.1))) (mW (xKnight τ h (-1) d).2.2 (sS ρ 0 (xKnight τ h (-1) d).1)) := by
  have hb := hI.hb
  have hr := hI.hr
  have hg := hI.hg
  have hn := hI.hn
  have h7 := hI.h7
  have hh := hI.hh
  have hsm := hI.hsm
  have hcd := hI.hcd
  have hfr := hI.hfr
  have hkn := hI.hkn
  have hbo := hI.hbo
  have hus := hI.hus
  have hro := hI.hro
  have har := hI.har
  have hth := hI.hth
  have hph := hI.hph
  have htu := hI.htu
  have hrb := hI.hrb
  have hpl := hI.hpl
  have hdu := hI.hdu
  have hdp := hI.hdp
  have hof := hI.hof
  have how := hI.how
  have hga := hI.hga
  have hwa := hI.hwa
  have hck := hI.hck
  have hkz := hI.hkz
  have hcb := hI.hcb
  have hfb := hI.hfb
  have hnr := hI.hnr
  have hpq := hI.hpq
  have hrc := hI.hrc
  have hbc := hI.hbc
  have hcc := hI.hcc
  have hac := hI.hac
  refine Sp.of (lk := lkX6) (tb := bX6_knight) (by decide) lkX6_ok tX6_knight (mW_keys _ _ _ _) (Nat.le_of_ble_eq_true rfl) (fun G hR => ?_)
  refine hR.run0 4 (S' := (4, [some (vR 100), some (vI h), some (vI (-1)), some (vI d), none, none], [vI d, vI (-1), vI h, vR 100], mW τ ρ)) rfl ?_
  by_cases qa : arC h (-1) d = 0
  · have qb := arC_0 qa
    refine hR.cv [vI h, vI (-1), vI d] kX6_191 rfl rfl ⟨_, _, _, rfl, rfl, rfl⟩ (by first | decide | exact Nat.le_refl _) (by decide) (Nat.le_of_ble_eq_true rfl) rfl (sr_asksRob_t _ _ (by omega) (by omega) (by omega) qa) ?_
    show G (7, [some (vR 100), some (vI h), some (vI (-1)), some (vI d), none, none], [vI 1], mW τ (sS ρ 0 0))
    refine hR.br (C := 1 ≠ 0) rfl (by first | omega | (dsimp only [plus1]; omega) | (simp [plus1, sHt, sH, sS, sAt, sA, sup]; done) | (simp [plus1, sHt, sH, sS, sAt, sA, sup]; omega)) (fun c1 => ?_) (fun c1 => ?_)
    · skip
      refine hR.run0 2 (S' := (14, [some (vR 100), some (vI h), some (vI (-1)), some (vI d), none, none], [vI 0, vR 100], mW τ (sS ρ 0 0))) rfl ?_
      refine hR.cv [vI 0] kX6_221 rfl rfl ⟨_, _, _, rfl, rfl, rfl⟩ (by first | decide | exact Nat.le_refl _) (by decide) (Nat.le_of_ble_eq_true rfl) rfl (sr_mayUse0 _ _ hph htu hcd hfr hus) ?_
      show G (17, [some (vR 100), some (vI h), some (vI (-1)), some (vI d), none, none], [vI (bI (mayU τ 0))], mW τ (sS ρ 0 0))
      refine hR.br (C := bI (mayU τ 0) = 0) rfl (bI_r _) (fun c2 => ?_) (fun c2 => ?_)
      · replace c2 : (mayU τ 0) = false := bI0 c2
        try simp only [Bool.and_eq_true, Bool.or_eq_true, Bool.and_eq_false_iff, Bool.or_eq_false_iff, decide_eq_true_eq, decide_eq_false_iff_not] at c2
        refine hR.run0 2 (S' := (31, [some (vR 100), some (vI h), some (vI (-1)), some (vI d), none, none], [vI 3, vR 100], mW τ (sS ρ 0 0))) rfl ?_
        refine hR.cv [vI 3] kX6_149 rfl rfl ⟨_, _, _, rfl, rfl, rfl⟩ (by first | decide | exact Nat.le_refl _) (by decide) (Nat.le_of_ble_eq_true rfl) rfl (sr_fails _ _ _) ?_
        show G (34, [some (vR 100), some (vI h), some (vI (-1)), some (vI d), none, none], [vI 0], mW τ (sS (sS ρ 0 0) 0 3))
        rw [sS_sS]
        show G (34, [some (vR 100), some (vI h), some (vI (-1)), some (vI d), none, none], [vI 0], mW τ (sS ρ 0 3))
        have hx : xKnight τ h (-1) d = (3, 0, τ) := by unfold xKnight; rw [if_neg (by rw [qa]; decide)]; (repeat' split) <;> first | rfl | (exfalso; omega) | (exfalso; simp_all; done) | (simp_all [robS_n]; done) | (simp [robS_n, drw]; done) | (exfalso; simp_all; omega)
        exact hR.rt rfl trivial (by rw [hx]) (by rw [hx])
      · replace c2 : (mayU τ 0) = true := bI1 c2
        try simp only [Bool.and_eq_true, Bool.or_eq_true, Bool.and_eq_false_iff, Bool.or_eq_false_iff, decide_eq_true_eq, decide_eq_false_iff_not] at c2
        refine hR.run0 3 (S' := (23, [some (vR 100), some (vI h), some (vI (-1)), some (vI d), none, none], [vI (-1), vI h, vR 100], mW τ (sS ρ 0 0))) rfl ?_
        refine hR.cv [vI h, vI (-1)] kX6_194 rfl rfl ⟨_, _, _, rfl, rfl, rfl⟩ (by first | decide | exact Nat.le_refl _) (by decide) (Nat.le_of_ble_eq_true rfl) rfl (sr_mayRobn _ _ (by omega) hb hh htu hrb) ?_
        show G (26, [some (vR 100), some (vI h), some (vI (-1)), some (vI d), none, none], [vI (bI (mayR τ h (-1)))], mW τ (sS ρ 0 0))
        refine hR.br (C := bI (mayR τ h (-1)) ≠ 0) rfl (bI_r _) (fun c3 => ?_) (fun c3 => ?_)
        · replace c3 : (mayR τ h (-1)) = true := bI1 c3
          try simp only [Bool.and_eq_true, Bool.or_eq_true, Bool.and_eq_false_iff, Bool.or_eq_false_iff, decide_eq_true_eq, decide_eq_false_iff_not] at c3
          refine hR.run0 2 (S' := (37, [some (vR 100), some (vI h), some (vI (-1)), some (vI d), none, none], [vI 0, vR 100], mW τ (sS ρ 0 0))) rfl ?_
          refine hR.cv [vI 0] kX6_224 rfl rfl ⟨_, _, _, rfl, rfl, rfl⟩ (by first | decide | exact Nat.le_refl _) (by decide) (Nat.le_of_ble_eq_true rfl) rfl (sr_uses0 _ _ htu) ?_
          show G (40, [some (vR 100), some (vI h), some (vI (-1)), some (vI d), none, none], [], mW (sS (sHt τ 1 (τ.1 1) 0 (τ.2.2 1 (τ.1 1) 0 - 1)) 7 1) (sS ρ 0 0))
          have f1 := hkn (τ.1 1)
          refine hR.run1 9 (S' := (53, [some (vR 100), some (vI h), some (vI (-1)), some (vI d), none, none], [], pset (mW (sS (sHt τ 1 (τ.1 1) 0 (τ.2.2 1 (τ.1 1) 0 - 1)) 7 1) (sS ρ 0 0)) 109 (.inl (3, .inl (pup ((sS (sHt τ 1 (τ.1 1) 0 (τ.2.2 1 (τ.1 1) 0 - 1)) 7 1).2.1 6) (τ.1 1) ((τ.2.1 6 (τ.1 1)) + 1)))))) rfl (by first | omega | (dsimp only [plus1]; omega) | (simp [plus1, sHt, sH, sS, sAt, sA, sup]; done) | (simp [plus1, sHt, sH, sS, sAt, sA, sup]; omega)) ?_
          rw [mW_a6]
          have f2 : 0 ≤ (sAt (sS (sHt τ 1 (τ.1 1) 0 (τ.2.2 1 (τ.1 1) 0 - 1)) 7 1) 6 (τ.1 1) ((τ.2.1 6 (τ.1 1)) + 1)).2.1 6 (τ.1 1) ∧ (sAt (sS (sHt τ 1 (τ.1 1) 0 (τ.2.2 1 (τ.1 1) 0 - 1)) 7 1) 6 (τ.1 1) ((τ.2.1 6 (τ.1 1)) + 1)).2.1 6 (τ.1 1) ≤ 15 := pup_b hkn (by have := hI.kn14 (mayU_canU (by assumption)) (τ.1 1); omega) _
          refine hR.run1 6 (S' := (63, [some (vR 100), some (vI h), some (vI (-1)), some (vI d), none, none], [vI 3, vI ((sAt (sS (sHt τ 1 (τ.1 1) 0 (τ.2.2 1 (τ.1 1) 0 - 1)) 7 1) 6 (τ.1 1) ((τ.2.1 6 (τ.1 1)) + 1)).2.1 6 (τ.1 1))], mW (sAt (sS (sHt τ 1 (τ.1 1) 0 (τ.2.2 1 (τ.1 1) 0 - 1)) 7 1) 6 (τ.1 1) ((τ.2.1 6 (τ.1 1)) + 1)) (sS ρ 0 0))) rfl (by first | omega | (dsimp only [plus1]; omega) | (simp [plus1, sHt, sH, sS, sAt, sA, sup]; done) | (simp [plus1, sHt, sH, sS, sAt, sA, sup]; omega)) ?_
          refine hR.br (C := (sAt (sS (sHt τ 1 (τ.1 1) 0 (τ.2.2 1 (τ.1 1) 0 - 1)) 7 1) 6 (τ.1 1) ((τ.2.1 6 (τ.1 1)) + 1)).2.1 6 (τ.1 1) < 3) rfl (by first | omega | (dsimp only [plus1]; omega) | (simp [plus1, sHt, sH, sS, sAt, sA, sup]; done) | (simp [plus1, sHt, sH, sS, sAt, sA, sup]; omega)) (fun c4 => ?_) (fun c4 => ?_)
          · skip
            refine hR.run0 4 (S' := (105, [some (vR 100), some (vI h), some (vI (-1)), some (vI d), some (vI 0), none], [vI 0, vR 100], mW (sAt (sS (sHt τ 1 (τ.1 1) 0 (τ.2.2 1 (τ.1 1) 0 - 1)) 7 1) 6 (τ.1 1) ((τ.2.1 6 (τ.1 1)) + 1)) (sS ρ 0 0))) rfl ?_
            refine hR.br (C := 0 = 0) rfl (by first | omega | (dsimp only [plus1]; omega) | (simp [plus1, sHt, sH, sS, sAt, sA, sup]; done) | (simp [plus1, sHt, sH, sS, sAt, sA, sup]; omega)) (fun c5 => ?_) (fun c5 => ?_)
            · skip
              refine hR.run0 3 (S' := (122, [some (vR 100), some (vI h), some (vI (-1)), some (vI d), some (vI 0), none], [], pset (mW (sAt (sS (sHt τ 1 (τ.1 1) 0 (τ.2.2 1 (τ.1 1) 0 - 1)) 7 1) 6 (τ.1 1) ((τ.2.1 6 (τ.1 1)) + 1)) (sS ρ 0 0)) 100 (.inr (6, [vR 101, vR 102, vI ((sAt (sS (sHt τ 1 (τ.1 1) 0 (τ.2.2 1 (τ.1 1) 0 - 1)) 7 1) 6 (τ.1 1) ((τ.2.1 6 (τ.1 1)) + 1)).1 5), vR 103, vR 104, vR 105, vR 106, vI ((sAt (sS (sHt τ 1 (τ.1 1) 0 (τ.2.2 1 (τ.1 1) 0 - 1)) 7 1) 6 (τ.1 1) ((τ.2.1 6 (τ.1 1)) + 1)).1 0), vI ((sAt (sS (sHt τ 1 (τ.1 1) 0 (τ.2.2 1 (τ.1 1) 0 - 1)) 7 1) 6 (τ.1 1) ((τ.2.1 6 (τ.1 1)) + 1)).1 1), vI ((sAt (sS (sHt τ 1 (τ.1 1) 0 (τ.2.2 1 (τ.1 1) 0 - 1)) 7 1) 6 (τ.1 1) ((τ.2.1 6 (τ.1 1)) + 1)).1 2), vI ((sAt (sS (sHt τ 1 (τ.1 1) 0 (τ.2.2 1 (τ.1 1) 0 - 1)) 7 1) 6 (τ.1 1) ((τ.2.1 6 (τ.1 1)) + 1)).1 3), vR 107, vR 108, vI ((sAt (sS (sHt τ 1 (τ.1 1) 0 (τ.2.2 1 (τ.1 1) 0 - 1)) 7 1) 6 (τ.1 1) ((τ.2.1 6 (τ.1 1)) + 1)).1 6), vI ((sAt (sS (sHt τ 1 (τ.1 1) 0 (τ.2.2 1 (τ.1 1) 0 - 1)) 7 1) 6 (τ.1 1) ((τ.2.1 6 (τ.1 1)) + 1)).1 7), vR 109, vI (τ.1 8), vI ((sAt (sS (sHt τ 1 (τ.1 1) 0 (τ.2.2 1 (τ.1 1) 0 - 1)) 7 1) 6 (τ.1 1) ((τ.2.1 6 (τ.1 1)) + 1)).1 4), vI ((sAt (sS (sHt τ 1 (τ.1 1) 0 (τ.2.2 1 (τ.1 1) 0 - 1)) 7 1) 6 (τ.1 1) ((τ.2.1 6 (τ.1 1)) + 1)).1 9), vI ((sAt (sS (sHt τ 1 (τ.1 1) 0 (τ.2.2 1 (τ.1 1) 0 - 1)) 7 1) 6 (τ.1 1) ((τ.2.1 6 (τ.1 1)) + 1)).1 10), vR 110, vR 111, vR 112, vR 113, vR 114, vI ((sS ρ 0 0).1 0)])))) rfl ?_
              rw [mW_s8]
              refine hR.run0 4 (S' := (126, [some (vR 100), some (vI h), some (vI (-1)), some (vI d), some (vI 0), none], [vI d, vI (-1), vI h, vR 100], mW (sS (sAt (sS (sHt τ 1 (τ.1 1) 0 (τ.2.2 1 (τ.1 1) 0 - 1)) 7 1) 6 (τ.1 1) ((τ.2.1 6 (τ.1 1)) + 1)) 8 (τ.1 8)) (sS ρ 0 0))) rfl ?_
              have hcu : canU τ (τ.1 1) 0 = true := mayU_canU (by assumption)
              have hac2 : τ.1 8 ≠ -1 → 3 ≤ (sAt (sS (sHt τ 1 (τ.1 1) 0 (τ.2.2 1 (τ.1 1) 0 - 1)) 7 1) 6 (τ.1 1) ((τ.2.1 6 (τ.1 1)) + 1)).2.1 6 (τ.1 8) := fun e => Int.le_trans (hac e) (pup_ge (by omega) _)
              rw [show sS (sAt (sS (sHt τ 1 (τ.1 1) 0 (τ.2.2 1 (τ.1 1) 0 - 1)) 7 1) 6 (τ.1 1) ((τ.2.1 6 (τ.1 1)) + 1)) 8 (τ.1 8) = usS τ (τ.1 1) 0 from arm_not (X := sAt (sS (sHt τ 1 (τ.1 1) 0 (τ.2.2 1 (τ.1 1) 0 - 1)) 7 1) 6 (τ.1 1) ((τ.2.1 6 (τ.1 1)) + 1)) (by show ¬ (if τ.1 8 = -1 then (3 : Int) else (sAt (sS (sHt τ 1 (τ.1 1) 0 (τ.2.2 1 (τ.1 1) 0 - 1)) 7 1) 6 (τ.1 1) ((τ.2.1 6 (τ.1 1)) + 1)).2.1 6 (τ.1 8) + 1) ≤ (sAt (sS (sHt τ 1 (τ.1 1) 0 (τ.2.2 1 (τ.1 1) 0 - 1)) 7 1) 6 (τ.1 1) ((τ.2.1 6 (τ.1 1)) + 1)).2.1 6 (τ.1 1); split <;> omega)]
              refine hR.cv [vI h, vI (-1), vI d] kX6_197 rfl rfl ⟨_, _, _, rfl, rfl, rfl⟩ (by first | decide | exact Nat.le_refl _) (by decide) (Nat.le_of_ble_eq_true rfl) rfl (sr_robsN _ _ _ _) ?_
              show G (129, [some (vR 100), some (vI h), some (vI (-1)), some (vI d), some (vI 0), none], [vI (-1)], mW (sS (usS τ (τ.1 1) 0) 5 h) (sS ρ 0 0))
              refine hR.run0 2 (S' := (132, [some (vR 100), some (vI h), some (vI (-1)), some (vI d), some (vI 0), some (vI (-1))], [vR 100], mW (sS (usS τ (τ.1 1) 0) 5 h) (sS ρ 0 0))) rfl ?_
              refine hR.cv [] kX6_209 rfl rfl ⟨_, _, _, rfl, rfl, rfl⟩ (by first | decide | exact Nat.le_refl _) (by decide) (Nat.le_of_ble_eq_true rfl) rfl (sr_lookW _ _ (by first | exact (Wi.use hI.wi (fun k => (hI.hfr k).1) (by assumption) : Wi (usS τ (τ.1 1) 0)) | exact Wi.rob (Wi.use hI.wi (fun k => (hI.hfr k).1) (by assumption)) _ _ _ | exact Wi.gv hI.wi (by omega) hI.hcb _ | exact Wi.nd hI.wi (by omega) | assumption)) ?_
              show G (135, [some (vR 100), some (vI h), some (vI (-1)), some (vI d), some (vI 0), some (vI (-1))], [], mW (winS (sS (usS τ (τ.1 1) 0) 5 h)) (sS ρ 0 0))
              refine hR.run0 1 (S' := (137, [some (vR 100), some (vI h), some (vI (-1)), some (vI d), some (vI 0), some (vI (-1))], [vI (-1)], mW (winS (sS (usS τ (τ.1 1) 0) 5 h)) (sS ρ 0 0))) rfl ?_
              have hx : xKnight τ h (-1) d = (0, (-1), winS (sS (usS τ (τ.1 1) 0) 5 h)) := by unfold xKnight; rw [if_neg (by rw [qa]; decide)]; (repeat' split) <;> first | rfl | (exfalso; omega) | (exfalso; simp_all; done) | (simp_all [robS_n]; done) | (simp [robS_n, drw]; done) | (exfalso; simp_all; omega)
              exact hR.rt rfl trivial (by rw [hx]) (by rw [hx])
            · exfalso; omega
          · skip
            refine hR.run0 3 (S' := (71, [some (vR 100), some (vI h), some (vI (-1)), some (vI d), none, none], [vI (-1), vI (τ.1 8)], mW (sAt (sS (sHt τ 1 (τ.1 1) 0 (τ.2.2 1 (τ.1 1) 0 - 1)) 7 1) 6 (τ.1 1) ((τ.2.1 6 (τ.1 1)) + 1)) (sS ρ 0 0))) rfl ?_
            refine hR.br (C := τ.1 8 = (-1)) rfl (by first | omega | (dsimp only [plus1]; omega) | (simp [plus1, sHt, sH, sS, sAt, sA, sup]; done) | (simp [plus1, sHt, sH, sS, sAt, sA, sup]; omega)) (fun c6 => ?_) (fun c6 => ?_)
            · skip
              refine hR.run0 5 (S' := (105, [some (vR 100), some (vI h), some (vI (-1)), some (vI d), some (vI 1), none], [vI 1, vR 100], mW (sAt (sS (sHt τ 1 (τ.1 1) 0 (τ.2.2 1 (τ.1 1) 0 - 1)) 7 1) 6 (τ.1 1) ((τ.2.1 6 (τ.1 1)) + 1)) (sS ρ 0 0))) rfl ?_
              refine hR.br (C := 1 = 0) rfl (by first | omega | (dsimp only [plus1]; omega) | (simp [plus1, sHt, sH, sS, sAt, sA, sup]; done) | (simp [plus1, sHt, sH, sS, sAt, sA, sup]; omega)) (fun c7 => ?_) (fun c7 => ?_)
              · exfalso; omega
              refine hR.run0 4 (S' := (122, [some (vR 100), some (vI h), some (vI (-1)), some (vI d), some (vI 1), none], [], pset (mW (sAt (sS (sHt τ 1 (τ.1 1) 0 (τ.2.2 1 (τ.1 1) 0 - 1)) 7 1) 6 (τ.1 1) ((τ.2.1 6 (τ.1 1)) + 1)) (sS ρ 0 0)) 100 (.inr (6, [vR 101, vR 102, vI ((sAt (sS (sHt τ 1 (τ.1 1) 0 (τ.2.2 1 (τ.1 1) 0 - 1)) 7 1) 6 (τ.1 1) ((τ.2.1 6 (τ.1 1)) + 1)).1 5), vR 103, vR 104, vR 105, vR 106, vI ((sAt (sS (sHt τ 1 (τ.1 1) 0 (τ.2.2 1 (τ.1 1) 0 - 1)) 7 1) 6 (τ.1 1) ((τ.2.1 6 (τ.1 1)) + 1)).1 0), vI ((sAt (sS (sHt τ 1 (τ.1 1) 0 (τ.2.2 1 (τ.1 1) 0 - 1)) 7 1) 6 (τ.1 1) ((τ.2.1 6 (τ.1 1)) + 1)).1 1), vI ((sAt (sS (sHt τ 1 (τ.1 1) 0 (τ.2.2 1 (τ.1 1) 0 - 1)) 7 1) 6 (τ.1 1) ((τ.2.1 6 (τ.1 1)) + 1)).1 2), vI ((sAt (sS (sHt τ 1 (τ.1 1) 0 (τ.2.2 1 (τ.1 1) 0 - 1)) 7 1) 6 (τ.1 1) ((τ.2.1 6 (τ.1 1)) + 1)).1 3), vR 107, vR 108, vI ((sAt (sS (sHt τ 1 (τ.1 1) 0 (τ.2.2 1 (τ.1 1) 0 - 1)) 7 1) 6 (τ.1 1) ((τ.2.1 6 (τ.1 1)) + 1)).1 6), vI ((sAt (sS (sHt τ 1 (τ.1 1) 0 (τ.2.2 1 (τ.1 1) 0 - 1)) 7 1) 6 (τ.1 1) ((τ.2.1 6 (τ.1 1)) + 1)).1 7), vR 109, vI (τ.1 1), vI ((sAt (sS (sHt τ 1 (τ.1 1) 0 (τ.2.2 1 (τ.1 1) 0 - 1)) 7 1) 6 (τ.1 1) ((τ.2.1 6 (τ.1 1)) + 1)).1 4), vI ((sAt (sS (sHt τ 1 (τ.1 1) 0 (τ.2.2 1 (τ.1 1) 0 - 1)) 7 1) 6 (τ.1 1) ((τ.2.1 6 (τ.1 1)) + 1)).1 9), vI ((sAt (sS (sHt τ 1 (τ.1 1) 0 (τ.2.2 1 (τ.1 1) 0 - 1)) 7 1) 6 (τ.1 1) ((τ.2.1 6 (τ.1 1)) + 1)).1 10), vR 110, vR 111, vR 112, vR 113, vR 114, vI ((sS ρ 0 0).1 0)])))) rfl ?_
              rw [mW_s8]
              refine hR.run0 4 (S' := (126, [some (vR 100), some (vI h), some (vI (-1)), some (vI d), some (vI 1), none], [vI d, vI (-1), vI h, vR 100], mW (sS (sAt (sS (sHt τ 1 (τ.1 1) 0 (τ.2.2 1 (τ.1 1) 0 - 1)) 7 1) 6 (τ.1 1) ((τ.2.1 6 (τ.1 1)) + 1)) 8 (τ.1 1)) (sS ρ 0 0))) rfl ?_
              have hcu : canU τ (τ.1 1) 0 = true := mayU_canU (by assumption)
              have hac2 : τ.1 8 ≠ -1 → 3 ≤ (sAt (sS (sHt τ 1 (τ.1 1) 0 (τ.2.2 1 (τ.1 1) 0 - 1)) 7 1) 6 (τ.1 1) ((τ.2.1 6 (τ.1 1)) + 1)).2.1 6 (τ.1 8) := fun e => Int.le_trans (hac e) (pup_ge (by omega) _)
              rw [show sS (sAt (sS (sHt τ 1 (τ.1 1) 0 (τ.2.2 1 (τ.1 1) 0 - 1)) 7 1) 6 (τ.1 1) ((τ.2.1 6 (τ.1 1)) + 1)) 8 (τ.1 1) = usS τ (τ.1 1) 0 from arm_is (X := sAt (sS (sHt τ 1 (τ.1 1) 0 (τ.2.2 1 (τ.1 1) 0 - 1)) 7 1) 6 (τ.1 1) ((τ.2.1 6 (τ.1 1)) + 1)) (by show (if τ.1 8 = -1 then (3 : Int) else (sAt (sS (sHt τ 1 (τ.1 1) 0 (τ.2.2 1 (τ.1 1) 0 - 1)) 7 1) 6 (τ.1 1) ((τ.2.1 6 (τ.1 1)) + 1)).2.1 6 (τ.1 8) + 1) ≤ (sAt (sS (sHt τ 1 (τ.1 1) 0 (τ.2.2 1 (τ.1 1) 0 - 1)) 7 1) 6 (τ.1 1) ((τ.2.1 6 (τ.1 1)) + 1)).2.1 6 (τ.1 1); split <;> omega)]
              refine hR.cv [vI h, vI (-1), vI d] kX6_197 rfl rfl ⟨_, _, _, rfl, rfl, rfl⟩ (by first | decide | exact Nat.le_refl _) (by decide) (Nat.le_of_ble_eq_true rfl) rfl (sr_robsN _ _ _ _) ?_
              show G (129, [some (vR 100), some (vI h), some (vI (-1)), some (vI d), some (vI 1), none], [vI (-1)], mW (sS (usS τ (τ.1 1) 0) 5 h) (sS ρ 0 0))
              refine hR.run0 2 (S' := (132, [some (vR 100), some (vI h), some (vI (-1)), some (vI d), some (vI 1), some (vI (-1))], [vR 100], mW (sS (usS τ (τ.1 1) 0) 5 h) (sS ρ 0 0))) rfl ?_
              refine hR.cv [] kX6_209 rfl rfl ⟨_, _, _, rfl, rfl, rfl⟩ (by first | decide | exact Nat.le_refl _) (by decide) (Nat.le_of_ble_eq_true rfl) rfl (sr_lookW _ _ (by first | exact (Wi.use hI.wi (fun k => (hI.hfr k).1) (by assumption) : Wi (usS τ (τ.1 1) 0)) | exact Wi.rob (Wi.use hI.wi (fun k => (hI.hfr k).1) (by assumption)) _ _ _ | exact Wi.gv hI.wi (by omega) hI.hcb _ | exact Wi.nd hI.wi (by omega) | assumption)) ?_
              show G (135, [some (vR 100), some (vI h), some (vI (-1)), some (vI d), some (vI 1), some (vI (-1))], [], mW (winS (sS (usS τ (τ.1 1) 0) 5 h)) (sS ρ 0 0))
              refine hR.run0 1 (S' := (137, [some (vR 100), some (vI h), some (vI (-1)), some (vI d), some (vI 1), some (vI (-1))], [vI (-1)], mW (winS (sS (usS τ (τ.1 1) 0) 5 h)) (sS ρ 0 0))) rfl ?_
              have hx : xKnight τ h (-1) d = (0, (-1), winS (sS (usS τ (τ.1 1) 0) 5 h)) := by unfold xKnight; rw [if_neg (by rw [qa]; decide)]; (repeat' split) <;> first | rfl | (exfalso; omega) | (exfalso; simp_all; done) | (simp_all [robS_n]; done) | (simp [robS_n, drw]; done) | (exfalso; simp_all; omega)
              exact hR.rt rfl trivial (by rw [hx]) (by rw [hx])
            · skip
              have f3 : 0 ≤ (sAt (sS (sHt τ 1 (τ.1 1) 0 (τ.2.2 1 (τ.1 1) 0 - 1)) 7 1) 6 (τ.1 1) ((τ.2.1 6 (τ.1 1)) + 1)).2.1 6 (τ.1 1) ∧ (sAt (sS (sHt τ 1 (τ.1 1) 0 (τ.2.2 1 (τ.1 1) 0 - 1)) 7 1) 6 (τ.1 1) ((τ.2.1 6 (τ.1 1)) + 1)).2.1 6 (τ.1 1) ≤ 15 := pup_b hkn (by have := hI.kn14 (mayU_canU (by assumption)) (τ.1 1); omega) _
              have f4 : 0 ≤ (sAt (sS (sHt τ 1 (τ.1 1) 0 (τ.2.2 1 (τ.1 1) 0 - 1)) 7 1) 6 (τ.1 1) ((τ.2.1 6 (τ.1 1)) + 1)).2.1 6 (τ.1 8) ∧ (sAt (sS (sHt τ 1 (τ.1 1) 0 (τ.2.2 1 (τ.1 1) 0 - 1)) 7 1) 6 (τ.1 1) ((τ.2.1 6 (τ.1 1)) + 1)).2.1 6 (τ.1 8) ≤ 15 := pup_b hkn (by have := hI.kn14 (mayU_canU (by assumption)) (τ.1 1); omega) _
              refine hR.run1 10 (S' := (92, [some (vR 100), some (vI h), some (vI (-1)), some (vI d), none, none], [vI ((sAt (sS (sHt τ 1 (τ.1 1) 0 (τ.2.2 1 (τ.1 1) 0 - 1)) 7 1) 6 (τ.1 1) ((τ.2.1 6 (τ.1 1)) + 1)).2.1 6 (τ.1 8)), vI ((sAt (sS (sHt τ 1 (τ.1 1) 0 (τ.2.2 1 (τ.1 1) 0 - 1)) 7 1) 6 (τ.1 1) ((τ.2.1 6 (τ.1 1)) + 1)).2.1 6 (τ.1 1))], mW (sAt (sS (sHt τ 1 (τ.1 1) 0 (τ.2.2 1 (τ.1 1) 0 - 1)) 7 1) 6 (τ.1 1) ((τ.2.1 6 (τ.1 1)) + 1)) (sS ρ 0 0))) rfl (by first | omega | (dsimp only [plus1]; omega) | (simp [plus1, sHt, sH, sS, sAt, sA, sup]; done) | (simp [plus1, sHt, sH, sS, sAt, sA, sup]; omega)) ?_
              refine hR.br (C := (sAt (sS (sHt τ 1 (τ.1 1) 0 (τ.2.2 1 (τ.1 1) 0 - 1)) 7 1) 6 (τ.1 1) ((τ.2.1 6 (τ.1 1)) + 1)).2.1 6 (τ.1 1) ≤ (sAt (sS (sHt τ 1 (τ.1 1) 0 (τ.2.2 1 (τ.1 1) 0 - 1)) 7 1) 6 (τ.1 1) ((τ.2.1 6 (τ.1 1)) + 1)).2.1 6 (τ.1 8)) rfl (by first | omega | (dsimp only [plus1]; omega) | (simp [plus1, sHt, sH, sS, sAt, sA, sup]; done) | (simp [plus1, sHt, sH, sS, sAt, sA, sup]; omega)) (fun c8 => ?_) (fun c8 => ?_)
              · skip
                refine hR.run0 4 (S' := (105, [some (vR 100), some (vI h), some (vI (-1)), some (vI d), some (vI 0), none], [vI 0, vR 100], mW (sAt (sS (sHt τ 1 (τ.1 1) 0 (τ.2.2 1 (τ.1 1) 0 - 1)) 7 1) 6 (τ.1 1) ((τ.2.1 6 (τ.1 1)) + 1)) (sS ρ 0 0))) rfl ?_
                refine hR.br (C := 0 = 0) rfl (by first | omega | (dsimp only [plus1]; omega) | (simp [plus1, sHt, sH, sS, sAt, sA, sup]; done) | (simp [plus1, sHt, sH, sS, sAt, sA, sup]; omega)) (fun c9 => ?_) (fun c9 => ?_)
                · skip
                  refine hR.run0 3 (S' := (122, [some (vR 100), some (vI h), some (vI (-1)), some (vI d), some (vI 0), none], [], pset (mW (sAt (sS (sHt τ 1 (τ.1 1) 0 (τ.2.2 1 (τ.1 1) 0 - 1)) 7 1) 6 (τ.1 1) ((τ.2.1 6 (τ.1 1)) + 1)) (sS ρ 0 0)) 100 (.inr (6, [vR 101, vR 102, vI ((sAt (sS (sHt τ 1 (τ.1 1) 0 (τ.2.2 1 (τ.1 1) 0 - 1)) 7 1) 6 (τ.1 1) ((τ.2.1 6 (τ.1 1)) + 1)).1 5), vR 103, vR 104, vR 105, vR 106, vI ((sAt (sS (sHt τ 1 (τ.1 1) 0 (τ.2.2 1 (τ.1 1) 0 - 1)) 7 1) 6 (τ.1 1) ((τ.2.1 6 (τ.1 1)) + 1)).1 0), vI ((sAt (sS (sHt τ 1 (τ.1 1) 0 (τ.2.2 1 (τ.1 1) 0 - 1)) 7 1) 6 (τ.1 1) ((τ.2.1 6 (τ.1 1)) + 1)).1 1), vI ((sAt (sS (sHt τ 1 (τ.1 1) 0 (τ.2.2 1 (τ.1 1) 0 - 1)) 7 1) 6 (τ.1 1) ((τ.2.1 6 (τ.1 1)) + 1)).1 2), vI ((sAt (sS (sHt τ 1 (τ.1 1) 0 (τ.2.2 1 (τ.1 1) 0 - 1)) 7 1) 6 (τ.1 1) ((τ.2.1 6 (τ.1 1)) + 1)).1 3), vR 107, vR 108, vI ((sAt (sS (sHt τ 1 (τ.1 1) 0 (τ.2.2 1 (τ.1 1) 0 - 1)) 7 1) 6 (τ.1 1) ((τ.2.1 6 (τ.1 1)) + 1)).1 6), vI ((sAt (sS (sHt τ 1 (τ.1 1) 0 (τ.2.2 1 (τ.1 1) 0 - 1)) 7 1) 6 (τ.1 1) ((τ.2.1 6 (τ.1 1)) + 1)).1 7), vR 109, vI (τ.1 8), vI ((sAt (sS (sHt τ 1 (τ.1 1) 0 (τ.2.2 1 (τ.1 1) 0 - 1)) 7 1) 6 (τ.1 1) ((τ.2.1 6 (τ.1 1)) + 1)).1 4), vI ((sAt (sS (sHt τ 1 (τ.1 1) 0 (τ.2.2 1 (τ.1 1) 0 - 1)) 7 1) 6 (τ.1 1) ((τ.2.1 6 (τ.1 1)) + 1)).1 9), vI ((sAt (sS (sHt τ 1 (τ.1 1) 0 (τ.2.2 1 (τ.1 1) 0 - 1)) 7 1) 6 (τ.1 1) ((τ.2.1 6 (τ.1 1)) + 1)).1 10), vR 110, vR 111, vR 112, vR 113, vR 114, vI ((sS ρ 0 0).1 0)])))) rfl ?_
                  rw [mW_s8]
                  refine hR.run0 4 (S' := (126, [some (vR 100), some (vI h), some (vI (-1)), some (vI d), some (vI 0), none], [vI d, vI (-1), vI h, vR 100], mW (sS (sAt (sS (sHt τ 1 (τ.1 1) 0 (τ.2.2 1 (τ.1 1) 0 - 1)) 7 1) 6 (τ.1 1) ((τ.2.1 6 (τ.1 1)) + 1)) 8 (τ.1 8)) (sS ρ 0 0))) rfl ?_
                  have hcu : canU τ (τ.1 1) 0 = true := mayU_canU (by assumption)
                  have hac2 : τ.1 8 ≠ -1 → 3 ≤ (sAt (sS (sHt τ 1 (τ.1 1) 0 (τ.2.2 1 (τ.1 1) 0 - 1)) 7 1) 6 (τ.1 1) ((τ.2.1 6 (τ.1 1)) + 1)).2.1 6 (τ.1 8) := fun e => Int.le_trans (hac e) (pup_ge (by omega) _)
                  rw [show sS (sAt (sS (sHt τ 1 (τ.1 1) 0 (τ.2.2 1 (τ.1 1) 0 - 1)) 7 1) 6 (τ.1 1) ((τ.2.1 6 (τ.1 1)) + 1)) 8 (τ.1 8) = usS τ (τ.1 1) 0 from arm_not (X := sAt (sS (sHt τ 1 (τ.1 1) 0 (τ.2.2 1 (τ.1 1) 0 - 1)) 7 1) 6 (τ.1 1) ((τ.2.1 6 (τ.1 1)) + 1)) (by show ¬ (if τ.1 8 = -1 then (3 : Int) else (sAt (sS (sHt τ 1 (τ.1 1) 0 (τ.2.2 1 (τ.1 1) 0 - 1)) 7 1) 6 (τ.1 1) ((τ.2.1 6 (τ.1 1)) + 1)).2.1 6 (τ.1 8) + 1) ≤ (sAt (sS (sHt τ 1 (τ.1 1) 0 (τ.2.2 1 (τ.1 1) 0 - 1)) 7 1) 6 (τ.1 1) ((τ.2.1 6 (τ.1 1)) + 1)).2.1 6 (τ.1 1); split <;> omega)]
                  refine hR.cv [vI h, vI (-1), vI d] kX6_197 rfl rfl ⟨_, _, _, rfl, rfl, rfl⟩ (by first | decide | exact Nat.le_refl _) (by decide) (Nat.le_of_ble_eq_true rfl) rfl (sr_robsN _ _ _ _) ?_
                  show G (129, [some (vR 100), some (vI h), some (vI (-1)), some (vI d), some (vI 0), none], [vI (-1)], mW (sS (usS τ (τ.1 1) 0) 5 h) (sS ρ 0 0))
                  refine hR.run0 2 (S' := (132, [some (vR 100), some (vI h), some (vI (-1)), some (vI d), some (vI 0), some (vI (-1))], [vR 100], mW (sS (usS τ (τ.1 1) 0) 5 h) (sS ρ 0 0))) rfl ?_
                  refine hR.cv [] kX6_209 rfl rfl ⟨_, _, _, rfl, rfl, rfl⟩ (by first | decide | exact Nat.le_refl _) (by decide) (Nat.le_of_ble_eq_true rfl) rfl (sr_lookW _ _ (by first | exact (Wi.use hI.wi (fun k => (hI.hfr k).1) (by assumption) : Wi (usS τ (τ.1 1) 0)) | exact Wi.rob (Wi.use hI.wi (fun k => (hI.hfr k).1) (by assumption)) _ _ _ | exact Wi.gv hI.wi (by omega) hI.hcb _ | exact Wi.nd hI.wi (by omega) | assumption)) ?_
                  show G (135, [some (vR 100), some (vI h), some (vI (-1)), some (vI d), some (vI 0), some (vI (-1))], [], mW (winS (sS (usS τ (τ.1 1) 0) 5 h)) (sS ρ 0 0))
                  refine hR.run0 1 (S' := (137, [some (vR 100), some (vI h), some (vI (-1)), some (vI d), some (vI 0), some (vI (-1))], [vI (-1)], mW (winS (sS (usS τ (τ.1 1) 0) 5 h)) (sS ρ 0 0))) rfl ?_
                  have hx : xKnight τ h (-1) d = (0, (-1), winS (sS (usS τ (τ.1 1) 0) 5 h)) := by unfold xKnight; rw [if_neg (by rw [qa]; decide)]; (repeat' split) <;> first | rfl | (exfalso; omega) | (exfalso; simp_all; done) | (simp_all [robS_n]; done) | (simp [robS_n, drw]; done) | (exfalso; simp_all; omega)
                  exact hR.rt rfl trivial (by rw [hx]) (by rw [hx])
                · exfalso; omega
              · skip
                refine hR.run0 5 (S' := (105, [some (vR 100), some (vI h), some (vI (-1)), some (vI d), some (vI 1), none], [vI 1, vR 100], mW (sAt (sS (sHt τ 1 (τ.1 1) 0 (τ.2.2 1 (τ.1 1) 0 - 1)) 7 1) 6 (τ.1 1) ((τ.2.1 6 (τ.1 1)) + 1)) (sS ρ 0 0))) rfl ?_
                refine hR.br (C := 1 = 0) rfl (by first | omega | (dsimp only [plus1]; omega) | (simp [plus1, sHt, sH, sS, sAt, sA, sup]; done) | (simp [plus1, sHt, sH, sS, sAt, sA, sup]; omega)) (fun c10 => ?_) (fun c10 => ?_)
                · exfalso; omega
                refine hR.run0 4 (S' := (122, [some (vR 100), some (vI h), some (vI (-1)), some (vI d), some (vI 1), none], [], pset (mW (sAt (sS (sHt τ 1 (τ.1 1) 0 (τ.2.2 1 (τ.1 1) 0 - 1)) 7 1) 6 (τ.1 1) ((τ.2.1 6 (τ.1 1)) + 1)) (sS ρ 0 0)) 100 (.inr (6, [vR 101, vR 102, vI ((sAt (sS (sHt τ 1 (τ.1 1) 0 (τ.2.2 1 (τ.1 1) 0 - 1)) 7 1) 6 (τ.1 1) ((τ.2.1 6 (τ.1 1)) + 1)).1 5), vR 103, vR 104, vR 105, vR 106, vI ((sAt (sS (sHt τ 1 (τ.1 1) 0 (τ.2.2 1 (τ.1 1) 0 - 1)) 7 1) 6 (τ.1 1) ((τ.2.1 6 (τ.1 1)) + 1)).1 0), vI ((sAt (sS (sHt τ 1 (τ.1 1) 0 (τ.2.2 1 (τ.1 1) 0 - 1)) 7 1) 6 (τ.1 1) ((τ.2.1 6 (τ.1 1)) + 1)).1 1), vI ((sAt (sS (sHt τ 1 (τ.1 1) 0 (τ.2.2 1 (τ.1 1) 0 - 1)) 7 1) 6 (τ.1 1) ((τ.2.1 6 (τ.1 1)) + 1)).1 2), vI ((sAt (sS (sHt τ 1 (τ.1 1) 0 (τ.2.2 1 (τ.1 1) 0 - 1)) 7 1) 6 (τ.1 1) ((τ.2.1 6 (τ.1 1)) + 1)).1 3), vR 107, vR 108, vI ((sAt (sS (sHt τ 1 (τ.1 1) 0 (τ.2.2 1 (τ.1 1) 0 - 1)) 7 1) 6 (τ.1 1) ((τ.2.1 6 (τ.1 1)) + 1)).1 6), vI ((sAt (sS (sHt τ 1 (τ.1 1) 0 (τ.2.2 1 (τ.1 1) 0 - 1)) 7 1) 6 (τ.1 1) ((τ.2.1 6 (τ.1 1)) + 1)).1 7), vR 109, vI (τ.1 1), vI ((sAt (sS (sHt τ 1 (τ.1 1) 0 (τ.2.2 1 (τ.1 1) 0 - 1)) 7 1) 6 (τ.1 1) ((τ.2.1 6 (τ.1 1)) + 1)).1 4), vI ((sAt (sS (sHt τ 1 (τ.1 1) 0 (τ.2.2 1 (τ.1 1) 0 - 1)) 7 1) 6 (τ.1 1) ((τ.2.1 6 (τ.1 1)) + 1)).1 9), vI ((sAt (sS (sHt τ 1 (τ.1 1) 0 (τ.2.2 1 (τ.1 1) 0 - 1)) 7 1) 6 (τ.1 1) ((τ.2.1 6 (τ.1 1)) + 1)).1 10), vR 110, vR 111, vR 112, vR 113, vR 114, vI ((sS ρ 0 0).1 0)])))) rfl ?_
                rw [mW_s8]
                refine hR.run0 4 (S' := (126, [some (vR 100), some (vI h), some (vI (-1)), some (vI d), some (vI 1), none], [vI d, vI (-1), vI h, vR 100], mW (sS (sAt (sS (sHt τ 1 (τ.1 1) 0 (τ.2.2 1 (τ.1 1) 0 - 1)) 7 1) 6 (τ.1 1) ((τ.2.1 6 (τ.1 1)) + 1)) 8 (τ.1 1)) (sS ρ 0 0))) rfl ?_
                have hcu : canU τ (τ.1 1) 0 = true := mayU_canU (by assumption)
                have hac2 : τ.1 8 ≠ -1 → 3 ≤ (sAt (sS (sHt τ 1 (τ.1 1) 0 (τ.2.2 1 (τ.1 1) 0 - 1)) 7 1) 6 (τ.1 1) ((τ.2.1 6 (τ.1 1)) + 1)).2.1 6 (τ.1 8) := fun e => Int.le_trans (hac e) (pup_ge (by omega) _)
                rw [show sS (sAt (sS (sHt τ 1 (τ.1 1) 0 (τ.2.2 1 (τ.1 1) 0 - 1)) 7 1) 6 (τ.1 1) ((τ.2.1 6 (τ.1 1)) + 1)) 8 (τ.1 1) = usS τ (τ.1 1) 0 from arm_is (X := sAt (sS (sHt τ 1 (τ.1 1) 0 (τ.2.2 1 (τ.1 1) 0 - 1)) 7 1) 6 (τ.1 1) ((τ.2.1 6 (τ.1 1)) + 1)) (by show (if τ.1 8 = -1 then (3 : Int) else (sAt (sS (sHt τ 1 (τ.1 1) 0 (τ.2.2 1 (τ.1 1) 0 - 1)) 7 1) 6 (τ.1 1) ((τ.2.1 6 (τ.1 1)) + 1)).2.1 6 (τ.1 8) + 1) ≤ (sAt (sS (sHt τ 1 (τ.1 1) 0 (τ.2.2 1 (τ.1 1) 0 - 1)) 7 1) 6 (τ.1 1) ((τ.2.1 6 (τ.1 1)) + 1)).2.1 6 (τ.1 1); split <;> omega)]
                refine hR.cv [vI h, vI (-1), vI d] kX6_197 rfl rfl ⟨_, _, _, rfl, rfl, rfl⟩ (by first | decide | exact Nat.le_refl _) (by decide) (Nat.le_of_ble_eq_true rfl) rfl (sr_robsN _ _ _ _) ?_
                show G (129, [some (vR 100), some (vI h), some (vI (-1)), some (vI d), some (vI 1), none], [vI (-1)], mW (sS (usS τ (τ.1 1) 0) 5 h) (sS ρ 0 0))
                refine hR.run0 2 (S' := (132, [some (vR 100), some (vI h), some (vI (-1)), some (vI d), some (vI 1), some (vI (-1))], [vR 100], mW (sS (usS τ (τ.1 1) 0) 5 h) (sS ρ 0 0))) rfl ?_
                refine hR.cv [] kX6_209 rfl rfl ⟨_, _, _, rfl, rfl, rfl⟩ (by first | decide | exact Nat.le_refl _) (by decide) (Nat.le_of_ble_eq_true rfl) rfl (sr_lookW _ _ (by first | exact (Wi.use hI.wi (fun k => (hI.hfr k).1) (by assumption) : Wi (usS τ (τ.1 1) 0)) | exact Wi.rob (Wi.use hI.wi (fun k => (hI.hfr k).1) (by assumption)) _ _ _ | exact Wi.gv hI.wi (by omega) hI.hcb _ | exact Wi.nd hI.wi (by omega) | assumption)) ?_
                show G (135, [some (vR 100), some (vI h), some (vI (-1)), some (vI d), some (vI 1), some (vI (-1))], [], mW (winS (sS (usS τ (τ.1 1) 0) 5 h)) (sS ρ 0 0))
                refine hR.run0 1 (S' := (137, [some (vR 100), some (vI h), some (vI (-1)), some (vI d), some (vI 1), some (vI (-1))], [vI (-1)], mW (winS (sS (usS τ (τ.1 1) 0) 5 h)) (sS ρ 0 0))) rfl ?_
                have hx : xKnight τ h (-1) d = (0, (-1), winS (sS (usS τ (τ.1 1) 0) 5 h)) := by unfold xKnight; rw [if_neg (by rw [qa]; decide)]; (repeat' split) <;> first | rfl | (exfalso; omega) | (exfalso; simp_all; done) | (simp_all [robS_n]; done) | (simp [robS_n, drw]; done) | (exfalso; simp_all; omega)
                exact hR.rt rfl trivial (by rw [hx]) (by rw [hx])
        · replace c3 : (mayR τ h (-1)) = false := bI0 (Classical.not_not.mp c3)
          try simp only [Bool.and_eq_true, Bool.or_eq_true, Bool.and_eq_false_iff, Bool.or_eq_false_iff, decide_eq_true_eq, decide_eq_false_iff_not] at c3
          refine hR.run0 2 (S' := (31, [some (vR 100), some (vI h), some (vI (-1)), some (vI d), none, none], [vI 3, vR 100], mW τ (sS ρ 0 0))) rfl ?_
          refine hR.cv [vI 3] kX6_149 rfl rfl ⟨_, _, _, rfl, rfl, rfl⟩ (by first | decide | exact Nat.le_refl _) (by decide) (Nat.le_of_ble_eq_true rfl) rfl (sr_fails _ _ _) ?_
          show G (34, [some (vR 100), some (vI h), some (vI (-1)), some (vI d), none, none], [vI 0], mW τ (sS (sS ρ 0 0) 0 3))
          rw [sS_sS]
          show G (34, [some (vR 100), some (vI h), some (vI (-1)), some (vI d), none, none], [vI 0], mW τ (sS ρ 0 3))
          have hx : xKnight τ h (-1) d = (3, 0, τ) := by unfold xKnight; rw [if_neg (by rw [qa]; decide)]; (repeat' split) <;> first | rfl | (exfalso; omega) | (exfalso; simp_all; done) | (simp_all [robS_n]; done) | (simp [robS_n, drw]; done) | (exfalso; simp_all; omega)
          exact hR.rt rfl trivial (by rw [hx]) (by rw [hx])
    · exfalso; omega
  · skip
    refine hR.cv [vI h, vI (-1), vI d] kX6_191 rfl rfl ⟨_, _, _, rfl, rfl, rfl⟩ (by first | decide | exact Nat.le_refl _) (by decide) (Nat.le_of_ble_eq_true rfl) rfl (sr_asksRob_f _ _ (by omega) (by omega) (by omega) qa) ?_
    show G (7, [some (vR 100), some (vI h), some (vI (-1)), some (vI d), none, none], [vI 0], mW τ (sS ρ 0 (arC h (-1) d)))
    refine hR.br (C := 0 ≠ 0) rfl (by first | omega | (dsimp only [plus1]; omega) | (simp [plus1, sHt, sH, sS, sAt, sA, sup]; done) | (simp [plus1, sHt, sH, sS, sAt, sA, sup]; omega)) (fun c11 => ?_) (fun c11 => ?_)
    · exfalso; omega
    refine hR.run0 1 (S' := (11, [some (vR 100), some (vI h), some (vI (-1)), some (vI d), none, none], [vI 0], mW τ (sS ρ 0 (arC h (-1) d)))) rfl ?_
    have hx : xKnight τ h (-1) d = (arC h (-1) d, 0, τ) := by unfold xKnight; rw [if_pos qa]
    exact hR.rt rfl trivial (by rw [hx]) (by rw [hx])
theorem pX6_knight_v (τ ρ : St) {h v d : Int} (hh0 : -2147483648 ≤ h ∧ h ≤ 2147483647) (hv0 : -2147483648 ≤ v ∧ v ≤ 2147483647) (hd0 : -2147483648 ≤ d ∧ d ≤ 2147483647) (hv1 : v ≠ -1) (hI : Iv τ)  : Sp mX6_knight roC 4 [vR 100, vI h, vI v, vI d] (mW τ ρ) (.inl (some (vI (xKnight τ h v d).2.1))) (mW (xKnight τ h v d).2.2 (sS ρ 0 (xKnight τ h v d).1)) := by
  have hb := hI.hb
  have hr := hI.hr
  have hg := hI.hg
  have hn := hI.hn
  have h7 := hI.h7
  have hh := hI.hh
  have hsm := hI.hsm
  have hcd := hI.hcd
  have hfr := hI.hfr
  have hkn := hI.hkn
  have hbo := hI.hbo
  have hus := hI.hus
  have hro := hI.hro
  have har := hI.har
  have hth := hI.hth
  have hph := hI.hph
  have htu := hI.htu
  have hrb := hI.hrb
  have hpl := hI.hpl
  have hdu := hI.hdu
  have hdp := hI.hdp
  have hof := hI.hof
  have how := hI.how
  have hga := hI.hga
  have hwa := hI.hwa
  have hck := hI.hck
  have hkz := hI.hkz
  have hcb := hI.hcb
  have hfb := hI.hfb
  have hnr := hI.hnr
  have hpq := hI.hpq
  have hrc := hI.hrc
  have hbc := hI.hbc
  have hcc := hI.hcc
  have hac := hI.hac
  refine Sp.of (lk := lkX6) (tb := bX6_knight) (by decide) lkX6_ok tX6_knight (mW_keys _ _ _ _) (Nat.le_of_ble_eq_true rfl) (fun G hR => ?_)
  refine hR.run0 4 (S' := (4, [some (vR 100), some (vI h), some (vI v), some (vI d), none, none], [vI d, vI v, vI h, vR 100], mW τ ρ)) rfl ?_
  by_cases qa : arC h v d = 0
  · have qb := arC_0 qa
    refine hR.cv [vI h, vI v, vI d] kX6_191 rfl rfl ⟨_, _, _, rfl, rfl, rfl⟩ (by first | decide | exact Nat.le_refl _) (by decide) (Nat.le_of_ble_eq_true rfl) rfl (sr_asksRob_t _ _ (by omega) (by omega) (by omega) qa) ?_
    show G (7, [some (vR 100), some (vI h), some (vI v), some (vI d), none, none], [vI 1], mW τ (sS ρ 0 0))
    refine hR.br (C := 1 ≠ 0) rfl (by first | omega | (dsimp only [plus1]; omega) | (simp [plus1, sHt, sH, sS, sAt, sA, sup]; done) | (simp [plus1, sHt, sH, sS, sAt, sA, sup]; omega)) (fun c1 => ?_) (fun c1 => ?_)
    · skip
      refine hR.run0 2 (S' := (14, [some (vR 100), some (vI h), some (vI v), some (vI d), none, none], [vI 0, vR 100], mW τ (sS ρ 0 0))) rfl ?_
      refine hR.cv [vI 0] kX6_221 rfl rfl ⟨_, _, _, rfl, rfl, rfl⟩ (by first | decide | exact Nat.le_refl _) (by decide) (Nat.le_of_ble_eq_true rfl) rfl (sr_mayUse0 _ _ hph htu hcd hfr hus) ?_
      show G (17, [some (vR 100), some (vI h), some (vI v), some (vI d), none, none], [vI (bI (mayU τ 0))], mW τ (sS ρ 0 0))
      refine hR.br (C := bI (mayU τ 0) = 0) rfl (bI_r _) (fun c2 => ?_) (fun c2 => ?_)
      · replace c2 : (mayU τ 0) = false := bI0 c2
        try simp only [Bool.and_eq_true, Bool.or_eq_true, Bool.and_eq_false_iff, Bool.or_eq_false_iff, decide_eq_true_eq, decide_eq_false_iff_not] at c2
        refine hR.run0 2 (S' := (31, [some (vR 100), some (vI h), some (vI v), some (vI d), none, none], [vI 3, vR 100], mW τ (sS ρ 0 0))) rfl ?_
        refine hR.cv [vI 3] kX6_149 rfl rfl ⟨_, _, _, rfl, rfl, rfl⟩ (by first | decide | exact Nat.le_refl _) (by decide) (Nat.le_of_ble_eq_true rfl) rfl (sr_fails _ _ _) ?_
        show G (34, [some (vR 100), some (vI h), some (vI v), some (vI d), none, none], [vI 0], mW τ (sS (sS ρ 0 0) 0 3))
        rw [sS_sS]
        show G (34, [some (vR 100), some (vI h), some (vI v), some (vI d), none, none], [vI 0], mW τ (sS ρ 0 3))
        have hx : xKnight τ h v d = (3, 0, τ) := by unfold xKnight; rw [if_neg (by rw [qa]; decide)]; (repeat' split) <;> first | rfl | (exfalso; omega) | (exfalso; simp_all; done) | (simp_all [robS_n]; done) | (simp [robS_n, drw]; done) | (exfalso; simp_all; omega)
        exact hR.rt rfl trivial (by rw [hx]) (by rw [hx])
      · replace c2 : (mayU τ 0) = true := bI1 c2
        try simp only [Bool.and_eq_true, Bool.or_eq_true, Bool.and_eq_false_iff, Bool.or_eq_false_iff, decide_eq_true_eq, decide_eq_false_iff_not] at c2
        refine hR.run0 3 (S' := (23, [some (vR 100), some (vI h), some (vI v), some (vI d), none, none], [vI v, vI h, vR 100], mW τ (sS ρ 0 0))) rfl ?_
        refine hR.cv [vI h, vI v] kX6_194 rfl rfl ⟨_, _, _, rfl, rfl, rfl⟩ (by first | decide | exact Nat.le_refl _) (by decide) (Nat.le_of_ble_eq_true rfl) rfl (sr_mayRobv _ _ (by omega) (by omega) hb hh htu hrb) ?_
        show G (26, [some (vR 100), some (vI h), some (vI v), some (vI d), none, none], [vI (bI (mayR τ h v))], mW τ (sS ρ 0 0))
        refine hR.br (C := bI (mayR τ h v) ≠ 0) rfl (bI_r _) (fun c3 => ?_) (fun c3 => ?_)
        · replace c3 : (mayR τ h v) = true := bI1 c3
          try simp only [Bool.and_eq_true, Bool.or_eq_true, Bool.and_eq_false_iff, Bool.or_eq_false_iff, decide_eq_true_eq, decide_eq_false_iff_not] at c3
          refine hR.run0 2 (S' := (37, [some (vR 100), some (vI h), some (vI v), some (vI d), none, none], [vI 0, vR 100], mW τ (sS ρ 0 0))) rfl ?_
          refine hR.cv [vI 0] kX6_224 rfl rfl ⟨_, _, _, rfl, rfl, rfl⟩ (by first | decide | exact Nat.le_refl _) (by decide) (Nat.le_of_ble_eq_true rfl) rfl (sr_uses0 _ _ htu) ?_
          show G (40, [some (vR 100), some (vI h), some (vI v), some (vI d), none, none], [], mW (sS (sHt τ 1 (τ.1 1) 0 (τ.2.2 1 (τ.1 1) 0 - 1)) 7 1) (sS ρ 0 0))
          have f1 := hkn (τ.1 1)
          refine hR.run1 9 (S' := (53, [some (vR 100), some (vI h), some (vI v), some (vI d), none, none], [], pset (mW (sS (sHt τ 1 (τ.1 1) 0 (τ.2.2 1 (τ.1 1) 0 - 1)) 7 1) (sS ρ 0 0)) 109 (.inl (3, .inl (pup ((sS (sHt τ 1 (τ.1 1) 0 (τ.2.2 1 (τ.1 1) 0 - 1)) 7 1).2.1 6) (τ.1 1) ((τ.2.1 6 (τ.1 1)) + 1)))))) rfl (by first | omega | (dsimp only [plus1]; omega) | (simp [plus1, sHt, sH, sS, sAt, sA, sup]; done) | (simp [plus1, sHt, sH, sS, sAt, sA, sup]; omega)) ?_
          rw [mW_a6]
          have f2 : 0 ≤ (sAt (sS (sHt τ 1 (τ.1 1) 0 (τ.2.2 1 (τ.1 1) 0 - 1)) 7 1) 6 (τ.1 1) ((τ.2.1 6 (τ.1 1)) + 1)).2.1 6 (τ.1 1) ∧ (sAt (sS (sHt τ 1 (τ.1 1) 0 (τ.2.2 1 (τ.1 1) 0 - 1)) 7 1) 6 (τ.1 1) ((τ.2.1 6 (τ.1 1)) + 1)).2.1 6 (τ.1 1) ≤ 15 := pup_b hkn (by have := hI.kn14 (mayU_canU (by assumption)) (τ.1 1); omega) _
          refine hR.run1 6 (S' := (63, [some (vR 100), some (vI h), some (vI v), some (vI d), none, none], [vI 3, vI ((sAt (sS (sHt τ 1 (τ.1 1) 0 (τ.2.2 1 (τ.1 1) 0 - 1)) 7 1) 6 (τ.1 1) ((τ.2.1 6 (τ.1 1)) + 1)).2.1 6 (τ.1 1))], mW (sAt (sS (sHt τ 1 (τ.1 1) 0 (τ.2.2 1 (τ.1 1) 0 - 1)) 7 1) 6 (τ.1 1) ((τ.2.1 6 (τ.1 1)) + 1)) (sS ρ 0 0))) rfl (by first | omega | (dsimp only [plus1]; omega) | (simp [plus1, sHt, sH, sS, sAt, sA, sup]; done) | (simp [plus1, sHt, sH, sS, sAt, sA, sup]; omega)) ?_
          refine hR.br (C := (sAt (sS (sHt τ 1 (τ.1 1) 0 (τ.2.2 1 (τ.1 1) 0 - 1)) 7 1) 6 (τ.1 1) ((τ.2.1 6 (τ.1 1)) + 1)).2.1 6 (τ.1 1) < 3) rfl (by first | omega | (dsimp only [plus1]; omega) | (simp [plus1, sHt, sH, sS, sAt, sA, sup]; done) | (simp [plus1, sHt, sH, sS, sAt, sA, sup]; omega)) (fun c4 => ?_) (fun c4 => ?_)
          · skip
            refine hR.run0 4 (S' := (105, [some (vR 100), some (vI h), some (vI v), some (vI d), some (vI 0), none], [vI 0, vR 100], mW (sAt (sS (sHt τ 1 (τ.1 1) 0 (τ.2.2 1 (τ.1 1) 0 - 1)) 7 1) 6 (τ.1 1) ((τ.2.1 6 (τ.1 1)) + 1)) (sS ρ 0 0))) rfl ?_
            refine hR.br (C := 0 = 0) rfl (by first | omega | (dsimp only [plus1]; omega) | (simp [plus1, sHt, sH, sS, sAt, sA, sup]; done) | (simp [plus1, sHt, sH, sS, sAt, sA, sup]; omega)) (fun c5 => ?_) (fun c5 => ?_)
            · skip
              refine hR.run0 3 (S' := (122, [some (vR 100), some (vI h), some (vI v), some (vI d), some (vI 0), none], [], pset (mW (sAt (sS (sHt τ 1 (τ.1 1) 0 (τ.2.2 1 (τ.1 1) 0 - 1)) 7 1) 6 (τ.1 1) ((τ.2.1 6 (τ.1 1)) + 1)) (sS ρ 0 0)) 100 (.inr (6, [vR 101, vR 102, vI ((sAt (sS (sHt τ 1 (τ.1 1) 0 (τ.2.2 1 (τ.1 1) 0 - 1)) 7 1) 6 (τ.1 1) ((τ.2.1 6 (τ.1 1)) + 1)).1 5), vR 103, vR 104, vR 105, vR 106, vI ((sAt (sS (sHt τ 1 (τ.1 1) 0 (τ.2.2 1 (τ.1 1) 0 - 1)) 7 1) 6 (τ.1 1) ((τ.2.1 6 (τ.1 1)) + 1)).1 0), vI ((sAt (sS (sHt τ 1 (τ.1 1) 0 (τ.2.2 1 (τ.1 1) 0 - 1)) 7 1) 6 (τ.1 1) ((τ.2.1 6 (τ.1 1)) + 1)).1 1), vI ((sAt (sS (sHt τ 1 (τ.1 1) 0 (τ.2.2 1 (τ.1 1) 0 - 1)) 7 1) 6 (τ.1 1) ((τ.2.1 6 (τ.1 1)) + 1)).1 2), vI ((sAt (sS (sHt τ 1 (τ.1 1) 0 (τ.2.2 1 (τ.1 1) 0 - 1)) 7 1) 6 (τ.1 1) ((τ.2.1 6 (τ.1 1)) + 1)).1 3), vR 107, vR 108, vI ((sAt (sS (sHt τ 1 (τ.1 1) 0 (τ.2.2 1 (τ.1 1) 0 - 1)) 7 1) 6 (τ.1 1) ((τ.2.1 6 (τ.1 1)) + 1)).1 6), vI ((sAt (sS (sHt τ 1 (τ.1 1) 0 (τ.2.2 1 (τ.1 1) 0 - 1)) 7 1) 6 (τ.1 1) ((τ.2.1 6 (τ.1 1)) + 1)).1 7), vR 109, vI (τ.1 8), vI ((sAt (sS (sHt τ 1 (τ.1 1) 0 (τ.2.2 1 (τ.1 1) 0 - 1)) 7 1) 6 (τ.1 1) ((τ.2.1 6 (τ.1 1)) + 1)).1 4), vI ((sAt (sS (sHt τ 1 (τ.1 1) 0 (τ.2.2 1 (τ.1 1) 0 - 1)) 7 1) 6 (τ.1 1) ((τ.2.1 6 (τ.1 1)) + 1)).1 9), vI ((sAt (sS (sHt τ 1 (τ.1 1) 0 (τ.2.2 1 (τ.1 1) 0 - 1)) 7 1) 6 (τ.1 1) ((τ.2.1 6 (τ.1 1)) + 1)).1 10), vR 110, vR 111, vR 112, vR 113, vR 114, vI ((sS ρ 0 0).1 0)])))) rfl ?_
              rw [mW_s8]
              refine hR.run0 4 (S' := (126, [some (vR 100), some (vI h), some (vI v), some (vI d), some (vI 0), none], [vI d, vI v, vI h, vR 100], mW (sS (sAt (sS (sHt τ 1 (τ.1 1) 0 (τ.2.2 1 (τ.1 1) 0 - 1)) 7 1) 6 (τ.1 1) ((τ.2.1 6 (τ.1 1)) + 1)) 8 (τ.1 8)) (sS ρ 0 0))) rfl ?_
              have hcu : canU τ (τ.1 1) 0 = true := mayU_canU (by assumption)
              have hac2 : τ.1 8 ≠ -1 → 3 ≤ (sAt (sS (sHt τ 1 (τ.1 1) 0 (τ.2.2 1 (τ.1 1) 0 - 1)) 7 1) 6 (τ.1 1) ((τ.2.1 6 (τ.1 1)) + 1)).2.1 6 (τ.1 8) := fun e => Int.le_trans (hac e) (pup_ge (by omega) _)
              rw [show sS (sAt (sS (sHt τ 1 (τ.1 1) 0 (τ.2.2 1 (τ.1 1) 0 - 1)) 7 1) 6 (τ.1 1) ((τ.2.1 6 (τ.1 1)) + 1)) 8 (τ.1 8) = usS τ (τ.1 1) 0 from arm_not (X := sAt (sS (sHt τ 1 (τ.1 1) 0 (τ.2.2 1 (τ.1 1) 0 - 1)) 7 1) 6 (τ.1 1) ((τ.2.1 6 (τ.1 1)) + 1)) (by show ¬ (if τ.1 8 = -1 then (3 : Int) else (sAt (sS (sHt τ 1 (τ.1 1) 0 (τ.2.2 1 (τ.1 1) 0 - 1)) 7 1) 6 (τ.1 1) ((τ.2.1 6 (τ.1 1)) + 1)).2.1 6 (τ.1 8) + 1) ≤ (sAt (sS (sHt τ 1 (τ.1 1) 0 (τ.2.2 1 (τ.1 1) 0 - 1)) 7 1) 6 (τ.1 1) ((τ.2.1 6 (τ.1 1)) + 1)).2.1 6 (τ.1 1); split <;> omega)]
              refine hR.cv [vI h, vI v, vI d] kX6_197 rfl rfl ⟨_, _, _, rfl, rfl, rfl⟩ (by first | decide | exact Nat.le_refl _) (by decide) (Nat.le_of_ble_eq_true rfl) rfl (sr_robs _ _ (by omega) (by omega) (by rw [usS_3]; exact mayR_tot (by assumption) (by omega)) (by rw [usS_3]; exact hh) (by rw [usS_1 _ _ _ _ (by decide) (by decide)]; exact htu)) ?_
              show G (129, [some (vR 100), some (vI h), some (vI v), some (vI d), some (vI 0), none], [vI (drw ((usS τ (τ.1 1) 0).2.2 0) v d)], mW (robS (usS τ (τ.1 1) 0) h v d) (sS ρ 0 0))
              refine hR.run0 2 (S' := (132, [some (vR 100), some (vI h), some (vI v), some (vI d), some (vI 0), some (vI (drw ((usS τ (τ.1 1) 0).2.2 0) v d))], [vR 100], mW (robS (usS τ (τ.1 1) 0) h v d) (sS ρ 0 0))) rfl ?_
              refine hR.cv [] kX6_209 rfl rfl ⟨_, _, _, rfl, rfl, rfl⟩ (by first | decide | exact Nat.le_refl _) (by decide) (Nat.le_of_ble_eq_true rfl) rfl (sr_lookW _ _ (by first | exact (Wi.use hI.wi (fun k => (hI.hfr k).1) (by assumption) : Wi (usS τ (τ.1 1) 0)) | exact Wi.rob (Wi.use hI.wi (fun k => (hI.hfr k).1) (by assumption)) _ _ _ | exact Wi.gv hI.wi (by omega) hI.hcb _ | exact Wi.nd hI.wi (by omega) | assumption)) ?_
              show G (135, [some (vR 100), some (vI h), some (vI v), some (vI d), some (vI 0), some (vI (drw ((usS τ (τ.1 1) 0).2.2 0) v d))], [], mW (winS (robS (usS τ (τ.1 1) 0) h v d)) (sS ρ 0 0))
              refine hR.run0 1 (S' := (137, [some (vR 100), some (vI h), some (vI v), some (vI d), some (vI 0), some (vI (drw ((usS τ (τ.1 1) 0).2.2 0) v d))], [vI (drw ((usS τ (τ.1 1) 0).2.2 0) v d)], mW (winS (robS (usS τ (τ.1 1) 0) h v d)) (sS ρ 0 0))) rfl ?_
              have hx : xKnight τ h v d = (0, drw ((usS τ (τ.1 1) 0).2.2 0) v d, winS (robS (usS τ (τ.1 1) 0) h v d)) := by unfold xKnight; rw [if_neg (by rw [qa]; decide)]; (repeat' split) <;> first | rfl | (exfalso; omega) | (exfalso; simp_all; done) | (simp_all [robS_n]; done) | (simp [robS_n, drw]; done) | (exfalso; simp_all; omega)
              exact hR.rt rfl trivial (by rw [hx]) (by rw [hx])
            · exfalso; omega
          · skip
            refine hR.run0 3 (S' := (71, [some (vR 100), some (vI h), some (vI v), some (vI d), none, none], [vI (-1), vI (τ.1 8)], mW (sAt (sS (sHt τ 1 (τ.1 1) 0 (τ.2.2 1 (τ.1 1) 0 - 1)) 7 1) 6 (τ.1 1) ((τ.2.1 6 (τ.1 1)) + 1)) (sS ρ 0 0))) rfl ?_
            refine hR.br (C := τ.1 8 = (-1)) rfl (by first | omega | (dsimp only [plus1]; omega) | (simp [plus1, sHt, sH, sS, sAt, sA, sup]; done) | (simp [plus1, sHt, sH, sS, sAt, sA, sup]; omega)) (fun c6 => ?_) (fun c6 => ?_)
            · skip
              refine hR.run0 5 (S' := (105, [some (vR 100), some (vI h), some (vI v), some (vI d), some (vI 1), none], [vI 1, vR 100], mW (sAt (sS (sHt τ 1 (τ.1 1) 0 (τ.2.2 1 (τ.1 1) 0 - 1)) 7 1) 6 (τ.1 1) ((τ.2.1 6 (τ.1 1)) + 1)) (sS ρ 0 0))) rfl ?_
              refine hR.br (C := 1 = 0) rfl (by first | omega | (dsimp only [plus1]; omega) | (simp [plus1, sHt, sH, sS, sAt, sA, sup]; done) | (simp [plus1, sHt, sH, sS, sAt, sA, sup]; omega)) (fun c7 => ?_) (fun c7 => ?_)
              · exfalso; omega
              refine hR.run0 4 (S' := (122, [some (vR 100), some (vI h), some (vI v), some (vI d), some (vI 1), none], [], pset (mW (sAt (sS (sHt τ 1 (τ.1 1) 0 (τ.2.2 1 (τ.1 1) 0 - 1)) 7 1) 6 (τ.1 1) ((τ.2.1 6 (τ.1 1)) + 1)) (sS ρ 0 0)) 100 (.inr (6, [vR 101, vR 102, vI ((sAt (sS (sHt τ 1 (τ.1 1) 0 (τ.2.2 1 (τ.1 1) 0 - 1)) 7 1) 6 (τ.1 1) ((τ.2.1 6 (τ.1 1)) + 1)).1 5), vR 103, vR 104, vR 105, vR 106, vI ((sAt (sS (sHt τ 1 (τ.1 1) 0 (τ.2.2 1 (τ.1 1) 0 - 1)) 7 1) 6 (τ.1 1) ((τ.2.1 6 (τ.1 1)) + 1)).1 0), vI ((sAt (sS (sHt τ 1 (τ.1 1) 0 (τ.2.2 1 (τ.1 1) 0 - 1)) 7 1) 6 (τ.1 1) ((τ.2.1 6 (τ.1 1)) + 1)).1 1), vI ((sAt (sS (sHt τ 1 (τ.1 1) 0 (τ.2.2 1 (τ.1 1) 0 - 1)) 7 1) 6 (τ.1 1) ((τ.2.1 6 (τ.1 1)) + 1)).1 2), vI ((sAt (sS (sHt τ 1 (τ.1 1) 0 (τ.2.2 1 (τ.1 1) 0 - 1)) 7 1) 6 (τ.1 1) ((τ.2.1 6 (τ.1 1)) + 1)).1 3), vR 107, vR 108, vI ((sAt (sS (sHt τ 1 (τ.1 1) 0 (τ.2.2 1 (τ.1 1) 0 - 1)) 7 1) 6 (τ.1 1) ((τ.2.1 6 (τ.1 1)) + 1)).1 6), vI ((sAt (sS (sHt τ 1 (τ.1 1) 0 (τ.2.2 1 (τ.1 1) 0 - 1)) 7 1) 6 (τ.1 1) ((τ.2.1 6 (τ.1 1)) + 1)).1 7), vR 109, vI (τ.1 1), vI ((sAt (sS (sHt τ 1 (τ.1 1) 0 (τ.2.2 1 (τ.1 1) 0 - 1)) 7 1) 6 (τ.1 1) ((τ.2.1 6 (τ.1 1)) + 1)).1 4), vI ((sAt (sS (sHt τ 1 (τ.1 1) 0 (τ.2.2 1 (τ.1 1) 0 - 1)) 7 1) 6 (τ.1 1) ((τ.2.1 6 (τ.1 1)) + 1)).1 9), vI ((sAt (sS (sHt τ 1 (τ.1 1) 0 (τ.2.2 1 (τ.1 1) 0 - 1)) 7 1) 6 (τ.1 1) ((τ.2.1 6 (τ.1 1)) + 1)).1 10), vR 110, vR 111, vR 112, vR 113, vR 114, vI ((sS ρ 0 0).1 0)])))) rfl ?_
              rw [mW_s8]
              refine hR.run0 4 (S' := (126, [some (vR 100), some (vI h), some (vI v), some (vI d), some (vI 1), none], [vI d, vI v, vI h, vR 100], mW (sS (sAt (sS (sHt τ 1 (τ.1 1) 0 (τ.2.2 1 (τ.1 1) 0 - 1)) 7 1) 6 (τ.1 1) ((τ.2.1 6 (τ.1 1)) + 1)) 8 (τ.1 1)) (sS ρ 0 0))) rfl ?_
              have hcu : canU τ (τ.1 1) 0 = true := mayU_canU (by assumption)
              have hac2 : τ.1 8 ≠ -1 → 3 ≤ (sAt (sS (sHt τ 1 (τ.1 1) 0 (τ.2.2 1 (τ.1 1) 0 - 1)) 7 1) 6 (τ.1 1) ((τ.2.1 6 (τ.1 1)) + 1)).2.1 6 (τ.1 8) := fun e => Int.le_trans (hac e) (pup_ge (by omega) _)
              rw [show sS (sAt (sS (sHt τ 1 (τ.1 1) 0 (τ.2.2 1 (τ.1 1) 0 - 1)) 7 1) 6 (τ.1 1) ((τ.2.1 6 (τ.1 1)) + 1)) 8 (τ.1 1) = usS τ (τ.1 1) 0 from arm_is (X := sAt (sS (sHt τ 1 (τ.1 1) 0 (τ.2.2 1 (τ.1 1) 0 - 1)) 7 1) 6 (τ.1 1) ((τ.2.1 6 (τ.1 1)) + 1)) (by show (if τ.1 8 = -1 then (3 : Int) else (sAt (sS (sHt τ 1 (τ.1 1) 0 (τ.2.2 1 (τ.1 1) 0 - 1)) 7 1) 6 (τ.1 1) ((τ.2.1 6 (τ.1 1)) + 1)).2.1 6 (τ.1 8) + 1) ≤ (sAt (sS (sHt τ 1 (τ.1 1) 0 (τ.2.2 1 (τ.1 1) 0 - 1)) 7 1) 6 (τ.1 1) ((τ.2.1 6 (τ.1 1)) + 1)).2.1 6 (τ.1 1); split <;> omega)]
              refine hR.cv [vI h, vI v, vI d] kX6_197 rfl rfl ⟨_, _, _, rfl, rfl, rfl⟩ (by first | decide | exact Nat.le_refl _) (by decide) (Nat.le_of_ble_eq_true rfl) rfl (sr_robs _ _ (by omega) (by omega) (by rw [usS_3]; exact mayR_tot (by assumption) (by omega)) (by rw [usS_3]; exact hh) (by rw [usS_1 _ _ _ _ (by decide) (by decide)]; exact htu)) ?_
              show G (129, [some (vR 100), some (vI h), some (vI v), some (vI d), some (vI 1), none], [vI (drw ((usS τ (τ.1 1) 0).2.2 0) v d)], mW (robS (usS τ (τ.1 1) 0) h v d) (sS ρ 0 0))
              refine hR.run0 2 (S' := (132, [some (vR 100), some (vI h), some (vI v), some (vI d), some (vI 1), some (vI (drw ((usS τ (τ.1 1) 0).2.2 0) v d))], [vR 100], mW (robS (usS τ (τ.1 1) 0) h v d) (sS ρ 0 0))) rfl ?_
              refine hR.cv [] kX6_209 rfl rfl ⟨_, _, _, rfl, rfl, rfl⟩ (by first | decide | exact Nat.le_refl _) (by decide) (Nat.le_of_ble_eq_true rfl) rfl (sr_lookW _ _ (by first | exact (Wi.use hI.wi (fun k => (hI.hfr k).1) (by assumption) : Wi (usS τ (τ.1 1) 0)) | exact Wi.rob (Wi.use hI.wi (fun k => (hI.hfr k).1) (by assumption)) _ _ _ | exact Wi.gv hI.wi (by omega) hI.hcb _ | exact Wi.nd hI.wi (by omega) | assumption)) ?_
              show G (135, [some (vR 100), some (vI h), some (vI v), some (vI d), some (vI 1), some (vI (drw ((usS τ (τ.1 1) 0).2.2 0) v d))], [], mW (winS (robS (usS τ (τ.1 1) 0) h v d)) (sS ρ 0 0))
              refine hR.run0 1 (S' := (137, [some (vR 100), some (vI h), some (vI v), some (vI d), some (vI 1), some (vI (drw ((usS τ (τ.1 1) 0).2.2 0) v d))], [vI (drw ((usS τ (τ.1 1) 0).2.2 0) v d)], mW (winS (robS (usS τ (τ.1 1) 0) h v d)) (sS ρ 0 0))) rfl ?_
              have hx : xKnight τ h v d = (0, drw ((usS τ (τ.1 1) 0).2.2 0) v d, winS (robS (usS τ (τ.1 1) 0) h v d)) := by unfold xKnight; rw [if_neg (by rw [qa]; decide)]; (repeat' split) <;> first | rfl | (exfalso; omega) | (exfalso; simp_all; done) | (simp_all [robS_n]; done) | (simp [robS_n, drw]; done) | (exfalso; simp_all; omega)
              exact hR.rt rfl trivial (by rw [hx]) (by rw [hx])
            · skip
              have f3 : 0 ≤ (sAt (sS (sHt τ 1 (τ.1 1) 0 (τ.2.2 1 (τ.1 1) 0 - 1)) 7 1) 6 (τ.1 1) ((τ.2.1 6 (τ.1 1)) + 1)).2.1 6 (τ.1 1) ∧ (sAt (sS (sHt τ 1 (τ.1 1) 0 (τ.2.2 1 (τ.1 1) 0 - 1)) 7 1) 6 (τ.1 1) ((τ.2.1 6 (τ.1 1)) + 1)).2.1 6 (τ.1 1) ≤ 15 := pup_b hkn (by have := hI.kn14 (mayU_canU (by assumption)) (τ.1 1); omega) _
              have f4 : 0 ≤ (sAt (sS (sHt τ 1 (τ.1 1) 0 (τ.2.2 1 (τ.1 1) 0 - 1)) 7 1) 6 (τ.1 1) ((τ.2.1 6 (τ.1 1)) + 1)).2.1 6 (τ.1 8) ∧ (sAt (sS (sHt τ 1 (τ.1 1) 0 (τ.2.2 1 (τ.1 1) 0 - 1)) 7 1) 6 (τ.1 1) ((τ.2.1 6 (τ.1 1)) + 1)).2.1 6 (τ.1 8) ≤ 15 := pup_b hkn (by have := hI.kn14 (mayU_canU (by assumption)) (τ.1 1); omega) _
              refine hR.run1 10 (S' := (92, [some (vR 100), some (vI h), some (vI v), some (vI d), none, none], [vI ((sAt (sS (sHt τ 1 (τ.1 1) 0 (τ.2.2 1 (τ.1 1) 0 - 1)) 7 1) 6 (τ.1 1) ((τ.2.1 6 (τ.1 1)) + 1)).2.1 6 (τ.1 8)), vI ((sAt (sS (sHt τ 1 (τ.1 1) 0 (τ.2.2 1 (τ.1 1) 0 - 1)) 7 1) 6 (τ.1 1) ((τ.2.1 6 (τ.1 1)) + 1)).2.1 6 (τ.1 1))], mW (sAt (sS (sHt τ 1 (τ.1 1) 0 (τ.2.2 1 (τ.1 1) 0 - 1)) 7 1) 6 (τ.1 1) ((τ.2.1 6 (τ.1 1)) + 1)) (sS ρ 0 0))) rfl (by first | omega | (dsimp only [plus1]; omega) | (simp [plus1, sHt, sH, sS, sAt, sA, sup]; done) | (simp [plus1, sHt, sH, sS, sAt, sA, sup]; omega)) ?_
              refine hR.br (C := (sAt (sS (sHt τ 1 (τ.1 1) 0 (τ.2.2 1 (τ.1 1) 0 - 1)) 7 1) 6 (τ.1 1) ((τ.2.1 6 (τ.1 1)) + 1)).2.1 6 (τ.1 1) ≤ (sAt (sS (sHt τ 1 (τ.1 1) 0 (τ.2.2 1 (τ.1 1) 0 - 1)) 7 1) 6 (τ.1 1) ((τ.2.1 6 (τ.1 1)) + 1)).2.1 6 (τ.1 8)) rfl (by first | omega | (dsimp only [plus1]; omega) | (simp [plus1, sHt, sH, sS, sAt, sA, sup]; done) | (simp [plus1, sHt, sH, sS, sAt, sA, sup]; omega)) (fun c8 => ?_) (fun c8 => ?_)
              · skip
                refine hR.run0 4 (S' := (105, [some (vR 100), some (vI h), some (vI v), some (vI d), some (vI 0), none], [vI 0, vR 100], mW (sAt (sS (sHt τ 1 (τ.1 1) 0 (τ.2.2 1 (τ.1 1) 0 - 1)) 7 1) 6 (τ.1 1) ((τ.2.1 6 (τ.1 1)) + 1)) (sS ρ 0 0))) rfl ?_
                refine hR.br (C := 0 = 0) rfl (by first | omega | (dsimp only [plus1]; omega) | (simp [plus1, sHt, sH, sS, sAt, sA, sup]; done) | (simp [plus1, sHt, sH, sS, sAt, sA, sup]; omega)) (fun c9 => ?_) (fun c9 => ?_)
                · skip
                  refine hR.run0 3 (S' := (122, [some (vR 100), some (vI h), some (vI v), some (vI d), some (vI 0), none], [], pset (mW (sAt (sS (sHt τ 1 (τ.1 1) 0 (τ.2.2 1 (τ.1 1) 0 - 1)) 7 1) 6 (τ.1 1) ((τ.2.1 6 (τ.1 1)) + 1)) (sS ρ 0 0)) 100 (.inr (6, [vR 101, vR 102, vI ((sAt (sS (sHt τ 1 (τ.1 1) 0 (τ.2.2 1 (τ.1 1) 0 - 1)) 7 1) 6 (τ.1 1) ((τ.2.1 6 (τ.1 1)) + 1)).1 5), vR 103, vR 104, vR 105, vR 106, vI ((sAt (sS (sHt τ 1 (τ.1 1) 0 (τ.2.2 1 (τ.1 1) 0 - 1)) 7 1) 6 (τ.1 1) ((τ.2.1 6 (τ.1 1)) + 1)).1 0), vI ((sAt (sS (sHt τ 1 (τ.1 1) 0 (τ.2.2 1 (τ.1 1) 0 - 1)) 7 1) 6 (τ.1 1) ((τ.2.1 6 (τ.1 1)) + 1)).1 1), vI ((sAt (sS (sHt τ 1 (τ.1 1) 0 (τ.2.2 1 (τ.1 1) 0 - 1)) 7 1) 6 (τ.1 1) ((τ.2.1 6 (τ.1 1)) + 1)).1 2), vI ((sAt (sS (sHt τ 1 (τ.1 1) 0 (τ.2.2 1 (τ.1 1) 0 - 1)) 7 1) 6 (τ.1 1) ((τ.2.1 6 (τ.1 1)) + 1)).1 3), vR 107, vR 108, vI ((sAt (sS (sHt τ 1 (τ.1 1) 0 (τ.2.2 1 (τ.1 1) 0 - 1)) 7 1) 6 (τ.1 1) ((τ.2.1 6 (τ.1 1)) + 1)).1 6), vI ((sAt (sS (sHt τ 1 (τ.1 1) 0 (τ.2.2 1 (τ.1 1) 0 - 1)) 7 1) 6 (τ.1 1) ((τ.2.1 6 (τ.1 1)) + 1)).1 7), vR 109, vI (τ.1 8), vI ((sAt (sS (sHt τ 1 (τ.1 1) 0 (τ.2.2 1 (τ.1 1) 0 - 1)) 7 1) 6 (τ.1 1) ((τ.2.1 6 (τ.1 1)) + 1)).1 4), vI ((sAt (sS (sHt τ 1 (τ.1 1) 0 (τ.2.2 1 (τ.1 1) 0 - 1)) 7 1) 6 (τ.1 1) ((τ.2.1 6 (τ.1 1)) + 1)).1 9), vI ((sAt (sS (sHt τ 1 (τ.1 1) 0 (τ.2.2 1 (τ.1 1) 0 - 1)) 7 1) 6 (τ.1 1) ((τ.2.1 6 (τ.1 1)) + 1)).1 10), vR 110, vR 111, vR 112, vR 113, vR 114, vI ((sS ρ 0 0).1 0)])))) rfl ?_
                  rw [mW_s8]
                  refine hR.run0 4 (S' := (126, [some (vR 100), some (vI h), some (vI v), some (vI d), some (vI 0), none], [vI d, vI v, vI h, vR 100], mW (sS (sAt (sS (sHt τ 1 (τ.1 1) 0 (τ.2.2 1 (τ.1 1) 0 - 1)) 7 1) 6 (τ.1 1) ((τ.2.1 6 (τ.1 1)) + 1)) 8 (τ.1 8)) (sS ρ 0 0))) rfl ?_
                  have hcu : canU τ (τ.1 1) 0 = true := mayU_canU (by assumption)
                  have hac2 : τ.1 8 ≠ -1 → 3 ≤ (sAt (sS (sHt τ 1 (τ.1 1) 0 (τ.2.2 1 (τ.1 1) 0 - 1)) 7 1) 6 (τ.1 1) ((τ.2.1 6 (τ.1 1)) + 1)).2.1 6 (τ.1 8) := fun e => Int.le_trans (hac e) (pup_ge (by omega) _)
                  rw [show sS (sAt (sS (sHt τ 1 (τ.1 1) 0 (τ.2.2 1 (τ.1 1) 0 - 1)) 7 1) 6 (τ.1 1) ((τ.2.1 6 (τ.1 1)) + 1)) 8 (τ.1 8) = usS τ (τ.1 1) 0 from arm_not (X := sAt (sS (sHt τ 1 (τ.1 1) 0 (τ.2.2 1 (τ.1 1) 0 - 1)) 7 1) 6 (τ.1 1) ((τ.2.1 6 (τ.1 1)) + 1)) (by show ¬ (if τ.1 8 = -1 then (3 : Int) else (sAt (sS (sHt τ 1 (τ.1 1) 0 (τ.2.2 1 (τ.1 1) 0 - 1)) 7 1) 6 (τ.1 1) ((τ.2.1 6 (τ.1 1)) + 1)).2.1 6 (τ.1 8) + 1) ≤ (sAt (sS (sHt τ 1 (τ.1 1) 0 (τ.2.2 1 (τ.1 1) 0 - 1)) 7 1) 6 (τ.1 1) ((τ.2.1 6 (τ.1 1)) + 1)).2.1 6 (τ.1 1); split <;> omega)]
                  refine hR.cv [vI h, vI v, vI d] kX6_197 rfl rfl ⟨_, _, _, rfl, rfl, rfl⟩ (by first | decide | exact Nat.le_refl _) (by decide) (Nat.le_of_ble_eq_true rfl) rfl (sr_robs _ _ (by omega) (by omega) (by rw [usS_3]; exact mayR_tot (by assumption) (by omega)) (by rw [usS_3]; exact hh) (by rw [usS_1 _ _ _ _ (by decide) (by decide)]; exact htu)) ?_
                  show G (129, [some (vR 100), some (vI h), some (vI v), some (vI d), some (vI 0), none], [vI (drw ((usS τ (τ.1 1) 0).2.2 0) v d)], mW (robS (usS τ (τ.1 1) 0) h v d) (sS ρ 0 0))
                  refine hR.run0 2 (S' := (132, [some (vR 100), some (vI h), some (vI v), some (vI d), some (vI 0), some (vI (drw ((usS τ (τ.1 1) 0).2.2 0) v d))], [vR 100], mW (robS (usS τ (τ.1 1) 0) h v d) (sS ρ 0 0))) rfl ?_
                  refine hR.cv [] kX6_209 rfl rfl ⟨_, _, _, rfl, rfl, rfl⟩ (by first | decide | exact Nat.le_refl _) (by decide) (Nat.le_of_ble_eq_true rfl) rfl (sr_lookW _ _ (by first | exact (Wi.use hI.wi (fun k => (hI.hfr k).1) (by assumption) : Wi (usS τ (τ.1 1) 0)) | exact Wi.rob (Wi.use hI.wi (fun k => (hI.hfr k).1) (by assumption)) _ _ _ | exact Wi.gv hI.wi (by omega) hI.hcb _ | exact Wi.nd hI.wi (by omega) | assumption)) ?_
                  show G (135, [some (vR 100), some (vI h), some (vI v), some (vI d), some (vI 0), some (vI (drw ((usS τ (τ.1 1) 0).2.2 0) v d))], [], mW (winS (robS (usS τ (τ.1 1) 0) h v d)) (sS ρ 0 0))
                  refine hR.run0 1 (S' := (137, [some (vR 100), some (vI h), some (vI v), some (vI d), some (vI 0), some (vI (drw ((usS τ (τ.1 1) 0).2.2 0) v d))], [vI (drw ((usS τ (τ.1 1) 0).2.2 0) v d)], mW (winS (robS (usS τ (τ.1 1) 0) h v d)) (sS ρ 0 0))) rfl ?_
                  have hx : xKnight τ h v d = (0, drw ((usS τ (τ.1 1) 0).2.2 0) v d, winS (robS (usS τ (τ.1 1) 0) h v d)) := by unfold xKnight; rw [if_neg (by rw [qa]; decide)]; (repeat' split) <;> first | rfl | (exfalso; omega) | (exfalso; simp_all; done) | (simp_all [robS_n]; done) | (simp [robS_n, drw]; done) | (exfalso; simp_all; omega)
                  exact hR.rt rfl trivial (by rw [hx]) (by rw [hx])
                · exfalso; omega
              · skip
                refine hR.run0 5 (S' := (105, [some (vR 100), some (vI h), some (vI v), some (vI d), some (vI 1), none], [vI 1, vR 100], mW (sAt (sS (sHt τ 1 (τ.1 1) 0 (τ.2.2 1 (τ.1 1) 0 - 1)) 7 1) 6 (τ.1 1) ((τ.2.1 6 (τ.1 1)) + 1)) (sS ρ 0 0))) rfl ?_
                refine hR.br (C := 1 = 0) rfl (by first | omega | (dsimp only [plus1]; omega) | (simp [plus1, sHt, sH, sS, sAt, sA, sup]; done) | (simp [plus1, sHt, sH, sS, sAt, sA, sup]; omega)) (fun c10 => ?_) (fun c10 => ?_)
                · exfalso; omega
                refine hR.run0 4 (S' := (122, [some (vR 100), some (vI h), some (vI v), some (vI d), some (vI 1), none], [], pset (mW (sAt (sS (sHt τ 1 (τ.1 1) 0 (τ.2.2 1 (τ.1 1) 0 - 1)) 7 1) 6 (τ.1 1) ((τ.2.1 6 (τ.1 1)) + 1)) (sS ρ 0 0)) 100 (.inr (6, [vR 101, vR 102, vI ((sAt (sS (sHt τ 1 (τ.1 1) 0 (τ.2.2 1 (τ.1 1) 0 - 1)) 7 1) 6 (τ.1 1) ((τ.2.1 6 (τ.1 1)) + 1)).1 5), vR 103, vR 104, vR 105, vR 106, vI ((sAt (sS (sHt τ 1 (τ.1 1) 0 (τ.2.2 1 (τ.1 1) 0 - 1)) 7 1) 6 (τ.1 1) ((τ.2.1 6 (τ.1 1)) + 1)).1 0), vI ((sAt (sS (sHt τ 1 (τ.1 1) 0 (τ.2.2 1 (τ.1 1) 0 - 1)) 7 1) 6 (τ.1 1) ((τ.2.1 6 (τ.1 1)) + 1)).1 1), vI ((sAt (sS (sHt τ 1 (τ.1 1) 0 (τ.2.2 1 (τ.1 1) 0 - 1)) 7 1) 6 (τ.1 1) ((τ.2.1 6 (τ.1 1)) + 1)).1 2), vI ((sAt (sS (sHt τ 1 (τ.1 1) 0 (τ.2.2 1 (τ.1 1) 0 - 1)) 7 1) 6 (τ.1 1) ((τ.2.1 6 (τ.1 1)) + 1)).1 3), vR 107, vR 108, vI ((sAt (sS (sHt τ 1 (τ.1 1) 0 (τ.2.2 1 (τ.1 1) 0 - 1)) 7 1) 6 (τ.1 1) ((τ.2.1 6 (τ.1 1)) + 1)).1 6), vI ((sAt (sS (sHt τ 1 (τ.1 1) 0 (τ.2.2 1 (τ.1 1) 0 - 1)) 7 1) 6 (τ.1 1) ((τ.2.1 6 (τ.1 1)) + 1)).1 7), vR 109, vI (τ.1 1), vI ((sAt (sS (sHt τ 1 (τ.1 1) 0 (τ.2.2 1 (τ.1 1) 0 - 1)) 7 1) 6 (τ.1 1) ((τ.2.1 6 (τ.1 1)) + 1)).1 4), vI ((sAt (sS (sHt τ 1 (τ.1 1) 0 (τ.2.2 1 (τ.1 1) 0 - 1)) 7 1) 6 (τ.1 1) ((τ.2.1 6 (τ.1 1)) + 1)).1 9), vI ((sAt (sS (sHt τ 1 (τ.1 1) 0 (τ.2.2 1 (τ.1 1) 0 - 1)) 7 1) 6 (τ.1 1) ((τ.2.1 6 (τ.1 1)) + 1)).1 10), vR 110, vR 111, vR 112, vR 113, vR 114, vI ((sS ρ 0 0).1 0)])))) rfl ?_
                rw [mW_s8]
                refine hR.run0 4 (S' := (126, [some (vR 100), some (vI h), some (vI v), some (vI d), some (vI 1), none], [vI d, vI v, vI h, vR 100], mW (sS (sAt (sS (sHt τ 1 (τ.1 1) 0 (τ.2.2 1 (τ.1 1) 0 - 1)) 7 1) 6 (τ.1 1) ((τ.2.1 6 (τ.1 1)) + 1)) 8 (τ.1 1)) (sS ρ 0 0))) rfl ?_
                have hcu : canU τ (τ.1 1) 0 = true := mayU_canU (by assumption)
                have hac2 : τ.1 8 ≠ -1 → 3 ≤ (sAt (sS (sHt τ 1 (τ.1 1) 0 (τ.2.2 1 (τ.1 1) 0 - 1)) 7 1) 6 (τ.1 1) ((τ.2.1 6 (τ.1 1)) + 1)).2.1 6 (τ.1 8) := fun e => Int.le_trans (hac e) (pup_ge (by omega) _)
                rw [show sS (sAt (sS (sHt τ 1 (τ.1 1) 0 (τ.2.2 1 (τ.1 1) 0 - 1)) 7 1) 6 (τ.1 1) ((τ.2.1 6 (τ.1 1)) + 1)) 8 (τ.1 1) = usS τ (τ.1 1) 0 from arm_is (X := sAt (sS (sHt τ 1 (τ.1 1) 0 (τ.2.2 1 (τ.1 1) 0 - 1)) 7 1) 6 (τ.1 1) ((τ.2.1 6 (τ.1 1)) + 1)) (by show (if τ.1 8 = -1 then (3 : Int) else (sAt (sS (sHt τ 1 (τ.1 1) 0 (τ.2.2 1 (τ.1 1) 0 - 1)) 7 1) 6 (τ.1 1) ((τ.2.1 6 (τ.1 1)) + 1)).2.1 6 (τ.1 8) + 1) ≤ (sAt (sS (sHt τ 1 (τ.1 1) 0 (τ.2.2 1 (τ.1 1) 0 - 1)) 7 1) 6 (τ.1 1) ((τ.2.1 6 (τ.1 1)) + 1)).2.1 6 (τ.1 1); split <;> omega)]
                refine hR.cv [vI h, vI v, vI d] kX6_197 rfl rfl ⟨_, _, _, rfl, rfl, rfl⟩ (by first | decide | exact Nat.le_refl _) (by decide) (Nat.le_of_ble_eq_true rfl) rfl (sr_robs _ _ (by omega) (by omega) (by rw [usS_3]; exact mayR_tot (by assumption) (by omega)) (by rw [usS_3]; exact hh) (by rw [usS_1 _ _ _ _ (by decide) (by decide)]; exact htu)) ?_
                show G (129, [some (vR 100), some (vI h), some (vI v), some (vI d), some (vI 1), none], [vI (drw ((usS τ (τ.1 1) 0).2.2 0) v d)], mW (robS (usS τ (τ.1 1) 0) h v d) (sS ρ 0 0))
                refine hR.run0 2 (S' := (132, [some (vR 100), some (vI h), some (vI v), some (vI d), some (vI 1), some (vI (drw ((usS τ (τ.1 1) 0).2.2 0) v d))], [vR 100], mW (robS (usS τ (τ.1 1) 0) h v d) (sS ρ 0 0))) rfl ?_
                refine hR.cv [] kX6_209 rfl rfl ⟨_, _, _, rfl, rfl, rfl⟩ (by first | decide | exact Nat.le_refl _) (by decide) (Nat.le_of_ble_eq_true rfl) rfl (sr_lookW _ _ (by first | exact (Wi.use hI.wi (fun k => (hI.hfr k).1) (by assumption) : Wi (usS τ (τ.1 1) 0)) | exact Wi.rob (Wi.use hI.wi (fun k => (hI.hfr k).1) (by assumption)) _ _ _ | exact Wi.gv hI.wi (by omega) hI.hcb _ | exact Wi.nd hI.wi (by omega) | assumption)) ?_
                show G (135, [some (vR 100), some (vI h), some (vI v), some (vI d), some (vI 1), some (vI (drw ((usS τ (τ.1 1) 0).2.2 0) v d))], [], mW (winS (robS (usS τ (τ.1 1) 0) h v d)) (sS ρ 0 0))
                refine hR.run0 1 (S' := (137, [some (vR 100), some (vI h), some (vI v), some (vI d), some (vI 1), some (vI (drw ((usS τ (τ.1 1) 0).2.2 0) v d))], [vI (drw ((usS τ (τ.1 1) 0).2.2 0) v d)], mW (winS (robS (usS τ (τ.1 1) 0) h v d)) (sS ρ 0 0))) rfl ?_
                have hx : xKnight τ h v d = (0, drw ((usS τ (τ.1 1) 0).2.2 0) v d, winS (robS (usS τ (τ.1 1) 0) h v d)) := by unfold xKnight; rw [if_neg (by rw [qa]; decide)]; (repeat' split) <;> first | rfl | (exfalso; omega) | (exfalso; simp_all; done) | (simp_all [robS_n]; done) | (simp [robS_n, drw]; done) | (exfalso; simp_all; omega)
                exact hR.rt rfl trivial (by rw [hx]) (by rw [hx])
        · replace c3 : (mayR τ h v) = false := bI0 (Classical.not_not.mp c3)
          try simp only [Bool.and_eq_true, Bool.or_eq_true, Bool.and_eq_false_iff, Bool.or_eq_false_iff, decide_eq_true_eq, decide_eq_false_iff_not] at c3
          refine hR.run0 2 (S' := (31, [some (vR 100), some (vI h), some (vI v), some (vI d), none, none], [vI 3, vR 100], mW τ (sS ρ 0 0))) rfl ?_
          refine hR.cv [vI 3] kX6_149 rfl rfl ⟨_, _, _, rfl, rfl, rfl⟩ (by first | decide | exact Nat.le_refl _) (by decide) (Nat.le_of_ble_eq_true rfl) rfl (sr_fails _ _ _) ?_
          show G (34, [some (vR 100), some (vI h), some (vI v), some (vI d), none, none], [vI 0], mW τ (sS (sS ρ 0 0) 0 3))
          rw [sS_sS]
          show G (34, [some (vR 100), some (vI h), some (vI v), some (vI d), none, none], [vI 0], mW τ (sS ρ 0 3))
          have hx : xKnight τ h v d = (3, 0, τ) := by unfold xKnight; rw [if_neg (by rw [qa]; decide)]; (repeat' split) <;> first | rfl | (exfalso; omega) | (exfalso; simp_all; done) | (simp_all [robS_n]; done) | (simp [robS_n, drw]; done) | (exfalso; simp_all; omega)
          exact hR.rt rfl trivial (by rw [hx]) (by rw [hx])
    · exfalso; omega
  · skip
    refine hR.cv [vI h, vI v, vI d] kX6_191 rfl rfl ⟨_, _, _, rfl, rfl, rfl⟩ (by first | decide | exact Nat.le_refl _) (by decide) (Nat.le_of_ble_eq_true rfl) rfl (sr_asksRob_f _ _ (by omega) (by omega) (by omega) qa) ?_
    show G (7, [some (vR 100), some (vI h), some (vI v), some (vI d), none, none], [vI 0], mW τ (sS ρ 0 (arC h v d)))
    refine hR.br (C := 0 ≠ 0) rfl (by first | omega | (dsimp only [plus1]; omega) | (simp [plus1, sHt, sH, sS, sAt, sA, sup]; done) | (simp [plus1, sHt, sH, sS, sAt, sA, sup]; omega)) (fun c11 => ?_) (fun c11 => ?_)
    · exfalso; omega
    refine hR.run0 1 (S' := (11, [some (vR 100), some (vI h), some (vI v), some (vI d), none, none], [vI 0], mW τ (sS ρ 0 (arC h v d)))) rfl ?_
    have hx : xKnight τ h v d = (arC h v d, 0, τ) := by unfold xKnight; rw [if_pos qa]
    exact hR.rt rfl trivial (by rw [hx]) (by rw [hx])
theorem pX6_knight (τ ρ : St) {h v d : Int} (hh0 : -2147483648 ≤ h ∧ h ≤ 2147483647) (hv0 : -2147483648 ≤ v ∧ v ≤ 2147483647) (hd0 : -2147483648 ≤ d ∧ d ≤ 2147483647) (hI : Iv τ) : Sp mX6_knight roC 4 [vR 100, vI h, vI v, vI d] (mW τ ρ) (.inl (some (vI (xKnight τ h v d).2.1))) (mW (xKnight τ h v d).2.2 (sS ρ 0 (xKnight τ h v d).1)) := by
  by_cases e : v = -1
  · subst e
    exact pX6_knight_n τ ρ hh0 hd0 hI
  · exact pX6_knight_v τ ρ hh0 hv0 hd0 e hI
theorem pX6_plenty (τ ρ : St) {a b : Int} (ha : -2147483648 ≤ a ∧ a ≤ 2147483647) (hb : -2147483648 ≤ b ∧ b ≤ 2147483647) (hI : Iv τ)  : Sp mX6_plenty roC 1 [vR 100, vI a, vI b] (mW τ ρ) (.inl (some (vI (xPlenty τ a b).2.1))) (mW (xPlenty τ a b).2.2 (sS ρ 0 (xPlenty τ a b).1)) := by
  have hb := hI.hb
  have hr := hI.hr
  have hg := hI.hg
  have hn := hI.hn
  have h7 := hI.h7
  have hh := hI.hh
  have hsm := hI.hsm
  have hcd := hI.hcd
  have hfr := hI.hfr
  have hkn := hI.hkn
  have hbo := hI.hbo
  have hus := hI.hus
  have hro := hI.hro
  have har := hI.har
  have hth := hI.hth
  have hph := hI.hph
  have htu := hI.htu
  have hrb := hI.hrb
  have hpl := hI.hpl
  have hdu := hI.hdu
  have hdp := hI.hdp
  have hof := hI.hof
  have how := hI.how
  have hga := hI.hga
  have hwa := hI.hwa
  have hck := hI.hck
  have hkz := hI.hkz
  have hcb := hI.hcb
  have hfb := hI.hfb
  have hnr := hI.hnr
  have hpq := hI.hpq
  have hrc := hI.hrc
  have hbc := hI.hbc
  have hcc := hI.hcc
  have hac := hI.hac
  refine Sp.of (lk := lkX6) (tb := bX6_plenty) (by decide) lkX6_ok tX6_plenty (mW_keys _ _ _ _) (Nat.le_of_ble_eq_true rfl) (fun G hR => ?_)
  refine hR.run0 2 (S' := (2, [some (vR 100), some (vI a), some (vI b), none], [vI a, vR 100], mW τ ρ)) rfl ?_
  refine hR.cs [vI a] kX6_227 rfl rfl (by first | decide | exact Nat.le_refl _) (by decide) (Nat.le_of_ble_eq_true rfl) rfl (sr_isGood _ _ (by omega)) ?_
  show G (5, [some (vR 100), some (vI a), some (vI b), none], [vI (bI (decide (0 ≤ a) && decide (a < 5))), vR 100], mW τ ρ)
  refine hR.br (C := (bI (decide (0 ≤ a) && decide (a < 5))) = 0) rfl (bI_r _) (fun c1 => ?_) (fun c1 => ?_)
  · replace c1 : (decide (0 ≤ a) && decide (a < 5)) = false := bI0 c1
    try simp only [Bool.and_eq_true, Bool.or_eq_true, Bool.and_eq_false_iff, Bool.or_eq_false_iff, decide_eq_true_eq, decide_eq_false_iff_not] at c1
    refine hR.run0 1 (S' := (20, [some (vR 100), some (vI a), some (vI b), none], [vI 0, vR 100], mW τ ρ)) rfl ?_
    refine hR.cv [vI 0] kX6_127 rfl rfl ⟨_, _, _, rfl, rfl, rfl⟩ (by first | decide | exact Nat.le_refl _) (by decide) (Nat.le_of_ble_eq_true rfl) rfl (sr_asks_f _ _) ?_
    show G (23, [some (vR 100), some (vI a), some (vI b), none], [vI 0], mW τ (sS ρ 0 1))
    refine hR.br (C := 0 ≠ 0) rfl (by first | omega | (dsimp only [plus1]; omega) | (simp [plus1, sHt, sH, sS, sAt, sA, sup]; done) | (simp [plus1, sHt, sH, sS, sAt, sA, sup]; omega)) (fun c2 => ?_) (fun c2 => ?_)
    · exfalso; omega
    refine hR.run0 1 (S' := (27, [some (vR 100), some (vI a), some (vI b), none], [vI 0], mW τ (sS ρ 0 1))) rfl ?_
    have hx : xPlenty τ a b = (1, 0, τ) := by unfold xPlenty; (repeat' split) <;> first | rfl | (exfalso; omega) | (exfalso; simp_all; done) | (exfalso; simp_all; omega)
    exact hR.rt rfl trivial (by rw [hx]) (by rw [hx])
  · replace c1 : (decide (0 ≤ a) && decide (a < 5)) = true := bI1 c1
    try simp only [Bool.and_eq_true, Bool.or_eq_true, Bool.and_eq_false_iff, Bool.or_eq_false_iff, decide_eq_true_eq, decide_eq_false_iff_not] at c1
    refine hR.run0 1 (S' := (9, [some (vR 100), some (vI a), some (vI b), none], [vI b, vR 100], mW τ ρ)) rfl ?_
    refine hR.cs [vI b] kX6_227 rfl rfl (by first | decide | exact Nat.le_refl _) (by decide) (Nat.le_of_ble_eq_true rfl) rfl (sr_isGood _ _ (by omega)) ?_
    show G (12, [some (vR 100), some (vI a), some (vI b), none], [vI (bI (decide (0 ≤ b) && decide (b < 5))), vR 100], mW τ ρ)
    refine hR.br (C := (bI (decide (0 ≤ b) && decide (b < 5))) = 0) rfl (bI_r _) (fun c3 => ?_) (fun c3 => ?_)
    · replace c3 : (decide (0 ≤ b) && decide (b < 5)) = false := bI0 c3
      try simp only [Bool.and_eq_true, Bool.or_eq_true, Bool.and_eq_false_iff, Bool.or_eq_false_iff, decide_eq_true_eq, decide_eq_false_iff_not] at c3
      refine hR.run0 1 (S' := (20, [some (vR 100), some (vI a), some (vI b), none], [vI 0, vR 100], mW τ ρ)) rfl ?_
      refine hR.cv [vI 0] kX6_127 rfl rfl ⟨_, _, _, rfl, rfl, rfl⟩ (by first | decide | exact Nat.le_refl _) (by decide) (Nat.le_of_ble_eq_true rfl) rfl (sr_asks_f _ _) ?_
      show G (23, [some (vR 100), some (vI a), some (vI b), none], [vI 0], mW τ (sS ρ 0 1))
      refine hR.br (C := 0 ≠ 0) rfl (by first | omega | (dsimp only [plus1]; omega) | (simp [plus1, sHt, sH, sS, sAt, sA, sup]; done) | (simp [plus1, sHt, sH, sS, sAt, sA, sup]; omega)) (fun c4 => ?_) (fun c4 => ?_)
      · exfalso; omega
      refine hR.run0 1 (S' := (27, [some (vR 100), some (vI a), some (vI b), none], [vI 0], mW τ (sS ρ 0 1))) rfl ?_
      have hx : xPlenty τ a b = (1, 0, τ) := by unfold xPlenty; (repeat' split) <;> first | rfl | (exfalso; omega) | (exfalso; simp_all; done) | (exfalso; simp_all; omega)
      exact hR.rt rfl trivial (by rw [hx]) (by rw [hx])
    · replace c3 : (decide (0 ≤ b) && decide (b < 5)) = true := bI1 c3
      try simp only [Bool.and_eq_true, Bool.or_eq_true, Bool.and_eq_false_iff, Bool.or_eq_false_iff, decide_eq_true_eq, decide_eq_false_iff_not] at c3
      refine hR.run0 2 (S' := (20, [some (vR 100), some (vI a), some (vI b), none], [vI 1, vR 100], mW τ ρ)) rfl ?_
      refine hR.cv [vI 1] kX6_127 rfl rfl ⟨_, _, _, rfl, rfl, rfl⟩ (by first | decide | exact Nat.le_refl _) (by decide) (Nat.le_of_ble_eq_true rfl) rfl (sr_asks_t _ _) ?_
      show G (23, [some (vR 100), some (vI a), some (vI b), none], [vI 1], mW τ (sS ρ 0 0))
      refine hR.br (C := 1 ≠ 0) rfl (by first | omega | (dsimp only [plus1]; omega) | (simp [plus1, sHt, sH, sS, sAt, sA, sup]; done) | (simp [plus1, sHt, sH, sS, sAt, sA, sup]; omega)) (fun c5 => ?_) (fun c5 => ?_)
      · skip
        refine hR.run1 6 (S' := (37, [some (vR 100), some (vI a), some (vI b), none], [vI (flat (τ.2.2 0) (15 + a))], mW τ (sS ρ 0 0))) rfl (by first | omega | (dsimp only [plus1]; omega) | (simp [plus1, sHt, sH, sS, sAt, sA, sup]; done) | (simp [plus1, sHt, sH, sS, sAt, sA, sup]; omega)) ?_
        rw [show flat (τ.2.2 0) (15 + a) = τ.2.2 0 3 a from flat_at (p := 3) _ (by omega)]
        have f76 := hh 3 a
        refine hR.run0 2 (S' := (39, [some (vR 100), some (vI a), some (vI b), none], [vI b, vI a, vI (τ.2.2 0 3 a)], mW τ (sS ρ 0 0))) rfl ?_
        refine hR.br (C := a ≠ b) rfl (by first | omega | (dsimp only [plus1]; omega) | (simp [plus1, sHt, sH, sS, sAt, sA, sup]; done) | (simp [plus1, sHt, sH, sS, sAt, sA, sup]; omega)) (fun c6 => ?_) (fun c6 => ?_)
        · skip
          refine hR.run0 1 (S' := (47, [some (vR 100), some (vI a), some (vI b), none], [vI 0, vI (τ.2.2 0 3 a)], mW τ (sS ρ 0 0))) rfl ?_
          refine hR.br (C := τ.2.2 0 3 a ≤ 0) rfl (by first | omega | (dsimp only [plus1]; omega) | (simp [plus1, sHt, sH, sS, sAt, sA, sup]; done) | (simp [plus1, sHt, sH, sS, sAt, sA, sup]; omega)) (fun c7 => ?_) (fun c7 => ?_)
          · skip
            refine hR.run0 4 (S' := (70, [some (vR 100), some (vI a), some (vI b), some (vI 0)], [vI 2, vR 100], mW τ (sS ρ 0 0))) rfl ?_
            refine hR.cv [vI 2] kX6_221 rfl rfl ⟨_, _, _, rfl, rfl, rfl⟩ (by first | decide | exact Nat.le_refl _) (by decide) (Nat.le_of_ble_eq_true rfl) rfl (sr_mayUse2 _ _ hph htu hcd hfr hus) ?_
            show G (73, [some (vR 100), some (vI a), some (vI b), some (vI 0)], [vI (bI (mayU τ 2))], mW τ (sS ρ 0 0))
            refine hR.br (C := bI (mayU τ 2) = 0) rfl (bI_r _) (fun c8 => ?_) (fun c8 => ?_)
            · replace c8 : (mayU τ 2) = false := bI0 c8
              try simp only [Bool.and_eq_true, Bool.or_eq_true, Bool.and_eq_false_iff, Bool.or_eq_false_iff, decide_eq_true_eq, decide_eq_false_iff_not] at c8
              refine hR.run0 2 (S' := (82, [some (vR 100), some (vI a), some (vI b), some (vI 0)], [vI 2, vR 100], mW τ (sS ρ 0 0))) rfl ?_
              refine hR.cv [vI 2] kX6_149 rfl rfl ⟨_, _, _, rfl, rfl, rfl⟩ (by first | decide | exact Nat.le_refl _) (by decide) (Nat.le_of_ble_eq_true rfl) rfl (sr_fails _ _ _) ?_
              show G (85, [some (vR 100), some (vI a), some (vI b), some (vI 0)], [vI 0], mW τ (sS (sS ρ 0 0) 0 2))
              rw [sS_sS]
              show G (85, [some (vR 100), some (vI a), some (vI b), some (vI 0)], [vI 0], mW τ (sS ρ 0 2))
              have ht2 := has_two (h := τ.2.2 0) (p := 3) (a := a) (b := b) (fun g => (hh 3 g).1) (by omega) (by omega)
              have hx : xPlenty τ a b = (2, 0, τ) := by unfold xPlenty; (repeat' split) <;> first | rfl | (exfalso; omega) | (exfalso; simp_all; done) | (exfalso; simp_all; omega)
              exact hR.rt rfl trivial (by rw [hx]) (by rw [hx])
            · replace c8 : (mayU τ 2) = true := bI1 c8
              try simp only [Bool.and_eq_true, Bool.or_eq_true, Bool.and_eq_false_iff, Bool.or_eq_false_iff, decide_eq_true_eq, decide_eq_false_iff_not] at c8
              refine hR.run0 1 (S' := (77, [some (vR 100), some (vI a), some (vI b), some (vI 0)], [vI 0], mW τ (sS ρ 0 0))) rfl ?_
              refine hR.br (C := 0 ≠ 0) rfl (by first | omega | (dsimp only [plus1]; omega) | (simp [plus1, sHt, sH, sS, sAt, sA, sup]; done) | (simp [plus1, sHt, sH, sS, sAt, sA, sup]; omega)) (fun c9 => ?_) (fun c9 => ?_)
              · exfalso; omega
              refine hR.run0 2 (S' := (82, [some (vR 100), some (vI a), some (vI b), some (vI 0)], [vI 2, vR 100], mW τ (sS ρ 0 0))) rfl ?_
              refine hR.cv [vI 2] kX6_149 rfl rfl ⟨_, _, _, rfl, rfl, rfl⟩ (by first | decide | exact Nat.le_refl _) (by decide) (Nat.le_of_ble_eq_true rfl) rfl (sr_fails _ _ _) ?_
              show G (85, [some (vR 100), some (vI a), some (vI b), some (vI 0)], [vI 0], mW τ (sS (sS ρ 0 0) 0 2))
              rw [sS_sS]
              show G (85, [some (vR 100), some (vI a), some (vI b), some (vI 0)], [vI 0], mW τ (sS ρ 0 2))
              have ht2 := has_two (h := τ.2.2 0) (p := 3) (a := a) (b := b) (fun g => (hh 3 g).1) (by omega) (by omega)
              have hx : xPlenty τ a b = (2, 0, τ) := by unfold xPlenty; (repeat' split) <;> first | rfl | (exfalso; omega) | (exfalso; simp_all; done) | (exfalso; simp_all; omega)
              exact hR.rt rfl trivial (by rw [hx]) (by rw [hx])
          · skip
            refine hR.run1 6 (S' := (59, [some (vR 100), some (vI a), some (vI b), none], [vI (flat (τ.2.2 0) (15 + b))], mW τ (sS ρ 0 0))) rfl (by first | omega | (dsimp only [plus1]; omega) | (simp [plus1, sHt, sH, sS, sAt, sA, sup]; done) | (simp [plus1, sHt, sH, sS, sAt, sA, sup]; omega)) ?_
            rw [show flat (τ.2.2 0) (15 + b) = τ.2.2 0 3 b from flat_at (p := 3) _ (by omega)]
            have f113 := hh 3 b
            refine hR.br (C := τ.2.2 0 3 b ≤ 0) rfl (by first | omega | (dsimp only [plus1]; omega) | (simp [plus1, sHt, sH, sS, sAt, sA, sup]; done) | (simp [plus1, sHt, sH, sS, sAt, sA, sup]; omega)) (fun c10 => ?_) (fun c10 => ?_)
            · skip
              refine hR.run0 4 (S' := (70, [some (vR 100), some (vI a), some (vI b), some (vI 0)], [vI 2, vR 100], mW τ (sS ρ 0 0))) rfl ?_
              refine hR.cv [vI 2] kX6_221 rfl rfl ⟨_, _, _, rfl, rfl, rfl⟩ (by first | decide | exact Nat.le_refl _) (by decide) (Nat.le_of_ble_eq_true rfl) rfl (sr_mayUse2 _ _ hph htu hcd hfr hus) ?_
              show G (73, [some (vR 100), some (vI a), some (vI b), some (vI 0)], [vI (bI (mayU τ 2))], mW τ (sS ρ 0 0))
              refine hR.br (C := bI (mayU τ 2) = 0) rfl (bI_r _) (fun c11 => ?_) (fun c11 => ?_)
              · replace c11 : (mayU τ 2) = false := bI0 c11
                try simp only [Bool.and_eq_true, Bool.or_eq_true, Bool.and_eq_false_iff, Bool.or_eq_false_iff, decide_eq_true_eq, decide_eq_false_iff_not] at c11
                refine hR.run0 2 (S' := (82, [some (vR 100), some (vI a), some (vI b), some (vI 0)], [vI 2, vR 100], mW τ (sS ρ 0 0))) rfl ?_
                refine hR.cv [vI 2] kX6_149 rfl rfl ⟨_, _, _, rfl, rfl, rfl⟩ (by first | decide | exact Nat.le_refl _) (by decide) (Nat.le_of_ble_eq_true rfl) rfl (sr_fails _ _ _) ?_
                show G (85, [some (vR 100), some (vI a), some (vI b), some (vI 0)], [vI 0], mW τ (sS (sS ρ 0 0) 0 2))
                rw [sS_sS]
                show G (85, [some (vR 100), some (vI a), some (vI b), some (vI 0)], [vI 0], mW τ (sS ρ 0 2))
                have ht2 := has_two (h := τ.2.2 0) (p := 3) (a := a) (b := b) (fun g => (hh 3 g).1) (by omega) (by omega)
                have hx : xPlenty τ a b = (2, 0, τ) := by unfold xPlenty; (repeat' split) <;> first | rfl | (exfalso; omega) | (exfalso; simp_all; done) | (exfalso; simp_all; omega)
                exact hR.rt rfl trivial (by rw [hx]) (by rw [hx])
              · replace c11 : (mayU τ 2) = true := bI1 c11
                try simp only [Bool.and_eq_true, Bool.or_eq_true, Bool.and_eq_false_iff, Bool.or_eq_false_iff, decide_eq_true_eq, decide_eq_false_iff_not] at c11
                refine hR.run0 1 (S' := (77, [some (vR 100), some (vI a), some (vI b), some (vI 0)], [vI 0], mW τ (sS ρ 0 0))) rfl ?_
                refine hR.br (C := 0 ≠ 0) rfl (by first | omega | (dsimp only [plus1]; omega) | (simp [plus1, sHt, sH, sS, sAt, sA, sup]; done) | (simp [plus1, sHt, sH, sS, sAt, sA, sup]; omega)) (fun c12 => ?_) (fun c12 => ?_)
                · exfalso; omega
                refine hR.run0 2 (S' := (82, [some (vR 100), some (vI a), some (vI b), some (vI 0)], [vI 2, vR 100], mW τ (sS ρ 0 0))) rfl ?_
                refine hR.cv [vI 2] kX6_149 rfl rfl ⟨_, _, _, rfl, rfl, rfl⟩ (by first | decide | exact Nat.le_refl _) (by decide) (Nat.le_of_ble_eq_true rfl) rfl (sr_fails _ _ _) ?_
                show G (85, [some (vR 100), some (vI a), some (vI b), some (vI 0)], [vI 0], mW τ (sS (sS ρ 0 0) 0 2))
                rw [sS_sS]
                show G (85, [some (vR 100), some (vI a), some (vI b), some (vI 0)], [vI 0], mW τ (sS ρ 0 2))
                have ht2 := has_two (h := τ.2.2 0) (p := 3) (a := a) (b := b) (fun g => (hh 3 g).1) (by omega) (by omega)
                have hx : xPlenty τ a b = (2, 0, τ) := by unfold xPlenty; (repeat' split) <;> first | rfl | (exfalso; omega) | (exfalso; simp_all; done) | (exfalso; simp_all; omega)
                exact hR.rt rfl trivial (by rw [hx]) (by rw [hx])
            · skip
              refine hR.run0 5 (S' := (70, [some (vR 100), some (vI a), some (vI b), some (vI 1)], [vI 2, vR 100], mW τ (sS ρ 0 0))) rfl ?_
              refine hR.cv [vI 2] kX6_221 rfl rfl ⟨_, _, _, rfl, rfl, rfl⟩ (by first | decide | exact Nat.le_refl _) (by decide) (Nat.le_of_ble_eq_true rfl) rfl (sr_mayUse2 _ _ hph htu hcd hfr hus) ?_
              show G (73, [some (vR 100), some (vI a), some (vI b), some (vI 1)], [vI (bI (mayU τ 2))], mW τ (sS ρ 0 0))
              refine hR.br (C := bI (mayU τ 2) = 0) rfl (bI_r _) (fun c13 => ?_) (fun c13 => ?_)
              · replace c13 : (mayU τ 2) = false := bI0 c13
                try simp only [Bool.and_eq_true, Bool.or_eq_true, Bool.and_eq_false_iff, Bool.or_eq_false_iff, decide_eq_true_eq, decide_eq_false_iff_not] at c13
                refine hR.run0 2 (S' := (82, [some (vR 100), some (vI a), some (vI b), some (vI 1)], [vI 2, vR 100], mW τ (sS ρ 0 0))) rfl ?_
                refine hR.cv [vI 2] kX6_149 rfl rfl ⟨_, _, _, rfl, rfl, rfl⟩ (by first | decide | exact Nat.le_refl _) (by decide) (Nat.le_of_ble_eq_true rfl) rfl (sr_fails _ _ _) ?_
                show G (85, [some (vR 100), some (vI a), some (vI b), some (vI 1)], [vI 0], mW τ (sS (sS ρ 0 0) 0 2))
                rw [sS_sS]
                show G (85, [some (vR 100), some (vI a), some (vI b), some (vI 1)], [vI 0], mW τ (sS ρ 0 2))
                have ht2 := has_two (h := τ.2.2 0) (p := 3) (a := a) (b := b) (fun g => (hh 3 g).1) (by omega) (by omega)
                have hx : xPlenty τ a b = (2, 0, τ) := by unfold xPlenty; (repeat' split) <;> first | rfl | (exfalso; omega) | (exfalso; simp_all; done) | (exfalso; simp_all; omega)
                exact hR.rt rfl trivial (by rw [hx]) (by rw [hx])
              · replace c13 : (mayU τ 2) = true := bI1 c13
                try simp only [Bool.and_eq_true, Bool.or_eq_true, Bool.and_eq_false_iff, Bool.or_eq_false_iff, decide_eq_true_eq, decide_eq_false_iff_not] at c13
                refine hR.run0 1 (S' := (77, [some (vR 100), some (vI a), some (vI b), some (vI 1)], [vI 1], mW τ (sS ρ 0 0))) rfl ?_
                refine hR.br (C := 1 ≠ 0) rfl (by first | omega | (dsimp only [plus1]; omega) | (simp [plus1, sHt, sH, sS, sAt, sA, sup]; done) | (simp [plus1, sHt, sH, sS, sAt, sA, sup]; omega)) (fun c14 => ?_) (fun c14 => ?_)
                · skip
                  refine hR.run0 2 (S' := (88, [some (vR 100), some (vI a), some (vI b), some (vI 1)], [vI 2, vR 100], mW τ (sS ρ 0 0))) rfl ?_
                  refine hR.cv [vI 2] kX6_224 rfl rfl ⟨_, _, _, rfl, rfl, rfl⟩ (by first | decide | exact Nat.le_refl _) (by decide) (Nat.le_of_ble_eq_true rfl) rfl (sr_uses2 _ _ htu) ?_
                  show G (91, [some (vR 100), some (vI a), some (vI b), some (vI 1)], [], mW (usS τ (τ.1 1) 2) (sS ρ 0 0))
                  have hut : (usS τ (τ.1 1) 2).1 1 = τ.1 1 := usS_1 _ _ _ _ (by decide) (by decide)
                  refine hR.run0 6 (S' := (99, [some (vR 100), some (vI a), some (vI b), some (vI 1)], [vI 1, vI a, vI ((usS τ (τ.1 1) 2).1 1), vI 3, vR 100], mW (usS τ (τ.1 1) 2) (sS ρ 0 0))) rfl ?_
                  rw [usS_1 _ _ _ _ (by decide) (by decide)]
                  refine hR.cv [vI 3, vI (τ.1 1), vI a, vI 1] kX6_230 rfl rfl ⟨_, _, _, rfl, rfl, rfl⟩ (by first | decide | exact Nat.le_refl _) (by decide) (Nat.le_of_ble_eq_true rfl) rfl (sr_moves _ _ _ (by omega) (by omega) (by omega)) ?_
                  show G (102, [some (vR 100), some (vI a), some (vI b), some (vI 1)], [], mW (mvS (usS τ (τ.1 1) 2) 3 (τ.1 1) a 1) (sS ρ 0 0))
                  have ez1 : (mvS (usS τ (τ.1 1) 2) 3 (τ.1 1) a 1).1 1 = (usS τ (τ.1 1) 2).1 1 := rfl
                  refine hR.run0 6 (S' := (110, [some (vR 100), some (vI a), some (vI b), some (vI 1)], [vI 1, vI b, vI ((usS τ (τ.1 1) 2).1 1), vI 3, vR 100], mW (mvS (usS τ (τ.1 1) 2) 3 (τ.1 1) a 1) (sS ρ 0 0))) rfl ?_
                  rw [usS_1 _ _ _ _ (by decide) (by decide)]
                  refine hR.cv [vI 3, vI (τ.1 1), vI b, vI 1] kX6_230 rfl rfl ⟨_, _, _, rfl, rfl, rfl⟩ (by first | decide | exact Nat.le_refl _) (by decide) (Nat.le_of_ble_eq_true rfl) rfl (sr_moves _ _ _ (by omega) (by omega) (by omega)) ?_
                  show G (113, [some (vR 100), some (vI a), some (vI b), some (vI 1)], [], mW (mvS (mvS (usS τ (τ.1 1) 2) 3 (τ.1 1) a 1) 3 (τ.1 1) b 1) (sS ρ 0 0))
                  have ez2 : (mvS (mvS (usS τ (τ.1 1) 2) 3 (τ.1 1) a 1) 3 (τ.1 1) b 1).1 1 = (usS τ (τ.1 1) 2).1 1 := rfl
                  refine hR.run0 3 (S' := (118, [some (vR 100), some (vI a), some (vI b), some (vI 1)], [vI ((usS τ (τ.1 1) 2).1 1), vR 100], mW (mvS (mvS (usS τ (τ.1 1) 2) 3 (τ.1 1) a 1) 3 (τ.1 1) b 1) (sS ρ 0 0))) rfl ?_
                  have ht2 : hasG (τ.2.2 0) 3 (sgl a + sgl b) = true := (has_two (fun g => (hh 3 g).1) (by omega) (by omega)).mpr ⟨by split <;> omega, by omega⟩
                  rw [show mvS (mvS (usS τ (τ.1 1) 2) 3 (τ.1 1) a 1) 3 (τ.1 1) b 1 = mvA (usS τ (τ.1 1) 2) 3 (τ.1 1) (sgl a + sgl b) from two_mvA (by omega) (by omega)]
                  rw [usS_1 _ _ _ _ (by decide) (by decide)]
                  refine hR.cv [vI (τ.1 1)] kX6_175 rfl rfl ⟨_, _, _, rfl, rfl, rfl⟩ (by first | decide | exact Nat.le_refl _) (by decide) (Nat.le_of_ble_eq_true rfl) rfl (sr_handOf _ _ (by omega) (HH_mvA (by rw [usS_3]; exact hI.hH) (by omega) (by omega) (by rw [usS_3]; assumption)).1) ?_
                  show G (121, [some (vR 100), some (vI a), some (vI b), some (vI 1)], [vI (tot ((mvA (usS τ (τ.1 1) 2) 3 (τ.1 1) (sgl a + sgl b)).2.2 0) (τ.1 1))], mW (mvA (usS τ (τ.1 1) 2) 3 (τ.1 1) (sgl a + sgl b)) (sS ρ 0 0))
                  have hx : xPlenty τ a b = (0, tot ((mvA (usS τ (τ.1 1) 2) 3 (τ.1 1) (sgl a + sgl b)).2.2 0) (τ.1 1), mvA (usS τ (τ.1 1) 2) 3 (τ.1 1) (sgl a + sgl b)) := by unfold xPlenty; rw [if_neg (by omega), if_neg (by simp_all)]
                  exact hR.rt rfl trivial (by rw [hx]) (by rw [hx])
                · exfalso; omega
        · skip
          refine hR.run0 2 (S' := (47, [some (vR 100), some (vI a), some (vI b), none], [vI 1, vI (τ.2.2 0 3 a)], mW τ (sS ρ 0 0))) rfl ?_
          refine hR.br (C := τ.2.2 0 3 a ≤ 1) rfl (by first | omega | (dsimp only [plus1]; omega) | (simp [plus1, sHt, sH, sS, sAt, sA, sup]; done) | (simp [plus1, sHt, sH, sS, sAt, sA, sup]; omega)) (fun c15 => ?_) (fun c15 => ?_)
          · skip
            refine hR.run0 4 (S' := (70, [some (vR 100), some (vI a), some (vI b), some (vI 0)], [vI 2, vR 100], mW τ (sS ρ 0 0))) rfl ?_
            refine hR.cv [vI 2] kX6_221 rfl rfl ⟨_, _, _, rfl, rfl, rfl⟩ (by first | decide | exact Nat.le_refl _) (by decide) (Nat.le_of_ble_eq_true rfl) rfl (sr_mayUse2 _ _ hph htu hcd hfr hus) ?_
            show G (73, [some (vR 100), some (vI a), some (vI b), some (vI 0)], [vI (bI (mayU τ 2))], mW τ (sS ρ 0 0))
            refine hR.br (C := bI (mayU τ 2) = 0) rfl (bI_r _) (fun c16 => ?_) (fun c16 => ?_)
            · replace c16 : (mayU τ 2) = false := bI0 c16
              try simp only [Bool.and_eq_true, Bool.or_eq_true, Bool.and_eq_false_iff, Bool.or_eq_false_iff, decide_eq_true_eq, decide_eq_false_iff_not] at c16
              refine hR.run0 2 (S' := (82, [some (vR 100), some (vI a), some (vI b), some (vI 0)], [vI 2, vR 100], mW τ (sS ρ 0 0))) rfl ?_
              refine hR.cv [vI 2] kX6_149 rfl rfl ⟨_, _, _, rfl, rfl, rfl⟩ (by first | decide | exact Nat.le_refl _) (by decide) (Nat.le_of_ble_eq_true rfl) rfl (sr_fails _ _ _) ?_
              show G (85, [some (vR 100), some (vI a), some (vI b), some (vI 0)], [vI 0], mW τ (sS (sS ρ 0 0) 0 2))
              rw [sS_sS]
              show G (85, [some (vR 100), some (vI a), some (vI b), some (vI 0)], [vI 0], mW τ (sS ρ 0 2))
              have ht2 := has_two (h := τ.2.2 0) (p := 3) (a := a) (b := b) (fun g => (hh 3 g).1) (by omega) (by omega)
              have hx : xPlenty τ a b = (2, 0, τ) := by unfold xPlenty; (repeat' split) <;> first | rfl | (exfalso; omega) | (exfalso; simp_all; done) | (exfalso; simp_all; omega)
              exact hR.rt rfl trivial (by rw [hx]) (by rw [hx])
            · replace c16 : (mayU τ 2) = true := bI1 c16
              try simp only [Bool.and_eq_true, Bool.or_eq_true, Bool.and_eq_false_iff, Bool.or_eq_false_iff, decide_eq_true_eq, decide_eq_false_iff_not] at c16
              refine hR.run0 1 (S' := (77, [some (vR 100), some (vI a), some (vI b), some (vI 0)], [vI 0], mW τ (sS ρ 0 0))) rfl ?_
              refine hR.br (C := 0 ≠ 0) rfl (by first | omega | (dsimp only [plus1]; omega) | (simp [plus1, sHt, sH, sS, sAt, sA, sup]; done) | (simp [plus1, sHt, sH, sS, sAt, sA, sup]; omega)) (fun c17 => ?_) (fun c17 => ?_)
              · exfalso; omega
              refine hR.run0 2 (S' := (82, [some (vR 100), some (vI a), some (vI b), some (vI 0)], [vI 2, vR 100], mW τ (sS ρ 0 0))) rfl ?_
              refine hR.cv [vI 2] kX6_149 rfl rfl ⟨_, _, _, rfl, rfl, rfl⟩ (by first | decide | exact Nat.le_refl _) (by decide) (Nat.le_of_ble_eq_true rfl) rfl (sr_fails _ _ _) ?_
              show G (85, [some (vR 100), some (vI a), some (vI b), some (vI 0)], [vI 0], mW τ (sS (sS ρ 0 0) 0 2))
              rw [sS_sS]
              show G (85, [some (vR 100), some (vI a), some (vI b), some (vI 0)], [vI 0], mW τ (sS ρ 0 2))
              have ht2 := has_two (h := τ.2.2 0) (p := 3) (a := a) (b := b) (fun g => (hh 3 g).1) (by omega) (by omega)
              have hx : xPlenty τ a b = (2, 0, τ) := by unfold xPlenty; (repeat' split) <;> first | rfl | (exfalso; omega) | (exfalso; simp_all; done) | (exfalso; simp_all; omega)
              exact hR.rt rfl trivial (by rw [hx]) (by rw [hx])
          · skip
            refine hR.run1 6 (S' := (59, [some (vR 100), some (vI a), some (vI b), none], [vI (flat (τ.2.2 0) (15 + b))], mW τ (sS ρ 0 0))) rfl (by first | omega | (dsimp only [plus1]; omega) | (simp [plus1, sHt, sH, sS, sAt, sA, sup]; done) | (simp [plus1, sHt, sH, sS, sAt, sA, sup]; omega)) ?_
            rw [show flat (τ.2.2 0) (15 + b) = τ.2.2 0 3 b from flat_at (p := 3) _ (by omega)]
            have f220 := hh 3 b
            refine hR.br (C := τ.2.2 0 3 b ≤ 0) rfl (by first | omega | (dsimp only [plus1]; omega) | (simp [plus1, sHt, sH, sS, sAt, sA, sup]; done) | (simp [plus1, sHt, sH, sS, sAt, sA, sup]; omega)) (fun c18 => ?_) (fun c18 => ?_)
            · skip
              refine hR.run0 4 (S' := (70, [some (vR 100), some (vI a), some (vI b), some (vI 0)], [vI 2, vR 100], mW τ (sS ρ 0 0))) rfl ?_
              refine hR.cv [vI 2] kX6_221 rfl rfl ⟨_, _, _, rfl, rfl, rfl⟩ (by first | decide | exact Nat.le_refl _) (by decide) (Nat.le_of_ble_eq_true rfl) rfl (sr_mayUse2 _ _ hph htu hcd hfr hus) ?_
              show G (73, [some (vR 100), some (vI a), some (vI b), some (vI 0)], [vI (bI (mayU τ 2))], mW τ (sS ρ 0 0))
              refine hR.br (C := bI (mayU τ 2) = 0) rfl (bI_r _) (fun c19 => ?_) (fun c19 => ?_)
              · replace c19 : (mayU τ 2) = false := bI0 c19
                try simp only [Bool.and_eq_true, Bool.or_eq_true, Bool.and_eq_false_iff, Bool.or_eq_false_iff, decide_eq_true_eq, decide_eq_false_iff_not] at c19
                refine hR.run0 2 (S' := (82, [some (vR 100), some (vI a), some (vI b), some (vI 0)], [vI 2, vR 100], mW τ (sS ρ 0 0))) rfl ?_
                refine hR.cv [vI 2] kX6_149 rfl rfl ⟨_, _, _, rfl, rfl, rfl⟩ (by first | decide | exact Nat.le_refl _) (by decide) (Nat.le_of_ble_eq_true rfl) rfl (sr_fails _ _ _) ?_
                show G (85, [some (vR 100), some (vI a), some (vI b), some (vI 0)], [vI 0], mW τ (sS (sS ρ 0 0) 0 2))
                rw [sS_sS]
                show G (85, [some (vR 100), some (vI a), some (vI b), some (vI 0)], [vI 0], mW τ (sS ρ 0 2))
                have ht2 := has_two (h := τ.2.2 0) (p := 3) (a := a) (b := b) (fun g => (hh 3 g).1) (by omega) (by omega)
                have hx : xPlenty τ a b = (2, 0, τ) := by unfold xPlenty; (repeat' split) <;> first | rfl | (exfalso; omega) | (exfalso; simp_all; done) | (exfalso; simp_all; omega)
                exact hR.rt rfl trivial (by rw [hx]) (by rw [hx])
              · replace c19 : (mayU τ 2) = true := bI1 c19
                try simp only [Bool.and_eq_true, Bool.or_eq_true, Bool.and_eq_false_iff, Bool.or_eq_false_iff, decide_eq_true_eq, decide_eq_false_iff_not] at c19
                refine hR.run0 1 (S' := (77, [some (vR 100), some (vI a), some (vI b), some (vI 0)], [vI 0], mW τ (sS ρ 0 0))) rfl ?_
                refine hR.br (C := 0 ≠ 0) rfl (by first | omega | (dsimp only [plus1]; omega) | (simp [plus1, sHt, sH, sS, sAt, sA, sup]; done) | (simp [plus1, sHt, sH, sS, sAt, sA, sup]; omega)) (fun c20 => ?_) (fun c20 => ?_)
                · exfalso; omega
                refine hR.run0 2 (S' := (82, [some (vR 100), some (vI a), some (vI b), some (vI 0)], [vI 2, vR 100], mW τ (sS ρ 0 0))) rfl ?_
                refine hR.cv [vI 2] kX6_149 rfl rfl ⟨_, _, _, rfl, rfl, rfl⟩ (by first | decide | exact Nat.le_refl _) (by decide) (Nat.le_of_ble_eq_true rfl) rfl (sr_fails _ _ _) ?_
                show G (85, [some (vR 100), some (vI a), some (vI b), some (vI 0)], [vI 0], mW τ (sS (sS ρ 0 0) 0 2))
                rw [sS_sS]
                show G (85, [some (vR 100), some (vI a), some (vI b), some (vI 0)], [vI 0], mW τ (sS ρ 0 2))
                have ht2 := has_two (h := τ.2.2 0) (p := 3) (a := a) (b := b) (fun g => (hh 3 g).1) (by omega) (by omega)
                have hx : xPlenty τ a b = (2, 0, τ) := by unfold xPlenty; (repeat' split) <;> first | rfl | (exfalso; omega) | (exfalso; simp_all; done) | (exfalso; simp_all; omega)
                exact hR.rt rfl trivial (by rw [hx]) (by rw [hx])
            · skip
              refine hR.run0 5 (S' := (70, [some (vR 100), some (vI a), some (vI b), some (vI 1)], [vI 2, vR 100], mW τ (sS ρ 0 0))) rfl ?_
              refine hR.cv [vI 2] kX6_221 rfl rfl ⟨_, _, _, rfl, rfl, rfl⟩ (by first | decide | exact Nat.le_refl _) (by decide) (Nat.le_of_ble_eq_true rfl) rfl (sr_mayUse2 _ _ hph htu hcd hfr hus) ?_
              show G (73, [some (vR 100), some (vI a), some (vI b), some (vI 1)], [vI (bI (mayU τ 2))], mW τ (sS ρ 0 0))
              refine hR.br (C := bI (mayU τ 2) = 0) rfl (bI_r _) (fun c21 => ?_) (fun c21 => ?_)
              · replace c21 : (mayU τ 2) = false := bI0 c21
                try simp only [Bool.and_eq_true, Bool.or_eq_true, Bool.and_eq_false_iff, Bool.or_eq_false_iff, decide_eq_true_eq, decide_eq_false_iff_not] at c21
                refine hR.run0 2 (S' := (82, [some (vR 100), some (vI a), some (vI b), some (vI 1)], [vI 2, vR 100], mW τ (sS ρ 0 0))) rfl ?_
                refine hR.cv [vI 2] kX6_149 rfl rfl ⟨_, _, _, rfl, rfl, rfl⟩ (by first | decide | exact Nat.le_refl _) (by decide) (Nat.le_of_ble_eq_true rfl) rfl (sr_fails _ _ _) ?_
                show G (85, [some (vR 100), some (vI a), some (vI b), some (vI 1)], [vI 0], mW τ (sS (sS ρ 0 0) 0 2))
                rw [sS_sS]
                show G (85, [some (vR 100), some (vI a), some (vI b), some (vI 1)], [vI 0], mW τ (sS ρ 0 2))
                have ht2 := has_two (h := τ.2.2 0) (p := 3) (a := a) (b := b) (fun g => (hh 3 g).1) (by omega) (by omega)
                have hx : xPlenty τ a b = (2, 0, τ) := by unfold xPlenty; (repeat' split) <;> first | rfl | (exfalso; omega) | (exfalso; simp_all; done) | (exfalso; simp_all; omega)
                exact hR.rt rfl trivial (by rw [hx]) (by rw [hx])
              · replace c21 : (mayU τ 2) = true := bI1 c21
                try simp only [Bool.and_eq_true, Bool.or_eq_true, Bool.and_eq_false_iff, Bool.or_eq_false_iff, decide_eq_true_eq, decide_eq_false_iff_not] at c21
                refine hR.run0 1 (S' := (77, [some (vR 100), some (vI a), some (vI b), some (vI 1)], [vI 1], mW τ (sS ρ 0 0))) rfl ?_
                refine hR.br (C := 1 ≠ 0) rfl (by first | omega | (dsimp only [plus1]; omega) | (simp [plus1, sHt, sH, sS, sAt, sA, sup]; done) | (simp [plus1, sHt, sH, sS, sAt, sA, sup]; omega)) (fun c22 => ?_) (fun c22 => ?_)
                · skip
                  refine hR.run0 2 (S' := (88, [some (vR 100), some (vI a), some (vI b), some (vI 1)], [vI 2, vR 100], mW τ (sS ρ 0 0))) rfl ?_
                  refine hR.cv [vI 2] kX6_224 rfl rfl ⟨_, _, _, rfl, rfl, rfl⟩ (by first | decide | exact Nat.le_refl _) (by decide) (Nat.le_of_ble_eq_true rfl) rfl (sr_uses2 _ _ htu) ?_
                  show G (91, [some (vR 100), some (vI a), some (vI b), some (vI 1)], [], mW (usS τ (τ.1 1) 2) (sS ρ 0 0))
                  have hut : (usS τ (τ.1 1) 2).1 1 = τ.1 1 := usS_1 _ _ _ _ (by decide) (by decide)
                  refine hR.run0 6 (S' := (99, [some (vR 100), some (vI a), some (vI b), some (vI 1)], [vI 1, vI a, vI ((usS τ (τ.1 1) 2).1 1), vI 3, vR 100], mW (usS τ (τ.1 1) 2) (sS ρ 0 0))) rfl ?_
                  rw [usS_1 _ _ _ _ (by decide) (by decide)]
                  refine hR.cv [vI 3, vI (τ.1 1), vI a, vI 1] kX6_230 rfl rfl ⟨_, _, _, rfl, rfl, rfl⟩ (by first | decide | exact Nat.le_refl _) (by decide) (Nat.le_of_ble_eq_true rfl) rfl (sr_moves _ _ _ (by omega) (by omega) (by omega)) ?_
                  show G (102, [some (vR 100), some (vI a), some (vI b), some (vI 1)], [], mW (mvS (usS τ (τ.1 1) 2) 3 (τ.1 1) a 1) (sS ρ 0 0))
                  have ez3 : (mvS (usS τ (τ.1 1) 2) 3 (τ.1 1) a 1).1 1 = (usS τ (τ.1 1) 2).1 1 := rfl
                  refine hR.run0 6 (S' := (110, [some (vR 100), some (vI a), some (vI b), some (vI 1)], [vI 1, vI b, vI ((usS τ (τ.1 1) 2).1 1), vI 3, vR 100], mW (mvS (usS τ (τ.1 1) 2) 3 (τ.1 1) a 1) (sS ρ 0 0))) rfl ?_
                  rw [usS_1 _ _ _ _ (by decide) (by decide)]
                  refine hR.cv [vI 3, vI (τ.1 1), vI b, vI 1] kX6_230 rfl rfl ⟨_, _, _, rfl, rfl, rfl⟩ (by first | decide | exact Nat.le_refl _) (by decide) (Nat.le_of_ble_eq_true rfl) rfl (sr_moves _ _ _ (by omega) (by omega) (by omega)) ?_
                  show G (113, [some (vR 100), some (vI a), some (vI b), some (vI 1)], [], mW (mvS (mvS (usS τ (τ.1 1) 2) 3 (τ.1 1) a 1) 3 (τ.1 1) b 1) (sS ρ 0 0))
                  have ez4 : (mvS (mvS (usS τ (τ.1 1) 2) 3 (τ.1 1) a 1) 3 (τ.1 1) b 1).1 1 = (usS τ (τ.1 1) 2).1 1 := rfl
                  refine hR.run0 3 (S' := (118, [some (vR 100), some (vI a), some (vI b), some (vI 1)], [vI ((usS τ (τ.1 1) 2).1 1), vR 100], mW (mvS (mvS (usS τ (τ.1 1) 2) 3 (τ.1 1) a 1) 3 (τ.1 1) b 1) (sS ρ 0 0))) rfl ?_
                  have ht2 : hasG (τ.2.2 0) 3 (sgl a + sgl b) = true := (has_two (fun g => (hh 3 g).1) (by omega) (by omega)).mpr ⟨by split <;> omega, by omega⟩
                  rw [show mvS (mvS (usS τ (τ.1 1) 2) 3 (τ.1 1) a 1) 3 (τ.1 1) b 1 = mvA (usS τ (τ.1 1) 2) 3 (τ.1 1) (sgl a + sgl b) from two_mvA (by omega) (by omega)]
                  rw [usS_1 _ _ _ _ (by decide) (by decide)]
                  refine hR.cv [vI (τ.1 1)] kX6_175 rfl rfl ⟨_, _, _, rfl, rfl, rfl⟩ (by first | decide | exact Nat.le_refl _) (by decide) (Nat.le_of_ble_eq_true rfl) rfl (sr_handOf _ _ (by omega) (HH_mvA (by rw [usS_3]; exact hI.hH) (by omega) (by omega) (by rw [usS_3]; assumption)).1) ?_
                  show G (121, [some (vR 100), some (vI a), some (vI b), some (vI 1)], [vI (tot ((mvA (usS τ (τ.1 1) 2) 3 (τ.1 1) (sgl a + sgl b)).2.2 0) (τ.1 1))], mW (mvA (usS τ (τ.1 1) 2) 3 (τ.1 1) (sgl a + sgl b)) (sS ρ 0 0))
                  have hx : xPlenty τ a b = (0, tot ((mvA (usS τ (τ.1 1) 2) 3 (τ.1 1) (sgl a + sgl b)).2.2 0) (τ.1 1), mvA (usS τ (τ.1 1) 2) 3 (τ.1 1) (sgl a + sgl b)) := by unfold xPlenty; rw [if_neg (by omega), if_neg (by simp_all)]
                  exact hR.rt rfl trivial (by rw [hx]) (by rw [hx])
                · exfalso; omega
      · exfalso; omega
theorem pX6_monopoly (τ ρ : St) {g : Int} (hg0 : -2147483648 ≤ g ∧ g ≤ 2147483647) (hI : Iv τ)  : Sp mX6_monopoly roC 1 [vR 100, vI g] (mW τ ρ) (.inl (some (vI (xMono τ g).2.1))) (mW (xMono τ g).2.2 (sS ρ 0 (xMono τ g).1)) := by
  have hb := hI.hb
  have hr := hI.hr
  have hg := hI.hg
  have hn := hI.hn
  have h7 := hI.h7
  have hh := hI.hh
  have hsm := hI.hsm
  have hcd := hI.hcd
  have hfr := hI.hfr
  have hkn := hI.hkn
  have hbo := hI.hbo
  have hus := hI.hus
  have hro := hI.hro
  have har := hI.har
  have hth := hI.hth
  have hph := hI.hph
  have htu := hI.htu
  have hrb := hI.hrb
  have hpl := hI.hpl
  have hdu := hI.hdu
  have hdp := hI.hdp
  have hof := hI.hof
  have how := hI.how
  have hga := hI.hga
  have hwa := hI.hwa
  have hck := hI.hck
  have hkz := hI.hkz
  have hcb := hI.hcb
  have hfb := hI.hfb
  have hnr := hI.hnr
  have hpq := hI.hpq
  have hrc := hI.hrc
  have hbc := hI.hbc
  have hcc := hI.hcc
  have hac := hI.hac
  refine Sp.of (lk := lkX6) (tb := bX6_monopoly) (by decide) lkX6_ok tX6_monopoly (mW_keys _ _ _ _) (Nat.le_of_ble_eq_true rfl) (fun G hR => ?_)
  refine hR.run0 2 (S' := (2, [some (vR 100), some (vI g), none, none, none], [vI g, vR 100], mW τ ρ)) rfl ?_
  refine hR.cs [vI g] kX6_227 rfl rfl (by first | decide | exact Nat.le_refl _) (by decide) (Nat.le_of_ble_eq_true rfl) rfl (sr_isGood _ _ (by omega)) ?_
  show G (5, [some (vR 100), some (vI g), none, none, none], [vI (bI (decide (0 ≤ g) && decide (g < 5))), vR 100], mW τ ρ)
  by_cases q1 : (decide (0 ≤ g) && decide (g < 5)) = true
  · skip
    have q1b := q1
    try simp only [Bool.and_eq_true, Bool.or_eq_true, Bool.and_eq_false_iff, Bool.or_eq_false_iff, decide_eq_true_eq, decide_eq_false_iff_not] at q1
    refine hR.cv [vI (bI (decide (0 ≤ g) && decide (g < 5)))] kX6_127 rfl rfl ⟨_, _, _, rfl, rfl, rfl⟩ (by first | decide | exact Nat.le_refl _) (by decide) (Nat.le_of_ble_eq_true rfl) rfl (sr_asksb_t _ _ q1b) ?_
    show G (8, [some (vR 100), some (vI g), none, none, none], [vI 1], mW τ (sS ρ 0 0))
    refine hR.br (C := 1 ≠ 0) rfl (by first | omega | (dsimp only [plus1]; omega) | (simp [plus1, sHt, sH, sS, sAt, sA, sup]; done) | (simp [plus1, sHt, sH, sS, sAt, sA, sup]; omega)) (fun c2 => ?_) (fun c2 => ?_)
    · skip
      refine hR.run0 2 (S' := (15, [some (vR 100), some (vI g), none, none, none], [vI 3, vR 100], mW τ (sS ρ 0 0))) rfl ?_
      refine hR.cv [vI 3] kX6_221 rfl rfl ⟨_, _, _, rfl, rfl, rfl⟩ (by first | decide | exact Nat.le_refl _) (by decide) (Nat.le_of_ble_eq_true rfl) rfl (sr_mayUse3 _ _ hph htu hcd hfr hus) ?_
      show G (18, [some (vR 100), some (vI g), none, none, none], [vI (bI (mayU τ 3))], mW τ (sS ρ 0 0))
      refine hR.br (C := bI (mayU τ 3) ≠ 0) rfl (bI_r _) (fun c3 => ?_) (fun c3 => ?_)
      · replace c3 : (mayU τ 3) = true := bI1 c3
        try simp only [Bool.and_eq_true, Bool.or_eq_true, Bool.and_eq_false_iff, Bool.or_eq_false_iff, decide_eq_true_eq, decide_eq_false_iff_not] at c3
        refine hR.run0 2 (S' := (29, [some (vR 100), some (vI g), none, none, none], [vI 3, vR 100], mW τ (sS ρ 0 0))) rfl ?_
        refine hR.cv [vI 3] kX6_224 rfl rfl ⟨_, _, _, rfl, rfl, rfl⟩ (by first | decide | exact Nat.le_refl _) (by decide) (Nat.le_of_ble_eq_true rfl) rfl (sr_uses3 _ _ htu) ?_
        show G (32, [some (vR 100), some (vI g), none, none, none], [], mW (usS τ (τ.1 1) 3) (sS ρ 0 0))
        have hut : (usS τ (τ.1 1) 3).1 1 = τ.1 1 := usS_1 _ _ _ _ (by decide) (by decide)
        refine hR.run0 6 (S' := (38, [some (vR 100), some (vI g), some (vI 0), some (vI 0), none], [vI 3, vI 0], mW (usS τ (τ.1 1) 3) (sS ρ 0 0))) rfl ?_
        refine hR.br (C := 3 ≤ 0) rfl (by first | omega | (dsimp only [plus1]; omega) | (simp [plus1, sHt, sH, sS, sAt, sA, sup]; done) | (simp [plus1, sHt, sH, sS, sAt, sA, sup]; omega)) (fun c4 => ?_) (fun c4 => ?_)
        · exfalso; omega
        refine hR.run0 3 (S' := (46, [some (vR 100), some (vI g), some (vI 0), some (vI 0), none], [vI ((usS τ (τ.1 1) 3).1 1), vI 0], mW (usS τ (τ.1 1) 3) (sS ρ 0 0))) rfl ?_
        refine hR.br (C := 0 ≠ (usS τ (τ.1 1) 3).1 1) rfl (by first | omega | (dsimp only [plus1]; omega) | (simp [plus1, sHt, sH, sS, sAt, sA, sup]; done) | (simp [plus1, sHt, sH, sS, sAt, sA, sup]; omega)) (fun c5 => ?_) (fun c5 => ?_)
        · skip
          refine hR.run1 8 (S' := (63, [some (vR 100), some (vI g), some (vI 0), some (vI 0), none], [vI (flat ((usS τ (τ.1 1) 3).2.2 0) (0 + g))], mW (usS τ (τ.1 1) 3) (sS ρ 0 0))) rfl (by first | omega | (dsimp only [plus1]; omega) | (simp [plus1, sHt, sH, sS, sAt, sA, sup]; done) | (simp [plus1, sHt, sH, sS, sAt, sA, sup]; omega)) ?_
          rw [show flat ((usS τ (τ.1 1) 3).2.2 0) (0 + g) = (usS τ (τ.1 1) 3).2.2 0 0 g from flat_at (p := 0) _ (by omega)]
          refine hR.run0 7 (S' := (74, [some (vR 100), some (vI g), some (vI 0), some (vI 0), some (vI ((usS τ (τ.1 1) 3).2.2 0 0 g))], [vI ((usS τ (τ.1 1) 3).2.2 0 0 g), vI g, vI ((usS τ (τ.1 1) 3).1 1), vI 0, vR 100], mW (usS τ (τ.1 1) 3) (sS ρ 0 0))) rfl ?_
          rw [usS_1 _ _ _ _ (by decide) (by decide)]
          refine hR.cv [vI 0, vI (τ.1 1), vI g, vI ((usS τ (τ.1 1) 3).2.2 0 0 g)] kX6_230 rfl rfl ⟨_, _, _, rfl, rfl, rfl⟩ (by first | decide | exact Nat.le_refl _) (by decide) (Nat.le_of_ble_eq_true rfl) rfl (sr_moves _ _ _ (by omega) (by omega) (by omega)) ?_
          show G (77, [some (vR 100), some (vI g), some (vI 0), some (vI 0), some (vI ((usS τ (τ.1 1) 3).2.2 0 0 g))], [], mW (mvS (usS τ (τ.1 1) 3) 0 (τ.1 1) g ((usS τ (τ.1 1) 3).2.2 0 0 g)) (sS ρ 0 0))
          have ez1 : (mvS (usS τ (τ.1 1) 3) 0 (τ.1 1) g ((usS τ (τ.1 1) 3).2.2 0 0 g)).1 1 = (usS τ (τ.1 1) 3).1 1 := rfl
          refine hR.run0 8 (S' := (38, [some (vR 100), some (vI g), some (vI (0 + ((usS τ (τ.1 1) 3).2.2 0 0 g))), some (vI 1), some (vI ((usS τ (τ.1 1) 3).2.2 0 0 g))], [vI 3, vI 1], mW (mvS (usS τ (τ.1 1) 3) 0 (τ.1 1) g ((usS τ (τ.1 1) 3).2.2 0 0 g)) (sS ρ 0 0))) rfl ?_
          refine hR.br (C := 3 ≤ 1) rfl (by first | omega | (dsimp only [plus1]; omega) | (simp [plus1, sHt, sH, sS, sAt, sA, sup]; done) | (simp [plus1, sHt, sH, sS, sAt, sA, sup]; omega)) (fun c6 => ?_) (fun c6 => ?_)
          · exfalso; omega
          refine hR.run0 3 (S' := (46, [some (vR 100), some (vI g), some (vI (0 + ((usS τ (τ.1 1) 3).2.2 0 0 g))), some (vI 1), some (vI ((usS τ (τ.1 1) 3).2.2 0 0 g))], [vI ((usS τ (τ.1 1) 3).1 1), vI 1], mW (mvS (usS τ (τ.1 1) 3) 0 (τ.1 1) g ((usS τ (τ.1 1) 3).2.2 0 0 g)) (sS ρ 0 0))) rfl ?_
          refine hR.br (C := 1 ≠ (usS τ (τ.1 1) 3).1 1) rfl (by first | omega | (dsimp only [plus1]; omega) | (simp [plus1, sHt, sH, sS, sAt, sA, sup]; done) | (simp [plus1, sHt, sH, sS, sAt, sA, sup]; omega)) (fun c7 => ?_) (fun c7 => ?_)
          · skip
            refine hR.run1 8 (S' := (63, [some (vR 100), some (vI g), some (vI (0 + ((usS τ (τ.1 1) 3).2.2 0 0 g))), some (vI 1), some (vI ((usS τ (τ.1 1) 3).2.2 0 0 g))], [vI (flat ((mvS (usS τ (τ.1 1) 3) 0 (τ.1 1) g ((usS τ (τ.1 1) 3).2.2 0 0 g)).2.2 0) (5 + g))], mW (mvS (usS τ (τ.1 1) 3) 0 (τ.1 1) g ((usS τ (τ.1 1) 3).2.2 0 0 g)) (sS ρ 0 0))) rfl (by first | omega | (dsimp only [plus1]; omega) | (simp [plus1, sHt, sH, sS, sAt, sA, sup]; done) | (simp [plus1, sHt, sH, sS, sAt, sA, sup]; omega)) ?_
            rw [show flat ((mvS (usS τ (τ.1 1) 3) 0 (τ.1 1) g ((usS τ (τ.1 1) 3).2.2 0 0 g)).2.2 0) (5 + g) = (mvS (usS τ (τ.1 1) 3) 0 (τ.1 1) g ((usS τ (τ.1 1) 3).2.2 0 0 g)).2.2 0 1 g from flat_at (p := 1) _ (by omega)]
            refine hR.run0 7 (S' := (74, [some (vR 100), some (vI g), some (vI (0 + ((usS τ (τ.1 1) 3).2.2 0 0 g))), some (vI 1), some (vI ((mvS (usS τ (τ.1 1) 3) 0 (τ.1 1) g ((usS τ (τ.1 1) 3).2.2 0 0 g)).2.2 0 1 g))], [vI ((mvS (usS τ (τ.1 1) 3) 0 (τ.1 1) g ((usS τ (τ.1 1) 3).2.2 0 0 g)).2.2 0 1 g), vI g, vI ((usS τ (τ.1 1) 3).1 1), vI 1, vR 100], mW (mvS (usS τ (τ.1 1) 3) 0 (τ.1 1) g ((usS τ (τ.1 1) 3).2.2 0 0 g)) (sS ρ 0 0))) rfl ?_
            rw [usS_1 _ _ _ _ (by decide) (by decide)]
            refine hR.cv [vI 1, vI (τ.1 1), vI g, vI ((mvS (usS τ (τ.1 1) 3) 0 (τ.1 1) g ((usS τ (τ.1 1) 3).2.2 0 0 g)).2.2 0 1 g)] kX6_230 rfl rfl ⟨_, _, _, rfl, rfl, rfl⟩ (by first | decide | exact Nat.le_refl _) (by decide) (Nat.le_of_ble_eq_true rfl) rfl (sr_moves _ _ _ (by omega) (by omega) (by omega)) ?_
            show G (77, [some (vR 100), some (vI g), some (vI (0 + ((usS τ (τ.1 1) 3).2.2 0 0 g))), some (vI 1), some (vI ((mvS (usS τ (τ.1 1) 3) 0 (τ.1 1) g ((usS τ (τ.1 1) 3).2.2 0 0 g)).2.2 0 1 g))], [], mW (mvS (mvS (usS τ (τ.1 1) 3) 0 (τ.1 1) g ((usS τ (τ.1 1) 3).2.2 0 0 g)) 1 (τ.1 1) g ((mvS (usS τ (τ.1 1) 3) 0 (τ.1 1) g ((usS τ (τ.1 1) 3).2.2 0 0 g)).2.2 0 1 g)) (sS ρ 0 0))
            have ez2 : (mvS (mvS (usS τ (τ.1 1) 3) 0 (τ.1 1) g ((usS τ (τ.1 1) 3).2.2 0 0 g)) 1 (τ.1 1) g ((mvS (usS τ (τ.1 1) 3) 0 (τ.1 1) g ((usS τ (τ.1 1) 3).2.2 0 0 g)).2.2 0 1 g)).1 1 = (usS τ (τ.1 1) 3).1 1 := rfl
            refine hR.run0 8 (S' := (38, [some (vR 100), some (vI g), some (vI ((0 + ((usS τ (τ.1 1) 3).2.2 0 0 g)) + ((mvS (usS τ (τ.1 1) 3) 0 (τ.1 1) g ((usS τ (τ.1 1) 3).2.2 0 0 g)).2.2 0 1 g))), some (vI 2), some (vI ((mvS (usS τ (τ.1 1) 3) 0 (τ.1 1) g ((usS τ (τ.1 1) 3).2.2 0 0 g)).2.2 0 1 g))], [vI 3, vI 2], mW (mvS (mvS (usS τ (τ.1 1) 3) 0 (τ.1 1) g ((usS τ (τ.1 1) 3).2.2 0 0 g)) 1 (τ.1 1) g ((mvS (usS τ (τ.1 1) 3) 0 (τ.1 1) g ((usS τ (τ.1 1) 3).2.2 0 0 g)).2.2 0 1 g)) (sS ρ 0 0))) rfl ?_
            refine hR.br (C := 3 ≤ 2) rfl (by first | omega | (dsimp only [plus1]; omega) | (simp [plus1, sHt, sH, sS, sAt, sA, sup]; done) | (simp [plus1, sHt, sH, sS, sAt, sA, sup]; omega)) (fun c8 => ?_) (fun c8 => ?_)
            · exfalso; omega
            refine hR.run0 3 (S' := (46, [some (vR 100), some (vI g), some (vI ((0 + ((usS τ (τ.1 1) 3).2.2 0 0 g)) + ((mvS (usS τ (τ.1 1) 3) 0 (τ.1 1) g ((usS τ (τ.1 1) 3).2.2 0 0 g)).2.2 0 1 g))), some (vI 2), some (vI ((mvS (usS τ (τ.1 1) 3) 0 (τ.1 1) g ((usS τ (τ.1 1) 3).2.2 0 0 g)).2.2 0 1 g))], [vI ((usS τ (τ.1 1) 3).1 1), vI 2], mW (mvS (mvS (usS τ (τ.1 1) 3) 0 (τ.1 1) g ((usS τ (τ.1 1) 3).2.2 0 0 g)) 1 (τ.1 1) g ((mvS (usS τ (τ.1 1) 3) 0 (τ.1 1) g ((usS τ (τ.1 1) 3).2.2 0 0 g)).2.2 0 1 g)) (sS ρ 0 0))) rfl ?_
            refine hR.br (C := 2 ≠ (usS τ (τ.1 1) 3).1 1) rfl (by first | omega | (dsimp only [plus1]; omega) | (simp [plus1, sHt, sH, sS, sAt, sA, sup]; done) | (simp [plus1, sHt, sH, sS, sAt, sA, sup]; omega)) (fun c9 => ?_) (fun c9 => ?_)
            · skip
              refine hR.run1 8 (S' := (63, [some (vR 100), some (vI g), some (vI ((0 + ((usS τ (τ.1 1) 3).2.2 0 0 g)) + ((mvS (usS τ (τ.1 1) 3) 0 (τ.1 1) g ((usS τ (τ.1 1) 3).2.2 0 0 g)).2.2 0 1 g))), some (vI 2), some (vI ((mvS (usS τ (τ.1 1) 3) 0 (τ.1 1) g ((usS τ (τ.1 1) 3).2.2 0 0 g)).2.2 0 1 g))], [vI (flat ((mvS (mvS (usS τ (τ.1 1) 3) 0 (τ.1 1) g ((usS τ (τ.1 1) 3).2.2 0 0 g)) 1 (τ.1 1) g ((mvS (usS τ (τ.1 1) 3) 0 (τ.1 1) g ((usS τ (τ.1 1) 3).2.2 0 0 g)).2.2 0 1 g)).2.2 0) (10 + g))], mW (mvS (mvS (usS τ (τ.1 1) 3) 0 (τ.1 1) g ((usS τ (τ.1 1) 3).2.2 0 0 g)) 1 (τ.1 1) g ((mvS (usS τ (τ.1 1) 3) 0 (τ.1 1) g ((usS τ (τ.1 1) 3).2.2 0 0 g)).2.2 0 1 g)) (sS ρ 0 0))) rfl (by first | omega | (dsimp only [plus1]; omega) | (simp [plus1, sHt, sH, sS, sAt, sA, sup]; done) | (simp [plus1, sHt, sH, sS, sAt, sA, sup]; omega)) ?_
              rw [show flat ((mvS (mvS (usS τ (τ.1 1) 3) 0 (τ.1 1) g ((usS τ (τ.1 1) 3).2.2 0 0 g)) 1 (τ.1 1) g ((mvS (usS τ (τ.1 1) 3) 0 (τ.1 1) g ((usS τ (τ.1 1) 3).2.2 0 0 g)).2.2 0 1 g)).2.2 0) (10 + g) = (mvS (mvS (usS τ (τ.1 1) 3) 0 (τ.1 1) g ((usS τ (τ.1 1) 3).2.2 0 0 g)) 1 (τ.1 1) g ((mvS (usS τ (τ.1 1) 3) 0 (τ.1 1) g ((usS τ (τ.1 1) 3).2.2 0 0 g)).2.2 0 1 g)).2.2 0 2 g from flat_at (p := 2) _ (by omega)]
              refine hR.run0 7 (S' := (74, [some (vR 100), some (vI g), some (vI ((0 + ((usS τ (τ.1 1) 3).2.2 0 0 g)) + ((mvS (usS τ (τ.1 1) 3) 0 (τ.1 1) g ((usS τ (τ.1 1) 3).2.2 0 0 g)).2.2 0 1 g))), some (vI 2), some (vI ((mvS (mvS (usS τ (τ.1 1) 3) 0 (τ.1 1) g ((usS τ (τ.1 1) 3).2.2 0 0 g)) 1 (τ.1 1) g ((mvS (usS τ (τ.1 1) 3) 0 (τ.1 1) g ((usS τ (τ.1 1) 3).2.2 0 0 g)).2.2 0 1 g)).2.2 0 2 g))], [vI ((mvS (mvS (usS τ (τ.1 1) 3) 0 (τ.1 1) g ((usS τ (τ.1 1) 3).2.2 0 0 g)) 1 (τ.1 1) g ((mvS (usS τ (τ.1 1) 3) 0 (τ.1 1) g ((usS τ (τ.1 1) 3).2.2 0 0 g)).2.2 0 1 g)).2.2 0 2 g), vI g, vI ((usS τ (τ.1 1) 3).1 1), vI 2, vR 100], mW (mvS (mvS (usS τ (τ.1 1) 3) 0 (τ.1 1) g ((usS τ (τ.1 1) 3).2.2 0 0 g)) 1 (τ.1 1) g ((mvS (usS τ (τ.1 1) 3) 0 (τ.1 1) g ((usS τ (τ.1 1) 3).2.2 0 0 g)).2.2 0 1 g)) (sS ρ 0 0))) rfl ?_
              rw [usS_1 _ _ _ _ (by decide) (by decide)]
              refine hR.cv [vI 2, vI (τ.1 1), vI g, vI ((mvS (mvS (usS τ (τ.1 1) 3) 0 (τ.1 1) g ((usS τ (τ.1 1) 3).2.2 0 0 g)) 1 (τ.1 1) g ((mvS (usS τ (τ.1 1) 3) 0 (τ.1 1) g ((usS τ (τ.1 1) 3).2.2 0 0 g)).2.2 0 1 g)).2.2 0 2 g)] kX6_230 rfl rfl ⟨_, _, _, rfl, rfl, rfl⟩ (by first | decide | exact Nat.le_refl _) (by decide) (Nat.le_of_ble_eq_true rfl) rfl (sr_moves _ _ _ (by omega) (by omega) (by omega)) ?_
              show G (77, [some (vR 100), some (vI g), some (vI ((0 + ((usS τ (τ.1 1) 3).2.2 0 0 g)) + ((mvS (usS τ (τ.1 1) 3) 0 (τ.1 1) g ((usS τ (τ.1 1) 3).2.2 0 0 g)).2.2 0 1 g))), some (vI 2), some (vI ((mvS (mvS (usS τ (τ.1 1) 3) 0 (τ.1 1) g ((usS τ (τ.1 1) 3).2.2 0 0 g)) 1 (τ.1 1) g ((mvS (usS τ (τ.1 1) 3) 0 (τ.1 1) g ((usS τ (τ.1 1) 3).2.2 0 0 g)).2.2 0 1 g)).2.2 0 2 g))], [], mW (mvS (mvS (mvS (usS τ (τ.1 1) 3) 0 (τ.1 1) g ((usS τ (τ.1 1) 3).2.2 0 0 g)) 1 (τ.1 1) g ((mvS (usS τ (τ.1 1) 3) 0 (τ.1 1) g ((usS τ (τ.1 1) 3).2.2 0 0 g)).2.2 0 1 g)) 2 (τ.1 1) g ((mvS (mvS (usS τ (τ.1 1) 3) 0 (τ.1 1) g ((usS τ (τ.1 1) 3).2.2 0 0 g)) 1 (τ.1 1) g ((mvS (usS τ (τ.1 1) 3) 0 (τ.1 1) g ((usS τ (τ.1 1) 3).2.2 0 0 g)).2.2 0 1 g)).2.2 0 2 g)) (sS ρ 0 0))
              have ez3 : (mvS (mvS (mvS (usS τ (τ.1 1) 3) 0 (τ.1 1) g ((usS τ (τ.1 1) 3).2.2 0 0 g)) 1 (τ.1 1) g ((mvS (usS τ (τ.1 1) 3) 0 (τ.1 1) g ((usS τ (τ.1 1) 3).2.2 0 0 g)).2.2 0 1 g)) 2 (τ.1 1) g ((mvS (mvS (usS τ (τ.1 1) 3) 0 (τ.1 1) g ((usS τ (τ.1 1) 3).2.2 0 0 g)) 1 (τ.1 1) g ((mvS (usS τ (τ.1 1) 3) 0 (τ.1 1) g ((usS τ (τ.1 1) 3).2.2 0 0 g)).2.2 0 1 g)).2.2 0 2 g)).1 1 = (usS τ (τ.1 1) 3).1 1 := rfl
              refine hR.run0 8 (S' := (38, [some (vR 100), some (vI g), some (vI (((0 + ((usS τ (τ.1 1) 3).2.2 0 0 g)) + ((mvS (usS τ (τ.1 1) 3) 0 (τ.1 1) g ((usS τ (τ.1 1) 3).2.2 0 0 g)).2.2 0 1 g)) + ((mvS (mvS (usS τ (τ.1 1) 3) 0 (τ.1 1) g ((usS τ (τ.1 1) 3).2.2 0 0 g)) 1 (τ.1 1) g ((mvS (usS τ (τ.1 1) 3) 0 (τ.1 1) g ((usS τ (τ.1 1) 3).2.2 0 0 g)).2.2 0 1 g)).2.2 0 2 g))), some (vI 3), some (vI ((mvS (mvS (usS τ (τ.1 1) 3) 0 (τ.1 1) g ((usS τ (τ.1 1) 3).2.2 0 0 g)) 1 (τ.1 1) g ((mvS (usS τ (τ.1 1) 3) 0 (τ.1 1) g ((usS τ (τ.1 1) 3).2.2 0 0 g)).2.2 0 1 g)).2.2 0 2 g))], [vI 3, vI 3], mW (mvS (mvS (mvS (usS τ (τ.1 1) 3) 0 (τ.1 1) g ((usS τ (τ.1 1) 3).2.2 0 0 g)) 1 (τ.1 1) g ((mvS (usS τ (τ.1 1) 3) 0 (τ.1 1) g ((usS τ (τ.1 1) 3).2.2 0 0 g)).2.2 0 1 g)) 2 (τ.1 1) g ((mvS (mvS (usS τ (τ.1 1) 3) 0 (τ.1 1) g ((usS τ (τ.1 1) 3).2.2 0 0 g)) 1 (τ.1 1) g ((mvS (usS τ (τ.1 1) 3) 0 (τ.1 1) g ((usS τ (τ.1 1) 3).2.2 0 0 g)).2.2 0 1 g)).2.2 0 2 g)) (sS ρ 0 0))) rfl ?_
              refine hR.br (C := 3 ≤ 3) rfl (by first | omega | (dsimp only [plus1]; omega) | (simp [plus1, sHt, sH, sS, sAt, sA, sup]; done) | (simp [plus1, sHt, sH, sS, sAt, sA, sup]; omega)) (fun c10 => ?_) (fun c10 => ?_)
              · skip
                refine hR.run0 1 (S' := (89, [some (vR 100), some (vI g), some (vI (((0 + ((usS τ (τ.1 1) 3).2.2 0 0 g)) + ((mvS (usS τ (τ.1 1) 3) 0 (τ.1 1) g ((usS τ (τ.1 1) 3).2.2 0 0 g)).2.2 0 1 g)) + ((mvS (mvS (usS τ (τ.1 1) 3) 0 (τ.1 1) g ((usS τ (τ.1 1) 3).2.2 0 0 g)) 1 (τ.1 1) g ((mvS (usS τ (τ.1 1) 3) 0 (τ.1 1) g ((usS τ (τ.1 1) 3).2.2 0 0 g)).2.2 0 1 g)).2.2 0 2 g))), some (vI 3), some (vI ((mvS (mvS (usS τ (τ.1 1) 3) 0 (τ.1 1) g ((usS τ (τ.1 1) 3).2.2 0 0 g)) 1 (τ.1 1) g ((mvS (usS τ (τ.1 1) 3) 0 (τ.1 1) g ((usS τ (τ.1 1) 3).2.2 0 0 g)).2.2 0 1 g)).2.2 0 2 g))], [vI (((0 + ((usS τ (τ.1 1) 3).2.2 0 0 g)) + ((mvS (usS τ (τ.1 1) 3) 0 (τ.1 1) g ((usS τ (τ.1 1) 3).2.2 0 0 g)).2.2 0 1 g)) + ((mvS (mvS (usS τ (τ.1 1) 3) 0 (τ.1 1) g ((usS τ (τ.1 1) 3).2.2 0 0 g)) 1 (τ.1 1) g ((mvS (usS τ (τ.1 1) 3) 0 (τ.1 1) g ((usS τ (τ.1 1) 3).2.2 0 0 g)).2.2 0 1 g)).2.2 0 2 g))], mW (mvS (mvS (mvS (usS τ (τ.1 1) 3) 0 (τ.1 1) g ((usS τ (τ.1 1) 3).2.2 0 0 g)) 1 (τ.1 1) g ((mvS (usS τ (τ.1 1) 3) 0 (τ.1 1) g ((usS τ (τ.1 1) 3).2.2 0 0 g)).2.2 0 1 g)) 2 (τ.1 1) g ((mvS (mvS (usS τ (τ.1 1) 3) 0 (τ.1 1) g ((usS τ (τ.1 1) 3).2.2 0 0 g)) 1 (τ.1 1) g ((mvS (usS τ (τ.1 1) 3) 0 (τ.1 1) g ((usS τ (τ.1 1) 3).2.2 0 0 g)).2.2 0 1 g)).2.2 0 2 g)) (sS ρ 0 0))) rfl ?_
                have hv : monV (usS τ (τ.1 1) 3) (τ.1 1) g = ((0 + ((usS τ (τ.1 1) 3).2.2 0 0 g)) + ((mvS (usS τ (τ.1 1) 3) 0 (τ.1 1) g ((usS τ (τ.1 1) 3).2.2 0 0 g)).2.2 0 1 g)) + ((mvS (mvS (usS τ (τ.1 1) 3) 0 (τ.1 1) g ((usS τ (τ.1 1) 3).2.2 0 0 g)) 1 (τ.1 1) g ((mvS (usS τ (τ.1 1) 3) 0 (τ.1 1) g ((usS τ (τ.1 1) 3).2.2 0 0 g)).2.2 0 1 g)).2.2 0 2 g) := by unfold monV; (repeat' split) <;> omega
                have hx : xMono τ g = (0, ((0 + ((usS τ (τ.1 1) 3).2.2 0 0 g)) + ((mvS (usS τ (τ.1 1) 3) 0 (τ.1 1) g ((usS τ (τ.1 1) 3).2.2 0 0 g)).2.2 0 1 g)) + ((mvS (mvS (usS τ (τ.1 1) 3) 0 (τ.1 1) g ((usS τ (τ.1 1) 3).2.2 0 0 g)) 1 (τ.1 1) g ((mvS (usS τ (τ.1 1) 3) 0 (τ.1 1) g ((usS τ (τ.1 1) 3).2.2 0 0 g)).2.2 0 1 g)).2.2 0 2 g), mvS (mvS (mvS (usS τ (τ.1 1) 3) 0 (τ.1 1) g ((usS τ (τ.1 1) 3).2.2 0 0 g)) 1 (τ.1 1) g ((mvS (usS τ (τ.1 1) 3) 0 (τ.1 1) g ((usS τ (τ.1 1) 3).2.2 0 0 g)).2.2 0 1 g)) 2 (τ.1 1) g ((mvS (mvS (usS τ (τ.1 1) 3) 0 (τ.1 1) g ((usS τ (τ.1 1) 3).2.2 0 0 g)) 1 (τ.1 1) g ((mvS (usS τ (τ.1 1) 3) 0 (τ.1 1) g ((usS τ (τ.1 1) 3).2.2 0 0 g)).2.2 0 1 g)).2.2 0 2 g)) := by unfold xMono; rw [if_neg (by omega), if_neg (by simp_all), hv]; unfold monS; (repeat' split) <;> first | rfl | (exfalso; omega)
                exact hR.rt rfl trivial (by rw [hx]) (by rw [hx])
              · exfalso; omega
            · skip
              refine hR.run0 9 (S' := (74, [some (vR 100), some (vI g), some (vI ((0 + ((usS τ (τ.1 1) 3).2.2 0 0 g)) + ((mvS (usS τ (τ.1 1) 3) 0 (τ.1 1) g ((usS τ (τ.1 1) 3).2.2 0 0 g)).2.2 0 1 g))), some (vI 2), some (vI 0)], [vI 0, vI g, vI ((usS τ (τ.1 1) 3).1 1), vI 2, vR 100], mW (mvS (mvS (usS τ (τ.1 1) 3) 0 (τ.1 1) g ((usS τ (τ.1 1) 3).2.2 0 0 g)) 1 (τ.1 1) g ((mvS (usS τ (τ.1 1) 3) 0 (τ.1 1) g ((usS τ (τ.1 1) 3).2.2 0 0 g)).2.2 0 1 g)) (sS ρ 0 0))) rfl ?_
              rw [usS_1 _ _ _ _ (by decide) (by decide)]
              refine hR.cv [vI 2, vI (τ.1 1), vI g, vI 0] kX6_230 rfl rfl ⟨_, _, _, rfl, rfl, rfl⟩ (by first | decide | exact Nat.le_refl _) (by decide) (Nat.le_of_ble_eq_true rfl) rfl (sr_moves _ _ _ (by omega) (by omega) (by omega)) ?_
              show G (77, [some (vR 100), some (vI g), some (vI ((0 + ((usS τ (τ.1 1) 3).2.2 0 0 g)) + ((mvS (usS τ (τ.1 1) 3) 0 (τ.1 1) g ((usS τ (τ.1 1) 3).2.2 0 0 g)).2.2 0 1 g))), some (vI 2), some (vI 0)], [], mW (mvS (mvS (mvS (usS τ (τ.1 1) 3) 0 (τ.1 1) g ((usS τ (τ.1 1) 3).2.2 0 0 g)) 1 (τ.1 1) g ((mvS (usS τ (τ.1 1) 3) 0 (τ.1 1) g ((usS τ (τ.1 1) 3).2.2 0 0 g)).2.2 0 1 g)) 2 (τ.1 1) g 0) (sS ρ 0 0))
              rw [show mvS (mvS (mvS (usS τ (τ.1 1) 3) 0 (τ.1 1) g ((usS τ (τ.1 1) 3).2.2 0 0 g)) 1 (τ.1 1) g ((mvS (usS τ (τ.1 1) 3) 0 (τ.1 1) g ((usS τ (τ.1 1) 3).2.2 0 0 g)).2.2 0 1 g)) 2 (τ.1 1) g 0 = mvS (mvS (usS τ (τ.1 1) 3) 0 (τ.1 1) g ((usS τ (τ.1 1) 3).2.2 0 0 g)) 1 (τ.1 1) g ((mvS (usS τ (τ.1 1) 3) 0 (τ.1 1) g ((usS τ (τ.1 1) 3).2.2 0 0 g)).2.2 0 1 g) from by rw [show (2 : Int) = (τ.1 1) from by omega]; exact mvS_self _ _ _ _]
              have ez4 : (mvS (mvS (usS τ (τ.1 1) 3) 0 (τ.1 1) g ((usS τ (τ.1 1) 3).2.2 0 0 g)) 1 (τ.1 1) g ((mvS (usS τ (τ.1 1) 3) 0 (τ.1 1) g ((usS τ (τ.1 1) 3).2.2 0 0 g)).2.2 0 1 g)).1 1 = (usS τ (τ.1 1) 3).1 1 := rfl
              refine hR.run0 8 (S' := (38, [some (vR 100), some (vI g), some (vI (((0 + ((usS τ (τ.1 1) 3).2.2 0 0 g)) + ((mvS (usS τ (τ.1 1) 3) 0 (τ.1 1) g ((usS τ (τ.1 1) 3).2.2 0 0 g)).2.2 0 1 g)) + 0)), some (vI 3), some (vI 0)], [vI 3, vI 3], mW (mvS (mvS (usS τ (τ.1 1) 3) 0 (τ.1 1) g ((usS τ (τ.1 1) 3).2.2 0 0 g)) 1 (τ.1 1) g ((mvS (usS τ (τ.1 1) 3) 0 (τ.1 1) g ((usS τ (τ.1 1) 3).2.2 0 0 g)).2.2 0 1 g)) (sS ρ 0 0))) rfl ?_
              refine hR.br (C := 3 ≤ 3) rfl (by first | omega | (dsimp only [plus1]; omega) | (simp [plus1, sHt, sH, sS, sAt, sA, sup]; done) | (simp [plus1, sHt, sH, sS, sAt, sA, sup]; omega)) (fun c11 => ?_) (fun c11 => ?_)
              · skip
                refine hR.run0 1 (S' := (89, [some (vR 100), some (vI g), some (vI (((0 + ((usS τ (τ.1 1) 3).2.2 0 0 g)) + ((mvS (usS τ (τ.1 1) 3) 0 (τ.1 1) g ((usS τ (τ.1 1) 3).2.2 0 0 g)).2.2 0 1 g)) + 0)), some (vI 3), some (vI 0)], [vI (((0 + ((usS τ (τ.1 1) 3).2.2 0 0 g)) + ((mvS (usS τ (τ.1 1) 3) 0 (τ.1 1) g ((usS τ (τ.1 1) 3).2.2 0 0 g)).2.2 0 1 g)) + 0)], mW (mvS (mvS (usS τ (τ.1 1) 3) 0 (τ.1 1) g ((usS τ (τ.1 1) 3).2.2 0 0 g)) 1 (τ.1 1) g ((mvS (usS τ (τ.1 1) 3) 0 (τ.1 1) g ((usS τ (τ.1 1) 3).2.2 0 0 g)).2.2 0 1 g)) (sS ρ 0 0))) rfl ?_
                have hv : monV (usS τ (τ.1 1) 3) (τ.1 1) g = ((0 + ((usS τ (τ.1 1) 3).2.2 0 0 g)) + ((mvS (usS τ (τ.1 1) 3) 0 (τ.1 1) g ((usS τ (τ.1 1) 3).2.2 0 0 g)).2.2 0 1 g)) + 0 := by unfold monV; (repeat' split) <;> omega
                have hx : xMono τ g = (0, ((0 + ((usS τ (τ.1 1) 3).2.2 0 0 g)) + ((mvS (usS τ (τ.1 1) 3) 0 (τ.1 1) g ((usS τ (τ.1 1) 3).2.2 0 0 g)).2.2 0 1 g)) + 0, mvS (mvS (usS τ (τ.1 1) 3) 0 (τ.1 1) g ((usS τ (τ.1 1) 3).2.2 0 0 g)) 1 (τ.1 1) g ((mvS (usS τ (τ.1 1) 3) 0 (τ.1 1) g ((usS τ (τ.1 1) 3).2.2 0 0 g)).2.2 0 1 g)) := by unfold xMono; rw [if_neg (by omega), if_neg (by simp_all), hv]; unfold monS; (repeat' split) <;> first | rfl | (exfalso; omega)
                exact hR.rt rfl trivial (by rw [hx]) (by rw [hx])
              · exfalso; omega
          · skip
            refine hR.run0 9 (S' := (74, [some (vR 100), some (vI g), some (vI (0 + ((usS τ (τ.1 1) 3).2.2 0 0 g))), some (vI 1), some (vI 0)], [vI 0, vI g, vI ((usS τ (τ.1 1) 3).1 1), vI 1, vR 100], mW (mvS (usS τ (τ.1 1) 3) 0 (τ.1 1) g ((usS τ (τ.1 1) 3).2.2 0 0 g)) (sS ρ 0 0))) rfl ?_
            rw [usS_1 _ _ _ _ (by decide) (by decide)]
            refine hR.cv [vI 1, vI (τ.1 1), vI g, vI 0] kX6_230 rfl rfl ⟨_, _, _, rfl, rfl, rfl⟩ (by first | decide | exact Nat.le_refl _) (by decide) (Nat.le_of_ble_eq_true rfl) rfl (sr_moves _ _ _ (by omega) (by omega) (by omega)) ?_
            show G (77, [some (vR 100), some (vI g), some (vI (0 + ((usS τ (τ.1 1) 3).2.2 0 0 g))), some (vI 1), some (vI 0)], [], mW (mvS (mvS (usS τ (τ.1 1) 3) 0 (τ.1 1) g ((usS τ (τ.1 1) 3).2.2 0 0 g)) 1 (τ.1 1) g 0) (sS ρ 0 0))
            rw [show mvS (mvS (usS τ (τ.1 1) 3) 0 (τ.1 1) g ((usS τ (τ.1 1) 3).2.2 0 0 g)) 1 (τ.1 1) g 0 = mvS (usS τ (τ.1 1) 3) 0 (τ.1 1) g ((usS τ (τ.1 1) 3).2.2 0 0 g) from by rw [show (1 : Int) = (τ.1 1) from by omega]; exact mvS_self _ _ _ _]
            have ez5 : (mvS (usS τ (τ.1 1) 3) 0 (τ.1 1) g ((usS τ (τ.1 1) 3).2.2 0 0 g)).1 1 = (usS τ (τ.1 1) 3).1 1 := rfl
            refine hR.run0 8 (S' := (38, [some (vR 100), some (vI g), some (vI ((0 + ((usS τ (τ.1 1) 3).2.2 0 0 g)) + 0)), some (vI 2), some (vI 0)], [vI 3, vI 2], mW (mvS (usS τ (τ.1 1) 3) 0 (τ.1 1) g ((usS τ (τ.1 1) 3).2.2 0 0 g)) (sS ρ 0 0))) rfl ?_
            refine hR.br (C := 3 ≤ 2) rfl (by first | omega | (dsimp only [plus1]; omega) | (simp [plus1, sHt, sH, sS, sAt, sA, sup]; done) | (simp [plus1, sHt, sH, sS, sAt, sA, sup]; omega)) (fun c12 => ?_) (fun c12 => ?_)
            · exfalso; omega
            refine hR.run0 3 (S' := (46, [some (vR 100), some (vI g), some (vI ((0 + ((usS τ (τ.1 1) 3).2.2 0 0 g)) + 0)), some (vI 2), some (vI 0)], [vI ((usS τ (τ.1 1) 3).1 1), vI 2], mW (mvS (usS τ (τ.1 1) 3) 0 (τ.1 1) g ((usS τ (τ.1 1) 3).2.2 0 0 g)) (sS ρ 0 0))) rfl ?_
            refine hR.br (C := 2 ≠ (usS τ (τ.1 1) 3).1 1) rfl (by first | omega | (dsimp only [plus1]; omega) | (simp [plus1, sHt, sH, sS, sAt, sA, sup]; done) | (simp [plus1, sHt, sH, sS, sAt, sA, sup]; omega)) (fun c13 => ?_) (fun c13 => ?_)
            · skip
              refine hR.run1 8 (S' := (63, [some (vR 100), some (vI g), some (vI ((0 + ((usS τ (τ.1 1) 3).2.2 0 0 g)) + 0)), some (vI 2), some (vI 0)], [vI (flat ((mvS (usS τ (τ.1 1) 3) 0 (τ.1 1) g ((usS τ (τ.1 1) 3).2.2 0 0 g)).2.2 0) (10 + g))], mW (mvS (usS τ (τ.1 1) 3) 0 (τ.1 1) g ((usS τ (τ.1 1) 3).2.2 0 0 g)) (sS ρ 0 0))) rfl (by first | omega | (dsimp only [plus1]; omega) | (simp [plus1, sHt, sH, sS, sAt, sA, sup]; done) | (simp [plus1, sHt, sH, sS, sAt, sA, sup]; omega)) ?_
              rw [show flat ((mvS (usS τ (τ.1 1) 3) 0 (τ.1 1) g ((usS τ (τ.1 1) 3).2.2 0 0 g)).2.2 0) (10 + g) = (mvS (usS τ (τ.1 1) 3) 0 (τ.1 1) g ((usS τ (τ.1 1) 3).2.2 0 0 g)).2.2 0 2 g from flat_at (p := 2) _ (by omega)]
              refine hR.run0 7 (S' := (74, [some (vR 100), some (vI g), some (vI ((0 + ((usS τ (τ.1 1) 3).2.2 0 0 g)) + 0)), some (vI 2), some (vI ((mvS (usS τ (τ.1 1) 3) 0 (τ.1 1) g ((usS τ (τ.1 1) 3).2.2 0 0 g)).2.2 0 2 g))], [vI ((mvS (usS τ (τ.1 1) 3) 0 (τ.1 1) g ((usS τ (τ.1 1) 3).2.2 0 0 g)).2.2 0 2 g), vI g, vI ((usS τ (τ.1 1) 3).1 1), vI 2, vR 100], mW (mvS (usS τ (τ.1 1) 3) 0 (τ.1 1) g ((usS τ (τ.1 1) 3).2.2 0 0 g)) (sS ρ 0 0))) rfl ?_
              rw [usS_1 _ _ _ _ (by decide) (by decide)]
              refine hR.cv [vI 2, vI (τ.1 1), vI g, vI ((mvS (usS τ (τ.1 1) 3) 0 (τ.1 1) g ((usS τ (τ.1 1) 3).2.2 0 0 g)).2.2 0 2 g)] kX6_230 rfl rfl ⟨_, _, _, rfl, rfl, rfl⟩ (by first | decide | exact Nat.le_refl _) (by decide) (Nat.le_of_ble_eq_true rfl) rfl (sr_moves _ _ _ (by omega) (by omega) (by omega)) ?_
              show G (77, [some (vR 100), some (vI g), some (vI ((0 + ((usS τ (τ.1 1) 3).2.2 0 0 g)) + 0)), some (vI 2), some (vI ((mvS (usS τ (τ.1 1) 3) 0 (τ.1 1) g ((usS τ (τ.1 1) 3).2.2 0 0 g)).2.2 0 2 g))], [], mW (mvS (mvS (usS τ (τ.1 1) 3) 0 (τ.1 1) g ((usS τ (τ.1 1) 3).2.2 0 0 g)) 2 (τ.1 1) g ((mvS (usS τ (τ.1 1) 3) 0 (τ.1 1) g ((usS τ (τ.1 1) 3).2.2 0 0 g)).2.2 0 2 g)) (sS ρ 0 0))
              have ez6 : (mvS (mvS (usS τ (τ.1 1) 3) 0 (τ.1 1) g ((usS τ (τ.1 1) 3).2.2 0 0 g)) 2 (τ.1 1) g ((mvS (usS τ (τ.1 1) 3) 0 (τ.1 1) g ((usS τ (τ.1 1) 3).2.2 0 0 g)).2.2 0 2 g)).1 1 = (usS τ (τ.1 1) 3).1 1 := rfl
              refine hR.run0 8 (S' := (38, [some (vR 100), some (vI g), some (vI (((0 + ((usS τ (τ.1 1) 3).2.2 0 0 g)) + 0) + ((mvS (usS τ (τ.1 1) 3) 0 (τ.1 1) g ((usS τ (τ.1 1) 3).2.2 0 0 g)).2.2 0 2 g))), some (vI 3), some (vI ((mvS (usS τ (τ.1 1) 3) 0 (τ.1 1) g ((usS τ (τ.1 1) 3).2.2 0 0 g)).2.2 0 2 g))], [vI 3, vI 3], mW (mvS (mvS (usS τ (τ.1 1) 3) 0 (τ.1 1) g ((usS τ (τ.1 1) 3).2.2 0 0 g)) 2 (τ.1 1) g ((mvS (usS τ (τ.1 1) 3) 0 (τ.1 1) g ((usS τ (τ.1 1) 3).2.2 0 0 g)).2.2 0 2 g)) (sS ρ 0 0))) rfl ?_
              refine hR.br (C := 3 ≤ 3) rfl (by first | omega | (dsimp only [plus1]; omega) | (simp [plus1, sHt, sH, sS, sAt, sA, sup]; done) | (simp [plus1, sHt, sH, sS, sAt, sA, sup]; omega)) (fun c14 => ?_) (fun c14 => ?_)
              · skip
                refine hR.run0 1 (S' := (89, [some (vR 100), some (vI g), some (vI (((0 + ((usS τ (τ.1 1) 3).2.2 0 0 g)) + 0) + ((mvS (usS τ (τ.1 1) 3) 0 (τ.1 1) g ((usS τ (τ.1 1) 3).2.2 0 0 g)).2.2 0 2 g))), some (vI 3), some (vI ((mvS (usS τ (τ.1 1) 3) 0 (τ.1 1) g ((usS τ (τ.1 1) 3).2.2 0 0 g)).2.2 0 2 g))], [vI (((0 + ((usS τ (τ.1 1) 3).2.2 0 0 g)) + 0) + ((mvS (usS τ (τ.1 1) 3) 0 (τ.1 1) g ((usS τ (τ.1 1) 3).2.2 0 0 g)).2.2 0 2 g))], mW (mvS (mvS (usS τ (τ.1 1) 3) 0 (τ.1 1) g ((usS τ (τ.1 1) 3).2.2 0 0 g)) 2 (τ.1 1) g ((mvS (usS τ (τ.1 1) 3) 0 (τ.1 1) g ((usS τ (τ.1 1) 3).2.2 0 0 g)).2.2 0 2 g)) (sS ρ 0 0))) rfl ?_
                have hv : monV (usS τ (τ.1 1) 3) (τ.1 1) g = ((0 + ((usS τ (τ.1 1) 3).2.2 0 0 g)) + 0) + ((mvS (usS τ (τ.1 1) 3) 0 (τ.1 1) g ((usS τ (τ.1 1) 3).2.2 0 0 g)).2.2 0 2 g) := by unfold monV; (repeat' split) <;> omega
                have hx : xMono τ g = (0, ((0 + ((usS τ (τ.1 1) 3).2.2 0 0 g)) + 0) + ((mvS (usS τ (τ.1 1) 3) 0 (τ.1 1) g ((usS τ (τ.1 1) 3).2.2 0 0 g)).2.2 0 2 g), mvS (mvS (usS τ (τ.1 1) 3) 0 (τ.1 1) g ((usS τ (τ.1 1) 3).2.2 0 0 g)) 2 (τ.1 1) g ((mvS (usS τ (τ.1 1) 3) 0 (τ.1 1) g ((usS τ (τ.1 1) 3).2.2 0 0 g)).2.2 0 2 g)) := by unfold xMono; rw [if_neg (by omega), if_neg (by simp_all), hv]; unfold monS; (repeat' split) <;> first | rfl | (exfalso; omega)
                exact hR.rt rfl trivial (by rw [hx]) (by rw [hx])
              · exfalso; omega
            · exfalso; omega
        · skip
          refine hR.run0 9 (S' := (74, [some (vR 100), some (vI g), some (vI 0), some (vI 0), some (vI 0)], [vI 0, vI g, vI ((usS τ (τ.1 1) 3).1 1), vI 0, vR 100], mW (usS τ (τ.1 1) 3) (sS ρ 0 0))) rfl ?_
          rw [usS_1 _ _ _ _ (by decide) (by decide)]
          refine hR.cv [vI 0, vI (τ.1 1), vI g, vI 0] kX6_230 rfl rfl ⟨_, _, _, rfl, rfl, rfl⟩ (by first | decide | exact Nat.le_refl _) (by decide) (Nat.le_of_ble_eq_true rfl) rfl (sr_moves _ _ _ (by omega) (by omega) (by omega)) ?_
          show G (77, [some (vR 100), some (vI g), some (vI 0), some (vI 0), some (vI 0)], [], mW (mvS (usS τ (τ.1 1) 3) 0 (τ.1 1) g 0) (sS ρ 0 0))
          rw [show mvS (usS τ (τ.1 1) 3) 0 (τ.1 1) g 0 = usS τ (τ.1 1) 3 from by rw [show (0 : Int) = (τ.1 1) from by omega]; exact mvS_self _ _ _ _]
          have ez7 : (usS τ (τ.1 1) 3).1 1 = (usS τ (τ.1 1) 3).1 1 := rfl
          refine hR.run0 8 (S' := (38, [some (vR 100), some (vI g), some (vI 0), some (vI 1), some (vI 0)], [vI 3, vI 1], mW (usS τ (τ.1 1) 3) (sS ρ 0 0))) rfl ?_
          refine hR.br (C := 3 ≤ 1) rfl (by first | omega | (dsimp only [plus1]; omega) | (simp [plus1, sHt, sH, sS, sAt, sA, sup]; done) | (simp [plus1, sHt, sH, sS, sAt, sA, sup]; omega)) (fun c15 => ?_) (fun c15 => ?_)
          · exfalso; omega
          refine hR.run0 3 (S' := (46, [some (vR 100), some (vI g), some (vI 0), some (vI 1), some (vI 0)], [vI ((usS τ (τ.1 1) 3).1 1), vI 1], mW (usS τ (τ.1 1) 3) (sS ρ 0 0))) rfl ?_
          refine hR.br (C := 1 ≠ (usS τ (τ.1 1) 3).1 1) rfl (by first | omega | (dsimp only [plus1]; omega) | (simp [plus1, sHt, sH, sS, sAt, sA, sup]; done) | (simp [plus1, sHt, sH, sS, sAt, sA, sup]; omega)) (fun c16 => ?_) (fun c16 => ?_)
          · skip
            refine hR.run1 8 (S' := (63, [some (vR 100), some (vI g), some (vI 0), some (vI 1), some (vI 0)], [vI (flat ((usS τ (τ.1 1) 3).2.2 0) (5 + g))], mW (usS τ (τ.1 1) 3) (sS ρ 0 0))) rfl (by first | omega | (dsimp only [plus1]; omega) | (simp [plus1, sHt, sH, sS, sAt, sA, sup]; done) | (simp [plus1, sHt, sH, sS, sAt, sA, sup]; omega)) ?_
            rw [show flat ((usS τ (τ.1 1) 3).2.2 0) (5 + g) = (usS τ (τ.1 1) 3).2.2 0 1 g from flat_at (p := 1) _ (by omega)]
            refine hR.run0 7 (S' := (74, [some (vR 100), some (vI g), some (vI 0), some (vI 1), some (vI ((usS τ (τ.1 1) 3).2.2 0 1 g))], [vI ((usS τ (τ.1 1) 3).2.2 0 1 g), vI g, vI ((usS τ (τ.1 1) 3).1 1), vI 1, vR 100], mW (usS τ (τ.1 1) 3) (sS ρ 0 0))) rfl ?_
            rw [usS_1 _ _ _ _ (by decide) (by decide)]
            refine hR.cv [vI 1, vI (τ.1 1), vI g, vI ((usS τ (τ.1 1) 3).2.2 0 1 g)] kX6_230 rfl rfl ⟨_, _, _, rfl, rfl, rfl⟩ (by first | decide | exact Nat.le_refl _) (by decide) (Nat.le_of_ble_eq_true rfl) rfl (sr_moves _ _ _ (by omega) (by omega) (by omega)) ?_
            show G (77, [some (vR 100), some (vI g), some (vI 0), some (vI 1), some (vI ((usS τ (τ.1 1) 3).2.2 0 1 g))], [], mW (mvS (usS τ (τ.1 1) 3) 1 (τ.1 1) g ((usS τ (τ.1 1) 3).2.2 0 1 g)) (sS ρ 0 0))
            have ez8 : (mvS (usS τ (τ.1 1) 3) 1 (τ.1 1) g ((usS τ (τ.1 1) 3).2.2 0 1 g)).1 1 = (usS τ (τ.1 1) 3).1 1 := rfl
            refine hR.run0 8 (S' := (38, [some (vR 100), some (vI g), some (vI (0 + ((usS τ (τ.1 1) 3).2.2 0 1 g))), some (vI 2), some (vI ((usS τ (τ.1 1) 3).2.2 0 1 g))], [vI 3, vI 2], mW (mvS (usS τ (τ.1 1) 3) 1 (τ.1 1) g ((usS τ (τ.1 1) 3).2.2 0 1 g)) (sS ρ 0 0))) rfl ?_
            refine hR.br (C := 3 ≤ 2) rfl (by first | omega | (dsimp only [plus1]; omega) | (simp [plus1, sHt, sH, sS, sAt, sA, sup]; done) | (simp [plus1, sHt, sH, sS, sAt, sA, sup]; omega)) (fun c17 => ?_) (fun c17 => ?_)
            · exfalso; omega
            refine hR.run0 3 (S' := (46, [some (vR 100), some (vI g), some (vI (0 + ((usS τ (τ.1 1) 3).2.2 0 1 g))), some (vI 2), some (vI ((usS τ (τ.1 1) 3).2.2 0 1 g))], [vI ((usS τ (τ.1 1) 3).1 1), vI 2], mW (mvS (usS τ (τ.1 1) 3) 1 (τ.1 1) g ((usS τ (τ.1 1) 3).2.2 0 1 g)) (sS ρ 0 0))) rfl ?_
            refine hR.br (C := 2 ≠ (usS τ (τ.1 1) 3).1 1) rfl (by first | omega | (dsimp only [plus1]; omega) | (simp [plus1, sHt, sH, sS, sAt, sA, sup]; done) | (simp [plus1, sHt, sH, sS, sAt, sA, sup]; omega)) (fun c18 => ?_) (fun c18 => ?_)
            · skip
              refine hR.run1 8 (S' := (63, [some (vR 100), some (vI g), some (vI (0 + ((usS τ (τ.1 1) 3).2.2 0 1 g))), some (vI 2), some (vI ((usS τ (τ.1 1) 3).2.2 0 1 g))], [vI (flat ((mvS (usS τ (τ.1 1) 3) 1 (τ.1 1) g ((usS τ (τ.1 1) 3).2.2 0 1 g)).2.2 0) (10 + g))], mW (mvS (usS τ (τ.1 1) 3) 1 (τ.1 1) g ((usS τ (τ.1 1) 3).2.2 0 1 g)) (sS ρ 0 0))) rfl (by first | omega | (dsimp only [plus1]; omega) | (simp [plus1, sHt, sH, sS, sAt, sA, sup]; done) | (simp [plus1, sHt, sH, sS, sAt, sA, sup]; omega)) ?_
              rw [show flat ((mvS (usS τ (τ.1 1) 3) 1 (τ.1 1) g ((usS τ (τ.1 1) 3).2.2 0 1 g)).2.2 0) (10 + g) = (mvS (usS τ (τ.1 1) 3) 1 (τ.1 1) g ((usS τ (τ.1 1) 3).2.2 0 1 g)).2.2 0 2 g from flat_at (p := 2) _ (by omega)]
              refine hR.run0 7 (S' := (74, [some (vR 100), some (vI g), some (vI (0 + ((usS τ (τ.1 1) 3).2.2 0 1 g))), some (vI 2), some (vI ((mvS (usS τ (τ.1 1) 3) 1 (τ.1 1) g ((usS τ (τ.1 1) 3).2.2 0 1 g)).2.2 0 2 g))], [vI ((mvS (usS τ (τ.1 1) 3) 1 (τ.1 1) g ((usS τ (τ.1 1) 3).2.2 0 1 g)).2.2 0 2 g), vI g, vI ((usS τ (τ.1 1) 3).1 1), vI 2, vR 100], mW (mvS (usS τ (τ.1 1) 3) 1 (τ.1 1) g ((usS τ (τ.1 1) 3).2.2 0 1 g)) (sS ρ 0 0))) rfl ?_
              rw [usS_1 _ _ _ _ (by decide) (by decide)]
              refine hR.cv [vI 2, vI (τ.1 1), vI g, vI ((mvS (usS τ (τ.1 1) 3) 1 (τ.1 1) g ((usS τ (τ.1 1) 3).2.2 0 1 g)).2.2 0 2 g)] kX6_230 rfl rfl ⟨_, _, _, rfl, rfl, rfl⟩ (by first | decide | exact Nat.le_refl _) (by decide) (Nat.le_of_ble_eq_true rfl) rfl (sr_moves _ _ _ (by omega) (by omega) (by omega)) ?_
              show G (77, [some (vR 100), some (vI g), some (vI (0 + ((usS τ (τ.1 1) 3).2.2 0 1 g))), some (vI 2), some (vI ((mvS (usS τ (τ.1 1) 3) 1 (τ.1 1) g ((usS τ (τ.1 1) 3).2.2 0 1 g)).2.2 0 2 g))], [], mW (mvS (mvS (usS τ (τ.1 1) 3) 1 (τ.1 1) g ((usS τ (τ.1 1) 3).2.2 0 1 g)) 2 (τ.1 1) g ((mvS (usS τ (τ.1 1) 3) 1 (τ.1 1) g ((usS τ (τ.1 1) 3).2.2 0 1 g)).2.2 0 2 g)) (sS ρ 0 0))
              have ez9 : (mvS (mvS (usS τ (τ.1 1) 3) 1 (τ.1 1) g ((usS τ (τ.1 1) 3).2.2 0 1 g)) 2 (τ.1 1) g ((mvS (usS τ (τ.1 1) 3) 1 (τ.1 1) g ((usS τ (τ.1 1) 3).2.2 0 1 g)).2.2 0 2 g)).1 1 = (usS τ (τ.1 1) 3).1 1 := rfl
              refine hR.run0 8 (S' := (38, [some (vR 100), some (vI g), some (vI ((0 + ((usS τ (τ.1 1) 3).2.2 0 1 g)) + ((mvS (usS τ (τ.1 1) 3) 1 (τ.1 1) g ((usS τ (τ.1 1) 3).2.2 0 1 g)).2.2 0 2 g))), some (vI 3), some (vI ((mvS (usS τ (τ.1 1) 3) 1 (τ.1 1) g ((usS τ (τ.1 1) 3).2.2 0 1 g)).2.2 0 2 g))], [vI 3, vI 3], mW (mvS (mvS (usS τ (τ.1 1) 3) 1 (τ.1 1) g ((usS τ (τ.1 1) 3).2.2 0 1 g)) 2 (τ.1 1) g ((mvS (usS τ (τ.1 1) 3) 1 (τ.1 1) g ((usS τ (τ.1 1) 3).2.2 0 1 g)).2.2 0 2 g)) (sS ρ 0 0))) rfl ?_
              refine hR.br (C := 3 ≤ 3) rfl (by first | omega | (dsimp only [plus1]; omega) | (simp [plus1, sHt, sH, sS, sAt, sA, sup]; done) | (simp [plus1, sHt, sH, sS, sAt, sA, sup]; omega)) (fun c19 => ?_) (fun c19 => ?_)
              · skip
                refine hR.run0 1 (S' := (89, [some (vR 100), some (vI g), some (vI ((0 + ((usS τ (τ.1 1) 3).2.2 0 1 g)) + ((mvS (usS τ (τ.1 1) 3) 1 (τ.1 1) g ((usS τ (τ.1 1) 3).2.2 0 1 g)).2.2 0 2 g))), some (vI 3), some (vI ((mvS (usS τ (τ.1 1) 3) 1 (τ.1 1) g ((usS τ (τ.1 1) 3).2.2 0 1 g)).2.2 0 2 g))], [vI ((0 + ((usS τ (τ.1 1) 3).2.2 0 1 g)) + ((mvS (usS τ (τ.1 1) 3) 1 (τ.1 1) g ((usS τ (τ.1 1) 3).2.2 0 1 g)).2.2 0 2 g))], mW (mvS (mvS (usS τ (τ.1 1) 3) 1 (τ.1 1) g ((usS τ (τ.1 1) 3).2.2 0 1 g)) 2 (τ.1 1) g ((mvS (usS τ (τ.1 1) 3) 1 (τ.1 1) g ((usS τ (τ.1 1) 3).2.2 0 1 g)).2.2 0 2 g)) (sS ρ 0 0))) rfl ?_
                have hv : monV (usS τ (τ.1 1) 3) (τ.1 1) g = (0 + ((usS τ (τ.1 1) 3).2.2 0 1 g)) + ((mvS (usS τ (τ.1 1) 3) 1 (τ.1 1) g ((usS τ (τ.1 1) 3).2.2 0 1 g)).2.2 0 2 g) := by unfold monV; (repeat' split) <;> omega
                have hx : xMono τ g = (0, (0 + ((usS τ (τ.1 1) 3).2.2 0 1 g)) + ((mvS (usS τ (τ.1 1) 3) 1 (τ.1 1) g ((usS τ (τ.1 1) 3).2.2 0 1 g)).2.2 0 2 g), mvS (mvS (usS τ (τ.1 1) 3) 1 (τ.1 1) g ((usS τ (τ.1 1) 3).2.2 0 1 g)) 2 (τ.1 1) g ((mvS (usS τ (τ.1 1) 3) 1 (τ.1 1) g ((usS τ (τ.1 1) 3).2.2 0 1 g)).2.2 0 2 g)) := by unfold xMono; rw [if_neg (by omega), if_neg (by simp_all), hv]; unfold monS; (repeat' split) <;> first | rfl | (exfalso; omega)
                exact hR.rt rfl trivial (by rw [hx]) (by rw [hx])
              · exfalso; omega
            · exfalso; omega
          · exfalso; omega
      · replace c3 : (mayU τ 3) = false := bI0 (Classical.not_not.mp c3)
        try simp only [Bool.and_eq_true, Bool.or_eq_true, Bool.and_eq_false_iff, Bool.or_eq_false_iff, decide_eq_true_eq, decide_eq_false_iff_not] at c3
        refine hR.run0 2 (S' := (23, [some (vR 100), some (vI g), none, none, none], [vI 2, vR 100], mW τ (sS ρ 0 0))) rfl ?_
        refine hR.cv [vI 2] kX6_149 rfl rfl ⟨_, _, _, rfl, rfl, rfl⟩ (by first | decide | exact Nat.le_refl _) (by decide) (Nat.le_of_ble_eq_true rfl) rfl (sr_fails _ _ _) ?_
        show G (26, [some (vR 100), some (vI g), none, none, none], [vI 0], mW τ (sS (sS ρ 0 0) 0 2))
        rw [sS_sS]
        show G (26, [some (vR 100), some (vI g), none, none, none], [vI 0], mW τ (sS ρ 0 2))
        have hx : xMono τ g = (2, 0, τ) := by unfold xMono; (repeat' split) <;> first | rfl | (exfalso; omega) | (exfalso; simp_all; done) | (simp_all; done) | (exfalso; simp_all; omega)
        exact hR.rt rfl trivial (by rw [hx]) (by rw [hx])
    · exfalso; omega
  · replace q1 := Bool.eq_false_iff.mpr q1
    have q1b := q1
    try simp only [Bool.and_eq_true, Bool.or_eq_true, Bool.and_eq_false_iff, Bool.or_eq_false_iff, decide_eq_true_eq, decide_eq_false_iff_not] at q1
    refine hR.cv [vI (bI (decide (0 ≤ g) && decide (g < 5)))] kX6_127 rfl rfl ⟨_, _, _, rfl, rfl, rfl⟩ (by first | decide | exact Nat.le_refl _) (by decide) (Nat.le_of_ble_eq_true rfl) rfl (sr_asksb_f _ _ q1b) ?_
    show G (8, [some (vR 100), some (vI g), none, none, none], [vI 0], mW τ (sS ρ 0 1))
    refine hR.br (C := 0 ≠ 0) rfl (by first | omega | (dsimp only [plus1]; omega) | (simp [plus1, sHt, sH, sS, sAt, sA, sup]; done) | (simp [plus1, sHt, sH, sS, sAt, sA, sup]; omega)) (fun c20 => ?_) (fun c20 => ?_)
    · exfalso; omega
    refine hR.run0 1 (S' := (12, [some (vR 100), some (vI g), none, none, none], [vI 0], mW τ (sS ρ 0 1))) rfl ?_
    have hx : xMono τ g = (1, 0, τ) := by unfold xMono; (repeat' split) <;> first | rfl | (exfalso; omega) | (exfalso; simp_all; done) | (simp_all; done) | (exfalso; simp_all; omega)
    exact hR.rt rfl trivial (by rw [hx]) (by rw [hx])
theorem pX6_swap (τ ρ : St) {a b : Int} (ha : -2147483648 ≤ a ∧ a ≤ 2147483647) (hb : -2147483648 ≤ b ∧ b ≤ 2147483647) (hI : Iv τ)  : Sp mX6_swap roC 2 [vR 100, vI a, vI b] (mW τ ρ) (.inl (some (vI (xSwap τ a b).2.1))) (mW (xSwap τ a b).2.2 (sS ρ 0 (xSwap τ a b).1)) := by
  have hb := hI.hb
  have hr := hI.hr
  have hg := hI.hg
  have hn := hI.hn
  have h7 := hI.h7
  have hh := hI.hh
  have hsm := hI.hsm
  have hcd := hI.hcd
  have hfr := hI.hfr
  have hkn := hI.hkn
  have hbo := hI.hbo
  have hus := hI.hus
  have hro := hI.hro
  have har := hI.har
  have hth := hI.hth
  have hph := hI.hph
  have htu := hI.htu
  have hrb := hI.hrb
  have hpl := hI.hpl
  have hdu := hI.hdu
  have hdp := hI.hdp
  have hof := hI.hof
  have how := hI.how
  have hga := hI.hga
  have hwa := hI.hwa
  have hck := hI.hck
  have hkz := hI.hkz
  have hcb := hI.hcb
  have hfb := hI.hfb
  have hnr := hI.hnr
  have hpq := hI.hpq
  have hrc := hI.hrc
  have hbc := hI.hbc
  have hcc := hI.hcc
  have hac := hI.hac
  refine Sp.of (lk := lkX6) (tb := bX6_swap) (by decide) lkX6_ok tX6_swap (mW_keys _ _ _ _) (Nat.le_of_ble_eq_true rfl) (fun G hR => ?_)
  refine hR.run0 2 (S' := (2, [some (vR 100), some (vI a), some (vI b), none], [vI a, vR 100], mW τ ρ)) rfl ?_
  refine hR.cs [vI a] kX6_227 rfl rfl (by first | decide | exact Nat.le_refl _) (by decide) (Nat.le_of_ble_eq_true rfl) rfl (sr_isGood _ _ (by omega)) ?_
  show G (5, [some (vR 100), some (vI a), some (vI b), none], [vI (bI (decide (0 ≤ a) && decide (a < 5))), vR 100], mW τ ρ)
  refine hR.br (C := (bI (decide (0 ≤ a) && decide (a < 5))) = 0) rfl (bI_r _) (fun c1 => ?_) (fun c1 => ?_)
  · replace c1 : (decide (0 ≤ a) && decide (a < 5)) = false := bI0 c1
    try simp only [Bool.and_eq_true, Bool.or_eq_true, Bool.and_eq_false_iff, Bool.or_eq_false_iff, decide_eq_true_eq, decide_eq_false_iff_not] at c1
    refine hR.run0 1 (S' := (25, [some (vR 100), some (vI a), some (vI b), none], [vI 0, vR 100], mW τ ρ)) rfl ?_
    refine hR.cv [vI 0] kX6_127 rfl rfl ⟨_, _, _, rfl, rfl, rfl⟩ (by first | decide | exact Nat.le_refl _) (by decide) (Nat.le_of_ble_eq_true rfl) rfl (sr_asks_f _ _) ?_
    show G (28, [some (vR 100), some (vI a), some (vI b), none], [vI 0], mW τ (sS ρ 0 1))
    refine hR.br (C := 0 ≠ 0) rfl (by first | omega | (dsimp only [plus1]; omega) | (simp [plus1, sHt, sH, sS, sAt, sA, sup]; done) | (simp [plus1, sHt, sH, sS, sAt, sA, sup]; omega)) (fun c2 => ?_) (fun c2 => ?_)
    · exfalso; omega
    refine hR.run0 1 (S' := (32, [some (vR 100), some (vI a), some (vI b), none], [vI 0], mW τ (sS ρ 0 1))) rfl ?_
    have hx : xSwap τ a b = (1, 0, τ) := by unfold xSwap; (repeat' split) <;> first | rfl | (exfalso; omega) | (exfalso; simp_all; done) | (simp_all; done) | (exfalso; simp_all; omega)
    exact hR.rt rfl trivial (by rw [hx]) (by rw [hx])
  · replace c1 : (decide (0 ≤ a) && decide (a < 5)) = true := bI1 c1
    try simp only [Bool.and_eq_true, Bool.or_eq_true, Bool.and_eq_false_iff, Bool.or_eq_false_iff, decide_eq_true_eq, decide_eq_false_iff_not] at c1
    refine hR.run0 1 (S' := (9, [some (vR 100), some (vI a), some (vI b), none], [vI b, vR 100], mW τ ρ)) rfl ?_
    refine hR.cs [vI b] kX6_227 rfl rfl (by first | decide | exact Nat.le_refl _) (by decide) (Nat.le_of_ble_eq_true rfl) rfl (sr_isGood _ _ (by omega)) ?_
    show G (12, [some (vR 100), some (vI a), some (vI b), none], [vI (bI (decide (0 ≤ b) && decide (b < 5))), vR 100], mW τ ρ)
    refine hR.br (C := (bI (decide (0 ≤ b) && decide (b < 5))) = 0) rfl (bI_r _) (fun c3 => ?_) (fun c3 => ?_)
    · replace c3 : (decide (0 ≤ b) && decide (b < 5)) = false := bI0 c3
      try simp only [Bool.and_eq_true, Bool.or_eq_true, Bool.and_eq_false_iff, Bool.or_eq_false_iff, decide_eq_true_eq, decide_eq_false_iff_not] at c3
      refine hR.run0 1 (S' := (25, [some (vR 100), some (vI a), some (vI b), none], [vI 0, vR 100], mW τ ρ)) rfl ?_
      refine hR.cv [vI 0] kX6_127 rfl rfl ⟨_, _, _, rfl, rfl, rfl⟩ (by first | decide | exact Nat.le_refl _) (by decide) (Nat.le_of_ble_eq_true rfl) rfl (sr_asks_f _ _) ?_
      show G (28, [some (vR 100), some (vI a), some (vI b), none], [vI 0], mW τ (sS ρ 0 1))
      refine hR.br (C := 0 ≠ 0) rfl (by first | omega | (dsimp only [plus1]; omega) | (simp [plus1, sHt, sH, sS, sAt, sA, sup]; done) | (simp [plus1, sHt, sH, sS, sAt, sA, sup]; omega)) (fun c4 => ?_) (fun c4 => ?_)
      · exfalso; omega
      refine hR.run0 1 (S' := (32, [some (vR 100), some (vI a), some (vI b), none], [vI 0], mW τ (sS ρ 0 1))) rfl ?_
      have hx : xSwap τ a b = (1, 0, τ) := by unfold xSwap; (repeat' split) <;> first | rfl | (exfalso; omega) | (exfalso; simp_all; done) | (simp_all; done) | (exfalso; simp_all; omega)
      exact hR.rt rfl trivial (by rw [hx]) (by rw [hx])
    · replace c3 : (decide (0 ≤ b) && decide (b < 5)) = true := bI1 c3
      try simp only [Bool.and_eq_true, Bool.or_eq_true, Bool.and_eq_false_iff, Bool.or_eq_false_iff, decide_eq_true_eq, decide_eq_false_iff_not] at c3
      refine hR.run0 2 (S' := (17, [some (vR 100), some (vI a), some (vI b), none], [vI b, vI a, vR 100], mW τ ρ)) rfl ?_
      refine hR.br (C := a = b) rfl (by first | omega | (dsimp only [plus1]; omega) | (simp [plus1, sHt, sH, sS, sAt, sA, sup]; done) | (simp [plus1, sHt, sH, sS, sAt, sA, sup]; omega)) (fun c5 => ?_) (fun c5 => ?_)
      · skip
        refine hR.run0 1 (S' := (25, [some (vR 100), some (vI a), some (vI b), none], [vI 0, vR 100], mW τ ρ)) rfl ?_
        refine hR.cv [vI 0] kX6_127 rfl rfl ⟨_, _, _, rfl, rfl, rfl⟩ (by first | decide | exact Nat.le_refl _) (by decide) (Nat.le_of_ble_eq_true rfl) rfl (sr_asks_f _ _) ?_
        show G (28, [some (vR 100), some (vI a), some (vI b), none], [vI 0], mW τ (sS ρ 0 1))
        refine hR.br (C := 0 ≠ 0) rfl (by first | omega | (dsimp only [plus1]; omega) | (simp [plus1, sHt, sH, sS, sAt, sA, sup]; done) | (simp [plus1, sHt, sH, sS, sAt, sA, sup]; omega)) (fun c6 => ?_) (fun c6 => ?_)
        · exfalso; omega
        refine hR.run0 1 (S' := (32, [some (vR 100), some (vI a), some (vI b), none], [vI 0], mW τ (sS ρ 0 1))) rfl ?_
        have hx : xSwap τ a b = (1, 0, τ) := by unfold xSwap; (repeat' split) <;> first | rfl | (exfalso; omega) | (exfalso; simp_all; done) | (simp_all; done) | (exfalso; simp_all; omega)
        exact hR.rt rfl trivial (by rw [hx]) (by rw [hx])
      · skip
        refine hR.run0 2 (S' := (25, [some (vR 100), some (vI a), some (vI b), none], [vI 1, vR 100], mW τ ρ)) rfl ?_
        refine hR.cv [vI 1] kX6_127 rfl rfl ⟨_, _, _, rfl, rfl, rfl⟩ (by first | decide | exact Nat.le_refl _) (by decide) (Nat.le_of_ble_eq_true rfl) rfl (sr_asks_t _ _) ?_
        show G (28, [some (vR 100), some (vI a), some (vI b), none], [vI 1], mW τ (sS ρ 0 0))
        refine hR.br (C := 1 ≠ 0) rfl (by first | omega | (dsimp only [plus1]; omega) | (simp [plus1, sHt, sH, sS, sAt, sA, sup]; done) | (simp [plus1, sHt, sH, sS, sAt, sA, sup]; omega)) (fun c7 => ?_) (fun c7 => ?_)
        · skip
          refine hR.run0 4 (S' := (39, [some (vR 100), some (vI a), some (vI b), none], [vI a, vI (τ.1 1), vR 100], mW τ (sS ρ 0 0))) rfl ?_
          have f1 := rtN_r (τ.2.1 2) (τ.1 1) a 24
          refine hR.cv [vI (τ.1 1), vI a] kX6_234 rfl rfl ⟨_, _, _, rfl, rfl, rfl⟩ (by first | decide | exact Nat.le_refl _) (by decide) (Nat.le_of_ble_eq_true rfl) rfl (sr_rateOf _ _ (by omega) (by omega) hb) ?_
          show G (42, [some (vR 100), some (vI a), some (vI b), none], [vI (rtN (τ.2.1 2) (τ.1 1) a 24)], mW τ (sS ρ 0 0))
          refine hR.run0 4 (S' := (48, [some (vR 100), some (vI a), some (vI b), some (vI (rtN (τ.2.1 2) (τ.1 1) a 24))], [vI 2, vI (τ.1 0)], mW τ (sS ρ 0 0))) rfl ?_
          refine hR.br (C := τ.1 0 ≠ 2) rfl (by first | omega | (dsimp only [plus1]; omega) | (simp [plus1, sHt, sH, sS, sAt, sA, sup]; done) | (simp [plus1, sHt, sH, sS, sAt, sA, sup]; omega)) (fun c8 => ?_) (fun c8 => ?_)
          · skip
            refine hR.run0 2 (S' := (82, [some (vR 100), some (vI a), some (vI b), some (vI (rtN (τ.2.1 2) (τ.1 1) a 24))], [vI 2, vR 100], mW τ (sS ρ 0 0))) rfl ?_
            refine hR.cv [vI 2] kX6_149 rfl rfl ⟨_, _, _, rfl, rfl, rfl⟩ (by first | decide | exact Nat.le_refl _) (by decide) (Nat.le_of_ble_eq_true rfl) rfl (sr_fails _ _ _) ?_
            show G (85, [some (vR 100), some (vI a), some (vI b), some (vI (rtN (τ.2.1 2) (τ.1 1) a 24))], [vI 0], mW τ (sS (sS ρ 0 0) 0 2))
            rw [sS_sS]
            show G (85, [some (vR 100), some (vI a), some (vI b), some (vI (rtN (τ.2.1 2) (τ.1 1) a 24))], [vI 0], mW τ (sS ρ 0 2))
            have hx : xSwap τ a b = (2, 0, τ) := by unfold xSwap; (repeat' split) <;> first | rfl | (exfalso; omega) | (exfalso; simp_all; done) | (simp_all; done) | (exfalso; simp_all; omega)
            exact hR.rt rfl trivial (by rw [hx]) (by rw [hx])
          · skip
            refine hR.run1 9 (S' := (64, [some (vR 100), some (vI a), some (vI b), some (vI (rtN (τ.2.1 2) (τ.1 1) a 24))], [vI (flat (τ.2.2 0) ((5 * (τ.1 1)) + a))], mW τ (sS ρ 0 0))) rfl (by first | omega | (dsimp only [plus1]; omega) | (simp [plus1, sHt, sH, sS, sAt, sA, sup]; done) | (simp [plus1, sHt, sH, sS, sAt, sA, sup]; omega)) ?_
            rw [show flat (τ.2.2 0) ((5 * (τ.1 1)) + a) = τ.2.2 0 (τ.1 1) a from flat_at (p := (τ.1 1)) _ (by omega)]
            have f103 := hh (τ.1 1) a
            refine hR.run0 1 (S' := (65, [some (vR 100), some (vI a), some (vI b), some (vI (rtN (τ.2.1 2) (τ.1 1) a 24))], [vI (rtN (τ.2.1 2) (τ.1 1) a 24), vI (τ.2.2 0 (τ.1 1) a)], mW τ (sS ρ 0 0))) rfl ?_
            refine hR.br (C := τ.2.2 0 (τ.1 1) a < rtN (τ.2.1 2) (τ.1 1) a 24) rfl (by first | omega | (dsimp only [plus1]; omega) | (simp [plus1, sHt, sH, sS, sAt, sA, sup]; done) | (simp [plus1, sHt, sH, sS, sAt, sA, sup]; omega)) (fun c9 => ?_) (fun c9 => ?_)
            · skip
              refine hR.run0 2 (S' := (82, [some (vR 100), some (vI a), some (vI b), some (vI (rtN (τ.2.1 2) (τ.1 1) a 24))], [vI 2, vR 100], mW τ (sS ρ 0 0))) rfl ?_
              refine hR.cv [vI 2] kX6_149 rfl rfl ⟨_, _, _, rfl, rfl, rfl⟩ (by first | decide | exact Nat.le_refl _) (by decide) (Nat.le_of_ble_eq_true rfl) rfl (sr_fails _ _ _) ?_
              show G (85, [some (vR 100), some (vI a), some (vI b), some (vI (rtN (τ.2.1 2) (τ.1 1) a 24))], [vI 0], mW τ (sS (sS ρ 0 0) 0 2))
              rw [sS_sS]
              show G (85, [some (vR 100), some (vI a), some (vI b), some (vI (rtN (τ.2.1 2) (τ.1 1) a 24))], [vI 0], mW τ (sS ρ 0 2))
              have hx : xSwap τ a b = (2, 0, τ) := by unfold xSwap; (repeat' split) <;> first | rfl | (exfalso; omega) | (exfalso; simp_all; done) | (simp_all; done) | (exfalso; simp_all; omega)
              exact hR.rt rfl trivial (by rw [hx]) (by rw [hx])
            · skip
              refine hR.run1 6 (S' := (77, [some (vR 100), some (vI a), some (vI b), some (vI (rtN (τ.2.1 2) (τ.1 1) a 24))], [vI (flat (τ.2.2 0) (15 + b))], mW τ (sS ρ 0 0))) rfl (by first | omega | (dsimp only [plus1]; omega) | (simp [plus1, sHt, sH, sS, sAt, sA, sup]; done) | (simp [plus1, sHt, sH, sS, sAt, sA, sup]; omega)) ?_
              rw [show flat (τ.2.2 0) (15 + b) = τ.2.2 0 3 b from flat_at (p := 3) _ (by omega)]
              have f117 := hh 3 b
              refine hR.br (C := τ.2.2 0 3 b ≠ 0) rfl (by first | omega | (dsimp only [plus1]; omega) | (simp [plus1, sHt, sH, sS, sAt, sA, sup]; done) | (simp [plus1, sHt, sH, sS, sAt, sA, sup]; omega)) (fun c10 => ?_) (fun c10 => ?_)
              · skip
                refine hR.run0 6 (S' := (94, [some (vR 100), some (vI a), some (vI b), some (vI (rtN (τ.2.1 2) (τ.1 1) a 24))], [vI (rtN (τ.2.1 2) (τ.1 1) a 24), vI a, vI 3, vI (τ.1 1), vR 100], mW τ (sS ρ 0 0))) rfl ?_
                refine hR.cv [vI (τ.1 1), vI 3, vI a, vI (rtN (τ.2.1 2) (τ.1 1) a 24)] kX6_230 rfl rfl ⟨_, _, _, rfl, rfl, rfl⟩ (by first | decide | exact Nat.le_refl _) (by decide) (Nat.le_of_ble_eq_true rfl) rfl (sr_moves _ _ _ (by omega) (by omega) (by omega)) ?_
                show G (97, [some (vR 100), some (vI a), some (vI b), some (vI (rtN (τ.2.1 2) (τ.1 1) a 24))], [], mW (mvS τ (τ.1 1) 3 a (rtN (τ.2.1 2) (τ.1 1) a 24)) (sS ρ 0 0))
                have ez2 : (mvS τ (τ.1 1) 3 a (rtN (τ.2.1 2) (τ.1 1) a 24)).1 1 = τ.1 1 := rfl
                refine hR.run0 6 (S' := (105, [some (vR 100), some (vI a), some (vI b), some (vI (rtN (τ.2.1 2) (τ.1 1) a 24))], [vI 1, vI b, vI (τ.1 1), vI 3, vR 100], mW (mvS τ (τ.1 1) 3 a (rtN (τ.2.1 2) (τ.1 1) a 24)) (sS ρ 0 0))) rfl ?_
                refine hR.cv [vI 3, vI (τ.1 1), vI b, vI 1] kX6_230 rfl rfl ⟨_, _, _, rfl, rfl, rfl⟩ (by first | decide | exact Nat.le_refl _) (by decide) (Nat.le_of_ble_eq_true rfl) rfl (sr_moves _ _ _ (by omega) (by omega) (by omega)) ?_
                show G (108, [some (vR 100), some (vI a), some (vI b), some (vI (rtN (τ.2.1 2) (τ.1 1) a 24))], [], mW (mvS (mvS τ (τ.1 1) 3 a (rtN (τ.2.1 2) (τ.1 1) a 24)) 3 (τ.1 1) b 1) (sS ρ 0 0))
                have ez3 : (mvS (mvS τ (τ.1 1) 3 a (rtN (τ.2.1 2) (τ.1 1) a 24)) 3 (τ.1 1) b 1).1 1 = τ.1 1 := rfl
                refine hR.run1 9 (S' := (121, [some (vR 100), some (vI a), some (vI b), some (vI (rtN (τ.2.1 2) (τ.1 1) a 24))], [vI (flat ((mvS (mvS τ (τ.1 1) 3 a (rtN (τ.2.1 2) (τ.1 1) a 24)) 3 (τ.1 1) b 1).2.2 0) ((5 * (τ.1 1)) + b))], mW (mvS (mvS τ (τ.1 1) 3 a (rtN (τ.2.1 2) (τ.1 1) a 24)) 3 (τ.1 1) b 1) (sS ρ 0 0))) rfl (by first | omega | (dsimp only [plus1]; omega) | (simp [plus1, sHt, sH, sS, sAt, sA, sup]; done) | (simp [plus1, sHt, sH, sS, sAt, sA, sup]; omega)) ?_
                rw [show flat ((mvS (mvS τ (τ.1 1) 3 a (rtN (τ.2.1 2) (τ.1 1) a 24)) 3 (τ.1 1) b 1).2.2 0) ((5 * (τ.1 1)) + b) = (mvS (mvS τ (τ.1 1) 3 a (rtN (τ.2.1 2) (τ.1 1) a 24)) 3 (τ.1 1) b 1).2.2 0 (τ.1 1) b from flat_at (p := (τ.1 1)) _ (by omega)]
                have hx : xSwap τ a b = (0, (mvS (mvS τ (τ.1 1) 3 a (rtN (τ.2.1 2) (τ.1 1) a 24)) 3 (τ.1 1) b 1).2.2 0 (τ.1 1) b, mvS (mvS τ (τ.1 1) 3 a (rtN (τ.2.1 2) (τ.1 1) a 24)) 3 (τ.1 1) b 1) := by unfold xSwap; (repeat' split) <;> first | rfl | (exfalso; omega) | (exfalso; simp_all; done) | (simp_all; done) | (exfalso; simp_all; omega)
                exact hR.rt rfl trivial (by rw [hx]) (by rw [hx])
              · skip
                refine hR.run0 2 (S' := (82, [some (vR 100), some (vI a), some (vI b), some (vI (rtN (τ.2.1 2) (τ.1 1) a 24))], [vI 2, vR 100], mW τ (sS ρ 0 0))) rfl ?_
                refine hR.cv [vI 2] kX6_149 rfl rfl ⟨_, _, _, rfl, rfl, rfl⟩ (by first | decide | exact Nat.le_refl _) (by decide) (Nat.le_of_ble_eq_true rfl) rfl (sr_fails _ _ _) ?_
                show G (85, [some (vR 100), some (vI a), some (vI b), some (vI (rtN (τ.2.1 2) (τ.1 1) a 24))], [vI 0], mW τ (sS (sS ρ 0 0) 0 2))
                rw [sS_sS]
                show G (85, [some (vR 100), some (vI a), some (vI b), some (vI (rtN (τ.2.1 2) (τ.1 1) a 24))], [vI 0], mW τ (sS ρ 0 2))
                have hx : xSwap τ a b = (2, 0, τ) := by unfold xSwap; (repeat' split) <;> first | rfl | (exfalso; omega) | (exfalso; simp_all; done) | (simp_all; done) | (exfalso; simp_all; omega)
                exact hR.rt rfl trivial (by rw [hx]) (by rw [hx])
        · exfalso; omega
theorem pX6_offer (τ ρ : St) {a b : Int} (ha : -2147483648 ≤ a ∧ a ≤ 2147483647) (hb : -2147483648 ≤ b ∧ b ≤ 2147483647) (hI : Iv τ)  : Sp mX6_offer roC 2 [vR 100, vI a, vI b] (mW τ ρ) (.inl none) (mW (xOffer τ a b).2.2 (sS ρ 0 (xOffer τ a b).1)) := by
  have hb := hI.hb
  have hr := hI.hr
  have hg := hI.hg
  have hn := hI.hn
  have h7 := hI.h7
  have hh := hI.hh
  have hsm := hI.hsm
  have hcd := hI.hcd
  have hfr := hI.hfr
  have hkn := hI.hkn
  have hbo := hI.hbo
  have hus := hI.hus
  have hro := hI.hro
  have har := hI.har
  have hth := hI.hth
  have hph := hI.hph
  have htu := hI.htu
  have hrb := hI.hrb
  have hpl := hI.hpl
  have hdu := hI.hdu
  have hdp := hI.hdp
  have hof := hI.hof
  have how := hI.how
  have hga := hI.hga
  have hwa := hI.hwa
  have hck := hI.hck
  have hkz := hI.hkz
  have hcb := hI.hcb
  have hfb := hI.hfb
  have hnr := hI.hnr
  have hpq := hI.hpq
  have hrc := hI.hrc
  have hbc := hI.hbc
  have hcc := hI.hcc
  have hac := hI.hac
  refine Sp.of (lk := lkX6) (tb := bX6_offer) (by decide) lkX6_ok tX6_offer (mW_keys _ _ _ _) (Nat.le_of_ble_eq_true rfl) (fun G hR => ?_)
  refine hR.run0 2 (S' := (2, [some (vR 100), some (vI a), some (vI b)], [vI a, vR 100], mW τ ρ)) rfl ?_
  refine hR.cs [vI a] kX6_243 rfl rfl (by first | decide | exact Nat.le_refl _) (by decide) (Nat.le_of_ble_eq_true rfl) rfl (sr_isSome _ _ (by omega)) ?_
  show G (5, [some (vR 100), some (vI a), some (vI b)], [vI (bI (decide (1 ≤ a) && decide (a ≤ 99999))), vR 100], mW τ ρ)
  refine hR.br (C := bI (decide (1 ≤ a) && decide (a ≤ 99999)) = 0) rfl (bI_r _) (fun c1 => ?_) (fun c1 => ?_)
  · replace c1 : (decide (1 ≤ a) && decide (a ≤ 99999)) = false := bI0 c1
    try simp only [Bool.and_eq_true, Bool.or_eq_true, Bool.and_eq_false_iff, Bool.or_eq_false_iff, decide_eq_true_eq, decide_eq_false_iff_not] at c1
    refine hR.run0 3 (S' := (47, [some (vR 100), some (vI a), some (vI b)], [], pset (mW τ ρ) 100 (.inr (6, [vR 101, vR 102, vI (τ.1 5), vR 103, vR 104, vR 105, vR 106, vI (τ.1 0), vI (τ.1 1), vI (τ.1 2), vI (τ.1 3), vR 107, vR 108, vI (τ.1 6), vI (τ.1 7), vR 109, vI (τ.1 8), vI (τ.1 4), vI (τ.1 9), vI (τ.1 10), vR 110, vR 111, vR 112, vR 113, vR 114, vI 1])))) rfl ?_
    rw [mW_x0]
    refine hR.run0 2 (S' := (51, [some (vR 100), some (vI a), some (vI b)], [vI 1], mW τ (sS ρ 0 1))) rfl ?_
    refine hR.br (C := 1 ≠ 0) rfl (by first | omega | (dsimp only [plus1]; omega) | (simp [plus1, sHt, sH, sS, sAt, sA, sup]; done) | (simp [plus1, sHt, sH, sS, sAt, sA, sup]; omega)) (fun c2 => ?_) (fun c2 => ?_)
    · skip
      have hx : xOffer τ a b = (1, 0, τ) := by unfold xOffer; (repeat' split) <;> first | rfl | exact congrArg (fun z => ((0 : Int), (0 : Int), z)) (of_set _ _ _).symm | (exfalso; omega) | (exfalso; simp_all; done) | (exfalso; simp_all; omega)
      exact hR.rt rfl trivial rfl (by rw [hx])
    · exfalso; omega
  · replace c1 : (decide (1 ≤ a) && decide (a ≤ 99999)) = true := bI1 c1
    try simp only [Bool.and_eq_true, Bool.or_eq_true, Bool.and_eq_false_iff, Bool.or_eq_false_iff, decide_eq_true_eq, decide_eq_false_iff_not] at c1
    refine hR.run0 1 (S' := (9, [some (vR 100), some (vI a), some (vI b)], [vI b, vR 100], mW τ ρ)) rfl ?_
    refine hR.cs [vI b] kX6_243 rfl rfl (by first | decide | exact Nat.le_refl _) (by decide) (Nat.le_of_ble_eq_true rfl) rfl (sr_isSome _ _ (by omega)) ?_
    show G (12, [some (vR 100), some (vI a), some (vI b)], [vI (bI (decide (1 ≤ b) && decide (b ≤ 99999))), vR 100], mW τ ρ)
    refine hR.br (C := bI (decide (1 ≤ b) && decide (b ≤ 99999)) ≠ 0) rfl (bI_r _) (fun c3 => ?_) (fun c3 => ?_)
    · replace c3 : (decide (1 ≤ b) && decide (b ≤ 99999)) = true := bI1 c3
      try simp only [Bool.and_eq_true, Bool.or_eq_true, Bool.and_eq_false_iff, Bool.or_eq_false_iff, decide_eq_true_eq, decide_eq_false_iff_not] at c3
      refine hR.run0 3 (S' := (24, [some (vR 100), some (vI a), some (vI b)], [vI 2, vI (τ.1 0), vR 100], mW τ ρ)) rfl ?_
      refine hR.br (C := τ.1 0 ≠ 2) rfl (by first | omega | (dsimp only [plus1]; omega) | (simp [plus1, sHt, sH, sS, sAt, sA, sup]; done) | (simp [plus1, sHt, sH, sS, sAt, sA, sup]; omega)) (fun c4 => ?_) (fun c4 => ?_)
      · skip
        refine hR.run0 3 (S' := (47, [some (vR 100), some (vI a), some (vI b)], [], pset (mW τ ρ) 100 (.inr (6, [vR 101, vR 102, vI (τ.1 5), vR 103, vR 104, vR 105, vR 106, vI (τ.1 0), vI (τ.1 1), vI (τ.1 2), vI (τ.1 3), vR 107, vR 108, vI (τ.1 6), vI (τ.1 7), vR 109, vI (τ.1 8), vI (τ.1 4), vI (τ.1 9), vI (τ.1 10), vR 110, vR 111, vR 112, vR 113, vR 114, vI 2])))) rfl ?_
        rw [mW_x0]
        refine hR.run0 2 (S' := (51, [some (vR 100), some (vI a), some (vI b)], [vI 2], mW τ (sS ρ 0 2))) rfl ?_
        refine hR.br (C := 2 ≠ 0) rfl (by first | omega | (dsimp only [plus1]; omega) | (simp [plus1, sHt, sH, sS, sAt, sA, sup]; done) | (simp [plus1, sHt, sH, sS, sAt, sA, sup]; omega)) (fun c5 => ?_) (fun c5 => ?_)
        · skip
          have hx : xOffer τ a b = (2, 0, τ) := by unfold xOffer; (repeat' split) <;> first | rfl | exact congrArg (fun z => ((0 : Int), (0 : Int), z)) (of_set _ _ _).symm | (exfalso; omega) | (exfalso; simp_all; done) | (exfalso; simp_all; omega)
          exact hR.rt rfl trivial rfl (by rw [hx])
        · exfalso; omega
      · skip
        refine hR.run0 4 (S' := (33, [some (vR 100), some (vI a), some (vI b)], [vI a, vI (τ.1 1), vR 100, vR 100], mW τ ρ)) rfl ?_
        refine hR.cv [vI (τ.1 1), vI a] kX6_169 rfl rfl ⟨_, _, _, rfl, rfl, rfl⟩ (by first | decide | exact Nat.le_refl _) (by decide) (Nat.le_of_ble_eq_true rfl) rfl (sr_hasAll _ _ (by omega) (by omega) hh) ?_
        show G (36, [some (vR 100), some (vI a), some (vI b)], [vI (bI (hasG (τ.2.2 0) (τ.1 1) a)), vR 100], mW τ ρ)
        refine hR.br (C := bI (hasG (τ.2.2 0) (τ.1 1) a) ≠ 0) rfl (bI_r _) (fun c6 => ?_) (fun c6 => ?_)
        · replace c6 : (hasG (τ.2.2 0) (τ.1 1) a) = true := bI1 c6
          try simp only [Bool.and_eq_true, Bool.or_eq_true, Bool.and_eq_false_iff, Bool.or_eq_false_iff, decide_eq_true_eq, decide_eq_false_iff_not] at c6
          refine hR.run0 2 (S' := (47, [some (vR 100), some (vI a), some (vI b)], [], pset (mW τ ρ) 100 (.inr (6, [vR 101, vR 102, vI (τ.1 5), vR 103, vR 104, vR 105, vR 106, vI (τ.1 0), vI (τ.1 1), vI (τ.1 2), vI (τ.1 3), vR 107, vR 108, vI (τ.1 6), vI (τ.1 7), vR 109, vI (τ.1 8), vI (τ.1 4), vI (τ.1 9), vI (τ.1 10), vR 110, vR 111, vR 112, vR 113, vR 114, vI 0])))) rfl ?_
          rw [mW_x0]
          refine hR.run0 2 (S' := (51, [some (vR 100), some (vI a), some (vI b)], [vI 0], mW τ (sS ρ 0 0))) rfl ?_
          refine hR.br (C := 0 ≠ 0) rfl (by first | omega | (dsimp only [plus1]; omega) | (simp [plus1, sHt, sH, sS, sAt, sA, sup]; done) | (simp [plus1, sHt, sH, sS, sAt, sA, sup]; omega)) (fun c7 => ?_) (fun c7 => ?_)
          · exfalso; omega
          refine hR.run0 1 (S' := (55, [some (vR 100), some (vI a), some (vI b)], [vR 100], mW τ (sS ρ 0 0))) rfl ?_
          refine hR.cv [] kX6_246 rfl rfl ⟨_, _, _, rfl, rfl, rfl⟩ (by first | decide | exact Nat.le_refl _) (by decide) (Nat.le_of_ble_eq_true rfl) rfl (sr_endsOffers _ _) ?_
          show G (58, [some (vR 100), some (vI a), some (vI b)], [], mW (ofS τ 0 0) (sS ρ 0 0))
          have ez1 : (ofS τ 0 0).1 1 = τ.1 1 := rfl
          refine hR.run0 3 (S' := (63, [some (vR 100), some (vI a), some (vI b)], [], pset (mW (ofS τ 0 0) (sS ρ 0 0)) 100 (.inr (6, [vR 101, vR 102, vI ((ofS τ 0 0).1 5), vR 103, vR 104, vR 105, vR 106, vI ((ofS τ 0 0).1 0), vI ((ofS τ 0 0).1 1), vI ((ofS τ 0 0).1 2), vI ((ofS τ 0 0).1 3), vR 107, vR 108, vI ((ofS τ 0 0).1 6), vI ((ofS τ 0 0).1 7), vR 109, vI ((ofS τ 0 0).1 8), vI ((ofS τ 0 0).1 4), vI a, vI ((ofS τ 0 0).1 10), vR 110, vR 111, vR 112, vR 113, vR 114, vI ((sS ρ 0 0).1 0)])))) rfl ?_
          rw [mW_s9]
          refine hR.run0 3 (S' := (68, [some (vR 100), some (vI a), some (vI b)], [], pset (mW (sS (ofS τ 0 0) 9 a) (sS ρ 0 0)) 100 (.inr (6, [vR 101, vR 102, vI ((sS (ofS τ 0 0) 9 a).1 5), vR 103, vR 104, vR 105, vR 106, vI ((sS (ofS τ 0 0) 9 a).1 0), vI ((sS (ofS τ 0 0) 9 a).1 1), vI ((sS (ofS τ 0 0) 9 a).1 2), vI ((sS (ofS τ 0 0) 9 a).1 3), vR 107, vR 108, vI ((sS (ofS τ 0 0) 9 a).1 6), vI ((sS (ofS τ 0 0) 9 a).1 7), vR 109, vI ((sS (ofS τ 0 0) 9 a).1 8), vI ((sS (ofS τ 0 0) 9 a).1 4), vI ((sS (ofS τ 0 0) 9 a).1 9), vI b, vR 110, vR 111, vR 112, vR 113, vR 114, vI ((sS ρ 0 0).1 0)])))) rfl ?_
          rw [mW_s10]
          have hx : xOffer τ a b = (0, 0, sS (sS (ofS τ 0 0) 9 a) 10 b) := by unfold xOffer; (repeat' split) <;> first | rfl | exact congrArg (fun z => ((0 : Int), (0 : Int), z)) (of_set _ _ _).symm | (exfalso; omega) | (exfalso; simp_all; done) | (exfalso; simp_all; omega)
          exact hR.rt rfl trivial rfl (by rw [hx])
        · replace c6 : (hasG (τ.2.2 0) (τ.1 1) a) = false := bI0 (Classical.not_not.mp c6)
          try simp only [Bool.and_eq_true, Bool.or_eq_true, Bool.and_eq_false_iff, Bool.or_eq_false_iff, decide_eq_true_eq, decide_eq_false_iff_not] at c6
          refine hR.run0 3 (S' := (47, [some (vR 100), some (vI a), some (vI b)], [], pset (mW τ ρ) 100 (.inr (6, [vR 101, vR 102, vI (τ.1 5), vR 103, vR 104, vR 105, vR 106, vI (τ.1 0), vI (τ.1 1), vI (τ.1 2), vI (τ.1 3), vR 107, vR 108, vI (τ.1 6), vI (τ.1 7), vR 109, vI (τ.1 8), vI (τ.1 4), vI (τ.1 9), vI (τ.1 10), vR 110, vR 111, vR 112, vR 113, vR 114, vI 2])))) rfl ?_
          rw [mW_x0]
          refine hR.run0 2 (S' := (51, [some (vR 100), some (vI a), some (vI b)], [vI 2], mW τ (sS ρ 0 2))) rfl ?_
          refine hR.br (C := 2 ≠ 0) rfl (by first | omega | (dsimp only [plus1]; omega) | (simp [plus1, sHt, sH, sS, sAt, sA, sup]; done) | (simp [plus1, sHt, sH, sS, sAt, sA, sup]; omega)) (fun c8 => ?_) (fun c8 => ?_)
          · skip
            have hx : xOffer τ a b = (2, 0, τ) := by unfold xOffer; (repeat' split) <;> first | rfl | exact congrArg (fun z => ((0 : Int), (0 : Int), z)) (of_set _ _ _).symm | (exfalso; omega) | (exfalso; simp_all; done) | (exfalso; simp_all; omega)
            exact hR.rt rfl trivial rfl (by rw [hx])
          · exfalso; omega
    · replace c3 : (decide (1 ≤ b) && decide (b ≤ 99999)) = false := bI0 (Classical.not_not.mp c3)
      try simp only [Bool.and_eq_true, Bool.or_eq_true, Bool.and_eq_false_iff, Bool.or_eq_false_iff, decide_eq_true_eq, decide_eq_false_iff_not] at c3
      refine hR.run0 3 (S' := (47, [some (vR 100), some (vI a), some (vI b)], [], pset (mW τ ρ) 100 (.inr (6, [vR 101, vR 102, vI (τ.1 5), vR 103, vR 104, vR 105, vR 106, vI (τ.1 0), vI (τ.1 1), vI (τ.1 2), vI (τ.1 3), vR 107, vR 108, vI (τ.1 6), vI (τ.1 7), vR 109, vI (τ.1 8), vI (τ.1 4), vI (τ.1 9), vI (τ.1 10), vR 110, vR 111, vR 112, vR 113, vR 114, vI 1])))) rfl ?_
      rw [mW_x0]
      refine hR.run0 2 (S' := (51, [some (vR 100), some (vI a), some (vI b)], [vI 1], mW τ (sS ρ 0 1))) rfl ?_
      refine hR.br (C := 1 ≠ 0) rfl (by first | omega | (dsimp only [plus1]; omega) | (simp [plus1, sHt, sH, sS, sAt, sA, sup]; done) | (simp [plus1, sHt, sH, sS, sAt, sA, sup]; omega)) (fun c9 => ?_) (fun c9 => ?_)
      · skip
        have hx : xOffer τ a b = (1, 0, τ) := by unfold xOffer; (repeat' split) <;> first | rfl | exact congrArg (fun z => ((0 : Int), (0 : Int), z)) (of_set _ _ _).symm | (exfalso; omega) | (exfalso; simp_all; done) | (exfalso; simp_all; omega)
        exact hR.rt rfl trivial rfl (by rw [hx])
      · exfalso; omega
theorem pX6_counter (τ ρ : St) {p a b : Int} (hp : -2147483648 ≤ p ∧ p ≤ 2147483647) (ha : -2147483648 ≤ a ∧ a ≤ 2147483647) (hb : -2147483648 ≤ b ∧ b ≤ 2147483647) (hI : Iv τ)  : Sp mX6_counter roC 2 [vR 100, vI p, vI a, vI b] (mW τ ρ) (.inl none) (mW (xCounter τ p a b).2.2 (sS ρ 0 (xCounter τ p a b).1)) := by
  have hb := hI.hb
  have hr := hI.hr
  have hg := hI.hg
  have hn := hI.hn
  have h7 := hI.h7
  have hh := hI.hh
  have hsm := hI.hsm
  have hcd := hI.hcd
  have hfr := hI.hfr
  have hkn := hI.hkn
  have hbo := hI.hbo
  have hus := hI.hus
  have hro := hI.hro
  have har := hI.har
  have hth := hI.hth
  have hph := hI.hph
  have htu := hI.htu
  have hrb := hI.hrb
  have hpl := hI.hpl
  have hdu := hI.hdu
  have hdp := hI.hdp
  have hof := hI.hof
  have how := hI.how
  have hga := hI.hga
  have hwa := hI.hwa
  have hck := hI.hck
  have hkz := hI.hkz
  have hcb := hI.hcb
  have hfb := hI.hfb
  have hnr := hI.hnr
  have hpq := hI.hpq
  have hrc := hI.hrc
  have hbc := hI.hbc
  have hcc := hI.hcc
  have hac := hI.hac
  refine Sp.of (lk := lkX6) (tb := bX6_counter) (by decide) lkX6_ok tX6_counter (mW_keys _ _ _ _) (Nat.le_of_ble_eq_true rfl) (fun G hR => ?_)
  refine hR.run0 2 (S' := (2, [some (vR 100), some (vI p), some (vI a), some (vI b)], [vI p, vR 100], mW τ ρ)) rfl ?_
  refine hR.cs [vI p] kX6_159 rfl rfl (by first | decide | exact Nat.le_refl _) (by decide) (Nat.le_of_ble_eq_true rfl) rfl (sr_isPlayer _ _ (by omega)) ?_
  show G (5, [some (vR 100), some (vI p), some (vI a), some (vI b)], [vI (bI (decide (0 ≤ p) && decide (p < 3))), vR 100], mW τ ρ)
  refine hR.br (C := (bI (decide (0 ≤ p) && decide (p < 3))) ≠ 0) rfl (bI_r _) (fun c1 => ?_) (fun c1 => ?_)
  · replace c1 : (decide (0 ≤ p) && decide (p < 3)) = true := bI1 c1
    try simp only [Bool.and_eq_true, Bool.or_eq_true, Bool.and_eq_false_iff, Bool.or_eq_false_iff, decide_eq_true_eq, decide_eq_false_iff_not] at c1
    refine hR.run0 1 (S' := (13, [some (vR 100), some (vI p), some (vI a), some (vI b)], [vI a, vR 100], mW τ ρ)) rfl ?_
    refine hR.cs [vI a] kX6_243 rfl rfl (by first | decide | exact Nat.le_refl _) (by decide) (Nat.le_of_ble_eq_true rfl) rfl (sr_isSome _ _ (by omega)) ?_
    show G (16, [some (vR 100), some (vI p), some (vI a), some (vI b)], [vI (bI (decide (1 ≤ a) && decide (a ≤ 99999))), vR 100], mW τ ρ)
    refine hR.br (C := bI (decide (1 ≤ a) && decide (a ≤ 99999)) = 0) rfl (bI_r _) (fun c2 => ?_) (fun c2 => ?_)
    · replace c2 : (decide (1 ≤ a) && decide (a ≤ 99999)) = false := bI0 c2
      try simp only [Bool.and_eq_true, Bool.or_eq_true, Bool.and_eq_false_iff, Bool.or_eq_false_iff, decide_eq_true_eq, decide_eq_false_iff_not] at c2
      refine hR.run0 3 (S' := (70, [some (vR 100), some (vI p), some (vI a), some (vI b)], [], pset (mW τ ρ) 100 (.inr (6, [vR 101, vR 102, vI (τ.1 5), vR 103, vR 104, vR 105, vR 106, vI (τ.1 0), vI (τ.1 1), vI (τ.1 2), vI (τ.1 3), vR 107, vR 108, vI (τ.1 6), vI (τ.1 7), vR 109, vI (τ.1 8), vI (τ.1 4), vI (τ.1 9), vI (τ.1 10), vR 110, vR 111, vR 112, vR 113, vR 114, vI 2])))) rfl ?_
      rw [mW_x0]
      refine hR.run0 2 (S' := (74, [some (vR 100), some (vI p), some (vI a), some (vI b)], [vI 2], mW τ (sS ρ 0 2))) rfl ?_
      refine hR.br (C := 2 ≠ 0) rfl (by first | omega | (dsimp only [plus1]; omega) | (simp [plus1, sHt, sH, sS, sAt, sA, sup]; done) | (simp [plus1, sHt, sH, sS, sAt, sA, sup]; omega)) (fun c3 => ?_) (fun c3 => ?_)
      · skip
        have hx : xCounter τ p a b = (2, 0, τ) := by unfold xCounter; (repeat' split) <;> first | rfl | (exfalso; omega) | (exfalso; simp_all; done) | (simp_all; done) | (exfalso; simp_all; omega)
        exact hR.rt rfl trivial rfl (by rw [hx])
      · exfalso; omega
    · replace c2 : (decide (1 ≤ a) && decide (a ≤ 99999)) = true := bI1 c2
      try simp only [Bool.and_eq_true, Bool.or_eq_true, Bool.and_eq_false_iff, Bool.or_eq_false_iff, decide_eq_true_eq, decide_eq_false_iff_not] at c2
      refine hR.run0 1 (S' := (20, [some (vR 100), some (vI p), some (vI a), some (vI b)], [vI b, vR 100], mW τ ρ)) rfl ?_
      refine hR.cs [vI b] kX6_243 rfl rfl (by first | decide | exact Nat.le_refl _) (by decide) (Nat.le_of_ble_eq_true rfl) rfl (sr_isSome _ _ (by omega)) ?_
      show G (23, [some (vR 100), some (vI p), some (vI a), some (vI b)], [vI (bI (decide (1 ≤ b) && decide (b ≤ 99999))), vR 100], mW τ ρ)
      refine hR.br (C := bI (decide (1 ≤ b) && decide (b ≤ 99999)) ≠ 0) rfl (bI_r _) (fun c4 => ?_) (fun c4 => ?_)
      · replace c4 : (decide (1 ≤ b) && decide (b ≤ 99999)) = true := bI1 c4
        try simp only [Bool.and_eq_true, Bool.or_eq_true, Bool.and_eq_false_iff, Bool.or_eq_false_iff, decide_eq_true_eq, decide_eq_false_iff_not] at c4
        refine hR.run0 3 (S' := (35, [some (vR 100), some (vI p), some (vI a), some (vI b)], [vI 2, vI (τ.1 0), vR 100], mW τ ρ)) rfl ?_
        refine hR.br (C := τ.1 0 ≠ 2) rfl (by first | omega | (dsimp only [plus1]; omega) | (simp [plus1, sHt, sH, sS, sAt, sA, sup]; done) | (simp [plus1, sHt, sH, sS, sAt, sA, sup]; omega)) (fun c5 => ?_) (fun c5 => ?_)
        · skip
          refine hR.run0 3 (S' := (70, [some (vR 100), some (vI p), some (vI a), some (vI b)], [], pset (mW τ ρ) 100 (.inr (6, [vR 101, vR 102, vI (τ.1 5), vR 103, vR 104, vR 105, vR 106, vI (τ.1 0), vI (τ.1 1), vI (τ.1 2), vI (τ.1 3), vR 107, vR 108, vI (τ.1 6), vI (τ.1 7), vR 109, vI (τ.1 8), vI (τ.1 4), vI (τ.1 9), vI (τ.1 10), vR 110, vR 111, vR 112, vR 113, vR 114, vI 3])))) rfl ?_
          rw [mW_x0]
          refine hR.run0 2 (S' := (74, [some (vR 100), some (vI p), some (vI a), some (vI b)], [vI 3], mW τ (sS ρ 0 3))) rfl ?_
          refine hR.br (C := 3 ≠ 0) rfl (by first | omega | (dsimp only [plus1]; omega) | (simp [plus1, sHt, sH, sS, sAt, sA, sup]; done) | (simp [plus1, sHt, sH, sS, sAt, sA, sup]; omega)) (fun c6 => ?_) (fun c6 => ?_)
          · skip
            have hx : xCounter τ p a b = (3, 0, τ) := by unfold xCounter; (repeat' split) <;> first | rfl | (exfalso; omega) | (exfalso; simp_all; done) | (simp_all; done) | (exfalso; simp_all; omega)
            exact hR.rt rfl trivial rfl (by rw [hx])
          · exfalso; omega
        · skip
          refine hR.run0 2 (S' := (42, [some (vR 100), some (vI p), some (vI a), some (vI b)], [vI (τ.1 9), vR 100], mW τ ρ)) rfl ?_
          refine hR.br (C := τ.1 9 = 0) rfl (by first | omega | (dsimp only [plus1]; omega) | (simp [plus1, sHt, sH, sS, sAt, sA, sup]; done) | (simp [plus1, sHt, sH, sS, sAt, sA, sup]; omega)) (fun c7 => ?_) (fun c7 => ?_)
          · skip
            refine hR.run0 3 (S' := (70, [some (vR 100), some (vI p), some (vI a), some (vI b)], [], pset (mW τ ρ) 100 (.inr (6, [vR 101, vR 102, vI (τ.1 5), vR 103, vR 104, vR 105, vR 106, vI (τ.1 0), vI (τ.1 1), vI (τ.1 2), vI (τ.1 3), vR 107, vR 108, vI (τ.1 6), vI (τ.1 7), vR 109, vI (τ.1 8), vI (τ.1 4), vI (τ.1 9), vI (τ.1 10), vR 110, vR 111, vR 112, vR 113, vR 114, vI 3])))) rfl ?_
            rw [mW_x0]
            refine hR.run0 2 (S' := (74, [some (vR 100), some (vI p), some (vI a), some (vI b)], [vI 3], mW τ (sS ρ 0 3))) rfl ?_
            refine hR.br (C := 3 ≠ 0) rfl (by first | omega | (dsimp only [plus1]; omega) | (simp [plus1, sHt, sH, sS, sAt, sA, sup]; done) | (simp [plus1, sHt, sH, sS, sAt, sA, sup]; omega)) (fun c8 => ?_) (fun c8 => ?_)
            · skip
              have hx : xCounter τ p a b = (3, 0, τ) := by unfold xCounter; (repeat' split) <;> first | rfl | (exfalso; omega) | (exfalso; simp_all; done) | (simp_all; done) | (exfalso; simp_all; omega)
              exact hR.rt rfl trivial rfl (by rw [hx])
            · exfalso; omega
          · skip
            refine hR.run0 3 (S' := (50, [some (vR 100), some (vI p), some (vI a), some (vI b)], [vI (τ.1 1), vI p, vR 100], mW τ ρ)) rfl ?_
            refine hR.br (C := p = τ.1 1) rfl (by first | omega | (dsimp only [plus1]; omega) | (simp [plus1, sHt, sH, sS, sAt, sA, sup]; done) | (simp [plus1, sHt, sH, sS, sAt, sA, sup]; omega)) (fun c9 => ?_) (fun c9 => ?_)
            · skip
              refine hR.run0 3 (S' := (70, [some (vR 100), some (vI p), some (vI a), some (vI b)], [], pset (mW τ ρ) 100 (.inr (6, [vR 101, vR 102, vI (τ.1 5), vR 103, vR 104, vR 105, vR 106, vI (τ.1 0), vI (τ.1 1), vI (τ.1 2), vI (τ.1 3), vR 107, vR 108, vI (τ.1 6), vI (τ.1 7), vR 109, vI (τ.1 8), vI (τ.1 4), vI (τ.1 9), vI (τ.1 10), vR 110, vR 111, vR 112, vR 113, vR 114, vI 3])))) rfl ?_
              rw [mW_x0]
              refine hR.run0 2 (S' := (74, [some (vR 100), some (vI p), some (vI a), some (vI b)], [vI 3], mW τ (sS ρ 0 3))) rfl ?_
              refine hR.br (C := 3 ≠ 0) rfl (by first | omega | (dsimp only [plus1]; omega) | (simp [plus1, sHt, sH, sS, sAt, sA, sup]; done) | (simp [plus1, sHt, sH, sS, sAt, sA, sup]; omega)) (fun c10 => ?_) (fun c10 => ?_)
              · skip
                have hx : xCounter τ p a b = (3, 0, τ) := by unfold xCounter; (repeat' split) <;> first | rfl | (exfalso; omega) | (exfalso; simp_all; done) | (simp_all; done) | (exfalso; simp_all; omega)
                exact hR.rt rfl trivial rfl (by rw [hx])
              · exfalso; omega
            · skip
              refine hR.run0 3 (S' := (56, [some (vR 100), some (vI p), some (vI a), some (vI b)], [vI a, vI p, vR 100, vR 100], mW τ ρ)) rfl ?_
              refine hR.cv [vI p, vI a] kX6_169 rfl rfl ⟨_, _, _, rfl, rfl, rfl⟩ (by first | decide | exact Nat.le_refl _) (by decide) (Nat.le_of_ble_eq_true rfl) rfl (sr_hasAll _ _ (by omega) (by omega) hh) ?_
              show G (59, [some (vR 100), some (vI p), some (vI a), some (vI b)], [vI (bI (hasG (τ.2.2 0) p a)), vR 100], mW τ ρ)
              refine hR.br (C := bI (hasG (τ.2.2 0) p a) ≠ 0) rfl (bI_r _) (fun c11 => ?_) (fun c11 => ?_)
              · replace c11 : (hasG (τ.2.2 0) p a) = true := bI1 c11
                try simp only [Bool.and_eq_true, Bool.or_eq_true, Bool.and_eq_false_iff, Bool.or_eq_false_iff, decide_eq_true_eq, decide_eq_false_iff_not] at c11
                refine hR.run0 2 (S' := (70, [some (vR 100), some (vI p), some (vI a), some (vI b)], [], pset (mW τ ρ) 100 (.inr (6, [vR 101, vR 102, vI (τ.1 5), vR 103, vR 104, vR 105, vR 106, vI (τ.1 0), vI (τ.1 1), vI (τ.1 2), vI (τ.1 3), vR 107, vR 108, vI (τ.1 6), vI (τ.1 7), vR 109, vI (τ.1 8), vI (τ.1 4), vI (τ.1 9), vI (τ.1 10), vR 110, vR 111, vR 112, vR 113, vR 114, vI 0])))) rfl ?_
                rw [mW_x0]
                refine hR.run0 2 (S' := (74, [some (vR 100), some (vI p), some (vI a), some (vI b)], [vI 0], mW τ (sS ρ 0 0))) rfl ?_
                refine hR.br (C := 0 ≠ 0) rfl (by first | omega | (dsimp only [plus1]; omega) | (simp [plus1, sHt, sH, sS, sAt, sA, sup]; done) | (simp [plus1, sHt, sH, sS, sAt, sA, sup]; omega)) (fun c12 => ?_) (fun c12 => ?_)
                · exfalso; omega
                refine hR.run1 5 (S' := (84, [some (vR 100), some (vI p), some (vI a), some (vI b)], [], pset (mW τ (sS ρ 0 0)) 110 (.inl (3, .inl (pup (τ.2.1 7) p a))))) rfl (by first | omega | (dsimp only [plus1]; omega) | (simp [plus1, sHt, sH, sS, sAt, sA, sup]; done) | (simp [plus1, sHt, sH, sS, sAt, sA, sup]; omega)) ?_
                rw [mW_a7]
                refine hR.run1 5 (S' := (91, [some (vR 100), some (vI p), some (vI a), some (vI b)], [], pset (mW (sAt τ 7 p a) (sS ρ 0 0)) 111 (.inl (3, .inl (pup ((sAt τ 7 p a).2.1 8) p b))))) rfl (by first | omega | (dsimp only [plus1]; omega) | (simp [plus1, sHt, sH, sS, sAt, sA, sup]; done) | (simp [plus1, sHt, sH, sS, sAt, sA, sup]; omega)) ?_
                rw [mW_a8]
                have hx : xCounter τ p a b = (0, 0, sAt (sAt τ 7 p a) 8 p b) := by unfold xCounter; (repeat' split) <;> first | rfl | (exfalso; omega) | (exfalso; simp_all; done) | (simp_all; done) | (exfalso; simp_all; omega)
                exact hR.rt rfl trivial rfl (by rw [hx])
              · replace c11 : (hasG (τ.2.2 0) p a) = false := bI0 (Classical.not_not.mp c11)
                try simp only [Bool.and_eq_true, Bool.or_eq_true, Bool.and_eq_false_iff, Bool.or_eq_false_iff, decide_eq_true_eq, decide_eq_false_iff_not] at c11
                refine hR.run0 3 (S' := (70, [some (vR 100), some (vI p), some (vI a), some (vI b)], [], pset (mW τ ρ) 100 (.inr (6, [vR 101, vR 102, vI (τ.1 5), vR 103, vR 104, vR 105, vR 106, vI (τ.1 0), vI (τ.1 1), vI (τ.1 2), vI (τ.1 3), vR 107, vR 108, vI (τ.1 6), vI (τ.1 7), vR 109, vI (τ.1 8), vI (τ.1 4), vI (τ.1 9), vI (τ.1 10), vR 110, vR 111, vR 112, vR 113, vR 114, vI 3])))) rfl ?_
                rw [mW_x0]
                refine hR.run0 2 (S' := (74, [some (vR 100), some (vI p), some (vI a), some (vI b)], [vI 3], mW τ (sS ρ 0 3))) rfl ?_
                refine hR.br (C := 3 ≠ 0) rfl (by first | omega | (dsimp only [plus1]; omega) | (simp [plus1, sHt, sH, sS, sAt, sA, sup]; done) | (simp [plus1, sHt, sH, sS, sAt, sA, sup]; omega)) (fun c13 => ?_) (fun c13 => ?_)
                · skip
                  have hx : xCounter τ p a b = (3, 0, τ) := by unfold xCounter; (repeat' split) <;> first | rfl | (exfalso; omega) | (exfalso; simp_all; done) | (simp_all; done) | (exfalso; simp_all; omega)
                  exact hR.rt rfl trivial rfl (by rw [hx])
                · exfalso; omega
      · replace c4 : (decide (1 ≤ b) && decide (b ≤ 99999)) = false := bI0 (Classical.not_not.mp c4)
        try simp only [Bool.and_eq_true, Bool.or_eq_true, Bool.and_eq_false_iff, Bool.or_eq_false_iff, decide_eq_true_eq, decide_eq_false_iff_not] at c4
        refine hR.run0 3 (S' := (70, [some (vR 100), some (vI p), some (vI a), some (vI b)], [], pset (mW τ ρ) 100 (.inr (6, [vR 101, vR 102, vI (τ.1 5), vR 103, vR 104, vR 105, vR 106, vI (τ.1 0), vI (τ.1 1), vI (τ.1 2), vI (τ.1 3), vR 107, vR 108, vI (τ.1 6), vI (τ.1 7), vR 109, vI (τ.1 8), vI (τ.1 4), vI (τ.1 9), vI (τ.1 10), vR 110, vR 111, vR 112, vR 113, vR 114, vI 2])))) rfl ?_
        rw [mW_x0]
        refine hR.run0 2 (S' := (74, [some (vR 100), some (vI p), some (vI a), some (vI b)], [vI 2], mW τ (sS ρ 0 2))) rfl ?_
        refine hR.br (C := 2 ≠ 0) rfl (by first | omega | (dsimp only [plus1]; omega) | (simp [plus1, sHt, sH, sS, sAt, sA, sup]; done) | (simp [plus1, sHt, sH, sS, sAt, sA, sup]; omega)) (fun c14 => ?_) (fun c14 => ?_)
        · skip
          have hx : xCounter τ p a b = (2, 0, τ) := by unfold xCounter; (repeat' split) <;> first | rfl | (exfalso; omega) | (exfalso; simp_all; done) | (simp_all; done) | (exfalso; simp_all; omega)
          exact hR.rt rfl trivial rfl (by rw [hx])
        · exfalso; omega
  · replace c1 : (decide (0 ≤ p) && decide (p < 3)) = false := bI0 (Classical.not_not.mp c1)
    try simp only [Bool.and_eq_true, Bool.or_eq_true, Bool.and_eq_false_iff, Bool.or_eq_false_iff, decide_eq_true_eq, decide_eq_false_iff_not] at c1
    refine hR.run0 3 (S' := (70, [some (vR 100), some (vI p), some (vI a), some (vI b)], [], pset (mW τ ρ) 100 (.inr (6, [vR 101, vR 102, vI (τ.1 5), vR 103, vR 104, vR 105, vR 106, vI (τ.1 0), vI (τ.1 1), vI (τ.1 2), vI (τ.1 3), vR 107, vR 108, vI (τ.1 6), vI (τ.1 7), vR 109, vI (τ.1 8), vI (τ.1 4), vI (τ.1 9), vI (τ.1 10), vR 110, vR 111, vR 112, vR 113, vR 114, vI 1])))) rfl ?_
    rw [mW_x0]
    refine hR.run0 2 (S' := (74, [some (vR 100), some (vI p), some (vI a), some (vI b)], [vI 1], mW τ (sS ρ 0 1))) rfl ?_
    refine hR.br (C := 1 ≠ 0) rfl (by first | omega | (dsimp only [plus1]; omega) | (simp [plus1, sHt, sH, sS, sAt, sA, sup]; done) | (simp [plus1, sHt, sH, sS, sAt, sA, sup]; omega)) (fun c15 => ?_) (fun c15 => ?_)
    · skip
      have hx : xCounter τ p a b = (1, 0, τ) := by unfold xCounter; (repeat' split) <;> first | rfl | (exfalso; omega) | (exfalso; simp_all; done) | (simp_all; done) | (exfalso; simp_all; omega)
      exact hR.rt rfl trivial rfl (by rw [hx])
    · exfalso; omega
theorem pX6_accept (τ ρ : St) {p : Int} (hp : -2147483648 ≤ p ∧ p ≤ 2147483647) (hI : Iv τ)  : Sp mX6_accept roC 2 [vR 100, vI p] (mW τ ρ) (.inl (some (vI (xAccept τ p).2.1))) (mW (xAccept τ p).2.2 (sS ρ 0 (xAccept τ p).1)) := by
  have hb := hI.hb
  have hr := hI.hr
  have hg := hI.hg
  have hn := hI.hn
  have h7 := hI.h7
  have hh := hI.hh
  have hsm := hI.hsm
  have hcd := hI.hcd
  have hfr := hI.hfr
  have hkn := hI.hkn
  have hbo := hI.hbo
  have hus := hI.hus
  have hro := hI.hro
  have har := hI.har
  have hth := hI.hth
  have hph := hI.hph
  have htu := hI.htu
  have hrb := hI.hrb
  have hpl := hI.hpl
  have hdu := hI.hdu
  have hdp := hI.hdp
  have hof := hI.hof
  have how := hI.how
  have hga := hI.hga
  have hwa := hI.hwa
  have hck := hI.hck
  have hkz := hI.hkz
  have hcb := hI.hcb
  have hfb := hI.hfb
  have hnr := hI.hnr
  have hpq := hI.hpq
  have hrc := hI.hrc
  have hbc := hI.hbc
  have hcc := hI.hcc
  have hac := hI.hac
  refine Sp.of (lk := lkX6) (tb := bX6_accept) (by decide) lkX6_ok tX6_accept (mW_keys _ _ _ _) (Nat.le_of_ble_eq_true rfl) (fun G hR => ?_)
  refine hR.run0 2 (S' := (2, [some (vR 100), some (vI p)], [vI p, vR 100], mW τ ρ)) rfl ?_
  refine hR.cs [vI p] kX6_159 rfl rfl (by first | decide | exact Nat.le_refl _) (by decide) (Nat.le_of_ble_eq_true rfl) rfl (sr_isPlayer _ _ (by omega)) ?_
  show G (5, [some (vR 100), some (vI p)], [vI (bI (decide (0 ≤ p) && decide (p < 3))), vR 100], mW τ ρ)
  by_cases q1 : (decide (0 ≤ p) && decide (p < 3)) = true
  · skip
    have q1b := q1
    try simp only [Bool.and_eq_true, Bool.or_eq_true, Bool.and_eq_false_iff, Bool.or_eq_false_iff, decide_eq_true_eq, decide_eq_false_iff_not] at q1
    refine hR.cv [vI (bI (decide (0 ≤ p) && decide (p < 3)))] kX6_127 rfl rfl ⟨_, _, _, rfl, rfl, rfl⟩ (by first | decide | exact Nat.le_refl _) (by decide) (Nat.le_of_ble_eq_true rfl) rfl (sr_asksb_t _ _ q1b) ?_
    show G (8, [some (vR 100), some (vI p)], [vI 1], mW τ (sS ρ 0 0))
    refine hR.br (C := 1 ≠ 0) rfl (by first | omega | (dsimp only [plus1]; omega) | (simp [plus1, sHt, sH, sS, sAt, sA, sup]; done) | (simp [plus1, sHt, sH, sS, sAt, sA, sup]; omega)) (fun c2 => ?_) (fun c2 => ?_)
    · skip
      refine hR.run0 3 (S' := (18, [some (vR 100), some (vI p)], [vI 2, vI (τ.1 0)], mW τ (sS ρ 0 0))) rfl ?_
      refine hR.br (C := τ.1 0 ≠ 2) rfl (by first | omega | (dsimp only [plus1]; omega) | (simp [plus1, sHt, sH, sS, sAt, sA, sup]; done) | (simp [plus1, sHt, sH, sS, sAt, sA, sup]; omega)) (fun c3 => ?_) (fun c3 => ?_)
      · skip
        refine hR.run0 2 (S' := (65, [some (vR 100), some (vI p)], [vI 2, vR 100], mW τ (sS ρ 0 0))) rfl ?_
        refine hR.cv [vI 2] kX6_149 rfl rfl ⟨_, _, _, rfl, rfl, rfl⟩ (by first | decide | exact Nat.le_refl _) (by decide) (Nat.le_of_ble_eq_true rfl) rfl (sr_fails _ _ _) ?_
        show G (68, [some (vR 100), some (vI p)], [vI 0], mW τ (sS (sS ρ 0 0) 0 2))
        rw [sS_sS]
        show G (68, [some (vR 100), some (vI p)], [vI 0], mW τ (sS ρ 0 2))
        have hx : xAccept τ p = (2, 0, τ) := by unfold xAccept; (repeat' split) <;> first | rfl | (exfalso; omega) | (exfalso; simp_all; done) | (simp_all; done) | (exfalso; simp_all; omega)
        exact hR.rt rfl trivial (by rw [hx]) (by rw [hx])
      · skip
        refine hR.run0 2 (S' := (25, [some (vR 100), some (vI p)], [vI (τ.1 9)], mW τ (sS ρ 0 0))) rfl ?_
        refine hR.br (C := τ.1 9 = 0) rfl (by first | omega | (dsimp only [plus1]; omega) | (simp [plus1, sHt, sH, sS, sAt, sA, sup]; done) | (simp [plus1, sHt, sH, sS, sAt, sA, sup]; omega)) (fun c4 => ?_) (fun c4 => ?_)
        · skip
          refine hR.run0 2 (S' := (65, [some (vR 100), some (vI p)], [vI 2, vR 100], mW τ (sS ρ 0 0))) rfl ?_
          refine hR.cv [vI 2] kX6_149 rfl rfl ⟨_, _, _, rfl, rfl, rfl⟩ (by first | decide | exact Nat.le_refl _) (by decide) (Nat.le_of_ble_eq_true rfl) rfl (sr_fails _ _ _) ?_
          show G (68, [some (vR 100), some (vI p)], [vI 0], mW τ (sS (sS ρ 0 0) 0 2))
          rw [sS_sS]
          show G (68, [some (vR 100), some (vI p)], [vI 0], mW τ (sS ρ 0 2))
          have hx : xAccept τ p = (2, 0, τ) := by unfold xAccept; (repeat' split) <;> first | rfl | (exfalso; omega) | (exfalso; simp_all; done) | (simp_all; done) | (exfalso; simp_all; omega)
          exact hR.rt rfl trivial (by rw [hx]) (by rw [hx])
        · skip
          refine hR.run0 3 (S' := (33, [some (vR 100), some (vI p)], [vI (τ.1 1), vI p], mW τ (sS ρ 0 0))) rfl ?_
          refine hR.br (C := p = τ.1 1) rfl (by first | omega | (dsimp only [plus1]; omega) | (simp [plus1, sHt, sH, sS, sAt, sA, sup]; done) | (simp [plus1, sHt, sH, sS, sAt, sA, sup]; omega)) (fun c5 => ?_) (fun c5 => ?_)
          · skip
            refine hR.run0 2 (S' := (65, [some (vR 100), some (vI p)], [vI 2, vR 100], mW τ (sS ρ 0 0))) rfl ?_
            refine hR.cv [vI 2] kX6_149 rfl rfl ⟨_, _, _, rfl, rfl, rfl⟩ (by first | decide | exact Nat.le_refl _) (by decide) (Nat.le_of_ble_eq_true rfl) rfl (sr_fails _ _ _) ?_
            show G (68, [some (vR 100), some (vI p)], [vI 0], mW τ (sS (sS ρ 0 0) 0 2))
            rw [sS_sS]
            show G (68, [some (vR 100), some (vI p)], [vI 0], mW τ (sS ρ 0 2))
            have hx : xAccept τ p = (2, 0, τ) := by unfold xAccept; (repeat' split) <;> first | rfl | (exfalso; omega) | (exfalso; simp_all; done) | (simp_all; done) | (exfalso; simp_all; omega)
            exact hR.rt rfl trivial (by rw [hx]) (by rw [hx])
          · skip
            refine hR.run0 5 (S' := (45, [some (vR 100), some (vI p)], [vI (τ.1 9), vI (τ.1 1), vR 100], mW τ (sS ρ 0 0))) rfl ?_
            refine hR.cv [vI (τ.1 1), vI (τ.1 9)] kX6_169 rfl rfl ⟨_, _, _, rfl, rfl, rfl⟩ (by first | decide | exact Nat.le_refl _) (by decide) (Nat.le_of_ble_eq_true rfl) rfl (sr_hasAll _ _ (by omega) (by omega) hh) ?_
            show G (48, [some (vR 100), some (vI p)], [vI (bI (hasG (τ.2.2 0) (τ.1 1) (τ.1 9)))], mW τ (sS ρ 0 0))
            refine hR.br (C := bI (hasG (τ.2.2 0) (τ.1 1) (τ.1 9)) = 0) rfl (bI_r _) (fun c6 => ?_) (fun c6 => ?_)
            · replace c6 : (hasG (τ.2.2 0) (τ.1 1) (τ.1 9)) = false := bI0 c6
              try simp only [Bool.and_eq_true, Bool.or_eq_true, Bool.and_eq_false_iff, Bool.or_eq_false_iff, decide_eq_true_eq, decide_eq_false_iff_not] at c6
              refine hR.run0 2 (S' := (65, [some (vR 100), some (vI p)], [vI 2, vR 100], mW τ (sS ρ 0 0))) rfl ?_
              refine hR.cv [vI 2] kX6_149 rfl rfl ⟨_, _, _, rfl, rfl, rfl⟩ (by first | decide | exact Nat.le_refl _) (by decide) (Nat.le_of_ble_eq_true rfl) rfl (sr_fails _ _ _) ?_
              show G (68, [some (vR 100), some (vI p)], [vI 0], mW τ (sS (sS ρ 0 0) 0 2))
              rw [sS_sS]
              show G (68, [some (vR 100), some (vI p)], [vI 0], mW τ (sS ρ 0 2))
              have hx : xAccept τ p = (2, 0, τ) := by unfold xAccept; (repeat' split) <;> first | rfl | (exfalso; omega) | (exfalso; simp_all; done) | (simp_all; done) | (exfalso; simp_all; omega)
              exact hR.rt rfl trivial (by rw [hx]) (by rw [hx])
            · replace c6 : (hasG (τ.2.2 0) (τ.1 1) (τ.1 9)) = true := bI1 c6
              try simp only [Bool.and_eq_true, Bool.or_eq_true, Bool.and_eq_false_iff, Bool.or_eq_false_iff, decide_eq_true_eq, decide_eq_false_iff_not] at c6
              refine hR.run0 4 (S' := (57, [some (vR 100), some (vI p)], [vI (τ.1 10), vI p, vR 100], mW τ (sS ρ 0 0))) rfl ?_
              refine hR.cv [vI p, vI (τ.1 10)] kX6_169 rfl rfl ⟨_, _, _, rfl, rfl, rfl⟩ (by first | decide | exact Nat.le_refl _) (by decide) (Nat.le_of_ble_eq_true rfl) rfl (sr_hasAll _ _ (by omega) (by omega) hh) ?_
              show G (60, [some (vR 100), some (vI p)], [vI (bI (hasG (τ.2.2 0) p (τ.1 10)))], mW τ (sS ρ 0 0))
              refine hR.br (C := bI (hasG (τ.2.2 0) p (τ.1 10)) ≠ 0) rfl (bI_r _) (fun c7 => ?_) (fun c7 => ?_)
              · replace c7 : (hasG (τ.2.2 0) p (τ.1 10)) = true := bI1 c7
                try simp only [Bool.and_eq_true, Bool.or_eq_true, Bool.and_eq_false_iff, Bool.or_eq_false_iff, decide_eq_true_eq, decide_eq_false_iff_not] at c7
                refine hR.run0 6 (S' := (79, [some (vR 100), some (vI p)], [vI (τ.1 9), vI p, vI (τ.1 1), vR 100], mW τ (sS ρ 0 0))) rfl ?_
                refine hR.cv [vI (τ.1 1), vI p, vI (τ.1 9)] kX6_172 rfl rfl ⟨_, _, _, rfl, rfl, rfl⟩ (by first | decide | exact Nat.le_refl _) (by decide) (Nat.le_of_ble_eq_true rfl) rfl (sr_gives _ _ (by omega) (by omega) (by omega)) ?_
                show G (82, [some (vR 100), some (vI p)], [], mW (mvA τ (τ.1 1) p (τ.1 9)) (sS ρ 0 0))
                have ez1 : (mvA τ (τ.1 1) p (τ.1 9)).1 1 = τ.1 1 := rfl
                refine hR.run0 6 (S' := (92, [some (vR 100), some (vI p)], [vI (τ.1 10), vI (τ.1 1), vI p, vR 100], mW (mvA τ (τ.1 1) p (τ.1 9)) (sS ρ 0 0))) rfl ?_
                refine hR.cv [vI p, vI (τ.1 1), vI (τ.1 10)] kX6_172 rfl rfl ⟨_, _, _, rfl, rfl, rfl⟩ (by first | decide | exact Nat.le_refl _) (by decide) (Nat.le_of_ble_eq_true rfl) rfl (sr_gives _ _ (by omega) (by omega) (by omega)) ?_
                show G (95, [some (vR 100), some (vI p)], [], mW (mvA (mvA τ (τ.1 1) p (τ.1 9)) p (τ.1 1) (τ.1 10)) (sS ρ 0 0))
                have ez2 : (mvA (mvA τ (τ.1 1) p (τ.1 9)) p (τ.1 1) (τ.1 10)).1 1 = τ.1 1 := rfl
                refine hR.run0 1 (S' := (96, [some (vR 100), some (vI p)], [vR 100], mW (mvA (mvA τ (τ.1 1) p (τ.1 9)) p (τ.1 1) (τ.1 10)) (sS ρ 0 0))) rfl ?_
                refine hR.cv [] kX6_246 rfl rfl ⟨_, _, _, rfl, rfl, rfl⟩ (by first | decide | exact Nat.le_refl _) (by decide) (Nat.le_of_ble_eq_true rfl) rfl (sr_endsOffers _ _) ?_
                show G (99, [some (vR 100), some (vI p)], [], mW (ofS (mvA (mvA τ (τ.1 1) p (τ.1 9)) p (τ.1 1) (τ.1 10)) 0 0) (sS ρ 0 0))
                have ez3 : (ofS (mvA (mvA τ (τ.1 1) p (τ.1 9)) p (τ.1 1) (τ.1 10)) 0 0).1 1 = τ.1 1 := rfl
                refine hR.run0 2 (S' := (101, [some (vR 100), some (vI p)], [vI p, vR 100], mW (ofS (mvA (mvA τ (τ.1 1) p (τ.1 9)) p (τ.1 1) (τ.1 10)) 0 0) (sS ρ 0 0))) rfl ?_
                rw [show ofS (mvA (mvA τ (τ.1 1) p (τ.1 9)) p (τ.1 1) (τ.1 10)) 0 0 = excS τ p (τ.1 10) (τ.1 9) from by unfold excS; rw [mvA_comm]]
                refine hR.cv [vI p] kX6_175 rfl rfl ⟨_, _, _, rfl, rfl, rfl⟩ (by first | decide | exact Nat.le_refl _) (by decide) (Nat.le_of_ble_eq_true rfl) rfl (sr_handOf _ _ (by omega) (HH_mvA (HH_mvA hI.hH (by omega) (by omega) (by assumption)) (by omega) (by omega) (hasG_mvA (by assumption))).1) ?_
                show G (104, [some (vR 100), some (vI p)], [vI (tot ((excS τ p (τ.1 10) (τ.1 9)).2.2 0) p)], mW (excS τ p (τ.1 10) (τ.1 9)) (sS ρ 0 0))
                have hx : xAccept τ p = (0, tot ((excS τ p (τ.1 10) (τ.1 9)).2.2 0) p, excS τ p (τ.1 10) (τ.1 9)) := by unfold xAccept; (repeat' split) <;> first | rfl | (exfalso; omega) | (exfalso; simp_all; done) | (simp_all; done) | (exfalso; simp_all; omega)
                exact hR.rt rfl trivial (by rw [hx]) (by rw [hx])
              · replace c7 : (hasG (τ.2.2 0) p (τ.1 10)) = false := bI0 (Classical.not_not.mp c7)
                try simp only [Bool.and_eq_true, Bool.or_eq_true, Bool.and_eq_false_iff, Bool.or_eq_false_iff, decide_eq_true_eq, decide_eq_false_iff_not] at c7
                refine hR.run0 2 (S' := (65, [some (vR 100), some (vI p)], [vI 2, vR 100], mW τ (sS ρ 0 0))) rfl ?_
                refine hR.cv [vI 2] kX6_149 rfl rfl ⟨_, _, _, rfl, rfl, rfl⟩ (by first | decide | exact Nat.le_refl _) (by decide) (Nat.le_of_ble_eq_true rfl) rfl (sr_fails _ _ _) ?_
                show G (68, [some (vR 100), some (vI p)], [vI 0], mW τ (sS (sS ρ 0 0) 0 2))
                rw [sS_sS]
                show G (68, [some (vR 100), some (vI p)], [vI 0], mW τ (sS ρ 0 2))
                have hx : xAccept τ p = (2, 0, τ) := by unfold xAccept; (repeat' split) <;> first | rfl | (exfalso; omega) | (exfalso; simp_all; done) | (simp_all; done) | (exfalso; simp_all; omega)
                exact hR.rt rfl trivial (by rw [hx]) (by rw [hx])
    · exfalso; omega
  · replace q1 := Bool.eq_false_iff.mpr q1
    have q1b := q1
    try simp only [Bool.and_eq_true, Bool.or_eq_true, Bool.and_eq_false_iff, Bool.or_eq_false_iff, decide_eq_true_eq, decide_eq_false_iff_not] at q1
    refine hR.cv [vI (bI (decide (0 ≤ p) && decide (p < 3)))] kX6_127 rfl rfl ⟨_, _, _, rfl, rfl, rfl⟩ (by first | decide | exact Nat.le_refl _) (by decide) (Nat.le_of_ble_eq_true rfl) rfl (sr_asksb_f _ _ q1b) ?_
    show G (8, [some (vR 100), some (vI p)], [vI 0], mW τ (sS ρ 0 1))
    refine hR.br (C := 0 ≠ 0) rfl (by first | omega | (dsimp only [plus1]; omega) | (simp [plus1, sHt, sH, sS, sAt, sA, sup]; done) | (simp [plus1, sHt, sH, sS, sAt, sA, sup]; omega)) (fun c8 => ?_) (fun c8 => ?_)
    · exfalso; omega
    refine hR.run0 1 (S' := (12, [some (vR 100), some (vI p)], [vI 0], mW τ (sS ρ 0 1))) rfl ?_
    have hx : xAccept τ p = (1, 0, τ) := by unfold xAccept; (repeat' split) <;> first | rfl | (exfalso; omega) | (exfalso; simp_all; done) | (simp_all; done) | (exfalso; simp_all; omega)
    exact hR.rt rfl trivial (by rw [hx]) (by rw [hx])
theorem pX6_agree (τ ρ : St) {p : Int} (hp : -2147483648 ≤ p ∧ p ≤ 2147483647) (hI : Iv τ)  : Sp mX6_agree roC 2 [vR 100, vI p] (mW τ ρ) (.inl (some (vI (xAgree τ p).2.1))) (mW (xAgree τ p).2.2 (sS ρ 0 (xAgree τ p).1)) := by
  have hb := hI.hb
  have hr := hI.hr
  have hg := hI.hg
  have hn := hI.hn
  have h7 := hI.h7
  have hh := hI.hh
  have hsm := hI.hsm
  have hcd := hI.hcd
  have hfr := hI.hfr
  have hkn := hI.hkn
  have hbo := hI.hbo
  have hus := hI.hus
  have hro := hI.hro
  have har := hI.har
  have hth := hI.hth
  have hph := hI.hph
  have htu := hI.htu
  have hrb := hI.hrb
  have hpl := hI.hpl
  have hdu := hI.hdu
  have hdp := hI.hdp
  have hof := hI.hof
  have how := hI.how
  have hga := hI.hga
  have hwa := hI.hwa
  have hck := hI.hck
  have hkz := hI.hkz
  have hcb := hI.hcb
  have hfb := hI.hfb
  have hnr := hI.hnr
  have hpq := hI.hpq
  have hrc := hI.hrc
  have hbc := hI.hbc
  have hcc := hI.hcc
  have hac := hI.hac
  refine Sp.of (lk := lkX6) (tb := bX6_agree) (by decide) lkX6_ok tX6_agree (mW_keys _ _ _ _) (Nat.le_of_ble_eq_true rfl) (fun G hR => ?_)
  refine hR.run0 2 (S' := (2, [some (vR 100), some (vI p), none, none], [vI p, vR 100], mW τ ρ)) rfl ?_
  refine hR.cs [vI p] kX6_159 rfl rfl (by first | decide | exact Nat.le_refl _) (by decide) (Nat.le_of_ble_eq_true rfl) rfl (sr_isPlayer _ _ (by omega)) ?_
  show G (5, [some (vR 100), some (vI p), none, none], [vI (bI (decide (0 ≤ p) && decide (p < 3))), vR 100], mW τ ρ)
  by_cases q1 : (decide (0 ≤ p) && decide (p < 3)) = true
  · skip
    have q1b := q1
    try simp only [Bool.and_eq_true, Bool.or_eq_true, Bool.and_eq_false_iff, Bool.or_eq_false_iff, decide_eq_true_eq, decide_eq_false_iff_not] at q1
    refine hR.cv [vI (bI (decide (0 ≤ p) && decide (p < 3)))] kX6_127 rfl rfl ⟨_, _, _, rfl, rfl, rfl⟩ (by first | decide | exact Nat.le_refl _) (by decide) (Nat.le_of_ble_eq_true rfl) rfl (sr_asksb_t _ _ q1b) ?_
    show G (8, [some (vR 100), some (vI p), none, none], [vI 1], mW τ (sS ρ 0 0))
    refine hR.br (C := 1 ≠ 0) rfl (by first | omega | (dsimp only [plus1]; omega) | (simp [plus1, sHt, sH, sS, sAt, sA, sup]; done) | (simp [plus1, sHt, sH, sS, sAt, sA, sup]; omega)) (fun c2 => ?_) (fun c2 => ?_)
    · skip
      refine hR.run0 3 (S' := (18, [some (vR 100), some (vI p), none, none], [vI 2, vI (τ.1 0)], mW τ (sS ρ 0 0))) rfl ?_
      refine hR.br (C := τ.1 0 ≠ 2) rfl (by first | omega | (dsimp only [plus1]; omega) | (simp [plus1, sHt, sH, sS, sAt, sA, sup]; done) | (simp [plus1, sHt, sH, sS, sAt, sA, sup]; omega)) (fun c3 => ?_) (fun c3 => ?_)
      · skip
        refine hR.run0 2 (S' := (63, [some (vR 100), some (vI p), none, none], [vI 2, vR 100], mW τ (sS ρ 0 0))) rfl ?_
        refine hR.cv [vI 2] kX6_149 rfl rfl ⟨_, _, _, rfl, rfl, rfl⟩ (by first | decide | exact Nat.le_refl _) (by decide) (Nat.le_of_ble_eq_true rfl) rfl (sr_fails _ _ _) ?_
        show G (66, [some (vR 100), some (vI p), none, none], [vI 0], mW τ (sS (sS ρ 0 0) 0 2))
        rw [sS_sS]
        show G (66, [some (vR 100), some (vI p), none, none], [vI 0], mW τ (sS ρ 0 2))
        have hx : xAgree τ p = (2, 0, τ) := by unfold xAgree; (repeat' split) <;> first | rfl | (exfalso; omega) | (exfalso; simp_all; done) | (simp_all; done) | (exfalso; simp_all; omega)
        exact hR.rt rfl trivial (by rw [hx]) (by rw [hx])
      · skip
        have f1 := hga p
        refine hR.run1 4 (S' := (27, [some (vR 100), some (vI p), none, none], [vI (τ.2.1 7 p)], mW τ (sS ρ 0 0))) rfl (by first | omega | (dsimp only [plus1]; omega) | (simp [plus1, sHt, sH, sS, sAt, sA, sup]; done) | (simp [plus1, sHt, sH, sS, sAt, sA, sup]; omega)) ?_
        refine hR.br (C := τ.2.1 7 p = 0) rfl (by first | omega | (dsimp only [plus1]; omega) | (simp [plus1, sHt, sH, sS, sAt, sA, sup]; done) | (simp [plus1, sHt, sH, sS, sAt, sA, sup]; omega)) (fun c4 => ?_) (fun c4 => ?_)
        · skip
          refine hR.run0 2 (S' := (63, [some (vR 100), some (vI p), none, none], [vI 2, vR 100], mW τ (sS ρ 0 0))) rfl ?_
          refine hR.cv [vI 2] kX6_149 rfl rfl ⟨_, _, _, rfl, rfl, rfl⟩ (by first | decide | exact Nat.le_refl _) (by decide) (Nat.le_of_ble_eq_true rfl) rfl (sr_fails _ _ _) ?_
          show G (66, [some (vR 100), some (vI p), none, none], [vI 0], mW τ (sS (sS ρ 0 0) 0 2))
          rw [sS_sS]
          show G (66, [some (vR 100), some (vI p), none, none], [vI 0], mW τ (sS ρ 0 2))
          have hx : xAgree τ p = (2, 0, τ) := by unfold xAgree; (repeat' split) <;> first | rfl | (exfalso; omega) | (exfalso; simp_all; done) | (simp_all; done) | (exfalso; simp_all; omega)
          exact hR.rt rfl trivial (by rw [hx]) (by rw [hx])
        · skip
          have f2 := hga p
          refine hR.run1 6 (S' := (38, [some (vR 100), some (vI p), none, none], [vI (τ.2.1 7 p), vI p, vR 100], mW τ (sS ρ 0 0))) rfl (by first | omega | (dsimp only [plus1]; omega) | (simp [plus1, sHt, sH, sS, sAt, sA, sup]; done) | (simp [plus1, sHt, sH, sS, sAt, sA, sup]; omega)) ?_
          refine hR.cv [vI p, vI (τ.2.1 7 p)] kX6_169 rfl rfl ⟨_, _, _, rfl, rfl, rfl⟩ (by first | decide | exact Nat.le_refl _) (by decide) (Nat.le_of_ble_eq_true rfl) rfl (sr_hasAll _ _ (by omega) (by omega) hh) ?_
          show G (41, [some (vR 100), some (vI p), none, none], [vI (bI (hasG (τ.2.2 0) p (τ.2.1 7 p)))], mW τ (sS ρ 0 0))
          refine hR.br (C := bI (hasG (τ.2.2 0) p (τ.2.1 7 p)) = 0) rfl (bI_r _) (fun c5 => ?_) (fun c5 => ?_)
          · replace c5 : (hasG (τ.2.2 0) p (τ.2.1 7 p)) = false := bI0 c5
            try simp only [Bool.and_eq_true, Bool.or_eq_true, Bool.and_eq_false_iff, Bool.or_eq_false_iff, decide_eq_true_eq, decide_eq_false_iff_not] at c5
            refine hR.run0 2 (S' := (63, [some (vR 100), some (vI p), none, none], [vI 2, vR 100], mW τ (sS ρ 0 0))) rfl ?_
            refine hR.cv [vI 2] kX6_149 rfl rfl ⟨_, _, _, rfl, rfl, rfl⟩ (by first | decide | exact Nat.le_refl _) (by decide) (Nat.le_of_ble_eq_true rfl) rfl (sr_fails _ _ _) ?_
            show G (66, [some (vR 100), some (vI p), none, none], [vI 0], mW τ (sS (sS ρ 0 0) 0 2))
            rw [sS_sS]
            show G (66, [some (vR 100), some (vI p), none, none], [vI 0], mW τ (sS ρ 0 2))
            have hx : xAgree τ p = (2, 0, τ) := by unfold xAgree; (repeat' split) <;> first | rfl | (exfalso; omega) | (exfalso; simp_all; done) | (simp_all; done) | (exfalso; simp_all; omega)
            exact hR.rt rfl trivial (by rw [hx]) (by rw [hx])
          · replace c5 : (hasG (τ.2.2 0) p (τ.2.1 7 p)) = true := bI1 c5
            try simp only [Bool.and_eq_true, Bool.or_eq_true, Bool.and_eq_false_iff, Bool.or_eq_false_iff, decide_eq_true_eq, decide_eq_false_iff_not] at c5
            have f3 := hwa p
            refine hR.run1 7 (S' := (55, [some (vR 100), some (vI p), none, none], [vI (τ.2.1 8 p), vI (τ.1 1), vR 100], mW τ (sS ρ 0 0))) rfl (by first | omega | (dsimp only [plus1]; omega) | (simp [plus1, sHt, sH, sS, sAt, sA, sup]; done) | (simp [plus1, sHt, sH, sS, sAt, sA, sup]; omega)) ?_
            refine hR.cv [vI (τ.1 1), vI (τ.2.1 8 p)] kX6_169 rfl rfl ⟨_, _, _, rfl, rfl, rfl⟩ (by first | decide | exact Nat.le_refl _) (by decide) (Nat.le_of_ble_eq_true rfl) rfl (sr_hasAll _ _ (by omega) (by omega) hh) ?_
            show G (58, [some (vR 100), some (vI p), none, none], [vI (bI (hasG (τ.2.2 0) (τ.1 1) (τ.2.1 8 p)))], mW τ (sS ρ 0 0))
            refine hR.br (C := bI (hasG (τ.2.2 0) (τ.1 1) (τ.2.1 8 p)) ≠ 0) rfl (bI_r _) (fun c6 => ?_) (fun c6 => ?_)
            · replace c6 : (hasG (τ.2.2 0) (τ.1 1) (τ.2.1 8 p)) = true := bI1 c6
              try simp only [Bool.and_eq_true, Bool.or_eq_true, Bool.and_eq_false_iff, Bool.or_eq_false_iff, decide_eq_true_eq, decide_eq_false_iff_not] at c6
              have f4 := hga p
              have f5 := hwa p
              refine hR.run1 15 (S' := (88, [some (vR 100), some (vI p), some (vI (τ.2.1 7 p)), some (vI (τ.2.1 8 p))], [vI (τ.2.1 7 p), vI (τ.1 1), vI p, vR 100], mW τ (sS ρ 0 0))) rfl (by first | omega | (dsimp only [plus1]; omega) | (simp [plus1, sHt, sH, sS, sAt, sA, sup]; done) | (simp [plus1, sHt, sH, sS, sAt, sA, sup]; omega)) ?_
              refine hR.cv [vI p, vI (τ.1 1), vI (τ.2.1 7 p)] kX6_172 rfl rfl ⟨_, _, _, rfl, rfl, rfl⟩ (by first | decide | exact Nat.le_refl _) (by decide) (Nat.le_of_ble_eq_true rfl) rfl (sr_gives _ _ (by omega) (by omega) (by omega)) ?_
              show G (91, [some (vR 100), some (vI p), some (vI (τ.2.1 7 p)), some (vI (τ.2.1 8 p))], [], mW (mvA τ p (τ.1 1) (τ.2.1 7 p)) (sS ρ 0 0))
              have ez6 : (mvA τ p (τ.1 1) (τ.2.1 7 p)).1 1 = τ.1 1 := rfl
              refine hR.run0 5 (S' := (98, [some (vR 100), some (vI p), some (vI (τ.2.1 7 p)), some (vI (τ.2.1 8 p))], [vI (τ.2.1 8 p), vI p, vI (τ.1 1), vR 100], mW (mvA τ p (τ.1 1) (τ.2.1 7 p)) (sS ρ 0 0))) rfl ?_
              refine hR.cv [vI (τ.1 1), vI p, vI (τ.2.1 8 p)] kX6_172 rfl rfl ⟨_, _, _, rfl, rfl, rfl⟩ (by first | decide | exact Nat.le_refl _) (by decide) (Nat.le_of_ble_eq_true rfl) rfl (sr_gives _ _ (by omega) (by omega) (by omega)) ?_
              show G (101, [some (vR 100), some (vI p), some (vI (τ.2.1 7 p)), some (vI (τ.2.1 8 p))], [], mW (mvA (mvA τ p (τ.1 1) (τ.2.1 7 p)) (τ.1 1) p (τ.2.1 8 p)) (sS ρ 0 0))
              have ez7 : (mvA (mvA τ p (τ.1 1) (τ.2.1 7 p)) (τ.1 1) p (τ.2.1 8 p)).1 1 = τ.1 1 := rfl
              refine hR.run0 1 (S' := (102, [some (vR 100), some (vI p), some (vI (τ.2.1 7 p)), some (vI (τ.2.1 8 p))], [vR 100], mW (mvA (mvA τ p (τ.1 1) (τ.2.1 7 p)) (τ.1 1) p (τ.2.1 8 p)) (sS ρ 0 0))) rfl ?_
              refine hR.cv [] kX6_246 rfl rfl ⟨_, _, _, rfl, rfl, rfl⟩ (by first | decide | exact Nat.le_refl _) (by decide) (Nat.le_of_ble_eq_true rfl) rfl (sr_endsOffers _ _) ?_
              show G (105, [some (vR 100), some (vI p), some (vI (τ.2.1 7 p)), some (vI (τ.2.1 8 p))], [], mW (ofS (mvA (mvA τ p (τ.1 1) (τ.2.1 7 p)) (τ.1 1) p (τ.2.1 8 p)) 0 0) (sS ρ 0 0))
              have ez8 : (ofS (mvA (mvA τ p (τ.1 1) (τ.2.1 7 p)) (τ.1 1) p (τ.2.1 8 p)) 0 0).1 1 = τ.1 1 := rfl
              refine hR.run0 3 (S' := (110, [some (vR 100), some (vI p), some (vI (τ.2.1 7 p)), some (vI (τ.2.1 8 p))], [vI (τ.1 1), vR 100], mW (ofS (mvA (mvA τ p (τ.1 1) (τ.2.1 7 p)) (τ.1 1) p (τ.2.1 8 p)) 0 0) (sS ρ 0 0))) rfl ?_
              rw [show ofS (mvA (mvA τ p (τ.1 1) (τ.2.1 7 p)) (τ.1 1) p (τ.2.1 8 p)) 0 0 = excS τ p (τ.2.1 7 p) (τ.2.1 8 p) from rfl]
              refine hR.cv [vI (τ.1 1)] kX6_175 rfl rfl ⟨_, _, _, rfl, rfl, rfl⟩ (by first | decide | exact Nat.le_refl _) (by decide) (Nat.le_of_ble_eq_true rfl) rfl (sr_handOf _ _ (by omega) (HH_mvA (HH_mvA hI.hH (by omega) (by omega) (by assumption)) (by omega) (by omega) (hasG_mvA (by assumption))).1) ?_
              show G (113, [some (vR 100), some (vI p), some (vI (τ.2.1 7 p)), some (vI (τ.2.1 8 p))], [vI (tot ((excS τ p (τ.2.1 7 p) (τ.2.1 8 p)).2.2 0) (τ.1 1))], mW (excS τ p (τ.2.1 7 p) (τ.2.1 8 p)) (sS ρ 0 0))
              have hx : xAgree τ p = (0, tot ((excS τ p (τ.2.1 7 p) (τ.2.1 8 p)).2.2 0) (τ.1 1), excS τ p (τ.2.1 7 p) (τ.2.1 8 p)) := by unfold xAgree; (repeat' split) <;> first | rfl | (exfalso; omega) | (exfalso; simp_all; done) | (simp_all; done) | (exfalso; simp_all; omega)
              exact hR.rt rfl trivial (by rw [hx]) (by rw [hx])
            · replace c6 : (hasG (τ.2.2 0) (τ.1 1) (τ.2.1 8 p)) = false := bI0 (Classical.not_not.mp c6)
              try simp only [Bool.and_eq_true, Bool.or_eq_true, Bool.and_eq_false_iff, Bool.or_eq_false_iff, decide_eq_true_eq, decide_eq_false_iff_not] at c6
              refine hR.run0 2 (S' := (63, [some (vR 100), some (vI p), none, none], [vI 2, vR 100], mW τ (sS ρ 0 0))) rfl ?_
              refine hR.cv [vI 2] kX6_149 rfl rfl ⟨_, _, _, rfl, rfl, rfl⟩ (by first | decide | exact Nat.le_refl _) (by decide) (Nat.le_of_ble_eq_true rfl) rfl (sr_fails _ _ _) ?_
              show G (66, [some (vR 100), some (vI p), none, none], [vI 0], mW τ (sS (sS ρ 0 0) 0 2))
              rw [sS_sS]
              show G (66, [some (vR 100), some (vI p), none, none], [vI 0], mW τ (sS ρ 0 2))
              have hx : xAgree τ p = (2, 0, τ) := by unfold xAgree; (repeat' split) <;> first | rfl | (exfalso; omega) | (exfalso; simp_all; done) | (simp_all; done) | (exfalso; simp_all; omega)
              exact hR.rt rfl trivial (by rw [hx]) (by rw [hx])
    · exfalso; omega
  · replace q1 := Bool.eq_false_iff.mpr q1
    have q1b := q1
    try simp only [Bool.and_eq_true, Bool.or_eq_true, Bool.and_eq_false_iff, Bool.or_eq_false_iff, decide_eq_true_eq, decide_eq_false_iff_not] at q1
    refine hR.cv [vI (bI (decide (0 ≤ p) && decide (p < 3)))] kX6_127 rfl rfl ⟨_, _, _, rfl, rfl, rfl⟩ (by first | decide | exact Nat.le_refl _) (by decide) (Nat.le_of_ble_eq_true rfl) rfl (sr_asksb_f _ _ q1b) ?_
    show G (8, [some (vR 100), some (vI p), none, none], [vI 0], mW τ (sS ρ 0 1))
    refine hR.br (C := 0 ≠ 0) rfl (by first | omega | (dsimp only [plus1]; omega) | (simp [plus1, sHt, sH, sS, sAt, sA, sup]; done) | (simp [plus1, sHt, sH, sS, sAt, sA, sup]; omega)) (fun c7 => ?_) (fun c7 => ?_)
    · exfalso; omega
    refine hR.run0 1 (S' := (12, [some (vR 100), some (vI p), none, none], [vI 0], mW τ (sS ρ 0 1))) rfl ?_
    have hx : xAgree τ p = (1, 0, τ) := by unfold xAgree; (repeat' split) <;> first | rfl | (exfalso; omega) | (exfalso; simp_all; done) | (simp_all; done) | (exfalso; simp_all; omega)
    exact hR.rt rfl trivial (by rw [hx]) (by rw [hx])
theorem pX6_endTurn (τ ρ : St)  (hI : Iv τ)  : Sp mX6_endTurn roC 4 [vR 100] (mW τ ρ) (.inl (some (vI (xEnd τ).2.1))) (mW (xEnd τ).2.2 (sS ρ 0 (xEnd τ).1)) := by
  have hb := hI.hb
  have hr := hI.hr
  have hg := hI.hg
  have hn := hI.hn
  have h7 := hI.h7
  have hh := hI.hh
  have hsm := hI.hsm
  have hcd := hI.hcd
  have hfr := hI.hfr
  have hkn := hI.hkn
  have hbo := hI.hbo
  have hus := hI.hus
  have hro := hI.hro
  have har := hI.har
  have hth := hI.hth
  have hph := hI.hph
  have htu := hI.htu
  have hrb := hI.hrb
  have hpl := hI.hpl
  have hdu := hI.hdu
  have hdp := hI.hdp
  have hof := hI.hof
  have how := hI.how
  have hga := hI.hga
  have hwa := hI.hwa
  have hck := hI.hck
  have hkz := hI.hkz
  have hcb := hI.hcb
  have hfb := hI.hfb
  have hnr := hI.hnr
  have hpq := hI.hpq
  have hrc := hI.hrc
  have hbc := hI.hbc
  have hcc := hI.hcc
  have hac := hI.hac
  refine Sp.of (lk := lkX6) (tb := bX6_endTurn) (by decide) lkX6_ok tX6_endTurn (mW_keys _ _ _ _) (Nat.le_of_ble_eq_true rfl) (fun G hR => ?_)
  refine hR.run0 4 (S' := (6, [some (vR 100), none], [vI 2, vI (τ.1 0), vR 100], mW τ ρ)) rfl ?_
  refine hR.br (C := τ.1 0 ≠ 2) rfl (by first | omega | (dsimp only [plus1]; omega) | (simp [plus1, sHt, sH, sS, sAt, sA, sup]; done) | (simp [plus1, sHt, sH, sS, sAt, sA, sup]; omega)) (fun c1 => ?_) (fun c1 => ?_)
  · skip
    refine hR.run0 1 (S' := (14, [some (vR 100), none], [vI 0, vR 100], mW τ ρ)) rfl ?_
    refine hR.cv [vI 0] kX6_127 rfl rfl ⟨_, _, _, rfl, rfl, rfl⟩ (by first | decide | exact Nat.le_refl _) (by decide) (Nat.le_of_ble_eq_true rfl) rfl (sr_asks_f _ _) ?_
    show G (17, [some (vR 100), none], [vI 0], mW τ (sS ρ 0 1))
    refine hR.br (C := 0 ≠ 0) rfl (by first | omega | (dsimp only [plus1]; omega) | (simp [plus1, sHt, sH, sS, sAt, sA, sup]; done) | (simp [plus1, sHt, sH, sS, sAt, sA, sup]; omega)) (fun c2 => ?_) (fun c2 => ?_)
    · exfalso; omega
    refine hR.run0 1 (S' := (21, [some (vR 100), none], [vI 0], mW τ (sS ρ 0 1))) rfl ?_
    have hx : xEnd τ = (1, 0, τ) := by unfold xEnd; (repeat' split) <;> first | rfl | (exfalso; omega) | (exfalso; simp_all; done) | (simp_all; done) | (exfalso; simp_all; omega)
    exact hR.rt rfl trivial (by rw [hx]) (by rw [hx])
  · skip
    refine hR.run0 2 (S' := (14, [some (vR 100), none], [vI 1, vR 100], mW τ ρ)) rfl ?_
    refine hR.cv [vI 1] kX6_127 rfl rfl ⟨_, _, _, rfl, rfl, rfl⟩ (by first | decide | exact Nat.le_refl _) (by decide) (Nat.le_of_ble_eq_true rfl) rfl (sr_asks_t _ _) ?_
    show G (17, [some (vR 100), none], [vI 1], mW τ (sS ρ 0 0))
    refine hR.br (C := 1 ≠ 0) rfl (by first | omega | (dsimp only [plus1]; omega) | (simp [plus1, sHt, sH, sS, sAt, sA, sup]; done) | (simp [plus1, sHt, sH, sS, sAt, sA, sup]; omega)) (fun c3 => ?_) (fun c3 => ?_)
    · skip
      refine hR.run0 1 (S' := (23, [some (vR 100), none], [vR 100], mW τ (sS ρ 0 0))) rfl ?_
      refine hR.cv [] kX6_246 rfl rfl ⟨_, _, _, rfl, rfl, rfl⟩ (by first | decide | exact Nat.le_refl _) (by decide) (Nat.le_of_ble_eq_true rfl) rfl (sr_endsOffers _ _) ?_
      show G (26, [some (vR 100), none], [], mW (ofS τ 0 0) (sS ρ 0 0))
      have ez1 : (ofS τ 0 0).1 1 = τ.1 1 := rfl
      refine hR.run1 3 (S' := (31, [some (vR 100), none], [], pset (mW (ofS τ 0 0) (sS ρ 0 0)) 100 (.inr (6, [vR 101, vR 102, vI ((ofS τ 0 0).1 5), vR 103, vR 104, vR 105, vR 106, vI ((ofS τ 0 0).1 0), vI ((ofS τ 0 0).1 1), vI ((ofS τ 0 0).1 2), vI ((ofS τ 0 0).1 3), vR 107, vR 108, vI ((ofS τ 0 0).1 6), vI 0, vR 109, vI ((ofS τ 0 0).1 8), vI ((ofS τ 0 0).1 4), vI ((ofS τ 0 0).1 9), vI ((ofS τ 0 0).1 10), vR 110, vR 111, vR 112, vR 113, vR 114, vI ((sS ρ 0 0).1 0)])))) rfl (by first | omega | (dsimp only [plus1]; omega) | (simp [plus1, sHt, sH, sS, sAt, sA, sup]; done) | (simp [plus1, sHt, sH, sS, sAt, sA, sup]; omega)) ?_
      rw [mW_s7]
      refine hR.run0 4 (S' := (35, [some (vR 100), some (vI 0)], [vI 5, vI 0], mW (sS (ofS τ 0 0) 7 0) (sS ρ 0 0))) rfl ?_
      refine hR.br (C := 5 ≤ 0) rfl (by first | omega | (dsimp only [plus1]; omega) | (simp [plus1, sHt, sH, sS, sAt, sA, sup]; done) | (simp [plus1, sHt, sH, sS, sAt, sA, sup]; omega)) (fun c4 => ?_) (fun c4 => ?_)
      · exfalso; omega
      refine hR.run1 5 (S' := (45, [some (vR 100), some (vI 0)], [], pset (mW (sS (ofS τ 0 0) 7 0) (sS ρ 0 0)) 108 (.inl (5, .inl (pup ((sS (ofS τ 0 0) 7 0).2.1 5) 0 0))))) rfl (by first | omega | (dsimp only [plus1]; omega) | (simp [plus1, sHt, sH, sS, sAt, sA, sup]; done) | (simp [plus1, sHt, sH, sS, sAt, sA, sup]; omega)) ?_
      rw [mW_a5]
      refine hR.run0 4 (S' := (35, [some (vR 100), some (vI 1)], [vI 5, vI 1], mW (sAt (sS (ofS τ 0 0) 7 0) 5 0 0) (sS ρ 0 0))) rfl ?_
      refine hR.br (C := 5 ≤ 1) rfl (by first | omega | (dsimp only [plus1]; omega) | (simp [plus1, sHt, sH, sS, sAt, sA, sup]; done) | (simp [plus1, sHt, sH, sS, sAt, sA, sup]; omega)) (fun c5 => ?_) (fun c5 => ?_)
      · exfalso; omega
      refine hR.run1 5 (S' := (45, [some (vR 100), some (vI 1)], [], pset (mW (sAt (sS (ofS τ 0 0) 7 0) 5 0 0) (sS ρ 0 0)) 108 (.inl (5, .inl (pup ((sAt (sS (ofS τ 0 0) 7 0) 5 0 0).2.1 5) 1 0))))) rfl (by first | omega | (dsimp only [plus1]; omega) | (simp [plus1, sHt, sH, sS, sAt, sA, sup]; done) | (simp [plus1, sHt, sH, sS, sAt, sA, sup]; omega)) ?_
      rw [mW_a5]
      refine hR.run0 4 (S' := (35, [some (vR 100), some (vI 2)], [vI 5, vI 2], mW (sAt (sAt (sS (ofS τ 0 0) 7 0) 5 0 0) 5 1 0) (sS ρ 0 0))) rfl ?_
      refine hR.br (C := 5 ≤ 2) rfl (by first | omega | (dsimp only [plus1]; omega) | (simp [plus1, sHt, sH, sS, sAt, sA, sup]; done) | (simp [plus1, sHt, sH, sS, sAt, sA, sup]; omega)) (fun c6 => ?_) (fun c6 => ?_)
      · exfalso; omega
      refine hR.run1 5 (S' := (45, [some (vR 100), some (vI 2)], [], pset (mW (sAt (sAt (sS (ofS τ 0 0) 7 0) 5 0 0) 5 1 0) (sS ρ 0 0)) 108 (.inl (5, .inl (pup ((sAt (sAt (sS (ofS τ 0 0) 7 0) 5 0 0) 5 1 0).2.1 5) 2 0))))) rfl (by first | omega | (dsimp only [plus1]; omega) | (simp [plus1, sHt, sH, sS, sAt, sA, sup]; done) | (simp [plus1, sHt, sH, sS, sAt, sA, sup]; omega)) ?_
      rw [mW_a5]
      refine hR.run0 4 (S' := (35, [some (vR 100), some (vI 3)], [vI 5, vI 3], mW (sAt (sAt (sAt (sS (ofS τ 0 0) 7 0) 5 0 0) 5 1 0) 5 2 0) (sS ρ 0 0))) rfl ?_
      refine hR.br (C := 5 ≤ 3) rfl (by first | omega | (dsimp only [plus1]; omega) | (simp [plus1, sHt, sH, sS, sAt, sA, sup]; done) | (simp [plus1, sHt, sH, sS, sAt, sA, sup]; omega)) (fun c7 => ?_) (fun c7 => ?_)
      · exfalso; omega
      refine hR.run1 5 (S' := (45, [some (vR 100), some (vI 3)], [], pset (mW (sAt (sAt (sAt (sS (ofS τ 0 0) 7 0) 5 0 0) 5 1 0) 5 2 0) (sS ρ 0 0)) 108 (.inl (5, .inl (pup ((sAt (sAt (sAt (sS (ofS τ 0 0) 7 0) 5 0 0) 5 1 0) 5 2 0).2.1 5) 3 0))))) rfl (by first | omega | (dsimp only [plus1]; omega) | (simp [plus1, sHt, sH, sS, sAt, sA, sup]; done) | (simp [plus1, sHt, sH, sS, sAt, sA, sup]; omega)) ?_
      rw [mW_a5]
      refine hR.run0 4 (S' := (35, [some (vR 100), some (vI 4)], [vI 5, vI 4], mW (sAt (sAt (sAt (sAt (sS (ofS τ 0 0) 7 0) 5 0 0) 5 1 0) 5 2 0) 5 3 0) (sS ρ 0 0))) rfl ?_
      refine hR.br (C := 5 ≤ 4) rfl (by first | omega | (dsimp only [plus1]; omega) | (simp [plus1, sHt, sH, sS, sAt, sA, sup]; done) | (simp [plus1, sHt, sH, sS, sAt, sA, sup]; omega)) (fun c8 => ?_) (fun c8 => ?_)
      · exfalso; omega
      refine hR.run1 5 (S' := (45, [some (vR 100), some (vI 4)], [], pset (mW (sAt (sAt (sAt (sAt (sS (ofS τ 0 0) 7 0) 5 0 0) 5 1 0) 5 2 0) 5 3 0) (sS ρ 0 0)) 108 (.inl (5, .inl (pup ((sAt (sAt (sAt (sAt (sS (ofS τ 0 0) 7 0) 5 0 0) 5 1 0) 5 2 0) 5 3 0).2.1 5) 4 0))))) rfl (by first | omega | (dsimp only [plus1]; omega) | (simp [plus1, sHt, sH, sS, sAt, sA, sup]; done) | (simp [plus1, sHt, sH, sS, sAt, sA, sup]; omega)) ?_
      rw [mW_a5]
      refine hR.run0 4 (S' := (35, [some (vR 100), some (vI 5)], [vI 5, vI 5], mW (sAt (sAt (sAt (sAt (sAt (sS (ofS τ 0 0) 7 0) 5 0 0) 5 1 0) 5 2 0) 5 3 0) 5 4 0) (sS ρ 0 0))) rfl ?_
      refine hR.br (C := 5 ≤ 5) rfl (by first | omega | (dsimp only [plus1]; omega) | (simp [plus1, sHt, sH, sS, sAt, sA, sup]; done) | (simp [plus1, sHt, sH, sS, sAt, sA, sup]; omega)) (fun c9 => ?_) (fun c9 => ?_)
      · skip
        refine hR.run1 8 (S' := (63, [some (vR 100), some (vI 5)], [], pset (mW (sAt (sAt (sAt (sAt (sAt (sS (ofS τ 0 0) 7 0) 5 0 0) 5 1 0) 5 2 0) 5 3 0) 5 4 0) (sS ρ 0 0)) 100 (.inr (6, [vR 101, vR 102, vI ((sAt (sAt (sAt (sAt (sAt (sS (ofS τ 0 0) 7 0) 5 0 0) 5 1 0) 5 2 0) 5 3 0) 5 4 0).1 5), vR 103, vR 104, vR 105, vR 106, vI ((sAt (sAt (sAt (sAt (sAt (sS (ofS τ 0 0) 7 0) 5 0 0) 5 1 0) 5 2 0) 5 3 0) 5 4 0).1 0), vI (((τ.1 1) + 1) % 3), vI ((sAt (sAt (sAt (sAt (sAt (sS (ofS τ 0 0) 7 0) 5 0 0) 5 1 0) 5 2 0) 5 3 0) 5 4 0).1 2), vI ((sAt (sAt (sAt (sAt (sAt (sS (ofS τ 0 0) 7 0) 5 0 0) 5 1 0) 5 2 0) 5 3 0) 5 4 0).1 3), vR 107, vR 108, vI ((sAt (sAt (sAt (sAt (sAt (sS (ofS τ 0 0) 7 0) 5 0 0) 5 1 0) 5 2 0) 5 3 0) 5 4 0).1 6), vI ((sAt (sAt (sAt (sAt (sAt (sS (ofS τ 0 0) 7 0) 5 0 0) 5 1 0) 5 2 0) 5 3 0) 5 4 0).1 7), vR 109, vI ((sAt (sAt (sAt (sAt (sAt (sS (ofS τ 0 0) 7 0) 5 0 0) 5 1 0) 5 2 0) 5 3 0) 5 4 0).1 8), vI ((sAt (sAt (sAt (sAt (sAt (sS (ofS τ 0 0) 7 0) 5 0 0) 5 1 0) 5 2 0) 5 3 0) 5 4 0).1 4), vI ((sAt (sAt (sAt (sAt (sAt (sS (ofS τ 0 0) 7 0) 5 0 0) 5 1 0) 5 2 0) 5 3 0) 5 4 0).1 9), vI ((sAt (sAt (sAt (sAt (sAt (sS (ofS τ 0 0) 7 0) 5 0 0) 5 1 0) 5 2 0) 5 3 0) 5 4 0).1 10), vR 110, vR 111, vR 112, vR 113, vR 114, vI ((sS ρ 0 0).1 0)])))) rfl (by first | omega | (dsimp only [plus1]; omega) | (simp [plus1, sHt, sH, sS, sAt, sA, sup]; done) | (simp [plus1, sHt, sH, sS, sAt, sA, sup]; omega)) ?_
        rw [mW_s1]
        refine hR.run0 3 (S' := (68, [some (vR 100), some (vI 5)], [], pset (mW (sS (sAt (sAt (sAt (sAt (sAt (sS (ofS τ 0 0) 7 0) 5 0 0) 5 1 0) 5 2 0) 5 3 0) 5 4 0) 1 (((τ.1 1) + 1) % 3)) (sS ρ 0 0)) 100 (.inr (6, [vR 101, vR 102, vI ((sS (sAt (sAt (sAt (sAt (sAt (sS (ofS τ 0 0) 7 0) 5 0 0) 5 1 0) 5 2 0) 5 3 0) 5 4 0) 1 (((τ.1 1) + 1) % 3)).1 5), vR 103, vR 104, vR 105, vR 106, vI 1, vI ((sS (sAt (sAt (sAt (sAt (sAt (sS (ofS τ 0 0) 7 0) 5 0 0) 5 1 0) 5 2 0) 5 3 0) 5 4 0) 1 (((τ.1 1) + 1) % 3)).1 1), vI ((sS (sAt (sAt (sAt (sAt (sAt (sS (ofS τ 0 0) 7 0) 5 0 0) 5 1 0) 5 2 0) 5 3 0) 5 4 0) 1 (((τ.1 1) + 1) % 3)).1 2), vI ((sS (sAt (sAt (sAt (sAt (sAt (sS (ofS τ 0 0) 7 0) 5 0 0) 5 1 0) 5 2 0) 5 3 0) 5 4 0) 1 (((τ.1 1) + 1) % 3)).1 3), vR 107, vR 108, vI ((sS (sAt (sAt (sAt (sAt (sAt (sS (ofS τ 0 0) 7 0) 5 0 0) 5 1 0) 5 2 0) 5 3 0) 5 4 0) 1 (((τ.1 1) + 1) % 3)).1 6), vI ((sS (sAt (sAt (sAt (sAt (sAt (sS (ofS τ 0 0) 7 0) 5 0 0) 5 1 0) 5 2 0) 5 3 0) 5 4 0) 1 (((τ.1 1) + 1) % 3)).1 7), vR 109, vI ((sS (sAt (sAt (sAt (sAt (sAt (sS (ofS τ 0 0) 7 0) 5 0 0) 5 1 0) 5 2 0) 5 3 0) 5 4 0) 1 (((τ.1 1) + 1) % 3)).1 8), vI ((sS (sAt (sAt (sAt (sAt (sAt (sS (ofS τ 0 0) 7 0) 5 0 0) 5 1 0) 5 2 0) 5 3 0) 5 4 0) 1 (((τ.1 1) + 1) % 3)).1 4), vI ((sS (sAt (sAt (sAt (sAt (sAt (sS (ofS τ 0 0) 7 0) 5 0 0) 5 1 0) 5 2 0) 5 3 0) 5 4 0) 1 (((τ.1 1) + 1) % 3)).1 9), vI ((sS (sAt (sAt (sAt (sAt (sAt (sS (ofS τ 0 0) 7 0) 5 0 0) 5 1 0) 5 2 0) 5 3 0) 5 4 0) 1 (((τ.1 1) + 1) % 3)).1 10), vR 110, vR 111, vR 112, vR 113, vR 114, vI ((sS ρ 0 0).1 0)])))) rfl ?_
        rw [mW_s0]
        refine hR.run0 1 (S' := (69, [some (vR 100), some (vI 5)], [vR 100], mW (sS (sS (sAt (sAt (sAt (sAt (sAt (sS (ofS τ 0 0) 7 0) 5 0 0) 5 1 0) 5 2 0) 5 3 0) 5 4 0) 1 (((τ.1 1) + 1) % 3)) 0 1) (sS ρ 0 0))) rfl ?_
        have hnt : nxtT (τ.1 1) = ((τ.1 1) + 1) % 3 := by unfold nxtT; split <;> omega
        have hnr2 := nxtT_r htu
        rw [show sS (sS (sAt (sAt (sAt (sAt (sAt (sS (ofS τ 0 0) 7 0) 5 0 0) 5 1 0) 5 2 0) 5 3 0) 5 4 0) 1 (((τ.1 1) + 1) % 3)) 0 1 = sS (sS (strt (ofS τ 0 0)) 1 (nxtT (τ.1 1))) 0 1 from by rw [hnt]; rfl]
        refine hR.cv [] kX6_209 rfl rfl ⟨_, _, _, rfl, rfl, rfl⟩ (by first | decide | exact Nat.le_refl _) (by decide) (Nat.le_of_ble_eq_true rfl) rfl (sr_lookW _ _ (by first | exact (Wi.use hI.wi (fun k => (hI.hfr k).1) (by assumption) : Wi (usS τ (τ.1 1) 0)) | exact Wi.rob (Wi.use hI.wi (fun k => (hI.hfr k).1) (by assumption)) _ _ _ | exact Wi.gv hI.wi (by omega) hI.hcb _ | exact Wi.nd hI.wi (by omega) | assumption)) ?_
        show G (72, [some (vR 100), some (vI 5)], [], mW (winS (sS (sS (strt (ofS τ 0 0)) 1 (nxtT (τ.1 1))) 0 1)) (sS ρ 0 0))
        refine hR.run0 2 (S' := (76, [some (vR 100), some (vI 5)], [vI ((winS (sS (sS (strt (ofS τ 0 0)) 1 (nxtT (τ.1 1))) 0 1)).1 1)], mW (winS (sS (sS (strt (ofS τ 0 0)) 1 (nxtT (τ.1 1))) 0 1)) (sS ρ 0 0))) rfl ?_
        have hx : xEnd τ = (0, (winS (sS (sS (strt (ofS τ 0 0)) 1 (nxtT (τ.1 1))) 0 1)).1 1, winS (sS (sS (strt (ofS τ 0 0)) 1 (nxtT (τ.1 1))) 0 1)) := by unfold xEnd; (repeat' split) <;> first | rfl | (exfalso; omega) | (exfalso; simp_all; done) | (simp_all; done) | (exfalso; simp_all; omega)
        exact hR.rt rfl trivial (by rw [hx]) (by rw [hx])
      · exfalso; omega
    · exfalso; omega
