theorem sp_rateAt (ro : PRO) (w : PW) {c g : Int} (hc : 0 ≤ c ∧ c < 24) (hg : 0 ≤ g ∧ g < 5) : Sp mX2_rateAt ro 0 [vI c, vI g] (w) (.inl (some (vI (rtA c g)))) (w) := by
  refine Sp.of (lk := lkX2) (tb := bX2_rateAt) (by decide) lkX2_ok tX2_rateAt rfl (Nat.le_of_ble_eq_true rfl) (fun G hR => ?_)
  refine hR.run0 7 (S' := (8, [some (vI c), some (vI g), some (vI ((c - 6) - 1)), none], [vI ((c - 6) - 1)], w)) rfl ?_
  refine hR.br (C := (c - 6) - 1 < 0) rfl (by (try dsimp only); omega) (fun c1 => ?_) (fun c1 => ?_)
  · skip
    refine hR.run0 1 (S' := (19, [some (vI c), some (vI g), some (vI ((c - 6) - 1)), none], [vI 4], w)) rfl ?_
    exact hR.rt rfl trivial (by rw [show rtA c g = 4 from by unfold rtA; (repeat' split) <;> omega]) (by rfl)
  · skip
    refine hR.run1 4 (S' := (15, [some (vI c), some (vI g), some (vI ((c - 6) - 1)), none], [vI 2, vI (((c - 6) - 1) % 3)], w)) rfl (by (try dsimp only); omega) ?_
    refine hR.br (C := ((c - 6) - 1) % 3 ≠ 2) rfl (by (try dsimp only); omega) (fun c2 => ?_) (fun c2 => ?_)
    · skip
      refine hR.run1 6 (S' := (26, [some (vI c), some (vI g), some (vI ((c - 6) - 1)), some (vI (((c - 6) - 1) / 3))], [vI 5, vI (((c - 6) - 1) / 3)], w)) rfl (by (try dsimp only); omega) ?_
      refine hR.br (C := ((c - 6) - 1) / 3 ≠ 5) rfl (by (try dsimp only); omega) (fun c3 => ?_) (fun c3 => ?_)
      · skip
        refine hR.run0 2 (S' := (33, [some (vI c), some (vI g), some (vI ((c - 6) - 1)), some (vI (((c - 6) - 1) / 3))], [vI g, vI (((c - 6) - 1) / 3)], w)) rfl ?_
        refine hR.br (C := ((c - 6) - 1) / 3 ≠ g) rfl (by (try dsimp only); omega) (fun c4 => ?_) (fun c4 => ?_)
        · skip
          refine hR.run0 1 (S' := (41, [some (vI c), some (vI g), some (vI ((c - 6) - 1)), some (vI (((c - 6) - 1) / 3))], [vI 4], w)) rfl ?_
          exact hR.rt rfl trivial (by rw [show rtA c g = 4 from by unfold rtA; (repeat' split) <;> omega]) (by rfl)
        · skip
          refine hR.run0 2 (S' := (41, [some (vI c), some (vI g), some (vI ((c - 6) - 1)), some (vI (((c - 6) - 1) / 3))], [vI 2], w)) rfl ?_
          exact hR.rt rfl trivial (by rw [show rtA c g = 2 from by unfold rtA; (repeat' split) <;> omega]) (by rfl)
      · skip
        refine hR.run0 1 (S' := (30, [some (vI c), some (vI g), some (vI ((c - 6) - 1)), some (vI (((c - 6) - 1) / 3))], [vI 3], w)) rfl ?_
        exact hR.rt rfl trivial (by rw [show rtA c g = 3 from by unfold rtA; (repeat' split) <;> omega]) (by rfl)
    · skip
      refine hR.run0 1 (S' := (19, [some (vI c), some (vI g), some (vI ((c - 6) - 1)), none], [vI 4], w)) rfl ?_
      exact hR.rt rfl trivial (by rw [show rtA c g = 4 from by unfold rtA; (repeat' split) <;> omega]) (by rfl)
theorem sp_weightAround (τ κ : St) {p h : Int} (hp : 0 ≤ p ∧ p < 3) (hhx : 0 ≤ h ∧ h < 7) (hb : ∀ c, -1 ≤ τ.2.1 2 c ∧ τ.2.1 2 c ≤ 5) : Sp mX2_weightAround roC 1 [vR 1, vI p, vI h] (cW τ κ) (.inl (some (vI (wt (τ.2.1 2) p h)))) (cW τ κ) := by
  refine Sp.of (lk := lkX2) (tb := bX2_weightAround) (by decide) lkX2_ok tX2_weightAround (cW_keys _ _ _ _) (Nat.le_of_ble_eq_true rfl) (fun G hR => ?_)
  refine hR.run0 4 (S' := (5, [some (vR 1), some (vI p), some (vI h), some (vI 0), some (vI 0), none], [], cW τ κ)) rfl ?_
  have hL : ∀ i : Nat, i ≤ 6 → G (5, [some (vR 1), some (vI p), some (vI h), some (vI (wtN (τ.2.1 2) p h i)), some (vI ((i : Nat) : Int)), none], [], cW τ κ) := by
    refine back (P := fun i : Nat => G (5, [some (vR 1), some (vI p), some (vI h), some (vI (wtN (τ.2.1 2) p h i)), some (vI ((i : Nat) : Int)), none], [], cW τ κ)) ?_ ?_
    · intro i hii ihi
      replace ihi : G (5, [some (vR 1), some (vI p), some (vI h), some (vI (wtN (τ.2.1 2) p h (i + 1))), some (vI ((i + 1 : Nat) : Int)), none], [], cW τ κ) := ihi
      show G (5, [some (vR 1), some (vI p), some (vI h), some (vI (wtN (τ.2.1 2) p h i)), some (vI (i : Int)), none], [], cW τ κ)
      have r1 := hexC_r hhx (i := (i : Int)) (by omega)
      have f0 := hb (hexC h i)
      refine hR.run0 2 (S' := (9, [some (vR 1), some (vI p), some (vI h), some (vI (wtN (τ.2.1 2) p h i)), some (vI (i : Int)), none], [vI 6, vI (i : Int)], cW τ κ)) rfl ?_
      refine hR.br (C := 6 ≤ (i : Int)) rfl (by (try dsimp only); omega) (fun c1 => ?_) (fun c1 => ?_)
      · exfalso; omega
      refine hR.run0 3 (S' := (16, [some (vR 1), some (vI p), some (vI h), some (vI (wtN (τ.2.1 2) p h i)), some (vI (i : Int)), none], [vI (i : Int), vI h, vR 1], cW τ κ)) rfl ?_
      refine hR.cs [vI h, vI (i : Int)] kX2_35 rfl rfl (by first | decide | exact Nat.le_refl _) (by decide) (Nat.le_of_ble_eq_true rfl) rfl (sp_cornerOf _ _ (by omega) (by omega)) ?_
      show G (19, [some (vR 1), some (vI p), some (vI h), some (vI (wtN (τ.2.1 2) p h i)), some (vI (i : Int)), none], [vI (hexC h (i : Int)), vR 1], cW τ κ)
      refine hR.cv [vI (hexC h (i : Int))] kX2_43 rfl rfl ⟨_, _, _, rfl, rfl, rfl⟩ (by first | decide | exact Nat.le_refl _) (by decide) (Nat.le_of_ble_eq_true rfl) rfl (sp_building _ _ (by omega)) ?_
      show G (22, [some (vR 1), some (vI p), some (vI h), some (vI (wtN (τ.2.1 2) p h i)), some (vI (i : Int)), none], [vI (τ.2.1 2 (hexC h (i : Int)))], cW τ κ)
      refine hR.run0 3 (S' := (27, [some (vR 1), some (vI p), some (vI h), some (vI (wtN (τ.2.1 2) p h i)), some (vI (i : Int)), some (vI (τ.2.1 2 (hexC h (i : Int))))], [vI p, vI (τ.2.1 2 (hexC h (i : Int)))], cW τ κ)) rfl ?_
      refine hR.br (C := τ.2.1 2 (hexC h (i : Int)) ≠ p) rfl (by (try dsimp only); omega) (fun c2 => ?_) (fun c2 => ?_)
      · skip
        refine hR.run0 4 (S' := (41, [some (vR 1), some (vI p), some (vI h), some (vI (wtN (τ.2.1 2) p h i)), some (vI (i : Int)), some (vI (τ.2.1 2 (hexC h (i : Int))))], [vI (3 + p), vI (τ.2.1 2 (hexC h (i : Int)))], cW τ κ)) rfl ?_
        refine hR.br (C := τ.2.1 2 (hexC h (i : Int)) ≠ 3 + p) rfl (by (try dsimp only); omega) (fun c3 => ?_) (fun c3 => ?_)
        · skip
          refine hR.run0 2 (S' := (5, [some (vR 1), some (vI p), some (vI h), some (vI (wtN (τ.2.1 2) p h i)), some (vI ((i : Int) + 1)), some (vI (τ.2.1 2 (hexC h (i : Int))))], [], cW τ κ)) rfl ?_
          rw [show wtN (τ.2.1 2) p h (i + 1) = (wtN (τ.2.1 2) p h i) from by simp [wtN]; omega] at ihi
          refine hR.fg 5 ?_
          show G (5, [some (vR 1), some (vI p), some (vI h), some (vI (wtN (τ.2.1 2) p h i)), some (vI ((i : Int) + 1)), none], [], cW τ κ)
          exact ihi
        · skip
          refine hR.run0 3 (S' := (5, [some (vR 1), some (vI p), some (vI h), some (vI ((wtN (τ.2.1 2) p h i) + 2)), some (vI ((i : Int) + 1)), some (vI (τ.2.1 2 (hexC h (i : Int))))], [], cW τ κ)) rfl ?_
          rw [show wtN (τ.2.1 2) p h (i + 1) = ((wtN (τ.2.1 2) p h i) + 2) from by simp [wtN]; omega] at ihi
          refine hR.fg 5 ?_
          show G (5, [some (vR 1), some (vI p), some (vI h), some (vI ((wtN (τ.2.1 2) p h i) + 2)), some (vI ((i : Int) + 1)), none], [], cW τ κ)
          exact ihi
      · skip
        refine hR.run0 4 (S' := (5, [some (vR 1), some (vI p), some (vI h), some (vI ((wtN (τ.2.1 2) p h i) + 1)), some (vI ((i : Int) + 1)), some (vI (τ.2.1 2 (hexC h (i : Int))))], [], cW τ κ)) rfl ?_
        rw [show wtN (τ.2.1 2) p h (i + 1) = ((wtN (τ.2.1 2) p h i) + 1) from by simp [wtN]; omega] at ihi
        refine hR.fg 5 ?_
        show G (5, [some (vR 1), some (vI p), some (vI h), some (vI ((wtN (τ.2.1 2) p h i) + 1)), some (vI ((i : Int) + 1)), none], [], cW τ κ)
        exact ihi
    · show G (5, [some (vR 1), some (vI p), some (vI h), some (vI (wtN (τ.2.1 2) p h 6)), some (vI ((6 : Nat) : Int)), none], [], cW τ κ)
      show G (5, [some (vR 1), some (vI p), some (vI h), some (vI (wtN (τ.2.1 2) p h 6)), some (vI 6), none], [], cW τ κ)
      refine hR.run0 2 (S' := (9, [some (vR 1), some (vI p), some (vI h), some (vI (wtN (τ.2.1 2) p h 6)), some (vI 6), none], [vI 6, vI 6], cW τ κ)) rfl ?_
      refine hR.br (C := 6 ≤ 6) rfl (by (try dsimp only); omega) (fun c4 => ?_) (fun c4 => ?_)
      · skip
        refine hR.run0 1 (S' := (54, [some (vR 1), some (vI p), some (vI h), some (vI (wtN (τ.2.1 2) p h 6)), some (vI 6), none], [vI (wtN (τ.2.1 2) p h 6)], cW τ κ)) rfl ?_
        exact hR.rt rfl trivial rfl (by rfl)
      · exfalso; omega
  exact hL 0 (Nat.zero_le _)
theorem sp_yieldOf (τ κ : St) {p g sum : Int} (hp : 0 ≤ p ∧ p < 3) (hgg : 0 ≤ g ∧ g < 5) (hs : 2 ≤ sum ∧ sum ≤ 12) (hb : ∀ c, -1 ≤ τ.2.1 2 c ∧ τ.2.1 2 c ≤ 5) (hg : ∀ h, 0 ≤ τ.2.1 0 h ∧ τ.2.1 0 h ≤ 5) (hn : ∀ h, 2 ≤ τ.2.1 1 h ∧ τ.2.1 1 h ≤ 12) (hrb : 0 ≤ τ.1 5 ∧ τ.1 5 < 7) : Sp mX2_yieldOf roC 2 [vR 1, vI p, vI g, vI sum] (cW τ κ) (.inl (some (vI (yldN (τ.2.1 0) (τ.2.1 1) (τ.2.1 2) (τ.1 5) p g sum 7)))) (cW τ κ) := by
  refine Sp.of (lk := lkX2) (tb := bX2_yieldOf) (by decide) lkX2_ok tX2_yieldOf (cW_keys _ _ _ _) (Nat.le_of_ble_eq_true rfl) (fun G hR => ?_)
  refine hR.run0 4 (S' := (6, [some (vR 1), some (vI p), some (vI g), some (vI sum), some (vI 0), some (vI 0)], [], cW τ κ)) rfl ?_
  have hL : ∀ i : Nat, i ≤ 7 → G (6, [some (vR 1), some (vI p), some (vI g), some (vI sum), some (vI (yldN (τ.2.1 0) (τ.2.1 1) (τ.2.1 2) (τ.1 5) p g sum i)), some (vI ((i : Nat) : Int))], [], cW τ κ) := by
    refine back (P := fun i : Nat => G (6, [some (vR 1), some (vI p), some (vI g), some (vI sum), some (vI (yldN (τ.2.1 0) (τ.2.1 1) (τ.2.1 2) (τ.1 5) p g sum i)), some (vI ((i : Nat) : Int))], [], cW τ κ)) ?_ ?_
    · intro i hii ihi
      replace ihi : G (6, [some (vR 1), some (vI p), some (vI g), some (vI sum), some (vI (yldN (τ.2.1 0) (τ.2.1 1) (τ.2.1 2) (τ.1 5) p g sum (i + 1))), some (vI ((i + 1 : Nat) : Int))], [], cW τ κ) := ihi
      show G (6, [some (vR 1), some (vI p), some (vI g), some (vI sum), some (vI (yldN (τ.2.1 0) (τ.2.1 1) (τ.2.1 2) (τ.1 5) p g sum i)), some (vI (i : Int))], [], cW τ κ)
      have q1 := yldN_r (τ.2.1 0) (τ.2.1 1) (τ.2.1 2) (τ.1 5) p g sum i
      refine hR.run0 4 (S' := (13, [some (vR 1), some (vI p), some (vI g), some (vI sum), some (vI (yldN (τ.2.1 0) (τ.2.1 1) (τ.2.1 2) (τ.1 5) p g sum i)), some (vI (i : Int))], [vI 7, vI (i : Int)], cW τ κ)) rfl ?_
      refine hR.br (C := 7 ≤ (i : Int)) rfl (by (try dsimp only); omega) (fun c1 => ?_) (fun c1 => ?_)
      · exfalso; omega
      refine hR.run0 4 (S' := (23, [some (vR 1), some (vI p), some (vI g), some (vI sum), some (vI (yldN (τ.2.1 0) (τ.2.1 1) (τ.2.1 2) (τ.1 5) p g sum i)), some (vI (i : Int))], [vI 7, vI (i : Int)], cW τ κ)) rfl ?_
      refine hR.br (C := 7 ≤ (i : Int)) rfl (by (try dsimp only); omega) (fun c2 => ?_) (fun c2 => ?_)
      · exfalso; omega
      have f1 := hn (i : Int)
      refine hR.run1 5 (S' := (34, [some (vR 1), some (vI p), some (vI g), some (vI sum), some (vI (yldN (τ.2.1 0) (τ.2.1 1) (τ.2.1 2) (τ.1 5) p g sum i)), some (vI (i : Int))], [vI sum, vI (τ.2.1 1 (i : Int))], cW τ κ)) rfl (by (try dsimp only); omega) ?_
      refine hR.br (C := τ.2.1 1 (i : Int) ≠ sum) rfl (by (try dsimp only); omega) (fun c3 => ?_) (fun c3 => ?_)
      · skip
        refine hR.run0 2 (S' := (6, [some (vR 1), some (vI p), some (vI g), some (vI sum), some (vI (yldN (τ.2.1 0) (τ.2.1 1) (τ.2.1 2) (τ.1 5) p g sum i)), some (vI ((i : Int) + 1))], [], cW τ κ)) rfl ?_
        rw [show yldN (τ.2.1 0) (τ.2.1 1) (τ.2.1 2) (τ.1 5) p g sum (i + 1) = (yldN (τ.2.1 0) (τ.2.1 1) (τ.2.1 2) (τ.1 5) p g sum i) from by simp_all [yldN]] at ihi
        exact ihi
      · skip
        have f2 := hg (i : Int)
        refine hR.run1 5 (S' := (45, [some (vR 1), some (vI p), some (vI g), some (vI sum), some (vI (yldN (τ.2.1 0) (τ.2.1 1) (τ.2.1 2) (τ.1 5) p g sum i)), some (vI (i : Int))], [vI g, vI (τ.2.1 0 (i : Int))], cW τ κ)) rfl (by (try dsimp only); omega) ?_
        refine hR.br (C := τ.2.1 0 (i : Int) ≠ g) rfl (by (try dsimp only); omega) (fun c4 => ?_) (fun c4 => ?_)
        · skip
          refine hR.run0 2 (S' := (6, [some (vR 1), some (vI p), some (vI g), some (vI sum), some (vI (yldN (τ.2.1 0) (τ.2.1 1) (τ.2.1 2) (τ.1 5) p g sum i)), some (vI ((i : Int) + 1))], [], cW τ κ)) rfl ?_
          rw [show yldN (τ.2.1 0) (τ.2.1 1) (τ.2.1 2) (τ.1 5) p g sum (i + 1) = (yldN (τ.2.1 0) (τ.2.1 1) (τ.2.1 2) (τ.1 5) p g sum i) from by simp_all [yldN]] at ihi
          exact ihi
        · skip
          refine hR.run0 3 (S' := (54, [some (vR 1), some (vI p), some (vI g), some (vI sum), some (vI (yldN (τ.2.1 0) (τ.2.1 1) (τ.2.1 2) (τ.1 5) p g sum i)), some (vI (i : Int))], [vI (τ.1 5), vI (i : Int)], cW τ κ)) rfl ?_
          refine hR.br (C := (i : Int) = τ.1 5) rfl (by (try dsimp only); omega) (fun c5 => ?_) (fun c5 => ?_)
          · skip
            refine hR.run0 2 (S' := (6, [some (vR 1), some (vI p), some (vI g), some (vI sum), some (vI (yldN (τ.2.1 0) (τ.2.1 1) (τ.2.1 2) (τ.1 5) p g sum i)), some (vI ((i : Int) + 1))], [], cW τ κ)) rfl ?_
            rw [show yldN (τ.2.1 0) (τ.2.1 1) (τ.2.1 2) (τ.1 5) p g sum (i + 1) = (yldN (τ.2.1 0) (τ.2.1 1) (τ.2.1 2) (τ.1 5) p g sum i) from by simp_all [yldN]] at ihi
            exact ihi
          · skip
            refine hR.run0 4 (S' := (63, [some (vR 1), some (vI p), some (vI g), some (vI sum), some (vI (yldN (τ.2.1 0) (τ.2.1 1) (τ.2.1 2) (τ.1 5) p g sum i)), some (vI (i : Int))], [vI (i : Int), vI p, vR 1, vI (yldN (τ.2.1 0) (τ.2.1 1) (τ.2.1 2) (τ.1 5) p g sum i)], cW τ κ)) rfl ?_
            have f3 := wt_r (τ.2.1 2) p (i : Int)
            refine hR.cv [vI p, vI (i : Int)] kX2_58 rfl rfl ⟨_, _, _, rfl, rfl, rfl⟩ (by first | decide | exact Nat.le_refl _) (by decide) (Nat.le_of_ble_eq_true rfl) rfl (sp_weightAround _ _ (by omega) (by omega) hb) ?_
            show G (66, [some (vR 1), some (vI p), some (vI g), some (vI sum), some (vI (yldN (τ.2.1 0) (τ.2.1 1) (τ.2.1 2) (τ.1 5) p g sum i)), some (vI (i : Int))], [vI (wt (τ.2.1 2) p (i : Int)), vI (yldN (τ.2.1 0) (τ.2.1 1) (τ.2.1 2) (τ.1 5) p g sum i)], cW τ κ)
            refine hR.run0 4 (S' := (6, [some (vR 1), some (vI p), some (vI g), some (vI sum), some (vI ((yldN (τ.2.1 0) (τ.2.1 1) (τ.2.1 2) (τ.1 5) p g sum i) + (wt (τ.2.1 2) p (i : Int)))), some (vI ((i : Int) + 1))], [], cW τ κ)) rfl ?_
            rw [show yldN (τ.2.1 0) (τ.2.1 1) (τ.2.1 2) (τ.1 5) p g sum (i + 1) = ((yldN (τ.2.1 0) (τ.2.1 1) (τ.2.1 2) (τ.1 5) p g sum i) + (wt (τ.2.1 2) p (i : Int))) from by simp_all [yldN]] at ihi
            exact ihi
    · show G (6, [some (vR 1), some (vI p), some (vI g), some (vI sum), some (vI (yldN (τ.2.1 0) (τ.2.1 1) (τ.2.1 2) (τ.1 5) p g sum 7)), some (vI ((7 : Nat) : Int))], [], cW τ κ)
      show G (6, [some (vR 1), some (vI p), some (vI g), some (vI sum), some (vI (yldN (τ.2.1 0) (τ.2.1 1) (τ.2.1 2) (τ.1 5) p g sum 7)), some (vI 7)], [], cW τ κ)
      refine hR.run0 4 (S' := (13, [some (vR 1), some (vI p), some (vI g), some (vI sum), some (vI (yldN (τ.2.1 0) (τ.2.1 1) (τ.2.1 2) (τ.1 5) p g sum 7)), some (vI 7)], [vI 7, vI 7], cW τ κ)) rfl ?_
      refine hR.br (C := 7 ≤ 7) rfl (by (try dsimp only); omega) (fun c6 => ?_) (fun c6 => ?_)
      · skip
        refine hR.run0 1 (S' := (77, [some (vR 1), some (vI p), some (vI g), some (vI sum), some (vI (yldN (τ.2.1 0) (τ.2.1 1) (τ.2.1 2) (τ.1 5) p g sum 7)), some (vI 7)], [vI (yldN (τ.2.1 0) (τ.2.1 1) (τ.2.1 2) (τ.1 5) p g sum 7)], cW τ κ)) rfl ?_
        exact hR.rt rfl trivial rfl (by rfl)
      · exfalso; omega
  exact hL 0 (Nat.zero_le _)
theorem sp_single_0 (ro : PRO) (w : PW)  : Sp mX3_single ro 0 [vI 0] (w) (.inl (some (vI (sgl 0)))) (w) := by
  refine Sp.of (lk := lkX3) (tb := bX3_single) (by decide) lkX3_ok tX3_single rfl (Nat.le_of_ble_eq_true rfl) (fun G hR => ?_)
  refine hR.run0 6 (S' := (6, [some (vI 0), some (vI 1), some (vI 0)], [vI 0, vI 0], w)) rfl ?_
  refine hR.br (C := 0 ≤ 0) rfl (by (try dsimp only); omega) (fun c1 => ?_) (fun c1 => ?_)
  · skip
    refine hR.run0 1 (S' := (26, [some (vI 0), some (vI 1), some (vI 0)], [vI 1], w)) rfl ?_
    exact hR.rt rfl trivial rfl (by rfl)
  · exfalso; omega
theorem sp_part_0 (ro : PRO) (w : PW) {n : Int} (hn : 0 ≤ n ∧ n ≤ 99999) : Sp mX3_part ro 0 [vI n, vI 0] (w) (.inl (some (vI (dgt n 0)))) (w) := by
  refine Sp.of (lk := lkX3) (tb := bX3_part) (by decide) lkX3_ok tX3_part rfl (Nat.le_of_ble_eq_true rfl) (fun G hR => ?_)
  refine hR.run0 6 (S' := (6, [some (vI n), some (vI 0), some (vI n), some (vI 0)], [vI 0, vI 0], w)) rfl ?_
  refine hR.br (C := 0 ≤ 0) rfl (by (try dsimp only); omega) (fun c1 => ?_) (fun c1 => ?_)
  · skip
    refine hR.run1 3 (S' := (29, [some (vI n), some (vI 0), some (vI n), some (vI 0)], [vI (n % 10)], w)) rfl (by (try dsimp only); omega) ?_
    exact hR.rt rfl trivial (by rw [show dgt n 0 = (n % 10) from by simp [dgt]; try omega]) (by rfl)
  · exfalso; omega
theorem sp_single_1 (ro : PRO) (w : PW)  : Sp mX3_single ro 0 [vI 1] (w) (.inl (some (vI (sgl 1)))) (w) := by
  refine Sp.of (lk := lkX3) (tb := bX3_single) (by decide) lkX3_ok tX3_single rfl (Nat.le_of_ble_eq_true rfl) (fun G hR => ?_)
  refine hR.run0 6 (S' := (6, [some (vI 1), some (vI 1), some (vI 0)], [vI 1, vI 0], w)) rfl ?_
  refine hR.br (C := 1 ≤ 0) rfl (by (try dsimp only); omega) (fun c1 => ?_) (fun c1 => ?_)
  · exfalso; omega
  refine hR.run0 2 (S' := (11, [some (vI 1), some (vI 1), some (vI 0)], [vI 5, vI 0], w)) rfl ?_
  refine hR.br (C := 5 ≤ 0) rfl (by (try dsimp only); omega) (fun c2 => ?_) (fun c2 => ?_)
  · exfalso; omega
  refine hR.run0 8 (S' := (6, [some (vI 1), some (vI 10), some (vI 1)], [vI 1, vI 1], w)) rfl ?_
  refine hR.br (C := 1 ≤ 1) rfl (by (try dsimp only); omega) (fun c3 => ?_) (fun c3 => ?_)
  · skip
    refine hR.run0 1 (S' := (26, [some (vI 1), some (vI 10), some (vI 1)], [vI 10], w)) rfl ?_
    exact hR.rt rfl trivial rfl (by rfl)
  · exfalso; omega
theorem sp_part_1 (ro : PRO) (w : PW) {n : Int} (hn : 0 ≤ n ∧ n ≤ 99999) : Sp mX3_part ro 0 [vI n, vI 1] (w) (.inl (some (vI (dgt n 1)))) (w) := by
  refine Sp.of (lk := lkX3) (tb := bX3_part) (by decide) lkX3_ok tX3_part rfl (Nat.le_of_ble_eq_true rfl) (fun G hR => ?_)
  refine hR.run0 6 (S' := (6, [some (vI n), some (vI 1), some (vI n), some (vI 0)], [vI 1, vI 0], w)) rfl ?_
  refine hR.br (C := 1 ≤ 0) rfl (by (try dsimp only); omega) (fun c1 => ?_) (fun c1 => ?_)
  · exfalso; omega
  refine hR.run0 2 (S' := (11, [some (vI n), some (vI 1), some (vI n), some (vI 0)], [vI 5, vI 0], w)) rfl ?_
  refine hR.br (C := 5 ≤ 0) rfl (by (try dsimp only); omega) (fun c2 => ?_) (fun c2 => ?_)
  · exfalso; omega
  refine hR.run1 8 (S' := (6, [some (vI n), some (vI 1), some (vI (n / 10)), some (vI 1)], [vI 1, vI 1], w)) rfl (by (try dsimp only); omega) ?_
  refine hR.br (C := 1 ≤ 1) rfl (by (try dsimp only); omega) (fun c3 => ?_) (fun c3 => ?_)
  · skip
    refine hR.run1 3 (S' := (29, [some (vI n), some (vI 1), some (vI (n / 10)), some (vI 1)], [vI ((n / 10) % 10)], w)) rfl (by (try dsimp only); omega) ?_
    exact hR.rt rfl trivial (by rw [show dgt n 1 = ((n / 10) % 10) from by simp [dgt]; try omega]) (by rfl)
  · exfalso; omega
theorem sp_single_2 (ro : PRO) (w : PW)  : Sp mX3_single ro 0 [vI 2] (w) (.inl (some (vI (sgl 2)))) (w) := by
  refine Sp.of (lk := lkX3) (tb := bX3_single) (by decide) lkX3_ok tX3_single rfl (Nat.le_of_ble_eq_true rfl) (fun G hR => ?_)
  refine hR.run0 6 (S' := (6, [some (vI 2), some (vI 1), some (vI 0)], [vI 2, vI 0], w)) rfl ?_
  refine hR.br (C := 2 ≤ 0) rfl (by (try dsimp only); omega) (fun c1 => ?_) (fun c1 => ?_)
  · exfalso; omega
  refine hR.run0 2 (S' := (11, [some (vI 2), some (vI 1), some (vI 0)], [vI 5, vI 0], w)) rfl ?_
  refine hR.br (C := 5 ≤ 0) rfl (by (try dsimp only); omega) (fun c2 => ?_) (fun c2 => ?_)
  · exfalso; omega
  refine hR.run0 8 (S' := (6, [some (vI 2), some (vI 10), some (vI 1)], [vI 2, vI 1], w)) rfl ?_
  refine hR.br (C := 2 ≤ 1) rfl (by (try dsimp only); omega) (fun c3 => ?_) (fun c3 => ?_)
  · exfalso; omega
  refine hR.run0 2 (S' := (11, [some (vI 2), some (vI 10), some (vI 1)], [vI 5, vI 1], w)) rfl ?_
  refine hR.br (C := 5 ≤ 1) rfl (by (try dsimp only); omega) (fun c4 => ?_) (fun c4 => ?_)
  · exfalso; omega
  refine hR.run0 8 (S' := (6, [some (vI 2), some (vI 100), some (vI 2)], [vI 2, vI 2], w)) rfl ?_
  refine hR.br (C := 2 ≤ 2) rfl (by (try dsimp only); omega) (fun c5 => ?_) (fun c5 => ?_)
  · skip
    refine hR.run0 1 (S' := (26, [some (vI 2), some (vI 100), some (vI 2)], [vI 100], w)) rfl ?_
    exact hR.rt rfl trivial rfl (by rfl)
  · exfalso; omega
theorem sp_part_2 (ro : PRO) (w : PW) {n : Int} (hn : 0 ≤ n ∧ n ≤ 99999) : Sp mX3_part ro 0 [vI n, vI 2] (w) (.inl (some (vI (dgt n 2)))) (w) := by
  refine Sp.of (lk := lkX3) (tb := bX3_part) (by decide) lkX3_ok tX3_part rfl (Nat.le_of_ble_eq_true rfl) (fun G hR => ?_)
  refine hR.run0 6 (S' := (6, [some (vI n), some (vI 2), some (vI n), some (vI 0)], [vI 2, vI 0], w)) rfl ?_
  refine hR.br (C := 2 ≤ 0) rfl (by (try dsimp only); omega) (fun c1 => ?_) (fun c1 => ?_)
  · exfalso; omega
  refine hR.run0 2 (S' := (11, [some (vI n), some (vI 2), some (vI n), some (vI 0)], [vI 5, vI 0], w)) rfl ?_
  refine hR.br (C := 5 ≤ 0) rfl (by (try dsimp only); omega) (fun c2 => ?_) (fun c2 => ?_)
  · exfalso; omega
  refine hR.run1 8 (S' := (6, [some (vI n), some (vI 2), some (vI (n / 10)), some (vI 1)], [vI 2, vI 1], w)) rfl (by (try dsimp only); omega) ?_
  refine hR.br (C := 2 ≤ 1) rfl (by (try dsimp only); omega) (fun c3 => ?_) (fun c3 => ?_)
  · exfalso; omega
  refine hR.run0 2 (S' := (11, [some (vI n), some (vI 2), some (vI (n / 10)), some (vI 1)], [vI 5, vI 1], w)) rfl ?_
  refine hR.br (C := 5 ≤ 1) rfl (by (try dsimp only); omega) (fun c4 => ?_) (fun c4 => ?_)
  · exfalso; omega
  refine hR.run1 8 (S' := (6, [some (vI n), some (vI 2), some (vI ((n / 10) / 10)), some (vI 2)], [vI 2, vI 2], w)) rfl (by (try dsimp only); omega) ?_
  refine hR.br (C := 2 ≤ 2) rfl (by (try dsimp only); omega) (fun c5 => ?_) (fun c5 => ?_)
  · skip
    refine hR.run1 3 (S' := (29, [some (vI n), some (vI 2), some (vI ((n / 10) / 10)), some (vI 2)], [vI (((n / 10) / 10) % 10)], w)) rfl (by (try dsimp only); omega) ?_
    exact hR.rt rfl trivial (by rw [show dgt n 2 = (((n / 10) / 10) % 10) from by simp [dgt]; try omega]) (by rfl)
  · exfalso; omega
theorem sp_single_3 (ro : PRO) (w : PW)  : Sp mX3_single ro 0 [vI 3] (w) (.inl (some (vI (sgl 3)))) (w) := by
  refine Sp.of (lk := lkX3) (tb := bX3_single) (by decide) lkX3_ok tX3_single rfl (Nat.le_of_ble_eq_true rfl) (fun G hR => ?_)
  refine hR.run0 6 (S' := (6, [some (vI 3), some (vI 1), some (vI 0)], [vI 3, vI 0], w)) rfl ?_
  refine hR.br (C := 3 ≤ 0) rfl (by (try dsimp only); omega) (fun c1 => ?_) (fun c1 => ?_)
  · exfalso; omega
  refine hR.run0 2 (S' := (11, [some (vI 3), some (vI 1), some (vI 0)], [vI 5, vI 0], w)) rfl ?_
  refine hR.br (C := 5 ≤ 0) rfl (by (try dsimp only); omega) (fun c2 => ?_) (fun c2 => ?_)
  · exfalso; omega
  refine hR.run0 8 (S' := (6, [some (vI 3), some (vI 10), some (vI 1)], [vI 3, vI 1], w)) rfl ?_
  refine hR.br (C := 3 ≤ 1) rfl (by (try dsimp only); omega) (fun c3 => ?_) (fun c3 => ?_)
  · exfalso; omega
  refine hR.run0 2 (S' := (11, [some (vI 3), some (vI 10), some (vI 1)], [vI 5, vI 1], w)) rfl ?_
  refine hR.br (C := 5 ≤ 1) rfl (by (try dsimp only); omega) (fun c4 => ?_) (fun c4 => ?_)
  · exfalso; omega
  refine hR.run0 8 (S' := (6, [some (vI 3), some (vI 100), some (vI 2)], [vI 3, vI 2], w)) rfl ?_
  refine hR.br (C := 3 ≤ 2) rfl (by (try dsimp only); omega) (fun c5 => ?_) (fun c5 => ?_)
  · exfalso; omega
  refine hR.run0 2 (S' := (11, [some (vI 3), some (vI 100), some (vI 2)], [vI 5, vI 2], w)) rfl ?_
  refine hR.br (C := 5 ≤ 2) rfl (by (try dsimp only); omega) (fun c6 => ?_) (fun c6 => ?_)
  · exfalso; omega
  refine hR.run0 8 (S' := (6, [some (vI 3), some (vI 1000), some (vI 3)], [vI 3, vI 3], w)) rfl ?_
  refine hR.br (C := 3 ≤ 3) rfl (by (try dsimp only); omega) (fun c7 => ?_) (fun c7 => ?_)
  · skip
    refine hR.run0 1 (S' := (26, [some (vI 3), some (vI 1000), some (vI 3)], [vI 1000], w)) rfl ?_
    exact hR.rt rfl trivial rfl (by rfl)
  · exfalso; omega
theorem sp_part_3 (ro : PRO) (w : PW) {n : Int} (hn : 0 ≤ n ∧ n ≤ 99999) : Sp mX3_part ro 0 [vI n, vI 3] (w) (.inl (some (vI (dgt n 3)))) (w) := by
  refine Sp.of (lk := lkX3) (tb := bX3_part) (by decide) lkX3_ok tX3_part rfl (Nat.le_of_ble_eq_true rfl) (fun G hR => ?_)
  refine hR.run0 6 (S' := (6, [some (vI n), some (vI 3), some (vI n), some (vI 0)], [vI 3, vI 0], w)) rfl ?_
  refine hR.br (C := 3 ≤ 0) rfl (by (try dsimp only); omega) (fun c1 => ?_) (fun c1 => ?_)
  · exfalso; omega
  refine hR.run0 2 (S' := (11, [some (vI n), some (vI 3), some (vI n), some (vI 0)], [vI 5, vI 0], w)) rfl ?_
  refine hR.br (C := 5 ≤ 0) rfl (by (try dsimp only); omega) (fun c2 => ?_) (fun c2 => ?_)
  · exfalso; omega
  refine hR.run1 8 (S' := (6, [some (vI n), some (vI 3), some (vI (n / 10)), some (vI 1)], [vI 3, vI 1], w)) rfl (by (try dsimp only); omega) ?_
  refine hR.br (C := 3 ≤ 1) rfl (by (try dsimp only); omega) (fun c3 => ?_) (fun c3 => ?_)
  · exfalso; omega
  refine hR.run0 2 (S' := (11, [some (vI n), some (vI 3), some (vI (n / 10)), some (vI 1)], [vI 5, vI 1], w)) rfl ?_
  refine hR.br (C := 5 ≤ 1) rfl (by (try dsimp only); omega) (fun c4 => ?_) (fun c4 => ?_)
  · exfalso; omega
  refine hR.run1 8 (S' := (6, [some (vI n), some (vI 3), some (vI ((n / 10) / 10)), some (vI 2)], [vI 3, vI 2], w)) rfl (by (try dsimp only); omega) ?_
  refine hR.br (C := 3 ≤ 2) rfl (by (try dsimp only); omega) (fun c5 => ?_) (fun c5 => ?_)
  · exfalso; omega
  refine hR.run0 2 (S' := (11, [some (vI n), some (vI 3), some (vI ((n / 10) / 10)), some (vI 2)], [vI 5, vI 2], w)) rfl ?_
  refine hR.br (C := 5 ≤ 2) rfl (by (try dsimp only); omega) (fun c6 => ?_) (fun c6 => ?_)
  · exfalso; omega
  refine hR.run1 8 (S' := (6, [some (vI n), some (vI 3), some (vI (((n / 10) / 10) / 10)), some (vI 3)], [vI 3, vI 3], w)) rfl (by (try dsimp only); omega) ?_
  refine hR.br (C := 3 ≤ 3) rfl (by (try dsimp only); omega) (fun c7 => ?_) (fun c7 => ?_)
  · skip
    refine hR.run1 3 (S' := (29, [some (vI n), some (vI 3), some (vI (((n / 10) / 10) / 10)), some (vI 3)], [vI ((((n / 10) / 10) / 10) % 10)], w)) rfl (by (try dsimp only); omega) ?_
    exact hR.rt rfl trivial (by rw [show dgt n 3 = ((((n / 10) / 10) / 10) % 10) from by simp [dgt]; try omega]) (by rfl)
  · exfalso; omega
theorem sp_single_4 (ro : PRO) (w : PW)  : Sp mX3_single ro 0 [vI 4] (w) (.inl (some (vI (sgl 4)))) (w) := by
  refine Sp.of (lk := lkX3) (tb := bX3_single) (by decide) lkX3_ok tX3_single rfl (Nat.le_of_ble_eq_true rfl) (fun G hR => ?_)
  refine hR.run0 6 (S' := (6, [some (vI 4), some (vI 1), some (vI 0)], [vI 4, vI 0], w)) rfl ?_
  refine hR.br (C := 4 ≤ 0) rfl (by (try dsimp only); omega) (fun c1 => ?_) (fun c1 => ?_)
  · exfalso; omega
  refine hR.run0 2 (S' := (11, [some (vI 4), some (vI 1), some (vI 0)], [vI 5, vI 0], w)) rfl ?_
  refine hR.br (C := 5 ≤ 0) rfl (by (try dsimp only); omega) (fun c2 => ?_) (fun c2 => ?_)
  · exfalso; omega
  refine hR.run0 8 (S' := (6, [some (vI 4), some (vI 10), some (vI 1)], [vI 4, vI 1], w)) rfl ?_
  refine hR.br (C := 4 ≤ 1) rfl (by (try dsimp only); omega) (fun c3 => ?_) (fun c3 => ?_)
  · exfalso; omega
  refine hR.run0 2 (S' := (11, [some (vI 4), some (vI 10), some (vI 1)], [vI 5, vI 1], w)) rfl ?_
  refine hR.br (C := 5 ≤ 1) rfl (by (try dsimp only); omega) (fun c4 => ?_) (fun c4 => ?_)
  · exfalso; omega
  refine hR.run0 8 (S' := (6, [some (vI 4), some (vI 100), some (vI 2)], [vI 4, vI 2], w)) rfl ?_
  refine hR.br (C := 4 ≤ 2) rfl (by (try dsimp only); omega) (fun c5 => ?_) (fun c5 => ?_)
  · exfalso; omega
  refine hR.run0 2 (S' := (11, [some (vI 4), some (vI 100), some (vI 2)], [vI 5, vI 2], w)) rfl ?_
  refine hR.br (C := 5 ≤ 2) rfl (by (try dsimp only); omega) (fun c6 => ?_) (fun c6 => ?_)
  · exfalso; omega
  refine hR.run0 8 (S' := (6, [some (vI 4), some (vI 1000), some (vI 3)], [vI 4, vI 3], w)) rfl ?_
  refine hR.br (C := 4 ≤ 3) rfl (by (try dsimp only); omega) (fun c7 => ?_) (fun c7 => ?_)
  · exfalso; omega
  refine hR.run0 2 (S' := (11, [some (vI 4), some (vI 1000), some (vI 3)], [vI 5, vI 3], w)) rfl ?_
  refine hR.br (C := 5 ≤ 3) rfl (by (try dsimp only); omega) (fun c8 => ?_) (fun c8 => ?_)
  · exfalso; omega
  refine hR.run0 8 (S' := (6, [some (vI 4), some (vI 10000), some (vI 4)], [vI 4, vI 4], w)) rfl ?_
  refine hR.br (C := 4 ≤ 4) rfl (by (try dsimp only); omega) (fun c9 => ?_) (fun c9 => ?_)
  · skip
    refine hR.run0 1 (S' := (26, [some (vI 4), some (vI 10000), some (vI 4)], [vI 10000], w)) rfl ?_
    exact hR.rt rfl trivial rfl (by rfl)
  · exfalso; omega
theorem sp_part_4 (ro : PRO) (w : PW) {n : Int} (hn : 0 ≤ n ∧ n ≤ 99999) : Sp mX3_part ro 0 [vI n, vI 4] (w) (.inl (some (vI (dgt n 4)))) (w) := by
  refine Sp.of (lk := lkX3) (tb := bX3_part) (by decide) lkX3_ok tX3_part rfl (Nat.le_of_ble_eq_true rfl) (fun G hR => ?_)
  refine hR.run0 6 (S' := (6, [some (vI n), some (vI 4), some (vI n), some (vI 0)], [vI 4, vI 0], w)) rfl ?_
  refine hR.br (C := 4 ≤ 0) rfl (by (try dsimp only); omega) (fun c1 => ?_) (fun c1 => ?_)
  · exfalso; omega
  refine hR.run0 2 (S' := (11, [some (vI n), some (vI 4), some (vI n), some (vI 0)], [vI 5, vI 0], w)) rfl ?_
  refine hR.br (C := 5 ≤ 0) rfl (by (try dsimp only); omega) (fun c2 => ?_) (fun c2 => ?_)
  · exfalso; omega
  refine hR.run1 8 (S' := (6, [some (vI n), some (vI 4), some (vI (n / 10)), some (vI 1)], [vI 4, vI 1], w)) rfl (by (try dsimp only); omega) ?_
  refine hR.br (C := 4 ≤ 1) rfl (by (try dsimp only); omega) (fun c3 => ?_) (fun c3 => ?_)
  · exfalso; omega
  refine hR.run0 2 (S' := (11, [some (vI n), some (vI 4), some (vI (n / 10)), some (vI 1)], [vI 5, vI 1], w)) rfl ?_
  refine hR.br (C := 5 ≤ 1) rfl (by (try dsimp only); omega) (fun c4 => ?_) (fun c4 => ?_)
  · exfalso; omega
  refine hR.run1 8 (S' := (6, [some (vI n), some (vI 4), some (vI ((n / 10) / 10)), some (vI 2)], [vI 4, vI 2], w)) rfl (by (try dsimp only); omega) ?_
  refine hR.br (C := 4 ≤ 2) rfl (by (try dsimp only); omega) (fun c5 => ?_) (fun c5 => ?_)
  · exfalso; omega
  refine hR.run0 2 (S' := (11, [some (vI n), some (vI 4), some (vI ((n / 10) / 10)), some (vI 2)], [vI 5, vI 2], w)) rfl ?_
  refine hR.br (C := 5 ≤ 2) rfl (by (try dsimp only); omega) (fun c6 => ?_) (fun c6 => ?_)
  · exfalso; omega
  refine hR.run1 8 (S' := (6, [some (vI n), some (vI 4), some (vI (((n / 10) / 10) / 10)), some (vI 3)], [vI 4, vI 3], w)) rfl (by (try dsimp only); omega) ?_
  refine hR.br (C := 4 ≤ 3) rfl (by (try dsimp only); omega) (fun c7 => ?_) (fun c7 => ?_)
  · exfalso; omega
  refine hR.run0 2 (S' := (11, [some (vI n), some (vI 4), some (vI (((n / 10) / 10) / 10)), some (vI 3)], [vI 5, vI 3], w)) rfl ?_
  refine hR.br (C := 5 ≤ 3) rfl (by (try dsimp only); omega) (fun c8 => ?_) (fun c8 => ?_)
  · exfalso; omega
  refine hR.run1 8 (S' := (6, [some (vI n), some (vI 4), some (vI ((((n / 10) / 10) / 10) / 10)), some (vI 4)], [vI 4, vI 4], w)) rfl (by (try dsimp only); omega) ?_
  refine hR.br (C := 4 ≤ 4) rfl (by (try dsimp only); omega) (fun c9 => ?_) (fun c9 => ?_)
  · skip
    refine hR.run1 3 (S' := (29, [some (vI n), some (vI 4), some (vI ((((n / 10) / 10) / 10) / 10)), some (vI 4)], [vI (((((n / 10) / 10) / 10) / 10) % 10)], w)) rfl (by (try dsimp only); omega) ?_
    exact hR.rt rfl trivial (by rw [show dgt n 4 = (((((n / 10) / 10) / 10) / 10) % 10) from by simp [dgt]; try omega]) (by rfl)
  · exfalso; omega
theorem sp_single (ro : PRO) (w : PW) {g : Int} (hg : 0 ≤ g ∧ g < 5) : Sp mX3_single ro 0 [vI g] w (.inl (some (vI (sgl g)))) w := by
  rcases (show g = 0 ∨ g = 1 ∨ g = 2 ∨ g = 3 ∨ g = 4 from by omega) with rfl | rfl | rfl | rfl | rfl
  · exact sp_single_0 ro w
  · exact sp_single_1 ro w
  · exact sp_single_2 ro w
  · exact sp_single_3 ro w
  · exact sp_single_4 ro w
theorem sp_size (ro : PRO) (w : PW) {n : Int} (hn : 0 ≤ n ∧ n ≤ 99999) : Sp mX3_size ro 1 [vI n] (w) (.inl (some (vI (szG n)))) (w) := by
  refine Sp.of (lk := lkX3) (tb := bX3_size) (by decide) lkX3_ok tX3_size rfl (Nat.le_of_ble_eq_true rfl) (fun G hR => ?_)
  refine hR.run0 6 (S' := (6, [some (vI n), some (vI 0), some (vI 0)], [vI 5, vI 0], w)) rfl ?_
  refine hR.br (C := 5 ≤ 0) rfl (by (try dsimp only); omega) (fun c1 => ?_) (fun c1 => ?_)
  · exfalso; omega
  refine hR.run0 3 (S' := (12, [some (vI n), some (vI 0), some (vI 0)], [vI 0, vI n, vI 0], w)) rfl ?_
  have f1 := dgt_r n 0
  refine hR.cs [vI n, vI 0] kX3_19 rfl rfl (by first | decide | exact Nat.le_refl _) (by decide) (Nat.le_of_ble_eq_true rfl) rfl (sp_part_0 _ _ (by omega)) ?_
  show G (15, [some (vI n), some (vI 0), some (vI 0)], [vI (dgt n 0), vI 0], w)
  refine hR.run0 6 (S' := (6, [some (vI n), some (vI (0 + (dgt n 0))), some (vI 1)], [vI 5, vI 1], w)) rfl ?_
  refine hR.br (C := 5 ≤ 1) rfl (by (try dsimp only); omega) (fun c2 => ?_) (fun c2 => ?_)
  · exfalso; omega
  refine hR.run0 3 (S' := (12, [some (vI n), some (vI (0 + (dgt n 0))), some (vI 1)], [vI 1, vI n, vI (0 + (dgt n 0))], w)) rfl ?_
  have f2 := dgt_r n 1
  refine hR.cs [vI n, vI 1] kX3_19 rfl rfl (by first | decide | exact Nat.le_refl _) (by decide) (Nat.le_of_ble_eq_true rfl) rfl (sp_part_1 _ _ (by omega)) ?_
  show G (15, [some (vI n), some (vI (0 + (dgt n 0))), some (vI 1)], [vI (dgt n 1), vI (0 + (dgt n 0))], w)
  refine hR.run0 6 (S' := (6, [some (vI n), some (vI ((0 + (dgt n 0)) + (dgt n 1))), some (vI 2)], [vI 5, vI 2], w)) rfl ?_
  refine hR.br (C := 5 ≤ 2) rfl (by (try dsimp only); omega) (fun c3 => ?_) (fun c3 => ?_)
  · exfalso; omega
  refine hR.run0 3 (S' := (12, [some (vI n), some (vI ((0 + (dgt n 0)) + (dgt n 1))), some (vI 2)], [vI 2, vI n, vI ((0 + (dgt n 0)) + (dgt n 1))], w)) rfl ?_
  have f3 := dgt_r n 2
  refine hR.cs [vI n, vI 2] kX3_19 rfl rfl (by first | decide | exact Nat.le_refl _) (by decide) (Nat.le_of_ble_eq_true rfl) rfl (sp_part_2 _ _ (by omega)) ?_
  show G (15, [some (vI n), some (vI ((0 + (dgt n 0)) + (dgt n 1))), some (vI 2)], [vI (dgt n 2), vI ((0 + (dgt n 0)) + (dgt n 1))], w)
  refine hR.run0 6 (S' := (6, [some (vI n), some (vI (((0 + (dgt n 0)) + (dgt n 1)) + (dgt n 2))), some (vI 3)], [vI 5, vI 3], w)) rfl ?_
  refine hR.br (C := 5 ≤ 3) rfl (by (try dsimp only); omega) (fun c4 => ?_) (fun c4 => ?_)
  · exfalso; omega
  refine hR.run0 3 (S' := (12, [some (vI n), some (vI (((0 + (dgt n 0)) + (dgt n 1)) + (dgt n 2))), some (vI 3)], [vI 3, vI n, vI (((0 + (dgt n 0)) + (dgt n 1)) + (dgt n 2))], w)) rfl ?_
  have f4 := dgt_r n 3
  refine hR.cs [vI n, vI 3] kX3_19 rfl rfl (by first | decide | exact Nat.le_refl _) (by decide) (Nat.le_of_ble_eq_true rfl) rfl (sp_part_3 _ _ (by omega)) ?_
  show G (15, [some (vI n), some (vI (((0 + (dgt n 0)) + (dgt n 1)) + (dgt n 2))), some (vI 3)], [vI (dgt n 3), vI (((0 + (dgt n 0)) + (dgt n 1)) + (dgt n 2))], w)
  refine hR.run0 6 (S' := (6, [some (vI n), some (vI ((((0 + (dgt n 0)) + (dgt n 1)) + (dgt n 2)) + (dgt n 3))), some (vI 4)], [vI 5, vI 4], w)) rfl ?_
  refine hR.br (C := 5 ≤ 4) rfl (by (try dsimp only); omega) (fun c5 => ?_) (fun c5 => ?_)
  · exfalso; omega
  refine hR.run0 3 (S' := (12, [some (vI n), some (vI ((((0 + (dgt n 0)) + (dgt n 1)) + (dgt n 2)) + (dgt n 3))), some (vI 4)], [vI 4, vI n, vI ((((0 + (dgt n 0)) + (dgt n 1)) + (dgt n 2)) + (dgt n 3))], w)) rfl ?_
  have f5 := dgt_r n 4
  refine hR.cs [vI n, vI 4] kX3_19 rfl rfl (by first | decide | exact Nat.le_refl _) (by decide) (Nat.le_of_ble_eq_true rfl) rfl (sp_part_4 _ _ (by omega)) ?_
  show G (15, [some (vI n), some (vI ((((0 + (dgt n 0)) + (dgt n 1)) + (dgt n 2)) + (dgt n 3))), some (vI 4)], [vI (dgt n 4), vI ((((0 + (dgt n 0)) + (dgt n 1)) + (dgt n 2)) + (dgt n 3))], w)
  refine hR.run0 6 (S' := (6, [some (vI n), some (vI (((((0 + (dgt n 0)) + (dgt n 1)) + (dgt n 2)) + (dgt n 3)) + (dgt n 4))), some (vI 5)], [vI 5, vI 5], w)) rfl ?_
  refine hR.br (C := 5 ≤ 5) rfl (by (try dsimp only); omega) (fun c6 => ?_) (fun c6 => ?_)
  · skip
    refine hR.run0 1 (S' := (24, [some (vI n), some (vI (((((0 + (dgt n 0)) + (dgt n 1)) + (dgt n 2)) + (dgt n 3)) + (dgt n 4))), some (vI 5)], [vI (((((0 + (dgt n 0)) + (dgt n 1)) + (dgt n 2)) + (dgt n 3)) + (dgt n 4))], w)) rfl ?_
    exact hR.rt rfl trivial (by rw [show szG n = (((((0 + (dgt n 0)) + (dgt n 1)) + (dgt n 2)) + (dgt n 3)) + (dgt n 4)) from by unfold szG; omega]) (by rfl)
  · exfalso; omega
theorem sp_sPlace (ro : PRO) (w : PW) {p g : Int} (hp : 0 ≤ p ∧ p < 4) (hg : 0 ≤ g ∧ g < 5) : Sp mX3_isPlace ro 0 [vI p, vI g] (w) (.inl (some (vI (1)))) (w) := by
  refine Sp.of (lk := lkX3) (tb := bX3_isPlace) (by decide) lkX3_ok tX3_isPlace rfl (Nat.le_of_ble_eq_true rfl) (fun G hR => ?_)
  refine hR.run0 1 (S' := (1, [some (vI p), some (vI g)], [vI p], w)) rfl ?_
  refine hR.br (C := p < 0) rfl (by (try dsimp only); omega) (fun c1 => ?_) (fun c1 => ?_)
  · exfalso; omega
  refine hR.run0 2 (S' := (6, [some (vI p), some (vI g)], [vI 4, vI p], w)) rfl ?_
  refine hR.br (C := 4 ≤ p) rfl (by (try dsimp only); omega) (fun c2 => ?_) (fun c2 => ?_)
  · exfalso; omega
  refine hR.run0 1 (S' := (10, [some (vI p), some (vI g)], [vI g], w)) rfl ?_
  refine hR.br (C := g < 0) rfl (by (try dsimp only); omega) (fun c3 => ?_) (fun c3 => ?_)
  · exfalso; omega
  refine hR.run0 2 (S' := (15, [some (vI p), some (vI g)], [vI 5, vI g], w)) rfl ?_
  refine hR.br (C := 5 ≤ g) rfl (by (try dsimp only); omega) (fun c4 => ?_) (fun c4 => ?_)
  · exfalso; omega
  refine hR.run0 2 (S' := (23, [some (vI p), some (vI g)], [vI 1], w)) rfl ?_
  exact hR.rt rfl (Or.inr rfl) rfl (by rfl)
theorem sp_sPlaceN (ro : PRO) (w : PW) {p g : Int} (hp : p < 0) (hpr : -2147483648 ≤ p) : Sp mX3_isPlace ro 0 [vI p, vI g] (w) (.inl (some (vI (0)))) (w) := by
  refine Sp.of (lk := lkX3) (tb := bX3_isPlace) (by decide) lkX3_ok tX3_isPlace rfl (Nat.le_of_ble_eq_true rfl) (fun G hR => ?_)
  refine hR.run0 1 (S' := (1, [some (vI p), some (vI g)], [vI p], w)) rfl ?_
  refine hR.br (C := p < 0) rfl (by (try dsimp only); omega) (fun c1 => ?_) (fun c1 => ?_)
  · skip
    refine hR.run0 1 (S' := (23, [some (vI p), some (vI g)], [vI 0], w)) rfl ?_
    exact hR.rt rfl (Or.inl rfl) rfl (by rfl)
  · exfalso; omega
theorem sp_sPlaceD (ro : PRO) (w : PW) {p g : Int} (hp : 0 ≤ p ∧ p < 4) (hg : 5 ≤ g ∧ g ≤ 2147483647) : Sp mX3_isPlace ro 0 [vI p, vI g] (w) (.inl (some (vI (0)))) (w) := by
  refine Sp.of (lk := lkX3) (tb := bX3_isPlace) (by decide) lkX3_ok tX3_isPlace rfl (Nat.le_of_ble_eq_true rfl) (fun G hR => ?_)
  refine hR.run0 1 (S' := (1, [some (vI p), some (vI g)], [vI p], w)) rfl ?_
  refine hR.br (C := p < 0) rfl (by (try dsimp only); omega) (fun c1 => ?_) (fun c1 => ?_)
  · exfalso; omega
  refine hR.run0 2 (S' := (6, [some (vI p), some (vI g)], [vI 4, vI p], w)) rfl ?_
  refine hR.br (C := 4 ≤ p) rfl (by (try dsimp only); omega) (fun c2 => ?_) (fun c2 => ?_)
  · exfalso; omega
  refine hR.run0 1 (S' := (10, [some (vI p), some (vI g)], [vI g], w)) rfl ?_
  refine hR.br (C := g < 0) rfl (by (try dsimp only); omega) (fun c3 => ?_) (fun c3 => ?_)
  · exfalso; omega
  refine hR.run0 2 (S' := (15, [some (vI p), some (vI g)], [vI 5, vI g], w)) rfl ?_
  refine hR.br (C := 5 ≤ g) rfl (by (try dsimp only); omega) (fun c4 => ?_) (fun c4 => ?_)
  · skip
    refine hR.run0 1 (S' := (23, [some (vI p), some (vI g)], [vI 0], w)) rfl ?_
    exact hR.rt rfl (Or.inl rfl) rfl (by rfl)
  · exfalso; omega
theorem sp_count_0 (τ κ : St) {g : Int} (hg : 0 ≤ g ∧ g < 5) : Sp mX3_count roC 1 [vR 10, vI 0, vI g] (cW τ κ) (.inl (some (vI (τ.2.2 0 0 g)))) (cW τ κ) := by
  refine Sp.of (lk := lkX3) (tb := bX3_count) (by decide) lkX3_ok tX3_count (cW_keys _ _ _ _) (Nat.le_of_ble_eq_true rfl) (fun G hR => ?_)
  refine hR.run0 2 (S' := (2, [some (vR 10), some (vI 0), some (vI g)], [vI g, vI 0], cW τ κ)) rfl ?_
  refine hR.cs [vI 0, vI g] kX3_23 rfl rfl (by first | decide | exact Nat.le_refl _) (by decide) (Nat.le_of_ble_eq_true rfl) rfl (sp_sPlace _ _ (by omega) (by omega)) ?_
  show G (5, [some (vR 10), some (vI 0), some (vI g)], [vI 1], cW τ κ)
  refine hR.br (C := 1 = 0) rfl (by (try dsimp only); omega) (fun c1 => ?_) (fun c1 => ?_)
  · exfalso; omega
  refine hR.run1 7 (S' := (20, [some (vR 10), some (vI 0), some (vI g)], [vI (τ.2.2 0 0 g)], cW τ κ)) rfl (by (try dsimp only); omega) ?_
  exact hR.rt rfl trivial rfl (by rfl)
theorem sp_count_1 (τ κ : St) {g : Int} (hg : 0 ≤ g ∧ g < 5) : Sp mX3_count roC 1 [vR 10, vI 1, vI g] (cW τ κ) (.inl (some (vI (τ.2.2 0 1 g)))) (cW τ κ) := by
  refine Sp.of (lk := lkX3) (tb := bX3_count) (by decide) lkX3_ok tX3_count (cW_keys _ _ _ _) (Nat.le_of_ble_eq_true rfl) (fun G hR => ?_)
  refine hR.run0 2 (S' := (2, [some (vR 10), some (vI 1), some (vI g)], [vI g, vI 1], cW τ κ)) rfl ?_
  refine hR.cs [vI 1, vI g] kX3_23 rfl rfl (by first | decide | exact Nat.le_refl _) (by decide) (Nat.le_of_ble_eq_true rfl) rfl (sp_sPlace _ _ (by omega) (by omega)) ?_
  show G (5, [some (vR 10), some (vI 1), some (vI g)], [vI 1], cW τ κ)
  refine hR.br (C := 1 = 0) rfl (by (try dsimp only); omega) (fun c1 => ?_) (fun c1 => ?_)
  · exfalso; omega
  refine hR.run1 7 (S' := (20, [some (vR 10), some (vI 1), some (vI g)], [vI (τ.2.2 0 1 g)], cW τ κ)) rfl (by (try dsimp only); omega) ?_
  exact hR.rt rfl trivial rfl (by rfl)
theorem sp_count_2 (τ κ : St) {g : Int} (hg : 0 ≤ g ∧ g < 5) : Sp mX3_count roC 1 [vR 10, vI 2, vI g] (cW τ κ) (.inl (some (vI (τ.2.2 0 2 g)))) (cW τ κ) := by
  refine Sp.of (lk := lkX3) (tb := bX3_count) (by decide) lkX3_ok tX3_count (cW_keys _ _ _ _) (Nat.le_of_ble_eq_true rfl) (fun G hR => ?_)
  refine hR.run0 2 (S' := (2, [some (vR 10), some (vI 2), some (vI g)], [vI g, vI 2], cW τ κ)) rfl ?_
  refine hR.cs [vI 2, vI g] kX3_23 rfl rfl (by first | decide | exact Nat.le_refl _) (by decide) (Nat.le_of_ble_eq_true rfl) rfl (sp_sPlace _ _ (by omega) (by omega)) ?_
  show G (5, [some (vR 10), some (vI 2), some (vI g)], [vI 1], cW τ κ)
  refine hR.br (C := 1 = 0) rfl (by (try dsimp only); omega) (fun c1 => ?_) (fun c1 => ?_)
  · exfalso; omega
  refine hR.run1 7 (S' := (20, [some (vR 10), some (vI 2), some (vI g)], [vI (τ.2.2 0 2 g)], cW τ κ)) rfl (by (try dsimp only); omega) ?_
  exact hR.rt rfl trivial rfl (by rfl)
theorem sp_count_3 (τ κ : St) {g : Int} (hg : 0 ≤ g ∧ g < 5) : Sp mX3_count roC 1 [vR 10, vI 3, vI g] (cW τ κ) (.inl (some (vI (τ.2.2 0 3 g)))) (cW τ κ) := by
  refine Sp.of (lk := lkX3) (tb := bX3_count) (by decide) lkX3_ok tX3_count (cW_keys _ _ _ _) (Nat.le_of_ble_eq_true rfl) (fun G hR => ?_)
  refine hR.run0 2 (S' := (2, [some (vR 10), some (vI 3), some (vI g)], [vI g, vI 3], cW τ κ)) rfl ?_
  refine hR.cs [vI 3, vI g] kX3_23 rfl rfl (by first | decide | exact Nat.le_refl _) (by decide) (Nat.le_of_ble_eq_true rfl) rfl (sp_sPlace _ _ (by omega) (by omega)) ?_
  show G (5, [some (vR 10), some (vI 3), some (vI g)], [vI 1], cW τ κ)
  refine hR.br (C := 1 = 0) rfl (by (try dsimp only); omega) (fun c1 => ?_) (fun c1 => ?_)
  · exfalso; omega
  refine hR.run1 7 (S' := (20, [some (vR 10), some (vI 3), some (vI g)], [vI (τ.2.2 0 3 g)], cW τ κ)) rfl (by (try dsimp only); omega) ?_
  exact hR.rt rfl trivial rfl (by rfl)
theorem sp_count (τ κ : St) {p g : Int} (hp : 0 ≤ p ∧ p < 4) (hg : 0 ≤ g ∧ g < 5) : Sp mX3_count roC 1 [vR 10, vI p, vI g] (cW τ κ) (.inl (some (vI (τ.2.2 0 p g)))) (cW τ κ) := by
  rcases (show p = 0 ∨ p = 1 ∨ p = 2 ∨ p = 3 from by omega) with rfl | rfl | rfl | rfl
  · exact sp_count_0 τ κ hg
  · exact sp_count_1 τ κ hg
  · exact sp_count_2 τ κ hg
  · exact sp_count_3 τ κ hg
theorem sp_countN (τ κ : St) {p g : Int} (hp : p < 0) (hpr : -2147483648 ≤ p) : Sp mX3_count roC 1 [vR 10, vI p, vI g] (cW τ κ) (.inl (some (vI (0)))) (cW τ κ) := by
  refine Sp.of (lk := lkX3) (tb := bX3_count) (by decide) lkX3_ok tX3_count (cW_keys _ _ _ _) (Nat.le_of_ble_eq_true rfl) (fun G hR => ?_)
  refine hR.run0 2 (S' := (2, [some (vR 10), some (vI p), some (vI g)], [vI g, vI p], cW τ κ)) rfl ?_
  refine hR.cs [vI p, vI g] kX3_23 rfl rfl (by first | decide | exact Nat.le_refl _) (by decide) (Nat.le_of_ble_eq_true rfl) rfl (sp_sPlaceN _ _ (by omega) (by omega)) ?_
  show G (5, [some (vR 10), some (vI p), some (vI g)], [vI 0], cW τ κ)
  refine hR.br (C := 0 = 0) rfl (by (try dsimp only); omega) (fun c1 => ?_) (fun c1 => ?_)
  · skip
    refine hR.run0 1 (S' := (20, [some (vR 10), some (vI p), some (vI g)], [vI 0], cW τ κ)) rfl ?_
    exact hR.rt rfl trivial rfl (by rfl)
  · exfalso; omega
theorem sp_countD (τ κ : St) {p g : Int} (hp : 0 ≤ p ∧ p < 4) (hg : 5 ≤ g ∧ g ≤ 2147483647) : Sp mX3_count roC 1 [vR 10, vI p, vI g] (cW τ κ) (.inl (some (vI (0)))) (cW τ κ) := by
  refine Sp.of (lk := lkX3) (tb := bX3_count) (by decide) lkX3_ok tX3_count (cW_keys _ _ _ _) (Nat.le_of_ble_eq_true rfl) (fun G hR => ?_)
  refine hR.run0 2 (S' := (2, [some (vR 10), some (vI p), some (vI g)], [vI g, vI p], cW τ κ)) rfl ?_
  refine hR.cs [vI p, vI g] kX3_23 rfl rfl (by first | decide | exact Nat.le_refl _) (by decide) (Nat.le_of_ble_eq_true rfl) rfl (sp_sPlaceD _ _ (by omega) (by omega)) ?_
  show G (5, [some (vR 10), some (vI p), some (vI g)], [vI 0], cW τ κ)
  refine hR.br (C := 0 = 0) rfl (by (try dsimp only); omega) (fun c1 => ?_) (fun c1 => ?_)
  · skip
    refine hR.run0 1 (S' := (20, [some (vR 10), some (vI p), some (vI g)], [vI 0], cW τ κ)) rfl ?_
    exact hR.rt rfl trivial rfl (by rfl)
  · exfalso; omega
theorem sp_total (τ κ : St) {p : Int} (hp : 0 ≤ p ∧ p < 4) (hh : ∀ p g, 0 ≤ τ.2.2 0 p g ∧ τ.2.2 0 p g ≤ 12) : Sp mX3_total roC 2 [vR 10, vI p] (cW τ κ) (.inl (some (vI (tot (τ.2.2 0) p)))) (cW τ κ) := by
  refine Sp.of (lk := lkX3) (tb := bX3_total) (by decide) lkX3_ok tX3_total (cW_keys _ _ _ _) (Nat.le_of_ble_eq_true rfl) (fun G hR => ?_)
  refine hR.run0 6 (S' := (6, [some (vR 10), some (vI p), some (vI 0), some (vI 0)], [vI 5, vI 0], cW τ κ)) rfl ?_
  refine hR.br (C := 5 ≤ 0) rfl (by (try dsimp only); omega) (fun c1 => ?_) (fun c1 => ?_)
  · exfalso; omega
  refine hR.run0 4 (S' := (13, [some (vR 10), some (vI p), some (vI 0), some (vI 0)], [vI 0, vI p, vR 10, vI 0], cW τ κ)) rfl ?_
  have f1 := hh p 0
  refine hR.cv [vI p, vI 0] kX3_27 rfl rfl ⟨_, _, _, rfl, rfl, rfl⟩ (by first | decide | exact Nat.le_refl _) (by decide) (Nat.le_of_ble_eq_true rfl) rfl (sp_count _ _ (by omega) (by omega)) ?_
  show G (16, [some (vR 10), some (vI p), some (vI 0), some (vI 0)], [vI (τ.2.2 0 p 0), vI 0], cW τ κ)
  refine hR.run0 6 (S' := (6, [some (vR 10), some (vI p), some (vI (0 + (τ.2.2 0 p 0))), some (vI 1)], [vI 5, vI 1], cW τ κ)) rfl ?_
  refine hR.br (C := 5 ≤ 1) rfl (by (try dsimp only); omega) (fun c2 => ?_) (fun c2 => ?_)
  · exfalso; omega
  refine hR.run0 4 (S' := (13, [some (vR 10), some (vI p), some (vI (0 + (τ.2.2 0 p 0))), some (vI 1)], [vI 1, vI p, vR 10, vI (0 + (τ.2.2 0 p 0))], cW τ κ)) rfl ?_
  have f2 := hh p 1
  refine hR.cv [vI p, vI 1] kX3_27 rfl rfl ⟨_, _, _, rfl, rfl, rfl⟩ (by first | decide | exact Nat.le_refl _) (by decide) (Nat.le_of_ble_eq_true rfl) rfl (sp_count _ _ (by omega) (by omega)) ?_
  show G (16, [some (vR 10), some (vI p), some (vI (0 + (τ.2.2 0 p 0))), some (vI 1)], [vI (τ.2.2 0 p 1), vI (0 + (τ.2.2 0 p 0))], cW τ κ)
  refine hR.run0 6 (S' := (6, [some (vR 10), some (vI p), some (vI ((0 + (τ.2.2 0 p 0)) + (τ.2.2 0 p 1))), some (vI 2)], [vI 5, vI 2], cW τ κ)) rfl ?_
  refine hR.br (C := 5 ≤ 2) rfl (by (try dsimp only); omega) (fun c3 => ?_) (fun c3 => ?_)
  · exfalso; omega
  refine hR.run0 4 (S' := (13, [some (vR 10), some (vI p), some (vI ((0 + (τ.2.2 0 p 0)) + (τ.2.2 0 p 1))), some (vI 2)], [vI 2, vI p, vR 10, vI ((0 + (τ.2.2 0 p 0)) + (τ.2.2 0 p 1))], cW τ κ)) rfl ?_
  have f3 := hh p 2
  refine hR.cv [vI p, vI 2] kX3_27 rfl rfl ⟨_, _, _, rfl, rfl, rfl⟩ (by first | decide | exact Nat.le_refl _) (by decide) (Nat.le_of_ble_eq_true rfl) rfl (sp_count _ _ (by omega) (by omega)) ?_
  show G (16, [some (vR 10), some (vI p), some (vI ((0 + (τ.2.2 0 p 0)) + (τ.2.2 0 p 1))), some (vI 2)], [vI (τ.2.2 0 p 2), vI ((0 + (τ.2.2 0 p 0)) + (τ.2.2 0 p 1))], cW τ κ)
  refine hR.run0 6 (S' := (6, [some (vR 10), some (vI p), some (vI (((0 + (τ.2.2 0 p 0)) + (τ.2.2 0 p 1)) + (τ.2.2 0 p 2))), some (vI 3)], [vI 5, vI 3], cW τ κ)) rfl ?_
  refine hR.br (C := 5 ≤ 3) rfl (by (try dsimp only); omega) (fun c4 => ?_) (fun c4 => ?_)
  · exfalso; omega
  refine hR.run0 4 (S' := (13, [some (vR 10), some (vI p), some (vI (((0 + (τ.2.2 0 p 0)) + (τ.2.2 0 p 1)) + (τ.2.2 0 p 2))), some (vI 3)], [vI 3, vI p, vR 10, vI (((0 + (τ.2.2 0 p 0)) + (τ.2.2 0 p 1)) + (τ.2.2 0 p 2))], cW τ κ)) rfl ?_
  have f4 := hh p 3
  refine hR.cv [vI p, vI 3] kX3_27 rfl rfl ⟨_, _, _, rfl, rfl, rfl⟩ (by first | decide | exact Nat.le_refl _) (by decide) (Nat.le_of_ble_eq_true rfl) rfl (sp_count _ _ (by omega) (by omega)) ?_
  show G (16, [some (vR 10), some (vI p), some (vI (((0 + (τ.2.2 0 p 0)) + (τ.2.2 0 p 1)) + (τ.2.2 0 p 2))), some (vI 3)], [vI (τ.2.2 0 p 3), vI (((0 + (τ.2.2 0 p 0)) + (τ.2.2 0 p 1)) + (τ.2.2 0 p 2))], cW τ κ)
  refine hR.run0 6 (S' := (6, [some (vR 10), some (vI p), some (vI ((((0 + (τ.2.2 0 p 0)) + (τ.2.2 0 p 1)) + (τ.2.2 0 p 2)) + (τ.2.2 0 p 3))), some (vI 4)], [vI 5, vI 4], cW τ κ)) rfl ?_
  refine hR.br (C := 5 ≤ 4) rfl (by (try dsimp only); omega) (fun c5 => ?_) (fun c5 => ?_)
  · exfalso; omega
  refine hR.run0 4 (S' := (13, [some (vR 10), some (vI p), some (vI ((((0 + (τ.2.2 0 p 0)) + (τ.2.2 0 p 1)) + (τ.2.2 0 p 2)) + (τ.2.2 0 p 3))), some (vI 4)], [vI 4, vI p, vR 10, vI ((((0 + (τ.2.2 0 p 0)) + (τ.2.2 0 p 1)) + (τ.2.2 0 p 2)) + (τ.2.2 0 p 3))], cW τ κ)) rfl ?_
  have f5 := hh p 4
  refine hR.cv [vI p, vI 4] kX3_27 rfl rfl ⟨_, _, _, rfl, rfl, rfl⟩ (by first | decide | exact Nat.le_refl _) (by decide) (Nat.le_of_ble_eq_true rfl) rfl (sp_count _ _ (by omega) (by omega)) ?_
  show G (16, [some (vR 10), some (vI p), some (vI ((((0 + (τ.2.2 0 p 0)) + (τ.2.2 0 p 1)) + (τ.2.2 0 p 2)) + (τ.2.2 0 p 3))), some (vI 4)], [vI (τ.2.2 0 p 4), vI ((((0 + (τ.2.2 0 p 0)) + (τ.2.2 0 p 1)) + (τ.2.2 0 p 2)) + (τ.2.2 0 p 3))], cW τ κ)
  refine hR.run0 6 (S' := (6, [some (vR 10), some (vI p), some (vI (((((0 + (τ.2.2 0 p 0)) + (τ.2.2 0 p 1)) + (τ.2.2 0 p 2)) + (τ.2.2 0 p 3)) + (τ.2.2 0 p 4))), some (vI 5)], [vI 5, vI 5], cW τ κ)) rfl ?_
  refine hR.br (C := 5 ≤ 5) rfl (by (try dsimp only); omega) (fun c6 => ?_) (fun c6 => ?_)
  · skip
    refine hR.run0 1 (S' := (25, [some (vR 10), some (vI p), some (vI (((((0 + (τ.2.2 0 p 0)) + (τ.2.2 0 p 1)) + (τ.2.2 0 p 2)) + (τ.2.2 0 p 3)) + (τ.2.2 0 p 4))), some (vI 5)], [vI (((((0 + (τ.2.2 0 p 0)) + (τ.2.2 0 p 1)) + (τ.2.2 0 p 2)) + (τ.2.2 0 p 3)) + (τ.2.2 0 p 4))], cW τ κ)) rfl ?_
    exact hR.rt rfl trivial (by rw [show tot (τ.2.2 0) p = (((((0 + (τ.2.2 0 p 0)) + (τ.2.2 0 p 1)) + (τ.2.2 0 p 2)) + (τ.2.2 0 p 3)) + (τ.2.2 0 p 4)) from by unfold tot; omega]) (by rfl)
  · exfalso; omega
theorem sp_totalN (τ κ : St) {p : Int} (hp : p < 0) (hpr : -2147483648 ≤ p) : Sp mX3_total roC 2 [vR 10, vI p] (cW τ κ) (.inl (some (vI (0)))) (cW τ κ) := by
  refine Sp.of (lk := lkX3) (tb := bX3_total) (by decide) lkX3_ok tX3_total (cW_keys _ _ _ _) (Nat.le_of_ble_eq_true rfl) (fun G hR => ?_)
  refine hR.run0 6 (S' := (6, [some (vR 10), some (vI p), some (vI 0), some (vI 0)], [vI 5, vI 0], cW τ κ)) rfl ?_
  refine hR.br (C := 5 ≤ 0) rfl (by (try dsimp only); omega) (fun c1 => ?_) (fun c1 => ?_)
  · exfalso; omega
  refine hR.run0 4 (S' := (13, [some (vR 10), some (vI p), some (vI 0), some (vI 0)], [vI 0, vI p, vR 10, vI 0], cW τ κ)) rfl ?_
  refine hR.cv [vI p, vI 0] kX3_27 rfl rfl ⟨_, _, _, rfl, rfl, rfl⟩ (by first | decide | exact Nat.le_refl _) (by decide) (Nat.le_of_ble_eq_true rfl) rfl (sp_countN _ _ (by omega) (by omega)) ?_
  show G (16, [some (vR 10), some (vI p), some (vI 0), some (vI 0)], [vI 0, vI 0], cW τ κ)
  refine hR.run0 6 (S' := (6, [some (vR 10), some (vI p), some (vI 0), some (vI 1)], [vI 5, vI 1], cW τ κ)) rfl ?_
  refine hR.br (C := 5 ≤ 1) rfl (by (try dsimp only); omega) (fun c2 => ?_) (fun c2 => ?_)
  · exfalso; omega
  refine hR.run0 4 (S' := (13, [some (vR 10), some (vI p), some (vI 0), some (vI 1)], [vI 1, vI p, vR 10, vI 0], cW τ κ)) rfl ?_
  refine hR.cv [vI p, vI 1] kX3_27 rfl rfl ⟨_, _, _, rfl, rfl, rfl⟩ (by first | decide | exact Nat.le_refl _) (by decide) (Nat.le_of_ble_eq_true rfl) rfl (sp_countN _ _ (by omega) (by omega)) ?_
  show G (16, [some (vR 10), some (vI p), some (vI 0), some (vI 1)], [vI 0, vI 0], cW τ κ)
  refine hR.run0 6 (S' := (6, [some (vR 10), some (vI p), some (vI 0), some (vI 2)], [vI 5, vI 2], cW τ κ)) rfl ?_
  refine hR.br (C := 5 ≤ 2) rfl (by (try dsimp only); omega) (fun c3 => ?_) (fun c3 => ?_)
  · exfalso; omega
  refine hR.run0 4 (S' := (13, [some (vR 10), some (vI p), some (vI 0), some (vI 2)], [vI 2, vI p, vR 10, vI 0], cW τ κ)) rfl ?_
  refine hR.cv [vI p, vI 2] kX3_27 rfl rfl ⟨_, _, _, rfl, rfl, rfl⟩ (by first | decide | exact Nat.le_refl _) (by decide) (Nat.le_of_ble_eq_true rfl) rfl (sp_countN _ _ (by omega) (by omega)) ?_
  show G (16, [some (vR 10), some (vI p), some (vI 0), some (vI 2)], [vI 0, vI 0], cW τ κ)
  refine hR.run0 6 (S' := (6, [some (vR 10), some (vI p), some (vI 0), some (vI 3)], [vI 5, vI 3], cW τ κ)) rfl ?_
  refine hR.br (C := 5 ≤ 3) rfl (by (try dsimp only); omega) (fun c4 => ?_) (fun c4 => ?_)
  · exfalso; omega
  refine hR.run0 4 (S' := (13, [some (vR 10), some (vI p), some (vI 0), some (vI 3)], [vI 3, vI p, vR 10, vI 0], cW τ κ)) rfl ?_
  refine hR.cv [vI p, vI 3] kX3_27 rfl rfl ⟨_, _, _, rfl, rfl, rfl⟩ (by first | decide | exact Nat.le_refl _) (by decide) (Nat.le_of_ble_eq_true rfl) rfl (sp_countN _ _ (by omega) (by omega)) ?_
  show G (16, [some (vR 10), some (vI p), some (vI 0), some (vI 3)], [vI 0, vI 0], cW τ κ)
  refine hR.run0 6 (S' := (6, [some (vR 10), some (vI p), some (vI 0), some (vI 4)], [vI 5, vI 4], cW τ κ)) rfl ?_
  refine hR.br (C := 5 ≤ 4) rfl (by (try dsimp only); omega) (fun c5 => ?_) (fun c5 => ?_)
  · exfalso; omega
  refine hR.run0 4 (S' := (13, [some (vR 10), some (vI p), some (vI 0), some (vI 4)], [vI 4, vI p, vR 10, vI 0], cW τ κ)) rfl ?_
  refine hR.cv [vI p, vI 4] kX3_27 rfl rfl ⟨_, _, _, rfl, rfl, rfl⟩ (by first | decide | exact Nat.le_refl _) (by decide) (Nat.le_of_ble_eq_true rfl) rfl (sp_countN _ _ (by omega) (by omega)) ?_
  show G (16, [some (vR 10), some (vI p), some (vI 0), some (vI 4)], [vI 0, vI 0], cW τ κ)
  refine hR.run0 6 (S' := (6, [some (vR 10), some (vI p), some (vI 0), some (vI 5)], [vI 5, vI 5], cW τ κ)) rfl ?_
  refine hR.br (C := 5 ≤ 5) rfl (by (try dsimp only); omega) (fun c6 => ?_) (fun c6 => ?_)
  · skip
    refine hR.run0 1 (S' := (25, [some (vR 10), some (vI p), some (vI 0), some (vI 5)], [vI 0], cW τ κ)) rfl ?_
    exact hR.rt rfl trivial rfl (by rfl)
  · exfalso; omega
theorem sp_has (τ κ : St) {p n : Int} (hp : 0 ≤ p ∧ p < 4) (hn : 0 ≤ n ∧ n ≤ 99999) (hh : ∀ p g, 0 ≤ τ.2.2 0 p g ∧ τ.2.2 0 p g ≤ 12) : Sp mX3_has roC 2 [vR 10, vI p, vI n] (cW τ κ) (.inl (some (vI (bI (hasG (τ.2.2 0) p n))))) (cW τ κ) := by
  refine Sp.of (lk := lkX3) (tb := bX3_has) (by decide) lkX3_ok tX3_has (cW_keys _ _ _ _) (Nat.le_of_ble_eq_true rfl) (fun G hR => ?_)
  refine hR.run0 4 (S' := (4, [some (vR 10), some (vI p), some (vI n), some (vI 0)], [vI 5, vI 0], cW τ κ)) rfl ?_
  refine hR.br (C := 5 ≤ 0) rfl (by (try dsimp only); omega) (fun c1 => ?_) (fun c1 => ?_)
  · exfalso; omega
  refine hR.run0 3 (S' := (10, [some (vR 10), some (vI p), some (vI n), some (vI 0)], [vI 0, vI p, vR 10], cW τ κ)) rfl ?_
  have f1 := hh p 0
  refine hR.cv [vI p, vI 0] kX3_27 rfl rfl ⟨_, _, _, rfl, rfl, rfl⟩ (by first | decide | exact Nat.le_refl _) (by decide) (Nat.le_of_ble_eq_true rfl) rfl (sp_count _ _ (by omega) (by omega)) ?_
  show G (13, [some (vR 10), some (vI p), some (vI n), some (vI 0)], [vI (τ.2.2 0 p 0)], cW τ κ)
  refine hR.run0 2 (S' := (15, [some (vR 10), some (vI p), some (vI n), some (vI 0)], [vI 0, vI n, vI (τ.2.2 0 p 0)], cW τ κ)) rfl ?_
  have f2 := dgt_r n 0
  refine hR.cs [vI n, vI 0] kX3_19 rfl rfl (by first | decide | exact Nat.le_refl _) (by decide) (Nat.le_of_ble_eq_true rfl) rfl (sp_part_0 _ _ (by omega)) ?_
  show G (18, [some (vR 10), some (vI p), some (vI n), some (vI 0)], [vI (dgt n 0), vI (τ.2.2 0 p 0)], cW τ κ)
  refine hR.br (C := dgt n 0 ≤ τ.2.2 0 p 0) rfl (by (try dsimp only); omega) (fun c2 => ?_) (fun c2 => ?_)
  · skip
    refine hR.run0 4 (S' := (4, [some (vR 10), some (vI p), some (vI n), some (vI 1)], [vI 5, vI 1], cW τ κ)) rfl ?_
    refine hR.br (C := 5 ≤ 1) rfl (by (try dsimp only); omega) (fun c3 => ?_) (fun c3 => ?_)
    · exfalso; omega
    refine hR.run0 3 (S' := (10, [some (vR 10), some (vI p), some (vI n), some (vI 1)], [vI 1, vI p, vR 10], cW τ κ)) rfl ?_
    have f3 := hh p 1
    refine hR.cv [vI p, vI 1] kX3_27 rfl rfl ⟨_, _, _, rfl, rfl, rfl⟩ (by first | decide | exact Nat.le_refl _) (by decide) (Nat.le_of_ble_eq_true rfl) rfl (sp_count _ _ (by omega) (by omega)) ?_
    show G (13, [some (vR 10), some (vI p), some (vI n), some (vI 1)], [vI (τ.2.2 0 p 1)], cW τ κ)
    refine hR.run0 2 (S' := (15, [some (vR 10), some (vI p), some (vI n), some (vI 1)], [vI 1, vI n, vI (τ.2.2 0 p 1)], cW τ κ)) rfl ?_
    have f4 := dgt_r n 1
    refine hR.cs [vI n, vI 1] kX3_19 rfl rfl (by first | decide | exact Nat.le_refl _) (by decide) (Nat.le_of_ble_eq_true rfl) rfl (sp_part_1 _ _ (by omega)) ?_
    show G (18, [some (vR 10), some (vI p), some (vI n), some (vI 1)], [vI (dgt n 1), vI (τ.2.2 0 p 1)], cW τ κ)
    refine hR.br (C := dgt n 1 ≤ τ.2.2 0 p 1) rfl (by (try dsimp only); omega) (fun c4 => ?_) (fun c4 => ?_)
    · skip
      refine hR.run0 4 (S' := (4, [some (vR 10), some (vI p), some (vI n), some (vI 2)], [vI 5, vI 2], cW τ κ)) rfl ?_
      refine hR.br (C := 5 ≤ 2) rfl (by (try dsimp only); omega) (fun c5 => ?_) (fun c5 => ?_)
      · exfalso; omega
      refine hR.run0 3 (S' := (10, [some (vR 10), some (vI p), some (vI n), some (vI 2)], [vI 2, vI p, vR 10], cW τ κ)) rfl ?_
      have f5 := hh p 2
      refine hR.cv [vI p, vI 2] kX3_27 rfl rfl ⟨_, _, _, rfl, rfl, rfl⟩ (by first | decide | exact Nat.le_refl _) (by decide) (Nat.le_of_ble_eq_true rfl) rfl (sp_count _ _ (by omega) (by omega)) ?_
      show G (13, [some (vR 10), some (vI p), some (vI n), some (vI 2)], [vI (τ.2.2 0 p 2)], cW τ κ)
      refine hR.run0 2 (S' := (15, [some (vR 10), some (vI p), some (vI n), some (vI 2)], [vI 2, vI n, vI (τ.2.2 0 p 2)], cW τ κ)) rfl ?_
      have f6 := dgt_r n 2
      refine hR.cs [vI n, vI 2] kX3_19 rfl rfl (by first | decide | exact Nat.le_refl _) (by decide) (Nat.le_of_ble_eq_true rfl) rfl (sp_part_2 _ _ (by omega)) ?_
      show G (18, [some (vR 10), some (vI p), some (vI n), some (vI 2)], [vI (dgt n 2), vI (τ.2.2 0 p 2)], cW τ κ)
      refine hR.br (C := dgt n 2 ≤ τ.2.2 0 p 2) rfl (by (try dsimp only); omega) (fun c6 => ?_) (fun c6 => ?_)
      · skip
        refine hR.run0 4 (S' := (4, [some (vR 10), some (vI p), some (vI n), some (vI 3)], [vI 5, vI 3], cW τ κ)) rfl ?_
        refine hR.br (C := 5 ≤ 3) rfl (by (try dsimp only); omega) (fun c7 => ?_) (fun c7 => ?_)
        · exfalso; omega
        refine hR.run0 3 (S' := (10, [some (vR 10), some (vI p), some (vI n), some (vI 3)], [vI 3, vI p, vR 10], cW τ κ)) rfl ?_
        have f7 := hh p 3
        refine hR.cv [vI p, vI 3] kX3_27 rfl rfl ⟨_, _, _, rfl, rfl, rfl⟩ (by first | decide | exact Nat.le_refl _) (by decide) (Nat.le_of_ble_eq_true rfl) rfl (sp_count _ _ (by omega) (by omega)) ?_
        show G (13, [some (vR 10), some (vI p), some (vI n), some (vI 3)], [vI (τ.2.2 0 p 3)], cW τ κ)
        refine hR.run0 2 (S' := (15, [some (vR 10), some (vI p), some (vI n), some (vI 3)], [vI 3, vI n, vI (τ.2.2 0 p 3)], cW τ κ)) rfl ?_
        have f8 := dgt_r n 3
        refine hR.cs [vI n, vI 3] kX3_19 rfl rfl (by first | decide | exact Nat.le_refl _) (by decide) (Nat.le_of_ble_eq_true rfl) rfl (sp_part_3 _ _ (by omega)) ?_
        show G (18, [some (vR 10), some (vI p), some (vI n), some (vI 3)], [vI (dgt n 3), vI (τ.2.2 0 p 3)], cW τ κ)
        refine hR.br (C := dgt n 3 ≤ τ.2.2 0 p 3) rfl (by (try dsimp only); omega) (fun c8 => ?_) (fun c8 => ?_)
        · skip
          refine hR.run0 4 (S' := (4, [some (vR 10), some (vI p), some (vI n), some (vI 4)], [vI 5, vI 4], cW τ κ)) rfl ?_
          refine hR.br (C := 5 ≤ 4) rfl (by (try dsimp only); omega) (fun c9 => ?_) (fun c9 => ?_)
          · exfalso; omega
          refine hR.run0 3 (S' := (10, [some (vR 10), some (vI p), some (vI n), some (vI 4)], [vI 4, vI p, vR 10], cW τ κ)) rfl ?_
          have f9 := hh p 4
          refine hR.cv [vI p, vI 4] kX3_27 rfl rfl ⟨_, _, _, rfl, rfl, rfl⟩ (by first | decide | exact Nat.le_refl _) (by decide) (Nat.le_of_ble_eq_true rfl) rfl (sp_count _ _ (by omega) (by omega)) ?_
          show G (13, [some (vR 10), some (vI p), some (vI n), some (vI 4)], [vI (τ.2.2 0 p 4)], cW τ κ)
          refine hR.run0 2 (S' := (15, [some (vR 10), some (vI p), some (vI n), some (vI 4)], [vI 4, vI n, vI (τ.2.2 0 p 4)], cW τ κ)) rfl ?_
          have f10 := dgt_r n 4
          refine hR.cs [vI n, vI 4] kX3_19 rfl rfl (by first | decide | exact Nat.le_refl _) (by decide) (Nat.le_of_ble_eq_true rfl) rfl (sp_part_4 _ _ (by omega)) ?_
          show G (18, [some (vR 10), some (vI p), some (vI n), some (vI 4)], [vI (dgt n 4), vI (τ.2.2 0 p 4)], cW τ κ)
          refine hR.br (C := dgt n 4 ≤ τ.2.2 0 p 4) rfl (by (try dsimp only); omega) (fun c10 => ?_) (fun c10 => ?_)
          · skip
            refine hR.run0 4 (S' := (4, [some (vR 10), some (vI p), some (vI n), some (vI 5)], [vI 5, vI 5], cW τ κ)) rfl ?_
            refine hR.br (C := 5 ≤ 5) rfl (by (try dsimp only); omega) (fun c11 => ?_) (fun c11 => ?_)
            · skip
              refine hR.run0 1 (S' := (30, [some (vR 10), some (vI p), some (vI n), some (vI 5)], [vI 1], cW τ κ)) rfl ?_
              exact hR.rt rfl (Or.inr rfl) (by rw [show bI (hasG (τ.2.2 0) p n) = 1 from by exact bIt (by simp only [hasG, Bool.and_eq_true, decide_eq_true_eq]; omega)]) (by rfl)
            · exfalso; omega
          · skip
            refine hR.run0 1 (S' := (22, [some (vR 10), some (vI p), some (vI n), some (vI 4)], [vI 0], cW τ κ)) rfl ?_
            exact hR.rt rfl (Or.inl rfl) (by rw [show bI (hasG (τ.2.2 0) p n) = 0 from by exact bIf (by simp only [hasG, Bool.and_eq_true, decide_eq_true_eq]; omega)]) (by rfl)
        · skip
          refine hR.run0 1 (S' := (22, [some (vR 10), some (vI p), some (vI n), some (vI 3)], [vI 0], cW τ κ)) rfl ?_
          exact hR.rt rfl (Or.inl rfl) (by rw [show bI (hasG (τ.2.2 0) p n) = 0 from by exact bIf (by simp only [hasG, Bool.and_eq_true, decide_eq_true_eq]; omega)]) (by rfl)
      · skip
        refine hR.run0 1 (S' := (22, [some (vR 10), some (vI p), some (vI n), some (vI 2)], [vI 0], cW τ κ)) rfl ?_
        exact hR.rt rfl (Or.inl rfl) (by rw [show bI (hasG (τ.2.2 0) p n) = 0 from by exact bIf (by simp only [hasG, Bool.and_eq_true, decide_eq_true_eq]; omega)]) (by rfl)
    · skip
      refine hR.run0 1 (S' := (22, [some (vR 10), some (vI p), some (vI n), some (vI 1)], [vI 0], cW τ κ)) rfl ?_
      exact hR.rt rfl (Or.inl rfl) (by rw [show bI (hasG (τ.2.2 0) p n) = 0 from by exact bIf (by simp only [hasG, Bool.and_eq_true, decide_eq_true_eq]; omega)]) (by rfl)
  · skip
    refine hR.run0 1 (S' := (22, [some (vR 10), some (vI p), some (vI n), some (vI 0)], [vI 0], cW τ κ)) rfl ?_
    exact hR.rt rfl (Or.inl rfl) (by rw [show bI (hasG (τ.2.2 0) p n) = 0 from by exact bIf (by simp only [hasG, Bool.and_eq_true, decide_eq_true_eq]; omega)]) (by rfl)
theorem sp_move_00 (τ κ : St) {g : Int} (m : Int) (hg : 0 ≤ g ∧ g < 5) : Sp mX3_move roC 1 [vR 10, vI 0, vI 0, vI g, vI m] (cW τ κ) (.inl none) (cW (mvS τ 0 0 g m) (mvK κ 0 0 g m)) := by
  refine Sp.of (lk := lkX3) (tb := bX3_move) (by decide) lkX3_ok tX3_move (cW_keys _ _ _ _) (Nat.le_of_ble_eq_true rfl) (fun G hR => ?_)
  refine hR.run0 2 (S' := (2, [some (vR 10), some (vI 0), some (vI 0), some (vI g), some (vI m)], [vI g, vI 0], cW τ κ)) rfl ?_
  refine hR.cs [vI 0, vI g] kX3_23 rfl rfl (by first | decide | exact Nat.le_refl _) (by decide) (Nat.le_of_ble_eq_true rfl) rfl (sp_sPlace _ _ (by omega) (by omega)) ?_
  show G (5, [some (vR 10), some (vI 0), some (vI 0), some (vI g), some (vI m)], [vI 1], cW τ κ)
  refine hR.br (C := 1 = 0) rfl (by (try dsimp only); omega) (fun c1 => ?_) (fun c1 => ?_)
  · exfalso; omega
  refine hR.run0 2 (S' := (10, [some (vR 10), some (vI 0), some (vI 0), some (vI g), some (vI m)], [vI g, vI 0], cW τ κ)) rfl ?_
  refine hR.cs [vI 0, vI g] kX3_23 rfl rfl (by first | decide | exact Nat.le_refl _) (by decide) (Nat.le_of_ble_eq_true rfl) rfl (sp_sPlace _ _ (by omega) (by omega)) ?_
  show G (13, [some (vR 10), some (vI 0), some (vI 0), some (vI g), some (vI m)], [vI 1], cW τ κ)
  refine hR.br (C := 1 = 0) rfl (by (try dsimp only); omega) (fun c2 => ?_) (fun c2 => ?_)
  · exfalso; omega
  refine hR.run1 10 (S' := (29, [some (vR 10), some (vI 0), some (vI 0), some (vI g), some (vI m)], [], pset (cW τ κ) 13 (.inl (5, .inl (pup (τ.2.2 0 0) g ((τ.2.2 0 0 g) - m)))))) rfl (by (try dsimp only); omega) ?_
  rw [cW_h0]
  refine hR.run1 10 (S' := (42, [some (vR 10), some (vI 0), some (vI 0), some (vI g), some (vI m)], [], pset (cW (sHt τ 0 0 g ((τ.2.2 0 0 g) - m)) κ) 13 (.inl (5, .inl (pup ((sHt τ 0 0 g ((τ.2.2 0 0 g) - m)).2.2 0 0) g (((sHt τ 0 0 g ((τ.2.2 0 0 g) - m)).2.2 0 0 g) + m)))))) rfl (by (try dsimp only); omega) ?_
  rw [cW_h0]
  refine hR.run1 14 (S' := (59, [some (vR 10), some (vI 0), some (vI 0), some (vI g), some (vI m)], [], pset (cW (sHt (sHt τ 0 0 g ((τ.2.2 0 0 g) - m)) 0 0 g (((sHt τ 0 0 g ((τ.2.2 0 0 g) - m)).2.2 0 0 g) + m)) κ) 20 (.inl (5, .inl (pup (κ.2.2 0 0) g ((κ.2.2 0 0 g) + m)))))) rfl (by (try dsimp only); omega) ?_
  rw [cW_m0]
  exact hR.rt rfl trivial (by rfl) (by rfl)
theorem sp_move_01 (τ κ : St) {g : Int} (m : Int) (hg : 0 ≤ g ∧ g < 5) : Sp mX3_move roC 1 [vR 10, vI 0, vI 1, vI g, vI m] (cW τ κ) (.inl none) (cW (mvS τ 0 1 g m) (mvK κ 0 1 g m)) := by
  refine Sp.of (lk := lkX3) (tb := bX3_move) (by decide) lkX3_ok tX3_move (cW_keys _ _ _ _) (Nat.le_of_ble_eq_true rfl) (fun G hR => ?_)
  refine hR.run0 2 (S' := (2, [some (vR 10), some (vI 0), some (vI 1), some (vI g), some (vI m)], [vI g, vI 0], cW τ κ)) rfl ?_
  refine hR.cs [vI 0, vI g] kX3_23 rfl rfl (by first | decide | exact Nat.le_refl _) (by decide) (Nat.le_of_ble_eq_true rfl) rfl (sp_sPlace _ _ (by omega) (by omega)) ?_
  show G (5, [some (vR 10), some (vI 0), some (vI 1), some (vI g), some (vI m)], [vI 1], cW τ κ)
  refine hR.br (C := 1 = 0) rfl (by (try dsimp only); omega) (fun c1 => ?_) (fun c1 => ?_)
  · exfalso; omega
  refine hR.run0 2 (S' := (10, [some (vR 10), some (vI 0), some (vI 1), some (vI g), some (vI m)], [vI g, vI 1], cW τ κ)) rfl ?_
  refine hR.cs [vI 1, vI g] kX3_23 rfl rfl (by first | decide | exact Nat.le_refl _) (by decide) (Nat.le_of_ble_eq_true rfl) rfl (sp_sPlace _ _ (by omega) (by omega)) ?_
  show G (13, [some (vR 10), some (vI 0), some (vI 1), some (vI g), some (vI m)], [vI 1], cW τ κ)
  refine hR.br (C := 1 = 0) rfl (by (try dsimp only); omega) (fun c2 => ?_) (fun c2 => ?_)
  · exfalso; omega
  refine hR.run1 10 (S' := (29, [some (vR 10), some (vI 0), some (vI 1), some (vI g), some (vI m)], [], pset (cW τ κ) 13 (.inl (5, .inl (pup (τ.2.2 0 0) g ((τ.2.2 0 0 g) - m)))))) rfl (by (try dsimp only); omega) ?_
  rw [cW_h0]
  refine hR.run1 10 (S' := (42, [some (vR 10), some (vI 0), some (vI 1), some (vI g), some (vI m)], [], pset (cW (sHt τ 0 0 g ((τ.2.2 0 0 g) - m)) κ) 14 (.inl (5, .inl (pup ((sHt τ 0 0 g ((τ.2.2 0 0 g) - m)).2.2 0 1) g (((sHt τ 0 0 g ((τ.2.2 0 0 g) - m)).2.2 0 1 g) + m)))))) rfl (by (try dsimp only); omega) ?_
  rw [cW_h1]
  refine hR.run1 14 (S' := (59, [some (vR 10), some (vI 0), some (vI 1), some (vI g), some (vI m)], [], pset (cW (sHt (sHt τ 0 0 g ((τ.2.2 0 0 g) - m)) 0 1 g (((sHt τ 0 0 g ((τ.2.2 0 0 g) - m)).2.2 0 1 g) + m)) κ) 21 (.inl (5, .inl (pup (κ.2.2 0 1) g ((κ.2.2 0 1 g) + m)))))) rfl (by (try dsimp only); omega) ?_
  rw [cW_m1]
  exact hR.rt rfl trivial (by rfl) (by rfl)
theorem sp_move_02 (τ κ : St) {g : Int} (m : Int) (hg : 0 ≤ g ∧ g < 5) : Sp mX3_move roC 1 [vR 10, vI 0, vI 2, vI g, vI m] (cW τ κ) (.inl none) (cW (mvS τ 0 2 g m) (mvK κ 0 2 g m)) := by
  refine Sp.of (lk := lkX3) (tb := bX3_move) (by decide) lkX3_ok tX3_move (cW_keys _ _ _ _) (Nat.le_of_ble_eq_true rfl) (fun G hR => ?_)
  refine hR.run0 2 (S' := (2, [some (vR 10), some (vI 0), some (vI 2), some (vI g), some (vI m)], [vI g, vI 0], cW τ κ)) rfl ?_
  refine hR.cs [vI 0, vI g] kX3_23 rfl rfl (by first | decide | exact Nat.le_refl _) (by decide) (Nat.le_of_ble_eq_true rfl) rfl (sp_sPlace _ _ (by omega) (by omega)) ?_
  show G (5, [some (vR 10), some (vI 0), some (vI 2), some (vI g), some (vI m)], [vI 1], cW τ κ)
  refine hR.br (C := 1 = 0) rfl (by (try dsimp only); omega) (fun c1 => ?_) (fun c1 => ?_)
  · exfalso; omega
  refine hR.run0 2 (S' := (10, [some (vR 10), some (vI 0), some (vI 2), some (vI g), some (vI m)], [vI g, vI 2], cW τ κ)) rfl ?_
  refine hR.cs [vI 2, vI g] kX3_23 rfl rfl (by first | decide | exact Nat.le_refl _) (by decide) (Nat.le_of_ble_eq_true rfl) rfl (sp_sPlace _ _ (by omega) (by omega)) ?_
  show G (13, [some (vR 10), some (vI 0), some (vI 2), some (vI g), some (vI m)], [vI 1], cW τ κ)
  refine hR.br (C := 1 = 0) rfl (by (try dsimp only); omega) (fun c2 => ?_) (fun c2 => ?_)
  · exfalso; omega
  refine hR.run1 10 (S' := (29, [some (vR 10), some (vI 0), some (vI 2), some (vI g), some (vI m)], [], pset (cW τ κ) 13 (.inl (5, .inl (pup (τ.2.2 0 0) g ((τ.2.2 0 0 g) - m)))))) rfl (by (try dsimp only); omega) ?_
  rw [cW_h0]
  refine hR.run1 10 (S' := (42, [some (vR 10), some (vI 0), some (vI 2), some (vI g), some (vI m)], [], pset (cW (sHt τ 0 0 g ((τ.2.2 0 0 g) - m)) κ) 15 (.inl (5, .inl (pup ((sHt τ 0 0 g ((τ.2.2 0 0 g) - m)).2.2 0 2) g (((sHt τ 0 0 g ((τ.2.2 0 0 g) - m)).2.2 0 2 g) + m)))))) rfl (by (try dsimp only); omega) ?_
  rw [cW_h2]
  refine hR.run1 14 (S' := (59, [some (vR 10), some (vI 0), some (vI 2), some (vI g), some (vI m)], [], pset (cW (sHt (sHt τ 0 0 g ((τ.2.2 0 0 g) - m)) 0 2 g (((sHt τ 0 0 g ((τ.2.2 0 0 g) - m)).2.2 0 2 g) + m)) κ) 22 (.inl (5, .inl (pup (κ.2.2 0 2) g ((κ.2.2 0 2 g) + m)))))) rfl (by (try dsimp only); omega) ?_
  rw [cW_m2]
  exact hR.rt rfl trivial (by rfl) (by rfl)
theorem sp_move_03 (τ κ : St) {g : Int} (m : Int) (hg : 0 ≤ g ∧ g < 5) : Sp mX3_move roC 1 [vR 10, vI 0, vI 3, vI g, vI m] (cW τ κ) (.inl none) (cW (mvS τ 0 3 g m) (mvK κ 0 3 g m)) := by
  refine Sp.of (lk := lkX3) (tb := bX3_move) (by decide) lkX3_ok tX3_move (cW_keys _ _ _ _) (Nat.le_of_ble_eq_true rfl) (fun G hR => ?_)
  refine hR.run0 2 (S' := (2, [some (vR 10), some (vI 0), some (vI 3), some (vI g), some (vI m)], [vI g, vI 0], cW τ κ)) rfl ?_
  refine hR.cs [vI 0, vI g] kX3_23 rfl rfl (by first | decide | exact Nat.le_refl _) (by decide) (Nat.le_of_ble_eq_true rfl) rfl (sp_sPlace _ _ (by omega) (by omega)) ?_
  show G (5, [some (vR 10), some (vI 0), some (vI 3), some (vI g), some (vI m)], [vI 1], cW τ κ)
  refine hR.br (C := 1 = 0) rfl (by (try dsimp only); omega) (fun c1 => ?_) (fun c1 => ?_)
  · exfalso; omega
  refine hR.run0 2 (S' := (10, [some (vR 10), some (vI 0), some (vI 3), some (vI g), some (vI m)], [vI g, vI 3], cW τ κ)) rfl ?_
  refine hR.cs [vI 3, vI g] kX3_23 rfl rfl (by first | decide | exact Nat.le_refl _) (by decide) (Nat.le_of_ble_eq_true rfl) rfl (sp_sPlace _ _ (by omega) (by omega)) ?_
  show G (13, [some (vR 10), some (vI 0), some (vI 3), some (vI g), some (vI m)], [vI 1], cW τ κ)
  refine hR.br (C := 1 = 0) rfl (by (try dsimp only); omega) (fun c2 => ?_) (fun c2 => ?_)
  · exfalso; omega
  refine hR.run1 10 (S' := (29, [some (vR 10), some (vI 0), some (vI 3), some (vI g), some (vI m)], [], pset (cW τ κ) 13 (.inl (5, .inl (pup (τ.2.2 0 0) g ((τ.2.2 0 0 g) - m)))))) rfl (by (try dsimp only); omega) ?_
  rw [cW_h0]
  refine hR.run1 10 (S' := (42, [some (vR 10), some (vI 0), some (vI 3), some (vI g), some (vI m)], [], pset (cW (sHt τ 0 0 g ((τ.2.2 0 0 g) - m)) κ) 16 (.inl (5, .inl (pup ((sHt τ 0 0 g ((τ.2.2 0 0 g) - m)).2.2 0 3) g (((sHt τ 0 0 g ((τ.2.2 0 0 g) - m)).2.2 0 3 g) + m)))))) rfl (by (try dsimp only); omega) ?_
  rw [cW_h3]
  refine hR.run1 14 (S' := (59, [some (vR 10), some (vI 0), some (vI 3), some (vI g), some (vI m)], [], pset (cW (sHt (sHt τ 0 0 g ((τ.2.2 0 0 g) - m)) 0 3 g (((sHt τ 0 0 g ((τ.2.2 0 0 g) - m)).2.2 0 3 g) + m)) κ) 23 (.inl (5, .inl (pup (κ.2.2 0 3) g ((κ.2.2 0 3 g) + m)))))) rfl (by (try dsimp only); omega) ?_
  rw [cW_m3]
  exact hR.rt rfl trivial (by rfl) (by rfl)
theorem sp_move_10 (τ κ : St) {g : Int} (m : Int) (hg : 0 ≤ g ∧ g < 5) : Sp mX3_move roC 1 [vR 10, vI 1, vI 0, vI g, vI m] (cW τ κ) (.inl none) (cW (mvS τ 1 0 g m) (mvK κ 1 0 g m)) := by
  refine Sp.of (lk := lkX3) (tb := bX3_move) (by decide) lkX3_ok tX3_move (cW_keys _ _ _ _) (Nat.le_of_ble_eq_true rfl) (fun G hR => ?_)
  refine hR.run0 2 (S' := (2, [some (vR 10), some (vI 1), some (vI 0), some (vI g), some (vI m)], [vI g, vI 1], cW τ κ)) rfl ?_
  refine hR.cs [vI 1, vI g] kX3_23 rfl rfl (by first | decide | exact Nat.le_refl _) (by decide) (Nat.le_of_ble_eq_true rfl) rfl (sp_sPlace _ _ (by omega) (by omega)) ?_
  show G (5, [some (vR 10), some (vI 1), some (vI 0), some (vI g), some (vI m)], [vI 1], cW τ κ)
  refine hR.br (C := 1 = 0) rfl (by (try dsimp only); omega) (fun c1 => ?_) (fun c1 => ?_)
  · exfalso; omega
  refine hR.run0 2 (S' := (10, [some (vR 10), some (vI 1), some (vI 0), some (vI g), some (vI m)], [vI g, vI 0], cW τ κ)) rfl ?_
  refine hR.cs [vI 0, vI g] kX3_23 rfl rfl (by first | decide | exact Nat.le_refl _) (by decide) (Nat.le_of_ble_eq_true rfl) rfl (sp_sPlace _ _ (by omega) (by omega)) ?_
  show G (13, [some (vR 10), some (vI 1), some (vI 0), some (vI g), some (vI m)], [vI 1], cW τ κ)
  refine hR.br (C := 1 = 0) rfl (by (try dsimp only); omega) (fun c2 => ?_) (fun c2 => ?_)
  · exfalso; omega
  refine hR.run1 10 (S' := (29, [some (vR 10), some (vI 1), some (vI 0), some (vI g), some (vI m)], [], pset (cW τ κ) 14 (.inl (5, .inl (pup (τ.2.2 0 1) g ((τ.2.2 0 1 g) - m)))))) rfl (by (try dsimp only); omega) ?_
  rw [cW_h1]
  refine hR.run1 10 (S' := (42, [some (vR 10), some (vI 1), some (vI 0), some (vI g), some (vI m)], [], pset (cW (sHt τ 0 1 g ((τ.2.2 0 1 g) - m)) κ) 13 (.inl (5, .inl (pup ((sHt τ 0 1 g ((τ.2.2 0 1 g) - m)).2.2 0 0) g (((sHt τ 0 1 g ((τ.2.2 0 1 g) - m)).2.2 0 0 g) + m)))))) rfl (by (try dsimp only); omega) ?_
  rw [cW_h0]
  refine hR.run1 14 (S' := (59, [some (vR 10), some (vI 1), some (vI 0), some (vI g), some (vI m)], [], pset (cW (sHt (sHt τ 0 1 g ((τ.2.2 0 1 g) - m)) 0 0 g (((sHt τ 0 1 g ((τ.2.2 0 1 g) - m)).2.2 0 0 g) + m)) κ) 24 (.inl (5, .inl (pup (κ.2.2 0 4) g ((κ.2.2 0 4 g) + m)))))) rfl (by (try dsimp only); omega) ?_
  rw [cW_m4]
  exact hR.rt rfl trivial (by rfl) (by rfl)
theorem sp_move_11 (τ κ : St) {g : Int} (m : Int) (hg : 0 ≤ g ∧ g < 5) : Sp mX3_move roC 1 [vR 10, vI 1, vI 1, vI g, vI m] (cW τ κ) (.inl none) (cW (mvS τ 1 1 g m) (mvK κ 1 1 g m)) := by
  refine Sp.of (lk := lkX3) (tb := bX3_move) (by decide) lkX3_ok tX3_move (cW_keys _ _ _ _) (Nat.le_of_ble_eq_true rfl) (fun G hR => ?_)
  refine hR.run0 2 (S' := (2, [some (vR 10), some (vI 1), some (vI 1), some (vI g), some (vI m)], [vI g, vI 1], cW τ κ)) rfl ?_
  refine hR.cs [vI 1, vI g] kX3_23 rfl rfl (by first | decide | exact Nat.le_refl _) (by decide) (Nat.le_of_ble_eq_true rfl) rfl (sp_sPlace _ _ (by omega) (by omega)) ?_
  show G (5, [some (vR 10), some (vI 1), some (vI 1), some (vI g), some (vI m)], [vI 1], cW τ κ)
  refine hR.br (C := 1 = 0) rfl (by (try dsimp only); omega) (fun c1 => ?_) (fun c1 => ?_)
  · exfalso; omega
  refine hR.run0 2 (S' := (10, [some (vR 10), some (vI 1), some (vI 1), some (vI g), some (vI m)], [vI g, vI 1], cW τ κ)) rfl ?_
  refine hR.cs [vI 1, vI g] kX3_23 rfl rfl (by first | decide | exact Nat.le_refl _) (by decide) (Nat.le_of_ble_eq_true rfl) rfl (sp_sPlace _ _ (by omega) (by omega)) ?_
  show G (13, [some (vR 10), some (vI 1), some (vI 1), some (vI g), some (vI m)], [vI 1], cW τ κ)
  refine hR.br (C := 1 = 0) rfl (by (try dsimp only); omega) (fun c2 => ?_) (fun c2 => ?_)
  · exfalso; omega
  refine hR.run1 10 (S' := (29, [some (vR 10), some (vI 1), some (vI 1), some (vI g), some (vI m)], [], pset (cW τ κ) 14 (.inl (5, .inl (pup (τ.2.2 0 1) g ((τ.2.2 0 1 g) - m)))))) rfl (by (try dsimp only); omega) ?_
  rw [cW_h1]
  refine hR.run1 10 (S' := (42, [some (vR 10), some (vI 1), some (vI 1), some (vI g), some (vI m)], [], pset (cW (sHt τ 0 1 g ((τ.2.2 0 1 g) - m)) κ) 14 (.inl (5, .inl (pup ((sHt τ 0 1 g ((τ.2.2 0 1 g) - m)).2.2 0 1) g (((sHt τ 0 1 g ((τ.2.2 0 1 g) - m)).2.2 0 1 g) + m)))))) rfl (by (try dsimp only); omega) ?_
  rw [cW_h1]
  refine hR.run1 14 (S' := (59, [some (vR 10), some (vI 1), some (vI 1), some (vI g), some (vI m)], [], pset (cW (sHt (sHt τ 0 1 g ((τ.2.2 0 1 g) - m)) 0 1 g (((sHt τ 0 1 g ((τ.2.2 0 1 g) - m)).2.2 0 1 g) + m)) κ) 25 (.inl (5, .inl (pup (κ.2.2 0 5) g ((κ.2.2 0 5 g) + m)))))) rfl (by (try dsimp only); omega) ?_
  rw [cW_m5]
  exact hR.rt rfl trivial (by rfl) (by rfl)
theorem sp_move_12 (τ κ : St) {g : Int} (m : Int) (hg : 0 ≤ g ∧ g < 5) : Sp mX3_move roC 1 [vR 10, vI 1, vI 2, vI g, vI m] (cW τ κ) (.inl none) (cW (mvS τ 1 2 g m) (mvK κ 1 2 g m)) := by
  refine Sp.of (lk := lkX3) (tb := bX3_move) (by decide) lkX3_ok tX3_move (cW_keys _ _ _ _) (Nat.le_of_ble_eq_true rfl) (fun G hR => ?_)
  refine hR.run0 2 (S' := (2, [some (vR 10), some (vI 1), some (vI 2), some (vI g), some (vI m)], [vI g, vI 1], cW τ κ)) rfl ?_
  refine hR.cs [vI 1, vI g] kX3_23 rfl rfl (by first | decide | exact Nat.le_refl _) (by decide) (Nat.le_of_ble_eq_true rfl) rfl (sp_sPlace _ _ (by omega) (by omega)) ?_
  show G (5, [some (vR 10), some (vI 1), some (vI 2), some (vI g), some (vI m)], [vI 1], cW τ κ)
  refine hR.br (C := 1 = 0) rfl (by (try dsimp only); omega) (fun c1 => ?_) (fun c1 => ?_)
  · exfalso; omega
  refine hR.run0 2 (S' := (10, [some (vR 10), some (vI 1), some (vI 2), some (vI g), some (vI m)], [vI g, vI 2], cW τ κ)) rfl ?_
  refine hR.cs [vI 2, vI g] kX3_23 rfl rfl (by first | decide | exact Nat.le_refl _) (by decide) (Nat.le_of_ble_eq_true rfl) rfl (sp_sPlace _ _ (by omega) (by omega)) ?_
  show G (13, [some (vR 10), some (vI 1), some (vI 2), some (vI g), some (vI m)], [vI 1], cW τ κ)
  refine hR.br (C := 1 = 0) rfl (by (try dsimp only); omega) (fun c2 => ?_) (fun c2 => ?_)
  · exfalso; omega
  refine hR.run1 10 (S' := (29, [some (vR 10), some (vI 1), some (vI 2), some (vI g), some (vI m)], [], pset (cW τ κ) 14 (.inl (5, .inl (pup (τ.2.2 0 1) g ((τ.2.2 0 1 g) - m)))))) rfl (by (try dsimp only); omega) ?_
  rw [cW_h1]
  refine hR.run1 10 (S' := (42, [some (vR 10), some (vI 1), some (vI 2), some (vI g), some (vI m)], [], pset (cW (sHt τ 0 1 g ((τ.2.2 0 1 g) - m)) κ) 15 (.inl (5, .inl (pup ((sHt τ 0 1 g ((τ.2.2 0 1 g) - m)).2.2 0 2) g (((sHt τ 0 1 g ((τ.2.2 0 1 g) - m)).2.2 0 2 g) + m)))))) rfl (by (try dsimp only); omega) ?_
  rw [cW_h2]
  refine hR.run1 14 (S' := (59, [some (vR 10), some (vI 1), some (vI 2), some (vI g), some (vI m)], [], pset (cW (sHt (sHt τ 0 1 g ((τ.2.2 0 1 g) - m)) 0 2 g (((sHt τ 0 1 g ((τ.2.2 0 1 g) - m)).2.2 0 2 g) + m)) κ) 26 (.inl (5, .inl (pup (κ.2.2 0 6) g ((κ.2.2 0 6 g) + m)))))) rfl (by (try dsimp only); omega) ?_
  rw [cW_m6]
  exact hR.rt rfl trivial (by rfl) (by rfl)
theorem sp_move_13 (τ κ : St) {g : Int} (m : Int) (hg : 0 ≤ g ∧ g < 5) : Sp mX3_move roC 1 [vR 10, vI 1, vI 3, vI g, vI m] (cW τ κ) (.inl none) (cW (mvS τ 1 3 g m) (mvK κ 1 3 g m)) := by
  refine Sp.of (lk := lkX3) (tb := bX3_move) (by decide) lkX3_ok tX3_move (cW_keys _ _ _ _) (Nat.le_of_ble_eq_true rfl) (fun G hR => ?_)
  refine hR.run0 2 (S' := (2, [some (vR 10), some (vI 1), some (vI 3), some (vI g), some (vI m)], [vI g, vI 1], cW τ κ)) rfl ?_
  refine hR.cs [vI 1, vI g] kX3_23 rfl rfl (by first | decide | exact Nat.le_refl _) (by decide) (Nat.le_of_ble_eq_true rfl) rfl (sp_sPlace _ _ (by omega) (by omega)) ?_
  show G (5, [some (vR 10), some (vI 1), some (vI 3), some (vI g), some (vI m)], [vI 1], cW τ κ)
  refine hR.br (C := 1 = 0) rfl (by (try dsimp only); omega) (fun c1 => ?_) (fun c1 => ?_)
  · exfalso; omega
  refine hR.run0 2 (S' := (10, [some (vR 10), some (vI 1), some (vI 3), some (vI g), some (vI m)], [vI g, vI 3], cW τ κ)) rfl ?_
  refine hR.cs [vI 3, vI g] kX3_23 rfl rfl (by first | decide | exact Nat.le_refl _) (by decide) (Nat.le_of_ble_eq_true rfl) rfl (sp_sPlace _ _ (by omega) (by omega)) ?_
  show G (13, [some (vR 10), some (vI 1), some (vI 3), some (vI g), some (vI m)], [vI 1], cW τ κ)
  refine hR.br (C := 1 = 0) rfl (by (try dsimp only); omega) (fun c2 => ?_) (fun c2 => ?_)
  · exfalso; omega
  refine hR.run1 10 (S' := (29, [some (vR 10), some (vI 1), some (vI 3), some (vI g), some (vI m)], [], pset (cW τ κ) 14 (.inl (5, .inl (pup (τ.2.2 0 1) g ((τ.2.2 0 1 g) - m)))))) rfl (by (try dsimp only); omega) ?_
  rw [cW_h1]
  refine hR.run1 10 (S' := (42, [some (vR 10), some (vI 1), some (vI 3), some (vI g), some (vI m)], [], pset (cW (sHt τ 0 1 g ((τ.2.2 0 1 g) - m)) κ) 16 (.inl (5, .inl (pup ((sHt τ 0 1 g ((τ.2.2 0 1 g) - m)).2.2 0 3) g (((sHt τ 0 1 g ((τ.2.2 0 1 g) - m)).2.2 0 3 g) + m)))))) rfl (by (try dsimp only); omega) ?_
  rw [cW_h3]
  refine hR.run1 14 (S' := (59, [some (vR 10), some (vI 1), some (vI 3), some (vI g), some (vI m)], [], pset (cW (sHt (sHt τ 0 1 g ((τ.2.2 0 1 g) - m)) 0 3 g (((sHt τ 0 1 g ((τ.2.2 0 1 g) - m)).2.2 0 3 g) + m)) κ) 27 (.inl (5, .inl (pup (κ.2.2 0 7) g ((κ.2.2 0 7 g) + m)))))) rfl (by (try dsimp only); omega) ?_
  rw [cW_m7]
  exact hR.rt rfl trivial (by rfl) (by rfl)
theorem sp_move_20 (τ κ : St) {g : Int} (m : Int) (hg : 0 ≤ g ∧ g < 5) : Sp mX3_move roC 1 [vR 10, vI 2, vI 0, vI g, vI m] (cW τ κ) (.inl none) (cW (mvS τ 2 0 g m) (mvK κ 2 0 g m)) := by
  refine Sp.of (lk := lkX3) (tb := bX3_move) (by decide) lkX3_ok tX3_move (cW_keys _ _ _ _) (Nat.le_of_ble_eq_true rfl) (fun G hR => ?_)
  refine hR.run0 2 (S' := (2, [some (vR 10), some (vI 2), some (vI 0), some (vI g), some (vI m)], [vI g, vI 2], cW τ κ)) rfl ?_
  refine hR.cs [vI 2, vI g] kX3_23 rfl rfl (by first | decide | exact Nat.le_refl _) (by decide) (Nat.le_of_ble_eq_true rfl) rfl (sp_sPlace _ _ (by omega) (by omega)) ?_
  show G (5, [some (vR 10), some (vI 2), some (vI 0), some (vI g), some (vI m)], [vI 1], cW τ κ)
  refine hR.br (C := 1 = 0) rfl (by (try dsimp only); omega) (fun c1 => ?_) (fun c1 => ?_)
  · exfalso; omega
  refine hR.run0 2 (S' := (10, [some (vR 10), some (vI 2), some (vI 0), some (vI g), some (vI m)], [vI g, vI 0], cW τ κ)) rfl ?_
  refine hR.cs [vI 0, vI g] kX3_23 rfl rfl (by first | decide | exact Nat.le_refl _) (by decide) (Nat.le_of_ble_eq_true rfl) rfl (sp_sPlace _ _ (by omega) (by omega)) ?_
  show G (13, [some (vR 10), some (vI 2), some (vI 0), some (vI g), some (vI m)], [vI 1], cW τ κ)
  refine hR.br (C := 1 = 0) rfl (by (try dsimp only); omega) (fun c2 => ?_) (fun c2 => ?_)
  · exfalso; omega
  refine hR.run1 10 (S' := (29, [some (vR 10), some (vI 2), some (vI 0), some (vI g), some (vI m)], [], pset (cW τ κ) 15 (.inl (5, .inl (pup (τ.2.2 0 2) g ((τ.2.2 0 2 g) - m)))))) rfl (by (try dsimp only); omega) ?_
  rw [cW_h2]
  refine hR.run1 10 (S' := (42, [some (vR 10), some (vI 2), some (vI 0), some (vI g), some (vI m)], [], pset (cW (sHt τ 0 2 g ((τ.2.2 0 2 g) - m)) κ) 13 (.inl (5, .inl (pup ((sHt τ 0 2 g ((τ.2.2 0 2 g) - m)).2.2 0 0) g (((sHt τ 0 2 g ((τ.2.2 0 2 g) - m)).2.2 0 0 g) + m)))))) rfl (by (try dsimp only); omega) ?_
  rw [cW_h0]
  refine hR.run1 14 (S' := (59, [some (vR 10), some (vI 2), some (vI 0), some (vI g), some (vI m)], [], pset (cW (sHt (sHt τ 0 2 g ((τ.2.2 0 2 g) - m)) 0 0 g (((sHt τ 0 2 g ((τ.2.2 0 2 g) - m)).2.2 0 0 g) + m)) κ) 28 (.inl (5, .inl (pup (κ.2.2 0 8) g ((κ.2.2 0 8 g) + m)))))) rfl (by (try dsimp only); omega) ?_
  rw [cW_m8]
  exact hR.rt rfl trivial (by rfl) (by rfl)
theorem sp_move_21 (τ κ : St) {g : Int} (m : Int) (hg : 0 ≤ g ∧ g < 5) : Sp mX3_move roC 1 [vR 10, vI 2, vI 1, vI g, vI m] (cW τ κ) (.inl none) (cW (mvS τ 2 1 g m) (mvK κ 2 1 g m)) := by
  refine Sp.of (lk := lkX3) (tb := bX3_move) (by decide) lkX3_ok tX3_move (cW_keys _ _ _ _) (Nat.le_of_ble_eq_true rfl) (fun G hR => ?_)
  refine hR.run0 2 (S' := (2, [some (vR 10), some (vI 2), some (vI 1), some (vI g), some (vI m)], [vI g, vI 2], cW τ κ)) rfl ?_
  refine hR.cs [vI 2, vI g] kX3_23 rfl rfl (by first | decide | exact Nat.le_refl _) (by decide) (Nat.le_of_ble_eq_true rfl) rfl (sp_sPlace _ _ (by omega) (by omega)) ?_
  show G (5, [some (vR 10), some (vI 2), some (vI 1), some (vI g), some (vI m)], [vI 1], cW τ κ)
  refine hR.br (C := 1 = 0) rfl (by (try dsimp only); omega) (fun c1 => ?_) (fun c1 => ?_)
  · exfalso; omega
  refine hR.run0 2 (S' := (10, [some (vR 10), some (vI 2), some (vI 1), some (vI g), some (vI m)], [vI g, vI 1], cW τ κ)) rfl ?_
  refine hR.cs [vI 1, vI g] kX3_23 rfl rfl (by first | decide | exact Nat.le_refl _) (by decide) (Nat.le_of_ble_eq_true rfl) rfl (sp_sPlace _ _ (by omega) (by omega)) ?_
  show G (13, [some (vR 10), some (vI 2), some (vI 1), some (vI g), some (vI m)], [vI 1], cW τ κ)
  refine hR.br (C := 1 = 0) rfl (by (try dsimp only); omega) (fun c2 => ?_) (fun c2 => ?_)
  · exfalso; omega
  refine hR.run1 10 (S' := (29, [some (vR 10), some (vI 2), some (vI 1), some (vI g), some (vI m)], [], pset (cW τ κ) 15 (.inl (5, .inl (pup (τ.2.2 0 2) g ((τ.2.2 0 2 g) - m)))))) rfl (by (try dsimp only); omega) ?_
  rw [cW_h2]
  refine hR.run1 10 (S' := (42, [some (vR 10), some (vI 2), some (vI 1), some (vI g), some (vI m)], [], pset (cW (sHt τ 0 2 g ((τ.2.2 0 2 g) - m)) κ) 14 (.inl (5, .inl (pup ((sHt τ 0 2 g ((τ.2.2 0 2 g) - m)).2.2 0 1) g (((sHt τ 0 2 g ((τ.2.2 0 2 g) - m)).2.2 0 1 g) + m)))))) rfl (by (try dsimp only); omega) ?_
  rw [cW_h1]
  refine hR.run1 14 (S' := (59, [some (vR 10), some (vI 2), some (vI 1), some (vI g), some (vI m)], [], pset (cW (sHt (sHt τ 0 2 g ((τ.2.2 0 2 g) - m)) 0 1 g (((sHt τ 0 2 g ((τ.2.2 0 2 g) - m)).2.2 0 1 g) + m)) κ) 29 (.inl (5, .inl (pup (κ.2.2 0 9) g ((κ.2.2 0 9 g) + m)))))) rfl (by (try dsimp only); omega) ?_
  rw [cW_m9]
  exact hR.rt rfl trivial (by rfl) (by rfl)
theorem sp_move_22 (τ κ : St) {g : Int} (m : Int) (hg : 0 ≤ g ∧ g < 5) : Sp mX3_move roC 1 [vR 10, vI 2, vI 2, vI g, vI m] (cW τ κ) (.inl none) (cW (mvS τ 2 2 g m) (mvK κ 2 2 g m)) := by
  refine Sp.of (lk := lkX3) (tb := bX3_move) (by decide) lkX3_ok tX3_move (cW_keys _ _ _ _) (Nat.le_of_ble_eq_true rfl) (fun G hR => ?_)
  refine hR.run0 2 (S' := (2, [some (vR 10), some (vI 2), some (vI 2), some (vI g), some (vI m)], [vI g, vI 2], cW τ κ)) rfl ?_
  refine hR.cs [vI 2, vI g] kX3_23 rfl rfl (by first | decide | exact Nat.le_refl _) (by decide) (Nat.le_of_ble_eq_true rfl) rfl (sp_sPlace _ _ (by omega) (by omega)) ?_
  show G (5, [some (vR 10), some (vI 2), some (vI 2), some (vI g), some (vI m)], [vI 1], cW τ κ)
  refine hR.br (C := 1 = 0) rfl (by (try dsimp only); omega) (fun c1 => ?_) (fun c1 => ?_)
  · exfalso; omega
  refine hR.run0 2 (S' := (10, [some (vR 10), some (vI 2), some (vI 2), some (vI g), some (vI m)], [vI g, vI 2], cW τ κ)) rfl ?_
  refine hR.cs [vI 2, vI g] kX3_23 rfl rfl (by first | decide | exact Nat.le_refl _) (by decide) (Nat.le_of_ble_eq_true rfl) rfl (sp_sPlace _ _ (by omega) (by omega)) ?_
  show G (13, [some (vR 10), some (vI 2), some (vI 2), some (vI g), some (vI m)], [vI 1], cW τ κ)
  refine hR.br (C := 1 = 0) rfl (by (try dsimp only); omega) (fun c2 => ?_) (fun c2 => ?_)
  · exfalso; omega
  refine hR.run1 10 (S' := (29, [some (vR 10), some (vI 2), some (vI 2), some (vI g), some (vI m)], [], pset (cW τ κ) 15 (.inl (5, .inl (pup (τ.2.2 0 2) g ((τ.2.2 0 2 g) - m)))))) rfl (by (try dsimp only); omega) ?_
  rw [cW_h2]
  refine hR.run1 10 (S' := (42, [some (vR 10), some (vI 2), some (vI 2), some (vI g), some (vI m)], [], pset (cW (sHt τ 0 2 g ((τ.2.2 0 2 g) - m)) κ) 15 (.inl (5, .inl (pup ((sHt τ 0 2 g ((τ.2.2 0 2 g) - m)).2.2 0 2) g (((sHt τ 0 2 g ((τ.2.2 0 2 g) - m)).2.2 0 2 g) + m)))))) rfl (by (try dsimp only); omega) ?_
  rw [cW_h2]
  refine hR.run1 14 (S' := (59, [some (vR 10), some (vI 2), some (vI 2), some (vI g), some (vI m)], [], pset (cW (sHt (sHt τ 0 2 g ((τ.2.2 0 2 g) - m)) 0 2 g (((sHt τ 0 2 g ((τ.2.2 0 2 g) - m)).2.2 0 2 g) + m)) κ) 30 (.inl (5, .inl (pup (κ.2.2 0 10) g ((κ.2.2 0 10 g) + m)))))) rfl (by (try dsimp only); omega) ?_
  rw [cW_m10]
  exact hR.rt rfl trivial (by rfl) (by rfl)
theorem sp_move_23 (τ κ : St) {g : Int} (m : Int) (hg : 0 ≤ g ∧ g < 5) : Sp mX3_move roC 1 [vR 10, vI 2, vI 3, vI g, vI m] (cW τ κ) (.inl none) (cW (mvS τ 2 3 g m) (mvK κ 2 3 g m)) := by
  refine Sp.of (lk := lkX3) (tb := bX3_move) (by decide) lkX3_ok tX3_move (cW_keys _ _ _ _) (Nat.le_of_ble_eq_true rfl) (fun G hR => ?_)
  refine hR.run0 2 (S' := (2, [some (vR 10), some (vI 2), some (vI 3), some (vI g), some (vI m)], [vI g, vI 2], cW τ κ)) rfl ?_
  refine hR.cs [vI 2, vI g] kX3_23 rfl rfl (by first | decide | exact Nat.le_refl _) (by decide) (Nat.le_of_ble_eq_true rfl) rfl (sp_sPlace _ _ (by omega) (by omega)) ?_
  show G (5, [some (vR 10), some (vI 2), some (vI 3), some (vI g), some (vI m)], [vI 1], cW τ κ)
  refine hR.br (C := 1 = 0) rfl (by (try dsimp only); omega) (fun c1 => ?_) (fun c1 => ?_)
  · exfalso; omega
  refine hR.run0 2 (S' := (10, [some (vR 10), some (vI 2), some (vI 3), some (vI g), some (vI m)], [vI g, vI 3], cW τ κ)) rfl ?_
  refine hR.cs [vI 3, vI g] kX3_23 rfl rfl (by first | decide | exact Nat.le_refl _) (by decide) (Nat.le_of_ble_eq_true rfl) rfl (sp_sPlace _ _ (by omega) (by omega)) ?_
  show G (13, [some (vR 10), some (vI 2), some (vI 3), some (vI g), some (vI m)], [vI 1], cW τ κ)
  refine hR.br (C := 1 = 0) rfl (by (try dsimp only); omega) (fun c2 => ?_) (fun c2 => ?_)
  · exfalso; omega
  refine hR.run1 10 (S' := (29, [some (vR 10), some (vI 2), some (vI 3), some (vI g), some (vI m)], [], pset (cW τ κ) 15 (.inl (5, .inl (pup (τ.2.2 0 2) g ((τ.2.2 0 2 g) - m)))))) rfl (by (try dsimp only); omega) ?_
  rw [cW_h2]
  refine hR.run1 10 (S' := (42, [some (vR 10), some (vI 2), some (vI 3), some (vI g), some (vI m)], [], pset (cW (sHt τ 0 2 g ((τ.2.2 0 2 g) - m)) κ) 16 (.inl (5, .inl (pup ((sHt τ 0 2 g ((τ.2.2 0 2 g) - m)).2.2 0 3) g (((sHt τ 0 2 g ((τ.2.2 0 2 g) - m)).2.2 0 3 g) + m)))))) rfl (by (try dsimp only); omega) ?_
  rw [cW_h3]
  refine hR.run1 14 (S' := (59, [some (vR 10), some (vI 2), some (vI 3), some (vI g), some (vI m)], [], pset (cW (sHt (sHt τ 0 2 g ((τ.2.2 0 2 g) - m)) 0 3 g (((sHt τ 0 2 g ((τ.2.2 0 2 g) - m)).2.2 0 3 g) + m)) κ) 31 (.inl (5, .inl (pup (κ.2.2 0 11) g ((κ.2.2 0 11 g) + m)))))) rfl (by (try dsimp only); omega) ?_
  rw [cW_m11]
  exact hR.rt rfl trivial (by rfl) (by rfl)
theorem sp_move_30 (τ κ : St) {g : Int} (m : Int) (hg : 0 ≤ g ∧ g < 5) : Sp mX3_move roC 1 [vR 10, vI 3, vI 0, vI g, vI m] (cW τ κ) (.inl none) (cW (mvS τ 3 0 g m) (mvK κ 3 0 g m)) := by
  refine Sp.of (lk := lkX3) (tb := bX3_move) (by decide) lkX3_ok tX3_move (cW_keys _ _ _ _) (Nat.le_of_ble_eq_true rfl) (fun G hR => ?_)
  refine hR.run0 2 (S' := (2, [some (vR 10), some (vI 3), some (vI 0), some (vI g), some (vI m)], [vI g, vI 3], cW τ κ)) rfl ?_
  refine hR.cs [vI 3, vI g] kX3_23 rfl rfl (by first | decide | exact Nat.le_refl _) (by decide) (Nat.le_of_ble_eq_true rfl) rfl (sp_sPlace _ _ (by omega) (by omega)) ?_
  show G (5, [some (vR 10), some (vI 3), some (vI 0), some (vI g), some (vI m)], [vI 1], cW τ κ)
  refine hR.br (C := 1 = 0) rfl (by (try dsimp only); omega) (fun c1 => ?_) (fun c1 => ?_)
  · exfalso; omega
  refine hR.run0 2 (S' := (10, [some (vR 10), some (vI 3), some (vI 0), some (vI g), some (vI m)], [vI g, vI 0], cW τ κ)) rfl ?_
  refine hR.cs [vI 0, vI g] kX3_23 rfl rfl (by first | decide | exact Nat.le_refl _) (by decide) (Nat.le_of_ble_eq_true rfl) rfl (sp_sPlace _ _ (by omega) (by omega)) ?_
  show G (13, [some (vR 10), some (vI 3), some (vI 0), some (vI g), some (vI m)], [vI 1], cW τ κ)
  refine hR.br (C := 1 = 0) rfl (by (try dsimp only); omega) (fun c2 => ?_) (fun c2 => ?_)
  · exfalso; omega
  refine hR.run1 10 (S' := (29, [some (vR 10), some (vI 3), some (vI 0), some (vI g), some (vI m)], [], pset (cW τ κ) 16 (.inl (5, .inl (pup (τ.2.2 0 3) g ((τ.2.2 0 3 g) - m)))))) rfl (by (try dsimp only); omega) ?_
  rw [cW_h3]
  refine hR.run1 10 (S' := (42, [some (vR 10), some (vI 3), some (vI 0), some (vI g), some (vI m)], [], pset (cW (sHt τ 0 3 g ((τ.2.2 0 3 g) - m)) κ) 13 (.inl (5, .inl (pup ((sHt τ 0 3 g ((τ.2.2 0 3 g) - m)).2.2 0 0) g (((sHt τ 0 3 g ((τ.2.2 0 3 g) - m)).2.2 0 0 g) + m)))))) rfl (by (try dsimp only); omega) ?_
  rw [cW_h0]
  refine hR.run1 14 (S' := (59, [some (vR 10), some (vI 3), some (vI 0), some (vI g), some (vI m)], [], pset (cW (sHt (sHt τ 0 3 g ((τ.2.2 0 3 g) - m)) 0 0 g (((sHt τ 0 3 g ((τ.2.2 0 3 g) - m)).2.2 0 0 g) + m)) κ) 32 (.inl (5, .inl (pup (κ.2.2 0 12) g ((κ.2.2 0 12 g) + m)))))) rfl (by (try dsimp only); omega) ?_
  rw [cW_m12]
  exact hR.rt rfl trivial (by rfl) (by rfl)
theorem sp_move_31 (τ κ : St) {g : Int} (m : Int) (hg : 0 ≤ g ∧ g < 5) : Sp mX3_move roC 1 [vR 10, vI 3, vI 1, vI g, vI m] (cW τ κ) (.inl none) (cW (mvS τ 3 1 g m) (mvK κ 3 1 g m)) := by
  refine Sp.of (lk := lkX3) (tb := bX3_move) (by decide) lkX3_ok tX3_move (cW_keys _ _ _ _) (Nat.le_of_ble_eq_true rfl) (fun G hR => ?_)
  refine hR.run0 2 (S' := (2, [some (vR 10), some (vI 3), some (vI 1), some (vI g), some (vI m)], [vI g, vI 3], cW τ κ)) rfl ?_
  refine hR.cs [vI 3, vI g] kX3_23 rfl rfl (by first | decide | exact Nat.le_refl _) (by decide) (Nat.le_of_ble_eq_true rfl) rfl (sp_sPlace _ _ (by omega) (by omega)) ?_
  show G (5, [some (vR 10), some (vI 3), some (vI 1), some (vI g), some (vI m)], [vI 1], cW τ κ)
  refine hR.br (C := 1 = 0) rfl (by (try dsimp only); omega) (fun c1 => ?_) (fun c1 => ?_)
  · exfalso; omega
  refine hR.run0 2 (S' := (10, [some (vR 10), some (vI 3), some (vI 1), some (vI g), some (vI m)], [vI g, vI 1], cW τ κ)) rfl ?_
  refine hR.cs [vI 1, vI g] kX3_23 rfl rfl (by first | decide | exact Nat.le_refl _) (by decide) (Nat.le_of_ble_eq_true rfl) rfl (sp_sPlace _ _ (by omega) (by omega)) ?_
  show G (13, [some (vR 10), some (vI 3), some (vI 1), some (vI g), some (vI m)], [vI 1], cW τ κ)
  refine hR.br (C := 1 = 0) rfl (by (try dsimp only); omega) (fun c2 => ?_) (fun c2 => ?_)
  · exfalso; omega
  refine hR.run1 10 (S' := (29, [some (vR 10), some (vI 3), some (vI 1), some (vI g), some (vI m)], [], pset (cW τ κ) 16 (.inl (5, .inl (pup (τ.2.2 0 3) g ((τ.2.2 0 3 g) - m)))))) rfl (by (try dsimp only); omega) ?_
  rw [cW_h3]
  refine hR.run1 10 (S' := (42, [some (vR 10), some (vI 3), some (vI 1), some (vI g), some (vI m)], [], pset (cW (sHt τ 0 3 g ((τ.2.2 0 3 g) - m)) κ) 14 (.inl (5, .inl (pup ((sHt τ 0 3 g ((τ.2.2 0 3 g) - m)).2.2 0 1) g (((sHt τ 0 3 g ((τ.2.2 0 3 g) - m)).2.2 0 1 g) + m)))))) rfl (by (try dsimp only); omega) ?_
  rw [cW_h1]
  refine hR.run1 14 (S' := (59, [some (vR 10), some (vI 3), some (vI 1), some (vI g), some (vI m)], [], pset (cW (sHt (sHt τ 0 3 g ((τ.2.2 0 3 g) - m)) 0 1 g (((sHt τ 0 3 g ((τ.2.2 0 3 g) - m)).2.2 0 1 g) + m)) κ) 33 (.inl (5, .inl (pup (κ.2.2 0 13) g ((κ.2.2 0 13 g) + m)))))) rfl (by (try dsimp only); omega) ?_
  rw [cW_m13]
  exact hR.rt rfl trivial (by rfl) (by rfl)
theorem sp_move_32 (τ κ : St) {g : Int} (m : Int) (hg : 0 ≤ g ∧ g < 5) : Sp mX3_move roC 1 [vR 10, vI 3, vI 2, vI g, vI m] (cW τ κ) (.inl none) (cW (mvS τ 3 2 g m) (mvK κ 3 2 g m)) := by
  refine Sp.of (lk := lkX3) (tb := bX3_move) (by decide) lkX3_ok tX3_move (cW_keys _ _ _ _) (Nat.le_of_ble_eq_true rfl) (fun G hR => ?_)
  refine hR.run0 2 (S' := (2, [some (vR 10), some (vI 3), some (vI 2), some (vI g), some (vI m)], [vI g, vI 3], cW τ κ)) rfl ?_
  refine hR.cs [vI 3, vI g] kX3_23 rfl rfl (by first | decide | exact Nat.le_refl _) (by decide) (Nat.le_of_ble_eq_true rfl) rfl (sp_sPlace _ _ (by omega) (by omega)) ?_
  show G (5, [some (vR 10), some (vI 3), some (vI 2), some (vI g), some (vI m)], [vI 1], cW τ κ)
  refine hR.br (C := 1 = 0) rfl (by (try dsimp only); omega) (fun c1 => ?_) (fun c1 => ?_)
  · exfalso; omega
  refine hR.run0 2 (S' := (10, [some (vR 10), some (vI 3), some (vI 2), some (vI g), some (vI m)], [vI g, vI 2], cW τ κ)) rfl ?_
  refine hR.cs [vI 2, vI g] kX3_23 rfl rfl (by first | decide | exact Nat.le_refl _) (by decide) (Nat.le_of_ble_eq_true rfl) rfl (sp_sPlace _ _ (by omega) (by omega)) ?_
  show G (13, [some (vR 10), some (vI 3), some (vI 2), some (vI g), some (vI m)], [vI 1], cW τ κ)
  refine hR.br (C := 1 = 0) rfl (by (try dsimp only); omega) (fun c2 => ?_) (fun c2 => ?_)
  · exfalso; omega
  refine hR.run1 10 (S' := (29, [some (vR 10), some (vI 3), some (vI 2), some (vI g), some (vI m)], [], pset (cW τ κ) 16 (.inl (5, .inl (pup (τ.2.2 0 3) g ((τ.2.2 0 3 g) - m)))))) rfl (by (try dsimp only); omega) ?_
  rw [cW_h3]
  refine hR.run1 10 (S' := (42, [some (vR 10), some (vI 3), some (vI 2), some (vI g), some (vI m)], [], pset (cW (sHt τ 0 3 g ((τ.2.2 0 3 g) - m)) κ) 15 (.inl (5, .inl (pup ((sHt τ 0 3 g ((τ.2.2 0 3 g) - m)).2.2 0 2) g (((sHt τ 0 3 g ((τ.2.2 0 3 g) - m)).2.2 0 2 g) + m)))))) rfl (by (try dsimp only); omega) ?_
  rw [cW_h2]
  refine hR.run1 14 (S' := (59, [some (vR 10), some (vI 3), some (vI 2), some (vI g), some (vI m)], [], pset (cW (sHt (sHt τ 0 3 g ((τ.2.2 0 3 g) - m)) 0 2 g (((sHt τ 0 3 g ((τ.2.2 0 3 g) - m)).2.2 0 2 g) + m)) κ) 34 (.inl (5, .inl (pup (κ.2.2 0 14) g ((κ.2.2 0 14 g) + m)))))) rfl (by (try dsimp only); omega) ?_
  rw [cW_m14]
  exact hR.rt rfl trivial (by rfl) (by rfl)
theorem sp_move_33 (τ κ : St) {g : Int} (m : Int) (hg : 0 ≤ g ∧ g < 5) : Sp mX3_move roC 1 [vR 10, vI 3, vI 3, vI g, vI m] (cW τ κ) (.inl none) (cW (mvS τ 3 3 g m) (mvK κ 3 3 g m)) := by
  refine Sp.of (lk := lkX3) (tb := bX3_move) (by decide) lkX3_ok tX3_move (cW_keys _ _ _ _) (Nat.le_of_ble_eq_true rfl) (fun G hR => ?_)
  refine hR.run0 2 (S' := (2, [some (vR 10), some (vI 3), some (vI 3), some (vI g), some (vI m)], [vI g, vI 3], cW τ κ)) rfl ?_
  refine hR.cs [vI 3, vI g] kX3_23 rfl rfl (by first | decide | exact Nat.le_refl _) (by decide) (Nat.le_of_ble_eq_true rfl) rfl (sp_sPlace _ _ (by omega) (by omega)) ?_
  show G (5, [some (vR 10), some (vI 3), some (vI 3), some (vI g), some (vI m)], [vI 1], cW τ κ)
  refine hR.br (C := 1 = 0) rfl (by (try dsimp only); omega) (fun c1 => ?_) (fun c1 => ?_)
  · exfalso; omega
  refine hR.run0 2 (S' := (10, [some (vR 10), some (vI 3), some (vI 3), some (vI g), some (vI m)], [vI g, vI 3], cW τ κ)) rfl ?_
  refine hR.cs [vI 3, vI g] kX3_23 rfl rfl (by first | decide | exact Nat.le_refl _) (by decide) (Nat.le_of_ble_eq_true rfl) rfl (sp_sPlace _ _ (by omega) (by omega)) ?_
  show G (13, [some (vR 10), some (vI 3), some (vI 3), some (vI g), some (vI m)], [vI 1], cW τ κ)
  refine hR.br (C := 1 = 0) rfl (by (try dsimp only); omega) (fun c2 => ?_) (fun c2 => ?_)
  · exfalso; omega
  refine hR.run1 10 (S' := (29, [some (vR 10), some (vI 3), some (vI 3), some (vI g), some (vI m)], [], pset (cW τ κ) 16 (.inl (5, .inl (pup (τ.2.2 0 3) g ((τ.2.2 0 3 g) - m)))))) rfl (by (try dsimp only); omega) ?_
  rw [cW_h3]
  refine hR.run1 10 (S' := (42, [some (vR 10), some (vI 3), some (vI 3), some (vI g), some (vI m)], [], pset (cW (sHt τ 0 3 g ((τ.2.2 0 3 g) - m)) κ) 16 (.inl (5, .inl (pup ((sHt τ 0 3 g ((τ.2.2 0 3 g) - m)).2.2 0 3) g (((sHt τ 0 3 g ((τ.2.2 0 3 g) - m)).2.2 0 3 g) + m)))))) rfl (by (try dsimp only); omega) ?_
  rw [cW_h3]
  refine hR.run1 14 (S' := (59, [some (vR 10), some (vI 3), some (vI 3), some (vI g), some (vI m)], [], pset (cW (sHt (sHt τ 0 3 g ((τ.2.2 0 3 g) - m)) 0 3 g (((sHt τ 0 3 g ((τ.2.2 0 3 g) - m)).2.2 0 3 g) + m)) κ) 35 (.inl (5, .inl (pup (κ.2.2 0 15) g ((κ.2.2 0 15 g) + m)))))) rfl (by (try dsimp only); omega) ?_
  rw [cW_m15]
  exact hR.rt rfl trivial (by rfl) (by rfl)
theorem sp_move (τ κ : St) {f t g : Int} (m : Int) (hf : 0 ≤ f ∧ f < 4) (ht : 0 ≤ t ∧ t < 4) (hg : 0 ≤ g ∧ g < 5) : Sp mX3_move roC 1 [vR 10, vI f, vI t, vI g, vI m] (cW τ κ) (.inl none) (cW (mvS τ f t g m) (mvK κ f t g m)) := by
  rcases (show f = 0 ∨ f = 1 ∨ f = 2 ∨ f = 3 from by omega) with rfl | rfl | rfl | rfl <;> rcases (show t = 0 ∨ t = 1 ∨ t = 2 ∨ t = 3 from by omega) with rfl | rfl | rfl | rfl
  · exact sp_move_00 τ κ m hg
  · exact sp_move_01 τ κ m hg
  · exact sp_move_02 τ κ m hg
  · exact sp_move_03 τ κ m hg
  · exact sp_move_10 τ κ m hg
  · exact sp_move_11 τ κ m hg
  · exact sp_move_12 τ κ m hg
  · exact sp_move_13 τ κ m hg
  · exact sp_move_20 τ κ m hg
  · exact sp_move_21 τ κ m hg
  · exact sp_move_22 τ κ m hg
  · exact sp_move_23 τ κ m hg
  · exact sp_move_30 τ κ m hg
  · exact sp_move_31 τ κ m hg
  · exact sp_move_32 τ κ m hg
  · exact sp_move_33 τ κ m hg
theorem sp_moveAll (τ κ : St) {f t n : Int} (hf : 0 ≤ f ∧ f < 4) (ht : 0 ≤ t ∧ t < 4) (hn : 0 ≤ n ∧ n ≤ 99999) : Sp mX3_moveAll roC 2 [vR 10, vI f, vI t, vI n] (cW τ κ) (.inl none) (cW (mvA τ f t n) (mvAK κ f t n)) := by
  refine Sp.of (lk := lkX3) (tb := bX3_moveAll) (by decide) lkX3_ok tX3_moveAll (cW_keys _ _ _ _) (Nat.le_of_ble_eq_true rfl) (fun G hR => ?_)
  refine hR.run0 4 (S' := (6, [some (vR 10), some (vI f), some (vI t), some (vI n), some (vI 0)], [vI 5, vI 0], cW τ κ)) rfl ?_
  refine hR.br (C := 5 ≤ 0) rfl (by (try dsimp only); omega) (fun c1 => ?_) (fun c1 => ?_)
  · exfalso; omega
  refine hR.run0 6 (S' := (17, [some (vR 10), some (vI f), some (vI t), some (vI n), some (vI 0)], [vI 0, vI n, vI 0, vI t, vI f, vR 10], cW τ κ)) rfl ?_
  have f1 := dgt_r n 0
  refine hR.cs [vI n, vI 0] kX3_19 rfl rfl (by first | decide | exact Nat.le_refl _) (by decide) (Nat.le_of_ble_eq_true rfl) rfl (sp_part_0 _ _ (by omega)) ?_
  show G (20, [some (vR 10), some (vI f), some (vI t), some (vI n), some (vI 0)], [vI (dgt n 0), vI 0, vI t, vI f, vR 10], cW τ κ)
  refine hR.cv [vI f, vI t, vI 0, vI (dgt n 0)] kX3_30 rfl rfl ⟨_, _, _, rfl, rfl, rfl⟩ (by first | decide | exact Nat.le_refl _) (by decide) (Nat.le_of_ble_eq_true rfl) rfl (sp_move _ _ _ (by omega) (by omega) (by omega)) ?_
  show G (23, [some (vR 10), some (vI f), some (vI t), some (vI n), some (vI 0)], [], cW (mvS τ f t 0 (dgt n 0)) (mvK κ f t 0 (dgt n 0)))
  refine hR.run0 4 (S' := (6, [some (vR 10), some (vI f), some (vI t), some (vI n), some (vI 1)], [vI 5, vI 1], cW (mvS τ f t 0 (dgt n 0)) (mvK κ f t 0 (dgt n 0)))) rfl ?_
  refine hR.br (C := 5 ≤ 1) rfl (by (try dsimp only); omega) (fun c2 => ?_) (fun c2 => ?_)
  · exfalso; omega
  refine hR.run0 6 (S' := (17, [some (vR 10), some (vI f), some (vI t), some (vI n), some (vI 1)], [vI 1, vI n, vI 1, vI t, vI f, vR 10], cW (mvS τ f t 0 (dgt n 0)) (mvK κ f t 0 (dgt n 0)))) rfl ?_
  have f2 := dgt_r n 1
  refine hR.cs [vI n, vI 1] kX3_19 rfl rfl (by first | decide | exact Nat.le_refl _) (by decide) (Nat.le_of_ble_eq_true rfl) rfl (sp_part_1 _ _ (by omega)) ?_
  show G (20, [some (vR 10), some (vI f), some (vI t), some (vI n), some (vI 1)], [vI (dgt n 1), vI 1, vI t, vI f, vR 10], cW (mvS τ f t 0 (dgt n 0)) (mvK κ f t 0 (dgt n 0)))
  refine hR.cv [vI f, vI t, vI 1, vI (dgt n 1)] kX3_30 rfl rfl ⟨_, _, _, rfl, rfl, rfl⟩ (by first | decide | exact Nat.le_refl _) (by decide) (Nat.le_of_ble_eq_true rfl) rfl (sp_move _ _ _ (by omega) (by omega) (by omega)) ?_
  show G (23, [some (vR 10), some (vI f), some (vI t), some (vI n), some (vI 1)], [], cW (mvS (mvS τ f t 0 (dgt n 0)) f t 1 (dgt n 1)) (mvK (mvK κ f t 0 (dgt n 0)) f t 1 (dgt n 1)))
  refine hR.run0 4 (S' := (6, [some (vR 10), some (vI f), some (vI t), some (vI n), some (vI 2)], [vI 5, vI 2], cW (mvS (mvS τ f t 0 (dgt n 0)) f t 1 (dgt n 1)) (mvK (mvK κ f t 0 (dgt n 0)) f t 1 (dgt n 1)))) rfl ?_
  refine hR.br (C := 5 ≤ 2) rfl (by (try dsimp only); omega) (fun c3 => ?_) (fun c3 => ?_)
  · exfalso; omega
  refine hR.run0 6 (S' := (17, [some (vR 10), some (vI f), some (vI t), some (vI n), some (vI 2)], [vI 2, vI n, vI 2, vI t, vI f, vR 10], cW (mvS (mvS τ f t 0 (dgt n 0)) f t 1 (dgt n 1)) (mvK (mvK κ f t 0 (dgt n 0)) f t 1 (dgt n 1)))) rfl ?_
  have f3 := dgt_r n 2
  refine hR.cs [vI n, vI 2] kX3_19 rfl rfl (by first | decide | exact Nat.le_refl _) (by decide) (Nat.le_of_ble_eq_true rfl) rfl (sp_part_2 _ _ (by omega)) ?_
  show G (20, [some (vR 10), some (vI f), some (vI t), some (vI n), some (vI 2)], [vI (dgt n 2), vI 2, vI t, vI f, vR 10], cW (mvS (mvS τ f t 0 (dgt n 0)) f t 1 (dgt n 1)) (mvK (mvK κ f t 0 (dgt n 0)) f t 1 (dgt n 1)))
  refine hR.cv [vI f, vI t, vI 2, vI (dgt n 2)] kX3_30 rfl rfl ⟨_, _, _, rfl, rfl, rfl⟩ (by first | decide | exact Nat.le_refl _) (by decide) (Nat.le_of_ble_eq_true rfl) rfl (sp_move _ _ _ (by omega) (by omega) (by omega)) ?_
  show G (23, [some (vR 10), some (vI f), some (vI t), some (vI n), some (vI 2)], [], cW (mvS (mvS (mvS τ f t 0 (dgt n 0)) f t 1 (dgt n 1)) f t 2 (dgt n 2)) (mvK (mvK (mvK κ f t 0 (dgt n 0)) f t 1 (dgt n 1)) f t 2 (dgt n 2)))
  refine hR.run0 4 (S' := (6, [some (vR 10), some (vI f), some (vI t), some (vI n), some (vI 3)], [vI 5, vI 3], cW (mvS (mvS (mvS τ f t 0 (dgt n 0)) f t 1 (dgt n 1)) f t 2 (dgt n 2)) (mvK (mvK (mvK κ f t 0 (dgt n 0)) f t 1 (dgt n 1)) f t 2 (dgt n 2)))) rfl ?_
  refine hR.br (C := 5 ≤ 3) rfl (by (try dsimp only); omega) (fun c4 => ?_) (fun c4 => ?_)
  · exfalso; omega
  refine hR.run0 6 (S' := (17, [some (vR 10), some (vI f), some (vI t), some (vI n), some (vI 3)], [vI 3, vI n, vI 3, vI t, vI f, vR 10], cW (mvS (mvS (mvS τ f t 0 (dgt n 0)) f t 1 (dgt n 1)) f t 2 (dgt n 2)) (mvK (mvK (mvK κ f t 0 (dgt n 0)) f t 1 (dgt n 1)) f t 2 (dgt n 2)))) rfl ?_
  have f4 := dgt_r n 3
  refine hR.cs [vI n, vI 3] kX3_19 rfl rfl (by first | decide | exact Nat.le_refl _) (by decide) (Nat.le_of_ble_eq_true rfl) rfl (sp_part_3 _ _ (by omega)) ?_
  show G (20, [some (vR 10), some (vI f), some (vI t), some (vI n), some (vI 3)], [vI (dgt n 3), vI 3, vI t, vI f, vR 10], cW (mvS (mvS (mvS τ f t 0 (dgt n 0)) f t 1 (dgt n 1)) f t 2 (dgt n 2)) (mvK (mvK (mvK κ f t 0 (dgt n 0)) f t 1 (dgt n 1)) f t 2 (dgt n 2)))
  refine hR.cv [vI f, vI t, vI 3, vI (dgt n 3)] kX3_30 rfl rfl ⟨_, _, _, rfl, rfl, rfl⟩ (by first | decide | exact Nat.le_refl _) (by decide) (Nat.le_of_ble_eq_true rfl) rfl (sp_move _ _ _ (by omega) (by omega) (by omega)) ?_
  show G (23, [some (vR 10), some (vI f), some (vI t), some (vI n), some (vI 3)], [], cW (mvS (mvS (mvS (mvS τ f t 0 (dgt n 0)) f t 1 (dgt n 1)) f t 2 (dgt n 2)) f t 3 (dgt n 3)) (mvK (mvK (mvK (mvK κ f t 0 (dgt n 0)) f t 1 (dgt n 1)) f t 2 (dgt n 2)) f t 3 (dgt n 3)))
  refine hR.run0 4 (S' := (6, [some (vR 10), some (vI f), some (vI t), some (vI n), some (vI 4)], [vI 5, vI 4], cW (mvS (mvS (mvS (mvS τ f t 0 (dgt n 0)) f t 1 (dgt n 1)) f t 2 (dgt n 2)) f t 3 (dgt n 3)) (mvK (mvK (mvK (mvK κ f t 0 (dgt n 0)) f t 1 (dgt n 1)) f t 2 (dgt n 2)) f t 3 (dgt n 3)))) rfl ?_
  refine hR.br (C := 5 ≤ 4) rfl (by (try dsimp only); omega) (fun c5 => ?_) (fun c5 => ?_)
  · exfalso; omega
  refine hR.run0 6 (S' := (17, [some (vR 10), some (vI f), some (vI t), some (vI n), some (vI 4)], [vI 4, vI n, vI 4, vI t, vI f, vR 10], cW (mvS (mvS (mvS (mvS τ f t 0 (dgt n 0)) f t 1 (dgt n 1)) f t 2 (dgt n 2)) f t 3 (dgt n 3)) (mvK (mvK (mvK (mvK κ f t 0 (dgt n 0)) f t 1 (dgt n 1)) f t 2 (dgt n 2)) f t 3 (dgt n 3)))) rfl ?_
  have f5 := dgt_r n 4
  refine hR.cs [vI n, vI 4] kX3_19 rfl rfl (by first | decide | exact Nat.le_refl _) (by decide) (Nat.le_of_ble_eq_true rfl) rfl (sp_part_4 _ _ (by omega)) ?_
  show G (20, [some (vR 10), some (vI f), some (vI t), some (vI n), some (vI 4)], [vI (dgt n 4), vI 4, vI t, vI f, vR 10], cW (mvS (mvS (mvS (mvS τ f t 0 (dgt n 0)) f t 1 (dgt n 1)) f t 2 (dgt n 2)) f t 3 (dgt n 3)) (mvK (mvK (mvK (mvK κ f t 0 (dgt n 0)) f t 1 (dgt n 1)) f t 2 (dgt n 2)) f t 3 (dgt n 3)))
  refine hR.cv [vI f, vI t, vI 4, vI (dgt n 4)] kX3_30 rfl rfl ⟨_, _, _, rfl, rfl, rfl⟩ (by first | decide | exact Nat.le_refl _) (by decide) (Nat.le_of_ble_eq_true rfl) rfl (sp_move _ _ _ (by omega) (by omega) (by omega)) ?_
  show G (23, [some (vR 10), some (vI f), some (vI t), some (vI n), some (vI 4)], [], cW (mvS (mvS (mvS (mvS (mvS τ f t 0 (dgt n 0)) f t 1 (dgt n 1)) f t 2 (dgt n 2)) f t 3 (dgt n 3)) f t 4 (dgt n 4)) (mvK (mvK (mvK (mvK (mvK κ f t 0 (dgt n 0)) f t 1 (dgt n 1)) f t 2 (dgt n 2)) f t 3 (dgt n 3)) f t 4 (dgt n 4)))
  refine hR.run0 4 (S' := (6, [some (vR 10), some (vI f), some (vI t), some (vI n), some (vI 5)], [vI 5, vI 5], cW (mvS (mvS (mvS (mvS (mvS τ f t 0 (dgt n 0)) f t 1 (dgt n 1)) f t 2 (dgt n 2)) f t 3 (dgt n 3)) f t 4 (dgt n 4)) (mvK (mvK (mvK (mvK (mvK κ f t 0 (dgt n 0)) f t 1 (dgt n 1)) f t 2 (dgt n 2)) f t 3 (dgt n 3)) f t 4 (dgt n 4)))) rfl ?_
  refine hR.br (C := 5 ≤ 5) rfl (by (try dsimp only); omega) (fun c6 => ?_) (fun c6 => ?_)
  · skip
    exact hR.rt rfl trivial (by rfl) (by rfl)
  · exfalso; omega
theorem sp_cbm_0 (τ κ : St) {g : Int} (hg : 0 ≤ g ∧ g < 5) : Sp mX3_countByMoves roC 1 [vR 10, vI 0, vI g] (cW τ κ) (.inl (some (vI (cbm (κ.2.2 0) 0 g)))) (cW τ κ) := by
  refine Sp.of (lk := lkX3) (tb := bX3_countByMoves) (by decide) lkX3_ok tX3_countByMoves (cW_keys _ _ _ _) (Nat.le_of_ble_eq_true rfl) (fun G hR => ?_)
  refine hR.run0 2 (S' := (2, [some (vR 10), some (vI 0), some (vI g), none, none], [vI g, vI 0], cW τ κ)) rfl ?_
  refine hR.cs [vI 0, vI g] kX3_23 rfl rfl (by first | decide | exact Nat.le_refl _) (by decide) (Nat.le_of_ble_eq_true rfl) rfl (sp_sPlace _ _ (by omega) (by omega)) ?_
  show G (5, [some (vR 10), some (vI 0), some (vI g), none, none], [vI 1], cW τ κ)
  refine hR.br (C := 1 ≠ 0) rfl (by (try dsimp only); omega) (fun c1 => ?_) (fun c1 => ?_)
  · skip
    refine hR.run0 2 (S' := (12, [some (vR 10), some (vI 0), some (vI g), none, none], [vI 3, vI 0], cW τ κ)) rfl ?_
    refine hR.br (C := 0 ≠ 3) rfl (by (try dsimp only); omega) (fun c2 => ?_) (fun c2 => ?_)
    · skip
      refine hR.run0 6 (S' := (28, [some (vR 10), some (vI 0), some (vI g), some (vI 0), some (vI 0)], [vI 4, vI 0], cW τ κ)) rfl ?_
      refine hR.br (C := 4 ≤ 0) rfl (by (try dsimp only); omega) (fun c3 => ?_) (fun c3 => ?_)
      · exfalso; omega
      refine hR.run1 30 (S' := (28, [some (vR 10), some (vI 0), some (vI g), some (vI ((0 + (κ.2.2 0 0 g)) - (κ.2.2 0 0 g))), some (vI 1)], [vI 4, vI 1], cW τ κ)) rfl (by (try dsimp only); omega) ?_
      refine hR.br (C := 4 ≤ 1) rfl (by (try dsimp only); omega) (fun c4 => ?_) (fun c4 => ?_)
      · exfalso; omega
      refine hR.run1 30 (S' := (28, [some (vR 10), some (vI 0), some (vI g), some (vI ((((0 + (κ.2.2 0 0 g)) - (κ.2.2 0 0 g)) + (κ.2.2 0 4 g)) - (κ.2.2 0 1 g))), some (vI 2)], [vI 4, vI 2], cW τ κ)) rfl (by (try dsimp only); omega) ?_
      refine hR.br (C := 4 ≤ 2) rfl (by (try dsimp only); omega) (fun c5 => ?_) (fun c5 => ?_)
      · exfalso; omega
      refine hR.run1 30 (S' := (28, [some (vR 10), some (vI 0), some (vI g), some (vI ((((((0 + (κ.2.2 0 0 g)) - (κ.2.2 0 0 g)) + (κ.2.2 0 4 g)) - (κ.2.2 0 1 g)) + (κ.2.2 0 8 g)) - (κ.2.2 0 2 g))), some (vI 3)], [vI 4, vI 3], cW τ κ)) rfl (by (try dsimp only); omega) ?_
      refine hR.br (C := 4 ≤ 3) rfl (by (try dsimp only); omega) (fun c6 => ?_) (fun c6 => ?_)
      · exfalso; omega
      refine hR.run1 30 (S' := (28, [some (vR 10), some (vI 0), some (vI g), some (vI ((((((((0 + (κ.2.2 0 0 g)) - (κ.2.2 0 0 g)) + (κ.2.2 0 4 g)) - (κ.2.2 0 1 g)) + (κ.2.2 0 8 g)) - (κ.2.2 0 2 g)) + (κ.2.2 0 12 g)) - (κ.2.2 0 3 g))), some (vI 4)], [vI 4, vI 4], cW τ κ)) rfl (by (try dsimp only); omega) ?_
      refine hR.br (C := 4 ≤ 4) rfl (by (try dsimp only); omega) (fun c7 => ?_) (fun c7 => ?_)
      · skip
        refine hR.run0 1 (S' := (70, [some (vR 10), some (vI 0), some (vI g), some (vI ((((((((0 + (κ.2.2 0 0 g)) - (κ.2.2 0 0 g)) + (κ.2.2 0 4 g)) - (κ.2.2 0 1 g)) + (κ.2.2 0 8 g)) - (κ.2.2 0 2 g)) + (κ.2.2 0 12 g)) - (κ.2.2 0 3 g))), some (vI 4)], [vI ((((((((0 + (κ.2.2 0 0 g)) - (κ.2.2 0 0 g)) + (κ.2.2 0 4 g)) - (κ.2.2 0 1 g)) + (κ.2.2 0 8 g)) - (κ.2.2 0 2 g)) + (κ.2.2 0 12 g)) - (κ.2.2 0 3 g))], cW τ κ)) rfl ?_
        exact hR.rt rfl trivial (by rw [show cbm (κ.2.2 0) 0 g = ((((((((0 + (κ.2.2 0 0 g)) - (κ.2.2 0 0 g)) + (κ.2.2 0 4 g)) - (κ.2.2 0 1 g)) + (κ.2.2 0 8 g)) - (κ.2.2 0 2 g)) + (κ.2.2 0 12 g)) - (κ.2.2 0 3 g)) from by simp [cbm]]) (by rfl)
      · exfalso; omega
    · exfalso; omega
  · exfalso; omega
theorem sp_cbm_1 (τ κ : St) {g : Int} (hg : 0 ≤ g ∧ g < 5) : Sp mX3_countByMoves roC 1 [vR 10, vI 1, vI g] (cW τ κ) (.inl (some (vI (cbm (κ.2.2 0) 1 g)))) (cW τ κ) := by
  refine Sp.of (lk := lkX3) (tb := bX3_countByMoves) (by decide) lkX3_ok tX3_countByMoves (cW_keys _ _ _ _) (Nat.le_of_ble_eq_true rfl) (fun G hR => ?_)
  refine hR.run0 2 (S' := (2, [some (vR 10), some (vI 1), some (vI g), none, none], [vI g, vI 1], cW τ κ)) rfl ?_
  refine hR.cs [vI 1, vI g] kX3_23 rfl rfl (by first | decide | exact Nat.le_refl _) (by decide) (Nat.le_of_ble_eq_true rfl) rfl (sp_sPlace _ _ (by omega) (by omega)) ?_
  show G (5, [some (vR 10), some (vI 1), some (vI g), none, none], [vI 1], cW τ κ)
  refine hR.br (C := 1 ≠ 0) rfl (by (try dsimp only); omega) (fun c1 => ?_) (fun c1 => ?_)
  · skip
    refine hR.run0 2 (S' := (12, [some (vR 10), some (vI 1), some (vI g), none, none], [vI 3, vI 1], cW τ κ)) rfl ?_
    refine hR.br (C := 1 ≠ 3) rfl (by (try dsimp only); omega) (fun c2 => ?_) (fun c2 => ?_)
    · skip
      refine hR.run0 6 (S' := (28, [some (vR 10), some (vI 1), some (vI g), some (vI 0), some (vI 0)], [vI 4, vI 0], cW τ κ)) rfl ?_
      refine hR.br (C := 4 ≤ 0) rfl (by (try dsimp only); omega) (fun c3 => ?_) (fun c3 => ?_)
      · exfalso; omega
      refine hR.run1 30 (S' := (28, [some (vR 10), some (vI 1), some (vI g), some (vI ((0 + (κ.2.2 0 1 g)) - (κ.2.2 0 4 g))), some (vI 1)], [vI 4, vI 1], cW τ κ)) rfl (by (try dsimp only); omega) ?_
      refine hR.br (C := 4 ≤ 1) rfl (by (try dsimp only); omega) (fun c4 => ?_) (fun c4 => ?_)
      · exfalso; omega
      refine hR.run1 30 (S' := (28, [some (vR 10), some (vI 1), some (vI g), some (vI ((((0 + (κ.2.2 0 1 g)) - (κ.2.2 0 4 g)) + (κ.2.2 0 5 g)) - (κ.2.2 0 5 g))), some (vI 2)], [vI 4, vI 2], cW τ κ)) rfl (by (try dsimp only); omega) ?_
      refine hR.br (C := 4 ≤ 2) rfl (by (try dsimp only); omega) (fun c5 => ?_) (fun c5 => ?_)
      · exfalso; omega
      refine hR.run1 30 (S' := (28, [some (vR 10), some (vI 1), some (vI g), some (vI ((((((0 + (κ.2.2 0 1 g)) - (κ.2.2 0 4 g)) + (κ.2.2 0 5 g)) - (κ.2.2 0 5 g)) + (κ.2.2 0 9 g)) - (κ.2.2 0 6 g))), some (vI 3)], [vI 4, vI 3], cW τ κ)) rfl (by (try dsimp only); omega) ?_
      refine hR.br (C := 4 ≤ 3) rfl (by (try dsimp only); omega) (fun c6 => ?_) (fun c6 => ?_)
      · exfalso; omega
      refine hR.run1 30 (S' := (28, [some (vR 10), some (vI 1), some (vI g), some (vI ((((((((0 + (κ.2.2 0 1 g)) - (κ.2.2 0 4 g)) + (κ.2.2 0 5 g)) - (κ.2.2 0 5 g)) + (κ.2.2 0 9 g)) - (κ.2.2 0 6 g)) + (κ.2.2 0 13 g)) - (κ.2.2 0 7 g))), some (vI 4)], [vI 4, vI 4], cW τ κ)) rfl (by (try dsimp only); omega) ?_
      refine hR.br (C := 4 ≤ 4) rfl (by (try dsimp only); omega) (fun c7 => ?_) (fun c7 => ?_)
      · skip
        refine hR.run0 1 (S' := (70, [some (vR 10), some (vI 1), some (vI g), some (vI ((((((((0 + (κ.2.2 0 1 g)) - (κ.2.2 0 4 g)) + (κ.2.2 0 5 g)) - (κ.2.2 0 5 g)) + (κ.2.2 0 9 g)) - (κ.2.2 0 6 g)) + (κ.2.2 0 13 g)) - (κ.2.2 0 7 g))), some (vI 4)], [vI ((((((((0 + (κ.2.2 0 1 g)) - (κ.2.2 0 4 g)) + (κ.2.2 0 5 g)) - (κ.2.2 0 5 g)) + (κ.2.2 0 9 g)) - (κ.2.2 0 6 g)) + (κ.2.2 0 13 g)) - (κ.2.2 0 7 g))], cW τ κ)) rfl ?_
        exact hR.rt rfl trivial (by rw [show cbm (κ.2.2 0) 1 g = ((((((((0 + (κ.2.2 0 1 g)) - (κ.2.2 0 4 g)) + (κ.2.2 0 5 g)) - (κ.2.2 0 5 g)) + (κ.2.2 0 9 g)) - (κ.2.2 0 6 g)) + (κ.2.2 0 13 g)) - (κ.2.2 0 7 g)) from by simp [cbm]]) (by rfl)
      · exfalso; omega
    · exfalso; omega
  · exfalso; omega
theorem sp_cbm_2 (τ κ : St) {g : Int} (hg : 0 ≤ g ∧ g < 5) : Sp mX3_countByMoves roC 1 [vR 10, vI 2, vI g] (cW τ κ) (.inl (some (vI (cbm (κ.2.2 0) 2 g)))) (cW τ κ) := by
  refine Sp.of (lk := lkX3) (tb := bX3_countByMoves) (by decide) lkX3_ok tX3_countByMoves (cW_keys _ _ _ _) (Nat.le_of_ble_eq_true rfl) (fun G hR => ?_)
  refine hR.run0 2 (S' := (2, [some (vR 10), some (vI 2), some (vI g), none, none], [vI g, vI 2], cW τ κ)) rfl ?_
  refine hR.cs [vI 2, vI g] kX3_23 rfl rfl (by first | decide | exact Nat.le_refl _) (by decide) (Nat.le_of_ble_eq_true rfl) rfl (sp_sPlace _ _ (by omega) (by omega)) ?_
  show G (5, [some (vR 10), some (vI 2), some (vI g), none, none], [vI 1], cW τ κ)
  refine hR.br (C := 1 ≠ 0) rfl (by (try dsimp only); omega) (fun c1 => ?_) (fun c1 => ?_)
  · skip
    refine hR.run0 2 (S' := (12, [some (vR 10), some (vI 2), some (vI g), none, none], [vI 3, vI 2], cW τ κ)) rfl ?_
    refine hR.br (C := 2 ≠ 3) rfl (by (try dsimp only); omega) (fun c2 => ?_) (fun c2 => ?_)
    · skip
      refine hR.run0 6 (S' := (28, [some (vR 10), some (vI 2), some (vI g), some (vI 0), some (vI 0)], [vI 4, vI 0], cW τ κ)) rfl ?_
      refine hR.br (C := 4 ≤ 0) rfl (by (try dsimp only); omega) (fun c3 => ?_) (fun c3 => ?_)
      · exfalso; omega
      refine hR.run1 30 (S' := (28, [some (vR 10), some (vI 2), some (vI g), some (vI ((0 + (κ.2.2 0 2 g)) - (κ.2.2 0 8 g))), some (vI 1)], [vI 4, vI 1], cW τ κ)) rfl (by (try dsimp only); omega) ?_
      refine hR.br (C := 4 ≤ 1) rfl (by (try dsimp only); omega) (fun c4 => ?_) (fun c4 => ?_)
      · exfalso; omega
      refine hR.run1 30 (S' := (28, [some (vR 10), some (vI 2), some (vI g), some (vI ((((0 + (κ.2.2 0 2 g)) - (κ.2.2 0 8 g)) + (κ.2.2 0 6 g)) - (κ.2.2 0 9 g))), some (vI 2)], [vI 4, vI 2], cW τ κ)) rfl (by (try dsimp only); omega) ?_
      refine hR.br (C := 4 ≤ 2) rfl (by (try dsimp only); omega) (fun c5 => ?_) (fun c5 => ?_)
      · exfalso; omega
      refine hR.run1 30 (S' := (28, [some (vR 10), some (vI 2), some (vI g), some (vI ((((((0 + (κ.2.2 0 2 g)) - (κ.2.2 0 8 g)) + (κ.2.2 0 6 g)) - (κ.2.2 0 9 g)) + (κ.2.2 0 10 g)) - (κ.2.2 0 10 g))), some (vI 3)], [vI 4, vI 3], cW τ κ)) rfl (by (try dsimp only); omega) ?_
      refine hR.br (C := 4 ≤ 3) rfl (by (try dsimp only); omega) (fun c6 => ?_) (fun c6 => ?_)
      · exfalso; omega
      refine hR.run1 30 (S' := (28, [some (vR 10), some (vI 2), some (vI g), some (vI ((((((((0 + (κ.2.2 0 2 g)) - (κ.2.2 0 8 g)) + (κ.2.2 0 6 g)) - (κ.2.2 0 9 g)) + (κ.2.2 0 10 g)) - (κ.2.2 0 10 g)) + (κ.2.2 0 14 g)) - (κ.2.2 0 11 g))), some (vI 4)], [vI 4, vI 4], cW τ κ)) rfl (by (try dsimp only); omega) ?_
      refine hR.br (C := 4 ≤ 4) rfl (by (try dsimp only); omega) (fun c7 => ?_) (fun c7 => ?_)
      · skip
        refine hR.run0 1 (S' := (70, [some (vR 10), some (vI 2), some (vI g), some (vI ((((((((0 + (κ.2.2 0 2 g)) - (κ.2.2 0 8 g)) + (κ.2.2 0 6 g)) - (κ.2.2 0 9 g)) + (κ.2.2 0 10 g)) - (κ.2.2 0 10 g)) + (κ.2.2 0 14 g)) - (κ.2.2 0 11 g))), some (vI 4)], [vI ((((((((0 + (κ.2.2 0 2 g)) - (κ.2.2 0 8 g)) + (κ.2.2 0 6 g)) - (κ.2.2 0 9 g)) + (κ.2.2 0 10 g)) - (κ.2.2 0 10 g)) + (κ.2.2 0 14 g)) - (κ.2.2 0 11 g))], cW τ κ)) rfl ?_
        exact hR.rt rfl trivial (by rw [show cbm (κ.2.2 0) 2 g = ((((((((0 + (κ.2.2 0 2 g)) - (κ.2.2 0 8 g)) + (κ.2.2 0 6 g)) - (κ.2.2 0 9 g)) + (κ.2.2 0 10 g)) - (κ.2.2 0 10 g)) + (κ.2.2 0 14 g)) - (κ.2.2 0 11 g)) from by simp [cbm]]) (by rfl)
      · exfalso; omega
    · exfalso; omega
  · exfalso; omega
theorem sp_cbm_3 (τ κ : St) {g : Int} (hg : 0 ≤ g ∧ g < 5) : Sp mX3_countByMoves roC 1 [vR 10, vI 3, vI g] (cW τ κ) (.inl (some (vI (cbm (κ.2.2 0) 3 g)))) (cW τ κ) := by
  refine Sp.of (lk := lkX3) (tb := bX3_countByMoves) (by decide) lkX3_ok tX3_countByMoves (cW_keys _ _ _ _) (Nat.le_of_ble_eq_true rfl) (fun G hR => ?_)
  refine hR.run0 2 (S' := (2, [some (vR 10), some (vI 3), some (vI g), none, none], [vI g, vI 3], cW τ κ)) rfl ?_
  refine hR.cs [vI 3, vI g] kX3_23 rfl rfl (by first | decide | exact Nat.le_refl _) (by decide) (Nat.le_of_ble_eq_true rfl) rfl (sp_sPlace _ _ (by omega) (by omega)) ?_
  show G (5, [some (vR 10), some (vI 3), some (vI g), none, none], [vI 1], cW τ κ)
  refine hR.br (C := 1 ≠ 0) rfl (by (try dsimp only); omega) (fun c1 => ?_) (fun c1 => ?_)
  · skip
    refine hR.run0 2 (S' := (12, [some (vR 10), some (vI 3), some (vI g), none, none], [vI 3, vI 3], cW τ κ)) rfl ?_
    refine hR.br (C := 3 ≠ 3) rfl (by (try dsimp only); omega) (fun c2 => ?_) (fun c2 => ?_)
    · exfalso; omega
    refine hR.run0 7 (S' := (28, [some (vR 10), some (vI 3), some (vI g), some (vI 12), some (vI 0)], [vI 4, vI 0], cW τ κ)) rfl ?_
    refine hR.br (C := 4 ≤ 0) rfl (by (try dsimp only); omega) (fun c3 => ?_) (fun c3 => ?_)
    · exfalso; omega
    refine hR.run1 30 (S' := (28, [some (vR 10), some (vI 3), some (vI g), some (vI ((12 + (κ.2.2 0 3 g)) - (κ.2.2 0 12 g))), some (vI 1)], [vI 4, vI 1], cW τ κ)) rfl (by (try dsimp only); omega) ?_
    refine hR.br (C := 4 ≤ 1) rfl (by (try dsimp only); omega) (fun c4 => ?_) (fun c4 => ?_)
    · exfalso; omega
    refine hR.run1 30 (S' := (28, [some (vR 10), some (vI 3), some (vI g), some (vI ((((12 + (κ.2.2 0 3 g)) - (κ.2.2 0 12 g)) + (κ.2.2 0 7 g)) - (κ.2.2 0 13 g))), some (vI 2)], [vI 4, vI 2], cW τ κ)) rfl (by (try dsimp only); omega) ?_
    refine hR.br (C := 4 ≤ 2) rfl (by (try dsimp only); omega) (fun c5 => ?_) (fun c5 => ?_)
    · exfalso; omega
    refine hR.run1 30 (S' := (28, [some (vR 10), some (vI 3), some (vI g), some (vI ((((((12 + (κ.2.2 0 3 g)) - (κ.2.2 0 12 g)) + (κ.2.2 0 7 g)) - (κ.2.2 0 13 g)) + (κ.2.2 0 11 g)) - (κ.2.2 0 14 g))), some (vI 3)], [vI 4, vI 3], cW τ κ)) rfl (by (try dsimp only); omega) ?_
    refine hR.br (C := 4 ≤ 3) rfl (by (try dsimp only); omega) (fun c6 => ?_) (fun c6 => ?_)
    · exfalso; omega
    refine hR.run1 30 (S' := (28, [some (vR 10), some (vI 3), some (vI g), some (vI ((((((((12 + (κ.2.2 0 3 g)) - (κ.2.2 0 12 g)) + (κ.2.2 0 7 g)) - (κ.2.2 0 13 g)) + (κ.2.2 0 11 g)) - (κ.2.2 0 14 g)) + (κ.2.2 0 15 g)) - (κ.2.2 0 15 g))), some (vI 4)], [vI 4, vI 4], cW τ κ)) rfl (by (try dsimp only); omega) ?_
    refine hR.br (C := 4 ≤ 4) rfl (by (try dsimp only); omega) (fun c7 => ?_) (fun c7 => ?_)
    · skip
      refine hR.run0 1 (S' := (70, [some (vR 10), some (vI 3), some (vI g), some (vI ((((((((12 + (κ.2.2 0 3 g)) - (κ.2.2 0 12 g)) + (κ.2.2 0 7 g)) - (κ.2.2 0 13 g)) + (κ.2.2 0 11 g)) - (κ.2.2 0 14 g)) + (κ.2.2 0 15 g)) - (κ.2.2 0 15 g))), some (vI 4)], [vI ((((((((12 + (κ.2.2 0 3 g)) - (κ.2.2 0 12 g)) + (κ.2.2 0 7 g)) - (κ.2.2 0 13 g)) + (κ.2.2 0 11 g)) - (κ.2.2 0 14 g)) + (κ.2.2 0 15 g)) - (κ.2.2 0 15 g))], cW τ κ)) rfl ?_
      exact hR.rt rfl trivial (by rw [show cbm (κ.2.2 0) 3 g = ((((((((12 + (κ.2.2 0 3 g)) - (κ.2.2 0 12 g)) + (κ.2.2 0 7 g)) - (κ.2.2 0 13 g)) + (κ.2.2 0 11 g)) - (κ.2.2 0 14 g)) + (κ.2.2 0 15 g)) - (κ.2.2 0 15 g)) from by simp [cbm]]) (by rfl)
    · exfalso; omega
  · exfalso; omega
theorem sp_countByMoves (τ κ : St) {p g : Int} (hp : 0 ≤ p ∧ p < 4) (hg : 0 ≤ g ∧ g < 5) : Sp mX3_countByMoves roC 1 [vR 10, vI p, vI g] (cW τ κ) (.inl (some (vI (cbm (κ.2.2 0) p g)))) (cW τ κ) := by
  rcases (show p = 0 ∨ p = 1 ∨ p = 2 ∨ p = 3 from by omega) with rfl | rfl | rfl | rfl
  · exact sp_cbm_0 τ κ hg
  · exact sp_cbm_1 τ κ hg
  · exact sp_cbm_2 τ κ hg
  · exact sp_cbm_3 τ κ hg
theorem sp_drawnGood (τ κ : St) {v d : Int} (hv : 0 ≤ v ∧ v < 3) (hd : 0 ≤ d ∧ d ≤ 999) (hh : ∀ p g, 0 ≤ τ.2.2 0 p g ∧ τ.2.2 0 p g ≤ 12) : Sp mX3_drawnGood roC 3 [vR 10, vI v, vI d] (cW τ κ) (.inl (some (vI (drw (τ.2.2 0) v d)))) (cW τ κ) := by
  have q0 := tot_r hh v
  have q1 : tot (τ.2.2 0) v = τ.2.2 0 v 0 + τ.2.2 0 v 1 + τ.2.2 0 v 2 + τ.2.2 0 v 3 + τ.2.2 0 v 4 := rfl
  have q2 : 0 < tot (τ.2.2 0) v → 0 ≤ d % tot (τ.2.2 0) v ∧ d % tot (τ.2.2 0) v < tot (τ.2.2 0) v := fun h => ⟨Int.emod_nonneg _ (by omega), Int.emod_lt_of_pos _ h⟩
  refine Sp.of (lk := lkX3) (tb := bX3_drawnGood) (by decide) lkX3_ok tX3_drawnGood (cW_keys _ _ _ _) (Nat.le_of_ble_eq_true rfl) (fun G hR => ?_)
  refine hR.run0 2 (S' := (2, [some (vR 10), some (vI v), some (vI d), none, none, none], [vI v, vR 10], cW τ κ)) rfl ?_
  have f1 := tot_r hh v
  refine hR.cv [vI v] kX3_34 rfl rfl ⟨_, _, _, rfl, rfl, rfl⟩ (by first | decide | exact Nat.le_refl _) (by decide) (Nat.le_of_ble_eq_true rfl) rfl (sp_total _ _ (by omega) hh) ?_
  show G (5, [some (vR 10), some (vI v), some (vI d), none, none, none], [vI (tot (τ.2.2 0) v)], cW τ κ)
  refine hR.run0 3 (S' := (8, [some (vR 10), some (vI v), some (vI d), some (vI (tot (τ.2.2 0) v)), none, none], [vI (-1), vI v], cW τ κ)) rfl ?_
  refine hR.br (C := v = (-1)) rfl (by (try dsimp only); omega) (fun c1 => ?_) (fun c1 => ?_)
  · exfalso; omega
  refine hR.run0 1 (S' := (12, [some (vR 10), some (vI v), some (vI d), some (vI (tot (τ.2.2 0) v)), none, none], [vI (tot (τ.2.2 0) v)], cW τ κ)) rfl ?_
  refine hR.br (C := 0 < tot (τ.2.2 0) v) rfl (by (try dsimp only); omega) (fun c2 => ?_) (fun c2 => ?_)
  · skip
    refine hR.run1 8 (S' := (28, [some (vR 10), some (vI v), some (vI d), some (vI (tot (τ.2.2 0) v)), some (vI (d % (tot (τ.2.2 0) v))), some (vI 0)], [vI 5, vI 0], cW τ κ)) rfl (by (try dsimp only); omega) ?_
    refine hR.br (C := 5 ≤ 0) rfl (by (try dsimp only); omega) (fun c3 => ?_) (fun c3 => ?_)
    · exfalso; omega
    refine hR.run0 4 (S' := (37, [some (vR 10), some (vI v), some (vI d), some (vI (tot (τ.2.2 0) v)), some (vI (d % (tot (τ.2.2 0) v))), some (vI 0)], [vI 0, vI v, vR 10, vI (d % (tot (τ.2.2 0) v))], cW τ κ)) rfl ?_
    have f2 := hh v 0
    refine hR.cv [vI v, vI 0] kX3_27 rfl rfl ⟨_, _, _, rfl, rfl, rfl⟩ (by first | decide | exact Nat.le_refl _) (by decide) (Nat.le_of_ble_eq_true rfl) rfl (sp_count _ _ (by omega) (by omega)) ?_
    show G (40, [some (vR 10), some (vI v), some (vI d), some (vI (tot (τ.2.2 0) v)), some (vI (d % (tot (τ.2.2 0) v))), some (vI 0)], [vI (τ.2.2 0 v 0), vI (d % (tot (τ.2.2 0) v))], cW τ κ)
    refine hR.run0 3 (S' := (45, [some (vR 10), some (vI v), some (vI d), some (vI (tot (τ.2.2 0) v)), some (vI ((d % (tot (τ.2.2 0) v)) - (τ.2.2 0 v 0))), some (vI 0)], [vI ((d % (tot (τ.2.2 0) v)) - (τ.2.2 0 v 0))], cW τ κ)) rfl ?_
    refine hR.br (C := 0 ≤ (d % (tot (τ.2.2 0) v)) - (τ.2.2 0 v 0)) rfl (by (try dsimp only); omega) (fun c4 => ?_) (fun c4 => ?_)
    · skip
      refine hR.run0 4 (S' := (28, [some (vR 10), some (vI v), some (vI d), some (vI (tot (τ.2.2 0) v)), some (vI ((d % (tot (τ.2.2 0) v)) - (τ.2.2 0 v 0))), some (vI 1)], [vI 5, vI 1], cW τ κ)) rfl ?_
      refine hR.br (C := 5 ≤ 1) rfl (by (try dsimp only); omega) (fun c5 => ?_) (fun c5 => ?_)
      · exfalso; omega
      refine hR.run0 4 (S' := (37, [some (vR 10), some (vI v), some (vI d), some (vI (tot (τ.2.2 0) v)), some (vI ((d % (tot (τ.2.2 0) v)) - (τ.2.2 0 v 0))), some (vI 1)], [vI 1, vI v, vR 10, vI ((d % (tot (τ.2.2 0) v)) - (τ.2.2 0 v 0))], cW τ κ)) rfl ?_
      have f3 := hh v 1
      refine hR.cv [vI v, vI 1] kX3_27 rfl rfl ⟨_, _, _, rfl, rfl, rfl⟩ (by first | decide | exact Nat.le_refl _) (by decide) (Nat.le_of_ble_eq_true rfl) rfl (sp_count _ _ (by omega) (by omega)) ?_
      show G (40, [some (vR 10), some (vI v), some (vI d), some (vI (tot (τ.2.2 0) v)), some (vI ((d % (tot (τ.2.2 0) v)) - (τ.2.2 0 v 0))), some (vI 1)], [vI (τ.2.2 0 v 1), vI ((d % (tot (τ.2.2 0) v)) - (τ.2.2 0 v 0))], cW τ κ)
      refine hR.run0 3 (S' := (45, [some (vR 10), some (vI v), some (vI d), some (vI (tot (τ.2.2 0) v)), some (vI (((d % (tot (τ.2.2 0) v)) - (τ.2.2 0 v 0)) - (τ.2.2 0 v 1))), some (vI 1)], [vI (((d % (tot (τ.2.2 0) v)) - (τ.2.2 0 v 0)) - (τ.2.2 0 v 1))], cW τ κ)) rfl ?_
      refine hR.br (C := 0 ≤ ((d % (tot (τ.2.2 0) v)) - (τ.2.2 0 v 0)) - (τ.2.2 0 v 1)) rfl (by (try dsimp only); omega) (fun c6 => ?_) (fun c6 => ?_)
      · skip
        refine hR.run0 4 (S' := (28, [some (vR 10), some (vI v), some (vI d), some (vI (tot (τ.2.2 0) v)), some (vI (((d % (tot (τ.2.2 0) v)) - (τ.2.2 0 v 0)) - (τ.2.2 0 v 1))), some (vI 2)], [vI 5, vI 2], cW τ κ)) rfl ?_
        refine hR.br (C := 5 ≤ 2) rfl (by (try dsimp only); omega) (fun c7 => ?_) (fun c7 => ?_)
        · exfalso; omega
        refine hR.run0 4 (S' := (37, [some (vR 10), some (vI v), some (vI d), some (vI (tot (τ.2.2 0) v)), some (vI (((d % (tot (τ.2.2 0) v)) - (τ.2.2 0 v 0)) - (τ.2.2 0 v 1))), some (vI 2)], [vI 2, vI v, vR 10, vI (((d % (tot (τ.2.2 0) v)) - (τ.2.2 0 v 0)) - (τ.2.2 0 v 1))], cW τ κ)) rfl ?_
        have f4 := hh v 2
        refine hR.cv [vI v, vI 2] kX3_27 rfl rfl ⟨_, _, _, rfl, rfl, rfl⟩ (by first | decide | exact Nat.le_refl _) (by decide) (Nat.le_of_ble_eq_true rfl) rfl (sp_count _ _ (by omega) (by omega)) ?_
        show G (40, [some (vR 10), some (vI v), some (vI d), some (vI (tot (τ.2.2 0) v)), some (vI (((d % (tot (τ.2.2 0) v)) - (τ.2.2 0 v 0)) - (τ.2.2 0 v 1))), some (vI 2)], [vI (τ.2.2 0 v 2), vI (((d % (tot (τ.2.2 0) v)) - (τ.2.2 0 v 0)) - (τ.2.2 0 v 1))], cW τ κ)
        refine hR.run0 3 (S' := (45, [some (vR 10), some (vI v), some (vI d), some (vI (tot (τ.2.2 0) v)), some (vI ((((d % (tot (τ.2.2 0) v)) - (τ.2.2 0 v 0)) - (τ.2.2 0 v 1)) - (τ.2.2 0 v 2))), some (vI 2)], [vI ((((d % (tot (τ.2.2 0) v)) - (τ.2.2 0 v 0)) - (τ.2.2 0 v 1)) - (τ.2.2 0 v 2))], cW τ κ)) rfl ?_
        refine hR.br (C := 0 ≤ (((d % (tot (τ.2.2 0) v)) - (τ.2.2 0 v 0)) - (τ.2.2 0 v 1)) - (τ.2.2 0 v 2)) rfl (by (try dsimp only); omega) (fun c8 => ?_) (fun c8 => ?_)
        · skip
          refine hR.run0 4 (S' := (28, [some (vR 10), some (vI v), some (vI d), some (vI (tot (τ.2.2 0) v)), some (vI ((((d % (tot (τ.2.2 0) v)) - (τ.2.2 0 v 0)) - (τ.2.2 0 v 1)) - (τ.2.2 0 v 2))), some (vI 3)], [vI 5, vI 3], cW τ κ)) rfl ?_
          refine hR.br (C := 5 ≤ 3) rfl (by (try dsimp only); omega) (fun c9 => ?_) (fun c9 => ?_)
          · exfalso; omega
          refine hR.run0 4 (S' := (37, [some (vR 10), some (vI v), some (vI d), some (vI (tot (τ.2.2 0) v)), some (vI ((((d % (tot (τ.2.2 0) v)) - (τ.2.2 0 v 0)) - (τ.2.2 0 v 1)) - (τ.2.2 0 v 2))), some (vI 3)], [vI 3, vI v, vR 10, vI ((((d % (tot (τ.2.2 0) v)) - (τ.2.2 0 v 0)) - (τ.2.2 0 v 1)) - (τ.2.2 0 v 2))], cW τ κ)) rfl ?_
          have f5 := hh v 3
          refine hR.cv [vI v, vI 3] kX3_27 rfl rfl ⟨_, _, _, rfl, rfl, rfl⟩ (by first | decide | exact Nat.le_refl _) (by decide) (Nat.le_of_ble_eq_true rfl) rfl (sp_count _ _ (by omega) (by omega)) ?_
          show G (40, [some (vR 10), some (vI v), some (vI d), some (vI (tot (τ.2.2 0) v)), some (vI ((((d % (tot (τ.2.2 0) v)) - (τ.2.2 0 v 0)) - (τ.2.2 0 v 1)) - (τ.2.2 0 v 2))), some (vI 3)], [vI (τ.2.2 0 v 3), vI ((((d % (tot (τ.2.2 0) v)) - (τ.2.2 0 v 0)) - (τ.2.2 0 v 1)) - (τ.2.2 0 v 2))], cW τ κ)
          refine hR.run0 3 (S' := (45, [some (vR 10), some (vI v), some (vI d), some (vI (tot (τ.2.2 0) v)), some (vI (((((d % (tot (τ.2.2 0) v)) - (τ.2.2 0 v 0)) - (τ.2.2 0 v 1)) - (τ.2.2 0 v 2)) - (τ.2.2 0 v 3))), some (vI 3)], [vI (((((d % (tot (τ.2.2 0) v)) - (τ.2.2 0 v 0)) - (τ.2.2 0 v 1)) - (τ.2.2 0 v 2)) - (τ.2.2 0 v 3))], cW τ κ)) rfl ?_
          refine hR.br (C := 0 ≤ ((((d % (tot (τ.2.2 0) v)) - (τ.2.2 0 v 0)) - (τ.2.2 0 v 1)) - (τ.2.2 0 v 2)) - (τ.2.2 0 v 3)) rfl (by (try dsimp only); omega) (fun c10 => ?_) (fun c10 => ?_)
          · skip
            refine hR.run0 4 (S' := (28, [some (vR 10), some (vI v), some (vI d), some (vI (tot (τ.2.2 0) v)), some (vI (((((d % (tot (τ.2.2 0) v)) - (τ.2.2 0 v 0)) - (τ.2.2 0 v 1)) - (τ.2.2 0 v 2)) - (τ.2.2 0 v 3))), some (vI 4)], [vI 5, vI 4], cW τ κ)) rfl ?_
            refine hR.br (C := 5 ≤ 4) rfl (by (try dsimp only); omega) (fun c11 => ?_) (fun c11 => ?_)
            · exfalso; omega
            refine hR.run0 4 (S' := (37, [some (vR 10), some (vI v), some (vI d), some (vI (tot (τ.2.2 0) v)), some (vI (((((d % (tot (τ.2.2 0) v)) - (τ.2.2 0 v 0)) - (τ.2.2 0 v 1)) - (τ.2.2 0 v 2)) - (τ.2.2 0 v 3))), some (vI 4)], [vI 4, vI v, vR 10, vI (((((d % (tot (τ.2.2 0) v)) - (τ.2.2 0 v 0)) - (τ.2.2 0 v 1)) - (τ.2.2 0 v 2)) - (τ.2.2 0 v 3))], cW τ κ)) rfl ?_
            have f6 := hh v 4
            refine hR.cv [vI v, vI 4] kX3_27 rfl rfl ⟨_, _, _, rfl, rfl, rfl⟩ (by first | decide | exact Nat.le_refl _) (by decide) (Nat.le_of_ble_eq_true rfl) rfl (sp_count _ _ (by omega) (by omega)) ?_
            show G (40, [some (vR 10), some (vI v), some (vI d), some (vI (tot (τ.2.2 0) v)), some (vI (((((d % (tot (τ.2.2 0) v)) - (τ.2.2 0 v 0)) - (τ.2.2 0 v 1)) - (τ.2.2 0 v 2)) - (τ.2.2 0 v 3))), some (vI 4)], [vI (τ.2.2 0 v 4), vI (((((d % (tot (τ.2.2 0) v)) - (τ.2.2 0 v 0)) - (τ.2.2 0 v 1)) - (τ.2.2 0 v 2)) - (τ.2.2 0 v 3))], cW τ κ)
            refine hR.run0 3 (S' := (45, [some (vR 10), some (vI v), some (vI d), some (vI (tot (τ.2.2 0) v)), some (vI ((((((d % (tot (τ.2.2 0) v)) - (τ.2.2 0 v 0)) - (τ.2.2 0 v 1)) - (τ.2.2 0 v 2)) - (τ.2.2 0 v 3)) - (τ.2.2 0 v 4))), some (vI 4)], [vI ((((((d % (tot (τ.2.2 0) v)) - (τ.2.2 0 v 0)) - (τ.2.2 0 v 1)) - (τ.2.2 0 v 2)) - (τ.2.2 0 v 3)) - (τ.2.2 0 v 4))], cW τ κ)) rfl ?_
            refine hR.br (C := 0 ≤ (((((d % (tot (τ.2.2 0) v)) - (τ.2.2 0 v 0)) - (τ.2.2 0 v 1)) - (τ.2.2 0 v 2)) - (τ.2.2 0 v 3)) - (τ.2.2 0 v 4)) rfl (by (try dsimp only); omega) (fun c12 => ?_) (fun c12 => ?_)
            · skip
              refine hR.run0 4 (S' := (28, [some (vR 10), some (vI v), some (vI d), some (vI (tot (τ.2.2 0) v)), some (vI ((((((d % (tot (τ.2.2 0) v)) - (τ.2.2 0 v 0)) - (τ.2.2 0 v 1)) - (τ.2.2 0 v 2)) - (τ.2.2 0 v 3)) - (τ.2.2 0 v 4))), some (vI 5)], [vI 5, vI 5], cW τ κ)) rfl ?_
              refine hR.br (C := 5 ≤ 5) rfl (by (try dsimp only); omega) (fun c13 => ?_) (fun c13 => ?_)
              · skip
                refine hR.run0 1 (S' := (58, [some (vR 10), some (vI v), some (vI d), some (vI (tot (τ.2.2 0) v)), some (vI ((((((d % (tot (τ.2.2 0) v)) - (τ.2.2 0 v 0)) - (τ.2.2 0 v 1)) - (τ.2.2 0 v 2)) - (τ.2.2 0 v 3)) - (τ.2.2 0 v 4))), some (vI 5)], [vI (-1)], cW τ κ)) rfl ?_
                exact hR.rt rfl trivial (by rw [show drw (τ.2.2 0) v d = (-1) from by unfold drw; (repeat' split) <;> omega]) (by rfl)
              · exfalso; omega
            · skip
              refine hR.run0 1 (S' := (50, [some (vR 10), some (vI v), some (vI d), some (vI (tot (τ.2.2 0) v)), some (vI ((((((d % (tot (τ.2.2 0) v)) - (τ.2.2 0 v 0)) - (τ.2.2 0 v 1)) - (τ.2.2 0 v 2)) - (τ.2.2 0 v 3)) - (τ.2.2 0 v 4))), some (vI 4)], [vI 4], cW τ κ)) rfl ?_
              exact hR.rt rfl trivial (by rw [show drw (τ.2.2 0) v d = 4 from by unfold drw; (repeat' split) <;> omega]) (by rfl)
          · skip
            refine hR.run0 1 (S' := (50, [some (vR 10), some (vI v), some (vI d), some (vI (tot (τ.2.2 0) v)), some (vI (((((d % (tot (τ.2.2 0) v)) - (τ.2.2 0 v 0)) - (τ.2.2 0 v 1)) - (τ.2.2 0 v 2)) - (τ.2.2 0 v 3))), some (vI 3)], [vI 3], cW τ κ)) rfl ?_
            exact hR.rt rfl trivial (by rw [show drw (τ.2.2 0) v d = 3 from by unfold drw; (repeat' split) <;> omega]) (by rfl)
        · skip
          refine hR.run0 1 (S' := (50, [some (vR 10), some (vI v), some (vI d), some (vI (tot (τ.2.2 0) v)), some (vI ((((d % (tot (τ.2.2 0) v)) - (τ.2.2 0 v 0)) - (τ.2.2 0 v 1)) - (τ.2.2 0 v 2))), some (vI 2)], [vI 2], cW τ κ)) rfl ?_
          exact hR.rt rfl trivial (by rw [show drw (τ.2.2 0) v d = 2 from by unfold drw; (repeat' split) <;> omega]) (by rfl)
      · skip
        refine hR.run0 1 (S' := (50, [some (vR 10), some (vI v), some (vI d), some (vI (tot (τ.2.2 0) v)), some (vI (((d % (tot (τ.2.2 0) v)) - (τ.2.2 0 v 0)) - (τ.2.2 0 v 1))), some (vI 1)], [vI 1], cW τ κ)) rfl ?_
        exact hR.rt rfl trivial (by rw [show drw (τ.2.2 0) v d = 1 from by unfold drw; (repeat' split) <;> omega]) (by rfl)
    · skip
      refine hR.run0 1 (S' := (50, [some (vR 10), some (vI v), some (vI d), some (vI (tot (τ.2.2 0) v)), some (vI ((d % (tot (τ.2.2 0) v)) - (τ.2.2 0 v 0))), some (vI 0)], [vI 0], cW τ κ)) rfl ?_
      exact hR.rt rfl trivial (by rw [show drw (τ.2.2 0) v d = 0 from by unfold drw; (repeat' split) <;> omega]) (by rfl)
  · skip
    refine hR.run0 1 (S' := (16, [some (vR 10), some (vI v), some (vI d), some (vI (tot (τ.2.2 0) v)), none, none], [vI (-1)], cW τ κ)) rfl ?_
    exact hR.rt rfl trivial (by rw [show drw (τ.2.2 0) v d = (-1) from by unfold drw; (repeat' split) <;> omega]) (by rfl)
theorem sp_drawnN (τ κ : St) (d : Int) (hd : 0 ≤ d ∧ d ≤ 999) : Sp mX3_drawnGood roC 3 [vR 10, vI (-1), vI d] (cW τ κ) (.inl (some (vI (-1)))) (cW τ κ) := by
  refine Sp.of (lk := lkX3) (tb := bX3_drawnGood) (by decide) lkX3_ok tX3_drawnGood (cW_keys _ _ _ _) (Nat.le_of_ble_eq_true rfl) (fun G hR => ?_)
  refine hR.run0 2 (S' := (2, [some (vR 10), some (vI (-1)), some (vI d), none, none, none], [vI (-1), vR 10], cW τ κ)) rfl ?_
  refine hR.cv [vI (-1)] kX3_34 rfl rfl ⟨_, _, _, rfl, rfl, rfl⟩ (by first | decide | exact Nat.le_refl _) (by decide) (Nat.le_of_ble_eq_true rfl) rfl (sp_totalN _ _ (by omega) (by omega)) ?_
  show G (5, [some (vR 10), some (vI (-1)), some (vI d), none, none, none], [vI 0], cW τ κ)
  refine hR.run0 3 (S' := (8, [some (vR 10), some (vI (-1)), some (vI d), some (vI 0), none, none], [vI (-1), vI (-1)], cW τ κ)) rfl ?_
  refine hR.br (C := (-1) = (-1)) rfl (by (try dsimp only); omega) (fun c1 => ?_) (fun c1 => ?_)
  · skip
    refine hR.run0 1 (S' := (16, [some (vR 10), some (vI (-1)), some (vI d), some (vI 0), none, none], [vI (-1)], cW τ κ)) rfl ?_
    exact hR.rt rfl trivial rfl (by rfl)
  · exfalso; omega
