theorem sp_pointsOf (τ κ : St) {p : Int} (hp : 0 ≤ p ∧ p < 3) (hb : ∀ c, -1 ≤ τ.2.1 2 c ∧ τ.2.1 2 c ≤ 5) (hcd : ∀ p k, 0 ≤ τ.2.2 1 p k ∧ τ.2.2 1 p k ≤ 15) (har : -1 ≤ τ.1 8 ∧ τ.1 8 < 3) (hth : -1 ≤ τ.1 4 ∧ τ.1 4 < 3) : Sp mX5_pointsOf roC 2 [vR 0, vI p] (cW τ κ) (.inl (some (vI (ptsF τ p)))) (cW τ κ) := by
  refine Sp.of (lk := lkX5) (tb := bX5_pointsOf) (by decide) lkX5_ok tX5_pointsOf (cW_keys _ _ _ _) (Nat.le_of_ble_eq_true rfl) (fun G hR => ?_)
  refine hR.run0 3 (S' := (5, [some (vR 0), some (vI p), none], [vI p, vR 1], cW τ κ)) rfl ?_
  have f1 := cntN_r (τ.2.1 2) p 24
  refine hR.cv [vI p] kX5_179 rfl rfl ⟨_, _, _, rfl, rfl, rfl⟩ (by first | decide | exact Nat.le_refl _) (by decide) (Nat.le_of_ble_eq_true rfl) rfl (sp_countBuildings _ _ (by omega) hb) ?_
  show G (8, [some (vR 0), some (vI p), none], [vI (cntN (τ.2.1 2) p 24)], cW τ κ)
  refine hR.run0 6 (S' := (16, [some (vR 0), some (vI p), none], [vI (3 + p), vR 1, vI 2, vI (cntN (τ.2.1 2) p 24)], cW τ κ)) rfl ?_
  have f2 := cntN_r (τ.2.1 2) (3 + p) 24
  refine hR.cv [vI (3 + p)] kX5_179 rfl rfl ⟨_, _, _, rfl, rfl, rfl⟩ (by first | decide | exact Nat.le_refl _) (by decide) (Nat.le_of_ble_eq_true rfl) rfl (sp_countBuildings _ _ (by omega) hb) ?_
  show G (19, [some (vR 0), some (vI p), none], [vI (cntN (τ.2.1 2) (3 + p) 24), vI 2, vI (cntN (τ.2.1 2) p 24)], cW τ κ)
  refine hR.run0 6 (S' := (27, [some (vR 0), some (vI p), none], [vI 4, vI p, vR 50, vI ((cntN (τ.2.1 2) p 24) + (2 * (cntN (τ.2.1 2) (3 + p) 24)))], cW τ κ)) rfl ?_
  have f3 := hcd p 4
  refine hR.cv [vI p, vI 4] kX5_284 rfl rfl ⟨_, _, _, rfl, rfl, rfl⟩ (by first | decide | exact Nat.le_refl _) (by decide) (Nat.le_of_ble_eq_true rfl) rfl (sp_ccount _ _ (by omega) (by omega)) ?_
  show G (30, [some (vR 0), some (vI p), none], [vI (τ.2.2 1 p 4), vI ((cntN (τ.2.1 2) p 24) + (2 * (cntN (τ.2.1 2) (3 + p) 24)))], cW τ κ)
  refine hR.run0 5 (S' := (37, [some (vR 0), some (vI p), some (vI (((cntN (τ.2.1 2) p 24) + (2 * (cntN (τ.2.1 2) (3 + p) 24))) + (τ.2.2 1 p 4)))], [vI (τ.1 4), vI p], cW τ κ)) rfl ?_
  refine hR.br (C := p ≠ τ.1 4) rfl (by (try dsimp only); omega) (fun c1 => ?_) (fun c1 => ?_)
  · skip
    refine hR.run0 3 (S' := (48, [some (vR 0), some (vI p), some (vI (((cntN (τ.2.1 2) p 24) + (2 * (cntN (τ.2.1 2) (3 + p) 24))) + (τ.2.2 1 p 4)))], [vR 50, vI p], cW τ κ)) rfl ?_
    refine hR.cv [] kX5_276 rfl rfl ⟨_, _, _, rfl, rfl, rfl⟩ (by first | decide | exact Nat.le_refl _) (by decide) (Nat.le_of_ble_eq_true rfl) rfl (sp_armyHolder _ _) ?_
    show G (51, [some (vR 0), some (vI p), some (vI (((cntN (τ.2.1 2) p 24) + (2 * (cntN (τ.2.1 2) (3 + p) 24))) + (τ.2.2 1 p 4)))], [vI (τ.1 8), vI p], cW τ κ)
    refine hR.br (C := p ≠ τ.1 8) rfl (by (try dsimp only); omega) (fun c2 => ?_) (fun c2 => ?_)
    · skip
      refine hR.run0 1 (S' := (58, [some (vR 0), some (vI p), some (vI (((cntN (τ.2.1 2) p 24) + (2 * (cntN (τ.2.1 2) (3 + p) 24))) + (τ.2.2 1 p 4)))], [vI (((cntN (τ.2.1 2) p 24) + (2 * (cntN (τ.2.1 2) (3 + p) 24))) + (τ.2.2 1 p 4))], cW τ κ)) rfl ?_
      exact hR.rt rfl trivial (by rw [show ptsF τ p = (((cntN (τ.2.1 2) p 24) + (2 * (cntN (τ.2.1 2) (3 + p) 24))) + (τ.2.2 1 p 4)) from by unfold ptsF; (repeat' split) <;> omega]) (by rfl)
    · skip
      refine hR.run0 2 (S' := (58, [some (vR 0), some (vI p), some (vI ((((cntN (τ.2.1 2) p 24) + (2 * (cntN (τ.2.1 2) (3 + p) 24))) + (τ.2.2 1 p 4)) + 2))], [vI ((((cntN (τ.2.1 2) p 24) + (2 * (cntN (τ.2.1 2) (3 + p) 24))) + (τ.2.2 1 p 4)) + 2)], cW τ κ)) rfl ?_
      exact hR.rt rfl trivial (by rw [show ptsF τ p = ((((cntN (τ.2.1 2) p 24) + (2 * (cntN (τ.2.1 2) (3 + p) 24))) + (τ.2.2 1 p 4)) + 2) from by unfold ptsF; (repeat' split) <;> omega]) (by rfl)
  · skip
    refine hR.run0 4 (S' := (48, [some (vR 0), some (vI p), some (vI ((((cntN (τ.2.1 2) p 24) + (2 * (cntN (τ.2.1 2) (3 + p) 24))) + (τ.2.2 1 p 4)) + 2))], [vR 50, vI p], cW τ κ)) rfl ?_
    refine hR.cv [] kX5_276 rfl rfl ⟨_, _, _, rfl, rfl, rfl⟩ (by first | decide | exact Nat.le_refl _) (by decide) (Nat.le_of_ble_eq_true rfl) rfl (sp_armyHolder _ _) ?_
    show G (51, [some (vR 0), some (vI p), some (vI ((((cntN (τ.2.1 2) p 24) + (2 * (cntN (τ.2.1 2) (3 + p) 24))) + (τ.2.2 1 p 4)) + 2))], [vI (τ.1 8), vI p], cW τ κ)
    refine hR.br (C := p ≠ τ.1 8) rfl (by (try dsimp only); omega) (fun c3 => ?_) (fun c3 => ?_)
    · skip
      refine hR.run0 1 (S' := (58, [some (vR 0), some (vI p), some (vI ((((cntN (τ.2.1 2) p 24) + (2 * (cntN (τ.2.1 2) (3 + p) 24))) + (τ.2.2 1 p 4)) + 2))], [vI ((((cntN (τ.2.1 2) p 24) + (2 * (cntN (τ.2.1 2) (3 + p) 24))) + (τ.2.2 1 p 4)) + 2)], cW τ κ)) rfl ?_
      exact hR.rt rfl trivial (by rw [show ptsF τ p = ((((cntN (τ.2.1 2) p 24) + (2 * (cntN (τ.2.1 2) (3 + p) 24))) + (τ.2.2 1 p 4)) + 2) from by unfold ptsF; (repeat' split) <;> omega]) (by rfl)
    · skip
      refine hR.run0 2 (S' := (58, [some (vR 0), some (vI p), some (vI (((((cntN (τ.2.1 2) p 24) + (2 * (cntN (τ.2.1 2) (3 + p) 24))) + (τ.2.2 1 p 4)) + 2) + 2))], [vI (((((cntN (τ.2.1 2) p 24) + (2 * (cntN (τ.2.1 2) (3 + p) 24))) + (τ.2.2 1 p 4)) + 2) + 2)], cW τ κ)) rfl ?_
      exact hR.rt rfl trivial (by rw [show ptsF τ p = (((((cntN (τ.2.1 2) p 24) + (2 * (cntN (τ.2.1 2) (3 + p) 24))) + (τ.2.2 1 p 4)) + 2) + 2) from by unfold ptsF; (repeat' split) <;> omega]) (by rfl)
theorem sp_endIfWon (τ κ : St) (hb : ∀ c, -1 ≤ τ.2.1 2 c ∧ τ.2.1 2 c ≤ 5) (hcd : ∀ p k, 0 ≤ τ.2.2 1 p k ∧ τ.2.2 1 p k ≤ 15) (har : -1 ≤ τ.1 8 ∧ τ.1 8 < 3) (hth : -1 ≤ τ.1 4 ∧ τ.1 4 < 3) (hph : 0 ≤ τ.1 0 ∧ τ.1 0 ≤ 5) (htu : 0 ≤ τ.1 1 ∧ τ.1 1 < 3) : Sp mX5_endIfWon roC 3 [vR 0] (cW τ κ) (.inl none) (cW (winS τ) κ) := by
  refine Sp.of (lk := lkX5) (tb := bX5_endIfWon) (by decide) lkX5_ok tX5_endIfWon (cW_keys _ _ _ _) (Nat.le_of_ble_eq_true rfl) (fun G hR => ?_)
  refine hR.run0 2 (S' := (4, [some (vR 0)], [vI (τ.1 0)], cW τ κ)) rfl ?_
  refine hR.br (C := τ.1 0 = 0) rfl (by (try dsimp only); omega) (fun c1 => ?_) (fun c1 => ?_)
  · skip
    exact hR.rt rfl trivial (by rfl) (by unfold winS; split <;> first | rfl | (exfalso; omega))
  · skip
    refine hR.run0 3 (S' := (12, [some (vR 0)], [vI (τ.1 1), vR 0], cW τ κ)) rfl ?_
    have f1 := ptsF_r (τ.1 1) (hcd (τ.1 1) 4)
    refine hR.cv [vI (τ.1 1)] kX5_185 rfl rfl ⟨_, _, _, rfl, rfl, rfl⟩ (by first | decide | exact Nat.le_refl _) (by decide) (Nat.le_of_ble_eq_true rfl) rfl (sp_pointsOf _ _ (by omega) hb hcd har hth) ?_
    show G (15, [some (vR 0)], [vI (ptsF τ (τ.1 1))], cW τ κ)
    refine hR.run0 1 (S' := (17, [some (vR 0)], [vI 8, vI (ptsF τ (τ.1 1))], cW τ κ)) rfl ?_
    refine hR.br (C := ptsF τ (τ.1 1) < 8) rfl (by (try dsimp only); omega) (fun c2 => ?_) (fun c2 => ?_)
    · skip
      exact hR.rt rfl trivial (by rfl) (by unfold winS; split <;> first | rfl | (exfalso; omega))
    · skip
      refine hR.run0 3 (S' := (25, [some (vR 0)], [], pset (cW τ κ) 0 (.inr (5, [vR 1, vR 10, vR 40, vR 50, vR 60, vR 70, vR 71, vI 5, vI (τ.1 1), vI (τ.1 2), vI (τ.1 3), vI (τ.1 4)])))) rfl ?_
      rw [cW_s0]
      exact hR.rt rfl trivial (by rfl) (by unfold winS; split <;> first | rfl | (exfalso; omega))
theorem sp_dueFrom (τ κ : St) {p : Int} (hp : 0 ≤ p ∧ p < 3) : Sp mX5_dueFrom roC 0 [vR 0, vI p] (cW τ κ) (.inl (some (vI (τ.2.1 4 p)))) (cW τ κ) := by
  refine Sp.of (lk := lkX5) (tb := bX5_dueFrom) (by decide) lkX5_ok tX5_dueFrom (cW_keys _ _ _ _) (Nat.le_of_ble_eq_true rfl) (fun G hR => ?_)
  refine hR.run0 1 (S' := (1, [some (vR 0), some (vI p)], [vI p], cW τ κ)) rfl ?_
  refine hR.br (C := p < 0) rfl (by (try dsimp only); omega) (fun c1 => ?_) (fun c1 => ?_)
  · exfalso; omega
  refine hR.run0 4 (S' := (10, [some (vR 0), some (vI p)], [vI 3, vI p], cW τ κ)) rfl ?_
  refine hR.br (C := 3 ≤ p) rfl (by (try dsimp only); omega) (fun c2 => ?_) (fun c2 => ?_)
  · exfalso; omega
  refine hR.run1 5 (S' := (23, [some (vR 0), some (vI p)], [vI (τ.2.1 4 p)], cW τ κ)) rfl (by (try dsimp only); omega) ?_
  exact hR.rt rfl trivial rfl (by rfl)
theorem sp_setDue (τ κ : St) {p : Int} (v : Int) (hp : 0 ≤ p ∧ p < 3) : Sp mX5_setDue roC 0 [vR 0, vI p, vI v] (cW τ κ) (.inl none) (cW (sAt τ 4 p v) κ) := by
  refine Sp.of (lk := lkX5) (tb := bX5_setDue) (by decide) lkX5_ok tX5_setDue (cW_keys _ _ _ _) (Nat.le_of_ble_eq_true rfl) (fun G hR => ?_)
  refine hR.run0 1 (S' := (1, [some (vR 0), some (vI p), some (vI v)], [vI p], cW τ κ)) rfl ?_
  refine hR.br (C := p < 0) rfl (by (try dsimp only); omega) (fun c1 => ?_) (fun c1 => ?_)
  · exfalso; omega
  refine hR.run0 4 (S' := (10, [some (vR 0), some (vI p), some (vI v)], [vI 3, vI p], cW τ κ)) rfl ?_
  refine hR.br (C := 3 ≤ p) rfl (by (try dsimp only); omega) (fun c2 => ?_) (fun c2 => ?_)
  · exfalso; omega
  refine hR.run1 5 (S' := (20, [some (vR 0), some (vI p), some (vI v)], [], pset (cW τ κ) 70 (.inl (3, .inl (pup (τ.2.1 4) p v))))) rfl (by (try dsimp only); omega) ?_
  rw [cW_a4]
  exact hR.rt rfl trivial (by rfl) (by rfl)
theorem sp_isAnyDue (τ κ : St) (hdu : ∀ p, 0 ≤ τ.2.1 4 p ∧ τ.2.1 4 p ≤ 30) : Sp mX5_isAnyDue roC 0 [vR 0] (cW τ κ) (.inl (some (vI (bI (anyDue (τ.2.1 4)))))) (cW τ κ) := by
  refine Sp.of (lk := lkX5) (tb := bX5_isAnyDue) (by decide) lkX5_ok tX5_isAnyDue (cW_keys _ _ _ _) (Nat.le_of_ble_eq_true rfl) (fun G hR => ?_)
  refine hR.run0 6 (S' := (8, [some (vR 0), some (vI 0)], [vI 3, vI 0], cW τ κ)) rfl ?_
  refine hR.br (C := 3 ≤ 0) rfl (by (try dsimp only); omega) (fun c1 => ?_) (fun c1 => ?_)
  · exfalso; omega
  have f1 := hdu 0
  refine hR.run1 4 (S' := (17, [some (vR 0), some (vI 0)], [vI (τ.2.1 4 0)], cW τ κ)) rfl (by (try dsimp only); omega) ?_
  refine hR.br (C := τ.2.1 4 0 ≤ 0) rfl (by (try dsimp only); omega) (fun c2 => ?_) (fun c2 => ?_)
  · skip
    refine hR.run0 6 (S' := (8, [some (vR 0), some (vI 1)], [vI 3, vI 1], cW τ κ)) rfl ?_
    refine hR.br (C := 3 ≤ 1) rfl (by (try dsimp only); omega) (fun c3 => ?_) (fun c3 => ?_)
    · exfalso; omega
    have f2 := hdu 1
    refine hR.run1 4 (S' := (17, [some (vR 0), some (vI 1)], [vI (τ.2.1 4 1)], cW τ κ)) rfl (by (try dsimp only); omega) ?_
    refine hR.br (C := τ.2.1 4 1 ≤ 0) rfl (by (try dsimp only); omega) (fun c4 => ?_) (fun c4 => ?_)
    · skip
      refine hR.run0 6 (S' := (8, [some (vR 0), some (vI 2)], [vI 3, vI 2], cW τ κ)) rfl ?_
      refine hR.br (C := 3 ≤ 2) rfl (by (try dsimp only); omega) (fun c5 => ?_) (fun c5 => ?_)
      · exfalso; omega
      have f3 := hdu 2
      refine hR.run1 4 (S' := (17, [some (vR 0), some (vI 2)], [vI (τ.2.1 4 2)], cW τ κ)) rfl (by (try dsimp only); omega) ?_
      refine hR.br (C := τ.2.1 4 2 ≤ 0) rfl (by (try dsimp only); omega) (fun c6 => ?_) (fun c6 => ?_)
      · skip
        refine hR.run0 6 (S' := (8, [some (vR 0), some (vI 3)], [vI 3, vI 3], cW τ κ)) rfl ?_
        refine hR.br (C := 3 ≤ 3) rfl (by (try dsimp only); omega) (fun c7 => ?_) (fun c7 => ?_)
        · skip
          refine hR.run0 1 (S' := (29, [some (vR 0), some (vI 3)], [vI 0], cW τ κ)) rfl ?_
          exact hR.rt rfl (Or.inl rfl) (by rw [show bI (anyDue (τ.2.1 4)) = 0 from by first | (exfalso; omega) | exact bIf (fun h => by simp only [anyDue, Bool.and_eq_true, Bool.or_eq_true, decide_eq_true_eq] at h; first | omega | (simp_all; done))]) (by rfl)
        · exfalso; omega
      · skip
        refine hR.run0 1 (S' := (21, [some (vR 0), some (vI 2)], [vI 1], cW τ κ)) rfl ?_
        exact hR.rt rfl (Or.inr rfl) (by rw [show bI (anyDue (τ.2.1 4)) = 1 from by first | (exfalso; omega) | exact bIt (by simp only [anyDue, Bool.and_eq_true, Bool.or_eq_true, decide_eq_true_eq]; first | omega | (simp_all; done))]) (by rfl)
    · skip
      refine hR.run0 1 (S' := (21, [some (vR 0), some (vI 1)], [vI 1], cW τ κ)) rfl ?_
      exact hR.rt rfl (Or.inr rfl) (by rw [show bI (anyDue (τ.2.1 4)) = 1 from by first | (exfalso; omega) | exact bIt (by simp only [anyDue, Bool.and_eq_true, Bool.or_eq_true, decide_eq_true_eq]; first | omega | (simp_all; done))]) (by rfl)
  · skip
    refine hR.run0 1 (S' := (21, [some (vR 0), some (vI 0)], [vI 1], cW τ κ)) rfl ?_
    exact hR.rt rfl (Or.inr rfl) (by rw [show bI (anyDue (τ.2.1 4)) = 1 from by first | (exfalso; omega) | exact bIt (by simp only [anyDue, Bool.and_eq_true, Bool.or_eq_true, decide_eq_true_eq]; first | omega | (simp_all; done))]) (by rfl)
theorem sp_yieldTo (τ κ : St) {p g u : Int} (hp : 0 ≤ p ∧ p < 3) (hgg : 0 ≤ g ∧ g < 5) (hs : 2 ≤ u ∧ u ≤ 12) (hb : ∀ c, -1 ≤ τ.2.1 2 c ∧ τ.2.1 2 c ≤ 5) (hg : ∀ h, 0 ≤ τ.2.1 0 h ∧ τ.2.1 0 h ≤ 5) (hn : ∀ h, 2 ≤ τ.2.1 1 h ∧ τ.2.1 1 h ≤ 12) (hrb : 0 ≤ τ.1 5 ∧ τ.1 5 < 7) (hbk : -1000 ≤ τ.2.2 0 3 g ∧ τ.2.2 0 3 g ≤ 1000) : Sp mX5_yieldTo roC 3 [vR 0, vI p, vI g, vI u] (cW τ κ) (.inl (some (vI (yTo τ p g u)))) (cW τ κ) := by
  refine Sp.of (lk := lkX5) (tb := bX5_yieldTo) (by decide) lkX5_ok tX5_yieldTo (cW_keys _ _ _ _) (Nat.le_of_ble_eq_true rfl) (fun G hR => ?_)
  refine hR.run0 6 (S' := (9, [some (vR 0), some (vI p), some (vI g), some (vI u), some (vI 0), some (vI 0), none], [vI 3, vI 0], cW τ κ)) rfl ?_
  refine hR.br (C := 3 ≤ 0) rfl (by (try dsimp only); omega) (fun c1 => ?_) (fun c1 => ?_)
  · exfalso; omega
  refine hR.run0 6 (S' := (22, [some (vR 0), some (vI p), some (vI g), some (vI u), some (vI 0), some (vI 0), none], [vI u, vI g, vI 0, vR 1, vI 0], cW τ κ)) rfl ?_
  have f1 := yldN_r (τ.2.1 0) (τ.2.1 1) (τ.2.1 2) (τ.1 5) 0 g u 7
  refine hR.cv [vI 0, vI g, vI u] kX5_345 rfl rfl ⟨_, _, _, rfl, rfl, rfl⟩ (by first | decide | exact Nat.le_refl _) (by decide) (Nat.le_of_ble_eq_true rfl) rfl (sp_yieldOf _ _ (by omega) (by omega) (by omega) hb hg hn hrb) ?_
  show G (25, [some (vR 0), some (vI p), some (vI g), some (vI u), some (vI 0), some (vI 0), none], [vI (yldN (τ.2.1 0) (τ.2.1 1) (τ.2.1 2) (τ.1 5) 0 g u 7), vI 0], cW τ κ)
  refine hR.run0 6 (S' := (9, [some (vR 0), some (vI p), some (vI g), some (vI u), some (vI (0 + (yldN (τ.2.1 0) (τ.2.1 1) (τ.2.1 2) (τ.1 5) 0 g u 7))), some (vI 1), none], [vI 3, vI 1], cW τ κ)) rfl ?_
  refine hR.br (C := 3 ≤ 1) rfl (by (try dsimp only); omega) (fun c2 => ?_) (fun c2 => ?_)
  · exfalso; omega
  refine hR.run0 6 (S' := (22, [some (vR 0), some (vI p), some (vI g), some (vI u), some (vI (0 + (yldN (τ.2.1 0) (τ.2.1 1) (τ.2.1 2) (τ.1 5) 0 g u 7))), some (vI 1), none], [vI u, vI g, vI 1, vR 1, vI (0 + (yldN (τ.2.1 0) (τ.2.1 1) (τ.2.1 2) (τ.1 5) 0 g u 7))], cW τ κ)) rfl ?_
  have f2 := yldN_r (τ.2.1 0) (τ.2.1 1) (τ.2.1 2) (τ.1 5) 1 g u 7
  refine hR.cv [vI 1, vI g, vI u] kX5_345 rfl rfl ⟨_, _, _, rfl, rfl, rfl⟩ (by first | decide | exact Nat.le_refl _) (by decide) (Nat.le_of_ble_eq_true rfl) rfl (sp_yieldOf _ _ (by omega) (by omega) (by omega) hb hg hn hrb) ?_
  show G (25, [some (vR 0), some (vI p), some (vI g), some (vI u), some (vI (0 + (yldN (τ.2.1 0) (τ.2.1 1) (τ.2.1 2) (τ.1 5) 0 g u 7))), some (vI 1), none], [vI (yldN (τ.2.1 0) (τ.2.1 1) (τ.2.1 2) (τ.1 5) 1 g u 7), vI (0 + (yldN (τ.2.1 0) (τ.2.1 1) (τ.2.1 2) (τ.1 5) 0 g u 7))], cW τ κ)
  refine hR.run0 6 (S' := (9, [some (vR 0), some (vI p), some (vI g), some (vI u), some (vI ((0 + (yldN (τ.2.1 0) (τ.2.1 1) (τ.2.1 2) (τ.1 5) 0 g u 7)) + (yldN (τ.2.1 0) (τ.2.1 1) (τ.2.1 2) (τ.1 5) 1 g u 7))), some (vI 2), none], [vI 3, vI 2], cW τ κ)) rfl ?_
  refine hR.br (C := 3 ≤ 2) rfl (by (try dsimp only); omega) (fun c3 => ?_) (fun c3 => ?_)
  · exfalso; omega
  refine hR.run0 6 (S' := (22, [some (vR 0), some (vI p), some (vI g), some (vI u), some (vI ((0 + (yldN (τ.2.1 0) (τ.2.1 1) (τ.2.1 2) (τ.1 5) 0 g u 7)) + (yldN (τ.2.1 0) (τ.2.1 1) (τ.2.1 2) (τ.1 5) 1 g u 7))), some (vI 2), none], [vI u, vI g, vI 2, vR 1, vI ((0 + (yldN (τ.2.1 0) (τ.2.1 1) (τ.2.1 2) (τ.1 5) 0 g u 7)) + (yldN (τ.2.1 0) (τ.2.1 1) (τ.2.1 2) (τ.1 5) 1 g u 7))], cW τ κ)) rfl ?_
  have f3 := yldN_r (τ.2.1 0) (τ.2.1 1) (τ.2.1 2) (τ.1 5) 2 g u 7
  refine hR.cv [vI 2, vI g, vI u] kX5_345 rfl rfl ⟨_, _, _, rfl, rfl, rfl⟩ (by first | decide | exact Nat.le_refl _) (by decide) (Nat.le_of_ble_eq_true rfl) rfl (sp_yieldOf _ _ (by omega) (by omega) (by omega) hb hg hn hrb) ?_
  show G (25, [some (vR 0), some (vI p), some (vI g), some (vI u), some (vI ((0 + (yldN (τ.2.1 0) (τ.2.1 1) (τ.2.1 2) (τ.1 5) 0 g u 7)) + (yldN (τ.2.1 0) (τ.2.1 1) (τ.2.1 2) (τ.1 5) 1 g u 7))), some (vI 2), none], [vI (yldN (τ.2.1 0) (τ.2.1 1) (τ.2.1 2) (τ.1 5) 2 g u 7), vI ((0 + (yldN (τ.2.1 0) (τ.2.1 1) (τ.2.1 2) (τ.1 5) 0 g u 7)) + (yldN (τ.2.1 0) (τ.2.1 1) (τ.2.1 2) (τ.1 5) 1 g u 7))], cW τ κ)
  refine hR.run0 6 (S' := (9, [some (vR 0), some (vI p), some (vI g), some (vI u), some (vI (((0 + (yldN (τ.2.1 0) (τ.2.1 1) (τ.2.1 2) (τ.1 5) 0 g u 7)) + (yldN (τ.2.1 0) (τ.2.1 1) (τ.2.1 2) (τ.1 5) 1 g u 7)) + (yldN (τ.2.1 0) (τ.2.1 1) (τ.2.1 2) (τ.1 5) 2 g u 7))), some (vI 3), none], [vI 3, vI 3], cW τ κ)) rfl ?_
  refine hR.br (C := 3 ≤ 3) rfl (by (try dsimp only); omega) (fun c4 => ?_) (fun c4 => ?_)
  · skip
    refine hR.run0 5 (S' := (41, [some (vR 0), some (vI p), some (vI g), some (vI u), some (vI (((0 + (yldN (τ.2.1 0) (τ.2.1 1) (τ.2.1 2) (τ.1 5) 0 g u 7)) + (yldN (τ.2.1 0) (τ.2.1 1) (τ.2.1 2) (τ.1 5) 1 g u 7)) + (yldN (τ.2.1 0) (τ.2.1 1) (τ.2.1 2) (τ.1 5) 2 g u 7))), some (vI 3), none], [vI u, vI g, vI p, vR 1], cW τ κ)) rfl ?_
    have f4 := yldN_r (τ.2.1 0) (τ.2.1 1) (τ.2.1 2) (τ.1 5) p g u 7
    refine hR.cv [vI p, vI g, vI u] kX5_345 rfl rfl ⟨_, _, _, rfl, rfl, rfl⟩ (by first | decide | exact Nat.le_refl _) (by decide) (Nat.le_of_ble_eq_true rfl) rfl (sp_yieldOf _ _ (by omega) (by omega) (by omega) hb hg hn hrb) ?_
    show G (44, [some (vR 0), some (vI p), some (vI g), some (vI u), some (vI (((0 + (yldN (τ.2.1 0) (τ.2.1 1) (τ.2.1 2) (τ.1 5) 0 g u 7)) + (yldN (τ.2.1 0) (τ.2.1 1) (τ.2.1 2) (τ.1 5) 1 g u 7)) + (yldN (τ.2.1 0) (τ.2.1 1) (τ.2.1 2) (τ.1 5) 2 g u 7))), some (vI 3), none], [vI (yldN (τ.2.1 0) (τ.2.1 1) (τ.2.1 2) (τ.1 5) p g u 7)], cW τ κ)
    refine hR.run0 5 (S' := (52, [some (vR 0), some (vI p), some (vI g), some (vI u), some (vI (((0 + (yldN (τ.2.1 0) (τ.2.1 1) (τ.2.1 2) (τ.1 5) 0 g u 7)) + (yldN (τ.2.1 0) (τ.2.1 1) (τ.2.1 2) (τ.1 5) 1 g u 7)) + (yldN (τ.2.1 0) (τ.2.1 1) (τ.2.1 2) (τ.1 5) 2 g u 7))), some (vI (yldN (τ.2.1 0) (τ.2.1 1) (τ.2.1 2) (τ.1 5) p g u 7)), none], [vI g, vI 3, vR 10], cW τ κ)) rfl ?_
    refine hR.cv [vI 3, vI g] kX5_217 rfl rfl ⟨_, _, _, rfl, rfl, rfl⟩ (by first | decide | exact Nat.le_refl _) (by decide) (Nat.le_of_ble_eq_true rfl) rfl (sp_count _ _ (by omega) (by omega)) ?_
    show G (55, [some (vR 0), some (vI p), some (vI g), some (vI u), some (vI (((0 + (yldN (τ.2.1 0) (τ.2.1 1) (τ.2.1 2) (τ.1 5) 0 g u 7)) + (yldN (τ.2.1 0) (τ.2.1 1) (τ.2.1 2) (τ.1 5) 1 g u 7)) + (yldN (τ.2.1 0) (τ.2.1 1) (τ.2.1 2) (τ.1 5) 2 g u 7))), some (vI (yldN (τ.2.1 0) (τ.2.1 1) (τ.2.1 2) (τ.1 5) p g u 7)), none], [vI (τ.2.2 0 3 g)], cW τ κ)
    refine hR.run0 3 (S' := (61, [some (vR 0), some (vI p), some (vI g), some (vI u), some (vI (((0 + (yldN (τ.2.1 0) (τ.2.1 1) (τ.2.1 2) (τ.1 5) 0 g u 7)) + (yldN (τ.2.1 0) (τ.2.1 1) (τ.2.1 2) (τ.1 5) 1 g u 7)) + (yldN (τ.2.1 0) (τ.2.1 1) (τ.2.1 2) (τ.1 5) 2 g u 7))), some (vI (yldN (τ.2.1 0) (τ.2.1 1) (τ.2.1 2) (τ.1 5) p g u 7)), some (vI (τ.2.2 0 3 g))], [vI (τ.2.2 0 3 g), vI (((0 + (yldN (τ.2.1 0) (τ.2.1 1) (τ.2.1 2) (τ.1 5) 0 g u 7)) + (yldN (τ.2.1 0) (τ.2.1 1) (τ.2.1 2) (τ.1 5) 1 g u 7)) + (yldN (τ.2.1 0) (τ.2.1 1) (τ.2.1 2) (τ.1 5) 2 g u 7))], cW τ κ)) rfl ?_
    refine hR.br (C := τ.2.2 0 3 g < ((0 + (yldN (τ.2.1 0) (τ.2.1 1) (τ.2.1 2) (τ.1 5) 0 g u 7)) + (yldN (τ.2.1 0) (τ.2.1 1) (τ.2.1 2) (τ.1 5) 1 g u 7)) + (yldN (τ.2.1 0) (τ.2.1 1) (τ.2.1 2) (τ.1 5) 2 g u 7)) rfl (by (try dsimp only); omega) (fun c5 => ?_) (fun c5 => ?_)
    · skip
      refine hR.run0 2 (S' := (71, [some (vR 0), some (vI p), some (vI g), some (vI u), some (vI (((0 + (yldN (τ.2.1 0) (τ.2.1 1) (τ.2.1 2) (τ.1 5) 0 g u 7)) + (yldN (τ.2.1 0) (τ.2.1 1) (τ.2.1 2) (τ.1 5) 1 g u 7)) + (yldN (τ.2.1 0) (τ.2.1 1) (τ.2.1 2) (τ.1 5) 2 g u 7))), some (vI (yldN (τ.2.1 0) (τ.2.1 1) (τ.2.1 2) (τ.1 5) p g u 7)), some (vI (τ.2.2 0 3 g))], [vI (((0 + (yldN (τ.2.1 0) (τ.2.1 1) (τ.2.1 2) (τ.1 5) 0 g u 7)) + (yldN (τ.2.1 0) (τ.2.1 1) (τ.2.1 2) (τ.1 5) 1 g u 7)) + (yldN (τ.2.1 0) (τ.2.1 1) (τ.2.1 2) (τ.1 5) 2 g u 7)), vI (yldN (τ.2.1 0) (τ.2.1 1) (τ.2.1 2) (τ.1 5) p g u 7)], cW τ κ)) rfl ?_
      refine hR.br (C := yldN (τ.2.1 0) (τ.2.1 1) (τ.2.1 2) (τ.1 5) p g u 7 ≠ ((0 + (yldN (τ.2.1 0) (τ.2.1 1) (τ.2.1 2) (τ.1 5) 0 g u 7)) + (yldN (τ.2.1 0) (τ.2.1 1) (τ.2.1 2) (τ.1 5) 1 g u 7)) + (yldN (τ.2.1 0) (τ.2.1 1) (τ.2.1 2) (τ.1 5) 2 g u 7)) rfl (by (try dsimp only); omega) (fun c6 => ?_) (fun c6 => ?_)
      · skip
        refine hR.run0 1 (S' := (80, [some (vR 0), some (vI p), some (vI g), some (vI u), some (vI (((0 + (yldN (τ.2.1 0) (τ.2.1 1) (τ.2.1 2) (τ.1 5) 0 g u 7)) + (yldN (τ.2.1 0) (τ.2.1 1) (τ.2.1 2) (τ.1 5) 1 g u 7)) + (yldN (τ.2.1 0) (τ.2.1 1) (τ.2.1 2) (τ.1 5) 2 g u 7))), some (vI (yldN (τ.2.1 0) (τ.2.1 1) (τ.2.1 2) (τ.1 5) p g u 7)), some (vI (τ.2.2 0 3 g))], [vI 0], cW τ κ)) rfl ?_
        exact hR.rt rfl trivial (by rw [show yTo τ p g u = 0 from by unfold yTo; (repeat' split) <;> omega]) (by rfl)
      · skip
        refine hR.run0 2 (S' := (80, [some (vR 0), some (vI p), some (vI g), some (vI u), some (vI (((0 + (yldN (τ.2.1 0) (τ.2.1 1) (τ.2.1 2) (τ.1 5) 0 g u 7)) + (yldN (τ.2.1 0) (τ.2.1 1) (τ.2.1 2) (τ.1 5) 1 g u 7)) + (yldN (τ.2.1 0) (τ.2.1 1) (τ.2.1 2) (τ.1 5) 2 g u 7))), some (vI (yldN (τ.2.1 0) (τ.2.1 1) (τ.2.1 2) (τ.1 5) p g u 7)), some (vI (τ.2.2 0 3 g))], [vI (τ.2.2 0 3 g)], cW τ κ)) rfl ?_
        exact hR.rt rfl trivial (by rw [show yTo τ p g u = (τ.2.2 0 3 g) from by unfold yTo; (repeat' split) <;> omega]) (by rfl)
    · skip
      refine hR.run0 1 (S' := (66, [some (vR 0), some (vI p), some (vI g), some (vI u), some (vI (((0 + (yldN (τ.2.1 0) (τ.2.1 1) (τ.2.1 2) (τ.1 5) 0 g u 7)) + (yldN (τ.2.1 0) (τ.2.1 1) (τ.2.1 2) (τ.1 5) 1 g u 7)) + (yldN (τ.2.1 0) (τ.2.1 1) (τ.2.1 2) (τ.1 5) 2 g u 7))), some (vI (yldN (τ.2.1 0) (τ.2.1 1) (τ.2.1 2) (τ.1 5) p g u 7)), some (vI (τ.2.2 0 3 g))], [vI (yldN (τ.2.1 0) (τ.2.1 1) (τ.2.1 2) (τ.1 5) p g u 7)], cW τ κ)) rfl ?_
      exact hR.rt rfl trivial (by rw [show yTo τ p g u = (yldN (τ.2.1 0) (τ.2.1 1) (τ.2.1 2) (τ.1 5) p g u 7) from by unfold yTo; (repeat' split) <;> omega]) (by rfl)
  · exfalso; omega
theorem sp_goOnPlacing (τ κ : St) (hpl : 0 ≤ τ.1 2 ∧ τ.1 2 ≤ 6) : Sp mX5_goOnPlacing roC 0 [vR 0] (cW τ κ) (.inl none) (cW (gopS τ) κ) := by
  refine Sp.of (lk := lkX5) (tb := bX5_goOnPlacing) (by decide) lkX5_ok tX5_goOnPlacing (cW_keys _ _ _ _) (Nat.le_of_ble_eq_true rfl) (fun G hR => ?_)
  refine hR.run0 3 (S' := (6, [some (vR 0)], [vI 6, vI (τ.1 2)], cW τ κ)) rfl ?_
  refine hR.br (C := τ.1 2 < 6) rfl (by (try dsimp only); omega) (fun c1 => ?_) (fun c1 => ?_)
  · skip
    refine hR.run0 4 (S' := (28, [some (vR 0)], [vI 3, vI (τ.1 2), vR 0], cW τ κ)) rfl ?_
    refine hR.br (C := 3 ≤ τ.1 2) rfl (by (try dsimp only); omega) (fun c2 => ?_) (fun c2 => ?_)
    · skip
      refine hR.run0 5 (S' := (47, [some (vR 0)], [], pset (cW τ κ) 0 (.inr (5, [vR 1, vR 10, vR 40, vR 50, vR 60, vR 70, vR 71, vI (τ.1 0), vI (5 - (τ.1 2)), vI (τ.1 2), vI (τ.1 3), vI (τ.1 4)])))) rfl ?_
      rw [cW_s1]
      exact hR.rt rfl trivial (by rfl) (by unfold gopS; (repeat' split) <;> first | rfl | (exfalso; omega))
    · skip
      refine hR.run0 4 (S' := (47, [some (vR 0)], [], pset (cW τ κ) 0 (.inr (5, [vR 1, vR 10, vR 40, vR 50, vR 60, vR 70, vR 71, vI (τ.1 0), vI (τ.1 2), vI (τ.1 2), vI (τ.1 3), vI (τ.1 4)])))) rfl ?_
      rw [cW_s1]
      exact hR.rt rfl trivial (by rfl) (by unfold gopS; (repeat' split) <;> first | rfl | (exfalso; omega))
  · skip
    refine hR.run0 3 (S' := (14, [some (vR 0)], [], pset (cW τ κ) 0 (.inr (5, [vR 1, vR 10, vR 40, vR 50, vR 60, vR 70, vR 71, vI (τ.1 0), vI 0, vI (τ.1 2), vI (τ.1 3), vI (τ.1 4)])))) rfl ?_
    rw [cW_s1]
    refine hR.run0 3 (S' := (19, [some (vR 0)], [], pset (cW (sS τ 1 0) κ) 0 (.inr (5, [vR 1, vR 10, vR 40, vR 50, vR 60, vR 70, vR 71, vI 1, vI ((sS τ 1 0).1 1), vI ((sS τ 1 0).1 2), vI ((sS τ 1 0).1 3), vI ((sS τ 1 0).1 4)])))) rfl ?_
    rw [cW_s0]
    refine hR.run0 1 (S' := (47, [some (vR 0)], [], cW (sS (sS τ 1 0) 0 1) κ)) rfl ?_
    exact hR.rt rfl trivial (by rfl) (by unfold gopS; (repeat' split) <;> first | rfl | (exfalso; omega))
theorem sp_canBuildRoad (τ κ : St) {e : Int} (he : 0 ≤ e ∧ e < 30) (hb : ∀ c, -1 ≤ τ.2.1 2 c ∧ τ.2.1 2 c ≤ 5) (hr : ∀ e, -1 ≤ τ.2.1 3 e ∧ τ.2.1 3 e ≤ 2) (htu : 0 ≤ τ.1 1 ∧ τ.1 1 < 3) : Sp mX5_canBuildRoad roC 5 [vR 0, vI e] (cW τ κ) (.inl (some (vI (bI (canR τ e))))) (cW τ κ) := by
  refine Sp.of (lk := lkX5) (tb := bX5_canBuildRoad) (by decide) lkX5_ok tX5_canBuildRoad (cW_keys _ _ _ _) (Nat.le_of_ble_eq_true rfl) (fun G hR => ?_)
  refine hR.run0 4 (S' := (8, [some (vR 0), some (vI e)], [vI (τ.1 1), vR 1], cW τ κ)) rfl ?_
  have f1 := cntN_r (τ.2.1 3) (τ.1 1) 30
  refine hR.cv [vI (τ.1 1)] kX5_330 rfl rfl ⟨_, _, _, rfl, rfl, rfl⟩ (by first | decide | exact Nat.le_refl _) (by decide) (Nat.le_of_ble_eq_true rfl) rfl (sp_countRoads _ _ (by omega) hr) ?_
  show G (11, [some (vR 0), some (vI e)], [vI (cntN (τ.2.1 3) (τ.1 1) 30)], cW τ κ)
  refine hR.run0 1 (S' := (13, [some (vR 0), some (vI e)], [vI 8, vI (cntN (τ.2.1 3) (τ.1 1) 30)], cW τ κ)) rfl ?_
  refine hR.br (C := 8 ≤ cntN (τ.2.1 3) (τ.1 1) 30) rfl (by (try dsimp only); omega) (fun c1 => ?_) (fun c1 => ?_)
  · skip
    refine hR.run0 1 (S' := (36, [some (vR 0), some (vI e)], [vI 0], cW τ κ)) rfl ?_
    exact hR.rt rfl (Or.inl rfl) (by rw [show bI (canR τ e) = 0 from by first | (exfalso; omega) | exact bIf (fun h => by simp only [canR, Bool.and_eq_true, Bool.or_eq_true, decide_eq_true_eq] at h; first | omega | (simp_all; done))]) (by rfl)
  · skip
    refine hR.run0 5 (S' := (25, [some (vR 0), some (vI e)], [vI (τ.1 1), vI e, vR 1], cW τ κ)) rfl ?_
    refine hR.cv [vI e, vI (τ.1 1)] kX5_333 rfl rfl ⟨_, _, _, rfl, rfl, rfl⟩ (by first | decide | exact Nat.le_refl _) (by decide) (Nat.le_of_ble_eq_true rfl) rfl (sp_canTakeRoad _ _ (by omega) (by omega) hb hr) ?_
    show G (28, [some (vR 0), some (vI e)], [vI (bI (roadC (τ.2.1 2) (τ.2.1 3) e (τ.1 1)))], cW τ κ)
    refine hR.br (C := bI (roadC (τ.2.1 2) (τ.2.1 3) e (τ.1 1)) = 0) rfl (bI_r _) (fun c2 => ?_) (fun c2 => ?_)
    · replace c2 : (roadC (τ.2.1 2) (τ.2.1 3) e (τ.1 1)) = false := bI0 c2
      refine hR.run0 1 (S' := (36, [some (vR 0), some (vI e)], [vI 0], cW τ κ)) rfl ?_
      exact hR.rt rfl (Or.inl rfl) (by rw [show bI (canR τ e) = 0 from by first | (exfalso; omega) | exact bIf (fun h => by simp only [canR, Bool.and_eq_true, Bool.or_eq_true, decide_eq_true_eq] at h; first | omega | (simp_all; done))]) (by rfl)
    · replace c2 : (roadC (τ.2.1 2) (τ.2.1 3) e (τ.1 1)) = true := bI1 c2
      refine hR.run0 2 (S' := (36, [some (vR 0), some (vI e)], [vI 1], cW τ κ)) rfl ?_
      exact hR.rt rfl (Or.inr rfl) (by rw [show bI (canR τ e) = 1 from by first | (exfalso; omega) | exact bIt (by simp only [canR, Bool.and_eq_true, Bool.or_eq_true, decide_eq_true_eq]; first | omega | (simp_all; done))]) (by rfl)
theorem sp_canBeRobbed (τ κ : St) {p h : Int} (hp : 0 ≤ p ∧ p < 3) (hhx : 0 ≤ h ∧ h < 7) (hb : ∀ c, -1 ≤ τ.2.1 2 c ∧ τ.2.1 2 c ≤ 5) (hh : ∀ p g, 0 ≤ τ.2.2 0 p g ∧ τ.2.2 0 p g ≤ 12) (htu : 0 ≤ τ.1 1 ∧ τ.1 1 < 3) : Sp mX5_canBeRobbed roC 3 [vR 0, vI p, vI h] (cW τ κ) (.inl (some (vI (bI (canB τ p h))))) (cW τ κ) := by
  refine Sp.of (lk := lkX5) (tb := bX5_canBeRobbed) (by decide) lkX5_ok tX5_canBeRobbed (cW_keys _ _ _ _) (Nat.le_of_ble_eq_true rfl) (fun G hR => ?_)
  refine hR.run0 3 (S' := (5, [some (vR 0), some (vI p), some (vI h)], [vI (τ.1 1), vI p], cW τ κ)) rfl ?_
  refine hR.br (C := p = τ.1 1) rfl (by (try dsimp only); omega) (fun c1 => ?_) (fun c1 => ?_)
  · skip
    refine hR.run0 1 (S' := (36, [some (vR 0), some (vI p), some (vI h)], [vI 0], cW τ κ)) rfl ?_
    exact hR.rt rfl (Or.inl rfl) (by rw [show bI (canB τ p h) = 0 from by first | (exfalso; omega) | exact bIf (fun h => by simp only [canB, Bool.and_eq_true, Bool.or_eq_true, decide_eq_true_eq] at h; first | omega | (simp_all; done))]) (by rfl)
  · skip
    refine hR.run0 4 (S' := (14, [some (vR 0), some (vI p), some (vI h)], [vI h, vI p, vR 1], cW τ κ)) rfl ?_
    have f1 := wt_r (τ.2.1 2) p h
    refine hR.cv [vI p, vI h] kX5_327 rfl rfl ⟨_, _, _, rfl, rfl, rfl⟩ (by first | decide | exact Nat.le_refl _) (by decide) (Nat.le_of_ble_eq_true rfl) rfl (sp_weightAround _ _ (by omega) (by omega) hb) ?_
    show G (17, [some (vR 0), some (vI p), some (vI h)], [vI (wt (τ.2.1 2) p h)], cW τ κ)
    refine hR.br (C := wt (τ.2.1 2) p h ≤ 0) rfl (by (try dsimp only); omega) (fun c2 => ?_) (fun c2 => ?_)
    · skip
      refine hR.run0 1 (S' := (36, [some (vR 0), some (vI p), some (vI h)], [vI 0], cW τ κ)) rfl ?_
      exact hR.rt rfl (Or.inl rfl) (by rw [show bI (canB τ p h) = 0 from by first | (exfalso; omega) | exact bIf (fun h => by simp only [canB, Bool.and_eq_true, Bool.or_eq_true, decide_eq_true_eq] at h; first | omega | (simp_all; done))]) (by rfl)
    · skip
      refine hR.run0 3 (S' := (25, [some (vR 0), some (vI p), some (vI h)], [vI p, vR 10], cW τ κ)) rfl ?_
      have f2 := tot_r hh p
      refine hR.cv [vI p] kX5_138 rfl rfl ⟨_, _, _, rfl, rfl, rfl⟩ (by first | decide | exact Nat.le_refl _) (by decide) (Nat.le_of_ble_eq_true rfl) rfl (sp_total _ _ (by omega) hh) ?_
      show G (28, [some (vR 0), some (vI p), some (vI h)], [vI (tot (τ.2.2 0) p)], cW τ κ)
      refine hR.br (C := tot (τ.2.2 0) p ≤ 0) rfl (by (try dsimp only); omega) (fun c3 => ?_) (fun c3 => ?_)
      · skip
        refine hR.run0 1 (S' := (36, [some (vR 0), some (vI p), some (vI h)], [vI 0], cW τ κ)) rfl ?_
        exact hR.rt rfl (Or.inl rfl) (by rw [show bI (canB τ p h) = 0 from by first | (exfalso; omega) | exact bIf (fun h => by simp only [canB, Bool.and_eq_true, Bool.or_eq_true, decide_eq_true_eq] at h; first | omega | (simp_all; done))]) (by rfl)
      · skip
        refine hR.run0 2 (S' := (36, [some (vR 0), some (vI p), some (vI h)], [vI 1], cW τ κ)) rfl ?_
        exact hR.rt rfl (Or.inr rfl) (by rw [show bI (canB τ p h) = 1 from by first | (exfalso; omega) | exact bIt (by simp only [canB, Bool.and_eq_true, Bool.or_eq_true, decide_eq_true_eq]; first | omega | (simp_all; done))]) (by rfl)
theorem sp_rMayn_ok (τ κ : St) {h : Int} (hhx : 0 ≤ h ∧ h < 7) (hb : ∀ c, -1 ≤ τ.2.1 2 c ∧ τ.2.1 2 c ≤ 5) (hh : ∀ p g, 0 ≤ τ.2.2 0 p g ∧ τ.2.2 0 p g ≤ 12) (htu : 0 ≤ τ.1 1 ∧ τ.1 1 < 3) (hrb : 0 ≤ τ.1 5 ∧ τ.1 5 < 7) (hcnd : mayR τ h (-1) = true) : Sp mX5_requireRobberMay roC 4 [vR 0, vI h, vI (-1)] (cW τ κ) (.inl none) (cW τ κ) := by
  refine Sp.of (lk := lkX5) (tb := bX5_requireRobberMay) (by decide) lkX5_ok tX5_requireRobberMay (cW_keys _ _ _ _) (Nat.le_of_ble_eq_true rfl) (fun G hR => ?_)
  refine hR.run0 3 (S' := (5, [some (vR 0), some (vI h), some (vI (-1)), none], [vR 1, vI h], cW τ κ)) rfl ?_
  refine hR.cv [] kX5_285 rfl rfl ⟨_, _, _, rfl, rfl, rfl⟩ (by first | decide | exact Nat.le_refl _) (by decide) (Nat.le_of_ble_eq_true rfl) rfl (sp_robberHex _ _) ?_
  show G (8, [some (vR 0), some (vI h), some (vI (-1)), none], [vI (τ.1 5), vI h], cW τ κ)
  refine hR.br (C := h = τ.1 5) rfl (by (try dsimp only); omega) (fun c1 => ?_) (fun c1 => ?_)
  · skip
    refine hR.run0 1 (S' := (16, [some (vR 0), some (vI h), some (vI (-1)), none], [vI 0], cW τ κ)) rfl ?_
    exfalso; first | omega | (simp_all [mayR]; done) | (simp_all [mayR]; omega)
  · skip
    refine hR.run0 2 (S' := (16, [some (vR 0), some (vI h), some (vI (-1)), none], [vI 1], cW τ κ)) rfl ?_
    refine hR.cs [vI 1] kX5_81 rfl rfl (by first | decide | exact Nat.le_refl _) (by decide) (Nat.le_of_ble_eq_true rfl) rfl (sp_rSo_ok _ (Or.inr rfl) rfl) ?_
    show G (19, [some (vR 0), some (vI h), some (vI (-1)), none], [], cW τ κ)
    refine hR.run0 2 (S' := (21, [some (vR 0), some (vI h), some (vI (-1)), none], [vI (-1), vI (-1)], cW τ κ)) rfl ?_
    refine hR.br (C := (-1) ≠ (-1)) rfl (by (try dsimp only); omega) (fun c2 => ?_) (fun c2 => ?_)
    · exfalso; first | omega | (simp_all [mayR]; done) | (simp_all [mayR]; omega)
    refine hR.run0 4 (S' := (28, [some (vR 0), some (vI h), some (vI (-1)), some (vI 0)], [vI 3, vI 0], cW τ κ)) rfl ?_
    refine hR.br (C := 3 ≤ 0) rfl (by (try dsimp only); omega) (fun c3 => ?_) (fun c3 => ?_)
    · exfalso; first | omega | (simp_all [mayR]; done) | (simp_all [mayR]; omega)
    refine hR.run0 3 (S' := (34, [some (vR 0), some (vI h), some (vI (-1)), some (vI 0)], [vI h, vI 0, vR 0], cW τ κ)) rfl ?_
    refine hR.cv [vI 0, vI h] kX5_324 rfl rfl ⟨_, _, _, rfl, rfl, rfl⟩ (by first | decide | exact Nat.le_refl _) (by decide) (Nat.le_of_ble_eq_true rfl) rfl (sp_canBeRobbed _ _ (by omega) (by omega) hb hh htu) ?_
    show G (37, [some (vR 0), some (vI h), some (vI (-1)), some (vI 0)], [vI (bI (canB τ 0 h))], cW τ κ)
    refine hR.br (C := bI (canB τ 0 h) ≠ 0) rfl (bI_r _) (fun c4 => ?_) (fun c4 => ?_)
    · replace c4 : (canB τ 0 h) = true := bI1 c4
      refine hR.run0 1 (S' := (45, [some (vR 0), some (vI h), some (vI (-1)), some (vI 0)], [vI 0], cW τ κ)) rfl ?_
      exfalso; first | omega | (simp_all [mayR]; done) | (simp_all [mayR]; omega)
    · replace c4 : (canB τ 0 h) = false := bI0 (Classical.not_not.mp c4)
      refine hR.run0 2 (S' := (45, [some (vR 0), some (vI h), some (vI (-1)), some (vI 0)], [vI 1], cW τ κ)) rfl ?_
      refine hR.cs [vI 1] kX5_81 rfl rfl (by first | decide | exact Nat.le_refl _) (by decide) (Nat.le_of_ble_eq_true rfl) rfl (sp_rSo_ok _ (Or.inr rfl) rfl) ?_
      show G (48, [some (vR 0), some (vI h), some (vI (-1)), some (vI 0)], [], cW τ κ)
      refine hR.run0 4 (S' := (28, [some (vR 0), some (vI h), some (vI (-1)), some (vI 1)], [vI 3, vI 1], cW τ κ)) rfl ?_
      refine hR.br (C := 3 ≤ 1) rfl (by (try dsimp only); omega) (fun c5 => ?_) (fun c5 => ?_)
      · exfalso; first | omega | (simp_all [mayR]; done) | (simp_all [mayR]; omega)
      refine hR.run0 3 (S' := (34, [some (vR 0), some (vI h), some (vI (-1)), some (vI 1)], [vI h, vI 1, vR 0], cW τ κ)) rfl ?_
      refine hR.cv [vI 1, vI h] kX5_324 rfl rfl ⟨_, _, _, rfl, rfl, rfl⟩ (by first | decide | exact Nat.le_refl _) (by decide) (Nat.le_of_ble_eq_true rfl) rfl (sp_canBeRobbed _ _ (by omega) (by omega) hb hh htu) ?_
      show G (37, [some (vR 0), some (vI h), some (vI (-1)), some (vI 1)], [vI (bI (canB τ 1 h))], cW τ κ)
      refine hR.br (C := bI (canB τ 1 h) ≠ 0) rfl (bI_r _) (fun c6 => ?_) (fun c6 => ?_)
      · replace c6 : (canB τ 1 h) = true := bI1 c6
        refine hR.run0 1 (S' := (45, [some (vR 0), some (vI h), some (vI (-1)), some (vI 1)], [vI 0], cW τ κ)) rfl ?_
        exfalso; first | omega | (simp_all [mayR]; done) | (simp_all [mayR]; omega)
      · replace c6 : (canB τ 1 h) = false := bI0 (Classical.not_not.mp c6)
        refine hR.run0 2 (S' := (45, [some (vR 0), some (vI h), some (vI (-1)), some (vI 1)], [vI 1], cW τ κ)) rfl ?_
        refine hR.cs [vI 1] kX5_81 rfl rfl (by first | decide | exact Nat.le_refl _) (by decide) (Nat.le_of_ble_eq_true rfl) rfl (sp_rSo_ok _ (Or.inr rfl) rfl) ?_
        show G (48, [some (vR 0), some (vI h), some (vI (-1)), some (vI 1)], [], cW τ κ)
        refine hR.run0 4 (S' := (28, [some (vR 0), some (vI h), some (vI (-1)), some (vI 2)], [vI 3, vI 2], cW τ κ)) rfl ?_
        refine hR.br (C := 3 ≤ 2) rfl (by (try dsimp only); omega) (fun c7 => ?_) (fun c7 => ?_)
        · exfalso; first | omega | (simp_all [mayR]; done) | (simp_all [mayR]; omega)
        refine hR.run0 3 (S' := (34, [some (vR 0), some (vI h), some (vI (-1)), some (vI 2)], [vI h, vI 2, vR 0], cW τ κ)) rfl ?_
        refine hR.cv [vI 2, vI h] kX5_324 rfl rfl ⟨_, _, _, rfl, rfl, rfl⟩ (by first | decide | exact Nat.le_refl _) (by decide) (Nat.le_of_ble_eq_true rfl) rfl (sp_canBeRobbed _ _ (by omega) (by omega) hb hh htu) ?_
        show G (37, [some (vR 0), some (vI h), some (vI (-1)), some (vI 2)], [vI (bI (canB τ 2 h))], cW τ κ)
        refine hR.br (C := bI (canB τ 2 h) ≠ 0) rfl (bI_r _) (fun c8 => ?_) (fun c8 => ?_)
        · replace c8 : (canB τ 2 h) = true := bI1 c8
          refine hR.run0 1 (S' := (45, [some (vR 0), some (vI h), some (vI (-1)), some (vI 2)], [vI 0], cW τ κ)) rfl ?_
          exfalso; first | omega | (simp_all [mayR]; done) | (simp_all [mayR]; omega)
        · replace c8 : (canB τ 2 h) = false := bI0 (Classical.not_not.mp c8)
          refine hR.run0 2 (S' := (45, [some (vR 0), some (vI h), some (vI (-1)), some (vI 2)], [vI 1], cW τ κ)) rfl ?_
          refine hR.cs [vI 1] kX5_81 rfl rfl (by first | decide | exact Nat.le_refl _) (by decide) (Nat.le_of_ble_eq_true rfl) rfl (sp_rSo_ok _ (Or.inr rfl) rfl) ?_
          show G (48, [some (vR 0), some (vI h), some (vI (-1)), some (vI 2)], [], cW τ κ)
          refine hR.run0 4 (S' := (28, [some (vR 0), some (vI h), some (vI (-1)), some (vI 3)], [vI 3, vI 3], cW τ κ)) rfl ?_
          refine hR.br (C := 3 ≤ 3) rfl (by (try dsimp only); omega) (fun c9 => ?_) (fun c9 => ?_)
          · skip
            refine hR.run0 1 (S' := (66, [some (vR 0), some (vI h), some (vI (-1)), some (vI 3)], [], cW τ κ)) rfl ?_
            exact hR.rt rfl trivial (by rfl) (by rfl)
          · exfalso; first | omega | (simp_all [mayR]; done) | (simp_all [mayR]; omega)
theorem sp_rMayn_x (τ κ : St) {h : Int} (hhx : 0 ≤ h ∧ h < 7) (hb : ∀ c, -1 ≤ τ.2.1 2 c ∧ τ.2.1 2 c ≤ 5) (hh : ∀ p g, 0 ≤ τ.2.2 0 p g ∧ τ.2.2 0 p g ≤ 12) (htu : 0 ≤ τ.1 1 ∧ τ.1 1 < 3) (hrb : 0 ≤ τ.1 5 ∧ τ.1 5 < 7) (hcnd : ¬ (mayR τ h (-1) = true)) : Sp mX5_requireRobberMay roC 4 [vR 0, vI h, vI (-1)] (cW τ κ) (.inr xS) (cW τ κ) := by
  refine Sp.of (lk := lkX5) (tb := bX5_requireRobberMay) (by decide) lkX5_ok tX5_requireRobberMay (cW_keys _ _ _ _) (Nat.le_of_ble_eq_true rfl) (fun G hR => ?_)
  refine hR.run0 3 (S' := (5, [some (vR 0), some (vI h), some (vI (-1)), none], [vR 1, vI h], cW τ κ)) rfl ?_
  refine hR.cv [] kX5_285 rfl rfl ⟨_, _, _, rfl, rfl, rfl⟩ (by first | decide | exact Nat.le_refl _) (by decide) (Nat.le_of_ble_eq_true rfl) rfl (sp_robberHex _ _) ?_
  show G (8, [some (vR 0), some (vI h), some (vI (-1)), none], [vI (τ.1 5), vI h], cW τ κ)
  refine hR.br (C := h = τ.1 5) rfl (by (try dsimp only); omega) (fun c1 => ?_) (fun c1 => ?_)
  · skip
    refine hR.run0 1 (S' := (16, [some (vR 0), some (vI h), some (vI (-1)), none], [vI 0], cW τ κ)) rfl ?_
    exact hR.csx [vI 0] kX5_81 rfl rfl (by decide) (by decide) (Nat.le_of_ble_eq_true rfl) rfl (sp_rSo_x _ (Or.inl rfl) (by decide)) (rfl) (rfl)
  · skip
    refine hR.run0 2 (S' := (16, [some (vR 0), some (vI h), some (vI (-1)), none], [vI 1], cW τ κ)) rfl ?_
    refine hR.cs [vI 1] kX5_81 rfl rfl (by first | decide | exact Nat.le_refl _) (by decide) (Nat.le_of_ble_eq_true rfl) rfl (sp_rSo_ok _ (Or.inr rfl) rfl) ?_
    show G (19, [some (vR 0), some (vI h), some (vI (-1)), none], [], cW τ κ)
    refine hR.run0 2 (S' := (21, [some (vR 0), some (vI h), some (vI (-1)), none], [vI (-1), vI (-1)], cW τ κ)) rfl ?_
    refine hR.br (C := (-1) ≠ (-1)) rfl (by (try dsimp only); omega) (fun c2 => ?_) (fun c2 => ?_)
    · exfalso; first | omega | (simp_all [mayR]; done) | (simp_all [mayR]; omega)
    refine hR.run0 4 (S' := (28, [some (vR 0), some (vI h), some (vI (-1)), some (vI 0)], [vI 3, vI 0], cW τ κ)) rfl ?_
    refine hR.br (C := 3 ≤ 0) rfl (by (try dsimp only); omega) (fun c3 => ?_) (fun c3 => ?_)
    · exfalso; first | omega | (simp_all [mayR]; done) | (simp_all [mayR]; omega)
    refine hR.run0 3 (S' := (34, [some (vR 0), some (vI h), some (vI (-1)), some (vI 0)], [vI h, vI 0, vR 0], cW τ κ)) rfl ?_
    refine hR.cv [vI 0, vI h] kX5_324 rfl rfl ⟨_, _, _, rfl, rfl, rfl⟩ (by first | decide | exact Nat.le_refl _) (by decide) (Nat.le_of_ble_eq_true rfl) rfl (sp_canBeRobbed _ _ (by omega) (by omega) hb hh htu) ?_
    show G (37, [some (vR 0), some (vI h), some (vI (-1)), some (vI 0)], [vI (bI (canB τ 0 h))], cW τ κ)
    refine hR.br (C := bI (canB τ 0 h) ≠ 0) rfl (bI_r _) (fun c4 => ?_) (fun c4 => ?_)
    · replace c4 : (canB τ 0 h) = true := bI1 c4
      refine hR.run0 1 (S' := (45, [some (vR 0), some (vI h), some (vI (-1)), some (vI 0)], [vI 0], cW τ κ)) rfl ?_
      exact hR.csx [vI 0] kX5_81 rfl rfl (by decide) (by decide) (Nat.le_of_ble_eq_true rfl) rfl (sp_rSo_x _ (Or.inl rfl) (by decide)) (rfl) (rfl)
    · replace c4 : (canB τ 0 h) = false := bI0 (Classical.not_not.mp c4)
      refine hR.run0 2 (S' := (45, [some (vR 0), some (vI h), some (vI (-1)), some (vI 0)], [vI 1], cW τ κ)) rfl ?_
      refine hR.cs [vI 1] kX5_81 rfl rfl (by first | decide | exact Nat.le_refl _) (by decide) (Nat.le_of_ble_eq_true rfl) rfl (sp_rSo_ok _ (Or.inr rfl) rfl) ?_
      show G (48, [some (vR 0), some (vI h), some (vI (-1)), some (vI 0)], [], cW τ κ)
      refine hR.run0 4 (S' := (28, [some (vR 0), some (vI h), some (vI (-1)), some (vI 1)], [vI 3, vI 1], cW τ κ)) rfl ?_
      refine hR.br (C := 3 ≤ 1) rfl (by (try dsimp only); omega) (fun c5 => ?_) (fun c5 => ?_)
      · exfalso; first | omega | (simp_all [mayR]; done) | (simp_all [mayR]; omega)
      refine hR.run0 3 (S' := (34, [some (vR 0), some (vI h), some (vI (-1)), some (vI 1)], [vI h, vI 1, vR 0], cW τ κ)) rfl ?_
      refine hR.cv [vI 1, vI h] kX5_324 rfl rfl ⟨_, _, _, rfl, rfl, rfl⟩ (by first | decide | exact Nat.le_refl _) (by decide) (Nat.le_of_ble_eq_true rfl) rfl (sp_canBeRobbed _ _ (by omega) (by omega) hb hh htu) ?_
      show G (37, [some (vR 0), some (vI h), some (vI (-1)), some (vI 1)], [vI (bI (canB τ 1 h))], cW τ κ)
      refine hR.br (C := bI (canB τ 1 h) ≠ 0) rfl (bI_r _) (fun c6 => ?_) (fun c6 => ?_)
      · replace c6 : (canB τ 1 h) = true := bI1 c6
        refine hR.run0 1 (S' := (45, [some (vR 0), some (vI h), some (vI (-1)), some (vI 1)], [vI 0], cW τ κ)) rfl ?_
        exact hR.csx [vI 0] kX5_81 rfl rfl (by decide) (by decide) (Nat.le_of_ble_eq_true rfl) rfl (sp_rSo_x _ (Or.inl rfl) (by decide)) (rfl) (rfl)
      · replace c6 : (canB τ 1 h) = false := bI0 (Classical.not_not.mp c6)
        refine hR.run0 2 (S' := (45, [some (vR 0), some (vI h), some (vI (-1)), some (vI 1)], [vI 1], cW τ κ)) rfl ?_
        refine hR.cs [vI 1] kX5_81 rfl rfl (by first | decide | exact Nat.le_refl _) (by decide) (Nat.le_of_ble_eq_true rfl) rfl (sp_rSo_ok _ (Or.inr rfl) rfl) ?_
        show G (48, [some (vR 0), some (vI h), some (vI (-1)), some (vI 1)], [], cW τ κ)
        refine hR.run0 4 (S' := (28, [some (vR 0), some (vI h), some (vI (-1)), some (vI 2)], [vI 3, vI 2], cW τ κ)) rfl ?_
        refine hR.br (C := 3 ≤ 2) rfl (by (try dsimp only); omega) (fun c7 => ?_) (fun c7 => ?_)
        · exfalso; first | omega | (simp_all [mayR]; done) | (simp_all [mayR]; omega)
        refine hR.run0 3 (S' := (34, [some (vR 0), some (vI h), some (vI (-1)), some (vI 2)], [vI h, vI 2, vR 0], cW τ κ)) rfl ?_
        refine hR.cv [vI 2, vI h] kX5_324 rfl rfl ⟨_, _, _, rfl, rfl, rfl⟩ (by first | decide | exact Nat.le_refl _) (by decide) (Nat.le_of_ble_eq_true rfl) rfl (sp_canBeRobbed _ _ (by omega) (by omega) hb hh htu) ?_
        show G (37, [some (vR 0), some (vI h), some (vI (-1)), some (vI 2)], [vI (bI (canB τ 2 h))], cW τ κ)
        refine hR.br (C := bI (canB τ 2 h) ≠ 0) rfl (bI_r _) (fun c8 => ?_) (fun c8 => ?_)
        · replace c8 : (canB τ 2 h) = true := bI1 c8
          refine hR.run0 1 (S' := (45, [some (vR 0), some (vI h), some (vI (-1)), some (vI 2)], [vI 0], cW τ κ)) rfl ?_
          exact hR.csx [vI 0] kX5_81 rfl rfl (by decide) (by decide) (Nat.le_of_ble_eq_true rfl) rfl (sp_rSo_x _ (Or.inl rfl) (by decide)) (rfl) (rfl)
        · replace c8 : (canB τ 2 h) = false := bI0 (Classical.not_not.mp c8)
          refine hR.run0 2 (S' := (45, [some (vR 0), some (vI h), some (vI (-1)), some (vI 2)], [vI 1], cW τ κ)) rfl ?_
          refine hR.cs [vI 1] kX5_81 rfl rfl (by first | decide | exact Nat.le_refl _) (by decide) (Nat.le_of_ble_eq_true rfl) rfl (sp_rSo_ok _ (Or.inr rfl) rfl) ?_
          show G (48, [some (vR 0), some (vI h), some (vI (-1)), some (vI 2)], [], cW τ κ)
          refine hR.run0 4 (S' := (28, [some (vR 0), some (vI h), some (vI (-1)), some (vI 3)], [vI 3, vI 3], cW τ κ)) rfl ?_
          refine hR.br (C := 3 ≤ 3) rfl (by (try dsimp only); omega) (fun c9 => ?_) (fun c9 => ?_)
          · skip
            refine hR.run0 1 (S' := (66, [some (vR 0), some (vI h), some (vI (-1)), some (vI 3)], [], cW τ κ)) rfl ?_
            exfalso; first | omega | (simp_all [mayR]; done) | (simp_all [mayR]; omega)
          · exfalso; first | omega | (simp_all [mayR]; done) | (simp_all [mayR]; omega)
theorem sp_rMayv_ok (τ κ : St) {v : Int} (hv : 0 ≤ v ∧ v < 3) {h : Int} (hhx : 0 ≤ h ∧ h < 7) (hb : ∀ c, -1 ≤ τ.2.1 2 c ∧ τ.2.1 2 c ≤ 5) (hh : ∀ p g, 0 ≤ τ.2.2 0 p g ∧ τ.2.2 0 p g ≤ 12) (htu : 0 ≤ τ.1 1 ∧ τ.1 1 < 3) (hrb : 0 ≤ τ.1 5 ∧ τ.1 5 < 7) (hcnd : mayR τ h v = true) : Sp mX5_requireRobberMay roC 4 [vR 0, vI h, vI v] (cW τ κ) (.inl none) (cW τ κ) := by
  refine Sp.of (lk := lkX5) (tb := bX5_requireRobberMay) (by decide) lkX5_ok tX5_requireRobberMay (cW_keys _ _ _ _) (Nat.le_of_ble_eq_true rfl) (fun G hR => ?_)
  refine hR.run0 3 (S' := (5, [some (vR 0), some (vI h), some (vI v), none], [vR 1, vI h], cW τ κ)) rfl ?_
  refine hR.cv [] kX5_285 rfl rfl ⟨_, _, _, rfl, rfl, rfl⟩ (by first | decide | exact Nat.le_refl _) (by decide) (Nat.le_of_ble_eq_true rfl) rfl (sp_robberHex _ _) ?_
  show G (8, [some (vR 0), some (vI h), some (vI v), none], [vI (τ.1 5), vI h], cW τ κ)
  refine hR.br (C := h = τ.1 5) rfl (by (try dsimp only); omega) (fun c1 => ?_) (fun c1 => ?_)
  · skip
    refine hR.run0 1 (S' := (16, [some (vR 0), some (vI h), some (vI v), none], [vI 0], cW τ κ)) rfl ?_
    exfalso; first | omega | (simp_all [mayR]; done) | (simp_all [mayR]; omega)
  · skip
    refine hR.run0 2 (S' := (16, [some (vR 0), some (vI h), some (vI v), none], [vI 1], cW τ κ)) rfl ?_
    refine hR.cs [vI 1] kX5_81 rfl rfl (by first | decide | exact Nat.le_refl _) (by decide) (Nat.le_of_ble_eq_true rfl) rfl (sp_rSo_ok _ (Or.inr rfl) rfl) ?_
    show G (19, [some (vR 0), some (vI h), some (vI v), none], [], cW τ κ)
    refine hR.run0 2 (S' := (21, [some (vR 0), some (vI h), some (vI v), none], [vI (-1), vI v], cW τ κ)) rfl ?_
    refine hR.br (C := v ≠ (-1)) rfl (by (try dsimp only); omega) (fun c2 => ?_) (fun c2 => ?_)
    · skip
      refine hR.run0 3 (S' := (60, [some (vR 0), some (vI h), some (vI v), none], [vI h, vI v, vR 0], cW τ κ)) rfl ?_
      refine hR.cv [vI v, vI h] kX5_324 rfl rfl ⟨_, _, _, rfl, rfl, rfl⟩ (by first | decide | exact Nat.le_refl _) (by decide) (Nat.le_of_ble_eq_true rfl) rfl (sp_canBeRobbed _ _ (by omega) (by omega) hb hh htu) ?_
      show G (63, [some (vR 0), some (vI h), some (vI v), none], [vI (bI (canB τ v h))], cW τ κ)
      by_cases hb_q3 : (canB τ v h) = true
      · skip
        refine hR.cs [vI (bI (canB τ v h))] kX5_81 rfl rfl (by first | decide | exact Nat.le_refl _) (by decide) (Nat.le_of_ble_eq_true rfl) rfl (sp_rSob_ok _ hb_q3) ?_
        show G (66, [some (vR 0), some (vI h), some (vI v), none], [], cW τ κ)
        exact hR.rt rfl trivial (by rfl) (by rfl)
      · replace hb_q3 := Bool.eq_false_iff.mpr hb_q3
        exfalso; first | omega | (simp_all [mayR]; done) | (simp_all [mayR]; omega)
    · exfalso; first | omega | (simp_all [mayR]; done) | (simp_all [mayR]; omega)
theorem sp_rMayv_x (τ κ : St) {v : Int} (hv : 0 ≤ v ∧ v < 3) {h : Int} (hhx : 0 ≤ h ∧ h < 7) (hb : ∀ c, -1 ≤ τ.2.1 2 c ∧ τ.2.1 2 c ≤ 5) (hh : ∀ p g, 0 ≤ τ.2.2 0 p g ∧ τ.2.2 0 p g ≤ 12) (htu : 0 ≤ τ.1 1 ∧ τ.1 1 < 3) (hrb : 0 ≤ τ.1 5 ∧ τ.1 5 < 7) (hcnd : ¬ (mayR τ h v = true)) : Sp mX5_requireRobberMay roC 4 [vR 0, vI h, vI v] (cW τ κ) (.inr xS) (cW τ κ) := by
  refine Sp.of (lk := lkX5) (tb := bX5_requireRobberMay) (by decide) lkX5_ok tX5_requireRobberMay (cW_keys _ _ _ _) (Nat.le_of_ble_eq_true rfl) (fun G hR => ?_)
  refine hR.run0 3 (S' := (5, [some (vR 0), some (vI h), some (vI v), none], [vR 1, vI h], cW τ κ)) rfl ?_
  refine hR.cv [] kX5_285 rfl rfl ⟨_, _, _, rfl, rfl, rfl⟩ (by first | decide | exact Nat.le_refl _) (by decide) (Nat.le_of_ble_eq_true rfl) rfl (sp_robberHex _ _) ?_
  show G (8, [some (vR 0), some (vI h), some (vI v), none], [vI (τ.1 5), vI h], cW τ κ)
  refine hR.br (C := h = τ.1 5) rfl (by (try dsimp only); omega) (fun c1 => ?_) (fun c1 => ?_)
  · skip
    refine hR.run0 1 (S' := (16, [some (vR 0), some (vI h), some (vI v), none], [vI 0], cW τ κ)) rfl ?_
    exact hR.csx [vI 0] kX5_81 rfl rfl (by decide) (by decide) (Nat.le_of_ble_eq_true rfl) rfl (sp_rSo_x _ (Or.inl rfl) (by decide)) (rfl) (rfl)
  · skip
    refine hR.run0 2 (S' := (16, [some (vR 0), some (vI h), some (vI v), none], [vI 1], cW τ κ)) rfl ?_
    refine hR.cs [vI 1] kX5_81 rfl rfl (by first | decide | exact Nat.le_refl _) (by decide) (Nat.le_of_ble_eq_true rfl) rfl (sp_rSo_ok _ (Or.inr rfl) rfl) ?_
    show G (19, [some (vR 0), some (vI h), some (vI v), none], [], cW τ κ)
    refine hR.run0 2 (S' := (21, [some (vR 0), some (vI h), some (vI v), none], [vI (-1), vI v], cW τ κ)) rfl ?_
    refine hR.br (C := v ≠ (-1)) rfl (by (try dsimp only); omega) (fun c2 => ?_) (fun c2 => ?_)
    · skip
      refine hR.run0 3 (S' := (60, [some (vR 0), some (vI h), some (vI v), none], [vI h, vI v, vR 0], cW τ κ)) rfl ?_
      refine hR.cv [vI v, vI h] kX5_324 rfl rfl ⟨_, _, _, rfl, rfl, rfl⟩ (by first | decide | exact Nat.le_refl _) (by decide) (Nat.le_of_ble_eq_true rfl) rfl (sp_canBeRobbed _ _ (by omega) (by omega) hb hh htu) ?_
      show G (63, [some (vR 0), some (vI h), some (vI v), none], [vI (bI (canB τ v h))], cW τ κ)
      by_cases hb_q3 : (canB τ v h) = true
      · skip
        refine hR.cs [vI (bI (canB τ v h))] kX5_81 rfl rfl (by first | decide | exact Nat.le_refl _) (by decide) (Nat.le_of_ble_eq_true rfl) rfl (sp_rSob_ok _ hb_q3) ?_
        show G (66, [some (vR 0), some (vI h), some (vI v), none], [], cW τ κ)
        exfalso; first | omega | (simp_all [mayR]; done) | (simp_all [mayR]; omega)
      · replace hb_q3 := Bool.eq_false_iff.mpr hb_q3
        exact hR.csx [vI (bI (canB τ v h))] kX5_81 rfl rfl (by decide) (by decide) (Nat.le_of_ble_eq_true rfl) rfl (sp_rSob_x _ hb_q3) (rfl) (rfl)
    · exfalso; first | omega | (simp_all [mayR]; done) | (simp_all [mayR]; omega)
theorem sp_moveRobber (τ κ : St) {h v d : Int} (hv : 0 ≤ v ∧ v < 3) (hd : 0 ≤ d ∧ d ≤ 999) (hh : ∀ p g, 0 ≤ τ.2.2 0 p g ∧ τ.2.2 0 p g ≤ 12) (htu : 0 ≤ τ.1 1 ∧ τ.1 1 < 3) : Sp mX5_moveRobber roC 4 [vR 0, vI h, vI v, vI d] (cW τ κ) (.inl (some (vI (drw (τ.2.2 0) v d)))) (cW (robS τ h v d) (robK τ κ v d)) := by
  refine Sp.of (lk := lkX5) (tb := bX5_moveRobber) (by decide) lkX5_ok tX5_moveRobber (cW_keys _ _ _ _) (Nat.le_of_ble_eq_true rfl) (fun G hR => ?_)
  refine hR.run0 3 (S' := (5, [some (vR 0), some (vI h), some (vI v), some (vI d), none], [vI h, vR 1], cW τ κ)) rfl ?_
  refine hR.cv [vI h] kX5_348 rfl rfl ⟨_, _, _, rfl, rfl, rfl⟩ (by first | decide | exact Nat.le_refl _) (by decide) (Nat.le_of_ble_eq_true rfl) rfl (sp_putRobber _ _ _) ?_
  show G (8, [some (vR 0), some (vI h), some (vI v), some (vI d), none], [], cW (sS τ 5 h) κ)
  refine hR.run0 4 (S' := (14, [some (vR 0), some (vI h), some (vI v), some (vI d), none], [vI d, vI v, vR 10], cW (sS τ 5 h) κ)) rfl ?_
  have f1 := drw_r (τ.2.2 0) v d
  refine hR.cv [vI v, vI d] kX5_351 rfl rfl ⟨_, _, _, rfl, rfl, rfl⟩ (by first | decide | exact Nat.le_refl _) (by decide) (Nat.le_of_ble_eq_true rfl) rfl (sp_drawnGood _ _ (by omega) (by omega) hh) ?_
  show G (17, [some (vR 0), some (vI h), some (vI v), some (vI d), none], [vI (drw (τ.2.2 0) v d)], cW (sS τ 5 h) κ)
  refine hR.run0 3 (S' := (22, [some (vR 0), some (vI h), some (vI v), some (vI d), some (vI (drw (τ.2.2 0) v d))], [vI (-1), vI (drw (τ.2.2 0) v d)], cW (sS τ 5 h) κ)) rfl ?_
  refine hR.br (C := drw (τ.2.2 0) v d = (-1)) rfl (by (try dsimp only); omega) (fun c1 => ?_) (fun c1 => ?_)
  · skip
    refine hR.run0 1 (S' := (42, [some (vR 0), some (vI h), some (vI v), some (vI d), some (vI (drw (τ.2.2 0) v d))], [vI (drw (τ.2.2 0) v d)], cW (sS τ 5 h) κ)) rfl ?_
    exact hR.rt rfl trivial rfl (by unfold robS robK; (repeat' split) <;> first | rfl | (exfalso; omega) | (exfalso; simp_all; done))
  · skip
    refine hR.run0 7 (S' := (37, [some (vR 0), some (vI h), some (vI v), some (vI d), some (vI (drw (τ.2.2 0) v d))], [vI 1, vI (drw (τ.2.2 0) v d), vI (τ.1 1), vI v, vR 10], cW (sS τ 5 h) κ)) rfl ?_
    refine hR.cv [vI v, vI (τ.1 1), vI (drw (τ.2.2 0) v d), vI 1] kX5_221 rfl rfl ⟨_, _, _, rfl, rfl, rfl⟩ (by first | decide | exact Nat.le_refl _) (by decide) (Nat.le_of_ble_eq_true rfl) rfl (sp_move _ _ _ (by omega) (by omega) (by omega)) ?_
    show G (40, [some (vR 0), some (vI h), some (vI v), some (vI d), some (vI (drw (τ.2.2 0) v d))], [], cW (mvS (sS τ 5 h) v (τ.1 1) (drw (τ.2.2 0) v d) 1) (mvK κ v (τ.1 1) (drw (τ.2.2 0) v d) 1))
    refine hR.run0 1 (S' := (42, [some (vR 0), some (vI h), some (vI v), some (vI d), some (vI (drw (τ.2.2 0) v d))], [vI (drw (τ.2.2 0) v d)], cW (mvS (sS τ 5 h) v (τ.1 1) (drw (τ.2.2 0) v d) 1) (mvK κ v (τ.1 1) (drw (τ.2.2 0) v d) 1))) rfl ?_
    exact hR.rt rfl trivial rfl (by unfold robS robK; (repeat' split) <;> first | rfl | (exfalso; omega) | (exfalso; simp_all; done))
theorem sp_moveRobberN (τ κ : St) {h d : Int} (hd : 0 ≤ d ∧ d ≤ 999) (htu : 0 ≤ τ.1 1 ∧ τ.1 1 < 3) : Sp mX5_moveRobber roC 4 [vR 0, vI h, vI (-1), vI d] (cW τ κ) (.inl (some (vI (-1)))) (cW (sS τ 5 h) κ) := by
  refine Sp.of (lk := lkX5) (tb := bX5_moveRobber) (by decide) lkX5_ok tX5_moveRobber (cW_keys _ _ _ _) (Nat.le_of_ble_eq_true rfl) (fun G hR => ?_)
  refine hR.run0 3 (S' := (5, [some (vR 0), some (vI h), some (vI (-1)), some (vI d), none], [vI h, vR 1], cW τ κ)) rfl ?_
  refine hR.cv [vI h] kX5_348 rfl rfl ⟨_, _, _, rfl, rfl, rfl⟩ (by first | decide | exact Nat.le_refl _) (by decide) (Nat.le_of_ble_eq_true rfl) rfl (sp_putRobber _ _ _) ?_
  show G (8, [some (vR 0), some (vI h), some (vI (-1)), some (vI d), none], [], cW (sS τ 5 h) κ)
  refine hR.run0 4 (S' := (14, [some (vR 0), some (vI h), some (vI (-1)), some (vI d), none], [vI d, vI (-1), vR 10], cW (sS τ 5 h) κ)) rfl ?_
  refine hR.cv [vI (-1), vI d] kX5_351 rfl rfl ⟨_, _, _, rfl, rfl, rfl⟩ (by first | decide | exact Nat.le_refl _) (by decide) (Nat.le_of_ble_eq_true rfl) rfl (sp_drawnN _ _ _ (by omega)) ?_
  show G (17, [some (vR 0), some (vI h), some (vI (-1)), some (vI d), none], [vI (-1)], cW (sS τ 5 h) κ)
  refine hR.run0 3 (S' := (22, [some (vR 0), some (vI h), some (vI (-1)), some (vI d), some (vI (-1))], [vI (-1), vI (-1)], cW (sS τ 5 h) κ)) rfl ?_
  refine hR.br (C := (-1) = (-1)) rfl (by (try dsimp only); omega) (fun c1 => ?_) (fun c1 => ?_)
  · skip
    refine hR.run0 1 (S' := (42, [some (vR 0), some (vI h), some (vI (-1)), some (vI d), some (vI (-1))], [vI (-1)], cW (sS τ 5 h) κ)) rfl ?_
    exact hR.rt rfl trivial rfl (by rfl)
  · exfalso; omega
theorem sp_rateOf (τ κ : St) {p g : Int} (hp : 0 ≤ p ∧ p < 3) (hgg : 0 ≤ g ∧ g < 5) (hb : ∀ c, -1 ≤ τ.2.1 2 c ∧ τ.2.1 2 c ≤ 5) : Sp mX5_rateOf roC 1 [vR 0, vI p, vI g] (cW τ κ) (.inl (some (vI (rtN (τ.2.1 2) p g 24)))) (cW τ κ) := by
  refine Sp.of (lk := lkX5) (tb := bX5_rateOf) (by decide) lkX5_ok tX5_rateOf (cW_keys _ _ _ _) (Nat.le_of_ble_eq_true rfl) (fun G hR => ?_)
  refine hR.run0 4 (S' := (5, [some (vR 0), some (vI p), some (vI g), some (vI 4), some (vI 0)], [], cW τ κ)) rfl ?_
  have hL : ∀ i : Nat, i ≤ 24 → G (5, [some (vR 0), some (vI p), some (vI g), some (vI (rtN (τ.2.1 2) p g i)), some (vI ((i : Nat) : Int))], [], cW τ κ) := by
    refine back (P := fun i : Nat => G (5, [some (vR 0), some (vI p), some (vI g), some (vI (rtN (τ.2.1 2) p g i)), some (vI ((i : Nat) : Int))], [], cW τ κ)) ?_ ?_
    · intro i hii ihi
      replace ihi : G (5, [some (vR 0), some (vI p), some (vI g), some (vI (rtN (τ.2.1 2) p g (i + 1))), some (vI ((i + 1 : Nat) : Int))], [], cW τ κ) := ihi
      show G (5, [some (vR 0), some (vI p), some (vI g), some (vI (rtN (τ.2.1 2) p g i)), some (vI (i : Int))], [], cW τ κ)
      have q1 := rtN_r (τ.2.1 2) p g i
      refine hR.run0 2 (S' := (9, [some (vR 0), some (vI p), some (vI g), some (vI (rtN (τ.2.1 2) p g i)), some (vI (i : Int))], [vI 24, vI (i : Int)], cW τ κ)) rfl ?_
      refine hR.br (C := 24 ≤ (i : Int)) rfl (by (try dsimp only); omega) (fun c1 => ?_) (fun c1 => ?_)
      · exfalso; omega
      refine hR.run0 3 (S' := (18, [some (vR 0), some (vI p), some (vI g), some (vI (rtN (τ.2.1 2) p g i)), some (vI (i : Int))], [vI (i : Int), vR 1], cW τ κ)) rfl ?_
      have f1 := ownB_r (hb (i : Int))
      refine hR.cv [vI (i : Int)] kX5_354 rfl rfl ⟨_, _, _, rfl, rfl, rfl⟩ (by first | decide | exact Nat.le_refl _) (by decide) (Nat.le_of_ble_eq_true rfl) rfl (sp_ownerAt _ _ (by omega) hb) ?_
      show G (21, [some (vR 0), some (vI p), some (vI g), some (vI (rtN (τ.2.1 2) p g i)), some (vI (i : Int))], [vI (ownB (τ.2.1 2 (i : Int)))], cW τ κ)
      refine hR.run0 1 (S' := (22, [some (vR 0), some (vI p), some (vI g), some (vI (rtN (τ.2.1 2) p g i)), some (vI (i : Int))], [vI p, vI (ownB (τ.2.1 2 (i : Int)))], cW τ κ)) rfl ?_
      refine hR.br (C := ownB (τ.2.1 2 (i : Int)) ≠ p) rfl (by (try dsimp only); omega) (fun c2 => ?_) (fun c2 => ?_)
      · skip
        refine hR.run0 2 (S' := (5, [some (vR 0), some (vI p), some (vI g), some (vI (rtN (τ.2.1 2) p g i)), some (vI ((i : Int) + 1))], [], cW τ κ)) rfl ?_
        rw [show rtN (τ.2.1 2) p g (i + 1) = (rtN (τ.2.1 2) p g i) from by simp only [rtN]; (repeat' split) <;> omega] at ihi
        exact ihi
      · skip
        refine hR.run0 3 (S' := (29, [some (vR 0), some (vI p), some (vI g), some (vI (rtN (τ.2.1 2) p g i)), some (vI (i : Int))], [vI g, vI (i : Int), vI (rtN (τ.2.1 2) p g i)], cW τ κ)) rfl ?_
        have f2 := rtA_r (i : Int) g
        refine hR.cs [vI (i : Int), vI g] kX5_357 rfl rfl (by first | decide | exact Nat.le_refl _) (by decide) (Nat.le_of_ble_eq_true rfl) rfl (sp_rateAt _ _ (by omega) (by omega)) ?_
        show G (32, [some (vR 0), some (vI p), some (vI g), some (vI (rtN (τ.2.1 2) p g i)), some (vI (i : Int))], [vI (rtA (i : Int) g), vI (rtN (τ.2.1 2) p g i)], cW τ κ)
        refine hR.run1 4 (S' := (5, [some (vR 0), some (vI p), some (vI g), some (vI (if (rtA (i : Int) g) < (rtN (τ.2.1 2) p g i) then (rtA (i : Int) g) else (rtN (τ.2.1 2) p g i))), some (vI ((i : Int) + 1))], [], cW τ κ)) rfl (by (try dsimp only); omega) ?_
        rw [show rtN (τ.2.1 2) p g (i + 1) = (if (rtA (i : Int) g) < (rtN (τ.2.1 2) p g i) then (rtA (i : Int) g) else (rtN (τ.2.1 2) p g i)) from by simp only [rtN]; (repeat' split) <;> omega] at ihi
        exact ihi
    · show G (5, [some (vR 0), some (vI p), some (vI g), some (vI (rtN (τ.2.1 2) p g 24)), some (vI ((24 : Nat) : Int))], [], cW τ κ)
      show G (5, [some (vR 0), some (vI p), some (vI g), some (vI (rtN (τ.2.1 2) p g 24)), some (vI 24)], [], cW τ κ)
      refine hR.run0 2 (S' := (9, [some (vR 0), some (vI p), some (vI g), some (vI (rtN (τ.2.1 2) p g 24)), some (vI 24)], [vI 24, vI 24], cW τ κ)) rfl ?_
      refine hR.br (C := 24 ≤ 24) rfl (by (try dsimp only); omega) (fun c3 => ?_) (fun c3 => ?_)
      · skip
        refine hR.run0 1 (S' := (43, [some (vR 0), some (vI p), some (vI g), some (vI (rtN (τ.2.1 2) p g 24)), some (vI 24)], [vI (rtN (τ.2.1 2) p g 24)], cW τ κ)) rfl ?_
        exact hR.rt rfl trivial rfl (by rfl)
      · exfalso; omega
  exact hL 0 (Nat.zero_le _)
