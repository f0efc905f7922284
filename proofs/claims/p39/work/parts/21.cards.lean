theorem sp_cPlace (ro : PRO) (w : PW) {p k : Int} (hp : 0 ≤ p ∧ p < 3) (hk : 0 ≤ k ∧ k < 5) : Sp mX1_isPlace ro 0 [vI p, vI k] (w) (.inl (some (vI (1)))) (w) := by
  refine Sp.of (lk := lkX1) (tb := bX1_isPlace) (by decide) lkX1_ok tX1_isPlace rfl (Nat.le_of_ble_eq_true rfl) (fun G hR => ?_)
  refine hR.run0 1 (S' := (1, [some (vI p), some (vI k)], [vI p], w)) rfl ?_
  refine hR.br (C := p < 0) rfl (by (try dsimp only); omega) (fun c1 => ?_) (fun c1 => ?_)
  · exfalso; omega
  refine hR.run0 2 (S' := (6, [some (vI p), some (vI k)], [vI 3, vI p], w)) rfl ?_
  refine hR.br (C := 3 ≤ p) rfl (by (try dsimp only); omega) (fun c2 => ?_) (fun c2 => ?_)
  · exfalso; omega
  refine hR.run0 1 (S' := (10, [some (vI p), some (vI k)], [vI k], w)) rfl ?_
  refine hR.br (C := k < 0) rfl (by (try dsimp only); omega) (fun c3 => ?_) (fun c3 => ?_)
  · exfalso; omega
  refine hR.run0 2 (S' := (15, [some (vI p), some (vI k)], [vI 5, vI k], w)) rfl ?_
  refine hR.br (C := 5 ≤ k) rfl (by (try dsimp only); omega) (fun c4 => ?_) (fun c4 => ?_)
  · exfalso; omega
  refine hR.run0 2 (S' := (23, [some (vI p), some (vI k)], [vI 1], w)) rfl ?_
  exact hR.rt rfl (Or.inr rfl) rfl (by rfl)
theorem sp_areLeft (τ κ : St) (hbo : 0 ≤ τ.1 6 ∧ τ.1 6 ≤ 15) : Sp mX1_areLeft roC 0 [vR 50] (cW τ κ) (.inl (some (vI (bI (decide (τ.1 6 < 15)))))) (cW τ κ) := by
  refine Sp.of (lk := lkX1) (tb := bX1_areLeft) (by decide) lkX1_ok tX1_areLeft (cW_keys _ _ _ _) (Nat.le_of_ble_eq_true rfl) (fun G hR => ?_)
  refine hR.run0 4 (S' := (8, [some (vR 50)], [vI 15, vI (τ.1 6)], cW τ κ)) rfl ?_
  refine hR.br (C := 15 ≤ τ.1 6) rfl (by (try dsimp only); omega) (fun c1 => ?_) (fun c1 => ?_)
  · skip
    refine hR.run0 1 (S' := (16, [some (vR 50)], [vI 0], cW τ κ)) rfl ?_
    exact hR.rt rfl (Or.inl rfl) (by rw [show bI (decide (τ.1 6 < 15)) = 0 from by exact bIf (by simp only [Bool.and_eq_true, Bool.or_eq_true, decide_eq_true_eq]; omega)]) (by rfl)
  · skip
    refine hR.run0 2 (S' := (16, [some (vR 50)], [vI 1], cW τ κ)) rfl ?_
    exact hR.rt rfl (Or.inr rfl) (by rw [show bI (decide (τ.1 6 < 15)) = 1 from by exact bIt (by simp only [Bool.and_eq_true, Bool.or_eq_true, decide_eq_true_eq]; omega)]) (by rfl)
theorem sp_give_0 (τ κ : St) (hbo : 0 ≤ τ.1 6 ∧ τ.1 6 < 15) : Sp mX1_give roC 1 [vR 50, vI 0] (cW τ κ) (.inl (some (vI (ordF (τ.1 6))))) (cW (gvS τ 0) κ) := by
  have q0 := ordF_r (τ.1 6)
  refine Sp.of (lk := lkX1) (tb := bX1_give) (by decide) lkX1_ok tX1_give (cW_keys _ _ _ _) (Nat.le_of_ble_eq_true rfl) (fun G hR => ?_)
  refine hR.run0 2 (S' := (4, [some (vR 50), some (vI 0), none], [vI (τ.1 6)], cW τ κ)) rfl ?_
  refine hR.br (C := τ.1 6 < 0) rfl (by (try dsimp only); omega) (fun c1 => ?_) (fun c1 => ?_)
  · exfalso; omega
  refine hR.run0 4 (S' := (15, [some (vR 50), some (vI 0), none], [vI 15, vI (τ.1 6)], cW τ κ)) rfl ?_
  refine hR.br (C := τ.1 6 < 15) rfl (by (try dsimp only); omega) (fun c2 => ?_) (fun c2 => ?_)
  · skip
    refine hR.run1 7 (S' := (31, [some (vR 50), some (vI 0), some (vI (ordF (τ.1 6)))], [vI (ordF (τ.1 6)), vI 0], cW τ κ)) rfl (by (try dsimp only); omega) ?_
    refine hR.cs [vI 0, vI (ordF (τ.1 6))] kX1_37 rfl rfl (by first | decide | exact Nat.le_refl _) (by decide) (Nat.le_of_ble_eq_true rfl) rfl (sp_cPlace _ _ (by omega) (by omega)) ?_
    show G (34, [some (vR 50), some (vI 0), some (vI (ordF (τ.1 6)))], [vI 1], cW τ κ)
    refine hR.br (C := 1 = 0) rfl (by (try dsimp only); omega) (fun c3 => ?_) (fun c3 => ?_)
    · exfalso; omega
    refine hR.run0 6 (S' := (47, [some (vR 50), some (vI 0), some (vI (ordF (τ.1 6)))], [], pset (cW τ κ) 50 (.inr (1, [vR 51, vR 52, vR 53, vI ((τ.1 6) + 1), vI (τ.1 7), vI (τ.1 8)])))) rfl ?_
    rw [cW_s6]
    refine hR.run1 10 (S' := (59, [some (vR 50), some (vI 0), some (vI (ordF (τ.1 6)))], [], pset (cW (sS τ 6 ((τ.1 6) + 1)) κ) 54 (.inl (5, .inl (pup ((sS τ 6 ((τ.1 6) + 1)).2.2 1 0) (ordF (τ.1 6)) (((sS τ 6 ((τ.1 6) + 1)).2.2 1 0 (ordF (τ.1 6))) + 1)))))) rfl (by (try dsimp only); omega) ?_
    rw [cW_c0]
    refine hR.run1 8 (S' := (69, [some (vR 50), some (vI 0), some (vI (ordF (τ.1 6)))], [], pset (cW (sHt (sS τ 6 ((τ.1 6) + 1)) 1 0 (ordF (τ.1 6)) (((sS τ 6 ((τ.1 6) + 1)).2.2 1 0 (ordF (τ.1 6))) + 1)) κ) 52 (.inl (5, .inl (pup ((sHt (sS τ 6 ((τ.1 6) + 1)) 1 0 (ordF (τ.1 6)) (((sS τ 6 ((τ.1 6) + 1)).2.2 1 0 (ordF (τ.1 6))) + 1)).2.1 5) (ordF (τ.1 6)) ((τ.2.1 5 (ordF (τ.1 6))) + 1)))))) rfl (by (try dsimp only); omega) ?_
    rw [cW_a5]
    refine hR.run0 1 (S' := (70, [some (vR 50), some (vI 0), some (vI (ordF (τ.1 6)))], [vI (ordF (τ.1 6))], cW (sAt (sHt (sS τ 6 ((τ.1 6) + 1)) 1 0 (ordF (τ.1 6)) (((sS τ 6 ((τ.1 6) + 1)).2.2 1 0 (ordF (τ.1 6))) + 1)) 5 (ordF (τ.1 6)) ((τ.2.1 5 (ordF (τ.1 6))) + 1)) κ)) rfl ?_
    exact hR.rt rfl trivial rfl (by rfl)
  · exfalso; omega
theorem sp_ccount_0 (τ κ : St) {k : Int} (hk : 0 ≤ k ∧ k < 5) : Sp mX1_count roC 1 [vR 50, vI 0, vI k] (cW τ κ) (.inl (some (vI (τ.2.2 1 0 k)))) (cW τ κ) := by
  refine Sp.of (lk := lkX1) (tb := bX1_count) (by decide) lkX1_ok tX1_count (cW_keys _ _ _ _) (Nat.le_of_ble_eq_true rfl) (fun G hR => ?_)
  refine hR.run0 2 (S' := (2, [some (vR 50), some (vI 0), some (vI k)], [vI k, vI 0], cW τ κ)) rfl ?_
  refine hR.cs [vI 0, vI k] kX1_37 rfl rfl (by first | decide | exact Nat.le_refl _) (by decide) (Nat.le_of_ble_eq_true rfl) rfl (sp_cPlace _ _ (by omega) (by omega)) ?_
  show G (5, [some (vR 50), some (vI 0), some (vI k)], [vI 1], cW τ κ)
  refine hR.br (C := 1 = 0) rfl (by (try dsimp only); omega) (fun c1 => ?_) (fun c1 => ?_)
  · exfalso; omega
  refine hR.run1 7 (S' := (20, [some (vR 50), some (vI 0), some (vI k)], [vI (τ.2.2 1 0 k)], cW τ κ)) rfl (by (try dsimp only); omega) ?_
  exact hR.rt rfl trivial rfl (by rfl)
theorem sp_canUse_0 (τ κ : St) {k : Int} (hk : 0 ≤ k ∧ k < 5) (hcd : ∀ p k, 0 ≤ τ.2.2 1 p k ∧ τ.2.2 1 p k ≤ 15) (hfr : ∀ k, 0 ≤ τ.2.1 5 k ∧ τ.2.1 5 k ≤ 15) (hus : 0 ≤ τ.1 7 ∧ τ.1 7 ≤ 1) : Sp mX1_canUse roC 1 [vR 50, vI 0, vI k] (cW τ κ) (.inl (some (vI (bI (canU τ 0 k))))) (cW τ κ) := by
  have q0 := hcd 0 k
  refine Sp.of (lk := lkX1) (tb := bX1_canUse) (by decide) lkX1_ok tX1_canUse (cW_keys _ _ _ _) (Nat.le_of_ble_eq_true rfl) (fun G hR => ?_)
  refine hR.run0 2 (S' := (4, [some (vR 50), some (vI 0), some (vI k)], [vI (τ.1 7)], cW τ κ)) rfl ?_
  refine hR.br (C := τ.1 7 ≠ 0) rfl (by (try dsimp only); omega) (fun c1 => ?_) (fun c1 => ?_)
  · skip
    refine hR.run0 1 (S' := (37, [some (vR 50), some (vI 0), some (vI k)], [vI 0], cW τ κ)) rfl ?_
    exact hR.rt rfl (Or.inl rfl) (by rw [show bI (canU τ 0 k) = 0 from by exact bIf (by simp only [canU, Bool.and_eq_true, decide_eq_true_eq]; omega)]) (by rfl)
  · skip
    refine hR.run0 2 (S' := (9, [some (vR 50), some (vI 0), some (vI k)], [vI k, vI 0], cW τ κ)) rfl ?_
    refine hR.cs [vI 0, vI k] kX1_37 rfl rfl (by first | decide | exact Nat.le_refl _) (by decide) (Nat.le_of_ble_eq_true rfl) rfl (sp_cPlace _ _ (by omega) (by omega)) ?_
    show G (12, [some (vR 50), some (vI 0), some (vI k)], [vI 1], cW τ κ)
    refine hR.br (C := 1 = 0) rfl (by (try dsimp only); omega) (fun c2 => ?_) (fun c2 => ?_)
    · exfalso; omega
    have f1 := hfr k
    refine hR.run1 10 (S' := (29, [some (vR 50), some (vI 0), some (vI k)], [vI (τ.2.1 5 k), vI (τ.2.2 1 0 k)], cW τ κ)) rfl (by (try dsimp only); omega) ?_
    refine hR.br (C := τ.2.2 1 0 k ≤ τ.2.1 5 k) rfl (by (try dsimp only); omega) (fun c3 => ?_) (fun c3 => ?_)
    · skip
      refine hR.run0 1 (S' := (37, [some (vR 50), some (vI 0), some (vI k)], [vI 0], cW τ κ)) rfl ?_
      exact hR.rt rfl (Or.inl rfl) (by rw [show bI (canU τ 0 k) = 0 from by exact bIf (by simp only [canU, Bool.and_eq_true, decide_eq_true_eq]; omega)]) (by rfl)
    · skip
      refine hR.run0 2 (S' := (37, [some (vR 50), some (vI 0), some (vI k)], [vI 1], cW τ κ)) rfl ?_
      exact hR.rt rfl (Or.inr rfl) (by rw [show bI (canU τ 0 k) = 1 from by exact bIt (by simp only [canU, Bool.and_eq_true, decide_eq_true_eq]; omega)]) (by rfl)
theorem sp_give_1 (τ κ : St) (hbo : 0 ≤ τ.1 6 ∧ τ.1 6 < 15) : Sp mX1_give roC 1 [vR 50, vI 1] (cW τ κ) (.inl (some (vI (ordF (τ.1 6))))) (cW (gvS τ 1) κ) := by
  have q0 := ordF_r (τ.1 6)
  refine Sp.of (lk := lkX1) (tb := bX1_give) (by decide) lkX1_ok tX1_give (cW_keys _ _ _ _) (Nat.le_of_ble_eq_true rfl) (fun G hR => ?_)
  refine hR.run0 2 (S' := (4, [some (vR 50), some (vI 1), none], [vI (τ.1 6)], cW τ κ)) rfl ?_
  refine hR.br (C := τ.1 6 < 0) rfl (by (try dsimp only); omega) (fun c1 => ?_) (fun c1 => ?_)
  · exfalso; omega
  refine hR.run0 4 (S' := (15, [some (vR 50), some (vI 1), none], [vI 15, vI (τ.1 6)], cW τ κ)) rfl ?_
  refine hR.br (C := τ.1 6 < 15) rfl (by (try dsimp only); omega) (fun c2 => ?_) (fun c2 => ?_)
  · skip
    refine hR.run1 7 (S' := (31, [some (vR 50), some (vI 1), some (vI (ordF (τ.1 6)))], [vI (ordF (τ.1 6)), vI 1], cW τ κ)) rfl (by (try dsimp only); omega) ?_
    refine hR.cs [vI 1, vI (ordF (τ.1 6))] kX1_37 rfl rfl (by first | decide | exact Nat.le_refl _) (by decide) (Nat.le_of_ble_eq_true rfl) rfl (sp_cPlace _ _ (by omega) (by omega)) ?_
    show G (34, [some (vR 50), some (vI 1), some (vI (ordF (τ.1 6)))], [vI 1], cW τ κ)
    refine hR.br (C := 1 = 0) rfl (by (try dsimp only); omega) (fun c3 => ?_) (fun c3 => ?_)
    · exfalso; omega
    refine hR.run0 6 (S' := (47, [some (vR 50), some (vI 1), some (vI (ordF (τ.1 6)))], [], pset (cW τ κ) 50 (.inr (1, [vR 51, vR 52, vR 53, vI ((τ.1 6) + 1), vI (τ.1 7), vI (τ.1 8)])))) rfl ?_
    rw [cW_s6]
    refine hR.run1 10 (S' := (59, [some (vR 50), some (vI 1), some (vI (ordF (τ.1 6)))], [], pset (cW (sS τ 6 ((τ.1 6) + 1)) κ) 55 (.inl (5, .inl (pup ((sS τ 6 ((τ.1 6) + 1)).2.2 1 1) (ordF (τ.1 6)) (((sS τ 6 ((τ.1 6) + 1)).2.2 1 1 (ordF (τ.1 6))) + 1)))))) rfl (by (try dsimp only); omega) ?_
    rw [cW_c1]
    refine hR.run1 8 (S' := (69, [some (vR 50), some (vI 1), some (vI (ordF (τ.1 6)))], [], pset (cW (sHt (sS τ 6 ((τ.1 6) + 1)) 1 1 (ordF (τ.1 6)) (((sS τ 6 ((τ.1 6) + 1)).2.2 1 1 (ordF (τ.1 6))) + 1)) κ) 52 (.inl (5, .inl (pup ((sHt (sS τ 6 ((τ.1 6) + 1)) 1 1 (ordF (τ.1 6)) (((sS τ 6 ((τ.1 6) + 1)).2.2 1 1 (ordF (τ.1 6))) + 1)).2.1 5) (ordF (τ.1 6)) ((τ.2.1 5 (ordF (τ.1 6))) + 1)))))) rfl (by (try dsimp only); omega) ?_
    rw [cW_a5]
    refine hR.run0 1 (S' := (70, [some (vR 50), some (vI 1), some (vI (ordF (τ.1 6)))], [vI (ordF (τ.1 6))], cW (sAt (sHt (sS τ 6 ((τ.1 6) + 1)) 1 1 (ordF (τ.1 6)) (((sS τ 6 ((τ.1 6) + 1)).2.2 1 1 (ordF (τ.1 6))) + 1)) 5 (ordF (τ.1 6)) ((τ.2.1 5 (ordF (τ.1 6))) + 1)) κ)) rfl ?_
    exact hR.rt rfl trivial rfl (by rfl)
  · exfalso; omega
theorem sp_ccount_1 (τ κ : St) {k : Int} (hk : 0 ≤ k ∧ k < 5) : Sp mX1_count roC 1 [vR 50, vI 1, vI k] (cW τ κ) (.inl (some (vI (τ.2.2 1 1 k)))) (cW τ κ) := by
  refine Sp.of (lk := lkX1) (tb := bX1_count) (by decide) lkX1_ok tX1_count (cW_keys _ _ _ _) (Nat.le_of_ble_eq_true rfl) (fun G hR => ?_)
  refine hR.run0 2 (S' := (2, [some (vR 50), some (vI 1), some (vI k)], [vI k, vI 1], cW τ κ)) rfl ?_
  refine hR.cs [vI 1, vI k] kX1_37 rfl rfl (by first | decide | exact Nat.le_refl _) (by decide) (Nat.le_of_ble_eq_true rfl) rfl (sp_cPlace _ _ (by omega) (by omega)) ?_
  show G (5, [some (vR 50), some (vI 1), some (vI k)], [vI 1], cW τ κ)
  refine hR.br (C := 1 = 0) rfl (by (try dsimp only); omega) (fun c1 => ?_) (fun c1 => ?_)
  · exfalso; omega
  refine hR.run1 7 (S' := (20, [some (vR 50), some (vI 1), some (vI k)], [vI (τ.2.2 1 1 k)], cW τ κ)) rfl (by (try dsimp only); omega) ?_
  exact hR.rt rfl trivial rfl (by rfl)
theorem sp_canUse_1 (τ κ : St) {k : Int} (hk : 0 ≤ k ∧ k < 5) (hcd : ∀ p k, 0 ≤ τ.2.2 1 p k ∧ τ.2.2 1 p k ≤ 15) (hfr : ∀ k, 0 ≤ τ.2.1 5 k ∧ τ.2.1 5 k ≤ 15) (hus : 0 ≤ τ.1 7 ∧ τ.1 7 ≤ 1) : Sp mX1_canUse roC 1 [vR 50, vI 1, vI k] (cW τ κ) (.inl (some (vI (bI (canU τ 1 k))))) (cW τ κ) := by
  have q0 := hcd 1 k
  refine Sp.of (lk := lkX1) (tb := bX1_canUse) (by decide) lkX1_ok tX1_canUse (cW_keys _ _ _ _) (Nat.le_of_ble_eq_true rfl) (fun G hR => ?_)
  refine hR.run0 2 (S' := (4, [some (vR 50), some (vI 1), some (vI k)], [vI (τ.1 7)], cW τ κ)) rfl ?_
  refine hR.br (C := τ.1 7 ≠ 0) rfl (by (try dsimp only); omega) (fun c1 => ?_) (fun c1 => ?_)
  · skip
    refine hR.run0 1 (S' := (37, [some (vR 50), some (vI 1), some (vI k)], [vI 0], cW τ κ)) rfl ?_
    exact hR.rt rfl (Or.inl rfl) (by rw [show bI (canU τ 1 k) = 0 from by exact bIf (by simp only [canU, Bool.and_eq_true, decide_eq_true_eq]; omega)]) (by rfl)
  · skip
    refine hR.run0 2 (S' := (9, [some (vR 50), some (vI 1), some (vI k)], [vI k, vI 1], cW τ κ)) rfl ?_
    refine hR.cs [vI 1, vI k] kX1_37 rfl rfl (by first | decide | exact Nat.le_refl _) (by decide) (Nat.le_of_ble_eq_true rfl) rfl (sp_cPlace _ _ (by omega) (by omega)) ?_
    show G (12, [some (vR 50), some (vI 1), some (vI k)], [vI 1], cW τ κ)
    refine hR.br (C := 1 = 0) rfl (by (try dsimp only); omega) (fun c2 => ?_) (fun c2 => ?_)
    · exfalso; omega
    have f1 := hfr k
    refine hR.run1 10 (S' := (29, [some (vR 50), some (vI 1), some (vI k)], [vI (τ.2.1 5 k), vI (τ.2.2 1 1 k)], cW τ κ)) rfl (by (try dsimp only); omega) ?_
    refine hR.br (C := τ.2.2 1 1 k ≤ τ.2.1 5 k) rfl (by (try dsimp only); omega) (fun c3 => ?_) (fun c3 => ?_)
    · skip
      refine hR.run0 1 (S' := (37, [some (vR 50), some (vI 1), some (vI k)], [vI 0], cW τ κ)) rfl ?_
      exact hR.rt rfl (Or.inl rfl) (by rw [show bI (canU τ 1 k) = 0 from by exact bIf (by simp only [canU, Bool.and_eq_true, decide_eq_true_eq]; omega)]) (by rfl)
    · skip
      refine hR.run0 2 (S' := (37, [some (vR 50), some (vI 1), some (vI k)], [vI 1], cW τ κ)) rfl ?_
      exact hR.rt rfl (Or.inr rfl) (by rw [show bI (canU τ 1 k) = 1 from by exact bIt (by simp only [canU, Bool.and_eq_true, decide_eq_true_eq]; omega)]) (by rfl)
theorem sp_give_2 (τ κ : St) (hbo : 0 ≤ τ.1 6 ∧ τ.1 6 < 15) : Sp mX1_give roC 1 [vR 50, vI 2] (cW τ κ) (.inl (some (vI (ordF (τ.1 6))))) (cW (gvS τ 2) κ) := by
  have q0 := ordF_r (τ.1 6)
  refine Sp.of (lk := lkX1) (tb := bX1_give) (by decide) lkX1_ok tX1_give (cW_keys _ _ _ _) (Nat.le_of_ble_eq_true rfl) (fun G hR => ?_)
  refine hR.run0 2 (S' := (4, [some (vR 50), some (vI 2), none], [vI (τ.1 6)], cW τ κ)) rfl ?_
  refine hR.br (C := τ.1 6 < 0) rfl (by (try dsimp only); omega) (fun c1 => ?_) (fun c1 => ?_)
  · exfalso; omega
  refine hR.run0 4 (S' := (15, [some (vR 50), some (vI 2), none], [vI 15, vI (τ.1 6)], cW τ κ)) rfl ?_
  refine hR.br (C := τ.1 6 < 15) rfl (by (try dsimp only); omega) (fun c2 => ?_) (fun c2 => ?_)
  · skip
    refine hR.run1 7 (S' := (31, [some (vR 50), some (vI 2), some (vI (ordF (τ.1 6)))], [vI (ordF (τ.1 6)), vI 2], cW τ κ)) rfl (by (try dsimp only); omega) ?_
    refine hR.cs [vI 2, vI (ordF (τ.1 6))] kX1_37 rfl rfl (by first | decide | exact Nat.le_refl _) (by decide) (Nat.le_of_ble_eq_true rfl) rfl (sp_cPlace _ _ (by omega) (by omega)) ?_
    show G (34, [some (vR 50), some (vI 2), some (vI (ordF (τ.1 6)))], [vI 1], cW τ κ)
    refine hR.br (C := 1 = 0) rfl (by (try dsimp only); omega) (fun c3 => ?_) (fun c3 => ?_)
    · exfalso; omega
    refine hR.run0 6 (S' := (47, [some (vR 50), some (vI 2), some (vI (ordF (τ.1 6)))], [], pset (cW τ κ) 50 (.inr (1, [vR 51, vR 52, vR 53, vI ((τ.1 6) + 1), vI (τ.1 7), vI (τ.1 8)])))) rfl ?_
    rw [cW_s6]
    refine hR.run1 10 (S' := (59, [some (vR 50), some (vI 2), some (vI (ordF (τ.1 6)))], [], pset (cW (sS τ 6 ((τ.1 6) + 1)) κ) 56 (.inl (5, .inl (pup ((sS τ 6 ((τ.1 6) + 1)).2.2 1 2) (ordF (τ.1 6)) (((sS τ 6 ((τ.1 6) + 1)).2.2 1 2 (ordF (τ.1 6))) + 1)))))) rfl (by (try dsimp only); omega) ?_
    rw [cW_c2]
    refine hR.run1 8 (S' := (69, [some (vR 50), some (vI 2), some (vI (ordF (τ.1 6)))], [], pset (cW (sHt (sS τ 6 ((τ.1 6) + 1)) 1 2 (ordF (τ.1 6)) (((sS τ 6 ((τ.1 6) + 1)).2.2 1 2 (ordF (τ.1 6))) + 1)) κ) 52 (.inl (5, .inl (pup ((sHt (sS τ 6 ((τ.1 6) + 1)) 1 2 (ordF (τ.1 6)) (((sS τ 6 ((τ.1 6) + 1)).2.2 1 2 (ordF (τ.1 6))) + 1)).2.1 5) (ordF (τ.1 6)) ((τ.2.1 5 (ordF (τ.1 6))) + 1)))))) rfl (by (try dsimp only); omega) ?_
    rw [cW_a5]
    refine hR.run0 1 (S' := (70, [some (vR 50), some (vI 2), some (vI (ordF (τ.1 6)))], [vI (ordF (τ.1 6))], cW (sAt (sHt (sS τ 6 ((τ.1 6) + 1)) 1 2 (ordF (τ.1 6)) (((sS τ 6 ((τ.1 6) + 1)).2.2 1 2 (ordF (τ.1 6))) + 1)) 5 (ordF (τ.1 6)) ((τ.2.1 5 (ordF (τ.1 6))) + 1)) κ)) rfl ?_
    exact hR.rt rfl trivial rfl (by rfl)
  · exfalso; omega
theorem sp_ccount_2 (τ κ : St) {k : Int} (hk : 0 ≤ k ∧ k < 5) : Sp mX1_count roC 1 [vR 50, vI 2, vI k] (cW τ κ) (.inl (some (vI (τ.2.2 1 2 k)))) (cW τ κ) := by
  refine Sp.of (lk := lkX1) (tb := bX1_count) (by decide) lkX1_ok tX1_count (cW_keys _ _ _ _) (Nat.le_of_ble_eq_true rfl) (fun G hR => ?_)
  refine hR.run0 2 (S' := (2, [some (vR 50), some (vI 2), some (vI k)], [vI k, vI 2], cW τ κ)) rfl ?_
  refine hR.cs [vI 2, vI k] kX1_37 rfl rfl (by first | decide | exact Nat.le_refl _) (by decide) (Nat.le_of_ble_eq_true rfl) rfl (sp_cPlace _ _ (by omega) (by omega)) ?_
  show G (5, [some (vR 50), some (vI 2), some (vI k)], [vI 1], cW τ κ)
  refine hR.br (C := 1 = 0) rfl (by (try dsimp only); omega) (fun c1 => ?_) (fun c1 => ?_)
  · exfalso; omega
  refine hR.run1 7 (S' := (20, [some (vR 50), some (vI 2), some (vI k)], [vI (τ.2.2 1 2 k)], cW τ κ)) rfl (by (try dsimp only); omega) ?_
  exact hR.rt rfl trivial rfl (by rfl)
theorem sp_canUse_2 (τ κ : St) {k : Int} (hk : 0 ≤ k ∧ k < 5) (hcd : ∀ p k, 0 ≤ τ.2.2 1 p k ∧ τ.2.2 1 p k ≤ 15) (hfr : ∀ k, 0 ≤ τ.2.1 5 k ∧ τ.2.1 5 k ≤ 15) (hus : 0 ≤ τ.1 7 ∧ τ.1 7 ≤ 1) : Sp mX1_canUse roC 1 [vR 50, vI 2, vI k] (cW τ κ) (.inl (some (vI (bI (canU τ 2 k))))) (cW τ κ) := by
  have q0 := hcd 2 k
  refine Sp.of (lk := lkX1) (tb := bX1_canUse) (by decide) lkX1_ok tX1_canUse (cW_keys _ _ _ _) (Nat.le_of_ble_eq_true rfl) (fun G hR => ?_)
  refine hR.run0 2 (S' := (4, [some (vR 50), some (vI 2), some (vI k)], [vI (τ.1 7)], cW τ κ)) rfl ?_
  refine hR.br (C := τ.1 7 ≠ 0) rfl (by (try dsimp only); omega) (fun c1 => ?_) (fun c1 => ?_)
  · skip
    refine hR.run0 1 (S' := (37, [some (vR 50), some (vI 2), some (vI k)], [vI 0], cW τ κ)) rfl ?_
    exact hR.rt rfl (Or.inl rfl) (by rw [show bI (canU τ 2 k) = 0 from by exact bIf (by simp only [canU, Bool.and_eq_true, decide_eq_true_eq]; omega)]) (by rfl)
  · skip
    refine hR.run0 2 (S' := (9, [some (vR 50), some (vI 2), some (vI k)], [vI k, vI 2], cW τ κ)) rfl ?_
    refine hR.cs [vI 2, vI k] kX1_37 rfl rfl (by first | decide | exact Nat.le_refl _) (by decide) (Nat.le_of_ble_eq_true rfl) rfl (sp_cPlace _ _ (by omega) (by omega)) ?_
    show G (12, [some (vR 50), some (vI 2), some (vI k)], [vI 1], cW τ κ)
    refine hR.br (C := 1 = 0) rfl (by (try dsimp only); omega) (fun c2 => ?_) (fun c2 => ?_)
    · exfalso; omega
    have f1 := hfr k
    refine hR.run1 10 (S' := (29, [some (vR 50), some (vI 2), some (vI k)], [vI (τ.2.1 5 k), vI (τ.2.2 1 2 k)], cW τ κ)) rfl (by (try dsimp only); omega) ?_
    refine hR.br (C := τ.2.2 1 2 k ≤ τ.2.1 5 k) rfl (by (try dsimp only); omega) (fun c3 => ?_) (fun c3 => ?_)
    · skip
      refine hR.run0 1 (S' := (37, [some (vR 50), some (vI 2), some (vI k)], [vI 0], cW τ κ)) rfl ?_
      exact hR.rt rfl (Or.inl rfl) (by rw [show bI (canU τ 2 k) = 0 from by exact bIf (by simp only [canU, Bool.and_eq_true, decide_eq_true_eq]; omega)]) (by rfl)
    · skip
      refine hR.run0 2 (S' := (37, [some (vR 50), some (vI 2), some (vI k)], [vI 1], cW τ κ)) rfl ?_
      exact hR.rt rfl (Or.inr rfl) (by rw [show bI (canU τ 2 k) = 1 from by exact bIt (by simp only [canU, Bool.and_eq_true, decide_eq_true_eq]; omega)]) (by rfl)
theorem sp_give (τ κ : St) {p : Int} (hbo : 0 ≤ τ.1 6 ∧ τ.1 6 < 15) (hp : 0 ≤ p ∧ p < 3) : Sp mX1_give roC 1 [vR 50, vI p] (cW τ κ) (.inl (some (vI (ordF (τ.1 6))))) (cW (gvS τ p) κ) := by
  rcases (show p = 0 ∨ p = 1 ∨ p = 2 from by omega) with rfl | rfl | rfl
  · exact sp_give_0 τ κ hbo
  · exact sp_give_1 τ κ hbo
  · exact sp_give_2 τ κ hbo
theorem sp_ccount (τ κ : St) {p : Int} {k : Int} (hk : 0 ≤ k ∧ k < 5) (hp : 0 ≤ p ∧ p < 3) : Sp mX1_count roC 1 [vR 50, vI p, vI k] (cW τ κ) (.inl (some (vI (τ.2.2 1 p k)))) (cW τ κ) := by
  rcases (show p = 0 ∨ p = 1 ∨ p = 2 from by omega) with rfl | rfl | rfl
  · exact sp_ccount_0 τ κ hk
  · exact sp_ccount_1 τ κ hk
  · exact sp_ccount_2 τ κ hk
theorem sp_canUse (τ κ : St) {p : Int} {k : Int} (hk : 0 ≤ k ∧ k < 5) (hcd : ∀ p k, 0 ≤ τ.2.2 1 p k ∧ τ.2.2 1 p k ≤ 15) (hfr : ∀ k, 0 ≤ τ.2.1 5 k ∧ τ.2.1 5 k ≤ 15) (hus : 0 ≤ τ.1 7 ∧ τ.1 7 ≤ 1) (hp : 0 ≤ p ∧ p < 3) : Sp mX1_canUse roC 1 [vR 50, vI p, vI k] (cW τ κ) (.inl (some (vI (bI (canU τ p k))))) (cW τ κ) := by
  rcases (show p = 0 ∨ p = 1 ∨ p = 2 from by omega) with rfl | rfl | rfl
  · exact sp_canUse_0 τ κ hk hcd hfr hus
  · exact sp_canUse_1 τ κ hk hcd hfr hus
  · exact sp_canUse_2 τ κ hk hcd hfr hus
theorem sp_usedKnights (τ κ : St) {p : Int} (hp : 0 ≤ p ∧ p < 3) : Sp mX1_usedKnights roC 0 [vR 50, vI p] (cW τ κ) (.inl (some (vI (τ.2.1 6 p)))) (cW τ κ) := by
  refine Sp.of (lk := lkX1) (tb := bX1_usedKnights) (by decide) lkX1_ok tX1_usedKnights (cW_keys _ _ _ _) (Nat.le_of_ble_eq_true rfl) (fun G hR => ?_)
  refine hR.run0 1 (S' := (1, [some (vR 50), some (vI p)], [vI p], cW τ κ)) rfl ?_
  refine hR.br (C := p < 0) rfl (by (try dsimp only); omega) (fun c1 => ?_) (fun c1 => ?_)
  · exfalso; omega
  refine hR.run0 4 (S' := (10, [some (vR 50), some (vI p)], [vI 3, vI p], cW τ κ)) rfl ?_
  refine hR.br (C := 3 ≤ p) rfl (by (try dsimp only); omega) (fun c2 => ?_) (fun c2 => ?_)
  · exfalso; omega
  refine hR.run1 5 (S' := (23, [some (vR 50), some (vI p)], [vI (τ.2.1 6 p)], cW τ κ)) rfl (by (try dsimp only); omega) ?_
  exact hR.rt rfl trivial rfl (by rfl)
theorem sp_armyHolder (τ κ : St)  : Sp mX1_armyHolder roC 0 [vR 50] (cW τ κ) (.inl (some (vI (τ.1 8)))) (cW τ κ) := by
  refine Sp.of (lk := lkX1) (tb := bX1_armyHolder) (by decide) lkX1_ok tX1_armyHolder (cW_keys _ _ _ _) (Nat.le_of_ble_eq_true rfl) (fun G hR => ?_)
  refine hR.run0 2 (S' := (4, [some (vR 50)], [vI (τ.1 8)], cW τ κ)) rfl ?_
  exact hR.rt rfl trivial rfl (by rfl)
theorem sp_updateArmy (τ κ : St) {p : Int} (hp : 0 ≤ p ∧ p < 3) (hkn : ∀ p, 0 ≤ τ.2.1 6 p ∧ τ.2.1 6 p ≤ 15) (har : -1 ≤ τ.1 8 ∧ τ.1 8 < 3) : Sp mX1_updateArmyHolder roC 1 [vR 50, vI p] (cW τ κ) (.inl none) (cW (armS τ p) κ) := by
  refine Sp.of (lk := lkX1) (tb := bX1_updateArmyHolder) (by decide) lkX1_ok tX1_updateArmyHolder (cW_keys _ _ _ _) (Nat.le_of_ble_eq_true rfl) (fun G hR => ?_)
  refine hR.run0 3 (S' := (5, [some (vR 50), some (vI p), none], [vI (-1), vI (τ.1 8)], cW τ κ)) rfl ?_
  refine hR.br (C := τ.1 8 ≠ (-1)) rfl (by (try dsimp only); omega) (fun c1 => ?_) (fun c1 => ?_)
  · skip
    refine hR.run0 3 (S' := (17, [some (vR 50), some (vI p), none], [vI (τ.1 8), vR 50], cW τ κ)) rfl ?_
    have f1 := hkn (τ.1 8)
    refine hR.cv [vI (τ.1 8)] kX1_45 rfl rfl ⟨_, _, _, rfl, rfl, rfl⟩ (by first | decide | exact Nat.le_refl _) (by decide) (Nat.le_of_ble_eq_true rfl) rfl (sp_usedKnights _ _ (by omega)) ?_
    show G (20, [some (vR 50), some (vI p), none], [vI (τ.2.1 6 (τ.1 8))], cW τ κ)
    refine hR.run0 5 (S' := (25, [some (vR 50), some (vI p), some (vI ((τ.2.1 6 (τ.1 8)) + 1))], [vI p, vR 50], cW τ κ)) rfl ?_
    have f2 := hkn p
    refine hR.cv [vI p] kX1_45 rfl rfl ⟨_, _, _, rfl, rfl, rfl⟩ (by first | decide | exact Nat.le_refl _) (by decide) (Nat.le_of_ble_eq_true rfl) rfl (sp_usedKnights _ _ (by omega)) ?_
    show G (28, [some (vR 50), some (vI p), some (vI ((τ.2.1 6 (τ.1 8)) + 1))], [vI (τ.2.1 6 p)], cW τ κ)
    refine hR.run0 1 (S' := (29, [some (vR 50), some (vI p), some (vI ((τ.2.1 6 (τ.1 8)) + 1))], [vI ((τ.2.1 6 (τ.1 8)) + 1), vI (τ.2.1 6 p)], cW τ κ)) rfl ?_
    refine hR.br (C := τ.2.1 6 p < (τ.2.1 6 (τ.1 8)) + 1) rfl (by (try dsimp only); omega) (fun c2 => ?_) (fun c2 => ?_)
    · skip
      exact hR.rt rfl trivial (by rfl) (by unfold armS; (repeat' split) <;> first | rfl | (exfalso; omega))
    · skip
      refine hR.run0 3 (S' := (37, [some (vR 50), some (vI p), some (vI ((τ.2.1 6 (τ.1 8)) + 1))], [], pset (cW τ κ) 50 (.inr (1, [vR 51, vR 52, vR 53, vI (τ.1 6), vI (τ.1 7), vI p])))) rfl ?_
      rw [cW_s8]
      exact hR.rt rfl trivial (by rfl) (by unfold armS; (repeat' split) <;> first | rfl | (exfalso; omega))
  · skip
    refine hR.run0 5 (S' := (25, [some (vR 50), some (vI p), some (vI 3)], [vI p, vR 50], cW τ κ)) rfl ?_
    have f3 := hkn p
    refine hR.cv [vI p] kX1_45 rfl rfl ⟨_, _, _, rfl, rfl, rfl⟩ (by first | decide | exact Nat.le_refl _) (by decide) (Nat.le_of_ble_eq_true rfl) rfl (sp_usedKnights _ _ (by omega)) ?_
    show G (28, [some (vR 50), some (vI p), some (vI 3)], [vI (τ.2.1 6 p)], cW τ κ)
    refine hR.run0 1 (S' := (29, [some (vR 50), some (vI p), some (vI 3)], [vI 3, vI (τ.2.1 6 p)], cW τ κ)) rfl ?_
    refine hR.br (C := τ.2.1 6 p < 3) rfl (by (try dsimp only); omega) (fun c3 => ?_) (fun c3 => ?_)
    · skip
      exact hR.rt rfl trivial (by rfl) (by unfold armS; (repeat' split) <;> first | rfl | (exfalso; omega))
    · skip
      refine hR.run0 3 (S' := (37, [some (vR 50), some (vI p), some (vI 3)], [], pset (cW τ κ) 50 (.inr (1, [vR 51, vR 52, vR 53, vI (τ.1 6), vI (τ.1 7), vI p])))) rfl ?_
      rw [cW_s8]
      exact hR.rt rfl trivial (by rfl) (by unfold armS; (repeat' split) <;> first | rfl | (exfalso; omega))
theorem sp_startTurn (τ κ : St)  : Sp mX1_startTurn roC 0 [vR 50] (cW τ κ) (.inl none) (cW (strt τ) κ) := by
  refine Sp.of (lk := lkX1) (tb := bX1_startTurn) (by decide) lkX1_ok tX1_startTurn (cW_keys _ _ _ _) (Nat.le_of_ble_eq_true rfl) (fun G hR => ?_)
  refine hR.run1 3 (S' := (5, [some (vR 50), none], [], pset (cW τ κ) 50 (.inr (1, [vR 51, vR 52, vR 53, vI (τ.1 6), vI 0, vI (τ.1 8)])))) rfl (by (try dsimp only); omega) ?_
  rw [cW_s7]
  refine hR.run0 6 (S' := (13, [some (vR 50), some (vI 0)], [vI 5, vI 0], cW (sS τ 7 0) κ)) rfl ?_
  refine hR.br (C := 5 ≤ 0) rfl (by (try dsimp only); omega) (fun c1 => ?_) (fun c1 => ?_)
  · exfalso; omega
  refine hR.run1 5 (S' := (23, [some (vR 50), some (vI 0)], [], pset (cW (sS τ 7 0) κ) 52 (.inl (5, .inl (pup ((sS τ 7 0).2.1 5) 0 0))))) rfl (by (try dsimp only); omega) ?_
  rw [cW_a5]
  refine hR.run0 6 (S' := (13, [some (vR 50), some (vI 1)], [vI 5, vI 1], cW (sAt (sS τ 7 0) 5 0 0) κ)) rfl ?_
  refine hR.br (C := 5 ≤ 1) rfl (by (try dsimp only); omega) (fun c2 => ?_) (fun c2 => ?_)
  · exfalso; omega
  refine hR.run1 5 (S' := (23, [some (vR 50), some (vI 1)], [], pset (cW (sAt (sS τ 7 0) 5 0 0) κ) 52 (.inl (5, .inl (pup ((sAt (sS τ 7 0) 5 0 0).2.1 5) 1 0))))) rfl (by (try dsimp only); omega) ?_
  rw [cW_a5]
  refine hR.run0 6 (S' := (13, [some (vR 50), some (vI 2)], [vI 5, vI 2], cW (sAt (sAt (sS τ 7 0) 5 0 0) 5 1 0) κ)) rfl ?_
  refine hR.br (C := 5 ≤ 2) rfl (by (try dsimp only); omega) (fun c3 => ?_) (fun c3 => ?_)
  · exfalso; omega
  refine hR.run1 5 (S' := (23, [some (vR 50), some (vI 2)], [], pset (cW (sAt (sAt (sS τ 7 0) 5 0 0) 5 1 0) κ) 52 (.inl (5, .inl (pup ((sAt (sAt (sS τ 7 0) 5 0 0) 5 1 0).2.1 5) 2 0))))) rfl (by (try dsimp only); omega) ?_
  rw [cW_a5]
  refine hR.run0 6 (S' := (13, [some (vR 50), some (vI 3)], [vI 5, vI 3], cW (sAt (sAt (sAt (sS τ 7 0) 5 0 0) 5 1 0) 5 2 0) κ)) rfl ?_
  refine hR.br (C := 5 ≤ 3) rfl (by (try dsimp only); omega) (fun c4 => ?_) (fun c4 => ?_)
  · exfalso; omega
  refine hR.run1 5 (S' := (23, [some (vR 50), some (vI 3)], [], pset (cW (sAt (sAt (sAt (sS τ 7 0) 5 0 0) 5 1 0) 5 2 0) κ) 52 (.inl (5, .inl (pup ((sAt (sAt (sAt (sS τ 7 0) 5 0 0) 5 1 0) 5 2 0).2.1 5) 3 0))))) rfl (by (try dsimp only); omega) ?_
  rw [cW_a5]
  refine hR.run0 6 (S' := (13, [some (vR 50), some (vI 4)], [vI 5, vI 4], cW (sAt (sAt (sAt (sAt (sS τ 7 0) 5 0 0) 5 1 0) 5 2 0) 5 3 0) κ)) rfl ?_
  refine hR.br (C := 5 ≤ 4) rfl (by (try dsimp only); omega) (fun c5 => ?_) (fun c5 => ?_)
  · exfalso; omega
  refine hR.run1 5 (S' := (23, [some (vR 50), some (vI 4)], [], pset (cW (sAt (sAt (sAt (sAt (sS τ 7 0) 5 0 0) 5 1 0) 5 2 0) 5 3 0) κ) 52 (.inl (5, .inl (pup ((sAt (sAt (sAt (sAt (sS τ 7 0) 5 0 0) 5 1 0) 5 2 0) 5 3 0).2.1 5) 4 0))))) rfl (by (try dsimp only); omega) ?_
  rw [cW_a5]
  refine hR.run0 6 (S' := (13, [some (vR 50), some (vI 5)], [vI 5, vI 5], cW (sAt (sAt (sAt (sAt (sAt (sS τ 7 0) 5 0 0) 5 1 0) 5 2 0) 5 3 0) 5 4 0) κ)) rfl ?_
  refine hR.br (C := 5 ≤ 5) rfl (by (try dsimp only); omega) (fun c6 => ?_) (fun c6 => ?_)
  · skip
    exact hR.rt rfl trivial (by rfl) (by rfl)
  · exfalso; omega
theorem sp_use_00 (τ κ : St) (hkn : ∀ p, 0 ≤ τ.2.1 6 p ∧ τ.2.1 6 p ≤ 14) (har : -1 ≤ τ.1 8 ∧ τ.1 8 < 3) : Sp mX1_use roC 2 [vR 50, vI 0, vI 0] (cW τ κ) (.inl none) (cW (usS τ 0 0) κ) := by
  refine Sp.of (lk := lkX1) (tb := bX1_use) (by decide) lkX1_ok tX1_use (cW_keys _ _ _ _) (Nat.le_of_ble_eq_true rfl) (fun G hR => ?_)
  refine hR.run0 2 (S' := (2, [some (vR 50), some (vI 0), some (vI 0)], [vI 0, vI 0], cW τ κ)) rfl ?_
  refine hR.cs [vI 0, vI 0] kX1_37 rfl rfl (by first | decide | exact Nat.le_refl _) (by decide) (Nat.le_of_ble_eq_true rfl) rfl (sp_cPlace _ _ (by omega) (by omega)) ?_
  show G (5, [some (vR 50), some (vI 0), some (vI 0)], [vI 1], cW τ κ)
  refine hR.br (C := 1 = 0) rfl (by (try dsimp only); omega) (fun c1 => ?_) (fun c1 => ?_)
  · exfalso; omega
  refine hR.run1 10 (S' := (20, [some (vR 50), some (vI 0), some (vI 0)], [], pset (cW τ κ) 54 (.inl (5, .inl (pup (τ.2.2 1 0) 0 ((τ.2.2 1 0 0) - 1)))))) rfl (by (try dsimp only); omega) ?_
  rw [cW_c0]
  refine hR.run1 3 (S' := (25, [some (vR 50), some (vI 0), some (vI 0)], [], pset (cW (sHt τ 1 0 0 ((τ.2.2 1 0 0) - 1)) κ) 50 (.inr (1, [vR 51, vR 52, vR 53, vI ((sHt τ 1 0 0 ((τ.2.2 1 0 0) - 1)).1 6), vI 1, vI ((sHt τ 1 0 0 ((τ.2.2 1 0 0) - 1)).1 8)])))) rfl (by (try dsimp only); omega) ?_
  rw [cW_s7]
  refine hR.run0 1 (S' := (26, [some (vR 50), some (vI 0), some (vI 0)], [vI 0], cW (sS (sHt τ 1 0 0 ((τ.2.2 1 0 0) - 1)) 7 1) κ)) rfl ?_
  refine hR.br (C := 0 ≠ 0) rfl (by (try dsimp only); omega) (fun c2 => ?_) (fun c2 => ?_)
  · exfalso; omega
  refine hR.run1 8 (S' := (39, [some (vR 50), some (vI 0), some (vI 0)], [], pset (cW (sS (sHt τ 1 0 0 ((τ.2.2 1 0 0) - 1)) 7 1) κ) 53 (.inl (3, .inl (pup ((sS (sHt τ 1 0 0 ((τ.2.2 1 0 0) - 1)) 7 1).2.1 6) 0 ((τ.2.1 6 0) + 1)))))) rfl (by (try dsimp only); omega) ?_
  rw [cW_a6]
  refine hR.run0 2 (S' := (41, [some (vR 50), some (vI 0), some (vI 0)], [vI 0, vR 50], cW (sAt (sS (sHt τ 1 0 0 ((τ.2.2 1 0 0) - 1)) 7 1) 6 0 ((τ.2.1 6 0) + 1)) κ)) rfl ?_
  refine hR.cv [vI 0] kX1_41 rfl rfl ⟨_, _, _, rfl, rfl, rfl⟩ (by first | decide | exact Nat.le_refl _) (by decide) (Nat.le_of_ble_eq_true rfl) rfl (sp_updateArmy _ _ (by omega) (pup_b (f := τ.2.1 6) (fun i => ⟨(hkn i).1, by have := (hkn i).2; omega⟩) (by have : 0 ≤ τ.2.1 6 0 + 1 ∧ τ.2.1 6 0 + 1 ≤ 15 := (by have := hkn 0; omega); exact this)) har) ?_
  show G (44, [some (vR 50), some (vI 0), some (vI 0)], [], cW (armS (sAt (sS (sHt τ 1 0 0 ((τ.2.2 1 0 0) - 1)) 7 1) 6 0 ((τ.2.1 6 0) + 1)) 0) κ)
  exact hR.rt rfl trivial (by rfl) (by rfl)
theorem sp_use_10 (τ κ : St) (hkn : ∀ p, 0 ≤ τ.2.1 6 p ∧ τ.2.1 6 p ≤ 14) (har : -1 ≤ τ.1 8 ∧ τ.1 8 < 3) : Sp mX1_use roC 2 [vR 50, vI 1, vI 0] (cW τ κ) (.inl none) (cW (usS τ 1 0) κ) := by
  refine Sp.of (lk := lkX1) (tb := bX1_use) (by decide) lkX1_ok tX1_use (cW_keys _ _ _ _) (Nat.le_of_ble_eq_true rfl) (fun G hR => ?_)
  refine hR.run0 2 (S' := (2, [some (vR 50), some (vI 1), some (vI 0)], [vI 0, vI 1], cW τ κ)) rfl ?_
  refine hR.cs [vI 1, vI 0] kX1_37 rfl rfl (by first | decide | exact Nat.le_refl _) (by decide) (Nat.le_of_ble_eq_true rfl) rfl (sp_cPlace _ _ (by omega) (by omega)) ?_
  show G (5, [some (vR 50), some (vI 1), some (vI 0)], [vI 1], cW τ κ)
  refine hR.br (C := 1 = 0) rfl (by (try dsimp only); omega) (fun c1 => ?_) (fun c1 => ?_)
  · exfalso; omega
  refine hR.run1 10 (S' := (20, [some (vR 50), some (vI 1), some (vI 0)], [], pset (cW τ κ) 55 (.inl (5, .inl (pup (τ.2.2 1 1) 0 ((τ.2.2 1 1 0) - 1)))))) rfl (by (try dsimp only); omega) ?_
  rw [cW_c1]
  refine hR.run1 3 (S' := (25, [some (vR 50), some (vI 1), some (vI 0)], [], pset (cW (sHt τ 1 1 0 ((τ.2.2 1 1 0) - 1)) κ) 50 (.inr (1, [vR 51, vR 52, vR 53, vI ((sHt τ 1 1 0 ((τ.2.2 1 1 0) - 1)).1 6), vI 1, vI ((sHt τ 1 1 0 ((τ.2.2 1 1 0) - 1)).1 8)])))) rfl (by (try dsimp only); omega) ?_
  rw [cW_s7]
  refine hR.run0 1 (S' := (26, [some (vR 50), some (vI 1), some (vI 0)], [vI 0], cW (sS (sHt τ 1 1 0 ((τ.2.2 1 1 0) - 1)) 7 1) κ)) rfl ?_
  refine hR.br (C := 0 ≠ 0) rfl (by (try dsimp only); omega) (fun c2 => ?_) (fun c2 => ?_)
  · exfalso; omega
  refine hR.run1 8 (S' := (39, [some (vR 50), some (vI 1), some (vI 0)], [], pset (cW (sS (sHt τ 1 1 0 ((τ.2.2 1 1 0) - 1)) 7 1) κ) 53 (.inl (3, .inl (pup ((sS (sHt τ 1 1 0 ((τ.2.2 1 1 0) - 1)) 7 1).2.1 6) 1 ((τ.2.1 6 1) + 1)))))) rfl (by (try dsimp only); omega) ?_
  rw [cW_a6]
  refine hR.run0 2 (S' := (41, [some (vR 50), some (vI 1), some (vI 0)], [vI 1, vR 50], cW (sAt (sS (sHt τ 1 1 0 ((τ.2.2 1 1 0) - 1)) 7 1) 6 1 ((τ.2.1 6 1) + 1)) κ)) rfl ?_
  refine hR.cv [vI 1] kX1_41 rfl rfl ⟨_, _, _, rfl, rfl, rfl⟩ (by first | decide | exact Nat.le_refl _) (by decide) (Nat.le_of_ble_eq_true rfl) rfl (sp_updateArmy _ _ (by omega) (pup_b (f := τ.2.1 6) (fun i => ⟨(hkn i).1, by have := (hkn i).2; omega⟩) (by have : 0 ≤ τ.2.1 6 1 + 1 ∧ τ.2.1 6 1 + 1 ≤ 15 := (by have := hkn 1; omega); exact this)) har) ?_
  show G (44, [some (vR 50), some (vI 1), some (vI 0)], [], cW (armS (sAt (sS (sHt τ 1 1 0 ((τ.2.2 1 1 0) - 1)) 7 1) 6 1 ((τ.2.1 6 1) + 1)) 1) κ)
  exact hR.rt rfl trivial (by rfl) (by rfl)
theorem sp_use_20 (τ κ : St) (hkn : ∀ p, 0 ≤ τ.2.1 6 p ∧ τ.2.1 6 p ≤ 14) (har : -1 ≤ τ.1 8 ∧ τ.1 8 < 3) : Sp mX1_use roC 2 [vR 50, vI 2, vI 0] (cW τ κ) (.inl none) (cW (usS τ 2 0) κ) := by
  refine Sp.of (lk := lkX1) (tb := bX1_use) (by decide) lkX1_ok tX1_use (cW_keys _ _ _ _) (Nat.le_of_ble_eq_true rfl) (fun G hR => ?_)
  refine hR.run0 2 (S' := (2, [some (vR 50), some (vI 2), some (vI 0)], [vI 0, vI 2], cW τ κ)) rfl ?_
  refine hR.cs [vI 2, vI 0] kX1_37 rfl rfl (by first | decide | exact Nat.le_refl _) (by decide) (Nat.le_of_ble_eq_true rfl) rfl (sp_cPlace _ _ (by omega) (by omega)) ?_
  show G (5, [some (vR 50), some (vI 2), some (vI 0)], [vI 1], cW τ κ)
  refine hR.br (C := 1 = 0) rfl (by (try dsimp only); omega) (fun c1 => ?_) (fun c1 => ?_)
  · exfalso; omega
  refine hR.run1 10 (S' := (20, [some (vR 50), some (vI 2), some (vI 0)], [], pset (cW τ κ) 56 (.inl (5, .inl (pup (τ.2.2 1 2) 0 ((τ.2.2 1 2 0) - 1)))))) rfl (by (try dsimp only); omega) ?_
  rw [cW_c2]
  refine hR.run1 3 (S' := (25, [some (vR 50), some (vI 2), some (vI 0)], [], pset (cW (sHt τ 1 2 0 ((τ.2.2 1 2 0) - 1)) κ) 50 (.inr (1, [vR 51, vR 52, vR 53, vI ((sHt τ 1 2 0 ((τ.2.2 1 2 0) - 1)).1 6), vI 1, vI ((sHt τ 1 2 0 ((τ.2.2 1 2 0) - 1)).1 8)])))) rfl (by (try dsimp only); omega) ?_
  rw [cW_s7]
  refine hR.run0 1 (S' := (26, [some (vR 50), some (vI 2), some (vI 0)], [vI 0], cW (sS (sHt τ 1 2 0 ((τ.2.2 1 2 0) - 1)) 7 1) κ)) rfl ?_
  refine hR.br (C := 0 ≠ 0) rfl (by (try dsimp only); omega) (fun c2 => ?_) (fun c2 => ?_)
  · exfalso; omega
  refine hR.run1 8 (S' := (39, [some (vR 50), some (vI 2), some (vI 0)], [], pset (cW (sS (sHt τ 1 2 0 ((τ.2.2 1 2 0) - 1)) 7 1) κ) 53 (.inl (3, .inl (pup ((sS (sHt τ 1 2 0 ((τ.2.2 1 2 0) - 1)) 7 1).2.1 6) 2 ((τ.2.1 6 2) + 1)))))) rfl (by (try dsimp only); omega) ?_
  rw [cW_a6]
  refine hR.run0 2 (S' := (41, [some (vR 50), some (vI 2), some (vI 0)], [vI 2, vR 50], cW (sAt (sS (sHt τ 1 2 0 ((τ.2.2 1 2 0) - 1)) 7 1) 6 2 ((τ.2.1 6 2) + 1)) κ)) rfl ?_
  refine hR.cv [vI 2] kX1_41 rfl rfl ⟨_, _, _, rfl, rfl, rfl⟩ (by first | decide | exact Nat.le_refl _) (by decide) (Nat.le_of_ble_eq_true rfl) rfl (sp_updateArmy _ _ (by omega) (pup_b (f := τ.2.1 6) (fun i => ⟨(hkn i).1, by have := (hkn i).2; omega⟩) (by have : 0 ≤ τ.2.1 6 2 + 1 ∧ τ.2.1 6 2 + 1 ≤ 15 := (by have := hkn 2; omega); exact this)) har) ?_
  show G (44, [some (vR 50), some (vI 2), some (vI 0)], [], cW (armS (sAt (sS (sHt τ 1 2 0 ((τ.2.2 1 2 0) - 1)) 7 1) 6 2 ((τ.2.1 6 2) + 1)) 2) κ)
  exact hR.rt rfl trivial (by rfl) (by rfl)
theorem sp_use_01 (τ κ : St)  : Sp mX1_use roC 2 [vR 50, vI 0, vI 1] (cW τ κ) (.inl none) (cW (usS τ 0 1) κ) := by
  refine Sp.of (lk := lkX1) (tb := bX1_use) (by decide) lkX1_ok tX1_use (cW_keys _ _ _ _) (Nat.le_of_ble_eq_true rfl) (fun G hR => ?_)
  refine hR.run0 2 (S' := (2, [some (vR 50), some (vI 0), some (vI 1)], [vI 1, vI 0], cW τ κ)) rfl ?_
  refine hR.cs [vI 0, vI 1] kX1_37 rfl rfl (by first | decide | exact Nat.le_refl _) (by decide) (Nat.le_of_ble_eq_true rfl) rfl (sp_cPlace _ _ (by omega) (by omega)) ?_
  show G (5, [some (vR 50), some (vI 0), some (vI 1)], [vI 1], cW τ κ)
  refine hR.br (C := 1 = 0) rfl (by (try dsimp only); omega) (fun c1 => ?_) (fun c1 => ?_)
  · exfalso; omega
  refine hR.run1 10 (S' := (20, [some (vR 50), some (vI 0), some (vI 1)], [], pset (cW τ κ) 54 (.inl (5, .inl (pup (τ.2.2 1 0) 1 ((τ.2.2 1 0 1) - 1)))))) rfl (by (try dsimp only); omega) ?_
  rw [cW_c0]
  refine hR.run1 3 (S' := (25, [some (vR 50), some (vI 0), some (vI 1)], [], pset (cW (sHt τ 1 0 1 ((τ.2.2 1 0 1) - 1)) κ) 50 (.inr (1, [vR 51, vR 52, vR 53, vI ((sHt τ 1 0 1 ((τ.2.2 1 0 1) - 1)).1 6), vI 1, vI ((sHt τ 1 0 1 ((τ.2.2 1 0 1) - 1)).1 8)])))) rfl (by (try dsimp only); omega) ?_
  rw [cW_s7]
  refine hR.run0 1 (S' := (26, [some (vR 50), some (vI 0), some (vI 1)], [vI 1], cW (sS (sHt τ 1 0 1 ((τ.2.2 1 0 1) - 1)) 7 1) κ)) rfl ?_
  refine hR.br (C := 1 ≠ 0) rfl (by (try dsimp only); omega) (fun c2 => ?_) (fun c2 => ?_)
  · skip
    exact hR.rt rfl trivial (by rfl) (by rfl)
  · exfalso; omega
theorem sp_use_11 (τ κ : St)  : Sp mX1_use roC 2 [vR 50, vI 1, vI 1] (cW τ κ) (.inl none) (cW (usS τ 1 1) κ) := by
  refine Sp.of (lk := lkX1) (tb := bX1_use) (by decide) lkX1_ok tX1_use (cW_keys _ _ _ _) (Nat.le_of_ble_eq_true rfl) (fun G hR => ?_)
  refine hR.run0 2 (S' := (2, [some (vR 50), some (vI 1), some (vI 1)], [vI 1, vI 1], cW τ κ)) rfl ?_
  refine hR.cs [vI 1, vI 1] kX1_37 rfl rfl (by first | decide | exact Nat.le_refl _) (by decide) (Nat.le_of_ble_eq_true rfl) rfl (sp_cPlace _ _ (by omega) (by omega)) ?_
  show G (5, [some (vR 50), some (vI 1), some (vI 1)], [vI 1], cW τ κ)
  refine hR.br (C := 1 = 0) rfl (by (try dsimp only); omega) (fun c1 => ?_) (fun c1 => ?_)
  · exfalso; omega
  refine hR.run1 10 (S' := (20, [some (vR 50), some (vI 1), some (vI 1)], [], pset (cW τ κ) 55 (.inl (5, .inl (pup (τ.2.2 1 1) 1 ((τ.2.2 1 1 1) - 1)))))) rfl (by (try dsimp only); omega) ?_
  rw [cW_c1]
  refine hR.run1 3 (S' := (25, [some (vR 50), some (vI 1), some (vI 1)], [], pset (cW (sHt τ 1 1 1 ((τ.2.2 1 1 1) - 1)) κ) 50 (.inr (1, [vR 51, vR 52, vR 53, vI ((sHt τ 1 1 1 ((τ.2.2 1 1 1) - 1)).1 6), vI 1, vI ((sHt τ 1 1 1 ((τ.2.2 1 1 1) - 1)).1 8)])))) rfl (by (try dsimp only); omega) ?_
  rw [cW_s7]
  refine hR.run0 1 (S' := (26, [some (vR 50), some (vI 1), some (vI 1)], [vI 1], cW (sS (sHt τ 1 1 1 ((τ.2.2 1 1 1) - 1)) 7 1) κ)) rfl ?_
  refine hR.br (C := 1 ≠ 0) rfl (by (try dsimp only); omega) (fun c2 => ?_) (fun c2 => ?_)
  · skip
    exact hR.rt rfl trivial (by rfl) (by rfl)
  · exfalso; omega
theorem sp_use_21 (τ κ : St)  : Sp mX1_use roC 2 [vR 50, vI 2, vI 1] (cW τ κ) (.inl none) (cW (usS τ 2 1) κ) := by
  refine Sp.of (lk := lkX1) (tb := bX1_use) (by decide) lkX1_ok tX1_use (cW_keys _ _ _ _) (Nat.le_of_ble_eq_true rfl) (fun G hR => ?_)
  refine hR.run0 2 (S' := (2, [some (vR 50), some (vI 2), some (vI 1)], [vI 1, vI 2], cW τ κ)) rfl ?_
  refine hR.cs [vI 2, vI 1] kX1_37 rfl rfl (by first | decide | exact Nat.le_refl _) (by decide) (Nat.le_of_ble_eq_true rfl) rfl (sp_cPlace _ _ (by omega) (by omega)) ?_
  show G (5, [some (vR 50), some (vI 2), some (vI 1)], [vI 1], cW τ κ)
  refine hR.br (C := 1 = 0) rfl (by (try dsimp only); omega) (fun c1 => ?_) (fun c1 => ?_)
  · exfalso; omega
  refine hR.run1 10 (S' := (20, [some (vR 50), some (vI 2), some (vI 1)], [], pset (cW τ κ) 56 (.inl (5, .inl (pup (τ.2.2 1 2) 1 ((τ.2.2 1 2 1) - 1)))))) rfl (by (try dsimp only); omega) ?_
  rw [cW_c2]
  refine hR.run1 3 (S' := (25, [some (vR 50), some (vI 2), some (vI 1)], [], pset (cW (sHt τ 1 2 1 ((τ.2.2 1 2 1) - 1)) κ) 50 (.inr (1, [vR 51, vR 52, vR 53, vI ((sHt τ 1 2 1 ((τ.2.2 1 2 1) - 1)).1 6), vI 1, vI ((sHt τ 1 2 1 ((τ.2.2 1 2 1) - 1)).1 8)])))) rfl (by (try dsimp only); omega) ?_
  rw [cW_s7]
  refine hR.run0 1 (S' := (26, [some (vR 50), some (vI 2), some (vI 1)], [vI 1], cW (sS (sHt τ 1 2 1 ((τ.2.2 1 2 1) - 1)) 7 1) κ)) rfl ?_
  refine hR.br (C := 1 ≠ 0) rfl (by (try dsimp only); omega) (fun c2 => ?_) (fun c2 => ?_)
  · skip
    exact hR.rt rfl trivial (by rfl) (by rfl)
  · exfalso; omega
theorem sp_use_02 (τ κ : St)  : Sp mX1_use roC 2 [vR 50, vI 0, vI 2] (cW τ κ) (.inl none) (cW (usS τ 0 2) κ) := by
  refine Sp.of (lk := lkX1) (tb := bX1_use) (by decide) lkX1_ok tX1_use (cW_keys _ _ _ _) (Nat.le_of_ble_eq_true rfl) (fun G hR => ?_)
  refine hR.run0 2 (S' := (2, [some (vR 50), some (vI 0), some (vI 2)], [vI 2, vI 0], cW τ κ)) rfl ?_
  refine hR.cs [vI 0, vI 2] kX1_37 rfl rfl (by first | decide | exact Nat.le_refl _) (by decide) (Nat.le_of_ble_eq_true rfl) rfl (sp_cPlace _ _ (by omega) (by omega)) ?_
  show G (5, [some (vR 50), some (vI 0), some (vI 2)], [vI 1], cW τ κ)
  refine hR.br (C := 1 = 0) rfl (by (try dsimp only); omega) (fun c1 => ?_) (fun c1 => ?_)
  · exfalso; omega
  refine hR.run1 10 (S' := (20, [some (vR 50), some (vI 0), some (vI 2)], [], pset (cW τ κ) 54 (.inl (5, .inl (pup (τ.2.2 1 0) 2 ((τ.2.2 1 0 2) - 1)))))) rfl (by (try dsimp only); omega) ?_
  rw [cW_c0]
  refine hR.run1 3 (S' := (25, [some (vR 50), some (vI 0), some (vI 2)], [], pset (cW (sHt τ 1 0 2 ((τ.2.2 1 0 2) - 1)) κ) 50 (.inr (1, [vR 51, vR 52, vR 53, vI ((sHt τ 1 0 2 ((τ.2.2 1 0 2) - 1)).1 6), vI 1, vI ((sHt τ 1 0 2 ((τ.2.2 1 0 2) - 1)).1 8)])))) rfl (by (try dsimp only); omega) ?_
  rw [cW_s7]
  refine hR.run0 1 (S' := (26, [some (vR 50), some (vI 0), some (vI 2)], [vI 2], cW (sS (sHt τ 1 0 2 ((τ.2.2 1 0 2) - 1)) 7 1) κ)) rfl ?_
  refine hR.br (C := 2 ≠ 0) rfl (by (try dsimp only); omega) (fun c2 => ?_) (fun c2 => ?_)
  · skip
    exact hR.rt rfl trivial (by rfl) (by rfl)
  · exfalso; omega
theorem sp_use_12 (τ κ : St)  : Sp mX1_use roC 2 [vR 50, vI 1, vI 2] (cW τ κ) (.inl none) (cW (usS τ 1 2) κ) := by
  refine Sp.of (lk := lkX1) (tb := bX1_use) (by decide) lkX1_ok tX1_use (cW_keys _ _ _ _) (Nat.le_of_ble_eq_true rfl) (fun G hR => ?_)
  refine hR.run0 2 (S' := (2, [some (vR 50), some (vI 1), some (vI 2)], [vI 2, vI 1], cW τ κ)) rfl ?_
  refine hR.cs [vI 1, vI 2] kX1_37 rfl rfl (by first | decide | exact Nat.le_refl _) (by decide) (Nat.le_of_ble_eq_true rfl) rfl (sp_cPlace _ _ (by omega) (by omega)) ?_
  show G (5, [some (vR 50), some (vI 1), some (vI 2)], [vI 1], cW τ κ)
  refine hR.br (C := 1 = 0) rfl (by (try dsimp only); omega) (fun c1 => ?_) (fun c1 => ?_)
  · exfalso; omega
  refine hR.run1 10 (S' := (20, [some (vR 50), some (vI 1), some (vI 2)], [], pset (cW τ κ) 55 (.inl (5, .inl (pup (τ.2.2 1 1) 2 ((τ.2.2 1 1 2) - 1)))))) rfl (by (try dsimp only); omega) ?_
  rw [cW_c1]
  refine hR.run1 3 (S' := (25, [some (vR 50), some (vI 1), some (vI 2)], [], pset (cW (sHt τ 1 1 2 ((τ.2.2 1 1 2) - 1)) κ) 50 (.inr (1, [vR 51, vR 52, vR 53, vI ((sHt τ 1 1 2 ((τ.2.2 1 1 2) - 1)).1 6), vI 1, vI ((sHt τ 1 1 2 ((τ.2.2 1 1 2) - 1)).1 8)])))) rfl (by (try dsimp only); omega) ?_
  rw [cW_s7]
  refine hR.run0 1 (S' := (26, [some (vR 50), some (vI 1), some (vI 2)], [vI 2], cW (sS (sHt τ 1 1 2 ((τ.2.2 1 1 2) - 1)) 7 1) κ)) rfl ?_
  refine hR.br (C := 2 ≠ 0) rfl (by (try dsimp only); omega) (fun c2 => ?_) (fun c2 => ?_)
  · skip
    exact hR.rt rfl trivial (by rfl) (by rfl)
  · exfalso; omega
theorem sp_use_22 (τ κ : St)  : Sp mX1_use roC 2 [vR 50, vI 2, vI 2] (cW τ κ) (.inl none) (cW (usS τ 2 2) κ) := by
  refine Sp.of (lk := lkX1) (tb := bX1_use) (by decide) lkX1_ok tX1_use (cW_keys _ _ _ _) (Nat.le_of_ble_eq_true rfl) (fun G hR => ?_)
  refine hR.run0 2 (S' := (2, [some (vR 50), some (vI 2), some (vI 2)], [vI 2, vI 2], cW τ κ)) rfl ?_
  refine hR.cs [vI 2, vI 2] kX1_37 rfl rfl (by first | decide | exact Nat.le_refl _) (by decide) (Nat.le_of_ble_eq_true rfl) rfl (sp_cPlace _ _ (by omega) (by omega)) ?_
  show G (5, [some (vR 50), some (vI 2), some (vI 2)], [vI 1], cW τ κ)
  refine hR.br (C := 1 = 0) rfl (by (try dsimp only); omega) (fun c1 => ?_) (fun c1 => ?_)
  · exfalso; omega
  refine hR.run1 10 (S' := (20, [some (vR 50), some (vI 2), some (vI 2)], [], pset (cW τ κ) 56 (.inl (5, .inl (pup (τ.2.2 1 2) 2 ((τ.2.2 1 2 2) - 1)))))) rfl (by (try dsimp only); omega) ?_
  rw [cW_c2]
  refine hR.run1 3 (S' := (25, [some (vR 50), some (vI 2), some (vI 2)], [], pset (cW (sHt τ 1 2 2 ((τ.2.2 1 2 2) - 1)) κ) 50 (.inr (1, [vR 51, vR 52, vR 53, vI ((sHt τ 1 2 2 ((τ.2.2 1 2 2) - 1)).1 6), vI 1, vI ((sHt τ 1 2 2 ((τ.2.2 1 2 2) - 1)).1 8)])))) rfl (by (try dsimp only); omega) ?_
  rw [cW_s7]
  refine hR.run0 1 (S' := (26, [some (vR 50), some (vI 2), some (vI 2)], [vI 2], cW (sS (sHt τ 1 2 2 ((τ.2.2 1 2 2) - 1)) 7 1) κ)) rfl ?_
  refine hR.br (C := 2 ≠ 0) rfl (by (try dsimp only); omega) (fun c2 => ?_) (fun c2 => ?_)
  · skip
    exact hR.rt rfl trivial (by rfl) (by rfl)
  · exfalso; omega
theorem sp_use_03 (τ κ : St)  : Sp mX1_use roC 2 [vR 50, vI 0, vI 3] (cW τ κ) (.inl none) (cW (usS τ 0 3) κ) := by
  refine Sp.of (lk := lkX1) (tb := bX1_use) (by decide) lkX1_ok tX1_use (cW_keys _ _ _ _) (Nat.le_of_ble_eq_true rfl) (fun G hR => ?_)
  refine hR.run0 2 (S' := (2, [some (vR 50), some (vI 0), some (vI 3)], [vI 3, vI 0], cW τ κ)) rfl ?_
  refine hR.cs [vI 0, vI 3] kX1_37 rfl rfl (by first | decide | exact Nat.le_refl _) (by decide) (Nat.le_of_ble_eq_true rfl) rfl (sp_cPlace _ _ (by omega) (by omega)) ?_
  show G (5, [some (vR 50), some (vI 0), some (vI 3)], [vI 1], cW τ κ)
  refine hR.br (C := 1 = 0) rfl (by (try dsimp only); omega) (fun c1 => ?_) (fun c1 => ?_)
  · exfalso; omega
  refine hR.run1 10 (S' := (20, [some (vR 50), some (vI 0), some (vI 3)], [], pset (cW τ κ) 54 (.inl (5, .inl (pup (τ.2.2 1 0) 3 ((τ.2.2 1 0 3) - 1)))))) rfl (by (try dsimp only); omega) ?_
  rw [cW_c0]
  refine hR.run1 3 (S' := (25, [some (vR 50), some (vI 0), some (vI 3)], [], pset (cW (sHt τ 1 0 3 ((τ.2.2 1 0 3) - 1)) κ) 50 (.inr (1, [vR 51, vR 52, vR 53, vI ((sHt τ 1 0 3 ((τ.2.2 1 0 3) - 1)).1 6), vI 1, vI ((sHt τ 1 0 3 ((τ.2.2 1 0 3) - 1)).1 8)])))) rfl (by (try dsimp only); omega) ?_
  rw [cW_s7]
  refine hR.run0 1 (S' := (26, [some (vR 50), some (vI 0), some (vI 3)], [vI 3], cW (sS (sHt τ 1 0 3 ((τ.2.2 1 0 3) - 1)) 7 1) κ)) rfl ?_
  refine hR.br (C := 3 ≠ 0) rfl (by (try dsimp only); omega) (fun c2 => ?_) (fun c2 => ?_)
  · skip
    exact hR.rt rfl trivial (by rfl) (by rfl)
  · exfalso; omega
theorem sp_use_13 (τ κ : St)  : Sp mX1_use roC 2 [vR 50, vI 1, vI 3] (cW τ κ) (.inl none) (cW (usS τ 1 3) κ) := by
  refine Sp.of (lk := lkX1) (tb := bX1_use) (by decide) lkX1_ok tX1_use (cW_keys _ _ _ _) (Nat.le_of_ble_eq_true rfl) (fun G hR => ?_)
  refine hR.run0 2 (S' := (2, [some (vR 50), some (vI 1), some (vI 3)], [vI 3, vI 1], cW τ κ)) rfl ?_
  refine hR.cs [vI 1, vI 3] kX1_37 rfl rfl (by first | decide | exact Nat.le_refl _) (by decide) (Nat.le_of_ble_eq_true rfl) rfl (sp_cPlace _ _ (by omega) (by omega)) ?_
  show G (5, [some (vR 50), some (vI 1), some (vI 3)], [vI 1], cW τ κ)
  refine hR.br (C := 1 = 0) rfl (by (try dsimp only); omega) (fun c1 => ?_) (fun c1 => ?_)
  · exfalso; omega
  refine hR.run1 10 (S' := (20, [some (vR 50), some (vI 1), some (vI 3)], [], pset (cW τ κ) 55 (.inl (5, .inl (pup (τ.2.2 1 1) 3 ((τ.2.2 1 1 3) - 1)))))) rfl (by (try dsimp only); omega) ?_
  rw [cW_c1]
  refine hR.run1 3 (S' := (25, [some (vR 50), some (vI 1), some (vI 3)], [], pset (cW (sHt τ 1 1 3 ((τ.2.2 1 1 3) - 1)) κ) 50 (.inr (1, [vR 51, vR 52, vR 53, vI ((sHt τ 1 1 3 ((τ.2.2 1 1 3) - 1)).1 6), vI 1, vI ((sHt τ 1 1 3 ((τ.2.2 1 1 3) - 1)).1 8)])))) rfl (by (try dsimp only); omega) ?_
  rw [cW_s7]
  refine hR.run0 1 (S' := (26, [some (vR 50), some (vI 1), some (vI 3)], [vI 3], cW (sS (sHt τ 1 1 3 ((τ.2.2 1 1 3) - 1)) 7 1) κ)) rfl ?_
  refine hR.br (C := 3 ≠ 0) rfl (by (try dsimp only); omega) (fun c2 => ?_) (fun c2 => ?_)
  · skip
    exact hR.rt rfl trivial (by rfl) (by rfl)
  · exfalso; omega
theorem sp_use_23 (τ κ : St)  : Sp mX1_use roC 2 [vR 50, vI 2, vI 3] (cW τ κ) (.inl none) (cW (usS τ 2 3) κ) := by
  refine Sp.of (lk := lkX1) (tb := bX1_use) (by decide) lkX1_ok tX1_use (cW_keys _ _ _ _) (Nat.le_of_ble_eq_true rfl) (fun G hR => ?_)
  refine hR.run0 2 (S' := (2, [some (vR 50), some (vI 2), some (vI 3)], [vI 3, vI 2], cW τ κ)) rfl ?_
  refine hR.cs [vI 2, vI 3] kX1_37 rfl rfl (by first | decide | exact Nat.le_refl _) (by decide) (Nat.le_of_ble_eq_true rfl) rfl (sp_cPlace _ _ (by omega) (by omega)) ?_
  show G (5, [some (vR 50), some (vI 2), some (vI 3)], [vI 1], cW τ κ)
  refine hR.br (C := 1 = 0) rfl (by (try dsimp only); omega) (fun c1 => ?_) (fun c1 => ?_)
  · exfalso; omega
  refine hR.run1 10 (S' := (20, [some (vR 50), some (vI 2), some (vI 3)], [], pset (cW τ κ) 56 (.inl (5, .inl (pup (τ.2.2 1 2) 3 ((τ.2.2 1 2 3) - 1)))))) rfl (by (try dsimp only); omega) ?_
  rw [cW_c2]
  refine hR.run1 3 (S' := (25, [some (vR 50), some (vI 2), some (vI 3)], [], pset (cW (sHt τ 1 2 3 ((τ.2.2 1 2 3) - 1)) κ) 50 (.inr (1, [vR 51, vR 52, vR 53, vI ((sHt τ 1 2 3 ((τ.2.2 1 2 3) - 1)).1 6), vI 1, vI ((sHt τ 1 2 3 ((τ.2.2 1 2 3) - 1)).1 8)])))) rfl (by (try dsimp only); omega) ?_
  rw [cW_s7]
  refine hR.run0 1 (S' := (26, [some (vR 50), some (vI 2), some (vI 3)], [vI 3], cW (sS (sHt τ 1 2 3 ((τ.2.2 1 2 3) - 1)) 7 1) κ)) rfl ?_
  refine hR.br (C := 3 ≠ 0) rfl (by (try dsimp only); omega) (fun c2 => ?_) (fun c2 => ?_)
  · skip
    exact hR.rt rfl trivial (by rfl) (by rfl)
  · exfalso; omega
theorem sp_use_04 (τ κ : St)  : Sp mX1_use roC 2 [vR 50, vI 0, vI 4] (cW τ κ) (.inl none) (cW (usS τ 0 4) κ) := by
  refine Sp.of (lk := lkX1) (tb := bX1_use) (by decide) lkX1_ok tX1_use (cW_keys _ _ _ _) (Nat.le_of_ble_eq_true rfl) (fun G hR => ?_)
  refine hR.run0 2 (S' := (2, [some (vR 50), some (vI 0), some (vI 4)], [vI 4, vI 0], cW τ κ)) rfl ?_
  refine hR.cs [vI 0, vI 4] kX1_37 rfl rfl (by first | decide | exact Nat.le_refl _) (by decide) (Nat.le_of_ble_eq_true rfl) rfl (sp_cPlace _ _ (by omega) (by omega)) ?_
  show G (5, [some (vR 50), some (vI 0), some (vI 4)], [vI 1], cW τ κ)
  refine hR.br (C := 1 = 0) rfl (by (try dsimp only); omega) (fun c1 => ?_) (fun c1 => ?_)
  · exfalso; omega
  refine hR.run1 10 (S' := (20, [some (vR 50), some (vI 0), some (vI 4)], [], pset (cW τ κ) 54 (.inl (5, .inl (pup (τ.2.2 1 0) 4 ((τ.2.2 1 0 4) - 1)))))) rfl (by (try dsimp only); omega) ?_
  rw [cW_c0]
  refine hR.run1 3 (S' := (25, [some (vR 50), some (vI 0), some (vI 4)], [], pset (cW (sHt τ 1 0 4 ((τ.2.2 1 0 4) - 1)) κ) 50 (.inr (1, [vR 51, vR 52, vR 53, vI ((sHt τ 1 0 4 ((τ.2.2 1 0 4) - 1)).1 6), vI 1, vI ((sHt τ 1 0 4 ((τ.2.2 1 0 4) - 1)).1 8)])))) rfl (by (try dsimp only); omega) ?_
  rw [cW_s7]
  refine hR.run0 1 (S' := (26, [some (vR 50), some (vI 0), some (vI 4)], [vI 4], cW (sS (sHt τ 1 0 4 ((τ.2.2 1 0 4) - 1)) 7 1) κ)) rfl ?_
  refine hR.br (C := 4 ≠ 0) rfl (by (try dsimp only); omega) (fun c2 => ?_) (fun c2 => ?_)
  · skip
    exact hR.rt rfl trivial (by rfl) (by rfl)
  · exfalso; omega
theorem sp_use_14 (τ κ : St)  : Sp mX1_use roC 2 [vR 50, vI 1, vI 4] (cW τ κ) (.inl none) (cW (usS τ 1 4) κ) := by
  refine Sp.of (lk := lkX1) (tb := bX1_use) (by decide) lkX1_ok tX1_use (cW_keys _ _ _ _) (Nat.le_of_ble_eq_true rfl) (fun G hR => ?_)
  refine hR.run0 2 (S' := (2, [some (vR 50), some (vI 1), some (vI 4)], [vI 4, vI 1], cW τ κ)) rfl ?_
  refine hR.cs [vI 1, vI 4] kX1_37 rfl rfl (by first | decide | exact Nat.le_refl _) (by decide) (Nat.le_of_ble_eq_true rfl) rfl (sp_cPlace _ _ (by omega) (by omega)) ?_
  show G (5, [some (vR 50), some (vI 1), some (vI 4)], [vI 1], cW τ κ)
  refine hR.br (C := 1 = 0) rfl (by (try dsimp only); omega) (fun c1 => ?_) (fun c1 => ?_)
  · exfalso; omega
  refine hR.run1 10 (S' := (20, [some (vR 50), some (vI 1), some (vI 4)], [], pset (cW τ κ) 55 (.inl (5, .inl (pup (τ.2.2 1 1) 4 ((τ.2.2 1 1 4) - 1)))))) rfl (by (try dsimp only); omega) ?_
  rw [cW_c1]
  refine hR.run1 3 (S' := (25, [some (vR 50), some (vI 1), some (vI 4)], [], pset (cW (sHt τ 1 1 4 ((τ.2.2 1 1 4) - 1)) κ) 50 (.inr (1, [vR 51, vR 52, vR 53, vI ((sHt τ 1 1 4 ((τ.2.2 1 1 4) - 1)).1 6), vI 1, vI ((sHt τ 1 1 4 ((τ.2.2 1 1 4) - 1)).1 8)])))) rfl (by (try dsimp only); omega) ?_
  rw [cW_s7]
  refine hR.run0 1 (S' := (26, [some (vR 50), some (vI 1), some (vI 4)], [vI 4], cW (sS (sHt τ 1 1 4 ((τ.2.2 1 1 4) - 1)) 7 1) κ)) rfl ?_
  refine hR.br (C := 4 ≠ 0) rfl (by (try dsimp only); omega) (fun c2 => ?_) (fun c2 => ?_)
  · skip
    exact hR.rt rfl trivial (by rfl) (by rfl)
  · exfalso; omega
theorem sp_use_24 (τ κ : St)  : Sp mX1_use roC 2 [vR 50, vI 2, vI 4] (cW τ κ) (.inl none) (cW (usS τ 2 4) κ) := by
  refine Sp.of (lk := lkX1) (tb := bX1_use) (by decide) lkX1_ok tX1_use (cW_keys _ _ _ _) (Nat.le_of_ble_eq_true rfl) (fun G hR => ?_)
  refine hR.run0 2 (S' := (2, [some (vR 50), some (vI 2), some (vI 4)], [vI 4, vI 2], cW τ κ)) rfl ?_
  refine hR.cs [vI 2, vI 4] kX1_37 rfl rfl (by first | decide | exact Nat.le_refl _) (by decide) (Nat.le_of_ble_eq_true rfl) rfl (sp_cPlace _ _ (by omega) (by omega)) ?_
  show G (5, [some (vR 50), some (vI 2), some (vI 4)], [vI 1], cW τ κ)
  refine hR.br (C := 1 = 0) rfl (by (try dsimp only); omega) (fun c1 => ?_) (fun c1 => ?_)
  · exfalso; omega
  refine hR.run1 10 (S' := (20, [some (vR 50), some (vI 2), some (vI 4)], [], pset (cW τ κ) 56 (.inl (5, .inl (pup (τ.2.2 1 2) 4 ((τ.2.2 1 2 4) - 1)))))) rfl (by (try dsimp only); omega) ?_
  rw [cW_c2]
  refine hR.run1 3 (S' := (25, [some (vR 50), some (vI 2), some (vI 4)], [], pset (cW (sHt τ 1 2 4 ((τ.2.2 1 2 4) - 1)) κ) 50 (.inr (1, [vR 51, vR 52, vR 53, vI ((sHt τ 1 2 4 ((τ.2.2 1 2 4) - 1)).1 6), vI 1, vI ((sHt τ 1 2 4 ((τ.2.2 1 2 4) - 1)).1 8)])))) rfl (by (try dsimp only); omega) ?_
  rw [cW_s7]
  refine hR.run0 1 (S' := (26, [some (vR 50), some (vI 2), some (vI 4)], [vI 4], cW (sS (sHt τ 1 2 4 ((τ.2.2 1 2 4) - 1)) 7 1) κ)) rfl ?_
  refine hR.br (C := 4 ≠ 0) rfl (by (try dsimp only); omega) (fun c2 => ?_) (fun c2 => ?_)
  · skip
    exact hR.rt rfl trivial (by rfl) (by rfl)
  · exfalso; omega
theorem sp_use0 (τ κ : St) {p : Int} (hkn : ∀ p, 0 ≤ τ.2.1 6 p ∧ τ.2.1 6 p ≤ 14) (har : -1 ≤ τ.1 8 ∧ τ.1 8 < 3) (hp : 0 ≤ p ∧ p < 3) : Sp mX1_use roC 2 [vR 50, vI p, vI 0] (cW τ κ) (.inl none) (cW (usS τ p 0) κ) := by
  rcases (show p = 0 ∨ p = 1 ∨ p = 2 from by omega) with rfl | rfl | rfl
  · exact sp_use_00 τ κ hkn har
  · exact sp_use_10 τ κ hkn har
  · exact sp_use_20 τ κ hkn har
theorem sp_use1 (τ κ : St) {p : Int} (hp : 0 ≤ p ∧ p < 3) : Sp mX1_use roC 2 [vR 50, vI p, vI 1] (cW τ κ) (.inl none) (cW (usS τ p 1) κ) := by
  rcases (show p = 0 ∨ p = 1 ∨ p = 2 from by omega) with rfl | rfl | rfl
  · exact sp_use_01 τ κ
  · exact sp_use_11 τ κ
  · exact sp_use_21 τ κ
theorem sp_use2 (τ κ : St) {p : Int} (hp : 0 ≤ p ∧ p < 3) : Sp mX1_use roC 2 [vR 50, vI p, vI 2] (cW τ κ) (.inl none) (cW (usS τ p 2) κ) := by
  rcases (show p = 0 ∨ p = 1 ∨ p = 2 from by omega) with rfl | rfl | rfl
  · exact sp_use_02 τ κ
  · exact sp_use_12 τ κ
  · exact sp_use_22 τ κ
theorem sp_use3 (τ κ : St) {p : Int} (hp : 0 ≤ p ∧ p < 3) : Sp mX1_use roC 2 [vR 50, vI p, vI 3] (cW τ κ) (.inl none) (cW (usS τ p 3) κ) := by
  rcases (show p = 0 ∨ p = 1 ∨ p = 2 from by omega) with rfl | rfl | rfl
  · exact sp_use_03 τ κ
  · exact sp_use_13 τ κ
  · exact sp_use_23 τ κ
theorem sp_use4 (τ κ : St) {p : Int} (hp : 0 ≤ p ∧ p < 3) : Sp mX1_use roC 2 [vR 50, vI p, vI 4] (cW τ κ) (.inl none) (cW (usS τ p 4) κ) := by
  rcases (show p = 0 ∨ p = 1 ∨ p = 2 from by omega) with rfl | rfl | rfl
  · exact sp_use_04 τ κ
  · exact sp_use_14 τ κ
  · exact sp_use_24 τ κ
theorem sp_setCounter (τ κ : St) {p : Int} (g w : Int) (hp : 0 ≤ p ∧ p < 3) : Sp mX0_setCounter roC 0 [vR 60, vI p, vI g, vI w] (cW τ κ) (.inl none) (cW (sAt (sAt τ 7 p g) 8 p w) κ) := by
  refine Sp.of (lk := lkX0) (tb := bX0_setCounter) (by decide) lkX0_ok tX0_setCounter (cW_keys _ _ _ _) (Nat.le_of_ble_eq_true rfl) (fun G hR => ?_)
  refine hR.run0 1 (S' := (1, [some (vR 60), some (vI p), some (vI g), some (vI w)], [vI p], cW τ κ)) rfl ?_
  refine hR.br (C := p < 0) rfl (by (try dsimp only); omega) (fun c1 => ?_) (fun c1 => ?_)
  · exfalso; omega
  refine hR.run0 2 (S' := (6, [some (vR 60), some (vI p), some (vI g), some (vI w)], [vI 3, vI p], cW τ κ)) rfl ?_
  refine hR.br (C := 3 ≤ p) rfl (by (try dsimp only); omega) (fun c2 => ?_) (fun c2 => ?_)
  · exfalso; omega
  refine hR.run1 5 (S' := (16, [some (vR 60), some (vI p), some (vI g), some (vI w)], [], pset (cW τ κ) 61 (.inl (3, .inl (pup (τ.2.1 7) p g))))) rfl (by (try dsimp only); omega) ?_
  rw [cW_a7]
  refine hR.run1 5 (S' := (23, [some (vR 60), some (vI p), some (vI g), some (vI w)], [], pset (cW (sAt τ 7 p g) κ) 62 (.inl (3, .inl (pup ((sAt τ 7 p g).2.1 8) p w))))) rfl (by (try dsimp only); omega) ?_
  rw [cW_a8]
  exact hR.rt rfl trivial (by rfl) (by rfl)
theorem sp_setOffer (τ κ : St) (g w : Int) : Sp mX0_setOffer roC 1 [vR 60, vI g, vI w] (cW τ κ) (.inl none) (cW (ofS τ g w) κ) := by
  refine Sp.of (lk := lkX0) (tb := bX0_setOffer) (by decide) lkX0_ok tX0_setOffer (cW_keys _ _ _ _) (Nat.le_of_ble_eq_true rfl) (fun G hR => ?_)
  refine hR.run0 3 (S' := (5, [some (vR 60), some (vI g), some (vI w), none], [], pset (cW τ κ) 60 (.inr (0, [vI g, vI (τ.1 10), vR 61, vR 62])))) rfl ?_
  rw [cW_s9]
  refine hR.run0 3 (S' := (10, [some (vR 60), some (vI g), some (vI w), none], [], pset (cW (sS τ 9 g) κ) 60 (.inr (0, [vI ((sS τ 9 g).1 9), vI w, vR 61, vR 62])))) rfl ?_
  rw [cW_s10]
  refine hR.run0 4 (S' := (14, [some (vR 60), some (vI g), some (vI w), some (vI 0)], [vI 3, vI 0], cW (sS (sS τ 9 g) 10 w) κ)) rfl ?_
  refine hR.br (C := 3 ≤ 0) rfl (by (try dsimp only); omega) (fun c1 => ?_) (fun c1 => ?_)
  · exfalso; omega
  refine hR.run0 4 (S' := (21, [some (vR 60), some (vI g), some (vI w), some (vI 0)], [vI 0, vI 0, vI 0, vR 60], cW (sS (sS τ 9 g) 10 w) κ)) rfl ?_
  refine hR.cv [vI 0, vI 0, vI 0] kX0_29 rfl rfl ⟨_, _, _, rfl, rfl, rfl⟩ (by first | decide | exact Nat.le_refl _) (by decide) (Nat.le_of_ble_eq_true rfl) rfl (sp_setCounter _ _ _ _ (by omega)) ?_
  show G (24, [some (vR 60), some (vI g), some (vI w), some (vI 0)], [], cW (sAt (sAt (sS (sS τ 9 g) 10 w) 7 0 0) 8 0 0) κ)
  refine hR.run0 4 (S' := (14, [some (vR 60), some (vI g), some (vI w), some (vI 1)], [vI 3, vI 1], cW (sAt (sAt (sS (sS τ 9 g) 10 w) 7 0 0) 8 0 0) κ)) rfl ?_
  refine hR.br (C := 3 ≤ 1) rfl (by (try dsimp only); omega) (fun c2 => ?_) (fun c2 => ?_)
  · exfalso; omega
  refine hR.run0 4 (S' := (21, [some (vR 60), some (vI g), some (vI w), some (vI 1)], [vI 0, vI 0, vI 1, vR 60], cW (sAt (sAt (sS (sS τ 9 g) 10 w) 7 0 0) 8 0 0) κ)) rfl ?_
  refine hR.cv [vI 1, vI 0, vI 0] kX0_29 rfl rfl ⟨_, _, _, rfl, rfl, rfl⟩ (by first | decide | exact Nat.le_refl _) (by decide) (Nat.le_of_ble_eq_true rfl) rfl (sp_setCounter _ _ _ _ (by omega)) ?_
  show G (24, [some (vR 60), some (vI g), some (vI w), some (vI 1)], [], cW (sAt (sAt (sAt (sAt (sS (sS τ 9 g) 10 w) 7 0 0) 8 0 0) 7 1 0) 8 1 0) κ)
  refine hR.run0 4 (S' := (14, [some (vR 60), some (vI g), some (vI w), some (vI 2)], [vI 3, vI 2], cW (sAt (sAt (sAt (sAt (sS (sS τ 9 g) 10 w) 7 0 0) 8 0 0) 7 1 0) 8 1 0) κ)) rfl ?_
  refine hR.br (C := 3 ≤ 2) rfl (by (try dsimp only); omega) (fun c3 => ?_) (fun c3 => ?_)
  · exfalso; omega
  refine hR.run0 4 (S' := (21, [some (vR 60), some (vI g), some (vI w), some (vI 2)], [vI 0, vI 0, vI 2, vR 60], cW (sAt (sAt (sAt (sAt (sS (sS τ 9 g) 10 w) 7 0 0) 8 0 0) 7 1 0) 8 1 0) κ)) rfl ?_
  refine hR.cv [vI 2, vI 0, vI 0] kX0_29 rfl rfl ⟨_, _, _, rfl, rfl, rfl⟩ (by first | decide | exact Nat.le_refl _) (by decide) (Nat.le_of_ble_eq_true rfl) rfl (sp_setCounter _ _ _ _ (by omega)) ?_
  show G (24, [some (vR 60), some (vI g), some (vI w), some (vI 2)], [], cW (sAt (sAt (sAt (sAt (sAt (sAt (sS (sS τ 9 g) 10 w) 7 0 0) 8 0 0) 7 1 0) 8 1 0) 7 2 0) 8 2 0) κ)
  refine hR.run0 4 (S' := (14, [some (vR 60), some (vI g), some (vI w), some (vI 3)], [vI 3, vI 3], cW (sAt (sAt (sAt (sAt (sAt (sAt (sS (sS τ 9 g) 10 w) 7 0 0) 8 0 0) 7 1 0) 8 1 0) 7 2 0) 8 2 0) κ)) rfl ?_
  refine hR.br (C := 3 ≤ 3) rfl (by (try dsimp only); omega) (fun c4 => ?_) (fun c4 => ?_)
  · skip
    exact hR.rt rfl trivial (by rfl) (by rfl)
  · exfalso; omega
theorem sp_clear (τ κ : St)  : Sp mX0_clear roC 2 [vR 60] (cW τ κ) (.inl none) (cW (ofS τ 0 0) κ) := by
  refine Sp.of (lk := lkX0) (tb := bX0_clear) (by decide) lkX0_ok tX0_clear (cW_keys _ _ _ _) (Nat.le_of_ble_eq_true rfl) (fun G hR => ?_)
  refine hR.run0 3 (S' := (3, [some (vR 60)], [vI 0, vI 0, vR 60], cW τ κ)) rfl ?_
  refine hR.cv [vI 0, vI 0] kX0_25 rfl rfl ⟨_, _, _, rfl, rfl, rfl⟩ (by first | decide | exact Nat.le_refl _) (by decide) (Nat.le_of_ble_eq_true rfl) rfl (sp_setOffer _ _ _ _) ?_
  show G (6, [some (vR 60)], [], cW (ofS τ 0 0) κ)
  exact hR.rt rfl trivial (by rfl) (by rfl)
theorem sp_isOffered (τ κ : St) (hgv : 0 ≤ τ.1 9 ∧ τ.1 9 ≤ 99999) : Sp mX0_isOffered roC 0 [vR 60] (cW τ κ) (.inl (some (vI (bI (decide (τ.1 9 ≠ 0)))))) (cW τ κ) := by
  refine Sp.of (lk := lkX0) (tb := bX0_isOffered) (by decide) lkX0_ok tX0_isOffered (cW_keys _ _ _ _) (Nat.le_of_ble_eq_true rfl) (fun G hR => ?_)
  refine hR.run0 2 (S' := (4, [some (vR 60)], [vI (τ.1 9)], cW τ κ)) rfl ?_
  refine hR.br (C := τ.1 9 = 0) rfl (by (try dsimp only); omega) (fun c1 => ?_) (fun c1 => ?_)
  · skip
    refine hR.run0 1 (S' := (12, [some (vR 60)], [vI 0], cW τ κ)) rfl ?_
    exact hR.rt rfl (Or.inl rfl) (by rw [show bI (decide (τ.1 9 ≠ 0)) = 0 from by simp_all [bI]]) (by rfl)
  · skip
    refine hR.run0 2 (S' := (12, [some (vR 60)], [vI 1], cW τ κ)) rfl ?_
    exact hR.rt rfl (Or.inr rfl) (by rw [show bI (decide (τ.1 9 ≠ 0)) = 1 from by simp_all [bI]]) (by rfl)
theorem sp_offerGive (τ κ : St)  : Sp mX0_offerGive roC 0 [vR 60] (cW τ κ) (.inl (some (vI (τ.1 9)))) (cW τ κ) := by
  refine Sp.of (lk := lkX0) (tb := bX0_offerGive) (by decide) lkX0_ok tX0_offerGive (cW_keys _ _ _ _) (Nat.le_of_ble_eq_true rfl) (fun G hR => ?_)
  refine hR.run0 2 (S' := (4, [some (vR 60)], [vI (τ.1 9)], cW τ κ)) rfl ?_
  exact hR.rt rfl trivial rfl (by rfl)
theorem sp_offerWant (τ κ : St)  : Sp mX0_offerWant roC 0 [vR 60] (cW τ κ) (.inl (some (vI (τ.1 10)))) (cW τ κ) := by
  refine Sp.of (lk := lkX0) (tb := bX0_offerWant) (by decide) lkX0_ok tX0_offerWant (cW_keys _ _ _ _) (Nat.le_of_ble_eq_true rfl) (fun G hR => ?_)
  refine hR.run0 2 (S' := (4, [some (vR 60)], [vI (τ.1 10)], cW τ κ)) rfl ?_
  exact hR.rt rfl trivial rfl (by rfl)
theorem sp_counterGive (τ κ : St) {p : Int} (hp : 0 ≤ p ∧ p < 3) : Sp mX0_counterGive roC 0 [vR 60, vI p] (cW τ κ) (.inl (some (vI (τ.2.1 7 p)))) (cW τ κ) := by
  refine Sp.of (lk := lkX0) (tb := bX0_counterGive) (by decide) lkX0_ok tX0_counterGive (cW_keys _ _ _ _) (Nat.le_of_ble_eq_true rfl) (fun G hR => ?_)
  refine hR.run0 1 (S' := (1, [some (vR 60), some (vI p)], [vI p], cW τ κ)) rfl ?_
  refine hR.br (C := p < 0) rfl (by (try dsimp only); omega) (fun c1 => ?_) (fun c1 => ?_)
  · exfalso; omega
  refine hR.run0 2 (S' := (6, [some (vR 60), some (vI p)], [vI 3, vI p], cW τ κ)) rfl ?_
  refine hR.br (C := 3 ≤ p) rfl (by (try dsimp only); omega) (fun c2 => ?_) (fun c2 => ?_)
  · exfalso; omega
  refine hR.run1 5 (S' := (19, [some (vR 60), some (vI p)], [vI (τ.2.1 7 p)], cW τ κ)) rfl (by (try dsimp only); omega) ?_
  exact hR.rt rfl trivial rfl (by rfl)
theorem sp_counterWant (τ κ : St) {p : Int} (hp : 0 ≤ p ∧ p < 3) : Sp mX0_counterWant roC 0 [vR 60, vI p] (cW τ κ) (.inl (some (vI (τ.2.1 8 p)))) (cW τ κ) := by
  refine Sp.of (lk := lkX0) (tb := bX0_counterWant) (by decide) lkX0_ok tX0_counterWant (cW_keys _ _ _ _) (Nat.le_of_ble_eq_true rfl) (fun G hR => ?_)
  refine hR.run0 1 (S' := (1, [some (vR 60), some (vI p)], [vI p], cW τ κ)) rfl ?_
  refine hR.br (C := p < 0) rfl (by (try dsimp only); omega) (fun c1 => ?_) (fun c1 => ?_)
  · exfalso; omega
  refine hR.run0 2 (S' := (6, [some (vR 60), some (vI p)], [vI 3, vI p], cW τ κ)) rfl ?_
  refine hR.br (C := 3 ≤ p) rfl (by (try dsimp only); omega) (fun c2 => ?_) (fun c2 => ?_)
  · exfalso; omega
  refine hR.run1 5 (S' := (19, [some (vR 60), some (vI p)], [vI (τ.2.1 8 p)], cW τ κ)) rfl (by (try dsimp only); omega) ?_
  exact hR.rt rfl trivial rfl (by rfl)
theorem sp_hasCounter (τ κ : St) {p : Int} (hp : 0 ≤ p ∧ p < 3) (hcg : ∀ p, 0 ≤ τ.2.1 7 p ∧ τ.2.1 7 p ≤ 99999) : Sp mX0_hasCounter roC 1 [vR 60, vI p] (cW τ κ) (.inl (some (vI (bI (decide (τ.2.1 7 p ≠ 0)))))) (cW τ κ) := by
  refine Sp.of (lk := lkX0) (tb := bX0_hasCounter) (by decide) lkX0_ok tX0_hasCounter (cW_keys _ _ _ _) (Nat.le_of_ble_eq_true rfl) (fun G hR => ?_)
  refine hR.run0 2 (S' := (2, [some (vR 60), some (vI p)], [vI p, vR 60], cW τ κ)) rfl ?_
  have f1 := hcg p
  refine hR.cv [vI p] kX0_33 rfl rfl ⟨_, _, _, rfl, rfl, rfl⟩ (by first | decide | exact Nat.le_refl _) (by decide) (Nat.le_of_ble_eq_true rfl) rfl (sp_counterGive _ _ (by omega)) ?_
  show G (5, [some (vR 60), some (vI p)], [vI (τ.2.1 7 p)], cW τ κ)
  refine hR.br (C := τ.2.1 7 p = 0) rfl (by (try dsimp only); omega) (fun c1 => ?_) (fun c1 => ?_)
  · skip
    refine hR.run0 1 (S' := (13, [some (vR 60), some (vI p)], [vI 0], cW τ κ)) rfl ?_
    exact hR.rt rfl (Or.inl rfl) (by rw [show bI (decide (τ.2.1 7 p ≠ 0)) = 0 from by simp_all [bI]]) (by rfl)
  · skip
    refine hR.run0 2 (S' := (13, [some (vR 60), some (vI p)], [vI 1], cW τ κ)) rfl ?_
    exact hR.rt rfl (Or.inr rfl) (by rw [show bI (decide (τ.2.1 7 p ≠ 0)) = 1 from by simp_all [bI]]) (by rfl)
