theorem sp_rIndex_ok (w : PW) {i b : Int} (hi : -2147483648 ≤ i ∧ i ≤ 2147483647) (hbb : 0 ≤ b ∧ b ≤ 100) (hcnd : 0 ≤ i ∧ i < b) : Sp mX5_requireIndex roC 0 [vI i, vI b] (w) (.inl none) (w) := by
  refine Sp.of (lk := lkX5) (tb := bX5_requireIndex) (by decide) lkX5_ok tX5_requireIndex rfl (Nat.le_of_ble_eq_true rfl) (fun G hR => ?_)
  refine hR.run0 1 (S' := (1, [some (vI i), some (vI b)], [vI i], w)) rfl ?_
  refine hR.br (C := i < 0) rfl (by (try dsimp only); omega) (fun c1 => ?_) (fun c1 => ?_)
  · skip
    exfalso; omega
  · skip
    refine hR.run0 2 (S' := (6, [some (vI i), some (vI b)], [vI b, vI i], w)) rfl ?_
    refine hR.br (C := i < b) rfl (by (try dsimp only); omega) (fun c2 => ?_) (fun c2 => ?_)
    · skip
      exact hR.rt rfl trivial (by rfl) (by rfl)
    · skip
      exfalso; omega
theorem sp_rIndex_x (w : PW) {i b : Int} (hi : -2147483648 ≤ i ∧ i ≤ 2147483647) (hbb : 0 ≤ b ∧ b ≤ 100) (hcnd : ¬ (0 ≤ i ∧ i < b)) : Sp mX5_requireIndex roC 0 [vI i, vI b] (w) (.inr xI) (w) := by
  refine Sp.of (lk := lkX5) (tb := bX5_requireIndex) (by decide) lkX5_ok tX5_requireIndex rfl (Nat.le_of_ble_eq_true rfl) (fun G hR => ?_)
  refine hR.run0 1 (S' := (1, [some (vI i), some (vI b)], [vI i], w)) rfl ?_
  refine hR.br (C := i < 0) rfl (by (try dsimp only); omega) (fun c1 => ?_) (fun c1 => ?_)
  · skip
    exact hR.th rfl rfl (Nat.le_of_ble_eq_true rfl) rfl rfl
  · skip
    refine hR.run0 2 (S' := (6, [some (vI i), some (vI b)], [vI b, vI i], w)) rfl ?_
    refine hR.br (C := i < b) rfl (by (try dsimp only); omega) (fun c2 => ?_) (fun c2 => ?_)
    · skip
      exfalso; omega
    · skip
      exact hR.th rfl rfl (Nat.le_of_ble_eq_true rfl) rfl rfl
theorem sp_rPlayer_ok (w : PW) {i : Int} (hi : -2147483648 ≤ i ∧ i ≤ 2147483647) (hcnd : 0 ≤ i ∧ i < 3) : Sp mX5_requirePlayer roC 1 [vI i] (w) (.inl none) (w) := by
  refine Sp.of (lk := lkX5) (tb := bX5_requirePlayer) (by decide) lkX5_ok tX5_requirePlayer rfl (Nat.le_of_ble_eq_true rfl) (fun G hR => ?_)
  refine hR.run0 2 (S' := (2, [some (vI i)], [vI 3, vI i], w)) rfl ?_
  by_cases q1 : 0 ≤ i ∧ i < 3
  · skip
    refine hR.cs [vI i, vI 3] kX5_298 rfl rfl (by first | decide | exact Nat.le_refl _) (by decide) (Nat.le_of_ble_eq_true rfl) rfl (sp_rIndex_ok _ (by omega) (by omega) q1) ?_
    show G (5, [some (vI i)], [], w)
    exact hR.rt rfl trivial (by rfl) (by rfl)
  · skip
    exfalso; omega
theorem sp_rPlayer_x (w : PW) {i : Int} (hi : -2147483648 ≤ i ∧ i ≤ 2147483647) (hcnd : ¬ (0 ≤ i ∧ i < 3)) : Sp mX5_requirePlayer roC 1 [vI i] (w) (.inr xI) (w) := by
  refine Sp.of (lk := lkX5) (tb := bX5_requirePlayer) (by decide) lkX5_ok tX5_requirePlayer rfl (Nat.le_of_ble_eq_true rfl) (fun G hR => ?_)
  refine hR.run0 2 (S' := (2, [some (vI i)], [vI 3, vI i], w)) rfl ?_
  by_cases q1 : 0 ≤ i ∧ i < 3
  · skip
    refine hR.cs [vI i, vI 3] kX5_298 rfl rfl (by first | decide | exact Nat.le_refl _) (by decide) (Nat.le_of_ble_eq_true rfl) rfl (sp_rIndex_ok _ (by omega) (by omega) q1) ?_
    show G (5, [some (vI i)], [], w)
    exfalso; omega
  · skip
    exact hR.csx [vI i, vI 3] kX5_298 rfl rfl (by decide) (by decide) (Nat.le_of_ble_eq_true rfl) rfl (sp_rIndex_x _ (by omega) (by omega) q1) (rfl) (rfl)
theorem sp_rHolder_ok (w : PW) {i : Int} (hi : -2147483648 ≤ i ∧ i ≤ 2147483647) (hcnd : 0 ≤ i ∧ i < 4) : Sp mX5_requireHolder roC 1 [vI i] (w) (.inl none) (w) := by
  refine Sp.of (lk := lkX5) (tb := bX5_requireHolder) (by decide) lkX5_ok tX5_requireHolder rfl (Nat.le_of_ble_eq_true rfl) (fun G hR => ?_)
  refine hR.run0 2 (S' := (2, [some (vI i)], [vI 4, vI i], w)) rfl ?_
  by_cases q1 : 0 ≤ i ∧ i < 4
  · skip
    refine hR.cs [vI i, vI 4] kX5_298 rfl rfl (by first | decide | exact Nat.le_refl _) (by decide) (Nat.le_of_ble_eq_true rfl) rfl (sp_rIndex_ok _ (by omega) (by omega) q1) ?_
    show G (5, [some (vI i)], [], w)
    exact hR.rt rfl trivial (by rfl) (by rfl)
  · skip
    exfalso; omega
theorem sp_rHolder_x (w : PW) {i : Int} (hi : -2147483648 ≤ i ∧ i ≤ 2147483647) (hcnd : ¬ (0 ≤ i ∧ i < 4)) : Sp mX5_requireHolder roC 1 [vI i] (w) (.inr xI) (w) := by
  refine Sp.of (lk := lkX5) (tb := bX5_requireHolder) (by decide) lkX5_ok tX5_requireHolder rfl (Nat.le_of_ble_eq_true rfl) (fun G hR => ?_)
  refine hR.run0 2 (S' := (2, [some (vI i)], [vI 4, vI i], w)) rfl ?_
  by_cases q1 : 0 ≤ i ∧ i < 4
  · skip
    refine hR.cs [vI i, vI 4] kX5_298 rfl rfl (by first | decide | exact Nat.le_refl _) (by decide) (Nat.le_of_ble_eq_true rfl) rfl (sp_rIndex_ok _ (by omega) (by omega) q1) ?_
    show G (5, [some (vI i)], [], w)
    exfalso; omega
  · skip
    exact hR.csx [vI i, vI 4] kX5_298 rfl rfl (by decide) (by decide) (Nat.le_of_ble_eq_true rfl) rfl (sp_rIndex_x _ (by omega) (by omega) q1) (rfl) (rfl)
theorem sp_rHex_ok (w : PW) {i : Int} (hi : -2147483648 ≤ i ∧ i ≤ 2147483647) (hcnd : 0 ≤ i ∧ i < 7) : Sp mX5_requireHex roC 1 [vI i] (w) (.inl none) (w) := by
  refine Sp.of (lk := lkX5) (tb := bX5_requireHex) (by decide) lkX5_ok tX5_requireHex rfl (Nat.le_of_ble_eq_true rfl) (fun G hR => ?_)
  refine hR.run0 2 (S' := (3, [some (vI i)], [vI 7, vI i], w)) rfl ?_
  by_cases q1 : 0 ≤ i ∧ i < 7
  · skip
    refine hR.cs [vI i, vI 7] kX5_298 rfl rfl (by first | decide | exact Nat.le_refl _) (by decide) (Nat.le_of_ble_eq_true rfl) rfl (sp_rIndex_ok _ (by omega) (by omega) q1) ?_
    show G (6, [some (vI i)], [], w)
    exact hR.rt rfl trivial (by rfl) (by rfl)
  · skip
    exfalso; omega
theorem sp_rHex_x (w : PW) {i : Int} (hi : -2147483648 ≤ i ∧ i ≤ 2147483647) (hcnd : ¬ (0 ≤ i ∧ i < 7)) : Sp mX5_requireHex roC 1 [vI i] (w) (.inr xI) (w) := by
  refine Sp.of (lk := lkX5) (tb := bX5_requireHex) (by decide) lkX5_ok tX5_requireHex rfl (Nat.le_of_ble_eq_true rfl) (fun G hR => ?_)
  refine hR.run0 2 (S' := (3, [some (vI i)], [vI 7, vI i], w)) rfl ?_
  by_cases q1 : 0 ≤ i ∧ i < 7
  · skip
    refine hR.cs [vI i, vI 7] kX5_298 rfl rfl (by first | decide | exact Nat.le_refl _) (by decide) (Nat.le_of_ble_eq_true rfl) rfl (sp_rIndex_ok _ (by omega) (by omega) q1) ?_
    show G (6, [some (vI i)], [], w)
    exfalso; omega
  · skip
    exact hR.csx [vI i, vI 7] kX5_298 rfl rfl (by decide) (by decide) (Nat.le_of_ble_eq_true rfl) rfl (sp_rIndex_x _ (by omega) (by omega) q1) (rfl) (rfl)
theorem sp_rCorner_ok (w : PW) {i : Int} (hi : -2147483648 ≤ i ∧ i ≤ 2147483647) (hcnd : 0 ≤ i ∧ i < 24) : Sp mX5_requireCorner roC 1 [vI i] (w) (.inl none) (w) := by
  refine Sp.of (lk := lkX5) (tb := bX5_requireCorner) (by decide) lkX5_ok tX5_requireCorner rfl (Nat.le_of_ble_eq_true rfl) (fun G hR => ?_)
  refine hR.run0 2 (S' := (3, [some (vI i)], [vI 24, vI i], w)) rfl ?_
  by_cases q1 : 0 ≤ i ∧ i < 24
  · skip
    refine hR.cs [vI i, vI 24] kX5_298 rfl rfl (by first | decide | exact Nat.le_refl _) (by decide) (Nat.le_of_ble_eq_true rfl) rfl (sp_rIndex_ok _ (by omega) (by omega) q1) ?_
    show G (6, [some (vI i)], [], w)
    exact hR.rt rfl trivial (by rfl) (by rfl)
  · skip
    exfalso; omega
theorem sp_rCorner_x (w : PW) {i : Int} (hi : -2147483648 ≤ i ∧ i ≤ 2147483647) (hcnd : ¬ (0 ≤ i ∧ i < 24)) : Sp mX5_requireCorner roC 1 [vI i] (w) (.inr xI) (w) := by
  refine Sp.of (lk := lkX5) (tb := bX5_requireCorner) (by decide) lkX5_ok tX5_requireCorner rfl (Nat.le_of_ble_eq_true rfl) (fun G hR => ?_)
  refine hR.run0 2 (S' := (3, [some (vI i)], [vI 24, vI i], w)) rfl ?_
  by_cases q1 : 0 ≤ i ∧ i < 24
  · skip
    refine hR.cs [vI i, vI 24] kX5_298 rfl rfl (by first | decide | exact Nat.le_refl _) (by decide) (Nat.le_of_ble_eq_true rfl) rfl (sp_rIndex_ok _ (by omega) (by omega) q1) ?_
    show G (6, [some (vI i)], [], w)
    exfalso; omega
  · skip
    exact hR.csx [vI i, vI 24] kX5_298 rfl rfl (by decide) (by decide) (Nat.le_of_ble_eq_true rfl) rfl (sp_rIndex_x _ (by omega) (by omega) q1) (rfl) (rfl)
theorem sp_rEdge_ok (w : PW) {i : Int} (hi : -2147483648 ≤ i ∧ i ≤ 2147483647) (hcnd : 0 ≤ i ∧ i < 30) : Sp mX5_requireEdge roC 1 [vI i] (w) (.inl none) (w) := by
  refine Sp.of (lk := lkX5) (tb := bX5_requireEdge) (by decide) lkX5_ok tX5_requireEdge rfl (Nat.le_of_ble_eq_true rfl) (fun G hR => ?_)
  refine hR.run0 2 (S' := (3, [some (vI i)], [vI 30, vI i], w)) rfl ?_
  by_cases q1 : 0 ≤ i ∧ i < 30
  · skip
    refine hR.cs [vI i, vI 30] kX5_298 rfl rfl (by first | decide | exact Nat.le_refl _) (by decide) (Nat.le_of_ble_eq_true rfl) rfl (sp_rIndex_ok _ (by omega) (by omega) q1) ?_
    show G (6, [some (vI i)], [], w)
    exact hR.rt rfl trivial (by rfl) (by rfl)
  · skip
    exfalso; omega
theorem sp_rEdge_x (w : PW) {i : Int} (hi : -2147483648 ≤ i ∧ i ≤ 2147483647) (hcnd : ¬ (0 ≤ i ∧ i < 30)) : Sp mX5_requireEdge roC 1 [vI i] (w) (.inr xI) (w) := by
  refine Sp.of (lk := lkX5) (tb := bX5_requireEdge) (by decide) lkX5_ok tX5_requireEdge rfl (Nat.le_of_ble_eq_true rfl) (fun G hR => ?_)
  refine hR.run0 2 (S' := (3, [some (vI i)], [vI 30, vI i], w)) rfl ?_
  by_cases q1 : 0 ≤ i ∧ i < 30
  · skip
    refine hR.cs [vI i, vI 30] kX5_298 rfl rfl (by first | decide | exact Nat.le_refl _) (by decide) (Nat.le_of_ble_eq_true rfl) rfl (sp_rIndex_ok _ (by omega) (by omega) q1) ?_
    show G (6, [some (vI i)], [], w)
    exfalso; omega
  · skip
    exact hR.csx [vI i, vI 30] kX5_298 rfl rfl (by decide) (by decide) (Nat.le_of_ble_eq_true rfl) rfl (sp_rIndex_x _ (by omega) (by omega) q1) (rfl) (rfl)
theorem sp_rGood_ok (w : PW) {i : Int} (hi : -2147483648 ≤ i ∧ i ≤ 2147483647) (hcnd : 0 ≤ i ∧ i < 5) : Sp mX5_requireGood roC 0 [vI i] (w) (.inl none) (w) := by
  refine Sp.of (lk := lkX5) (tb := bX5_requireGood) (by decide) lkX5_ok tX5_requireGood rfl (Nat.le_of_ble_eq_true rfl) (fun G hR => ?_)
  refine hR.run0 1 (S' := (1, [some (vI i)], [vI i], w)) rfl ?_
  refine hR.br (C := i < 0) rfl (by (try dsimp only); omega) (fun c1 => ?_) (fun c1 => ?_)
  · skip
    exfalso; omega
  · skip
    refine hR.run0 2 (S' := (6, [some (vI i)], [vI 5, vI i], w)) rfl ?_
    refine hR.br (C := i < 5) rfl (by (try dsimp only); omega) (fun c2 => ?_) (fun c2 => ?_)
    · skip
      exact hR.rt rfl trivial (by rfl) (by rfl)
    · skip
      exfalso; omega
theorem sp_rGood_x (w : PW) {i : Int} (hi : -2147483648 ≤ i ∧ i ≤ 2147483647) (hcnd : ¬ (0 ≤ i ∧ i < 5)) : Sp mX5_requireGood roC 0 [vI i] (w) (.inr xA) (w) := by
  refine Sp.of (lk := lkX5) (tb := bX5_requireGood) (by decide) lkX5_ok tX5_requireGood rfl (Nat.le_of_ble_eq_true rfl) (fun G hR => ?_)
  refine hR.run0 1 (S' := (1, [some (vI i)], [vI i], w)) rfl ?_
  refine hR.br (C := i < 0) rfl (by (try dsimp only); omega) (fun c1 => ?_) (fun c1 => ?_)
  · skip
    exact hR.th rfl rfl (Nat.le_of_ble_eq_true rfl) rfl rfl
  · skip
    refine hR.run0 2 (S' := (6, [some (vI i)], [vI 5, vI i], w)) rfl ?_
    refine hR.br (C := i < 5) rfl (by (try dsimp only); omega) (fun c2 => ?_) (fun c2 => ?_)
    · skip
      exfalso; omega
    · skip
      exact hR.th rfl rfl (Nat.le_of_ble_eq_true rfl) rfl rfl
theorem sp_rGoods_ok (w : PW) {i : Int} (hi : -2147483648 ≤ i ∧ i ≤ 2147483647) (hcnd : 0 ≤ i ∧ i ≤ 99999) : Sp mX5_requireGoods roC 0 [vI i] (w) (.inl none) (w) := by
  refine Sp.of (lk := lkX5) (tb := bX5_requireGoods) (by decide) lkX5_ok tX5_requireGoods rfl (Nat.le_of_ble_eq_true rfl) (fun G hR => ?_)
  refine hR.run0 1 (S' := (1, [some (vI i)], [vI i], w)) rfl ?_
  refine hR.br (C := i < 0) rfl (by (try dsimp only); omega) (fun c1 => ?_) (fun c1 => ?_)
  · skip
    exfalso; omega
  · skip
    refine hR.run0 2 (S' := (8, [some (vI i)], [vI 99999, vI i], w)) rfl ?_
    refine hR.br (C := i ≤ 99999) rfl (by (try dsimp only); omega) (fun c2 => ?_) (fun c2 => ?_)
    · skip
      exact hR.rt rfl trivial (by rfl) (by rfl)
    · skip
      exfalso; omega
theorem sp_rGoods_x (w : PW) {i : Int} (hi : -2147483648 ≤ i ∧ i ≤ 2147483647) (hcnd : ¬ (0 ≤ i ∧ i ≤ 99999)) : Sp mX5_requireGoods roC 0 [vI i] (w) (.inr xA) (w) := by
  refine Sp.of (lk := lkX5) (tb := bX5_requireGoods) (by decide) lkX5_ok tX5_requireGoods rfl (Nat.le_of_ble_eq_true rfl) (fun G hR => ?_)
  refine hR.run0 1 (S' := (1, [some (vI i)], [vI i], w)) rfl ?_
  refine hR.br (C := i < 0) rfl (by (try dsimp only); omega) (fun c1 => ?_) (fun c1 => ?_)
  · skip
    exact hR.th rfl rfl (Nat.le_of_ble_eq_true rfl) rfl rfl
  · skip
    refine hR.run0 2 (S' := (8, [some (vI i)], [vI 99999, vI i], w)) rfl ?_
    refine hR.br (C := i ≤ 99999) rfl (by (try dsimp only); omega) (fun c2 => ?_) (fun c2 => ?_)
    · skip
      exfalso; omega
    · skip
      exact hR.th rfl rfl (Nat.le_of_ble_eq_true rfl) rfl rfl
theorem sp_rSides_ok (w : PW) {i j : Int} (hi : -2147483648 ≤ i ∧ i ≤ 2147483647) (hj : -2147483648 ≤ j ∧ j ≤ 2147483647) (hcnd : (1 ≤ i ∧ i ≤ 99999) ∧ (1 ≤ j ∧ j ≤ 99999)) : Sp mX5_requireBothSides roC 1 [vI i, vI j] (w) (.inl none) (w) := by
  refine Sp.of (lk := lkX5) (tb := bX5_requireBothSides) (by decide) lkX5_ok tX5_requireBothSides rfl (Nat.le_of_ble_eq_true rfl) (fun G hR => ?_)
  refine hR.run0 1 (S' := (1, [some (vI i), some (vI j)], [vI i], w)) rfl ?_
  by_cases q1 : 0 ≤ i ∧ i ≤ 99999
  · skip
    refine hR.cs [vI i] kX5_129 rfl rfl (by first | decide | exact Nat.le_refl _) (by decide) (Nat.le_of_ble_eq_true rfl) rfl (sp_rGoods_ok _ (by omega) q1) ?_
    show G (4, [some (vI i), some (vI j)], [], w)
    refine hR.run0 1 (S' := (5, [some (vI i), some (vI j)], [vI j], w)) rfl ?_
    by_cases q2 : 0 ≤ j ∧ j ≤ 99999
    · skip
      refine hR.cs [vI j] kX5_129 rfl rfl (by first | decide | exact Nat.le_refl _) (by decide) (Nat.le_of_ble_eq_true rfl) rfl (sp_rGoods_ok _ (by omega) q2) ?_
      show G (8, [some (vI i), some (vI j)], [], w)
      refine hR.run0 1 (S' := (9, [some (vI i), some (vI j)], [vI i], w)) rfl ?_
      refine hR.br (C := i = 0) rfl (by (try dsimp only); omega) (fun c3 => ?_) (fun c3 => ?_)
      · skip
        exfalso; omega
      · skip
        refine hR.run0 1 (S' := (13, [some (vI i), some (vI j)], [vI j], w)) rfl ?_
        refine hR.br (C := j ≠ 0) rfl (by (try dsimp only); omega) (fun c4 => ?_) (fun c4 => ?_)
        · skip
          exact hR.rt rfl trivial (by rfl) (by rfl)
        · skip
          exfalso; omega
    · skip
      exfalso; omega
  · skip
    exfalso; omega
theorem sp_rSides_x (w : PW) {i j : Int} (hi : -2147483648 ≤ i ∧ i ≤ 2147483647) (hj : -2147483648 ≤ j ∧ j ≤ 2147483647) (hcnd : ¬ ((1 ≤ i ∧ i ≤ 99999) ∧ (1 ≤ j ∧ j ≤ 99999))) : Sp mX5_requireBothSides roC 1 [vI i, vI j] (w) (.inr xA) (w) := by
  refine Sp.of (lk := lkX5) (tb := bX5_requireBothSides) (by decide) lkX5_ok tX5_requireBothSides rfl (Nat.le_of_ble_eq_true rfl) (fun G hR => ?_)
  refine hR.run0 1 (S' := (1, [some (vI i), some (vI j)], [vI i], w)) rfl ?_
  by_cases q1 : 0 ≤ i ∧ i ≤ 99999
  · skip
    refine hR.cs [vI i] kX5_129 rfl rfl (by first | decide | exact Nat.le_refl _) (by decide) (Nat.le_of_ble_eq_true rfl) rfl (sp_rGoods_ok _ (by omega) q1) ?_
    show G (4, [some (vI i), some (vI j)], [], w)
    refine hR.run0 1 (S' := (5, [some (vI i), some (vI j)], [vI j], w)) rfl ?_
    by_cases q2 : 0 ≤ j ∧ j ≤ 99999
    · skip
      refine hR.cs [vI j] kX5_129 rfl rfl (by first | decide | exact Nat.le_refl _) (by decide) (Nat.le_of_ble_eq_true rfl) rfl (sp_rGoods_ok _ (by omega) q2) ?_
      show G (8, [some (vI i), some (vI j)], [], w)
      refine hR.run0 1 (S' := (9, [some (vI i), some (vI j)], [vI i], w)) rfl ?_
      refine hR.br (C := i = 0) rfl (by (try dsimp only); omega) (fun c3 => ?_) (fun c3 => ?_)
      · skip
        exact hR.th rfl rfl (Nat.le_of_ble_eq_true rfl) rfl rfl
      · skip
        refine hR.run0 1 (S' := (13, [some (vI i), some (vI j)], [vI j], w)) rfl ?_
        refine hR.br (C := j ≠ 0) rfl (by (try dsimp only); omega) (fun c4 => ?_) (fun c4 => ?_)
        · skip
          exfalso; omega
        · skip
          exact hR.th rfl rfl (Nat.le_of_ble_eq_true rfl) rfl rfl
    · skip
      exact hR.csx [vI j] kX5_129 rfl rfl (by decide) (by decide) (Nat.le_of_ble_eq_true rfl) rfl (sp_rGoods_x _ (by omega) q2) (rfl) (rfl)
  · skip
    exact hR.csx [vI i] kX5_129 rfl rfl (by decide) (by decide) (Nat.le_of_ble_eq_true rfl) rfl (sp_rGoods_x _ (by omega) q1) (rfl) (rfl)
theorem sp_rRobbery_ok (w : PW) {i j k : Int} (hi : -2147483648 ≤ i ∧ i ≤ 2147483647) (hj : -2147483648 ≤ j ∧ j ≤ 2147483647) (hk : -2147483648 ≤ k ∧ k ≤ 2147483647) (h1 : (0 ≤ i ∧ i < 7) ∧ (j = -1 ∨ (0 ≤ j ∧ j < 3))) (h2 : 0 ≤ k ∧ k ≤ 999) : Sp mX5_requireRobbery roC 2 [vI i, vI j, vI k] (w) (.inl none) (w) := by
  refine Sp.of (lk := lkX5) (tb := bX5_requireRobbery) (by decide) lkX5_ok tX5_requireRobbery rfl (Nat.le_of_ble_eq_true rfl) (fun G hR => ?_)
  refine hR.run0 1 (S' := (1, [some (vI i), some (vI j), some (vI k)], [vI i], w)) rfl ?_
  by_cases q1 : 0 ≤ i ∧ i < 7
  · skip
    refine hR.cs [vI i] kX5_68 rfl rfl (by first | decide | exact Nat.le_refl _) (by decide) (Nat.le_of_ble_eq_true rfl) rfl (sp_rHex_ok _ (by omega) q1) ?_
    show G (4, [some (vI i), some (vI j), some (vI k)], [], w)
    refine hR.run0 2 (S' := (6, [some (vI i), some (vI j), some (vI k)], [vI (-1), vI j], w)) rfl ?_
    refine hR.br (C := j = (-1)) rfl (by (try dsimp only); omega) (fun c2 => ?_) (fun c2 => ?_)
    · skip
      refine hR.run0 1 (S' := (14, [some (vI i), some (vI j), some (vI k)], [vI k], w)) rfl ?_
      refine hR.br (C := k < 0) rfl (by (try dsimp only); omega) (fun c3 => ?_) (fun c3 => ?_)
      · skip
        exfalso; omega
      · skip
        refine hR.run0 2 (S' := (21, [some (vI i), some (vI j), some (vI k)], [vI 999, vI k], w)) rfl ?_
        refine hR.br (C := k ≤ 999) rfl (by (try dsimp only); omega) (fun c4 => ?_) (fun c4 => ?_)
        · skip
          exact hR.rt rfl trivial (by rfl) (by rfl)
        · skip
          exfalso; omega
    · skip
      refine hR.run0 1 (S' := (10, [some (vI i), some (vI j), some (vI k)], [vI j], w)) rfl ?_
      by_cases q5 : 0 ≤ j ∧ j < 3
      · skip
        refine hR.cs [vI j] kX5_126 rfl rfl (by first | decide | exact Nat.le_refl _) (by decide) (Nat.le_of_ble_eq_true rfl) rfl (sp_rPlayer_ok _ (by omega) q5) ?_
        show G (13, [some (vI i), some (vI j), some (vI k)], [], w)
        refine hR.run0 1 (S' := (14, [some (vI i), some (vI j), some (vI k)], [vI k], w)) rfl ?_
        refine hR.br (C := k < 0) rfl (by (try dsimp only); omega) (fun c6 => ?_) (fun c6 => ?_)
        · skip
          exfalso; omega
        · skip
          refine hR.run0 2 (S' := (21, [some (vI i), some (vI j), some (vI k)], [vI 999, vI k], w)) rfl ?_
          refine hR.br (C := k ≤ 999) rfl (by (try dsimp only); omega) (fun c7 => ?_) (fun c7 => ?_)
          · skip
            exact hR.rt rfl trivial (by rfl) (by rfl)
          · skip
            exfalso; omega
      · skip
        exfalso; omega
  · skip
    exfalso; omega
theorem sp_rRobbery_xi (w : PW) {i j k : Int} (hi : -2147483648 ≤ i ∧ i ≤ 2147483647) (hj : -2147483648 ≤ j ∧ j ≤ 2147483647) (hk : -2147483648 ≤ k ∧ k ≤ 2147483647) (h1 : ¬ ((0 ≤ i ∧ i < 7) ∧ (j = -1 ∨ (0 ≤ j ∧ j < 3)))) : Sp mX5_requireRobbery roC 2 [vI i, vI j, vI k] (w) (.inr xI) (w) := by
  refine Sp.of (lk := lkX5) (tb := bX5_requireRobbery) (by decide) lkX5_ok tX5_requireRobbery rfl (Nat.le_of_ble_eq_true rfl) (fun G hR => ?_)
  refine hR.run0 1 (S' := (1, [some (vI i), some (vI j), some (vI k)], [vI i], w)) rfl ?_
  by_cases q1 : 0 ≤ i ∧ i < 7
  · skip
    refine hR.cs [vI i] kX5_68 rfl rfl (by first | decide | exact Nat.le_refl _) (by decide) (Nat.le_of_ble_eq_true rfl) rfl (sp_rHex_ok _ (by omega) q1) ?_
    show G (4, [some (vI i), some (vI j), some (vI k)], [], w)
    refine hR.run0 2 (S' := (6, [some (vI i), some (vI j), some (vI k)], [vI (-1), vI j], w)) rfl ?_
    refine hR.br (C := j = (-1)) rfl (by (try dsimp only); omega) (fun c2 => ?_) (fun c2 => ?_)
    · skip
      refine hR.run0 1 (S' := (14, [some (vI i), some (vI j), some (vI k)], [vI k], w)) rfl ?_
      refine hR.br (C := k < 0) rfl (by (try dsimp only); omega) (fun c3 => ?_) (fun c3 => ?_)
      · skip
        exfalso; omega
      · skip
        refine hR.run0 2 (S' := (21, [some (vI i), some (vI j), some (vI k)], [vI 999, vI k], w)) rfl ?_
        refine hR.br (C := k ≤ 999) rfl (by (try dsimp only); omega) (fun c4 => ?_) (fun c4 => ?_)
        · skip
          exfalso; omega
        · skip
          exfalso; omega
    · skip
      refine hR.run0 1 (S' := (10, [some (vI i), some (vI j), some (vI k)], [vI j], w)) rfl ?_
      by_cases q5 : 0 ≤ j ∧ j < 3
      · skip
        refine hR.cs [vI j] kX5_126 rfl rfl (by first | decide | exact Nat.le_refl _) (by decide) (Nat.le_of_ble_eq_true rfl) rfl (sp_rPlayer_ok _ (by omega) q5) ?_
        show G (13, [some (vI i), some (vI j), some (vI k)], [], w)
        refine hR.run0 1 (S' := (14, [some (vI i), some (vI j), some (vI k)], [vI k], w)) rfl ?_
        refine hR.br (C := k < 0) rfl (by (try dsimp only); omega) (fun c6 => ?_) (fun c6 => ?_)
        · skip
          exfalso; omega
        · skip
          refine hR.run0 2 (S' := (21, [some (vI i), some (vI j), some (vI k)], [vI 999, vI k], w)) rfl ?_
          refine hR.br (C := k ≤ 999) rfl (by (try dsimp only); omega) (fun c7 => ?_) (fun c7 => ?_)
          · skip
            exfalso; omega
          · skip
            exfalso; omega
      · skip
        exact hR.csx [vI j] kX5_126 rfl rfl (by decide) (by decide) (Nat.le_of_ble_eq_true rfl) rfl (sp_rPlayer_x _ (by omega) q5) (rfl) (rfl)
  · skip
    exact hR.csx [vI i] kX5_68 rfl rfl (by decide) (by decide) (Nat.le_of_ble_eq_true rfl) rfl (sp_rHex_x _ (by omega) q1) (rfl) (rfl)
theorem sp_rRobbery_xa (w : PW) {i j k : Int} (hi : -2147483648 ≤ i ∧ i ≤ 2147483647) (hj : -2147483648 ≤ j ∧ j ≤ 2147483647) (hk : -2147483648 ≤ k ∧ k ≤ 2147483647) (h1 : (0 ≤ i ∧ i < 7) ∧ (j = -1 ∨ (0 ≤ j ∧ j < 3))) (h2 : ¬ (0 ≤ k ∧ k ≤ 999)) : Sp mX5_requireRobbery roC 2 [vI i, vI j, vI k] (w) (.inr xA) (w) := by
  refine Sp.of (lk := lkX5) (tb := bX5_requireRobbery) (by decide) lkX5_ok tX5_requireRobbery rfl (Nat.le_of_ble_eq_true rfl) (fun G hR => ?_)
  refine hR.run0 1 (S' := (1, [some (vI i), some (vI j), some (vI k)], [vI i], w)) rfl ?_
  by_cases q1 : 0 ≤ i ∧ i < 7
  · skip
    refine hR.cs [vI i] kX5_68 rfl rfl (by first | decide | exact Nat.le_refl _) (by decide) (Nat.le_of_ble_eq_true rfl) rfl (sp_rHex_ok _ (by omega) q1) ?_
    show G (4, [some (vI i), some (vI j), some (vI k)], [], w)
    refine hR.run0 2 (S' := (6, [some (vI i), some (vI j), some (vI k)], [vI (-1), vI j], w)) rfl ?_
    refine hR.br (C := j = (-1)) rfl (by (try dsimp only); omega) (fun c2 => ?_) (fun c2 => ?_)
    · skip
      refine hR.run0 1 (S' := (14, [some (vI i), some (vI j), some (vI k)], [vI k], w)) rfl ?_
      refine hR.br (C := k < 0) rfl (by (try dsimp only); omega) (fun c3 => ?_) (fun c3 => ?_)
      · skip
        exact hR.th rfl rfl (Nat.le_of_ble_eq_true rfl) rfl rfl
      · skip
        refine hR.run0 2 (S' := (21, [some (vI i), some (vI j), some (vI k)], [vI 999, vI k], w)) rfl ?_
        refine hR.br (C := k ≤ 999) rfl (by (try dsimp only); omega) (fun c4 => ?_) (fun c4 => ?_)
        · skip
          exfalso; omega
        · skip
          exact hR.th rfl rfl (Nat.le_of_ble_eq_true rfl) rfl rfl
    · skip
      refine hR.run0 1 (S' := (10, [some (vI i), some (vI j), some (vI k)], [vI j], w)) rfl ?_
      by_cases q5 : 0 ≤ j ∧ j < 3
      · skip
        refine hR.cs [vI j] kX5_126 rfl rfl (by first | decide | exact Nat.le_refl _) (by decide) (Nat.le_of_ble_eq_true rfl) rfl (sp_rPlayer_ok _ (by omega) q5) ?_
        show G (13, [some (vI i), some (vI j), some (vI k)], [], w)
        refine hR.run0 1 (S' := (14, [some (vI i), some (vI j), some (vI k)], [vI k], w)) rfl ?_
        refine hR.br (C := k < 0) rfl (by (try dsimp only); omega) (fun c6 => ?_) (fun c6 => ?_)
        · skip
          exact hR.th rfl rfl (Nat.le_of_ble_eq_true rfl) rfl rfl
        · skip
          refine hR.run0 2 (S' := (21, [some (vI i), some (vI j), some (vI k)], [vI 999, vI k], w)) rfl ?_
          refine hR.br (C := k ≤ 999) rfl (by (try dsimp only); omega) (fun c7 => ?_) (fun c7 => ?_)
          · skip
            exfalso; omega
          · skip
            exact hR.th rfl rfl (Nat.le_of_ble_eq_true rfl) rfl rfl
      · skip
        exfalso; omega
  · skip
    exfalso; omega
theorem sp_rSo_ok (w : PW) {i : Int} (hi : i = 0 ∨ i = 1) (hcnd : i = 1) : Sp mX5_requireSo roC 0 [vI i] (w) (.inl none) (w) := by
  refine Sp.of (lk := lkX5) (tb := bX5_requireSo) (by decide) lkX5_ok tX5_requireSo rfl (Nat.le_of_ble_eq_true rfl) (fun G hR => ?_)
  refine hR.run0 1 (S' := (1, [some (vI i)], [vI i], w)) rfl ?_
  refine hR.br (C := i ≠ 0) rfl (by (try dsimp only); omega) (fun c1 => ?_) (fun c1 => ?_)
  · skip
    exact hR.rt rfl trivial (by rfl) (by rfl)
  · skip
    exfalso; omega
theorem sp_rSo_x (w : PW) {i : Int} (hi : i = 0 ∨ i = 1) (hcnd : ¬ (i = 1)) : Sp mX5_requireSo roC 0 [vI i] (w) (.inr xS) (w) := by
  refine Sp.of (lk := lkX5) (tb := bX5_requireSo) (by decide) lkX5_ok tX5_requireSo rfl (Nat.le_of_ble_eq_true rfl) (fun G hR => ?_)
  refine hR.run0 1 (S' := (1, [some (vI i)], [vI i], w)) rfl ?_
  refine hR.br (C := i ≠ 0) rfl (by (try dsimp only); omega) (fun c1 => ?_) (fun c1 => ?_)
  · skip
    exfalso; omega
  · skip
    exact hR.th rfl rfl (Nat.le_of_ble_eq_true rfl) rfl rfl
theorem sp_rSob_ok (w : PW) {b : Bool} (h : b = true) : Sp mX5_requireSo roC 0 [vI (bI b)] w (.inl none) w := by
  subst h
  exact sp_rSo_ok w (Or.inr rfl) rfl
theorem sp_rSob_x (w : PW) {b : Bool} (h : b = false) : Sp mX5_requireSo roC 0 [vI (bI b)] w (.inr xS) w := by
  subst h
  exact sp_rSo_x w (Or.inl rfl) (by decide)
theorem sp_rPhase_ok (τ κ : St) {i : Int} (hi : 0 ≤ i ∧ i ≤ 5) (hph : 0 ≤ τ.1 0 ∧ τ.1 0 ≤ 5) (hcnd : τ.1 0 = i) : Sp mX5_requirePhase roC 0 [vR 0, vI i] (cW τ κ) (.inl none) (cW τ κ) := by
  refine Sp.of (lk := lkX5) (tb := bX5_requirePhase) (by decide) lkX5_ok tX5_requirePhase (cW_keys _ _ _ _) (Nat.le_of_ble_eq_true rfl) (fun G hR => ?_)
  refine hR.run0 3 (S' := (5, [some (vR 0), some (vI i)], [vI i, vI (τ.1 0)], cW τ κ)) rfl ?_
  refine hR.br (C := τ.1 0 = i) rfl (by (try dsimp only); omega) (fun c1 => ?_) (fun c1 => ?_)
  · skip
    exact hR.rt rfl trivial (by rfl) (by rfl)
  · skip
    exfalso; omega
theorem sp_rPhase_x (τ κ : St) {i : Int} (hi : 0 ≤ i ∧ i ≤ 5) (hph : 0 ≤ τ.1 0 ∧ τ.1 0 ≤ 5) (hcnd : ¬ (τ.1 0 = i)) : Sp mX5_requirePhase roC 0 [vR 0, vI i] (cW τ κ) (.inr xS) (cW τ κ) := by
  refine Sp.of (lk := lkX5) (tb := bX5_requirePhase) (by decide) lkX5_ok tX5_requirePhase (cW_keys _ _ _ _) (Nat.le_of_ble_eq_true rfl) (fun G hR => ?_)
  refine hR.run0 3 (S' := (5, [some (vR 0), some (vI i)], [vI i, vI (τ.1 0)], cW τ κ)) rfl ?_
  refine hR.br (C := τ.1 0 = i) rfl (by (try dsimp only); omega) (fun c1 => ?_) (fun c1 => ?_)
  · skip
    exfalso; omega
  · skip
    exact hR.th rfl rfl (Nat.le_of_ble_eq_true rfl) rfl rfl
theorem sp_rHas_ok (τ κ : St) {p n : Int} (hp : 0 ≤ p ∧ p < 4) (hn : 0 ≤ n ∧ n ≤ 99999) (hh : ∀ p g, 0 ≤ τ.2.2 0 p g ∧ τ.2.2 0 p g ≤ 12) (hcnd : hasG (τ.2.2 0) p n = true) : Sp mX5_requireHas roC 3 [vR 0, vI p, vI n] (cW τ κ) (.inl none) (cW τ κ) := by
  refine Sp.of (lk := lkX5) (tb := bX5_requireHas) (by decide) lkX5_ok tX5_requireHas (cW_keys _ _ _ _) (Nat.le_of_ble_eq_true rfl) (fun G hR => ?_)
  refine hR.run0 4 (S' := (6, [some (vR 0), some (vI p), some (vI n)], [vI n, vI p, vR 10], cW τ κ)) rfl ?_
  refine hR.cv [vI p, vI n] kX5_314 rfl rfl ⟨_, _, _, rfl, rfl, rfl⟩ (by first | decide | exact Nat.le_refl _) (by decide) (Nat.le_of_ble_eq_true rfl) rfl (sp_has _ _ (by omega) (by omega) hh) ?_
  show G (9, [some (vR 0), some (vI p), some (vI n)], [vI (bI (hasG (τ.2.2 0) p n))], cW τ κ)
  refine hR.br (C := bI (hasG (τ.2.2 0) p n) ≠ 0) rfl (bI_r _) (fun c1 => ?_) (fun c1 => ?_)
  · replace c1 : (hasG (τ.2.2 0) p n) = true := bI1 c1
    exact hR.rt rfl trivial (by rfl) (by rfl)
  · replace c1 : (hasG (τ.2.2 0) p n) = false := bI0 (Classical.not_not.mp c1)
    exfalso; simp_all
theorem sp_rHas_x (τ κ : St) {p n : Int} (hp : 0 ≤ p ∧ p < 4) (hn : 0 ≤ n ∧ n ≤ 99999) (hh : ∀ p g, 0 ≤ τ.2.2 0 p g ∧ τ.2.2 0 p g ≤ 12) (hcnd : ¬ (hasG (τ.2.2 0) p n = true)) : Sp mX5_requireHas roC 3 [vR 0, vI p, vI n] (cW τ κ) (.inr xS) (cW τ κ) := by
  refine Sp.of (lk := lkX5) (tb := bX5_requireHas) (by decide) lkX5_ok tX5_requireHas (cW_keys _ _ _ _) (Nat.le_of_ble_eq_true rfl) (fun G hR => ?_)
  refine hR.run0 4 (S' := (6, [some (vR 0), some (vI p), some (vI n)], [vI n, vI p, vR 10], cW τ κ)) rfl ?_
  refine hR.cv [vI p, vI n] kX5_314 rfl rfl ⟨_, _, _, rfl, rfl, rfl⟩ (by first | decide | exact Nat.le_refl _) (by decide) (Nat.le_of_ble_eq_true rfl) rfl (sp_has _ _ (by omega) (by omega) hh) ?_
  show G (9, [some (vR 0), some (vI p), some (vI n)], [vI (bI (hasG (τ.2.2 0) p n))], cW τ κ)
  refine hR.br (C := bI (hasG (τ.2.2 0) p n) ≠ 0) rfl (bI_r _) (fun c1 => ?_) (fun c1 => ?_)
  · replace c1 : (hasG (τ.2.2 0) p n) = true := bI1 c1
    exfalso; simp_all
  · replace c1 : (hasG (τ.2.2 0) p n) = false := bI0 (Classical.not_not.mp c1)
    exact hR.th rfl rfl (Nat.le_of_ble_eq_true rfl) rfl rfl
theorem sp_rUsable0_ok (τ κ : St) (hph : 0 ≤ τ.1 0 ∧ τ.1 0 ≤ 5) (htu : 0 ≤ τ.1 1 ∧ τ.1 1 < 3) (hcd : ∀ p k, 0 ≤ τ.2.2 1 p k ∧ τ.2.2 1 p k ≤ 15) (hfr : ∀ k, 0 ≤ τ.2.1 5 k ∧ τ.2.1 5 k ≤ 15) (hus : 0 ≤ τ.1 7 ∧ τ.1 7 ≤ 1) (hcnd : (τ.1 0 = 1 ∨ τ.1 0 = 2) ∧ canU τ (τ.1 1) 0 = true) : Sp mX5_requireUsable roC 2 [vR 0, vI 0] (cW τ κ) (.inl none) (cW τ κ) := by
  refine Sp.of (lk := lkX5) (tb := bX5_requireUsable) (by decide) lkX5_ok tX5_requireUsable (cW_keys _ _ _ _) (Nat.le_of_ble_eq_true rfl) (fun G hR => ?_)
  refine hR.run0 3 (S' := (5, [some (vR 0), some (vI 0)], [vI 1, vI (τ.1 0)], cW τ κ)) rfl ?_
  refine hR.br (C := τ.1 0 = 1) rfl (by (try dsimp only); omega) (fun c1 => ?_) (fun c1 => ?_)
  · skip
    refine hR.run0 5 (S' := (36, [some (vR 0), some (vI 0)], [vI 0, vI (τ.1 1), vR 50], cW τ κ)) rfl ?_
    refine hR.cv [vI (τ.1 1), vI 0] kX5_321 rfl rfl ⟨_, _, _, rfl, rfl, rfl⟩ (by first | decide | exact Nat.le_refl _) (by decide) (Nat.le_of_ble_eq_true rfl) rfl (sp_canUse _ _ (by omega) hcd hfr hus (by omega)) ?_
    show G (39, [some (vR 0), some (vI 0)], [vI (bI (canU τ (τ.1 1) 0))], cW τ κ)
    by_cases hb_q2 : (canU τ (τ.1 1) 0) = true
    · skip
      refine hR.cs [vI (bI (canU τ (τ.1 1) 0))] kX5_81 rfl rfl (by first | decide | exact Nat.le_refl _) (by decide) (Nat.le_of_ble_eq_true rfl) rfl (sp_rSob_ok _ hb_q2) ?_
      show G (42, [some (vR 0), some (vI 0)], [], cW τ κ)
      exact hR.rt rfl trivial (by rfl) (by rfl)
    · replace hb_q2 := Bool.eq_false_iff.mpr hb_q2
      exfalso; first | omega | simp_all
  · skip
    refine hR.run0 3 (S' := (13, [some (vR 0), some (vI 0)], [vI 2, vI (τ.1 0)], cW τ κ)) rfl ?_
    refine hR.br (C := τ.1 0 = 2) rfl (by (try dsimp only); omega) (fun c3 => ?_) (fun c3 => ?_)
    · skip
      refine hR.run0 5 (S' := (36, [some (vR 0), some (vI 0)], [vI 0, vI (τ.1 1), vR 50], cW τ κ)) rfl ?_
      refine hR.cv [vI (τ.1 1), vI 0] kX5_321 rfl rfl ⟨_, _, _, rfl, rfl, rfl⟩ (by first | decide | exact Nat.le_refl _) (by decide) (Nat.le_of_ble_eq_true rfl) rfl (sp_canUse _ _ (by omega) hcd hfr hus (by omega)) ?_
      show G (39, [some (vR 0), some (vI 0)], [vI (bI (canU τ (τ.1 1) 0))], cW τ κ)
      by_cases hb_q4 : (canU τ (τ.1 1) 0) = true
      · skip
        refine hR.cs [vI (bI (canU τ (τ.1 1) 0))] kX5_81 rfl rfl (by first | decide | exact Nat.le_refl _) (by decide) (Nat.le_of_ble_eq_true rfl) rfl (sp_rSob_ok _ hb_q4) ?_
        show G (42, [some (vR 0), some (vI 0)], [], cW τ κ)
        exact hR.rt rfl trivial (by rfl) (by rfl)
      · replace hb_q4 := Bool.eq_false_iff.mpr hb_q4
        exfalso; first | omega | simp_all
    · skip
      exfalso; first | omega | simp_all
theorem sp_rUsable0_x (τ κ : St) (hph : 0 ≤ τ.1 0 ∧ τ.1 0 ≤ 5) (htu : 0 ≤ τ.1 1 ∧ τ.1 1 < 3) (hcd : ∀ p k, 0 ≤ τ.2.2 1 p k ∧ τ.2.2 1 p k ≤ 15) (hfr : ∀ k, 0 ≤ τ.2.1 5 k ∧ τ.2.1 5 k ≤ 15) (hus : 0 ≤ τ.1 7 ∧ τ.1 7 ≤ 1) (hcnd : ¬ ((τ.1 0 = 1 ∨ τ.1 0 = 2) ∧ canU τ (τ.1 1) 0 = true)) : Sp mX5_requireUsable roC 2 [vR 0, vI 0] (cW τ κ) (.inr xS) (cW τ κ) := by
  refine Sp.of (lk := lkX5) (tb := bX5_requireUsable) (by decide) lkX5_ok tX5_requireUsable (cW_keys _ _ _ _) (Nat.le_of_ble_eq_true rfl) (fun G hR => ?_)
  refine hR.run0 3 (S' := (5, [some (vR 0), some (vI 0)], [vI 1, vI (τ.1 0)], cW τ κ)) rfl ?_
  refine hR.br (C := τ.1 0 = 1) rfl (by (try dsimp only); omega) (fun c1 => ?_) (fun c1 => ?_)
  · skip
    refine hR.run0 5 (S' := (36, [some (vR 0), some (vI 0)], [vI 0, vI (τ.1 1), vR 50], cW τ κ)) rfl ?_
    refine hR.cv [vI (τ.1 1), vI 0] kX5_321 rfl rfl ⟨_, _, _, rfl, rfl, rfl⟩ (by first | decide | exact Nat.le_refl _) (by decide) (Nat.le_of_ble_eq_true rfl) rfl (sp_canUse _ _ (by omega) hcd hfr hus (by omega)) ?_
    show G (39, [some (vR 0), some (vI 0)], [vI (bI (canU τ (τ.1 1) 0))], cW τ κ)
    by_cases hb_q2 : (canU τ (τ.1 1) 0) = true
    · skip
      refine hR.cs [vI (bI (canU τ (τ.1 1) 0))] kX5_81 rfl rfl (by first | decide | exact Nat.le_refl _) (by decide) (Nat.le_of_ble_eq_true rfl) rfl (sp_rSob_ok _ hb_q2) ?_
      show G (42, [some (vR 0), some (vI 0)], [], cW τ κ)
      exfalso; first | omega | simp_all
    · replace hb_q2 := Bool.eq_false_iff.mpr hb_q2
      exact hR.csx [vI (bI (canU τ (τ.1 1) 0))] kX5_81 rfl rfl (by decide) (by decide) (Nat.le_of_ble_eq_true rfl) rfl (sp_rSob_x _ hb_q2) (rfl) (rfl)
  · skip
    refine hR.run0 3 (S' := (13, [some (vR 0), some (vI 0)], [vI 2, vI (τ.1 0)], cW τ κ)) rfl ?_
    refine hR.br (C := τ.1 0 = 2) rfl (by (try dsimp only); omega) (fun c3 => ?_) (fun c3 => ?_)
    · skip
      refine hR.run0 5 (S' := (36, [some (vR 0), some (vI 0)], [vI 0, vI (τ.1 1), vR 50], cW τ κ)) rfl ?_
      refine hR.cv [vI (τ.1 1), vI 0] kX5_321 rfl rfl ⟨_, _, _, rfl, rfl, rfl⟩ (by first | decide | exact Nat.le_refl _) (by decide) (Nat.le_of_ble_eq_true rfl) rfl (sp_canUse _ _ (by omega) hcd hfr hus (by omega)) ?_
      show G (39, [some (vR 0), some (vI 0)], [vI (bI (canU τ (τ.1 1) 0))], cW τ κ)
      by_cases hb_q4 : (canU τ (τ.1 1) 0) = true
      · skip
        refine hR.cs [vI (bI (canU τ (τ.1 1) 0))] kX5_81 rfl rfl (by first | decide | exact Nat.le_refl _) (by decide) (Nat.le_of_ble_eq_true rfl) rfl (sp_rSob_ok _ hb_q4) ?_
        show G (42, [some (vR 0), some (vI 0)], [], cW τ κ)
        exfalso; first | omega | simp_all
      · replace hb_q4 := Bool.eq_false_iff.mpr hb_q4
        exact hR.csx [vI (bI (canU τ (τ.1 1) 0))] kX5_81 rfl rfl (by decide) (by decide) (Nat.le_of_ble_eq_true rfl) rfl (sp_rSob_x _ hb_q4) (rfl) (rfl)
    · skip
      exact hR.th rfl rfl (Nat.le_of_ble_eq_true rfl) rfl rfl
theorem sp_rUsable1_ok (τ κ : St) (hph : 0 ≤ τ.1 0 ∧ τ.1 0 ≤ 5) (htu : 0 ≤ τ.1 1 ∧ τ.1 1 < 3) (hcd : ∀ p k, 0 ≤ τ.2.2 1 p k ∧ τ.2.2 1 p k ≤ 15) (hfr : ∀ k, 0 ≤ τ.2.1 5 k ∧ τ.2.1 5 k ≤ 15) (hus : 0 ≤ τ.1 7 ∧ τ.1 7 ≤ 1) (hcnd : (τ.1 0 = 1 ∨ τ.1 0 = 2) ∧ canU τ (τ.1 1) 1 = true) : Sp mX5_requireUsable roC 2 [vR 0, vI 1] (cW τ κ) (.inl none) (cW τ κ) := by
  refine Sp.of (lk := lkX5) (tb := bX5_requireUsable) (by decide) lkX5_ok tX5_requireUsable (cW_keys _ _ _ _) (Nat.le_of_ble_eq_true rfl) (fun G hR => ?_)
  refine hR.run0 3 (S' := (5, [some (vR 0), some (vI 1)], [vI 1, vI (τ.1 0)], cW τ κ)) rfl ?_
  refine hR.br (C := τ.1 0 = 1) rfl (by (try dsimp only); omega) (fun c1 => ?_) (fun c1 => ?_)
  · skip
    refine hR.run0 5 (S' := (36, [some (vR 0), some (vI 1)], [vI 1, vI (τ.1 1), vR 50], cW τ κ)) rfl ?_
    refine hR.cv [vI (τ.1 1), vI 1] kX5_321 rfl rfl ⟨_, _, _, rfl, rfl, rfl⟩ (by first | decide | exact Nat.le_refl _) (by decide) (Nat.le_of_ble_eq_true rfl) rfl (sp_canUse _ _ (by omega) hcd hfr hus (by omega)) ?_
    show G (39, [some (vR 0), some (vI 1)], [vI (bI (canU τ (τ.1 1) 1))], cW τ κ)
    by_cases hb_q2 : (canU τ (τ.1 1) 1) = true
    · skip
      refine hR.cs [vI (bI (canU τ (τ.1 1) 1))] kX5_81 rfl rfl (by first | decide | exact Nat.le_refl _) (by decide) (Nat.le_of_ble_eq_true rfl) rfl (sp_rSob_ok _ hb_q2) ?_
      show G (42, [some (vR 0), some (vI 1)], [], cW τ κ)
      exact hR.rt rfl trivial (by rfl) (by rfl)
    · replace hb_q2 := Bool.eq_false_iff.mpr hb_q2
      exfalso; first | omega | simp_all
  · skip
    refine hR.run0 3 (S' := (13, [some (vR 0), some (vI 1)], [vI 2, vI (τ.1 0)], cW τ κ)) rfl ?_
    refine hR.br (C := τ.1 0 = 2) rfl (by (try dsimp only); omega) (fun c3 => ?_) (fun c3 => ?_)
    · skip
      refine hR.run0 5 (S' := (36, [some (vR 0), some (vI 1)], [vI 1, vI (τ.1 1), vR 50], cW τ κ)) rfl ?_
      refine hR.cv [vI (τ.1 1), vI 1] kX5_321 rfl rfl ⟨_, _, _, rfl, rfl, rfl⟩ (by first | decide | exact Nat.le_refl _) (by decide) (Nat.le_of_ble_eq_true rfl) rfl (sp_canUse _ _ (by omega) hcd hfr hus (by omega)) ?_
      show G (39, [some (vR 0), some (vI 1)], [vI (bI (canU τ (τ.1 1) 1))], cW τ κ)
      by_cases hb_q4 : (canU τ (τ.1 1) 1) = true
      · skip
        refine hR.cs [vI (bI (canU τ (τ.1 1) 1))] kX5_81 rfl rfl (by first | decide | exact Nat.le_refl _) (by decide) (Nat.le_of_ble_eq_true rfl) rfl (sp_rSob_ok _ hb_q4) ?_
        show G (42, [some (vR 0), some (vI 1)], [], cW τ κ)
        exact hR.rt rfl trivial (by rfl) (by rfl)
      · replace hb_q4 := Bool.eq_false_iff.mpr hb_q4
        exfalso; first | omega | simp_all
    · skip
      exfalso; first | omega | simp_all
theorem sp_rUsable1_x (τ κ : St) (hph : 0 ≤ τ.1 0 ∧ τ.1 0 ≤ 5) (htu : 0 ≤ τ.1 1 ∧ τ.1 1 < 3) (hcd : ∀ p k, 0 ≤ τ.2.2 1 p k ∧ τ.2.2 1 p k ≤ 15) (hfr : ∀ k, 0 ≤ τ.2.1 5 k ∧ τ.2.1 5 k ≤ 15) (hus : 0 ≤ τ.1 7 ∧ τ.1 7 ≤ 1) (hcnd : ¬ ((τ.1 0 = 1 ∨ τ.1 0 = 2) ∧ canU τ (τ.1 1) 1 = true)) : Sp mX5_requireUsable roC 2 [vR 0, vI 1] (cW τ κ) (.inr xS) (cW τ κ) := by
  refine Sp.of (lk := lkX5) (tb := bX5_requireUsable) (by decide) lkX5_ok tX5_requireUsable (cW_keys _ _ _ _) (Nat.le_of_ble_eq_true rfl) (fun G hR => ?_)
  refine hR.run0 3 (S' := (5, [some (vR 0), some (vI 1)], [vI 1, vI (τ.1 0)], cW τ κ)) rfl ?_
  refine hR.br (C := τ.1 0 = 1) rfl (by (try dsimp only); omega) (fun c1 => ?_) (fun c1 => ?_)
  · skip
    refine hR.run0 5 (S' := (36, [some (vR 0), some (vI 1)], [vI 1, vI (τ.1 1), vR 50], cW τ κ)) rfl ?_
    refine hR.cv [vI (τ.1 1), vI 1] kX5_321 rfl rfl ⟨_, _, _, rfl, rfl, rfl⟩ (by first | decide | exact Nat.le_refl _) (by decide) (Nat.le_of_ble_eq_true rfl) rfl (sp_canUse _ _ (by omega) hcd hfr hus (by omega)) ?_
    show G (39, [some (vR 0), some (vI 1)], [vI (bI (canU τ (τ.1 1) 1))], cW τ κ)
    by_cases hb_q2 : (canU τ (τ.1 1) 1) = true
    · skip
      refine hR.cs [vI (bI (canU τ (τ.1 1) 1))] kX5_81 rfl rfl (by first | decide | exact Nat.le_refl _) (by decide) (Nat.le_of_ble_eq_true rfl) rfl (sp_rSob_ok _ hb_q2) ?_
      show G (42, [some (vR 0), some (vI 1)], [], cW τ κ)
      exfalso; first | omega | simp_all
    · replace hb_q2 := Bool.eq_false_iff.mpr hb_q2
      exact hR.csx [vI (bI (canU τ (τ.1 1) 1))] kX5_81 rfl rfl (by decide) (by decide) (Nat.le_of_ble_eq_true rfl) rfl (sp_rSob_x _ hb_q2) (rfl) (rfl)
  · skip
    refine hR.run0 3 (S' := (13, [some (vR 0), some (vI 1)], [vI 2, vI (τ.1 0)], cW τ κ)) rfl ?_
    refine hR.br (C := τ.1 0 = 2) rfl (by (try dsimp only); omega) (fun c3 => ?_) (fun c3 => ?_)
    · skip
      refine hR.run0 5 (S' := (36, [some (vR 0), some (vI 1)], [vI 1, vI (τ.1 1), vR 50], cW τ κ)) rfl ?_
      refine hR.cv [vI (τ.1 1), vI 1] kX5_321 rfl rfl ⟨_, _, _, rfl, rfl, rfl⟩ (by first | decide | exact Nat.le_refl _) (by decide) (Nat.le_of_ble_eq_true rfl) rfl (sp_canUse _ _ (by omega) hcd hfr hus (by omega)) ?_
      show G (39, [some (vR 0), some (vI 1)], [vI (bI (canU τ (τ.1 1) 1))], cW τ κ)
      by_cases hb_q4 : (canU τ (τ.1 1) 1) = true
      · skip
        refine hR.cs [vI (bI (canU τ (τ.1 1) 1))] kX5_81 rfl rfl (by first | decide | exact Nat.le_refl _) (by decide) (Nat.le_of_ble_eq_true rfl) rfl (sp_rSob_ok _ hb_q4) ?_
        show G (42, [some (vR 0), some (vI 1)], [], cW τ κ)
        exfalso; first | omega | simp_all
      · replace hb_q4 := Bool.eq_false_iff.mpr hb_q4
        exact hR.csx [vI (bI (canU τ (τ.1 1) 1))] kX5_81 rfl rfl (by decide) (by decide) (Nat.le_of_ble_eq_true rfl) rfl (sp_rSob_x _ hb_q4) (rfl) (rfl)
    · skip
      exact hR.th rfl rfl (Nat.le_of_ble_eq_true rfl) rfl rfl
theorem sp_rUsable2_ok (τ κ : St) (hph : 0 ≤ τ.1 0 ∧ τ.1 0 ≤ 5) (htu : 0 ≤ τ.1 1 ∧ τ.1 1 < 3) (hcd : ∀ p k, 0 ≤ τ.2.2 1 p k ∧ τ.2.2 1 p k ≤ 15) (hfr : ∀ k, 0 ≤ τ.2.1 5 k ∧ τ.2.1 5 k ≤ 15) (hus : 0 ≤ τ.1 7 ∧ τ.1 7 ≤ 1) (hcnd : (τ.1 0 = 1 ∨ τ.1 0 = 2) ∧ canU τ (τ.1 1) 2 = true) : Sp mX5_requireUsable roC 2 [vR 0, vI 2] (cW τ κ) (.inl none) (cW τ κ) := by
  refine Sp.of (lk := lkX5) (tb := bX5_requireUsable) (by decide) lkX5_ok tX5_requireUsable (cW_keys _ _ _ _) (Nat.le_of_ble_eq_true rfl) (fun G hR => ?_)
  refine hR.run0 3 (S' := (5, [some (vR 0), some (vI 2)], [vI 1, vI (τ.1 0)], cW τ κ)) rfl ?_
  refine hR.br (C := τ.1 0 = 1) rfl (by (try dsimp only); omega) (fun c1 => ?_) (fun c1 => ?_)
  · skip
    refine hR.run0 5 (S' := (36, [some (vR 0), some (vI 2)], [vI 2, vI (τ.1 1), vR 50], cW τ κ)) rfl ?_
    refine hR.cv [vI (τ.1 1), vI 2] kX5_321 rfl rfl ⟨_, _, _, rfl, rfl, rfl⟩ (by first | decide | exact Nat.le_refl _) (by decide) (Nat.le_of_ble_eq_true rfl) rfl (sp_canUse _ _ (by omega) hcd hfr hus (by omega)) ?_
    show G (39, [some (vR 0), some (vI 2)], [vI (bI (canU τ (τ.1 1) 2))], cW τ κ)
    by_cases hb_q2 : (canU τ (τ.1 1) 2) = true
    · skip
      refine hR.cs [vI (bI (canU τ (τ.1 1) 2))] kX5_81 rfl rfl (by first | decide | exact Nat.le_refl _) (by decide) (Nat.le_of_ble_eq_true rfl) rfl (sp_rSob_ok _ hb_q2) ?_
      show G (42, [some (vR 0), some (vI 2)], [], cW τ κ)
      exact hR.rt rfl trivial (by rfl) (by rfl)
    · replace hb_q2 := Bool.eq_false_iff.mpr hb_q2
      exfalso; first | omega | simp_all
  · skip
    refine hR.run0 3 (S' := (13, [some (vR 0), some (vI 2)], [vI 2, vI (τ.1 0)], cW τ κ)) rfl ?_
    refine hR.br (C := τ.1 0 = 2) rfl (by (try dsimp only); omega) (fun c3 => ?_) (fun c3 => ?_)
    · skip
      refine hR.run0 5 (S' := (36, [some (vR 0), some (vI 2)], [vI 2, vI (τ.1 1), vR 50], cW τ κ)) rfl ?_
      refine hR.cv [vI (τ.1 1), vI 2] kX5_321 rfl rfl ⟨_, _, _, rfl, rfl, rfl⟩ (by first | decide | exact Nat.le_refl _) (by decide) (Nat.le_of_ble_eq_true rfl) rfl (sp_canUse _ _ (by omega) hcd hfr hus (by omega)) ?_
      show G (39, [some (vR 0), some (vI 2)], [vI (bI (canU τ (τ.1 1) 2))], cW τ κ)
      by_cases hb_q4 : (canU τ (τ.1 1) 2) = true
      · skip
        refine hR.cs [vI (bI (canU τ (τ.1 1) 2))] kX5_81 rfl rfl (by first | decide | exact Nat.le_refl _) (by decide) (Nat.le_of_ble_eq_true rfl) rfl (sp_rSob_ok _ hb_q4) ?_
        show G (42, [some (vR 0), some (vI 2)], [], cW τ κ)
        exact hR.rt rfl trivial (by rfl) (by rfl)
      · replace hb_q4 := Bool.eq_false_iff.mpr hb_q4
        exfalso; first | omega | simp_all
    · skip
      exfalso; first | omega | simp_all
theorem sp_rUsable2_x (τ κ : St) (hph : 0 ≤ τ.1 0 ∧ τ.1 0 ≤ 5) (htu : 0 ≤ τ.1 1 ∧ τ.1 1 < 3) (hcd : ∀ p k, 0 ≤ τ.2.2 1 p k ∧ τ.2.2 1 p k ≤ 15) (hfr : ∀ k, 0 ≤ τ.2.1 5 k ∧ τ.2.1 5 k ≤ 15) (hus : 0 ≤ τ.1 7 ∧ τ.1 7 ≤ 1) (hcnd : ¬ ((τ.1 0 = 1 ∨ τ.1 0 = 2) ∧ canU τ (τ.1 1) 2 = true)) : Sp mX5_requireUsable roC 2 [vR 0, vI 2] (cW τ κ) (.inr xS) (cW τ κ) := by
  refine Sp.of (lk := lkX5) (tb := bX5_requireUsable) (by decide) lkX5_ok tX5_requireUsable (cW_keys _ _ _ _) (Nat.le_of_ble_eq_true rfl) (fun G hR => ?_)
  refine hR.run0 3 (S' := (5, [some (vR 0), some (vI 2)], [vI 1, vI (τ.1 0)], cW τ κ)) rfl ?_
  refine hR.br (C := τ.1 0 = 1) rfl (by (try dsimp only); omega) (fun c1 => ?_) (fun c1 => ?_)
  · skip
    refine hR.run0 5 (S' := (36, [some (vR 0), some (vI 2)], [vI 2, vI (τ.1 1), vR 50], cW τ κ)) rfl ?_
    refine hR.cv [vI (τ.1 1), vI 2] kX5_321 rfl rfl ⟨_, _, _, rfl, rfl, rfl⟩ (by first | decide | exact Nat.le_refl _) (by decide) (Nat.le_of_ble_eq_true rfl) rfl (sp_canUse _ _ (by omega) hcd hfr hus (by omega)) ?_
    show G (39, [some (vR 0), some (vI 2)], [vI (bI (canU τ (τ.1 1) 2))], cW τ κ)
    by_cases hb_q2 : (canU τ (τ.1 1) 2) = true
    · skip
      refine hR.cs [vI (bI (canU τ (τ.1 1) 2))] kX5_81 rfl rfl (by first | decide | exact Nat.le_refl _) (by decide) (Nat.le_of_ble_eq_true rfl) rfl (sp_rSob_ok _ hb_q2) ?_
      show G (42, [some (vR 0), some (vI 2)], [], cW τ κ)
      exfalso; first | omega | simp_all
    · replace hb_q2 := Bool.eq_false_iff.mpr hb_q2
      exact hR.csx [vI (bI (canU τ (τ.1 1) 2))] kX5_81 rfl rfl (by decide) (by decide) (Nat.le_of_ble_eq_true rfl) rfl (sp_rSob_x _ hb_q2) (rfl) (rfl)
  · skip
    refine hR.run0 3 (S' := (13, [some (vR 0), some (vI 2)], [vI 2, vI (τ.1 0)], cW τ κ)) rfl ?_
    refine hR.br (C := τ.1 0 = 2) rfl (by (try dsimp only); omega) (fun c3 => ?_) (fun c3 => ?_)
    · skip
      refine hR.run0 5 (S' := (36, [some (vR 0), some (vI 2)], [vI 2, vI (τ.1 1), vR 50], cW τ κ)) rfl ?_
      refine hR.cv [vI (τ.1 1), vI 2] kX5_321 rfl rfl ⟨_, _, _, rfl, rfl, rfl⟩ (by first | decide | exact Nat.le_refl _) (by decide) (Nat.le_of_ble_eq_true rfl) rfl (sp_canUse _ _ (by omega) hcd hfr hus (by omega)) ?_
      show G (39, [some (vR 0), some (vI 2)], [vI (bI (canU τ (τ.1 1) 2))], cW τ κ)
      by_cases hb_q4 : (canU τ (τ.1 1) 2) = true
      · skip
        refine hR.cs [vI (bI (canU τ (τ.1 1) 2))] kX5_81 rfl rfl (by first | decide | exact Nat.le_refl _) (by decide) (Nat.le_of_ble_eq_true rfl) rfl (sp_rSob_ok _ hb_q4) ?_
        show G (42, [some (vR 0), some (vI 2)], [], cW τ κ)
        exfalso; first | omega | simp_all
      · replace hb_q4 := Bool.eq_false_iff.mpr hb_q4
        exact hR.csx [vI (bI (canU τ (τ.1 1) 2))] kX5_81 rfl rfl (by decide) (by decide) (Nat.le_of_ble_eq_true rfl) rfl (sp_rSob_x _ hb_q4) (rfl) (rfl)
    · skip
      exact hR.th rfl rfl (Nat.le_of_ble_eq_true rfl) rfl rfl
theorem sp_rUsable3_ok (τ κ : St) (hph : 0 ≤ τ.1 0 ∧ τ.1 0 ≤ 5) (htu : 0 ≤ τ.1 1 ∧ τ.1 1 < 3) (hcd : ∀ p k, 0 ≤ τ.2.2 1 p k ∧ τ.2.2 1 p k ≤ 15) (hfr : ∀ k, 0 ≤ τ.2.1 5 k ∧ τ.2.1 5 k ≤ 15) (hus : 0 ≤ τ.1 7 ∧ τ.1 7 ≤ 1) (hcnd : (τ.1 0 = 1 ∨ τ.1 0 = 2) ∧ canU τ (τ.1 1) 3 = true) : Sp mX5_requireUsable roC 2 [vR 0, vI 3] (cW τ κ) (.inl none) (cW τ κ) := by
  refine Sp.of (lk := lkX5) (tb := bX5_requireUsable) (by decide) lkX5_ok tX5_requireUsable (cW_keys _ _ _ _) (Nat.le_of_ble_eq_true rfl) (fun G hR => ?_)
  refine hR.run0 3 (S' := (5, [some (vR 0), some (vI 3)], [vI 1, vI (τ.1 0)], cW τ κ)) rfl ?_
  refine hR.br (C := τ.1 0 = 1) rfl (by (try dsimp only); omega) (fun c1 => ?_) (fun c1 => ?_)
  · skip
    refine hR.run0 5 (S' := (36, [some (vR 0), some (vI 3)], [vI 3, vI (τ.1 1), vR 50], cW τ κ)) rfl ?_
    refine hR.cv [vI (τ.1 1), vI 3] kX5_321 rfl rfl ⟨_, _, _, rfl, rfl, rfl⟩ (by first | decide | exact Nat.le_refl _) (by decide) (Nat.le_of_ble_eq_true rfl) rfl (sp_canUse _ _ (by omega) hcd hfr hus (by omega)) ?_
    show G (39, [some (vR 0), some (vI 3)], [vI (bI (canU τ (τ.1 1) 3))], cW τ κ)
    by_cases hb_q2 : (canU τ (τ.1 1) 3) = true
    · skip
      refine hR.cs [vI (bI (canU τ (τ.1 1) 3))] kX5_81 rfl rfl (by first | decide | exact Nat.le_refl _) (by decide) (Nat.le_of_ble_eq_true rfl) rfl (sp_rSob_ok _ hb_q2) ?_
      show G (42, [some (vR 0), some (vI 3)], [], cW τ κ)
      exact hR.rt rfl trivial (by rfl) (by rfl)
    · replace hb_q2 := Bool.eq_false_iff.mpr hb_q2
      exfalso; first | omega | simp_all
  · skip
    refine hR.run0 3 (S' := (13, [some (vR 0), some (vI 3)], [vI 2, vI (τ.1 0)], cW τ κ)) rfl ?_
    refine hR.br (C := τ.1 0 = 2) rfl (by (try dsimp only); omega) (fun c3 => ?_) (fun c3 => ?_)
    · skip
      refine hR.run0 5 (S' := (36, [some (vR 0), some (vI 3)], [vI 3, vI (τ.1 1), vR 50], cW τ κ)) rfl ?_
      refine hR.cv [vI (τ.1 1), vI 3] kX5_321 rfl rfl ⟨_, _, _, rfl, rfl, rfl⟩ (by first | decide | exact Nat.le_refl _) (by decide) (Nat.le_of_ble_eq_true rfl) rfl (sp_canUse _ _ (by omega) hcd hfr hus (by omega)) ?_
      show G (39, [some (vR 0), some (vI 3)], [vI (bI (canU τ (τ.1 1) 3))], cW τ κ)
      by_cases hb_q4 : (canU τ (τ.1 1) 3) = true
      · skip
        refine hR.cs [vI (bI (canU τ (τ.1 1) 3))] kX5_81 rfl rfl (by first | decide | exact Nat.le_refl _) (by decide) (Nat.le_of_ble_eq_true rfl) rfl (sp_rSob_ok _ hb_q4) ?_
        show G (42, [some (vR 0), some (vI 3)], [], cW τ κ)
        exact hR.rt rfl trivial (by rfl) (by rfl)
      · replace hb_q4 := Bool.eq_false_iff.mpr hb_q4
        exfalso; first | omega | simp_all
    · skip
      exfalso; first | omega | simp_all
theorem sp_rUsable3_x (τ κ : St) (hph : 0 ≤ τ.1 0 ∧ τ.1 0 ≤ 5) (htu : 0 ≤ τ.1 1 ∧ τ.1 1 < 3) (hcd : ∀ p k, 0 ≤ τ.2.2 1 p k ∧ τ.2.2 1 p k ≤ 15) (hfr : ∀ k, 0 ≤ τ.2.1 5 k ∧ τ.2.1 5 k ≤ 15) (hus : 0 ≤ τ.1 7 ∧ τ.1 7 ≤ 1) (hcnd : ¬ ((τ.1 0 = 1 ∨ τ.1 0 = 2) ∧ canU τ (τ.1 1) 3 = true)) : Sp mX5_requireUsable roC 2 [vR 0, vI 3] (cW τ κ) (.inr xS) (cW τ κ) := by
  refine Sp.of (lk := lkX5) (tb := bX5_requireUsable) (by decide) lkX5_ok tX5_requireUsable (cW_keys _ _ _ _) (Nat.le_of_ble_eq_true rfl) (fun G hR => ?_)
  refine hR.run0 3 (S' := (5, [some (vR 0), some (vI 3)], [vI 1, vI (τ.1 0)], cW τ κ)) rfl ?_
  refine hR.br (C := τ.1 0 = 1) rfl (by (try dsimp only); omega) (fun c1 => ?_) (fun c1 => ?_)
  · skip
    refine hR.run0 5 (S' := (36, [some (vR 0), some (vI 3)], [vI 3, vI (τ.1 1), vR 50], cW τ κ)) rfl ?_
    refine hR.cv [vI (τ.1 1), vI 3] kX5_321 rfl rfl ⟨_, _, _, rfl, rfl, rfl⟩ (by first | decide | exact Nat.le_refl _) (by decide) (Nat.le_of_ble_eq_true rfl) rfl (sp_canUse _ _ (by omega) hcd hfr hus (by omega)) ?_
    show G (39, [some (vR 0), some (vI 3)], [vI (bI (canU τ (τ.1 1) 3))], cW τ κ)
    by_cases hb_q2 : (canU τ (τ.1 1) 3) = true
    · skip
      refine hR.cs [vI (bI (canU τ (τ.1 1) 3))] kX5_81 rfl rfl (by first | decide | exact Nat.le_refl _) (by decide) (Nat.le_of_ble_eq_true rfl) rfl (sp_rSob_ok _ hb_q2) ?_
      show G (42, [some (vR 0), some (vI 3)], [], cW τ κ)
      exfalso; first | omega | simp_all
    · replace hb_q2 := Bool.eq_false_iff.mpr hb_q2
      exact hR.csx [vI (bI (canU τ (τ.1 1) 3))] kX5_81 rfl rfl (by decide) (by decide) (Nat.le_of_ble_eq_true rfl) rfl (sp_rSob_x _ hb_q2) (rfl) (rfl)
  · skip
    refine hR.run0 3 (S' := (13, [some (vR 0), some (vI 3)], [vI 2, vI (τ.1 0)], cW τ κ)) rfl ?_
    refine hR.br (C := τ.1 0 = 2) rfl (by (try dsimp only); omega) (fun c3 => ?_) (fun c3 => ?_)
    · skip
      refine hR.run0 5 (S' := (36, [some (vR 0), some (vI 3)], [vI 3, vI (τ.1 1), vR 50], cW τ κ)) rfl ?_
      refine hR.cv [vI (τ.1 1), vI 3] kX5_321 rfl rfl ⟨_, _, _, rfl, rfl, rfl⟩ (by first | decide | exact Nat.le_refl _) (by decide) (Nat.le_of_ble_eq_true rfl) rfl (sp_canUse _ _ (by omega) hcd hfr hus (by omega)) ?_
      show G (39, [some (vR 0), some (vI 3)], [vI (bI (canU τ (τ.1 1) 3))], cW τ κ)
      by_cases hb_q4 : (canU τ (τ.1 1) 3) = true
      · skip
        refine hR.cs [vI (bI (canU τ (τ.1 1) 3))] kX5_81 rfl rfl (by first | decide | exact Nat.le_refl _) (by decide) (Nat.le_of_ble_eq_true rfl) rfl (sp_rSob_ok _ hb_q4) ?_
        show G (42, [some (vR 0), some (vI 3)], [], cW τ κ)
        exfalso; first | omega | simp_all
      · replace hb_q4 := Bool.eq_false_iff.mpr hb_q4
        exact hR.csx [vI (bI (canU τ (τ.1 1) 3))] kX5_81 rfl rfl (by decide) (by decide) (Nat.le_of_ble_eq_true rfl) rfl (sp_rSob_x _ hb_q4) (rfl) (rfl)
    · skip
      exact hR.th rfl rfl (Nat.le_of_ble_eq_true rfl) rfl rfl
theorem sp_rUsable4_ok (τ κ : St) (hph : 0 ≤ τ.1 0 ∧ τ.1 0 ≤ 5) (htu : 0 ≤ τ.1 1 ∧ τ.1 1 < 3) (hcd : ∀ p k, 0 ≤ τ.2.2 1 p k ∧ τ.2.2 1 p k ≤ 15) (hfr : ∀ k, 0 ≤ τ.2.1 5 k ∧ τ.2.1 5 k ≤ 15) (hus : 0 ≤ τ.1 7 ∧ τ.1 7 ≤ 1) (hcnd : (τ.1 0 = 1 ∨ τ.1 0 = 2) ∧ canU τ (τ.1 1) 4 = true) : Sp mX5_requireUsable roC 2 [vR 0, vI 4] (cW τ κ) (.inl none) (cW τ κ) := by
  refine Sp.of (lk := lkX5) (tb := bX5_requireUsable) (by decide) lkX5_ok tX5_requireUsable (cW_keys _ _ _ _) (Nat.le_of_ble_eq_true rfl) (fun G hR => ?_)
  refine hR.run0 3 (S' := (5, [some (vR 0), some (vI 4)], [vI 1, vI (τ.1 0)], cW τ κ)) rfl ?_
  refine hR.br (C := τ.1 0 = 1) rfl (by (try dsimp only); omega) (fun c1 => ?_) (fun c1 => ?_)
  · skip
    refine hR.run0 5 (S' := (36, [some (vR 0), some (vI 4)], [vI 4, vI (τ.1 1), vR 50], cW τ κ)) rfl ?_
    refine hR.cv [vI (τ.1 1), vI 4] kX5_321 rfl rfl ⟨_, _, _, rfl, rfl, rfl⟩ (by first | decide | exact Nat.le_refl _) (by decide) (Nat.le_of_ble_eq_true rfl) rfl (sp_canUse _ _ (by omega) hcd hfr hus (by omega)) ?_
    show G (39, [some (vR 0), some (vI 4)], [vI (bI (canU τ (τ.1 1) 4))], cW τ κ)
    by_cases hb_q2 : (canU τ (τ.1 1) 4) = true
    · skip
      refine hR.cs [vI (bI (canU τ (τ.1 1) 4))] kX5_81 rfl rfl (by first | decide | exact Nat.le_refl _) (by decide) (Nat.le_of_ble_eq_true rfl) rfl (sp_rSob_ok _ hb_q2) ?_
      show G (42, [some (vR 0), some (vI 4)], [], cW τ κ)
      exact hR.rt rfl trivial (by rfl) (by rfl)
    · replace hb_q2 := Bool.eq_false_iff.mpr hb_q2
      exfalso; first | omega | simp_all
  · skip
    refine hR.run0 3 (S' := (13, [some (vR 0), some (vI 4)], [vI 2, vI (τ.1 0)], cW τ κ)) rfl ?_
    refine hR.br (C := τ.1 0 = 2) rfl (by (try dsimp only); omega) (fun c3 => ?_) (fun c3 => ?_)
    · skip
      refine hR.run0 5 (S' := (36, [some (vR 0), some (vI 4)], [vI 4, vI (τ.1 1), vR 50], cW τ κ)) rfl ?_
      refine hR.cv [vI (τ.1 1), vI 4] kX5_321 rfl rfl ⟨_, _, _, rfl, rfl, rfl⟩ (by first | decide | exact Nat.le_refl _) (by decide) (Nat.le_of_ble_eq_true rfl) rfl (sp_canUse _ _ (by omega) hcd hfr hus (by omega)) ?_
      show G (39, [some (vR 0), some (vI 4)], [vI (bI (canU τ (τ.1 1) 4))], cW τ κ)
      by_cases hb_q4 : (canU τ (τ.1 1) 4) = true
      · skip
        refine hR.cs [vI (bI (canU τ (τ.1 1) 4))] kX5_81 rfl rfl (by first | decide | exact Nat.le_refl _) (by decide) (Nat.le_of_ble_eq_true rfl) rfl (sp_rSob_ok _ hb_q4) ?_
        show G (42, [some (vR 0), some (vI 4)], [], cW τ κ)
        exact hR.rt rfl trivial (by rfl) (by rfl)
      · replace hb_q4 := Bool.eq_false_iff.mpr hb_q4
        exfalso; first | omega | simp_all
    · skip
      exfalso; first | omega | simp_all
theorem sp_rUsable4_x (τ κ : St) (hph : 0 ≤ τ.1 0 ∧ τ.1 0 ≤ 5) (htu : 0 ≤ τ.1 1 ∧ τ.1 1 < 3) (hcd : ∀ p k, 0 ≤ τ.2.2 1 p k ∧ τ.2.2 1 p k ≤ 15) (hfr : ∀ k, 0 ≤ τ.2.1 5 k ∧ τ.2.1 5 k ≤ 15) (hus : 0 ≤ τ.1 7 ∧ τ.1 7 ≤ 1) (hcnd : ¬ ((τ.1 0 = 1 ∨ τ.1 0 = 2) ∧ canU τ (τ.1 1) 4 = true)) : Sp mX5_requireUsable roC 2 [vR 0, vI 4] (cW τ κ) (.inr xS) (cW τ κ) := by
  refine Sp.of (lk := lkX5) (tb := bX5_requireUsable) (by decide) lkX5_ok tX5_requireUsable (cW_keys _ _ _ _) (Nat.le_of_ble_eq_true rfl) (fun G hR => ?_)
  refine hR.run0 3 (S' := (5, [some (vR 0), some (vI 4)], [vI 1, vI (τ.1 0)], cW τ κ)) rfl ?_
  refine hR.br (C := τ.1 0 = 1) rfl (by (try dsimp only); omega) (fun c1 => ?_) (fun c1 => ?_)
  · skip
    refine hR.run0 5 (S' := (36, [some (vR 0), some (vI 4)], [vI 4, vI (τ.1 1), vR 50], cW τ κ)) rfl ?_
    refine hR.cv [vI (τ.1 1), vI 4] kX5_321 rfl rfl ⟨_, _, _, rfl, rfl, rfl⟩ (by first | decide | exact Nat.le_refl _) (by decide) (Nat.le_of_ble_eq_true rfl) rfl (sp_canUse _ _ (by omega) hcd hfr hus (by omega)) ?_
    show G (39, [some (vR 0), some (vI 4)], [vI (bI (canU τ (τ.1 1) 4))], cW τ κ)
    by_cases hb_q2 : (canU τ (τ.1 1) 4) = true
    · skip
      refine hR.cs [vI (bI (canU τ (τ.1 1) 4))] kX5_81 rfl rfl (by first | decide | exact Nat.le_refl _) (by decide) (Nat.le_of_ble_eq_true rfl) rfl (sp_rSob_ok _ hb_q2) ?_
      show G (42, [some (vR 0), some (vI 4)], [], cW τ κ)
      exfalso; first | omega | simp_all
    · replace hb_q2 := Bool.eq_false_iff.mpr hb_q2
      exact hR.csx [vI (bI (canU τ (τ.1 1) 4))] kX5_81 rfl rfl (by decide) (by decide) (Nat.le_of_ble_eq_true rfl) rfl (sp_rSob_x _ hb_q2) (rfl) (rfl)
  · skip
    refine hR.run0 3 (S' := (13, [some (vR 0), some (vI 4)], [vI 2, vI (τ.1 0)], cW τ κ)) rfl ?_
    refine hR.br (C := τ.1 0 = 2) rfl (by (try dsimp only); omega) (fun c3 => ?_) (fun c3 => ?_)
    · skip
      refine hR.run0 5 (S' := (36, [some (vR 0), some (vI 4)], [vI 4, vI (τ.1 1), vR 50], cW τ κ)) rfl ?_
      refine hR.cv [vI (τ.1 1), vI 4] kX5_321 rfl rfl ⟨_, _, _, rfl, rfl, rfl⟩ (by first | decide | exact Nat.le_refl _) (by decide) (Nat.le_of_ble_eq_true rfl) rfl (sp_canUse _ _ (by omega) hcd hfr hus (by omega)) ?_
      show G (39, [some (vR 0), some (vI 4)], [vI (bI (canU τ (τ.1 1) 4))], cW τ κ)
      by_cases hb_q4 : (canU τ (τ.1 1) 4) = true
      · skip
        refine hR.cs [vI (bI (canU τ (τ.1 1) 4))] kX5_81 rfl rfl (by first | decide | exact Nat.le_refl _) (by decide) (Nat.le_of_ble_eq_true rfl) rfl (sp_rSob_ok _ hb_q4) ?_
        show G (42, [some (vR 0), some (vI 4)], [], cW τ κ)
        exfalso; first | omega | simp_all
      · replace hb_q4 := Bool.eq_false_iff.mpr hb_q4
        exact hR.csx [vI (bI (canU τ (τ.1 1) 4))] kX5_81 rfl rfl (by decide) (by decide) (Nat.le_of_ble_eq_true rfl) rfl (sp_rSob_x _ hb_q4) (rfl) (rfl)
    · skip
      exact hR.th rfl rfl (Nat.le_of_ble_eq_true rfl) rfl rfl
