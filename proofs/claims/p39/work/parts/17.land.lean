theorem sp_oneEnd (ro : PRO) (w : PW) {e : Int} (he : 0 ≤ e ∧ e < 30) : Sp mX2_oneEnd ro 0 [vI e] (w) (.inl (some (vI (cA e)))) (w) := by
  refine Sp.of (lk := lkX2) (tb := bX2_oneEnd) (by decide) lkX2_ok tX2_oneEnd rfl (Nat.le_of_ble_eq_true rfl) (fun G hR => ?_)
  refine hR.run0 2 (S' := (3, [some (vI e)], [vI 6, vI e], w)) rfl ?_
  refine hR.br (C := 6 ≤ e) rfl (by (try dsimp only); omega) (fun c1 => ?_) (fun c1 => ?_)
  · skip
    refine hR.run0 3 (S' := (14, [some (vI e)], [vI (e - 6)], w)) rfl ?_
    exact hR.rt rfl trivial (by rw [show cA e = (e - 6) from by unfold cA; (repeat' split) <;> omega]) (by rfl)
  · skip
    refine hR.run0 2 (S' := (14, [some (vI e)], [vI e], w)) rfl ?_
    exact hR.rt rfl trivial (by rw [show cA e = e from by unfold cA; (repeat' split) <;> omega]) (by rfl)
theorem sp_otherEnd (ro : PRO) (w : PW) {e : Int} (he : 0 ≤ e ∧ e < 30) : Sp mX2_otherEnd ro 0 [vI e] (w) (.inl (some (vI (cB e)))) (w) := by
  refine Sp.of (lk := lkX2) (tb := bX2_otherEnd) (by decide) lkX2_ok tX2_otherEnd rfl (Nat.le_of_ble_eq_true rfl) (fun G hR => ?_)
  refine hR.run0 2 (S' := (3, [some (vI e)], [vI 6, vI e], w)) rfl ?_
  refine hR.br (C := 6 ≤ e) rfl (by (try dsimp only); omega) (fun c1 => ?_) (fun c1 => ?_)
  · skip
    refine hR.run0 2 (S' := (16, [some (vI e)], [vI 12, vI e], w)) rfl ?_
    refine hR.br (C := 12 ≤ e) rfl (by (try dsimp only); omega) (fun c2 => ?_) (fun c2 => ?_)
    · skip
      refine hR.run1 9 (S' := (41, [some (vI e)], [vI (6 + (((e - 12) + 1) % 18))], w)) rfl (by (try dsimp only); omega) ?_
      exact hR.rt rfl trivial (by rw [show cB e = (6 + (((e - 12) + 1) % 18)) from by unfold cB; (repeat' split) <;> omega]) (by rfl)
    · skip
      refine hR.run0 7 (S' := (28, [some (vI e)], [vI (6 + (3 * (e - 6)))], w)) rfl ?_
      exact hR.rt rfl trivial (by rw [show cB e = (6 + (3 * (e - 6))) from by unfold cB; (repeat' split) <;> omega]) (by rfl)
  · skip
    refine hR.run1 5 (S' := (12, [some (vI e)], [vI ((e + 1) % 6)], w)) rfl (by (try dsimp only); omega) ?_
    exact hR.rt rfl trivial (by rw [show cB e = ((e + 1) % 6) from by unfold cB; (repeat' split) <;> omega]) (by rfl)
theorem sp_isEnd (ro : PRO) (w : PW) {e c : Int} (he : 0 ≤ e ∧ e < 30) (hc : -2147483648 ≤ c ∧ c ≤ 2147483647) : Sp mX2_isEnd ro 1 [vI e, vI c] (w) (.inl (some (vI (bI (isE e c))))) (w) := by
  have r1 := cA_r he
  have r2 := cB_r he
  refine Sp.of (lk := lkX2) (tb := bX2_isEnd) (by decide) lkX2_ok tX2_isEnd rfl (Nat.le_of_ble_eq_true rfl) (fun G hR => ?_)
  refine hR.run0 1 (S' := (1, [some (vI e), some (vI c)], [vI e], w)) rfl ?_
  refine hR.cs [vI e] kX2_28 rfl rfl (by first | decide | exact Nat.le_refl _) (by decide) (Nat.le_of_ble_eq_true rfl) rfl (sp_oneEnd _ _ (by omega)) ?_
  show G (4, [some (vI e), some (vI c)], [vI (cA e)], w)
  refine hR.run0 1 (S' := (5, [some (vI e), some (vI c)], [vI c, vI (cA e)], w)) rfl ?_
  refine hR.br (C := cA e = c) rfl (by (try dsimp only); omega) (fun c1 => ?_) (fun c1 => ?_)
  · skip
    refine hR.run0 2 (S' := (21, [some (vI e), some (vI c)], [vI 1], w)) rfl ?_
    exact hR.rt rfl (Or.inr rfl) (by rw [show bI (isE e c) = 1 from by simp_all [isE, bI]]) (by rfl)
  · skip
    refine hR.run0 1 (S' := (9, [some (vI e), some (vI c)], [vI e], w)) rfl ?_
    refine hR.cs [vI e] kX2_32 rfl rfl (by first | decide | exact Nat.le_refl _) (by decide) (Nat.le_of_ble_eq_true rfl) rfl (sp_otherEnd _ _ (by omega)) ?_
    show G (12, [some (vI e), some (vI c)], [vI (cB e)], w)
    refine hR.run0 1 (S' := (13, [some (vI e), some (vI c)], [vI c, vI (cB e)], w)) rfl ?_
    refine hR.br (C := cB e ≠ c) rfl (by (try dsimp only); omega) (fun c2 => ?_) (fun c2 => ?_)
    · skip
      refine hR.run0 1 (S' := (21, [some (vI e), some (vI c)], [vI 0], w)) rfl ?_
      exact hR.rt rfl (Or.inl rfl) (by rw [show bI (isE e c) = 0 from by simp_all [isE, bI]]) (by rfl)
    · skip
      refine hR.run0 2 (S' := (21, [some (vI e), some (vI c)], [vI 1], w)) rfl ?_
      exact hR.rt rfl (Or.inr rfl) (by rw [show bI (isE e c) = 1 from by simp_all [isE, bI]]) (by rfl)
theorem sp_cornerOf (ro : PRO) (w : PW) {h i : Int} (hh : 0 ≤ h ∧ h < 7) (hi : 0 ≤ i ∧ i < 6) : Sp mX2_cornerOf ro 0 [vI h, vI i] (w) (.inl (some (vI (hexC h i)))) (w) := by
  refine Sp.of (lk := lkX2) (tb := bX2_cornerOf) (by decide) lkX2_ok tX2_cornerOf rfl (Nat.le_of_ble_eq_true rfl) (fun G hR => ?_)
  refine hR.run0 1 (S' := (1, [some (vI h), some (vI i)], [vI h], w)) rfl ?_
  refine hR.br (C := h ≠ 0) rfl (by (try dsimp only); omega) (fun c1 => ?_) (fun c1 => ?_)
  · skip
    refine hR.run0 2 (S' := (8, [some (vI h), some (vI i)], [vI 2, vI i], w)) rfl ?_
    refine hR.br (C := 2 ≤ i) rfl (by (try dsimp only); omega) (fun c2 => ?_) (fun c2 => ?_)
    · skip
      refine hR.run1 13 (S' := (35, [some (vI h), some (vI i)], [vI (6 + ((((3 * (h - 1)) + i) - 2) % 18))], w)) rfl (by (try dsimp only); omega) ?_
      exact hR.rt rfl trivial (by rw [show hexC h i = (6 + ((((3 * (h - 1)) + i) - 2) % 18)) from by unfold hexC; (repeat' split) <;> omega]) (by rfl)
    · skip
      refine hR.run1 7 (S' := (19, [some (vI h), some (vI i)], [vI (((h - 1) + i) % 6)], w)) rfl (by (try dsimp only); omega) ?_
      exact hR.rt rfl trivial (by rw [show hexC h i = (((h - 1) + i) % 6) from by unfold hexC; (repeat' split) <;> omega]) (by rfl)
  · skip
    refine hR.run0 1 (S' := (5, [some (vI h), some (vI i)], [vI i], w)) rfl ?_
    exact hR.rt rfl trivial (by rw [show hexC h i = i from by unfold hexC; (repeat' split) <;> omega]) (by rfl)
theorem sp_isAround (ro : PRO) (w : PW) {h c : Int} (hh : 0 ≤ h ∧ h < 7) (hc : 0 ≤ c ∧ c < 24) : Sp mX2_isAround ro 1 [vI h, vI c] (w) (.inl (some (vI (bI (anyN (fun i => decide (hexC h i = c)) 6))))) (w) := by
  refine Sp.of (lk := lkX2) (tb := bX2_isAround) (by decide) lkX2_ok tX2_isAround rfl (Nat.le_of_ble_eq_true rfl) (fun G hR => ?_)
  refine hR.run0 2 (S' := (2, [some (vI h), some (vI c), some (vI 0)], [], w)) rfl ?_
  have hL : ∀ i : Nat, i ≤ 6 → anyN (fun i => decide (hexC h i = c)) i = false → G (2, [some (vI h), some (vI c), some (vI ((i : Nat) : Int))], [], w) := by
    refine back (P := fun i : Nat => anyN (fun i => decide (hexC h i = c)) i = false → G (2, [some (vI h), some (vI c), some (vI ((i : Nat) : Int))], [], w)) ?_ ?_
    · intro i hii ihi
      replace ihi : anyN (fun i => decide (hexC h i = c)) (i + 1) = false → G (2, [some (vI h), some (vI c), some (vI ((i + 1 : Nat) : Int))], [], w) := ihi
      intro hzi
      replace hzi : anyN (fun i => decide (hexC h i = c)) i = false := hzi
      show G (2, [some (vI h), some (vI c), some (vI (i : Int))], [], w)
      have r1 := hexC_r hh (i := (i : Int)) (by omega)
      refine hR.run0 2 (S' := (5, [some (vI h), some (vI c), some (vI (i : Int))], [vI 6, vI (i : Int)], w)) rfl ?_
      refine hR.br (C := 6 ≤ (i : Int)) rfl (by (try dsimp only); omega) (fun c1 => ?_) (fun c1 => ?_)
      · exfalso; omega
      refine hR.run0 2 (S' := (10, [some (vI h), some (vI c), some (vI (i : Int))], [vI (i : Int), vI h], w)) rfl ?_
      refine hR.cs [vI h, vI (i : Int)] kX2_35 rfl rfl (by first | decide | exact Nat.le_refl _) (by decide) (Nat.le_of_ble_eq_true rfl) rfl (sp_cornerOf _ _ (by omega) (by omega)) ?_
      show G (13, [some (vI h), some (vI c), some (vI (i : Int))], [vI (hexC h (i : Int))], w)
      refine hR.run0 1 (S' := (14, [some (vI h), some (vI c), some (vI (i : Int))], [vI c, vI (hexC h (i : Int))], w)) rfl ?_
      refine hR.br (C := hexC h (i : Int) ≠ c) rfl (by (try dsimp only); omega) (fun c2 => ?_) (fun c2 => ?_)
      · skip
        refine hR.run0 2 (S' := (2, [some (vI h), some (vI c), some (vI ((i : Int) + 1))], [], w)) rfl ?_
        exact ihi (by simp [anyN, hzi, c2])
      · skip
        refine hR.run0 1 (S' := (18, [some (vI h), some (vI c), some (vI (i : Int))], [vI 1], w)) rfl ?_
        exact hR.rt rfl (Or.inr rfl) (by rw [show bI (anyN (fun i => decide (hexC h i = c)) 6) = 1 from by rw [anyN_of hii (by simpa using c2)]; rfl]) (by rfl)
    · show anyN (fun i => decide (hexC h i = c)) 6 = false → G (2, [some (vI h), some (vI c), some (vI ((6 : Nat) : Int))], [], w)
      intro hzi
      show G (2, [some (vI h), some (vI c), some (vI 6)], [], w)
      refine hR.run0 2 (S' := (5, [some (vI h), some (vI c), some (vI 6)], [vI 6, vI 6], w)) rfl ?_
      refine hR.br (C := 6 ≤ 6) rfl (by (try dsimp only); omega) (fun c3 => ?_) (fun c3 => ?_)
      · skip
        refine hR.run0 1 (S' := (26, [some (vI h), some (vI c), some (vI 6)], [vI 0], w)) rfl ?_
        exact hR.rt rfl (Or.inl rfl) (by rw [show bI (anyN (fun i => decide (hexC h i = c)) 6) = 0 from by rw [hzi]; rfl]) (by rfl)
      · exfalso; omega
  exact hL 0 (Nat.zero_le _) (by rfl)
theorem sp_goodOf (τ κ : St) {h : Int} (hh : 0 ≤ h ∧ h < 7) : Sp mX2_goodOf roC 0 [vR 1, vI h] (cW τ κ) (.inl (some (vI (τ.2.1 0 h)))) (cW τ κ) := by
  refine Sp.of (lk := lkX2) (tb := bX2_goodOf) (by decide) lkX2_ok tX2_goodOf (cW_keys _ _ _ _) (Nat.le_of_ble_eq_true rfl) (fun G hR => ?_)
  refine hR.run0 1 (S' := (1, [some (vR 1), some (vI h)], [vI h], cW τ κ)) rfl ?_
  refine hR.br (C := h < 0) rfl (by (try dsimp only); omega) (fun c1 => ?_) (fun c1 => ?_)
  · exfalso; omega
  refine hR.run0 4 (S' := (10, [some (vR 1), some (vI h)], [vI 7, vI h], cW τ κ)) rfl ?_
  refine hR.br (C := 7 ≤ h) rfl (by (try dsimp only); omega) (fun c2 => ?_) (fun c2 => ?_)
  · exfalso; omega
  refine hR.run1 5 (S' := (23, [some (vR 1), some (vI h)], [vI (τ.2.1 0 h)], cW τ κ)) rfl (by (try dsimp only); omega) ?_
  exact hR.rt rfl trivial rfl (by rfl)
theorem sp_robberHex (τ κ : St)  : Sp mX2_robberHex roC 0 [vR 1] (cW τ κ) (.inl (some (vI (τ.1 5)))) (cW τ κ) := by
  refine Sp.of (lk := lkX2) (tb := bX2_robberHex) (by decide) lkX2_ok tX2_robberHex (cW_keys _ _ _ _) (Nat.le_of_ble_eq_true rfl) (fun G hR => ?_)
  refine hR.run0 2 (S' := (4, [some (vR 1)], [vI (τ.1 5)], cW τ κ)) rfl ?_
  exact hR.rt rfl trivial rfl (by rfl)
theorem sp_putRobber (τ κ : St) (h : Int) : Sp mX2_putRobber roC 0 [vR 1, vI h] (cW τ κ) (.inl none) (cW (sS τ 5 h) κ) := by
  refine Sp.of (lk := lkX2) (tb := bX2_putRobber) (by decide) lkX2_ok tX2_putRobber (cW_keys _ _ _ _) (Nat.le_of_ble_eq_true rfl) (fun G hR => ?_)
  refine hR.run0 3 (S' := (5, [some (vR 1), some (vI h)], [], pset (cW τ κ) 1 (.inr (2, [vR 2, vR 3, vR 4, vR 5, vI h])))) rfl ?_
  rw [cW_s5]
  exact hR.rt rfl trivial (by rfl) (by rfl)
theorem sp_building (τ κ : St) {c : Int} (hc : 0 ≤ c ∧ c < 24) : Sp mX2_building roC 0 [vR 1, vI c] (cW τ κ) (.inl (some (vI (τ.2.1 2 c)))) (cW τ κ) := by
  refine Sp.of (lk := lkX2) (tb := bX2_building) (by decide) lkX2_ok tX2_building (cW_keys _ _ _ _) (Nat.le_of_ble_eq_true rfl) (fun G hR => ?_)
  refine hR.run0 1 (S' := (1, [some (vR 1), some (vI c)], [vI c], cW τ κ)) rfl ?_
  refine hR.br (C := c < 0) rfl (by (try dsimp only); omega) (fun c1 => ?_) (fun c1 => ?_)
  · exfalso; omega
  refine hR.run0 4 (S' := (10, [some (vR 1), some (vI c)], [vI 24, vI c], cW τ κ)) rfl ?_
  refine hR.br (C := 24 ≤ c) rfl (by (try dsimp only); omega) (fun c2 => ?_) (fun c2 => ?_)
  · exfalso; omega
  refine hR.run1 5 (S' := (23, [some (vR 1), some (vI c)], [vI (τ.2.1 2 c)], cW τ κ)) rfl (by (try dsimp only); omega) ?_
  exact hR.rt rfl trivial rfl (by rfl)
theorem sp_putBuilding (τ κ : St) {c : Int} (b : Int) (hc : 0 ≤ c ∧ c < 24) : Sp mX2_putBuilding roC 0 [vR 1, vI c, vI b] (cW τ κ) (.inl none) (cW (sAt τ 2 c b) κ) := by
  refine Sp.of (lk := lkX2) (tb := bX2_putBuilding) (by decide) lkX2_ok tX2_putBuilding (cW_keys _ _ _ _) (Nat.le_of_ble_eq_true rfl) (fun G hR => ?_)
  refine hR.run0 1 (S' := (1, [some (vR 1), some (vI c), some (vI b)], [vI c], cW τ κ)) rfl ?_
  refine hR.br (C := c < 0) rfl (by (try dsimp only); omega) (fun c1 => ?_) (fun c1 => ?_)
  · exfalso; omega
  refine hR.run0 4 (S' := (10, [some (vR 1), some (vI c), some (vI b)], [vI 24, vI c], cW τ κ)) rfl ?_
  refine hR.br (C := 24 ≤ c) rfl (by (try dsimp only); omega) (fun c2 => ?_) (fun c2 => ?_)
  · exfalso; omega
  refine hR.run1 5 (S' := (20, [some (vR 1), some (vI c), some (vI b)], [], pset (cW τ κ) 4 (.inl (24, .inl (pup (τ.2.1 2) c b))))) rfl (by (try dsimp only); omega) ?_
  rw [cW_a2]
  exact hR.rt rfl trivial (by rfl) (by rfl)
theorem sp_putRoad (τ κ : St) {e : Int} (p : Int) (he : 0 ≤ e ∧ e < 30) : Sp mX2_putRoad roC 0 [vR 1, vI e, vI p] (cW τ κ) (.inl none) (cW (sAt τ 3 e p) κ) := by
  refine Sp.of (lk := lkX2) (tb := bX2_putRoad) (by decide) lkX2_ok tX2_putRoad (cW_keys _ _ _ _) (Nat.le_of_ble_eq_true rfl) (fun G hR => ?_)
  refine hR.run0 1 (S' := (1, [some (vR 1), some (vI e), some (vI p)], [vI e], cW τ κ)) rfl ?_
  refine hR.br (C := e < 0) rfl (by (try dsimp only); omega) (fun c1 => ?_) (fun c1 => ?_)
  · exfalso; omega
  refine hR.run0 4 (S' := (10, [some (vR 1), some (vI e), some (vI p)], [vI 30, vI e], cW τ κ)) rfl ?_
  refine hR.br (C := 30 ≤ e) rfl (by (try dsimp only); omega) (fun c2 => ?_) (fun c2 => ?_)
  · exfalso; omega
  refine hR.run1 5 (S' := (20, [some (vR 1), some (vI e), some (vI p)], [], pset (cW τ κ) 5 (.inl (30, .inl (pup (τ.2.1 3) e p))))) rfl (by (try dsimp only); omega) ?_
  rw [cW_a3]
  exact hR.rt rfl trivial (by rfl) (by rfl)
theorem sp_changeHex (τ κ : St) {h : Int} (g n : Int) (hh : 0 ≤ h ∧ h < 7) : Sp mX2_changeHex roC 0 [vR 1, vI h, vI g, vI n] (cW τ κ) (.inl none) (cW (sAt (sAt τ 0 h g) 1 h n) κ) := by
  refine Sp.of (lk := lkX2) (tb := bX2_changeHex) (by decide) lkX2_ok tX2_changeHex (cW_keys _ _ _ _) (Nat.le_of_ble_eq_true rfl) (fun G hR => ?_)
  refine hR.run0 1 (S' := (1, [some (vR 1), some (vI h), some (vI g), some (vI n)], [vI h], cW τ κ)) rfl ?_
  refine hR.br (C := h < 0) rfl (by (try dsimp only); omega) (fun c1 => ?_) (fun c1 => ?_)
  · exfalso; omega
  refine hR.run0 4 (S' := (10, [some (vR 1), some (vI h), some (vI g), some (vI n)], [vI 7, vI h], cW τ κ)) rfl ?_
  refine hR.br (C := 7 ≤ h) rfl (by (try dsimp only); omega) (fun c2 => ?_) (fun c2 => ?_)
  · exfalso; omega
  refine hR.run0 4 (S' := (19, [some (vR 1), some (vI h), some (vI g), some (vI n)], [vI 7, vI h], cW τ κ)) rfl ?_
  refine hR.br (C := 7 ≤ h) rfl (by (try dsimp only); omega) (fun c3 => ?_) (fun c3 => ?_)
  · exfalso; omega
  refine hR.run1 5 (S' := (29, [some (vR 1), some (vI h), some (vI g), some (vI n)], [], pset (cW τ κ) 2 (.inl (7, .inl (pup (τ.2.1 0) h g))))) rfl (by (try dsimp only); omega) ?_
  rw [cW_a0]
  refine hR.run1 5 (S' := (36, [some (vR 1), some (vI h), some (vI g), some (vI n)], [], pset (cW (sAt τ 0 h g) κ) 3 (.inl (7, .inl (pup ((sAt τ 0 h g).2.1 1) h n))))) rfl (by (try dsimp only); omega) ?_
  rw [cW_a1]
  exact hR.rt rfl trivial (by rfl) (by rfl)
theorem sp_roadOwner (τ κ : St) {e : Int} (he : 0 ≤ e ∧ e < 30) : Sp mX2_roadOwner roC 0 [vR 1, vI e] (cW τ κ) (.inl (some (vI (τ.2.1 3 e)))) (cW τ κ) := by
  refine Sp.of (lk := lkX2) (tb := bX2_roadOwner) (by decide) lkX2_ok tX2_roadOwner (cW_keys _ _ _ _) (Nat.le_of_ble_eq_true rfl) (fun G hR => ?_)
  refine hR.run0 1 (S' := (1, [some (vR 1), some (vI e)], [vI e], cW τ κ)) rfl ?_
  refine hR.br (C := e < 0) rfl (by (try dsimp only); omega) (fun c1 => ?_) (fun c1 => ?_)
  · exfalso; omega
  refine hR.run0 4 (S' := (10, [some (vR 1), some (vI e)], [vI 30, vI e], cW τ κ)) rfl ?_
  refine hR.br (C := 30 ≤ e) rfl (by (try dsimp only); omega) (fun c2 => ?_) (fun c2 => ?_)
  · exfalso; omega
  refine hR.run1 5 (S' := (23, [some (vR 1), some (vI e)], [vI (τ.2.1 3 e)], cW τ κ)) rfl (by (try dsimp only); omega) ?_
  exact hR.rt rfl trivial rfl (by rfl)
theorem sp_ownerAt (τ κ : St) {c : Int} (hc : 0 ≤ c ∧ c < 24) (hb : ∀ c, -1 ≤ τ.2.1 2 c ∧ τ.2.1 2 c ≤ 5) : Sp mX2_ownerAt roC 0 [vR 1, vI c] (cW τ κ) (.inl (some (vI (ownB (τ.2.1 2 c))))) (cW τ κ) := by
  refine Sp.of (lk := lkX2) (tb := bX2_ownerAt) (by decide) lkX2_ok tX2_ownerAt (cW_keys _ _ _ _) (Nat.le_of_ble_eq_true rfl) (fun G hR => ?_)
  refine hR.run0 1 (S' := (1, [some (vR 1), some (vI c)], [vI c], cW τ κ)) rfl ?_
  refine hR.br (C := c < 0) rfl (by (try dsimp only); omega) (fun c1 => ?_) (fun c1 => ?_)
  · exfalso; omega
  refine hR.run0 4 (S' := (10, [some (vR 1), some (vI c)], [vI 24, vI c], cW τ κ)) rfl ?_
  refine hR.br (C := c < 24) rfl (by (try dsimp only); omega) (fun c2 => ?_) (fun c2 => ?_)
  · skip
    have f1 := hb c
    refine hR.run1 5 (S' := (22, [some (vR 1), some (vI c)], [vI 3, vI (τ.2.1 2 c)], cW τ κ)) rfl (by (try dsimp only); omega) ?_
    refine hR.br (C := τ.2.1 2 c < 3) rfl (by (try dsimp only); omega) (fun c3 => ?_) (fun c3 => ?_)
    · skip
      have f2 := hb c
      refine hR.run1 4 (S' := (42, [some (vR 1), some (vI c)], [vI (τ.2.1 2 c)], cW τ κ)) rfl (by (try dsimp only); omega) ?_
      exact hR.rt rfl trivial (by rw [show ownB (τ.2.1 2 c) = (τ.2.1 2 c) from by unfold ownB; (repeat' split) <;> omega]) (by rfl)
    · skip
      have f3 := hb c
      refine hR.run1 7 (S' := (42, [some (vR 1), some (vI c)], [vI ((τ.2.1 2 c) - 3)], cW τ κ)) rfl (by (try dsimp only); omega) ?_
      exact hR.rt rfl trivial (by rw [show ownB (τ.2.1 2 c) = ((τ.2.1 2 c) - 3) from by unfold ownB; (repeat' split) <;> omega]) (by rfl)
  · exfalso; omega
theorem sp_countBuildings (τ κ : St) {b : Int} (hbb : -2147483648 ≤ b ∧ b ≤ 2147483647) (hb : ∀ c, -1 ≤ τ.2.1 2 c ∧ τ.2.1 2 c ≤ 5) : Sp mX2_countBuildings roC 0 [vR 1, vI b] (cW τ κ) (.inl (some (vI (cntN (τ.2.1 2) b 24)))) (cW τ κ) := by
  refine Sp.of (lk := lkX2) (tb := bX2_countBuildings) (by decide) lkX2_ok tX2_countBuildings (cW_keys _ _ _ _) (Nat.le_of_ble_eq_true rfl) (fun G hR => ?_)
  refine hR.run0 4 (S' := (4, [some (vR 1), some (vI b), some (vI 0), some (vI 0)], [], cW τ κ)) rfl ?_
  have hL : ∀ i : Nat, i ≤ 24 → G (4, [some (vR 1), some (vI b), some (vI (cntN (τ.2.1 2) b i)), some (vI ((i : Nat) : Int))], [], cW τ κ) := by
    refine back (P := fun i : Nat => G (4, [some (vR 1), some (vI b), some (vI (cntN (τ.2.1 2) b i)), some (vI ((i : Nat) : Int))], [], cW τ κ)) ?_ ?_
    · intro i hii ihi
      replace ihi : G (4, [some (vR 1), some (vI b), some (vI (cntN (τ.2.1 2) b (i + 1))), some (vI ((i + 1 : Nat) : Int))], [], cW τ κ) := ihi
      show G (4, [some (vR 1), some (vI b), some (vI (cntN (τ.2.1 2) b i)), some (vI (i : Int))], [], cW τ κ)
      have q1 := cntN_r (τ.2.1 2) b i
      refine hR.run0 4 (S' := (10, [some (vR 1), some (vI b), some (vI (cntN (τ.2.1 2) b i)), some (vI (i : Int))], [vI 24, vI (i : Int)], cW τ κ)) rfl ?_
      refine hR.br (C := 24 ≤ (i : Int)) rfl (by (try dsimp only); omega) (fun c1 => ?_) (fun c1 => ?_)
      · exfalso; omega
      have f1 := hb (i : Int)
      refine hR.run1 5 (S' := (20, [some (vR 1), some (vI b), some (vI (cntN (τ.2.1 2) b i)), some (vI (i : Int))], [vI b, vI (τ.2.1 2 (i : Int))], cW τ κ)) rfl (by (try dsimp only); omega) ?_
      refine hR.br (C := τ.2.1 2 (i : Int) ≠ b) rfl (by (try dsimp only); omega) (fun c2 => ?_) (fun c2 => ?_)
      · skip
        refine hR.run0 2 (S' := (4, [some (vR 1), some (vI b), some (vI (cntN (τ.2.1 2) b i)), some (vI ((i : Int) + 1))], [], cW τ κ)) rfl ?_
        rw [show cntN (τ.2.1 2) b (i + 1) = (cntN (τ.2.1 2) b i) from by simp [cntN, c2]] at ihi
        exact ihi
      · skip
        refine hR.run0 3 (S' := (4, [some (vR 1), some (vI b), some (vI ((cntN (τ.2.1 2) b i) + 1)), some (vI ((i : Int) + 1))], [], cW τ κ)) rfl ?_
        rw [show cntN (τ.2.1 2) b (i + 1) = ((cntN (τ.2.1 2) b i) + 1) from by simp [cntN, c2]] at ihi
        exact ihi
    · show G (4, [some (vR 1), some (vI b), some (vI (cntN (τ.2.1 2) b 24)), some (vI ((24 : Nat) : Int))], [], cW τ κ)
      show G (4, [some (vR 1), some (vI b), some (vI (cntN (τ.2.1 2) b 24)), some (vI 24)], [], cW τ κ)
      refine hR.run0 4 (S' := (10, [some (vR 1), some (vI b), some (vI (cntN (τ.2.1 2) b 24)), some (vI 24)], [vI 24, vI 24], cW τ κ)) rfl ?_
      refine hR.br (C := 24 ≤ 24) rfl (by (try dsimp only); omega) (fun c3 => ?_) (fun c3 => ?_)
      · skip
        refine hR.run0 1 (S' := (33, [some (vR 1), some (vI b), some (vI (cntN (τ.2.1 2) b 24)), some (vI 24)], [vI (cntN (τ.2.1 2) b 24)], cW τ κ)) rfl ?_
        exact hR.rt rfl trivial rfl (by rfl)
      · exfalso; omega
  exact hL 0 (Nat.zero_le _)
theorem sp_countRoads (τ κ : St) {b : Int} (hbb : -2147483648 ≤ b ∧ b ≤ 2147483647) (hr : ∀ e, -1 ≤ τ.2.1 3 e ∧ τ.2.1 3 e ≤ 2) : Sp mX2_countRoads roC 0 [vR 1, vI b] (cW τ κ) (.inl (some (vI (cntN (τ.2.1 3) b 30)))) (cW τ κ) := by
  refine Sp.of (lk := lkX2) (tb := bX2_countRoads) (by decide) lkX2_ok tX2_countRoads (cW_keys _ _ _ _) (Nat.le_of_ble_eq_true rfl) (fun G hR => ?_)
  refine hR.run0 4 (S' := (4, [some (vR 1), some (vI b), some (vI 0), some (vI 0)], [], cW τ κ)) rfl ?_
  have hL : ∀ i : Nat, i ≤ 30 → G (4, [some (vR 1), some (vI b), some (vI (cntN (τ.2.1 3) b i)), some (vI ((i : Nat) : Int))], [], cW τ κ) := by
    refine back (P := fun i : Nat => G (4, [some (vR 1), some (vI b), some (vI (cntN (τ.2.1 3) b i)), some (vI ((i : Nat) : Int))], [], cW τ κ)) ?_ ?_
    · intro i hii ihi
      replace ihi : G (4, [some (vR 1), some (vI b), some (vI (cntN (τ.2.1 3) b (i + 1))), some (vI ((i + 1 : Nat) : Int))], [], cW τ κ) := ihi
      show G (4, [some (vR 1), some (vI b), some (vI (cntN (τ.2.1 3) b i)), some (vI (i : Int))], [], cW τ κ)
      have q1 := cntN_r (τ.2.1 3) b i
      refine hR.run0 4 (S' := (10, [some (vR 1), some (vI b), some (vI (cntN (τ.2.1 3) b i)), some (vI (i : Int))], [vI 30, vI (i : Int)], cW τ κ)) rfl ?_
      refine hR.br (C := 30 ≤ (i : Int)) rfl (by (try dsimp only); omega) (fun c1 => ?_) (fun c1 => ?_)
      · exfalso; omega
      have f1 := hr (i : Int)
      refine hR.run1 5 (S' := (20, [some (vR 1), some (vI b), some (vI (cntN (τ.2.1 3) b i)), some (vI (i : Int))], [vI b, vI (τ.2.1 3 (i : Int))], cW τ κ)) rfl (by (try dsimp only); omega) ?_
      refine hR.br (C := τ.2.1 3 (i : Int) ≠ b) rfl (by (try dsimp only); omega) (fun c2 => ?_) (fun c2 => ?_)
      · skip
        refine hR.run0 2 (S' := (4, [some (vR 1), some (vI b), some (vI (cntN (τ.2.1 3) b i)), some (vI ((i : Int) + 1))], [], cW τ κ)) rfl ?_
        rw [show cntN (τ.2.1 3) b (i + 1) = (cntN (τ.2.1 3) b i) from by simp [cntN, c2]] at ihi
        exact ihi
      · skip
        refine hR.run0 3 (S' := (4, [some (vR 1), some (vI b), some (vI ((cntN (τ.2.1 3) b i) + 1)), some (vI ((i : Int) + 1))], [], cW τ κ)) rfl ?_
        rw [show cntN (τ.2.1 3) b (i + 1) = ((cntN (τ.2.1 3) b i) + 1) from by simp [cntN, c2]] at ihi
        exact ihi
    · show G (4, [some (vR 1), some (vI b), some (vI (cntN (τ.2.1 3) b 30)), some (vI ((30 : Nat) : Int))], [], cW τ κ)
      show G (4, [some (vR 1), some (vI b), some (vI (cntN (τ.2.1 3) b 30)), some (vI 30)], [], cW τ κ)
      refine hR.run0 4 (S' := (10, [some (vR 1), some (vI b), some (vI (cntN (τ.2.1 3) b 30)), some (vI 30)], [vI 30, vI 30], cW τ κ)) rfl ?_
      refine hR.br (C := 30 ≤ 30) rfl (by (try dsimp only); omega) (fun c3 => ?_) (fun c3 => ?_)
      · skip
        refine hR.run0 1 (S' := (33, [some (vR 1), some (vI b), some (vI (cntN (τ.2.1 3) b 30)), some (vI 30)], [vI (cntN (τ.2.1 3) b 30)], cW τ κ)) rfl ?_
        exact hR.rt rfl trivial rfl (by rfl)
      · exfalso; omega
  exact hL 0 (Nat.zero_le _)
theorem sp_hasRoadAt (τ κ : St) {p c : Int} (hp : -2147483648 ≤ p ∧ p ≤ 2147483647) (hc : 0 ≤ c ∧ c < 24) (hr : ∀ e, -1 ≤ τ.2.1 3 e ∧ τ.2.1 3 e ≤ 2) : Sp mX2_hasRoadAt roC 2 [vR 1, vI p, vI c] (cW τ κ) (.inl (some (vI (bI (roadAtC (τ.2.1 3) p c))))) (cW τ κ) := by
  refine Sp.of (lk := lkX2) (tb := bX2_hasRoadAt) (by decide) lkX2_ok tX2_hasRoadAt (cW_keys _ _ _ _) (Nat.le_of_ble_eq_true rfl) (fun G hR => ?_)
  refine hR.run0 2 (S' := (2, [some (vR 1), some (vI p), some (vI c), some (vI 0)], [], cW τ κ)) rfl ?_
  have hL : ∀ i : Nat, i ≤ 30 → anyN (fun e => decide (τ.2.1 3 e = p) && isE e c) i = false → G (2, [some (vR 1), some (vI p), some (vI c), some (vI ((i : Nat) : Int))], [], cW τ κ) := by
    refine back (P := fun i : Nat => anyN (fun e => decide (τ.2.1 3 e = p) && isE e c) i = false → G (2, [some (vR 1), some (vI p), some (vI c), some (vI ((i : Nat) : Int))], [], cW τ κ)) ?_ ?_
    · intro i hii ihi
      replace ihi : anyN (fun e => decide (τ.2.1 3 e = p) && isE e c) (i + 1) = false → G (2, [some (vR 1), some (vI p), some (vI c), some (vI ((i + 1 : Nat) : Int))], [], cW τ κ) := ihi
      intro hzi
      replace hzi : anyN (fun e => decide (τ.2.1 3 e = p) && isE e c) i = false := hzi
      show G (2, [some (vR 1), some (vI p), some (vI c), some (vI (i : Int))], [], cW τ κ)
      refine hR.run0 4 (S' := (8, [some (vR 1), some (vI p), some (vI c), some (vI (i : Int))], [vI 30, vI (i : Int)], cW τ κ)) rfl ?_
      refine hR.br (C := 30 ≤ (i : Int)) rfl (by (try dsimp only); omega) (fun c1 => ?_) (fun c1 => ?_)
      · exfalso; omega
      have f1 := hr (i : Int)
      refine hR.run1 5 (S' := (18, [some (vR 1), some (vI p), some (vI c), some (vI (i : Int))], [vI p, vI (τ.2.1 3 (i : Int))], cW τ κ)) rfl (by (try dsimp only); omega) ?_
      refine hR.br (C := τ.2.1 3 (i : Int) ≠ p) rfl (by (try dsimp only); omega) (fun c2 => ?_) (fun c2 => ?_)
      · skip
        refine hR.run0 2 (S' := (2, [some (vR 1), some (vI p), some (vI c), some (vI ((i : Int) + 1))], [], cW τ κ)) rfl ?_
        exact ihi (by simp_all [anyN])
      · skip
        refine hR.run0 2 (S' := (23, [some (vR 1), some (vI p), some (vI c), some (vI (i : Int))], [vI c, vI (i : Int)], cW τ κ)) rfl ?_
        refine hR.cs [vI (i : Int), vI c] kX2_39 rfl rfl (by first | decide | exact Nat.le_refl _) (by decide) (Nat.le_of_ble_eq_true rfl) rfl (sp_isEnd _ _ (by omega) (by omega)) ?_
        show G (26, [some (vR 1), some (vI p), some (vI c), some (vI (i : Int))], [vI (bI (isE (i : Int) c))], cW τ κ)
        refine hR.br (C := bI (isE (i : Int) c) = 0) rfl (bI_r _) (fun c3 => ?_) (fun c3 => ?_)
        · replace c3 : (isE (i : Int) c) = false := bI0 c3
          refine hR.run0 2 (S' := (2, [some (vR 1), some (vI p), some (vI c), some (vI ((i : Int) + 1))], [], cW τ κ)) rfl ?_
          exact ihi (by simp_all [anyN])
        · replace c3 : (isE (i : Int) c) = true := bI1 c3
          refine hR.run0 1 (S' := (30, [some (vR 1), some (vI p), some (vI c), some (vI (i : Int))], [vI 1], cW τ κ)) rfl ?_
          exact hR.rt rfl (Or.inr rfl) (by rw [show bI (roadAtC (τ.2.1 3) p c) = 1 from by unfold roadAtC; rw [anyN_of hii (by simp_all)]; rfl]) (by rfl)
    · show anyN (fun e => decide (τ.2.1 3 e = p) && isE e c) 30 = false → G (2, [some (vR 1), some (vI p), some (vI c), some (vI ((30 : Nat) : Int))], [], cW τ κ)
      intro hzi
      show G (2, [some (vR 1), some (vI p), some (vI c), some (vI 30)], [], cW τ κ)
      refine hR.run0 4 (S' := (8, [some (vR 1), some (vI p), some (vI c), some (vI 30)], [vI 30, vI 30], cW τ κ)) rfl ?_
      refine hR.br (C := 30 ≤ 30) rfl (by (try dsimp only); omega) (fun c4 => ?_) (fun c4 => ?_)
      · skip
        refine hR.run0 1 (S' := (38, [some (vR 1), some (vI p), some (vI c), some (vI 30)], [vI 0], cW τ κ)) rfl ?_
        exact hR.rt rfl (Or.inl rfl) (by rw [show bI (roadAtC (τ.2.1 3) p c) = 0 from by unfold roadAtC; rw [hzi]; rfl]) (by rfl)
      · exfalso; omega
  exact hL 0 (Nat.zero_le _) (by rfl)
theorem sp_canTakeHouse (τ κ : St) {c : Int} (hc : 0 ≤ c ∧ c < 24) (hb : ∀ c, -1 ≤ τ.2.1 2 c ∧ τ.2.1 2 c ≤ 5) : Sp mX2_canTakeHouse roC 2 [vR 1, vI c] (cW τ κ) (.inl (some (vI (bI (freeC (τ.2.1 2) c))))) (cW τ κ) := by
  have f0 := hb c
  refine Sp.of (lk := lkX2) (tb := bX2_canTakeHouse) (by decide) lkX2_ok tX2_canTakeHouse (cW_keys _ _ _ _) (Nat.le_of_ble_eq_true rfl) (fun G hR => ?_)
  refine hR.run0 2 (S' := (2, [some (vR 1), some (vI c), none], [vI c, vR 1], cW τ κ)) rfl ?_
  refine hR.cv [vI c] kX2_43 rfl rfl ⟨_, _, _, rfl, rfl, rfl⟩ (by first | decide | exact Nat.le_refl _) (by decide) (Nat.le_of_ble_eq_true rfl) rfl (sp_building _ _ (by omega)) ?_
  show G (5, [some (vR 1), some (vI c), none], [vI (τ.2.1 2 c)], cW τ κ)
  refine hR.run0 1 (S' := (6, [some (vR 1), some (vI c), none], [vI (-1), vI (τ.2.1 2 c)], cW τ κ)) rfl ?_
  refine hR.br (C := τ.2.1 2 c = (-1)) rfl (by (try dsimp only); omega) (fun c1 => ?_) (fun c1 => ?_)
  · skip
    refine hR.run0 2 (S' := (13, [some (vR 1), some (vI c), some (vI 0)], [], cW τ κ)) rfl ?_
    have hL : ∀ i : Nat, i ≤ 30 → allN (fun e => !(isE e c && (decide (τ.2.1 2 (cA e) ≠ -1) || decide (τ.2.1 2 (cB e) ≠ -1)))) i = true → G (13, [some (vR 1), some (vI c), some (vI ((i : Nat) : Int))], [], cW τ κ) := by
      refine back (P := fun i : Nat => allN (fun e => !(isE e c && (decide (τ.2.1 2 (cA e) ≠ -1) || decide (τ.2.1 2 (cB e) ≠ -1)))) i = true → G (13, [some (vR 1), some (vI c), some (vI ((i : Nat) : Int))], [], cW τ κ)) ?_ ?_
      · intro i hii ihi
        replace ihi : allN (fun e => !(isE e c && (decide (τ.2.1 2 (cA e) ≠ -1) || decide (τ.2.1 2 (cB e) ≠ -1)))) (i + 1) = true → G (13, [some (vR 1), some (vI c), some (vI ((i + 1 : Nat) : Int))], [], cW τ κ) := ihi
        intro hzi
        replace hzi : allN (fun e => !(isE e c && (decide (τ.2.1 2 (cA e) ≠ -1) || decide (τ.2.1 2 (cB e) ≠ -1)))) i = true := hzi
        show G (13, [some (vR 1), some (vI c), some (vI (i : Int))], [], cW τ κ)
        have r1 := cA_r (e := (i : Int)) (by omega)
        have r2 := cB_r (e := (i : Int)) (by omega)
        have r3 := hb (cA (i : Int))
        have r4 := hb (cB (i : Int))
        refine hR.run0 2 (S' := (16, [some (vR 1), some (vI c), some (vI (i : Int))], [vI 30, vI (i : Int)], cW τ κ)) rfl ?_
        refine hR.br (C := 30 ≤ (i : Int)) rfl (by (try dsimp only); omega) (fun c2 => ?_) (fun c2 => ?_)
        · exfalso; omega
        refine hR.run0 2 (S' := (21, [some (vR 1), some (vI c), some (vI (i : Int))], [vI c, vI (i : Int)], cW τ κ)) rfl ?_
        refine hR.cs [vI (i : Int), vI c] kX2_39 rfl rfl (by first | decide | exact Nat.le_refl _) (by decide) (Nat.le_of_ble_eq_true rfl) rfl (sp_isEnd _ _ (by omega) (by omega)) ?_
        show G (24, [some (vR 1), some (vI c), some (vI (i : Int))], [vI (bI (isE (i : Int) c))], cW τ κ)
        refine hR.br (C := bI (isE (i : Int) c) = 0) rfl (bI_r _) (fun c3 => ?_) (fun c3 => ?_)
        · replace c3 : (isE (i : Int) c) = false := bI0 c3
          refine hR.run0 2 (S' := (13, [some (vR 1), some (vI c), some (vI ((i : Int) + 1))], [], cW τ κ)) rfl ?_
          exact ihi (by simp_all [allN])
        · replace c3 : (isE (i : Int) c) = true := bI1 c3
          refine hR.run0 2 (S' := (29, [some (vR 1), some (vI c), some (vI (i : Int))], [vI (i : Int), vR 1], cW τ κ)) rfl ?_
          refine hR.cs [vI (i : Int)] kX2_28 rfl rfl (by first | decide | exact Nat.le_refl _) (by decide) (Nat.le_of_ble_eq_true rfl) rfl (sp_oneEnd _ _ (by omega)) ?_
          show G (32, [some (vR 1), some (vI c), some (vI (i : Int))], [vI (cA (i : Int)), vR 1], cW τ κ)
          refine hR.cv [vI (cA (i : Int))] kX2_43 rfl rfl ⟨_, _, _, rfl, rfl, rfl⟩ (by first | decide | exact Nat.le_refl _) (by decide) (Nat.le_of_ble_eq_true rfl) rfl (sp_building _ _ (by omega)) ?_
          show G (35, [some (vR 1), some (vI c), some (vI (i : Int))], [vI (τ.2.1 2 (cA (i : Int)))], cW τ κ)
          refine hR.run0 1 (S' := (36, [some (vR 1), some (vI c), some (vI (i : Int))], [vI (-1), vI (τ.2.1 2 (cA (i : Int)))], cW τ κ)) rfl ?_
          refine hR.br (C := τ.2.1 2 (cA (i : Int)) ≠ (-1)) rfl (by (try dsimp only); omega) (fun c4 => ?_) (fun c4 => ?_)
          · skip
            refine hR.run0 1 (S' := (52, [some (vR 1), some (vI c), some (vI (i : Int))], [vI 0], cW τ κ)) rfl ?_
            exact hR.rt rfl (Or.inl rfl) (by rw [show bI (freeC (τ.2.1 2) c) = 0 from by unfold freeC; rw [allN_of (p := fun e => !(isE e c && (decide (τ.2.1 2 (cA e) ≠ -1) || decide (τ.2.1 2 (cB e) ≠ -1)))) hii (by simp_all)]; simp [bI]]) (by rfl)
          · skip
            refine hR.run0 2 (S' := (41, [some (vR 1), some (vI c), some (vI (i : Int))], [vI (i : Int), vR 1], cW τ κ)) rfl ?_
            refine hR.cs [vI (i : Int)] kX2_32 rfl rfl (by first | decide | exact Nat.le_refl _) (by decide) (Nat.le_of_ble_eq_true rfl) rfl (sp_otherEnd _ _ (by omega)) ?_
            show G (44, [some (vR 1), some (vI c), some (vI (i : Int))], [vI (cB (i : Int)), vR 1], cW τ κ)
            refine hR.cv [vI (cB (i : Int))] kX2_43 rfl rfl ⟨_, _, _, rfl, rfl, rfl⟩ (by first | decide | exact Nat.le_refl _) (by decide) (Nat.le_of_ble_eq_true rfl) rfl (sp_building _ _ (by omega)) ?_
            show G (47, [some (vR 1), some (vI c), some (vI (i : Int))], [vI (τ.2.1 2 (cB (i : Int)))], cW τ κ)
            refine hR.run0 1 (S' := (48, [some (vR 1), some (vI c), some (vI (i : Int))], [vI (-1), vI (τ.2.1 2 (cB (i : Int)))], cW τ κ)) rfl ?_
            refine hR.br (C := τ.2.1 2 (cB (i : Int)) = (-1)) rfl (by (try dsimp only); omega) (fun c5 => ?_) (fun c5 => ?_)
            · skip
              refine hR.run0 2 (S' := (13, [some (vR 1), some (vI c), some (vI ((i : Int) + 1))], [], cW τ κ)) rfl ?_
              exact ihi (by simp_all [allN])
            · skip
              refine hR.run0 1 (S' := (52, [some (vR 1), some (vI c), some (vI (i : Int))], [vI 0], cW τ κ)) rfl ?_
              exact hR.rt rfl (Or.inl rfl) (by rw [show bI (freeC (τ.2.1 2) c) = 0 from by unfold freeC; rw [allN_of (p := fun e => !(isE e c && (decide (τ.2.1 2 (cA e) ≠ -1) || decide (τ.2.1 2 (cB e) ≠ -1)))) hii (by simp_all)]; simp [bI]]) (by rfl)
      · show allN (fun e => !(isE e c && (decide (τ.2.1 2 (cA e) ≠ -1) || decide (τ.2.1 2 (cB e) ≠ -1)))) 30 = true → G (13, [some (vR 1), some (vI c), some (vI ((30 : Nat) : Int))], [], cW τ κ)
        intro hzi
        show G (13, [some (vR 1), some (vI c), some (vI 30)], [], cW τ κ)
        refine hR.run0 2 (S' := (16, [some (vR 1), some (vI c), some (vI 30)], [vI 30, vI 30], cW τ κ)) rfl ?_
        refine hR.br (C := 30 ≤ 30) rfl (by (try dsimp only); omega) (fun c6 => ?_) (fun c6 => ?_)
        · skip
          refine hR.run0 1 (S' := (60, [some (vR 1), some (vI c), some (vI 30)], [vI 1], cW τ κ)) rfl ?_
          exact hR.rt rfl (Or.inr rfl) (by rw [show bI (freeC (τ.2.1 2) c) = 1 from by simp_all [freeC, bI]]) (by rfl)
        · exfalso; omega
    exact hL 0 (Nat.zero_le _) (by rfl)
  · skip
    refine hR.run0 1 (S' := (10, [some (vR 1), some (vI c), none], [vI 0], cW τ κ)) rfl ?_
    exact hR.rt rfl (Or.inl rfl) (by rw [show bI (freeC (τ.2.1 2) c) = 0 from by simp_all [freeC, bI]]) (by rfl)
theorem sp_canStartRoad (τ κ : St) {c p : Int} (hc : 0 ≤ c ∧ c < 24) (hp : 0 ≤ p ∧ p < 3) (hb : ∀ c, -1 ≤ τ.2.1 2 c ∧ τ.2.1 2 c ≤ 5) (hr : ∀ e, -1 ≤ τ.2.1 3 e ∧ τ.2.1 3 e ≤ 2) : Sp mX2_canStartRoad roC 3 [vR 1, vI c, vI p] (cW τ κ) (.inl (some (vI (bI (startC (τ.2.1 2) (τ.2.1 3) c p))))) (cW τ κ) := by
  have f0 := hb c
  have f1 : -1 ≤ ownB (τ.2.1 2 c) ∧ ownB (τ.2.1 2 c) ≤ 2 := by unfold ownB; split <;> omega
  refine Sp.of (lk := lkX2) (tb := bX2_canStartRoad) (by decide) lkX2_ok tX2_canStartRoad (cW_keys _ _ _ _) (Nat.le_of_ble_eq_true rfl) (fun G hR => ?_)
  refine hR.run0 2 (S' := (2, [some (vR 1), some (vI c), some (vI p), none], [vI c, vR 1], cW τ κ)) rfl ?_
  have f1 := ownB_r (hb c)
  refine hR.cv [vI c] kX2_52 rfl rfl ⟨_, _, _, rfl, rfl, rfl⟩ (by first | decide | exact Nat.le_refl _) (by decide) (Nat.le_of_ble_eq_true rfl) rfl (sp_ownerAt _ _ (by omega) hb) ?_
  show G (5, [some (vR 1), some (vI c), some (vI p), none], [vI (ownB (τ.2.1 2 c))], cW τ κ)
  refine hR.run0 3 (S' := (8, [some (vR 1), some (vI c), some (vI p), some (vI (ownB (τ.2.1 2 c)))], [vI p, vI (ownB (τ.2.1 2 c))], cW τ κ)) rfl ?_
  refine hR.br (C := ownB (τ.2.1 2 c) = p) rfl (by (try dsimp only); omega) (fun c1 => ?_) (fun c1 => ?_)
  · skip
    refine hR.run0 2 (S' := (30, [some (vR 1), some (vI c), some (vI p), some (vI (ownB (τ.2.1 2 c)))], [vI 1], cW τ κ)) rfl ?_
    exact hR.rt rfl (Or.inr rfl) (by rw [show bI (startC (τ.2.1 2) (τ.2.1 3) c p) = 1 from by simp_all [startC, bI]]) (by rfl)
  · skip
    refine hR.run0 2 (S' := (13, [some (vR 1), some (vI c), some (vI p), some (vI (ownB (τ.2.1 2 c)))], [vI (-1), vI (ownB (τ.2.1 2 c))], cW τ κ)) rfl ?_
    refine hR.br (C := ownB (τ.2.1 2 c) ≠ (-1)) rfl (by (try dsimp only); omega) (fun c2 => ?_) (fun c2 => ?_)
    · skip
      refine hR.run0 1 (S' := (30, [some (vR 1), some (vI c), some (vI p), some (vI (ownB (τ.2.1 2 c)))], [vI 0], cW τ κ)) rfl ?_
      exact hR.rt rfl (Or.inl rfl) (by rw [show bI (startC (τ.2.1 2) (τ.2.1 3) c p) = 0 from by simp_all [startC, bI]]) (by rfl)
    · skip
      refine hR.run0 3 (S' := (19, [some (vR 1), some (vI c), some (vI p), some (vI (ownB (τ.2.1 2 c)))], [vI c, vI p, vR 1], cW τ κ)) rfl ?_
      refine hR.cv [vI p, vI c] kX2_55 rfl rfl ⟨_, _, _, rfl, rfl, rfl⟩ (by first | decide | exact Nat.le_refl _) (by decide) (Nat.le_of_ble_eq_true rfl) rfl (sp_hasRoadAt _ _ (by omega) (by omega) hr) ?_
      show G (22, [some (vR 1), some (vI c), some (vI p), some (vI (ownB (τ.2.1 2 c)))], [vI (bI (roadAtC (τ.2.1 3) p c))], cW τ κ)
      refine hR.br (C := bI (roadAtC (τ.2.1 3) p c) = 0) rfl (bI_r _) (fun c3 => ?_) (fun c3 => ?_)
      · replace c3 : (roadAtC (τ.2.1 3) p c) = false := bI0 c3
        refine hR.run0 1 (S' := (30, [some (vR 1), some (vI c), some (vI p), some (vI (ownB (τ.2.1 2 c)))], [vI 0], cW τ κ)) rfl ?_
        exact hR.rt rfl (Or.inl rfl) (by rw [show bI (startC (τ.2.1 2) (τ.2.1 3) c p) = 0 from by simp_all [startC, bI]]) (by rfl)
      · replace c3 : (roadAtC (τ.2.1 3) p c) = true := bI1 c3
        refine hR.run0 2 (S' := (30, [some (vR 1), some (vI c), some (vI p), some (vI (ownB (τ.2.1 2 c)))], [vI 1], cW τ κ)) rfl ?_
        exact hR.rt rfl (Or.inr rfl) (by rw [show bI (startC (τ.2.1 2) (τ.2.1 3) c p) = 1 from by simp_all [startC, bI]]) (by rfl)
theorem sp_canTakeRoad (τ κ : St) {e p : Int} (he : 0 ≤ e ∧ e < 30) (hp : 0 ≤ p ∧ p < 3) (hb : ∀ c, -1 ≤ τ.2.1 2 c ∧ τ.2.1 2 c ≤ 5) (hr : ∀ e, -1 ≤ τ.2.1 3 e ∧ τ.2.1 3 e ≤ 2) : Sp mX2_canTakeRoad roC 4 [vR 1, vI e, vI p] (cW τ κ) (.inl (some (vI (bI (roadC (τ.2.1 2) (τ.2.1 3) e p))))) (cW τ κ) := by
  have f0 := hr e
  have r1 := cA_r he
  have r2 := cB_r he
  refine Sp.of (lk := lkX2) (tb := bX2_canTakeRoad) (by decide) lkX2_ok tX2_canTakeRoad (cW_keys _ _ _ _) (Nat.le_of_ble_eq_true rfl) (fun G hR => ?_)
  refine hR.run0 2 (S' := (2, [some (vR 1), some (vI e), some (vI p)], [vI e, vR 1], cW τ κ)) rfl ?_
  refine hR.cv [vI e] kX2_46 rfl rfl ⟨_, _, _, rfl, rfl, rfl⟩ (by first | decide | exact Nat.le_refl _) (by decide) (Nat.le_of_ble_eq_true rfl) rfl (sp_roadOwner _ _ (by omega)) ?_
  show G (5, [some (vR 1), some (vI e), some (vI p)], [vI (τ.2.1 3 e)], cW τ κ)
  refine hR.run0 1 (S' := (6, [some (vR 1), some (vI e), some (vI p)], [vI (-1), vI (τ.2.1 3 e)], cW τ κ)) rfl ?_
  refine hR.br (C := τ.2.1 3 e ≠ (-1)) rfl (by (try dsimp only); omega) (fun c1 => ?_) (fun c1 => ?_)
  · skip
    refine hR.run0 1 (S' := (38, [some (vR 1), some (vI e), some (vI p)], [vI 0], cW τ κ)) rfl ?_
    exact hR.rt rfl (Or.inl rfl) (by rw [show bI (roadC (τ.2.1 2) (τ.2.1 3) e p) = 0 from by simp_all [roadC, bI]]) (by rfl)
  · skip
    refine hR.run0 2 (S' := (11, [some (vR 1), some (vI e), some (vI p)], [vI e, vR 1], cW τ κ)) rfl ?_
    refine hR.cs [vI e] kX2_28 rfl rfl (by first | decide | exact Nat.le_refl _) (by decide) (Nat.le_of_ble_eq_true rfl) rfl (sp_oneEnd _ _ (by omega)) ?_
    show G (14, [some (vR 1), some (vI e), some (vI p)], [vI (cA e), vR 1], cW τ κ)
    refine hR.run0 1 (S' := (15, [some (vR 1), some (vI e), some (vI p)], [vI p, vI (cA e), vR 1], cW τ κ)) rfl ?_
    refine hR.cv [vI (cA e), vI p] kX2_49 rfl rfl ⟨_, _, _, rfl, rfl, rfl⟩ (by first | decide | exact Nat.le_refl _) (by decide) (Nat.le_of_ble_eq_true rfl) rfl (sp_canStartRoad _ _ (by omega) (by omega) hb hr) ?_
    show G (18, [some (vR 1), some (vI e), some (vI p)], [vI (bI (startC (τ.2.1 2) (τ.2.1 3) (cA e) p))], cW τ κ)
    refine hR.br (C := bI (startC (τ.2.1 2) (τ.2.1 3) (cA e) p) ≠ 0) rfl (bI_r _) (fun c2 => ?_) (fun c2 => ?_)
    · replace c2 : (startC (τ.2.1 2) (τ.2.1 3) (cA e) p) = true := bI1 c2
      refine hR.run0 2 (S' := (38, [some (vR 1), some (vI e), some (vI p)], [vI 1], cW τ κ)) rfl ?_
      exact hR.rt rfl (Or.inr rfl) (by rw [show bI (roadC (τ.2.1 2) (τ.2.1 3) e p) = 1 from by simp_all [roadC, bI]]) (by rfl)
    · replace c2 : (startC (τ.2.1 2) (τ.2.1 3) (cA e) p) = false := bI0 (Classical.not_not.mp c2)
      refine hR.run0 2 (S' := (23, [some (vR 1), some (vI e), some (vI p)], [vI e, vR 1], cW τ κ)) rfl ?_
      refine hR.cs [vI e] kX2_32 rfl rfl (by first | decide | exact Nat.le_refl _) (by decide) (Nat.le_of_ble_eq_true rfl) rfl (sp_otherEnd _ _ (by omega)) ?_
      show G (26, [some (vR 1), some (vI e), some (vI p)], [vI (cB e), vR 1], cW τ κ)
      refine hR.run0 1 (S' := (27, [some (vR 1), some (vI e), some (vI p)], [vI p, vI (cB e), vR 1], cW τ κ)) rfl ?_
      refine hR.cv [vI (cB e), vI p] kX2_49 rfl rfl ⟨_, _, _, rfl, rfl, rfl⟩ (by first | decide | exact Nat.le_refl _) (by decide) (Nat.le_of_ble_eq_true rfl) rfl (sp_canStartRoad _ _ (by omega) (by omega) hb hr) ?_
      show G (30, [some (vR 1), some (vI e), some (vI p)], [vI (bI (startC (τ.2.1 2) (τ.2.1 3) (cB e) p))], cW τ κ)
      refine hR.br (C := bI (startC (τ.2.1 2) (τ.2.1 3) (cB e) p) = 0) rfl (bI_r _) (fun c3 => ?_) (fun c3 => ?_)
      · replace c3 : (startC (τ.2.1 2) (τ.2.1 3) (cB e) p) = false := bI0 c3
        refine hR.run0 1 (S' := (38, [some (vR 1), some (vI e), some (vI p)], [vI 0], cW τ κ)) rfl ?_
        exact hR.rt rfl (Or.inl rfl) (by rw [show bI (roadC (τ.2.1 2) (τ.2.1 3) e p) = 0 from by simp_all [roadC, bI]]) (by rfl)
      · replace c3 : (startC (τ.2.1 2) (τ.2.1 3) (cB e) p) = true := bI1 c3
        refine hR.run0 2 (S' := (38, [some (vR 1), some (vI e), some (vI p)], [vI 1], cW τ κ)) rfl ?_
        exact hR.rt rfl (Or.inr rfl) (by rw [show bI (roadC (τ.2.1 2) (τ.2.1 3) e p) = 1 from by simp_all [roadC, bI]]) (by rfl)
