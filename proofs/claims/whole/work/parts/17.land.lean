theorem sp_oneEnd (ro : PRO) (w : PW) {e : Int} (he : 0 ≤ e ∧ e < 30) : Sp mX2_oneEnd ro 0 [vI e] (w) (.inl (some (vI (cA e)))) (w) := by
  refine Sp.of (lk := lkX2) (tb := bX2_oneEnd) (by decide) lkX2_ok tX2_oneEnd rfl (Nat.le_of_ble_eq_true rfl) (fun G hR => ?_)
  refine hR.run0 2 (S' := (3, [some (vI e)], [vI 6, vI e], w)) rfl ?_
  refine hR.br (C := 6 ≤ e) rfl (by (try dsimp only); omega) (fun c1 => ?_) (fun c1 => ?_)
  · skip
    refine hR.run0 3 (S' := (14, [some (vI e)], [vI (e - 6)], w)) rfl ?_
    exact hR.rt rfl trivial (by rw [show cA e = (e - 6) from by unfold cA; (repeat' split) <;> omega]) (by rfl)
  · skip
    refine hR.run0 2 (S' := (14, [some (vI e)], [vI e], w)) rfl ?_
    exact hR.rt rfl trivial (by rw [show cA e = e from by unfold cA; (repeat' split) <;> omega]) (by rfl)
theorem sp_otherEnd (ro : PRO) (w : PW) {e : Int} (he : 0 ≤ e ∧ e < 30) : Sp mX2_otherEnd ro 0 [vI e] (w) (.inl (some (vI (cB e)))) (w) := by
  refine Sp.of (lk := lkX2) (tb := bX2_otherEnd) (by decide) lkX2_ok tX2_otherEnd rfl (Nat.le_of_ble_eq_true rfl) (fun G hR => ?_)
  refine hR.run0 2 (S' := (3, [some (vI e)], [vI 6, vI e], w)) rfl ?_
  refine hR.br (C := 6 ≤ e) rfl (by (try dsimp only); omega) (fun c1 => ?_) (fun c1 => ?_)
  · skip
    refine hR.run0 2 (S' := (16, [some (vI e)], [vI 12, vI e], w)) rfl ?_
    refine hR.br (C := 12 ≤ e) rfl (by (try dsimp only); omega) (fun c2 => ?_) (fun c2 => ?_)
    · skip
      refine hR.run1 9 (S' := (41, [some (vI e)], [vI (6 + (((e - 12) + 1) % 18))], w)) rfl (by (try dsimp only); omega) ?_
      exact hR.rt rfl trivial (by rw [show cB e = (6 + (((e - 12) + 1) % 18)) from by unfold cB; (repeat' split) <;> omega]) (by rfl)
    · skip
      refine hR.run0 7 (S' := (28, [some (vI e)], [vI (6 + (3 * (e - 6)))], w)) rfl ?_
      exact hR.rt rfl trivial (by rw [show cB e = (6 + (3 * (e - 6))) from by unfold cB; (repeat' split) <;> omega]) (by rfl)
  · skip
    refine hR.run1 5 (S' := (12, [some (vI e)], [vI ((e + 1) % 6)], w)) rfl (by (try dsimp only); omega) ?_
    exact hR.rt rfl trivial (by rw [show cB e = ((e + 1) % 6) from by unfold cB; (repeat' split) <;> omega]) (by rfl)
theorem sp_isEnd (ro : PRO) (w : PW) {e c : Int} (he : 0 ≤ e ∧ e < 30) (hc : -2147483648 ≤ c ∧ c ≤ 2147483647) : Sp mX2_isEnd ro 1 [vI e, vI c] (w) (.inl (some (vI (bI (isE e c))))) (w) := by
  have r1 := cA_r he
  have r2 := cB_r he
  refine Sp.of (lk := lkX2) (tb := bX2_isEnd) (by decide) lkX2_ok tX2_isEnd rfl (Nat.le_of_ble_eq_true rfl) (fun G hR => ?_)
  refine hR.run0 1 (S' := (1, [some (vI e), some (vI c)], [vI e], w)) rfl ?_
  refine hR.cs [vI e] kX2_28 rfl rfl (by decide) (by decide) (Nat.le_of_ble_eq_true rfl) rfl (sp_oneEnd _ _ (by omega)) ?_
  show G (4, [some (vI e), some (vI c)], [vI (cA e)], w)
  refine hR.run0 1 (S' := (5, [some (vI e), some (vI c)], [vI c, vI (cA e)], w)) rfl ?_
  refine hR.br (C := cA e = c) rfl (by (try dsimp only); omega) (fun c1 => ?_) (fun c1 => ?_)
  · skip
    refine hR.run0 2 (S' := (21, [some (vI e), some (vI c)], [vI 1], w)) rfl ?_
    exact hR.rt rfl (Or.inr rfl) (by rw [show bI (isE e c) = 1 from by simp_all [isE, bI]]) (by rfl)
  · skip
    refine hR.run0 1 (S' := (9, [some (vI e), some (vI c)], [vI e], w)) rfl ?_
    refine hR.cs [vI e] kX2_32 rfl rfl (by decide) (by decide) (Nat.le_of_ble_eq_true rfl) rfl (sp_otherEnd _ _ (by omega)) ?_
    show G (12, [some (vI e), some (vI c)], [vI (cB e)], w)
    refine hR.run0 1 (S' := (13, [some (vI e), some (vI c)], [vI c, vI (cB e)], w)) rfl ?_
    refine hR.br (C := cB e ≠ c) rfl (by (try dsimp only); omega) (fun c2 => ?_) (fun c2 => ?_)
    · skip
      refine hR.run0 1 (S' := (21, [some (vI e), some (vI c)], [vI 0], w)) rfl ?_
      exact hR.rt rfl (Or.inl rfl) (by rw [show bI (isE e c) = 0 from by simp_all [isE, bI]]) (by rfl)
    · skip
      refine hR.run0 2 (S' := (21, [some (vI e), some (vI c)], [vI 1], w)) rfl ?_
      exact hR.rt rfl (Or.inr rfl) (by rw [show bI (isE e c) = 1 from by simp_all [isE, bI]]) (by rfl)
theorem sp_cornerOf (ro : PRO) (w : PW) {h i : Int} (hh : 0 ≤ h ∧ h < 7) (hi : 0 ≤ i ∧ i < 6) : Sp mX2_cornerOf ro 0 [vI h, vI i] (w) (.inl (some (vI (hexC h i)))) (w) := by
  refine Sp.of (lk := lkX2) (tb := bX2_cornerOf) (by decide) lkX2_ok tX2_cornerOf rfl (Nat.le_of_ble_eq_true rfl) (fun G hR => ?_)
  refine hR.run0 1 (S' := (1, [some (vI h), some (vI i)], [vI h], w)) rfl ?_
  refine hR.br (C := h ≠ 0) rfl (by (try dsimp only); omega) (fun c1 => ?_) (fun c1 => ?_)
  · skip
    refine hR.run0 2 (S' := (8, [some (vI h), some (vI i)], [vI 2, vI i], w)) rfl ?_
    refine hR.br (C := 2 ≤ i) rfl (by (try dsimp only); omega) (fun c2 => ?_) (fun c2 => ?_)
    · skip
      refine hR.run1 13 (S' := (35, [some (vI h), some (vI i)], [vI (6 + ((((3 * (h - 1)) + i) - 2) % 18))], w)) rfl (by (try dsimp only); omega) ?_
      exact hR.rt rfl trivial (by rw [show hexC h i = (6 + ((((3 * (h - 1)) + i) - 2) % 18)) from by unfold hexC; (repeat' split) <;> omega]) (by rfl)
    · skip
      refine hR.run1 7 (S' := (19, [some (vI h), some (vI i)], [vI (((h - 1) + i) % 6)], w)) rfl (by (try dsimp only); omega) ?_
      exact hR.rt rfl trivial (by rw [show hexC h i = (((h - 1) + i) % 6) from by unfold hexC; (repeat' split) <;> omega]) (by rfl)
  · skip
    refine hR.run0 1 (S' := (5, [some (vI h), some (vI i)], [vI i], w)) rfl ?_
    exact hR.rt rfl trivial (by rw [show hexC h i = i from by unfold hexC; (repeat' split) <;> omega]) (by rfl)
-- isAround
