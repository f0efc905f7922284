theorem sp_endFor (τ κ : St) {p c d : Int} (hp : 0 ≤ p ∧ p < 3) (hc : 0 ≤ c ∧ c < 24) (hb : ∀ c, -1 ≤ τ.2.1 2 c ∧ τ.2.1 2 c ≤ 5) : Sp mX4_endFor roC 1 [vR 1, vI p, vI c, vI d] (cW τ κ) (.inl (some (vI (edF (τ.2.1 2) p c d)))) (cW τ κ) := by
  refine Sp.of (lk := lkX4) (tb := bX4_endFor) (by decide) lkX4_ok tX4_endFor (cW_keys _ _ _ _) (Nat.le_of_ble_eq_true rfl) (fun G hR => ?_)
  refine hR.run0 2 (S' := (2, [some (vR 1), some (vI p), some (vI c), some (vI d), none], [vI c, vR 1], cW τ κ)) rfl ?_
  have f1 := ownB_r (hb c)
  refine hR.cv [vI c] kX4_64 rfl rfl ⟨_, _, _, rfl, rfl, rfl⟩ (by first | decide | exact Nat.le_refl _) (by decide) (Nat.le_of_ble_eq_true rfl) rfl (sp_ownerAt _ _ (by omega) hb) ?_
  show G (5, [some (vR 1), some (vI p), some (vI c), some (vI d), none], [vI (ownB (τ.2.1 2 c))], cW τ κ)
  refine hR.run0 3 (S' := (10, [some (vR 1), some (vI p), some (vI c), some (vI d), some (vI (ownB (τ.2.1 2 c)))], [vI (-1), vI (ownB (τ.2.1 2 c))], cW τ κ)) rfl ?_
  refine hR.br (C := ownB (τ.2.1 2 c) = (-1)) rfl (by (try dsimp only); omega) (fun c1 => ?_) (fun c1 => ?_)
  · skip
    refine hR.run0 2 (S' := (24, [some (vR 1), some (vI p), some (vI c), some (vI d), some (vI (ownB (τ.2.1 2 c)))], [vI c], cW τ κ)) rfl ?_
    exact hR.rt rfl trivial (by rw [show edF (τ.2.1 2) p c d = c from by unfold edF; (repeat' split) <;> first | rfl | (exfalso; omega)]) (by rfl)
  · skip
    refine hR.run0 2 (S' := (16, [some (vR 1), some (vI p), some (vI c), some (vI d), some (vI (ownB (τ.2.1 2 c)))], [vI p, vI (ownB (τ.2.1 2 c))], cW τ κ)) rfl ?_
    refine hR.br (C := ownB (τ.2.1 2 c) ≠ p) rfl (by (try dsimp only); omega) (fun c2 => ?_) (fun c2 => ?_)
    · skip
      refine hR.run0 1 (S' := (24, [some (vR 1), some (vI p), some (vI c), some (vI d), some (vI (ownB (τ.2.1 2 c)))], [vI d], cW τ κ)) rfl ?_
      exact hR.rt rfl trivial (by rw [show edF (τ.2.1 2) p c d = d from by unfold edF; (repeat' split) <;> first | rfl | (exfalso; omega)]) (by rfl)
    · skip
      refine hR.run0 2 (S' := (24, [some (vR 1), some (vI p), some (vI c), some (vI d), some (vI (ownB (τ.2.1 2 c)))], [vI c], cW τ κ)) rfl ?_
      exact hR.rt rfl trivial (by rw [show edF (τ.2.1 2) p c d = c from by unfold edF; (repeat' split) <;> first | rfl | (exfalso; omega)]) (by rfl)
theorem sp_gather (τ κ : St) {p : Int} (hp : 0 ≤ p ∧ p < 3) (hb : ∀ c, -1 ≤ τ.2.1 2 c ∧ τ.2.1 2 c ≤ 5) (hr : ∀ e, -1 ≤ τ.2.1 3 e ∧ τ.2.1 3 e ≤ 2) : Sp mX4_gather roC 2 [vR 40, vR 1, vI p] (cW τ κ) (.inl none) (cW τ (gaN (τ.2.1 2) (τ.2.1 3) p κ 30)) := by
  refine Sp.of (lk := lkX4) (tb := bX4_gather) (by decide) lkX4_ok tX4_gather (cW_keys _ _ _ _) (Nat.le_of_ble_eq_true rfl) (fun G hR => ?_)
  refine hR.run0 3 (S' := (5, [some (vR 40), some (vR 1), some (vI p), none], [], pset (cW τ κ) 40 (.inr (4, [vR 41, vR 42, vI 0])))) rfl ?_
  rw [cW_x0]
  refine hR.run0 2 (S' := (7, [some (vR 40), some (vR 1), some (vI p), some (vI 0)], [], cW τ (sS κ 0 0))) rfl ?_
  have hL : ∀ i : Nat, i ≤ 30 → G (7, [some (vR 40), some (vR 1), some (vI p), some (vI ((i : Nat) : Int))], [], cW τ (gaN (τ.2.1 2) (τ.2.1 3) p κ i)) := by
    refine back (P := fun i : Nat => G (7, [some (vR 40), some (vR 1), some (vI p), some (vI ((i : Nat) : Int))], [], cW τ (gaN (τ.2.1 2) (τ.2.1 3) p κ i))) ?_ ?_
    · intro i hii ihi
      replace ihi : G (7, [some (vR 40), some (vR 1), some (vI p), some (vI ((i + 1 : Nat) : Int))], [], cW τ (gaN (τ.2.1 2) (τ.2.1 3) p κ (i + 1))) := ihi
      show G (7, [some (vR 40), some (vR 1), some (vI p), some (vI (i : Int))], [], cW τ (gaN (τ.2.1 2) (τ.2.1 3) p κ i))
      have q1 := gaN_cnt (τ.2.1 2) (τ.2.1 3) p κ i
      have q2 := cA_r (e := (i : Int)) (by omega)
      have q3 := cB_r (e := (i : Int)) (by omega)
      have q4 := hr (i : Int)
      have q5 := edF_r (b := τ.2.1 2) (p := p) q2 (d := 24 + 2 * (gaN (τ.2.1 2) (τ.2.1 3) p κ i).1 0) (by omega)
      refine hR.run0 2 (S' := (10, [some (vR 40), some (vR 1), some (vI p), some (vI (i : Int))], [vI 30, vI (i : Int)], cW τ (gaN (τ.2.1 2) (τ.2.1 3) p κ i))) rfl ?_
      refine hR.br (C := 30 ≤ (i : Int)) rfl (by (try dsimp only); omega) (fun c1 => ?_) (fun c1 => ?_)
      · exfalso; omega
      refine hR.run0 3 (S' := (19, [some (vR 40), some (vR 1), some (vI p), some (vI (i : Int))], [vI 8, vI ((gaN (τ.2.1 2) (τ.2.1 3) p κ i).1 0)], cW τ (gaN (τ.2.1 2) (τ.2.1 3) p κ i))) rfl ?_
      refine hR.br (C := 8 ≤ (gaN (τ.2.1 2) (τ.2.1 3) p κ i).1 0) rfl (by (try dsimp only); omega) (fun c2 => ?_) (fun c2 => ?_)
      · skip
        exact hR.rt rfl trivial rfl (by rw [gaN_stop30 _ _ _ _ (n := i) (by omega) (by omega)])
      · skip
        refine hR.run0 2 (S' := (24, [some (vR 40), some (vR 1), some (vI p), some (vI (i : Int))], [vI (i : Int), vR 1], cW τ (gaN (τ.2.1 2) (τ.2.1 3) p κ i))) rfl ?_
        refine hR.cv [vI (i : Int)] kX4_49 rfl rfl ⟨_, _, _, rfl, rfl, rfl⟩ (by first | decide | exact Nat.le_refl _) (by decide) (Nat.le_of_ble_eq_true rfl) rfl (sp_roadOwner _ _ (by omega)) ?_
        show G (27, [some (vR 40), some (vR 1), some (vI p), some (vI (i : Int))], [vI (τ.2.1 3 (i : Int))], cW τ (gaN (τ.2.1 2) (τ.2.1 3) p κ i))
        refine hR.run0 1 (S' := (28, [some (vR 40), some (vR 1), some (vI p), some (vI (i : Int))], [vI p, vI (τ.2.1 3 (i : Int))], cW τ (gaN (τ.2.1 2) (τ.2.1 3) p κ i))) rfl ?_
        refine hR.br (C := τ.2.1 3 (i : Int) ≠ p) rfl (by (try dsimp only); omega) (fun c3 => ?_) (fun c3 => ?_)
        · skip
          refine hR.run0 2 (S' := (7, [some (vR 40), some (vR 1), some (vI p), some (vI ((i : Int) + 1))], [], cW τ (gaN (τ.2.1 2) (τ.2.1 3) p κ i))) rfl ?_
          rw [show cW τ (gaN (τ.2.1 2) (τ.2.1 3) p κ (i + 1)) = cW τ (gaN (τ.2.1 2) (τ.2.1 3) p κ i) from by show cW τ (ga1 (τ.2.1 2) (τ.2.1 3) p (i : Int) (gaN (τ.2.1 2) (τ.2.1 3) p κ i)) = _; unfold ga1; split <;> first | rfl | (exfalso; omega)] at ihi
          exact ihi
        · skip
          refine hR.run0 7 (S' := (42, [some (vR 40), some (vR 1), some (vI p), some (vI (i : Int))], [vI (i : Int), vI p, vR 1, vI ((gaN (τ.2.1 2) (τ.2.1 3) p κ i).1 0), vR 41], cW τ (gaN (τ.2.1 2) (τ.2.1 3) p κ i))) rfl ?_
          refine hR.cs [vI (i : Int)] kX4_54 rfl rfl (by first | decide | exact Nat.le_refl _) (by decide) (Nat.le_of_ble_eq_true rfl) rfl (sp_oneEnd _ _ (by omega)) ?_
          show G (45, [some (vR 40), some (vR 1), some (vI p), some (vI (i : Int))], [vI (cA (i : Int)), vI p, vR 1, vI ((gaN (τ.2.1 2) (τ.2.1 3) p κ i).1 0), vR 41], cW τ (gaN (τ.2.1 2) (τ.2.1 3) p κ i))
          refine hR.run0 6 (S' := (54, [some (vR 40), some (vR 1), some (vI p), some (vI (i : Int))], [vI (24 + (2 * ((gaN (τ.2.1 2) (τ.2.1 3) p κ i).1 0))), vI (cA (i : Int)), vI p, vR 1, vI ((gaN (τ.2.1 2) (τ.2.1 3) p κ i).1 0), vR 41], cW τ (gaN (τ.2.1 2) (τ.2.1 3) p κ i))) rfl ?_
          refine hR.cs [vR 1, vI p, vI (cA (i : Int)), vI (24 + (2 * ((gaN (τ.2.1 2) (τ.2.1 3) p κ i).1 0)))] kX4_57 rfl rfl (by first | decide | exact Nat.le_refl _) (by decide) (Nat.le_of_ble_eq_true rfl) rfl (sp_endFor _ _ (by omega) (by omega) hb) ?_
          show G (57, [some (vR 40), some (vR 1), some (vI p), some (vI (i : Int))], [vI (edF (τ.2.1 2) p (cA (i : Int)) (24 + (2 * ((gaN (τ.2.1 2) (τ.2.1 3) p κ i).1 0)))), vI ((gaN (τ.2.1 2) (τ.2.1 3) p κ i).1 0), vR 41], cW τ (gaN (τ.2.1 2) (τ.2.1 3) p κ i))
          refine hR.run1 1 (S' := (58, [some (vR 40), some (vR 1), some (vI p), some (vI (i : Int))], [], pset (cW τ (gaN (τ.2.1 2) (τ.2.1 3) p κ i)) 41 (.inl (8, .inl (pup ((gaN (τ.2.1 2) (τ.2.1 3) p κ i).2.1 0) ((gaN (τ.2.1 2) (τ.2.1 3) p κ i).1 0) (edF (τ.2.1 2) p (cA (i : Int)) (24 + (2 * ((gaN (τ.2.1 2) (τ.2.1 3) p κ i).1 0))))))))) rfl (by (try dsimp only); omega) ?_
          rw [cW_y0]
          refine hR.run0 7 (S' := (69, [some (vR 40), some (vR 1), some (vI p), some (vI (i : Int))], [vI (i : Int), vI p, vR 1, vI ((gaN (τ.2.1 2) (τ.2.1 3) p κ i).1 0), vR 42], cW τ (sAt (gaN (τ.2.1 2) (τ.2.1 3) p κ i) 0 ((gaN (τ.2.1 2) (τ.2.1 3) p κ i).1 0) (edF (τ.2.1 2) p (cA (i : Int)) (24 + (2 * ((gaN (τ.2.1 2) (τ.2.1 3) p κ i).1 0))))))) rfl ?_
          refine hR.cs [vI (i : Int)] kX4_61 rfl rfl (by first | decide | exact Nat.le_refl _) (by decide) (Nat.le_of_ble_eq_true rfl) rfl (sp_otherEnd _ _ (by omega)) ?_
          show G (72, [some (vR 40), some (vR 1), some (vI p), some (vI (i : Int))], [vI (cB (i : Int)), vI p, vR 1, vI ((gaN (τ.2.1 2) (τ.2.1 3) p κ i).1 0), vR 42], cW τ (sAt (gaN (τ.2.1 2) (τ.2.1 3) p κ i) 0 ((gaN (τ.2.1 2) (τ.2.1 3) p κ i).1 0) (edF (τ.2.1 2) p (cA (i : Int)) (24 + (2 * ((gaN (τ.2.1 2) (τ.2.1 3) p κ i).1 0))))))
          refine hR.run0 8 (S' := (83, [some (vR 40), some (vR 1), some (vI p), some (vI (i : Int))], [vI ((24 + (2 * ((gaN (τ.2.1 2) (τ.2.1 3) p κ i).1 0))) + 1), vI (cB (i : Int)), vI p, vR 1, vI ((gaN (τ.2.1 2) (τ.2.1 3) p κ i).1 0), vR 42], cW τ (sAt (gaN (τ.2.1 2) (τ.2.1 3) p κ i) 0 ((gaN (τ.2.1 2) (τ.2.1 3) p κ i).1 0) (edF (τ.2.1 2) p (cA (i : Int)) (24 + (2 * ((gaN (τ.2.1 2) (τ.2.1 3) p κ i).1 0))))))) rfl ?_
          refine hR.cs [vR 1, vI p, vI (cB (i : Int)), vI ((24 + (2 * ((gaN (τ.2.1 2) (τ.2.1 3) p κ i).1 0))) + 1)] kX4_57 rfl rfl (by first | decide | exact Nat.le_refl _) (by decide) (Nat.le_of_ble_eq_true rfl) rfl (sp_endFor _ _ (by omega) (by omega) hb) ?_
          show G (86, [some (vR 40), some (vR 1), some (vI p), some (vI (i : Int))], [vI (edF (τ.2.1 2) p (cB (i : Int)) ((24 + (2 * ((gaN (τ.2.1 2) (τ.2.1 3) p κ i).1 0))) + 1)), vI ((gaN (τ.2.1 2) (τ.2.1 3) p κ i).1 0), vR 42], cW τ (sAt (gaN (τ.2.1 2) (τ.2.1 3) p κ i) 0 ((gaN (τ.2.1 2) (τ.2.1 3) p κ i).1 0) (edF (τ.2.1 2) p (cA (i : Int)) (24 + (2 * ((gaN (τ.2.1 2) (τ.2.1 3) p κ i).1 0))))))
          refine hR.run1 1 (S' := (87, [some (vR 40), some (vR 1), some (vI p), some (vI (i : Int))], [], pset (cW τ (sAt (gaN (τ.2.1 2) (τ.2.1 3) p κ i) 0 ((gaN (τ.2.1 2) (τ.2.1 3) p κ i).1 0) (edF (τ.2.1 2) p (cA (i : Int)) (24 + (2 * ((gaN (τ.2.1 2) (τ.2.1 3) p κ i).1 0)))))) 42 (.inl (8, .inl (pup ((sAt (gaN (τ.2.1 2) (τ.2.1 3) p κ i) 0 ((gaN (τ.2.1 2) (τ.2.1 3) p κ i).1 0) (edF (τ.2.1 2) p (cA (i : Int)) (24 + (2 * ((gaN (τ.2.1 2) (τ.2.1 3) p κ i).1 0))))).2.1 1) ((gaN (τ.2.1 2) (τ.2.1 3) p κ i).1 0) (edF (τ.2.1 2) p (cB (i : Int)) ((24 + (2 * ((gaN (τ.2.1 2) (τ.2.1 3) p κ i).1 0))) + 1))))))) rfl (by (try dsimp only); omega) ?_
          rw [cW_y1]
          refine hR.run0 6 (S' := (97, [some (vR 40), some (vR 1), some (vI p), some (vI (i : Int))], [], pset (cW τ (sAt (sAt (gaN (τ.2.1 2) (τ.2.1 3) p κ i) 0 ((gaN (τ.2.1 2) (τ.2.1 3) p κ i).1 0) (edF (τ.2.1 2) p (cA (i : Int)) (24 + (2 * ((gaN (τ.2.1 2) (τ.2.1 3) p κ i).1 0))))) 1 ((gaN (τ.2.1 2) (τ.2.1 3) p κ i).1 0) (edF (τ.2.1 2) p (cB (i : Int)) ((24 + (2 * ((gaN (τ.2.1 2) (τ.2.1 3) p κ i).1 0))) + 1)))) 40 (.inr (4, [vR 41, vR 42, vI (((gaN (τ.2.1 2) (τ.2.1 3) p κ i).1 0) + 1)])))) rfl ?_
          rw [cW_x0]
          refine hR.run0 2 (S' := (7, [some (vR 40), some (vR 1), some (vI p), some (vI ((i : Int) + 1))], [], cW τ (sS (sAt (sAt (gaN (τ.2.1 2) (τ.2.1 3) p κ i) 0 ((gaN (τ.2.1 2) (τ.2.1 3) p κ i).1 0) (edF (τ.2.1 2) p (cA (i : Int)) (24 + (2 * ((gaN (τ.2.1 2) (τ.2.1 3) p κ i).1 0))))) 1 ((gaN (τ.2.1 2) (τ.2.1 3) p κ i).1 0) (edF (τ.2.1 2) p (cB (i : Int)) ((24 + (2 * ((gaN (τ.2.1 2) (τ.2.1 3) p κ i).1 0))) + 1))) 0 (((gaN (τ.2.1 2) (τ.2.1 3) p κ i).1 0) + 1)))) rfl ?_
          rw [show cW τ (gaN (τ.2.1 2) (τ.2.1 3) p κ (i + 1)) = cW τ (sS (sAt (sAt (gaN (τ.2.1 2) (τ.2.1 3) p κ i) 0 ((gaN (τ.2.1 2) (τ.2.1 3) p κ i).1 0) (edF (τ.2.1 2) p (cA (i : Int)) (24 + (2 * ((gaN (τ.2.1 2) (τ.2.1 3) p κ i).1 0))))) 1 ((gaN (τ.2.1 2) (τ.2.1 3) p κ i).1 0) (edF (τ.2.1 2) p (cB (i : Int)) ((24 + (2 * ((gaN (τ.2.1 2) (τ.2.1 3) p κ i).1 0))) + 1))) 0 (((gaN (τ.2.1 2) (τ.2.1 3) p κ i).1 0) + 1)) from by show cW τ (ga1 (τ.2.1 2) (τ.2.1 3) p (i : Int) (gaN (τ.2.1 2) (τ.2.1 3) p κ i)) = _; unfold ga1; split <;> first | rfl | (exfalso; omega)] at ihi
          exact ihi
    · show G (7, [some (vR 40), some (vR 1), some (vI p), some (vI ((30 : Nat) : Int))], [], cW τ (gaN (τ.2.1 2) (τ.2.1 3) p κ 30))
      show G (7, [some (vR 40), some (vR 1), some (vI p), some (vI 30)], [], cW τ (gaN (τ.2.1 2) (τ.2.1 3) p κ 30))
      refine hR.run0 2 (S' := (10, [some (vR 40), some (vR 1), some (vI p), some (vI 30)], [vI 30, vI 30], cW τ (gaN (τ.2.1 2) (τ.2.1 3) p κ 30))) rfl ?_
      refine hR.br (C := 30 ≤ 30) rfl (by (try dsimp only); omega) (fun c4 => ?_) (fun c4 => ?_)
      · skip
        exact hR.rt rfl trivial rfl rfl
      · exfalso; omega
  exact hL 0 (Nat.zero_le _)
theorem sp_goOn (τ κ : St) {c : Nat} (hc : c ≤ 8) (hon : ∀ i, 0 ≤ κ.2.1 0 i ∧ κ.2.1 0 i ≤ 63) (hot : ∀ i, 0 ≤ κ.2.1 1 i ∧ κ.2.1 1 i ≤ 63) : ∀ (k : Nat) (dd e g : Int), k ≤ 8 → dd = 8 - (k : Int) → (0 ≤ e ∧ e ≤ 63) → (-2147483648 ≤ g ∧ g ≤ 2147483647) → Sp mX4_goOn roC k [vR 41, vR 42, vI (c : Int), vI e, vI g, vI dd] (cW τ κ) (.inl (some (vI (goF (κ.2.1 0) (κ.2.1 1) c k e g)))) (cW τ κ)
  | 0, dd, e, g, hk, hdd, he, hg => by
    refine Sp.of (lk := lkX4) (tb := bX4_goOn) (by decide) lkX4_ok tX4_goOn rfl (Nat.le_of_ble_eq_true rfl) (fun G hR => ?_)
    refine hR.run0 2 (S' := (4, [some (vR 41), some (vR 42), some (vI (c : Int)), some (vI e), some (vI g), some (vI dd), none, none, none, none], [vI 8, vI dd], cW τ κ)) rfl ?_
    refine hR.br (C := dd < 8) rfl (by (try dsimp only); omega) (fun c1 => ?_) (fun c1 => ?_)
    · exfalso; omega
    refine hR.run0 1 (S' := (8, [some (vR 41), some (vR 42), some (vI (c : Int)), some (vI e), some (vI g), some (vI dd), none, none, none, none], [vI 0], cW τ κ)) rfl ?_
    exact hR.rt rfl trivial rfl rfl
  | k + 1, dd, e, g, hk, hdd, he, hg => by
    refine Sp.of (lk := lkX4) (tb := bX4_goOn) (by decide) lkX4_ok tX4_goOn rfl (Nat.le_of_ble_eq_true rfl) (fun G hR => ?_)
    refine hR.run0 2 (S' := (4, [some (vR 41), some (vR 42), some (vI (c : Int)), some (vI e), some (vI g), some (vI dd), none, none, none, none], [vI 8, vI dd], cW τ κ)) rfl ?_
    refine hR.br (C := dd < 8) rfl (by (try dsimp only); omega) (fun c2 => ?_) (fun c2 => ?_)
    · skip
      refine hR.run0 4 (S' := (15, [some (vR 41), some (vR 42), some (vI (c : Int)), some (vI e), some (vI g), some (vI dd), some (vI 0), some (vI 0), none, none], [], cW τ κ)) rfl ?_
      have hL : ∀ i : Nat, i ≤ c → G (15, [some (vR 41), some (vR 42), some (vI (c : Int)), some (vI e), some (vI g), some (vI dd), some (vI (mxN (goS (κ.2.1 0) (κ.2.1 1) g e (goF (κ.2.1 0) (κ.2.1 1) c k)) i)), some (vI ((i : Nat) : Int)), none, none], [], cW τ κ) := by
        refine back (P := fun i : Nat => G (15, [some (vR 41), some (vR 42), some (vI (c : Int)), some (vI e), some (vI g), some (vI dd), some (vI (mxN (goS (κ.2.1 0) (κ.2.1 1) g e (goF (κ.2.1 0) (κ.2.1 1) c k)) i)), some (vI ((i : Nat) : Int)), none, none], [], cW τ κ)) ?_ ?_
        · intro i hii ihi
          replace ihi : G (15, [some (vR 41), some (vR 42), some (vI (c : Int)), some (vI e), some (vI g), some (vI dd), some (vI (mxN (goS (κ.2.1 0) (κ.2.1 1) g e (goF (κ.2.1 0) (κ.2.1 1) c k)) (i + 1))), some (vI ((i + 1 : Nat) : Int)), none, none], [], cW τ κ) := ihi
          show G (15, [some (vR 41), some (vR 42), some (vI (c : Int)), some (vI e), some (vI g), some (vI dd), some (vI (mxN (goS (κ.2.1 0) (κ.2.1 1) g e (goF (κ.2.1 0) (κ.2.1 1) c k)) i)), some (vI (i : Int)), none, none], [], cW τ κ)
          have q1 := mxN_r (f := goS (κ.2.1 0) (κ.2.1 1) g e (goF (κ.2.1 0) (κ.2.1 1) c k)) (b := (k : Int) + 1) (by omega) (fun j => by unfold goS; split; (have := (goF_r (κ.2.1 0) (κ.2.1 1) c k (if κ.2.1 0 j = e then κ.2.1 1 j else κ.2.1 0 j) (iO g (iSl 1 j))).2; omega); omega) i
          have q2 := hon (i : Int)
          have q3 := hot (i : Int)
          have q4 := iA_r (iSr g (i : Int)) 1
          have q5 := iO_r g (iSl 1 (i : Int))
          refine hR.run0 2 (S' := (18, [some (vR 41), some (vR 42), some (vI (c : Int)), some (vI e), some (vI g), some (vI dd), some (vI (mxN (goS (κ.2.1 0) (κ.2.1 1) g e (goF (κ.2.1 0) (κ.2.1 1) c k)) i)), some (vI (i : Int)), none, none], [vI (c : Int), vI (i : Int)], cW τ κ)) rfl ?_
          refine hR.br (C := (c : Int) ≤ (i : Int)) rfl (by (try dsimp only); omega) (fun c3 => ?_) (fun c3 => ?_)
          · exfalso; omega
          refine hR.run0 3 (S' := (25, [some (vR 41), some (vR 42), some (vI (c : Int)), some (vI e), some (vI g), some (vI dd), some (vI (mxN (goS (κ.2.1 0) (κ.2.1 1) g e (goF (κ.2.1 0) (κ.2.1 1) c k)) i)), some (vI (i : Int)), none, none], [vI 8, vI (i : Int)], cW τ κ)) rfl ?_
          refine hR.br (C := 8 ≤ (i : Int)) rfl (by (try dsimp only); omega) (fun c4 => ?_) (fun c4 => ?_)
          · exfalso; omega
          refine hR.run0 3 (S' := (32, [some (vR 41), some (vR 42), some (vI (c : Int)), some (vI e), some (vI g), some (vI dd), some (vI (mxN (goS (κ.2.1 0) (κ.2.1 1) g e (goF (κ.2.1 0) (κ.2.1 1) c k)) i)), some (vI (i : Int)), none, none], [vI 8, vI (i : Int)], cW τ κ)) rfl ?_
          refine hR.br (C := 8 ≤ (i : Int)) rfl (by (try dsimp only); omega) (fun c5 => ?_) (fun c5 => ?_)
          · exfalso; omega
          refine hR.run0 5 (S' := (42, [some (vR 41), some (vR 42), some (vI (c : Int)), some (vI e), some (vI g), some (vI dd), some (vI (mxN (goS (κ.2.1 0) (κ.2.1 1) g e (goF (κ.2.1 0) (κ.2.1 1) c k)) i)), some (vI (i : Int)), none, none], [vI (iA (iSr g (i : Int)) 1)], cW τ κ)) rfl ?_
          refine hR.br (C := iA (iSr g (i : Int)) 1 ≠ 0) rfl (by (try dsimp only); omega) (fun c6 => ?_) (fun c6 => ?_)
          · skip
            refine hR.run0 2 (S' := (15, [some (vR 41), some (vR 42), some (vI (c : Int)), some (vI e), some (vI g), some (vI dd), some (vI (mxN (goS (κ.2.1 0) (κ.2.1 1) g e (goF (κ.2.1 0) (κ.2.1 1) c k)) i)), some (vI ((i : Int) + 1)), none, none], [], cW τ κ)) rfl ?_
            rw [show mxN (goS (κ.2.1 0) (κ.2.1 1) g e (goF (κ.2.1 0) (κ.2.1 1) c k)) (i + 1) = (mxN (goS (κ.2.1 0) (κ.2.1 1) g e (goF (κ.2.1 0) (κ.2.1 1) c k)) i) from by first | (exfalso; omega) | exact mxN_0 q1.1 (by simp [goS, c2, c3, c4, c5, c6])] at ihi
            exact ihi
          · skip
            have f1 := hon (i : Int)
            refine hR.run1 4 (S' := (50, [some (vR 41), some (vR 42), some (vI (c : Int)), some (vI e), some (vI g), some (vI dd), some (vI (mxN (goS (κ.2.1 0) (κ.2.1 1) g e (goF (κ.2.1 0) (κ.2.1 1) c k)) i)), some (vI (i : Int)), none, none], [vI e, vI (κ.2.1 0 (i : Int))], cW τ κ)) rfl (by (try dsimp only); omega) ?_
            refine hR.br (C := κ.2.1 0 (i : Int) = e) rfl (by (try dsimp only); omega) (fun c7 => ?_) (fun c7 => ?_)
            · skip
              have f2 := hon (i : Int)
              refine hR.run1 4 (S' := (66, [some (vR 41), some (vR 42), some (vI (c : Int)), some (vI e), some (vI g), some (vI dd), some (vI (mxN (goS (κ.2.1 0) (κ.2.1 1) g e (goF (κ.2.1 0) (κ.2.1 1) c k)) i)), some (vI (i : Int)), none, none], [vI e, vI (κ.2.1 0 (i : Int))], cW τ κ)) rfl (by (try dsimp only); omega) ?_
              refine hR.br (C := κ.2.1 0 (i : Int) ≠ e) rfl (by (try dsimp only); omega) (fun c8 => ?_) (fun c8 => ?_)
              · skip
                have f3 := hon (i : Int)
                refine hR.run1 17 (S' := (99, [some (vR 41), some (vR 42), some (vI (c : Int)), some (vI e), some (vI g), some (vI dd), some (vI (mxN (goS (κ.2.1 0) (κ.2.1 1) g e (goF (κ.2.1 0) (κ.2.1 1) c k)) i)), some (vI (i : Int)), some (vI (κ.2.1 0 (i : Int))), none], [vI (dd + 1), vI (iO g (iSl 1 (i : Int))), vI (κ.2.1 0 (i : Int)), vI (c : Int), vR 42, vR 41, vI 1], cW τ κ)) rfl (by (try dsimp only); omega) ?_
                have r50 := goF_r (κ.2.1 0) (κ.2.1 1) c k (κ.2.1 0 (i : Int)) (iO g (iSl 1 (i : Int)))
                refine hR.cs [vR 41, vR 42, vI (c : Int), vI (κ.2.1 0 (i : Int)), vI (iO g (iSl 1 (i : Int))), vI (dd + 1)] kX4_26 rfl rfl (by first | decide | exact Nat.le_refl _) (by decide) (Nat.le_of_ble_eq_true rfl) rfl (sp_goOn τ κ hc hon hot k _ _ _ (by omega) (by omega) (by omega) (by omega)) ?_
                show G (102, [some (vR 41), some (vR 42), some (vI (c : Int)), some (vI e), some (vI g), some (vI dd), some (vI (mxN (goS (κ.2.1 0) (κ.2.1 1) g e (goF (κ.2.1 0) (κ.2.1 1) c k)) i)), some (vI (i : Int)), some (vI (κ.2.1 0 (i : Int))), none], [vI (goF (κ.2.1 0) (κ.2.1 1) c k (κ.2.1 0 (i : Int)) (iO g (iSl 1 (i : Int)))), vI 1], cW τ κ)
                refine hR.run1 8 (S' := (15, [some (vR 41), some (vR 42), some (vI (c : Int)), some (vI e), some (vI g), some (vI dd), some (vI (if (mxN (goS (κ.2.1 0) (κ.2.1 1) g e (goF (κ.2.1 0) (κ.2.1 1) c k)) i) < (1 + (goF (κ.2.1 0) (κ.2.1 1) c k (κ.2.1 0 (i : Int)) (iO g (iSl 1 (i : Int))))) then (1 + (goF (κ.2.1 0) (κ.2.1 1) c k (κ.2.1 0 (i : Int)) (iO g (iSl 1 (i : Int))))) else (mxN (goS (κ.2.1 0) (κ.2.1 1) g e (goF (κ.2.1 0) (κ.2.1 1) c k)) i))), some (vI ((i : Int) + 1)), some (vI (κ.2.1 0 (i : Int))), some (vI (1 + (goF (κ.2.1 0) (κ.2.1 1) c k (κ.2.1 0 (i : Int)) (iO g (iSl 1 (i : Int))))))], [], cW τ κ)) rfl (by (try dsimp only); omega) ?_
                rw [show mxN (goS (κ.2.1 0) (κ.2.1 1) g e (goF (κ.2.1 0) (κ.2.1 1) c k)) (i + 1) = (if (mxN (goS (κ.2.1 0) (κ.2.1 1) g e (goF (κ.2.1 0) (κ.2.1 1) c k)) i) < (1 + (goF (κ.2.1 0) (κ.2.1 1) c k (κ.2.1 0 (i : Int)) (iO g (iSl 1 (i : Int))))) then (1 + (goF (κ.2.1 0) (κ.2.1 1) c k (κ.2.1 0 (i : Int)) (iO g (iSl 1 (i : Int))))) else (mxN (goS (κ.2.1 0) (κ.2.1 1) g e (goF (κ.2.1 0) (κ.2.1 1) c k)) i)) from by first | (exfalso; omega) | exact mxN_1 (by simp [goS, c2, c3, c4, c5, c6, c7, c8])] at ihi
                refine hR.fg 8 ?_
                show G (15, [some (vR 41), some (vR 42), some (vI (c : Int)), some (vI e), some (vI g), some (vI dd), some (vI (if (mxN (goS (κ.2.1 0) (κ.2.1 1) g e (goF (κ.2.1 0) (κ.2.1 1) c k)) i) < (1 + (goF (κ.2.1 0) (κ.2.1 1) c k (κ.2.1 0 (i : Int)) (iO g (iSl 1 (i : Int))))) then (1 + (goF (κ.2.1 0) (κ.2.1 1) c k (κ.2.1 0 (i : Int)) (iO g (iSl 1 (i : Int))))) else (mxN (goS (κ.2.1 0) (κ.2.1 1) g e (goF (κ.2.1 0) (κ.2.1 1) c k)) i))), some (vI ((i : Int) + 1)), none, some (vI (1 + (goF (κ.2.1 0) (κ.2.1 1) c k (κ.2.1 0 (i : Int)) (iO g (iSl 1 (i : Int))))))], [], cW τ κ)
                refine hR.fg 9 ?_
                show G (15, [some (vR 41), some (vR 42), some (vI (c : Int)), some (vI e), some (vI g), some (vI dd), some (vI (if (mxN (goS (κ.2.1 0) (κ.2.1 1) g e (goF (κ.2.1 0) (κ.2.1 1) c k)) i) < (1 + (goF (κ.2.1 0) (κ.2.1 1) c k (κ.2.1 0 (i : Int)) (iO g (iSl 1 (i : Int))))) then (1 + (goF (κ.2.1 0) (κ.2.1 1) c k (κ.2.1 0 (i : Int)) (iO g (iSl 1 (i : Int))))) else (mxN (goS (κ.2.1 0) (κ.2.1 1) g e (goF (κ.2.1 0) (κ.2.1 1) c k)) i))), some (vI ((i : Int) + 1)), none, none], [], cW τ κ)
                exact ihi
              · skip
                have f4 := hot (i : Int)
                refine hR.run1 18 (S' := (99, [some (vR 41), some (vR 42), some (vI (c : Int)), some (vI e), some (vI g), some (vI dd), some (vI (mxN (goS (κ.2.1 0) (κ.2.1 1) g e (goF (κ.2.1 0) (κ.2.1 1) c k)) i)), some (vI (i : Int)), some (vI (κ.2.1 1 (i : Int))), none], [vI (dd + 1), vI (iO g (iSl 1 (i : Int))), vI (κ.2.1 1 (i : Int)), vI (c : Int), vR 42, vR 41, vI 1], cW τ κ)) rfl (by (try dsimp only); omega) ?_
                have r63 := goF_r (κ.2.1 0) (κ.2.1 1) c k (κ.2.1 1 (i : Int)) (iO g (iSl 1 (i : Int)))
                refine hR.cs [vR 41, vR 42, vI (c : Int), vI (κ.2.1 1 (i : Int)), vI (iO g (iSl 1 (i : Int))), vI (dd + 1)] kX4_26 rfl rfl (by first | decide | exact Nat.le_refl _) (by decide) (Nat.le_of_ble_eq_true rfl) rfl (sp_goOn τ κ hc hon hot k _ _ _ (by omega) (by omega) (by omega) (by omega)) ?_
                show G (102, [some (vR 41), some (vR 42), some (vI (c : Int)), some (vI e), some (vI g), some (vI dd), some (vI (mxN (goS (κ.2.1 0) (κ.2.1 1) g e (goF (κ.2.1 0) (κ.2.1 1) c k)) i)), some (vI (i : Int)), some (vI (κ.2.1 1 (i : Int))), none], [vI (goF (κ.2.1 0) (κ.2.1 1) c k (κ.2.1 1 (i : Int)) (iO g (iSl 1 (i : Int)))), vI 1], cW τ κ)
                refine hR.run1 8 (S' := (15, [some (vR 41), some (vR 42), some (vI (c : Int)), some (vI e), some (vI g), some (vI dd), some (vI (if (mxN (goS (κ.2.1 0) (κ.2.1 1) g e (goF (κ.2.1 0) (κ.2.1 1) c k)) i) < (1 + (goF (κ.2.1 0) (κ.2.1 1) c k (κ.2.1 1 (i : Int)) (iO g (iSl 1 (i : Int))))) then (1 + (goF (κ.2.1 0) (κ.2.1 1) c k (κ.2.1 1 (i : Int)) (iO g (iSl 1 (i : Int))))) else (mxN (goS (κ.2.1 0) (κ.2.1 1) g e (goF (κ.2.1 0) (κ.2.1 1) c k)) i))), some (vI ((i : Int) + 1)), some (vI (κ.2.1 1 (i : Int))), some (vI (1 + (goF (κ.2.1 0) (κ.2.1 1) c k (κ.2.1 1 (i : Int)) (iO g (iSl 1 (i : Int))))))], [], cW τ κ)) rfl (by (try dsimp only); omega) ?_
                rw [show mxN (goS (κ.2.1 0) (κ.2.1 1) g e (goF (κ.2.1 0) (κ.2.1 1) c k)) (i + 1) = (if (mxN (goS (κ.2.1 0) (κ.2.1 1) g e (goF (κ.2.1 0) (κ.2.1 1) c k)) i) < (1 + (goF (κ.2.1 0) (κ.2.1 1) c k (κ.2.1 1 (i : Int)) (iO g (iSl 1 (i : Int))))) then (1 + (goF (κ.2.1 0) (κ.2.1 1) c k (κ.2.1 1 (i : Int)) (iO g (iSl 1 (i : Int))))) else (mxN (goS (κ.2.1 0) (κ.2.1 1) g e (goF (κ.2.1 0) (κ.2.1 1) c k)) i)) from by first | (exfalso; omega) | exact mxN_1 (by simp [goS, c2, c3, c4, c5, c6, c7, c8])] at ihi
                refine hR.fg 8 ?_
                show G (15, [some (vR 41), some (vR 42), some (vI (c : Int)), some (vI e), some (vI g), some (vI dd), some (vI (if (mxN (goS (κ.2.1 0) (κ.2.1 1) g e (goF (κ.2.1 0) (κ.2.1 1) c k)) i) < (1 + (goF (κ.2.1 0) (κ.2.1 1) c k (κ.2.1 1 (i : Int)) (iO g (iSl 1 (i : Int))))) then (1 + (goF (κ.2.1 0) (κ.2.1 1) c k (κ.2.1 1 (i : Int)) (iO g (iSl 1 (i : Int))))) else (mxN (goS (κ.2.1 0) (κ.2.1 1) g e (goF (κ.2.1 0) (κ.2.1 1) c k)) i))), some (vI ((i : Int) + 1)), none, some (vI (1 + (goF (κ.2.1 0) (κ.2.1 1) c k (κ.2.1 1 (i : Int)) (iO g (iSl 1 (i : Int))))))], [], cW τ κ)
                refine hR.fg 9 ?_
                show G (15, [some (vR 41), some (vR 42), some (vI (c : Int)), some (vI e), some (vI g), some (vI dd), some (vI (if (mxN (goS (κ.2.1 0) (κ.2.1 1) g e (goF (κ.2.1 0) (κ.2.1 1) c k)) i) < (1 + (goF (κ.2.1 0) (κ.2.1 1) c k (κ.2.1 1 (i : Int)) (iO g (iSl 1 (i : Int))))) then (1 + (goF (κ.2.1 0) (κ.2.1 1) c k (κ.2.1 1 (i : Int)) (iO g (iSl 1 (i : Int))))) else (mxN (goS (κ.2.1 0) (κ.2.1 1) g e (goF (κ.2.1 0) (κ.2.1 1) c k)) i))), some (vI ((i : Int) + 1)), none, none], [], cW τ κ)
                exact ihi
            · skip
              have f5 := hot (i : Int)
              refine hR.run1 4 (S' := (58, [some (vR 41), some (vR 42), some (vI (c : Int)), some (vI e), some (vI g), some (vI dd), some (vI (mxN (goS (κ.2.1 0) (κ.2.1 1) g e (goF (κ.2.1 0) (κ.2.1 1) c k)) i)), some (vI (i : Int)), none, none], [vI e, vI (κ.2.1 1 (i : Int))], cW τ κ)) rfl (by (try dsimp only); omega) ?_
              refine hR.br (C := κ.2.1 1 (i : Int) ≠ e) rfl (by (try dsimp only); omega) (fun c9 => ?_) (fun c9 => ?_)
              · skip
                refine hR.run0 2 (S' := (15, [some (vR 41), some (vR 42), some (vI (c : Int)), some (vI e), some (vI g), some (vI dd), some (vI (mxN (goS (κ.2.1 0) (κ.2.1 1) g e (goF (κ.2.1 0) (κ.2.1 1) c k)) i)), some (vI ((i : Int) + 1)), none, none], [], cW τ κ)) rfl ?_
                rw [show mxN (goS (κ.2.1 0) (κ.2.1 1) g e (goF (κ.2.1 0) (κ.2.1 1) c k)) (i + 1) = (mxN (goS (κ.2.1 0) (κ.2.1 1) g e (goF (κ.2.1 0) (κ.2.1 1) c k)) i) from by first | (exfalso; omega) | exact mxN_0 q1.1 (by simp [goS, c2, c3, c4, c5, c6, c7, c9])] at ihi
                exact ihi
              · skip
                have f6 := hon (i : Int)
                refine hR.run1 4 (S' := (66, [some (vR 41), some (vR 42), some (vI (c : Int)), some (vI e), some (vI g), some (vI dd), some (vI (mxN (goS (κ.2.1 0) (κ.2.1 1) g e (goF (κ.2.1 0) (κ.2.1 1) c k)) i)), some (vI (i : Int)), none, none], [vI e, vI (κ.2.1 0 (i : Int))], cW τ κ)) rfl (by (try dsimp only); omega) ?_
                refine hR.br (C := κ.2.1 0 (i : Int) ≠ e) rfl (by (try dsimp only); omega) (fun c10 => ?_) (fun c10 => ?_)
                · skip
                  have f7 := hon (i : Int)
                  refine hR.run1 17 (S' := (99, [some (vR 41), some (vR 42), some (vI (c : Int)), some (vI e), some (vI g), some (vI dd), some (vI (mxN (goS (κ.2.1 0) (κ.2.1 1) g e (goF (κ.2.1 0) (κ.2.1 1) c k)) i)), some (vI (i : Int)), some (vI (κ.2.1 0 (i : Int))), none], [vI (dd + 1), vI (iO g (iSl 1 (i : Int))), vI (κ.2.1 0 (i : Int)), vI (c : Int), vR 42, vR 41, vI 1], cW τ κ)) rfl (by (try dsimp only); omega) ?_
                  have r88 := goF_r (κ.2.1 0) (κ.2.1 1) c k (κ.2.1 0 (i : Int)) (iO g (iSl 1 (i : Int)))
                  refine hR.cs [vR 41, vR 42, vI (c : Int), vI (κ.2.1 0 (i : Int)), vI (iO g (iSl 1 (i : Int))), vI (dd + 1)] kX4_26 rfl rfl (by first | decide | exact Nat.le_refl _) (by decide) (Nat.le_of_ble_eq_true rfl) rfl (sp_goOn τ κ hc hon hot k _ _ _ (by omega) (by omega) (by omega) (by omega)) ?_
                  show G (102, [some (vR 41), some (vR 42), some (vI (c : Int)), some (vI e), some (vI g), some (vI dd), some (vI (mxN (goS (κ.2.1 0) (κ.2.1 1) g e (goF (κ.2.1 0) (κ.2.1 1) c k)) i)), some (vI (i : Int)), some (vI (κ.2.1 0 (i : Int))), none], [vI (goF (κ.2.1 0) (κ.2.1 1) c k (κ.2.1 0 (i : Int)) (iO g (iSl 1 (i : Int)))), vI 1], cW τ κ)
                  refine hR.run1 8 (S' := (15, [some (vR 41), some (vR 42), some (vI (c : Int)), some (vI e), some (vI g), some (vI dd), some (vI (if (mxN (goS (κ.2.1 0) (κ.2.1 1) g e (goF (κ.2.1 0) (κ.2.1 1) c k)) i) < (1 + (goF (κ.2.1 0) (κ.2.1 1) c k (κ.2.1 0 (i : Int)) (iO g (iSl 1 (i : Int))))) then (1 + (goF (κ.2.1 0) (κ.2.1 1) c k (κ.2.1 0 (i : Int)) (iO g (iSl 1 (i : Int))))) else (mxN (goS (κ.2.1 0) (κ.2.1 1) g e (goF (κ.2.1 0) (κ.2.1 1) c k)) i))), some (vI ((i : Int) + 1)), some (vI (κ.2.1 0 (i : Int))), some (vI (1 + (goF (κ.2.1 0) (κ.2.1 1) c k (κ.2.1 0 (i : Int)) (iO g (iSl 1 (i : Int))))))], [], cW τ κ)) rfl (by (try dsimp only); omega) ?_
                  rw [show mxN (goS (κ.2.1 0) (κ.2.1 1) g e (goF (κ.2.1 0) (κ.2.1 1) c k)) (i + 1) = (if (mxN (goS (κ.2.1 0) (κ.2.1 1) g e (goF (κ.2.1 0) (κ.2.1 1) c k)) i) < (1 + (goF (κ.2.1 0) (κ.2.1 1) c k (κ.2.1 0 (i : Int)) (iO g (iSl 1 (i : Int))))) then (1 + (goF (κ.2.1 0) (κ.2.1 1) c k (κ.2.1 0 (i : Int)) (iO g (iSl 1 (i : Int))))) else (mxN (goS (κ.2.1 0) (κ.2.1 1) g e (goF (κ.2.1 0) (κ.2.1 1) c k)) i)) from by first | (exfalso; omega) | exact mxN_1 (by simp [goS, c2, c3, c4, c5, c6, c7, c9, c10])] at ihi
                  refine hR.fg 8 ?_
                  show G (15, [some (vR 41), some (vR 42), some (vI (c : Int)), some (vI e), some (vI g), some (vI dd), some (vI (if (mxN (goS (κ.2.1 0) (κ.2.1 1) g e (goF (κ.2.1 0) (κ.2.1 1) c k)) i) < (1 + (goF (κ.2.1 0) (κ.2.1 1) c k (κ.2.1 0 (i : Int)) (iO g (iSl 1 (i : Int))))) then (1 + (goF (κ.2.1 0) (κ.2.1 1) c k (κ.2.1 0 (i : Int)) (iO g (iSl 1 (i : Int))))) else (mxN (goS (κ.2.1 0) (κ.2.1 1) g e (goF (κ.2.1 0) (κ.2.1 1) c k)) i))), some (vI ((i : Int) + 1)), none, some (vI (1 + (goF (κ.2.1 0) (κ.2.1 1) c k (κ.2.1 0 (i : Int)) (iO g (iSl 1 (i : Int))))))], [], cW τ κ)
                  refine hR.fg 9 ?_
                  show G (15, [some (vR 41), some (vR 42), some (vI (c : Int)), some (vI e), some (vI g), some (vI dd), some (vI (if (mxN (goS (κ.2.1 0) (κ.2.1 1) g e (goF (κ.2.1 0) (κ.2.1 1) c k)) i) < (1 + (goF (κ.2.1 0) (κ.2.1 1) c k (κ.2.1 0 (i : Int)) (iO g (iSl 1 (i : Int))))) then (1 + (goF (κ.2.1 0) (κ.2.1 1) c k (κ.2.1 0 (i : Int)) (iO g (iSl 1 (i : Int))))) else (mxN (goS (κ.2.1 0) (κ.2.1 1) g e (goF (κ.2.1 0) (κ.2.1 1) c k)) i))), some (vI ((i : Int) + 1)), none, none], [], cW τ κ)
                  exact ihi
                · skip
                  have f8 := hot (i : Int)
                  refine hR.run1 18 (S' := (99, [some (vR 41), some (vR 42), some (vI (c : Int)), some (vI e), some (vI g), some (vI dd), some (vI (mxN (goS (κ.2.1 0) (κ.2.1 1) g e (goF (κ.2.1 0) (κ.2.1 1) c k)) i)), some (vI (i : Int)), some (vI (κ.2.1 1 (i : Int))), none], [vI (dd + 1), vI (iO g (iSl 1 (i : Int))), vI (κ.2.1 1 (i : Int)), vI (c : Int), vR 42, vR 41, vI 1], cW τ κ)) rfl (by (try dsimp only); omega) ?_
                  have r101 := goF_r (κ.2.1 0) (κ.2.1 1) c k (κ.2.1 1 (i : Int)) (iO g (iSl 1 (i : Int)))
                  refine hR.cs [vR 41, vR 42, vI (c : Int), vI (κ.2.1 1 (i : Int)), vI (iO g (iSl 1 (i : Int))), vI (dd + 1)] kX4_26 rfl rfl (by first | decide | exact Nat.le_refl _) (by decide) (Nat.le_of_ble_eq_true rfl) rfl (sp_goOn τ κ hc hon hot k _ _ _ (by omega) (by omega) (by omega) (by omega)) ?_
                  show G (102, [some (vR 41), some (vR 42), some (vI (c : Int)), some (vI e), some (vI g), some (vI dd), some (vI (mxN (goS (κ.2.1 0) (κ.2.1 1) g e (goF (κ.2.1 0) (κ.2.1 1) c k)) i)), some (vI (i : Int)), some (vI (κ.2.1 1 (i : Int))), none], [vI (goF (κ.2.1 0) (κ.2.1 1) c k (κ.2.1 1 (i : Int)) (iO g (iSl 1 (i : Int)))), vI 1], cW τ κ)
                  refine hR.run1 8 (S' := (15, [some (vR 41), some (vR 42), some (vI (c : Int)), some (vI e), some (vI g), some (vI dd), some (vI (if (mxN (goS (κ.2.1 0) (κ.2.1 1) g e (goF (κ.2.1 0) (κ.2.1 1) c k)) i) < (1 + (goF (κ.2.1 0) (κ.2.1 1) c k (κ.2.1 1 (i : Int)) (iO g (iSl 1 (i : Int))))) then (1 + (goF (κ.2.1 0) (κ.2.1 1) c k (κ.2.1 1 (i : Int)) (iO g (iSl 1 (i : Int))))) else (mxN (goS (κ.2.1 0) (κ.2.1 1) g e (goF (κ.2.1 0) (κ.2.1 1) c k)) i))), some (vI ((i : Int) + 1)), some (vI (κ.2.1 1 (i : Int))), some (vI (1 + (goF (κ.2.1 0) (κ.2.1 1) c k (κ.2.1 1 (i : Int)) (iO g (iSl 1 (i : Int))))))], [], cW τ κ)) rfl (by (try dsimp only); omega) ?_
                  rw [show mxN (goS (κ.2.1 0) (κ.2.1 1) g e (goF (κ.2.1 0) (κ.2.1 1) c k)) (i + 1) = (if (mxN (goS (κ.2.1 0) (κ.2.1 1) g e (goF (κ.2.1 0) (κ.2.1 1) c k)) i) < (1 + (goF (κ.2.1 0) (κ.2.1 1) c k (κ.2.1 1 (i : Int)) (iO g (iSl 1 (i : Int))))) then (1 + (goF (κ.2.1 0) (κ.2.1 1) c k (κ.2.1 1 (i : Int)) (iO g (iSl 1 (i : Int))))) else (mxN (goS (κ.2.1 0) (κ.2.1 1) g e (goF (κ.2.1 0) (κ.2.1 1) c k)) i)) from by first | (exfalso; omega) | exact mxN_1 (by simp [goS, c2, c3, c4, c5, c6, c7, c9, c10])] at ihi
                  refine hR.fg 8 ?_
                  show G (15, [some (vR 41), some (vR 42), some (vI (c : Int)), some (vI e), some (vI g), some (vI dd), some (vI (if (mxN (goS (κ.2.1 0) (κ.2.1 1) g e (goF (κ.2.1 0) (κ.2.1 1) c k)) i) < (1 + (goF (κ.2.1 0) (κ.2.1 1) c k (κ.2.1 1 (i : Int)) (iO g (iSl 1 (i : Int))))) then (1 + (goF (κ.2.1 0) (κ.2.1 1) c k (κ.2.1 1 (i : Int)) (iO g (iSl 1 (i : Int))))) else (mxN (goS (κ.2.1 0) (κ.2.1 1) g e (goF (κ.2.1 0) (κ.2.1 1) c k)) i))), some (vI ((i : Int) + 1)), none, some (vI (1 + (goF (κ.2.1 0) (κ.2.1 1) c k (κ.2.1 1 (i : Int)) (iO g (iSl 1 (i : Int))))))], [], cW τ κ)
                  refine hR.fg 9 ?_
                  show G (15, [some (vR 41), some (vR 42), some (vI (c : Int)), some (vI e), some (vI g), some (vI dd), some (vI (if (mxN (goS (κ.2.1 0) (κ.2.1 1) g e (goF (κ.2.1 0) (κ.2.1 1) c k)) i) < (1 + (goF (κ.2.1 0) (κ.2.1 1) c k (κ.2.1 1 (i : Int)) (iO g (iSl 1 (i : Int))))) then (1 + (goF (κ.2.1 0) (κ.2.1 1) c k (κ.2.1 1 (i : Int)) (iO g (iSl 1 (i : Int))))) else (mxN (goS (κ.2.1 0) (κ.2.1 1) g e (goF (κ.2.1 0) (κ.2.1 1) c k)) i))), some (vI ((i : Int) + 1)), none, none], [], cW τ κ)
                  exact ihi
        · show G (15, [some (vR 41), some (vR 42), some (vI (c : Int)), some (vI e), some (vI g), some (vI dd), some (vI (mxN (goS (κ.2.1 0) (κ.2.1 1) g e (goF (κ.2.1 0) (κ.2.1 1) c k)) c)), some (vI ((c : Nat) : Int)), none, none], [], cW τ κ)
          show G (15, [some (vR 41), some (vR 42), some (vI (c : Int)), some (vI e), some (vI g), some (vI dd), some (vI (mxN (goS (κ.2.1 0) (κ.2.1 1) g e (goF (κ.2.1 0) (κ.2.1 1) c k)) c)), some (vI (c : Int)), none, none], [], cW τ κ)
          refine hR.run0 2 (S' := (18, [some (vR 41), some (vR 42), some (vI (c : Int)), some (vI e), some (vI g), some (vI dd), some (vI (mxN (goS (κ.2.1 0) (κ.2.1 1) g e (goF (κ.2.1 0) (κ.2.1 1) c k)) c)), some (vI (c : Int)), none, none], [vI (c : Int), vI (c : Int)], cW τ κ)) rfl ?_
          refine hR.br (C := (c : Int) ≤ (c : Int)) rfl (by (try dsimp only); omega) (fun c11 => ?_) (fun c11 => ?_)
          · skip
            refine hR.run0 1 (S' := (122, [some (vR 41), some (vR 42), some (vI (c : Int)), some (vI e), some (vI g), some (vI dd), some (vI (mxN (goS (κ.2.1 0) (κ.2.1 1) g e (goF (κ.2.1 0) (κ.2.1 1) c k)) c)), some (vI (c : Int)), none, none], [vI (mxN (goS (κ.2.1 0) (κ.2.1 1) g e (goF (κ.2.1 0) (κ.2.1 1) c k)) c)], cW τ κ)) rfl ?_
            exact hR.rt rfl trivial rfl (by rfl)
          · exfalso; omega
      exact hL 0 (Nat.zero_le _)
    · exfalso; omega
theorem sp_bySearch (τ κ : St) {p : Int} (hp : 0 ≤ p ∧ p < 3) (hb : ∀ c, -1 ≤ τ.2.1 2 c ∧ τ.2.1 2 c ≤ 5) (hr : ∀ e, -1 ≤ τ.2.1 3 e ∧ τ.2.1 3 e ≤ 2) (hon0 : ∀ i, 0 ≤ κ.2.1 0 i ∧ κ.2.1 0 i ≤ 63) (hot0 : ∀ i, 0 ≤ κ.2.1 1 i ∧ κ.2.1 1 i ≤ 63) : Sp mX4_bySearch roC 8 [vR 40, vR 1, vI p] (cW τ κ) (.inl (some (vI (bsF (gaN (τ.2.1 2) (τ.2.1 3) p κ 30))))) (cW τ (gaN (τ.2.1 2) (τ.2.1 3) p κ 30)) := by
  refine Sp.of (lk := lkX4) (tb := bX4_bySearch) (by decide) lkX4_ok tX4_bySearch (cW_keys _ _ _ _) (Nat.le_of_ble_eq_true rfl) (fun G hR => ?_)
  have hg := sp_gather τ κ hp hb hr
  have hcn := gaN_cnt (τ.2.1 2) (τ.2.1 3) p κ 30
  have hon := gaN_on (τ.2.1 2) (τ.2.1 3) p κ hon0 30 (by omega)
  have hot := gaN_ot (τ.2.1 2) (τ.2.1 3) p κ hot0 30 (by omega)
  refine hR.run0 3 (S' := (3, [some (vR 40), some (vR 1), some (vI p), none, none], [vI p, vR 1, vR 40], cW τ κ)) rfl ?_
  refine hR.cv [vR 1, vI p] kX4_22 rfl rfl ⟨_, _, _, rfl, rfl, rfl⟩ (by decide) (by decide) (Nat.le_of_ble_eq_true rfl) rfl hg ?_
  generalize gaN (τ.2.1 2) (τ.2.1 3) p κ 30 = κ1 at hcn hon hot hR ⊢
  obtain ⟨c, hcc⟩ : ∃ c : Nat, κ1.1 0 = (c : Int) := ⟨(κ1.1 0).toNat, by omega⟩
  have hc : c ≤ 8 := by omega
  have hct : (κ1.1 0).toNat = c := by omega
  show G (6, [some (vR 40), some (vR 1), some (vI p), none, none], [], cW τ κ1)
  refine hR.run0 4 (S' := (11, [some (vR 40), some (vR 1), some (vI p), some (vI 0), some (vI 0)], [], cW τ κ1)) rfl ?_
  have hL : ∀ i : Nat, i ≤ c → G (11, [some (vR 40), some (vR 1), some (vI p), some (vI (mxN (bsS κ1 c) i)), some (vI ((i : Nat) : Int))], [], cW τ κ1) := by
    refine back (P := fun i : Nat => G (11, [some (vR 40), some (vR 1), some (vI p), some (vI (mxN (bsS κ1 c) i)), some (vI ((i : Nat) : Int))], [], cW τ κ1)) ?_ ?_
    · intro i hii ihi
      replace ihi : G (11, [some (vR 40), some (vR 1), some (vI p), some (vI (mxN (bsS κ1 c) (i + 1))), some (vI ((i + 1 : Nat) : Int))], [], cW τ κ1) := ihi
      show G (11, [some (vR 40), some (vR 1), some (vI p), some (vI (mxN (bsS κ1 c) i)), some (vI (i : Int))], [], cW τ κ1)
      have q1 := mxN_r (f := bsS κ1 c) (b := 8) (by omega) (fun j => by have a1 := (goF_r (κ1.2.1 0) (κ1.2.1 1) c 7 (κ1.2.1 0 j) (iSl 1 j)).2; have a2 := (goF_r (κ1.2.1 0) (κ1.2.1 1) c 7 (κ1.2.1 1 j) (iSl 1 j)).2; unfold bsS; split <;> omega) i
      have q2 := hon (i : Int)
      have q3 := hot (i : Int)
      have q4 := iSl_r 1 (i : Int)
      refine hR.run0 3 (S' := (17, [some (vR 40), some (vR 1), some (vI p), some (vI (mxN (bsS κ1 c) i)), some (vI (i : Int))], [vI (κ1.1 0), vI (i : Int)], cW τ κ1)) rfl ?_
      refine hR.br (C := κ1.1 0 ≤ (i : Int)) rfl (by (try dsimp only); omega) (fun c1 => ?_) (fun c1 => ?_)
      · exfalso; omega
      refine hR.run0 2 (S' := (24, [some (vR 40), some (vR 1), some (vI p), some (vI (mxN (bsS κ1 c) i)), some (vI (i : Int))], [vI 8, vI (i : Int)], cW τ κ1)) rfl ?_
      refine hR.br (C := 8 ≤ (i : Int)) rfl (by (try dsimp only); omega) (fun c2 => ?_) (fun c2 => ?_)
      · exfalso; omega
      have f1 := hon (i : Int)
      refine hR.run1 16 (S' := (53, [some (vR 40), some (vR 1), some (vI p), some (vI (mxN (bsS κ1 c) i)), some (vI (i : Int))], [vI 1, vI (iSl 1 (i : Int)), vI (κ1.2.1 0 (i : Int)), vI (κ1.1 0), vR 42, vR 41, vI 1, vI (mxN (bsS κ1 c) i)], cW τ κ1)) rfl (by (try dsimp only); omega) ?_
      have r31 := goF_r (κ1.2.1 0) (κ1.2.1 1) c 7 (κ1.2.1 0 (i : Int)) (iSl 1 (i : Int))
      rw [show κ1.1 0 = (c : Int) from hcc]
      refine hR.cs [vR 41, vR 42, vI (c : Int), vI (κ1.2.1 0 (i : Int)), vI (iSl 1 (i : Int)), vI 1] kX4_26 rfl rfl (by first | decide | exact Nat.le_refl _) (by decide) (Nat.le_of_ble_eq_true rfl) rfl (sp_goOn _ _ hc hon hot 7 _ _ _ (by omega) (by omega) (by omega) (by omega)) ?_
      show G (56, [some (vR 40), some (vR 1), some (vI p), some (vI (mxN (bsS κ1 c) i)), some (vI (i : Int))], [vI (goF (κ1.2.1 0) (κ1.2.1 1) c 7 (κ1.2.1 0 (i : Int)) (iSl 1 (i : Int))), vI 1, vI (mxN (bsS κ1 c) i)], cW τ κ1)
      have f2 := hot (i : Int)
      refine hR.run1 19 (S' := (87, [some (vR 40), some (vR 1), some (vI p), some (vI (if (mxN (bsS κ1 c) i) < (1 + (goF (κ1.2.1 0) (κ1.2.1 1) c 7 (κ1.2.1 0 (i : Int)) (iSl 1 (i : Int)))) then (1 + (goF (κ1.2.1 0) (κ1.2.1 1) c 7 (κ1.2.1 0 (i : Int)) (iSl 1 (i : Int)))) else (mxN (bsS κ1 c) i))), some (vI (i : Int))], [vI 1, vI (iSl 1 (i : Int)), vI (κ1.2.1 1 (i : Int)), vI (κ1.1 0), vR 42, vR 41, vI 1, vI (if (mxN (bsS κ1 c) i) < (1 + (goF (κ1.2.1 0) (κ1.2.1 1) c 7 (κ1.2.1 0 (i : Int)) (iSl 1 (i : Int)))) then (1 + (goF (κ1.2.1 0) (κ1.2.1 1) c 7 (κ1.2.1 0 (i : Int)) (iSl 1 (i : Int)))) else (mxN (bsS κ1 c) i))], cW τ κ1)) rfl (by (try dsimp only); omega) ?_
      have r37 := goF_r (κ1.2.1 0) (κ1.2.1 1) c 7 (κ1.2.1 1 (i : Int)) (iSl 1 (i : Int))
      rw [show κ1.1 0 = (c : Int) from hcc]
      refine hR.cs [vR 41, vR 42, vI (c : Int), vI (κ1.2.1 1 (i : Int)), vI (iSl 1 (i : Int)), vI 1] kX4_26 rfl rfl (by first | decide | exact Nat.le_refl _) (by decide) (Nat.le_of_ble_eq_true rfl) rfl (sp_goOn _ _ hc hon hot 7 _ _ _ (by omega) (by omega) (by omega) (by omega)) ?_
      show G (90, [some (vR 40), some (vR 1), some (vI p), some (vI (if (mxN (bsS κ1 c) i) < (1 + (goF (κ1.2.1 0) (κ1.2.1 1) c 7 (κ1.2.1 0 (i : Int)) (iSl 1 (i : Int)))) then (1 + (goF (κ1.2.1 0) (κ1.2.1 1) c 7 (κ1.2.1 0 (i : Int)) (iSl 1 (i : Int)))) else (mxN (bsS κ1 c) i))), some (vI (i : Int))], [vI (goF (κ1.2.1 0) (κ1.2.1 1) c 7 (κ1.2.1 1 (i : Int)) (iSl 1 (i : Int))), vI 1, vI (if (mxN (bsS κ1 c) i) < (1 + (goF (κ1.2.1 0) (κ1.2.1 1) c 7 (κ1.2.1 0 (i : Int)) (iSl 1 (i : Int)))) then (1 + (goF (κ1.2.1 0) (κ1.2.1 1) c 7 (κ1.2.1 0 (i : Int)) (iSl 1 (i : Int)))) else (mxN (bsS κ1 c) i))], cW τ κ1)
      refine hR.run1 5 (S' := (11, [some (vR 40), some (vR 1), some (vI p), some (vI (if (if (mxN (bsS κ1 c) i) < (1 + (goF (κ1.2.1 0) (κ1.2.1 1) c 7 (κ1.2.1 0 (i : Int)) (iSl 1 (i : Int)))) then (1 + (goF (κ1.2.1 0) (κ1.2.1 1) c 7 (κ1.2.1 0 (i : Int)) (iSl 1 (i : Int)))) else (mxN (bsS κ1 c) i)) < (1 + (goF (κ1.2.1 0) (κ1.2.1 1) c 7 (κ1.2.1 1 (i : Int)) (iSl 1 (i : Int)))) then (1 + (goF (κ1.2.1 0) (κ1.2.1 1) c 7 (κ1.2.1 1 (i : Int)) (iSl 1 (i : Int)))) else (if (mxN (bsS κ1 c) i) < (1 + (goF (κ1.2.1 0) (κ1.2.1 1) c 7 (κ1.2.1 0 (i : Int)) (iSl 1 (i : Int)))) then (1 + (goF (κ1.2.1 0) (κ1.2.1 1) c 7 (κ1.2.1 0 (i : Int)) (iSl 1 (i : Int)))) else (mxN (bsS κ1 c) i)))), some (vI ((i : Int) + 1))], [], cW τ κ1)) rfl (by (try dsimp only); omega) ?_
      rw [show mxN (bsS κ1 c) (i + 1) = (if (if (mxN (bsS κ1 c) i) < (1 + (goF (κ1.2.1 0) (κ1.2.1 1) c 7 (κ1.2.1 0 (i : Int)) (iSl 1 (i : Int)))) then (1 + (goF (κ1.2.1 0) (κ1.2.1 1) c 7 (κ1.2.1 0 (i : Int)) (iSl 1 (i : Int)))) else (mxN (bsS κ1 c) i)) < (1 + (goF (κ1.2.1 0) (κ1.2.1 1) c 7 (κ1.2.1 1 (i : Int)) (iSl 1 (i : Int)))) then (1 + (goF (κ1.2.1 0) (κ1.2.1 1) c 7 (κ1.2.1 1 (i : Int)) (iSl 1 (i : Int)))) else (if (mxN (bsS κ1 c) i) < (1 + (goF (κ1.2.1 0) (κ1.2.1 1) c 7 (κ1.2.1 0 (i : Int)) (iSl 1 (i : Int)))) then (1 + (goF (κ1.2.1 0) (κ1.2.1 1) c 7 (κ1.2.1 0 (i : Int)) (iSl 1 (i : Int)))) else (mxN (bsS κ1 c) i))) from by simp only [mxN, bsS]; (repeat' split) <;> omega] at ihi
      exact ihi
    · show G (11, [some (vR 40), some (vR 1), some (vI p), some (vI (mxN (bsS κ1 c) c)), some (vI ((c : Nat) : Int))], [], cW τ κ1)
      show G (11, [some (vR 40), some (vR 1), some (vI p), some (vI (mxN (bsS κ1 c) c)), some (vI (c : Int))], [], cW τ κ1)
      refine hR.run0 3 (S' := (17, [some (vR 40), some (vR 1), some (vI p), some (vI (mxN (bsS κ1 c) c)), some (vI (c : Int))], [vI (κ1.1 0), vI (c : Int)], cW τ κ1)) rfl ?_
      refine hR.br (C := κ1.1 0 ≤ (c : Int)) rfl (by (try dsimp only); omega) (fun c3 => ?_) (fun c3 => ?_)
      · skip
        refine hR.run0 1 (S' := (102, [some (vR 40), some (vR 1), some (vI p), some (vI (mxN (bsS κ1 c) c)), some (vI (c : Int))], [vI (mxN (bsS κ1 c) c)], cW τ κ1)) rfl ?_
        exact hR.rt rfl trivial (by unfold bsF; rw [hct]) rfl
      · exfalso; omega
  exact hL 0 (Nat.zero_le _)
