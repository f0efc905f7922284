theorem sp_bsT (τ κ : St) (h : Lh τ) {p : Int} (hp : 0 ≤ p ∧ p < 3) (hk0 : ∀ i, 0 ≤ κ.2.1 0 i ∧ κ.2.1 0 i ≤ 63) (hk1 : ∀ i, 0 ≤ κ.2.1 1 i ∧ κ.2.1 1 i ≤ 63) : Sp mX4_bySearch roC 8 [vR 40, vR 1, vI p] (cW τ κ) (.inl (some (vI (trT τ p)))) (cW τ (gaN (τ.2.1 2) (τ.2.1 3) p κ 30)) := by
  have h1 := sp_bySearch τ κ hp h.1.1 h.2.1 hk0 hk1
  rw [tr_bs κ (h.ow hp)] at h1
  exact h1
theorem sp_bsW (τ κ : St) (h : Lh τ) {p : Int} (hp : 0 ≤ p ∧ p < 3) (hk0 : ∀ i, 0 ≤ κ.2.1 0 i ∧ κ.2.1 0 i ≤ 63) (hk1 : ∀ i, 0 ≤ κ.2.1 1 i ∧ κ.2.1 1 i ≤ 63) : Sp mX4_bySearch roC 8 [vR 40, vR 1, vI p] (cW (winS (lkS τ)) κ) (.inl (some (vI (trT τ p)))) (cW (winS (lkS τ)) (gaN (τ.2.1 2) (τ.2.1 3) p κ 30)) := by
  have h1 := sp_bsT (winS (lkS τ)) κ h.lk2.win hp hk0 hk1
  unfold trT at h1 ⊢
  rw [winS_2] at h1
  exact h1
theorem sp_ptsW (τ κ : St) (w : Wi τ) {p : Int} (hp : 0 ≤ p ∧ p < 3) : Sp mX5_pointsOf roC 2 [vR 0, vI p] (cW τ κ) (.inl (some (vI (ptsF τ p)))) (cW τ κ) := sp_pointsOf τ κ hp w.1 w.2.1 w.2.2.1 w.2.2.2.1
theorem sp_updTH (τ κ : St) (h : Lh τ) (hk0 : ∀ i, 0 ≤ κ.2.1 0 i ∧ κ.2.1 0 i ≤ 63) (hk1 : ∀ i, 0 ≤ κ.2.1 1 i ∧ κ.2.1 1 i ≤ 63) : Sp mX5_updateTrailHolder roC 9 [vR 0] (cW τ κ) (.inl none) (cW (lkS τ) (utK (τ.2.1 2) (τ.2.1 3) κ 3)) := by
  have hth := h.1.2.2.2.1
  have hL := trT_r h
  unfold lkS
  refine Sp.of (lk := lkX5) (tb := bX5_updateTrailHolder) (by decide) lkX5_ok tX5_updateTrailHolder (cW_keys _ _ _ _) (Nat.le_of_ble_eq_true rfl) (fun G hR => ?_)
  generalize hLL : trT τ = L at hL hR
  have hq3 := hoN_r (τ.1 4) hL 3 (by omega)
  refine hR.run0 10 (S' := (12, [some (vR 0), some (vI 0), some (vI 0), some (vI (-1)), some (vI 0), some (vI 0), none], [], cW τ κ)) rfl ?_
  have hL : ∀ i : Nat, i ≤ 3 → G (12, [some (vR 0), some (vI ((hoN L (τ.1 4) i).1)), some (vI ((hoN L (τ.1 4) i).2.1)), some (vI ((hoN L (τ.1 4) i).2.2.1)), some (vI ((hoN L (τ.1 4) i).2.2.2)), some (vI ((i : Nat) : Int)), none], [], cW τ (utK (τ.2.1 2) (τ.2.1 3) κ i)) := by
    refine back (P := fun i : Nat => G (12, [some (vR 0), some (vI ((hoN L (τ.1 4) i).1)), some (vI ((hoN L (τ.1 4) i).2.1)), some (vI ((hoN L (τ.1 4) i).2.2.1)), some (vI ((hoN L (τ.1 4) i).2.2.2)), some (vI ((i : Nat) : Int)), none], [], cW τ (utK (τ.2.1 2) (τ.2.1 3) κ i))) ?_ ?_
    · intro i hii ihi
      replace ihi : G (12, [some (vR 0), some (vI ((hoN L (τ.1 4) (i + 1)).1)), some (vI ((hoN L (τ.1 4) (i + 1)).2.1)), some (vI ((hoN L (τ.1 4) (i + 1)).2.2.1)), some (vI ((hoN L (τ.1 4) (i + 1)).2.2.2)), some (vI ((i + 1 : Nat) : Int)), none], [], cW τ (utK (τ.2.1 2) (τ.2.1 3) κ (i + 1))) := ihi
      show G (12, [some (vR 0), some (vI ((hoN L (τ.1 4) i).1)), some (vI ((hoN L (τ.1 4) i).2.1)), some (vI ((hoN L (τ.1 4) i).2.2.1)), some (vI ((hoN L (τ.1 4) i).2.2.2)), some (vI (i : Int)), none], [], cW τ (utK (τ.2.1 2) (τ.2.1 3) κ i))
      have hq := hoN_r (τ.1 4) hL i (by omega)
      refine hR.run0 2 (S' := (15, [some (vR 0), some (vI ((hoN L (τ.1 4) i).1)), some (vI ((hoN L (τ.1 4) i).2.1)), some (vI ((hoN L (τ.1 4) i).2.2.1)), some (vI ((hoN L (τ.1 4) i).2.2.2)), some (vI (i : Int)), none], [vI 3, vI (i : Int)], cW τ (utK (τ.2.1 2) (τ.2.1 3) κ i))) rfl ?_
      refine hR.br (C := 3 ≤ (i : Int)) rfl (by first | omega | (dsimp only; omega) | (simp [sHt, sH, sS, sAt, sA, sup]; done) | (simp [sHt, sH, sS, sAt, sA, sup]; omega)) (fun c1 => ?_) (fun c1 => ?_)
      · exfalso; omega
      refine hR.run0 5 (S' := (28, [some (vR 0), some (vI ((hoN L (τ.1 4) i).1)), some (vI ((hoN L (τ.1 4) i).2.1)), some (vI ((hoN L (τ.1 4) i).2.2.1)), some (vI ((hoN L (τ.1 4) i).2.2.2)), some (vI (i : Int)), none], [vI (i : Int), vR 1, vR 40], cW τ (utK (τ.2.1 2) (τ.2.1 3) κ i))) rfl ?_
      have hLi := hL (i : Int) (by omega)
      refine hR.cv [vR 1, vI (i : Int)] kX5_175 rfl rfl ⟨_, _, _, rfl, rfl, rfl⟩ (by first | decide | exact Nat.le_refl _) (by decide) (Nat.le_of_ble_eq_true rfl) rfl (sp_bsT τ _ h (by omega) (utK_on _ _ _ hk0 i) (utK_ot _ _ _ hk1 i)) ?_
      show G (31, [some (vR 0), some (vI ((hoN L (τ.1 4) i).1)), some (vI ((hoN L (τ.1 4) i).2.1)), some (vI ((hoN L (τ.1 4) i).2.2.1)), some (vI ((hoN L (τ.1 4) i).2.2.2)), some (vI (i : Int)), none], [vI (trT τ (i : Int))], cW τ (utK (τ.2.1 2) (τ.2.1 3) κ (i + 1)))
      rw [show trT τ (i : Int) = L (i : Int) from by rw [hLL]]
      refine hR.run0 3 (S' := (36, [some (vR 0), some (vI ((hoN L (τ.1 4) i).1)), some (vI ((hoN L (τ.1 4) i).2.1)), some (vI ((hoN L (τ.1 4) i).2.2.1)), some (vI ((hoN L (τ.1 4) i).2.2.2)), some (vI (i : Int)), some (vI (L (i : Int)))], [vI ((hoN L (τ.1 4) i).1), vI (L (i : Int))], cW τ (utK (τ.2.1 2) (τ.2.1 3) κ (i + 1)))) rfl ?_
      refine hR.br (C := L (i : Int) ≤ (hoN L (τ.1 4) i).1) rfl (by first | omega | (dsimp only; omega) | (simp [sHt, sH, sS, sAt, sA, sup]; done) | (simp [sHt, sH, sS, sAt, sA, sup]; omega)) (fun c2 => ?_) (fun c2 => ?_)
      · skip
        refine hR.run0 2 (S' := (50, [some (vR 0), some (vI ((hoN L (τ.1 4) i).1)), some (vI ((hoN L (τ.1 4) i).2.1)), some (vI ((hoN L (τ.1 4) i).2.2.1)), some (vI ((hoN L (τ.1 4) i).2.2.2)), some (vI (i : Int)), some (vI (L (i : Int)))], [vI ((hoN L (τ.1 4) i).1), vI (L (i : Int))], cW τ (utK (τ.2.1 2) (τ.2.1 3) κ (i + 1)))) rfl ?_
        refine hR.br (C := L (i : Int) ≠ (hoN L (τ.1 4) i).1) rfl (by first | omega | (dsimp only; omega) | (simp [sHt, sH, sS, sAt, sA, sup]; done) | (simp [sHt, sH, sS, sAt, sA, sup]; omega)) (fun c3 => ?_) (fun c3 => ?_)
        · skip
          refine hR.run0 2 (S' := (12, [some (vR 0), some (vI ((hoN L (τ.1 4) i).1)), some (vI ((hoN L (τ.1 4) i).2.1)), some (vI ((hoN L (τ.1 4) i).2.2.1)), some (vI ((hoN L (τ.1 4) i).2.2.2)), some (vI ((i : Int) + 1)), some (vI (L (i : Int)))], [], cW τ (utK (τ.2.1 2) (τ.2.1 3) κ (i + 1)))) rfl ?_
          rw [show (hoN L (τ.1 4) (i + 1)).1 = ((hoN L (τ.1 4) i).1) from by show (ho1 (L (i : Int)) (τ.1 4) (i : Int) (hoN L (τ.1 4) i)).1 = _; unfold ho1; (repeat' split) <;> first | rfl | (exfalso; omega) | (simp only []; omega) | (simp_all; done) | (exfalso; simp_all; done) | (exfalso; simp_all; omega)] at ihi
          rw [show (hoN L (τ.1 4) (i + 1)).2.1 = ((hoN L (τ.1 4) i).2.1) from by show (ho1 (L (i : Int)) (τ.1 4) (i : Int) (hoN L (τ.1 4) i)).2.1 = _; unfold ho1; (repeat' split) <;> first | rfl | (exfalso; omega) | (simp only []; omega) | (simp_all; done) | (exfalso; simp_all; done) | (exfalso; simp_all; omega)] at ihi
          rw [show (hoN L (τ.1 4) (i + 1)).2.2.1 = ((hoN L (τ.1 4) i).2.2.1) from by show (ho1 (L (i : Int)) (τ.1 4) (i : Int) (hoN L (τ.1 4) i)).2.2.1 = _; unfold ho1; (repeat' split) <;> first | rfl | (exfalso; omega) | (simp only []; omega) | (simp_all; done) | (exfalso; simp_all; done) | (exfalso; simp_all; omega)] at ihi
          rw [show (hoN L (τ.1 4) (i + 1)).2.2.2 = ((hoN L (τ.1 4) i).2.2.2) from by show (ho1 (L (i : Int)) (τ.1 4) (i : Int) (hoN L (τ.1 4) i)).2.2.2 = _; unfold ho1; (repeat' split) <;> first | rfl | (exfalso; omega) | (simp only []; omega) | (simp_all; done) | (exfalso; simp_all; done) | (exfalso; simp_all; omega)] at ihi
          refine hR.fg 6 ?_
          show G (12, [some (vR 0), some (vI ((hoN L (τ.1 4) i).1)), some (vI ((hoN L (τ.1 4) i).2.1)), some (vI ((hoN L (τ.1 4) i).2.2.1)), some (vI ((hoN L (τ.1 4) i).2.2.2)), some (vI ((i : Int) + 1)), none], [], cW τ (utK (τ.2.1 2) (τ.2.1 3) κ (i + 1)))
          exact ihi
        · skip
          refine hR.run0 4 (S' := (61, [some (vR 0), some (vI ((hoN L (τ.1 4) i).1)), some (vI (((hoN L (τ.1 4) i).2.1) + 1)), some (vI (i : Int)), some (vI ((hoN L (τ.1 4) i).2.2.2)), some (vI (i : Int)), some (vI (L (i : Int)))], [vI ((hoN L (τ.1 4) i).2.2.2)], cW τ (utK (τ.2.1 2) (τ.2.1 3) κ (i + 1)))) rfl ?_
          refine hR.br (C := (hoN L (τ.1 4) i).2.2.2 ≠ 0) rfl (by first | omega | (dsimp only; omega) | (simp [sHt, sH, sS, sAt, sA, sup]; done) | (simp [sHt, sH, sS, sAt, sA, sup]; omega)) (fun c4 => ?_) (fun c4 => ?_)
          · skip
            refine hR.run0 5 (S' := (12, [some (vR 0), some (vI ((hoN L (τ.1 4) i).1)), some (vI (((hoN L (τ.1 4) i).2.1) + 1)), some (vI (i : Int)), some (vI 1), some (vI ((i : Int) + 1)), some (vI (L (i : Int)))], [], cW τ (utK (τ.2.1 2) (τ.2.1 3) κ (i + 1)))) rfl ?_
            rw [show (hoN L (τ.1 4) (i + 1)).1 = ((hoN L (τ.1 4) i).1) from by show (ho1 (L (i : Int)) (τ.1 4) (i : Int) (hoN L (τ.1 4) i)).1 = _; unfold ho1; (repeat' split) <;> first | rfl | (exfalso; omega) | (simp only []; omega) | (simp_all; done) | (exfalso; simp_all; done) | (exfalso; simp_all; omega)] at ihi
            rw [show (hoN L (τ.1 4) (i + 1)).2.1 = (((hoN L (τ.1 4) i).2.1) + 1) from by show (ho1 (L (i : Int)) (τ.1 4) (i : Int) (hoN L (τ.1 4) i)).2.1 = _; unfold ho1; (repeat' split) <;> first | rfl | (exfalso; omega) | (simp only []; omega) | (simp_all; done) | (exfalso; simp_all; done) | (exfalso; simp_all; omega)] at ihi
            rw [show (hoN L (τ.1 4) (i + 1)).2.2.1 = (i : Int) from by show (ho1 (L (i : Int)) (τ.1 4) (i : Int) (hoN L (τ.1 4) i)).2.2.1 = _; unfold ho1; (repeat' split) <;> first | rfl | (exfalso; omega) | (simp only []; omega) | (simp_all; done) | (exfalso; simp_all; done) | (exfalso; simp_all; omega)] at ihi
            rw [show (hoN L (τ.1 4) (i + 1)).2.2.2 = 1 from by show (ho1 (L (i : Int)) (τ.1 4) (i : Int) (hoN L (τ.1 4) i)).2.2.2 = _; unfold ho1; (repeat' split) <;> first | rfl | (exfalso; omega) | (simp only []; omega) | (simp_all; done) | (exfalso; simp_all; done) | (exfalso; simp_all; omega)] at ihi
            refine hR.fg 6 ?_
            show G (12, [some (vR 0), some (vI ((hoN L (τ.1 4) i).1)), some (vI (((hoN L (τ.1 4) i).2.1) + 1)), some (vI (i : Int)), some (vI 1), some (vI ((i : Int) + 1)), none], [], cW τ (utK (τ.2.1 2) (τ.2.1 3) κ (i + 1)))
            exact ihi
          · skip
            refine hR.run0 3 (S' := (70, [some (vR 0), some (vI ((hoN L (τ.1 4) i).1)), some (vI (((hoN L (τ.1 4) i).2.1) + 1)), some (vI (i : Int)), some (vI ((hoN L (τ.1 4) i).2.2.2)), some (vI (i : Int)), some (vI (L (i : Int)))], [vI (τ.1 4), vI (i : Int)], cW τ (utK (τ.2.1 2) (τ.2.1 3) κ (i + 1)))) rfl ?_
            refine hR.br (C := (i : Int) ≠ τ.1 4) rfl (by first | omega | (dsimp only; omega) | (simp [sHt, sH, sS, sAt, sA, sup]; done) | (simp [sHt, sH, sS, sAt, sA, sup]; omega)) (fun c5 => ?_) (fun c5 => ?_)
            · skip
              refine hR.run0 4 (S' := (12, [some (vR 0), some (vI ((hoN L (τ.1 4) i).1)), some (vI (((hoN L (τ.1 4) i).2.1) + 1)), some (vI (i : Int)), some (vI 0), some (vI ((i : Int) + 1)), some (vI (L (i : Int)))], [], cW τ (utK (τ.2.1 2) (τ.2.1 3) κ (i + 1)))) rfl ?_
              rw [show (hoN L (τ.1 4) (i + 1)).1 = ((hoN L (τ.1 4) i).1) from by show (ho1 (L (i : Int)) (τ.1 4) (i : Int) (hoN L (τ.1 4) i)).1 = _; unfold ho1; (repeat' split) <;> first | rfl | (exfalso; omega) | (simp only []; omega) | (simp_all; done) | (exfalso; simp_all; done) | (exfalso; simp_all; omega)] at ihi
              rw [show (hoN L (τ.1 4) (i + 1)).2.1 = (((hoN L (τ.1 4) i).2.1) + 1) from by show (ho1 (L (i : Int)) (τ.1 4) (i : Int) (hoN L (τ.1 4) i)).2.1 = _; unfold ho1; (repeat' split) <;> first | rfl | (exfalso; omega) | (simp only []; omega) | (simp_all; done) | (exfalso; simp_all; done) | (exfalso; simp_all; omega)] at ihi
              rw [show (hoN L (τ.1 4) (i + 1)).2.2.1 = (i : Int) from by show (ho1 (L (i : Int)) (τ.1 4) (i : Int) (hoN L (τ.1 4) i)).2.2.1 = _; unfold ho1; (repeat' split) <;> first | rfl | (exfalso; omega) | (simp only []; omega) | (simp_all; done) | (exfalso; simp_all; done) | (exfalso; simp_all; omega)] at ihi
              rw [show (hoN L (τ.1 4) (i + 1)).2.2.2 = 0 from by show (ho1 (L (i : Int)) (τ.1 4) (i : Int) (hoN L (τ.1 4) i)).2.2.2 = _; unfold ho1; (repeat' split) <;> first | rfl | (exfalso; omega) | (simp only []; omega) | (simp_all; done) | (exfalso; simp_all; done) | (exfalso; simp_all; omega)] at ihi
              refine hR.fg 6 ?_
              show G (12, [some (vR 0), some (vI ((hoN L (τ.1 4) i).1)), some (vI (((hoN L (τ.1 4) i).2.1) + 1)), some (vI (i : Int)), some (vI 0), some (vI ((i : Int) + 1)), none], [], cW τ (utK (τ.2.1 2) (τ.2.1 3) κ (i + 1)))
              exact ihi
            · skip
              refine hR.run0 5 (S' := (12, [some (vR 0), some (vI ((hoN L (τ.1 4) i).1)), some (vI (((hoN L (τ.1 4) i).2.1) + 1)), some (vI (i : Int)), some (vI 1), some (vI ((i : Int) + 1)), some (vI (L (i : Int)))], [], cW τ (utK (τ.2.1 2) (τ.2.1 3) κ (i + 1)))) rfl ?_
              rw [show (hoN L (τ.1 4) (i + 1)).1 = ((hoN L (τ.1 4) i).1) from by show (ho1 (L (i : Int)) (τ.1 4) (i : Int) (hoN L (τ.1 4) i)).1 = _; unfold ho1; (repeat' split) <;> first | rfl | (exfalso; omega) | (simp only []; omega) | (simp_all; done) | (exfalso; simp_all; done) | (exfalso; simp_all; omega)] at ihi
              rw [show (hoN L (τ.1 4) (i + 1)).2.1 = (((hoN L (τ.1 4) i).2.1) + 1) from by show (ho1 (L (i : Int)) (τ.1 4) (i : Int) (hoN L (τ.1 4) i)).2.1 = _; unfold ho1; (repeat' split) <;> first | rfl | (exfalso; omega) | (simp only []; omega) | (simp_all; done) | (exfalso; simp_all; done) | (exfalso; simp_all; omega)] at ihi
              rw [show (hoN L (τ.1 4) (i + 1)).2.2.1 = (i : Int) from by show (ho1 (L (i : Int)) (τ.1 4) (i : Int) (hoN L (τ.1 4) i)).2.2.1 = _; unfold ho1; (repeat' split) <;> first | rfl | (exfalso; omega) | (simp only []; omega) | (simp_all; done) | (exfalso; simp_all; done) | (exfalso; simp_all; omega)] at ihi
              rw [show (hoN L (τ.1 4) (i + 1)).2.2.2 = 1 from by show (ho1 (L (i : Int)) (τ.1 4) (i : Int) (hoN L (τ.1 4) i)).2.2.2 = _; unfold ho1; (repeat' split) <;> first | rfl | (exfalso; omega) | (simp only []; omega) | (simp_all; done) | (exfalso; simp_all; done) | (exfalso; simp_all; omega)] at ihi
              refine hR.fg 6 ?_
              show G (12, [some (vR 0), some (vI ((hoN L (τ.1 4) i).1)), some (vI (((hoN L (τ.1 4) i).2.1) + 1)), some (vI (i : Int)), some (vI 1), some (vI ((i : Int) + 1)), none], [], cW τ (utK (τ.2.1 2) (τ.2.1 3) κ (i + 1)))
              exact ihi
      · skip
        refine hR.run0 8 (S' := (50, [some (vR 0), some (vI (L (i : Int))), some (vI 0), some (vI ((hoN L (τ.1 4) i).2.2.1)), some (vI 0), some (vI (i : Int)), some (vI (L (i : Int)))], [vI (L (i : Int)), vI (L (i : Int))], cW τ (utK (τ.2.1 2) (τ.2.1 3) κ (i + 1)))) rfl ?_
        refine hR.br (C := L (i : Int) ≠ L (i : Int)) rfl (by first | omega | (dsimp only; omega) | (simp [sHt, sH, sS, sAt, sA, sup]; done) | (simp [sHt, sH, sS, sAt, sA, sup]; omega)) (fun c6 => ?_) (fun c6 => ?_)
        · skip
          refine hR.run0 2 (S' := (12, [some (vR 0), some (vI (L (i : Int))), some (vI 0), some (vI ((hoN L (τ.1 4) i).2.2.1)), some (vI 0), some (vI ((i : Int) + 1)), some (vI (L (i : Int)))], [], cW τ (utK (τ.2.1 2) (τ.2.1 3) κ (i + 1)))) rfl ?_
          rw [show (hoN L (τ.1 4) (i + 1)).1 = (L (i : Int)) from by show (ho1 (L (i : Int)) (τ.1 4) (i : Int) (hoN L (τ.1 4) i)).1 = _; unfold ho1; (repeat' split) <;> first | rfl | (exfalso; omega) | (simp only []; omega) | (simp_all; done) | (exfalso; simp_all; done) | (exfalso; simp_all; omega)] at ihi
          rw [show (hoN L (τ.1 4) (i + 1)).2.1 = 0 from by show (ho1 (L (i : Int)) (τ.1 4) (i : Int) (hoN L (τ.1 4) i)).2.1 = _; unfold ho1; (repeat' split) <;> first | rfl | (exfalso; omega) | (simp only []; omega) | (simp_all; done) | (exfalso; simp_all; done) | (exfalso; simp_all; omega)] at ihi
          rw [show (hoN L (τ.1 4) (i + 1)).2.2.1 = ((hoN L (τ.1 4) i).2.2.1) from by show (ho1 (L (i : Int)) (τ.1 4) (i : Int) (hoN L (τ.1 4) i)).2.2.1 = _; unfold ho1; (repeat' split) <;> first | rfl | (exfalso; omega) | (simp only []; omega) | (simp_all; done) | (exfalso; simp_all; done) | (exfalso; simp_all; omega)] at ihi
          rw [show (hoN L (τ.1 4) (i + 1)).2.2.2 = 0 from by show (ho1 (L (i : Int)) (τ.1 4) (i : Int) (hoN L (τ.1 4) i)).2.2.2 = _; unfold ho1; (repeat' split) <;> first | rfl | (exfalso; omega) | (simp only []; omega) | (simp_all; done) | (exfalso; simp_all; done) | (exfalso; simp_all; omega)] at ihi
          refine hR.fg 6 ?_
          show G (12, [some (vR 0), some (vI (L (i : Int))), some (vI 0), some (vI ((hoN L (τ.1 4) i).2.2.1)), some (vI 0), some (vI ((i : Int) + 1)), none], [], cW τ (utK (τ.2.1 2) (τ.2.1 3) κ (i + 1)))
          exact ihi
        · skip
          refine hR.run0 4 (S' := (61, [some (vR 0), some (vI (L (i : Int))), some (vI 1), some (vI (i : Int)), some (vI 0), some (vI (i : Int)), some (vI (L (i : Int)))], [vI 0], cW τ (utK (τ.2.1 2) (τ.2.1 3) κ (i + 1)))) rfl ?_
          refine hR.br (C := 0 ≠ 0) rfl (by first | omega | (dsimp only; omega) | (simp [sHt, sH, sS, sAt, sA, sup]; done) | (simp [sHt, sH, sS, sAt, sA, sup]; omega)) (fun c7 => ?_) (fun c7 => ?_)
          · exfalso; omega
          refine hR.run0 3 (S' := (70, [some (vR 0), some (vI (L (i : Int))), some (vI 1), some (vI (i : Int)), some (vI 0), some (vI (i : Int)), some (vI (L (i : Int)))], [vI (τ.1 4), vI (i : Int)], cW τ (utK (τ.2.1 2) (τ.2.1 3) κ (i + 1)))) rfl ?_
          refine hR.br (C := (i : Int) ≠ τ.1 4) rfl (by first | omega | (dsimp only; omega) | (simp [sHt, sH, sS, sAt, sA, sup]; done) | (simp [sHt, sH, sS, sAt, sA, sup]; omega)) (fun c8 => ?_) (fun c8 => ?_)
          · skip
            refine hR.run0 4 (S' := (12, [some (vR 0), some (vI (L (i : Int))), some (vI 1), some (vI (i : Int)), some (vI 0), some (vI ((i : Int) + 1)), some (vI (L (i : Int)))], [], cW τ (utK (τ.2.1 2) (τ.2.1 3) κ (i + 1)))) rfl ?_
            rw [show (hoN L (τ.1 4) (i + 1)).1 = (L (i : Int)) from by show (ho1 (L (i : Int)) (τ.1 4) (i : Int) (hoN L (τ.1 4) i)).1 = _; unfold ho1; (repeat' split) <;> first | rfl | (exfalso; omega) | (simp only []; omega) | (simp_all; done) | (exfalso; simp_all; done) | (exfalso; simp_all; omega)] at ihi
            rw [show (hoN L (τ.1 4) (i + 1)).2.1 = 1 from by show (ho1 (L (i : Int)) (τ.1 4) (i : Int) (hoN L (τ.1 4) i)).2.1 = _; unfold ho1; (repeat' split) <;> first | rfl | (exfalso; omega) | (simp only []; omega) | (simp_all; done) | (exfalso; simp_all; done) | (exfalso; simp_all; omega)] at ihi
            rw [show (hoN L (τ.1 4) (i + 1)).2.2.1 = (i : Int) from by show (ho1 (L (i : Int)) (τ.1 4) (i : Int) (hoN L (τ.1 4) i)).2.2.1 = _; unfold ho1; (repeat' split) <;> first | rfl | (exfalso; omega) | (simp only []; omega) | (simp_all; done) | (exfalso; simp_all; done) | (exfalso; simp_all; omega)] at ihi
            rw [show (hoN L (τ.1 4) (i + 1)).2.2.2 = 0 from by show (ho1 (L (i : Int)) (τ.1 4) (i : Int) (hoN L (τ.1 4) i)).2.2.2 = _; unfold ho1; (repeat' split) <;> first | rfl | (exfalso; omega) | (simp only []; omega) | (simp_all; done) | (exfalso; simp_all; done) | (exfalso; simp_all; omega)] at ihi
            refine hR.fg 6 ?_
            show G (12, [some (vR 0), some (vI (L (i : Int))), some (vI 1), some (vI (i : Int)), some (vI 0), some (vI ((i : Int) + 1)), none], [], cW τ (utK (τ.2.1 2) (τ.2.1 3) κ (i + 1)))
            exact ihi
          · skip
            refine hR.run0 5 (S' := (12, [some (vR 0), some (vI (L (i : Int))), some (vI 1), some (vI (i : Int)), some (vI 1), some (vI ((i : Int) + 1)), some (vI (L (i : Int)))], [], cW τ (utK (τ.2.1 2) (τ.2.1 3) κ (i + 1)))) rfl ?_
            rw [show (hoN L (τ.1 4) (i + 1)).1 = (L (i : Int)) from by show (ho1 (L (i : Int)) (τ.1 4) (i : Int) (hoN L (τ.1 4) i)).1 = _; unfold ho1; (repeat' split) <;> first | rfl | (exfalso; omega) | (simp only []; omega) | (simp_all; done) | (exfalso; simp_all; done) | (exfalso; simp_all; omega)] at ihi
            rw [show (hoN L (τ.1 4) (i + 1)).2.1 = 1 from by show (ho1 (L (i : Int)) (τ.1 4) (i : Int) (hoN L (τ.1 4) i)).2.1 = _; unfold ho1; (repeat' split) <;> first | rfl | (exfalso; omega) | (simp only []; omega) | (simp_all; done) | (exfalso; simp_all; done) | (exfalso; simp_all; omega)] at ihi
            rw [show (hoN L (τ.1 4) (i + 1)).2.2.1 = (i : Int) from by show (ho1 (L (i : Int)) (τ.1 4) (i : Int) (hoN L (τ.1 4) i)).2.2.1 = _; unfold ho1; (repeat' split) <;> first | rfl | (exfalso; omega) | (simp only []; omega) | (simp_all; done) | (exfalso; simp_all; done) | (exfalso; simp_all; omega)] at ihi
            rw [show (hoN L (τ.1 4) (i + 1)).2.2.2 = 1 from by show (ho1 (L (i : Int)) (τ.1 4) (i : Int) (hoN L (τ.1 4) i)).2.2.2 = _; unfold ho1; (repeat' split) <;> first | rfl | (exfalso; omega) | (simp only []; omega) | (simp_all; done) | (exfalso; simp_all; done) | (exfalso; simp_all; omega)] at ihi
            refine hR.fg 6 ?_
            show G (12, [some (vR 0), some (vI (L (i : Int))), some (vI 1), some (vI (i : Int)), some (vI 1), some (vI ((i : Int) + 1)), none], [], cW τ (utK (τ.2.1 2) (τ.2.1 3) κ (i + 1)))
            exact ihi
    · show G (12, [some (vR 0), some (vI ((hoN L (τ.1 4) 3).1)), some (vI ((hoN L (τ.1 4) 3).2.1)), some (vI ((hoN L (τ.1 4) 3).2.2.1)), some (vI ((hoN L (τ.1 4) 3).2.2.2)), some (vI ((3 : Nat) : Int)), none], [], cW τ (utK (τ.2.1 2) (τ.2.1 3) κ 3))
      show G (12, [some (vR 0), some (vI ((hoN L (τ.1 4) 3).1)), some (vI ((hoN L (τ.1 4) 3).2.1)), some (vI ((hoN L (τ.1 4) 3).2.2.1)), some (vI ((hoN L (τ.1 4) 3).2.2.2)), some (vI 3), none], [], cW τ (utK (τ.2.1 2) (τ.2.1 3) κ 3))
      refine hR.run0 2 (S' := (15, [some (vR 0), some (vI ((hoN L (τ.1 4) 3).1)), some (vI ((hoN L (τ.1 4) 3).2.1)), some (vI ((hoN L (τ.1 4) 3).2.2.1)), some (vI ((hoN L (τ.1 4) 3).2.2.2)), some (vI 3), none], [vI 3, vI 3], cW τ (utK (τ.2.1 2) (τ.2.1 3) κ 3))) rfl ?_
      refine hR.br (C := 3 ≤ 3) rfl (by first | omega | (dsimp only; omega) | (simp [sHt, sH, sS, sAt, sA, sup]; done) | (simp [sHt, sH, sS, sAt, sA, sup]; omega)) (fun c9 => ?_) (fun c9 => ?_)
      · skip
        refine hR.run0 2 (S' := (88, [some (vR 0), some (vI ((hoN L (τ.1 4) 3).1)), some (vI ((hoN L (τ.1 4) 3).2.1)), some (vI ((hoN L (τ.1 4) 3).2.2.1)), some (vI ((hoN L (τ.1 4) 3).2.2.2)), some (vI 3), none], [vI 5, vI ((hoN L (τ.1 4) 3).1)], cW τ (utK (τ.2.1 2) (τ.2.1 3) κ 3))) rfl ?_
        refine hR.br (C := 5 ≤ (hoN L (τ.1 4) 3).1) rfl (by first | omega | (dsimp only; omega) | (simp [sHt, sH, sS, sAt, sA, sup]; done) | (simp [sHt, sH, sS, sAt, sA, sup]; omega)) (fun c10 => ?_) (fun c10 => ?_)
        · skip
          refine hR.run0 1 (S' := (101, [some (vR 0), some (vI ((hoN L (τ.1 4) 3).1)), some (vI ((hoN L (τ.1 4) 3).2.1)), some (vI ((hoN L (τ.1 4) 3).2.2.1)), some (vI ((hoN L (τ.1 4) 3).2.2.2)), some (vI 3), none], [vI ((hoN L (τ.1 4) 3).2.2.2)], cW τ (utK (τ.2.1 2) (τ.2.1 3) κ 3))) rfl ?_
          refine hR.br (C := (hoN L (τ.1 4) 3).2.2.2 ≠ 0) rfl (by first | omega | (dsimp only; omega) | (simp [sHt, sH, sS, sAt, sA, sup]; done) | (simp [sHt, sH, sS, sAt, sA, sup]; omega)) (fun c11 => ?_) (fun c11 => ?_)
          · skip
            exact hR.rt rfl trivial rfl (by rw [show hoF L (τ.1 4) = τ.1 4 from by unfold hoF; rw [if_neg (by omega), if_neg (by omega)], sS_self])
          · skip
            refine hR.run0 3 (S' := (107, [some (vR 0), some (vI ((hoN L (τ.1 4) 3).1)), some (vI ((hoN L (τ.1 4) 3).2.1)), some (vI ((hoN L (τ.1 4) 3).2.2.1)), some (vI ((hoN L (τ.1 4) 3).2.2.2)), some (vI 3), none], [vI 1, vI ((hoN L (τ.1 4) 3).2.1), vR 0], cW τ (utK (τ.2.1 2) (τ.2.1 3) κ 3))) rfl ?_
            refine hR.br (C := (hoN L (τ.1 4) 3).2.1 ≠ 1) rfl (by first | omega | (dsimp only; omega) | (simp [sHt, sH, sS, sAt, sA, sup]; done) | (simp [sHt, sH, sS, sAt, sA, sup]; omega)) (fun c12 => ?_) (fun c12 => ?_)
            · skip
              refine hR.run0 2 (S' := (118, [some (vR 0), some (vI ((hoN L (τ.1 4) 3).1)), some (vI ((hoN L (τ.1 4) 3).2.1)), some (vI ((hoN L (τ.1 4) 3).2.2.1)), some (vI ((hoN L (τ.1 4) 3).2.2.2)), some (vI 3), none], [], pset (cW τ (utK (τ.2.1 2) (τ.2.1 3) κ 3)) 0 (.inr (5, [vR 1, vR 10, vR 40, vR 50, vR 60, vR 70, vR 71, vI (τ.1 0), vI (τ.1 1), vI (τ.1 2), vI (τ.1 3), vI (-1)])))) rfl ?_
              rw [cW_s4]
              exact hR.rt rfl trivial rfl (by rw [show hoF L (τ.1 4) = (-1) from by unfold hoF; (repeat' split) <;> first | rfl | (exfalso; omega)])
            · skip
              refine hR.run0 3 (S' := (118, [some (vR 0), some (vI ((hoN L (τ.1 4) 3).1)), some (vI ((hoN L (τ.1 4) 3).2.1)), some (vI ((hoN L (τ.1 4) 3).2.2.1)), some (vI ((hoN L (τ.1 4) 3).2.2.2)), some (vI 3), none], [], pset (cW τ (utK (τ.2.1 2) (τ.2.1 3) κ 3)) 0 (.inr (5, [vR 1, vR 10, vR 40, vR 50, vR 60, vR 70, vR 71, vI (τ.1 0), vI (τ.1 1), vI (τ.1 2), vI (τ.1 3), vI ((hoN L (τ.1 4) 3).2.2.1)])))) rfl ?_
              rw [cW_s4]
              exact hR.rt rfl trivial rfl (by rw [show hoF L (τ.1 4) = ((hoN L (τ.1 4) 3).2.2.1) from by unfold hoF; (repeat' split) <;> first | rfl | (exfalso; omega)])
        · skip
          refine hR.run0 3 (S' := (96, [some (vR 0), some (vI ((hoN L (τ.1 4) 3).1)), some (vI ((hoN L (τ.1 4) 3).2.1)), some (vI ((hoN L (τ.1 4) 3).2.2.1)), some (vI ((hoN L (τ.1 4) 3).2.2.2)), some (vI 3), none], [], pset (cW τ (utK (τ.2.1 2) (τ.2.1 3) κ 3)) 0 (.inr (5, [vR 1, vR 10, vR 40, vR 50, vR 60, vR 70, vR 71, vI (τ.1 0), vI (τ.1 1), vI (τ.1 2), vI (τ.1 3), vI (-1)])))) rfl ?_
          rw [cW_s4]
          refine hR.run0 1 (S' := (118, [some (vR 0), some (vI ((hoN L (τ.1 4) 3).1)), some (vI ((hoN L (τ.1 4) 3).2.1)), some (vI ((hoN L (τ.1 4) 3).2.2.1)), some (vI ((hoN L (τ.1 4) 3).2.2.2)), some (vI 3), none], [], cW (sS τ 4 (-1)) (utK (τ.2.1 2) (τ.2.1 3) κ 3))) rfl ?_
          exact hR.rt rfl trivial rfl (by rw [show hoF L (τ.1 4) = (-1) from by unfold hoF; (repeat' split) <;> first | rfl | (exfalso; omega)])
      · exfalso; omega
  exact hL 0 (Nat.zero_le _)

theorem sp_look (τ κ : St) (h : Lh τ) (hk0 : ∀ i, 0 ≤ κ.2.1 0 i ∧ κ.2.1 0 i ≤ 63) (hk1 : ∀ i, 0 ≤ κ.2.1 1 i ∧ κ.2.1 1 i ≤ 63) : Sp mX5_lookAtLand roC 10 [vR 0] (cW τ κ) (.inl none) (cW (winS (lkS τ)) (utK (τ.2.1 2) (τ.2.1 3) κ 3)) := by
  refine Sp.of (lk := lkX5) (tb := bX5_lookAtLand) (by decide) lkX5_ok tX5_lookAtLand (cW_keys _ _ _ _) (Nat.le_of_ble_eq_true rfl) (fun G hR => ?_)
  refine hR.run0 1 (S' := (1, [some (vR 0)], [vR 0], cW τ κ)) rfl ?_
  refine hR.cv [] kX5_342 rfl rfl ⟨_, _, _, rfl, rfl, rfl⟩ (by first | decide | exact Nat.le_refl _) (by decide) (Nat.le_of_ble_eq_true rfl) rfl (sp_updTH _ _ h hk0 hk1) ?_
  show G (4, [some (vR 0)], [], cW (lkS τ) (utK (τ.2.1 2) (τ.2.1 3) κ 3))
  refine hR.run0 1 (S' := (5, [some (vR 0)], [vR 0], cW (lkS τ) (utK (τ.2.1 2) (τ.2.1 3) κ 3))) rfl ?_
  refine hR.cv [] kX5_197 rfl rfl ⟨_, _, _, rfl, rfl, rfl⟩ (by first | decide | exact Nat.le_refl _) (by decide) (Nat.le_of_ble_eq_true rfl) rfl (sp_endW _ _ h.lk) ?_
  show G (8, [some (vR 0)], [], cW (winS (lkS τ)) (utK (τ.2.1 2) (τ.2.1 3) κ 3))
  exact hR.rt rfl trivial (by rfl) (by rfl)
theorem pX5_trail (τ κ : St) {p : Int} (hp : -2147483648 ≤ p ∧ p ≤ 2147483647) (hk0 : ∀ i, 0 ≤ κ.2.1 0 i ∧ κ.2.1 0 i ≤ 63) (hk1 : ∀ i, 0 ≤ κ.2.1 1 i ∧ κ.2.1 1 i ≤ 63) (hI : Iv τ)  : Sp mX5_trail roC 9 [vR 0, vI p] (cW τ κ) (oc eIS (xTrail τ p)) (cW (xTrail τ p).2.2 (kTrail κ τ p)) := by
  have hb := hI.hb
  have hr := hI.hr
  have hg := hI.hg
  have hn := hI.hn
  have h7 := hI.h7
  have hh := hI.hh
  have hsm := hI.hsm
  have hcd := hI.hcd
  have hfr := hI.hfr
  have hkn := hI.hkn
  have hbo := hI.hbo
  have hus := hI.hus
  have hro := hI.hro
  have har := hI.har
  have hth := hI.hth
  have hph := hI.hph
  have htu := hI.htu
  have hrb := hI.hrb
  have hpl := hI.hpl
  have hdu := hI.hdu
  have hdp := hI.hdp
  have hof := hI.hof
  have how := hI.how
  have hga := hI.hga
  have hwa := hI.hwa
  have hck := hI.hck
  have hkz := hI.hkz
  have hcb := hI.hcb
  have hfb := hI.hfb
  have hnr := hI.hnr
  have hpq := hI.hpq
  have hrc := hI.hrc
  have hbc := hI.hbc
  have hcc := hI.hcc
  have hac := hI.hac
  refine Sp.of (lk := lkX5) (tb := bX5_trail) (by decide) lkX5_ok tX5_trail (cW_keys _ _ _ _) (Nat.le_of_ble_eq_true rfl) (fun G hR => ?_)
  refine hR.run0 1 (S' := (1, [some (vR 0), some (vI p)], [vI p], cW τ κ)) rfl ?_
  by_cases q1 : 0 ≤ p ∧ p < 3
  · skip
    refine hR.cs [vI p] kX5_126 rfl rfl (by first | decide | exact Nat.le_refl _) (by decide) (Nat.le_of_ble_eq_true rfl) rfl (sp_rPlayer_ok _ (by omega) q1) ?_
    show G (4, [some (vR 0), some (vI p)], [], cW τ κ)
    refine hR.run0 5 (S' := (13, [some (vR 0), some (vI p)], [vI p, vR 1, vR 40], cW τ κ)) rfl ?_
    refine hR.cv [vR 1, vI p] kX5_175 rfl rfl ⟨_, _, _, rfl, rfl, rfl⟩ (by first | decide | exact Nat.le_refl _) (by decide) (Nat.le_of_ble_eq_true rfl) rfl (sp_bsT _ _ hI.lh (by omega) hk0 hk1) ?_
    show G (16, [some (vR 0), some (vI p)], [vI (trT τ p)], cW τ (gaN (τ.2.1 2) (τ.2.1 3) p κ 30))
    have hx : xTrail τ p = (0, trT τ p, τ) := by unfold xTrail; (repeat' split) <;> first | rfl | (exfalso; omega) | (exfalso; simp_all; done) | (simp_all; done) | (exfalso; simp_all; omega)
    have hkx : kTrail κ τ p = gaN (τ.2.1 2) (τ.2.1 3) p κ 30 := by unfold kTrail; rw [hx]; exact if_pos rfl
    exact hR.rt rfl trivial (by rw [hx, oc_0]) (by rw [hx, hkx])
  · skip
    have hx : xTrail τ p = (1, 0, τ) := by unfold xTrail; (repeat' split) <;> first | rfl | (exfalso; omega) | (exfalso; simp_all; done) | (simp_all; done) | (exfalso; simp_all; omega)
    exact hR.csx [vI p] kX5_126 rfl rfl (by decide) (by decide) (Nat.le_of_ble_eq_true rfl) rfl (sp_rPlayer_x _ (by omega) q1) (by rw [hx]; rfl) (by unfold kTrail; rw [hx]; rfl)
theorem pX5_trailBySets (τ κ : St) {p : Int} (hp : -2147483648 ≤ p ∧ p ≤ 2147483647) (hk0 : ∀ i, 0 ≤ κ.2.1 0 i ∧ κ.2.1 0 i ≤ 63) (hk1 : ∀ i, 0 ≤ κ.2.1 1 i ∧ κ.2.1 1 i ≤ 63) (hI : Iv τ)  : Sp mX5_trailBySets roC 4 [vR 0, vI p] (cW τ κ) (oc eIS (xTrail τ p)) (cW (xTrail τ p).2.2 (kTrail κ τ p)) := by
  have hb := hI.hb
  have hr := hI.hr
  have hg := hI.hg
  have hn := hI.hn
  have h7 := hI.h7
  have hh := hI.hh
  have hsm := hI.hsm
  have hcd := hI.hcd
  have hfr := hI.hfr
  have hkn := hI.hkn
  have hbo := hI.hbo
  have hus := hI.hus
  have hro := hI.hro
  have har := hI.har
  have hth := hI.hth
  have hph := hI.hph
  have htu := hI.htu
  have hrb := hI.hrb
  have hpl := hI.hpl
  have hdu := hI.hdu
  have hdp := hI.hdp
  have hof := hI.hof
  have how := hI.how
  have hga := hI.hga
  have hwa := hI.hwa
  have hck := hI.hck
  have hkz := hI.hkz
  have hcb := hI.hcb
  have hfb := hI.hfb
  have hnr := hI.hnr
  have hpq := hI.hpq
  have hrc := hI.hrc
  have hbc := hI.hbc
  have hcc := hI.hcc
  have hac := hI.hac
  refine Sp.of (lk := lkX5) (tb := bX5_trailBySets) (by decide) lkX5_ok tX5_trailBySets (cW_keys _ _ _ _) (Nat.le_of_ble_eq_true rfl) (fun G hR => ?_)
  refine hR.run0 1 (S' := (1, [some (vR 0), some (vI p)], [vI p], cW τ κ)) rfl ?_
  by_cases q1 : 0 ≤ p ∧ p < 3
  · skip
    refine hR.cs [vI p] kX5_126 rfl rfl (by first | decide | exact Nat.le_refl _) (by decide) (Nat.le_of_ble_eq_true rfl) rfl (sp_rPlayer_ok _ (by omega) q1) ?_
    show G (4, [some (vR 0), some (vI p)], [], cW τ κ)
    refine hR.run0 5 (S' := (13, [some (vR 0), some (vI p)], [vI p, vR 1, vR 40], cW τ κ)) rfl ?_
    refine hR.cv [vR 1, vI p] kX5_273 rfl rfl ⟨_, _, _, rfl, rfl, rfl⟩ (by first | decide | exact Nat.le_refl _) (by decide) (Nat.le_of_ble_eq_true rfl) rfl (sp_bySets _ _ (by omega) hb hr hk0 hk1 (hI.lh.ow (by omega))) ?_
    show G (16, [some (vR 0), some (vI p)], [vI (trT τ p)], cW τ (gaN (τ.2.1 2) (τ.2.1 3) p κ 30))
    have hx : xTrail τ p = (0, trT τ p, τ) := by unfold xTrail; (repeat' split) <;> first | rfl | (exfalso; omega) | (exfalso; simp_all; done) | (simp_all; done) | (exfalso; simp_all; omega)
    have hkx : kTrail κ τ p = gaN (τ.2.1 2) (τ.2.1 3) p κ 30 := by unfold kTrail; rw [hx]; exact if_pos rfl
    exact hR.rt rfl trivial (by rw [hx, oc_0]) (by rw [hx, hkx])
  · skip
    have hx : xTrail τ p = (1, 0, τ) := by unfold xTrail; (repeat' split) <;> first | rfl | (exfalso; omega) | (exfalso; simp_all; done) | (simp_all; done) | (exfalso; simp_all; omega)
    exact hR.csx [vI p] kX5_126 rfl rfl (by decide) (by decide) (Nat.le_of_ble_eq_true rfl) rfl (sp_rPlayer_x _ (by omega) q1) (by rw [hx]; rfl) (by unfold kTrail; rw [hx]; rfl)
theorem sp_gain (τ κ : St) {c : Int} (hc : 0 ≤ c ∧ c < 24) (htu : 0 ≤ τ.1 1 ∧ τ.1 1 < 3) (hg : ∀ h, 0 ≤ τ.2.1 0 h ∧ τ.2.1 0 h ≤ 5) (hH : HH (τ.2.2 0)) : Sp mX5_gainFromNewHouse roC 2 [vR 0, vI c] (cW τ κ) (.inl none) (cW (gnN (τ.1 1) c τ 7) (gkN (τ.1 1) c τ κ 7)) := by
  refine Sp.of (lk := lkX5) (tb := bX5_gainFromNewHouse) (by decide) lkX5_ok tX5_gainFromNewHouse (cW_keys _ _ _ _) (Nat.le_of_ble_eq_true rfl) (fun G hR => ?_)
  refine hR.run0 2 (S' := (2, [some (vR 0), some (vI c), some (vI 0), none], [], cW τ κ)) rfl ?_
  have hL : ∀ i : Nat, i ≤ 7 → G (2, [some (vR 0), some (vI c), some (vI ((i : Nat) : Int)), none], [], cW (gnN (τ.1 1) c τ i) (gkN (τ.1 1) c τ κ i)) := by
    refine back (P := fun i : Nat => G (2, [some (vR 0), some (vI c), some (vI ((i : Nat) : Int)), none], [], cW (gnN (τ.1 1) c τ i) (gkN (τ.1 1) c τ κ i))) ?_ ?_
    · intro i hii ihi
      replace ihi : G (2, [some (vR 0), some (vI c), some (vI ((i + 1 : Nat) : Int)), none], [], cW (gnN (τ.1 1) c τ (i + 1)) (gkN (τ.1 1) c τ κ (i + 1))) := ihi
      show G (2, [some (vR 0), some (vI c), some (vI (i : Int)), none], [], cW (gnN (τ.1 1) c τ i) (gkN (τ.1 1) c τ κ i))
      have zg := hg (i : Int)
      have hct := (gnN_HH (c := c) htu hg hH i).1 3 (τ.2.1 0 (i : Int))
      refine hR.run0 2 (S' := (5, [some (vR 0), some (vI c), some (vI (i : Int)), none], [vI 7, vI (i : Int)], cW (gnN (τ.1 1) c τ i) (gkN (τ.1 1) c τ κ i))) rfl ?_
      refine hR.br (C := 7 ≤ (i : Int)) rfl (by first | omega | (dsimp only; omega) | (simp [sHt, sH, sS, sAt, sA, sup]; done) | (simp [sHt, sH, sS, sAt, sA, sup]; omega)) (fun c1 => ?_) (fun c1 => ?_)
      · exfalso; omega
      refine hR.run0 3 (S' := (13, [some (vR 0), some (vI c), some (vI (i : Int)), none], [vI (i : Int), vR 1], cW (gnN (τ.1 1) c τ i) (gkN (τ.1 1) c τ κ i))) rfl ?_
      refine hR.cv [vI (i : Int)] kX5_336 rfl rfl ⟨_, _, _, rfl, rfl, rfl⟩ (by first | decide | exact Nat.le_refl _) (by decide) (Nat.le_of_ble_eq_true rfl) rfl (sp_goodOf _ _ (by omega)) ?_
      show G (16, [some (vR 0), some (vI c), some (vI (i : Int)), none], [vI ((gnN (τ.1 1) c τ i).2.1 0 (i : Int))], cW (gnN (τ.1 1) c τ i) (gkN (τ.1 1) c τ κ i))
      rw [show (gnN (τ.1 1) c τ i).2.1 0 (i : Int) = τ.2.1 0 (i : Int) from by rw [gnN_2]]
      refine hR.run0 3 (S' := (19, [some (vR 0), some (vI c), some (vI (i : Int)), some (vI (τ.2.1 0 (i : Int)))], [vI c, vI (i : Int)], cW (gnN (τ.1 1) c τ i) (gkN (τ.1 1) c τ κ i))) rfl ?_
      refine hR.cs [vI (i : Int), vI c] kX5_339 rfl rfl (by first | decide | exact Nat.le_refl _) (by decide) (Nat.le_of_ble_eq_true rfl) rfl (sp_isAround _ _ (by omega) (by omega)) ?_
      show G (22, [some (vR 0), some (vI c), some (vI (i : Int)), some (vI (τ.2.1 0 (i : Int)))], [vI (bI (arnd (i : Int) c))], cW (gnN (τ.1 1) c τ i) (gkN (τ.1 1) c τ κ i))
      refine hR.br (C := bI (arnd (i : Int) c) = 0) rfl (bI_r _) (fun c2 => ?_) (fun c2 => ?_)
      · replace c2 : (arnd (i : Int) c) = false := bI0 c2
        refine hR.run0 2 (S' := (2, [some (vR 0), some (vI c), some (vI ((i : Int) + 1)), some (vI (τ.2.1 0 (i : Int)))], [], cW (gnN (τ.1 1) c τ i) (gkN (τ.1 1) c τ κ i))) rfl ?_
        refine hR.fg 3 ?_
        show G (2, [some (vR 0), some (vI c), some (vI ((i : Int) + 1)), none], [], cW (gnN (τ.1 1) c τ i) (gkN (τ.1 1) c τ κ i))
        rw [show cW (gnN (τ.1 1) c τ (i + 1)) (gkN (τ.1 1) c τ κ (i + 1)) = cW (gnN (τ.1 1) c τ i) (gkN (τ.1 1) c τ κ i) from by show cW (gn1 (τ.1 1) c (i : Int) (gnN (τ.1 1) c τ i)) (if gnC (gnN (τ.1 1) c τ i) c (i : Int) = true then mvK (gkN (τ.1 1) c τ κ i) 3 (τ.1 1) ((gnN (τ.1 1) c τ i).2.1 0 (i : Int)) 1 else gkN (τ.1 1) c τ κ i) = _; unfold gn1; first | (have hz : gnC (gnN (τ.1 1) c τ i) c (i : Int) = false := (by unfold gnC; rw [gnN_2]; simp_all; done); rw [if_neg (by rw [hz]; decide), if_neg (by rw [hz]; decide)]; done) | (have hz : gnC (gnN (τ.1 1) c τ i) c (i : Int) = false := (by unfold gnC; rw [gnN_2]; simp; intros; omega); rw [if_neg (by rw [hz]; decide), if_neg (by rw [hz]; decide)]; done) | (have hz : gnC (gnN (τ.1 1) c τ i) c (i : Int) = true := (by unfold gnC; rw [gnN_2]; simp_all; done); rw [if_pos hz, if_pos hz, gnN_2])] at ihi
        exact ihi
      · replace c2 : (arnd (i : Int) c) = true := bI1 c2
        refine hR.run0 4 (S' := (31, [some (vR 0), some (vI c), some (vI (i : Int)), some (vI (τ.2.1 0 (i : Int)))], [vI (τ.2.1 0 (i : Int)), vI 3, vR 10], cW (gnN (τ.1 1) c τ i) (gkN (τ.1 1) c τ κ i))) rfl ?_
        by_cases h5 : τ.2.1 0 (i : Int) = 5
        · skip
          refine hR.cv [vI 3, vI (τ.2.1 0 (i : Int))] kX5_217 rfl rfl ⟨_, _, _, rfl, rfl, rfl⟩ (by first | decide | exact Nat.le_refl _) (by decide) (Nat.le_of_ble_eq_true rfl) rfl (sp_countD _ _ (by omega) (by omega)) ?_
          show G (34, [some (vR 0), some (vI c), some (vI (i : Int)), some (vI (τ.2.1 0 (i : Int)))], [vI 0], cW (gnN (τ.1 1) c τ i) (gkN (τ.1 1) c τ κ i))
          refine hR.br (C := 0 ≤ 0) rfl (by first | omega | (dsimp only; omega) | (simp [sHt, sH, sS, sAt, sA, sup]; done) | (simp [sHt, sH, sS, sAt, sA, sup]; omega)) (fun c3 => ?_) (fun c3 => ?_)
          · skip
            refine hR.run0 2 (S' := (2, [some (vR 0), some (vI c), some (vI ((i : Int) + 1)), some (vI (τ.2.1 0 (i : Int)))], [], cW (gnN (τ.1 1) c τ i) (gkN (τ.1 1) c τ κ i))) rfl ?_
            refine hR.fg 3 ?_
            show G (2, [some (vR 0), some (vI c), some (vI ((i : Int) + 1)), none], [], cW (gnN (τ.1 1) c τ i) (gkN (τ.1 1) c τ κ i))
            rw [show cW (gnN (τ.1 1) c τ (i + 1)) (gkN (τ.1 1) c τ κ (i + 1)) = cW (gnN (τ.1 1) c τ i) (gkN (τ.1 1) c τ κ i) from by show cW (gn1 (τ.1 1) c (i : Int) (gnN (τ.1 1) c τ i)) (if gnC (gnN (τ.1 1) c τ i) c (i : Int) = true then mvK (gkN (τ.1 1) c τ κ i) 3 (τ.1 1) ((gnN (τ.1 1) c τ i).2.1 0 (i : Int)) 1 else gkN (τ.1 1) c τ κ i) = _; unfold gn1; first | (have hz : gnC (gnN (τ.1 1) c τ i) c (i : Int) = false := (by unfold gnC; rw [gnN_2]; simp_all; done); rw [if_neg (by rw [hz]; decide), if_neg (by rw [hz]; decide)]; done) | (have hz : gnC (gnN (τ.1 1) c τ i) c (i : Int) = false := (by unfold gnC; rw [gnN_2]; simp; intros; omega); rw [if_neg (by rw [hz]; decide), if_neg (by rw [hz]; decide)]; done) | (have hz : gnC (gnN (τ.1 1) c τ i) c (i : Int) = true := (by unfold gnC; rw [gnN_2]; simp_all; done); rw [if_pos hz, if_pos hz, gnN_2])] at ihi
            exact ihi
          · exfalso; omega
        · skip
          refine hR.cv [vI 3, vI (τ.2.1 0 (i : Int))] kX5_217 rfl rfl ⟨_, _, _, rfl, rfl, rfl⟩ (by first | decide | exact Nat.le_refl _) (by decide) (Nat.le_of_ble_eq_true rfl) rfl (sp_count _ _ (by omega) (by omega)) ?_
          show G (34, [some (vR 0), some (vI c), some (vI (i : Int)), some (vI (τ.2.1 0 (i : Int)))], [vI ((gnN (τ.1 1) c τ i).2.2 0 3 (τ.2.1 0 (i : Int)))], cW (gnN (τ.1 1) c τ i) (gkN (τ.1 1) c τ κ i))
          refine hR.br (C := (gnN (τ.1 1) c τ i).2.2 0 3 (τ.2.1 0 (i : Int)) ≤ 0) rfl (by first | omega | (dsimp only; omega) | (simp [sHt, sH, sS, sAt, sA, sup]; done) | (simp [sHt, sH, sS, sAt, sA, sup]; omega)) (fun c4 => ?_) (fun c4 => ?_)
          · skip
            refine hR.run0 2 (S' := (2, [some (vR 0), some (vI c), some (vI ((i : Int) + 1)), some (vI (τ.2.1 0 (i : Int)))], [], cW (gnN (τ.1 1) c τ i) (gkN (τ.1 1) c τ κ i))) rfl ?_
            refine hR.fg 3 ?_
            show G (2, [some (vR 0), some (vI c), some (vI ((i : Int) + 1)), none], [], cW (gnN (τ.1 1) c τ i) (gkN (τ.1 1) c τ κ i))
            rw [show cW (gnN (τ.1 1) c τ (i + 1)) (gkN (τ.1 1) c τ κ (i + 1)) = cW (gnN (τ.1 1) c τ i) (gkN (τ.1 1) c τ κ i) from by show cW (gn1 (τ.1 1) c (i : Int) (gnN (τ.1 1) c τ i)) (if gnC (gnN (τ.1 1) c τ i) c (i : Int) = true then mvK (gkN (τ.1 1) c τ κ i) 3 (τ.1 1) ((gnN (τ.1 1) c τ i).2.1 0 (i : Int)) 1 else gkN (τ.1 1) c τ κ i) = _; unfold gn1; first | (have hz : gnC (gnN (τ.1 1) c τ i) c (i : Int) = false := (by unfold gnC; rw [gnN_2]; simp_all; done); rw [if_neg (by rw [hz]; decide), if_neg (by rw [hz]; decide)]; done) | (have hz : gnC (gnN (τ.1 1) c τ i) c (i : Int) = false := (by unfold gnC; rw [gnN_2]; simp; intros; omega); rw [if_neg (by rw [hz]; decide), if_neg (by rw [hz]; decide)]; done) | (have hz : gnC (gnN (τ.1 1) c τ i) c (i : Int) = true := (by unfold gnC; rw [gnN_2]; simp_all; done); rw [if_pos hz, if_pos hz, gnN_2])] at ihi
            exact ihi
          · skip
            refine hR.run0 7 (S' := (48, [some (vR 0), some (vI c), some (vI (i : Int)), some (vI (τ.2.1 0 (i : Int)))], [vI 1, vI (τ.2.1 0 (i : Int)), vI ((gnN (τ.1 1) c τ i).1 1), vI 3, vR 10], cW (gnN (τ.1 1) c τ i) (gkN (τ.1 1) c τ κ i))) rfl ?_
            rw [show (gnN (τ.1 1) c τ i).1 1 = τ.1 1 from by rw [gnN_s]]
            refine hR.cv [vI 3, vI (τ.1 1), vI (τ.2.1 0 (i : Int)), vI 1] kX5_221 rfl rfl ⟨_, _, _, rfl, rfl, rfl⟩ (by first | decide | exact Nat.le_refl _) (by decide) (Nat.le_of_ble_eq_true rfl) rfl (sp_move _ _ _ (by omega) (by omega) (by omega)) ?_
            show G (51, [some (vR 0), some (vI c), some (vI (i : Int)), some (vI (τ.2.1 0 (i : Int)))], [], cW (mvS (gnN (τ.1 1) c τ i) 3 (τ.1 1) (τ.2.1 0 (i : Int)) 1) (mvK (gkN (τ.1 1) c τ κ i) 3 (τ.1 1) (τ.2.1 0 (i : Int)) 1))
            refine hR.run0 2 (S' := (2, [some (vR 0), some (vI c), some (vI ((i : Int) + 1)), some (vI (τ.2.1 0 (i : Int)))], [], cW (mvS (gnN (τ.1 1) c τ i) 3 (τ.1 1) (τ.2.1 0 (i : Int)) 1) (mvK (gkN (τ.1 1) c τ κ i) 3 (τ.1 1) (τ.2.1 0 (i : Int)) 1))) rfl ?_
            refine hR.fg 3 ?_
            show G (2, [some (vR 0), some (vI c), some (vI ((i : Int) + 1)), none], [], cW (mvS (gnN (τ.1 1) c τ i) 3 (τ.1 1) (τ.2.1 0 (i : Int)) 1) (mvK (gkN (τ.1 1) c τ κ i) 3 (τ.1 1) (τ.2.1 0 (i : Int)) 1))
            rw [show cW (gnN (τ.1 1) c τ (i + 1)) (gkN (τ.1 1) c τ κ (i + 1)) = cW (mvS (gnN (τ.1 1) c τ i) 3 (τ.1 1) (τ.2.1 0 (i : Int)) 1) (mvK (gkN (τ.1 1) c τ κ i) 3 (τ.1 1) (τ.2.1 0 (i : Int)) 1) from by show cW (gn1 (τ.1 1) c (i : Int) (gnN (τ.1 1) c τ i)) (if gnC (gnN (τ.1 1) c τ i) c (i : Int) = true then mvK (gkN (τ.1 1) c τ κ i) 3 (τ.1 1) ((gnN (τ.1 1) c τ i).2.1 0 (i : Int)) 1 else gkN (τ.1 1) c τ κ i) = _; unfold gn1; first | (have hz : gnC (gnN (τ.1 1) c τ i) c (i : Int) = false := (by unfold gnC; rw [gnN_2]; simp_all; done); rw [if_neg (by rw [hz]; decide), if_neg (by rw [hz]; decide)]; done) | (have hz : gnC (gnN (τ.1 1) c τ i) c (i : Int) = false := (by unfold gnC; rw [gnN_2]; simp; intros; omega); rw [if_neg (by rw [hz]; decide), if_neg (by rw [hz]; decide)]; done) | (have hz : gnC (gnN (τ.1 1) c τ i) c (i : Int) = true := (by unfold gnC; rw [gnN_2]; simp_all; done); rw [if_pos hz, if_pos hz, gnN_2])] at ihi
            exact ihi
    · show G (2, [some (vR 0), some (vI c), some (vI ((7 : Nat) : Int)), none], [], cW (gnN (τ.1 1) c τ 7) (gkN (τ.1 1) c τ κ 7))
      show G (2, [some (vR 0), some (vI c), some (vI 7), none], [], cW (gnN (τ.1 1) c τ 7) (gkN (τ.1 1) c τ κ 7))
      refine hR.run0 2 (S' := (5, [some (vR 0), some (vI c), some (vI 7), none], [vI 7, vI 7], cW (gnN (τ.1 1) c τ 7) (gkN (τ.1 1) c τ κ 7))) rfl ?_
      refine hR.br (C := 7 ≤ 7) rfl (by first | omega | (dsimp only; omega) | (simp [sHt, sH, sS, sAt, sA, sup]; done) | (simp [sHt, sH, sS, sAt, sA, sup]; omega)) (fun c5 => ?_) (fun c5 => ?_)
      · skip
        exact hR.rt rfl trivial (by rfl) (by rfl)
      · exfalso; omega
  exact hL 0 (Nat.zero_le _)
