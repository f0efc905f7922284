set_option maxHeartbeats 16000000 in
theorem pX5_roll (τ κ : St) {a b : Int} (ha : -2147483648 ≤ a ∧ a ≤ 2147483647) (hb : -2147483648 ≤ b ∧ b ≤ 2147483647) (hI : Iv τ)  : Sp mX5_roll roC 5 [vR 0, vI a, vI b] (cW τ κ) (oc eAS (xRoll τ a b)) (cW (xRoll τ a b).2.2 (kRoll κ τ a b)) := by
  have hb := hI.hb
  have hr := hI.hr
  have hg := hI.hg
  have hn := hI.hn
  have h7 := hI.h7
  have hh := hI.hh
  have hsm := hI.hsm
  have hcd := hI.hcd
  have hfr := hI.hfr
  have hkn := hI.hkn
  have hbo := hI.hbo
  have hus := hI.hus
  have hro := hI.hro
  have har := hI.har
  have hth := hI.hth
  have hph := hI.hph
  have htu := hI.htu
  have hrb := hI.hrb
  have hpl := hI.hpl
  have hdu := hI.hdu
  have hdp := hI.hdp
  have hof := hI.hof
  have how := hI.how
  have hga := hI.hga
  have hwa := hI.hwa
  have hck := hI.hck
  have hkz := hI.hkz
  have hcb := hI.hcb
  have hfb := hI.hfb
  have hnr := hI.hnr
  have hpq := hI.hpq
  have hrc := hI.hrc
  have hbc := hI.hbc
  have hcc := hI.hcc
  have hac := hI.hac
  refine Sp.of (lk := lkX5) (tb := bX5_roll) (by decide) lkX5_ok tX5_roll (cW_keys _ _ _ _) (Nat.le_of_ble_eq_true rfl) (fun G hR => ?_)
  refine hR.run0 2 (S' := (2, [some (vR 0), some (vI a), some (vI b)], [vI 1, vI a], cW τ κ)) rfl ?_
  refine hR.br (C := a < 1) rfl (by first | omega | (dsimp only; omega) | (simp [sHt, sH, sS, sAt, sA, sup]; done) | (simp [sHt, sH, sS, sAt, sA, sup]; omega)) (fun c1 => ?_) (fun c1 => ?_)
  · skip
    have hx : xRoll τ a b = (1, 0, τ) := by unfold xRoll; (repeat' split) <;> first | rfl | (exfalso; omega) | (exfalso; simp_all; done) | (simp_all; done) | (exfalso; simp_all; omega)
    exact hR.th rfl rfl (Nat.le_of_ble_eq_true rfl) (by rw [hx]; rfl) (by unfold kRoll; rw [hx]; rfl)
  · skip
    refine hR.run0 2 (S' := (8, [some (vR 0), some (vI a), some (vI b)], [vI 6, vI a], cW τ κ)) rfl ?_
    refine hR.br (C := 6 < a) rfl (by first | omega | (dsimp only; omega) | (simp [sHt, sH, sS, sAt, sA, sup]; done) | (simp [sHt, sH, sS, sAt, sA, sup]; omega)) (fun c2 => ?_) (fun c2 => ?_)
    · skip
      have hx : xRoll τ a b = (1, 0, τ) := by unfold xRoll; (repeat' split) <;> first | rfl | (exfalso; omega) | (exfalso; simp_all; done) | (simp_all; done) | (exfalso; simp_all; omega)
      exact hR.th rfl rfl (Nat.le_of_ble_eq_true rfl) (by rw [hx]; rfl) (by unfold kRoll; rw [hx]; rfl)
    · skip
      refine hR.run0 2 (S' := (13, [some (vR 0), some (vI a), some (vI b)], [vI 1, vI b], cW τ κ)) rfl ?_
      refine hR.br (C := b < 1) rfl (by first | omega | (dsimp only; omega) | (simp [sHt, sH, sS, sAt, sA, sup]; done) | (simp [sHt, sH, sS, sAt, sA, sup]; omega)) (fun c3 => ?_) (fun c3 => ?_)
      · skip
        have hx : xRoll τ a b = (1, 0, τ) := by unfold xRoll; (repeat' split) <;> first | rfl | (exfalso; omega) | (exfalso; simp_all; done) | (simp_all; done) | (exfalso; simp_all; omega)
        exact hR.th rfl rfl (Nat.le_of_ble_eq_true rfl) (by rw [hx]; rfl) (by unfold kRoll; rw [hx]; rfl)
      · skip
        refine hR.run0 2 (S' := (19, [some (vR 0), some (vI a), some (vI b)], [vI 6, vI b], cW τ κ)) rfl ?_
        refine hR.br (C := b ≤ 6) rfl (by first | omega | (dsimp only; omega) | (simp [sHt, sH, sS, sAt, sA, sup]; done) | (simp [sHt, sH, sS, sAt, sA, sup]; omega)) (fun c4 => ?_) (fun c4 => ?_)
        · skip
          refine hR.run0 2 (S' := (34, [some (vR 0), some (vI a), some (vI b)], [vI 1, vR 0], cW τ κ)) rfl ?_
          by_cases q5 : τ.1 0 = 1
          · skip
            refine hR.cv [vI 1] kX5_95 rfl rfl ⟨_, _, _, rfl, rfl, rfl⟩ (by first | decide | exact Nat.le_refl _) (by decide) (Nat.le_of_ble_eq_true rfl) rfl (sp_rPhase_ok _ _ (by omega) hph q5) ?_
            show G (37, [some (vR 0), some (vI a), some (vI b)], [], cW τ κ)
            refine hR.run1 3 (S' := (42, [some (vR 0), some (vI a), some (vI b)], [], pset (cW τ κ) 0 (.inr (5, [vR 1, vR 10, vR 40, vR 50, vR 60, vR 70, vR 71, vI (τ.1 0), vI (τ.1 1), vI (τ.1 2), vI 1, vI (τ.1 4)])))) rfl (by first | omega | (dsimp only; omega) | (simp [sHt, sH, sS, sAt, sA, sup]; done) | (simp [sHt, sH, sS, sAt, sA, sup]; omega)) ?_
            rw [cW_s3]
            refine hR.run0 4 (S' := (47, [some (vR 0), some (vI a), some (vI b)], [vI 7, vI (a + b)], cW (sS τ 3 1) κ)) rfl ?_
            refine hR.br (C := a + b ≠ 7) rfl (by first | omega | (dsimp only; omega) | (simp [sHt, sH, sS, sAt, sA, sup]; done) | (simp [sHt, sH, sS, sAt, sA, sup]; omega)) (fun c6 => ?_) (fun c6 => ?_)
            · skip
              refine hR.run0 4 (S' := (61, [some (vR 0), some (vI a), some (vI b)], [vI (a + b), vR 0], cW (sS τ 3 1) κ)) rfl ?_
              refine hR.cv [vI (a + b)] kX5_146 rfl rfl ⟨_, _, _, rfl, rfl, rfl⟩ (by first | decide | exact Nat.le_refl _) (by decide) (Nat.le_of_ble_eq_true rfl) rfl (sp_yieldAll _ _ (by omega) (hI.roll (by omega))) ?_
              show G (64, [some (vR 0), some (vI a), some (vI b)], [], cW (yaS (sS τ 3 1) (a + b)) (yaK (sS τ 3 1) κ (a + b)))
              refine hR.run0 3 (S' := (69, [some (vR 0), some (vI a), some (vI b)], [], pset (cW (yaS (sS τ 3 1) (a + b)) (yaK (sS τ 3 1) κ (a + b))) 0 (.inr (5, [vR 1, vR 10, vR 40, vR 50, vR 60, vR 70, vR 71, vI 2, vI ((yaS (sS τ 3 1) (a + b)).1 1), vI ((yaS (sS τ 3 1) (a + b)).1 2), vI ((yaS (sS τ 3 1) (a + b)).1 3), vI ((yaS (sS τ 3 1) (a + b)).1 4)])))) rfl ?_
              rw [cW_s0]
              refine hR.run0 2 (S' := (73, [some (vR 0), some (vI a), some (vI b)], [vI 2], cW (sS (yaS (sS τ 3 1) (a + b)) 0 2) (yaK (sS τ 3 1) κ (a + b)))) rfl ?_
              have hx : xRoll τ a b = (0, 2, sS (yaS (sS τ 3 1) (a + b)) 0 2) := by unfold xRoll; rw [if_neg (by omega), if_neg (by omega)]; split <;> first | rfl | (exfalso; omega)
              exact hR.rt rfl trivial (by rw [hx]; rfl) (by rw [hx, show kRoll κ τ a b = yaK (sS τ 3 1) κ (a + b) from (by unfold kRoll; rw [hx]; exact if_pos ⟨rfl, by omega⟩)])
            · skip
              refine hR.run0 1 (S' := (51, [some (vR 0), some (vI a), some (vI b)], [vR 0], cW (sS τ 3 1) κ)) rfl ?_
              refine hR.cv [] kX5_143 rfl rfl ⟨_, _, _, rfl, rfl, rfl⟩ (by first | decide | exact Nat.le_refl _) (by decide) (Nat.le_of_ble_eq_true rfl) rfl (sp_demandDiscards _ _ hh hdu) ?_
              show G (54, [some (vR 0), some (vI a), some (vI b)], [], cW (demS (sS τ 3 1)) κ)
              refine hR.run0 3 (S' := (73, [some (vR 0), some (vI a), some (vI b)], [vI ((demS (sS τ 3 1)).1 0)], cW (demS (sS τ 3 1)) κ)) rfl ?_
              have hx : xRoll τ a b = (0, (demS (sS τ 3 1)).1 0, demS (sS τ 3 1)) := by unfold xRoll; rw [if_neg (by omega), if_neg (by omega)]; split <;> first | rfl | (exfalso; omega)
              exact hR.rt rfl trivial (by rw [hx]; rfl) (by rw [hx, show kRoll κ τ a b = κ from (by unfold kRoll; rw [hx]; exact if_neg (fun (hz : (0 : Int) = 0 ∧ a + b ≠ 7) => hz.2 (by omega)))])
          · skip
            have hx : xRoll τ a b = (2, 0, τ) := by unfold xRoll; (repeat' split) <;> first | rfl | (exfalso; omega) | (exfalso; simp_all; done) | (simp_all; done) | (exfalso; simp_all; omega)
            exact hR.cvx [vI 1] kX5_95 rfl rfl ⟨_, _, _, rfl, rfl, rfl⟩ (by decide) (by decide) (Nat.le_of_ble_eq_true rfl) rfl (sp_rPhase_x _ _ (by omega) hph q5) (by rw [hx]; rfl) (by unfold kRoll; rw [hx]; rfl)
        · skip
          have hx : xRoll τ a b = (1, 0, τ) := by unfold xRoll; (repeat' split) <;> first | rfl | (exfalso; omega) | (exfalso; simp_all; done) | (simp_all; done) | (exfalso; simp_all; omega)
          exact hR.th rfl rfl (Nat.le_of_ble_eq_true rfl) (by rw [hx]; rfl) (by unfold kRoll; rw [hx]; rfl)
