theorem sp_endW (τ κ : St) (w : Wi τ) : Sp mX5_endIfWon roC 3 [vR 0] (cW τ κ) (.inl none) (cW (winS τ) κ) := sp_endIfWon τ κ w.1 w.2.1 w.2.2.1 w.2.2.2.1 w.2.2.2.2.1 w.2.2.2.2.2
theorem pX5_layHex (τ κ : St) {h g n : Int} (hh0 : -2147483648 ≤ h ∧ h ≤ 2147483647) (hg0 : -2147483648 ≤ g ∧ g ≤ 2147483647) (hn0 : -2147483648 ≤ n ∧ n ≤ 2147483647) (hI : Iv τ)  : Sp mX5_layHex roC 2 [vR 0, vI h, vI g, vI n] (cW τ κ) (ocv eIAS (xLay τ h g n)) (cW (xLay τ h g n).2.2 κ) := by
  have hb := hI.hb
  have hr := hI.hr
  have hg := hI.hg
  have hn := hI.hn
  have h7 := hI.h7
  have hh := hI.hh
  have hsm := hI.hsm
  have hcd := hI.hcd
  have hfr := hI.hfr
  have hkn := hI.hkn
  have hbo := hI.hbo
  have hus := hI.hus
  have hro := hI.hro
  have har := hI.har
  have hth := hI.hth
  have hph := hI.hph
  have htu := hI.htu
  have hrb := hI.hrb
  have hpl := hI.hpl
  have hdu := hI.hdu
  have hdp := hI.hdp
  have hof := hI.hof
  have how := hI.how
  have hga := hI.hga
  have hwa := hI.hwa
  have hck := hI.hck
  have hkz := hI.hkz
  have hcb := hI.hcb
  have hfb := hI.hfb
  have hnr := hI.hnr
  have hpq := hI.hpq
  have hrc := hI.hrc
  have hbc := hI.hbc
  have hcc := hI.hcc
  have hac := hI.hac
  refine Sp.of (lk := lkX5) (tb := bX5_layHex) (by decide) lkX5_ok tX5_layHex (cW_keys _ _ _ _) (Nat.le_of_ble_eq_true rfl) (fun G hR => ?_)
  refine hR.run0 1 (S' := (1, [some (vR 0), some (vI h), some (vI g), some (vI n)], [vI h], cW τ κ)) rfl ?_
  by_cases q1 : 0 ≤ h ∧ h < 7
  · skip
    refine hR.cs [vI h] kX5_68 rfl rfl (by first | decide | exact Nat.le_refl _) (by decide) (Nat.le_of_ble_eq_true rfl) rfl (sp_rHex_ok _ (by omega) q1) ?_
    show G (4, [some (vR 0), some (vI h), some (vI g), some (vI n)], [], cW τ κ)
    refine hR.run0 1 (S' := (5, [some (vR 0), some (vI h), some (vI g), some (vI n)], [vI g], cW τ κ)) rfl ?_
    refine hR.br (C := g < 0) rfl (by first | omega | (dsimp only; omega) | (simp [sHt, sH, sS, sAt, sA, sup]; done) | (simp [sHt, sH, sS, sAt, sA, sup]; omega)) (fun c2 => ?_) (fun c2 => ?_)
    · skip
      have hx : xLay τ h g n = (2, 0, τ) := by unfold xLay; (repeat' split) <;> first | rfl | (exfalso; omega) | (exfalso; simp_all; done) | (simp_all; done) | (exfalso; simp_all; omega)
      exact hR.th rfl rfl (Nat.le_of_ble_eq_true rfl) (by rw [hx]; rfl) (by rw [hx])
    · skip
      refine hR.run0 2 (S' := (10, [some (vR 0), some (vI h), some (vI g), some (vI n)], [vI 5, vI g], cW τ κ)) rfl ?_
      refine hR.br (C := g ≤ 5) rfl (by first | omega | (dsimp only; omega) | (simp [sHt, sH, sS, sAt, sA, sup]; done) | (simp [sHt, sH, sS, sAt, sA, sup]; omega)) (fun c3 => ?_) (fun c3 => ?_)
      · skip
        refine hR.run0 2 (S' := (25, [some (vR 0), some (vI h), some (vI g), some (vI n)], [vI 2, vI n], cW τ κ)) rfl ?_
        refine hR.br (C := n < 2) rfl (by first | omega | (dsimp only; omega) | (simp [sHt, sH, sS, sAt, sA, sup]; done) | (simp [sHt, sH, sS, sAt, sA, sup]; omega)) (fun c4 => ?_) (fun c4 => ?_)
        · skip
          have hx : xLay τ h g n = (2, 0, τ) := by unfold xLay; (repeat' split) <;> first | rfl | (exfalso; omega) | (exfalso; simp_all; done) | (simp_all; done) | (exfalso; simp_all; omega)
          exact hR.th rfl rfl (Nat.le_of_ble_eq_true rfl) (by rw [hx]; rfl) (by rw [hx])
        · skip
          refine hR.run0 2 (S' := (31, [some (vR 0), some (vI h), some (vI g), some (vI n)], [vI 12, vI n], cW τ κ)) rfl ?_
          refine hR.br (C := 12 < n) rfl (by first | omega | (dsimp only; omega) | (simp [sHt, sH, sS, sAt, sA, sup]; done) | (simp [sHt, sH, sS, sAt, sA, sup]; omega)) (fun c5 => ?_) (fun c5 => ?_)
          · skip
            have hx : xLay τ h g n = (2, 0, τ) := by unfold xLay; (repeat' split) <;> first | rfl | (exfalso; omega) | (exfalso; simp_all; done) | (simp_all; done) | (exfalso; simp_all; omega)
            exact hR.th rfl rfl (Nat.le_of_ble_eq_true rfl) (by rw [hx]; rfl) (by rw [hx])
          · skip
            refine hR.run0 2 (S' := (37, [some (vR 0), some (vI h), some (vI g), some (vI n)], [vI 7, vI n], cW τ κ)) rfl ?_
            refine hR.br (C := n ≠ 7) rfl (by first | omega | (dsimp only; omega) | (simp [sHt, sH, sS, sAt, sA, sup]; done) | (simp [sHt, sH, sS, sAt, sA, sup]; omega)) (fun c6 => ?_) (fun c6 => ?_)
            · skip
              refine hR.run0 3 (S' := (47, [some (vR 0), some (vI h), some (vI g), some (vI n)], [vI 5, vI g, vI 0], cW τ κ)) rfl ?_
              refine hR.br (C := g ≠ 5) rfl (by first | omega | (dsimp only; omega) | (simp [sHt, sH, sS, sAt, sA, sup]; done) | (simp [sHt, sH, sS, sAt, sA, sup]; omega)) (fun c7 => ?_) (fun c7 => ?_)
              · skip
                refine hR.run0 1 (S' := (55, [some (vR 0), some (vI h), some (vI g), some (vI n)], [vI 0, vI 0], cW τ κ)) rfl ?_
                refine hR.br (C := 0 = 0) rfl (by first | omega | (dsimp only; omega) | (simp [sHt, sH, sS, sAt, sA, sup]; done) | (simp [sHt, sH, sS, sAt, sA, sup]; omega)) (fun c8 => ?_) (fun c8 => ?_)
                · skip
                  refine hR.run0 2 (S' := (72, [some (vR 0), some (vI h), some (vI g), some (vI n)], [vI (τ.1 2)], cW τ κ)) rfl ?_
                  refine hR.br (C := τ.1 2 ≠ 0) rfl (by first | omega | (dsimp only; omega) | (simp [sHt, sH, sS, sAt, sA, sup]; done) | (simp [sHt, sH, sS, sAt, sA, sup]; omega)) (fun c9 => ?_) (fun c9 => ?_)
                  · skip
                    refine hR.run0 1 (S' := (80, [some (vR 0), some (vI h), some (vI g), some (vI n)], [vI 0], cW τ κ)) rfl ?_
                    have hx : xLay τ h g n = (3, 0, τ) := by unfold xLay; (repeat' split) <;> first | rfl | (exfalso; omega) | (exfalso; simp_all; done) | (simp_all; done) | (exfalso; simp_all; omega)
                    exact hR.csx [vI 0] kX5_81 rfl rfl (by decide) (by decide) (Nat.le_of_ble_eq_true rfl) rfl (sp_rSo_x _ (Or.inl rfl) (by decide)) (by rw [hx]; rfl) (by rw [hx])
                  · skip
                    refine hR.run0 2 (S' := (80, [some (vR 0), some (vI h), some (vI g), some (vI n)], [vI 1], cW τ κ)) rfl ?_
                    refine hR.cs [vI 1] kX5_81 rfl rfl (by first | decide | exact Nat.le_refl _) (by decide) (Nat.le_of_ble_eq_true rfl) rfl (sp_rSo_ok _ (Or.inr rfl) rfl) ?_
                    show G (83, [some (vR 0), some (vI h), some (vI g), some (vI n)], [], cW τ κ)
                    refine hR.run0 5 (S' := (90, [some (vR 0), some (vI h), some (vI g), some (vI n)], [vI n, vI g, vI h, vR 1], cW τ κ)) rfl ?_
                    refine hR.cv [vI h, vI g, vI n] kX5_85 rfl rfl ⟨_, _, _, rfl, rfl, rfl⟩ (by first | decide | exact Nat.le_refl _) (by decide) (Nat.le_of_ble_eq_true rfl) rfl (sp_changeHex _ _ _ _ (by omega)) ?_
                    show G (93, [some (vR 0), some (vI h), some (vI g), some (vI n)], [], cW (sAt (sAt τ 0 h g) 1 h n) κ)
                    have hx : xLay τ h g n = (0, 0, sAt (sAt τ 0 h g) 1 h n) := by unfold xLay; (repeat' split) <;> first | rfl | (exfalso; omega) | (exfalso; simp_all; done) | (simp_all; done) | (exfalso; simp_all; omega)
                    exact hR.rt rfl trivial (by rw [hx]; rfl) (by rw [hx])
                · exfalso; omega
              · skip
                refine hR.run0 2 (S' := (55, [some (vR 0), some (vI h), some (vI g), some (vI n)], [vI 1, vI 0], cW τ κ)) rfl ?_
                refine hR.br (C := 0 = 1) rfl (by first | omega | (dsimp only; omega) | (simp [sHt, sH, sS, sAt, sA, sup]; done) | (simp [sHt, sH, sS, sAt, sA, sup]; omega)) (fun c10 => ?_) (fun c10 => ?_)
                · exfalso; omega
                have hx : xLay τ h g n = (2, 0, τ) := by unfold xLay; (repeat' split) <;> first | rfl | (exfalso; omega) | (exfalso; simp_all; done) | (simp_all; done) | (exfalso; simp_all; omega)
                exact hR.th rfl rfl (Nat.le_of_ble_eq_true rfl) (by rw [hx]; rfl) (by rw [hx])
            · skip
              refine hR.run0 4 (S' := (47, [some (vR 0), some (vI h), some (vI g), some (vI n)], [vI 5, vI g, vI 1], cW τ κ)) rfl ?_
              refine hR.br (C := g ≠ 5) rfl (by first | omega | (dsimp only; omega) | (simp [sHt, sH, sS, sAt, sA, sup]; done) | (simp [sHt, sH, sS, sAt, sA, sup]; omega)) (fun c11 => ?_) (fun c11 => ?_)
              · skip
                refine hR.run0 1 (S' := (55, [some (vR 0), some (vI h), some (vI g), some (vI n)], [vI 0, vI 1], cW τ κ)) rfl ?_
                refine hR.br (C := 1 = 0) rfl (by first | omega | (dsimp only; omega) | (simp [sHt, sH, sS, sAt, sA, sup]; done) | (simp [sHt, sH, sS, sAt, sA, sup]; omega)) (fun c12 => ?_) (fun c12 => ?_)
                · exfalso; omega
                have hx : xLay τ h g n = (2, 0, τ) := by unfold xLay; (repeat' split) <;> first | rfl | (exfalso; omega) | (exfalso; simp_all; done) | (simp_all; done) | (exfalso; simp_all; omega)
                exact hR.th rfl rfl (Nat.le_of_ble_eq_true rfl) (by rw [hx]; rfl) (by rw [hx])
              · skip
                refine hR.run0 2 (S' := (55, [some (vR 0), some (vI h), some (vI g), some (vI n)], [vI 1, vI 1], cW τ κ)) rfl ?_
                refine hR.br (C := 1 = 1) rfl (by first | omega | (dsimp only; omega) | (simp [sHt, sH, sS, sAt, sA, sup]; done) | (simp [sHt, sH, sS, sAt, sA, sup]; omega)) (fun c13 => ?_) (fun c13 => ?_)
                · skip
                  refine hR.run0 2 (S' := (72, [some (vR 0), some (vI h), some (vI g), some (vI n)], [vI (τ.1 2)], cW τ κ)) rfl ?_
                  refine hR.br (C := τ.1 2 ≠ 0) rfl (by first | omega | (dsimp only; omega) | (simp [sHt, sH, sS, sAt, sA, sup]; done) | (simp [sHt, sH, sS, sAt, sA, sup]; omega)) (fun c14 => ?_) (fun c14 => ?_)
                  · skip
                    refine hR.run0 1 (S' := (80, [some (vR 0), some (vI h), some (vI g), some (vI n)], [vI 0], cW τ κ)) rfl ?_
                    have hx : xLay τ h g n = (3, 0, τ) := by unfold xLay; (repeat' split) <;> first | rfl | (exfalso; omega) | (exfalso; simp_all; done) | (simp_all; done) | (exfalso; simp_all; omega)
                    exact hR.csx [vI 0] kX5_81 rfl rfl (by decide) (by decide) (Nat.le_of_ble_eq_true rfl) rfl (sp_rSo_x _ (Or.inl rfl) (by decide)) (by rw [hx]; rfl) (by rw [hx])
                  · skip
                    refine hR.run0 2 (S' := (80, [some (vR 0), some (vI h), some (vI g), some (vI n)], [vI 1], cW τ κ)) rfl ?_
                    refine hR.cs [vI 1] kX5_81 rfl rfl (by first | decide | exact Nat.le_refl _) (by decide) (Nat.le_of_ble_eq_true rfl) rfl (sp_rSo_ok _ (Or.inr rfl) rfl) ?_
                    show G (83, [some (vR 0), some (vI h), some (vI g), some (vI n)], [], cW τ κ)
                    refine hR.run0 5 (S' := (90, [some (vR 0), some (vI h), some (vI g), some (vI n)], [vI n, vI g, vI h, vR 1], cW τ κ)) rfl ?_
                    refine hR.cv [vI h, vI g, vI n] kX5_85 rfl rfl ⟨_, _, _, rfl, rfl, rfl⟩ (by first | decide | exact Nat.le_refl _) (by decide) (Nat.le_of_ble_eq_true rfl) rfl (sp_changeHex _ _ _ _ (by omega)) ?_
                    show G (93, [some (vR 0), some (vI h), some (vI g), some (vI n)], [], cW (sAt (sAt τ 0 h g) 1 h n) κ)
                    have hx : xLay τ h g n = (0, 0, sAt (sAt τ 0 h g) 1 h n) := by unfold xLay; (repeat' split) <;> first | rfl | (exfalso; omega) | (exfalso; simp_all; done) | (simp_all; done) | (exfalso; simp_all; omega)
                    exact hR.rt rfl trivial (by rw [hx]; rfl) (by rw [hx])
                · exfalso; omega
      · skip
        have hx : xLay τ h g n = (2, 0, τ) := by unfold xLay; (repeat' split) <;> first | rfl | (exfalso; omega) | (exfalso; simp_all; done) | (simp_all; done) | (exfalso; simp_all; omega)
        exact hR.th rfl rfl (Nat.le_of_ble_eq_true rfl) (by rw [hx]; rfl) (by rw [hx])
  · skip
    have hx : xLay τ h g n = (1, 0, τ) := by unfold xLay; (repeat' split) <;> first | rfl | (exfalso; omega) | (exfalso; simp_all; done) | (simp_all; done) | (exfalso; simp_all; omega)
    exact hR.csx [vI h] kX5_68 rfl rfl (by decide) (by decide) (Nat.le_of_ble_eq_true rfl) rfl (sp_rHex_x _ (by omega) q1) (by rw [hx]; rfl) (by rw [hx])
theorem pX5_deal (τ κ : St) {p n : Int} (hp : -2147483648 ≤ p ∧ p ≤ 2147483647) (hn0 : -2147483648 ≤ n ∧ n ≤ 2147483647) (hI : Iv τ)  : Sp mX5_deal roC 4 [vR 0, vI p, vI n] (cW τ κ) (oc eIAS (xDeal τ p n)) (cW (xDeal τ p n).2.2 (kDeal κ τ p n)) := by
  have hb := hI.hb
  have hr := hI.hr
  have hg := hI.hg
  have hn := hI.hn
  have h7 := hI.h7
  have hh := hI.hh
  have hsm := hI.hsm
  have hcd := hI.hcd
  have hfr := hI.hfr
  have hkn := hI.hkn
  have hbo := hI.hbo
  have hus := hI.hus
  have hro := hI.hro
  have har := hI.har
  have hth := hI.hth
  have hph := hI.hph
  have htu := hI.htu
  have hrb := hI.hrb
  have hpl := hI.hpl
  have hdu := hI.hdu
  have hdp := hI.hdp
  have hof := hI.hof
  have how := hI.how
  have hga := hI.hga
  have hwa := hI.hwa
  have hck := hI.hck
  have hkz := hI.hkz
  have hcb := hI.hcb
  have hfb := hI.hfb
  have hnr := hI.hnr
  have hpq := hI.hpq
  have hrc := hI.hrc
  have hbc := hI.hbc
  have hcc := hI.hcc
  have hac := hI.hac
  refine Sp.of (lk := lkX5) (tb := bX5_deal) (by decide) lkX5_ok tX5_deal (cW_keys _ _ _ _) (Nat.le_of_ble_eq_true rfl) (fun G hR => ?_)
  refine hR.run0 1 (S' := (1, [some (vR 0), some (vI p), some (vI n)], [vI p], cW τ κ)) rfl ?_
  by_cases q1 : 0 ≤ p ∧ p < 3
  · skip
    refine hR.cs [vI p] kX5_126 rfl rfl (by first | decide | exact Nat.le_refl _) (by decide) (Nat.le_of_ble_eq_true rfl) rfl (sp_rPlayer_ok _ (by omega) q1) ?_
    show G (4, [some (vR 0), some (vI p), some (vI n)], [], cW τ κ)
    refine hR.run0 1 (S' := (5, [some (vR 0), some (vI p), some (vI n)], [vI n], cW τ κ)) rfl ?_
    by_cases q2 : 0 ≤ n ∧ n ≤ 99999
    · skip
      refine hR.cs [vI n] kX5_129 rfl rfl (by first | decide | exact Nat.le_refl _) (by decide) (Nat.le_of_ble_eq_true rfl) rfl (sp_rGoods_ok _ (by omega) q2) ?_
      show G (8, [some (vR 0), some (vI p), some (vI n)], [], cW τ κ)
      refine hR.run0 2 (S' := (12, [some (vR 0), some (vI p), some (vI n)], [vI (τ.1 3)], cW τ κ)) rfl ?_
      refine hR.br (C := τ.1 3 ≠ 0) rfl (by first | omega | (dsimp only; omega) | (simp [sHt, sH, sS, sAt, sA, sup]; done) | (simp [sHt, sH, sS, sAt, sA, sup]; omega)) (fun c3 => ?_) (fun c3 => ?_)
      · skip
        refine hR.run0 1 (S' := (20, [some (vR 0), some (vI p), some (vI n)], [vI 0], cW τ κ)) rfl ?_
        have hx : xDeal τ p n = (3, 0, τ) := by unfold xDeal; (repeat' split) <;> first | rfl | (exfalso; omega) | (exfalso; simp_all; done) | (simp_all; done) | (exfalso; simp_all; omega)
        exact hR.csx [vI 0] kX5_81 rfl rfl (by decide) (by decide) (Nat.le_of_ble_eq_true rfl) rfl (sp_rSo_x _ (Or.inl rfl) (by decide)) (by rw [hx]; rfl) (by unfold kDeal; rw [hx]; rfl)
      · skip
        refine hR.run0 2 (S' := (20, [some (vR 0), some (vI p), some (vI n)], [vI 1], cW τ κ)) rfl ?_
        refine hR.cs [vI 1] kX5_81 rfl rfl (by first | decide | exact Nat.le_refl _) (by decide) (Nat.le_of_ble_eq_true rfl) rfl (sp_rSo_ok _ (Or.inr rfl) rfl) ?_
        show G (23, [some (vR 0), some (vI p), some (vI n)], [], cW τ κ)
        refine hR.run0 3 (S' := (26, [some (vR 0), some (vI p), some (vI n)], [vI n, vI 3, vR 0], cW τ κ)) rfl ?_
        by_cases q4 : hasG (τ.2.2 0) 3 n = true
        · skip
          refine hR.cv [vI 3, vI n] kX5_132 rfl rfl ⟨_, _, _, rfl, rfl, rfl⟩ (by first | decide | exact Nat.le_refl _) (by decide) (Nat.le_of_ble_eq_true rfl) rfl (sp_rHas_ok _ _ (by omega) (by omega) hh q4) ?_
          show G (29, [some (vR 0), some (vI p), some (vI n)], [], cW τ κ)
          refine hR.run0 5 (S' := (36, [some (vR 0), some (vI p), some (vI n)], [vI n, vI p, vI 3, vR 10], cW τ κ)) rfl ?_
          refine hR.cv [vI 3, vI p, vI n] kX5_135 rfl rfl ⟨_, _, _, rfl, rfl, rfl⟩ (by first | decide | exact Nat.le_refl _) (by decide) (Nat.le_of_ble_eq_true rfl) rfl (sp_moveAll _ _ (by omega) (by omega) (by omega)) ?_
          show G (39, [some (vR 0), some (vI p), some (vI n)], [], cW (mvA τ 3 p n) (mvAK κ 3 p n))
          refine hR.run0 3 (S' := (44, [some (vR 0), some (vI p), some (vI n)], [vI p, vR 10], cW (mvA τ 3 p n) (mvAK κ 3 p n))) rfl ?_
          refine hR.cv [vI p] kX5_138 rfl rfl ⟨_, _, _, rfl, rfl, rfl⟩ (by first | decide | exact Nat.le_refl _) (by decide) (Nat.le_of_ble_eq_true rfl) rfl (sp_total _ _ (by omega) (HH_mvA hI.hH (by omega) (by omega) (by assumption)).1) ?_
          show G (47, [some (vR 0), some (vI p), some (vI n)], [vI (tot ((mvA τ 3 p n).2.2 0) p)], cW (mvA τ 3 p n) (mvAK κ 3 p n))
          have hx : xDeal τ p n = (0, tot ((mvA τ 3 p n).2.2 0) p, mvA τ 3 p n) := by unfold xDeal; (repeat' split) <;> first | rfl | (exfalso; omega) | (exfalso; simp_all; done) | (simp_all; done) | (exfalso; simp_all; omega)
          exact hR.rt rfl trivial (by rw [hx]; rfl) (by unfold kDeal; rw [hx]; rfl)
        · skip
          have hx : xDeal τ p n = (3, 0, τ) := by unfold xDeal; (repeat' split) <;> first | rfl | (exfalso; omega) | (exfalso; simp_all; done) | (simp_all; done) | (exfalso; simp_all; omega)
          exact hR.cvx [vI 3, vI n] kX5_132 rfl rfl ⟨_, _, _, rfl, rfl, rfl⟩ (by decide) (by decide) (Nat.le_of_ble_eq_true rfl) rfl (sp_rHas_x _ _ (by omega) (by omega) hh q4) (by rw [hx]; rfl) (by unfold kDeal; rw [hx]; rfl)
    · skip
      have hx : xDeal τ p n = (2, 0, τ) := by unfold xDeal; (repeat' split) <;> first | rfl | (exfalso; omega) | (exfalso; simp_all; done) | (simp_all; done) | (exfalso; simp_all; omega)
      exact hR.csx [vI n] kX5_129 rfl rfl (by decide) (by decide) (Nat.le_of_ble_eq_true rfl) rfl (sp_rGoods_x _ (by omega) q2) (by rw [hx]; rfl) (by unfold kDeal; rw [hx]; rfl)
  · skip
    have hx : xDeal τ p n = (1, 0, τ) := by unfold xDeal; (repeat' split) <;> first | rfl | (exfalso; omega) | (exfalso; simp_all; done) | (simp_all; done) | (exfalso; simp_all; omega)
    exact hR.csx [vI p] kX5_126 rfl rfl (by decide) (by decide) (Nat.le_of_ble_eq_true rfl) rfl (sp_rPlayer_x _ (by omega) q1) (by rw [hx]; rfl) (by unfold kDeal; rw [hx]; rfl)
theorem pX5_discard (τ κ : St) {p n : Int} (hp : -2147483648 ≤ p ∧ p ≤ 2147483647) (hn0 : -2147483648 ≤ n ∧ n ≤ 2147483647) (hI : Iv τ)  : Sp mX5_discard roC 4 [vR 0, vI p, vI n] (cW τ κ) (oc eIAS (xDisc τ p n)) (cW (xDisc τ p n).2.2 (kDisc κ τ p n)) := by
  have hb := hI.hb
  have hr := hI.hr
  have hg := hI.hg
  have hn := hI.hn
  have h7 := hI.h7
  have hh := hI.hh
  have hsm := hI.hsm
  have hcd := hI.hcd
  have hfr := hI.hfr
  have hkn := hI.hkn
  have hbo := hI.hbo
  have hus := hI.hus
  have hro := hI.hro
  have har := hI.har
  have hth := hI.hth
  have hph := hI.hph
  have htu := hI.htu
  have hrb := hI.hrb
  have hpl := hI.hpl
  have hdu := hI.hdu
  have hdp := hI.hdp
  have hof := hI.hof
  have how := hI.how
  have hga := hI.hga
  have hwa := hI.hwa
  have hck := hI.hck
  have hkz := hI.hkz
  have hcb := hI.hcb
  have hfb := hI.hfb
  have hnr := hI.hnr
  have hpq := hI.hpq
  have hrc := hI.hrc
  have hbc := hI.hbc
  have hcc := hI.hcc
  have hac := hI.hac
  refine Sp.of (lk := lkX5) (tb := bX5_discard) (by decide) lkX5_ok tX5_discard (cW_keys _ _ _ _) (Nat.le_of_ble_eq_true rfl) (fun G hR => ?_)
  refine hR.run0 1 (S' := (1, [some (vR 0), some (vI p), some (vI n), none], [vI p], cW τ κ)) rfl ?_
  by_cases q1 : 0 ≤ p ∧ p < 3
  · skip
    refine hR.cs [vI p] kX5_126 rfl rfl (by first | decide | exact Nat.le_refl _) (by decide) (Nat.le_of_ble_eq_true rfl) rfl (sp_rPlayer_ok _ (by omega) q1) ?_
    show G (4, [some (vR 0), some (vI p), some (vI n), none], [], cW τ κ)
    refine hR.run0 1 (S' := (5, [some (vR 0), some (vI p), some (vI n), none], [vI n], cW τ κ)) rfl ?_
    by_cases q2 : 0 ≤ n ∧ n ≤ 99999
    · skip
      refine hR.cs [vI n] kX5_129 rfl rfl (by first | decide | exact Nat.le_refl _) (by decide) (Nat.le_of_ble_eq_true rfl) rfl (sp_rGoods_ok _ (by omega) q2) ?_
      show G (8, [some (vR 0), some (vI p), some (vI n), none], [], cW τ κ)
      refine hR.run0 2 (S' := (10, [some (vR 0), some (vI p), some (vI n), none], [vI p, vR 0], cW τ κ)) rfl ?_
      have f1 := hdu p
      refine hR.cv [vI p] kX5_149 rfl rfl ⟨_, _, _, rfl, rfl, rfl⟩ (by first | decide | exact Nat.le_refl _) (by decide) (Nat.le_of_ble_eq_true rfl) rfl (sp_dueFrom _ _ (by omega)) ?_
      show G (13, [some (vR 0), some (vI p), some (vI n), none], [vI (τ.2.1 4 p)], cW τ κ)
      refine hR.run0 2 (S' := (15, [some (vR 0), some (vI p), some (vI n), some (vI (τ.2.1 4 p))], [vI (τ.2.1 4 p)], cW τ κ)) rfl ?_
      refine hR.br (C := τ.2.1 4 p ≤ 0) rfl (by first | omega | (dsimp only; omega) | (simp [sHt, sH, sS, sAt, sA, sup]; done) | (simp [sHt, sH, sS, sAt, sA, sup]; omega)) (fun c3 => ?_) (fun c3 => ?_)
      · skip
        refine hR.run0 1 (S' := (23, [some (vR 0), some (vI p), some (vI n), some (vI (τ.2.1 4 p))], [vI 0], cW τ κ)) rfl ?_
        have hx : xDisc τ p n = (3, 0, τ) := by unfold xDisc phD disS; (repeat' split) <;> first | rfl | (exfalso; omega) | (exfalso; simp_all; done) | (simp_all [disS]; done) | (exfalso; simp_all; omega)
        exact hR.csx [vI 0] kX5_81 rfl rfl (by decide) (by decide) (Nat.le_of_ble_eq_true rfl) rfl (sp_rSo_x _ (Or.inl rfl) (by decide)) (by rw [hx]; rfl) (by unfold kDisc; rw [hx]; rfl)
      · skip
        refine hR.run0 2 (S' := (23, [some (vR 0), some (vI p), some (vI n), some (vI (τ.2.1 4 p))], [vI 1], cW τ κ)) rfl ?_
        refine hR.cs [vI 1] kX5_81 rfl rfl (by first | decide | exact Nat.le_refl _) (by decide) (Nat.le_of_ble_eq_true rfl) rfl (sp_rSo_ok _ (Or.inr rfl) rfl) ?_
        show G (26, [some (vR 0), some (vI p), some (vI n), some (vI (τ.2.1 4 p))], [], cW τ κ)
        refine hR.run0 1 (S' := (27, [some (vR 0), some (vI p), some (vI n), some (vI (τ.2.1 4 p))], [vI n], cW τ κ)) rfl ?_
        have f2 := szG_r n
        refine hR.cs [vI n] kX5_152 rfl rfl (by first | decide | exact Nat.le_refl _) (by decide) (Nat.le_of_ble_eq_true rfl) rfl (sp_size _ _ (by omega)) ?_
        show G (30, [some (vR 0), some (vI p), some (vI n), some (vI (τ.2.1 4 p))], [vI (szG n)], cW τ κ)
        refine hR.run0 1 (S' := (31, [some (vR 0), some (vI p), some (vI n), some (vI (τ.2.1 4 p))], [vI (τ.2.1 4 p), vI (szG n)], cW τ κ)) rfl ?_
        refine hR.br (C := szG n ≠ τ.2.1 4 p) rfl (by first | omega | (dsimp only; omega) | (simp [sHt, sH, sS, sAt, sA, sup]; done) | (simp [sHt, sH, sS, sAt, sA, sup]; omega)) (fun c4 => ?_) (fun c4 => ?_)
        · skip
          refine hR.run0 1 (S' := (39, [some (vR 0), some (vI p), some (vI n), some (vI (τ.2.1 4 p))], [vI 0], cW τ κ)) rfl ?_
          have hx : xDisc τ p n = (3, 0, τ) := by unfold xDisc phD disS; (repeat' split) <;> first | rfl | (exfalso; omega) | (exfalso; simp_all; done) | (simp_all [disS]; done) | (exfalso; simp_all; omega)
          exact hR.csx [vI 0] kX5_81 rfl rfl (by decide) (by decide) (Nat.le_of_ble_eq_true rfl) rfl (sp_rSo_x _ (Or.inl rfl) (by decide)) (by rw [hx]; rfl) (by unfold kDisc; rw [hx]; rfl)
        · skip
          refine hR.run0 2 (S' := (39, [some (vR 0), some (vI p), some (vI n), some (vI (τ.2.1 4 p))], [vI 1], cW τ κ)) rfl ?_
          refine hR.cs [vI 1] kX5_81 rfl rfl (by first | decide | exact Nat.le_refl _) (by decide) (Nat.le_of_ble_eq_true rfl) rfl (sp_rSo_ok _ (Or.inr rfl) rfl) ?_
          show G (42, [some (vR 0), some (vI p), some (vI n), some (vI (τ.2.1 4 p))], [], cW τ κ)
          refine hR.run0 3 (S' := (45, [some (vR 0), some (vI p), some (vI n), some (vI (τ.2.1 4 p))], [vI n, vI p, vR 0], cW τ κ)) rfl ?_
          by_cases q5 : hasG (τ.2.2 0) p n = true
          · skip
            refine hR.cv [vI p, vI n] kX5_132 rfl rfl ⟨_, _, _, rfl, rfl, rfl⟩ (by first | decide | exact Nat.le_refl _) (by decide) (Nat.le_of_ble_eq_true rfl) rfl (sp_rHas_ok _ _ (by omega) (by omega) hh q5) ?_
            show G (48, [some (vR 0), some (vI p), some (vI n), some (vI (τ.2.1 4 p))], [], cW τ κ)
            refine hR.run0 5 (S' := (55, [some (vR 0), some (vI p), some (vI n), some (vI (τ.2.1 4 p))], [vI n, vI 3, vI p, vR 10], cW τ κ)) rfl ?_
            refine hR.cv [vI p, vI 3, vI n] kX5_135 rfl rfl ⟨_, _, _, rfl, rfl, rfl⟩ (by first | decide | exact Nat.le_refl _) (by decide) (Nat.le_of_ble_eq_true rfl) rfl (sp_moveAll _ _ (by omega) (by omega) (by omega)) ?_
            show G (58, [some (vR 0), some (vI p), some (vI n), some (vI (τ.2.1 4 p))], [], cW (mvA τ p 3 n) (mvAK κ p 3 n))
            refine hR.run0 3 (S' := (61, [some (vR 0), some (vI p), some (vI n), some (vI (τ.2.1 4 p))], [vI 0, vI p, vR 0], cW (mvA τ p 3 n) (mvAK κ p 3 n))) rfl ?_
            refine hR.cv [vI p, vI 0] kX5_155 rfl rfl ⟨_, _, _, rfl, rfl, rfl⟩ (by first | decide | exact Nat.le_refl _) (by decide) (Nat.le_of_ble_eq_true rfl) rfl (sp_setDue _ _ _ (by omega)) ?_
            show G (64, [some (vR 0), some (vI p), some (vI n), some (vI (τ.2.1 4 p))], [], cW (sAt (mvA τ p 3 n) 4 p 0) (mvAK κ p 3 n))
            refine hR.run0 2 (S' := (66, [some (vR 0), some (vI p), some (vI n), some (vI (τ.2.1 4 p))], [vR 0, vR 0], cW (sAt (mvA τ p 3 n) 4 p 0) (mvAK κ p 3 n))) rfl ?_
            refine hR.cv [] kX5_158 rfl rfl ⟨_, _, _, rfl, rfl, rfl⟩ (by first | decide | exact Nat.le_refl _) (by decide) (Nat.le_of_ble_eq_true rfl) rfl (sp_isAnyDue _ _ (by first | exact hdu | exact pup_b hdu (by omega))) ?_
            show G (69, [some (vR 0), some (vI p), some (vI n), some (vI (τ.2.1 4 p))], [vI (bI (anyDue ((sAt (mvA τ p 3 n) 4 p 0).2.1 4))), vR 0], cW (sAt (mvA τ p 3 n) 4 p 0) (mvAK κ p 3 n))
            refine hR.br (C := bI (anyDue ((sAt (mvA τ p 3 n) 4 p 0).2.1 4)) = 0) rfl (bI_r _) (fun c6 => ?_) (fun c6 => ?_)
            · replace c6 : (anyDue ((sAt (mvA τ p 3 n) 4 p 0).2.1 4)) = false := bI0 c6
              try simp only [Bool.and_eq_true, Bool.or_eq_true, Bool.and_eq_false_iff, Bool.or_eq_false_iff, decide_eq_true_eq, decide_eq_false_iff_not] at c6
              refine hR.run0 2 (S' := (80, [some (vR 0), some (vI p), some (vI n), some (vI (τ.2.1 4 p))], [], pset (cW (sAt (mvA τ p 3 n) 4 p 0) (mvAK κ p 3 n)) 0 (.inr (5, [vR 1, vR 10, vR 40, vR 50, vR 60, vR 70, vR 71, vI 4, vI ((sAt (mvA τ p 3 n) 4 p 0).1 1), vI ((sAt (mvA τ p 3 n) 4 p 0).1 2), vI ((sAt (mvA τ p 3 n) 4 p 0).1 3), vI ((sAt (mvA τ p 3 n) 4 p 0).1 4)])))) rfl ?_
              rw [cW_s0]
              refine hR.run0 2 (S' := (84, [some (vR 0), some (vI p), some (vI n), some (vI (τ.2.1 4 p))], [vI 4], cW (sS (sAt (mvA τ p 3 n) 4 p 0) 0 4) (mvAK κ p 3 n))) rfl ?_
              have hx : xDisc τ p n = (0, 4, sS (sAt (mvA τ p 3 n) 4 p 0) 0 4) := by unfold xDisc phD disS; (repeat' split) <;> first | rfl | (exfalso; omega) | (exfalso; simp_all; done) | (simp_all [disS]; done) | (exfalso; simp_all; omega)
              exact hR.rt rfl trivial (by rw [hx]; rfl) (by unfold kDisc; rw [hx]; rfl)
            · replace c6 : (anyDue ((sAt (mvA τ p 3 n) 4 p 0).2.1 4)) = true := bI1 c6
              try simp only [Bool.and_eq_true, Bool.or_eq_true, Bool.and_eq_false_iff, Bool.or_eq_false_iff, decide_eq_true_eq, decide_eq_false_iff_not] at c6
              refine hR.run0 3 (S' := (80, [some (vR 0), some (vI p), some (vI n), some (vI (τ.2.1 4 p))], [], pset (cW (sAt (mvA τ p 3 n) 4 p 0) (mvAK κ p 3 n)) 0 (.inr (5, [vR 1, vR 10, vR 40, vR 50, vR 60, vR 70, vR 71, vI 3, vI ((sAt (mvA τ p 3 n) 4 p 0).1 1), vI ((sAt (mvA τ p 3 n) 4 p 0).1 2), vI ((sAt (mvA τ p 3 n) 4 p 0).1 3), vI ((sAt (mvA τ p 3 n) 4 p 0).1 4)])))) rfl ?_
              rw [cW_s0]
              refine hR.run0 2 (S' := (84, [some (vR 0), some (vI p), some (vI n), some (vI (τ.2.1 4 p))], [vI 3], cW (sS (sAt (mvA τ p 3 n) 4 p 0) 0 3) (mvAK κ p 3 n))) rfl ?_
              have hx : xDisc τ p n = (0, 3, sS (sAt (mvA τ p 3 n) 4 p 0) 0 3) := by unfold xDisc phD disS; (repeat' split) <;> first | rfl | (exfalso; omega) | (exfalso; simp_all; done) | (simp_all [disS]; done) | (exfalso; simp_all; omega)
              exact hR.rt rfl trivial (by rw [hx]; rfl) (by unfold kDisc; rw [hx]; rfl)
          · skip
            have hx : xDisc τ p n = (3, 0, τ) := by unfold xDisc phD disS; (repeat' split) <;> first | rfl | (exfalso; omega) | (exfalso; simp_all; done) | (simp_all [disS]; done) | (exfalso; simp_all; omega)
            exact hR.cvx [vI p, vI n] kX5_132 rfl rfl ⟨_, _, _, rfl, rfl, rfl⟩ (by decide) (by decide) (Nat.le_of_ble_eq_true rfl) rfl (sp_rHas_x _ _ (by omega) (by omega) hh q5) (by rw [hx]; rfl) (by unfold kDisc; rw [hx]; rfl)
    · skip
      have hx : xDisc τ p n = (2, 0, τ) := by unfold xDisc phD disS; (repeat' split) <;> first | rfl | (exfalso; omega) | (exfalso; simp_all; done) | (simp_all [disS]; done) | (exfalso; simp_all; omega)
      exact hR.csx [vI n] kX5_129 rfl rfl (by decide) (by decide) (Nat.le_of_ble_eq_true rfl) rfl (sp_rGoods_x _ (by omega) q2) (by rw [hx]; rfl) (by unfold kDisc; rw [hx]; rfl)
  · skip
    have hx : xDisc τ p n = (1, 0, τ) := by unfold xDisc phD disS; (repeat' split) <;> first | rfl | (exfalso; omega) | (exfalso; simp_all; done) | (simp_all [disS]; done) | (exfalso; simp_all; omega)
    exact hR.csx [vI p] kX5_126 rfl rfl (by decide) (by decide) (Nat.le_of_ble_eq_true rfl) rfl (sp_rPlayer_x _ (by omega) q1) (by rw [hx]; rfl) (by unfold kDisc; rw [hx]; rfl)
theorem pX5_rob_n (τ κ : St) {h d : Int} (hh0 : -2147483648 ≤ h ∧ h ≤ 2147483647) (hd0 : -2147483648 ≤ d ∧ d ≤ 2147483647) (hI : Iv τ)  : Sp mX5_rob roC 5 [vR 0, vI h, vI (-1), vI d] (cW τ κ) (oc eIAS (xRob τ h (-1) d)) (cW (xRob τ h (-1) d).2.2 (kRob κ τ h (-1) d)) := by
  have hb := hI.hb
  have hr := hI.hr
  have hg := hI.hg
  have hn := hI.hn
  have h7 := hI.h7
  have hh := hI.hh
  have hsm := hI.hsm
  have hcd := hI.hcd
  have hfr := hI.hfr
  have hkn := hI.hkn
  have hbo := hI.hbo
  have hus := hI.hus
  have hro := hI.hro
  have har := hI.har
  have hth := hI.hth
  have hph := hI.hph
  have htu := hI.htu
  have hrb := hI.hrb
  have hpl := hI.hpl
  have hdu := hI.hdu
  have hdp := hI.hdp
  have hof := hI.hof
  have how := hI.how
  have hga := hI.hga
  have hwa := hI.hwa
  have hck := hI.hck
  have hkz := hI.hkz
  have hcb := hI.hcb
  have hfb := hI.hfb
  have hnr := hI.hnr
  have hpq := hI.hpq
  have hrc := hI.hrc
  have hbc := hI.hbc
  have hcc := hI.hcc
  have hac := hI.hac
  refine Sp.of (lk := lkX5) (tb := bX5_rob) (by decide) lkX5_ok tX5_rob (cW_keys _ _ _ _) (Nat.le_of_ble_eq_true rfl) (fun G hR => ?_)
  refine hR.run0 3 (S' := (3, [some (vR 0), some (vI h), some (vI (-1)), some (vI d)], [vI d, vI (-1), vI h], cW τ κ)) rfl ?_
  by_cases q1 : (0 ≤ h ∧ h < 7) ∧ ((-1) = -1 ∨ (0 ≤ (-1) ∧ (-1) < 3))
  · by_cases q2 : 0 ≤ d ∧ d ≤ 999
    · skip
      refine hR.cs [vI h, vI (-1), vI d] kX5_162 rfl rfl (by first | decide | exact Nat.le_refl _) (by decide) (Nat.le_of_ble_eq_true rfl) rfl (sp_rRobbery_ok _ (by omega) (by omega) (by omega) q1 q2) ?_
      show G (6, [some (vR 0), some (vI h), some (vI (-1)), some (vI d)], [], cW τ κ)
      refine hR.run0 2 (S' := (8, [some (vR 0), some (vI h), some (vI (-1)), some (vI d)], [vI 4, vR 0], cW τ κ)) rfl ?_
      by_cases q3 : τ.1 0 = 4
      · skip
        refine hR.cv [vI 4] kX5_95 rfl rfl ⟨_, _, _, rfl, rfl, rfl⟩ (by first | decide | exact Nat.le_refl _) (by decide) (Nat.le_of_ble_eq_true rfl) rfl (sp_rPhase_ok _ _ (by omega) hph q3) ?_
        show G (11, [some (vR 0), some (vI h), some (vI (-1)), some (vI d)], [], cW τ κ)
        refine hR.run0 3 (S' := (14, [some (vR 0), some (vI h), some (vI (-1)), some (vI d)], [vI (-1), vI h, vR 0], cW τ κ)) rfl ?_
        by_cases q4 : mayR τ h (-1) = true
        · skip
          refine hR.cv [vI h, vI (-1)] kX5_165 rfl rfl ⟨_, _, _, rfl, rfl, rfl⟩ (by first | decide | exact Nat.le_refl _) (by decide) (Nat.le_of_ble_eq_true rfl) rfl (sp_rMayn_ok _ _ (by omega) hb hh htu hrb q4) ?_
          show G (17, [some (vR 0), some (vI h), some (vI (-1)), some (vI d)], [], cW τ κ)
          refine hR.run0 3 (S' := (22, [some (vR 0), some (vI h), some (vI (-1)), some (vI d)], [], pset (cW τ κ) 0 (.inr (5, [vR 1, vR 10, vR 40, vR 50, vR 60, vR 70, vR 71, vI 2, vI (τ.1 1), vI (τ.1 2), vI (τ.1 3), vI (τ.1 4)])))) rfl ?_
          rw [cW_s0]
          refine hR.run0 4 (S' := (26, [some (vR 0), some (vI h), some (vI (-1)), some (vI d)], [vI d, vI (-1), vI h, vR 0], cW (sS τ 0 2) κ)) rfl ?_
          refine hR.cv [vI h, vI (-1), vI d] kX5_168 rfl rfl ⟨_, _, _, rfl, rfl, rfl⟩ (by first | decide | exact Nat.le_refl _) (by decide) (Nat.le_of_ble_eq_true rfl) rfl (sp_moveRobberN _ _ (by omega) htu) ?_
          show G (29, [some (vR 0), some (vI h), some (vI (-1)), some (vI d)], [vI (-1)], cW (sS (sS τ 0 2) 5 h) κ)
          have hz : arC h (-1) d = 0 := by unfold arC; (repeat' split) <;> omega
          have hx : xRob τ h (-1) d = (0, (-1), sS (sS τ 0 2) 5 h) := by unfold xRob; rw [if_neg (by rw [hz]; decide)]; (repeat' split) <;> first | rfl | (exfalso; omega) | (exfalso; unfold arC at *; (repeat' split at *) <;> omega) | (exfalso; simp_all; done) | (simp_all [robS_n, robK_n]; done) | (exfalso; simp_all [mayU]; done) | (exfalso; simp_all; omega)
          exact hR.rt rfl trivial (by rw [hx]; rfl) (by unfold kRob; rw [hx]; first | rfl | simp [robK_n])
        · skip
          have hz : arC h (-1) d = 0 := by unfold arC; (repeat' split) <;> omega
          have hx : xRob τ h (-1) d = (3, 0, τ) := by unfold xRob; rw [if_neg (by rw [hz]; decide)]; (repeat' split) <;> first | rfl | (exfalso; omega) | (exfalso; unfold arC at *; (repeat' split at *) <;> omega) | (exfalso; simp_all; done) | (simp_all [robS_n, robK_n]; done) | (exfalso; simp_all [mayU]; done) | (exfalso; simp_all; omega)
          exact hR.cvx [vI h, vI (-1)] kX5_165 rfl rfl ⟨_, _, _, rfl, rfl, rfl⟩ (by decide) (by decide) (Nat.le_of_ble_eq_true rfl) rfl (sp_rMayn_x _ _ (by omega) hb hh htu hrb q4) (by rw [hx]; rfl) (by unfold kRob; rw [hx]; rfl)
      · skip
        have hz : arC h (-1) d = 0 := by unfold arC; (repeat' split) <;> omega
        have hx : xRob τ h (-1) d = (3, 0, τ) := by unfold xRob; rw [if_neg (by rw [hz]; decide)]; (repeat' split) <;> first | rfl | (exfalso; omega) | (exfalso; unfold arC at *; (repeat' split at *) <;> omega) | (exfalso; simp_all; done) | (simp_all [robS_n, robK_n]; done) | (exfalso; simp_all [mayU]; done) | (exfalso; simp_all; omega)
        exact hR.cvx [vI 4] kX5_95 rfl rfl ⟨_, _, _, rfl, rfl, rfl⟩ (by decide) (by decide) (Nat.le_of_ble_eq_true rfl) rfl (sp_rPhase_x _ _ (by omega) hph q3) (by rw [hx]; rfl) (by unfold kRob; rw [hx]; rfl)
    · skip
      have hz : arC h (-1) d = 2 := by unfold arC; (repeat' split) <;> omega
      have hx : xRob τ h (-1) d = (2, 0, τ) := by unfold xRob; rw [if_pos (by rw [hz]; decide), hz]
      exact hR.csx [vI h, vI (-1), vI d] kX5_162 rfl rfl (by decide) (by decide) (Nat.le_of_ble_eq_true rfl) rfl (sp_rRobbery_xa _ (by omega) (by omega) (by omega) q1 q2) (by rw [hx]; rfl) (by unfold kRob; rw [hx]; rfl)
  · skip
    have hz : arC h (-1) d = 1 := by unfold arC; (repeat' split) <;> omega
    have hx : xRob τ h (-1) d = (1, 0, τ) := by unfold xRob; rw [if_pos (by rw [hz]; decide), hz]
    exact hR.csx [vI h, vI (-1), vI d] kX5_162 rfl rfl (by decide) (by decide) (Nat.le_of_ble_eq_true rfl) rfl (sp_rRobbery_xi _ (by omega) (by omega) (by omega) q1) (by rw [hx]; rfl) (by unfold kRob; rw [hx]; rfl)
theorem pX5_rob_v (τ κ : St) {h v d : Int} (hh0 : -2147483648 ≤ h ∧ h ≤ 2147483647) (hv0 : -2147483648 ≤ v ∧ v ≤ 2147483647) (hd0 : -2147483648 ≤ d ∧ d ≤ 2147483647) (hv1 : v ≠ -1) (hI : Iv τ)  : Sp mX5_rob roC 5 [vR 0, vI h, vI v, vI d] (cW τ κ) (oc eIAS (xRob τ h v d)) (cW (xRob τ h v d).2.2 (kRob κ τ h v d)) := by
  have hb := hI.hb
  have hr := hI.hr
  have hg := hI.hg
  have hn := hI.hn
  have h7 := hI.h7
  have hh := hI.hh
  have hsm := hI.hsm
  have hcd := hI.hcd
  have hfr := hI.hfr
  have hkn := hI.hkn
  have hbo := hI.hbo
  have hus := hI.hus
  have hro := hI.hro
  have har := hI.har
  have hth := hI.hth
  have hph := hI.hph
  have htu := hI.htu
  have hrb := hI.hrb
  have hpl := hI.hpl
  have hdu := hI.hdu
  have hdp := hI.hdp
  have hof := hI.hof
  have how := hI.how
  have hga := hI.hga
  have hwa := hI.hwa
  have hck := hI.hck
  have hkz := hI.hkz
  have hcb := hI.hcb
  have hfb := hI.hfb
  have hnr := hI.hnr
  have hpq := hI.hpq
  have hrc := hI.hrc
  have hbc := hI.hbc
  have hcc := hI.hcc
  have hac := hI.hac
  refine Sp.of (lk := lkX5) (tb := bX5_rob) (by decide) lkX5_ok tX5_rob (cW_keys _ _ _ _) (Nat.le_of_ble_eq_true rfl) (fun G hR => ?_)
  refine hR.run0 3 (S' := (3, [some (vR 0), some (vI h), some (vI v), some (vI d)], [vI d, vI v, vI h], cW τ κ)) rfl ?_
  by_cases q1 : (0 ≤ h ∧ h < 7) ∧ (v = -1 ∨ (0 ≤ v ∧ v < 3))
  · by_cases q2 : 0 ≤ d ∧ d ≤ 999
    · skip
      refine hR.cs [vI h, vI v, vI d] kX5_162 rfl rfl (by first | decide | exact Nat.le_refl _) (by decide) (Nat.le_of_ble_eq_true rfl) rfl (sp_rRobbery_ok _ (by omega) (by omega) (by omega) q1 q2) ?_
      show G (6, [some (vR 0), some (vI h), some (vI v), some (vI d)], [], cW τ κ)
      refine hR.run0 2 (S' := (8, [some (vR 0), some (vI h), some (vI v), some (vI d)], [vI 4, vR 0], cW τ κ)) rfl ?_
      by_cases q3 : τ.1 0 = 4
      · skip
        refine hR.cv [vI 4] kX5_95 rfl rfl ⟨_, _, _, rfl, rfl, rfl⟩ (by first | decide | exact Nat.le_refl _) (by decide) (Nat.le_of_ble_eq_true rfl) rfl (sp_rPhase_ok _ _ (by omega) hph q3) ?_
        show G (11, [some (vR 0), some (vI h), some (vI v), some (vI d)], [], cW τ κ)
        refine hR.run0 3 (S' := (14, [some (vR 0), some (vI h), some (vI v), some (vI d)], [vI v, vI h, vR 0], cW τ κ)) rfl ?_
        by_cases q4 : mayR τ h v = true
        · skip
          refine hR.cv [vI h, vI v] kX5_165 rfl rfl ⟨_, _, _, rfl, rfl, rfl⟩ (by first | decide | exact Nat.le_refl _) (by decide) (Nat.le_of_ble_eq_true rfl) rfl (sp_rMayv_ok _ _ (by omega) (by omega) hb hh htu hrb q4) ?_
          show G (17, [some (vR 0), some (vI h), some (vI v), some (vI d)], [], cW τ κ)
          refine hR.run0 3 (S' := (22, [some (vR 0), some (vI h), some (vI v), some (vI d)], [], pset (cW τ κ) 0 (.inr (5, [vR 1, vR 10, vR 40, vR 50, vR 60, vR 70, vR 71, vI 2, vI (τ.1 1), vI (τ.1 2), vI (τ.1 3), vI (τ.1 4)])))) rfl ?_
          rw [cW_s0]
          refine hR.run0 4 (S' := (26, [some (vR 0), some (vI h), some (vI v), some (vI d)], [vI d, vI v, vI h, vR 0], cW (sS τ 0 2) κ)) rfl ?_
          refine hR.cv [vI h, vI v, vI d] kX5_168 rfl rfl ⟨_, _, _, rfl, rfl, rfl⟩ (by first | decide | exact Nat.le_refl _) (by decide) (Nat.le_of_ble_eq_true rfl) rfl (sp_moveRobber _ _ (by omega) (by omega) hh htu) ?_
          show G (29, [some (vR 0), some (vI h), some (vI v), some (vI d)], [vI (drw ((sS τ 0 2).2.2 0) v d)], cW (robS (sS τ 0 2) h v d) (robK (sS τ 0 2) κ v d))
          have hz : arC h v d = 0 := by unfold arC; (repeat' split) <;> omega
          have hx : xRob τ h v d = (0, drw ((sS τ 0 2).2.2 0) v d, robS (sS τ 0 2) h v d) := by unfold xRob; rw [if_neg (by rw [hz]; decide)]; (repeat' split) <;> first | rfl | (exfalso; omega) | (exfalso; unfold arC at *; (repeat' split at *) <;> omega) | (exfalso; simp_all; done) | (simp_all [robS_n, robK_n]; done) | (exfalso; simp_all [mayU]; done) | (exfalso; simp_all; omega)
          exact hR.rt rfl trivial (by rw [hx]; rfl) (by unfold kRob; rw [hx]; first | rfl | simp [robK_n])
        · skip
          have hz : arC h v d = 0 := by unfold arC; (repeat' split) <;> omega
          have hx : xRob τ h v d = (3, 0, τ) := by unfold xRob; rw [if_neg (by rw [hz]; decide)]; (repeat' split) <;> first | rfl | (exfalso; omega) | (exfalso; unfold arC at *; (repeat' split at *) <;> omega) | (exfalso; simp_all; done) | (simp_all [robS_n, robK_n]; done) | (exfalso; simp_all [mayU]; done) | (exfalso; simp_all; omega)
          exact hR.cvx [vI h, vI v] kX5_165 rfl rfl ⟨_, _, _, rfl, rfl, rfl⟩ (by decide) (by decide) (Nat.le_of_ble_eq_true rfl) rfl (sp_rMayv_x _ _ (by omega) (by omega) hb hh htu hrb q4) (by rw [hx]; rfl) (by unfold kRob; rw [hx]; rfl)
      · skip
        have hz : arC h v d = 0 := by unfold arC; (repeat' split) <;> omega
        have hx : xRob τ h v d = (3, 0, τ) := by unfold xRob; rw [if_neg (by rw [hz]; decide)]; (repeat' split) <;> first | rfl | (exfalso; omega) | (exfalso; unfold arC at *; (repeat' split at *) <;> omega) | (exfalso; simp_all; done) | (simp_all [robS_n, robK_n]; done) | (exfalso; simp_all [mayU]; done) | (exfalso; simp_all; omega)
        exact hR.cvx [vI 4] kX5_95 rfl rfl ⟨_, _, _, rfl, rfl, rfl⟩ (by decide) (by decide) (Nat.le_of_ble_eq_true rfl) rfl (sp_rPhase_x _ _ (by omega) hph q3) (by rw [hx]; rfl) (by unfold kRob; rw [hx]; rfl)
    · skip
      have hz : arC h v d = 2 := by unfold arC; (repeat' split) <;> omega
      have hx : xRob τ h v d = (2, 0, τ) := by unfold xRob; rw [if_pos (by rw [hz]; decide), hz]
      exact hR.csx [vI h, vI v, vI d] kX5_162 rfl rfl (by decide) (by decide) (Nat.le_of_ble_eq_true rfl) rfl (sp_rRobbery_xa _ (by omega) (by omega) (by omega) q1 q2) (by rw [hx]; rfl) (by unfold kRob; rw [hx]; rfl)
  · skip
    have hz : arC h v d = 1 := by unfold arC; (repeat' split) <;> omega
    have hx : xRob τ h v d = (1, 0, τ) := by unfold xRob; rw [if_pos (by rw [hz]; decide), hz]
    exact hR.csx [vI h, vI v, vI d] kX5_162 rfl rfl (by decide) (by decide) (Nat.le_of_ble_eq_true rfl) rfl (sp_rRobbery_xi _ (by omega) (by omega) (by omega) q1) (by rw [hx]; rfl) (by unfold kRob; rw [hx]; rfl)
theorem pX5_rob (τ κ : St) {h v d : Int} (hh0 : -2147483648 ≤ h ∧ h ≤ 2147483647) (hv0 : -2147483648 ≤ v ∧ v ≤ 2147483647) (hd0 : -2147483648 ≤ d ∧ d ≤ 2147483647) (hI : Iv τ) : Sp mX5_rob roC 5 [vR 0, vI h, vI v, vI d] (cW τ κ) (oc eIAS (xRob τ h v d)) (cW (xRob τ h v d).2.2 (kRob κ τ h v d)) := by
  by_cases e : v = -1
  · subst e
    exact pX5_rob_n τ κ hh0 hd0 hI
  · exact pX5_rob_v τ κ hh0 hv0 hd0 e hI
theorem pX5_buy (τ κ : St)  (hI : Iv τ)  : Sp mX5_buy roC 4 [vR 0] (cW τ κ) (oc eS1 (xBuy τ)) (cW (xBuy τ).2.2 (kBuy κ τ)) := by
  have hb := hI.hb
  have hr := hI.hr
  have hg := hI.hg
  have hn := hI.hn
  have h7 := hI.h7
  have hh := hI.hh
  have hsm := hI.hsm
  have hcd := hI.hcd
  have hfr := hI.hfr
  have hkn := hI.hkn
  have hbo := hI.hbo
  have hus := hI.hus
  have hro := hI.hro
  have har := hI.har
  have hth := hI.hth
  have hph := hI.hph
  have htu := hI.htu
  have hrb := hI.hrb
  have hpl := hI.hpl
  have hdu := hI.hdu
  have hdp := hI.hdp
  have hof := hI.hof
  have how := hI.how
  have hga := hI.hga
  have hwa := hI.hwa
  have hck := hI.hck
  have hkz := hI.hkz
  have hcb := hI.hcb
  have hfb := hI.hfb
  have hnr := hI.hnr
  have hpq := hI.hpq
  have hrc := hI.hrc
  have hbc := hI.hbc
  have hcc := hI.hcc
  have hac := hI.hac
  refine Sp.of (lk := lkX5) (tb := bX5_buy) (by decide) lkX5_ok tX5_buy (cW_keys _ _ _ _) (Nat.le_of_ble_eq_true rfl) (fun G hR => ?_)
  refine hR.run0 2 (S' := (2, [some (vR 0), none], [vI 2, vR 0], cW τ κ)) rfl ?_
  by_cases q1 : τ.1 0 = 2
  · skip
    refine hR.cv [vI 2] kX5_95 rfl rfl ⟨_, _, _, rfl, rfl, rfl⟩ (by first | decide | exact Nat.le_refl _) (by decide) (Nat.le_of_ble_eq_true rfl) rfl (sp_rPhase_ok _ _ (by omega) hph q1) ?_
    show G (5, [some (vR 0), none], [], cW τ κ)
    refine hR.run0 2 (S' := (9, [some (vR 0), none], [vR 50], cW τ κ)) rfl ?_
    refine hR.cv [] kX5_191 rfl rfl ⟨_, _, _, rfl, rfl, rfl⟩ (by first | decide | exact Nat.le_refl _) (by decide) (Nat.le_of_ble_eq_true rfl) rfl (sp_areLeft _ _ hbo) ?_
    show G (12, [some (vR 0), none], [vI (bI (decide (τ.1 6 < 15)))], cW τ κ)
    by_cases hb_q2 : (decide (τ.1 6 < 15)) = true
    · skip
      have hs_q2 := hb_q2
      try simp only [Bool.and_eq_true, Bool.or_eq_true, Bool.and_eq_false_iff, Bool.or_eq_false_iff, decide_eq_true_eq, decide_eq_false_iff_not] at hs_q2
      refine hR.cs [vI (bI (decide (τ.1 6 < 15)))] kX5_81 rfl rfl (by first | decide | exact Nat.le_refl _) (by decide) (Nat.le_of_ble_eq_true rfl) rfl (sp_rSob_ok _ hb_q2) ?_
      show G (15, [some (vR 0), none], [], cW τ κ)
      refine hR.run0 4 (S' := (23, [some (vR 0), none], [vI 11100, vI (τ.1 1), vR 0], cW τ κ)) rfl ?_
      by_cases q3 : hasG (τ.2.2 0) (τ.1 1) 11100 = true
      · skip
        refine hR.cv [vI (τ.1 1), vI 11100] kX5_132 rfl rfl ⟨_, _, _, rfl, rfl, rfl⟩ (by first | decide | exact Nat.le_refl _) (by decide) (Nat.le_of_ble_eq_true rfl) rfl (sp_rHas_ok _ _ (by omega) (by omega) hh q3) ?_
        show G (26, [some (vR 0), none], [], cW τ κ)
        refine hR.run0 6 (S' := (38, [some (vR 0), none], [vI 11100, vI 3, vI (τ.1 1), vR 10], cW τ κ)) rfl ?_
        refine hR.cv [vI (τ.1 1), vI 3, vI 11100] kX5_135 rfl rfl ⟨_, _, _, rfl, rfl, rfl⟩ (by first | decide | exact Nat.le_refl _) (by decide) (Nat.le_of_ble_eq_true rfl) rfl (sp_moveAll _ _ (by omega) (by omega) (by omega)) ?_
        show G (41, [some (vR 0), none], [], cW (mvA τ (τ.1 1) 3 11100) (mvAK κ (τ.1 1) 3 11100))
        refine hR.run0 4 (S' := (49, [some (vR 0), none], [vI (τ.1 1), vR 50], cW (mvA τ (τ.1 1) 3 11100) (mvAK κ (τ.1 1) 3 11100))) rfl ?_
        have f1 := ordF_r ((mvA τ (τ.1 1) 3 11100).1 6)
        refine hR.cv [vI (τ.1 1)] kX5_194 rfl rfl ⟨_, _, _, rfl, rfl, rfl⟩ (by first | decide | exact Nat.le_refl _) (by decide) (Nat.le_of_ble_eq_true rfl) rfl (sp_give _ _ (by show 0 ≤ τ.1 6 ∧ τ.1 6 < 15; omega) (by omega)) ?_
        show G (52, [some (vR 0), none], [vI (ordF ((mvA τ (τ.1 1) 3 11100).1 6))], cW (gvS (mvA τ (τ.1 1) 3 11100) (τ.1 1)) (mvAK κ (τ.1 1) 3 11100))
        refine hR.run0 2 (S' := (54, [some (vR 0), some (vI (ordF ((mvA τ (τ.1 1) 3 11100).1 6)))], [vR 0], cW (gvS (mvA τ (τ.1 1) 3 11100) (τ.1 1)) (mvAK κ (τ.1 1) 3 11100))) rfl ?_
        refine hR.cv [] kX5_197 rfl rfl ⟨_, _, _, rfl, rfl, rfl⟩ (by first | decide | exact Nat.le_refl _) (by decide) (Nat.le_of_ble_eq_true rfl) rfl (sp_endW _ _ (by first | exact (Wi.use hI.wi (fun k => (hI.hfr k).1) (by assumption) : Wi (usS τ (τ.1 1) 0)) | exact Wi.rob (Wi.use hI.wi (fun k => (hI.hfr k).1) (by assumption)) _ _ _ | exact Wi.gv hI.wi (by omega) hI.hcb _ | exact Wi.nd hI.wi (by omega) | assumption)) ?_
        show G (57, [some (vR 0), some (vI (ordF ((mvA τ (τ.1 1) 3 11100).1 6)))], [], cW (winS (gvS (mvA τ (τ.1 1) 3 11100) (τ.1 1))) (mvAK κ (τ.1 1) 3 11100))
        refine hR.run0 1 (S' := (58, [some (vR 0), some (vI (ordF ((mvA τ (τ.1 1) 3 11100).1 6)))], [vI (ordF ((mvA τ (τ.1 1) 3 11100).1 6))], cW (winS (gvS (mvA τ (τ.1 1) 3 11100) (τ.1 1))) (mvAK κ (τ.1 1) 3 11100))) rfl ?_
        have hx : xBuy τ = (0, ordF ((mvA τ (τ.1 1) 3 11100).1 6), winS (gvS (mvA τ (τ.1 1) 3 11100) (τ.1 1))) := by unfold xBuy; (repeat' split) <;> first | rfl | (exfalso; omega) | (exfalso; simp_all; done) | (simp_all; done) | (exfalso; simp_all; omega)
        exact hR.rt rfl trivial (by rw [hx]; rfl) (by unfold kBuy; rw [hx]; rfl)
      · skip
        have hx : xBuy τ = (1, 0, τ) := by unfold xBuy; (repeat' split) <;> first | rfl | (exfalso; omega) | (exfalso; simp_all; done) | (simp_all; done) | (exfalso; simp_all; omega)
        exact hR.cvx [vI (τ.1 1), vI 11100] kX5_132 rfl rfl ⟨_, _, _, rfl, rfl, rfl⟩ (by decide) (by decide) (Nat.le_of_ble_eq_true rfl) rfl (sp_rHas_x _ _ (by omega) (by omega) hh q3) (by rw [hx]; rfl) (by unfold kBuy; rw [hx]; rfl)
    · replace hb_q2 := Bool.eq_false_iff.mpr hb_q2
      have hs_q2 := hb_q2
      try simp only [Bool.and_eq_true, Bool.or_eq_true, Bool.and_eq_false_iff, Bool.or_eq_false_iff, decide_eq_true_eq, decide_eq_false_iff_not] at hs_q2
      have hx : xBuy τ = (1, 0, τ) := by unfold xBuy; (repeat' split) <;> first | rfl | (exfalso; omega) | (exfalso; simp_all; done) | (simp_all; done) | (exfalso; simp_all; omega)
      exact hR.csx [vI (bI (decide (τ.1 6 < 15)))] kX5_81 rfl rfl (by decide) (by decide) (Nat.le_of_ble_eq_true rfl) rfl (sp_rSob_x _ hb_q2) (by rw [hx]; rfl) (by unfold kBuy; rw [hx]; rfl)
  · skip
    have hx : xBuy τ = (1, 0, τ) := by unfold xBuy; (repeat' split) <;> first | rfl | (exfalso; omega) | (exfalso; simp_all; done) | (simp_all; done) | (exfalso; simp_all; omega)
    exact hR.cvx [vI 2] kX5_95 rfl rfl ⟨_, _, _, rfl, rfl, rfl⟩ (by decide) (by decide) (Nat.le_of_ble_eq_true rfl) rfl (sp_rPhase_x _ _ (by omega) hph q1) (by rw [hx]; rfl) (by unfold kBuy; rw [hx]; rfl)
theorem pX5_knight_n (τ κ : St) {h d : Int} (hh0 : -2147483648 ≤ h ∧ h ≤ 2147483647) (hd0 : -2147483648 ≤ d ∧ d ≤ 2147483647) (hI : Iv τ)  : Sp mX5_knight roC 5 [vR 0, vI h, vI (-1), vI d] (cW τ κ) (oc eIAS (xKnight τ h (-1) d)) (cW (xKnight τ h (-1) d).2.2 (kKnight κ τ h (-1) d)) := by
  have hb := hI.hb
  have hr := hI.hr
  have hg := hI.hg
  have hn := hI.hn
  have h7 := hI.h7
  have hh := hI.hh
  have hsm := hI.hsm
  have hcd := hI.hcd
  have hfr := hI.hfr
  have hkn := hI.hkn
  have hbo := hI.hbo
  have hus := hI.hus
  have hro := hI.hro
  have har := hI.har
  have hth := hI.hth
  have hph := hI.hph
  have htu := hI.htu
  have hrb := hI.hrb
  have hpl := hI.hpl
  have hdu := hI.hdu
  have hdp := hI.hdp
  have hof := hI.hof
  have how := hI.how
  have hga := hI.hga
  have hwa := hI.hwa
  have hck := hI.hck
  have hkz := hI.hkz
  have hcb := hI.hcb
  have hfb := hI.hfb
  have hnr := hI.hnr
  have hpq := hI.hpq
  have hrc := hI.hrc
  have hbc := hI.hbc
  have hcc := hI.hcc
  have hac := hI.hac
  refine Sp.of (lk := lkX5) (tb := bX5_knight) (by decide) lkX5_ok tX5_knight (cW_keys _ _ _ _) (Nat.le_of_ble_eq_true rfl) (fun G hR => ?_)
  refine hR.run0 3 (S' := (3, [some (vR 0), some (vI h), some (vI (-1)), some (vI d), none], [vI d, vI (-1), vI h], cW τ κ)) rfl ?_
  by_cases q1 : (0 ≤ h ∧ h < 7) ∧ ((-1) = -1 ∨ (0 ≤ (-1) ∧ (-1) < 3))
  · by_cases q2 : 0 ≤ d ∧ d ≤ 999
    · skip
      refine hR.cs [vI h, vI (-1), vI d] kX5_162 rfl rfl (by first | decide | exact Nat.le_refl _) (by decide) (Nat.le_of_ble_eq_true rfl) rfl (sp_rRobbery_ok _ (by omega) (by omega) (by omega) q1 q2) ?_
      show G (6, [some (vR 0), some (vI h), some (vI (-1)), some (vI d), none], [], cW τ κ)
      refine hR.run0 2 (S' := (8, [some (vR 0), some (vI h), some (vI (-1)), some (vI d), none], [vI 0, vR 0], cW τ κ)) rfl ?_
      by_cases q3 : (τ.1 0 = 1 ∨ τ.1 0 = 2) ∧ canU τ (τ.1 1) 0 = true
      · have q3u := q3.2
        have q3m : mayU τ 0 = true := by unfold mayU; simp_all
        refine hR.cv [vI 0] kX5_200 rfl rfl ⟨_, _, _, rfl, rfl, rfl⟩ (by first | decide | exact Nat.le_refl _) (by decide) (Nat.le_of_ble_eq_true rfl) rfl (sp_rUsable0_ok _ _ hph htu hcd hfr hus q3) ?_
        show G (11, [some (vR 0), some (vI h), some (vI (-1)), some (vI d), none], [], cW τ κ)
        refine hR.run0 3 (S' := (14, [some (vR 0), some (vI h), some (vI (-1)), some (vI d), none], [vI (-1), vI h, vR 0], cW τ κ)) rfl ?_
        by_cases q4 : mayR τ h (-1) = true
        · skip
          refine hR.cv [vI h, vI (-1)] kX5_165 rfl rfl ⟨_, _, _, rfl, rfl, rfl⟩ (by first | decide | exact Nat.le_refl _) (by decide) (Nat.le_of_ble_eq_true rfl) rfl (sp_rMayn_ok _ _ (by omega) hb hh htu hrb q4) ?_
          show G (17, [some (vR 0), some (vI h), some (vI (-1)), some (vI d), none], [], cW τ κ)
          refine hR.run0 5 (S' := (26, [some (vR 0), some (vI h), some (vI (-1)), some (vI d), none], [vI 0, vI (τ.1 1), vR 50], cW τ κ)) rfl ?_
          refine hR.cv [vI (τ.1 1), vI 0] kX5_203 rfl rfl ⟨_, _, _, rfl, rfl, rfl⟩ (by first | decide | exact Nat.le_refl _) (by decide) (Nat.le_of_ble_eq_true rfl) rfl (sp_use0 _ _ (hI.kn14 (by assumption)) har (by omega)) ?_
          show G (29, [some (vR 0), some (vI h), some (vI (-1)), some (vI d), none], [], cW (usS τ (τ.1 1) 0) κ)
          refine hR.run0 4 (S' := (33, [some (vR 0), some (vI h), some (vI (-1)), some (vI d), none], [vI d, vI (-1), vI h, vR 0], cW (usS τ (τ.1 1) 0) κ)) rfl ?_
          refine hR.cv [vI h, vI (-1), vI d] kX5_168 rfl rfl ⟨_, _, _, rfl, rfl, rfl⟩ (by first | decide | exact Nat.le_refl _) (by decide) (Nat.le_of_ble_eq_true rfl) rfl (sp_moveRobberN _ _ (by omega) (by rw [usS_1 _ _ _ _ (by decide) (by decide)]; exact htu)) ?_
          show G (36, [some (vR 0), some (vI h), some (vI (-1)), some (vI d), none], [vI (-1)], cW (sS (usS τ (τ.1 1) 0) 5 h) κ)
          refine hR.run0 2 (S' := (39, [some (vR 0), some (vI h), some (vI (-1)), some (vI d), some (vI (-1))], [vR 0], cW (sS (usS τ (τ.1 1) 0) 5 h) κ)) rfl ?_
          refine hR.cv [] kX5_197 rfl rfl ⟨_, _, _, rfl, rfl, rfl⟩ (by first | decide | exact Nat.le_refl _) (by decide) (Nat.le_of_ble_eq_true rfl) rfl (sp_endW _ _ (by first | exact (Wi.use hI.wi (fun k => (hI.hfr k).1) (by assumption) : Wi (usS τ (τ.1 1) 0)) | exact Wi.rob (Wi.use hI.wi (fun k => (hI.hfr k).1) (by assumption)) _ _ _ | exact Wi.gv hI.wi (by omega) hI.hcb _ | exact Wi.nd hI.wi (by omega) | assumption)) ?_
          show G (42, [some (vR 0), some (vI h), some (vI (-1)), some (vI d), some (vI (-1))], [], cW (winS (sS (usS τ (τ.1 1) 0) 5 h)) κ)
          refine hR.run0 1 (S' := (44, [some (vR 0), some (vI h), some (vI (-1)), some (vI d), some (vI (-1))], [vI (-1)], cW (winS (sS (usS τ (τ.1 1) 0) 5 h)) κ)) rfl ?_
          have hz : arC h (-1) d = 0 := by unfold arC; (repeat' split) <;> omega
          have hx : xKnight τ h (-1) d = (0, (-1), winS (sS (usS τ (τ.1 1) 0) 5 h)) := by unfold xKnight; rw [if_neg (by rw [hz]; decide)]; (repeat' split) <;> first | rfl | (exfalso; omega) | (exfalso; unfold arC at *; (repeat' split at *) <;> omega) | (exfalso; simp_all; done) | (simp_all [robS_n, robK_n]; done) | (exfalso; simp_all [mayU]; done) | (exfalso; simp_all; omega)
          exact hR.rt rfl trivial (by rw [hx]; rfl) (by unfold kKnight; rw [hx]; first | rfl | simp [robK_n])
        · skip
          have hz : arC h (-1) d = 0 := by unfold arC; (repeat' split) <;> omega
          have hx : xKnight τ h (-1) d = (3, 0, τ) := by unfold xKnight; rw [if_neg (by rw [hz]; decide)]; (repeat' split) <;> first | rfl | (exfalso; omega) | (exfalso; unfold arC at *; (repeat' split at *) <;> omega) | (exfalso; simp_all; done) | (simp_all [robS_n, robK_n]; done) | (exfalso; simp_all [mayU]; done) | (exfalso; simp_all; omega)
          exact hR.cvx [vI h, vI (-1)] kX5_165 rfl rfl ⟨_, _, _, rfl, rfl, rfl⟩ (by decide) (by decide) (Nat.le_of_ble_eq_true rfl) rfl (sp_rMayn_x _ _ (by omega) hb hh htu hrb q4) (by rw [hx]; rfl) (by unfold kKnight; rw [hx]; rfl)
      · have q3m : ¬ mayU τ 0 = true := by unfold mayU; simp_all
        have hz : arC h (-1) d = 0 := by unfold arC; (repeat' split) <;> omega
        have hx : xKnight τ h (-1) d = (3, 0, τ) := by unfold xKnight; rw [if_neg (by rw [hz]; decide)]; (repeat' split) <;> first | rfl | (exfalso; omega) | (exfalso; unfold arC at *; (repeat' split at *) <;> omega) | (exfalso; simp_all; done) | (simp_all [robS_n, robK_n]; done) | (exfalso; simp_all [mayU]; done) | (exfalso; simp_all; omega)
        exact hR.cvx [vI 0] kX5_200 rfl rfl ⟨_, _, _, rfl, rfl, rfl⟩ (by decide) (by decide) (Nat.le_of_ble_eq_true rfl) rfl (sp_rUsable0_x _ _ hph htu hcd hfr hus q3) (by rw [hx]; rfl) (by unfold kKnight; rw [hx]; rfl)
    · skip
      have hz : arC h (-1) d = 2 := by unfold arC; (repeat' split) <;> omega
      have hx : xKnight τ h (-1) d = (2, 0, τ) := by unfold xKnight; rw [if_pos (by rw [hz]; decide), hz]
      exact hR.csx [vI h, vI (-1), vI d] kX5_162 rfl rfl (by decide) (by decide) (Nat.le_of_ble_eq_true rfl) rfl (sp_rRobbery_xa _ (by omega) (by omega) (by omega) q1 q2) (by rw [hx]; rfl) (by unfold kKnight; rw [hx]; rfl)
  · skip
    have hz : arC h (-1) d = 1 := by unfold arC; (repeat' split) <;> omega
    have hx : xKnight τ h (-1) d = (1, 0, τ) := by unfold xKnight; rw [if_pos (by rw [hz]; decide), hz]
    exact hR.csx [vI h, vI (-1), vI d] kX5_162 rfl rfl (by decide) (by decide) (Nat.le_of_ble_eq_true rfl) rfl (sp_rRobbery_xi _ (by omega) (by omega) (by omega) q1) (by rw [hx]; rfl) (by unfold kKnight; rw [hx]; rfl)
theorem pX5_knight_v (τ κ : St) {h v d : Int} (hh0 : -2147483648 ≤ h ∧ h ≤ 2147483647) (hv0 : -2147483648 ≤ v ∧ v ≤ 2147483647) (hd0 : -2147483648 ≤ d ∧ d ≤ 2147483647) (hv1 : v ≠ -1) (hI : Iv τ)  : Sp mX5_knight roC 5 [vR 0, vI h, vI v, vI d] (cW τ κ) (oc eIAS (xKnight τ h v d)) (cW (xKnight τ h v d).2.2 (kKnight κ τ h v d)) := by
  have hb := hI.hb
  have hr := hI.hr
  have hg := hI.hg
  have hn := hI.hn
  have h7 := hI.h7
  have hh := hI.hh
  have hsm := hI.hsm
  have hcd := hI.hcd
  have hfr := hI.hfr
  have hkn := hI.hkn
  have hbo := hI.hbo
  have hus := hI.hus
  have hro := hI.hro
  have har := hI.har
  have hth := hI.hth
  have hph := hI.hph
  have htu := hI.htu
  have hrb := hI.hrb
  have hpl := hI.hpl
  have hdu := hI.hdu
  have hdp := hI.hdp
  have hof := hI.hof
  have how := hI.how
  have hga := hI.hga
  have hwa := hI.hwa
  have hck := hI.hck
  have hkz := hI.hkz
  have hcb := hI.hcb
  have hfb := hI.hfb
  have hnr := hI.hnr
  have hpq := hI.hpq
  have hrc := hI.hrc
  have hbc := hI.hbc
  have hcc := hI.hcc
  have hac := hI.hac
  refine Sp.of (lk := lkX5) (tb := bX5_knight) (by decide) lkX5_ok tX5_knight (cW_keys _ _ _ _) (Nat.le_of_ble_eq_true rfl) (fun G hR => ?_)
  refine hR.run0 3 (S' := (3, [some (vR 0), some (vI h), some (vI v), some (vI d), none], [vI d, vI v, vI h], cW τ κ)) rfl ?_
  by_cases q1 : (0 ≤ h ∧ h < 7) ∧ (v = -1 ∨ (0 ≤ v ∧ v < 3))
  · by_cases q2 : 0 ≤ d ∧ d ≤ 999
    · skip
      refine hR.cs [vI h, vI v, vI d] kX5_162 rfl rfl (by first | decide | exact Nat.le_refl _) (by decide) (Nat.le_of_ble_eq_true rfl) rfl (sp_rRobbery_ok _ (by omega) (by omega) (by omega) q1 q2) ?_
      show G (6, [some (vR 0), some (vI h), some (vI v), some (vI d), none], [], cW τ κ)
      refine hR.run0 2 (S' := (8, [some (vR 0), some (vI h), some (vI v), some (vI d), none], [vI 0, vR 0], cW τ κ)) rfl ?_
      by_cases q3 : (τ.1 0 = 1 ∨ τ.1 0 = 2) ∧ canU τ (τ.1 1) 0 = true
      · have q3u := q3.2
        have q3m : mayU τ 0 = true := by unfold mayU; simp_all
        refine hR.cv [vI 0] kX5_200 rfl rfl ⟨_, _, _, rfl, rfl, rfl⟩ (by first | decide | exact Nat.le_refl _) (by decide) (Nat.le_of_ble_eq_true rfl) rfl (sp_rUsable0_ok _ _ hph htu hcd hfr hus q3) ?_
        show G (11, [some (vR 0), some (vI h), some (vI v), some (vI d), none], [], cW τ κ)
        refine hR.run0 3 (S' := (14, [some (vR 0), some (vI h), some (vI v), some (vI d), none], [vI v, vI h, vR 0], cW τ κ)) rfl ?_
        by_cases q4 : mayR τ h v = true
        · skip
          refine hR.cv [vI h, vI v] kX5_165 rfl rfl ⟨_, _, _, rfl, rfl, rfl⟩ (by first | decide | exact Nat.le_refl _) (by decide) (Nat.le_of_ble_eq_true rfl) rfl (sp_rMayv_ok _ _ (by omega) (by omega) hb hh htu hrb q4) ?_
          show G (17, [some (vR 0), some (vI h), some (vI v), some (vI d), none], [], cW τ κ)
          refine hR.run0 5 (S' := (26, [some (vR 0), some (vI h), some (vI v), some (vI d), none], [vI 0, vI (τ.1 1), vR 50], cW τ κ)) rfl ?_
          refine hR.cv [vI (τ.1 1), vI 0] kX5_203 rfl rfl ⟨_, _, _, rfl, rfl, rfl⟩ (by first | decide | exact Nat.le_refl _) (by decide) (Nat.le_of_ble_eq_true rfl) rfl (sp_use0 _ _ (hI.kn14 (by assumption)) har (by omega)) ?_
          show G (29, [some (vR 0), some (vI h), some (vI v), some (vI d), none], [], cW (usS τ (τ.1 1) 0) κ)
          refine hR.run0 4 (S' := (33, [some (vR 0), some (vI h), some (vI v), some (vI d), none], [vI d, vI v, vI h, vR 0], cW (usS τ (τ.1 1) 0) κ)) rfl ?_
          refine hR.cv [vI h, vI v, vI d] kX5_168 rfl rfl ⟨_, _, _, rfl, rfl, rfl⟩ (by first | decide | exact Nat.le_refl _) (by decide) (Nat.le_of_ble_eq_true rfl) rfl (sp_moveRobber _ _ (by omega) (by omega) (by rw [usS_3]; exact hh) (by rw [usS_1 _ _ _ _ (by decide) (by decide)]; exact htu)) ?_
          show G (36, [some (vR 0), some (vI h), some (vI v), some (vI d), none], [vI (drw ((usS τ (τ.1 1) 0).2.2 0) v d)], cW (robS (usS τ (τ.1 1) 0) h v d) (robK (usS τ (τ.1 1) 0) κ v d))
          refine hR.run0 2 (S' := (39, [some (vR 0), some (vI h), some (vI v), some (vI d), some (vI (drw ((usS τ (τ.1 1) 0).2.2 0) v d))], [vR 0], cW (robS (usS τ (τ.1 1) 0) h v d) (robK (usS τ (τ.1 1) 0) κ v d))) rfl ?_
          refine hR.cv [] kX5_197 rfl rfl ⟨_, _, _, rfl, rfl, rfl⟩ (by first | decide | exact Nat.le_refl _) (by decide) (Nat.le_of_ble_eq_true rfl) rfl (sp_endW _ _ (by first | exact (Wi.use hI.wi (fun k => (hI.hfr k).1) (by assumption) : Wi (usS τ (τ.1 1) 0)) | exact Wi.rob (Wi.use hI.wi (fun k => (hI.hfr k).1) (by assumption)) _ _ _ | exact Wi.gv hI.wi (by omega) hI.hcb _ | exact Wi.nd hI.wi (by omega) | assumption)) ?_
          show G (42, [some (vR 0), some (vI h), some (vI v), some (vI d), some (vI (drw ((usS τ (τ.1 1) 0).2.2 0) v d))], [], cW (winS (robS (usS τ (τ.1 1) 0) h v d)) (robK (usS τ (τ.1 1) 0) κ v d))
          refine hR.run0 1 (S' := (44, [some (vR 0), some (vI h), some (vI v), some (vI d), some (vI (drw ((usS τ (τ.1 1) 0).2.2 0) v d))], [vI (drw ((usS τ (τ.1 1) 0).2.2 0) v d)], cW (winS (robS (usS τ (τ.1 1) 0) h v d)) (robK (usS τ (τ.1 1) 0) κ v d))) rfl ?_
          have hz : arC h v d = 0 := by unfold arC; (repeat' split) <;> omega
          have hx : xKnight τ h v d = (0, drw ((usS τ (τ.1 1) 0).2.2 0) v d, winS (robS (usS τ (τ.1 1) 0) h v d)) := by unfold xKnight; rw [if_neg (by rw [hz]; decide)]; (repeat' split) <;> first | rfl | (exfalso; omega) | (exfalso; unfold arC at *; (repeat' split at *) <;> omega) | (exfalso; simp_all; done) | (simp_all [robS_n, robK_n]; done) | (exfalso; simp_all [mayU]; done) | (exfalso; simp_all; omega)
          exact hR.rt rfl trivial (by rw [hx]; rfl) (by unfold kKnight; rw [hx]; first | rfl | simp [robK_n])
        · skip
          have hz : arC h v d = 0 := by unfold arC; (repeat' split) <;> omega
          have hx : xKnight τ h v d = (3, 0, τ) := by unfold xKnight; rw [if_neg (by rw [hz]; decide)]; (repeat' split) <;> first | rfl | (exfalso; omega) | (exfalso; unfold arC at *; (repeat' split at *) <;> omega) | (exfalso; simp_all; done) | (simp_all [robS_n, robK_n]; done) | (exfalso; simp_all [mayU]; done) | (exfalso; simp_all; omega)
          exact hR.cvx [vI h, vI v] kX5_165 rfl rfl ⟨_, _, _, rfl, rfl, rfl⟩ (by decide) (by decide) (Nat.le_of_ble_eq_true rfl) rfl (sp_rMayv_x _ _ (by omega) (by omega) hb hh htu hrb q4) (by rw [hx]; rfl) (by unfold kKnight; rw [hx]; rfl)
      · have q3m : ¬ mayU τ 0 = true := by unfold mayU; simp_all
        have hz : arC h v d = 0 := by unfold arC; (repeat' split) <;> omega
        have hx : xKnight τ h v d = (3, 0, τ) := by unfold xKnight; rw [if_neg (by rw [hz]; decide)]; (repeat' split) <;> first | rfl | (exfalso; omega) | (exfalso; unfold arC at *; (repeat' split at *) <;> omega) | (exfalso; simp_all; done) | (simp_all [robS_n, robK_n]; done) | (exfalso; simp_all [mayU]; done) | (exfalso; simp_all; omega)
        exact hR.cvx [vI 0] kX5_200 rfl rfl ⟨_, _, _, rfl, rfl, rfl⟩ (by decide) (by decide) (Nat.le_of_ble_eq_true rfl) rfl (sp_rUsable0_x _ _ hph htu hcd hfr hus q3) (by rw [hx]; rfl) (by unfold kKnight; rw [hx]; rfl)
    · skip
      have hz : arC h v d = 2 := by unfold arC; (repeat' split) <;> omega
      have hx : xKnight τ h v d = (2, 0, τ) := by unfold xKnight; rw [if_pos (by rw [hz]; decide), hz]
      exact hR.csx [vI h, vI v, vI d] kX5_162 rfl rfl (by decide) (by decide) (Nat.le_of_ble_eq_true rfl) rfl (sp_rRobbery_xa _ (by omega) (by omega) (by omega) q1 q2) (by rw [hx]; rfl) (by unfold kKnight; rw [hx]; rfl)
  · skip
    have hz : arC h v d = 1 := by unfold arC; (repeat' split) <;> omega
    have hx : xKnight τ h v d = (1, 0, τ) := by unfold xKnight; rw [if_pos (by rw [hz]; decide), hz]
    exact hR.csx [vI h, vI v, vI d] kX5_162 rfl rfl (by decide) (by decide) (Nat.le_of_ble_eq_true rfl) rfl (sp_rRobbery_xi _ (by omega) (by omega) (by omega) q1) (by rw [hx]; rfl) (by unfold kKnight; rw [hx]; rfl)
theorem pX5_knight (τ κ : St) {h v d : Int} (hh0 : -2147483648 ≤ h ∧ h ≤ 2147483647) (hv0 : -2147483648 ≤ v ∧ v ≤ 2147483647) (hd0 : -2147483648 ≤ d ∧ d ≤ 2147483647) (hI : Iv τ) : Sp mX5_knight roC 5 [vR 0, vI h, vI v, vI d] (cW τ κ) (oc eIAS (xKnight τ h v d)) (cW (xKnight τ h v d).2.2 (kKnight κ τ h v d)) := by
  by_cases e : v = -1
  · subst e
    exact pX5_knight_n τ κ hh0 hd0 hI
  · exact pX5_knight_v τ κ hh0 hv0 hd0 e hI
theorem pX5_plenty (τ κ : St) {a b : Int} (ha : -2147483648 ≤ a ∧ a ≤ 2147483647) (hb : -2147483648 ≤ b ∧ b ≤ 2147483647) (hI : Iv τ)  : Sp mX5_plenty roC 4 [vR 0, vI a, vI b] (cW τ κ) (oc eAS (xPlenty τ a b)) (cW (xPlenty τ a b).2.2 (kPlenty κ τ a b)) := by
  have hb := hI.hb
  have hr := hI.hr
  have hg := hI.hg
  have hn := hI.hn
  have h7 := hI.h7
  have hh := hI.hh
  have hsm := hI.hsm
  have hcd := hI.hcd
  have hfr := hI.hfr
  have hkn := hI.hkn
  have hbo := hI.hbo
  have hus := hI.hus
  have hro := hI.hro
  have har := hI.har
  have hth := hI.hth
  have hph := hI.hph
  have htu := hI.htu
  have hrb := hI.hrb
  have hpl := hI.hpl
  have hdu := hI.hdu
  have hdp := hI.hdp
  have hof := hI.hof
  have how := hI.how
  have hga := hI.hga
  have hwa := hI.hwa
  have hck := hI.hck
  have hkz := hI.hkz
  have hcb := hI.hcb
  have hfb := hI.hfb
  have hnr := hI.hnr
  have hpq := hI.hpq
  have hrc := hI.hrc
  have hbc := hI.hbc
  have hcc := hI.hcc
  have hac := hI.hac
  refine Sp.of (lk := lkX5) (tb := bX5_plenty) (by decide) lkX5_ok tX5_plenty (cW_keys _ _ _ _) (Nat.le_of_ble_eq_true rfl) (fun G hR => ?_)
  refine hR.run0 1 (S' := (1, [some (vR 0), some (vI a), some (vI b), none], [vI a], cW τ κ)) rfl ?_
  by_cases q1 : 0 ≤ a ∧ a < 5
  · skip
    refine hR.cs [vI a] kX5_211 rfl rfl (by first | decide | exact Nat.le_refl _) (by decide) (Nat.le_of_ble_eq_true rfl) rfl (sp_rGood_ok _ (by omega) q1) ?_
    show G (4, [some (vR 0), some (vI a), some (vI b), none], [], cW τ κ)
    refine hR.run0 1 (S' := (5, [some (vR 0), some (vI a), some (vI b), none], [vI b], cW τ κ)) rfl ?_
    by_cases q2 : 0 ≤ b ∧ b < 5
    · skip
      refine hR.cs [vI b] kX5_211 rfl rfl (by first | decide | exact Nat.le_refl _) (by decide) (Nat.le_of_ble_eq_true rfl) rfl (sp_rGood_ok _ (by omega) q2) ?_
      show G (8, [some (vR 0), some (vI a), some (vI b), none], [], cW τ κ)
      refine hR.run0 2 (S' := (10, [some (vR 0), some (vI a), some (vI b), none], [vI 2, vR 0], cW τ κ)) rfl ?_
      by_cases q3 : (τ.1 0 = 1 ∨ τ.1 0 = 2) ∧ canU τ (τ.1 1) 2 = true
      · have q3u := q3.2
        have q3m : mayU τ 2 = true := by unfold mayU; simp_all
        refine hR.cv [vI 2] kX5_200 rfl rfl ⟨_, _, _, rfl, rfl, rfl⟩ (by first | decide | exact Nat.le_refl _) (by decide) (Nat.le_of_ble_eq_true rfl) rfl (sp_rUsable2_ok _ _ hph htu hcd hfr hus q3) ?_
        show G (13, [some (vR 0), some (vI a), some (vI b), none], [], cW τ κ)
        refine hR.run0 1 (S' := (14, [some (vR 0), some (vI a), some (vI b), none], [vI a], cW τ κ)) rfl ?_
        have f1 := sgl_r a
        refine hR.cs [vI a] kX5_214 rfl rfl (by first | decide | exact Nat.le_refl _) (by decide) (Nat.le_of_ble_eq_true rfl) rfl (sp_single _ _ (by omega)) ?_
        show G (17, [some (vR 0), some (vI a), some (vI b), none], [vI (sgl a)], cW τ κ)
        refine hR.run0 1 (S' := (18, [some (vR 0), some (vI a), some (vI b), none], [vI b, vI (sgl a)], cW τ κ)) rfl ?_
        have f2 := sgl_r b
        refine hR.cs [vI b] kX5_214 rfl rfl (by first | decide | exact Nat.le_refl _) (by decide) (Nat.le_of_ble_eq_true rfl) rfl (sp_single _ _ (by omega)) ?_
        show G (21, [some (vR 0), some (vI a), some (vI b), none], [vI (sgl b), vI (sgl a)], cW τ κ)
        refine hR.run0 5 (S' := (26, [some (vR 0), some (vI a), some (vI b), some (vI ((sgl a) + (sgl b)))], [vI ((sgl a) + (sgl b)), vI 3, vR 0], cW τ κ)) rfl ?_
        by_cases q4 : hasG (τ.2.2 0) 3 ((sgl a) + (sgl b)) = true
        · skip
          refine hR.cv [vI 3, vI ((sgl a) + (sgl b))] kX5_132 rfl rfl ⟨_, _, _, rfl, rfl, rfl⟩ (by first | decide | exact Nat.le_refl _) (by decide) (Nat.le_of_ble_eq_true rfl) rfl (sp_rHas_ok _ _ (by omega) (by omega) hh q4) ?_
          show G (29, [some (vR 0), some (vI a), some (vI b), some (vI ((sgl a) + (sgl b)))], [], cW τ κ)
          refine hR.run0 5 (S' := (38, [some (vR 0), some (vI a), some (vI b), some (vI ((sgl a) + (sgl b)))], [vI 2, vI (τ.1 1), vR 50], cW τ κ)) rfl ?_
          refine hR.cv [vI (τ.1 1), vI 2] kX5_203 rfl rfl ⟨_, _, _, rfl, rfl, rfl⟩ (by first | decide | exact Nat.le_refl _) (by decide) (Nat.le_of_ble_eq_true rfl) rfl (sp_use2 _ _ (by omega)) ?_
          show G (41, [some (vR 0), some (vI a), some (vI b), some (vI ((sgl a) + (sgl b)))], [], cW (usS τ (τ.1 1) 2) κ)
          have hut : (usS τ (τ.1 1) 2).1 1 = τ.1 1 := usS_1 _ _ _ _ (by decide) (by decide)
          refine hR.run0 6 (S' := (51, [some (vR 0), some (vI a), some (vI b), some (vI ((sgl a) + (sgl b)))], [vI ((sgl a) + (sgl b)), vI ((usS τ (τ.1 1) 2).1 1), vI 3, vR 10], cW (usS τ (τ.1 1) 2) κ)) rfl ?_
          rw [usS_1 _ _ _ _ (by decide) (by decide)]
          refine hR.cv [vI 3, vI (τ.1 1), vI ((sgl a) + (sgl b))] kX5_135 rfl rfl ⟨_, _, _, rfl, rfl, rfl⟩ (by first | decide | exact Nat.le_refl _) (by decide) (Nat.le_of_ble_eq_true rfl) rfl (sp_moveAll _ _ (by omega) (by omega) (by omega)) ?_
          show G (54, [some (vR 0), some (vI a), some (vI b), some (vI ((sgl a) + (sgl b)))], [], cW (mvA (usS τ (τ.1 1) 2) 3 (τ.1 1) ((sgl a) + (sgl b))) (mvAK κ 3 (τ.1 1) ((sgl a) + (sgl b))))
          refine hR.run0 4 (S' := (62, [some (vR 0), some (vI a), some (vI b), some (vI ((sgl a) + (sgl b)))], [vI ((usS τ (τ.1 1) 2).1 1), vR 10], cW (mvA (usS τ (τ.1 1) 2) 3 (τ.1 1) ((sgl a) + (sgl b))) (mvAK κ 3 (τ.1 1) ((sgl a) + (sgl b))))) rfl ?_
          rw [usS_1 _ _ _ _ (by decide) (by decide)]
          refine hR.cv [vI (τ.1 1)] kX5_138 rfl rfl ⟨_, _, _, rfl, rfl, rfl⟩ (by first | decide | exact Nat.le_refl _) (by decide) (Nat.le_of_ble_eq_true rfl) rfl (sp_total _ _ (by omega) (HH_mvA (by rw [usS_3]; exact hI.hH) (by omega) (by omega) (by rw [usS_3]; assumption)).1) ?_
          show G (65, [some (vR 0), some (vI a), some (vI b), some (vI ((sgl a) + (sgl b)))], [vI (tot ((mvA (usS τ (τ.1 1) 2) 3 (τ.1 1) ((sgl a) + (sgl b))).2.2 0) (τ.1 1))], cW (mvA (usS τ (τ.1 1) 2) 3 (τ.1 1) ((sgl a) + (sgl b))) (mvAK κ 3 (τ.1 1) ((sgl a) + (sgl b))))
          have hx : xPlenty τ a b = (0, tot ((mvA (usS τ (τ.1 1) 2) 3 (τ.1 1) ((sgl a) + (sgl b))).2.2 0) (τ.1 1), mvA (usS τ (τ.1 1) 2) 3 (τ.1 1) ((sgl a) + (sgl b))) := by unfold xPlenty; (repeat' split) <;> first | rfl | (exfalso; omega) | (exfalso; simp_all; done) | (simp_all; done) | (exfalso; simp_all; omega)
          exact hR.rt rfl trivial (by rw [hx]; rfl) (by unfold kPlenty; rw [hx]; rfl)
        · skip
          have hx : xPlenty τ a b = (2, 0, τ) := by unfold xPlenty; (repeat' split) <;> first | rfl | (exfalso; omega) | (exfalso; simp_all; done) | (simp_all; done) | (exfalso; simp_all; omega)
          exact hR.cvx [vI 3, vI ((sgl a) + (sgl b))] kX5_132 rfl rfl ⟨_, _, _, rfl, rfl, rfl⟩ (by decide) (by decide) (Nat.le_of_ble_eq_true rfl) rfl (sp_rHas_x _ _ (by omega) (by omega) hh q4) (by rw [hx]; rfl) (by unfold kPlenty; rw [hx]; rfl)
      · have q3m : ¬ mayU τ 2 = true := by unfold mayU; simp_all
        have hx : xPlenty τ a b = (2, 0, τ) := by unfold xPlenty; (repeat' split) <;> first | rfl | (exfalso; omega) | (exfalso; simp_all; done) | (simp_all; done) | (exfalso; simp_all; omega)
        exact hR.cvx [vI 2] kX5_200 rfl rfl ⟨_, _, _, rfl, rfl, rfl⟩ (by decide) (by decide) (Nat.le_of_ble_eq_true rfl) rfl (sp_rUsable2_x _ _ hph htu hcd hfr hus q3) (by rw [hx]; rfl) (by unfold kPlenty; rw [hx]; rfl)
    · skip
      have hx : xPlenty τ a b = (1, 0, τ) := by unfold xPlenty; (repeat' split) <;> first | rfl | (exfalso; omega) | (exfalso; simp_all; done) | (simp_all; done) | (exfalso; simp_all; omega)
      exact hR.csx [vI b] kX5_211 rfl rfl (by decide) (by decide) (Nat.le_of_ble_eq_true rfl) rfl (sp_rGood_x _ (by omega) q2) (by rw [hx]; rfl) (by unfold kPlenty; rw [hx]; rfl)
  · skip
    have hx : xPlenty τ a b = (1, 0, τ) := by unfold xPlenty; (repeat' split) <;> first | rfl | (exfalso; omega) | (exfalso; simp_all; done) | (simp_all; done) | (exfalso; simp_all; omega)
    exact hR.csx [vI a] kX5_211 rfl rfl (by decide) (by decide) (Nat.le_of_ble_eq_true rfl) rfl (sp_rGood_x _ (by omega) q1) (by rw [hx]; rfl) (by unfold kPlenty; rw [hx]; rfl)
theorem pX5_monopoly (τ κ : St) {g : Int} (hg0 : -2147483648 ≤ g ∧ g ≤ 2147483647) (hI : Iv τ)  : Sp mX5_monopoly roC 3 [vR 0, vI g] (cW τ κ) (oc eAS (xMono τ g)) (cW (xMono τ g).2.2 (kMono κ τ g)) := by
  have hb := hI.hb
  have hr := hI.hr
  have hg := hI.hg
  have hn := hI.hn
  have h7 := hI.h7
  have hh := hI.hh
  have hsm := hI.hsm
  have hcd := hI.hcd
  have hfr := hI.hfr
  have hkn := hI.hkn
  have hbo := hI.hbo
  have hus := hI.hus
  have hro := hI.hro
  have har := hI.har
  have hth := hI.hth
  have hph := hI.hph
  have htu := hI.htu
  have hrb := hI.hrb
  have hpl := hI.hpl
  have hdu := hI.hdu
  have hdp := hI.hdp
  have hof := hI.hof
  have how := hI.how
  have hga := hI.hga
  have hwa := hI.hwa
  have hck := hI.hck
  have hkz := hI.hkz
  have hcb := hI.hcb
  have hfb := hI.hfb
  have hnr := hI.hnr
  have hpq := hI.hpq
  have hrc := hI.hrc
  have hbc := hI.hbc
  have hcc := hI.hcc
  have hac := hI.hac
  refine Sp.of (lk := lkX5) (tb := bX5_monopoly) (by decide) lkX5_ok tX5_monopoly (cW_keys _ _ _ _) (Nat.le_of_ble_eq_true rfl) (fun G hR => ?_)
  refine hR.run0 1 (S' := (1, [some (vR 0), some (vI g), none, none, none], [vI g], cW τ κ)) rfl ?_
  by_cases q1 : 0 ≤ g ∧ g < 5
  · skip
    refine hR.cs [vI g] kX5_211 rfl rfl (by first | decide | exact Nat.le_refl _) (by decide) (Nat.le_of_ble_eq_true rfl) rfl (sp_rGood_ok _ (by omega) q1) ?_
    show G (4, [some (vR 0), some (vI g), none, none, none], [], cW τ κ)
    refine hR.run0 2 (S' := (6, [some (vR 0), some (vI g), none, none, none], [vI 3, vR 0], cW τ κ)) rfl ?_
    by_cases q2 : (τ.1 0 = 1 ∨ τ.1 0 = 2) ∧ canU τ (τ.1 1) 3 = true
    · have q2u := q2.2
      have q2m : mayU τ 3 = true := by unfold mayU; simp_all
      refine hR.cv [vI 3] kX5_200 rfl rfl ⟨_, _, _, rfl, rfl, rfl⟩ (by first | decide | exact Nat.le_refl _) (by decide) (Nat.le_of_ble_eq_true rfl) rfl (sp_rUsable3_ok _ _ hph htu hcd hfr hus q2) ?_
      show G (9, [some (vR 0), some (vI g), none, none, none], [], cW τ κ)
      refine hR.run0 5 (S' := (18, [some (vR 0), some (vI g), none, none, none], [vI 3, vI (τ.1 1), vR 50], cW τ κ)) rfl ?_
      refine hR.cv [vI (τ.1 1), vI 3] kX5_203 rfl rfl ⟨_, _, _, rfl, rfl, rfl⟩ (by first | decide | exact Nat.le_refl _) (by decide) (Nat.le_of_ble_eq_true rfl) rfl (sp_use3 _ _ (by omega)) ?_
      show G (21, [some (vR 0), some (vI g), none, none, none], [], cW (usS τ (τ.1 1) 3) κ)
      have hut : (usS τ (τ.1 1) 3).1 1 = τ.1 1 := usS_1 _ _ _ _ (by decide) (by decide)
      refine hR.run0 6 (S' := (27, [some (vR 0), some (vI g), some (vI 0), some (vI 0), none], [vI 3, vI 0], cW (usS τ (τ.1 1) 3) κ)) rfl ?_
      refine hR.br (C := 3 ≤ 0) rfl (by first | omega | (dsimp only; omega) | (simp [sHt, sH, sS, sAt, sA, sup]; done) | (simp [sHt, sH, sS, sAt, sA, sup]; omega)) (fun c3 => ?_) (fun c3 => ?_)
      · exfalso; omega
      refine hR.run0 3 (S' := (35, [some (vR 0), some (vI g), some (vI 0), some (vI 0), none], [vI ((usS τ (τ.1 1) 3).1 1), vI 0], cW (usS τ (τ.1 1) 3) κ)) rfl ?_
      refine hR.br (C := 0 = (usS τ (τ.1 1) 3).1 1) rfl (by first | omega | (dsimp only; omega) | (simp [sHt, sH, sS, sAt, sA, sup]; done) | (simp [sHt, sH, sS, sAt, sA, sup]; omega)) (fun c4 => ?_) (fun c4 => ?_)
      · skip
        refine hR.run0 4 (S' := (27, [some (vR 0), some (vI g), some (vI 0), some (vI 1), none], [vI 3, vI 1], cW (usS τ (τ.1 1) 3) κ)) rfl ?_
        refine hR.br (C := 3 ≤ 1) rfl (by first | omega | (dsimp only; omega) | (simp [sHt, sH, sS, sAt, sA, sup]; done) | (simp [sHt, sH, sS, sAt, sA, sup]; omega)) (fun c5 => ?_) (fun c5 => ?_)
        · exfalso; omega
        refine hR.run0 3 (S' := (35, [some (vR 0), some (vI g), some (vI 0), some (vI 1), none], [vI ((usS τ (τ.1 1) 3).1 1), vI 1], cW (usS τ (τ.1 1) 3) κ)) rfl ?_
        refine hR.br (C := 1 = (usS τ (τ.1 1) 3).1 1) rfl (by first | omega | (dsimp only; omega) | (simp [sHt, sH, sS, sAt, sA, sup]; done) | (simp [sHt, sH, sS, sAt, sA, sup]; omega)) (fun c6 => ?_) (fun c6 => ?_)
        · exfalso; omega
        refine hR.run0 4 (S' := (44, [some (vR 0), some (vI g), some (vI 0), some (vI 1), none], [vI g, vI 1, vR 10], cW (usS τ (τ.1 1) 3) κ)) rfl ?_
        have f1 := hh 1 g
        refine hR.cv [vI 1, vI g] kX5_217 rfl rfl ⟨_, _, _, rfl, rfl, rfl⟩ (by first | decide | exact Nat.le_refl _) (by decide) (Nat.le_of_ble_eq_true rfl) rfl (sp_count _ _ (by omega) (by omega)) ?_
        show G (47, [some (vR 0), some (vI g), some (vI 0), some (vI 1), none], [vI ((usS τ (τ.1 1) 3).2.2 0 1 g)], cW (usS τ (τ.1 1) 3) κ)
        refine hR.run0 8 (S' := (61, [some (vR 0), some (vI g), some (vI 0), some (vI 1), some (vI ((usS τ (τ.1 1) 3).2.2 0 1 g))], [vI ((usS τ (τ.1 1) 3).2.2 0 1 g), vI g, vI ((usS τ (τ.1 1) 3).1 1), vI 1, vR 10], cW (usS τ (τ.1 1) 3) κ)) rfl ?_
        rw [usS_1 _ _ _ _ (by decide) (by decide)]
        refine hR.cv [vI 1, vI (τ.1 1), vI g, vI ((usS τ (τ.1 1) 3).2.2 0 1 g)] kX5_221 rfl rfl ⟨_, _, _, rfl, rfl, rfl⟩ (by first | decide | exact Nat.le_refl _) (by decide) (Nat.le_of_ble_eq_true rfl) rfl (sp_move _ _ _ (by omega) (by omega) (by omega)) ?_
        show G (64, [some (vR 0), some (vI g), some (vI 0), some (vI 1), some (vI ((usS τ (τ.1 1) 3).2.2 0 1 g))], [], cW (mvS (usS τ (τ.1 1) 3) 1 (τ.1 1) g ((usS τ (τ.1 1) 3).2.2 0 1 g)) (mvK κ 1 (τ.1 1) g ((usS τ (τ.1 1) 3).2.2 0 1 g)))
        refine hR.run0 8 (S' := (27, [some (vR 0), some (vI g), some (vI (0 + ((usS τ (τ.1 1) 3).2.2 0 1 g))), some (vI 2), some (vI ((usS τ (τ.1 1) 3).2.2 0 1 g))], [vI 3, vI 2], cW (mvS (usS τ (τ.1 1) 3) 1 (τ.1 1) g ((usS τ (τ.1 1) 3).2.2 0 1 g)) (mvK κ 1 (τ.1 1) g ((usS τ (τ.1 1) 3).2.2 0 1 g)))) rfl ?_
        refine hR.br (C := 3 ≤ 2) rfl (by first | omega | (dsimp only; omega) | (simp [sHt, sH, sS, sAt, sA, sup]; done) | (simp [sHt, sH, sS, sAt, sA, sup]; omega)) (fun c7 => ?_) (fun c7 => ?_)
        · exfalso; omega
        refine hR.run0 3 (S' := (35, [some (vR 0), some (vI g), some (vI (0 + ((usS τ (τ.1 1) 3).2.2 0 1 g))), some (vI 2), some (vI ((usS τ (τ.1 1) 3).2.2 0 1 g))], [vI ((usS τ (τ.1 1) 3).1 1), vI 2], cW (mvS (usS τ (τ.1 1) 3) 1 (τ.1 1) g ((usS τ (τ.1 1) 3).2.2 0 1 g)) (mvK κ 1 (τ.1 1) g ((usS τ (τ.1 1) 3).2.2 0 1 g)))) rfl ?_
        refine hR.br (C := 2 = (usS τ (τ.1 1) 3).1 1) rfl (by first | omega | (dsimp only; omega) | (simp [sHt, sH, sS, sAt, sA, sup]; done) | (simp [sHt, sH, sS, sAt, sA, sup]; omega)) (fun c8 => ?_) (fun c8 => ?_)
        · exfalso; omega
        refine hR.run0 4 (S' := (44, [some (vR 0), some (vI g), some (vI (0 + ((usS τ (τ.1 1) 3).2.2 0 1 g))), some (vI 2), some (vI ((usS τ (τ.1 1) 3).2.2 0 1 g))], [vI g, vI 2, vR 10], cW (mvS (usS τ (τ.1 1) 3) 1 (τ.1 1) g ((usS τ (τ.1 1) 3).2.2 0 1 g)) (mvK κ 1 (τ.1 1) g ((usS τ (τ.1 1) 3).2.2 0 1 g)))) rfl ?_
        have f2 := hh 2 g
        refine hR.cv [vI 2, vI g] kX5_217 rfl rfl ⟨_, _, _, rfl, rfl, rfl⟩ (by first | decide | exact Nat.le_refl _) (by decide) (Nat.le_of_ble_eq_true rfl) rfl (sp_count _ _ (by omega) (by omega)) ?_
        show G (47, [some (vR 0), some (vI g), some (vI (0 + ((usS τ (τ.1 1) 3).2.2 0 1 g))), some (vI 2), some (vI ((usS τ (τ.1 1) 3).2.2 0 1 g))], [vI ((mvS (usS τ (τ.1 1) 3) 1 (τ.1 1) g ((usS τ (τ.1 1) 3).2.2 0 1 g)).2.2 0 2 g)], cW (mvS (usS τ (τ.1 1) 3) 1 (τ.1 1) g ((usS τ (τ.1 1) 3).2.2 0 1 g)) (mvK κ 1 (τ.1 1) g ((usS τ (τ.1 1) 3).2.2 0 1 g)))
        refine hR.run0 8 (S' := (61, [some (vR 0), some (vI g), some (vI (0 + ((usS τ (τ.1 1) 3).2.2 0 1 g))), some (vI 2), some (vI ((mvS (usS τ (τ.1 1) 3) 1 (τ.1 1) g ((usS τ (τ.1 1) 3).2.2 0 1 g)).2.2 0 2 g))], [vI ((mvS (usS τ (τ.1 1) 3) 1 (τ.1 1) g ((usS τ (τ.1 1) 3).2.2 0 1 g)).2.2 0 2 g), vI g, vI ((usS τ (τ.1 1) 3).1 1), vI 2, vR 10], cW (mvS (usS τ (τ.1 1) 3) 1 (τ.1 1) g ((usS τ (τ.1 1) 3).2.2 0 1 g)) (mvK κ 1 (τ.1 1) g ((usS τ (τ.1 1) 3).2.2 0 1 g)))) rfl ?_
        rw [usS_1 _ _ _ _ (by decide) (by decide)]
        refine hR.cv [vI 2, vI (τ.1 1), vI g, vI ((mvS (usS τ (τ.1 1) 3) 1 (τ.1 1) g ((usS τ (τ.1 1) 3).2.2 0 1 g)).2.2 0 2 g)] kX5_221 rfl rfl ⟨_, _, _, rfl, rfl, rfl⟩ (by first | decide | exact Nat.le_refl _) (by decide) (Nat.le_of_ble_eq_true rfl) rfl (sp_move _ _ _ (by omega) (by omega) (by omega)) ?_
        show G (64, [some (vR 0), some (vI g), some (vI (0 + ((usS τ (τ.1 1) 3).2.2 0 1 g))), some (vI 2), some (vI ((mvS (usS τ (τ.1 1) 3) 1 (τ.1 1) g ((usS τ (τ.1 1) 3).2.2 0 1 g)).2.2 0 2 g))], [], cW (mvS (mvS (usS τ (τ.1 1) 3) 1 (τ.1 1) g ((usS τ (τ.1 1) 3).2.2 0 1 g)) 2 (τ.1 1) g ((mvS (usS τ (τ.1 1) 3) 1 (τ.1 1) g ((usS τ (τ.1 1) 3).2.2 0 1 g)).2.2 0 2 g)) (mvK (mvK κ 1 (τ.1 1) g ((usS τ (τ.1 1) 3).2.2 0 1 g)) 2 (τ.1 1) g ((mvS (usS τ (τ.1 1) 3) 1 (τ.1 1) g ((usS τ (τ.1 1) 3).2.2 0 1 g)).2.2 0 2 g)))
        refine hR.run0 8 (S' := (27, [some (vR 0), some (vI g), some (vI ((0 + ((usS τ (τ.1 1) 3).2.2 0 1 g)) + ((mvS (usS τ (τ.1 1) 3) 1 (τ.1 1) g ((usS τ (τ.1 1) 3).2.2 0 1 g)).2.2 0 2 g))), some (vI 3), some (vI ((mvS (usS τ (τ.1 1) 3) 1 (τ.1 1) g ((usS τ (τ.1 1) 3).2.2 0 1 g)).2.2 0 2 g))], [vI 3, vI 3], cW (mvS (mvS (usS τ (τ.1 1) 3) 1 (τ.1 1) g ((usS τ (τ.1 1) 3).2.2 0 1 g)) 2 (τ.1 1) g ((mvS (usS τ (τ.1 1) 3) 1 (τ.1 1) g ((usS τ (τ.1 1) 3).2.2 0 1 g)).2.2 0 2 g)) (mvK (mvK κ 1 (τ.1 1) g ((usS τ (τ.1 1) 3).2.2 0 1 g)) 2 (τ.1 1) g ((mvS (usS τ (τ.1 1) 3) 1 (τ.1 1) g ((usS τ (τ.1 1) 3).2.2 0 1 g)).2.2 0 2 g)))) rfl ?_
        refine hR.br (C := 3 ≤ 3) rfl (by first | omega | (dsimp only; omega) | (simp [sHt, sH, sS, sAt, sA, sup]; done) | (simp [sHt, sH, sS, sAt, sA, sup]; omega)) (fun c9 => ?_) (fun c9 => ?_)
        · skip
          refine hR.run0 1 (S' := (76, [some (vR 0), some (vI g), some (vI ((0 + ((usS τ (τ.1 1) 3).2.2 0 1 g)) + ((mvS (usS τ (τ.1 1) 3) 1 (τ.1 1) g ((usS τ (τ.1 1) 3).2.2 0 1 g)).2.2 0 2 g))), some (vI 3), some (vI ((mvS (usS τ (τ.1 1) 3) 1 (τ.1 1) g ((usS τ (τ.1 1) 3).2.2 0 1 g)).2.2 0 2 g))], [vI ((0 + ((usS τ (τ.1 1) 3).2.2 0 1 g)) + ((mvS (usS τ (τ.1 1) 3) 1 (τ.1 1) g ((usS τ (τ.1 1) 3).2.2 0 1 g)).2.2 0 2 g))], cW (mvS (mvS (usS τ (τ.1 1) 3) 1 (τ.1 1) g ((usS τ (τ.1 1) 3).2.2 0 1 g)) 2 (τ.1 1) g ((mvS (usS τ (τ.1 1) 3) 1 (τ.1 1) g ((usS τ (τ.1 1) 3).2.2 0 1 g)).2.2 0 2 g)) (mvK (mvK κ 1 (τ.1 1) g ((usS τ (τ.1 1) 3).2.2 0 1 g)) 2 (τ.1 1) g ((mvS (usS τ (τ.1 1) 3) 1 (τ.1 1) g ((usS τ (τ.1 1) 3).2.2 0 1 g)).2.2 0 2 g)))) rfl ?_
          have hv : monV (usS τ (τ.1 1) 3) (τ.1 1) g = (0 + ((usS τ (τ.1 1) 3).2.2 0 1 g)) + ((mvS (usS τ (τ.1 1) 3) 1 (τ.1 1) g ((usS τ (τ.1 1) 3).2.2 0 1 g)).2.2 0 2 g) := by unfold monV; (repeat' split) <;> omega
          have hx : xMono τ g = (0, (0 + ((usS τ (τ.1 1) 3).2.2 0 1 g)) + ((mvS (usS τ (τ.1 1) 3) 1 (τ.1 1) g ((usS τ (τ.1 1) 3).2.2 0 1 g)).2.2 0 2 g), mvS (mvS (usS τ (τ.1 1) 3) 1 (τ.1 1) g ((usS τ (τ.1 1) 3).2.2 0 1 g)) 2 (τ.1 1) g ((mvS (usS τ (τ.1 1) 3) 1 (τ.1 1) g ((usS τ (τ.1 1) 3).2.2 0 1 g)).2.2 0 2 g)) := by unfold xMono; rw [if_neg (by omega), if_neg (by simp_all), hv]; unfold monS; (repeat' split) <;> first | rfl | (exfalso; omega)
          exact hR.rt rfl trivial (by rw [hx]; rfl) (by unfold kMono; rw [hx]; unfold monK; (repeat' split) <;> first | rfl | (exfalso; omega) | (exfalso; simp_all; done))
        · exfalso; omega
      · skip
        refine hR.run0 4 (S' := (44, [some (vR 0), some (vI g), some (vI 0), some (vI 0), none], [vI g, vI 0, vR 10], cW (usS τ (τ.1 1) 3) κ)) rfl ?_
        have f3 := hh 0 g
        refine hR.cv [vI 0, vI g] kX5_217 rfl rfl ⟨_, _, _, rfl, rfl, rfl⟩ (by first | decide | exact Nat.le_refl _) (by decide) (Nat.le_of_ble_eq_true rfl) rfl (sp_count _ _ (by omega) (by omega)) ?_
        show G (47, [some (vR 0), some (vI g), some (vI 0), some (vI 0), none], [vI ((usS τ (τ.1 1) 3).2.2 0 0 g)], cW (usS τ (τ.1 1) 3) κ)
        refine hR.run0 8 (S' := (61, [some (vR 0), some (vI g), some (vI 0), some (vI 0), some (vI ((usS τ (τ.1 1) 3).2.2 0 0 g))], [vI ((usS τ (τ.1 1) 3).2.2 0 0 g), vI g, vI ((usS τ (τ.1 1) 3).1 1), vI 0, vR 10], cW (usS τ (τ.1 1) 3) κ)) rfl ?_
        rw [usS_1 _ _ _ _ (by decide) (by decide)]
        refine hR.cv [vI 0, vI (τ.1 1), vI g, vI ((usS τ (τ.1 1) 3).2.2 0 0 g)] kX5_221 rfl rfl ⟨_, _, _, rfl, rfl, rfl⟩ (by first | decide | exact Nat.le_refl _) (by decide) (Nat.le_of_ble_eq_true rfl) rfl (sp_move _ _ _ (by omega) (by omega) (by omega)) ?_
        show G (64, [some (vR 0), some (vI g), some (vI 0), some (vI 0), some (vI ((usS τ (τ.1 1) 3).2.2 0 0 g))], [], cW (mvS (usS τ (τ.1 1) 3) 0 (τ.1 1) g ((usS τ (τ.1 1) 3).2.2 0 0 g)) (mvK κ 0 (τ.1 1) g ((usS τ (τ.1 1) 3).2.2 0 0 g)))
        refine hR.run0 8 (S' := (27, [some (vR 0), some (vI g), some (vI (0 + ((usS τ (τ.1 1) 3).2.2 0 0 g))), some (vI 1), some (vI ((usS τ (τ.1 1) 3).2.2 0 0 g))], [vI 3, vI 1], cW (mvS (usS τ (τ.1 1) 3) 0 (τ.1 1) g ((usS τ (τ.1 1) 3).2.2 0 0 g)) (mvK κ 0 (τ.1 1) g ((usS τ (τ.1 1) 3).2.2 0 0 g)))) rfl ?_
        refine hR.br (C := 3 ≤ 1) rfl (by first | omega | (dsimp only; omega) | (simp [sHt, sH, sS, sAt, sA, sup]; done) | (simp [sHt, sH, sS, sAt, sA, sup]; omega)) (fun c10 => ?_) (fun c10 => ?_)
        · exfalso; omega
        refine hR.run0 3 (S' := (35, [some (vR 0), some (vI g), some (vI (0 + ((usS τ (τ.1 1) 3).2.2 0 0 g))), some (vI 1), some (vI ((usS τ (τ.1 1) 3).2.2 0 0 g))], [vI ((usS τ (τ.1 1) 3).1 1), vI 1], cW (mvS (usS τ (τ.1 1) 3) 0 (τ.1 1) g ((usS τ (τ.1 1) 3).2.2 0 0 g)) (mvK κ 0 (τ.1 1) g ((usS τ (τ.1 1) 3).2.2 0 0 g)))) rfl ?_
        refine hR.br (C := 1 = (usS τ (τ.1 1) 3).1 1) rfl (by first | omega | (dsimp only; omega) | (simp [sHt, sH, sS, sAt, sA, sup]; done) | (simp [sHt, sH, sS, sAt, sA, sup]; omega)) (fun c11 => ?_) (fun c11 => ?_)
        · skip
          refine hR.run0 4 (S' := (27, [some (vR 0), some (vI g), some (vI (0 + ((usS τ (τ.1 1) 3).2.2 0 0 g))), some (vI 2), some (vI ((usS τ (τ.1 1) 3).2.2 0 0 g))], [vI 3, vI 2], cW (mvS (usS τ (τ.1 1) 3) 0 (τ.1 1) g ((usS τ (τ.1 1) 3).2.2 0 0 g)) (mvK κ 0 (τ.1 1) g ((usS τ (τ.1 1) 3).2.2 0 0 g)))) rfl ?_
          refine hR.br (C := 3 ≤ 2) rfl (by first | omega | (dsimp only; omega) | (simp [sHt, sH, sS, sAt, sA, sup]; done) | (simp [sHt, sH, sS, sAt, sA, sup]; omega)) (fun c12 => ?_) (fun c12 => ?_)
          · exfalso; omega
          refine hR.run0 3 (S' := (35, [some (vR 0), some (vI g), some (vI (0 + ((usS τ (τ.1 1) 3).2.2 0 0 g))), some (vI 2), some (vI ((usS τ (τ.1 1) 3).2.2 0 0 g))], [vI ((usS τ (τ.1 1) 3).1 1), vI 2], cW (mvS (usS τ (τ.1 1) 3) 0 (τ.1 1) g ((usS τ (τ.1 1) 3).2.2 0 0 g)) (mvK κ 0 (τ.1 1) g ((usS τ (τ.1 1) 3).2.2 0 0 g)))) rfl ?_
          refine hR.br (C := 2 = (usS τ (τ.1 1) 3).1 1) rfl (by first | omega | (dsimp only; omega) | (simp [sHt, sH, sS, sAt, sA, sup]; done) | (simp [sHt, sH, sS, sAt, sA, sup]; omega)) (fun c13 => ?_) (fun c13 => ?_)
          · exfalso; omega
          refine hR.run0 4 (S' := (44, [some (vR 0), some (vI g), some (vI (0 + ((usS τ (τ.1 1) 3).2.2 0 0 g))), some (vI 2), some (vI ((usS τ (τ.1 1) 3).2.2 0 0 g))], [vI g, vI 2, vR 10], cW (mvS (usS τ (τ.1 1) 3) 0 (τ.1 1) g ((usS τ (τ.1 1) 3).2.2 0 0 g)) (mvK κ 0 (τ.1 1) g ((usS τ (τ.1 1) 3).2.2 0 0 g)))) rfl ?_
          have f4 := hh 2 g
          refine hR.cv [vI 2, vI g] kX5_217 rfl rfl ⟨_, _, _, rfl, rfl, rfl⟩ (by first | decide | exact Nat.le_refl _) (by decide) (Nat.le_of_ble_eq_true rfl) rfl (sp_count _ _ (by omega) (by omega)) ?_
          show G (47, [some (vR 0), some (vI g), some (vI (0 + ((usS τ (τ.1 1) 3).2.2 0 0 g))), some (vI 2), some (vI ((usS τ (τ.1 1) 3).2.2 0 0 g))], [vI ((mvS (usS τ (τ.1 1) 3) 0 (τ.1 1) g ((usS τ (τ.1 1) 3).2.2 0 0 g)).2.2 0 2 g)], cW (mvS (usS τ (τ.1 1) 3) 0 (τ.1 1) g ((usS τ (τ.1 1) 3).2.2 0 0 g)) (mvK κ 0 (τ.1 1) g ((usS τ (τ.1 1) 3).2.2 0 0 g)))
          refine hR.run0 8 (S' := (61, [some (vR 0), some (vI g), some (vI (0 + ((usS τ (τ.1 1) 3).2.2 0 0 g))), some (vI 2), some (vI ((mvS (usS τ (τ.1 1) 3) 0 (τ.1 1) g ((usS τ (τ.1 1) 3).2.2 0 0 g)).2.2 0 2 g))], [vI ((mvS (usS τ (τ.1 1) 3) 0 (τ.1 1) g ((usS τ (τ.1 1) 3).2.2 0 0 g)).2.2 0 2 g), vI g, vI ((usS τ (τ.1 1) 3).1 1), vI 2, vR 10], cW (mvS (usS τ (τ.1 1) 3) 0 (τ.1 1) g ((usS τ (τ.1 1) 3).2.2 0 0 g)) (mvK κ 0 (τ.1 1) g ((usS τ (τ.1 1) 3).2.2 0 0 g)))) rfl ?_
          rw [usS_1 _ _ _ _ (by decide) (by decide)]
          refine hR.cv [vI 2, vI (τ.1 1), vI g, vI ((mvS (usS τ (τ.1 1) 3) 0 (τ.1 1) g ((usS τ (τ.1 1) 3).2.2 0 0 g)).2.2 0 2 g)] kX5_221 rfl rfl ⟨_, _, _, rfl, rfl, rfl⟩ (by first | decide | exact Nat.le_refl _) (by decide) (Nat.le_of_ble_eq_true rfl) rfl (sp_move _ _ _ (by omega) (by omega) (by omega)) ?_
          show G (64, [some (vR 0), some (vI g), some (vI (0 + ((usS τ (τ.1 1) 3).2.2 0 0 g))), some (vI 2), some (vI ((mvS (usS τ (τ.1 1) 3) 0 (τ.1 1) g ((usS τ (τ.1 1) 3).2.2 0 0 g)).2.2 0 2 g))], [], cW (mvS (mvS (usS τ (τ.1 1) 3) 0 (τ.1 1) g ((usS τ (τ.1 1) 3).2.2 0 0 g)) 2 (τ.1 1) g ((mvS (usS τ (τ.1 1) 3) 0 (τ.1 1) g ((usS τ (τ.1 1) 3).2.2 0 0 g)).2.2 0 2 g)) (mvK (mvK κ 0 (τ.1 1) g ((usS τ (τ.1 1) 3).2.2 0 0 g)) 2 (τ.1 1) g ((mvS (usS τ (τ.1 1) 3) 0 (τ.1 1) g ((usS τ (τ.1 1) 3).2.2 0 0 g)).2.2 0 2 g)))
          refine hR.run0 8 (S' := (27, [some (vR 0), some (vI g), some (vI ((0 + ((usS τ (τ.1 1) 3).2.2 0 0 g)) + ((mvS (usS τ (τ.1 1) 3) 0 (τ.1 1) g ((usS τ (τ.1 1) 3).2.2 0 0 g)).2.2 0 2 g))), some (vI 3), some (vI ((mvS (usS τ (τ.1 1) 3) 0 (τ.1 1) g ((usS τ (τ.1 1) 3).2.2 0 0 g)).2.2 0 2 g))], [vI 3, vI 3], cW (mvS (mvS (usS τ (τ.1 1) 3) 0 (τ.1 1) g ((usS τ (τ.1 1) 3).2.2 0 0 g)) 2 (τ.1 1) g ((mvS (usS τ (τ.1 1) 3) 0 (τ.1 1) g ((usS τ (τ.1 1) 3).2.2 0 0 g)).2.2 0 2 g)) (mvK (mvK κ 0 (τ.1 1) g ((usS τ (τ.1 1) 3).2.2 0 0 g)) 2 (τ.1 1) g ((mvS (usS τ (τ.1 1) 3) 0 (τ.1 1) g ((usS τ (τ.1 1) 3).2.2 0 0 g)).2.2 0 2 g)))) rfl ?_
          refine hR.br (C := 3 ≤ 3) rfl (by first | omega | (dsimp only; omega) | (simp [sHt, sH, sS, sAt, sA, sup]; done) | (simp [sHt, sH, sS, sAt, sA, sup]; omega)) (fun c14 => ?_) (fun c14 => ?_)
          · skip
            refine hR.run0 1 (S' := (76, [some (vR 0), some (vI g), some (vI ((0 + ((usS τ (τ.1 1) 3).2.2 0 0 g)) + ((mvS (usS τ (τ.1 1) 3) 0 (τ.1 1) g ((usS τ (τ.1 1) 3).2.2 0 0 g)).2.2 0 2 g))), some (vI 3), some (vI ((mvS (usS τ (τ.1 1) 3) 0 (τ.1 1) g ((usS τ (τ.1 1) 3).2.2 0 0 g)).2.2 0 2 g))], [vI ((0 + ((usS τ (τ.1 1) 3).2.2 0 0 g)) + ((mvS (usS τ (τ.1 1) 3) 0 (τ.1 1) g ((usS τ (τ.1 1) 3).2.2 0 0 g)).2.2 0 2 g))], cW (mvS (mvS (usS τ (τ.1 1) 3) 0 (τ.1 1) g ((usS τ (τ.1 1) 3).2.2 0 0 g)) 2 (τ.1 1) g ((mvS (usS τ (τ.1 1) 3) 0 (τ.1 1) g ((usS τ (τ.1 1) 3).2.2 0 0 g)).2.2 0 2 g)) (mvK (mvK κ 0 (τ.1 1) g ((usS τ (τ.1 1) 3).2.2 0 0 g)) 2 (τ.1 1) g ((mvS (usS τ (τ.1 1) 3) 0 (τ.1 1) g ((usS τ (τ.1 1) 3).2.2 0 0 g)).2.2 0 2 g)))) rfl ?_
            have hv : monV (usS τ (τ.1 1) 3) (τ.1 1) g = (0 + ((usS τ (τ.1 1) 3).2.2 0 0 g)) + ((mvS (usS τ (τ.1 1) 3) 0 (τ.1 1) g ((usS τ (τ.1 1) 3).2.2 0 0 g)).2.2 0 2 g) := by unfold monV; (repeat' split) <;> omega
            have hx : xMono τ g = (0, (0 + ((usS τ (τ.1 1) 3).2.2 0 0 g)) + ((mvS (usS τ (τ.1 1) 3) 0 (τ.1 1) g ((usS τ (τ.1 1) 3).2.2 0 0 g)).2.2 0 2 g), mvS (mvS (usS τ (τ.1 1) 3) 0 (τ.1 1) g ((usS τ (τ.1 1) 3).2.2 0 0 g)) 2 (τ.1 1) g ((mvS (usS τ (τ.1 1) 3) 0 (τ.1 1) g ((usS τ (τ.1 1) 3).2.2 0 0 g)).2.2 0 2 g)) := by unfold xMono; rw [if_neg (by omega), if_neg (by simp_all), hv]; unfold monS; (repeat' split) <;> first | rfl | (exfalso; omega)
            exact hR.rt rfl trivial (by rw [hx]; rfl) (by unfold kMono; rw [hx]; unfold monK; (repeat' split) <;> first | rfl | (exfalso; omega) | (exfalso; simp_all; done))
          · exfalso; omega
        · skip
          refine hR.run0 4 (S' := (44, [some (vR 0), some (vI g), some (vI (0 + ((usS τ (τ.1 1) 3).2.2 0 0 g))), some (vI 1), some (vI ((usS τ (τ.1 1) 3).2.2 0 0 g))], [vI g, vI 1, vR 10], cW (mvS (usS τ (τ.1 1) 3) 0 (τ.1 1) g ((usS τ (τ.1 1) 3).2.2 0 0 g)) (mvK κ 0 (τ.1 1) g ((usS τ (τ.1 1) 3).2.2 0 0 g)))) rfl ?_
          have f5 := hh 1 g
          refine hR.cv [vI 1, vI g] kX5_217 rfl rfl ⟨_, _, _, rfl, rfl, rfl⟩ (by first | decide | exact Nat.le_refl _) (by decide) (Nat.le_of_ble_eq_true rfl) rfl (sp_count _ _ (by omega) (by omega)) ?_
          show G (47, [some (vR 0), some (vI g), some (vI (0 + ((usS τ (τ.1 1) 3).2.2 0 0 g))), some (vI 1), some (vI ((usS τ (τ.1 1) 3).2.2 0 0 g))], [vI ((mvS (usS τ (τ.1 1) 3) 0 (τ.1 1) g ((usS τ (τ.1 1) 3).2.2 0 0 g)).2.2 0 1 g)], cW (mvS (usS τ (τ.1 1) 3) 0 (τ.1 1) g ((usS τ (τ.1 1) 3).2.2 0 0 g)) (mvK κ 0 (τ.1 1) g ((usS τ (τ.1 1) 3).2.2 0 0 g)))
          refine hR.run0 8 (S' := (61, [some (vR 0), some (vI g), some (vI (0 + ((usS τ (τ.1 1) 3).2.2 0 0 g))), some (vI 1), some (vI ((mvS (usS τ (τ.1 1) 3) 0 (τ.1 1) g ((usS τ (τ.1 1) 3).2.2 0 0 g)).2.2 0 1 g))], [vI ((mvS (usS τ (τ.1 1) 3) 0 (τ.1 1) g ((usS τ (τ.1 1) 3).2.2 0 0 g)).2.2 0 1 g), vI g, vI ((usS τ (τ.1 1) 3).1 1), vI 1, vR 10], cW (mvS (usS τ (τ.1 1) 3) 0 (τ.1 1) g ((usS τ (τ.1 1) 3).2.2 0 0 g)) (mvK κ 0 (τ.1 1) g ((usS τ (τ.1 1) 3).2.2 0 0 g)))) rfl ?_
          rw [usS_1 _ _ _ _ (by decide) (by decide)]
          refine hR.cv [vI 1, vI (τ.1 1), vI g, vI ((mvS (usS τ (τ.1 1) 3) 0 (τ.1 1) g ((usS τ (τ.1 1) 3).2.2 0 0 g)).2.2 0 1 g)] kX5_221 rfl rfl ⟨_, _, _, rfl, rfl, rfl⟩ (by first | decide | exact Nat.le_refl _) (by decide) (Nat.le_of_ble_eq_true rfl) rfl (sp_move _ _ _ (by omega) (by omega) (by omega)) ?_
          show G (64, [some (vR 0), some (vI g), some (vI (0 + ((usS τ (τ.1 1) 3).2.2 0 0 g))), some (vI 1), some (vI ((mvS (usS τ (τ.1 1) 3) 0 (τ.1 1) g ((usS τ (τ.1 1) 3).2.2 0 0 g)).2.2 0 1 g))], [], cW (mvS (mvS (usS τ (τ.1 1) 3) 0 (τ.1 1) g ((usS τ (τ.1 1) 3).2.2 0 0 g)) 1 (τ.1 1) g ((mvS (usS τ (τ.1 1) 3) 0 (τ.1 1) g ((usS τ (τ.1 1) 3).2.2 0 0 g)).2.2 0 1 g)) (mvK (mvK κ 0 (τ.1 1) g ((usS τ (τ.1 1) 3).2.2 0 0 g)) 1 (τ.1 1) g ((mvS (usS τ (τ.1 1) 3) 0 (τ.1 1) g ((usS τ (τ.1 1) 3).2.2 0 0 g)).2.2 0 1 g)))
          refine hR.run0 8 (S' := (27, [some (vR 0), some (vI g), some (vI ((0 + ((usS τ (τ.1 1) 3).2.2 0 0 g)) + ((mvS (usS τ (τ.1 1) 3) 0 (τ.1 1) g ((usS τ (τ.1 1) 3).2.2 0 0 g)).2.2 0 1 g))), some (vI 2), some (vI ((mvS (usS τ (τ.1 1) 3) 0 (τ.1 1) g ((usS τ (τ.1 1) 3).2.2 0 0 g)).2.2 0 1 g))], [vI 3, vI 2], cW (mvS (mvS (usS τ (τ.1 1) 3) 0 (τ.1 1) g ((usS τ (τ.1 1) 3).2.2 0 0 g)) 1 (τ.1 1) g ((mvS (usS τ (τ.1 1) 3) 0 (τ.1 1) g ((usS τ (τ.1 1) 3).2.2 0 0 g)).2.2 0 1 g)) (mvK (mvK κ 0 (τ.1 1) g ((usS τ (τ.1 1) 3).2.2 0 0 g)) 1 (τ.1 1) g ((mvS (usS τ (τ.1 1) 3) 0 (τ.1 1) g ((usS τ (τ.1 1) 3).2.2 0 0 g)).2.2 0 1 g)))) rfl ?_
          refine hR.br (C := 3 ≤ 2) rfl (by first | omega | (dsimp only; omega) | (simp [sHt, sH, sS, sAt, sA, sup]; done) | (simp [sHt, sH, sS, sAt, sA, sup]; omega)) (fun c15 => ?_) (fun c15 => ?_)
          · exfalso; omega
          refine hR.run0 3 (S' := (35, [some (vR 0), some (vI g), some (vI ((0 + ((usS τ (τ.1 1) 3).2.2 0 0 g)) + ((mvS (usS τ (τ.1 1) 3) 0 (τ.1 1) g ((usS τ (τ.1 1) 3).2.2 0 0 g)).2.2 0 1 g))), some (vI 2), some (vI ((mvS (usS τ (τ.1 1) 3) 0 (τ.1 1) g ((usS τ (τ.1 1) 3).2.2 0 0 g)).2.2 0 1 g))], [vI ((usS τ (τ.1 1) 3).1 1), vI 2], cW (mvS (mvS (usS τ (τ.1 1) 3) 0 (τ.1 1) g ((usS τ (τ.1 1) 3).2.2 0 0 g)) 1 (τ.1 1) g ((mvS (usS τ (τ.1 1) 3) 0 (τ.1 1) g ((usS τ (τ.1 1) 3).2.2 0 0 g)).2.2 0 1 g)) (mvK (mvK κ 0 (τ.1 1) g ((usS τ (τ.1 1) 3).2.2 0 0 g)) 1 (τ.1 1) g ((mvS (usS τ (τ.1 1) 3) 0 (τ.1 1) g ((usS τ (τ.1 1) 3).2.2 0 0 g)).2.2 0 1 g)))) rfl ?_
          refine hR.br (C := 2 = (usS τ (τ.1 1) 3).1 1) rfl (by first | omega | (dsimp only; omega) | (simp [sHt, sH, sS, sAt, sA, sup]; done) | (simp [sHt, sH, sS, sAt, sA, sup]; omega)) (fun c16 => ?_) (fun c16 => ?_)
          · skip
            refine hR.run0 4 (S' := (27, [some (vR 0), some (vI g), some (vI ((0 + ((usS τ (τ.1 1) 3).2.2 0 0 g)) + ((mvS (usS τ (τ.1 1) 3) 0 (τ.1 1) g ((usS τ (τ.1 1) 3).2.2 0 0 g)).2.2 0 1 g))), some (vI 3), some (vI ((mvS (usS τ (τ.1 1) 3) 0 (τ.1 1) g ((usS τ (τ.1 1) 3).2.2 0 0 g)).2.2 0 1 g))], [vI 3, vI 3], cW (mvS (mvS (usS τ (τ.1 1) 3) 0 (τ.1 1) g ((usS τ (τ.1 1) 3).2.2 0 0 g)) 1 (τ.1 1) g ((mvS (usS τ (τ.1 1) 3) 0 (τ.1 1) g ((usS τ (τ.1 1) 3).2.2 0 0 g)).2.2 0 1 g)) (mvK (mvK κ 0 (τ.1 1) g ((usS τ (τ.1 1) 3).2.2 0 0 g)) 1 (τ.1 1) g ((mvS (usS τ (τ.1 1) 3) 0 (τ.1 1) g ((usS τ (τ.1 1) 3).2.2 0 0 g)).2.2 0 1 g)))) rfl ?_
            refine hR.br (C := 3 ≤ 3) rfl (by first | omega | (dsimp only; omega) | (simp [sHt, sH, sS, sAt, sA, sup]; done) | (simp [sHt, sH, sS, sAt, sA, sup]; omega)) (fun c17 => ?_) (fun c17 => ?_)
            · skip
              refine hR.run0 1 (S' := (76, [some (vR 0), some (vI g), some (vI ((0 + ((usS τ (τ.1 1) 3).2.2 0 0 g)) + ((mvS (usS τ (τ.1 1) 3) 0 (τ.1 1) g ((usS τ (τ.1 1) 3).2.2 0 0 g)).2.2 0 1 g))), some (vI 3), some (vI ((mvS (usS τ (τ.1 1) 3) 0 (τ.1 1) g ((usS τ (τ.1 1) 3).2.2 0 0 g)).2.2 0 1 g))], [vI ((0 + ((usS τ (τ.1 1) 3).2.2 0 0 g)) + ((mvS (usS τ (τ.1 1) 3) 0 (τ.1 1) g ((usS τ (τ.1 1) 3).2.2 0 0 g)).2.2 0 1 g))], cW (mvS (mvS (usS τ (τ.1 1) 3) 0 (τ.1 1) g ((usS τ (τ.1 1) 3).2.2 0 0 g)) 1 (τ.1 1) g ((mvS (usS τ (τ.1 1) 3) 0 (τ.1 1) g ((usS τ (τ.1 1) 3).2.2 0 0 g)).2.2 0 1 g)) (mvK (mvK κ 0 (τ.1 1) g ((usS τ (τ.1 1) 3).2.2 0 0 g)) 1 (τ.1 1) g ((mvS (usS τ (τ.1 1) 3) 0 (τ.1 1) g ((usS τ (τ.1 1) 3).2.2 0 0 g)).2.2 0 1 g)))) rfl ?_
              have hv : monV (usS τ (τ.1 1) 3) (τ.1 1) g = (0 + ((usS τ (τ.1 1) 3).2.2 0 0 g)) + ((mvS (usS τ (τ.1 1) 3) 0 (τ.1 1) g ((usS τ (τ.1 1) 3).2.2 0 0 g)).2.2 0 1 g) := by unfold monV; (repeat' split) <;> omega
              have hx : xMono τ g = (0, (0 + ((usS τ (τ.1 1) 3).2.2 0 0 g)) + ((mvS (usS τ (τ.1 1) 3) 0 (τ.1 1) g ((usS τ (τ.1 1) 3).2.2 0 0 g)).2.2 0 1 g), mvS (mvS (usS τ (τ.1 1) 3) 0 (τ.1 1) g ((usS τ (τ.1 1) 3).2.2 0 0 g)) 1 (τ.1 1) g ((mvS (usS τ (τ.1 1) 3) 0 (τ.1 1) g ((usS τ (τ.1 1) 3).2.2 0 0 g)).2.2 0 1 g)) := by unfold xMono; rw [if_neg (by omega), if_neg (by simp_all), hv]; unfold monS; (repeat' split) <;> first | rfl | (exfalso; omega)
              exact hR.rt rfl trivial (by rw [hx]; rfl) (by unfold kMono; rw [hx]; unfold monK; (repeat' split) <;> first | rfl | (exfalso; omega) | (exfalso; simp_all; done))
            · exfalso; omega
          · skip
            refine hR.run0 4 (S' := (44, [some (vR 0), some (vI g), some (vI ((0 + ((usS τ (τ.1 1) 3).2.2 0 0 g)) + ((mvS (usS τ (τ.1 1) 3) 0 (τ.1 1) g ((usS τ (τ.1 1) 3).2.2 0 0 g)).2.2 0 1 g))), some (vI 2), some (vI ((mvS (usS τ (τ.1 1) 3) 0 (τ.1 1) g ((usS τ (τ.1 1) 3).2.2 0 0 g)).2.2 0 1 g))], [vI g, vI 2, vR 10], cW (mvS (mvS (usS τ (τ.1 1) 3) 0 (τ.1 1) g ((usS τ (τ.1 1) 3).2.2 0 0 g)) 1 (τ.1 1) g ((mvS (usS τ (τ.1 1) 3) 0 (τ.1 1) g ((usS τ (τ.1 1) 3).2.2 0 0 g)).2.2 0 1 g)) (mvK (mvK κ 0 (τ.1 1) g ((usS τ (τ.1 1) 3).2.2 0 0 g)) 1 (τ.1 1) g ((mvS (usS τ (τ.1 1) 3) 0 (τ.1 1) g ((usS τ (τ.1 1) 3).2.2 0 0 g)).2.2 0 1 g)))) rfl ?_
            have f6 := hh 2 g
            refine hR.cv [vI 2, vI g] kX5_217 rfl rfl ⟨_, _, _, rfl, rfl, rfl⟩ (by first | decide | exact Nat.le_refl _) (by decide) (Nat.le_of_ble_eq_true rfl) rfl (sp_count _ _ (by omega) (by omega)) ?_
            show G (47, [some (vR 0), some (vI g), some (vI ((0 + ((usS τ (τ.1 1) 3).2.2 0 0 g)) + ((mvS (usS τ (τ.1 1) 3) 0 (τ.1 1) g ((usS τ (τ.1 1) 3).2.2 0 0 g)).2.2 0 1 g))), some (vI 2), some (vI ((mvS (usS τ (τ.1 1) 3) 0 (τ.1 1) g ((usS τ (τ.1 1) 3).2.2 0 0 g)).2.2 0 1 g))], [vI ((mvS (mvS (usS τ (τ.1 1) 3) 0 (τ.1 1) g ((usS τ (τ.1 1) 3).2.2 0 0 g)) 1 (τ.1 1) g ((mvS (usS τ (τ.1 1) 3) 0 (τ.1 1) g ((usS τ (τ.1 1) 3).2.2 0 0 g)).2.2 0 1 g)).2.2 0 2 g)], cW (mvS (mvS (usS τ (τ.1 1) 3) 0 (τ.1 1) g ((usS τ (τ.1 1) 3).2.2 0 0 g)) 1 (τ.1 1) g ((mvS (usS τ (τ.1 1) 3) 0 (τ.1 1) g ((usS τ (τ.1 1) 3).2.2 0 0 g)).2.2 0 1 g)) (mvK (mvK κ 0 (τ.1 1) g ((usS τ (τ.1 1) 3).2.2 0 0 g)) 1 (τ.1 1) g ((mvS (usS τ (τ.1 1) 3) 0 (τ.1 1) g ((usS τ (τ.1 1) 3).2.2 0 0 g)).2.2 0 1 g)))
            refine hR.run0 8 (S' := (61, [some (vR 0), some (vI g), some (vI ((0 + ((usS τ (τ.1 1) 3).2.2 0 0 g)) + ((mvS (usS τ (τ.1 1) 3) 0 (τ.1 1) g ((usS τ (τ.1 1) 3).2.2 0 0 g)).2.2 0 1 g))), some (vI 2), some (vI ((mvS (mvS (usS τ (τ.1 1) 3) 0 (τ.1 1) g ((usS τ (τ.1 1) 3).2.2 0 0 g)) 1 (τ.1 1) g ((mvS (usS τ (τ.1 1) 3) 0 (τ.1 1) g ((usS τ (τ.1 1) 3).2.2 0 0 g)).2.2 0 1 g)).2.2 0 2 g))], [vI ((mvS (mvS (usS τ (τ.1 1) 3) 0 (τ.1 1) g ((usS τ (τ.1 1) 3).2.2 0 0 g)) 1 (τ.1 1) g ((mvS (usS τ (τ.1 1) 3) 0 (τ.1 1) g ((usS τ (τ.1 1) 3).2.2 0 0 g)).2.2 0 1 g)).2.2 0 2 g), vI g, vI ((usS τ (τ.1 1) 3).1 1), vI 2, vR 10], cW (mvS (mvS (usS τ (τ.1 1) 3) 0 (τ.1 1) g ((usS τ (τ.1 1) 3).2.2 0 0 g)) 1 (τ.1 1) g ((mvS (usS τ (τ.1 1) 3) 0 (τ.1 1) g ((usS τ (τ.1 1) 3).2.2 0 0 g)).2.2 0 1 g)) (mvK (mvK κ 0 (τ.1 1) g ((usS τ (τ.1 1) 3).2.2 0 0 g)) 1 (τ.1 1) g ((mvS (usS τ (τ.1 1) 3) 0 (τ.1 1) g ((usS τ (τ.1 1) 3).2.2 0 0 g)).2.2 0 1 g)))) rfl ?_
            rw [usS_1 _ _ _ _ (by decide) (by decide)]
            refine hR.cv [vI 2, vI (τ.1 1), vI g, vI ((mvS (mvS (usS τ (τ.1 1) 3) 0 (τ.1 1) g ((usS τ (τ.1 1) 3).2.2 0 0 g)) 1 (τ.1 1) g ((mvS (usS τ (τ.1 1) 3) 0 (τ.1 1) g ((usS τ (τ.1 1) 3).2.2 0 0 g)).2.2 0 1 g)).2.2 0 2 g)] kX5_221 rfl rfl ⟨_, _, _, rfl, rfl, rfl⟩ (by first | decide | exact Nat.le_refl _) (by decide) (Nat.le_of_ble_eq_true rfl) rfl (sp_move _ _ _ (by omega) (by omega) (by omega)) ?_
            show G (64, [some (vR 0), some (vI g), some (vI ((0 + ((usS τ (τ.1 1) 3).2.2 0 0 g)) + ((mvS (usS τ (τ.1 1) 3) 0 (τ.1 1) g ((usS τ (τ.1 1) 3).2.2 0 0 g)).2.2 0 1 g))), some (vI 2), some (vI ((mvS (mvS (usS τ (τ.1 1) 3) 0 (τ.1 1) g ((usS τ (τ.1 1) 3).2.2 0 0 g)) 1 (τ.1 1) g ((mvS (usS τ (τ.1 1) 3) 0 (τ.1 1) g ((usS τ (τ.1 1) 3).2.2 0 0 g)).2.2 0 1 g)).2.2 0 2 g))], [], cW (mvS (mvS (mvS (usS τ (τ.1 1) 3) 0 (τ.1 1) g ((usS τ (τ.1 1) 3).2.2 0 0 g)) 1 (τ.1 1) g ((mvS (usS τ (τ.1 1) 3) 0 (τ.1 1) g ((usS τ (τ.1 1) 3).2.2 0 0 g)).2.2 0 1 g)) 2 (τ.1 1) g ((mvS (mvS (usS τ (τ.1 1) 3) 0 (τ.1 1) g ((usS τ (τ.1 1) 3).2.2 0 0 g)) 1 (τ.1 1) g ((mvS (usS τ (τ.1 1) 3) 0 (τ.1 1) g ((usS τ (τ.1 1) 3).2.2 0 0 g)).2.2 0 1 g)).2.2 0 2 g)) (mvK (mvK (mvK κ 0 (τ.1 1) g ((usS τ (τ.1 1) 3).2.2 0 0 g)) 1 (τ.1 1) g ((mvS (usS τ (τ.1 1) 3) 0 (τ.1 1) g ((usS τ (τ.1 1) 3).2.2 0 0 g)).2.2 0 1 g)) 2 (τ.1 1) g ((mvS (mvS (usS τ (τ.1 1) 3) 0 (τ.1 1) g ((usS τ (τ.1 1) 3).2.2 0 0 g)) 1 (τ.1 1) g ((mvS (usS τ (τ.1 1) 3) 0 (τ.1 1) g ((usS τ (τ.1 1) 3).2.2 0 0 g)).2.2 0 1 g)).2.2 0 2 g)))
            refine hR.run0 8 (S' := (27, [some (vR 0), some (vI g), some (vI (((0 + ((usS τ (τ.1 1) 3).2.2 0 0 g)) + ((mvS (usS τ (τ.1 1) 3) 0 (τ.1 1) g ((usS τ (τ.1 1) 3).2.2 0 0 g)).2.2 0 1 g)) + ((mvS (mvS (usS τ (τ.1 1) 3) 0 (τ.1 1) g ((usS τ (τ.1 1) 3).2.2 0 0 g)) 1 (τ.1 1) g ((mvS (usS τ (τ.1 1) 3) 0 (τ.1 1) g ((usS τ (τ.1 1) 3).2.2 0 0 g)).2.2 0 1 g)).2.2 0 2 g))), some (vI 3), some (vI ((mvS (mvS (usS τ (τ.1 1) 3) 0 (τ.1 1) g ((usS τ (τ.1 1) 3).2.2 0 0 g)) 1 (τ.1 1) g ((mvS (usS τ (τ.1 1) 3) 0 (τ.1 1) g ((usS τ (τ.1 1) 3).2.2 0 0 g)).2.2 0 1 g)).2.2 0 2 g))], [vI 3, vI 3], cW (mvS (mvS (mvS (usS τ (τ.1 1) 3) 0 (τ.1 1) g ((usS τ (τ.1 1) 3).2.2 0 0 g)) 1 (τ.1 1) g ((mvS (usS τ (τ.1 1) 3) 0 (τ.1 1) g ((usS τ (τ.1 1) 3).2.2 0 0 g)).2.2 0 1 g)) 2 (τ.1 1) g ((mvS (mvS (usS τ (τ.1 1) 3) 0 (τ.1 1) g ((usS τ (τ.1 1) 3).2.2 0 0 g)) 1 (τ.1 1) g ((mvS (usS τ (τ.1 1) 3) 0 (τ.1 1) g ((usS τ (τ.1 1) 3).2.2 0 0 g)).2.2 0 1 g)).2.2 0 2 g)) (mvK (mvK (mvK κ 0 (τ.1 1) g ((usS τ (τ.1 1) 3).2.2 0 0 g)) 1 (τ.1 1) g ((mvS (usS τ (τ.1 1) 3) 0 (τ.1 1) g ((usS τ (τ.1 1) 3).2.2 0 0 g)).2.2 0 1 g)) 2 (τ.1 1) g ((mvS (mvS (usS τ (τ.1 1) 3) 0 (τ.1 1) g ((usS τ (τ.1 1) 3).2.2 0 0 g)) 1 (τ.1 1) g ((mvS (usS τ (τ.1 1) 3) 0 (τ.1 1) g ((usS τ (τ.1 1) 3).2.2 0 0 g)).2.2 0 1 g)).2.2 0 2 g)))) rfl ?_
            refine hR.br (C := 3 ≤ 3) rfl (by first | omega | (dsimp only; omega) | (simp [sHt, sH, sS, sAt, sA, sup]; done) | (simp [sHt, sH, sS, sAt, sA, sup]; omega)) (fun c18 => ?_) (fun c18 => ?_)
            · skip
              refine hR.run0 1 (S' := (76, [some (vR 0), some (vI g), some (vI (((0 + ((usS τ (τ.1 1) 3).2.2 0 0 g)) + ((mvS (usS τ (τ.1 1) 3) 0 (τ.1 1) g ((usS τ (τ.1 1) 3).2.2 0 0 g)).2.2 0 1 g)) + ((mvS (mvS (usS τ (τ.1 1) 3) 0 (τ.1 1) g ((usS τ (τ.1 1) 3).2.2 0 0 g)) 1 (τ.1 1) g ((mvS (usS τ (τ.1 1) 3) 0 (τ.1 1) g ((usS τ (τ.1 1) 3).2.2 0 0 g)).2.2 0 1 g)).2.2 0 2 g))), some (vI 3), some (vI ((mvS (mvS (usS τ (τ.1 1) 3) 0 (τ.1 1) g ((usS τ (τ.1 1) 3).2.2 0 0 g)) 1 (τ.1 1) g ((mvS (usS τ (τ.1 1) 3) 0 (τ.1 1) g ((usS τ (τ.1 1) 3).2.2 0 0 g)).2.2 0 1 g)).2.2 0 2 g))], [vI (((0 + ((usS τ (τ.1 1) 3).2.2 0 0 g)) + ((mvS (usS τ (τ.1 1) 3) 0 (τ.1 1) g ((usS τ (τ.1 1) 3).2.2 0 0 g)).2.2 0 1 g)) + ((mvS (mvS (usS τ (τ.1 1) 3) 0 (τ.1 1) g ((usS τ (τ.1 1) 3).2.2 0 0 g)) 1 (τ.1 1) g ((mvS (usS τ (τ.1 1) 3) 0 (τ.1 1) g ((usS τ (τ.1 1) 3).2.2 0 0 g)).2.2 0 1 g)).2.2 0 2 g))], cW (mvS (mvS (mvS (usS τ (τ.1 1) 3) 0 (τ.1 1) g ((usS τ (τ.1 1) 3).2.2 0 0 g)) 1 (τ.1 1) g ((mvS (usS τ (τ.1 1) 3) 0 (τ.1 1) g ((usS τ (τ.1 1) 3).2.2 0 0 g)).2.2 0 1 g)) 2 (τ.1 1) g ((mvS (mvS (usS τ (τ.1 1) 3) 0 (τ.1 1) g ((usS τ (τ.1 1) 3).2.2 0 0 g)) 1 (τ.1 1) g ((mvS (usS τ (τ.1 1) 3) 0 (τ.1 1) g ((usS τ (τ.1 1) 3).2.2 0 0 g)).2.2 0 1 g)).2.2 0 2 g)) (mvK (mvK (mvK κ 0 (τ.1 1) g ((usS τ (τ.1 1) 3).2.2 0 0 g)) 1 (τ.1 1) g ((mvS (usS τ (τ.1 1) 3) 0 (τ.1 1) g ((usS τ (τ.1 1) 3).2.2 0 0 g)).2.2 0 1 g)) 2 (τ.1 1) g ((mvS (mvS (usS τ (τ.1 1) 3) 0 (τ.1 1) g ((usS τ (τ.1 1) 3).2.2 0 0 g)) 1 (τ.1 1) g ((mvS (usS τ (τ.1 1) 3) 0 (τ.1 1) g ((usS τ (τ.1 1) 3).2.2 0 0 g)).2.2 0 1 g)).2.2 0 2 g)))) rfl ?_
              have hv : monV (usS τ (τ.1 1) 3) (τ.1 1) g = ((0 + ((usS τ (τ.1 1) 3).2.2 0 0 g)) + ((mvS (usS τ (τ.1 1) 3) 0 (τ.1 1) g ((usS τ (τ.1 1) 3).2.2 0 0 g)).2.2 0 1 g)) + ((mvS (mvS (usS τ (τ.1 1) 3) 0 (τ.1 1) g ((usS τ (τ.1 1) 3).2.2 0 0 g)) 1 (τ.1 1) g ((mvS (usS τ (τ.1 1) 3) 0 (τ.1 1) g ((usS τ (τ.1 1) 3).2.2 0 0 g)).2.2 0 1 g)).2.2 0 2 g) := by unfold monV; (repeat' split) <;> omega
              have hx : xMono τ g = (0, ((0 + ((usS τ (τ.1 1) 3).2.2 0 0 g)) + ((mvS (usS τ (τ.1 1) 3) 0 (τ.1 1) g ((usS τ (τ.1 1) 3).2.2 0 0 g)).2.2 0 1 g)) + ((mvS (mvS (usS τ (τ.1 1) 3) 0 (τ.1 1) g ((usS τ (τ.1 1) 3).2.2 0 0 g)) 1 (τ.1 1) g ((mvS (usS τ (τ.1 1) 3) 0 (τ.1 1) g ((usS τ (τ.1 1) 3).2.2 0 0 g)).2.2 0 1 g)).2.2 0 2 g), mvS (mvS (mvS (usS τ (τ.1 1) 3) 0 (τ.1 1) g ((usS τ (τ.1 1) 3).2.2 0 0 g)) 1 (τ.1 1) g ((mvS (usS τ (τ.1 1) 3) 0 (τ.1 1) g ((usS τ (τ.1 1) 3).2.2 0 0 g)).2.2 0 1 g)) 2 (τ.1 1) g ((mvS (mvS (usS τ (τ.1 1) 3) 0 (τ.1 1) g ((usS τ (τ.1 1) 3).2.2 0 0 g)) 1 (τ.1 1) g ((mvS (usS τ (τ.1 1) 3) 0 (τ.1 1) g ((usS τ (τ.1 1) 3).2.2 0 0 g)).2.2 0 1 g)).2.2 0 2 g)) := by unfold xMono; rw [if_neg (by omega), if_neg (by simp_all), hv]; unfold monS; (repeat' split) <;> first | rfl | (exfalso; omega)
              exact hR.rt rfl trivial (by rw [hx]; rfl) (by unfold kMono; rw [hx]; unfold monK; (repeat' split) <;> first | rfl | (exfalso; omega) | (exfalso; simp_all; done))
            · exfalso; omega
    · have q2m : ¬ mayU τ 3 = true := by unfold mayU; simp_all
      have hx : xMono τ g = (2, 0, τ) := by unfold xMono monV monS; (repeat' split) <;> first | rfl | (exfalso; omega) | (exfalso; simp_all; done) | (simp_all; done) | (exfalso; simp_all; omega)
      exact hR.cvx [vI 3] kX5_200 rfl rfl ⟨_, _, _, rfl, rfl, rfl⟩ (by decide) (by decide) (Nat.le_of_ble_eq_true rfl) rfl (sp_rUsable3_x _ _ hph htu hcd hfr hus q2) (by rw [hx]; rfl) (by unfold kMono; rw [hx]; rfl)
  · skip
    have hx : xMono τ g = (1, 0, τ) := by unfold xMono monV monS; (repeat' split) <;> first | rfl | (exfalso; omega) | (exfalso; simp_all; done) | (simp_all; done) | (exfalso; simp_all; omega)
    exact hR.csx [vI g] kX5_211 rfl rfl (by decide) (by decide) (Nat.le_of_ble_eq_true rfl) rfl (sp_rGood_x _ (by omega) q1) (by rw [hx]; rfl) (by unfold kMono; rw [hx]; rfl)
theorem pX5_swap (τ κ : St) {a b : Int} (ha : -2147483648 ≤ a ∧ a ≤ 2147483647) (hb : -2147483648 ≤ b ∧ b ≤ 2147483647) (hI : Iv τ)  : Sp mX5_swap roC 2 [vR 0, vI a, vI b] (cW τ κ) (oc eAS (xSwap τ a b)) (cW (xSwap τ a b).2.2 (kSwap κ τ a b)) := by
  have hb := hI.hb
  have hr := hI.hr
  have hg := hI.hg
  have hn := hI.hn
  have h7 := hI.h7
  have hh := hI.hh
  have hsm := hI.hsm
  have hcd := hI.hcd
  have hfr := hI.hfr
  have hkn := hI.hkn
  have hbo := hI.hbo
  have hus := hI.hus
  have hro := hI.hro
  have har := hI.har
  have hth := hI.hth
  have hph := hI.hph
  have htu := hI.htu
  have hrb := hI.hrb
  have hpl := hI.hpl
  have hdu := hI.hdu
  have hdp := hI.hdp
  have hof := hI.hof
  have how := hI.how
  have hga := hI.hga
  have hwa := hI.hwa
  have hck := hI.hck
  have hkz := hI.hkz
  have hcb := hI.hcb
  have hfb := hI.hfb
  have hnr := hI.hnr
  have hpq := hI.hpq
  have hrc := hI.hrc
  have hbc := hI.hbc
  have hcc := hI.hcc
  have hac := hI.hac
  refine Sp.of (lk := lkX5) (tb := bX5_swap) (by decide) lkX5_ok tX5_swap (cW_keys _ _ _ _) (Nat.le_of_ble_eq_true rfl) (fun G hR => ?_)
  refine hR.run0 1 (S' := (1, [some (vR 0), some (vI a), some (vI b), none], [vI a], cW τ κ)) rfl ?_
  by_cases q1 : 0 ≤ a ∧ a < 5
  · skip
    refine hR.cs [vI a] kX5_211 rfl rfl (by first | decide | exact Nat.le_refl _) (by decide) (Nat.le_of_ble_eq_true rfl) rfl (sp_rGood_ok _ (by omega) q1) ?_
    show G (4, [some (vR 0), some (vI a), some (vI b), none], [], cW τ κ)
    refine hR.run0 1 (S' := (5, [some (vR 0), some (vI a), some (vI b), none], [vI b], cW τ κ)) rfl ?_
    by_cases q2 : 0 ≤ b ∧ b < 5
    · skip
      refine hR.cs [vI b] kX5_211 rfl rfl (by first | decide | exact Nat.le_refl _) (by decide) (Nat.le_of_ble_eq_true rfl) rfl (sp_rGood_ok _ (by omega) q2) ?_
      show G (8, [some (vR 0), some (vI a), some (vI b), none], [], cW τ κ)
      refine hR.run0 2 (S' := (10, [some (vR 0), some (vI a), some (vI b), none], [vI b, vI a], cW τ κ)) rfl ?_
      refine hR.br (C := a ≠ b) rfl (by first | omega | (dsimp only; omega) | (simp [sHt, sH, sS, sAt, sA, sup]; done) | (simp [sHt, sH, sS, sAt, sA, sup]; omega)) (fun c3 => ?_) (fun c3 => ?_)
      · skip
        refine hR.run0 2 (S' := (25, [some (vR 0), some (vI a), some (vI b), none], [vI 2, vR 0], cW τ κ)) rfl ?_
        by_cases q4 : τ.1 0 = 2
        · skip
          refine hR.cv [vI 2] kX5_95 rfl rfl ⟨_, _, _, rfl, rfl, rfl⟩ (by first | decide | exact Nat.le_refl _) (by decide) (Nat.le_of_ble_eq_true rfl) rfl (sp_rPhase_ok _ _ (by omega) hph q4) ?_
          show G (28, [some (vR 0), some (vI a), some (vI b), none], [], cW τ κ)
          refine hR.run0 4 (S' := (34, [some (vR 0), some (vI a), some (vI b), none], [vI a, vI (τ.1 1), vR 0], cW τ κ)) rfl ?_
          have f1 := rtN_r (τ.2.1 2) (τ.1 1) a 24
          refine hR.cv [vI (τ.1 1), vI a] kX5_227 rfl rfl ⟨_, _, _, rfl, rfl, rfl⟩ (by first | decide | exact Nat.le_refl _) (by decide) (Nat.le_of_ble_eq_true rfl) rfl (sp_rateOf _ _ (by omega) (by omega) hb) ?_
          show G (37, [some (vR 0), some (vI a), some (vI b), none], [vI (rtN (τ.2.1 2) (τ.1 1) a 24)], cW τ κ)
          refine hR.run0 6 (S' := (47, [some (vR 0), some (vI a), some (vI b), some (vI (rtN (τ.2.1 2) (τ.1 1) a 24))], [vI a, vI (τ.1 1), vR 10], cW τ κ)) rfl ?_
          have f2 := hh (τ.1 1) a
          refine hR.cv [vI (τ.1 1), vI a] kX5_217 rfl rfl ⟨_, _, _, rfl, rfl, rfl⟩ (by first | decide | exact Nat.le_refl _) (by decide) (Nat.le_of_ble_eq_true rfl) rfl (sp_count _ _ (by omega) (by omega)) ?_
          show G (50, [some (vR 0), some (vI a), some (vI b), some (vI (rtN (τ.2.1 2) (τ.1 1) a 24))], [vI (τ.2.2 0 (τ.1 1) a)], cW τ κ)
          refine hR.run0 1 (S' := (51, [some (vR 0), some (vI a), some (vI b), some (vI (rtN (τ.2.1 2) (τ.1 1) a 24))], [vI (rtN (τ.2.1 2) (τ.1 1) a 24), vI (τ.2.2 0 (τ.1 1) a)], cW τ κ)) rfl ?_
          refine hR.br (C := τ.2.2 0 (τ.1 1) a < rtN (τ.2.1 2) (τ.1 1) a 24) rfl (by first | omega | (dsimp only; omega) | (simp [sHt, sH, sS, sAt, sA, sup]; done) | (simp [sHt, sH, sS, sAt, sA, sup]; omega)) (fun c5 => ?_) (fun c5 => ?_)
          · skip
            refine hR.run0 1 (S' := (59, [some (vR 0), some (vI a), some (vI b), some (vI (rtN (τ.2.1 2) (τ.1 1) a 24))], [vI 0], cW τ κ)) rfl ?_
            have hx : xSwap τ a b = (2, 0, τ) := by unfold xSwap; (repeat' split) <;> first | rfl | (exfalso; omega) | (exfalso; simp_all; done) | (simp_all; done) | (exfalso; simp_all; omega)
            exact hR.csx [vI 0] kX5_81 rfl rfl (by decide) (by decide) (Nat.le_of_ble_eq_true rfl) rfl (sp_rSo_x _ (Or.inl rfl) (by decide)) (by rw [hx]; rfl) (by unfold kSwap; rw [hx]; rfl)
          · skip
            refine hR.run0 2 (S' := (59, [some (vR 0), some (vI a), some (vI b), some (vI (rtN (τ.2.1 2) (τ.1 1) a 24))], [vI 1], cW τ κ)) rfl ?_
            refine hR.cs [vI 1] kX5_81 rfl rfl (by first | decide | exact Nat.le_refl _) (by decide) (Nat.le_of_ble_eq_true rfl) rfl (sp_rSo_ok _ (Or.inr rfl) rfl) ?_
            show G (62, [some (vR 0), some (vI a), some (vI b), some (vI (rtN (τ.2.1 2) (τ.1 1) a 24))], [], cW τ κ)
            refine hR.run0 4 (S' := (68, [some (vR 0), some (vI a), some (vI b), some (vI (rtN (τ.2.1 2) (τ.1 1) a 24))], [vI b, vI 3, vR 10], cW τ κ)) rfl ?_
            have f3 := hh 3 b
            refine hR.cv [vI 3, vI b] kX5_217 rfl rfl ⟨_, _, _, rfl, rfl, rfl⟩ (by first | decide | exact Nat.le_refl _) (by decide) (Nat.le_of_ble_eq_true rfl) rfl (sp_count _ _ (by omega) (by omega)) ?_
            show G (71, [some (vR 0), some (vI a), some (vI b), some (vI (rtN (τ.2.1 2) (τ.1 1) a 24))], [vI (τ.2.2 0 3 b)], cW τ κ)
            refine hR.run0 1 (S' := (72, [some (vR 0), some (vI a), some (vI b), some (vI (rtN (τ.2.1 2) (τ.1 1) a 24))], [vI 1, vI (τ.2.2 0 3 b)], cW τ κ)) rfl ?_
            refine hR.br (C := τ.2.2 0 3 b < 1) rfl (by first | omega | (dsimp only; omega) | (simp [sHt, sH, sS, sAt, sA, sup]; done) | (simp [sHt, sH, sS, sAt, sA, sup]; omega)) (fun c6 => ?_) (fun c6 => ?_)
            · skip
              refine hR.run0 1 (S' := (80, [some (vR 0), some (vI a), some (vI b), some (vI (rtN (τ.2.1 2) (τ.1 1) a 24))], [vI 0], cW τ κ)) rfl ?_
              have hx : xSwap τ a b = (2, 0, τ) := by unfold xSwap; (repeat' split) <;> first | rfl | (exfalso; omega) | (exfalso; simp_all; done) | (simp_all; done) | (exfalso; simp_all; omega)
              exact hR.csx [vI 0] kX5_81 rfl rfl (by decide) (by decide) (Nat.le_of_ble_eq_true rfl) rfl (sp_rSo_x _ (Or.inl rfl) (by decide)) (by rw [hx]; rfl) (by unfold kSwap; rw [hx]; rfl)
            · skip
              refine hR.run0 2 (S' := (80, [some (vR 0), some (vI a), some (vI b), some (vI (rtN (τ.2.1 2) (τ.1 1) a 24))], [vI 1], cW τ κ)) rfl ?_
              refine hR.cs [vI 1] kX5_81 rfl rfl (by first | decide | exact Nat.le_refl _) (by decide) (Nat.le_of_ble_eq_true rfl) rfl (sp_rSo_ok _ (Or.inr rfl) rfl) ?_
              show G (83, [some (vR 0), some (vI a), some (vI b), some (vI (rtN (τ.2.1 2) (τ.1 1) a 24))], [], cW τ κ)
              refine hR.run0 7 (S' := (94, [some (vR 0), some (vI a), some (vI b), some (vI (rtN (τ.2.1 2) (τ.1 1) a 24))], [vI (rtN (τ.2.1 2) (τ.1 1) a 24), vI a, vI 3, vI (τ.1 1), vR 10], cW τ κ)) rfl ?_
              refine hR.cv [vI (τ.1 1), vI 3, vI a, vI (rtN (τ.2.1 2) (τ.1 1) a 24)] kX5_221 rfl rfl ⟨_, _, _, rfl, rfl, rfl⟩ (by first | decide | exact Nat.le_refl _) (by decide) (Nat.le_of_ble_eq_true rfl) rfl (sp_move _ _ _ (by omega) (by omega) (by omega)) ?_
              show G (97, [some (vR 0), some (vI a), some (vI b), some (vI (rtN (τ.2.1 2) (τ.1 1) a 24))], [], cW (mvS τ (τ.1 1) 3 a (rtN (τ.2.1 2) (τ.1 1) a 24)) (mvK κ (τ.1 1) 3 a (rtN (τ.2.1 2) (τ.1 1) a 24)))
              refine hR.run0 7 (S' := (108, [some (vR 0), some (vI a), some (vI b), some (vI (rtN (τ.2.1 2) (τ.1 1) a 24))], [vI 1, vI b, vI (τ.1 1), vI 3, vR 10], cW (mvS τ (τ.1 1) 3 a (rtN (τ.2.1 2) (τ.1 1) a 24)) (mvK κ (τ.1 1) 3 a (rtN (τ.2.1 2) (τ.1 1) a 24)))) rfl ?_
              refine hR.cv [vI 3, vI (τ.1 1), vI b, vI 1] kX5_221 rfl rfl ⟨_, _, _, rfl, rfl, rfl⟩ (by first | decide | exact Nat.le_refl _) (by decide) (Nat.le_of_ble_eq_true rfl) rfl (sp_move _ _ _ (by omega) (by omega) (by omega)) ?_
              show G (111, [some (vR 0), some (vI a), some (vI b), some (vI (rtN (τ.2.1 2) (τ.1 1) a 24))], [], cW (mvS (mvS τ (τ.1 1) 3 a (rtN (τ.2.1 2) (τ.1 1) a 24)) 3 (τ.1 1) b 1) (mvK (mvK κ (τ.1 1) 3 a (rtN (τ.2.1 2) (τ.1 1) a 24)) 3 (τ.1 1) b 1))
              refine hR.run0 5 (S' := (120, [some (vR 0), some (vI a), some (vI b), some (vI (rtN (τ.2.1 2) (τ.1 1) a 24))], [vI b, vI (τ.1 1), vR 10], cW (mvS (mvS τ (τ.1 1) 3 a (rtN (τ.2.1 2) (τ.1 1) a 24)) 3 (τ.1 1) b 1) (mvK (mvK κ (τ.1 1) 3 a (rtN (τ.2.1 2) (τ.1 1) a 24)) 3 (τ.1 1) b 1))) rfl ?_
              have f4 := hh (τ.1 1) b
              refine hR.cv [vI (τ.1 1), vI b] kX5_217 rfl rfl ⟨_, _, _, rfl, rfl, rfl⟩ (by first | decide | exact Nat.le_refl _) (by decide) (Nat.le_of_ble_eq_true rfl) rfl (sp_count _ _ (by omega) (by omega)) ?_
              show G (123, [some (vR 0), some (vI a), some (vI b), some (vI (rtN (τ.2.1 2) (τ.1 1) a 24))], [vI ((mvS (mvS τ (τ.1 1) 3 a (rtN (τ.2.1 2) (τ.1 1) a 24)) 3 (τ.1 1) b 1).2.2 0 (τ.1 1) b)], cW (mvS (mvS τ (τ.1 1) 3 a (rtN (τ.2.1 2) (τ.1 1) a 24)) 3 (τ.1 1) b 1) (mvK (mvK κ (τ.1 1) 3 a (rtN (τ.2.1 2) (τ.1 1) a 24)) 3 (τ.1 1) b 1))
              have hx : xSwap τ a b = (0, (mvS (mvS τ (τ.1 1) 3 a (rtN (τ.2.1 2) (τ.1 1) a 24)) 3 (τ.1 1) b 1).2.2 0 (τ.1 1) b, mvS (mvS τ (τ.1 1) 3 a (rtN (τ.2.1 2) (τ.1 1) a 24)) 3 (τ.1 1) b 1) := by unfold xSwap; (repeat' split) <;> first | rfl | (exfalso; omega) | (exfalso; simp_all; done) | (simp_all; done) | (exfalso; simp_all; omega)
              exact hR.rt rfl trivial (by rw [hx]; rfl) (by unfold kSwap; rw [hx]; rfl)
        · skip
          have hx : xSwap τ a b = (2, 0, τ) := by unfold xSwap; (repeat' split) <;> first | rfl | (exfalso; omega) | (exfalso; simp_all; done) | (simp_all; done) | (exfalso; simp_all; omega)
          exact hR.cvx [vI 2] kX5_95 rfl rfl ⟨_, _, _, rfl, rfl, rfl⟩ (by decide) (by decide) (Nat.le_of_ble_eq_true rfl) rfl (sp_rPhase_x _ _ (by omega) hph q4) (by rw [hx]; rfl) (by unfold kSwap; rw [hx]; rfl)
      · skip
        have hx : xSwap τ a b = (1, 0, τ) := by unfold xSwap; (repeat' split) <;> first | rfl | (exfalso; omega) | (exfalso; simp_all; done) | (simp_all; done) | (exfalso; simp_all; omega)
        exact hR.th rfl rfl (Nat.le_of_ble_eq_true rfl) (by rw [hx]; rfl) (by unfold kSwap; rw [hx]; rfl)
    · skip
      have hx : xSwap τ a b = (1, 0, τ) := by unfold xSwap; (repeat' split) <;> first | rfl | (exfalso; omega) | (exfalso; simp_all; done) | (simp_all; done) | (exfalso; simp_all; omega)
      exact hR.csx [vI b] kX5_211 rfl rfl (by decide) (by decide) (Nat.le_of_ble_eq_true rfl) rfl (sp_rGood_x _ (by omega) q2) (by rw [hx]; rfl) (by unfold kSwap; rw [hx]; rfl)
  · skip
    have hx : xSwap τ a b = (1, 0, τ) := by unfold xSwap; (repeat' split) <;> first | rfl | (exfalso; omega) | (exfalso; simp_all; done) | (simp_all; done) | (exfalso; simp_all; omega)
    exact hR.csx [vI a] kX5_211 rfl rfl (by decide) (by decide) (Nat.le_of_ble_eq_true rfl) rfl (sp_rGood_x _ (by omega) q1) (by rw [hx]; rfl) (by unfold kSwap; rw [hx]; rfl)
theorem pX5_offer (τ κ : St) {a b : Int} (ha : -2147483648 ≤ a ∧ a ≤ 2147483647) (hb : -2147483648 ≤ b ∧ b ≤ 2147483647) (hI : Iv τ)  : Sp mX5_offer roC 4 [vR 0, vI a, vI b] (cW τ κ) (ocv eAS (xOffer τ a b)) (cW (xOffer τ a b).2.2 κ) := by
  have hb := hI.hb
  have hr := hI.hr
  have hg := hI.hg
  have hn := hI.hn
  have h7 := hI.h7
  have hh := hI.hh
  have hsm := hI.hsm
  have hcd := hI.hcd
  have hfr := hI.hfr
  have hkn := hI.hkn
  have hbo := hI.hbo
  have hus := hI.hus
  have hro := hI.hro
  have har := hI.har
  have hth := hI.hth
  have hph := hI.hph
  have htu := hI.htu
  have hrb := hI.hrb
  have hpl := hI.hpl
  have hdu := hI.hdu
  have hdp := hI.hdp
  have hof := hI.hof
  have how := hI.how
  have hga := hI.hga
  have hwa := hI.hwa
  have hck := hI.hck
  have hkz := hI.hkz
  have hcb := hI.hcb
  have hfb := hI.hfb
  have hnr := hI.hnr
  have hpq := hI.hpq
  have hrc := hI.hrc
  have hbc := hI.hbc
  have hcc := hI.hcc
  have hac := hI.hac
  refine Sp.of (lk := lkX5) (tb := bX5_offer) (by decide) lkX5_ok tX5_offer (cW_keys _ _ _ _) (Nat.le_of_ble_eq_true rfl) (fun G hR => ?_)
  refine hR.run0 2 (S' := (2, [some (vR 0), some (vI a), some (vI b)], [vI b, vI a], cW τ κ)) rfl ?_
  by_cases q1 : (1 ≤ a ∧ a ≤ 99999) ∧ (1 ≤ b ∧ b ≤ 99999)
  · skip
    refine hR.cs [vI a, vI b] kX5_230 rfl rfl (by first | decide | exact Nat.le_refl _) (by decide) (Nat.le_of_ble_eq_true rfl) rfl (sp_rSides_ok _ (by omega) (by omega) q1) ?_
    show G (5, [some (vR 0), some (vI a), some (vI b)], [], cW τ κ)
    refine hR.run0 2 (S' := (7, [some (vR 0), some (vI a), some (vI b)], [vI 2, vR 0], cW τ κ)) rfl ?_
    by_cases q2 : τ.1 0 = 2
    · skip
      refine hR.cv [vI 2] kX5_95 rfl rfl ⟨_, _, _, rfl, rfl, rfl⟩ (by first | decide | exact Nat.le_refl _) (by decide) (Nat.le_of_ble_eq_true rfl) rfl (sp_rPhase_ok _ _ (by omega) hph q2) ?_
      show G (10, [some (vR 0), some (vI a), some (vI b)], [], cW τ κ)
      refine hR.run0 4 (S' := (16, [some (vR 0), some (vI a), some (vI b)], [vI a, vI (τ.1 1), vR 0], cW τ κ)) rfl ?_
      by_cases q3 : hasG (τ.2.2 0) (τ.1 1) a = true
      · skip
        refine hR.cv [vI (τ.1 1), vI a] kX5_132 rfl rfl ⟨_, _, _, rfl, rfl, rfl⟩ (by first | decide | exact Nat.le_refl _) (by decide) (Nat.le_of_ble_eq_true rfl) rfl (sp_rHas_ok _ _ (by omega) (by omega) hh q3) ?_
        show G (19, [some (vR 0), some (vI a), some (vI b)], [], cW τ κ)
        refine hR.run0 4 (S' := (25, [some (vR 0), some (vI a), some (vI b)], [vI b, vI a, vR 60], cW τ κ)) rfl ?_
        refine hR.cv [vI a, vI b] kX5_233 rfl rfl ⟨_, _, _, rfl, rfl, rfl⟩ (by first | decide | exact Nat.le_refl _) (by decide) (Nat.le_of_ble_eq_true rfl) rfl (sp_setOffer _ _ _ _) ?_
        show G (28, [some (vR 0), some (vI a), some (vI b)], [], cW (ofS τ a b) κ)
        have hx : xOffer τ a b = (0, 0, ofS τ a b) := by unfold xOffer; (repeat' split) <;> first | rfl | (exfalso; omega) | (exfalso; simp_all; done) | (simp_all; done) | (exfalso; simp_all; omega)
        exact hR.rt rfl trivial (by rw [hx]; rfl) (by rw [hx])
      · skip
        have hx : xOffer τ a b = (2, 0, τ) := by unfold xOffer; (repeat' split) <;> first | rfl | (exfalso; omega) | (exfalso; simp_all; done) | (simp_all; done) | (exfalso; simp_all; omega)
        exact hR.cvx [vI (τ.1 1), vI a] kX5_132 rfl rfl ⟨_, _, _, rfl, rfl, rfl⟩ (by decide) (by decide) (Nat.le_of_ble_eq_true rfl) rfl (sp_rHas_x _ _ (by omega) (by omega) hh q3) (by rw [hx]; rfl) (by rw [hx])
    · skip
      have hx : xOffer τ a b = (2, 0, τ) := by unfold xOffer; (repeat' split) <;> first | rfl | (exfalso; omega) | (exfalso; simp_all; done) | (simp_all; done) | (exfalso; simp_all; omega)
      exact hR.cvx [vI 2] kX5_95 rfl rfl ⟨_, _, _, rfl, rfl, rfl⟩ (by decide) (by decide) (Nat.le_of_ble_eq_true rfl) rfl (sp_rPhase_x _ _ (by omega) hph q2) (by rw [hx]; rfl) (by rw [hx])
  · skip
    have hx : xOffer τ a b = (1, 0, τ) := by unfold xOffer; (repeat' split) <;> first | rfl | (exfalso; omega) | (exfalso; simp_all; done) | (simp_all; done) | (exfalso; simp_all; omega)
    exact hR.csx [vI a, vI b] kX5_230 rfl rfl (by decide) (by decide) (Nat.le_of_ble_eq_true rfl) rfl (sp_rSides_x _ (by omega) (by omega) q1) (by rw [hx]; rfl) (by rw [hx])
theorem pX5_counter (τ κ : St) {p a b : Int} (hp : -2147483648 ≤ p ∧ p ≤ 2147483647) (ha : -2147483648 ≤ a ∧ a ≤ 2147483647) (hb : -2147483648 ≤ b ∧ b ≤ 2147483647) (hI : Iv τ)  : Sp mX5_counter roC 4 [vR 0, vI p, vI a, vI b] (cW τ κ) (ocv eIAS (xCounter τ p a b)) (cW (xCounter τ p a b).2.2 κ) := by
  have hb := hI.hb
  have hr := hI.hr
  have hg := hI.hg
  have hn := hI.hn
  have h7 := hI.h7
  have hh := hI.hh
  have hsm := hI.hsm
  have hcd := hI.hcd
  have hfr := hI.hfr
  have hkn := hI.hkn
  have hbo := hI.hbo
  have hus := hI.hus
  have hro := hI.hro
  have har := hI.har
  have hth := hI.hth
  have hph := hI.hph
  have htu := hI.htu
  have hrb := hI.hrb
  have hpl := hI.hpl
  have hdu := hI.hdu
  have hdp := hI.hdp
  have hof := hI.hof
  have how := hI.how
  have hga := hI.hga
  have hwa := hI.hwa
  have hck := hI.hck
  have hkz := hI.hkz
  have hcb := hI.hcb
  have hfb := hI.hfb
  have hnr := hI.hnr
  have hpq := hI.hpq
  have hrc := hI.hrc
  have hbc := hI.hbc
  have hcc := hI.hcc
  have hac := hI.hac
  refine Sp.of (lk := lkX5) (tb := bX5_counter) (by decide) lkX5_ok tX5_counter (cW_keys _ _ _ _) (Nat.le_of_ble_eq_true rfl) (fun G hR => ?_)
  refine hR.run0 1 (S' := (1, [some (vR 0), some (vI p), some (vI a), some (vI b)], [vI p], cW τ κ)) rfl ?_
  by_cases q1 : 0 ≤ p ∧ p < 3
  · skip
    refine hR.cs [vI p] kX5_126 rfl rfl (by first | decide | exact Nat.le_refl _) (by decide) (Nat.le_of_ble_eq_true rfl) rfl (sp_rPlayer_ok _ (by omega) q1) ?_
    show G (4, [some (vR 0), some (vI p), some (vI a), some (vI b)], [], cW τ κ)
    refine hR.run0 2 (S' := (6, [some (vR 0), some (vI p), some (vI a), some (vI b)], [vI b, vI a], cW τ κ)) rfl ?_
    by_cases q2 : (1 ≤ a ∧ a ≤ 99999) ∧ (1 ≤ b ∧ b ≤ 99999)
    · skip
      refine hR.cs [vI a, vI b] kX5_230 rfl rfl (by first | decide | exact Nat.le_refl _) (by decide) (Nat.le_of_ble_eq_true rfl) rfl (sp_rSides_ok _ (by omega) (by omega) q2) ?_
      show G (9, [some (vR 0), some (vI p), some (vI a), some (vI b)], [], cW τ κ)
      refine hR.run0 2 (S' := (11, [some (vR 0), some (vI p), some (vI a), some (vI b)], [vI 2, vR 0], cW τ κ)) rfl ?_
      by_cases q3 : τ.1 0 = 2
      · skip
        refine hR.cv [vI 2] kX5_95 rfl rfl ⟨_, _, _, rfl, rfl, rfl⟩ (by first | decide | exact Nat.le_refl _) (by decide) (Nat.le_of_ble_eq_true rfl) rfl (sp_rPhase_ok _ _ (by omega) hph q3) ?_
        show G (14, [some (vR 0), some (vI p), some (vI a), some (vI b)], [], cW τ κ)
        refine hR.run0 3 (S' := (19, [some (vR 0), some (vI p), some (vI a), some (vI b)], [vI (τ.1 1), vI p], cW τ κ)) rfl ?_
        refine hR.br (C := p = τ.1 1) rfl (by first | omega | (dsimp only; omega) | (simp [sHt, sH, sS, sAt, sA, sup]; done) | (simp [sHt, sH, sS, sAt, sA, sup]; omega)) (fun c4 => ?_) (fun c4 => ?_)
        · skip
          refine hR.run0 1 (S' := (27, [some (vR 0), some (vI p), some (vI a), some (vI b)], [vI 0], cW τ κ)) rfl ?_
          have hx : xCounter τ p a b = (3, 0, τ) := by unfold xCounter; (repeat' split) <;> first | rfl | (exfalso; omega) | (exfalso; simp_all; done) | (simp_all; done) | (exfalso; simp_all; omega)
          exact hR.csx [vI 0] kX5_81 rfl rfl (by decide) (by decide) (Nat.le_of_ble_eq_true rfl) rfl (sp_rSo_x _ (Or.inl rfl) (by decide)) (by rw [hx]; rfl) (by rw [hx])
        · skip
          refine hR.run0 2 (S' := (27, [some (vR 0), some (vI p), some (vI a), some (vI b)], [vI 1], cW τ κ)) rfl ?_
          refine hR.cs [vI 1] kX5_81 rfl rfl (by first | decide | exact Nat.le_refl _) (by decide) (Nat.le_of_ble_eq_true rfl) rfl (sp_rSo_ok _ (Or.inr rfl) rfl) ?_
          show G (30, [some (vR 0), some (vI p), some (vI a), some (vI b)], [], cW τ κ)
          refine hR.run0 2 (S' := (34, [some (vR 0), some (vI p), some (vI a), some (vI b)], [vR 60], cW τ κ)) rfl ?_
          refine hR.cv [] kX5_236 rfl rfl ⟨_, _, _, rfl, rfl, rfl⟩ (by first | decide | exact Nat.le_refl _) (by decide) (Nat.le_of_ble_eq_true rfl) rfl (sp_isOffered _ _ hof) ?_
          show G (37, [some (vR 0), some (vI p), some (vI a), some (vI b)], [vI (bI (decide (τ.1 9 ≠ 0)))], cW τ κ)
          by_cases hb_q5 : (decide (τ.1 9 ≠ 0)) = true
          · skip
            have hs_q5 := hb_q5
            try simp only [Bool.and_eq_true, Bool.or_eq_true, Bool.and_eq_false_iff, Bool.or_eq_false_iff, decide_eq_true_eq, decide_eq_false_iff_not] at hs_q5
            refine hR.cs [vI (bI (decide (τ.1 9 ≠ 0)))] kX5_81 rfl rfl (by first | decide | exact Nat.le_refl _) (by decide) (Nat.le_of_ble_eq_true rfl) rfl (sp_rSob_ok _ hb_q5) ?_
            show G (40, [some (vR 0), some (vI p), some (vI a), some (vI b)], [], cW τ κ)
            refine hR.run0 3 (S' := (43, [some (vR 0), some (vI p), some (vI a), some (vI b)], [vI a, vI p, vR 0], cW τ κ)) rfl ?_
            by_cases q6 : hasG (τ.2.2 0) p a = true
            · skip
              refine hR.cv [vI p, vI a] kX5_132 rfl rfl ⟨_, _, _, rfl, rfl, rfl⟩ (by first | decide | exact Nat.le_refl _) (by decide) (Nat.le_of_ble_eq_true rfl) rfl (sp_rHas_ok _ _ (by omega) (by omega) hh q6) ?_
              show G (46, [some (vR 0), some (vI p), some (vI a), some (vI b)], [], cW τ κ)
              refine hR.run0 5 (S' := (53, [some (vR 0), some (vI p), some (vI a), some (vI b)], [vI b, vI a, vI p, vR 60], cW τ κ)) rfl ?_
              refine hR.cv [vI p, vI a, vI b] kX5_239 rfl rfl ⟨_, _, _, rfl, rfl, rfl⟩ (by first | decide | exact Nat.le_refl _) (by decide) (Nat.le_of_ble_eq_true rfl) rfl (sp_setCounter _ _ _ _ (by omega)) ?_
              show G (56, [some (vR 0), some (vI p), some (vI a), some (vI b)], [], cW (sAt (sAt τ 7 p a) 8 p b) κ)
              have hx : xCounter τ p a b = (0, 0, sAt (sAt τ 7 p a) 8 p b) := by unfold xCounter; (repeat' split) <;> first | rfl | (exfalso; omega) | (exfalso; simp_all; done) | (simp_all; done) | (exfalso; simp_all; omega)
              exact hR.rt rfl trivial (by rw [hx]; rfl) (by rw [hx])
            · skip
              have hx : xCounter τ p a b = (3, 0, τ) := by unfold xCounter; (repeat' split) <;> first | rfl | (exfalso; omega) | (exfalso; simp_all; done) | (simp_all; done) | (exfalso; simp_all; omega)
              exact hR.cvx [vI p, vI a] kX5_132 rfl rfl ⟨_, _, _, rfl, rfl, rfl⟩ (by decide) (by decide) (Nat.le_of_ble_eq_true rfl) rfl (sp_rHas_x _ _ (by omega) (by omega) hh q6) (by rw [hx]; rfl) (by rw [hx])
          · replace hb_q5 := Bool.eq_false_iff.mpr hb_q5
            have hs_q5 := hb_q5
            try simp only [Bool.and_eq_true, Bool.or_eq_true, Bool.and_eq_false_iff, Bool.or_eq_false_iff, decide_eq_true_eq, decide_eq_false_iff_not] at hs_q5
            have hx : xCounter τ p a b = (3, 0, τ) := by unfold xCounter; (repeat' split) <;> first | rfl | (exfalso; omega) | (exfalso; simp_all; done) | (simp_all; done) | (exfalso; simp_all; omega)
            exact hR.csx [vI (bI (decide (τ.1 9 ≠ 0)))] kX5_81 rfl rfl (by decide) (by decide) (Nat.le_of_ble_eq_true rfl) rfl (sp_rSob_x _ hb_q5) (by rw [hx]; rfl) (by rw [hx])
      · skip
        have hx : xCounter τ p a b = (3, 0, τ) := by unfold xCounter; (repeat' split) <;> first | rfl | (exfalso; omega) | (exfalso; simp_all; done) | (simp_all; done) | (exfalso; simp_all; omega)
        exact hR.cvx [vI 2] kX5_95 rfl rfl ⟨_, _, _, rfl, rfl, rfl⟩ (by decide) (by decide) (Nat.le_of_ble_eq_true rfl) rfl (sp_rPhase_x _ _ (by omega) hph q3) (by rw [hx]; rfl) (by rw [hx])
    · skip
      have hx : xCounter τ p a b = (2, 0, τ) := by unfold xCounter; (repeat' split) <;> first | rfl | (exfalso; omega) | (exfalso; simp_all; done) | (simp_all; done) | (exfalso; simp_all; omega)
      exact hR.csx [vI a, vI b] kX5_230 rfl rfl (by decide) (by decide) (Nat.le_of_ble_eq_true rfl) rfl (sp_rSides_x _ (by omega) (by omega) q2) (by rw [hx]; rfl) (by rw [hx])
  · skip
    have hx : xCounter τ p a b = (1, 0, τ) := by unfold xCounter; (repeat' split) <;> first | rfl | (exfalso; omega) | (exfalso; simp_all; done) | (simp_all; done) | (exfalso; simp_all; omega)
    exact hR.csx [vI p] kX5_126 rfl rfl (by decide) (by decide) (Nat.le_of_ble_eq_true rfl) rfl (sp_rPlayer_x _ (by omega) q1) (by rw [hx]; rfl) (by rw [hx])
theorem sp_exchange (τ κ : St) {p g w : Int} (hp : 0 ≤ p ∧ p < 3) (hg0 : 0 ≤ g ∧ g ≤ 99999) (hw0 : 0 ≤ w ∧ w ≤ 99999) (hh : ∀ p g, 0 ≤ τ.2.2 0 p g ∧ τ.2.2 0 p g ≤ 12) (htu : 0 ≤ τ.1 1 ∧ τ.1 1 < 3) (h1 : hasG (τ.2.2 0) p g = true) (h2 : hasG (τ.2.2 0) (τ.1 1) w = true) : Sp mX5_exchange roC 4 [vR 0, vI p, vI g, vI w] (cW τ κ) (.inl none) (cW (excS τ p g w) (excK τ κ p g w)) := by
  refine Sp.of (lk := lkX5) (tb := bX5_exchange) (by decide) lkX5_ok tX5_exchange (cW_keys _ _ _ _) (Nat.le_of_ble_eq_true rfl) (fun G hR => ?_)
  refine hR.run0 3 (S' := (3, [some (vR 0), some (vI p), some (vI g), some (vI w)], [vI g, vI p, vR 0], cW τ κ)) rfl ?_
  by_cases q1 : hasG (τ.2.2 0) p g = true
  · skip
    refine hR.cv [vI p, vI g] kX5_132 rfl rfl ⟨_, _, _, rfl, rfl, rfl⟩ (by first | decide | exact Nat.le_refl _) (by decide) (Nat.le_of_ble_eq_true rfl) rfl (sp_rHas_ok _ _ (by omega) (by omega) hh q1) ?_
    show G (6, [some (vR 0), some (vI p), some (vI g), some (vI w)], [], cW τ κ)
    refine hR.run0 4 (S' := (12, [some (vR 0), some (vI p), some (vI g), some (vI w)], [vI w, vI (τ.1 1), vR 0], cW τ κ)) rfl ?_
    by_cases q2 : hasG (τ.2.2 0) (τ.1 1) w = true
    · skip
      refine hR.cv [vI (τ.1 1), vI w] kX5_132 rfl rfl ⟨_, _, _, rfl, rfl, rfl⟩ (by first | decide | exact Nat.le_refl _) (by decide) (Nat.le_of_ble_eq_true rfl) rfl (sp_rHas_ok _ _ (by omega) (by omega) hh q2) ?_
      show G (15, [some (vR 0), some (vI p), some (vI g), some (vI w)], [], cW τ κ)
      refine hR.run0 6 (S' := (25, [some (vR 0), some (vI p), some (vI g), some (vI w)], [vI g, vI (τ.1 1), vI p, vR 10], cW τ κ)) rfl ?_
      refine hR.cv [vI p, vI (τ.1 1), vI g] kX5_135 rfl rfl ⟨_, _, _, rfl, rfl, rfl⟩ (by first | decide | exact Nat.le_refl _) (by decide) (Nat.le_of_ble_eq_true rfl) rfl (sp_moveAll _ _ (by omega) (by omega) (by omega)) ?_
      show G (28, [some (vR 0), some (vI p), some (vI g), some (vI w)], [], cW (mvA τ p (τ.1 1) g) (mvAK κ p (τ.1 1) g))
      refine hR.run0 6 (S' := (38, [some (vR 0), some (vI p), some (vI g), some (vI w)], [vI w, vI p, vI (τ.1 1), vR 10], cW (mvA τ p (τ.1 1) g) (mvAK κ p (τ.1 1) g))) rfl ?_
      refine hR.cv [vI (τ.1 1), vI p, vI w] kX5_135 rfl rfl ⟨_, _, _, rfl, rfl, rfl⟩ (by first | decide | exact Nat.le_refl _) (by decide) (Nat.le_of_ble_eq_true rfl) rfl (sp_moveAll _ _ (by omega) (by omega) (by omega)) ?_
      show G (41, [some (vR 0), some (vI p), some (vI g), some (vI w)], [], cW (mvA (mvA τ p (τ.1 1) g) (τ.1 1) p w) (mvAK (mvAK κ p (τ.1 1) g) (τ.1 1) p w))
      refine hR.run0 2 (S' := (45, [some (vR 0), some (vI p), some (vI g), some (vI w)], [vR 60], cW (mvA (mvA τ p (τ.1 1) g) (τ.1 1) p w) (mvAK (mvAK κ p (τ.1 1) g) (τ.1 1) p w))) rfl ?_
      refine hR.cv [] kX5_261 rfl rfl ⟨_, _, _, rfl, rfl, rfl⟩ (by first | decide | exact Nat.le_refl _) (by decide) (Nat.le_of_ble_eq_true rfl) rfl (sp_clear _ _) ?_
      show G (48, [some (vR 0), some (vI p), some (vI g), some (vI w)], [], cW (ofS (mvA (mvA τ p (τ.1 1) g) (τ.1 1) p w) 0 0) (mvAK (mvAK κ p (τ.1 1) g) (τ.1 1) p w))
      exact hR.rt rfl trivial (by rfl) (by rfl)
    · skip
      exfalso; simp_all
  · skip
    exfalso; simp_all
theorem sp_exchange_x1 (τ κ : St) {p g w : Int} (hp : 0 ≤ p ∧ p < 3) (hg0 : 0 ≤ g ∧ g ≤ 99999) (hw0 : 0 ≤ w ∧ w ≤ 99999) (hh : ∀ p g, 0 ≤ τ.2.2 0 p g ∧ τ.2.2 0 p g ≤ 12) (htu : 0 ≤ τ.1 1 ∧ τ.1 1 < 3) (h1 : ¬ hasG (τ.2.2 0) p g = true) : Sp mX5_exchange roC 4 [vR 0, vI p, vI g, vI w] (cW τ κ) (.inr xS) (cW τ κ) := by
  refine Sp.of (lk := lkX5) (tb := bX5_exchange) (by decide) lkX5_ok tX5_exchange (cW_keys _ _ _ _) (Nat.le_of_ble_eq_true rfl) (fun G hR => ?_)
  refine hR.run0 3 (S' := (3, [some (vR 0), some (vI p), some (vI g), some (vI w)], [vI g, vI p, vR 0], cW τ κ)) rfl ?_
  by_cases q1 : hasG (τ.2.2 0) p g = true
  · skip
    refine hR.cv [vI p, vI g] kX5_132 rfl rfl ⟨_, _, _, rfl, rfl, rfl⟩ (by first | decide | exact Nat.le_refl _) (by decide) (Nat.le_of_ble_eq_true rfl) rfl (sp_rHas_ok _ _ (by omega) (by omega) hh q1) ?_
    show G (6, [some (vR 0), some (vI p), some (vI g), some (vI w)], [], cW τ κ)
    refine hR.run0 4 (S' := (12, [some (vR 0), some (vI p), some (vI g), some (vI w)], [vI w, vI (τ.1 1), vR 0], cW τ κ)) rfl ?_
    by_cases q2 : hasG (τ.2.2 0) (τ.1 1) w = true
    · skip
      refine hR.cv [vI (τ.1 1), vI w] kX5_132 rfl rfl ⟨_, _, _, rfl, rfl, rfl⟩ (by first | decide | exact Nat.le_refl _) (by decide) (Nat.le_of_ble_eq_true rfl) rfl (sp_rHas_ok _ _ (by omega) (by omega) hh q2) ?_
      show G (15, [some (vR 0), some (vI p), some (vI g), some (vI w)], [], cW τ κ)
      refine hR.run0 6 (S' := (25, [some (vR 0), some (vI p), some (vI g), some (vI w)], [vI g, vI (τ.1 1), vI p, vR 10], cW τ κ)) rfl ?_
      refine hR.cv [vI p, vI (τ.1 1), vI g] kX5_135 rfl rfl ⟨_, _, _, rfl, rfl, rfl⟩ (by first | decide | exact Nat.le_refl _) (by decide) (Nat.le_of_ble_eq_true rfl) rfl (sp_moveAll _ _ (by omega) (by omega) (by omega)) ?_
      show G (28, [some (vR 0), some (vI p), some (vI g), some (vI w)], [], cW (mvA τ p (τ.1 1) g) (mvAK κ p (τ.1 1) g))
      refine hR.run0 6 (S' := (38, [some (vR 0), some (vI p), some (vI g), some (vI w)], [vI w, vI p, vI (τ.1 1), vR 10], cW (mvA τ p (τ.1 1) g) (mvAK κ p (τ.1 1) g))) rfl ?_
      refine hR.cv [vI (τ.1 1), vI p, vI w] kX5_135 rfl rfl ⟨_, _, _, rfl, rfl, rfl⟩ (by first | decide | exact Nat.le_refl _) (by decide) (Nat.le_of_ble_eq_true rfl) rfl (sp_moveAll _ _ (by omega) (by omega) (by omega)) ?_
      show G (41, [some (vR 0), some (vI p), some (vI g), some (vI w)], [], cW (mvA (mvA τ p (τ.1 1) g) (τ.1 1) p w) (mvAK (mvAK κ p (τ.1 1) g) (τ.1 1) p w))
      refine hR.run0 2 (S' := (45, [some (vR 0), some (vI p), some (vI g), some (vI w)], [vR 60], cW (mvA (mvA τ p (τ.1 1) g) (τ.1 1) p w) (mvAK (mvAK κ p (τ.1 1) g) (τ.1 1) p w))) rfl ?_
      refine hR.cv [] kX5_261 rfl rfl ⟨_, _, _, rfl, rfl, rfl⟩ (by first | decide | exact Nat.le_refl _) (by decide) (Nat.le_of_ble_eq_true rfl) rfl (sp_clear _ _) ?_
      show G (48, [some (vR 0), some (vI p), some (vI g), some (vI w)], [], cW (ofS (mvA (mvA τ p (τ.1 1) g) (τ.1 1) p w) 0 0) (mvAK (mvAK κ p (τ.1 1) g) (τ.1 1) p w))
      exfalso; simp_all
    · skip
      exact hR.cvx [vI (τ.1 1), vI w] kX5_132 rfl rfl ⟨_, _, _, rfl, rfl, rfl⟩ (by decide) (by decide) (Nat.le_of_ble_eq_true rfl) rfl (sp_rHas_x _ _ (by omega) (by omega) hh q2) (rfl) (rfl)
  · skip
    exact hR.cvx [vI p, vI g] kX5_132 rfl rfl ⟨_, _, _, rfl, rfl, rfl⟩ (by decide) (by decide) (Nat.le_of_ble_eq_true rfl) rfl (sp_rHas_x _ _ (by omega) (by omega) hh q1) (rfl) (rfl)
theorem sp_exchange_x2 (τ κ : St) {p g w : Int} (hp : 0 ≤ p ∧ p < 3) (hg0 : 0 ≤ g ∧ g ≤ 99999) (hw0 : 0 ≤ w ∧ w ≤ 99999) (hh : ∀ p g, 0 ≤ τ.2.2 0 p g ∧ τ.2.2 0 p g ≤ 12) (htu : 0 ≤ τ.1 1 ∧ τ.1 1 < 3) (h1 : hasG (τ.2.2 0) p g = true) (h2 : ¬ hasG (τ.2.2 0) (τ.1 1) w = true) : Sp mX5_exchange roC 4 [vR 0, vI p, vI g, vI w] (cW τ κ) (.inr xS) (cW τ κ) := by
  refine Sp.of (lk := lkX5) (tb := bX5_exchange) (by decide) lkX5_ok tX5_exchange (cW_keys _ _ _ _) (Nat.le_of_ble_eq_true rfl) (fun G hR => ?_)
  refine hR.run0 3 (S' := (3, [some (vR 0), some (vI p), some (vI g), some (vI w)], [vI g, vI p, vR 0], cW τ κ)) rfl ?_
  by_cases q1 : hasG (τ.2.2 0) p g = true
  · skip
    refine hR.cv [vI p, vI g] kX5_132 rfl rfl ⟨_, _, _, rfl, rfl, rfl⟩ (by first | decide | exact Nat.le_refl _) (by decide) (Nat.le_of_ble_eq_true rfl) rfl (sp_rHas_ok _ _ (by omega) (by omega) hh q1) ?_
    show G (6, [some (vR 0), some (vI p), some (vI g), some (vI w)], [], cW τ κ)
    refine hR.run0 4 (S' := (12, [some (vR 0), some (vI p), some (vI g), some (vI w)], [vI w, vI (τ.1 1), vR 0], cW τ κ)) rfl ?_
    by_cases q2 : hasG (τ.2.2 0) (τ.1 1) w = true
    · skip
      refine hR.cv [vI (τ.1 1), vI w] kX5_132 rfl rfl ⟨_, _, _, rfl, rfl, rfl⟩ (by first | decide | exact Nat.le_refl _) (by decide) (Nat.le_of_ble_eq_true rfl) rfl (sp_rHas_ok _ _ (by omega) (by omega) hh q2) ?_
      show G (15, [some (vR 0), some (vI p), some (vI g), some (vI w)], [], cW τ κ)
      refine hR.run0 6 (S' := (25, [some (vR 0), some (vI p), some (vI g), some (vI w)], [vI g, vI (τ.1 1), vI p, vR 10], cW τ κ)) rfl ?_
      refine hR.cv [vI p, vI (τ.1 1), vI g] kX5_135 rfl rfl ⟨_, _, _, rfl, rfl, rfl⟩ (by first | decide | exact Nat.le_refl _) (by decide) (Nat.le_of_ble_eq_true rfl) rfl (sp_moveAll _ _ (by omega) (by omega) (by omega)) ?_
      show G (28, [some (vR 0), some (vI p), some (vI g), some (vI w)], [], cW (mvA τ p (τ.1 1) g) (mvAK κ p (τ.1 1) g))
      refine hR.run0 6 (S' := (38, [some (vR 0), some (vI p), some (vI g), some (vI w)], [vI w, vI p, vI (τ.1 1), vR 10], cW (mvA τ p (τ.1 1) g) (mvAK κ p (τ.1 1) g))) rfl ?_
      refine hR.cv [vI (τ.1 1), vI p, vI w] kX5_135 rfl rfl ⟨_, _, _, rfl, rfl, rfl⟩ (by first | decide | exact Nat.le_refl _) (by decide) (Nat.le_of_ble_eq_true rfl) rfl (sp_moveAll _ _ (by omega) (by omega) (by omega)) ?_
      show G (41, [some (vR 0), some (vI p), some (vI g), some (vI w)], [], cW (mvA (mvA τ p (τ.1 1) g) (τ.1 1) p w) (mvAK (mvAK κ p (τ.1 1) g) (τ.1 1) p w))
      refine hR.run0 2 (S' := (45, [some (vR 0), some (vI p), some (vI g), some (vI w)], [vR 60], cW (mvA (mvA τ p (τ.1 1) g) (τ.1 1) p w) (mvAK (mvAK κ p (τ.1 1) g) (τ.1 1) p w))) rfl ?_
      refine hR.cv [] kX5_261 rfl rfl ⟨_, _, _, rfl, rfl, rfl⟩ (by first | decide | exact Nat.le_refl _) (by decide) (Nat.le_of_ble_eq_true rfl) rfl (sp_clear _ _) ?_
      show G (48, [some (vR 0), some (vI p), some (vI g), some (vI w)], [], cW (ofS (mvA (mvA τ p (τ.1 1) g) (τ.1 1) p w) 0 0) (mvAK (mvAK κ p (τ.1 1) g) (τ.1 1) p w))
      exfalso; simp_all
    · skip
      exact hR.cvx [vI (τ.1 1), vI w] kX5_132 rfl rfl ⟨_, _, _, rfl, rfl, rfl⟩ (by decide) (by decide) (Nat.le_of_ble_eq_true rfl) rfl (sp_rHas_x _ _ (by omega) (by omega) hh q2) (rfl) (rfl)
  · skip
    exact hR.cvx [vI p, vI g] kX5_132 rfl rfl ⟨_, _, _, rfl, rfl, rfl⟩ (by decide) (by decide) (Nat.le_of_ble_eq_true rfl) rfl (sp_rHas_x _ _ (by omega) (by omega) hh q1) (rfl) (rfl)
theorem pX5_accept (τ κ : St) {p : Int} (hp : -2147483648 ≤ p ∧ p ≤ 2147483647) (hI : Iv τ)  : Sp mX5_accept roC 5 [vR 0, vI p] (cW τ κ) (oc eIS (xAccept τ p)) (cW (xAccept τ p).2.2 (kAccept κ τ p)) := by
  have hb := hI.hb
  have hr := hI.hr
  have hg := hI.hg
  have hn := hI.hn
  have h7 := hI.h7
  have hh := hI.hh
  have hsm := hI.hsm
  have hcd := hI.hcd
  have hfr := hI.hfr
  have hkn := hI.hkn
  have hbo := hI.hbo
  have hus := hI.hus
  have hro := hI.hro
  have har := hI.har
  have hth := hI.hth
  have hph := hI.hph
  have htu := hI.htu
  have hrb := hI.hrb
  have hpl := hI.hpl
  have hdu := hI.hdu
  have hdp := hI.hdp
  have hof := hI.hof
  have how := hI.how
  have hga := hI.hga
  have hwa := hI.hwa
  have hck := hI.hck
  have hkz := hI.hkz
  have hcb := hI.hcb
  have hfb := hI.hfb
  have hnr := hI.hnr
  have hpq := hI.hpq
  have hrc := hI.hrc
  have hbc := hI.hbc
  have hcc := hI.hcc
  have hac := hI.hac
  refine Sp.of (lk := lkX5) (tb := bX5_accept) (by decide) lkX5_ok tX5_accept (cW_keys _ _ _ _) (Nat.le_of_ble_eq_true rfl) (fun G hR => ?_)
  refine hR.run0 1 (S' := (1, [some (vR 0), some (vI p)], [vI p], cW τ κ)) rfl ?_
  by_cases q1 : 0 ≤ p ∧ p < 3
  · skip
    refine hR.cs [vI p] kX5_126 rfl rfl (by first | decide | exact Nat.le_refl _) (by decide) (Nat.le_of_ble_eq_true rfl) rfl (sp_rPlayer_ok _ (by omega) q1) ?_
    show G (4, [some (vR 0), some (vI p)], [], cW τ κ)
    refine hR.run0 2 (S' := (6, [some (vR 0), some (vI p)], [vI 2, vR 0], cW τ κ)) rfl ?_
    by_cases q2 : τ.1 0 = 2
    · skip
      refine hR.cv [vI 2] kX5_95 rfl rfl ⟨_, _, _, rfl, rfl, rfl⟩ (by first | decide | exact Nat.le_refl _) (by decide) (Nat.le_of_ble_eq_true rfl) rfl (sp_rPhase_ok _ _ (by omega) hph q2) ?_
      show G (9, [some (vR 0), some (vI p)], [], cW τ κ)
      refine hR.run0 3 (S' := (14, [some (vR 0), some (vI p)], [vI (τ.1 1), vI p], cW τ κ)) rfl ?_
      refine hR.br (C := p = τ.1 1) rfl (by first | omega | (dsimp only; omega) | (simp [sHt, sH, sS, sAt, sA, sup]; done) | (simp [sHt, sH, sS, sAt, sA, sup]; omega)) (fun c3 => ?_) (fun c3 => ?_)
      · skip
        refine hR.run0 1 (S' := (22, [some (vR 0), some (vI p)], [vI 0], cW τ κ)) rfl ?_
        have hx : xAccept τ p = (2, 0, τ) := by unfold xAccept; (repeat' split) <;> first | rfl | (exfalso; omega) | (exfalso; simp_all; done) | (simp_all; done) | (exfalso; simp_all; omega)
        exact hR.csx [vI 0] kX5_81 rfl rfl (by decide) (by decide) (Nat.le_of_ble_eq_true rfl) rfl (sp_rSo_x _ (Or.inl rfl) (by decide)) (by rw [hx]; rfl) (by unfold kAccept; rw [hx]; rfl)
      · skip
        refine hR.run0 2 (S' := (22, [some (vR 0), some (vI p)], [vI 1], cW τ κ)) rfl ?_
        refine hR.cs [vI 1] kX5_81 rfl rfl (by first | decide | exact Nat.le_refl _) (by decide) (Nat.le_of_ble_eq_true rfl) rfl (sp_rSo_ok _ (Or.inr rfl) rfl) ?_
        show G (25, [some (vR 0), some (vI p)], [], cW τ κ)
        refine hR.run0 2 (S' := (29, [some (vR 0), some (vI p)], [vR 60], cW τ κ)) rfl ?_
        refine hR.cv [] kX5_236 rfl rfl ⟨_, _, _, rfl, rfl, rfl⟩ (by first | decide | exact Nat.le_refl _) (by decide) (Nat.le_of_ble_eq_true rfl) rfl (sp_isOffered _ _ hof) ?_
        show G (32, [some (vR 0), some (vI p)], [vI (bI (decide (τ.1 9 ≠ 0)))], cW τ κ)
        by_cases hb_q4 : (decide (τ.1 9 ≠ 0)) = true
        · skip
          have hs_q4 := hb_q4
          try simp only [Bool.and_eq_true, Bool.or_eq_true, Bool.and_eq_false_iff, Bool.or_eq_false_iff, decide_eq_true_eq, decide_eq_false_iff_not] at hs_q4
          refine hR.cs [vI (bI (decide (τ.1 9 ≠ 0)))] kX5_81 rfl rfl (by first | decide | exact Nat.le_refl _) (by decide) (Nat.le_of_ble_eq_true rfl) rfl (sp_rSob_ok _ hb_q4) ?_
          show G (35, [some (vR 0), some (vI p)], [], cW τ κ)
          refine hR.run0 4 (S' := (41, [some (vR 0), some (vI p)], [vR 60, vI p, vR 0], cW τ κ)) rfl ?_
          refine hR.cv [] kX5_242 rfl rfl ⟨_, _, _, rfl, rfl, rfl⟩ (by first | decide | exact Nat.le_refl _) (by decide) (Nat.le_of_ble_eq_true rfl) rfl (sp_offerWant _ _) ?_
          show G (44, [some (vR 0), some (vI p)], [vI (τ.1 10), vI p, vR 0], cW τ κ)
          refine hR.run0 2 (S' := (48, [some (vR 0), some (vI p)], [vR 60, vI (τ.1 10), vI p, vR 0], cW τ κ)) rfl ?_
          refine hR.cv [] kX5_246 rfl rfl ⟨_, _, _, rfl, rfl, rfl⟩ (by first | decide | exact Nat.le_refl _) (by decide) (Nat.le_of_ble_eq_true rfl) rfl (sp_offerGive _ _) ?_
          show G (51, [some (vR 0), some (vI p)], [vI (τ.1 9), vI (τ.1 10), vI p, vR 0], cW τ κ)
          by_cases q5 : hasG (τ.2.2 0) p (τ.1 10) = true
          · by_cases q6 : hasG (τ.2.2 0) (τ.1 1) (τ.1 9) = true
            · skip
              refine hR.cv [vI p, vI (τ.1 10), vI (τ.1 9)] kX5_249 rfl rfl ⟨_, _, _, rfl, rfl, rfl⟩ (by first | decide | exact Nat.le_refl _) (by decide) (Nat.le_of_ble_eq_true rfl) rfl (sp_exchange _ _ (by omega) (by omega) (by omega) hh htu q5 q6) ?_
              show G (54, [some (vR 0), some (vI p)], [], cW (excS τ p (τ.1 10) (τ.1 9)) (excK τ κ p (τ.1 10) (τ.1 9)))
              refine hR.run0 3 (S' := (59, [some (vR 0), some (vI p)], [vI p, vR 10], cW (excS τ p (τ.1 10) (τ.1 9)) (excK τ κ p (τ.1 10) (τ.1 9)))) rfl ?_
              refine hR.cv [vI p] kX5_138 rfl rfl ⟨_, _, _, rfl, rfl, rfl⟩ (by first | decide | exact Nat.le_refl _) (by decide) (Nat.le_of_ble_eq_true rfl) rfl (sp_total _ _ (by omega) (HH_mvA (HH_mvA hI.hH (by omega) (by omega) (by assumption)) (by omega) (by omega) (hasG_mvA (by assumption))).1) ?_
              show G (62, [some (vR 0), some (vI p)], [vI (tot ((excS τ p (τ.1 10) (τ.1 9)).2.2 0) p)], cW (excS τ p (τ.1 10) (τ.1 9)) (excK τ κ p (τ.1 10) (τ.1 9)))
              have hx : xAccept τ p = (0, tot ((excS τ p (τ.1 10) (τ.1 9)).2.2 0) p, excS τ p (τ.1 10) (τ.1 9)) := by unfold xAccept; (repeat' split) <;> first | rfl | (exfalso; omega) | (exfalso; simp_all; done) | (simp_all; done) | (exfalso; simp_all; omega)
              exact hR.rt rfl trivial (by rw [hx]; rfl) (by unfold kAccept; rw [hx]; rfl)
            · skip
              have hx : xAccept τ p = (2, 0, τ) := by unfold xAccept; (repeat' split) <;> first | rfl | (exfalso; omega) | (exfalso; simp_all; done) | (simp_all; done) | (exfalso; simp_all; omega)
              exact hR.cvx [vI p, vI (τ.1 10), vI (τ.1 9)] kX5_249 rfl rfl ⟨_, _, _, rfl, rfl, rfl⟩ (by decide) (by decide) (Nat.le_of_ble_eq_true rfl) rfl (sp_exchange_x2 _ _ (by omega) (by omega) (by omega) hh htu q5 q6) (by rw [hx]; rfl) (by unfold kAccept; rw [hx]; rfl)
          · skip
            have hx : xAccept τ p = (2, 0, τ) := by unfold xAccept; (repeat' split) <;> first | rfl | (exfalso; omega) | (exfalso; simp_all; done) | (simp_all; done) | (exfalso; simp_all; omega)
            exact hR.cvx [vI p, vI (τ.1 10), vI (τ.1 9)] kX5_249 rfl rfl ⟨_, _, _, rfl, rfl, rfl⟩ (by decide) (by decide) (Nat.le_of_ble_eq_true rfl) rfl (sp_exchange_x1 _ _ (by omega) (by omega) (by omega) hh htu q5) (by rw [hx]; rfl) (by unfold kAccept; rw [hx]; rfl)
        · replace hb_q4 := Bool.eq_false_iff.mpr hb_q4
          have hs_q4 := hb_q4
          try simp only [Bool.and_eq_true, Bool.or_eq_true, Bool.and_eq_false_iff, Bool.or_eq_false_iff, decide_eq_true_eq, decide_eq_false_iff_not] at hs_q4
          have hx : xAccept τ p = (2, 0, τ) := by unfold xAccept; (repeat' split) <;> first | rfl | (exfalso; omega) | (exfalso; simp_all; done) | (simp_all; done) | (exfalso; simp_all; omega)
          exact hR.csx [vI (bI (decide (τ.1 9 ≠ 0)))] kX5_81 rfl rfl (by decide) (by decide) (Nat.le_of_ble_eq_true rfl) rfl (sp_rSob_x _ hb_q4) (by rw [hx]; rfl) (by unfold kAccept; rw [hx]; rfl)
    · skip
      have hx : xAccept τ p = (2, 0, τ) := by unfold xAccept; (repeat' split) <;> first | rfl | (exfalso; omega) | (exfalso; simp_all; done) | (simp_all; done) | (exfalso; simp_all; omega)
      exact hR.cvx [vI 2] kX5_95 rfl rfl ⟨_, _, _, rfl, rfl, rfl⟩ (by decide) (by decide) (Nat.le_of_ble_eq_true rfl) rfl (sp_rPhase_x _ _ (by omega) hph q2) (by rw [hx]; rfl) (by unfold kAccept; rw [hx]; rfl)
  · skip
    have hx : xAccept τ p = (1, 0, τ) := by unfold xAccept; (repeat' split) <;> first | rfl | (exfalso; omega) | (exfalso; simp_all; done) | (simp_all; done) | (exfalso; simp_all; omega)
    exact hR.csx [vI p] kX5_126 rfl rfl (by decide) (by decide) (Nat.le_of_ble_eq_true rfl) rfl (sp_rPlayer_x _ (by omega) q1) (by rw [hx]; rfl) (by unfold kAccept; rw [hx]; rfl)
theorem pX5_agree (τ κ : St) {p : Int} (hp : -2147483648 ≤ p ∧ p ≤ 2147483647) (hI : Iv τ)  : Sp mX5_agree roC 5 [vR 0, vI p] (cW τ κ) (oc eIS (xAgree τ p)) (cW (xAgree τ p).2.2 (kAgree κ τ p)) := by
  have hb := hI.hb
  have hr := hI.hr
  have hg := hI.hg
  have hn := hI.hn
  have h7 := hI.h7
  have hh := hI.hh
  have hsm := hI.hsm
  have hcd := hI.hcd
  have hfr := hI.hfr
  have hkn := hI.hkn
  have hbo := hI.hbo
  have hus := hI.hus
  have hro := hI.hro
  have har := hI.har
  have hth := hI.hth
  have hph := hI.hph
  have htu := hI.htu
  have hrb := hI.hrb
  have hpl := hI.hpl
  have hdu := hI.hdu
  have hdp := hI.hdp
  have hof := hI.hof
  have how := hI.how
  have hga := hI.hga
  have hwa := hI.hwa
  have hck := hI.hck
  have hkz := hI.hkz
  have hcb := hI.hcb
  have hfb := hI.hfb
  have hnr := hI.hnr
  have hpq := hI.hpq
  have hrc := hI.hrc
  have hbc := hI.hbc
  have hcc := hI.hcc
  have hac := hI.hac
  have hga1 := hga p
  have hwa1 := hwa p
  refine Sp.of (lk := lkX5) (tb := bX5_agree) (by decide) lkX5_ok tX5_agree (cW_keys _ _ _ _) (Nat.le_of_ble_eq_true rfl) (fun G hR => ?_)
  refine hR.run0 1 (S' := (1, [some (vR 0), some (vI p)], [vI p], cW τ κ)) rfl ?_
  by_cases q1 : 0 ≤ p ∧ p < 3
  · skip
    refine hR.cs [vI p] kX5_126 rfl rfl (by first | decide | exact Nat.le_refl _) (by decide) (Nat.le_of_ble_eq_true rfl) rfl (sp_rPlayer_ok _ (by omega) q1) ?_
    show G (4, [some (vR 0), some (vI p)], [], cW τ κ)
    refine hR.run0 2 (S' := (6, [some (vR 0), some (vI p)], [vI 2, vR 0], cW τ κ)) rfl ?_
    by_cases q2 : τ.1 0 = 2
    · skip
      refine hR.cv [vI 2] kX5_95 rfl rfl ⟨_, _, _, rfl, rfl, rfl⟩ (by first | decide | exact Nat.le_refl _) (by decide) (Nat.le_of_ble_eq_true rfl) rfl (sp_rPhase_ok _ _ (by omega) hph q2) ?_
      show G (9, [some (vR 0), some (vI p)], [], cW τ κ)
      refine hR.run0 3 (S' := (14, [some (vR 0), some (vI p)], [vI p, vR 60], cW τ κ)) rfl ?_
      refine hR.cv [vI p] kX5_252 rfl rfl ⟨_, _, _, rfl, rfl, rfl⟩ (by first | decide | exact Nat.le_refl _) (by decide) (Nat.le_of_ble_eq_true rfl) rfl (sp_hasCounter _ _ (by omega) hga) ?_
      show G (17, [some (vR 0), some (vI p)], [vI (bI (decide (τ.2.1 7 p ≠ 0)))], cW τ κ)
      by_cases hb_q3 : (decide (τ.2.1 7 p ≠ 0)) = true
      · skip
        have hs_q3 := hb_q3
        try simp only [Bool.and_eq_true, Bool.or_eq_true, Bool.and_eq_false_iff, Bool.or_eq_false_iff, decide_eq_true_eq, decide_eq_false_iff_not] at hs_q3
        refine hR.cs [vI (bI (decide (τ.2.1 7 p ≠ 0)))] kX5_81 rfl rfl (by first | decide | exact Nat.le_refl _) (by decide) (Nat.le_of_ble_eq_true rfl) rfl (sp_rSob_ok _ hb_q3) ?_
        show G (20, [some (vR 0), some (vI p)], [], cW τ κ)
        refine hR.run0 5 (S' := (27, [some (vR 0), some (vI p)], [vI p, vR 60, vI p, vR 0], cW τ κ)) rfl ?_
        have f1 := hga p
        refine hR.cv [vI p] kX5_255 rfl rfl ⟨_, _, _, rfl, rfl, rfl⟩ (by first | decide | exact Nat.le_refl _) (by decide) (Nat.le_of_ble_eq_true rfl) rfl (sp_counterGive _ _ (by omega)) ?_
        show G (30, [some (vR 0), some (vI p)], [vI (τ.2.1 7 p), vI p, vR 0], cW τ κ)
        refine hR.run0 3 (S' := (35, [some (vR 0), some (vI p)], [vI p, vR 60, vI (τ.2.1 7 p), vI p, vR 0], cW τ κ)) rfl ?_
        have f2 := hwa p
        refine hR.cv [vI p] kX5_258 rfl rfl ⟨_, _, _, rfl, rfl, rfl⟩ (by first | decide | exact Nat.le_refl _) (by decide) (Nat.le_of_ble_eq_true rfl) rfl (sp_counterWant _ _ (by omega)) ?_
        show G (38, [some (vR 0), some (vI p)], [vI (τ.2.1 8 p), vI (τ.2.1 7 p), vI p, vR 0], cW τ κ)
        by_cases q4 : hasG (τ.2.2 0) p (τ.2.1 7 p) = true
        · by_cases q5 : hasG (τ.2.2 0) (τ.1 1) (τ.2.1 8 p) = true
          · skip
            refine hR.cv [vI p, vI (τ.2.1 7 p), vI (τ.2.1 8 p)] kX5_249 rfl rfl ⟨_, _, _, rfl, rfl, rfl⟩ (by first | decide | exact Nat.le_refl _) (by decide) (Nat.le_of_ble_eq_true rfl) rfl (sp_exchange _ _ (by omega) (by omega) (by omega) hh htu q4 q5) ?_
            show G (41, [some (vR 0), some (vI p)], [], cW (excS τ p (τ.2.1 7 p) (τ.2.1 8 p)) (excK τ κ p (τ.2.1 7 p) (τ.2.1 8 p)))
            refine hR.run0 4 (S' := (49, [some (vR 0), some (vI p)], [vI (τ.1 1), vR 10], cW (excS τ p (τ.2.1 7 p) (τ.2.1 8 p)) (excK τ κ p (τ.2.1 7 p) (τ.2.1 8 p)))) rfl ?_
            refine hR.cv [vI (τ.1 1)] kX5_138 rfl rfl ⟨_, _, _, rfl, rfl, rfl⟩ (by first | decide | exact Nat.le_refl _) (by decide) (Nat.le_of_ble_eq_true rfl) rfl (sp_total _ _ (by omega) (HH_mvA (HH_mvA hI.hH (by omega) (by omega) (by assumption)) (by omega) (by omega) (hasG_mvA (by assumption))).1) ?_
            show G (52, [some (vR 0), some (vI p)], [vI (tot ((excS τ p (τ.2.1 7 p) (τ.2.1 8 p)).2.2 0) (τ.1 1))], cW (excS τ p (τ.2.1 7 p) (τ.2.1 8 p)) (excK τ κ p (τ.2.1 7 p) (τ.2.1 8 p)))
            have hx : xAgree τ p = (0, tot ((excS τ p (τ.2.1 7 p) (τ.2.1 8 p)).2.2 0) (τ.1 1), excS τ p (τ.2.1 7 p) (τ.2.1 8 p)) := by unfold xAgree; (repeat' split) <;> first | rfl | (exfalso; omega) | (exfalso; simp_all; done) | (simp_all; done) | (exfalso; simp_all; omega)
            exact hR.rt rfl trivial (by rw [hx]; rfl) (by unfold kAgree; rw [hx]; rfl)
          · skip
            have hx : xAgree τ p = (2, 0, τ) := by unfold xAgree; (repeat' split) <;> first | rfl | (exfalso; omega) | (exfalso; simp_all; done) | (simp_all; done) | (exfalso; simp_all; omega)
            exact hR.cvx [vI p, vI (τ.2.1 7 p), vI (τ.2.1 8 p)] kX5_249 rfl rfl ⟨_, _, _, rfl, rfl, rfl⟩ (by decide) (by decide) (Nat.le_of_ble_eq_true rfl) rfl (sp_exchange_x2 _ _ (by omega) (by omega) (by omega) hh htu q4 q5) (by rw [hx]; rfl) (by unfold kAgree; rw [hx]; rfl)
        · skip
          have hx : xAgree τ p = (2, 0, τ) := by unfold xAgree; (repeat' split) <;> first | rfl | (exfalso; omega) | (exfalso; simp_all; done) | (simp_all; done) | (exfalso; simp_all; omega)
          exact hR.cvx [vI p, vI (τ.2.1 7 p), vI (τ.2.1 8 p)] kX5_249 rfl rfl ⟨_, _, _, rfl, rfl, rfl⟩ (by decide) (by decide) (Nat.le_of_ble_eq_true rfl) rfl (sp_exchange_x1 _ _ (by omega) (by omega) (by omega) hh htu q4) (by rw [hx]; rfl) (by unfold kAgree; rw [hx]; rfl)
      · replace hb_q3 := Bool.eq_false_iff.mpr hb_q3
        have hs_q3 := hb_q3
        try simp only [Bool.and_eq_true, Bool.or_eq_true, Bool.and_eq_false_iff, Bool.or_eq_false_iff, decide_eq_true_eq, decide_eq_false_iff_not] at hs_q3
        have hx : xAgree τ p = (2, 0, τ) := by unfold xAgree; (repeat' split) <;> first | rfl | (exfalso; omega) | (exfalso; simp_all; done) | (simp_all; done) | (exfalso; simp_all; omega)
        exact hR.csx [vI (bI (decide (τ.2.1 7 p ≠ 0)))] kX5_81 rfl rfl (by decide) (by decide) (Nat.le_of_ble_eq_true rfl) rfl (sp_rSob_x _ hb_q3) (by rw [hx]; rfl) (by unfold kAgree; rw [hx]; rfl)
    · skip
      have hx : xAgree τ p = (2, 0, τ) := by unfold xAgree; (repeat' split) <;> first | rfl | (exfalso; omega) | (exfalso; simp_all; done) | (simp_all; done) | (exfalso; simp_all; omega)
      exact hR.cvx [vI 2] kX5_95 rfl rfl ⟨_, _, _, rfl, rfl, rfl⟩ (by decide) (by decide) (Nat.le_of_ble_eq_true rfl) rfl (sp_rPhase_x _ _ (by omega) hph q2) (by rw [hx]; rfl) (by unfold kAgree; rw [hx]; rfl)
  · skip
    have hx : xAgree τ p = (1, 0, τ) := by unfold xAgree; (repeat' split) <;> first | rfl | (exfalso; omega) | (exfalso; simp_all; done) | (simp_all; done) | (exfalso; simp_all; omega)
    exact hR.csx [vI p] kX5_126 rfl rfl (by decide) (by decide) (Nat.le_of_ble_eq_true rfl) rfl (sp_rPlayer_x _ (by omega) q1) (by rw [hx]; rfl) (by unfold kAgree; rw [hx]; rfl)
theorem pX5_endTurn (τ κ : St)  (hI : Iv τ)  : Sp mX5_endTurn roC 4 [vR 0] (cW τ κ) (oc eS1 (xEnd τ)) (cW (xEnd τ).2.2 κ) := by
  have hb := hI.hb
  have hr := hI.hr
  have hg := hI.hg
  have hn := hI.hn
  have h7 := hI.h7
  have hh := hI.hh
  have hsm := hI.hsm
  have hcd := hI.hcd
  have hfr := hI.hfr
  have hkn := hI.hkn
  have hbo := hI.hbo
  have hus := hI.hus
  have hro := hI.hro
  have har := hI.har
  have hth := hI.hth
  have hph := hI.hph
  have htu := hI.htu
  have hrb := hI.hrb
  have hpl := hI.hpl
  have hdu := hI.hdu
  have hdp := hI.hdp
  have hof := hI.hof
  have how := hI.how
  have hga := hI.hga
  have hwa := hI.hwa
  have hck := hI.hck
  have hkz := hI.hkz
  have hcb := hI.hcb
  have hfb := hI.hfb
  have hnr := hI.hnr
  have hpq := hI.hpq
  have hrc := hI.hrc
  have hbc := hI.hbc
  have hcc := hI.hcc
  have hac := hI.hac
  refine Sp.of (lk := lkX5) (tb := bX5_endTurn) (by decide) lkX5_ok tX5_endTurn (cW_keys _ _ _ _) (Nat.le_of_ble_eq_true rfl) (fun G hR => ?_)
  refine hR.run0 2 (S' := (2, [some (vR 0)], [vI 2, vR 0], cW τ κ)) rfl ?_
  by_cases q1 : τ.1 0 = 2
  · skip
    refine hR.cv [vI 2] kX5_95 rfl rfl ⟨_, _, _, rfl, rfl, rfl⟩ (by first | decide | exact Nat.le_refl _) (by decide) (Nat.le_of_ble_eq_true rfl) rfl (sp_rPhase_ok _ _ (by omega) hph q1) ?_
    show G (5, [some (vR 0)], [], cW τ κ)
    refine hR.run0 2 (S' := (9, [some (vR 0)], [vR 60], cW τ κ)) rfl ?_
    refine hR.cv [] kX5_261 rfl rfl ⟨_, _, _, rfl, rfl, rfl⟩ (by first | decide | exact Nat.le_refl _) (by decide) (Nat.le_of_ble_eq_true rfl) rfl (sp_clear _ _) ?_
    show G (12, [some (vR 0)], [], cW (ofS τ 0 0) κ)
    refine hR.run0 2 (S' := (16, [some (vR 0)], [vR 50], cW (ofS τ 0 0) κ)) rfl ?_
    refine hR.cv [] kX5_264 rfl rfl ⟨_, _, _, rfl, rfl, rfl⟩ (by first | decide | exact Nat.le_refl _) (by decide) (Nat.le_of_ble_eq_true rfl) rfl (sp_startTurn _ _) ?_
    show G (19, [some (vR 0)], [], cW (strt (ofS τ 0 0)) κ)
    refine hR.run0 6 (S' := (27, [some (vR 0)], [vI 3, vI ((τ.1 1) + 1), vR 0], cW (strt (ofS τ 0 0)) κ)) rfl ?_
    refine hR.br (C := 3 ≤ (τ.1 1) + 1) rfl (by first | omega | (dsimp only; omega) | (simp [sHt, sH, sS, sAt, sA, sup]; done) | (simp [sHt, sH, sS, sAt, sA, sup]; omega)) (fun c2 => ?_) (fun c2 => ?_)
    · skip
      refine hR.run0 2 (S' := (43, [some (vR 0)], [], pset (cW (strt (ofS τ 0 0)) κ) 0 (.inr (5, [vR 1, vR 10, vR 40, vR 50, vR 60, vR 70, vR 71, vI ((strt (ofS τ 0 0)).1 0), vI 0, vI ((strt (ofS τ 0 0)).1 2), vI ((strt (ofS τ 0 0)).1 3), vI ((strt (ofS τ 0 0)).1 4)])))) rfl ?_
      rw [cW_s1]
      refine hR.run0 3 (S' := (48, [some (vR 0)], [], pset (cW (sS (strt (ofS τ 0 0)) 1 0) κ) 0 (.inr (5, [vR 1, vR 10, vR 40, vR 50, vR 60, vR 70, vR 71, vI 1, vI ((sS (strt (ofS τ 0 0)) 1 0).1 1), vI ((sS (strt (ofS τ 0 0)) 1 0).1 2), vI ((sS (strt (ofS τ 0 0)) 1 0).1 3), vI ((sS (strt (ofS τ 0 0)) 1 0).1 4)])))) rfl ?_
      rw [cW_s0]
      refine hR.run0 1 (S' := (49, [some (vR 0)], [vR 0], cW (sS (sS (strt (ofS τ 0 0)) 1 0) 0 1) κ)) rfl ?_
      refine hR.cv [] kX5_197 rfl rfl ⟨_, _, _, rfl, rfl, rfl⟩ (by first | decide | exact Nat.le_refl _) (by decide) (Nat.le_of_ble_eq_true rfl) rfl (sp_endW _ _ (by first | exact (Wi.use hI.wi (fun k => (hI.hfr k).1) (by assumption) : Wi (usS τ (τ.1 1) 0)) | exact Wi.rob (Wi.use hI.wi (fun k => (hI.hfr k).1) (by assumption)) _ _ _ | exact Wi.gv hI.wi (by omega) hI.hcb _ | exact Wi.nd hI.wi (by omega) | assumption)) ?_
      show G (52, [some (vR 0)], [], cW (winS (sS (sS (strt (ofS τ 0 0)) 1 0) 0 1)) κ)
      refine hR.run0 2 (S' := (56, [some (vR 0)], [vI ((winS (sS (sS (strt (ofS τ 0 0)) 1 0) 0 1)).1 1)], cW (winS (sS (sS (strt (ofS τ 0 0)) 1 0) 0 1)) κ)) rfl ?_
      have hx : xEnd τ = (0, (winS (sS (sS (strt (ofS τ 0 0)) 1 0) 0 1)).1 1, winS (sS (sS (strt (ofS τ 0 0)) 1 0) 0 1)) := by unfold xEnd nxtT; (repeat' split) <;> first | rfl | (exfalso; omega) | (exfalso; simp_all; done) | (simp_all; done) | (exfalso; simp_all; omega)
      exact hR.rt rfl trivial (by rw [hx]; rfl) (by rw [hx])
    · skip
      refine hR.run0 6 (S' := (43, [some (vR 0)], [], pset (cW (strt (ofS τ 0 0)) κ) 0 (.inr (5, [vR 1, vR 10, vR 40, vR 50, vR 60, vR 70, vR 71, vI ((strt (ofS τ 0 0)).1 0), vI ((τ.1 1) + 1), vI ((strt (ofS τ 0 0)).1 2), vI ((strt (ofS τ 0 0)).1 3), vI ((strt (ofS τ 0 0)).1 4)])))) rfl ?_
      rw [cW_s1]
      refine hR.run0 3 (S' := (48, [some (vR 0)], [], pset (cW (sS (strt (ofS τ 0 0)) 1 ((τ.1 1) + 1)) κ) 0 (.inr (5, [vR 1, vR 10, vR 40, vR 50, vR 60, vR 70, vR 71, vI 1, vI ((sS (strt (ofS τ 0 0)) 1 ((τ.1 1) + 1)).1 1), vI ((sS (strt (ofS τ 0 0)) 1 ((τ.1 1) + 1)).1 2), vI ((sS (strt (ofS τ 0 0)) 1 ((τ.1 1) + 1)).1 3), vI ((sS (strt (ofS τ 0 0)) 1 ((τ.1 1) + 1)).1 4)])))) rfl ?_
      rw [cW_s0]
      refine hR.run0 1 (S' := (49, [some (vR 0)], [vR 0], cW (sS (sS (strt (ofS τ 0 0)) 1 ((τ.1 1) + 1)) 0 1) κ)) rfl ?_
      refine hR.cv [] kX5_197 rfl rfl ⟨_, _, _, rfl, rfl, rfl⟩ (by first | decide | exact Nat.le_refl _) (by decide) (Nat.le_of_ble_eq_true rfl) rfl (sp_endW _ _ (by first | exact (Wi.use hI.wi (fun k => (hI.hfr k).1) (by assumption) : Wi (usS τ (τ.1 1) 0)) | exact Wi.rob (Wi.use hI.wi (fun k => (hI.hfr k).1) (by assumption)) _ _ _ | exact Wi.gv hI.wi (by omega) hI.hcb _ | exact Wi.nd hI.wi (by omega) | assumption)) ?_
      show G (52, [some (vR 0)], [], cW (winS (sS (sS (strt (ofS τ 0 0)) 1 ((τ.1 1) + 1)) 0 1)) κ)
      refine hR.run0 2 (S' := (56, [some (vR 0)], [vI ((winS (sS (sS (strt (ofS τ 0 0)) 1 ((τ.1 1) + 1)) 0 1)).1 1)], cW (winS (sS (sS (strt (ofS τ 0 0)) 1 ((τ.1 1) + 1)) 0 1)) κ)) rfl ?_
      have hx : xEnd τ = (0, (winS (sS (sS (strt (ofS τ 0 0)) 1 ((τ.1 1) + 1)) 0 1)).1 1, winS (sS (sS (strt (ofS τ 0 0)) 1 ((τ.1 1) + 1)) 0 1)) := by unfold xEnd nxtT; (repeat' split) <;> first | rfl | (exfalso; omega) | (exfalso; simp_all; done) | (simp_all; done) | (exfalso; simp_all; omega)
      exact hR.rt rfl trivial (by rw [hx]; rfl) (by rw [hx])
  · skip
    have hx : xEnd τ = (1, 0, τ) := by unfold xEnd nxtT; (repeat' split) <;> first | rfl | (exfalso; omega) | (exfalso; simp_all; done) | (simp_all; done) | (exfalso; simp_all; omega)
    exact hR.cvx [vI 2] kX5_95 rfl rfl ⟨_, _, _, rfl, rfl, rfl⟩ (by decide) (by decide) (Nat.le_of_ble_eq_true rfl) rfl (sp_rPhase_x _ _ (by omega) hph q1) (by rw [hx]; rfl) (by rw [hx])
