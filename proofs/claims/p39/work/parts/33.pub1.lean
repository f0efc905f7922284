theorem pX5_phase (τ κ : St)  (hI : Iv τ)  : Sp mX5_phase roC 0 [vR 0] (cW τ κ) (oc eIAS (xPhase τ)) (cW (xPhase τ).2.2 κ) := by
  have hb := hI.hb
  have hr := hI.hr
  have hg := hI.hg
  have hn := hI.hn
  have h7 := hI.h7
  have hh := hI.hh
  have hsm := hI.hsm
  have hcd := hI.hcd
  have hfr := hI.hfr
  have hkn := hI.hkn
  have hbo := hI.hbo
  have hus := hI.hus
  have hro := hI.hro
  have har := hI.har
  have hth := hI.hth
  have hph := hI.hph
  have htu := hI.htu
  have hrb := hI.hrb
  have hpl := hI.hpl
  have hdu := hI.hdu
  have hdp := hI.hdp
  have hof := hI.hof
  have how := hI.how
  have hga := hI.hga
  have hwa := hI.hwa
  have hck := hI.hck
  have hkz := hI.hkz
  have hcb := hI.hcb
  have hfb := hI.hfb
  have hnr := hI.hnr
  have hpq := hI.hpq
  have hrc := hI.hrc
  have hbc := hI.hbc
  have hcc := hI.hcc
  have hac := hI.hac
  refine Sp.of (lk := lkX5) (tb := bX5_phase) (by decide) lkX5_ok tX5_phase (cW_keys _ _ _ _) (Nat.le_of_ble_eq_true rfl) (fun G hR => ?_)
  refine hR.run0 2 (S' := (4, [some (vR 0)], [vI (τ.1 0)], cW τ κ)) rfl ?_
  have hx : xPhase τ = (0, τ.1 0, τ) := by unfold xPhase; (repeat' split) <;> first | rfl | (exfalso; omega) | (exfalso; simp_all; done) | (simp_all; done) | (exfalso; simp_all; omega)
  exact hR.rt rfl trivial (by rw [hx]; rfl) (by rw [hx])
theorem pX5_turn (τ κ : St)  (hI : Iv τ)  : Sp mX5_turn roC 0 [vR 0] (cW τ κ) (oc eIAS (xTurn τ)) (cW (xTurn τ).2.2 κ) := by
  have hb := hI.hb
  have hr := hI.hr
  have hg := hI.hg
  have hn := hI.hn
  have h7 := hI.h7
  have hh := hI.hh
  have hsm := hI.hsm
  have hcd := hI.hcd
  have hfr := hI.hfr
  have hkn := hI.hkn
  have hbo := hI.hbo
  have hus := hI.hus
  have hro := hI.hro
  have har := hI.har
  have hth := hI.hth
  have hph := hI.hph
  have htu := hI.htu
  have hrb := hI.hrb
  have hpl := hI.hpl
  have hdu := hI.hdu
  have hdp := hI.hdp
  have hof := hI.hof
  have how := hI.how
  have hga := hI.hga
  have hwa := hI.hwa
  have hck := hI.hck
  have hkz := hI.hkz
  have hcb := hI.hcb
  have hfb := hI.hfb
  have hnr := hI.hnr
  have hpq := hI.hpq
  have hrc := hI.hrc
  have hbc := hI.hbc
  have hcc := hI.hcc
  have hac := hI.hac
  refine Sp.of (lk := lkX5) (tb := bX5_turn) (by decide) lkX5_ok tX5_turn (cW_keys _ _ _ _) (Nat.le_of_ble_eq_true rfl) (fun G hR => ?_)
  refine hR.run0 2 (S' := (4, [some (vR 0)], [vI (τ.1 1)], cW τ κ)) rfl ?_
  have hx : xTurn τ = (0, τ.1 1, τ) := by unfold xTurn; (repeat' split) <;> first | rfl | (exfalso; omega) | (exfalso; simp_all; done) | (simp_all; done) | (exfalso; simp_all; omega)
  exact hR.rt rfl trivial (by rw [hx]; rfl) (by rw [hx])
theorem pX5_hand (τ κ : St) {p g : Int} (hp : -2147483648 ≤ p ∧ p ≤ 2147483647) (hg : -2147483648 ≤ g ∧ g ≤ 2147483647) (hI : Iv τ)  : Sp mX5_hand roC 2 [vR 0, vI p, vI g] (cW τ κ) (oc eIAS (xHand τ p g)) (cW (xHand τ p g).2.2 κ) := by
  have hb := hI.hb
  have hr := hI.hr
  have hg := hI.hg
  have hn := hI.hn
  have h7 := hI.h7
  have hh := hI.hh
  have hsm := hI.hsm
  have hcd := hI.hcd
  have hfr := hI.hfr
  have hkn := hI.hkn
  have hbo := hI.hbo
  have hus := hI.hus
  have hro := hI.hro
  have har := hI.har
  have hth := hI.hth
  have hph := hI.hph
  have htu := hI.htu
  have hrb := hI.hrb
  have hpl := hI.hpl
  have hdu := hI.hdu
  have hdp := hI.hdp
  have hof := hI.hof
  have how := hI.how
  have hga := hI.hga
  have hwa := hI.hwa
  have hck := hI.hck
  have hkz := hI.hkz
  have hcb := hI.hcb
  have hfb := hI.hfb
  have hnr := hI.hnr
  have hpq := hI.hpq
  have hrc := hI.hrc
  have hbc := hI.hbc
  have hcc := hI.hcc
  have hac := hI.hac
  refine Sp.of (lk := lkX5) (tb := bX5_hand) (by decide) lkX5_ok tX5_hand (cW_keys _ _ _ _) (Nat.le_of_ble_eq_true rfl) (fun G hR => ?_)
  refine hR.run0 1 (S' := (1, [some (vR 0), some (vI p), some (vI g)], [vI p], cW τ κ)) rfl ?_
  by_cases q1 : 0 ≤ p ∧ p < 4
  · skip
    refine hR.cs [vI p] kX5_267 rfl rfl (by first | decide | exact Nat.le_refl _) (by decide) (Nat.le_of_ble_eq_true rfl) rfl (sp_rHolder_ok _ (by omega) q1) ?_
    show G (4, [some (vR 0), some (vI p), some (vI g)], [], cW τ κ)
    refine hR.run0 1 (S' := (5, [some (vR 0), some (vI p), some (vI g)], [vI g], cW τ κ)) rfl ?_
    by_cases q2 : 0 ≤ g ∧ g < 5
    · skip
      refine hR.cs [vI g] kX5_211 rfl rfl (by first | decide | exact Nat.le_refl _) (by decide) (Nat.le_of_ble_eq_true rfl) rfl (sp_rGood_ok _ (by omega) q2) ?_
      show G (8, [some (vR 0), some (vI p), some (vI g)], [], cW τ κ)
      refine hR.run0 4 (S' := (14, [some (vR 0), some (vI p), some (vI g)], [vI g, vI p, vR 10], cW τ κ)) rfl ?_
      have f1 := hh p g
      refine hR.cv [vI p, vI g] kX5_217 rfl rfl ⟨_, _, _, rfl, rfl, rfl⟩ (by first | decide | exact Nat.le_refl _) (by decide) (Nat.le_of_ble_eq_true rfl) rfl (sp_count _ _ (by omega) (by omega)) ?_
      show G (17, [some (vR 0), some (vI p), some (vI g)], [vI (τ.2.2 0 p g)], cW τ κ)
      have hx : xHand τ p g = (0, τ.2.2 0 p g, τ) := by unfold xHand; (repeat' split) <;> first | rfl | (exfalso; omega) | (exfalso; simp_all; done) | (simp_all; done) | (exfalso; simp_all; omega)
      exact hR.rt rfl trivial (by rw [hx]; rfl) (by rw [hx])
    · skip
      have hx : xHand τ p g = (2, 0, τ) := by unfold xHand; (repeat' split) <;> first | rfl | (exfalso; omega) | (exfalso; simp_all; done) | (simp_all; done) | (exfalso; simp_all; omega)
      exact hR.csx [vI g] kX5_211 rfl rfl (by decide) (by decide) (Nat.le_of_ble_eq_true rfl) rfl (sp_rGood_x _ (by omega) q2) (by rw [hx]; rfl) (by rw [hx])
  · skip
    have hx : xHand τ p g = (1, 0, τ) := by unfold xHand; (repeat' split) <;> first | rfl | (exfalso; omega) | (exfalso; simp_all; done) | (simp_all; done) | (exfalso; simp_all; omega)
    exact hR.csx [vI p] kX5_267 rfl rfl (by decide) (by decide) (Nat.le_of_ble_eq_true rfl) rfl (sp_rHolder_x _ (by omega) q1) (by rw [hx]; rfl) (by rw [hx])
theorem pX5_handByMoves (τ κ : St) {p g : Int} (hp : -2147483648 ≤ p ∧ p ≤ 2147483647) (hg : -2147483648 ≤ g ∧ g ≤ 2147483647) (hI : Iv τ)  : Sp mX5_handByMoves roC 2 [vR 0, vI p, vI g] (cW τ κ) (oc eIAS (xHandK κ τ p g)) (cW (xHandK κ τ p g).2.2 κ) := by
  have hb := hI.hb
  have hr := hI.hr
  have hg := hI.hg
  have hn := hI.hn
  have h7 := hI.h7
  have hh := hI.hh
  have hsm := hI.hsm
  have hcd := hI.hcd
  have hfr := hI.hfr
  have hkn := hI.hkn
  have hbo := hI.hbo
  have hus := hI.hus
  have hro := hI.hro
  have har := hI.har
  have hth := hI.hth
  have hph := hI.hph
  have htu := hI.htu
  have hrb := hI.hrb
  have hpl := hI.hpl
  have hdu := hI.hdu
  have hdp := hI.hdp
  have hof := hI.hof
  have how := hI.how
  have hga := hI.hga
  have hwa := hI.hwa
  have hck := hI.hck
  have hkz := hI.hkz
  have hcb := hI.hcb
  have hfb := hI.hfb
  have hnr := hI.hnr
  have hpq := hI.hpq
  have hrc := hI.hrc
  have hbc := hI.hbc
  have hcc := hI.hcc
  have hac := hI.hac
  refine Sp.of (lk := lkX5) (tb := bX5_handByMoves) (by decide) lkX5_ok tX5_handByMoves (cW_keys _ _ _ _) (Nat.le_of_ble_eq_true rfl) (fun G hR => ?_)
  refine hR.run0 1 (S' := (1, [some (vR 0), some (vI p), some (vI g)], [vI p], cW τ κ)) rfl ?_
  by_cases q1 : 0 ≤ p ∧ p < 4
  · skip
    refine hR.cs [vI p] kX5_267 rfl rfl (by first | decide | exact Nat.le_refl _) (by decide) (Nat.le_of_ble_eq_true rfl) rfl (sp_rHolder_ok _ (by omega) q1) ?_
    show G (4, [some (vR 0), some (vI p), some (vI g)], [], cW τ κ)
    refine hR.run0 1 (S' := (5, [some (vR 0), some (vI p), some (vI g)], [vI g], cW τ κ)) rfl ?_
    by_cases q2 : 0 ≤ g ∧ g < 5
    · skip
      refine hR.cs [vI g] kX5_211 rfl rfl (by first | decide | exact Nat.le_refl _) (by decide) (Nat.le_of_ble_eq_true rfl) rfl (sp_rGood_ok _ (by omega) q2) ?_
      show G (8, [some (vR 0), some (vI p), some (vI g)], [], cW τ κ)
      refine hR.run0 4 (S' := (14, [some (vR 0), some (vI p), some (vI g)], [vI g, vI p, vR 10], cW τ κ)) rfl ?_
      refine hR.cv [vI p, vI g] kX5_270 rfl rfl ⟨_, _, _, rfl, rfl, rfl⟩ (by first | decide | exact Nat.le_refl _) (by decide) (Nat.le_of_ble_eq_true rfl) rfl (sp_countByMoves _ _ (by omega) (by omega)) ?_
      show G (17, [some (vR 0), some (vI p), some (vI g)], [vI (cbm (κ.2.2 0) p g)], cW τ κ)
      have hx : xHandK κ τ p g = (0, cbm (κ.2.2 0) p g, τ) := by unfold xHandK; (repeat' split) <;> first | rfl | (exfalso; omega) | (exfalso; simp_all; done) | (simp_all; done) | (exfalso; simp_all; omega)
      exact hR.rt rfl trivial (by rw [hx]; rfl) (by rw [hx])
    · skip
      have hx : xHandK κ τ p g = (2, 0, τ) := by unfold xHandK; (repeat' split) <;> first | rfl | (exfalso; omega) | (exfalso; simp_all; done) | (simp_all; done) | (exfalso; simp_all; omega)
      exact hR.csx [vI g] kX5_211 rfl rfl (by decide) (by decide) (Nat.le_of_ble_eq_true rfl) rfl (sp_rGood_x _ (by omega) q2) (by rw [hx]; rfl) (by rw [hx])
  · skip
    have hx : xHandK κ τ p g = (1, 0, τ) := by unfold xHandK; (repeat' split) <;> first | rfl | (exfalso; omega) | (exfalso; simp_all; done) | (simp_all; done) | (exfalso; simp_all; omega)
    exact hR.csx [vI p] kX5_267 rfl rfl (by decide) (by decide) (Nat.le_of_ble_eq_true rfl) rfl (sp_rHolder_x _ (by omega) q1) (by rw [hx]; rfl) (by rw [hx])
theorem pX5_due (τ κ : St) {p : Int} (hp : -2147483648 ≤ p ∧ p ≤ 2147483647) (hI : Iv τ)  : Sp mX5_due roC 2 [vR 0, vI p] (cW τ κ) (oc eIAS (xDue τ p)) (cW (xDue τ p).2.2 κ) := by
  have hb := hI.hb
  have hr := hI.hr
  have hg := hI.hg
  have hn := hI.hn
  have h7 := hI.h7
  have hh := hI.hh
  have hsm := hI.hsm
  have hcd := hI.hcd
  have hfr := hI.hfr
  have hkn := hI.hkn
  have hbo := hI.hbo
  have hus := hI.hus
  have hro := hI.hro
  have har := hI.har
  have hth := hI.hth
  have hph := hI.hph
  have htu := hI.htu
  have hrb := hI.hrb
  have hpl := hI.hpl
  have hdu := hI.hdu
  have hdp := hI.hdp
  have hof := hI.hof
  have how := hI.how
  have hga := hI.hga
  have hwa := hI.hwa
  have hck := hI.hck
  have hkz := hI.hkz
  have hcb := hI.hcb
  have hfb := hI.hfb
  have hnr := hI.hnr
  have hpq := hI.hpq
  have hrc := hI.hrc
  have hbc := hI.hbc
  have hcc := hI.hcc
  have hac := hI.hac
  refine Sp.of (lk := lkX5) (tb := bX5_due) (by decide) lkX5_ok tX5_due (cW_keys _ _ _ _) (Nat.le_of_ble_eq_true rfl) (fun G hR => ?_)
  refine hR.run0 1 (S' := (1, [some (vR 0), some (vI p)], [vI p], cW τ κ)) rfl ?_
  by_cases q1 : 0 ≤ p ∧ p < 3
  · skip
    refine hR.cs [vI p] kX5_126 rfl rfl (by first | decide | exact Nat.le_refl _) (by decide) (Nat.le_of_ble_eq_true rfl) rfl (sp_rPlayer_ok _ (by omega) q1) ?_
    show G (4, [some (vR 0), some (vI p)], [], cW τ κ)
    refine hR.run0 2 (S' := (6, [some (vR 0), some (vI p)], [vI p, vR 0], cW τ κ)) rfl ?_
    have f1 := hdu p
    refine hR.cv [vI p] kX5_149 rfl rfl ⟨_, _, _, rfl, rfl, rfl⟩ (by first | decide | exact Nat.le_refl _) (by decide) (Nat.le_of_ble_eq_true rfl) rfl (sp_dueFrom _ _ (by omega)) ?_
    show G (9, [some (vR 0), some (vI p)], [vI (τ.2.1 4 p)], cW τ κ)
    have hx : xDue τ p = (0, τ.2.1 4 p, τ) := by unfold xDue; (repeat' split) <;> first | rfl | (exfalso; omega) | (exfalso; simp_all; done) | (simp_all; done) | (exfalso; simp_all; omega)
    exact hR.rt rfl trivial (by rw [hx]; rfl) (by rw [hx])
  · skip
    have hx : xDue τ p = (1, 0, τ) := by unfold xDue; (repeat' split) <;> first | rfl | (exfalso; omega) | (exfalso; simp_all; done) | (simp_all; done) | (exfalso; simp_all; omega)
    exact hR.csx [vI p] kX5_126 rfl rfl (by decide) (by decide) (Nat.le_of_ble_eq_true rfl) rfl (sp_rPlayer_x _ (by omega) q1) (by rw [hx]; rfl) (by rw [hx])
theorem pX5_points (τ κ : St) {p : Int} (hp : -2147483648 ≤ p ∧ p ≤ 2147483647) (hI : Iv τ)  : Sp mX5_points roC 3 [vR 0, vI p] (cW τ κ) (oc eIAS (xPoints τ p)) (cW (xPoints τ p).2.2 κ) := by
  have hb := hI.hb
  have hr := hI.hr
  have hg := hI.hg
  have hn := hI.hn
  have h7 := hI.h7
  have hh := hI.hh
  have hsm := hI.hsm
  have hcd := hI.hcd
  have hfr := hI.hfr
  have hkn := hI.hkn
  have hbo := hI.hbo
  have hus := hI.hus
  have hro := hI.hro
  have har := hI.har
  have hth := hI.hth
  have hph := hI.hph
  have htu := hI.htu
  have hrb := hI.hrb
  have hpl := hI.hpl
  have hdu := hI.hdu
  have hdp := hI.hdp
  have hof := hI.hof
  have how := hI.how
  have hga := hI.hga
  have hwa := hI.hwa
  have hck := hI.hck
  have hkz := hI.hkz
  have hcb := hI.hcb
  have hfb := hI.hfb
  have hnr := hI.hnr
  have hpq := hI.hpq
  have hrc := hI.hrc
  have hbc := hI.hbc
  have hcc := hI.hcc
  have hac := hI.hac
  refine Sp.of (lk := lkX5) (tb := bX5_points) (by decide) lkX5_ok tX5_points (cW_keys _ _ _ _) (Nat.le_of_ble_eq_true rfl) (fun G hR => ?_)
  refine hR.run0 1 (S' := (1, [some (vR 0), some (vI p)], [vI p], cW τ κ)) rfl ?_
  by_cases q1 : 0 ≤ p ∧ p < 3
  · skip
    refine hR.cs [vI p] kX5_126 rfl rfl (by first | decide | exact Nat.le_refl _) (by decide) (Nat.le_of_ble_eq_true rfl) rfl (sp_rPlayer_ok _ (by omega) q1) ?_
    show G (4, [some (vR 0), some (vI p)], [], cW τ κ)
    refine hR.run0 2 (S' := (6, [some (vR 0), some (vI p)], [vI p, vR 0], cW τ κ)) rfl ?_
    have f1 := ptsF_r p (hcd p 4)
    refine hR.cv [vI p] kX5_185 rfl rfl ⟨_, _, _, rfl, rfl, rfl⟩ (by first | decide | exact Nat.le_refl _) (by decide) (Nat.le_of_ble_eq_true rfl) rfl (sp_pointsOf _ _ (by omega) hb hcd har hth) ?_
    show G (9, [some (vR 0), some (vI p)], [vI (ptsF τ p)], cW τ κ)
    have hx : xPoints τ p = (0, ptsF τ p, τ) := by unfold xPoints; (repeat' split) <;> first | rfl | (exfalso; omega) | (exfalso; simp_all; done) | (simp_all; done) | (exfalso; simp_all; omega)
    exact hR.rt rfl trivial (by rw [hx]; rfl) (by rw [hx])
  · skip
    have hx : xPoints τ p = (1, 0, τ) := by unfold xPoints; (repeat' split) <;> first | rfl | (exfalso; omega) | (exfalso; simp_all; done) | (simp_all; done) | (exfalso; simp_all; omega)
    exact hR.csx [vI p] kX5_126 rfl rfl (by decide) (by decide) (Nat.le_of_ble_eq_true rfl) rfl (sp_rPlayer_x _ (by omega) q1) (by rw [hx]; rfl) (by rw [hx])
theorem pX5_holder (τ κ : St) {b : Int} (hbz : b = 0 ∨ b = 1) (hI : Iv τ)  : Sp mX5_holder roC 1 [vR 0, vI b] (cW τ κ) (oc eIAS (xHolder τ b)) (cW (xHolder τ b).2.2 κ) := by
  have hb := hI.hb
  have hr := hI.hr
  have hg := hI.hg
  have hn := hI.hn
  have h7 := hI.h7
  have hh := hI.hh
  have hsm := hI.hsm
  have hcd := hI.hcd
  have hfr := hI.hfr
  have hkn := hI.hkn
  have hbo := hI.hbo
  have hus := hI.hus
  have hro := hI.hro
  have har := hI.har
  have hth := hI.hth
  have hph := hI.hph
  have htu := hI.htu
  have hrb := hI.hrb
  have hpl := hI.hpl
  have hdu := hI.hdu
  have hdp := hI.hdp
  have hof := hI.hof
  have how := hI.how
  have hga := hI.hga
  have hwa := hI.hwa
  have hck := hI.hck
  have hkz := hI.hkz
  have hcb := hI.hcb
  have hfb := hI.hfb
  have hnr := hI.hnr
  have hpq := hI.hpq
  have hrc := hI.hrc
  have hbc := hI.hbc
  have hcc := hI.hcc
  have hac := hI.hac
  refine Sp.of (lk := lkX5) (tb := bX5_holder) (by decide) lkX5_ok tX5_holder (cW_keys _ _ _ _) (Nat.le_of_ble_eq_true rfl) (fun G hR => ?_)
  refine hR.run0 1 (S' := (1, [some (vR 0), some (vI b)], [vI b], cW τ κ)) rfl ?_
  refine hR.br (C := b = 0) rfl (by first | omega | (dsimp only; omega) | (simp [sHt, sH, sS, sAt, sA, sup]; done) | (simp [sHt, sH, sS, sAt, sA, sup]; omega)) (fun c1 => ?_) (fun c1 => ?_)
  · skip
    refine hR.run0 2 (S' := (18, [some (vR 0), some (vI b)], [vI (τ.1 4)], cW τ κ)) rfl ?_
    have hx : xHolder τ b = (0, τ.1 4, τ) := by unfold xHolder; (repeat' split) <;> first | rfl | (exfalso; omega) | (exfalso; simp_all; done) | (simp_all; done) | (exfalso; simp_all; omega)
    exact hR.rt rfl trivial (by rw [hx]; rfl) (by rw [hx])
  · skip
    refine hR.run0 2 (S' := (8, [some (vR 0), some (vI b)], [vR 50], cW τ κ)) rfl ?_
    refine hR.cv [] kX5_276 rfl rfl ⟨_, _, _, rfl, rfl, rfl⟩ (by first | decide | exact Nat.le_refl _) (by decide) (Nat.le_of_ble_eq_true rfl) rfl (sp_armyHolder _ _) ?_
    show G (11, [some (vR 0), some (vI b)], [vI (τ.1 8)], cW τ κ)
    refine hR.run0 1 (S' := (18, [some (vR 0), some (vI b)], [vI (τ.1 8)], cW τ κ)) rfl ?_
    have hx : xHolder τ b = (0, τ.1 8, τ) := by unfold xHolder; (repeat' split) <;> first | rfl | (exfalso; omega) | (exfalso; simp_all; done) | (simp_all; done) | (exfalso; simp_all; omega)
    exact hR.rt rfl trivial (by rw [hx]; rfl) (by rw [hx])
theorem pX5_knights (τ κ : St) {p : Int} (hp : -2147483648 ≤ p ∧ p ≤ 2147483647) (hI : Iv τ)  : Sp mX5_knights roC 2 [vR 0, vI p] (cW τ κ) (oc eIAS (xKnights τ p)) (cW (xKnights τ p).2.2 κ) := by
  have hb := hI.hb
  have hr := hI.hr
  have hg := hI.hg
  have hn := hI.hn
  have h7 := hI.h7
  have hh := hI.hh
  have hsm := hI.hsm
  have hcd := hI.hcd
  have hfr := hI.hfr
  have hkn := hI.hkn
  have hbo := hI.hbo
  have hus := hI.hus
  have hro := hI.hro
  have har := hI.har
  have hth := hI.hth
  have hph := hI.hph
  have htu := hI.htu
  have hrb := hI.hrb
  have hpl := hI.hpl
  have hdu := hI.hdu
  have hdp := hI.hdp
  have hof := hI.hof
  have how := hI.how
  have hga := hI.hga
  have hwa := hI.hwa
  have hck := hI.hck
  have hkz := hI.hkz
  have hcb := hI.hcb
  have hfb := hI.hfb
  have hnr := hI.hnr
  have hpq := hI.hpq
  have hrc := hI.hrc
  have hbc := hI.hbc
  have hcc := hI.hcc
  have hac := hI.hac
  refine Sp.of (lk := lkX5) (tb := bX5_knights) (by decide) lkX5_ok tX5_knights (cW_keys _ _ _ _) (Nat.le_of_ble_eq_true rfl) (fun G hR => ?_)
  refine hR.run0 1 (S' := (1, [some (vR 0), some (vI p)], [vI p], cW τ κ)) rfl ?_
  by_cases q1 : 0 ≤ p ∧ p < 3
  · skip
    refine hR.cs [vI p] kX5_126 rfl rfl (by first | decide | exact Nat.le_refl _) (by decide) (Nat.le_of_ble_eq_true rfl) rfl (sp_rPlayer_ok _ (by omega) q1) ?_
    show G (4, [some (vR 0), some (vI p)], [], cW τ κ)
    refine hR.run0 3 (S' := (9, [some (vR 0), some (vI p)], [vI p, vR 50], cW τ κ)) rfl ?_
    refine hR.cv [vI p] kX5_279 rfl rfl ⟨_, _, _, rfl, rfl, rfl⟩ (by first | decide | exact Nat.le_refl _) (by decide) (Nat.le_of_ble_eq_true rfl) rfl (sp_usedKnights _ _ (by omega)) ?_
    show G (12, [some (vR 0), some (vI p)], [vI (τ.2.1 6 p)], cW τ κ)
    have hx : xKnights τ p = (0, τ.2.1 6 p, τ) := by unfold xKnights; (repeat' split) <;> first | rfl | (exfalso; omega) | (exfalso; simp_all; done) | (simp_all; done) | (exfalso; simp_all; omega)
    exact hR.rt rfl trivial (by rw [hx]; rfl) (by rw [hx])
  · skip
    have hx : xKnights τ p = (1, 0, τ) := by unfold xKnights; (repeat' split) <;> first | rfl | (exfalso; omega) | (exfalso; simp_all; done) | (simp_all; done) | (exfalso; simp_all; omega)
    exact hR.csx [vI p] kX5_126 rfl rfl (by decide) (by decide) (Nat.le_of_ble_eq_true rfl) rfl (sp_rPlayer_x _ (by omega) q1) (by rw [hx]; rfl) (by rw [hx])
theorem pX5_cards (τ κ : St) {p k : Int} (hp : -2147483648 ≤ p ∧ p ≤ 2147483647) (hk : -2147483648 ≤ k ∧ k ≤ 2147483647) (hI : Iv τ)  : Sp mX5_cards roC 2 [vR 0, vI p, vI k] (cW τ κ) (oc eIAS (xCards τ p k)) (cW (xCards τ p k).2.2 κ) := by
  have hb := hI.hb
  have hr := hI.hr
  have hg := hI.hg
  have hn := hI.hn
  have h7 := hI.h7
  have hh := hI.hh
  have hsm := hI.hsm
  have hcd := hI.hcd
  have hfr := hI.hfr
  have hkn := hI.hkn
  have hbo := hI.hbo
  have hus := hI.hus
  have hro := hI.hro
  have har := hI.har
  have hth := hI.hth
  have hph := hI.hph
  have htu := hI.htu
  have hrb := hI.hrb
  have hpl := hI.hpl
  have hdu := hI.hdu
  have hdp := hI.hdp
  have hof := hI.hof
  have how := hI.how
  have hga := hI.hga
  have hwa := hI.hwa
  have hck := hI.hck
  have hkz := hI.hkz
  have hcb := hI.hcb
  have hfb := hI.hfb
  have hnr := hI.hnr
  have hpq := hI.hpq
  have hrc := hI.hrc
  have hbc := hI.hbc
  have hcc := hI.hcc
  have hac := hI.hac
  refine Sp.of (lk := lkX5) (tb := bX5_cards) (by decide) lkX5_ok tX5_cards (cW_keys _ _ _ _) (Nat.le_of_ble_eq_true rfl) (fun G hR => ?_)
  refine hR.run0 1 (S' := (1, [some (vR 0), some (vI p), some (vI k)], [vI p], cW τ κ)) rfl ?_
  by_cases q1 : 0 ≤ p ∧ p < 3
  · skip
    refine hR.cs [vI p] kX5_126 rfl rfl (by first | decide | exact Nat.le_refl _) (by decide) (Nat.le_of_ble_eq_true rfl) rfl (sp_rPlayer_ok _ (by omega) q1) ?_
    show G (4, [some (vR 0), some (vI p), some (vI k)], [], cW τ κ)
    refine hR.run0 1 (S' := (5, [some (vR 0), some (vI p), some (vI k)], [vI k], cW τ κ)) rfl ?_
    refine hR.br (C := k < 0) rfl (by first | omega | (dsimp only; omega) | (simp [sHt, sH, sS, sAt, sA, sup]; done) | (simp [sHt, sH, sS, sAt, sA, sup]; omega)) (fun c2 => ?_) (fun c2 => ?_)
    · skip
      have hx : xCards τ p k = (2, 0, τ) := by unfold xCards; (repeat' split) <;> first | rfl | (exfalso; omega) | (exfalso; simp_all; done) | (simp_all; done) | (exfalso; simp_all; omega)
      exact hR.th rfl rfl (Nat.le_of_ble_eq_true rfl) (by rw [hx]; rfl) (by rw [hx])
    · skip
      refine hR.run0 2 (S' := (10, [some (vR 0), some (vI p), some (vI k)], [vI 4, vI k], cW τ κ)) rfl ?_
      refine hR.br (C := k ≤ 4) rfl (by first | omega | (dsimp only; omega) | (simp [sHt, sH, sS, sAt, sA, sup]; done) | (simp [sHt, sH, sS, sAt, sA, sup]; omega)) (fun c3 => ?_) (fun c3 => ?_)
      · skip
        refine hR.run0 4 (S' := (30, [some (vR 0), some (vI p), some (vI k)], [vI k, vI p, vR 50], cW τ κ)) rfl ?_
        have f1 := hcd p k
        refine hR.cv [vI p, vI k] kX5_284 rfl rfl ⟨_, _, _, rfl, rfl, rfl⟩ (by first | decide | exact Nat.le_refl _) (by decide) (Nat.le_of_ble_eq_true rfl) rfl (sp_ccount _ _ (by omega) (by omega)) ?_
        show G (33, [some (vR 0), some (vI p), some (vI k)], [vI (τ.2.2 1 p k)], cW τ κ)
        have hx : xCards τ p k = (0, τ.2.2 1 p k, τ) := by unfold xCards; (repeat' split) <;> first | rfl | (exfalso; omega) | (exfalso; simp_all; done) | (simp_all; done) | (exfalso; simp_all; omega)
        exact hR.rt rfl trivial (by rw [hx]; rfl) (by rw [hx])
      · skip
        have hx : xCards τ p k = (2, 0, τ) := by unfold xCards; (repeat' split) <;> first | rfl | (exfalso; omega) | (exfalso; simp_all; done) | (simp_all; done) | (exfalso; simp_all; omega)
        exact hR.th rfl rfl (Nat.le_of_ble_eq_true rfl) (by rw [hx]; rfl) (by rw [hx])
  · skip
    have hx : xCards τ p k = (1, 0, τ) := by unfold xCards; (repeat' split) <;> first | rfl | (exfalso; omega) | (exfalso; simp_all; done) | (simp_all; done) | (exfalso; simp_all; omega)
    exact hR.csx [vI p] kX5_126 rfl rfl (by decide) (by decide) (Nat.le_of_ble_eq_true rfl) rfl (sp_rPlayer_x _ (by omega) q1) (by rw [hx]; rfl) (by rw [hx])
theorem pX5_buildingAt (τ κ : St) {p : Int} (hp : -2147483648 ≤ p ∧ p ≤ 2147483647) (hI : Iv τ)  : Sp mX5_buildingAt roC 2 [vR 0, vI p] (cW τ κ) (oc eIAS (xBuilding τ p)) (cW (xBuilding τ p).2.2 κ) := by
  have hb := hI.hb
  have hr := hI.hr
  have hg := hI.hg
  have hn := hI.hn
  have h7 := hI.h7
  have hh := hI.hh
  have hsm := hI.hsm
  have hcd := hI.hcd
  have hfr := hI.hfr
  have hkn := hI.hkn
  have hbo := hI.hbo
  have hus := hI.hus
  have hro := hI.hro
  have har := hI.har
  have hth := hI.hth
  have hph := hI.hph
  have htu := hI.htu
  have hrb := hI.hrb
  have hpl := hI.hpl
  have hdu := hI.hdu
  have hdp := hI.hdp
  have hof := hI.hof
  have how := hI.how
  have hga := hI.hga
  have hwa := hI.hwa
  have hck := hI.hck
  have hkz := hI.hkz
  have hcb := hI.hcb
  have hfb := hI.hfb
  have hnr := hI.hnr
  have hpq := hI.hpq
  have hrc := hI.hrc
  have hbc := hI.hbc
  have hcc := hI.hcc
  have hac := hI.hac
  refine Sp.of (lk := lkX5) (tb := bX5_buildingAt) (by decide) lkX5_ok tX5_buildingAt (cW_keys _ _ _ _) (Nat.le_of_ble_eq_true rfl) (fun G hR => ?_)
  refine hR.run0 1 (S' := (1, [some (vR 0), some (vI p)], [vI p], cW τ κ)) rfl ?_
  by_cases q1 : 0 ≤ p ∧ p < 24
  · skip
    refine hR.cs [vI p] kX5_89 rfl rfl (by first | decide | exact Nat.le_refl _) (by decide) (Nat.le_of_ble_eq_true rfl) rfl (sp_rCorner_ok _ (by omega) q1) ?_
    show G (4, [some (vR 0), some (vI p)], [], cW τ κ)
    refine hR.run0 3 (S' := (9, [some (vR 0), some (vI p)], [vI p, vR 1], cW τ κ)) rfl ?_
    refine hR.cv [vI p] kX5_188 rfl rfl ⟨_, _, _, rfl, rfl, rfl⟩ (by first | decide | exact Nat.le_refl _) (by decide) (Nat.le_of_ble_eq_true rfl) rfl (sp_building _ _ (by omega)) ?_
    show G (12, [some (vR 0), some (vI p)], [vI (τ.2.1 2 p)], cW τ κ)
    have hx : xBuilding τ p = (0, τ.2.1 2 p, τ) := by unfold xBuilding; (repeat' split) <;> first | rfl | (exfalso; omega) | (exfalso; simp_all; done) | (simp_all; done) | (exfalso; simp_all; omega)
    exact hR.rt rfl trivial (by rw [hx]; rfl) (by rw [hx])
  · skip
    have hx : xBuilding τ p = (1, 0, τ) := by unfold xBuilding; (repeat' split) <;> first | rfl | (exfalso; omega) | (exfalso; simp_all; done) | (simp_all; done) | (exfalso; simp_all; omega)
    exact hR.csx [vI p] kX5_89 rfl rfl (by decide) (by decide) (Nat.le_of_ble_eq_true rfl) rfl (sp_rCorner_x _ (by omega) q1) (by rw [hx]; rfl) (by rw [hx])
theorem pX5_roadAt (τ κ : St) {p : Int} (hp : -2147483648 ≤ p ∧ p ≤ 2147483647) (hI : Iv τ)  : Sp mX5_roadAt roC 2 [vR 0, vI p] (cW τ κ) (oc eIAS (xRoadAt τ p)) (cW (xRoadAt τ p).2.2 κ) := by
  have hb := hI.hb
  have hr := hI.hr
  have hg := hI.hg
  have hn := hI.hn
  have h7 := hI.h7
  have hh := hI.hh
  have hsm := hI.hsm
  have hcd := hI.hcd
  have hfr := hI.hfr
  have hkn := hI.hkn
  have hbo := hI.hbo
  have hus := hI.hus
  have hro := hI.hro
  have har := hI.har
  have hth := hI.hth
  have hph := hI.hph
  have htu := hI.htu
  have hrb := hI.hrb
  have hpl := hI.hpl
  have hdu := hI.hdu
  have hdp := hI.hdp
  have hof := hI.hof
  have how := hI.how
  have hga := hI.hga
  have hwa := hI.hwa
  have hck := hI.hck
  have hkz := hI.hkz
  have hcb := hI.hcb
  have hfb := hI.hfb
  have hnr := hI.hnr
  have hpq := hI.hpq
  have hrc := hI.hrc
  have hbc := hI.hbc
  have hcc := hI.hcc
  have hac := hI.hac
  refine Sp.of (lk := lkX5) (tb := bX5_roadAt) (by decide) lkX5_ok tX5_roadAt (cW_keys _ _ _ _) (Nat.le_of_ble_eq_true rfl) (fun G hR => ?_)
  refine hR.run0 1 (S' := (1, [some (vR 0), some (vI p)], [vI p], cW τ κ)) rfl ?_
  by_cases q1 : 0 ≤ p ∧ p < 30
  · skip
    refine hR.cs [vI p] kX5_92 rfl rfl (by first | decide | exact Nat.le_refl _) (by decide) (Nat.le_of_ble_eq_true rfl) rfl (sp_rEdge_ok _ (by omega) q1) ?_
    show G (4, [some (vR 0), some (vI p)], [], cW τ κ)
    refine hR.run0 3 (S' := (9, [some (vR 0), some (vI p)], [vI p, vR 1], cW τ κ)) rfl ?_
    refine hR.cv [vI p] kX5_106 rfl rfl ⟨_, _, _, rfl, rfl, rfl⟩ (by first | decide | exact Nat.le_refl _) (by decide) (Nat.le_of_ble_eq_true rfl) rfl (sp_roadOwner _ _ (by omega)) ?_
    show G (12, [some (vR 0), some (vI p)], [vI (τ.2.1 3 p)], cW τ κ)
    have hx : xRoadAt τ p = (0, τ.2.1 3 p, τ) := by unfold xRoadAt; (repeat' split) <;> first | rfl | (exfalso; omega) | (exfalso; simp_all; done) | (simp_all; done) | (exfalso; simp_all; omega)
    exact hR.rt rfl trivial (by rw [hx]; rfl) (by rw [hx])
  · skip
    have hx : xRoadAt τ p = (1, 0, τ) := by unfold xRoadAt; (repeat' split) <;> first | rfl | (exfalso; omega) | (exfalso; simp_all; done) | (simp_all; done) | (exfalso; simp_all; omega)
    exact hR.csx [vI p] kX5_92 rfl rfl (by decide) (by decide) (Nat.le_of_ble_eq_true rfl) rfl (sp_rEdge_x _ (by omega) q1) (by rw [hx]; rfl) (by rw [hx])
theorem pX5_robber (τ κ : St)  (hI : Iv τ)  : Sp mX5_robber roC 1 [vR 0] (cW τ κ) (oc eIAS (xRobber τ)) (cW (xRobber τ).2.2 κ) := by
  have hb := hI.hb
  have hr := hI.hr
  have hg := hI.hg
  have hn := hI.hn
  have h7 := hI.h7
  have hh := hI.hh
  have hsm := hI.hsm
  have hcd := hI.hcd
  have hfr := hI.hfr
  have hkn := hI.hkn
  have hbo := hI.hbo
  have hus := hI.hus
  have hro := hI.hro
  have har := hI.har
  have hth := hI.hth
  have hph := hI.hph
  have htu := hI.htu
  have hrb := hI.hrb
  have hpl := hI.hpl
  have hdu := hI.hdu
  have hdp := hI.hdp
  have hof := hI.hof
  have how := hI.how
  have hga := hI.hga
  have hwa := hI.hwa
  have hck := hI.hck
  have hkz := hI.hkz
  have hcb := hI.hcb
  have hfb := hI.hfb
  have hnr := hI.hnr
  have hpq := hI.hpq
  have hrc := hI.hrc
  have hbc := hI.hbc
  have hcc := hI.hcc
  have hac := hI.hac
  refine Sp.of (lk := lkX5) (tb := bX5_robber) (by decide) lkX5_ok tX5_robber (cW_keys _ _ _ _) (Nat.le_of_ble_eq_true rfl) (fun G hR => ?_)
  refine hR.run0 2 (S' := (4, [some (vR 0)], [vR 1], cW τ κ)) rfl ?_
  refine hR.cv [] kX5_285 rfl rfl ⟨_, _, _, rfl, rfl, rfl⟩ (by first | decide | exact Nat.le_refl _) (by decide) (Nat.le_of_ble_eq_true rfl) rfl (sp_robberHex _ _) ?_
  show G (7, [some (vR 0)], [vI (τ.1 5)], cW τ κ)
  have hx : xRobber τ = (0, τ.1 5, τ) := by unfold xRobber; (repeat' split) <;> first | rfl | (exfalso; omega) | (exfalso; simp_all; done) | (simp_all; done) | (exfalso; simp_all; omega)
  exact hR.rt rfl trivial (by rw [hx]; rfl) (by rw [hx])
theorem pX5_rate (τ κ : St) {p g : Int} (hp : -2147483648 ≤ p ∧ p ≤ 2147483647) (hg : -2147483648 ≤ g ∧ g ≤ 2147483647) (hI : Iv τ)  : Sp mX5_rate roC 2 [vR 0, vI p, vI g] (cW τ κ) (oc eIAS (xRate τ p g)) (cW (xRate τ p g).2.2 κ) := by
  have hb := hI.hb
  have hr := hI.hr
  have hg := hI.hg
  have hn := hI.hn
  have h7 := hI.h7
  have hh := hI.hh
  have hsm := hI.hsm
  have hcd := hI.hcd
  have hfr := hI.hfr
  have hkn := hI.hkn
  have hbo := hI.hbo
  have hus := hI.hus
  have hro := hI.hro
  have har := hI.har
  have hth := hI.hth
  have hph := hI.hph
  have htu := hI.htu
  have hrb := hI.hrb
  have hpl := hI.hpl
  have hdu := hI.hdu
  have hdp := hI.hdp
  have hof := hI.hof
  have how := hI.how
  have hga := hI.hga
  have hwa := hI.hwa
  have hck := hI.hck
  have hkz := hI.hkz
  have hcb := hI.hcb
  have hfb := hI.hfb
  have hnr := hI.hnr
  have hpq := hI.hpq
  have hrc := hI.hrc
  have hbc := hI.hbc
  have hcc := hI.hcc
  have hac := hI.hac
  refine Sp.of (lk := lkX5) (tb := bX5_rate) (by decide) lkX5_ok tX5_rate (cW_keys _ _ _ _) (Nat.le_of_ble_eq_true rfl) (fun G hR => ?_)
  refine hR.run0 1 (S' := (1, [some (vR 0), some (vI p), some (vI g)], [vI p], cW τ κ)) rfl ?_
  by_cases q1 : 0 ≤ p ∧ p < 3
  · skip
    refine hR.cs [vI p] kX5_126 rfl rfl (by first | decide | exact Nat.le_refl _) (by decide) (Nat.le_of_ble_eq_true rfl) rfl (sp_rPlayer_ok _ (by omega) q1) ?_
    show G (4, [some (vR 0), some (vI p), some (vI g)], [], cW τ κ)
    refine hR.run0 1 (S' := (5, [some (vR 0), some (vI p), some (vI g)], [vI g], cW τ κ)) rfl ?_
    by_cases q2 : 0 ≤ g ∧ g < 5
    · skip
      refine hR.cs [vI g] kX5_211 rfl rfl (by first | decide | exact Nat.le_refl _) (by decide) (Nat.le_of_ble_eq_true rfl) rfl (sp_rGood_ok _ (by omega) q2) ?_
      show G (8, [some (vR 0), some (vI p), some (vI g)], [], cW τ κ)
      refine hR.run0 3 (S' := (11, [some (vR 0), some (vI p), some (vI g)], [vI g, vI p, vR 0], cW τ κ)) rfl ?_
      have f1 := rtN_r (τ.2.1 2) p g 24
      refine hR.cv [vI p, vI g] kX5_227 rfl rfl ⟨_, _, _, rfl, rfl, rfl⟩ (by first | decide | exact Nat.le_refl _) (by decide) (Nat.le_of_ble_eq_true rfl) rfl (sp_rateOf _ _ (by omega) (by omega) hb) ?_
      show G (14, [some (vR 0), some (vI p), some (vI g)], [vI (rtN (τ.2.1 2) p g 24)], cW τ κ)
      have hx : xRate τ p g = (0, rtN (τ.2.1 2) p g 24, τ) := by unfold xRate; (repeat' split) <;> first | rfl | (exfalso; omega) | (exfalso; simp_all; done) | (simp_all; done) | (exfalso; simp_all; omega)
      exact hR.rt rfl trivial (by rw [hx]; rfl) (by rw [hx])
    · skip
      have hx : xRate τ p g = (2, 0, τ) := by unfold xRate; (repeat' split) <;> first | rfl | (exfalso; omega) | (exfalso; simp_all; done) | (simp_all; done) | (exfalso; simp_all; omega)
      exact hR.csx [vI g] kX5_211 rfl rfl (by decide) (by decide) (Nat.le_of_ble_eq_true rfl) rfl (sp_rGood_x _ (by omega) q2) (by rw [hx]; rfl) (by rw [hx])
  · skip
    have hx : xRate τ p g = (1, 0, τ) := by unfold xRate; (repeat' split) <;> first | rfl | (exfalso; omega) | (exfalso; simp_all; done) | (simp_all; done) | (exfalso; simp_all; omega)
    exact hR.csx [vI p] kX5_126 rfl rfl (by decide) (by decide) (Nat.le_of_ble_eq_true rfl) rfl (sp_rPlayer_x _ (by omega) q1) (by rw [hx]; rfl) (by rw [hx])
theorem pX5_wouldGet (τ κ : St) {p g u : Int} (hp : -2147483648 ≤ p ∧ p ≤ 2147483647) (hg : -2147483648 ≤ g ∧ g ≤ 2147483647) (hu : -2147483648 ≤ u ∧ u ≤ 2147483647) (hI : Iv τ)  : Sp mX5_wouldGet roC 4 [vR 0, vI p, vI g, vI u] (cW τ κ) (oc eIAS (xWould τ p g u)) (cW (xWould τ p g u).2.2 κ) := by
  have hb := hI.hb
  have hr := hI.hr
  have hg := hI.hg
  have hn := hI.hn
  have h7 := hI.h7
  have hh := hI.hh
  have hsm := hI.hsm
  have hcd := hI.hcd
  have hfr := hI.hfr
  have hkn := hI.hkn
  have hbo := hI.hbo
  have hus := hI.hus
  have hro := hI.hro
  have har := hI.har
  have hth := hI.hth
  have hph := hI.hph
  have htu := hI.htu
  have hrb := hI.hrb
  have hpl := hI.hpl
  have hdu := hI.hdu
  have hdp := hI.hdp
  have hof := hI.hof
  have how := hI.how
  have hga := hI.hga
  have hwa := hI.hwa
  have hck := hI.hck
  have hkz := hI.hkz
  have hcb := hI.hcb
  have hfb := hI.hfb
  have hnr := hI.hnr
  have hpq := hI.hpq
  have hrc := hI.hrc
  have hbc := hI.hbc
  have hcc := hI.hcc
  have hac := hI.hac
  refine Sp.of (lk := lkX5) (tb := bX5_wouldGet) (by decide) lkX5_ok tX5_wouldGet (cW_keys _ _ _ _) (Nat.le_of_ble_eq_true rfl) (fun G hR => ?_)
  refine hR.run0 1 (S' := (1, [some (vR 0), some (vI p), some (vI g), some (vI u)], [vI p], cW τ κ)) rfl ?_
  by_cases q1 : 0 ≤ p ∧ p < 3
  · skip
    refine hR.cs [vI p] kX5_126 rfl rfl (by first | decide | exact Nat.le_refl _) (by decide) (Nat.le_of_ble_eq_true rfl) rfl (sp_rPlayer_ok _ (by omega) q1) ?_
    show G (4, [some (vR 0), some (vI p), some (vI g), some (vI u)], [], cW τ κ)
    refine hR.run0 1 (S' := (5, [some (vR 0), some (vI p), some (vI g), some (vI u)], [vI g], cW τ κ)) rfl ?_
    by_cases q2 : 0 ≤ g ∧ g < 5
    · skip
      refine hR.cs [vI g] kX5_211 rfl rfl (by first | decide | exact Nat.le_refl _) (by decide) (Nat.le_of_ble_eq_true rfl) rfl (sp_rGood_ok _ (by omega) q2) ?_
      show G (8, [some (vR 0), some (vI p), some (vI g), some (vI u)], [], cW τ κ)
      refine hR.run0 2 (S' := (10, [some (vR 0), some (vI p), some (vI g), some (vI u)], [vI 2, vI u], cW τ κ)) rfl ?_
      refine hR.br (C := u < 2) rfl (by first | omega | (dsimp only; omega) | (simp [sHt, sH, sS, sAt, sA, sup]; done) | (simp [sHt, sH, sS, sAt, sA, sup]; omega)) (fun c3 => ?_) (fun c3 => ?_)
      · skip
        have hx : xWould τ p g u = (2, 0, τ) := by unfold xWould; (repeat' split) <;> first | rfl | (exfalso; omega) | (exfalso; simp_all; done) | (simp_all; done) | (exfalso; simp_all; omega)
        exact hR.th rfl rfl (Nat.le_of_ble_eq_true rfl) (by rw [hx]; rfl) (by rw [hx])
      · skip
        refine hR.run0 2 (S' := (16, [some (vR 0), some (vI p), some (vI g), some (vI u)], [vI 12, vI u], cW τ κ)) rfl ?_
        refine hR.br (C := u ≤ 12) rfl (by first | omega | (dsimp only; omega) | (simp [sHt, sH, sS, sAt, sA, sup]; done) | (simp [sHt, sH, sS, sAt, sA, sup]; omega)) (fun c4 => ?_) (fun c4 => ?_)
        · skip
          refine hR.run0 4 (S' := (34, [some (vR 0), some (vI p), some (vI g), some (vI u)], [vI u, vI g, vI p, vR 0], cW τ κ)) rfl ?_
          have f1 := hh 3 g
          refine hR.cv [vI p, vI g, vI u] kX5_290 rfl rfl ⟨_, _, _, rfl, rfl, rfl⟩ (by first | decide | exact Nat.le_refl _) (by decide) (Nat.le_of_ble_eq_true rfl) rfl (sp_yieldTo _ _ (by omega) (by omega) (by omega) hb hg hn hrb (by omega)) ?_
          show G (37, [some (vR 0), some (vI p), some (vI g), some (vI u)], [vI (yTo τ p g u)], cW τ κ)
          have hx : xWould τ p g u = (0, yTo τ p g u, τ) := by unfold xWould; (repeat' split) <;> first | rfl | (exfalso; omega) | (exfalso; simp_all; done) | (simp_all; done) | (exfalso; simp_all; omega)
          exact hR.rt rfl trivial (by rw [hx]; rfl) (by rw [hx])
        · skip
          have hx : xWould τ p g u = (2, 0, τ) := by unfold xWould; (repeat' split) <;> first | rfl | (exfalso; omega) | (exfalso; simp_all; done) | (simp_all; done) | (exfalso; simp_all; omega)
          exact hR.th rfl rfl (Nat.le_of_ble_eq_true rfl) (by rw [hx]; rfl) (by rw [hx])
    · skip
      have hx : xWould τ p g u = (2, 0, τ) := by unfold xWould; (repeat' split) <;> first | rfl | (exfalso; omega) | (exfalso; simp_all; done) | (simp_all; done) | (exfalso; simp_all; omega)
      exact hR.csx [vI g] kX5_211 rfl rfl (by decide) (by decide) (Nat.le_of_ble_eq_true rfl) rfl (sp_rGood_x _ (by omega) q2) (by rw [hx]; rfl) (by rw [hx])
  · skip
    have hx : xWould τ p g u = (1, 0, τ) := by unfold xWould; (repeat' split) <;> first | rfl | (exfalso; omega) | (exfalso; simp_all; done) | (simp_all; done) | (exfalso; simp_all; omega)
    exact hR.csx [vI p] kX5_126 rfl rfl (by decide) (by decide) (Nat.le_of_ble_eq_true rfl) rfl (sp_rPlayer_x _ (by omega) q1) (by rw [hx]; rfl) (by rw [hx])
