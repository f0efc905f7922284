theorem sr_looksTW (τ ρ : St) (h : Lh τ) : Sp mX6_looksAtTrails roC 5 [vR 100] (mW τ ρ) (.inl none) (mW (lkS τ) (rlK (τ.2.1 3) ρ)) := sr_looksT τ ρ h
theorem sr_trailW (τ ρ : St) (h : Lh τ) {p : Int} (hp : 0 ≤ p ∧ p < 3) : Sp mX6_trailOf roC 4 [vR 100, vI p] (mW (winS (lkS τ)) ρ) (.inl (some (vI (trT τ p)))) (mW (winS (lkS τ)) (owK (τ.2.1 3) p ρ 30)) := by
  have h1 := sr_trailOf (winS (lkS τ)) ρ hp h.lk2.win
  unfold trT at h1 ⊢
  rw [winS_2] at h1
  exact h1
theorem sr_ptsW (τ ρ : St) (w : Wi τ) {p : Int} (hp : 0 ≤ p ∧ p < 3) : Sp mX6_pointsOf roC 2 [vR 100, vI p] (mW τ ρ) (.inl (some (vI (ptsF τ p)))) (mW τ ρ) := sr_pointsOf τ ρ hp w.1 w.2.1 w.2.2.1 w.2.2.2.1
theorem sr_laysT (τ ρ : St) {e t : Int} (he : 0 ≤ e ∧ e < 30) (ht : τ.1 1 = t) (htr : 0 ≤ t ∧ t < 3) (hL : Lh (sAt τ 3 e t)) : Sp mX6_lays roC 6 [vR 100, vI e] (mW τ ρ) (.inl none) (mW (lkS (sAt τ 3 e t)) (rlK ((sAt τ 3 e t).2.1 3) ρ)) := by
  subst ht
  exact sr_lays τ ρ he htr hL
theorem pX6_trail (τ ρ : St) {p : Int} (hp : -2147483648 ≤ p ∧ p ≤ 2147483647) (hI : Iv τ)  : Sp mX6_trail roC 5 [vR 100, vI p] (mW τ ρ) (.inl (some (vI (xTrail τ p).2.1))) (mW (xTrail τ p).2.2 (rTrail τ ρ p)) := by
  have hb := hI.hb
  have hr := hI.hr
  have hg := hI.hg
  have hn := hI.hn
  have h7 := hI.h7
  have hh := hI.hh
  have hsm := hI.hsm
  have hcd := hI.hcd
  have hfr := hI.hfr
  have hkn := hI.hkn
  have hbo := hI.hbo
  have hus := hI.hus
  have hro := hI.hro
  have har := hI.har
  have hth := hI.hth
  have hph := hI.hph
  have htu := hI.htu
  have hrb := hI.hrb
  have hpl := hI.hpl
  have hdu := hI.hdu
  have hdp := hI.hdp
  have hof := hI.hof
  have how := hI.how
  have hga := hI.hga
  have hwa := hI.hwa
  have hck := hI.hck
  have hkz := hI.hkz
  have hcb := hI.hcb
  have hfb := hI.hfb
  have hnr := hI.hnr
  have hpq := hI.hpq
  have hrc := hI.hrc
  have hbc := hI.hbc
  have hcc := hI.hcc
  have hac := hI.hac
  refine Sp.of (lk := lkX6) (tb := bX6_trail) (by decide) lkX6_ok tX6_trail (mW_keys _ _ _ _) (Nat.le_of_ble_eq_true rfl) (fun G hR => ?_)
  refine hR.run0 2 (S' := (2, [some (vR 100), some (vI p)], [vI p, vR 100], mW τ ρ)) rfl ?_
  refine hR.cs [vI p] kX6_159 rfl rfl (by first | decide | exact Nat.le_refl _) (by decide) (Nat.le_of_ble_eq_true rfl) rfl (sr_isPlayer _ _ (by omega)) ?_
  show G (5, [some (vR 100), some (vI p)], [vI (bI (decide (0 ≤ p) && decide (p < 3))), vR 100], mW τ ρ)
  by_cases q1 : (decide (0 ≤ p) && decide (p < 3)) = true
  · skip
    have q1b := q1
    try simp only [Bool.and_eq_true, Bool.or_eq_true, Bool.and_eq_false_iff, Bool.or_eq_false_iff, decide_eq_true_eq, decide_eq_false_iff_not] at q1
    refine hR.cv [vI (bI (decide (0 ≤ p) && decide (p < 3)))] kX6_127 rfl rfl ⟨_, _, _, rfl, rfl, rfl⟩ (by first | decide | exact Nat.le_refl _) (by decide) (Nat.le_of_ble_eq_true rfl) rfl (sr_asksb_t _ _ q1b) ?_
    show G (8, [some (vR 100), some (vI p)], [vI 1], mW τ (sS ρ 0 0))
    refine hR.br (C := 1 = 0) rfl (by first | omega | (dsimp only [plus1]; omega) | (simp [plus1, sHt, sH, sS, sAt, sA, sup]; done) | (simp [plus1, sHt, sH, sS, sAt, sA, sup]; omega)) (fun c2 => ?_) (fun c2 => ?_)
    · exfalso; omega
    refine hR.run0 2 (S' := (13, [some (vR 100), some (vI p)], [vI p, vR 100], mW τ (sS ρ 0 0))) rfl ?_
    refine hR.cv [vI p] kX6_104 rfl rfl ⟨_, _, _, rfl, rfl, rfl⟩ (by first | decide | exact Nat.le_refl _) (by decide) (Nat.le_of_ble_eq_true rfl) rfl (sr_trailOf _ _ (by omega) hI.lh) ?_
    show G (16, [some (vR 100), some (vI p)], [vI (trT τ p)], mW τ (owK (τ.2.1 3) p (sS ρ 0 0) 30))
    refine hR.run0 1 (S' := (20, [some (vR 100), some (vI p)], [vI (trT τ p)], mW τ (owK (τ.2.1 3) p (sS ρ 0 0) 30))) rfl ?_
    have hx : xTrail τ p = (0, trT τ p, τ) := by unfold xTrail; (repeat' split) <;> first | rfl | (exfalso; omega) | (exfalso; simp_all; done) | (simp_all; done) | (exfalso; simp_all; omega)
    have hkx : rTrail τ ρ p = owK (τ.2.1 3) p (sS ρ 0 0) 30 := by unfold rTrail; rw [hx]; exact if_pos rfl
    exact hR.rt rfl trivial (by rw [hx]) (by rw [hx, hkx])
  · replace q1 := Bool.eq_false_iff.mpr q1
    have q1b := q1
    try simp only [Bool.and_eq_true, Bool.or_eq_true, Bool.and_eq_false_iff, Bool.or_eq_false_iff, decide_eq_true_eq, decide_eq_false_iff_not] at q1
    refine hR.cv [vI (bI (decide (0 ≤ p) && decide (p < 3)))] kX6_127 rfl rfl ⟨_, _, _, rfl, rfl, rfl⟩ (by first | decide | exact Nat.le_refl _) (by decide) (Nat.le_of_ble_eq_true rfl) rfl (sr_asksb_f _ _ q1b) ?_
    show G (8, [some (vR 100), some (vI p)], [vI 0], mW τ (sS ρ 0 1))
    refine hR.br (C := 0 = 0) rfl (by first | omega | (dsimp only [plus1]; omega) | (simp [plus1, sHt, sH, sS, sAt, sA, sup]; done) | (simp [plus1, sHt, sH, sS, sAt, sA, sup]; omega)) (fun c3 => ?_) (fun c3 => ?_)
    · skip
      refine hR.run0 1 (S' := (20, [some (vR 100), some (vI p)], [vI 0], mW τ (sS ρ 0 1))) rfl ?_
      have hx : xTrail τ p = (1, 0, τ) := by unfold xTrail; (repeat' split) <;> first | rfl | (exfalso; omega) | (exfalso; simp_all; done) | (simp_all; done) | (exfalso; simp_all; omega)
      exact hR.rt rfl trivial (by rw [hx]) (by rw [hx, show rTrail τ ρ p = sS ρ 0 1 from (by unfold rTrail; rw [hx]; exact if_neg (show ¬ (1 : Int) = 0 by decide))])
    · exfalso; omega
theorem pX6_trailBySets (τ ρ : St) {p : Int} (hp : -2147483648 ≤ p ∧ p ≤ 2147483647) (hI : Iv τ)  : Sp mX6_trailBySets roC 5 [vR 100, vI p] (mW τ ρ) (.inl (some (vI (xTrail τ p).2.1))) (mW (xTrail τ p).2.2 (rTrail τ ρ p)) := by
  have hb := hI.hb
  have hr := hI.hr
  have hg := hI.hg
  have hn := hI.hn
  have h7 := hI.h7
  have hh := hI.hh
  have hsm := hI.hsm
  have hcd := hI.hcd
  have hfr := hI.hfr
  have hkn := hI.hkn
  have hbo := hI.hbo
  have hus := hI.hus
  have hro := hI.hro
  have har := hI.har
  have hth := hI.hth
  have hph := hI.hph
  have htu := hI.htu
  have hrb := hI.hrb
  have hpl := hI.hpl
  have hdu := hI.hdu
  have hdp := hI.hdp
  have hof := hI.hof
  have how := hI.how
  have hga := hI.hga
  have hwa := hI.hwa
  have hck := hI.hck
  have hkz := hI.hkz
  have hcb := hI.hcb
  have hfb := hI.hfb
  have hnr := hI.hnr
  have hpq := hI.hpq
  have hrc := hI.hrc
  have hbc := hI.hbc
  have hcc := hI.hcc
  have hac := hI.hac
  refine Sp.of (lk := lkX6) (tb := bX6_trailBySets) (by decide) lkX6_ok tX6_trailBySets (mW_keys _ _ _ _) (Nat.le_of_ble_eq_true rfl) (fun G hR => ?_)
  refine hR.run0 2 (S' := (2, [some (vR 100), some (vI p)], [vI p, vR 100], mW τ ρ)) rfl ?_
  refine hR.cs [vI p] kX6_159 rfl rfl (by first | decide | exact Nat.le_refl _) (by decide) (Nat.le_of_ble_eq_true rfl) rfl (sr_isPlayer _ _ (by omega)) ?_
  show G (5, [some (vR 100), some (vI p)], [vI (bI (decide (0 ≤ p) && decide (p < 3))), vR 100], mW τ ρ)
  by_cases q1 : (decide (0 ≤ p) && decide (p < 3)) = true
  · skip
    have q1b := q1
    try simp only [Bool.and_eq_true, Bool.or_eq_true, Bool.and_eq_false_iff, Bool.or_eq_false_iff, decide_eq_true_eq, decide_eq_false_iff_not] at q1
    refine hR.cv [vI (bI (decide (0 ≤ p) && decide (p < 3)))] kX6_127 rfl rfl ⟨_, _, _, rfl, rfl, rfl⟩ (by first | decide | exact Nat.le_refl _) (by decide) (Nat.le_of_ble_eq_true rfl) rfl (sr_asksb_t _ _ q1b) ?_
    show G (8, [some (vR 100), some (vI p)], [vI 1], mW τ (sS ρ 0 0))
    refine hR.br (C := 1 = 0) rfl (by first | omega | (dsimp only [plus1]; omega) | (simp [plus1, sHt, sH, sS, sAt, sA, sup]; done) | (simp [plus1, sHt, sH, sS, sAt, sA, sup]; omega)) (fun c2 => ?_) (fun c2 => ?_)
    · exfalso; omega
    refine hR.run0 2 (S' := (13, [some (vR 100), some (vI p)], [vI p, vR 100], mW τ (sS ρ 0 0))) rfl ?_
    refine hR.cv [vI p] kX6_104 rfl rfl ⟨_, _, _, rfl, rfl, rfl⟩ (by first | decide | exact Nat.le_refl _) (by decide) (Nat.le_of_ble_eq_true rfl) rfl (sr_trailOf _ _ (by omega) hI.lh) ?_
    show G (16, [some (vR 100), some (vI p)], [vI (trT τ p)], mW τ (owK (τ.2.1 3) p (sS ρ 0 0) 30))
    refine hR.run0 1 (S' := (20, [some (vR 100), some (vI p)], [vI (trT τ p)], mW τ (owK (τ.2.1 3) p (sS ρ 0 0) 30))) rfl ?_
    have hx : xTrail τ p = (0, trT τ p, τ) := by unfold xTrail; (repeat' split) <;> first | rfl | (exfalso; omega) | (exfalso; simp_all; done) | (simp_all; done) | (exfalso; simp_all; omega)
    have hkx : rTrail τ ρ p = owK (τ.2.1 3) p (sS ρ 0 0) 30 := by unfold rTrail; rw [hx]; exact if_pos rfl
    exact hR.rt rfl trivial (by rw [hx]) (by rw [hx, hkx])
  · replace q1 := Bool.eq_false_iff.mpr q1
    have q1b := q1
    try simp only [Bool.and_eq_true, Bool.or_eq_true, Bool.and_eq_false_iff, Bool.or_eq_false_iff, decide_eq_true_eq, decide_eq_false_iff_not] at q1
    refine hR.cv [vI (bI (decide (0 ≤ p) && decide (p < 3)))] kX6_127 rfl rfl ⟨_, _, _, rfl, rfl, rfl⟩ (by first | decide | exact Nat.le_refl _) (by decide) (Nat.le_of_ble_eq_true rfl) rfl (sr_asksb_f _ _ q1b) ?_
    show G (8, [some (vR 100), some (vI p)], [vI 0], mW τ (sS ρ 0 1))
    refine hR.br (C := 0 = 0) rfl (by first | omega | (dsimp only [plus1]; omega) | (simp [plus1, sHt, sH, sS, sAt, sA, sup]; done) | (simp [plus1, sHt, sH, sS, sAt, sA, sup]; omega)) (fun c3 => ?_) (fun c3 => ?_)
    · skip
      refine hR.run0 1 (S' := (20, [some (vR 100), some (vI p)], [vI 0], mW τ (sS ρ 0 1))) rfl ?_
      have hx : xTrail τ p = (1, 0, τ) := by unfold xTrail; (repeat' split) <;> first | rfl | (exfalso; omega) | (exfalso; simp_all; done) | (simp_all; done) | (exfalso; simp_all; omega)
      exact hR.rt rfl trivial (by rw [hx]) (by rw [hx, show rTrail τ ρ p = sS ρ 0 1 from (by unfold rTrail; rw [hx]; exact if_neg (show ¬ (1 : Int) = 0 by decide))])
    · exfalso; omega
theorem pX6_road (τ ρ : St) {e : Int} (he0 : -2147483648 ≤ e ∧ e ≤ 2147483647) (hI : Iv τ)  : Sp mX6_road roC 7 [vR 100, vI e] (mW τ ρ) (.inl (some (vI (xRoad τ e).2.1))) (mW (xRoad τ e).2.2 (rRoad τ ρ e)) := by
  have hb := hI.hb
  have hr := hI.hr
  have hg := hI.hg
  have hn := hI.hn
  have h7 := hI.h7
  have hh := hI.hh
  have hsm := hI.hsm
  have hcd := hI.hcd
  have hfr := hI.hfr
  have hkn := hI.hkn
  have hbo := hI.hbo
  have hus := hI.hus
  have hro := hI.hro
  have har := hI.har
  have hth := hI.hth
  have hph := hI.hph
  have htu := hI.htu
  have hrb := hI.hrb
  have hpl := hI.hpl
  have hdu := hI.hdu
  have hdp := hI.hdp
  have hof := hI.hof
  have how := hI.how
  have hga := hI.hga
  have hwa := hI.hwa
  have hck := hI.hck
  have hkz := hI.hkz
  have hcb := hI.hcb
  have hfb := hI.hfb
  have hnr := hI.hnr
  have hpq := hI.hpq
  have hrc := hI.hrc
  have hbc := hI.hbc
  have hcc := hI.hcc
  have hac := hI.hac
  refine Sp.of (lk := lkX6) (tb := bX6_road) (by decide) lkX6_ok tX6_road (mW_keys _ _ _ _) (Nat.le_of_ble_eq_true rfl) (fun G hR => ?_)
  refine hR.run0 2 (S' := (2, [some (vR 100), some (vI e)], [vI e, vR 100], mW τ ρ)) rfl ?_
  refine hR.cs [vI e] kX6_143 rfl rfl (by first | decide | exact Nat.le_refl _) (by decide) (Nat.le_of_ble_eq_true rfl) rfl (sr_isEdge _ _ (by omega)) ?_
  show G (5, [some (vR 100), some (vI e)], [vI (bI (decide (0 ≤ e) && decide (e < 30))), vR 100], mW τ ρ)
  by_cases q1 : (decide (0 ≤ e) && decide (e < 30)) = true
  · skip
    have q1b := q1
    try simp only [Bool.and_eq_true, Bool.or_eq_true, Bool.and_eq_false_iff, Bool.or_eq_false_iff, decide_eq_true_eq, decide_eq_false_iff_not] at q1
    refine hR.cv [vI (bI (decide (0 ≤ e) && decide (e < 30)))] kX6_127 rfl rfl ⟨_, _, _, rfl, rfl, rfl⟩ (by first | decide | exact Nat.le_refl _) (by decide) (Nat.le_of_ble_eq_true rfl) rfl (sr_asksb_t _ _ q1b) ?_
    show G (8, [some (vR 100), some (vI e)], [vI 1], mW τ (sS ρ 0 0))
    refine hR.br (C := 1 ≠ 0) rfl (by first | omega | (dsimp only [plus1]; omega) | (simp [plus1, sHt, sH, sS, sAt, sA, sup]; done) | (simp [plus1, sHt, sH, sS, sAt, sA, sup]; omega)) (fun c2 => ?_) (fun c2 => ?_)
    · skip
      refine hR.run0 3 (S' := (18, [some (vR 100), some (vI e)], [vI 2, vI (τ.1 0)], mW τ (sS ρ 0 0))) rfl ?_
      refine hR.br (C := τ.1 0 ≠ 2) rfl (by first | omega | (dsimp only [plus1]; omega) | (simp [plus1, sHt, sH, sS, sAt, sA, sup]; done) | (simp [plus1, sHt, sH, sS, sAt, sA, sup]; omega)) (fun c3 => ?_) (fun c3 => ?_)
      · skip
        refine hR.run0 2 (S' := (48, [some (vR 100), some (vI e)], [vI 2, vR 100], mW τ (sS ρ 0 0))) rfl ?_
        refine hR.cv [vI 2] kX6_149 rfl rfl ⟨_, _, _, rfl, rfl, rfl⟩ (by first | decide | exact Nat.le_refl _) (by decide) (Nat.le_of_ble_eq_true rfl) rfl (sr_fails _ _ _) ?_
        show G (51, [some (vR 100), some (vI e)], [vI 0], mW τ (sS (sS ρ 0 0) 0 2))
        rw [sS_sS]
        show G (51, [some (vR 100), some (vI e)], [vI 0], mW τ (sS ρ 0 2))
        have hx : xRoad τ e = (2, 0, τ) := by unfold xRoad; (repeat' split) <;> first | rfl | (exfalso; omega) | (exfalso; simp_all; done) | (simp_all; done) | (exfalso; simp_all; omega)
        exact hR.rt rfl trivial (by rw [hx]) (by rw [hx, show rRoad τ ρ e = sS ρ 0 2 from (by unfold rRoad; rw [hx]; exact if_neg (show ¬ (2 : Int) = 0 by decide))])
      · skip
        refine hR.run0 4 (S' := (28, [some (vR 100), some (vI e)], [vI 11, vI (τ.1 1), vR 100], mW τ (sS ρ 0 0))) rfl ?_
        refine hR.cv [vI (τ.1 1), vI 11] kX6_169 rfl rfl ⟨_, _, _, rfl, rfl, rfl⟩ (by first | decide | exact Nat.le_refl _) (by decide) (Nat.le_of_ble_eq_true rfl) rfl (sr_hasAll _ _ (by omega) (by omega) hh) ?_
        show G (31, [some (vR 100), some (vI e)], [vI (bI (hasG (τ.2.2 0) (τ.1 1) 11))], mW τ (sS ρ 0 0))
        refine hR.br (C := bI (hasG (τ.2.2 0) (τ.1 1) 11) = 0) rfl (bI_r _) (fun c4 => ?_) (fun c4 => ?_)
        · replace c4 : (hasG (τ.2.2 0) (τ.1 1) 11) = false := bI0 c4
          try simp only [Bool.and_eq_true, Bool.or_eq_true, Bool.and_eq_false_iff, Bool.or_eq_false_iff, decide_eq_true_eq, decide_eq_false_iff_not] at c4
          refine hR.run0 2 (S' := (48, [some (vR 100), some (vI e)], [vI 2, vR 100], mW τ (sS ρ 0 0))) rfl ?_
          refine hR.cv [vI 2] kX6_149 rfl rfl ⟨_, _, _, rfl, rfl, rfl⟩ (by first | decide | exact Nat.le_refl _) (by decide) (Nat.le_of_ble_eq_true rfl) rfl (sr_fails _ _ _) ?_
          show G (51, [some (vR 100), some (vI e)], [vI 0], mW τ (sS (sS ρ 0 0) 0 2))
          rw [sS_sS]
          show G (51, [some (vR 100), some (vI e)], [vI 0], mW τ (sS ρ 0 2))
          have hx : xRoad τ e = (2, 0, τ) := by unfold xRoad; (repeat' split) <;> first | rfl | (exfalso; omega) | (exfalso; simp_all; done) | (simp_all; done) | (exfalso; simp_all; omega)
          exact hR.rt rfl trivial (by rw [hx]) (by rw [hx, show rRoad τ ρ e = sS ρ 0 2 from (by unfold rRoad; rw [hx]; exact if_neg (show ¬ (2 : Int) = 0 by decide))])
        · replace c4 : (hasG (τ.2.2 0) (τ.1 1) 11) = true := bI1 c4
          try simp only [Bool.and_eq_true, Bool.or_eq_true, Bool.and_eq_false_iff, Bool.or_eq_false_iff, decide_eq_true_eq, decide_eq_false_iff_not] at c4
          refine hR.run0 4 (S' := (40, [some (vR 100), some (vI e)], [vI e, vI (τ.1 1), vR 100], mW τ (sS ρ 0 0))) rfl ?_
          refine hR.cv [vI (τ.1 1), vI e] kX6_200 rfl rfl ⟨_, _, _, rfl, rfl, rfl⟩ (by first | decide | exact Nat.le_refl _) (by decide) (Nat.le_of_ble_eq_true rfl) rfl (sr_mayRoad _ _ htu (by omega) hb hr) ?_
          show G (43, [some (vR 100), some (vI e)], [vI (bI (canR τ e))], mW τ (sS ρ 0 0))
          refine hR.br (C := bI (canR τ e) ≠ 0) rfl (bI_r _) (fun c5 => ?_) (fun c5 => ?_)
          · replace c5 : (canR τ e) = true := bI1 c5
            try simp only [Bool.and_eq_true, Bool.or_eq_true, Bool.and_eq_false_iff, Bool.or_eq_false_iff, decide_eq_true_eq, decide_eq_false_iff_not] at c5
            refine hR.run0 2 (S' := (55, [some (vR 100), some (vI e)], [vI 11, vR 100], mW τ (sS ρ 0 0))) rfl ?_
            refine hR.cv [vI 11] kX6_203 rfl rfl ⟨_, _, _, rfl, rfl, rfl⟩ (by first | decide | exact Nat.le_refl _) (by decide) (Nat.le_of_ble_eq_true rfl) rfl (sr_pays _ _ (by omega) htu) ?_
            show G (58, [some (vR 100), some (vI e)], [], mW (mvA τ (τ.1 1) 3 11) (sS ρ 0 0))
            have ez1 : (mvA τ (τ.1 1) 3 11).1 1 = τ.1 1 := rfl
            refine hR.run0 2 (S' := (60, [some (vR 100), some (vI e)], [vI e, vR 100], mW (mvA τ (τ.1 1) 3 11) (sS ρ 0 0))) rfl ?_
            have hL9 : Lh (rdS τ e) := rdS_Lh hI (by omega) (by assumption)
            refine hR.cv [vI e] kX6_206 rfl rfl ⟨_, _, _, rfl, rfl, rfl⟩ (by first | decide | exact Nat.le_refl _) (by decide) (Nat.le_of_ble_eq_true rfl) rfl (sr_laysT _ _ (by omega) (show (mvA τ (τ.1 1) 3 11).1 1 = τ.1 1 from rfl) htu hL9) ?_
            show G (63, [some (vR 100), some (vI e)], [], mW (lkS (rdS τ e)) (rlK ((rdS τ e).2.1 3) (sS ρ 0 0)))
            refine hR.run0 1 (S' := (64, [some (vR 100), some (vI e)], [vR 100], mW (lkS (rdS τ e)) (rlK ((rdS τ e).2.1 3) (sS ρ 0 0)))) rfl ?_
            refine hR.cv [] kX6_209 rfl rfl ⟨_, _, _, rfl, rfl, rfl⟩ (by first | decide | exact Nat.le_refl _) (by decide) (Nat.le_of_ble_eq_true rfl) rfl (sr_lookW _ _ (Lh.lk hL9)) ?_
            show G (67, [some (vR 100), some (vI e)], [], mW (winS (lkS (rdS τ e))) (rlK ((rdS τ e).2.1 3) (sS ρ 0 0)))
            refine hR.run0 3 (S' := (72, [some (vR 100), some (vI e)], [vI ((winS (lkS (rdS τ e))).1 1), vR 100], mW (winS (lkS (rdS τ e))) (rlK ((rdS τ e).2.1 3) (sS ρ 0 0)))) rfl ?_
            rw [show (winS (lkS (rdS τ e))).1 1 = τ.1 1 from by rw [winS_1 _ _ (by decide)]; rfl]
            refine hR.cv [vI (τ.1 1)] kX6_104 rfl rfl ⟨_, _, _, rfl, rfl, rfl⟩ (by first | decide | exact Nat.le_refl _) (by decide) (Nat.le_of_ble_eq_true rfl) rfl (sr_trailW (rdS τ e) _ hL9 htu) ?_
            show G (75, [some (vR 100), some (vI e)], [vI (trT (rdS τ e) (τ.1 1))], mW (winS (lkS (rdS τ e))) (owK ((rdS τ e).2.1 3) (τ.1 1) (rlK ((rdS τ e).2.1 3) (sS ρ 0 0)) 30))
            have hx : xRoad τ e = (0, trT (rdS τ e) (τ.1 1), winS (lkS (rdS τ e))) := by unfold xRoad; (repeat' split) <;> first | rfl | (exfalso; omega) | (exfalso; simp_all; done) | (simp_all; done) | (exfalso; simp_all; omega)
            have hkx : rRoad τ ρ e = owK ((rdS τ e).2.1 3) (τ.1 1) (rlK ((rdS τ e).2.1 3) (sS ρ 0 0)) 30 := by unfold rRoad; rw [hx]; exact if_pos rfl
            exact hR.rt rfl trivial (by rw [hx]) (by rw [hx, hkx])
          · replace c5 : (canR τ e) = false := bI0 (Classical.not_not.mp c5)
            try simp only [Bool.and_eq_true, Bool.or_eq_true, Bool.and_eq_false_iff, Bool.or_eq_false_iff, decide_eq_true_eq, decide_eq_false_iff_not] at c5
            refine hR.run0 2 (S' := (48, [some (vR 100), some (vI e)], [vI 2, vR 100], mW τ (sS ρ 0 0))) rfl ?_
            refine hR.cv [vI 2] kX6_149 rfl rfl ⟨_, _, _, rfl, rfl, rfl⟩ (by first | decide | exact Nat.le_refl _) (by decide) (Nat.le_of_ble_eq_true rfl) rfl (sr_fails _ _ _) ?_
            show G (51, [some (vR 100), some (vI e)], [vI 0], mW τ (sS (sS ρ 0 0) 0 2))
            rw [sS_sS]
            show G (51, [some (vR 100), some (vI e)], [vI 0], mW τ (sS ρ 0 2))
            have hx : xRoad τ e = (2, 0, τ) := by unfold xRoad; (repeat' split) <;> first | rfl | (exfalso; omega) | (exfalso; simp_all; done) | (simp_all; done) | (exfalso; simp_all; omega)
            exact hR.rt rfl trivial (by rw [hx]) (by rw [hx, show rRoad τ ρ e = sS ρ 0 2 from (by unfold rRoad; rw [hx]; exact if_neg (show ¬ (2 : Int) = 0 by decide))])
    · exfalso; omega
  · replace q1 := Bool.eq_false_iff.mpr q1
    have q1b := q1
    try simp only [Bool.and_eq_true, Bool.or_eq_true, Bool.and_eq_false_iff, Bool.or_eq_false_iff, decide_eq_true_eq, decide_eq_false_iff_not] at q1
    refine hR.cv [vI (bI (decide (0 ≤ e) && decide (e < 30)))] kX6_127 rfl rfl ⟨_, _, _, rfl, rfl, rfl⟩ (by first | decide | exact Nat.le_refl _) (by decide) (Nat.le_of_ble_eq_true rfl) rfl (sr_asksb_f _ _ q1b) ?_
    show G (8, [some (vR 100), some (vI e)], [vI 0], mW τ (sS ρ 0 1))
    refine hR.br (C := 0 ≠ 0) rfl (by first | omega | (dsimp only [plus1]; omega) | (simp [plus1, sHt, sH, sS, sAt, sA, sup]; done) | (simp [plus1, sHt, sH, sS, sAt, sA, sup]; omega)) (fun c6 => ?_) (fun c6 => ?_)
    · exfalso; omega
    refine hR.run0 1 (S' := (12, [some (vR 100), some (vI e)], [vI 0], mW τ (sS ρ 0 1))) rfl ?_
    have hx : xRoad τ e = (1, 0, τ) := by unfold xRoad; (repeat' split) <;> first | rfl | (exfalso; omega) | (exfalso; simp_all; done) | (simp_all; done) | (exfalso; simp_all; omega)
    exact hR.rt rfl trivial (by rw [hx]) (by rw [hx, show rRoad τ ρ e = sS ρ 0 1 from (by unfold rRoad; rw [hx]; exact if_neg (show ¬ (1 : Int) = 0 by decide))])
theorem pX6_house (τ ρ : St) {c : Int} (hc0 : -2147483648 ≤ c ∧ c ≤ 2147483647) (hI : Iv τ)  : Sp mX6_house roC 6 [vR 100, vI c] (mW τ ρ) (.inl (some (vI (xHouse τ c).2.1))) (mW (xHouse τ c).2.2 (rHouse τ ρ c)) := by
  have hb := hI.hb
  have hr := hI.hr
  have hg := hI.hg
  have hn := hI.hn
  have h7 := hI.h7
  have hh := hI.hh
  have hsm := hI.hsm
  have hcd := hI.hcd
  have hfr := hI.hfr
  have hkn := hI.hkn
  have hbo := hI.hbo
  have hus := hI.hus
  have hro := hI.hro
  have har := hI.har
  have hth := hI.hth
  have hph := hI.hph
  have htu := hI.htu
  have hrb := hI.hrb
  have hpl := hI.hpl
  have hdu := hI.hdu
  have hdp := hI.hdp
  have hof := hI.hof
  have how := hI.how
  have hga := hI.hga
  have hwa := hI.hwa
  have hck := hI.hck
  have hkz := hI.hkz
  have hcb := hI.hcb
  have hfb := hI.hfb
  have hnr := hI.hnr
  have hpq := hI.hpq
  have hrc := hI.hrc
  have hbc := hI.hbc
  have hcc := hI.hcc
  have hac := hI.hac
  have hbc1 := hb c
  have hbc4 := hbc (τ.1 1) htu
  have hcc3 := hcc (τ.1 1) htu
  refine Sp.of (lk := lkX6) (tb := bX6_house) (by decide) lkX6_ok tX6_house (mW_keys _ _ _ _) (Nat.le_of_ble_eq_true rfl) (fun G hR => ?_)
  refine hR.run0 2 (S' := (2, [some (vR 100), some (vI c)], [vI c, vR 100], mW τ ρ)) rfl ?_
  refine hR.cs [vI c] kX6_140 rfl rfl (by first | decide | exact Nat.le_refl _) (by decide) (Nat.le_of_ble_eq_true rfl) rfl (sr_isCorner _ _ (by omega)) ?_
  show G (5, [some (vR 100), some (vI c)], [vI (bI (decide (0 ≤ c) && decide (c < 24))), vR 100], mW τ ρ)
  by_cases q1 : (decide (0 ≤ c) && decide (c < 24)) = true
  · skip
    have q1b := q1
    try simp only [Bool.and_eq_true, Bool.or_eq_true, Bool.and_eq_false_iff, Bool.or_eq_false_iff, decide_eq_true_eq, decide_eq_false_iff_not] at q1
    refine hR.cv [vI (bI (decide (0 ≤ c) && decide (c < 24)))] kX6_127 rfl rfl ⟨_, _, _, rfl, rfl, rfl⟩ (by first | decide | exact Nat.le_refl _) (by decide) (Nat.le_of_ble_eq_true rfl) rfl (sr_asksb_t _ _ q1b) ?_
    show G (8, [some (vR 100), some (vI c)], [vI 1], mW τ (sS ρ 0 0))
    refine hR.br (C := 1 ≠ 0) rfl (by first | omega | (dsimp only [plus1]; omega) | (simp [plus1, sHt, sH, sS, sAt, sA, sup]; done) | (simp [plus1, sHt, sH, sS, sAt, sA, sup]; omega)) (fun c2 => ?_) (fun c2 => ?_)
    · skip
      refine hR.run0 3 (S' := (18, [some (vR 100), some (vI c)], [vI 2, vI (τ.1 0)], mW τ (sS ρ 0 0))) rfl ?_
      refine hR.br (C := τ.1 0 ≠ 2) rfl (by first | omega | (dsimp only [plus1]; omega) | (simp [plus1, sHt, sH, sS, sAt, sA, sup]; done) | (simp [plus1, sHt, sH, sS, sAt, sA, sup]; omega)) (fun c3 => ?_) (fun c3 => ?_)
      · skip
        refine hR.run0 2 (S' := (71, [some (vR 100), some (vI c)], [vI 2, vR 100], mW τ (sS ρ 0 0))) rfl ?_
        refine hR.cv [vI 2] kX6_149 rfl rfl ⟨_, _, _, rfl, rfl, rfl⟩ (by first | decide | exact Nat.le_refl _) (by decide) (Nat.le_of_ble_eq_true rfl) rfl (sr_fails _ _ _) ?_
        show G (74, [some (vR 100), some (vI c)], [vI 0], mW τ (sS (sS ρ 0 0) 0 2))
        rw [sS_sS]
        show G (74, [some (vR 100), some (vI c)], [vI 0], mW τ (sS ρ 0 2))
        have hx : xHouse τ c = (2, 0, τ) := by unfold xHouse; (repeat' split) <;> first | rfl | (exfalso; omega) | (exfalso; simp_all; done) | (simp_all; done) | (exfalso; simp_all; omega)
        exact hR.rt rfl trivial (by rw [hx]) (by rw [hx, show rHouse τ ρ c = sS ρ 0 2 from (by unfold rHouse; rw [hx]; exact if_neg (show ¬ (2 : Int) = 0 by decide))])
      · skip
        refine hR.run0 4 (S' := (29, [some (vR 100), some (vI c)], [vI 1111, vI (τ.1 1), vR 100], mW τ (sS ρ 0 0))) rfl ?_
        refine hR.cv [vI (τ.1 1), vI 1111] kX6_169 rfl rfl ⟨_, _, _, rfl, rfl, rfl⟩ (by first | decide | exact Nat.le_refl _) (by decide) (Nat.le_of_ble_eq_true rfl) rfl (sr_hasAll _ _ (by omega) (by omega) hh) ?_
        show G (32, [some (vR 100), some (vI c)], [vI (bI (hasG (τ.2.2 0) (τ.1 1) 1111))], mW τ (sS ρ 0 0))
        refine hR.br (C := bI (hasG (τ.2.2 0) (τ.1 1) 1111) = 0) rfl (bI_r _) (fun c4 => ?_) (fun c4 => ?_)
        · replace c4 : (hasG (τ.2.2 0) (τ.1 1) 1111) = false := bI0 c4
          try simp only [Bool.and_eq_true, Bool.or_eq_true, Bool.and_eq_false_iff, Bool.or_eq_false_iff, decide_eq_true_eq, decide_eq_false_iff_not] at c4
          refine hR.run0 2 (S' := (71, [some (vR 100), some (vI c)], [vI 2, vR 100], mW τ (sS ρ 0 0))) rfl ?_
          refine hR.cv [vI 2] kX6_149 rfl rfl ⟨_, _, _, rfl, rfl, rfl⟩ (by first | decide | exact Nat.le_refl _) (by decide) (Nat.le_of_ble_eq_true rfl) rfl (sr_fails _ _ _) ?_
          show G (74, [some (vR 100), some (vI c)], [vI 0], mW τ (sS (sS ρ 0 0) 0 2))
          rw [sS_sS]
          show G (74, [some (vR 100), some (vI c)], [vI 0], mW τ (sS ρ 0 2))
          have hx : xHouse τ c = (2, 0, τ) := by unfold xHouse; (repeat' split) <;> first | rfl | (exfalso; omega) | (exfalso; simp_all; done) | (simp_all; done) | (exfalso; simp_all; omega)
          exact hR.rt rfl trivial (by rw [hx]) (by rw [hx, show rHouse τ ρ c = sS ρ 0 2 from (by unfold rHouse; rw [hx]; exact if_neg (show ¬ (2 : Int) = 0 by decide))])
        · replace c4 : (hasG (τ.2.2 0) (τ.1 1) 1111) = true := bI1 c4
          try simp only [Bool.and_eq_true, Bool.or_eq_true, Bool.and_eq_false_iff, Bool.or_eq_false_iff, decide_eq_true_eq, decide_eq_false_iff_not] at c4
          refine hR.run0 2 (S' := (37, [some (vR 100), some (vI c)], [vI c, vR 100], mW τ (sS ρ 0 0))) rfl ?_
          refine hR.cv [vI c] kX6_146 rfl rfl ⟨_, _, _, rfl, rfl, rfl⟩ (by first | decide | exact Nat.le_refl _) (by decide) (Nat.le_of_ble_eq_true rfl) rfl (sr_isFree _ _ (by omega) hb) ?_
          show G (40, [some (vR 100), some (vI c)], [vI (bI (freeC (τ.2.1 2) c))], mW τ (sS ρ 0 0))
          refine hR.br (C := bI (freeC (τ.2.1 2) c) = 0) rfl (bI_r _) (fun c5 => ?_) (fun c5 => ?_)
          · replace c5 : (freeC (τ.2.1 2) c) = false := bI0 c5
            try simp only [Bool.and_eq_true, Bool.or_eq_true, Bool.and_eq_false_iff, Bool.or_eq_false_iff, decide_eq_true_eq, decide_eq_false_iff_not] at c5
            refine hR.run0 2 (S' := (71, [some (vR 100), some (vI c)], [vI 2, vR 100], mW τ (sS ρ 0 0))) rfl ?_
            refine hR.cv [vI 2] kX6_149 rfl rfl ⟨_, _, _, rfl, rfl, rfl⟩ (by first | decide | exact Nat.le_refl _) (by decide) (Nat.le_of_ble_eq_true rfl) rfl (sr_fails _ _ _) ?_
            show G (74, [some (vR 100), some (vI c)], [vI 0], mW τ (sS (sS ρ 0 0) 0 2))
            rw [sS_sS]
            show G (74, [some (vR 100), some (vI c)], [vI 0], mW τ (sS ρ 0 2))
            have hx : xHouse τ c = (2, 0, τ) := by unfold xHouse; (repeat' split) <;> first | rfl | (exfalso; omega) | (exfalso; simp_all; done) | (simp_all; done) | (exfalso; simp_all; omega)
            exact hR.rt rfl trivial (by rw [hx]) (by rw [hx, show rHouse τ ρ c = sS ρ 0 2 from (by unfold rHouse; rw [hx]; exact if_neg (show ¬ (2 : Int) = 0 by decide))])
          · replace c5 : (freeC (τ.2.1 2) c) = true := bI1 c5
            try simp only [Bool.and_eq_true, Bool.or_eq_true, Bool.and_eq_false_iff, Bool.or_eq_false_iff, decide_eq_true_eq, decide_eq_false_iff_not] at c5
            refine hR.run0 5 (S' := (50, [some (vR 100), some (vI c)], [vI (-1), vI c, vI (τ.1 1), vR 100], mW τ (sS ρ 0 0))) rfl ?_
            refine hR.cv [vI (τ.1 1), vI c, vI (-1)] kX6_77 rfl rfl ⟨_, _, _, rfl, rfl, rfl⟩ (by first | decide | exact Nat.le_refl _) (by decide) (Nat.le_of_ble_eq_true rfl) rfl (sr_hasRoadAt _ _ htu (by omega) (by omega) hr) ?_
            show G (53, [some (vR 100), some (vI c)], [vI (bI (roadBut (τ.2.1 3) (τ.1 1) c (-1)))], mW τ (sS ρ 0 0))
            rw [roadBut_eq (r := τ.2.1 3) (p := τ.1 1) (c := c) (but := -1) (.inl (.inl (by omega)))]
            refine hR.br (C := bI (roadAtC (τ.2.1 3) (τ.1 1) c) = 0) rfl (bI_r _) (fun c6 => ?_) (fun c6 => ?_)
            · replace c6 : (roadAtC (τ.2.1 3) (τ.1 1) c) = false := bI0 c6
              try simp only [Bool.and_eq_true, Bool.or_eq_true, Bool.and_eq_false_iff, Bool.or_eq_false_iff, decide_eq_true_eq, decide_eq_false_iff_not] at c6
              refine hR.run0 2 (S' := (71, [some (vR 100), some (vI c)], [vI 2, vR 100], mW τ (sS ρ 0 0))) rfl ?_
              refine hR.cv [vI 2] kX6_149 rfl rfl ⟨_, _, _, rfl, rfl, rfl⟩ (by first | decide | exact Nat.le_refl _) (by decide) (Nat.le_of_ble_eq_true rfl) rfl (sr_fails _ _ _) ?_
              show G (74, [some (vR 100), some (vI c)], [vI 0], mW τ (sS (sS ρ 0 0) 0 2))
              rw [sS_sS]
              show G (74, [some (vR 100), some (vI c)], [vI 0], mW τ (sS ρ 0 2))
              have hx : xHouse τ c = (2, 0, τ) := by unfold xHouse; (repeat' split) <;> first | rfl | (exfalso; omega) | (exfalso; simp_all; done) | (simp_all; done) | (exfalso; simp_all; omega)
              exact hR.rt rfl trivial (by rw [hx]) (by rw [hx, show rHouse τ ρ c = sS ρ 0 2 from (by unfold rHouse; rw [hx]; exact if_neg (show ¬ (2 : Int) = 0 by decide))])
            · replace c6 : (roadAtC (τ.2.1 3) (τ.1 1) c) = true := bI1 c6
              try simp only [Bool.and_eq_true, Bool.or_eq_true, Bool.and_eq_false_iff, Bool.or_eq_false_iff, decide_eq_true_eq, decide_eq_false_iff_not] at c6
              refine hR.run0 4 (S' := (62, [some (vR 100), some (vI c)], [vI 0, vI (τ.1 1), vR 100], mW τ (sS ρ 0 0))) rfl ?_
              have f1 := cntN_r (τ.2.1 2) (τ.1 1) 24
              refine hR.cv [vI (τ.1 1), vI 0] kX6_111 rfl rfl ⟨_, _, _, rfl, rfl, rfl⟩ (by first | decide | exact Nat.le_refl _) (by decide) (Nat.le_of_ble_eq_true rfl) rfl (sr_buildings_0 _ _ (by omega) hb) ?_
              show G (65, [some (vR 100), some (vI c)], [vI (cntN (τ.2.1 2) (τ.1 1) 24)], mW τ (sS ρ 0 0))
              refine hR.run0 1 (S' := (66, [some (vR 100), some (vI c)], [vI 4, vI (cntN (τ.2.1 2) (τ.1 1) 24)], mW τ (sS ρ 0 0))) rfl ?_
              refine hR.br (C := cntN (τ.2.1 2) (τ.1 1) 24 ≠ 4) rfl (by first | omega | (dsimp only [plus1]; omega) | (simp [plus1, sHt, sH, sS, sAt, sA, sup]; done) | (simp [plus1, sHt, sH, sS, sAt, sA, sup]; omega)) (fun c7 => ?_) (fun c7 => ?_)
              · skip
                refine hR.run0 2 (S' := (79, [some (vR 100), some (vI c)], [vI 1111, vR 100], mW τ (sS ρ 0 0))) rfl ?_
                refine hR.cv [vI 1111] kX6_203 rfl rfl ⟨_, _, _, rfl, rfl, rfl⟩ (by first | decide | exact Nat.le_refl _) (by decide) (Nat.le_of_ble_eq_true rfl) rfl (sr_pays _ _ (by omega) htu) ?_
                show G (82, [some (vR 100), some (vI c)], [], mW (mvA τ (τ.1 1) 3 1111) (sS ρ 0 0))
                have ez2 : (mvA τ (τ.1 1) 3 1111).1 1 = τ.1 1 := rfl
                refine hR.run1 8 (S' := (94, [some (vR 100), some (vI c)], [], pset (mW (mvA τ (τ.1 1) 3 1111) (sS ρ 0 0)) 104 (.inl (24, .inl (pup (plus1 ((mvA τ (τ.1 1) 3 1111).2.1 2)) c ((τ.1 1) + 1)))))) rfl (by first | omega | (dsimp only [plus1]; omega) | (simp [plus1, sHt, sH, sS, sAt, sA, sup]; done) | (simp [plus1, sHt, sH, sS, sAt, sA, sup]; omega)) ?_
                rw [mW_a2]
                refine hR.run0 1 (S' := (95, [some (vR 100), some (vI c)], [vR 100], mW (sAt (mvA τ (τ.1 1) 3 1111) 2 c (τ.1 1)) (sS ρ 0 0))) rfl ?_
                have hL9 : Lh (hsS τ c) := hsS_Lh hI
                refine hR.cv [] kX6_156 rfl rfl ⟨_, _, _, rfl, rfl, rfl⟩ (by first | decide | exact Nat.le_refl _) (by decide) (Nat.le_of_ble_eq_true rfl) rfl (sr_looksT (hsS τ c) _ hL9) ?_
                show G (98, [some (vR 100), some (vI c)], [], mW (lkS (hsS τ c)) (rlK ((hsS τ c).2.1 3) (sS ρ 0 0)))
                refine hR.run0 1 (S' := (99, [some (vR 100), some (vI c)], [vR 100], mW (lkS (hsS τ c)) (rlK ((hsS τ c).2.1 3) (sS ρ 0 0)))) rfl ?_
                refine hR.cv [] kX6_209 rfl rfl ⟨_, _, _, rfl, rfl, rfl⟩ (by first | decide | exact Nat.le_refl _) (by decide) (Nat.le_of_ble_eq_true rfl) rfl (sr_lookW _ _ (Lh.lk hL9)) ?_
                show G (102, [some (vR 100), some (vI c)], [], mW (winS (lkS (hsS τ c))) (rlK ((hsS τ c).2.1 3) (sS ρ 0 0)))
                refine hR.run0 3 (S' := (107, [some (vR 100), some (vI c)], [vI ((winS (lkS (hsS τ c))).1 1), vR 100], mW (winS (lkS (hsS τ c))) (rlK ((hsS τ c).2.1 3) (sS ρ 0 0)))) rfl ?_
                rw [show (winS (lkS (hsS τ c))).1 1 = τ.1 1 from by rw [winS_1 _ _ (by decide)]; rfl]
                refine hR.cv [vI (τ.1 1)] kX6_121 rfl rfl ⟨_, _, _, rfl, rfl, rfl⟩ (by first | decide | exact Nat.le_refl _) (by decide) (Nat.le_of_ble_eq_true rfl) rfl (sr_ptsW _ _ (Wi.win (Lh.lk hL9)) htu) ?_
                show G (110, [some (vR 100), some (vI c)], [vI (ptsF (winS (lkS (hsS τ c))) (τ.1 1))], mW (winS (lkS (hsS τ c))) (rlK ((hsS τ c).2.1 3) (sS ρ 0 0)))
                have hx : xHouse τ c = (0, ptsF (winS (lkS (hsS τ c))) (τ.1 1), winS (lkS (hsS τ c))) := by unfold xHouse; rw [if_neg (by omega), if_neg (fun h9 => h9 ⟨by omega, by omega, by assumption, by assumption, by assumption⟩)]
                have hkx : rHouse τ ρ c = rlK ((hsS τ c).2.1 3) (sS ρ 0 0) := by unfold rHouse; rw [hx]; exact if_pos rfl
                exact hR.rt rfl trivial (by rw [hx]) (by rw [hx, hkx])
              · skip
                refine hR.run0 2 (S' := (71, [some (vR 100), some (vI c)], [vI 2, vR 100], mW τ (sS ρ 0 0))) rfl ?_
                refine hR.cv [vI 2] kX6_149 rfl rfl ⟨_, _, _, rfl, rfl, rfl⟩ (by first | decide | exact Nat.le_refl _) (by decide) (Nat.le_of_ble_eq_true rfl) rfl (sr_fails _ _ _) ?_
                show G (74, [some (vR 100), some (vI c)], [vI 0], mW τ (sS (sS ρ 0 0) 0 2))
                rw [sS_sS]
                show G (74, [some (vR 100), some (vI c)], [vI 0], mW τ (sS ρ 0 2))
                have hx : xHouse τ c = (2, 0, τ) := by unfold xHouse; (repeat' split) <;> first | rfl | (exfalso; omega) | (exfalso; simp_all; done) | (simp_all; done) | (exfalso; simp_all; omega)
                exact hR.rt rfl trivial (by rw [hx]) (by rw [hx, show rHouse τ ρ c = sS ρ 0 2 from (by unfold rHouse; rw [hx]; exact if_neg (show ¬ (2 : Int) = 0 by decide))])
    · exfalso; omega
  · replace q1 := Bool.eq_false_iff.mpr q1
    have q1b := q1
    try simp only [Bool.and_eq_true, Bool.or_eq_true, Bool.and_eq_false_iff, Bool.or_eq_false_iff, decide_eq_true_eq, decide_eq_false_iff_not] at q1
    refine hR.cv [vI (bI (decide (0 ≤ c) && decide (c < 24)))] kX6_127 rfl rfl ⟨_, _, _, rfl, rfl, rfl⟩ (by first | decide | exact Nat.le_refl _) (by decide) (Nat.le_of_ble_eq_true rfl) rfl (sr_asksb_f _ _ q1b) ?_
    show G (8, [some (vR 100), some (vI c)], [vI 0], mW τ (sS ρ 0 1))
    refine hR.br (C := 0 ≠ 0) rfl (by first | omega | (dsimp only [plus1]; omega) | (simp [plus1, sHt, sH, sS, sAt, sA, sup]; done) | (simp [plus1, sHt, sH, sS, sAt, sA, sup]; omega)) (fun c8 => ?_) (fun c8 => ?_)
    · exfalso; omega
    refine hR.run0 1 (S' := (12, [some (vR 100), some (vI c)], [vI 0], mW τ (sS ρ 0 1))) rfl ?_
    have hx : xHouse τ c = (1, 0, τ) := by unfold xHouse; (repeat' split) <;> first | rfl | (exfalso; omega) | (exfalso; simp_all; done) | (simp_all; done) | (exfalso; simp_all; omega)
    exact hR.rt rfl trivial (by rw [hx]) (by rw [hx, show rHouse τ ρ c = sS ρ 0 1 from (by unfold rHouse; rw [hx]; exact if_neg (show ¬ (1 : Int) = 0 by decide))])
theorem pX6_city (τ ρ : St) {c : Int} (hc0 : -2147483648 ≤ c ∧ c ≤ 2147483647) (hI : Iv τ)  : Sp mX6_city roC 6 [vR 100, vI c] (mW τ ρ) (.inl (some (vI (xCity τ c).2.1))) (mW (xCity τ c).2.2 (rCity τ ρ c)) := by
  have hb := hI.hb
  have hr := hI.hr
  have hg := hI.hg
  have hn := hI.hn
  have h7 := hI.h7
  have hh := hI.hh
  have hsm := hI.hsm
  have hcd := hI.hcd
  have hfr := hI.hfr
  have hkn := hI.hkn
  have hbo := hI.hbo
  have hus := hI.hus
  have hro := hI.hro
  have har := hI.har
  have hth := hI.hth
  have hph := hI.hph
  have htu := hI.htu
  have hrb := hI.hrb
  have hpl := hI.hpl
  have hdu := hI.hdu
  have hdp := hI.hdp
  have hof := hI.hof
  have how := hI.how
  have hga := hI.hga
  have hwa := hI.hwa
  have hck := hI.hck
  have hkz := hI.hkz
  have hcb := hI.hcb
  have hfb := hI.hfb
  have hnr := hI.hnr
  have hpq := hI.hpq
  have hrc := hI.hrc
  have hbc := hI.hbc
  have hcc := hI.hcc
  have hac := hI.hac
  have hbc1 := hb c
  have hbc4 := hbc (τ.1 1) htu
  have hcc3 := hcc (τ.1 1) htu
  refine Sp.of (lk := lkX6) (tb := bX6_city) (by decide) lkX6_ok tX6_city (mW_keys _ _ _ _) (Nat.le_of_ble_eq_true rfl) (fun G hR => ?_)
  refine hR.run0 2 (S' := (2, [some (vR 100), some (vI c)], [vI c, vR 100], mW τ ρ)) rfl ?_
  refine hR.cs [vI c] kX6_140 rfl rfl (by first | decide | exact Nat.le_refl _) (by decide) (Nat.le_of_ble_eq_true rfl) rfl (sr_isCorner _ _ (by omega)) ?_
  show G (5, [some (vR 100), some (vI c)], [vI (bI (decide (0 ≤ c) && decide (c < 24))), vR 100], mW τ ρ)
  by_cases q1 : (decide (0 ≤ c) && decide (c < 24)) = true
  · skip
    have q1b := q1
    try simp only [Bool.and_eq_true, Bool.or_eq_true, Bool.and_eq_false_iff, Bool.or_eq_false_iff, decide_eq_true_eq, decide_eq_false_iff_not] at q1
    refine hR.cv [vI (bI (decide (0 ≤ c) && decide (c < 24)))] kX6_127 rfl rfl ⟨_, _, _, rfl, rfl, rfl⟩ (by first | decide | exact Nat.le_refl _) (by decide) (Nat.le_of_ble_eq_true rfl) rfl (sr_asksb_t _ _ q1b) ?_
    show G (8, [some (vR 100), some (vI c)], [vI 1], mW τ (sS ρ 0 0))
    refine hR.br (C := 1 ≠ 0) rfl (by first | omega | (dsimp only [plus1]; omega) | (simp [plus1, sHt, sH, sS, sAt, sA, sup]; done) | (simp [plus1, sHt, sH, sS, sAt, sA, sup]; omega)) (fun c2 => ?_) (fun c2 => ?_)
    · skip
      refine hR.run0 3 (S' := (18, [some (vR 100), some (vI c)], [vI 2, vI (τ.1 0)], mW τ (sS ρ 0 0))) rfl ?_
      refine hR.br (C := τ.1 0 ≠ 2) rfl (by first | omega | (dsimp only [plus1]; omega) | (simp [plus1, sHt, sH, sS, sAt, sA, sup]; done) | (simp [plus1, sHt, sH, sS, sAt, sA, sup]; omega)) (fun c3 => ?_) (fun c3 => ?_)
      · skip
        refine hR.run0 2 (S' := (65, [some (vR 100), some (vI c)], [vI 2, vR 100], mW τ (sS ρ 0 0))) rfl ?_
        refine hR.cv [vI 2] kX6_149 rfl rfl ⟨_, _, _, rfl, rfl, rfl⟩ (by first | decide | exact Nat.le_refl _) (by decide) (Nat.le_of_ble_eq_true rfl) rfl (sr_fails _ _ _) ?_
        show G (68, [some (vR 100), some (vI c)], [vI 0], mW τ (sS (sS ρ 0 0) 0 2))
        rw [sS_sS]
        show G (68, [some (vR 100), some (vI c)], [vI 0], mW τ (sS ρ 0 2))
        have hx : xCity τ c = (2, 0, τ) := by unfold xCity; (repeat' split) <;> first | rfl | (exfalso; omega) | (exfalso; simp_all; done) | (simp_all; done) | (exfalso; simp_all; omega)
        exact hR.rt rfl trivial (by rw [hx]) (by rw [hx, show rCity τ ρ c = sS ρ 0 2 from (by unfold rCity; rw [hx]; exact if_neg (show ¬ (2 : Int) = 0 by decide))])
      · skip
        refine hR.run0 4 (S' := (29, [some (vR 100), some (vI c)], [vI 32000, vI (τ.1 1), vR 100], mW τ (sS ρ 0 0))) rfl ?_
        refine hR.cv [vI (τ.1 1), vI 32000] kX6_169 rfl rfl ⟨_, _, _, rfl, rfl, rfl⟩ (by first | decide | exact Nat.le_refl _) (by decide) (Nat.le_of_ble_eq_true rfl) rfl (sr_hasAll _ _ (by omega) (by omega) hh) ?_
        show G (32, [some (vR 100), some (vI c)], [vI (bI (hasG (τ.2.2 0) (τ.1 1) 32000))], mW τ (sS ρ 0 0))
        refine hR.br (C := bI (hasG (τ.2.2 0) (τ.1 1) 32000) = 0) rfl (bI_r _) (fun c4 => ?_) (fun c4 => ?_)
        · replace c4 : (hasG (τ.2.2 0) (τ.1 1) 32000) = false := bI0 c4
          try simp only [Bool.and_eq_true, Bool.or_eq_true, Bool.and_eq_false_iff, Bool.or_eq_false_iff, decide_eq_true_eq, decide_eq_false_iff_not] at c4
          refine hR.run0 2 (S' := (65, [some (vR 100), some (vI c)], [vI 2, vR 100], mW τ (sS ρ 0 0))) rfl ?_
          refine hR.cv [vI 2] kX6_149 rfl rfl ⟨_, _, _, rfl, rfl, rfl⟩ (by first | decide | exact Nat.le_refl _) (by decide) (Nat.le_of_ble_eq_true rfl) rfl (sr_fails _ _ _) ?_
          show G (68, [some (vR 100), some (vI c)], [vI 0], mW τ (sS (sS ρ 0 0) 0 2))
          rw [sS_sS]
          show G (68, [some (vR 100), some (vI c)], [vI 0], mW τ (sS ρ 0 2))
          have hx : xCity τ c = (2, 0, τ) := by unfold xCity; (repeat' split) <;> first | rfl | (exfalso; omega) | (exfalso; simp_all; done) | (simp_all; done) | (exfalso; simp_all; omega)
          exact hR.rt rfl trivial (by rw [hx]) (by rw [hx, show rCity τ ρ c = sS ρ 0 2 from (by unfold rCity; rw [hx]; exact if_neg (show ¬ (2 : Int) = 0 by decide))])
        · replace c4 : (hasG (τ.2.2 0) (τ.1 1) 32000) = true := bI1 c4
          try simp only [Bool.and_eq_true, Bool.or_eq_true, Bool.and_eq_false_iff, Bool.or_eq_false_iff, decide_eq_true_eq, decide_eq_false_iff_not] at c4
          have f1 := hb c
          refine hR.run1 8 (S' := (47, [some (vR 100), some (vI c)], [vI ((τ.1 1) + 1), vI (τ.2.1 2 c + 1)], mW τ (sS ρ 0 0))) rfl (by first | omega | (dsimp only [plus1]; omega) | (simp [plus1, sHt, sH, sS, sAt, sA, sup]; done) | (simp [plus1, sHt, sH, sS, sAt, sA, sup]; omega)) ?_
          refine hR.br (C := τ.2.1 2 c + 1 ≠ (τ.1 1) + 1) rfl (by first | omega | (dsimp only [plus1]; omega) | (simp [plus1, sHt, sH, sS, sAt, sA, sup]; done) | (simp [plus1, sHt, sH, sS, sAt, sA, sup]; omega)) (fun c5 => ?_) (fun c5 => ?_)
          · skip
            refine hR.run0 2 (S' := (65, [some (vR 100), some (vI c)], [vI 2, vR 100], mW τ (sS ρ 0 0))) rfl ?_
            refine hR.cv [vI 2] kX6_149 rfl rfl ⟨_, _, _, rfl, rfl, rfl⟩ (by first | decide | exact Nat.le_refl _) (by decide) (Nat.le_of_ble_eq_true rfl) rfl (sr_fails _ _ _) ?_
            show G (68, [some (vR 100), some (vI c)], [vI 0], mW τ (sS (sS ρ 0 0) 0 2))
            rw [sS_sS]
            show G (68, [some (vR 100), some (vI c)], [vI 0], mW τ (sS ρ 0 2))
            have hx : xCity τ c = (2, 0, τ) := by unfold xCity; (repeat' split) <;> first | rfl | (exfalso; omega) | (exfalso; simp_all; done) | (simp_all; done) | (exfalso; simp_all; omega)
            exact hR.rt rfl trivial (by rw [hx]) (by rw [hx, show rCity τ ρ c = sS ρ 0 2 from (by unfold rCity; rw [hx]; exact if_neg (show ¬ (2 : Int) = 0 by decide))])
          · skip
            refine hR.run0 4 (S' := (56, [some (vR 100), some (vI c)], [vI 1, vI (τ.1 1), vR 100], mW τ (sS ρ 0 0))) rfl ?_
            have f2 := cntN_r (τ.2.1 2) (3 + (τ.1 1)) 24
            refine hR.cv [vI (τ.1 1), vI 1] kX6_111 rfl rfl ⟨_, _, _, rfl, rfl, rfl⟩ (by first | decide | exact Nat.le_refl _) (by decide) (Nat.le_of_ble_eq_true rfl) rfl (sr_buildings_1 _ _ (by omega) hb) ?_
            show G (59, [some (vR 100), some (vI c)], [vI (cntN (τ.2.1 2) (3 + (τ.1 1)) 24)], mW τ (sS ρ 0 0))
            refine hR.run0 1 (S' := (60, [some (vR 100), some (vI c)], [vI 3, vI (cntN (τ.2.1 2) (3 + (τ.1 1)) 24)], mW τ (sS ρ 0 0))) rfl ?_
            refine hR.br (C := cntN (τ.2.1 2) (3 + (τ.1 1)) 24 ≠ 3) rfl (by first | omega | (dsimp only [plus1]; omega) | (simp [plus1, sHt, sH, sS, sAt, sA, sup]; done) | (simp [plus1, sHt, sH, sS, sAt, sA, sup]; omega)) (fun c6 => ?_) (fun c6 => ?_)
            · skip
              refine hR.run0 2 (S' := (73, [some (vR 100), some (vI c)], [vI 32000, vR 100], mW τ (sS ρ 0 0))) rfl ?_
              refine hR.cv [vI 32000] kX6_203 rfl rfl ⟨_, _, _, rfl, rfl, rfl⟩ (by first | decide | exact Nat.le_refl _) (by decide) (Nat.le_of_ble_eq_true rfl) rfl (sr_pays _ _ (by omega) htu) ?_
              show G (76, [some (vR 100), some (vI c)], [], mW (mvA τ (τ.1 1) 3 32000) (sS ρ 0 0))
              have ez3 : (mvA τ (τ.1 1) 3 32000).1 1 = τ.1 1 := rfl
              refine hR.run0 7 (S' := (87, [some (vR 100), some (vI c)], [vI ((τ.1 1) + 4), vI c, vR 104], mW (mvA τ (τ.1 1) 3 32000) (sS ρ 0 0))) rfl ?_
              rw [show (τ.1 1) + 4 = (3 + τ.1 1) + 1 from by omega]
              refine hR.run1 1 (S' := (88, [some (vR 100), some (vI c)], [], pset (mW (mvA τ (τ.1 1) 3 32000) (sS ρ 0 0)) 104 (.inl (24, .inl (pup (plus1 ((mvA τ (τ.1 1) 3 32000).2.1 2)) c ((3 + τ.1 1) + 1)))))) rfl (by first | omega | (dsimp only [plus1]; omega) | (simp [plus1, sHt, sH, sS, sAt, sA, sup]; done) | (simp [plus1, sHt, sH, sS, sAt, sA, sup]; omega)) ?_
              rw [mW_a2]
              refine hR.run0 1 (S' := (89, [some (vR 100), some (vI c)], [vR 100], mW (sAt (mvA τ (τ.1 1) 3 32000) 2 c (3 + τ.1 1)) (sS ρ 0 0))) rfl ?_
              have hL9 : Lh (ctS τ c) := ctS_Lh hI
              refine hR.cv [] kX6_156 rfl rfl ⟨_, _, _, rfl, rfl, rfl⟩ (by first | decide | exact Nat.le_refl _) (by decide) (Nat.le_of_ble_eq_true rfl) rfl (sr_looksT (ctS τ c) _ hL9) ?_
              show G (92, [some (vR 100), some (vI c)], [], mW (lkS (ctS τ c)) (rlK ((ctS τ c).2.1 3) (sS ρ 0 0)))
              refine hR.run0 1 (S' := (93, [some (vR 100), some (vI c)], [vR 100], mW (lkS (ctS τ c)) (rlK ((ctS τ c).2.1 3) (sS ρ 0 0)))) rfl ?_
              refine hR.cv [] kX6_209 rfl rfl ⟨_, _, _, rfl, rfl, rfl⟩ (by first | decide | exact Nat.le_refl _) (by decide) (Nat.le_of_ble_eq_true rfl) rfl (sr_lookW _ _ (Lh.lk hL9)) ?_
              show G (96, [some (vR 100), some (vI c)], [], mW (winS (lkS (ctS τ c))) (rlK ((ctS τ c).2.1 3) (sS ρ 0 0)))
              refine hR.run0 3 (S' := (101, [some (vR 100), some (vI c)], [vI ((winS (lkS (ctS τ c))).1 1), vR 100], mW (winS (lkS (ctS τ c))) (rlK ((ctS τ c).2.1 3) (sS ρ 0 0)))) rfl ?_
              rw [show (winS (lkS (ctS τ c))).1 1 = τ.1 1 from by rw [winS_1 _ _ (by decide)]; rfl]
              refine hR.cv [vI (τ.1 1)] kX6_121 rfl rfl ⟨_, _, _, rfl, rfl, rfl⟩ (by first | decide | exact Nat.le_refl _) (by decide) (Nat.le_of_ble_eq_true rfl) rfl (sr_ptsW _ _ (Wi.win (Lh.lk hL9)) htu) ?_
              show G (104, [some (vR 100), some (vI c)], [vI (ptsF (winS (lkS (ctS τ c))) (τ.1 1))], mW (winS (lkS (ctS τ c))) (rlK ((ctS τ c).2.1 3) (sS ρ 0 0)))
              have hx : xCity τ c = (0, ptsF (winS (lkS (ctS τ c))) (τ.1 1), winS (lkS (ctS τ c))) := by unfold xCity; rw [if_neg (by omega), if_neg (fun h9 => h9 ⟨by omega, by omega, by omega, by assumption⟩)]
              have hkx : rCity τ ρ c = rlK ((ctS τ c).2.1 3) (sS ρ 0 0) := by unfold rCity; rw [hx]; exact if_pos rfl
              exact hR.rt rfl trivial (by rw [hx]) (by rw [hx, hkx])
            · skip
              refine hR.run0 2 (S' := (65, [some (vR 100), some (vI c)], [vI 2, vR 100], mW τ (sS ρ 0 0))) rfl ?_
              refine hR.cv [vI 2] kX6_149 rfl rfl ⟨_, _, _, rfl, rfl, rfl⟩ (by first | decide | exact Nat.le_refl _) (by decide) (Nat.le_of_ble_eq_true rfl) rfl (sr_fails _ _ _) ?_
              show G (68, [some (vR 100), some (vI c)], [vI 0], mW τ (sS (sS ρ 0 0) 0 2))
              rw [sS_sS]
              show G (68, [some (vR 100), some (vI c)], [vI 0], mW τ (sS ρ 0 2))
              have hx : xCity τ c = (2, 0, τ) := by unfold xCity; (repeat' split) <;> first | rfl | (exfalso; omega) | (exfalso; simp_all; done) | (simp_all; done) | (exfalso; simp_all; omega)
              exact hR.rt rfl trivial (by rw [hx]) (by rw [hx, show rCity τ ρ c = sS ρ 0 2 from (by unfold rCity; rw [hx]; exact if_neg (show ¬ (2 : Int) = 0 by decide))])
    · exfalso; omega
  · replace q1 := Bool.eq_false_iff.mpr q1
    have q1b := q1
    try simp only [Bool.and_eq_true, Bool.or_eq_true, Bool.and_eq_false_iff, Bool.or_eq_false_iff, decide_eq_true_eq, decide_eq_false_iff_not] at q1
    refine hR.cv [vI (bI (decide (0 ≤ c) && decide (c < 24)))] kX6_127 rfl rfl ⟨_, _, _, rfl, rfl, rfl⟩ (by first | decide | exact Nat.le_refl _) (by decide) (Nat.le_of_ble_eq_true rfl) rfl (sr_asksb_f _ _ q1b) ?_
    show G (8, [some (vR 100), some (vI c)], [vI 0], mW τ (sS ρ 0 1))
    refine hR.br (C := 0 ≠ 0) rfl (by first | omega | (dsimp only [plus1]; omega) | (simp [plus1, sHt, sH, sS, sAt, sA, sup]; done) | (simp [plus1, sHt, sH, sS, sAt, sA, sup]; omega)) (fun c7 => ?_) (fun c7 => ?_)
    · exfalso; omega
    refine hR.run0 1 (S' := (12, [some (vR 100), some (vI c)], [vI 0], mW τ (sS ρ 0 1))) rfl ?_
    have hx : xCity τ c = (1, 0, τ) := by unfold xCity; (repeat' split) <;> first | rfl | (exfalso; omega) | (exfalso; simp_all; done) | (simp_all; done) | (exfalso; simp_all; omega)
    exact hR.rt rfl trivial (by rw [hx]) (by rw [hx, show rCity τ ρ c = sS ρ 0 1 from (by unfold rCity; rw [hx]; exact if_neg (show ¬ (1 : Int) = 0 by decide))])
