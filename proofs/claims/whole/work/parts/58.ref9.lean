theorem pX6_roads_n (τ ρ : St) {a : Int} (ha0 : -2147483648 ≤ a ∧ a ≤ 2147483647) (hI : Iv τ) (hv : hoF (trT τ) (τ.1 4) = τ.1 4)  : Sp mX6_roads roC 7 [vR 100, vI a, vI (-1)] (mW τ ρ) (.inl (some (vI (xRoads τ a (-1)).2.1))) (mW (xRoads τ a (-1)).2.2 (rRoads τ ρ a (-1))) := by
  have hb := hI.hb
  have hr := hI.hr
  have hg := hI.hg
  have hn := hI.hn
  have h7 := hI.h7
  have hh := hI.hh
  have hsm := hI.hsm
  have hcd := hI.hcd
  have hfr := hI.hfr
  have hkn := hI.hkn
  have hbo := hI.hbo
  have hus := hI.hus
  have hro := hI.hro
  have har := hI.har
  have hth := hI.hth
  have hph := hI.hph
  have htu := hI.htu
  have hrb := hI.hrb
  have hpl := hI.hpl
  have hdu := hI.hdu
  have hdp := hI.hdp
  have hof := hI.hof
  have how := hI.how
  have hga := hI.hga
  have hwa := hI.hwa
  have hck := hI.hck
  have hkz := hI.hkz
  have hcb := hI.hcb
  have hfb := hI.hfb
  have hnr := hI.hnr
  have hpq := hI.hpq
  have hrc := hI.hrc
  have hbc := hI.hbc
  have hcc := hI.hcc
  have hac := hI.hac
  refine Sp.of (lk := lkX6) (tb := bX6_roads) (by decide) lkX6_ok tX6_roads (mW_keys _ _ _ _) (Nat.le_of_ble_eq_true rfl) (fun G hR => ?_)
  refine hR.run0 2 (S' := (2, [some (vR 100), some (vI a), some (vI (-1)), none], [vI a, vR 100], mW τ ρ)) rfl ?_
  refine hR.cs [vI a] kX6_143 rfl rfl (by first | decide | exact Nat.le_refl _) (by decide) (Nat.le_of_ble_eq_true rfl) rfl (sr_isEdge _ _ (by omega)) ?_
  show G (5, [some (vR 100), some (vI a), some (vI (-1)), none], [vI (bI (decide (0 ≤ a) && decide (a < 30))), vR 100], mW τ ρ)
  refine hR.br (C := (bI (decide (0 ≤ a) && decide (a < 30))) = 0) rfl (bI_r _) (fun c1 => ?_) (fun c1 => ?_)
  · replace c1 : (decide (0 ≤ a) && decide (a < 30)) = false := bI0 c1
    try simp only [Bool.and_eq_true, Bool.or_eq_true, Bool.and_eq_false_iff, Bool.or_eq_false_iff, decide_eq_true_eq, decide_eq_false_iff_not] at c1
    refine hR.run0 1 (S' := (25, [some (vR 100), some (vI a), some (vI (-1)), none], [vI 0, vR 100], mW τ ρ)) rfl ?_
    refine hR.cv [vI 0] kX6_127 rfl rfl ⟨_, _, _, rfl, rfl, rfl⟩ (by first | decide | exact Nat.le_refl _) (by decide) (Nat.le_of_ble_eq_true rfl) rfl (sr_asks_f _ _) ?_
    show G (28, [some (vR 100), some (vI a), some (vI (-1)), none], [vI 0], mW τ (sS ρ 0 1))
    refine hR.br (C := 0 ≠ 0) rfl (by first | omega | (dsimp only [plus1]; omega) | (simp [plus1, sHt, sH, sS, sAt, sA, sup]; done) | (simp [plus1, sHt, sH, sS, sAt, sA, sup]; omega)) (fun c2 => ?_) (fun c2 => ?_)
    · exfalso; omega
    refine hR.run0 1 (S' := (32, [some (vR 100), some (vI a), some (vI (-1)), none], [vI 0], mW τ (sS ρ 0 1))) rfl ?_
    have hx : xRoads τ a (-1) = (1, 0, τ) := by unfold xRoads; (repeat' split) <;> first | rfl | (exfalso; omega) | (exfalso; simp_all; done) | (simp_all; done) | (exfalso; simp_all; omega)
    exact hR.rt rfl trivial (by rw [hx]) (by rw [hx, show rRoads τ ρ a (-1) = sS ρ 0 1 from (by unfold rRoads; rw [hx]; exact if_neg (show ¬ (1 : Int) = 0 by decide))])
  · replace c1 : (decide (0 ≤ a) && decide (a < 30)) = true := bI1 c1
    try simp only [Bool.and_eq_true, Bool.or_eq_true, Bool.and_eq_false_iff, Bool.or_eq_false_iff, decide_eq_true_eq, decide_eq_false_iff_not] at c1
    refine hR.run0 2 (S' := (10, [some (vR 100), some (vI a), some (vI (-1)), none], [vI (-1), vI (-1), vR 100], mW τ ρ)) rfl ?_
    refine hR.br (C := (-1) = (-1)) rfl (by first | omega | (dsimp only [plus1]; omega) | (simp [plus1, sHt, sH, sS, sAt, sA, sup]; done) | (simp [plus1, sHt, sH, sS, sAt, sA, sup]; omega)) (fun c3 => ?_) (fun c3 => ?_)
    · skip
      refine hR.run0 2 (S' := (25, [some (vR 100), some (vI a), some (vI (-1)), none], [vI 1, vR 100], mW τ ρ)) rfl ?_
      refine hR.cv [vI 1] kX6_127 rfl rfl ⟨_, _, _, rfl, rfl, rfl⟩ (by first | decide | exact Nat.le_refl _) (by decide) (Nat.le_of_ble_eq_true rfl) rfl (sr_asks_t _ _) ?_
      show G (28, [some (vR 100), some (vI a), some (vI (-1)), none], [vI 1], mW τ (sS ρ 0 0))
      refine hR.br (C := 1 ≠ 0) rfl (by first | omega | (dsimp only [plus1]; omega) | (simp [plus1, sHt, sH, sS, sAt, sA, sup]; done) | (simp [plus1, sHt, sH, sS, sAt, sA, sup]; omega)) (fun c4 => ?_) (fun c4 => ?_)
      · skip
        refine hR.run0 2 (S' := (35, [some (vR 100), some (vI a), some (vI (-1)), none], [vI 1, vR 100], mW τ (sS ρ 0 0))) rfl ?_
        refine hR.cv [vI 1] kX6_221 rfl rfl ⟨_, _, _, rfl, rfl, rfl⟩ (by first | decide | exact Nat.le_refl _) (by decide) (Nat.le_of_ble_eq_true rfl) rfl (sr_mayUse1 _ _ hph htu hcd hfr hus) ?_
        show G (38, [some (vR 100), some (vI a), some (vI (-1)), none], [vI (bI (mayU τ 1))], mW τ (sS ρ 0 0))
        refine hR.br (C := bI (mayU τ 1) = 0) rfl (bI_r _) (fun c5 => ?_) (fun c5 => ?_)
        · replace c5 : (mayU τ 1) = false := bI0 c5
          try simp only [Bool.and_eq_true, Bool.or_eq_true, Bool.and_eq_false_iff, Bool.or_eq_false_iff, decide_eq_true_eq, decide_eq_false_iff_not] at c5
          refine hR.run0 3 (S' := (60, [some (vR 100), some (vI a), some (vI (-1)), some (vI 0)], [vI 0], mW τ (sS ρ 0 0))) rfl ?_
          refine hR.br (C := 0 = 0) rfl (by first | omega | (dsimp only [plus1]; omega) | (simp [plus1, sHt, sH, sS, sAt, sA, sup]; done) | (simp [plus1, sHt, sH, sS, sAt, sA, sup]; omega)) (fun c6 => ?_) (fun c6 => ?_)
          · skip
            refine hR.run0 1 (S' := (98, [some (vR 100), some (vI a), some (vI (-1)), some (vI 0)], [vI 0], mW τ (sS ρ 0 0))) rfl ?_
            refine hR.br (C := 0 ≠ 0) rfl (by first | omega | (dsimp only [plus1]; omega) | (simp [plus1, sHt, sH, sS, sAt, sA, sup]; done) | (simp [plus1, sHt, sH, sS, sAt, sA, sup]; omega)) (fun c7 => ?_) (fun c7 => ?_)
            · exfalso; omega
            refine hR.run0 2 (S' := (103, [some (vR 100), some (vI a), some (vI (-1)), some (vI 0)], [vI 2, vR 100], mW τ (sS ρ 0 0))) rfl ?_
            refine hR.cv [vI 2] kX6_149 rfl rfl ⟨_, _, _, rfl, rfl, rfl⟩ (by first | decide | exact Nat.le_refl _) (by decide) (Nat.le_of_ble_eq_true rfl) rfl (sr_fails _ _ _) ?_
            show G (106, [some (vR 100), some (vI a), some (vI (-1)), some (vI 0)], [vI 0], mW τ (sS (sS ρ 0 0) 0 2))
            rw [sS_sS]
            show G (106, [some (vR 100), some (vI a), some (vI (-1)), some (vI 0)], [vI 0], mW τ (sS ρ 0 2))
            have hx : xRoads τ a (-1) = (2, 0, τ) := by unfold xRoads; (repeat' split) <;> first | rfl | (exfalso; omega) | (exfalso; simp_all; done) | (simp_all; done) | (exfalso; simp_all; omega)
            exact hR.rt rfl trivial (by rw [hx]) (by rw [hx, show rRoads τ ρ a (-1) = sS ρ 0 2 from (by unfold rRoads; rw [hx]; exact if_neg (show ¬ (2 : Int) = 0 by decide))])
          · exfalso; omega
        · replace c5 : (mayU τ 1) = true := bI1 c5
          try simp only [Bool.and_eq_true, Bool.or_eq_true, Bool.and_eq_false_iff, Bool.or_eq_false_iff, decide_eq_true_eq, decide_eq_false_iff_not] at c5
          refine hR.run0 4 (S' := (47, [some (vR 100), some (vI a), some (vI (-1)), none], [vI a, vI (τ.1 1), vR 100], mW τ (sS ρ 0 0))) rfl ?_
          refine hR.cv [vI (τ.1 1), vI a] kX6_200 rfl rfl ⟨_, _, _, rfl, rfl, rfl⟩ (by first | decide | exact Nat.le_refl _) (by decide) (Nat.le_of_ble_eq_true rfl) rfl (sr_mayRoad _ _ htu (by omega) hb hr) ?_
          show G (50, [some (vR 100), some (vI a), some (vI (-1)), none], [vI (bI (canR τ a))], mW τ (sS ρ 0 0))
          refine hR.br (C := bI (canR τ a) = 0) rfl (bI_r _) (fun c8 => ?_) (fun c8 => ?_)
          · replace c8 : (canR τ a) = false := bI0 c8
            try simp only [Bool.and_eq_true, Bool.or_eq_true, Bool.and_eq_false_iff, Bool.or_eq_false_iff, decide_eq_true_eq, decide_eq_false_iff_not] at c8
            refine hR.run0 3 (S' := (60, [some (vR 100), some (vI a), some (vI (-1)), some (vI 0)], [vI 0], mW τ (sS ρ 0 0))) rfl ?_
            refine hR.br (C := 0 = 0) rfl (by first | omega | (dsimp only [plus1]; omega) | (simp [plus1, sHt, sH, sS, sAt, sA, sup]; done) | (simp [plus1, sHt, sH, sS, sAt, sA, sup]; omega)) (fun c9 => ?_) (fun c9 => ?_)
            · skip
              refine hR.run0 1 (S' := (98, [some (vR 100), some (vI a), some (vI (-1)), some (vI 0)], [vI 0], mW τ (sS ρ 0 0))) rfl ?_
              refine hR.br (C := 0 ≠ 0) rfl (by first | omega | (dsimp only [plus1]; omega) | (simp [plus1, sHt, sH, sS, sAt, sA, sup]; done) | (simp [plus1, sHt, sH, sS, sAt, sA, sup]; omega)) (fun c10 => ?_) (fun c10 => ?_)
              · exfalso; omega
              refine hR.run0 2 (S' := (103, [some (vR 100), some (vI a), some (vI (-1)), some (vI 0)], [vI 2, vR 100], mW τ (sS ρ 0 0))) rfl ?_
              refine hR.cv [vI 2] kX6_149 rfl rfl ⟨_, _, _, rfl, rfl, rfl⟩ (by first | decide | exact Nat.le_refl _) (by decide) (Nat.le_of_ble_eq_true rfl) rfl (sr_fails _ _ _) ?_
              show G (106, [some (vR 100), some (vI a), some (vI (-1)), some (vI 0)], [vI 0], mW τ (sS (sS ρ 0 0) 0 2))
              rw [sS_sS]
              show G (106, [some (vR 100), some (vI a), some (vI (-1)), some (vI 0)], [vI 0], mW τ (sS ρ 0 2))
              have hx : xRoads τ a (-1) = (2, 0, τ) := by unfold xRoads; (repeat' split) <;> first | rfl | (exfalso; omega) | (exfalso; simp_all; done) | (simp_all; done) | (exfalso; simp_all; omega)
              exact hR.rt rfl trivial (by rw [hx]) (by rw [hx, show rRoads τ ρ a (-1) = sS ρ 0 2 from (by unfold rRoads; rw [hx]; exact if_neg (show ¬ (2 : Int) = 0 by decide))])
            · exfalso; omega
          · replace c8 : (canR τ a) = true := bI1 c8
            try simp only [Bool.and_eq_true, Bool.or_eq_true, Bool.and_eq_false_iff, Bool.or_eq_false_iff, decide_eq_true_eq, decide_eq_false_iff_not] at c8
            refine hR.run0 4 (S' := (60, [some (vR 100), some (vI a), some (vI (-1)), some (vI 1)], [vI 1], mW τ (sS ρ 0 0))) rfl ?_
            refine hR.br (C := 1 = 0) rfl (by first | omega | (dsimp only [plus1]; omega) | (simp [plus1, sHt, sH, sS, sAt, sA, sup]; done) | (simp [plus1, sHt, sH, sS, sAt, sA, sup]; omega)) (fun c11 => ?_) (fun c11 => ?_)
            · exfalso; omega
            refine hR.run0 2 (S' := (65, [some (vR 100), some (vI a), some (vI (-1)), some (vI 1)], [vI (-1), vI (-1)], mW τ (sS ρ 0 0))) rfl ?_
            refine hR.br (C := (-1) = (-1)) rfl (by first | omega | (dsimp only [plus1]; omega) | (simp [plus1, sHt, sH, sS, sAt, sA, sup]; done) | (simp [plus1, sHt, sH, sS, sAt, sA, sup]; omega)) (fun c12 => ?_) (fun c12 => ?_)
            · skip
              refine hR.run0 1 (S' := (98, [some (vR 100), some (vI a), some (vI (-1)), some (vI 1)], [vI 1], mW τ (sS ρ 0 0))) rfl ?_
              refine hR.br (C := 1 ≠ 0) rfl (by first | omega | (dsimp only [plus1]; omega) | (simp [plus1, sHt, sH, sS, sAt, sA, sup]; done) | (simp [plus1, sHt, sH, sS, sAt, sA, sup]; omega)) (fun c13 => ?_) (fun c13 => ?_)
              · skip
                refine hR.run0 2 (S' := (109, [some (vR 100), some (vI a), some (vI (-1)), some (vI 1)], [vI 1, vR 100], mW τ (sS ρ 0 0))) rfl ?_
                refine hR.cv [vI 1] kX6_224 rfl rfl ⟨_, _, _, rfl, rfl, rfl⟩ (by first | decide | exact Nat.le_refl _) (by decide) (Nat.le_of_ble_eq_true rfl) rfl (sr_uses1 _ _ htu) ?_
                show G (112, [some (vR 100), some (vI a), some (vI (-1)), some (vI 1)], [], mW (usS τ (τ.1 1) 1) (sS ρ 0 0))
                have hut : (usS τ (τ.1 1) 1).1 1 = τ.1 1 := usS_1 _ _ _ _ (by decide) (by decide)
                refine hR.run0 2 (S' := (114, [some (vR 100), some (vI a), some (vI (-1)), some (vI 1)], [vI a, vR 100], mW (usS τ (τ.1 1) 1) (sS ρ 0 0))) rfl ?_
                have hu9 : canU τ (τ.1 1) 1 = true := mayU_canU c5
                have hL8 : Lh (r1S τ a) := r1S_Lh hI (by omega) (by assumption) hu9
                refine hR.cv [vI a] kX6_206 rfl rfl ⟨_, _, _, rfl, rfl, rfl⟩ (by first | decide | exact Nat.le_refl _) (by decide) (Nat.le_of_ble_eq_true rfl) rfl (sr_laysT _ _ (by omega) (show (usS τ (τ.1 1) 1).1 1 = τ.1 1 from usS_1 _ _ _ _ (by decide) (by decide)) htu hL8) ?_
                show G (117, [some (vR 100), some (vI a), some (vI (-1)), some (vI 1)], [], mW (lkS (r1S τ a)) (rlK ((r1S τ a).2.1 3) (sS ρ 0 0)))
                refine hR.run0 2 (S' := (119, [some (vR 100), some (vI a), some (vI (-1)), some (vI 1)], [vI (-1), vI (-1)], mW (lkS (r1S τ a)) (rlK ((r1S τ a).2.1 3) (sS ρ 0 0)))) rfl ?_
                refine hR.br (C := (-1) = (-1)) rfl (by first | omega | (dsimp only [plus1]; omega) | (simp [plus1, sHt, sH, sS, sAt, sA, sup]; done) | (simp [plus1, sHt, sH, sS, sAt, sA, sup]; omega)) (fun c14 => ?_) (fun c14 => ?_)
                · skip
                  refine hR.run0 1 (S' := (128, [some (vR 100), some (vI a), some (vI (-1)), some (vI 1)], [vR 100], mW (lkS (r1S τ a)) (rlK ((r1S τ a).2.1 3) (sS ρ 0 0)))) rfl ?_
                  rw [show lkS (r1S τ a) = lkS (ruS τ a (-1)) from r1_eq τ a]
                  have hL9 : Lh (ruS τ a (-1)) := ruS_Lh hI (by omega) (by assumption) (by omega) (by first | exact .inl rfl | exact .inr (by assumption)) hu9
                  refine hR.cv [] kX6_209 rfl rfl ⟨_, _, _, rfl, rfl, rfl⟩ (by first | decide | exact Nat.le_refl _) (by decide) (Nat.le_of_ble_eq_true rfl) rfl (sr_lookW _ _ (Lh.lk hL9)) ?_
                  show G (131, [some (vR 100), some (vI a), some (vI (-1)), some (vI 1)], [], mW (winS (lkS (ruS τ a (-1)))) (rlK ((r1S τ a).2.1 3) (sS ρ 0 0)))
                  refine hR.run0 3 (S' := (136, [some (vR 100), some (vI a), some (vI (-1)), some (vI 1)], [vI ((winS (lkS (ruS τ a (-1)))).1 1), vR 100], mW (winS (lkS (ruS τ a (-1)))) (rlK ((r1S τ a).2.1 3) (sS ρ 0 0)))) rfl ?_
                  rw [show (winS (lkS (ruS τ a (-1)))).1 1 = τ.1 1 from by rw [winS_1 _ _ (by decide)]; exact ruS_1 τ a (-1)]
                  refine hR.cv [vI (τ.1 1)] kX6_104 rfl rfl ⟨_, _, _, rfl, rfl, rfl⟩ (by first | decide | exact Nat.le_refl _) (by decide) (Nat.le_of_ble_eq_true rfl) rfl (sr_trailW (ruS τ a (-1)) _ hL9 htu) ?_
                  show G (139, [some (vR 100), some (vI a), some (vI (-1)), some (vI 1)], [vI (trT (ruS τ a (-1)) (τ.1 1))], mW (winS (lkS (ruS τ a (-1)))) (owK ((ruS τ a (-1)).2.1 3) (τ.1 1) (rlK ((r1S τ a).2.1 3) (sS ρ 0 0)) 30))
                  rw [show trT (ruS τ a (-1)) (τ.1 1) = trT (rwS τ a (-1)) (τ.1 1) from by unfold ruS; rw [us_tr], show (ruS τ a (-1)).2.1 3 = (rwS τ a (-1)).2.1 3 from rw_3 τ a (-1)]
                  show G (139, [some (vR 100), some (vI a), some (vI (-1)), some (vI 1)], [vI (trT (rwS τ a (-1)) (τ.1 1))], mW (winS (lkS (ruS τ a (-1)))) (owK ((rwS τ a (-1)).2.1 3) (τ.1 1) (rlK ((r1S τ a).2.1 3) (sS ρ 0 0)) 30))
                  have hx : xRoads τ a (-1) = (0, trT (rwS τ a (-1)) (τ.1 1), winS (lkS (ruS τ a (-1)))) := by unfold xRoads; rw [if_neg (by omega), if_neg (fun h9 => h9 ⟨by assumption, by assumption, by first | exact .inl rfl | exact .inr (by assumption)⟩)]; rfl
                  have hkx : rRoads τ ρ a (-1) = owK ((rwS τ a (-1)).2.1 3) (τ.1 1) (rlK ((r1S τ a).2.1 3) (sS ρ 0 0)) 30 := by unfold rRoads; rw [hx, if_pos rfl, if_pos rfl]
                  exact hR.rt rfl trivial (by rw [hx]) (by rw [hx, hkx])
                · exfalso; omega
              · exfalso; omega
            · exfalso; omega
      · exfalso; omega
    · exfalso; omega
theorem pX6_roads_v (τ ρ : St) {a b : Int} (ha0 : -2147483648 ≤ a ∧ a ≤ 2147483647) (hb0 : -2147483648 ≤ b ∧ b ≤ 2147483647) (hb1 : b ≠ -1) (hI : Iv τ) (hv : hoF (trT τ) (τ.1 4) = τ.1 4)  : Sp mX6_roads roC 7 [vR 100, vI a, vI b] (mW τ ρ) (.inl (some (vI (xRoads τ a b).2.1))) (mW (xRoads τ a b).2.2 (rRoads τ ρ a b)) := by
  have hb := hI.hb
  have hr := hI.hr
  have hg := hI.hg
  have hn := hI.hn
  have h7 := hI.h7
  have hh := hI.hh
  have hsm := hI.hsm
  have hcd := hI.hcd
  have hfr := hI.hfr
  have hkn := hI.hkn
  have hbo := hI.hbo
  have hus := hI.hus
  have hro := hI.hro
  have har := hI.har
  have hth := hI.hth
  have hph := hI.hph
  have htu := hI.htu
  have hrb := hI.hrb
  have hpl := hI.hpl
  have hdu := hI.hdu
  have hdp := hI.hdp
  have hof := hI.hof
  have how := hI.how
  have hga := hI.hga
  have hwa := hI.hwa
  have hck := hI.hck
  have hkz := hI.hkz
  have hcb := hI.hcb
  have hfb := hI.hfb
  have hnr := hI.hnr
  have hpq := hI.hpq
  have hrc := hI.hrc
  have hbc := hI.hbc
  have hcc := hI.hcc
  have hac := hI.hac
  refine Sp.of (lk := lkX6) (tb := bX6_roads) (by decide) lkX6_ok tX6_roads (mW_keys _ _ _ _) (Nat.le_of_ble_eq_true rfl) (fun G hR => ?_)
  refine hR.run0 2 (S' := (2, [some (vR 100), some (vI a), some (vI b), none], [vI a, vR 100], mW τ ρ)) rfl ?_
  refine hR.cs [vI a] kX6_143 rfl rfl (by first | decide | exact Nat.le_refl _) (by decide) (Nat.le_of_ble_eq_true rfl) rfl (sr_isEdge _ _ (by omega)) ?_
  show G (5, [some (vR 100), some (vI a), some (vI b), none], [vI (bI (decide (0 ≤ a) && decide (a < 30))), vR 100], mW τ ρ)
  refine hR.br (C := (bI (decide (0 ≤ a) && decide (a < 30))) = 0) rfl (bI_r _) (fun c1 => ?_) (fun c1 => ?_)
  · replace c1 : (decide (0 ≤ a) && decide (a < 30)) = false := bI0 c1
    try simp only [Bool.and_eq_true, Bool.or_eq_true, Bool.and_eq_false_iff, Bool.or_eq_false_iff, decide_eq_true_eq, decide_eq_false_iff_not] at c1
    refine hR.run0 1 (S' := (25, [some (vR 100), some (vI a), some (vI b), none], [vI 0, vR 100], mW τ ρ)) rfl ?_
    refine hR.cv [vI 0] kX6_127 rfl rfl ⟨_, _, _, rfl, rfl, rfl⟩ (by first | decide | exact Nat.le_refl _) (by decide) (Nat.le_of_ble_eq_true rfl) rfl (sr_asks_f _ _) ?_
    show G (28, [some (vR 100), some (vI a), some (vI b), none], [vI 0], mW τ (sS ρ 0 1))
    refine hR.br (C := 0 ≠ 0) rfl (by first | omega | (dsimp only [plus1]; omega) | (simp [plus1, sHt, sH, sS, sAt, sA, sup]; done) | (simp [plus1, sHt, sH, sS, sAt, sA, sup]; omega)) (fun c2 => ?_) (fun c2 => ?_)
    · exfalso; omega
    refine hR.run0 1 (S' := (32, [some (vR 100), some (vI a), some (vI b), none], [vI 0], mW τ (sS ρ 0 1))) rfl ?_
    have hx : xRoads τ a b = (1, 0, τ) := by unfold xRoads; (repeat' split) <;> first | rfl | (exfalso; omega) | (exfalso; simp_all; done) | (simp_all; done) | (exfalso; simp_all; omega)
    exact hR.rt rfl trivial (by rw [hx]) (by rw [hx, show rRoads τ ρ a b = sS ρ 0 1 from (by unfold rRoads; rw [hx]; exact if_neg (show ¬ (1 : Int) = 0 by decide))])
  · replace c1 : (decide (0 ≤ a) && decide (a < 30)) = true := bI1 c1
    try simp only [Bool.and_eq_true, Bool.or_eq_true, Bool.and_eq_false_iff, Bool.or_eq_false_iff, decide_eq_true_eq, decide_eq_false_iff_not] at c1
    refine hR.run0 2 (S' := (10, [some (vR 100), some (vI a), some (vI b), none], [vI (-1), vI b, vR 100], mW τ ρ)) rfl ?_
    refine hR.br (C := b = (-1)) rfl (by first | omega | (dsimp only [plus1]; omega) | (simp [plus1, sHt, sH, sS, sAt, sA, sup]; done) | (simp [plus1, sHt, sH, sS, sAt, sA, sup]; omega)) (fun c3 => ?_) (fun c3 => ?_)
    · exfalso; omega
    refine hR.run0 1 (S' := (14, [some (vR 100), some (vI a), some (vI b), none], [vI b, vR 100], mW τ ρ)) rfl ?_
    refine hR.cs [vI b] kX6_143 rfl rfl (by first | decide | exact Nat.le_refl _) (by decide) (Nat.le_of_ble_eq_true rfl) rfl (sr_isEdge _ _ (by omega)) ?_
    show G (17, [some (vR 100), some (vI a), some (vI b), none], [vI (bI (decide (0 ≤ b) && decide (b < 30))), vR 100], mW τ ρ)
    refine hR.br (C := (bI (decide (0 ≤ b) && decide (b < 30))) = 0) rfl (bI_r _) (fun c4 => ?_) (fun c4 => ?_)
    · replace c4 : (decide (0 ≤ b) && decide (b < 30)) = false := bI0 c4
      try simp only [Bool.and_eq_true, Bool.or_eq_true, Bool.and_eq_false_iff, Bool.or_eq_false_iff, decide_eq_true_eq, decide_eq_false_iff_not] at c4
      refine hR.run0 1 (S' := (25, [some (vR 100), some (vI a), some (vI b), none], [vI 0, vR 100], mW τ ρ)) rfl ?_
      refine hR.cv [vI 0] kX6_127 rfl rfl ⟨_, _, _, rfl, rfl, rfl⟩ (by first | decide | exact Nat.le_refl _) (by decide) (Nat.le_of_ble_eq_true rfl) rfl (sr_asks_f _ _) ?_
      show G (28, [some (vR 100), some (vI a), some (vI b), none], [vI 0], mW τ (sS ρ 0 1))
      refine hR.br (C := 0 ≠ 0) rfl (by first | omega | (dsimp only [plus1]; omega) | (simp [plus1, sHt, sH, sS, sAt, sA, sup]; done) | (simp [plus1, sHt, sH, sS, sAt, sA, sup]; omega)) (fun c5 => ?_) (fun c5 => ?_)
      · exfalso; omega
      refine hR.run0 1 (S' := (32, [some (vR 100), some (vI a), some (vI b), none], [vI 0], mW τ (sS ρ 0 1))) rfl ?_
      have hx : xRoads τ a b = (1, 0, τ) := by unfold xRoads; (repeat' split) <;> first | rfl | (exfalso; omega) | (exfalso; simp_all; done) | (simp_all; done) | (exfalso; simp_all; omega)
      exact hR.rt rfl trivial (by rw [hx]) (by rw [hx, show rRoads τ ρ a b = sS ρ 0 1 from (by unfold rRoads; rw [hx]; exact if_neg (show ¬ (1 : Int) = 0 by decide))])
    · replace c4 : (decide (0 ≤ b) && decide (b < 30)) = true := bI1 c4
      try simp only [Bool.and_eq_true, Bool.or_eq_true, Bool.and_eq_false_iff, Bool.or_eq_false_iff, decide_eq_true_eq, decide_eq_false_iff_not] at c4
      refine hR.run0 2 (S' := (25, [some (vR 100), some (vI a), some (vI b), none], [vI 1, vR 100], mW τ ρ)) rfl ?_
      refine hR.cv [vI 1] kX6_127 rfl rfl ⟨_, _, _, rfl, rfl, rfl⟩ (by first | decide | exact Nat.le_refl _) (by decide) (Nat.le_of_ble_eq_true rfl) rfl (sr_asks_t _ _) ?_
      show G (28, [some (vR 100), some (vI a), some (vI b), none], [vI 1], mW τ (sS ρ 0 0))
      refine hR.br (C := 1 ≠ 0) rfl (by first | omega | (dsimp only [plus1]; omega) | (simp [plus1, sHt, sH, sS, sAt, sA, sup]; done) | (simp [plus1, sHt, sH, sS, sAt, sA, sup]; omega)) (fun c6 => ?_) (fun c6 => ?_)
      · skip
        refine hR.run0 2 (S' := (35, [some (vR 100), some (vI a), some (vI b), none], [vI 1, vR 100], mW τ (sS ρ 0 0))) rfl ?_
        refine hR.cv [vI 1] kX6_221 rfl rfl ⟨_, _, _, rfl, rfl, rfl⟩ (by first | decide | exact Nat.le_refl _) (by decide) (Nat.le_of_ble_eq_true rfl) rfl (sr_mayUse1 _ _ hph htu hcd hfr hus) ?_
        show G (38, [some (vR 100), some (vI a), some (vI b), none], [vI (bI (mayU τ 1))], mW τ (sS ρ 0 0))
        refine hR.br (C := bI (mayU τ 1) = 0) rfl (bI_r _) (fun c7 => ?_) (fun c7 => ?_)
        · replace c7 : (mayU τ 1) = false := bI0 c7
          try simp only [Bool.and_eq_true, Bool.or_eq_true, Bool.and_eq_false_iff, Bool.or_eq_false_iff, decide_eq_true_eq, decide_eq_false_iff_not] at c7
          refine hR.run0 3 (S' := (60, [some (vR 100), some (vI a), some (vI b), some (vI 0)], [vI 0], mW τ (sS ρ 0 0))) rfl ?_
          refine hR.br (C := 0 = 0) rfl (by first | omega | (dsimp only [plus1]; omega) | (simp [plus1, sHt, sH, sS, sAt, sA, sup]; done) | (simp [plus1, sHt, sH, sS, sAt, sA, sup]; omega)) (fun c8 => ?_) (fun c8 => ?_)
          · skip
            refine hR.run0 1 (S' := (98, [some (vR 100), some (vI a), some (vI b), some (vI 0)], [vI 0], mW τ (sS ρ 0 0))) rfl ?_
            refine hR.br (C := 0 ≠ 0) rfl (by first | omega | (dsimp only [plus1]; omega) | (simp [plus1, sHt, sH, sS, sAt, sA, sup]; done) | (simp [plus1, sHt, sH, sS, sAt, sA, sup]; omega)) (fun c9 => ?_) (fun c9 => ?_)
            · exfalso; omega
            refine hR.run0 2 (S' := (103, [some (vR 100), some (vI a), some (vI b), some (vI 0)], [vI 2, vR 100], mW τ (sS ρ 0 0))) rfl ?_
            refine hR.cv [vI 2] kX6_149 rfl rfl ⟨_, _, _, rfl, rfl, rfl⟩ (by first | decide | exact Nat.le_refl _) (by decide) (Nat.le_of_ble_eq_true rfl) rfl (sr_fails _ _ _) ?_
            show G (106, [some (vR 100), some (vI a), some (vI b), some (vI 0)], [vI 0], mW τ (sS (sS ρ 0 0) 0 2))
            rw [sS_sS]
            show G (106, [some (vR 100), some (vI a), some (vI b), some (vI 0)], [vI 0], mW τ (sS ρ 0 2))
            have hx : xRoads τ a b = (2, 0, τ) := by unfold xRoads; (repeat' split) <;> first | rfl | (exfalso; omega) | (exfalso; simp_all; done) | (simp_all; done) | (exfalso; simp_all; omega)
            exact hR.rt rfl trivial (by rw [hx]) (by rw [hx, show rRoads τ ρ a b = sS ρ 0 2 from (by unfold rRoads; rw [hx]; exact if_neg (show ¬ (2 : Int) = 0 by decide))])
          · exfalso; omega
        · replace c7 : (mayU τ 1) = true := bI1 c7
          try simp only [Bool.and_eq_true, Bool.or_eq_true, Bool.and_eq_false_iff, Bool.or_eq_false_iff, decide_eq_true_eq, decide_eq_false_iff_not] at c7
          refine hR.run0 4 (S' := (47, [some (vR 100), some (vI a), some (vI b), none], [vI a, vI (τ.1 1), vR 100], mW τ (sS ρ 0 0))) rfl ?_
          refine hR.cv [vI (τ.1 1), vI a] kX6_200 rfl rfl ⟨_, _, _, rfl, rfl, rfl⟩ (by first | decide | exact Nat.le_refl _) (by decide) (Nat.le_of_ble_eq_true rfl) rfl (sr_mayRoad _ _ htu (by omega) hb hr) ?_
          show G (50, [some (vR 100), some (vI a), some (vI b), none], [vI (bI (canR τ a))], mW τ (sS ρ 0 0))
          refine hR.br (C := bI (canR τ a) = 0) rfl (bI_r _) (fun c10 => ?_) (fun c10 => ?_)
          · replace c10 : (canR τ a) = false := bI0 c10
            try simp only [Bool.and_eq_true, Bool.or_eq_true, Bool.and_eq_false_iff, Bool.or_eq_false_iff, decide_eq_true_eq, decide_eq_false_iff_not] at c10
            refine hR.run0 3 (S' := (60, [some (vR 100), some (vI a), some (vI b), some (vI 0)], [vI 0], mW τ (sS ρ 0 0))) rfl ?_
            refine hR.br (C := 0 = 0) rfl (by first | omega | (dsimp only [plus1]; omega) | (simp [plus1, sHt, sH, sS, sAt, sA, sup]; done) | (simp [plus1, sHt, sH, sS, sAt, sA, sup]; omega)) (fun c11 => ?_) (fun c11 => ?_)
            · skip
              refine hR.run0 1 (S' := (98, [some (vR 100), some (vI a), some (vI b), some (vI 0)], [vI 0], mW τ (sS ρ 0 0))) rfl ?_
              refine hR.br (C := 0 ≠ 0) rfl (by first | omega | (dsimp only [plus1]; omega) | (simp [plus1, sHt, sH, sS, sAt, sA, sup]; done) | (simp [plus1, sHt, sH, sS, sAt, sA, sup]; omega)) (fun c12 => ?_) (fun c12 => ?_)
              · exfalso; omega
              refine hR.run0 2 (S' := (103, [some (vR 100), some (vI a), some (vI b), some (vI 0)], [vI 2, vR 100], mW τ (sS ρ 0 0))) rfl ?_
              refine hR.cv [vI 2] kX6_149 rfl rfl ⟨_, _, _, rfl, rfl, rfl⟩ (by first | decide | exact Nat.le_refl _) (by decide) (Nat.le_of_ble_eq_true rfl) rfl (sr_fails _ _ _) ?_
              show G (106, [some (vR 100), some (vI a), some (vI b), some (vI 0)], [vI 0], mW τ (sS (sS ρ 0 0) 0 2))
              rw [sS_sS]
              show G (106, [some (vR 100), some (vI a), some (vI b), some (vI 0)], [vI 0], mW τ (sS ρ 0 2))
              have hx : xRoads τ a b = (2, 0, τ) := by unfold xRoads; (repeat' split) <;> first | rfl | (exfalso; omega) | (exfalso; simp_all; done) | (simp_all; done) | (exfalso; simp_all; omega)
              exact hR.rt rfl trivial (by rw [hx]) (by rw [hx, show rRoads τ ρ a b = sS ρ 0 2 from (by unfold rRoads; rw [hx]; exact if_neg (show ¬ (2 : Int) = 0 by decide))])
            · exfalso; omega
          · replace c10 : (canR τ a) = true := bI1 c10
            try simp only [Bool.and_eq_true, Bool.or_eq_true, Bool.and_eq_false_iff, Bool.or_eq_false_iff, decide_eq_true_eq, decide_eq_false_iff_not] at c10
            refine hR.run0 4 (S' := (60, [some (vR 100), some (vI a), some (vI b), some (vI 1)], [vI 1], mW τ (sS ρ 0 0))) rfl ?_
            refine hR.br (C := 1 = 0) rfl (by first | omega | (dsimp only [plus1]; omega) | (simp [plus1, sHt, sH, sS, sAt, sA, sup]; done) | (simp [plus1, sHt, sH, sS, sAt, sA, sup]; omega)) (fun c13 => ?_) (fun c13 => ?_)
            · exfalso; omega
            refine hR.run0 2 (S' := (65, [some (vR 100), some (vI a), some (vI b), some (vI 1)], [vI (-1), vI b], mW τ (sS ρ 0 0))) rfl ?_
            refine hR.br (C := b = (-1)) rfl (by first | omega | (dsimp only [plus1]; omega) | (simp [plus1, sHt, sH, sS, sAt, sA, sup]; done) | (simp [plus1, sHt, sH, sS, sAt, sA, sup]; omega)) (fun c14 => ?_) (fun c14 => ?_)
            · exfalso; omega
            refine hR.run1 8 (S' := (80, [some (vR 100), some (vI a), some (vI b), some (vI 1)], [], pset (mW τ (sS ρ 0 0)) 103 (.inl (30, .inl (pup (plus1 (τ.2.1 3)) a ((τ.1 1) + 1)))))) rfl (by first | omega | (dsimp only [plus1]; omega) | (simp [plus1, sHt, sH, sS, sAt, sA, sup]; done) | (simp [plus1, sHt, sH, sS, sAt, sA, sup]; omega)) ?_
            rw [mW_a3]
            refine hR.run0 4 (S' := (86, [some (vR 100), some (vI a), some (vI b), some (vI 1)], [vI b, vI (τ.1 1), vR 100], mW (sAt τ 3 a (τ.1 1)) (sS ρ 0 0))) rfl ?_
            refine hR.cv [vI (τ.1 1), vI b] kX6_200 rfl rfl ⟨_, _, _, rfl, rfl, rfl⟩ (by first | decide | exact Nat.le_refl _) (by decide) (Nat.le_of_ble_eq_true rfl) rfl (sr_mayRoad _ _ htu (by omega) hb (r1_Lh hI (by omega) (by assumption)).2.1) ?_
            show G (89, [some (vR 100), some (vI a), some (vI b), some (vI 1)], [vI (bI (canR (sAt τ 3 a (τ.1 1)) b))], mW (sAt τ 3 a (τ.1 1)) (sS ρ 0 0))
            refine hR.run1 6 (S' := (97, [some (vR 100), some (vI a), some (vI b), some (vI (bI (canR (sAt τ 3 a (τ.1 1)) b)))], [], pset (mW (sAt τ 3 a (τ.1 1)) (sS ρ 0 0)) 103 (.inl (30, .inl (pup (plus1 ((sAt τ 3 a (τ.1 1)).2.1 3)) a ((-1) + 1)))))) rfl (by first | omega | (dsimp only [plus1]; omega) | (simp [plus1, sHt, sH, sS, sAt, sA, sup]; done) | (simp [plus1, sHt, sH, sS, sAt, sA, sup]; omega)) ?_
            rw [mW_a3]
            rw [show sAt (sAt τ 3 a (τ.1 1)) 3 a (-1) = τ from by have h9 := sAt_back (τ := τ) (k := 3) (e := a) (v := τ.1 1); rw [(canR_is (by assumption : canR τ a = true)).2] at h9; exact h9]
            show G (97, [some (vR 100), some (vI a), some (vI b), some (vI (bI (canR (sAt τ 3 a (τ.1 1)) b)))], [], mW τ (sS ρ 0 0))
            refine hR.run0 1 (S' := (98, [some (vR 100), some (vI a), some (vI b), some (vI (bI (canR (sAt τ 3 a (τ.1 1)) b)))], [vI (bI (canR (sAt τ 3 a (τ.1 1)) b))], mW τ (sS ρ 0 0))) rfl ?_
            refine hR.br (C := bI (canR (sAt τ 3 a (τ.1 1)) b) ≠ 0) rfl (bI_r _) (fun c15 => ?_) (fun c15 => ?_)
            · replace c15 : (canR (sAt τ 3 a (τ.1 1)) b) = true := bI1 c15
              try simp only [Bool.and_eq_true, Bool.or_eq_true, Bool.and_eq_false_iff, Bool.or_eq_false_iff, decide_eq_true_eq, decide_eq_false_iff_not] at c15
              refine hR.run0 2 (S' := (109, [some (vR 100), some (vI a), some (vI b), some (vI (bI (canR (sAt τ 3 a (τ.1 1)) b)))], [vI 1, vR 100], mW τ (sS ρ 0 0))) rfl ?_
              refine hR.cv [vI 1] kX6_224 rfl rfl ⟨_, _, _, rfl, rfl, rfl⟩ (by first | decide | exact Nat.le_refl _) (by decide) (Nat.le_of_ble_eq_true rfl) rfl (sr_uses1 _ _ htu) ?_
              show G (112, [some (vR 100), some (vI a), some (vI b), some (vI (bI (canR (sAt τ 3 a (τ.1 1)) b)))], [], mW (usS τ (τ.1 1) 1) (sS ρ 0 0))
              have hut : (usS τ (τ.1 1) 1).1 1 = τ.1 1 := usS_1 _ _ _ _ (by decide) (by decide)
              refine hR.run0 2 (S' := (114, [some (vR 100), some (vI a), some (vI b), some (vI (bI (canR (sAt τ 3 a (τ.1 1)) b)))], [vI a, vR 100], mW (usS τ (τ.1 1) 1) (sS ρ 0 0))) rfl ?_
              have hu9 : canU τ (τ.1 1) 1 = true := mayU_canU c7
              have hL8 : Lh (r1S τ a) := r1S_Lh hI (by omega) (by assumption) hu9
              refine hR.cv [vI a] kX6_206 rfl rfl ⟨_, _, _, rfl, rfl, rfl⟩ (by first | decide | exact Nat.le_refl _) (by decide) (Nat.le_of_ble_eq_true rfl) rfl (sr_laysT _ _ (by omega) (show (usS τ (τ.1 1) 1).1 1 = τ.1 1 from usS_1 _ _ _ _ (by decide) (by decide)) htu hL8) ?_
              show G (117, [some (vR 100), some (vI a), some (vI b), some (vI (bI (canR (sAt τ 3 a (τ.1 1)) b)))], [], mW (lkS (r1S τ a)) (rlK ((r1S τ a).2.1 3) (sS ρ 0 0)))
              refine hR.run0 2 (S' := (119, [some (vR 100), some (vI a), some (vI b), some (vI (bI (canR (sAt τ 3 a (τ.1 1)) b)))], [vI (-1), vI b], mW (lkS (r1S τ a)) (rlK ((r1S τ a).2.1 3) (sS ρ 0 0)))) rfl ?_
              refine hR.br (C := b = (-1)) rfl (by first | omega | (dsimp only [plus1]; omega) | (simp [plus1, sHt, sH, sS, sAt, sA, sup]; done) | (simp [plus1, sHt, sH, sS, sAt, sA, sup]; omega)) (fun c16 => ?_) (fun c16 => ?_)
              · exfalso; omega
              refine hR.run0 2 (S' := (124, [some (vR 100), some (vI a), some (vI b), some (vI (bI (canR (sAt τ 3 a (τ.1 1)) b)))], [vI b, vR 100], mW (lkS (r1S τ a)) (rlK ((r1S τ a).2.1 3) (sS ρ 0 0)))) rfl ?_
              have hL7 : Lh (sAt (lkS (r1S τ a)) 3 b (τ.1 1)) := r2S_Lh hI (by omega) (by assumption) (by omega) hb1 (by assumption) hu9
              have ht7 : (lkS (r1S τ a)).1 1 = τ.1 1 := by show (r1S τ a).1 1 = τ.1 1; exact usS_1 τ (τ.1 1) 1 1 (by decide) (by decide)
              refine hR.cv [vI b] kX6_206 rfl rfl ⟨_, _, _, rfl, rfl, rfl⟩ (by first | decide | exact Nat.le_refl _) (by decide) (Nat.le_of_ble_eq_true rfl) rfl (sr_laysT _ _ (by omega) ht7 htu hL7) ?_
              show G (127, [some (vR 100), some (vI a), some (vI b), some (vI (bI (canR (sAt τ 3 a (τ.1 1)) b)))], [], mW (lkS (sAt (lkS (r1S τ a)) 3 b (τ.1 1))) (rlK ((sAt (lkS (r1S τ a)) 3 b (τ.1 1)).2.1 3) (rlK ((r1S τ a).2.1 3) (sS ρ 0 0))))
              refine hR.run0 1 (S' := (128, [some (vR 100), some (vI a), some (vI b), some (vI (bI (canR (sAt τ 3 a (τ.1 1)) b)))], [vR 100], mW (lkS (sAt (lkS (r1S τ a)) 3 b (τ.1 1))) (rlK ((sAt (lkS (r1S τ a)) 3 b (τ.1 1)).2.1 3) (rlK ((r1S τ a).2.1 3) (sS ρ 0 0))))) rfl ?_
              rw [show lkS (sAt (lkS (r1S τ a)) 3 b (τ.1 1)) = lkS (ruS τ a b) from rr_eq hI (by omega) (by omega) hb1 (by assumption) (by assumption) hv, r2_3 τ a hb1]
              have hL9 : Lh (ruS τ a b) := ruS_Lh hI (by omega) (by assumption) (by omega) (by first | exact .inl rfl | exact .inr (by assumption)) hu9
              refine hR.cv [] kX6_209 rfl rfl ⟨_, _, _, rfl, rfl, rfl⟩ (by first | decide | exact Nat.le_refl _) (by decide) (Nat.le_of_ble_eq_true rfl) rfl (sr_lookW _ _ (Lh.lk hL9)) ?_
              show G (131, [some (vR 100), some (vI a), some (vI b), some (vI (bI (canR (sAt τ 3 a (τ.1 1)) b)))], [], mW (winS (lkS (ruS τ a b))) (rlK ((rwS τ a b).2.1 3) (rlK ((r1S τ a).2.1 3) (sS ρ 0 0))))
              refine hR.run0 3 (S' := (136, [some (vR 100), some (vI a), some (vI b), some (vI (bI (canR (sAt τ 3 a (τ.1 1)) b)))], [vI ((winS (lkS (ruS τ a b))).1 1), vR 100], mW (winS (lkS (ruS τ a b))) (rlK ((rwS τ a b).2.1 3) (rlK ((r1S τ a).2.1 3) (sS ρ 0 0))))) rfl ?_
              rw [show (winS (lkS (ruS τ a b))).1 1 = τ.1 1 from by rw [winS_1 _ _ (by decide)]; exact ruS_1 τ a b]
              refine hR.cv [vI (τ.1 1)] kX6_104 rfl rfl ⟨_, _, _, rfl, rfl, rfl⟩ (by first | decide | exact Nat.le_refl _) (by decide) (Nat.le_of_ble_eq_true rfl) rfl (sr_trailW (ruS τ a b) _ hL9 htu) ?_
              show G (139, [some (vR 100), some (vI a), some (vI b), some (vI (bI (canR (sAt τ 3 a (τ.1 1)) b)))], [vI (trT (ruS τ a b) (τ.1 1))], mW (winS (lkS (ruS τ a b))) (owK ((ruS τ a b).2.1 3) (τ.1 1) (rlK ((rwS τ a b).2.1 3) (rlK ((r1S τ a).2.1 3) (sS ρ 0 0))) 30))
              rw [show trT (ruS τ a b) (τ.1 1) = trT (rwS τ a b) (τ.1 1) from by unfold ruS; rw [us_tr], show (ruS τ a b).2.1 3 = (rwS τ a b).2.1 3 from rw_3 τ a b]
              show G (139, [some (vR 100), some (vI a), some (vI b), some (vI (bI (canR (sAt τ 3 a (τ.1 1)) b)))], [vI (trT (rwS τ a b) (τ.1 1))], mW (winS (lkS (ruS τ a b))) (owK ((rwS τ a b).2.1 3) (τ.1 1) (rlK ((rwS τ a b).2.1 3) (rlK ((r1S τ a).2.1 3) (sS ρ 0 0))) 30))
              have hx : xRoads τ a b = (0, trT (rwS τ a b) (τ.1 1), winS (lkS (ruS τ a b))) := by unfold xRoads; rw [if_neg (by omega), if_neg (fun h9 => h9 ⟨by assumption, by assumption, by first | exact .inl rfl | exact .inr (by assumption)⟩)]; rfl
              have hkx : rRoads τ ρ a b = owK ((rwS τ a b).2.1 3) (τ.1 1) (rlK ((rwS τ a b).2.1 3) (rlK ((r1S τ a).2.1 3) (sS ρ 0 0))) 30 := by unfold rRoads; rw [hx, if_pos rfl, if_neg hb1]
              exact hR.rt rfl trivial (by rw [hx]) (by rw [hx, hkx])
            · replace c15 : (canR (sAt τ 3 a (τ.1 1)) b) = false := bI0 (Classical.not_not.mp c15)
              try simp only [Bool.and_eq_true, Bool.or_eq_true, Bool.and_eq_false_iff, Bool.or_eq_false_iff, decide_eq_true_eq, decide_eq_false_iff_not] at c15
              refine hR.run0 2 (S' := (103, [some (vR 100), some (vI a), some (vI b), some (vI (bI (canR (sAt τ 3 a (τ.1 1)) b)))], [vI 2, vR 100], mW τ (sS ρ 0 0))) rfl ?_
              refine hR.cv [vI 2] kX6_149 rfl rfl ⟨_, _, _, rfl, rfl, rfl⟩ (by first | decide | exact Nat.le_refl _) (by decide) (Nat.le_of_ble_eq_true rfl) rfl (sr_fails _ _ _) ?_
              show G (106, [some (vR 100), some (vI a), some (vI b), some (vI (bI (canR (sAt τ 3 a (τ.1 1)) b)))], [vI 0], mW τ (sS (sS ρ 0 0) 0 2))
              rw [sS_sS]
              show G (106, [some (vR 100), some (vI a), some (vI b), some (vI (bI (canR (sAt τ 3 a (τ.1 1)) b)))], [vI 0], mW τ (sS ρ 0 2))
              have hx : xRoads τ a b = (2, 0, τ) := by unfold xRoads; (repeat' split) <;> first | rfl | (exfalso; omega) | (exfalso; simp_all; done) | (simp_all; done) | (exfalso; simp_all; omega)
              exact hR.rt rfl trivial (by rw [hx]) (by rw [hx, show rRoads τ ρ a b = sS ρ 0 2 from (by unfold rRoads; rw [hx]; exact if_neg (show ¬ (2 : Int) = 0 by decide))])
      · exfalso; omega
theorem pX6_roads (τ ρ : St) {a b : Int} (ha0 : -2147483648 ≤ a ∧ a ≤ 2147483647) (hb0 : -2147483648 ≤ b ∧ b ≤ 2147483647) (hI : Iv τ) (hv : hoF (trT τ) (τ.1 4) = τ.1 4) : Sp mX6_roads roC 7 [vR 100, vI a, vI b] (mW τ ρ) (.inl (some (vI (xRoads τ a b).2.1))) (mW (xRoads τ a b).2.2 (rRoads τ ρ a b)) := by
  by_cases e : b = -1
  · subst e
    exact pX6_roads_n τ ρ ha0 hI hv
  · exact pX6_roads_v τ ρ ha0 hb0 e hI hv
