theorem pX6_place (τ ρ : St) {c e : Int} (hc0 : -2147483648 ≤ c ∧ c ≤ 2147483647) (he0 : -2147483648 ≤ e ∧ e ≤ 2147483647) (hI : Iv τ)  : Sp mX6_place roC 6 [vR 100, vI c, vI e] (mW τ ρ) (.inl (some (vI (xPlace τ c e).2.1))) (mW (xPlace τ c e).2.2 (rPlace τ ρ c e)) := by
  have hb := hI.hb
  have hr := hI.hr
  have hg := hI.hg
  have hn := hI.hn
  have h7 := hI.h7
  have hh := hI.hh
  have hsm := hI.hsm
  have hcd := hI.hcd
  have hfr := hI.hfr
  have hkn := hI.hkn
  have hbo := hI.hbo
  have hus := hI.hus
  have hro := hI.hro
  have har := hI.har
  have hth := hI.hth
  have hph := hI.hph
  have htu := hI.htu
  have hrb := hI.hrb
  have hpl := hI.hpl
  have hdu := hI.hdu
  have hdp := hI.hdp
  have hof := hI.hof
  have how := hI.how
  have hga := hI.hga
  have hwa := hI.hwa
  have hck := hI.hck
  have hkz := hI.hkz
  have hcb := hI.hcb
  have hfb := hI.hfb
  have hnr := hI.hnr
  have hpq := hI.hpq
  have hrc := hI.hrc
  have hbc := hI.hbc
  have hcc := hI.hcc
  have hac := hI.hac
  have hre1 := hr e
  refine Sp.of (lk := lkX6) (tb := bX6_place) (by decide) lkX6_ok tX6_place (mW_keys _ _ _ _) (Nat.le_of_ble_eq_true rfl) (fun G hR => ?_)
  refine hR.run0 2 (S' := (2, [some (vR 100), some (vI c), some (vI e)], [vI c, vR 100], mW τ ρ)) rfl ?_
  refine hR.cs [vI c] kX6_140 rfl rfl (by first | decide | exact Nat.le_refl _) (by decide) (Nat.le_of_ble_eq_true rfl) rfl (sr_isCorner _ _ (by omega)) ?_
  show G (5, [some (vR 100), some (vI c), some (vI e)], [vI (bI (decide (0 ≤ c) && decide (c < 24))), vR 100], mW τ ρ)
  refine hR.br (C := (bI (decide (0 ≤ c) && decide (c < 24))) = 0) rfl (bI_r _) (fun c1 => ?_) (fun c1 => ?_)
  · replace c1 : (decide (0 ≤ c) && decide (c < 24)) = false := bI0 c1
    try simp only [Bool.and_eq_true, Bool.or_eq_true, Bool.and_eq_false_iff, Bool.or_eq_false_iff, decide_eq_true_eq, decide_eq_false_iff_not] at c1
    refine hR.run0 1 (S' := (20, [some (vR 100), some (vI c), some (vI e)], [vI 0, vR 100], mW τ ρ)) rfl ?_
    refine hR.cv [vI 0] kX6_127 rfl rfl ⟨_, _, _, rfl, rfl, rfl⟩ (by first | decide | exact Nat.le_refl _) (by decide) (Nat.le_of_ble_eq_true rfl) rfl (sr_asks_f _ _) ?_
    show G (23, [some (vR 100), some (vI c), some (vI e)], [vI 0], mW τ (sS ρ 0 1))
    refine hR.br (C := 0 ≠ 0) rfl (by first | omega | (dsimp only [plus1]; omega) | (simp [plus1, sHt, sH, sS, sAt, sA, sup]; done) | (simp [plus1, sHt, sH, sS, sAt, sA, sup]; omega)) (fun c2 => ?_) (fun c2 => ?_)
    · exfalso; omega
    refine hR.run0 1 (S' := (27, [some (vR 100), some (vI c), some (vI e)], [vI 0], mW τ (sS ρ 0 1))) rfl ?_
    have hx : xPlace τ c e = (1, 0, τ) := by unfold xPlace; (repeat' split) <;> first | rfl | (exfalso; omega) | (exfalso; simp_all; done) | (simp_all; done) | (exfalso; simp_all; omega)
    exact hR.rt rfl trivial (by rw [hx]) (by rw [hx, show rPlace τ ρ c e = sS ρ 0 1 from (by unfold rPlace; rw [hx]; exact if_neg (show ¬ (1 : Int) = 0 by decide))])
  · replace c1 : (decide (0 ≤ c) && decide (c < 24)) = true := bI1 c1
    try simp only [Bool.and_eq_true, Bool.or_eq_true, Bool.and_eq_false_iff, Bool.or_eq_false_iff, decide_eq_true_eq, decide_eq_false_iff_not] at c1
    refine hR.run0 1 (S' := (9, [some (vR 100), some (vI c), some (vI e)], [vI e, vR 100], mW τ ρ)) rfl ?_
    refine hR.cs [vI e] kX6_143 rfl rfl (by first | decide | exact Nat.le_refl _) (by decide) (Nat.le_of_ble_eq_true rfl) rfl (sr_isEdge _ _ (by omega)) ?_
    show G (12, [some (vR 100), some (vI c), some (vI e)], [vI (bI (decide (0 ≤ e) && decide (e < 30))), vR 100], mW τ ρ)
    refine hR.br (C := (bI (decide (0 ≤ e) && decide (e < 30))) = 0) rfl (bI_r _) (fun c3 => ?_) (fun c3 => ?_)
    · replace c3 : (decide (0 ≤ e) && decide (e < 30)) = false := bI0 c3
      try simp only [Bool.and_eq_true, Bool.or_eq_true, Bool.and_eq_false_iff, Bool.or_eq_false_iff, decide_eq_true_eq, decide_eq_false_iff_not] at c3
      refine hR.run0 1 (S' := (20, [some (vR 100), some (vI c), some (vI e)], [vI 0, vR 100], mW τ ρ)) rfl ?_
      refine hR.cv [vI 0] kX6_127 rfl rfl ⟨_, _, _, rfl, rfl, rfl⟩ (by first | decide | exact Nat.le_refl _) (by decide) (Nat.le_of_ble_eq_true rfl) rfl (sr_asks_f _ _) ?_
      show G (23, [some (vR 100), some (vI c), some (vI e)], [vI 0], mW τ (sS ρ 0 1))
      refine hR.br (C := 0 ≠ 0) rfl (by first | omega | (dsimp only [plus1]; omega) | (simp [plus1, sHt, sH, sS, sAt, sA, sup]; done) | (simp [plus1, sHt, sH, sS, sAt, sA, sup]; omega)) (fun c4 => ?_) (fun c4 => ?_)
      · exfalso; omega
      refine hR.run0 1 (S' := (27, [some (vR 100), some (vI c), some (vI e)], [vI 0], mW τ (sS ρ 0 1))) rfl ?_
      have hx : xPlace τ c e = (1, 0, τ) := by unfold xPlace; (repeat' split) <;> first | rfl | (exfalso; omega) | (exfalso; simp_all; done) | (simp_all; done) | (exfalso; simp_all; omega)
      exact hR.rt rfl trivial (by rw [hx]) (by rw [hx, show rPlace τ ρ c e = sS ρ 0 1 from (by unfold rPlace; rw [hx]; exact if_neg (show ¬ (1 : Int) = 0 by decide))])
    · replace c3 : (decide (0 ≤ e) && decide (e < 30)) = true := bI1 c3
      try simp only [Bool.and_eq_true, Bool.or_eq_true, Bool.and_eq_false_iff, Bool.or_eq_false_iff, decide_eq_true_eq, decide_eq_false_iff_not] at c3
      refine hR.run0 2 (S' := (20, [some (vR 100), some (vI c), some (vI e)], [vI 1, vR 100], mW τ ρ)) rfl ?_
      refine hR.cv [vI 1] kX6_127 rfl rfl ⟨_, _, _, rfl, rfl, rfl⟩ (by first | decide | exact Nat.le_refl _) (by decide) (Nat.le_of_ble_eq_true rfl) rfl (sr_asks_t _ _) ?_
      show G (23, [some (vR 100), some (vI c), some (vI e)], [vI 1], mW τ (sS ρ 0 0))
      refine hR.br (C := 1 ≠ 0) rfl (by first | omega | (dsimp only [plus1]; omega) | (simp [plus1, sHt, sH, sS, sAt, sA, sup]; done) | (simp [plus1, sHt, sH, sS, sAt, sA, sup]; omega)) (fun c5 => ?_) (fun c5 => ?_)
      · skip
        refine hR.run0 2 (S' := (32, [some (vR 100), some (vI c), some (vI e)], [vI (τ.1 0)], mW τ (sS ρ 0 0))) rfl ?_
        refine hR.br (C := τ.1 0 ≠ 0) rfl (by first | omega | (dsimp only [plus1]; omega) | (simp [plus1, sHt, sH, sS, sAt, sA, sup]; done) | (simp [plus1, sHt, sH, sS, sAt, sA, sup]; omega)) (fun c6 => ?_) (fun c6 => ?_)
        · skip
          refine hR.run0 2 (S' := (62, [some (vR 100), some (vI c), some (vI e)], [vI 2, vR 100], mW τ (sS ρ 0 0))) rfl ?_
          refine hR.cv [vI 2] kX6_149 rfl rfl ⟨_, _, _, rfl, rfl, rfl⟩ (by first | decide | exact Nat.le_refl _) (by decide) (Nat.le_of_ble_eq_true rfl) rfl (sr_fails _ _ _) ?_
          show G (65, [some (vR 100), some (vI c), some (vI e)], [vI 0], mW τ (sS (sS ρ 0 0) 0 2))
          rw [sS_sS]
          show G (65, [some (vR 100), some (vI c), some (vI e)], [vI 0], mW τ (sS ρ 0 2))
          have hx : xPlace τ c e = (2, 0, τ) := by unfold xPlace; (repeat' split) <;> first | rfl | (exfalso; omega) | (exfalso; simp_all; done) | (simp_all; done) | (exfalso; simp_all; omega)
          exact hR.rt rfl trivial (by rw [hx]) (by rw [hx, show rPlace τ ρ c e = sS ρ 0 2 from (by unfold rPlace; rw [hx]; exact if_neg (show ¬ (2 : Int) = 0 by decide))])
        · skip
          refine hR.run0 2 (S' := (37, [some (vR 100), some (vI c), some (vI e)], [vI c, vR 100], mW τ (sS ρ 0 0))) rfl ?_
          refine hR.cv [vI c] kX6_146 rfl rfl ⟨_, _, _, rfl, rfl, rfl⟩ (by first | decide | exact Nat.le_refl _) (by decide) (Nat.le_of_ble_eq_true rfl) rfl (sr_isFree _ _ (by omega) hb) ?_
          show G (40, [some (vR 100), some (vI c), some (vI e)], [vI (bI (freeC (τ.2.1 2) c))], mW τ (sS ρ 0 0))
          refine hR.br (C := bI (freeC (τ.2.1 2) c) = 0) rfl (bI_r _) (fun c7 => ?_) (fun c7 => ?_)
          · replace c7 : (freeC (τ.2.1 2) c) = false := bI0 c7
            try simp only [Bool.and_eq_true, Bool.or_eq_true, Bool.and_eq_false_iff, Bool.or_eq_false_iff, decide_eq_true_eq, decide_eq_false_iff_not] at c7
            refine hR.run0 2 (S' := (62, [some (vR 100), some (vI c), some (vI e)], [vI 2, vR 100], mW τ (sS ρ 0 0))) rfl ?_
            refine hR.cv [vI 2] kX6_149 rfl rfl ⟨_, _, _, rfl, rfl, rfl⟩ (by first | decide | exact Nat.le_refl _) (by decide) (Nat.le_of_ble_eq_true rfl) rfl (sr_fails _ _ _) ?_
            show G (65, [some (vR 100), some (vI c), some (vI e)], [vI 0], mW τ (sS (sS ρ 0 0) 0 2))
            rw [sS_sS]
            show G (65, [some (vR 100), some (vI c), some (vI e)], [vI 0], mW τ (sS ρ 0 2))
            have hx : xPlace τ c e = (2, 0, τ) := by unfold xPlace; (repeat' split) <;> first | rfl | (exfalso; omega) | (exfalso; simp_all; done) | (simp_all; done) | (exfalso; simp_all; omega)
            exact hR.rt rfl trivial (by rw [hx]) (by rw [hx, show rPlace τ ρ c e = sS ρ 0 2 from (by unfold rPlace; rw [hx]; exact if_neg (show ¬ (2 : Int) = 0 by decide))])
          · replace c7 : (freeC (τ.2.1 2) c) = true := bI1 c7
            try simp only [Bool.and_eq_true, Bool.or_eq_true, Bool.and_eq_false_iff, Bool.or_eq_false_iff, decide_eq_true_eq, decide_eq_false_iff_not] at c7
            have f1 := hr e
            refine hR.run1 4 (S' := (49, [some (vR 100), some (vI c), some (vI e)], [vI (τ.2.1 3 e + 1)], mW τ (sS ρ 0 0))) rfl (by first | omega | (dsimp only [plus1]; omega) | (simp [plus1, sHt, sH, sS, sAt, sA, sup]; done) | (simp [plus1, sHt, sH, sS, sAt, sA, sup]; omega)) ?_
            refine hR.br (C := τ.2.1 3 e + 1 ≠ 0) rfl (by first | omega | (dsimp only [plus1]; omega) | (simp [plus1, sHt, sH, sS, sAt, sA, sup]; done) | (simp [plus1, sHt, sH, sS, sAt, sA, sup]; omega)) (fun c8 => ?_) (fun c8 => ?_)
            · skip
              have ec8 : τ.2.1 3 e ≠ -1 := by omega
              refine hR.run0 2 (S' := (62, [some (vR 100), some (vI c), some (vI e)], [vI 2, vR 100], mW τ (sS ρ 0 0))) rfl ?_
              refine hR.cv [vI 2] kX6_149 rfl rfl ⟨_, _, _, rfl, rfl, rfl⟩ (by first | decide | exact Nat.le_refl _) (by decide) (Nat.le_of_ble_eq_true rfl) rfl (sr_fails _ _ _) ?_
              show G (65, [some (vR 100), some (vI c), some (vI e)], [vI 0], mW τ (sS (sS ρ 0 0) 0 2))
              rw [sS_sS]
              show G (65, [some (vR 100), some (vI c), some (vI e)], [vI 0], mW τ (sS ρ 0 2))
              have hx : xPlace τ c e = (2, 0, τ) := by unfold xPlace; (repeat' split) <;> first | rfl | (exfalso; omega) | (exfalso; simp_all; done) | (simp_all; done) | (exfalso; simp_all; omega)
              exact hR.rt rfl trivial (by rw [hx]) (by rw [hx, show rPlace τ ρ c e = sS ρ 0 2 from (by unfold rPlace; rw [hx]; exact if_neg (show ¬ (2 : Int) = 0 by decide))])
            · skip
              have ec8 : τ.2.1 3 e = -1 := by omega
              refine hR.run0 2 (S' := (54, [some (vR 100), some (vI c), some (vI e)], [vI c, vI e], mW τ (sS ρ 0 0))) rfl ?_
              refine hR.cs [vI e, vI c] kX6_70 rfl rfl (by first | decide | exact Nat.le_refl _) (by decide) (Nat.le_of_ble_eq_true rfl) rfl (sr_hasCorner _ _ (by omega) (by omega)) ?_
              show G (57, [some (vR 100), some (vI c), some (vI e)], [vI (bI (isE e c))], mW τ (sS ρ 0 0))
              refine hR.br (C := bI (isE e c) ≠ 0) rfl (bI_r _) (fun c9 => ?_) (fun c9 => ?_)
              · replace c9 : (isE e c) = true := bI1 c9
                try simp only [Bool.and_eq_true, Bool.or_eq_true, Bool.and_eq_false_iff, Bool.or_eq_false_iff, decide_eq_true_eq, decide_eq_false_iff_not] at c9
                refine hR.run1 8 (S' := (78, [some (vR 100), some (vI c), some (vI e)], [], pset (mW τ (sS ρ 0 0)) 104 (.inl (24, .inl (pup (plus1 (τ.2.1 2)) c ((τ.1 1) + 1)))))) rfl (by first | omega | (dsimp only [plus1]; omega) | (simp [plus1, sHt, sH, sS, sAt, sA, sup]; done) | (simp [plus1, sHt, sH, sS, sAt, sA, sup]; omega)) ?_
                rw [mW_a2]
                refine hR.run1 8 (S' := (90, [some (vR 100), some (vI c), some (vI e)], [], pset (mW (sAt τ 2 c (τ.1 1)) (sS ρ 0 0)) 103 (.inl (30, .inl (pup (plus1 ((sAt τ 2 c (τ.1 1)).2.1 3)) e ((τ.1 1) + 1)))))) rfl (by first | omega | (dsimp only [plus1]; omega) | (simp [plus1, sHt, sH, sS, sAt, sA, sup]; done) | (simp [plus1, sHt, sH, sS, sAt, sA, sup]; omega)) ?_
                rw [mW_a3]
                refine hR.run0 3 (S' := (95, [some (vR 100), some (vI c), some (vI e)], [vI 3, vI (τ.1 2)], mW (sAt (sAt τ 2 c (τ.1 1)) 3 e (τ.1 1)) (sS ρ 0 0))) rfl ?_
                refine hR.br (C := τ.1 2 < 3) rfl (by first | omega | (dsimp only [plus1]; omega) | (simp [plus1, sHt, sH, sS, sAt, sA, sup]; done) | (simp [plus1, sHt, sH, sS, sAt, sA, sup]; omega)) (fun c10 => ?_) (fun c10 => ?_)
                · skip
                  have hpp := hI.hpp (by omega)
                  rw [show sAt (sAt τ 2 c (τ.1 1)) 3 e (τ.1 1) = pgS τ c e from (if_neg (by omega)).symm]
                  have hp1 := pgS_1 τ c e
                  have hLP : Lh (pgS τ c e) := pgS_Lh hI (by omega) (by omega) (by omega)
                  have hxp : xPlS τ c e = gopS (sS (lkS (pgS τ c e)) 2 ((pgS τ c e).1 2 + 1)) := by unfold xPlS; rw [hp1]
                  have hP0 : (pgS τ c e).1 0 = 0 := by rw [hp1]; omega
                  have hP2 : 0 ≤ (pgS τ c e).1 2 ∧ (pgS τ c e).1 2 < 6 := by rw [hp1]; omega
                  generalize hPP : pgS τ c e = P at hp1 hLP hxp hP0 hP2 ⊢
                  show G (107, [some (vR 100), some (vI c), some (vI e)], [], mW P (sS ρ 0 0))
                  refine hR.run0 6 (S' := (117, [some (vR 100), some (vI c), some (vI e)], [], pset (mW P (sS ρ 0 0)) 100 (.inr (6, [vR 101, vR 102, vI (P.1 5), vR 103, vR 104, vR 105, vR 106, vI (P.1 0), vI (P.1 1), vI ((P.1 2) + 1), vI (P.1 3), vR 107, vR 108, vI (P.1 6), vI (P.1 7), vR 109, vI (P.1 8), vI (P.1 4), vI (P.1 9), vI (P.1 10), vR 110, vR 111, vR 112, vR 113, vR 114, vI ((sS ρ 0 0).1 0)])))) rfl ?_
                  rw [mW_s2]
                  refine hR.run0 4 (S' := (123, [some (vR 100), some (vI c), some (vI e)], [vI 3, vI ((P.1 2) + 1), vR 100], mW (sS P 2 ((P.1 2) + 1)) (sS ρ 0 0))) rfl ?_
                  refine hR.br (C := 3 ≤ (P.1 2) + 1) rfl (by first | omega | (dsimp only [plus1]; omega) | (simp [plus1, sHt, sH, sS, sAt, sA, sup]; done) | (simp [plus1, sHt, sH, sS, sAt, sA, sup]; omega)) (fun c11 => ?_) (fun c11 => ?_)
                  · skip
                    refine hR.run0 3 (S' := (139, [some (vR 100), some (vI c), some (vI e)], [vI 6, vI ((P.1 2) + 1), vR 100], mW (sS P 2 ((P.1 2) + 1)) (sS ρ 0 0))) rfl ?_
                    refine hR.br (C := 6 ≤ (P.1 2) + 1) rfl (by first | omega | (dsimp only [plus1]; omega) | (simp [plus1, sHt, sH, sS, sAt, sA, sup]; done) | (simp [plus1, sHt, sH, sS, sAt, sA, sup]; omega)) (fun c12 => ?_) (fun c12 => ?_)
                    · skip
                      refine hR.run0 2 (S' := (155, [some (vR 100), some (vI c), some (vI e)], [], pset (mW (sS P 2 ((P.1 2) + 1)) (sS ρ 0 0)) 100 (.inr (6, [vR 101, vR 102, vI ((sS P 2 ((P.1 2) + 1)).1 5), vR 103, vR 104, vR 105, vR 106, vI ((sS P 2 ((P.1 2) + 1)).1 0), vI 0, vI ((sS P 2 ((P.1 2) + 1)).1 2), vI ((sS P 2 ((P.1 2) + 1)).1 3), vR 107, vR 108, vI ((sS P 2 ((P.1 2) + 1)).1 6), vI ((sS P 2 ((P.1 2) + 1)).1 7), vR 109, vI ((sS P 2 ((P.1 2) + 1)).1 8), vI ((sS P 2 ((P.1 2) + 1)).1 4), vI ((sS P 2 ((P.1 2) + 1)).1 9), vI ((sS P 2 ((P.1 2) + 1)).1 10), vR 110, vR 111, vR 112, vR 113, vR 114, vI ((sS ρ 0 0).1 0)])))) rfl ?_
                      rw [mW_s1]
                      refine hR.run0 4 (S' := (162, [some (vR 100), some (vI c), some (vI e)], [vI 6, vI ((P.1 2) + 1), vR 100], mW (sS (sS P 2 ((P.1 2) + 1)) 1 0) (sS ρ 0 0))) rfl ?_
                      refine hR.br (C := (P.1 2) + 1 ≠ 6) rfl (by first | omega | (dsimp only [plus1]; omega) | (simp [plus1, sHt, sH, sS, sAt, sA, sup]; done) | (simp [plus1, sHt, sH, sS, sAt, sA, sup]; omega)) (fun c13 => ?_) (fun c13 => ?_)
                      · skip
                        refine hR.run0 2 (S' := (173, [some (vR 100), some (vI c), some (vI e)], [], pset (mW (sS (sS P 2 ((P.1 2) + 1)) 1 0) (sS ρ 0 0)) 100 (.inr (6, [vR 101, vR 102, vI ((sS (sS P 2 ((P.1 2) + 1)) 1 0).1 5), vR 103, vR 104, vR 105, vR 106, vI 0, vI ((sS (sS P 2 ((P.1 2) + 1)) 1 0).1 1), vI ((sS (sS P 2 ((P.1 2) + 1)) 1 0).1 2), vI ((sS (sS P 2 ((P.1 2) + 1)) 1 0).1 3), vR 107, vR 108, vI ((sS (sS P 2 ((P.1 2) + 1)) 1 0).1 6), vI ((sS (sS P 2 ((P.1 2) + 1)) 1 0).1 7), vR 109, vI ((sS (sS P 2 ((P.1 2) + 1)) 1 0).1 8), vI ((sS (sS P 2 ((P.1 2) + 1)) 1 0).1 4), vI ((sS (sS P 2 ((P.1 2) + 1)) 1 0).1 9), vI ((sS (sS P 2 ((P.1 2) + 1)) 1 0).1 10), vR 110, vR 111, vR 112, vR 113, vR 114, vI ((sS ρ 0 0).1 0)])))) rfl ?_
                        rw [mW_s0]
                        refine hR.run0 1 (S' := (174, [some (vR 100), some (vI c), some (vI e)], [vR 100], mW (sS (sS (sS P 2 ((P.1 2) + 1)) 1 0) 0 0) (sS ρ 0 0))) rfl ?_
                        refine hR.cv [] kX6_156 rfl rfl ⟨_, _, _, rfl, rfl, rfl⟩ (by first | decide | exact Nat.le_refl _) (by decide) (Nat.le_of_ble_eq_true rfl) rfl (sr_looksT (sS (sS (sS P 2 ((P.1 2) + 1)) 1 0) 0 0) _ (hLP.pl (by omega) (by omega))) ?_
                        show G (177, [some (vR 100), some (vI c), some (vI e)], [], mW (lkS (sS (sS (sS P 2 ((P.1 2) + 1)) 1 0) 0 0)) (rlK (P.2.1 3) (sS ρ 0 0)))
                        rw [show lkS (sS (sS (sS P 2 ((P.1 2) + 1)) 1 0) 0 0) = xPlS τ c e from by rw [hxp]; exact pl_eq (τ := P) rfl hP0 hP2 (by (repeat' split) <;> omega) (by (repeat' split) <;> omega)]
                        generalize hY : xPlS τ c e = Y
                        show G (177, [some (vR 100), some (vI c), some (vI e)], [], mW Y (rlK (P.2.1 3) (sS ρ 0 0)))
                        refine hR.run0 2 (S' := (181, [some (vR 100), some (vI c), some (vI e)], [vI (Y.1 1)], mW Y (rlK (P.2.1 3) (sS ρ 0 0)))) rfl ?_
                        subst hY
                        subst hPP
                        have hx : xPlace τ c e = (0, (xPlS τ c e).1 1, xPlS τ c e) := by unfold xPlace; rw [if_neg (by omega), if_neg (fun h9 => h9 ⟨by omega, by assumption, by assumption, by omega⟩)]
                        have hkx : rPlace τ ρ c e = rlK ((pgS τ c e).2.1 3) (sS ρ 0 0) := by unfold rPlace; rw [hx]; exact if_pos rfl
                        exact hR.rt rfl trivial (by rw [hx]) (by rw [hx, hkx])
                      · skip
                        refine hR.run0 3 (S' := (173, [some (vR 100), some (vI c), some (vI e)], [], pset (mW (sS (sS P 2 ((P.1 2) + 1)) 1 0) (sS ρ 0 0)) 100 (.inr (6, [vR 101, vR 102, vI ((sS (sS P 2 ((P.1 2) + 1)) 1 0).1 5), vR 103, vR 104, vR 105, vR 106, vI 1, vI ((sS (sS P 2 ((P.1 2) + 1)) 1 0).1 1), vI ((sS (sS P 2 ((P.1 2) + 1)) 1 0).1 2), vI ((sS (sS P 2 ((P.1 2) + 1)) 1 0).1 3), vR 107, vR 108, vI ((sS (sS P 2 ((P.1 2) + 1)) 1 0).1 6), vI ((sS (sS P 2 ((P.1 2) + 1)) 1 0).1 7), vR 109, vI ((sS (sS P 2 ((P.1 2) + 1)) 1 0).1 8), vI ((sS (sS P 2 ((P.1 2) + 1)) 1 0).1 4), vI ((sS (sS P 2 ((P.1 2) + 1)) 1 0).1 9), vI ((sS (sS P 2 ((P.1 2) + 1)) 1 0).1 10), vR 110, vR 111, vR 112, vR 113, vR 114, vI ((sS ρ 0 0).1 0)])))) rfl ?_
                        rw [mW_s0]
                        refine hR.run0 1 (S' := (174, [some (vR 100), some (vI c), some (vI e)], [vR 100], mW (sS (sS (sS P 2 ((P.1 2) + 1)) 1 0) 0 1) (sS ρ 0 0))) rfl ?_
                        refine hR.cv [] kX6_156 rfl rfl ⟨_, _, _, rfl, rfl, rfl⟩ (by first | decide | exact Nat.le_refl _) (by decide) (Nat.le_of_ble_eq_true rfl) rfl (sr_looksT (sS (sS (sS P 2 ((P.1 2) + 1)) 1 0) 0 1) _ (hLP.pl (by omega) (by omega))) ?_
                        show G (177, [some (vR 100), some (vI c), some (vI e)], [], mW (lkS (sS (sS (sS P 2 ((P.1 2) + 1)) 1 0) 0 1)) (rlK (P.2.1 3) (sS ρ 0 0)))
                        rw [show lkS (sS (sS (sS P 2 ((P.1 2) + 1)) 1 0) 0 1) = xPlS τ c e from by rw [hxp]; exact pl_eq (τ := P) rfl hP0 hP2 (by (repeat' split) <;> omega) (by (repeat' split) <;> omega)]
                        generalize hY : xPlS τ c e = Y
                        show G (177, [some (vR 100), some (vI c), some (vI e)], [], mW Y (rlK (P.2.1 3) (sS ρ 0 0)))
                        refine hR.run0 2 (S' := (181, [some (vR 100), some (vI c), some (vI e)], [vI (Y.1 1)], mW Y (rlK (P.2.1 3) (sS ρ 0 0)))) rfl ?_
                        subst hY
                        subst hPP
                        have hx : xPlace τ c e = (0, (xPlS τ c e).1 1, xPlS τ c e) := by unfold xPlace; rw [if_neg (by omega), if_neg (fun h9 => h9 ⟨by omega, by assumption, by assumption, by omega⟩)]
                        have hkx : rPlace τ ρ c e = rlK ((pgS τ c e).2.1 3) (sS ρ 0 0) := by unfold rPlace; rw [hx]; exact if_pos rfl
                        exact hR.rt rfl trivial (by rw [hx]) (by rw [hx, hkx])
                    · skip
                      refine hR.run0 6 (S' := (155, [some (vR 100), some (vI c), some (vI e)], [], pset (mW (sS P 2 ((P.1 2) + 1)) (sS ρ 0 0)) 100 (.inr (6, [vR 101, vR 102, vI ((sS P 2 ((P.1 2) + 1)).1 5), vR 103, vR 104, vR 105, vR 106, vI ((sS P 2 ((P.1 2) + 1)).1 0), vI (5 - ((P.1 2) + 1)), vI ((sS P 2 ((P.1 2) + 1)).1 2), vI ((sS P 2 ((P.1 2) + 1)).1 3), vR 107, vR 108, vI ((sS P 2 ((P.1 2) + 1)).1 6), vI ((sS P 2 ((P.1 2) + 1)).1 7), vR 109, vI ((sS P 2 ((P.1 2) + 1)).1 8), vI ((sS P 2 ((P.1 2) + 1)).1 4), vI ((sS P 2 ((P.1 2) + 1)).1 9), vI ((sS P 2 ((P.1 2) + 1)).1 10), vR 110, vR 111, vR 112, vR 113, vR 114, vI ((sS ρ 0 0).1 0)])))) rfl ?_
                      rw [mW_s1]
                      refine hR.run0 4 (S' := (162, [some (vR 100), some (vI c), some (vI e)], [vI 6, vI ((P.1 2) + 1), vR 100], mW (sS (sS P 2 ((P.1 2) + 1)) 1 (5 - ((P.1 2) + 1))) (sS ρ 0 0))) rfl ?_
                      refine hR.br (C := (P.1 2) + 1 ≠ 6) rfl (by first | omega | (dsimp only [plus1]; omega) | (simp [plus1, sHt, sH, sS, sAt, sA, sup]; done) | (simp [plus1, sHt, sH, sS, sAt, sA, sup]; omega)) (fun c14 => ?_) (fun c14 => ?_)
                      · skip
                        refine hR.run0 2 (S' := (173, [some (vR 100), some (vI c), some (vI e)], [], pset (mW (sS (sS P 2 ((P.1 2) + 1)) 1 (5 - ((P.1 2) + 1))) (sS ρ 0 0)) 100 (.inr (6, [vR 101, vR 102, vI ((sS (sS P 2 ((P.1 2) + 1)) 1 (5 - ((P.1 2) + 1))).1 5), vR 103, vR 104, vR 105, vR 106, vI 0, vI ((sS (sS P 2 ((P.1 2) + 1)) 1 (5 - ((P.1 2) + 1))).1 1), vI ((sS (sS P 2 ((P.1 2) + 1)) 1 (5 - ((P.1 2) + 1))).1 2), vI ((sS (sS P 2 ((P.1 2) + 1)) 1 (5 - ((P.1 2) + 1))).1 3), vR 107, vR 108, vI ((sS (sS P 2 ((P.1 2) + 1)) 1 (5 - ((P.1 2) + 1))).1 6), vI ((sS (sS P 2 ((P.1 2) + 1)) 1 (5 - ((P.1 2) + 1))).1 7), vR 109, vI ((sS (sS P 2 ((P.1 2) + 1)) 1 (5 - ((P.1 2) + 1))).1 8), vI ((sS (sS P 2 ((P.1 2) + 1)) 1 (5 - ((P.1 2) + 1))).1 4), vI ((sS (sS P 2 ((P.1 2) + 1)) 1 (5 - ((P.1 2) + 1))).1 9), vI ((sS (sS P 2 ((P.1 2) + 1)) 1 (5 - ((P.1 2) + 1))).1 10), vR 110, vR 111, vR 112, vR 113, vR 114, vI ((sS ρ 0 0).1 0)])))) rfl ?_
                        rw [mW_s0]
                        refine hR.run0 1 (S' := (174, [some (vR 100), some (vI c), some (vI e)], [vR 100], mW (sS (sS (sS P 2 ((P.1 2) + 1)) 1 (5 - ((P.1 2) + 1))) 0 0) (sS ρ 0 0))) rfl ?_
                        refine hR.cv [] kX6_156 rfl rfl ⟨_, _, _, rfl, rfl, rfl⟩ (by first | decide | exact Nat.le_refl _) (by decide) (Nat.le_of_ble_eq_true rfl) rfl (sr_looksT (sS (sS (sS P 2 ((P.1 2) + 1)) 1 (5 - ((P.1 2) + 1))) 0 0) _ (hLP.pl (by omega) (by omega))) ?_
                        show G (177, [some (vR 100), some (vI c), some (vI e)], [], mW (lkS (sS (sS (sS P 2 ((P.1 2) + 1)) 1 (5 - ((P.1 2) + 1))) 0 0)) (rlK (P.2.1 3) (sS ρ 0 0)))
                        rw [show lkS (sS (sS (sS P 2 ((P.1 2) + 1)) 1 (5 - ((P.1 2) + 1))) 0 0) = xPlS τ c e from by rw [hxp]; exact pl_eq (τ := P) rfl hP0 hP2 (by (repeat' split) <;> omega) (by (repeat' split) <;> omega)]
                        generalize hY : xPlS τ c e = Y
                        show G (177, [some (vR 100), some (vI c), some (vI e)], [], mW Y (rlK (P.2.1 3) (sS ρ 0 0)))
                        refine hR.run0 2 (S' := (181, [some (vR 100), some (vI c), some (vI e)], [vI (Y.1 1)], mW Y (rlK (P.2.1 3) (sS ρ 0 0)))) rfl ?_
                        subst hY
                        subst hPP
                        have hx : xPlace τ c e = (0, (xPlS τ c e).1 1, xPlS τ c e) := by unfold xPlace; rw [if_neg (by omega), if_neg (fun h9 => h9 ⟨by omega, by assumption, by assumption, by omega⟩)]
                        have hkx : rPlace τ ρ c e = rlK ((pgS τ c e).2.1 3) (sS ρ 0 0) := by unfold rPlace; rw [hx]; exact if_pos rfl
                        exact hR.rt rfl trivial (by rw [hx]) (by rw [hx, hkx])
                      · exfalso; omega
                  · skip
                    refine hR.run0 4 (S' := (155, [some (vR 100), some (vI c), some (vI e)], [], pset (mW (sS P 2 ((P.1 2) + 1)) (sS ρ 0 0)) 100 (.inr (6, [vR 101, vR 102, vI ((sS P 2 ((P.1 2) + 1)).1 5), vR 103, vR 104, vR 105, vR 106, vI ((sS P 2 ((P.1 2) + 1)).1 0), vI ((P.1 2) + 1), vI ((sS P 2 ((P.1 2) + 1)).1 2), vI ((sS P 2 ((P.1 2) + 1)).1 3), vR 107, vR 108, vI ((sS P 2 ((P.1 2) + 1)).1 6), vI ((sS P 2 ((P.1 2) + 1)).1 7), vR 109, vI ((sS P 2 ((P.1 2) + 1)).1 8), vI ((sS P 2 ((P.1 2) + 1)).1 4), vI ((sS P 2 ((P.1 2) + 1)).1 9), vI ((sS P 2 ((P.1 2) + 1)).1 10), vR 110, vR 111, vR 112, vR 113, vR 114, vI ((sS ρ 0 0).1 0)])))) rfl ?_
                    rw [mW_s1]
                    refine hR.run0 4 (S' := (162, [some (vR 100), some (vI c), some (vI e)], [vI 6, vI ((P.1 2) + 1), vR 100], mW (sS (sS P 2 ((P.1 2) + 1)) 1 ((P.1 2) + 1)) (sS ρ 0 0))) rfl ?_
                    refine hR.br (C := (P.1 2) + 1 ≠ 6) rfl (by first | omega | (dsimp only [plus1]; omega) | (simp [plus1, sHt, sH, sS, sAt, sA, sup]; done) | (simp [plus1, sHt, sH, sS, sAt, sA, sup]; omega)) (fun c15 => ?_) (fun c15 => ?_)
                    · skip
                      refine hR.run0 2 (S' := (173, [some (vR 100), some (vI c), some (vI e)], [], pset (mW (sS (sS P 2 ((P.1 2) + 1)) 1 ((P.1 2) + 1)) (sS ρ 0 0)) 100 (.inr (6, [vR 101, vR 102, vI ((sS (sS P 2 ((P.1 2) + 1)) 1 ((P.1 2) + 1)).1 5), vR 103, vR 104, vR 105, vR 106, vI 0, vI ((sS (sS P 2 ((P.1 2) + 1)) 1 ((P.1 2) + 1)).1 1), vI ((sS (sS P 2 ((P.1 2) + 1)) 1 ((P.1 2) + 1)).1 2), vI ((sS (sS P 2 ((P.1 2) + 1)) 1 ((P.1 2) + 1)).1 3), vR 107, vR 108, vI ((sS (sS P 2 ((P.1 2) + 1)) 1 ((P.1 2) + 1)).1 6), vI ((sS (sS P 2 ((P.1 2) + 1)) 1 ((P.1 2) + 1)).1 7), vR 109, vI ((sS (sS P 2 ((P.1 2) + 1)) 1 ((P.1 2) + 1)).1 8), vI ((sS (sS P 2 ((P.1 2) + 1)) 1 ((P.1 2) + 1)).1 4), vI ((sS (sS P 2 ((P.1 2) + 1)) 1 ((P.1 2) + 1)).1 9), vI ((sS (sS P 2 ((P.1 2) + 1)) 1 ((P.1 2) + 1)).1 10), vR 110, vR 111, vR 112, vR 113, vR 114, vI ((sS ρ 0 0).1 0)])))) rfl ?_
                      rw [mW_s0]
                      refine hR.run0 1 (S' := (174, [some (vR 100), some (vI c), some (vI e)], [vR 100], mW (sS (sS (sS P 2 ((P.1 2) + 1)) 1 ((P.1 2) + 1)) 0 0) (sS ρ 0 0))) rfl ?_
                      refine hR.cv [] kX6_156 rfl rfl ⟨_, _, _, rfl, rfl, rfl⟩ (by first | decide | exact Nat.le_refl _) (by decide) (Nat.le_of_ble_eq_true rfl) rfl (sr_looksT (sS (sS (sS P 2 ((P.1 2) + 1)) 1 ((P.1 2) + 1)) 0 0) _ (hLP.pl (by omega) (by omega))) ?_
                      show G (177, [some (vR 100), some (vI c), some (vI e)], [], mW (lkS (sS (sS (sS P 2 ((P.1 2) + 1)) 1 ((P.1 2) + 1)) 0 0)) (rlK (P.2.1 3) (sS ρ 0 0)))
                      rw [show lkS (sS (sS (sS P 2 ((P.1 2) + 1)) 1 ((P.1 2) + 1)) 0 0) = xPlS τ c e from by rw [hxp]; exact pl_eq (τ := P) rfl hP0 hP2 (by (repeat' split) <;> omega) (by (repeat' split) <;> omega)]
                      generalize hY : xPlS τ c e = Y
                      show G (177, [some (vR 100), some (vI c), some (vI e)], [], mW Y (rlK (P.2.1 3) (sS ρ 0 0)))
                      refine hR.run0 2 (S' := (181, [some (vR 100), some (vI c), some (vI e)], [vI (Y.1 1)], mW Y (rlK (P.2.1 3) (sS ρ 0 0)))) rfl ?_
                      subst hY
                      subst hPP
                      have hx : xPlace τ c e = (0, (xPlS τ c e).1 1, xPlS τ c e) := by unfold xPlace; rw [if_neg (by omega), if_neg (fun h9 => h9 ⟨by omega, by assumption, by assumption, by omega⟩)]
                      have hkx : rPlace τ ρ c e = rlK ((pgS τ c e).2.1 3) (sS ρ 0 0) := by unfold rPlace; rw [hx]; exact if_pos rfl
                      exact hR.rt rfl trivial (by rw [hx]) (by rw [hx, hkx])
                    · exfalso; omega
                · skip
                  refine hR.run0 4 (S' := (104, [some (vR 100), some (vI c), some (vI e)], [vI c, vI (τ.1 1), vR 100], mW (sAt (sAt τ 2 c (τ.1 1)) 3 e (τ.1 1)) (sS ρ 0 0))) rfl ?_
                  refine hR.cv [vI (τ.1 1), vI c] kX6_152 rfl rfl ⟨_, _, _, rfl, rfl, rfl⟩ (by first | decide | exact Nat.le_refl _) (by decide) (Nat.le_of_ble_eq_true rfl) rfl (sr_yieldsFirst (plS τ c e) _ htu (by omega) hg hI.hH) ?_
                  show G (107, [some (vR 100), some (vI c), some (vI e)], [], mW (gnN (τ.1 1) c (plS τ c e) 7) (sS ρ 0 0))
                  have hpp := hI.hpp (by omega)
                  rw [show gnN (τ.1 1) c (plS τ c e) 7 = pgS τ c e from (if_pos (by omega)).symm]
                  have hp1 := pgS_1 τ c e
                  have hLP : Lh (pgS τ c e) := pgS_Lh hI (by omega) (by omega) (by omega)
                  have hxp : xPlS τ c e = gopS (sS (lkS (pgS τ c e)) 2 ((pgS τ c e).1 2 + 1)) := by unfold xPlS; rw [hp1]
                  have hP0 : (pgS τ c e).1 0 = 0 := by rw [hp1]; omega
                  have hP2 : 0 ≤ (pgS τ c e).1 2 ∧ (pgS τ c e).1 2 < 6 := by rw [hp1]; omega
                  generalize hPP : pgS τ c e = P at hp1 hLP hxp hP0 hP2 ⊢
                  show G (107, [some (vR 100), some (vI c), some (vI e)], [], mW P (sS ρ 0 0))
                  refine hR.run0 6 (S' := (117, [some (vR 100), some (vI c), some (vI e)], [], pset (mW P (sS ρ 0 0)) 100 (.inr (6, [vR 101, vR 102, vI (P.1 5), vR 103, vR 104, vR 105, vR 106, vI (P.1 0), vI (P.1 1), vI ((P.1 2) + 1), vI (P.1 3), vR 107, vR 108, vI (P.1 6), vI (P.1 7), vR 109, vI (P.1 8), vI (P.1 4), vI (P.1 9), vI (P.1 10), vR 110, vR 111, vR 112, vR 113, vR 114, vI ((sS ρ 0 0).1 0)])))) rfl ?_
                  rw [mW_s2]
                  refine hR.run0 4 (S' := (123, [some (vR 100), some (vI c), some (vI e)], [vI 3, vI ((P.1 2) + 1), vR 100], mW (sS P 2 ((P.1 2) + 1)) (sS ρ 0 0))) rfl ?_
                  refine hR.br (C := 3 ≤ (P.1 2) + 1) rfl (by first | omega | (dsimp only [plus1]; omega) | (simp [plus1, sHt, sH, sS, sAt, sA, sup]; done) | (simp [plus1, sHt, sH, sS, sAt, sA, sup]; omega)) (fun c16 => ?_) (fun c16 => ?_)
                  · skip
                    refine hR.run0 3 (S' := (139, [some (vR 100), some (vI c), some (vI e)], [vI 6, vI ((P.1 2) + 1), vR 100], mW (sS P 2 ((P.1 2) + 1)) (sS ρ 0 0))) rfl ?_
                    refine hR.br (C := 6 ≤ (P.1 2) + 1) rfl (by first | omega | (dsimp only [plus1]; omega) | (simp [plus1, sHt, sH, sS, sAt, sA, sup]; done) | (simp [plus1, sHt, sH, sS, sAt, sA, sup]; omega)) (fun c17 => ?_) (fun c17 => ?_)
                    · skip
                      refine hR.run0 2 (S' := (155, [some (vR 100), some (vI c), some (vI e)], [], pset (mW (sS P 2 ((P.1 2) + 1)) (sS ρ 0 0)) 100 (.inr (6, [vR 101, vR 102, vI ((sS P 2 ((P.1 2) + 1)).1 5), vR 103, vR 104, vR 105, vR 106, vI ((sS P 2 ((P.1 2) + 1)).1 0), vI 0, vI ((sS P 2 ((P.1 2) + 1)).1 2), vI ((sS P 2 ((P.1 2) + 1)).1 3), vR 107, vR 108, vI ((sS P 2 ((P.1 2) + 1)).1 6), vI ((sS P 2 ((P.1 2) + 1)).1 7), vR 109, vI ((sS P 2 ((P.1 2) + 1)).1 8), vI ((sS P 2 ((P.1 2) + 1)).1 4), vI ((sS P 2 ((P.1 2) + 1)).1 9), vI ((sS P 2 ((P.1 2) + 1)).1 10), vR 110, vR 111, vR 112, vR 113, vR 114, vI ((sS ρ 0 0).1 0)])))) rfl ?_
                      rw [mW_s1]
                      refine hR.run0 4 (S' := (162, [some (vR 100), some (vI c), some (vI e)], [vI 6, vI ((P.1 2) + 1), vR 100], mW (sS (sS P 2 ((P.1 2) + 1)) 1 0) (sS ρ 0 0))) rfl ?_
                      refine hR.br (C := (P.1 2) + 1 ≠ 6) rfl (by first | omega | (dsimp only [plus1]; omega) | (simp [plus1, sHt, sH, sS, sAt, sA, sup]; done) | (simp [plus1, sHt, sH, sS, sAt, sA, sup]; omega)) (fun c18 => ?_) (fun c18 => ?_)
                      · skip
                        refine hR.run0 2 (S' := (173, [some (vR 100), some (vI c), some (vI e)], [], pset (mW (sS (sS P 2 ((P.1 2) + 1)) 1 0) (sS ρ 0 0)) 100 (.inr (6, [vR 101, vR 102, vI ((sS (sS P 2 ((P.1 2) + 1)) 1 0).1 5), vR 103, vR 104, vR 105, vR 106, vI 0, vI ((sS (sS P 2 ((P.1 2) + 1)) 1 0).1 1), vI ((sS (sS P 2 ((P.1 2) + 1)) 1 0).1 2), vI ((sS (sS P 2 ((P.1 2) + 1)) 1 0).1 3), vR 107, vR 108, vI ((sS (sS P 2 ((P.1 2) + 1)) 1 0).1 6), vI ((sS (sS P 2 ((P.1 2) + 1)) 1 0).1 7), vR 109, vI ((sS (sS P 2 ((P.1 2) + 1)) 1 0).1 8), vI ((sS (sS P 2 ((P.1 2) + 1)) 1 0).1 4), vI ((sS (sS P 2 ((P.1 2) + 1)) 1 0).1 9), vI ((sS (sS P 2 ((P.1 2) + 1)) 1 0).1 10), vR 110, vR 111, vR 112, vR 113, vR 114, vI ((sS ρ 0 0).1 0)])))) rfl ?_
                        rw [mW_s0]
                        refine hR.run0 1 (S' := (174, [some (vR 100), some (vI c), some (vI e)], [vR 100], mW (sS (sS (sS P 2 ((P.1 2) + 1)) 1 0) 0 0) (sS ρ 0 0))) rfl ?_
                        refine hR.cv [] kX6_156 rfl rfl ⟨_, _, _, rfl, rfl, rfl⟩ (by first | decide | exact Nat.le_refl _) (by decide) (Nat.le_of_ble_eq_true rfl) rfl (sr_looksT (sS (sS (sS P 2 ((P.1 2) + 1)) 1 0) 0 0) _ (hLP.pl (by omega) (by omega))) ?_
                        show G (177, [some (vR 100), some (vI c), some (vI e)], [], mW (lkS (sS (sS (sS P 2 ((P.1 2) + 1)) 1 0) 0 0)) (rlK (P.2.1 3) (sS ρ 0 0)))
                        rw [show lkS (sS (sS (sS P 2 ((P.1 2) + 1)) 1 0) 0 0) = xPlS τ c e from by rw [hxp]; exact pl_eq (τ := P) rfl hP0 hP2 (by (repeat' split) <;> omega) (by (repeat' split) <;> omega)]
                        generalize hY : xPlS τ c e = Y
                        show G (177, [some (vR 100), some (vI c), some (vI e)], [], mW Y (rlK (P.2.1 3) (sS ρ 0 0)))
                        refine hR.run0 2 (S' := (181, [some (vR 100), some (vI c), some (vI e)], [vI (Y.1 1)], mW Y (rlK (P.2.1 3) (sS ρ 0 0)))) rfl ?_
                        subst hY
                        subst hPP
                        have hx : xPlace τ c e = (0, (xPlS τ c e).1 1, xPlS τ c e) := by unfold xPlace; rw [if_neg (by omega), if_neg (fun h9 => h9 ⟨by omega, by assumption, by assumption, by omega⟩)]
                        have hkx : rPlace τ ρ c e = rlK ((pgS τ c e).2.1 3) (sS ρ 0 0) := by unfold rPlace; rw [hx]; exact if_pos rfl
                        exact hR.rt rfl trivial (by rw [hx]) (by rw [hx, hkx])
                      · skip
                        refine hR.run0 3 (S' := (173, [some (vR 100), some (vI c), some (vI e)], [], pset (mW (sS (sS P 2 ((P.1 2) + 1)) 1 0) (sS ρ 0 0)) 100 (.inr (6, [vR 101, vR 102, vI ((sS (sS P 2 ((P.1 2) + 1)) 1 0).1 5), vR 103, vR 104, vR 105, vR 106, vI 1, vI ((sS (sS P 2 ((P.1 2) + 1)) 1 0).1 1), vI ((sS (sS P 2 ((P.1 2) + 1)) 1 0).1 2), vI ((sS (sS P 2 ((P.1 2) + 1)) 1 0).1 3), vR 107, vR 108, vI ((sS (sS P 2 ((P.1 2) + 1)) 1 0).1 6), vI ((sS (sS P 2 ((P.1 2) + 1)) 1 0).1 7), vR 109, vI ((sS (sS P 2 ((P.1 2) + 1)) 1 0).1 8), vI ((sS (sS P 2 ((P.1 2) + 1)) 1 0).1 4), vI ((sS (sS P 2 ((P.1 2) + 1)) 1 0).1 9), vI ((sS (sS P 2 ((P.1 2) + 1)) 1 0).1 10), vR 110, vR 111, vR 112, vR 113, vR 114, vI ((sS ρ 0 0).1 0)])))) rfl ?_
                        rw [mW_s0]
                        refine hR.run0 1 (S' := (174, [some (vR 100), some (vI c), some (vI e)], [vR 100], mW (sS (sS (sS P 2 ((P.1 2) + 1)) 1 0) 0 1) (sS ρ 0 0))) rfl ?_
                        refine hR.cv [] kX6_156 rfl rfl ⟨_, _, _, rfl, rfl, rfl⟩ (by first | decide | exact Nat.le_refl _) (by decide) (Nat.le_of_ble_eq_true rfl) rfl (sr_looksT (sS (sS (sS P 2 ((P.1 2) + 1)) 1 0) 0 1) _ (hLP.pl (by omega) (by omega))) ?_
                        show G (177, [some (vR 100), some (vI c), some (vI e)], [], mW (lkS (sS (sS (sS P 2 ((P.1 2) + 1)) 1 0) 0 1)) (rlK (P.2.1 3) (sS ρ 0 0)))
                        rw [show lkS (sS (sS (sS P 2 ((P.1 2) + 1)) 1 0) 0 1) = xPlS τ c e from by rw [hxp]; exact pl_eq (τ := P) rfl hP0 hP2 (by (repeat' split) <;> omega) (by (repeat' split) <;> omega)]
                        generalize hY : xPlS τ c e = Y
                        show G (177, [some (vR 100), some (vI c), some (vI e)], [], mW Y (rlK (P.2.1 3) (sS ρ 0 0)))
                        refine hR.run0 2 (S' := (181, [some (vR 100), some (vI c), some (vI e)], [vI (Y.1 1)], mW Y (rlK (P.2.1 3) (sS ρ 0 0)))) rfl ?_
                        subst hY
                        subst hPP
                        have hx : xPlace τ c e = (0, (xPlS τ c e).1 1, xPlS τ c e) := by unfold xPlace; rw [if_neg (by omega), if_neg (fun h9 => h9 ⟨by omega, by assumption, by assumption, by omega⟩)]
                        have hkx : rPlace τ ρ c e = rlK ((pgS τ c e).2.1 3) (sS ρ 0 0) := by unfold rPlace; rw [hx]; exact if_pos rfl
                        exact hR.rt rfl trivial (by rw [hx]) (by rw [hx, hkx])
                    · skip
                      refine hR.run0 6 (S' := (155, [some (vR 100), some (vI c), some (vI e)], [], pset (mW (sS P 2 ((P.1 2) + 1)) (sS ρ 0 0)) 100 (.inr (6, [vR 101, vR 102, vI ((sS P 2 ((P.1 2) + 1)).1 5), vR 103, vR 104, vR 105, vR 106, vI ((sS P 2 ((P.1 2) + 1)).1 0), vI (5 - ((P.1 2) + 1)), vI ((sS P 2 ((P.1 2) + 1)).1 2), vI ((sS P 2 ((P.1 2) + 1)).1 3), vR 107, vR 108, vI ((sS P 2 ((P.1 2) + 1)).1 6), vI ((sS P 2 ((P.1 2) + 1)).1 7), vR 109, vI ((sS P 2 ((P.1 2) + 1)).1 8), vI ((sS P 2 ((P.1 2) + 1)).1 4), vI ((sS P 2 ((P.1 2) + 1)).1 9), vI ((sS P 2 ((P.1 2) + 1)).1 10), vR 110, vR 111, vR 112, vR 113, vR 114, vI ((sS ρ 0 0).1 0)])))) rfl ?_
                      rw [mW_s1]
                      refine hR.run0 4 (S' := (162, [some (vR 100), some (vI c), some (vI e)], [vI 6, vI ((P.1 2) + 1), vR 100], mW (sS (sS P 2 ((P.1 2) + 1)) 1 (5 - ((P.1 2) + 1))) (sS ρ 0 0))) rfl ?_
                      refine hR.br (C := (P.1 2) + 1 ≠ 6) rfl (by first | omega | (dsimp only [plus1]; omega) | (simp [plus1, sHt, sH, sS, sAt, sA, sup]; done) | (simp [plus1, sHt, sH, sS, sAt, sA, sup]; omega)) (fun c19 => ?_) (fun c19 => ?_)
                      · skip
                        refine hR.run0 2 (S' := (173, [some (vR 100), some (vI c), some (vI e)], [], pset (mW (sS (sS P 2 ((P.1 2) + 1)) 1 (5 - ((P.1 2) + 1))) (sS ρ 0 0)) 100 (.inr (6, [vR 101, vR 102, vI ((sS (sS P 2 ((P.1 2) + 1)) 1 (5 - ((P.1 2) + 1))).1 5), vR 103, vR 104, vR 105, vR 106, vI 0, vI ((sS (sS P 2 ((P.1 2) + 1)) 1 (5 - ((P.1 2) + 1))).1 1), vI ((sS (sS P 2 ((P.1 2) + 1)) 1 (5 - ((P.1 2) + 1))).1 2), vI ((sS (sS P 2 ((P.1 2) + 1)) 1 (5 - ((P.1 2) + 1))).1 3), vR 107, vR 108, vI ((sS (sS P 2 ((P.1 2) + 1)) 1 (5 - ((P.1 2) + 1))).1 6), vI ((sS (sS P 2 ((P.1 2) + 1)) 1 (5 - ((P.1 2) + 1))).1 7), vR 109, vI ((sS (sS P 2 ((P.1 2) + 1)) 1 (5 - ((P.1 2) + 1))).1 8), vI ((sS (sS P 2 ((P.1 2) + 1)) 1 (5 - ((P.1 2) + 1))).1 4), vI ((sS (sS P 2 ((P.1 2) + 1)) 1 (5 - ((P.1 2) + 1))).1 9), vI ((sS (sS P 2 ((P.1 2) + 1)) 1 (5 - ((P.1 2) + 1))).1 10), vR 110, vR 111, vR 112, vR 113, vR 114, vI ((sS ρ 0 0).1 0)])))) rfl ?_
                        rw [mW_s0]
                        refine hR.run0 1 (S' := (174, [some (vR 100), some (vI c), some (vI e)], [vR 100], mW (sS (sS (sS P 2 ((P.1 2) + 1)) 1 (5 - ((P.1 2) + 1))) 0 0) (sS ρ 0 0))) rfl ?_
                        refine hR.cv [] kX6_156 rfl rfl ⟨_, _, _, rfl, rfl, rfl⟩ (by first | decide | exact Nat.le_refl _) (by decide) (Nat.le_of_ble_eq_true rfl) rfl (sr_looksT (sS (sS (sS P 2 ((P.1 2) + 1)) 1 (5 - ((P.1 2) + 1))) 0 0) _ (hLP.pl (by omega) (by omega))) ?_
                        show G (177, [some (vR 100), some (vI c), some (vI e)], [], mW (lkS (sS (sS (sS P 2 ((P.1 2) + 1)) 1 (5 - ((P.1 2) + 1))) 0 0)) (rlK (P.2.1 3) (sS ρ 0 0)))
                        rw [show lkS (sS (sS (sS P 2 ((P.1 2) + 1)) 1 (5 - ((P.1 2) + 1))) 0 0) = xPlS τ c e from by rw [hxp]; exact pl_eq (τ := P) rfl hP0 hP2 (by (repeat' split) <;> omega) (by (repeat' split) <;> omega)]
                        generalize hY : xPlS τ c e = Y
                        show G (177, [some (vR 100), some (vI c), some (vI e)], [], mW Y (rlK (P.2.1 3) (sS ρ 0 0)))
                        refine hR.run0 2 (S' := (181, [some (vR 100), some (vI c), some (vI e)], [vI (Y.1 1)], mW Y (rlK (P.2.1 3) (sS ρ 0 0)))) rfl ?_
                        subst hY
                        subst hPP
                        have hx : xPlace τ c e = (0, (xPlS τ c e).1 1, xPlS τ c e) := by unfold xPlace; rw [if_neg (by omega), if_neg (fun h9 => h9 ⟨by omega, by assumption, by assumption, by omega⟩)]
                        have hkx : rPlace τ ρ c e = rlK ((pgS τ c e).2.1 3) (sS ρ 0 0) := by unfold rPlace; rw [hx]; exact if_pos rfl
                        exact hR.rt rfl trivial (by rw [hx]) (by rw [hx, hkx])
                      · exfalso; omega
                  · skip
                    refine hR.run0 4 (S' := (155, [some (vR 100), some (vI c), some (vI e)], [], pset (mW (sS P 2 ((P.1 2) + 1)) (sS ρ 0 0)) 100 (.inr (6, [vR 101, vR 102, vI ((sS P 2 ((P.1 2) + 1)).1 5), vR 103, vR 104, vR 105, vR 106, vI ((sS P 2 ((P.1 2) + 1)).1 0), vI ((P.1 2) + 1), vI ((sS P 2 ((P.1 2) + 1)).1 2), vI ((sS P 2 ((P.1 2) + 1)).1 3), vR 107, vR 108, vI ((sS P 2 ((P.1 2) + 1)).1 6), vI ((sS P 2 ((P.1 2) + 1)).1 7), vR 109, vI ((sS P 2 ((P.1 2) + 1)).1 8), vI ((sS P 2 ((P.1 2) + 1)).1 4), vI ((sS P 2 ((P.1 2) + 1)).1 9), vI ((sS P 2 ((P.1 2) + 1)).1 10), vR 110, vR 111, vR 112, vR 113, vR 114, vI ((sS ρ 0 0).1 0)])))) rfl ?_
                    rw [mW_s1]
                    refine hR.run0 4 (S' := (162, [some (vR 100), some (vI c), some (vI e)], [vI 6, vI ((P.1 2) + 1), vR 100], mW (sS (sS P 2 ((P.1 2) + 1)) 1 ((P.1 2) + 1)) (sS ρ 0 0))) rfl ?_
                    refine hR.br (C := (P.1 2) + 1 ≠ 6) rfl (by first | omega | (dsimp only [plus1]; omega) | (simp [plus1, sHt, sH, sS, sAt, sA, sup]; done) | (simp [plus1, sHt, sH, sS, sAt, sA, sup]; omega)) (fun c20 => ?_) (fun c20 => ?_)
                    · skip
                      refine hR.run0 2 (S' := (173, [some (vR 100), some (vI c), some (vI e)], [], pset (mW (sS (sS P 2 ((P.1 2) + 1)) 1 ((P.1 2) + 1)) (sS ρ 0 0)) 100 (.inr (6, [vR 101, vR 102, vI ((sS (sS P 2 ((P.1 2) + 1)) 1 ((P.1 2) + 1)).1 5), vR 103, vR 104, vR 105, vR 106, vI 0, vI ((sS (sS P 2 ((P.1 2) + 1)) 1 ((P.1 2) + 1)).1 1), vI ((sS (sS P 2 ((P.1 2) + 1)) 1 ((P.1 2) + 1)).1 2), vI ((sS (sS P 2 ((P.1 2) + 1)) 1 ((P.1 2) + 1)).1 3), vR 107, vR 108, vI ((sS (sS P 2 ((P.1 2) + 1)) 1 ((P.1 2) + 1)).1 6), vI ((sS (sS P 2 ((P.1 2) + 1)) 1 ((P.1 2) + 1)).1 7), vR 109, vI ((sS (sS P 2 ((P.1 2) + 1)) 1 ((P.1 2) + 1)).1 8), vI ((sS (sS P 2 ((P.1 2) + 1)) 1 ((P.1 2) + 1)).1 4), vI ((sS (sS P 2 ((P.1 2) + 1)) 1 ((P.1 2) + 1)).1 9), vI ((sS (sS P 2 ((P.1 2) + 1)) 1 ((P.1 2) + 1)).1 10), vR 110, vR 111, vR 112, vR 113, vR 114, vI ((sS ρ 0 0).1 0)])))) rfl ?_
                      rw [mW_s0]
                      refine hR.run0 1 (S' := (174, [some (vR 100), some (vI c), some (vI e)], [vR 100], mW (sS (sS (sS P 2 ((P.1 2) + 1)) 1 ((P.1 2) + 1)) 0 0) (sS ρ 0 0))) rfl ?_
                      refine hR.cv [] kX6_156 rfl rfl ⟨_, _, _, rfl, rfl, rfl⟩ (by first | decide | exact Nat.le_refl _) (by decide) (Nat.le_of_ble_eq_true rfl) rfl (sr_looksT (sS (sS (sS P 2 ((P.1 2) + 1)) 1 ((P.1 2) + 1)) 0 0) _ (hLP.pl (by omega) (by omega))) ?_
                      show G (177, [some (vR 100), some (vI c), some (vI e)], [], mW (lkS (sS (sS (sS P 2 ((P.1 2) + 1)) 1 ((P.1 2) + 1)) 0 0)) (rlK (P.2.1 3) (sS ρ 0 0)))
                      rw [show lkS (sS (sS (sS P 2 ((P.1 2) + 1)) 1 ((P.1 2) + 1)) 0 0) = xPlS τ c e from by rw [hxp]; exact pl_eq (τ := P) rfl hP0 hP2 (by (repeat' split) <;> omega) (by (repeat' split) <;> omega)]
                      generalize hY : xPlS τ c e = Y
                      show G (177, [some (vR 100), some (vI c), some (vI e)], [], mW Y (rlK (P.2.1 3) (sS ρ 0 0)))
                      refine hR.run0 2 (S' := (181, [some (vR 100), some (vI c), some (vI e)], [vI (Y.1 1)], mW Y (rlK (P.2.1 3) (sS ρ 0 0)))) rfl ?_
                      subst hY
                      subst hPP
                      have hx : xPlace τ c e = (0, (xPlS τ c e).1 1, xPlS τ c e) := by unfold xPlace; rw [if_neg (by omega), if_neg (fun h9 => h9 ⟨by omega, by assumption, by assumption, by omega⟩)]
                      have hkx : rPlace τ ρ c e = rlK ((pgS τ c e).2.1 3) (sS ρ 0 0) := by unfold rPlace; rw [hx]; exact if_pos rfl
                      exact hR.rt rfl trivial (by rw [hx]) (by rw [hx, hkx])
                    · exfalso; omega
              · replace c9 : (isE e c) = false := bI0 (Classical.not_not.mp c9)
                try simp only [Bool.and_eq_true, Bool.or_eq_true, Bool.and_eq_false_iff, Bool.or_eq_false_iff, decide_eq_true_eq, decide_eq_false_iff_not] at c9
                refine hR.run0 2 (S' := (62, [some (vR 100), some (vI c), some (vI e)], [vI 2, vR 100], mW τ (sS ρ 0 0))) rfl ?_
                refine hR.cv [vI 2] kX6_149 rfl rfl ⟨_, _, _, rfl, rfl, rfl⟩ (by first | decide | exact Nat.le_refl _) (by decide) (Nat.le_of_ble_eq_true rfl) rfl (sr_fails _ _ _) ?_
                show G (65, [some (vR 100), some (vI c), some (vI e)], [vI 0], mW τ (sS (sS ρ 0 0) 0 2))
                rw [sS_sS]
                show G (65, [some (vR 100), some (vI c), some (vI e)], [vI 0], mW τ (sS ρ 0 2))
                have hx : xPlace τ c e = (2, 0, τ) := by unfold xPlace; (repeat' split) <;> first | rfl | (exfalso; omega) | (exfalso; simp_all; done) | (simp_all; done) | (exfalso; simp_all; omega)
                exact hR.rt rfl trivial (by rw [hx]) (by rw [hx, show rPlace τ ρ c e = sS ρ 0 2 from (by unfold rPlace; rw [hx]; exact if_neg (show ¬ (2 : Int) = 0 by decide))])
      · exfalso; omega
