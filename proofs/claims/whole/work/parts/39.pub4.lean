theorem rkA (τ ρ : St) {ρj : St} {u : Int} (hu : -2147483648 ≤ u ∧ u ≤ 2147483647) (hI : Iv τ) {j : Nat} (hj : j < 7) {o : PO} {w2 : PW}  {G : PS → Prop} (hR : Ru mX6_reckons.1.cls lkX6 roC bX6_reckons mX6_reckons.2.2.2 1 (o) (w2) G) (kont : G (31, [some (vR 100), some (vI u), some (vI (j : Int)), some (vI 24), none, none], [], mW τ (rkI τ u (j : Int) ρj 24))) : G (31, [some (vR 100), some (vI u), some (vI (j : Int)), some (vI 0), none, none], [], mW τ ρj) := by
  have hb := hI.hb
  have hr := hI.hr
  have hg := hI.hg
  have hn := hI.hn
  have h7 := hI.h7
  have hh := hI.hh
  have hsm := hI.hsm
  have hcd := hI.hcd
  have hfr := hI.hfr
  have hkn := hI.hkn
  have hbo := hI.hbo
  have hus := hI.hus
  have hro := hI.hro
  have har := hI.har
  have hth := hI.hth
  have hph := hI.hph
  have htu := hI.htu
  have hrb := hI.hrb
  have hpl := hI.hpl
  have hdu := hI.hdu
  have hdp := hI.hdp
  have hof := hI.hof
  have how := hI.how
  have hga := hI.hga
  have hwa := hI.hwa
  have hck := hI.hck
  have hkz := hI.hkz
  have hcb := hI.hcb
  have hfb := hI.hfb
  have hnr := hI.hnr
  have hpq := hI.hpq
  have hrc := hI.hrc
  have hbc := hI.hbc
  have hcc := hI.hcc
  have hac := hI.hac
  have z7 := h7 (j : Int)
  have zg := hg (j : Int)
  have zn := hn (j : Int)
  have hL3 : ∀ k : Nat, k ≤ 24 → G (31, [some (vR 100), some (vI u), some (vI (j : Int)), some (vI ((k : Nat) : Int)), none, none], [], mW τ (rkI τ u (j : Int) ρj k)) := by
    refine back (P := fun k : Nat => G (31, [some (vR 100), some (vI u), some (vI (j : Int)), some (vI ((k : Nat) : Int)), none, none], [], mW τ (rkI τ u (j : Int) ρj k))) ?_ ?_
    · intro k hik ihk
      replace ihk : G (31, [some (vR 100), some (vI u), some (vI (j : Int)), some (vI ((k + 1 : Nat) : Int)), none, none], [], mW τ (rkI τ u (j : Int) ρj (k + 1))) := ihk
      show G (31, [some (vR 100), some (vI u), some (vI (j : Int)), some (vI (k : Int)), none, none], [], mW τ (rkI τ u (j : Int) ρj k))
      have zb := hb (k : Int)
      have zo := ownB_r zb
      have zo2 : 0 ≤ τ.2.1 2 (k : Int) → 0 ≤ ownB (τ.2.1 2 (k : Int)) := fun h => by unfold ownB; split <;> omega
      refine hR.run0 2 (S' := (34, [some (vR 100), some (vI u), some (vI (j : Int)), some (vI (k : Int)), none, none], [vI 24, vI (k : Int)], mW τ (rkI τ u (j : Int) ρj k))) rfl ?_
      refine hR.br (C := 24 ≤ (k : Int)) rfl (by first | omega | (dsimp only [plus1]; omega) | (simp [plus1, sHt, sH, sS, sAt, sA, sup]; done) | (simp [plus1, sHt, sH, sS, sAt, sA, sup]; omega)) (fun c1 => ?_) (fun c1 => ?_)
      · exfalso; omega
      have f1 := hn (j : Int)
      refine hR.run1 5 (S' := (44, [some (vR 100), some (vI u), some (vI (j : Int)), some (vI (k : Int)), none, none], [vI u, vI (τ.2.1 1 (j : Int))], mW τ (rkI τ u (j : Int) ρj k))) rfl (by first | omega | (dsimp only [plus1]; omega) | (simp [plus1, sHt, sH, sS, sAt, sA, sup]; done) | (simp [plus1, sHt, sH, sS, sAt, sA, sup]; omega)) ?_
      refine hR.br (C := τ.2.1 1 (j : Int) ≠ u) rfl (by first | omega | (dsimp only [plus1]; omega) | (simp [plus1, sHt, sH, sS, sAt, sA, sup]; done) | (simp [plus1, sHt, sH, sS, sAt, sA, sup]; omega)) (fun c2 => ?_) (fun c2 => ?_)
      · skip
        refine hR.run0 3 (S' := (87, [some (vR 100), some (vI u), some (vI (j : Int)), some (vI (k : Int)), some (vI 0), none], [vI 0], mW τ (rkI τ u (j : Int) ρj k))) rfl ?_
        refine hR.br (C := 0 = 0) rfl (by first | omega | (dsimp only [plus1]; omega) | (simp [plus1, sHt, sH, sS, sAt, sA, sup]; done) | (simp [plus1, sHt, sH, sS, sAt, sA, sup]; omega)) (fun c3 => ?_) (fun c3 => ?_)
        · skip
          refine hR.run0 2 (S' := (31, [some (vR 100), some (vI u), some (vI (j : Int)), some (vI ((k : Int) + 1)), some (vI 0), none], [], mW τ (rkI τ u (j : Int) ρj k))) rfl ?_
          refine hR.fg 4 ?_
          show G (31, [some (vR 100), some (vI u), some (vI (j : Int)), some (vI ((k : Int) + 1)), none, none], [], mW τ (rkI τ u (j : Int) ρj k))
          rw [show mW τ (rkI τ u (j : Int) ρj (k + 1)) = mW τ (rkI τ u (j : Int) ρj k) from by show mW τ (rk1 τ u (j : Int) (k : Int) (rkI τ u (j : Int) ρj k)) = _; unfold rk1; (repeat' split) <;> first | rfl | (exfalso; omega) | (exfalso; simp_all; done) | (exfalso; simp_all; omega)] at ihk
          exact ihk
        · exfalso; omega
      · skip
        refine hR.run0 2 (S' := (50, [some (vR 100), some (vI u), some (vI (j : Int)), some (vI (k : Int)), none, none], [vI 7, vI u], mW τ (rkI τ u (j : Int) ρj k))) rfl ?_
        refine hR.br (C := u = 7) rfl (by first | omega | (dsimp only [plus1]; omega) | (simp [plus1, sHt, sH, sS, sAt, sA, sup]; done) | (simp [plus1, sHt, sH, sS, sAt, sA, sup]; omega)) (fun c4 => ?_) (fun c4 => ?_)
        · skip
          refine hR.run0 3 (S' := (87, [some (vR 100), some (vI u), some (vI (j : Int)), some (vI (k : Int)), some (vI 0), none], [vI 0], mW τ (rkI τ u (j : Int) ρj k))) rfl ?_
          refine hR.br (C := 0 = 0) rfl (by first | omega | (dsimp only [plus1]; omega) | (simp [plus1, sHt, sH, sS, sAt, sA, sup]; done) | (simp [plus1, sHt, sH, sS, sAt, sA, sup]; omega)) (fun c5 => ?_) (fun c5 => ?_)
          · skip
            refine hR.run0 2 (S' := (31, [some (vR 100), some (vI u), some (vI (j : Int)), some (vI ((k : Int) + 1)), some (vI 0), none], [], mW τ (rkI τ u (j : Int) ρj k))) rfl ?_
            refine hR.fg 4 ?_
            show G (31, [some (vR 100), some (vI u), some (vI (j : Int)), some (vI ((k : Int) + 1)), none, none], [], mW τ (rkI τ u (j : Int) ρj k))
            rw [show mW τ (rkI τ u (j : Int) ρj (k + 1)) = mW τ (rkI τ u (j : Int) ρj k) from by show mW τ (rk1 τ u (j : Int) (k : Int) (rkI τ u (j : Int) ρj k)) = _; unfold rk1; (repeat' split) <;> first | rfl | (exfalso; omega) | (exfalso; simp_all; done) | (exfalso; simp_all; omega)] at ihk
            exact ihk
          · exfalso; omega
        · skip
          refine hR.run0 3 (S' := (58, [some (vR 100), some (vI u), some (vI (j : Int)), some (vI (k : Int)), none, none], [vI (τ.1 5), vI (j : Int)], mW τ (rkI τ u (j : Int) ρj k))) rfl ?_
          refine hR.br (C := (j : Int) = τ.1 5) rfl (by first | omega | (dsimp only [plus1]; omega) | (simp [plus1, sHt, sH, sS, sAt, sA, sup]; done) | (simp [plus1, sHt, sH, sS, sAt, sA, sup]; omega)) (fun c6 => ?_) (fun c6 => ?_)
          · skip
            refine hR.run0 3 (S' := (87, [some (vR 100), some (vI u), some (vI (j : Int)), some (vI (k : Int)), some (vI 0), none], [vI 0], mW τ (rkI τ u (j : Int) ρj k))) rfl ?_
            refine hR.br (C := 0 = 0) rfl (by first | omega | (dsimp only [plus1]; omega) | (simp [plus1, sHt, sH, sS, sAt, sA, sup]; done) | (simp [plus1, sHt, sH, sS, sAt, sA, sup]; omega)) (fun c7 => ?_) (fun c7 => ?_)
            · skip
              refine hR.run0 2 (S' := (31, [some (vR 100), some (vI u), some (vI (j : Int)), some (vI ((k : Int) + 1)), some (vI 0), none], [], mW τ (rkI τ u (j : Int) ρj k))) rfl ?_
              refine hR.fg 4 ?_
              show G (31, [some (vR 100), some (vI u), some (vI (j : Int)), some (vI ((k : Int) + 1)), none, none], [], mW τ (rkI τ u (j : Int) ρj k))
              rw [show mW τ (rkI τ u (j : Int) ρj (k + 1)) = mW τ (rkI τ u (j : Int) ρj k) from by show mW τ (rk1 τ u (j : Int) (k : Int) (rkI τ u (j : Int) ρj k)) = _; unfold rk1; (repeat' split) <;> first | rfl | (exfalso; omega) | (exfalso; simp_all; done) | (exfalso; simp_all; omega)] at ihk
              exact ihk
            · exfalso; omega
          · skip
            refine hR.run0 2 (S' := (63, [some (vR 100), some (vI u), some (vI (j : Int)), some (vI (k : Int)), none, none], [vI (k : Int), vI (j : Int)], mW τ (rkI τ u (j : Int) ρj k))) rfl ?_
            refine hR.cs [vI (j : Int), vI (k : Int)] kX6_137 rfl rfl (by first | decide | exact Nat.le_refl _) (by decide) (Nat.le_of_ble_eq_true rfl) rfl (sr_isOf _ _ (by omega) (by omega)) ?_
            show G (66, [some (vR 100), some (vI u), some (vI (j : Int)), some (vI (k : Int)), none, none], [vI (bI (arnd (j : Int) (k : Int)))], mW τ (rkI τ u (j : Int) ρj k))
            refine hR.br (C := bI (arnd (j : Int) (k : Int)) = 0) rfl (bI_r _) (fun c8 => ?_) (fun c8 => ?_)
            · replace c8 : (arnd (j : Int) (k : Int)) = false := bI0 c8
              try simp only [Bool.and_eq_true, Bool.or_eq_true, Bool.and_eq_false_iff, Bool.or_eq_false_iff, decide_eq_true_eq, decide_eq_false_iff_not] at c8
              refine hR.run0 3 (S' := (87, [some (vR 100), some (vI u), some (vI (j : Int)), some (vI (k : Int)), some (vI 0), none], [vI 0], mW τ (rkI τ u (j : Int) ρj k))) rfl ?_
              refine hR.br (C := 0 = 0) rfl (by first | omega | (dsimp only [plus1]; omega) | (simp [plus1, sHt, sH, sS, sAt, sA, sup]; done) | (simp [plus1, sHt, sH, sS, sAt, sA, sup]; omega)) (fun c9 => ?_) (fun c9 => ?_)
              · skip
                refine hR.run0 2 (S' := (31, [some (vR 100), some (vI u), some (vI (j : Int)), some (vI ((k : Int) + 1)), some (vI 0), none], [], mW τ (rkI τ u (j : Int) ρj k))) rfl ?_
                refine hR.fg 4 ?_
                show G (31, [some (vR 100), some (vI u), some (vI (j : Int)), some (vI ((k : Int) + 1)), none, none], [], mW τ (rkI τ u (j : Int) ρj k))
                rw [show mW τ (rkI τ u (j : Int) ρj (k + 1)) = mW τ (rkI τ u (j : Int) ρj k) from by show mW τ (rk1 τ u (j : Int) (k : Int) (rkI τ u (j : Int) ρj k)) = _; unfold rk1; (repeat' split) <;> first | rfl | (exfalso; omega) | (exfalso; simp_all; done) | (exfalso; simp_all; omega)] at ihk
                exact ihk
              · exfalso; omega
            · replace c8 : (arnd (j : Int) (k : Int)) = true := bI1 c8
              try simp only [Bool.and_eq_true, Bool.or_eq_true, Bool.and_eq_false_iff, Bool.or_eq_false_iff, decide_eq_true_eq, decide_eq_false_iff_not] at c8
              have f2 := hb (k : Int)
              refine hR.run1 4 (S' := (75, [some (vR 100), some (vI u), some (vI (j : Int)), some (vI (k : Int)), none, none], [vI (τ.2.1 2 (k : Int) + 1)], mW τ (rkI τ u (j : Int) ρj k))) rfl (by first | omega | (dsimp only [plus1]; omega) | (simp [plus1, sHt, sH, sS, sAt, sA, sup]; done) | (simp [plus1, sHt, sH, sS, sAt, sA, sup]; omega)) ?_
              refine hR.br (C := τ.2.1 2 (k : Int) + 1 ≤ 0) rfl (by first | omega | (dsimp only [plus1]; omega) | (simp [plus1, sHt, sH, sS, sAt, sA, sup]; done) | (simp [plus1, sHt, sH, sS, sAt, sA, sup]; omega)) (fun c10 => ?_) (fun c10 => ?_)
              · skip
                have ec10 : τ.2.1 2 (k : Int) = -1 := by omega
                refine hR.run0 3 (S' := (87, [some (vR 100), some (vI u), some (vI (j : Int)), some (vI (k : Int)), some (vI 0), none], [vI 0], mW τ (rkI τ u (j : Int) ρj k))) rfl ?_
                refine hR.br (C := 0 = 0) rfl (by first | omega | (dsimp only [plus1]; omega) | (simp [plus1, sHt, sH, sS, sAt, sA, sup]; done) | (simp [plus1, sHt, sH, sS, sAt, sA, sup]; omega)) (fun c11 => ?_) (fun c11 => ?_)
                · skip
                  refine hR.run0 2 (S' := (31, [some (vR 100), some (vI u), some (vI (j : Int)), some (vI ((k : Int) + 1)), some (vI 0), none], [], mW τ (rkI τ u (j : Int) ρj k))) rfl ?_
                  refine hR.fg 4 ?_
                  show G (31, [some (vR 100), some (vI u), some (vI (j : Int)), some (vI ((k : Int) + 1)), none, none], [], mW τ (rkI τ u (j : Int) ρj k))
                  rw [show mW τ (rkI τ u (j : Int) ρj (k + 1)) = mW τ (rkI τ u (j : Int) ρj k) from by show mW τ (rk1 τ u (j : Int) (k : Int) (rkI τ u (j : Int) ρj k)) = _; unfold rk1; (repeat' split) <;> first | rfl | (exfalso; omega) | (exfalso; simp_all; done) | (exfalso; simp_all; omega)] at ihk
                  exact ihk
                · exfalso; omega
              · skip
                have ec10 : τ.2.1 2 (k : Int) ≠ -1 := by omega
                refine hR.run0 4 (S' := (87, [some (vR 100), some (vI u), some (vI (j : Int)), some (vI (k : Int)), some (vI 1), none], [vI 1], mW τ (rkI τ u (j : Int) ρj k))) rfl ?_
                refine hR.br (C := 1 = 0) rfl (by first | omega | (dsimp only [plus1]; omega) | (simp [plus1, sHt, sH, sS, sAt, sA, sup]; done) | (simp [plus1, sHt, sH, sS, sAt, sA, sup]; omega)) (fun c12 => ?_) (fun c12 => ?_)
                · exfalso; omega
                refine hR.run0 5 (S' := (97, [some (vR 100), some (vI u), some (vI (j : Int)), some (vI (k : Int)), some (vI 1), none], [vI (k : Int), vR 100, vI 5, vR 114], mW τ (rkI τ u (j : Int) ρj k))) rfl ?_
                have f3 := ownB_r (hb (k : Int))
                refine hR.cv [vI (k : Int)] kX6_74 rfl rfl ⟨_, _, _, rfl, rfl, rfl⟩ (by first | decide | exact Nat.le_refl _) (by decide) (Nat.le_of_ble_eq_true rfl) rfl (sr_ownerAt _ _ (by omega) hb) ?_
                show G (100, [some (vR 100), some (vI u), some (vI (j : Int)), some (vI (k : Int)), some (vI 1), none], [vI (ownB (τ.2.1 2 (k : Int))), vI 5, vR 114], mW τ (rkI τ u (j : Int) ρj k))
                have f4 := hg (j : Int)
                refine hR.run1 10 (S' := (112, [some (vR 100), some (vI u), some (vI (j : Int)), some (vI (k : Int)), some (vI 1), none], [vI (k : Int), vR 100, vI ((rkI τ u (j : Int) ρj k).2.1 2 ((5 * (ownB (τ.2.1 2 (k : Int)))) + (τ.2.1 0 (j : Int)))), vI ((5 * (ownB (τ.2.1 2 (k : Int)))) + (τ.2.1 0 (j : Int))), vR 114], mW τ (rkI τ u (j : Int) ρj k))) rfl (by first | omega | (dsimp only [plus1]; omega) | (simp [plus1, sHt, sH, sS, sAt, sA, sup]; done) | (simp [plus1, sHt, sH, sS, sAt, sA, sup]; omega)) ?_
                refine hR.cv [vI (k : Int)] kX6_87 rfl rfl ⟨_, _, _, rfl, rfl, rfl⟩ (by first | decide | exact Nat.le_refl _) (by decide) (Nat.le_of_ble_eq_true rfl) rfl (sr_isCity _ _ (by omega) hb) ?_
                show G (115, [some (vR 100), some (vI u), some (vI (j : Int)), some (vI (k : Int)), some (vI 1), none], [vI (bI (decide (3 ≤ τ.2.1 2 (k : Int)))), vI ((rkI τ u (j : Int) ρj k).2.1 2 ((5 * (ownB (τ.2.1 2 (k : Int)))) + (τ.2.1 0 (j : Int)))), vI ((5 * (ownB (τ.2.1 2 (k : Int)))) + (τ.2.1 0 (j : Int))), vR 114], mW τ (rkI τ u (j : Int) ρj k))
                refine hR.br (C := bI (decide (3 ≤ τ.2.1 2 (k : Int))) = 0) rfl (bI_r _) (fun c13 => ?_) (fun c13 => ?_)
                · replace c13 : (decide (3 ≤ τ.2.1 2 (k : Int))) = false := bI0 c13
                  try simp only [Bool.and_eq_true, Bool.or_eq_true, Bool.and_eq_false_iff, Bool.or_eq_false_iff, decide_eq_true_eq, decide_eq_false_iff_not] at c13
                  refine hR.run1 3 (S' := (125, [some (vR 100), some (vI u), some (vI (j : Int)), some (vI (k : Int)), some (vI 1), none], [], pset (mW τ (rkI τ u (j : Int) ρj k)) 114 (.inl (15, .inl (pup ((rkI τ u (j : Int) ρj k).2.1 2) ((5 * (ownB (τ.2.1 2 (k : Int)))) + (τ.2.1 0 (j : Int))) (((rkI τ u (j : Int) ρj k).2.1 2 ((5 * (ownB (τ.2.1 2 (k : Int)))) + (τ.2.1 0 (j : Int)))) + 1)))))) rfl (by first | omega | (dsimp only [plus1]; omega) | (simp [plus1, sHt, sH, sS, sAt, sA, sup]; done) | (simp [plus1, sHt, sH, sS, sAt, sA, sup]; omega)) ?_
                  rw [mW_y2]
                  refine hR.run0 2 (S' := (31, [some (vR 100), some (vI u), some (vI (j : Int)), some (vI ((k : Int) + 1)), some (vI 1), none], [], mW τ (sAt (rkI τ u (j : Int) ρj k) 2 ((5 * (ownB (τ.2.1 2 (k : Int)))) + (τ.2.1 0 (j : Int))) (((rkI τ u (j : Int) ρj k).2.1 2 ((5 * (ownB (τ.2.1 2 (k : Int)))) + (τ.2.1 0 (j : Int)))) + 1)))) rfl ?_
                  refine hR.fg 4 ?_
                  show G (31, [some (vR 100), some (vI u), some (vI (j : Int)), some (vI ((k : Int) + 1)), none, none], [], mW τ (sAt (rkI τ u (j : Int) ρj k) 2 ((5 * (ownB (τ.2.1 2 (k : Int)))) + (τ.2.1 0 (j : Int))) (((rkI τ u (j : Int) ρj k).2.1 2 ((5 * (ownB (τ.2.1 2 (k : Int)))) + (τ.2.1 0 (j : Int)))) + 1)))
                  rw [show mW τ (rkI τ u (j : Int) ρj (k + 1)) = mW τ (sAt (rkI τ u (j : Int) ρj k) 2 ((5 * (ownB (τ.2.1 2 (k : Int)))) + (τ.2.1 0 (j : Int))) (((rkI τ u (j : Int) ρj k).2.1 2 ((5 * (ownB (τ.2.1 2 (k : Int)))) + (τ.2.1 0 (j : Int)))) + 1)) from by show mW τ (rk1 τ u (j : Int) (k : Int) (rkI τ u (j : Int) ρj k)) = _; unfold rk1; (repeat' split) <;> first | rfl | (exfalso; omega) | (exfalso; simp_all; done) | (exfalso; simp_all; omega)] at ihk
                  exact ihk
                · replace c13 : (decide (3 ≤ τ.2.1 2 (k : Int))) = true := bI1 c13
                  try simp only [Bool.and_eq_true, Bool.or_eq_true, Bool.and_eq_false_iff, Bool.or_eq_false_iff, decide_eq_true_eq, decide_eq_false_iff_not] at c13
                  refine hR.run1 4 (S' := (125, [some (vR 100), some (vI u), some (vI (j : Int)), some (vI (k : Int)), some (vI 1), none], [], pset (mW τ (rkI τ u (j : Int) ρj k)) 114 (.inl (15, .inl (pup ((rkI τ u (j : Int) ρj k).2.1 2) ((5 * (ownB (τ.2.1 2 (k : Int)))) + (τ.2.1 0 (j : Int))) (((rkI τ u (j : Int) ρj k).2.1 2 ((5 * (ownB (τ.2.1 2 (k : Int)))) + (τ.2.1 0 (j : Int)))) + 2)))))) rfl (by first | omega | (dsimp only [plus1]; omega) | (simp [plus1, sHt, sH, sS, sAt, sA, sup]; done) | (simp [plus1, sHt, sH, sS, sAt, sA, sup]; omega)) ?_
                  rw [mW_y2]
                  refine hR.run0 2 (S' := (31, [some (vR 100), some (vI u), some (vI (j : Int)), some (vI ((k : Int) + 1)), some (vI 1), none], [], mW τ (sAt (rkI τ u (j : Int) ρj k) 2 ((5 * (ownB (τ.2.1 2 (k : Int)))) + (τ.2.1 0 (j : Int))) (((rkI τ u (j : Int) ρj k).2.1 2 ((5 * (ownB (τ.2.1 2 (k : Int)))) + (τ.2.1 0 (j : Int)))) + 2)))) rfl ?_
                  refine hR.fg 4 ?_
                  show G (31, [some (vR 100), some (vI u), some (vI (j : Int)), some (vI ((k : Int) + 1)), none, none], [], mW τ (sAt (rkI τ u (j : Int) ρj k) 2 ((5 * (ownB (τ.2.1 2 (k : Int)))) + (τ.2.1 0 (j : Int))) (((rkI τ u (j : Int) ρj k).2.1 2 ((5 * (ownB (τ.2.1 2 (k : Int)))) + (τ.2.1 0 (j : Int)))) + 2)))
                  rw [show mW τ (rkI τ u (j : Int) ρj (k + 1)) = mW τ (sAt (rkI τ u (j : Int) ρj k) 2 ((5 * (ownB (τ.2.1 2 (k : Int)))) + (τ.2.1 0 (j : Int))) (((rkI τ u (j : Int) ρj k).2.1 2 ((5 * (ownB (τ.2.1 2 (k : Int)))) + (τ.2.1 0 (j : Int)))) + 2)) from by show mW τ (rk1 τ u (j : Int) (k : Int) (rkI τ u (j : Int) ρj k)) = _; unfold rk1; (repeat' split) <;> first | rfl | (exfalso; omega) | (exfalso; simp_all; done) | (exfalso; simp_all; omega)] at ihk
                  exact ihk
    · show G (31, [some (vR 100), some (vI u), some (vI (j : Int)), some (vI ((24 : Nat) : Int)), none, none], [], mW τ (rkI τ u (j : Int) ρj 24))
      show G (31, [some (vR 100), some (vI u), some (vI (j : Int)), some (vI 24), none, none], [], mW τ (rkI τ u (j : Int) ρj 24))
      exact kont
  exact hL3 0 (Nat.zero_le _)
set_option maxHeartbeats 8000000 in
theorem rkC (τ ρ : St) {ρ1 : St} {u : Int} (hI : Iv τ) (yy0 : ∀ p k : Int, (0 ≤ p ∧ p < 3) → (0 ≤ k ∧ k < 5) → ρ1.2.1 2 (5 * p + k) = yldN (τ.2.1 0) (τ.2.1 1) (τ.2.1 2) (τ.1 5) p k u 7)  {G : PS → Prop} (hR : Ru mX6_reckons.1.cls lkX6 roC bX6_reckons mX6_reckons.2.2.2 1 (.inl none) (mW τ (fxN τ ρ1 5)) G) : G (139, [some (vR 100), some (vI u), some (vI 0), none, none, none], [], mW τ ρ1) := by
  have hh := hI.hh
  have yy : ∀ (p : Int) (g : Nat), (0 ≤ p ∧ p < 3) → (0 ≤ (g : Int) ∧ (g : Int) < 5) → 0 ≤ (fxN τ ρ1 g).2.1 2 (5 * p + (g : Int)) ∧ (fxN τ ρ1 g).2.1 2 (5 * p + (g : Int)) ≤ 84 := by
    intro p g hp hg5
    rw [fxN_keep τ ρ1 hp hg5 g (Int.le_refl _), yy0 p g hp hg5]
    have := yldN_r (τ.2.1 0) (τ.2.1 1) (τ.2.1 2) (τ.1 5) p (g : Int) u 7
    omega
  have hL4 : ∀ g : Nat, g ≤ 5 → G (139, [some (vR 100), some (vI u), some (vI ((g : Nat) : Int)), none, none, none], [], mW τ (fxN τ ρ1 g)) := by
    refine back (P := fun g : Nat => G (139, [some (vR 100), some (vI u), some (vI ((g : Nat) : Int)), none, none, none], [], mW τ (fxN τ ρ1 g))) ?_ ?_
    · intro g hig ihg
      replace ihg : G (139, [some (vR 100), some (vI u), some (vI ((g + 1 : Nat) : Int)), none, none, none], [], mW τ (fxN τ ρ1 (g + 1))) := ihg
      show G (139, [some (vR 100), some (vI u), some (vI (g : Int)), none, none, none], [], mW τ (fxN τ ρ1 g))
      have ya := yy 0 g (by omega) (by omega)
      have yb := yy 1 g (by omega) (by omega)
      have yc := yy 2 g (by omega) (by omega)
      rw [show (5 : Int) * 0 + (g : Int) = (g : Int) from by omega] at ya
      rw [show (5 : Int) * 1 + (g : Int) = 5 + (g : Int) from by omega] at yb
      rw [show (5 : Int) * 2 + (g : Int) = 10 + (g : Int) from by omega] at yc
      have ya3 : (fxN τ ρ1 g).2.1 2 (0 + (g : Int)) = (fxN τ ρ1 g).2.1 2 (g : Int) := by rw [Int.zero_add]
      have zh := hh 3 (g : Int)
      refine hR.run0 2 (S' := (141, [some (vR 100), some (vI u), some (vI (g : Int)), none, none, none], [vI 5, vI (g : Int)], mW τ (fxN τ ρ1 g))) rfl ?_
      refine hR.br (C := 5 ≤ (g : Int)) rfl (by first | omega | (dsimp only [plus1]; omega) | (simp [plus1, sHt, sH, sS, sAt, sA, sup]; done) | (simp [plus1, sHt, sH, sS, sAt, sA, sup]; omega)) (fun c1 => ?_) (fun c1 => ?_)
      · exfalso; omega
      refine hR.run1 25 (S' := (179, [some (vR 100), some (vI u), some (vI (g : Int)), some (vI ((((fxN τ ρ1 g).2.1 2 (g : Int)) + ((fxN τ ρ1 g).2.1 2 (5 + (g : Int)))) + ((fxN τ ρ1 g).2.1 2 (10 + (g : Int))))), none, none], [vI (flat (τ.2.2 0) (15 + (g : Int)))], mW τ (fxN τ ρ1 g))) rfl (by first | omega | (dsimp only [plus1]; omega) | (simp [plus1, sHt, sH, sS, sAt, sA, sup]; done) | (simp [plus1, sHt, sH, sS, sAt, sA, sup]; omega)) ?_
      rw [show flat (τ.2.2 0) (15 + (g : Int)) = τ.2.2 0 3 (g : Int) from flat_at (p := 3) _ (by omega)]
      have f25 := hh 3 (g : Int)
      refine hR.run0 5 (S' := (187, [some (vR 100), some (vI u), some (vI (g : Int)), some (vI ((((fxN τ ρ1 g).2.1 2 (g : Int)) + ((fxN τ ρ1 g).2.1 2 (5 + (g : Int)))) + ((fxN τ ρ1 g).2.1 2 (10 + (g : Int))))), some (vI (τ.2.2 0 3 (g : Int))), some (vI 0)], [vI 3, vI 0], mW τ (fxN τ ρ1 g))) rfl ?_
      refine hR.br (C := 3 ≤ 0) rfl (by first | omega | (dsimp only [plus1]; omega) | (simp [plus1, sHt, sH, sS, sAt, sA, sup]; done) | (simp [plus1, sHt, sH, sS, sAt, sA, sup]; omega)) (fun c2 => ?_) (fun c2 => ?_)
      · exfalso; omega
      refine hR.run0 2 (S' := (193, [some (vR 100), some (vI u), some (vI (g : Int)), some (vI ((((fxN τ ρ1 g).2.1 2 (g : Int)) + ((fxN τ ρ1 g).2.1 2 (5 + (g : Int)))) + ((fxN τ ρ1 g).2.1 2 (10 + (g : Int))))), some (vI (τ.2.2 0 3 (g : Int))), some (vI 0)], [vI (τ.2.2 0 3 (g : Int)), vI ((((fxN τ ρ1 g).2.1 2 (g : Int)) + ((fxN τ ρ1 g).2.1 2 (5 + (g : Int)))) + ((fxN τ ρ1 g).2.1 2 (10 + (g : Int))))], mW τ (fxN τ ρ1 g))) rfl ?_
      refine hR.br (C := (((fxN τ ρ1 g).2.1 2 (g : Int)) + ((fxN τ ρ1 g).2.1 2 (5 + (g : Int)))) + ((fxN τ ρ1 g).2.1 2 (10 + (g : Int))) ≤ τ.2.2 0 3 (g : Int)) rfl (by first | omega | (dsimp only [plus1]; omega) | (simp [plus1, sHt, sH, sS, sAt, sA, sup]; done) | (simp [plus1, sHt, sH, sS, sAt, sA, sup]; omega)) (fun c3 => ?_) (fun c3 => ?_)
      · skip
        refine hR.run0 2 (S' := (139, [some (vR 100), some (vI u), some (vI ((g : Int) + 1)), some (vI ((((fxN τ ρ1 g).2.1 2 (g : Int)) + ((fxN τ ρ1 g).2.1 2 (5 + (g : Int)))) + ((fxN τ ρ1 g).2.1 2 (10 + (g : Int))))), some (vI (τ.2.2 0 3 (g : Int))), some (vI 0)], [], mW τ (fxN τ ρ1 g))) rfl ?_
        refine hR.fg 3 ?_
        show G (139, [some (vR 100), some (vI u), some (vI ((g : Int) + 1)), none, some (vI (τ.2.2 0 3 (g : Int))), some (vI 0)], [], mW τ (fxN τ ρ1 g))
        refine hR.fg 4 ?_
        show G (139, [some (vR 100), some (vI u), some (vI ((g : Int) + 1)), none, none, some (vI 0)], [], mW τ (fxN τ ρ1 g))
        refine hR.fg 5 ?_
        show G (139, [some (vR 100), some (vI u), some (vI ((g : Int) + 1)), none, none, none], [], mW τ (fxN τ ρ1 g))
        rw [show mW τ (fxN τ ρ1 (g + 1)) = mW τ (fxN τ ρ1 g) from by show mW τ (fx1 τ (g : Int) (fxN τ ρ1 g)) = _; unfold fx1; (repeat' split) <;> first | rfl | (exfalso; omega)] at ihg
        exact ihg
      · skip
        refine hR.run1 16 (S' := (218, [some (vR 100), some (vI u), some (vI (g : Int)), some (vI ((((fxN τ ρ1 g).2.1 2 (g : Int)) + ((fxN τ ρ1 g).2.1 2 (5 + (g : Int)))) + ((fxN τ ρ1 g).2.1 2 (10 + (g : Int))))), some (vI (τ.2.2 0 3 (g : Int))), some (vI 0)], [vI ((((fxN τ ρ1 g).2.1 2 (g : Int)) + ((fxN τ ρ1 g).2.1 2 (5 + (g : Int)))) + ((fxN τ ρ1 g).2.1 2 (10 + (g : Int)))), vI ((fxN τ ρ1 g).2.1 2 (0 + (g : Int))), vI (0 + (g : Int)), vR 114], mW τ (fxN τ ρ1 g))) rfl (by first | omega | (dsimp only [plus1]; omega) | (simp [plus1, sHt, sH, sS, sAt, sA, sup]; done) | (simp [plus1, sHt, sH, sS, sAt, sA, sup]; omega)) ?_
        refine hR.br (C := (fxN τ ρ1 g).2.1 2 (0 + (g : Int)) ≠ (((fxN τ ρ1 g).2.1 2 (g : Int)) + ((fxN τ ρ1 g).2.1 2 (5 + (g : Int)))) + ((fxN τ ρ1 g).2.1 2 (10 + (g : Int)))) rfl (by first | omega | (dsimp only [plus1]; omega) | (simp [plus1, sHt, sH, sS, sAt, sA, sup]; done) | (simp [plus1, sHt, sH, sS, sAt, sA, sup]; omega)) (fun c4 => ?_) (fun c4 => ?_)
        · skip
          refine hR.run1 2 (S' := (228, [some (vR 100), some (vI u), some (vI (g : Int)), some (vI ((((fxN τ ρ1 g).2.1 2 (g : Int)) + ((fxN τ ρ1 g).2.1 2 (5 + (g : Int)))) + ((fxN τ ρ1 g).2.1 2 (10 + (g : Int))))), some (vI (τ.2.2 0 3 (g : Int))), some (vI 0)], [], pset (mW τ (fxN τ ρ1 g)) 114 (.inl (15, .inl (pup ((fxN τ ρ1 g).2.1 2) (0 + (g : Int)) 0))))) rfl (by first | omega | (dsimp only [plus1]; omega) | (simp [plus1, sHt, sH, sS, sAt, sA, sup]; done) | (simp [plus1, sHt, sH, sS, sAt, sA, sup]; omega)) ?_
          rw [mW_y2]
          refine hR.run0 4 (S' := (187, [some (vR 100), some (vI u), some (vI (g : Int)), some (vI ((((fxN τ ρ1 g).2.1 2 (g : Int)) + ((fxN τ ρ1 g).2.1 2 (5 + (g : Int)))) + ((fxN τ ρ1 g).2.1 2 (10 + (g : Int))))), some (vI (τ.2.2 0 3 (g : Int))), some (vI 1)], [vI 3, vI 1], mW τ (sAt (fxN τ ρ1 g) 2 (0 + (g : Int)) 0))) rfl ?_
          refine hR.br (C := 3 ≤ 1) rfl (by first | omega | (dsimp only [plus1]; omega) | (simp [plus1, sHt, sH, sS, sAt, sA, sup]; done) | (simp [plus1, sHt, sH, sS, sAt, sA, sup]; omega)) (fun c5 => ?_) (fun c5 => ?_)
          · exfalso; omega
          refine hR.run0 2 (S' := (193, [some (vR 100), some (vI u), some (vI (g : Int)), some (vI ((((fxN τ ρ1 g).2.1 2 (g : Int)) + ((fxN τ ρ1 g).2.1 2 (5 + (g : Int)))) + ((fxN τ ρ1 g).2.1 2 (10 + (g : Int))))), some (vI (τ.2.2 0 3 (g : Int))), some (vI 1)], [vI (τ.2.2 0 3 (g : Int)), vI ((((fxN τ ρ1 g).2.1 2 (g : Int)) + ((fxN τ ρ1 g).2.1 2 (5 + (g : Int)))) + ((fxN τ ρ1 g).2.1 2 (10 + (g : Int))))], mW τ (sAt (fxN τ ρ1 g) 2 (0 + (g : Int)) 0))) rfl ?_
          refine hR.br (C := (((fxN τ ρ1 g).2.1 2 (g : Int)) + ((fxN τ ρ1 g).2.1 2 (5 + (g : Int)))) + ((fxN τ ρ1 g).2.1 2 (10 + (g : Int))) ≤ τ.2.2 0 3 (g : Int)) rfl (by first | omega | (dsimp only [plus1]; omega) | (simp [plus1, sHt, sH, sS, sAt, sA, sup]; done) | (simp [plus1, sHt, sH, sS, sAt, sA, sup]; omega)) (fun c6 => ?_) (fun c6 => ?_)
          · skip
            refine hR.run0 2 (S' := (139, [some (vR 100), some (vI u), some (vI ((g : Int) + 1)), some (vI ((((fxN τ ρ1 g).2.1 2 (g : Int)) + ((fxN τ ρ1 g).2.1 2 (5 + (g : Int)))) + ((fxN τ ρ1 g).2.1 2 (10 + (g : Int))))), some (vI (τ.2.2 0 3 (g : Int))), some (vI 1)], [], mW τ (sAt (fxN τ ρ1 g) 2 (0 + (g : Int)) 0))) rfl ?_
            refine hR.fg 3 ?_
            show G (139, [some (vR 100), some (vI u), some (vI ((g : Int) + 1)), none, some (vI (τ.2.2 0 3 (g : Int))), some (vI 1)], [], mW τ (sAt (fxN τ ρ1 g) 2 (0 + (g : Int)) 0))
            refine hR.fg 4 ?_
            show G (139, [some (vR 100), some (vI u), some (vI ((g : Int) + 1)), none, none, some (vI 1)], [], mW τ (sAt (fxN τ ρ1 g) 2 (0 + (g : Int)) 0))
            refine hR.fg 5 ?_
            show G (139, [some (vR 100), some (vI u), some (vI ((g : Int) + 1)), none, none, none], [], mW τ (sAt (fxN τ ρ1 g) 2 (0 + (g : Int)) 0))
            rw [show mW τ (fxN τ ρ1 (g + 1)) = mW τ (sAt (fxN τ ρ1 g) 2 (0 + (g : Int)) 0) from by show mW τ (fx1 τ (g : Int) (fxN τ ρ1 g)) = _; unfold fx1; (repeat' split) <;> first | rfl | (exfalso; omega)] at ihg
            exact ihg
          · skip
            have f1 : (sAt (fxN τ ρ1 g) 2 (0 + (g : Int)) 0).2.1 2 (5 + (g : Int)) = (fxN τ ρ1 g).2.1 2 (5 + (g : Int)) := by rw [sAt_at, if_neg (by omega)]
            refine hR.run1 16 (S' := (218, [some (vR 100), some (vI u), some (vI (g : Int)), some (vI ((((fxN τ ρ1 g).2.1 2 (g : Int)) + ((fxN τ ρ1 g).2.1 2 (5 + (g : Int)))) + ((fxN τ ρ1 g).2.1 2 (10 + (g : Int))))), some (vI (τ.2.2 0 3 (g : Int))), some (vI 1)], [vI ((((fxN τ ρ1 g).2.1 2 (g : Int)) + ((fxN τ ρ1 g).2.1 2 (5 + (g : Int)))) + ((fxN τ ρ1 g).2.1 2 (10 + (g : Int)))), vI ((sAt (fxN τ ρ1 g) 2 (0 + (g : Int)) 0).2.1 2 (5 + (g : Int))), vI (5 + (g : Int)), vR 114], mW τ (sAt (fxN τ ρ1 g) 2 (0 + (g : Int)) 0))) rfl (by first | omega | (dsimp only [plus1]; omega) | (simp [plus1, sHt, sH, sS, sAt, sA, sup]; done) | (simp [plus1, sHt, sH, sS, sAt, sA, sup]; omega)) ?_
            refine hR.br (C := (sAt (fxN τ ρ1 g) 2 (0 + (g : Int)) 0).2.1 2 (5 + (g : Int)) ≠ (((fxN τ ρ1 g).2.1 2 (g : Int)) + ((fxN τ ρ1 g).2.1 2 (5 + (g : Int)))) + ((fxN τ ρ1 g).2.1 2 (10 + (g : Int)))) rfl (by first | omega | (dsimp only [plus1]; omega) | (simp [plus1, sHt, sH, sS, sAt, sA, sup]; done) | (simp [plus1, sHt, sH, sS, sAt, sA, sup]; omega)) (fun c7 => ?_) (fun c7 => ?_)
            · skip
              refine hR.run1 2 (S' := (228, [some (vR 100), some (vI u), some (vI (g : Int)), some (vI ((((fxN τ ρ1 g).2.1 2 (g : Int)) + ((fxN τ ρ1 g).2.1 2 (5 + (g : Int)))) + ((fxN τ ρ1 g).2.1 2 (10 + (g : Int))))), some (vI (τ.2.2 0 3 (g : Int))), some (vI 1)], [], pset (mW τ (sAt (fxN τ ρ1 g) 2 (0 + (g : Int)) 0)) 114 (.inl (15, .inl (pup ((sAt (fxN τ ρ1 g) 2 (0 + (g : Int)) 0).2.1 2) (5 + (g : Int)) 0))))) rfl (by first | omega | (dsimp only [plus1]; omega) | (simp [plus1, sHt, sH, sS, sAt, sA, sup]; done) | (simp [plus1, sHt, sH, sS, sAt, sA, sup]; omega)) ?_
              rw [mW_y2]
              refine hR.run0 4 (S' := (187, [some (vR 100), some (vI u), some (vI (g : Int)), some (vI ((((fxN τ ρ1 g).2.1 2 (g : Int)) + ((fxN τ ρ1 g).2.1 2 (5 + (g : Int)))) + ((fxN τ ρ1 g).2.1 2 (10 + (g : Int))))), some (vI (τ.2.2 0 3 (g : Int))), some (vI 2)], [vI 3, vI 2], mW τ (sAt (sAt (fxN τ ρ1 g) 2 (0 + (g : Int)) 0) 2 (5 + (g : Int)) 0))) rfl ?_
              refine hR.br (C := 3 ≤ 2) rfl (by first | omega | (dsimp only [plus1]; omega) | (simp [plus1, sHt, sH, sS, sAt, sA, sup]; done) | (simp [plus1, sHt, sH, sS, sAt, sA, sup]; omega)) (fun c8 => ?_) (fun c8 => ?_)
              · exfalso; omega
              refine hR.run0 2 (S' := (193, [some (vR 100), some (vI u), some (vI (g : Int)), some (vI ((((fxN τ ρ1 g).2.1 2 (g : Int)) + ((fxN τ ρ1 g).2.1 2 (5 + (g : Int)))) + ((fxN τ ρ1 g).2.1 2 (10 + (g : Int))))), some (vI (τ.2.2 0 3 (g : Int))), some (vI 2)], [vI (τ.2.2 0 3 (g : Int)), vI ((((fxN τ ρ1 g).2.1 2 (g : Int)) + ((fxN τ ρ1 g).2.1 2 (5 + (g : Int)))) + ((fxN τ ρ1 g).2.1 2 (10 + (g : Int))))], mW τ (sAt (sAt (fxN τ ρ1 g) 2 (0 + (g : Int)) 0) 2 (5 + (g : Int)) 0))) rfl ?_
              refine hR.br (C := (((fxN τ ρ1 g).2.1 2 (g : Int)) + ((fxN τ ρ1 g).2.1 2 (5 + (g : Int)))) + ((fxN τ ρ1 g).2.1 2 (10 + (g : Int))) ≤ τ.2.2 0 3 (g : Int)) rfl (by first | omega | (dsimp only [plus1]; omega) | (simp [plus1, sHt, sH, sS, sAt, sA, sup]; done) | (simp [plus1, sHt, sH, sS, sAt, sA, sup]; omega)) (fun c9 => ?_) (fun c9 => ?_)
              · skip
                refine hR.run0 2 (S' := (139, [some (vR 100), some (vI u), some (vI ((g : Int) + 1)), some (vI ((((fxN τ ρ1 g).2.1 2 (g : Int)) + ((fxN τ ρ1 g).2.1 2 (5 + (g : Int)))) + ((fxN τ ρ1 g).2.1 2 (10 + (g : Int))))), some (vI (τ.2.2 0 3 (g : Int))), some (vI 2)], [], mW τ (sAt (sAt (fxN τ ρ1 g) 2 (0 + (g : Int)) 0) 2 (5 + (g : Int)) 0))) rfl ?_
                refine hR.fg 3 ?_
                show G (139, [some (vR 100), some (vI u), some (vI ((g : Int) + 1)), none, some (vI (τ.2.2 0 3 (g : Int))), some (vI 2)], [], mW τ (sAt (sAt (fxN τ ρ1 g) 2 (0 + (g : Int)) 0) 2 (5 + (g : Int)) 0))
                refine hR.fg 4 ?_
                show G (139, [some (vR 100), some (vI u), some (vI ((g : Int) + 1)), none, none, some (vI 2)], [], mW τ (sAt (sAt (fxN τ ρ1 g) 2 (0 + (g : Int)) 0) 2 (5 + (g : Int)) 0))
                refine hR.fg 5 ?_
                show G (139, [some (vR 100), some (vI u), some (vI ((g : Int) + 1)), none, none, none], [], mW τ (sAt (sAt (fxN τ ρ1 g) 2 (0 + (g : Int)) 0) 2 (5 + (g : Int)) 0))
                rw [show mW τ (fxN τ ρ1 (g + 1)) = mW τ (sAt (sAt (fxN τ ρ1 g) 2 (0 + (g : Int)) 0) 2 (5 + (g : Int)) 0) from by show mW τ (fx1 τ (g : Int) (fxN τ ρ1 g)) = _; unfold fx1; (repeat' split) <;> first | rfl | (exfalso; omega)] at ihg
                exact ihg
              · skip
                have f2 : (sAt (sAt (fxN τ ρ1 g) 2 (0 + (g : Int)) 0) 2 (5 + (g : Int)) 0).2.1 2 (10 + (g : Int)) = (fxN τ ρ1 g).2.1 2 (10 + (g : Int)) := by rw [sAt_at, if_neg (by omega), sAt_at, if_neg (by omega)]
                refine hR.run1 16 (S' := (218, [some (vR 100), some (vI u), some (vI (g : Int)), some (vI ((((fxN τ ρ1 g).2.1 2 (g : Int)) + ((fxN τ ρ1 g).2.1 2 (5 + (g : Int)))) + ((fxN τ ρ1 g).2.1 2 (10 + (g : Int))))), some (vI (τ.2.2 0 3 (g : Int))), some (vI 2)], [vI ((((fxN τ ρ1 g).2.1 2 (g : Int)) + ((fxN τ ρ1 g).2.1 2 (5 + (g : Int)))) + ((fxN τ ρ1 g).2.1 2 (10 + (g : Int)))), vI ((sAt (sAt (fxN τ ρ1 g) 2 (0 + (g : Int)) 0) 2 (5 + (g : Int)) 0).2.1 2 (10 + (g : Int))), vI (10 + (g : Int)), vR 114], mW τ (sAt (sAt (fxN τ ρ1 g) 2 (0 + (g : Int)) 0) 2 (5 + (g : Int)) 0))) rfl (by first | omega | (dsimp only [plus1]; omega) | (simp [plus1, sHt, sH, sS, sAt, sA, sup]; done) | (simp [plus1, sHt, sH, sS, sAt, sA, sup]; omega)) ?_
                refine hR.br (C := (sAt (sAt (fxN τ ρ1 g) 2 (0 + (g : Int)) 0) 2 (5 + (g : Int)) 0).2.1 2 (10 + (g : Int)) ≠ (((fxN τ ρ1 g).2.1 2 (g : Int)) + ((fxN τ ρ1 g).2.1 2 (5 + (g : Int)))) + ((fxN τ ρ1 g).2.1 2 (10 + (g : Int)))) rfl (by first | omega | (dsimp only [plus1]; omega) | (simp [plus1, sHt, sH, sS, sAt, sA, sup]; done) | (simp [plus1, sHt, sH, sS, sAt, sA, sup]; omega)) (fun c10 => ?_) (fun c10 => ?_)
                · skip
                  refine hR.run1 2 (S' := (228, [some (vR 100), some (vI u), some (vI (g : Int)), some (vI ((((fxN τ ρ1 g).2.1 2 (g : Int)) + ((fxN τ ρ1 g).2.1 2 (5 + (g : Int)))) + ((fxN τ ρ1 g).2.1 2 (10 + (g : Int))))), some (vI (τ.2.2 0 3 (g : Int))), some (vI 2)], [], pset (mW τ (sAt (sAt (fxN τ ρ1 g) 2 (0 + (g : Int)) 0) 2 (5 + (g : Int)) 0)) 114 (.inl (15, .inl (pup ((sAt (sAt (fxN τ ρ1 g) 2 (0 + (g : Int)) 0) 2 (5 + (g : Int)) 0).2.1 2) (10 + (g : Int)) 0))))) rfl (by first | omega | (dsimp only [plus1]; omega) | (simp [plus1, sHt, sH, sS, sAt, sA, sup]; done) | (simp [plus1, sHt, sH, sS, sAt, sA, sup]; omega)) ?_
                  rw [mW_y2]
                  refine hR.run0 4 (S' := (187, [some (vR 100), some (vI u), some (vI (g : Int)), some (vI ((((fxN τ ρ1 g).2.1 2 (g : Int)) + ((fxN τ ρ1 g).2.1 2 (5 + (g : Int)))) + ((fxN τ ρ1 g).2.1 2 (10 + (g : Int))))), some (vI (τ.2.2 0 3 (g : Int))), some (vI 3)], [vI 3, vI 3], mW τ (sAt (sAt (sAt (fxN τ ρ1 g) 2 (0 + (g : Int)) 0) 2 (5 + (g : Int)) 0) 2 (10 + (g : Int)) 0))) rfl ?_
                  refine hR.br (C := 3 ≤ 3) rfl (by first | omega | (dsimp only [plus1]; omega) | (simp [plus1, sHt, sH, sS, sAt, sA, sup]; done) | (simp [plus1, sHt, sH, sS, sAt, sA, sup]; omega)) (fun c11 => ?_) (fun c11 => ?_)
                  · skip
                    refine hR.run0 2 (S' := (139, [some (vR 100), some (vI u), some (vI ((g : Int) + 1)), some (vI ((((fxN τ ρ1 g).2.1 2 (g : Int)) + ((fxN τ ρ1 g).2.1 2 (5 + (g : Int)))) + ((fxN τ ρ1 g).2.1 2 (10 + (g : Int))))), some (vI (τ.2.2 0 3 (g : Int))), some (vI 3)], [], mW τ (sAt (sAt (sAt (fxN τ ρ1 g) 2 (0 + (g : Int)) 0) 2 (5 + (g : Int)) 0) 2 (10 + (g : Int)) 0))) rfl ?_
                    refine hR.fg 3 ?_
                    show G (139, [some (vR 100), some (vI u), some (vI ((g : Int) + 1)), none, some (vI (τ.2.2 0 3 (g : Int))), some (vI 3)], [], mW τ (sAt (sAt (sAt (fxN τ ρ1 g) 2 (0 + (g : Int)) 0) 2 (5 + (g : Int)) 0) 2 (10 + (g : Int)) 0))
                    refine hR.fg 4 ?_
                    show G (139, [some (vR 100), some (vI u), some (vI ((g : Int) + 1)), none, none, some (vI 3)], [], mW τ (sAt (sAt (sAt (fxN τ ρ1 g) 2 (0 + (g : Int)) 0) 2 (5 + (g : Int)) 0) 2 (10 + (g : Int)) 0))
                    refine hR.fg 5 ?_
                    show G (139, [some (vR 100), some (vI u), some (vI ((g : Int) + 1)), none, none, none], [], mW τ (sAt (sAt (sAt (fxN τ ρ1 g) 2 (0 + (g : Int)) 0) 2 (5 + (g : Int)) 0) 2 (10 + (g : Int)) 0))
                    rw [show mW τ (fxN τ ρ1 (g + 1)) = mW τ (sAt (sAt (sAt (fxN τ ρ1 g) 2 (0 + (g : Int)) 0) 2 (5 + (g : Int)) 0) 2 (10 + (g : Int)) 0) from by show mW τ (fx1 τ (g : Int) (fxN τ ρ1 g)) = _; unfold fx1; (repeat' split) <;> first | rfl | (exfalso; omega)] at ihg
                    exact ihg
                  · exfalso; omega
                · skip
                  refine hR.run1 3 (S' := (228, [some (vR 100), some (vI u), some (vI (g : Int)), some (vI ((((fxN τ ρ1 g).2.1 2 (g : Int)) + ((fxN τ ρ1 g).2.1 2 (5 + (g : Int)))) + ((fxN τ ρ1 g).2.1 2 (10 + (g : Int))))), some (vI (τ.2.2 0 3 (g : Int))), some (vI 2)], [], pset (mW τ (sAt (sAt (fxN τ ρ1 g) 2 (0 + (g : Int)) 0) 2 (5 + (g : Int)) 0)) 114 (.inl (15, .inl (pup ((sAt (sAt (fxN τ ρ1 g) 2 (0 + (g : Int)) 0) 2 (5 + (g : Int)) 0).2.1 2) (10 + (g : Int)) (τ.2.2 0 3 (g : Int))))))) rfl (by first | omega | (dsimp only [plus1]; omega) | (simp [plus1, sHt, sH, sS, sAt, sA, sup]; done) | (simp [plus1, sHt, sH, sS, sAt, sA, sup]; omega)) ?_
                  rw [mW_y2]
                  refine hR.run0 4 (S' := (187, [some (vR 100), some (vI u), some (vI (g : Int)), some (vI ((((fxN τ ρ1 g).2.1 2 (g : Int)) + ((fxN τ ρ1 g).2.1 2 (5 + (g : Int)))) + ((fxN τ ρ1 g).2.1 2 (10 + (g : Int))))), some (vI (τ.2.2 0 3 (g : Int))), some (vI 3)], [vI 3, vI 3], mW τ (sAt (sAt (sAt (fxN τ ρ1 g) 2 (0 + (g : Int)) 0) 2 (5 + (g : Int)) 0) 2 (10 + (g : Int)) (τ.2.2 0 3 (g : Int))))) rfl ?_
                  refine hR.br (C := 3 ≤ 3) rfl (by first | omega | (dsimp only [plus1]; omega) | (simp [plus1, sHt, sH, sS, sAt, sA, sup]; done) | (simp [plus1, sHt, sH, sS, sAt, sA, sup]; omega)) (fun c12 => ?_) (fun c12 => ?_)
                  · skip
                    refine hR.run0 2 (S' := (139, [some (vR 100), some (vI u), some (vI ((g : Int) + 1)), some (vI ((((fxN τ ρ1 g).2.1 2 (g : Int)) + ((fxN τ ρ1 g).2.1 2 (5 + (g : Int)))) + ((fxN τ ρ1 g).2.1 2 (10 + (g : Int))))), some (vI (τ.2.2 0 3 (g : Int))), some (vI 3)], [], mW τ (sAt (sAt (sAt (fxN τ ρ1 g) 2 (0 + (g : Int)) 0) 2 (5 + (g : Int)) 0) 2 (10 + (g : Int)) (τ.2.2 0 3 (g : Int))))) rfl ?_
                    refine hR.fg 3 ?_
                    show G (139, [some (vR 100), some (vI u), some (vI ((g : Int) + 1)), none, some (vI (τ.2.2 0 3 (g : Int))), some (vI 3)], [], mW τ (sAt (sAt (sAt (fxN τ ρ1 g) 2 (0 + (g : Int)) 0) 2 (5 + (g : Int)) 0) 2 (10 + (g : Int)) (τ.2.2 0 3 (g : Int))))
                    refine hR.fg 4 ?_
                    show G (139, [some (vR 100), some (vI u), some (vI ((g : Int) + 1)), none, none, some (vI 3)], [], mW τ (sAt (sAt (sAt (fxN τ ρ1 g) 2 (0 + (g : Int)) 0) 2 (5 + (g : Int)) 0) 2 (10 + (g : Int)) (τ.2.2 0 3 (g : Int))))
                    refine hR.fg 5 ?_
                    show G (139, [some (vR 100), some (vI u), some (vI ((g : Int) + 1)), none, none, none], [], mW τ (sAt (sAt (sAt (fxN τ ρ1 g) 2 (0 + (g : Int)) 0) 2 (5 + (g : Int)) 0) 2 (10 + (g : Int)) (τ.2.2 0 3 (g : Int))))
                    rw [show mW τ (fxN τ ρ1 (g + 1)) = mW τ (sAt (sAt (sAt (fxN τ ρ1 g) 2 (0 + (g : Int)) 0) 2 (5 + (g : Int)) 0) 2 (10 + (g : Int)) (τ.2.2 0 3 (g : Int))) from by show mW τ (fx1 τ (g : Int) (fxN τ ρ1 g)) = _; unfold fx1; (repeat' split) <;> first | rfl | (exfalso; omega)] at ihg
                    exact ihg
                  · exfalso; omega
            · skip
              refine hR.run1 3 (S' := (228, [some (vR 100), some (vI u), some (vI (g : Int)), some (vI ((((fxN τ ρ1 g).2.1 2 (g : Int)) + ((fxN τ ρ1 g).2.1 2 (5 + (g : Int)))) + ((fxN τ ρ1 g).2.1 2 (10 + (g : Int))))), some (vI (τ.2.2 0 3 (g : Int))), some (vI 1)], [], pset (mW τ (sAt (fxN τ ρ1 g) 2 (0 + (g : Int)) 0)) 114 (.inl (15, .inl (pup ((sAt (fxN τ ρ1 g) 2 (0 + (g : Int)) 0).2.1 2) (5 + (g : Int)) (τ.2.2 0 3 (g : Int))))))) rfl (by first | omega | (dsimp only [plus1]; omega) | (simp [plus1, sHt, sH, sS, sAt, sA, sup]; done) | (simp [plus1, sHt, sH, sS, sAt, sA, sup]; omega)) ?_
              rw [mW_y2]
              refine hR.run0 4 (S' := (187, [some (vR 100), some (vI u), some (vI (g : Int)), some (vI ((((fxN τ ρ1 g).2.1 2 (g : Int)) + ((fxN τ ρ1 g).2.1 2 (5 + (g : Int)))) + ((fxN τ ρ1 g).2.1 2 (10 + (g : Int))))), some (vI (τ.2.2 0 3 (g : Int))), some (vI 2)], [vI 3, vI 2], mW τ (sAt (sAt (fxN τ ρ1 g) 2 (0 + (g : Int)) 0) 2 (5 + (g : Int)) (τ.2.2 0 3 (g : Int))))) rfl ?_
              refine hR.br (C := 3 ≤ 2) rfl (by first | omega | (dsimp only [plus1]; omega) | (simp [plus1, sHt, sH, sS, sAt, sA, sup]; done) | (simp [plus1, sHt, sH, sS, sAt, sA, sup]; omega)) (fun c13 => ?_) (fun c13 => ?_)
              · exfalso; omega
              refine hR.run0 2 (S' := (193, [some (vR 100), some (vI u), some (vI (g : Int)), some (vI ((((fxN τ ρ1 g).2.1 2 (g : Int)) + ((fxN τ ρ1 g).2.1 2 (5 + (g : Int)))) + ((fxN τ ρ1 g).2.1 2 (10 + (g : Int))))), some (vI (τ.2.2 0 3 (g : Int))), some (vI 2)], [vI (τ.2.2 0 3 (g : Int)), vI ((((fxN τ ρ1 g).2.1 2 (g : Int)) + ((fxN τ ρ1 g).2.1 2 (5 + (g : Int)))) + ((fxN τ ρ1 g).2.1 2 (10 + (g : Int))))], mW τ (sAt (sAt (fxN τ ρ1 g) 2 (0 + (g : Int)) 0) 2 (5 + (g : Int)) (τ.2.2 0 3 (g : Int))))) rfl ?_
              refine hR.br (C := (((fxN τ ρ1 g).2.1 2 (g : Int)) + ((fxN τ ρ1 g).2.1 2 (5 + (g : Int)))) + ((fxN τ ρ1 g).2.1 2 (10 + (g : Int))) ≤ τ.2.2 0 3 (g : Int)) rfl (by first | omega | (dsimp only [plus1]; omega) | (simp [plus1, sHt, sH, sS, sAt, sA, sup]; done) | (simp [plus1, sHt, sH, sS, sAt, sA, sup]; omega)) (fun c14 => ?_) (fun c14 => ?_)
              · skip
                refine hR.run0 2 (S' := (139, [some (vR 100), some (vI u), some (vI ((g : Int) + 1)), some (vI ((((fxN τ ρ1 g).2.1 2 (g : Int)) + ((fxN τ ρ1 g).2.1 2 (5 + (g : Int)))) + ((fxN τ ρ1 g).2.1 2 (10 + (g : Int))))), some (vI (τ.2.2 0 3 (g : Int))), some (vI 2)], [], mW τ (sAt (sAt (fxN τ ρ1 g) 2 (0 + (g : Int)) 0) 2 (5 + (g : Int)) (τ.2.2 0 3 (g : Int))))) rfl ?_
                refine hR.fg 3 ?_
                show G (139, [some (vR 100), some (vI u), some (vI ((g : Int) + 1)), none, some (vI (τ.2.2 0 3 (g : Int))), some (vI 2)], [], mW τ (sAt (sAt (fxN τ ρ1 g) 2 (0 + (g : Int)) 0) 2 (5 + (g : Int)) (τ.2.2 0 3 (g : Int))))
                refine hR.fg 4 ?_
                show G (139, [some (vR 100), some (vI u), some (vI ((g : Int) + 1)), none, none, some (vI 2)], [], mW τ (sAt (sAt (fxN τ ρ1 g) 2 (0 + (g : Int)) 0) 2 (5 + (g : Int)) (τ.2.2 0 3 (g : Int))))
                refine hR.fg 5 ?_
                show G (139, [some (vR 100), some (vI u), some (vI ((g : Int) + 1)), none, none, none], [], mW τ (sAt (sAt (fxN τ ρ1 g) 2 (0 + (g : Int)) 0) 2 (5 + (g : Int)) (τ.2.2 0 3 (g : Int))))
                rw [show mW τ (fxN τ ρ1 (g + 1)) = mW τ (sAt (sAt (fxN τ ρ1 g) 2 (0 + (g : Int)) 0) 2 (5 + (g : Int)) (τ.2.2 0 3 (g : Int))) from by show mW τ (fx1 τ (g : Int) (fxN τ ρ1 g)) = _; unfold fx1; (repeat' split) <;> first | rfl | (exfalso; omega)] at ihg
                exact ihg
              · skip
                have f3 : (sAt (sAt (fxN τ ρ1 g) 2 (0 + (g : Int)) 0) 2 (5 + (g : Int)) (τ.2.2 0 3 (g : Int))).2.1 2 (10 + (g : Int)) = (fxN τ ρ1 g).2.1 2 (10 + (g : Int)) := by rw [sAt_at, if_neg (by omega), sAt_at, if_neg (by omega)]
                refine hR.run1 16 (S' := (218, [some (vR 100), some (vI u), some (vI (g : Int)), some (vI ((((fxN τ ρ1 g).2.1 2 (g : Int)) + ((fxN τ ρ1 g).2.1 2 (5 + (g : Int)))) + ((fxN τ ρ1 g).2.1 2 (10 + (g : Int))))), some (vI (τ.2.2 0 3 (g : Int))), some (vI 2)], [vI ((((fxN τ ρ1 g).2.1 2 (g : Int)) + ((fxN τ ρ1 g).2.1 2 (5 + (g : Int)))) + ((fxN τ ρ1 g).2.1 2 (10 + (g : Int)))), vI ((sAt (sAt (fxN τ ρ1 g) 2 (0 + (g : Int)) 0) 2 (5 + (g : Int)) (τ.2.2 0 3 (g : Int))).2.1 2 (10 + (g : Int))), vI (10 + (g : Int)), vR 114], mW τ (sAt (sAt (fxN τ ρ1 g) 2 (0 + (g : Int)) 0) 2 (5 + (g : Int)) (τ.2.2 0 3 (g : Int))))) rfl (by first | omega | (dsimp only [plus1]; omega) | (simp [plus1, sHt, sH, sS, sAt, sA, sup]; done) | (simp [plus1, sHt, sH, sS, sAt, sA, sup]; omega)) ?_
                refine hR.br (C := (sAt (sAt (fxN τ ρ1 g) 2 (0 + (g : Int)) 0) 2 (5 + (g : Int)) (τ.2.2 0 3 (g : Int))).2.1 2 (10 + (g : Int)) ≠ (((fxN τ ρ1 g).2.1 2 (g : Int)) + ((fxN τ ρ1 g).2.1 2 (5 + (g : Int)))) + ((fxN τ ρ1 g).2.1 2 (10 + (g : Int)))) rfl (by first | omega | (dsimp only [plus1]; omega) | (simp [plus1, sHt, sH, sS, sAt, sA, sup]; done) | (simp [plus1, sHt, sH, sS, sAt, sA, sup]; omega)) (fun c15 => ?_) (fun c15 => ?_)
                · skip
                  refine hR.run1 2 (S' := (228, [some (vR 100), some (vI u), some (vI (g : Int)), some (vI ((((fxN τ ρ1 g).2.1 2 (g : Int)) + ((fxN τ ρ1 g).2.1 2 (5 + (g : Int)))) + ((fxN τ ρ1 g).2.1 2 (10 + (g : Int))))), some (vI (τ.2.2 0 3 (g : Int))), some (vI 2)], [], pset (mW τ (sAt (sAt (fxN τ ρ1 g) 2 (0 + (g : Int)) 0) 2 (5 + (g : Int)) (τ.2.2 0 3 (g : Int)))) 114 (.inl (15, .inl (pup ((sAt (sAt (fxN τ ρ1 g) 2 (0 + (g : Int)) 0) 2 (5 + (g : Int)) (τ.2.2 0 3 (g : Int))).2.1 2) (10 + (g : Int)) 0))))) rfl (by first | omega | (dsimp only [plus1]; omega) | (simp [plus1, sHt, sH, sS, sAt, sA, sup]; done) | (simp [plus1, sHt, sH, sS, sAt, sA, sup]; omega)) ?_
                  rw [mW_y2]
                  refine hR.run0 4 (S' := (187, [some (vR 100), some (vI u), some (vI (g : Int)), some (vI ((((fxN τ ρ1 g).2.1 2 (g : Int)) + ((fxN τ ρ1 g).2.1 2 (5 + (g : Int)))) + ((fxN τ ρ1 g).2.1 2 (10 + (g : Int))))), some (vI (τ.2.2 0 3 (g : Int))), some (vI 3)], [vI 3, vI 3], mW τ (sAt (sAt (sAt (fxN τ ρ1 g) 2 (0 + (g : Int)) 0) 2 (5 + (g : Int)) (τ.2.2 0 3 (g : Int))) 2 (10 + (g : Int)) 0))) rfl ?_
                  refine hR.br (C := 3 ≤ 3) rfl (by first | omega | (dsimp only [plus1]; omega) | (simp [plus1, sHt, sH, sS, sAt, sA, sup]; done) | (simp [plus1, sHt, sH, sS, sAt, sA, sup]; omega)) (fun c16 => ?_) (fun c16 => ?_)
                  · skip
                    refine hR.run0 2 (S' := (139, [some (vR 100), some (vI u), some (vI ((g : Int) + 1)), some (vI ((((fxN τ ρ1 g).2.1 2 (g : Int)) + ((fxN τ ρ1 g).2.1 2 (5 + (g : Int)))) + ((fxN τ ρ1 g).2.1 2 (10 + (g : Int))))), some (vI (τ.2.2 0 3 (g : Int))), some (vI 3)], [], mW τ (sAt (sAt (sAt (fxN τ ρ1 g) 2 (0 + (g : Int)) 0) 2 (5 + (g : Int)) (τ.2.2 0 3 (g : Int))) 2 (10 + (g : Int)) 0))) rfl ?_
                    refine hR.fg 3 ?_
                    show G (139, [some (vR 100), some (vI u), some (vI ((g : Int) + 1)), none, some (vI (τ.2.2 0 3 (g : Int))), some (vI 3)], [], mW τ (sAt (sAt (sAt (fxN τ ρ1 g) 2 (0 + (g : Int)) 0) 2 (5 + (g : Int)) (τ.2.2 0 3 (g : Int))) 2 (10 + (g : Int)) 0))
                    refine hR.fg 4 ?_
                    show G (139, [some (vR 100), some (vI u), some (vI ((g : Int) + 1)), none, none, some (vI 3)], [], mW τ (sAt (sAt (sAt (fxN τ ρ1 g) 2 (0 + (g : Int)) 0) 2 (5 + (g : Int)) (τ.2.2 0 3 (g : Int))) 2 (10 + (g : Int)) 0))
                    refine hR.fg 5 ?_
                    show G (139, [some (vR 100), some (vI u), some (vI ((g : Int) + 1)), none, none, none], [], mW τ (sAt (sAt (sAt (fxN τ ρ1 g) 2 (0 + (g : Int)) 0) 2 (5 + (g : Int)) (τ.2.2 0 3 (g : Int))) 2 (10 + (g : Int)) 0))
                    rw [show mW τ (fxN τ ρ1 (g + 1)) = mW τ (sAt (sAt (sAt (fxN τ ρ1 g) 2 (0 + (g : Int)) 0) 2 (5 + (g : Int)) (τ.2.2 0 3 (g : Int))) 2 (10 + (g : Int)) 0) from by show mW τ (fx1 τ (g : Int) (fxN τ ρ1 g)) = _; unfold fx1; (repeat' split) <;> first | rfl | (exfalso; omega)] at ihg
                    exact ihg
                  · exfalso; omega
                · skip
                  refine hR.run1 3 (S' := (228, [some (vR 100), some (vI u), some (vI (g : Int)), some (vI ((((fxN τ ρ1 g).2.1 2 (g : Int)) + ((fxN τ ρ1 g).2.1 2 (5 + (g : Int)))) + ((fxN τ ρ1 g).2.1 2 (10 + (g : Int))))), some (vI (τ.2.2 0 3 (g : Int))), some (vI 2)], [], pset (mW τ (sAt (sAt (fxN τ ρ1 g) 2 (0 + (g : Int)) 0) 2 (5 + (g : Int)) (τ.2.2 0 3 (g : Int)))) 114 (.inl (15, .inl (pup ((sAt (sAt (fxN τ ρ1 g) 2 (0 + (g : Int)) 0) 2 (5 + (g : Int)) (τ.2.2 0 3 (g : Int))).2.1 2) (10 + (g : Int)) (τ.2.2 0 3 (g : Int))))))) rfl (by first | omega | (dsimp only [plus1]; omega) | (simp [plus1, sHt, sH, sS, sAt, sA, sup]; done) | (simp [plus1, sHt, sH, sS, sAt, sA, sup]; omega)) ?_
                  rw [mW_y2]
                  refine hR.run0 4 (S' := (187, [some (vR 100), some (vI u), some (vI (g : Int)), some (vI ((((fxN τ ρ1 g).2.1 2 (g : Int)) + ((fxN τ ρ1 g).2.1 2 (5 + (g : Int)))) + ((fxN τ ρ1 g).2.1 2 (10 + (g : Int))))), some (vI (τ.2.2 0 3 (g : Int))), some (vI 3)], [vI 3, vI 3], mW τ (sAt (sAt (sAt (fxN τ ρ1 g) 2 (0 + (g : Int)) 0) 2 (5 + (g : Int)) (τ.2.2 0 3 (g : Int))) 2 (10 + (g : Int)) (τ.2.2 0 3 (g : Int))))) rfl ?_
                  refine hR.br (C := 3 ≤ 3) rfl (by first | omega | (dsimp only [plus1]; omega) | (simp [plus1, sHt, sH, sS, sAt, sA, sup]; done) | (simp [plus1, sHt, sH, sS, sAt, sA, sup]; omega)) (fun c17 => ?_) (fun c17 => ?_)
                  · skip
                    refine hR.run0 2 (S' := (139, [some (vR 100), some (vI u), some (vI ((g : Int) + 1)), some (vI ((((fxN τ ρ1 g).2.1 2 (g : Int)) + ((fxN τ ρ1 g).2.1 2 (5 + (g : Int)))) + ((fxN τ ρ1 g).2.1 2 (10 + (g : Int))))), some (vI (τ.2.2 0 3 (g : Int))), some (vI 3)], [], mW τ (sAt (sAt (sAt (fxN τ ρ1 g) 2 (0 + (g : Int)) 0) 2 (5 + (g : Int)) (τ.2.2 0 3 (g : Int))) 2 (10 + (g : Int)) (τ.2.2 0 3 (g : Int))))) rfl ?_
                    refine hR.fg 3 ?_
                    show G (139, [some (vR 100), some (vI u), some (vI ((g : Int) + 1)), none, some (vI (τ.2.2 0 3 (g : Int))), some (vI 3)], [], mW τ (sAt (sAt (sAt (fxN τ ρ1 g) 2 (0 + (g : Int)) 0) 2 (5 + (g : Int)) (τ.2.2 0 3 (g : Int))) 2 (10 + (g : Int)) (τ.2.2 0 3 (g : Int))))
                    refine hR.fg 4 ?_
                    show G (139, [some (vR 100), some (vI u), some (vI ((g : Int) + 1)), none, none, some (vI 3)], [], mW τ (sAt (sAt (sAt (fxN τ ρ1 g) 2 (0 + (g : Int)) 0) 2 (5 + (g : Int)) (τ.2.2 0 3 (g : Int))) 2 (10 + (g : Int)) (τ.2.2 0 3 (g : Int))))
                    refine hR.fg 5 ?_
                    show G (139, [some (vR 100), some (vI u), some (vI ((g : Int) + 1)), none, none, none], [], mW τ (sAt (sAt (sAt (fxN τ ρ1 g) 2 (0 + (g : Int)) 0) 2 (5 + (g : Int)) (τ.2.2 0 3 (g : Int))) 2 (10 + (g : Int)) (τ.2.2 0 3 (g : Int))))
                    rw [show mW τ (fxN τ ρ1 (g + 1)) = mW τ (sAt (sAt (sAt (fxN τ ρ1 g) 2 (0 + (g : Int)) 0) 2 (5 + (g : Int)) (τ.2.2 0 3 (g : Int))) 2 (10 + (g : Int)) (τ.2.2 0 3 (g : Int))) from by show mW τ (fx1 τ (g : Int) (fxN τ ρ1 g)) = _; unfold fx1; (repeat' split) <;> first | rfl | (exfalso; omega)] at ihg
                    exact ihg
                  · exfalso; omega
        · skip
          refine hR.run1 3 (S' := (228, [some (vR 100), some (vI u), some (vI (g : Int)), some (vI ((((fxN τ ρ1 g).2.1 2 (g : Int)) + ((fxN τ ρ1 g).2.1 2 (5 + (g : Int)))) + ((fxN τ ρ1 g).2.1 2 (10 + (g : Int))))), some (vI (τ.2.2 0 3 (g : Int))), some (vI 0)], [], pset (mW τ (fxN τ ρ1 g)) 114 (.inl (15, .inl (pup ((fxN τ ρ1 g).2.1 2) (0 + (g : Int)) (τ.2.2 0 3 (g : Int))))))) rfl (by first | omega | (dsimp only [plus1]; omega) | (simp [plus1, sHt, sH, sS, sAt, sA, sup]; done) | (simp [plus1, sHt, sH, sS, sAt, sA, sup]; omega)) ?_
          rw [mW_y2]
          refine hR.run0 4 (S' := (187, [some (vR 100), some (vI u), some (vI (g : Int)), some (vI ((((fxN τ ρ1 g).2.1 2 (g : Int)) + ((fxN τ ρ1 g).2.1 2 (5 + (g : Int)))) + ((fxN τ ρ1 g).2.1 2 (10 + (g : Int))))), some (vI (τ.2.2 0 3 (g : Int))), some (vI 1)], [vI 3, vI 1], mW τ (sAt (fxN τ ρ1 g) 2 (0 + (g : Int)) (τ.2.2 0 3 (g : Int))))) rfl ?_
          refine hR.br (C := 3 ≤ 1) rfl (by first | omega | (dsimp only [plus1]; omega) | (simp [plus1, sHt, sH, sS, sAt, sA, sup]; done) | (simp [plus1, sHt, sH, sS, sAt, sA, sup]; omega)) (fun c18 => ?_) (fun c18 => ?_)
          · exfalso; omega
          refine hR.run0 2 (S' := (193, [some (vR 100), some (vI u), some (vI (g : Int)), some (vI ((((fxN τ ρ1 g).2.1 2 (g : Int)) + ((fxN τ ρ1 g).2.1 2 (5 + (g : Int)))) + ((fxN τ ρ1 g).2.1 2 (10 + (g : Int))))), some (vI (τ.2.2 0 3 (g : Int))), some (vI 1)], [vI (τ.2.2 0 3 (g : Int)), vI ((((fxN τ ρ1 g).2.1 2 (g : Int)) + ((fxN τ ρ1 g).2.1 2 (5 + (g : Int)))) + ((fxN τ ρ1 g).2.1 2 (10 + (g : Int))))], mW τ (sAt (fxN τ ρ1 g) 2 (0 + (g : Int)) (τ.2.2 0 3 (g : Int))))) rfl ?_
          refine hR.br (C := (((fxN τ ρ1 g).2.1 2 (g : Int)) + ((fxN τ ρ1 g).2.1 2 (5 + (g : Int)))) + ((fxN τ ρ1 g).2.1 2 (10 + (g : Int))) ≤ τ.2.2 0 3 (g : Int)) rfl (by first | omega | (dsimp only [plus1]; omega) | (simp [plus1, sHt, sH, sS, sAt, sA, sup]; done) | (simp [plus1, sHt, sH, sS, sAt, sA, sup]; omega)) (fun c19 => ?_) (fun c19 => ?_)
          · skip
            refine hR.run0 2 (S' := (139, [some (vR 100), some (vI u), some (vI ((g : Int) + 1)), some (vI ((((fxN τ ρ1 g).2.1 2 (g : Int)) + ((fxN τ ρ1 g).2.1 2 (5 + (g : Int)))) + ((fxN τ ρ1 g).2.1 2 (10 + (g : Int))))), some (vI (τ.2.2 0 3 (g : Int))), some (vI 1)], [], mW τ (sAt (fxN τ ρ1 g) 2 (0 + (g : Int)) (τ.2.2 0 3 (g : Int))))) rfl ?_
            refine hR.fg 3 ?_
            show G (139, [some (vR 100), some (vI u), some (vI ((g : Int) + 1)), none, some (vI (τ.2.2 0 3 (g : Int))), some (vI 1)], [], mW τ (sAt (fxN τ ρ1 g) 2 (0 + (g : Int)) (τ.2.2 0 3 (g : Int))))
            refine hR.fg 4 ?_
            show G (139, [some (vR 100), some (vI u), some (vI ((g : Int) + 1)), none, none, some (vI 1)], [], mW τ (sAt (fxN τ ρ1 g) 2 (0 + (g : Int)) (τ.2.2 0 3 (g : Int))))
            refine hR.fg 5 ?_
            show G (139, [some (vR 100), some (vI u), some (vI ((g : Int) + 1)), none, none, none], [], mW τ (sAt (fxN τ ρ1 g) 2 (0 + (g : Int)) (τ.2.2 0 3 (g : Int))))
            rw [show mW τ (fxN τ ρ1 (g + 1)) = mW τ (sAt (fxN τ ρ1 g) 2 (0 + (g : Int)) (τ.2.2 0 3 (g : Int))) from by show mW τ (fx1 τ (g : Int) (fxN τ ρ1 g)) = _; unfold fx1; (repeat' split) <;> first | rfl | (exfalso; omega)] at ihg
            exact ihg
          · skip
            have f4 : (sAt (fxN τ ρ1 g) 2 (0 + (g : Int)) (τ.2.2 0 3 (g : Int))).2.1 2 (5 + (g : Int)) = (fxN τ ρ1 g).2.1 2 (5 + (g : Int)) := by rw [sAt_at, if_neg (by omega)]
            refine hR.run1 16 (S' := (218, [some (vR 100), some (vI u), some (vI (g : Int)), some (vI ((((fxN τ ρ1 g).2.1 2 (g : Int)) + ((fxN τ ρ1 g).2.1 2 (5 + (g : Int)))) + ((fxN τ ρ1 g).2.1 2 (10 + (g : Int))))), some (vI (τ.2.2 0 3 (g : Int))), some (vI 1)], [vI ((((fxN τ ρ1 g).2.1 2 (g : Int)) + ((fxN τ ρ1 g).2.1 2 (5 + (g : Int)))) + ((fxN τ ρ1 g).2.1 2 (10 + (g : Int)))), vI ((sAt (fxN τ ρ1 g) 2 (0 + (g : Int)) (τ.2.2 0 3 (g : Int))).2.1 2 (5 + (g : Int))), vI (5 + (g : Int)), vR 114], mW τ (sAt (fxN τ ρ1 g) 2 (0 + (g : Int)) (τ.2.2 0 3 (g : Int))))) rfl (by first | omega | (dsimp only [plus1]; omega) | (simp [plus1, sHt, sH, sS, sAt, sA, sup]; done) | (simp [plus1, sHt, sH, sS, sAt, sA, sup]; omega)) ?_
            refine hR.br (C := (sAt (fxN τ ρ1 g) 2 (0 + (g : Int)) (τ.2.2 0 3 (g : Int))).2.1 2 (5 + (g : Int)) ≠ (((fxN τ ρ1 g).2.1 2 (g : Int)) + ((fxN τ ρ1 g).2.1 2 (5 + (g : Int)))) + ((fxN τ ρ1 g).2.1 2 (10 + (g : Int)))) rfl (by first | omega | (dsimp only [plus1]; omega) | (simp [plus1, sHt, sH, sS, sAt, sA, sup]; done) | (simp [plus1, sHt, sH, sS, sAt, sA, sup]; omega)) (fun c20 => ?_) (fun c20 => ?_)
            · skip
              refine hR.run1 2 (S' := (228, [some (vR 100), some (vI u), some (vI (g : Int)), some (vI ((((fxN τ ρ1 g).2.1 2 (g : Int)) + ((fxN τ ρ1 g).2.1 2 (5 + (g : Int)))) + ((fxN τ ρ1 g).2.1 2 (10 + (g : Int))))), some (vI (τ.2.2 0 3 (g : Int))), some (vI 1)], [], pset (mW τ (sAt (fxN τ ρ1 g) 2 (0 + (g : Int)) (τ.2.2 0 3 (g : Int)))) 114 (.inl (15, .inl (pup ((sAt (fxN τ ρ1 g) 2 (0 + (g : Int)) (τ.2.2 0 3 (g : Int))).2.1 2) (5 + (g : Int)) 0))))) rfl (by first | omega | (dsimp only [plus1]; omega) | (simp [plus1, sHt, sH, sS, sAt, sA, sup]; done) | (simp [plus1, sHt, sH, sS, sAt, sA, sup]; omega)) ?_
              rw [mW_y2]
              refine hR.run0 4 (S' := (187, [some (vR 100), some (vI u), some (vI (g : Int)), some (vI ((((fxN τ ρ1 g).2.1 2 (g : Int)) + ((fxN τ ρ1 g).2.1 2 (5 + (g : Int)))) + ((fxN τ ρ1 g).2.1 2 (10 + (g : Int))))), some (vI (τ.2.2 0 3 (g : Int))), some (vI 2)], [vI 3, vI 2], mW τ (sAt (sAt (fxN τ ρ1 g) 2 (0 + (g : Int)) (τ.2.2 0 3 (g : Int))) 2 (5 + (g : Int)) 0))) rfl ?_
              refine hR.br (C := 3 ≤ 2) rfl (by first | omega | (dsimp only [plus1]; omega) | (simp [plus1, sHt, sH, sS, sAt, sA, sup]; done) | (simp [plus1, sHt, sH, sS, sAt, sA, sup]; omega)) (fun c21 => ?_) (fun c21 => ?_)
              · exfalso; omega
              refine hR.run0 2 (S' := (193, [some (vR 100), some (vI u), some (vI (g : Int)), some (vI ((((fxN τ ρ1 g).2.1 2 (g : Int)) + ((fxN τ ρ1 g).2.1 2 (5 + (g : Int)))) + ((fxN τ ρ1 g).2.1 2 (10 + (g : Int))))), some (vI (τ.2.2 0 3 (g : Int))), some (vI 2)], [vI (τ.2.2 0 3 (g : Int)), vI ((((fxN τ ρ1 g).2.1 2 (g : Int)) + ((fxN τ ρ1 g).2.1 2 (5 + (g : Int)))) + ((fxN τ ρ1 g).2.1 2 (10 + (g : Int))))], mW τ (sAt (sAt (fxN τ ρ1 g) 2 (0 + (g : Int)) (τ.2.2 0 3 (g : Int))) 2 (5 + (g : Int)) 0))) rfl ?_
              refine hR.br (C := (((fxN τ ρ1 g).2.1 2 (g : Int)) + ((fxN τ ρ1 g).2.1 2 (5 + (g : Int)))) + ((fxN τ ρ1 g).2.1 2 (10 + (g : Int))) ≤ τ.2.2 0 3 (g : Int)) rfl (by first | omega | (dsimp only [plus1]; omega) | (simp [plus1, sHt, sH, sS, sAt, sA, sup]; done) | (simp [plus1, sHt, sH, sS, sAt, sA, sup]; omega)) (fun c22 => ?_) (fun c22 => ?_)
              · skip
                refine hR.run0 2 (S' := (139, [some (vR 100), some (vI u), some (vI ((g : Int) + 1)), some (vI ((((fxN τ ρ1 g).2.1 2 (g : Int)) + ((fxN τ ρ1 g).2.1 2 (5 + (g : Int)))) + ((fxN τ ρ1 g).2.1 2 (10 + (g : Int))))), some (vI (τ.2.2 0 3 (g : Int))), some (vI 2)], [], mW τ (sAt (sAt (fxN τ ρ1 g) 2 (0 + (g : Int)) (τ.2.2 0 3 (g : Int))) 2 (5 + (g : Int)) 0))) rfl ?_
                refine hR.fg 3 ?_
                show G (139, [some (vR 100), some (vI u), some (vI ((g : Int) + 1)), none, some (vI (τ.2.2 0 3 (g : Int))), some (vI 2)], [], mW τ (sAt (sAt (fxN τ ρ1 g) 2 (0 + (g : Int)) (τ.2.2 0 3 (g : Int))) 2 (5 + (g : Int)) 0))
                refine hR.fg 4 ?_
                show G (139, [some (vR 100), some (vI u), some (vI ((g : Int) + 1)), none, none, some (vI 2)], [], mW τ (sAt (sAt (fxN τ ρ1 g) 2 (0 + (g : Int)) (τ.2.2 0 3 (g : Int))) 2 (5 + (g : Int)) 0))
                refine hR.fg 5 ?_
                show G (139, [some (vR 100), some (vI u), some (vI ((g : Int) + 1)), none, none, none], [], mW τ (sAt (sAt (fxN τ ρ1 g) 2 (0 + (g : Int)) (τ.2.2 0 3 (g : Int))) 2 (5 + (g : Int)) 0))
                rw [show mW τ (fxN τ ρ1 (g + 1)) = mW τ (sAt (sAt (fxN τ ρ1 g) 2 (0 + (g : Int)) (τ.2.2 0 3 (g : Int))) 2 (5 + (g : Int)) 0) from by show mW τ (fx1 τ (g : Int) (fxN τ ρ1 g)) = _; unfold fx1; (repeat' split) <;> first | rfl | (exfalso; omega)] at ihg
                exact ihg
              · skip
                have f5 : (sAt (sAt (fxN τ ρ1 g) 2 (0 + (g : Int)) (τ.2.2 0 3 (g : Int))) 2 (5 + (g : Int)) 0).2.1 2 (10 + (g : Int)) = (fxN τ ρ1 g).2.1 2 (10 + (g : Int)) := by rw [sAt_at, if_neg (by omega), sAt_at, if_neg (by omega)]
                refine hR.run1 16 (S' := (218, [some (vR 100), some (vI u), some (vI (g : Int)), some (vI ((((fxN τ ρ1 g).2.1 2 (g : Int)) + ((fxN τ ρ1 g).2.1 2 (5 + (g : Int)))) + ((fxN τ ρ1 g).2.1 2 (10 + (g : Int))))), some (vI (τ.2.2 0 3 (g : Int))), some (vI 2)], [vI ((((fxN τ ρ1 g).2.1 2 (g : Int)) + ((fxN τ ρ1 g).2.1 2 (5 + (g : Int)))) + ((fxN τ ρ1 g).2.1 2 (10 + (g : Int)))), vI ((sAt (sAt (fxN τ ρ1 g) 2 (0 + (g : Int)) (τ.2.2 0 3 (g : Int))) 2 (5 + (g : Int)) 0).2.1 2 (10 + (g : Int))), vI (10 + (g : Int)), vR 114], mW τ (sAt (sAt (fxN τ ρ1 g) 2 (0 + (g : Int)) (τ.2.2 0 3 (g : Int))) 2 (5 + (g : Int)) 0))) rfl (by first | omega | (dsimp only [plus1]; omega) | (simp [plus1, sHt, sH, sS, sAt, sA, sup]; done) | (simp [plus1, sHt, sH, sS, sAt, sA, sup]; omega)) ?_
                refine hR.br (C := (sAt (sAt (fxN τ ρ1 g) 2 (0 + (g : Int)) (τ.2.2 0 3 (g : Int))) 2 (5 + (g : Int)) 0).2.1 2 (10 + (g : Int)) ≠ (((fxN τ ρ1 g).2.1 2 (g : Int)) + ((fxN τ ρ1 g).2.1 2 (5 + (g : Int)))) + ((fxN τ ρ1 g).2.1 2 (10 + (g : Int)))) rfl (by first | omega | (dsimp only [plus1]; omega) | (simp [plus1, sHt, sH, sS, sAt, sA, sup]; done) | (simp [plus1, sHt, sH, sS, sAt, sA, sup]; omega)) (fun c23 => ?_) (fun c23 => ?_)
                · skip
                  refine hR.run1 2 (S' := (228, [some (vR 100), some (vI u), some (vI (g : Int)), some (vI ((((fxN τ ρ1 g).2.1 2 (g : Int)) + ((fxN τ ρ1 g).2.1 2 (5 + (g : Int)))) + ((fxN τ ρ1 g).2.1 2 (10 + (g : Int))))), some (vI (τ.2.2 0 3 (g : Int))), some (vI 2)], [], pset (mW τ (sAt (sAt (fxN τ ρ1 g) 2 (0 + (g : Int)) (τ.2.2 0 3 (g : Int))) 2 (5 + (g : Int)) 0)) 114 (.inl (15, .inl (pup ((sAt (sAt (fxN τ ρ1 g) 2 (0 + (g : Int)) (τ.2.2 0 3 (g : Int))) 2 (5 + (g : Int)) 0).2.1 2) (10 + (g : Int)) 0))))) rfl (by first | omega | (dsimp only [plus1]; omega) | (simp [plus1, sHt, sH, sS, sAt, sA, sup]; done) | (simp [plus1, sHt, sH, sS, sAt, sA, sup]; omega)) ?_
                  rw [mW_y2]
                  refine hR.run0 4 (S' := (187, [some (vR 100), some (vI u), some (vI (g : Int)), some (vI ((((fxN τ ρ1 g).2.1 2 (g : Int)) + ((fxN τ ρ1 g).2.1 2 (5 + (g : Int)))) + ((fxN τ ρ1 g).2.1 2 (10 + (g : Int))))), some (vI (τ.2.2 0 3 (g : Int))), some (vI 3)], [vI 3, vI 3], mW τ (sAt (sAt (sAt (fxN τ ρ1 g) 2 (0 + (g : Int)) (τ.2.2 0 3 (g : Int))) 2 (5 + (g : Int)) 0) 2 (10 + (g : Int)) 0))) rfl ?_
                  refine hR.br (C := 3 ≤ 3) rfl (by first | omega | (dsimp only [plus1]; omega) | (simp [plus1, sHt, sH, sS, sAt, sA, sup]; done) | (simp [plus1, sHt, sH, sS, sAt, sA, sup]; omega)) (fun c24 => ?_) (fun c24 => ?_)
                  · skip
                    refine hR.run0 2 (S' := (139, [some (vR 100), some (vI u), some (vI ((g : Int) + 1)), some (vI ((((fxN τ ρ1 g).2.1 2 (g : Int)) + ((fxN τ ρ1 g).2.1 2 (5 + (g : Int)))) + ((fxN τ ρ1 g).2.1 2 (10 + (g : Int))))), some (vI (τ.2.2 0 3 (g : Int))), some (vI 3)], [], mW τ (sAt (sAt (sAt (fxN τ ρ1 g) 2 (0 + (g : Int)) (τ.2.2 0 3 (g : Int))) 2 (5 + (g : Int)) 0) 2 (10 + (g : Int)) 0))) rfl ?_
                    refine hR.fg 3 ?_
                    show G (139, [some (vR 100), some (vI u), some (vI ((g : Int) + 1)), none, some (vI (τ.2.2 0 3 (g : Int))), some (vI 3)], [], mW τ (sAt (sAt (sAt (fxN τ ρ1 g) 2 (0 + (g : Int)) (τ.2.2 0 3 (g : Int))) 2 (5 + (g : Int)) 0) 2 (10 + (g : Int)) 0))
                    refine hR.fg 4 ?_
                    show G (139, [some (vR 100), some (vI u), some (vI ((g : Int) + 1)), none, none, some (vI 3)], [], mW τ (sAt (sAt (sAt (fxN τ ρ1 g) 2 (0 + (g : Int)) (τ.2.2 0 3 (g : Int))) 2 (5 + (g : Int)) 0) 2 (10 + (g : Int)) 0))
                    refine hR.fg 5 ?_
                    show G (139, [some (vR 100), some (vI u), some (vI ((g : Int) + 1)), none, none, none], [], mW τ (sAt (sAt (sAt (fxN τ ρ1 g) 2 (0 + (g : Int)) (τ.2.2 0 3 (g : Int))) 2 (5 + (g : Int)) 0) 2 (10 + (g : Int)) 0))
                    rw [show mW τ (fxN τ ρ1 (g + 1)) = mW τ (sAt (sAt (sAt (fxN τ ρ1 g) 2 (0 + (g : Int)) (τ.2.2 0 3 (g : Int))) 2 (5 + (g : Int)) 0) 2 (10 + (g : Int)) 0) from by show mW τ (fx1 τ (g : Int) (fxN τ ρ1 g)) = _; unfold fx1; (repeat' split) <;> first | rfl | (exfalso; omega)] at ihg
                    exact ihg
                  · exfalso; omega
                · skip
                  refine hR.run1 3 (S' := (228, [some (vR 100), some (vI u), some (vI (g : Int)), some (vI ((((fxN τ ρ1 g).2.1 2 (g : Int)) + ((fxN τ ρ1 g).2.1 2 (5 + (g : Int)))) + ((fxN τ ρ1 g).2.1 2 (10 + (g : Int))))), some (vI (τ.2.2 0 3 (g : Int))), some (vI 2)], [], pset (mW τ (sAt (sAt (fxN τ ρ1 g) 2 (0 + (g : Int)) (τ.2.2 0 3 (g : Int))) 2 (5 + (g : Int)) 0)) 114 (.inl (15, .inl (pup ((sAt (sAt (fxN τ ρ1 g) 2 (0 + (g : Int)) (τ.2.2 0 3 (g : Int))) 2 (5 + (g : Int)) 0).2.1 2) (10 + (g : Int)) (τ.2.2 0 3 (g : Int))))))) rfl (by first | omega | (dsimp only [plus1]; omega) | (simp [plus1, sHt, sH, sS, sAt, sA, sup]; done) | (simp [plus1, sHt, sH, sS, sAt, sA, sup]; omega)) ?_
                  rw [mW_y2]
                  refine hR.run0 4 (S' := (187, [some (vR 100), some (vI u), some (vI (g : Int)), some (vI ((((fxN τ ρ1 g).2.1 2 (g : Int)) + ((fxN τ ρ1 g).2.1 2 (5 + (g : Int)))) + ((fxN τ ρ1 g).2.1 2 (10 + (g : Int))))), some (vI (τ.2.2 0 3 (g : Int))), some (vI 3)], [vI 3, vI 3], mW τ (sAt (sAt (sAt (fxN τ ρ1 g) 2 (0 + (g : Int)) (τ.2.2 0 3 (g : Int))) 2 (5 + (g : Int)) 0) 2 (10 + (g : Int)) (τ.2.2 0 3 (g : Int))))) rfl ?_
                  refine hR.br (C := 3 ≤ 3) rfl (by first | omega | (dsimp only [plus1]; omega) | (simp [plus1, sHt, sH, sS, sAt, sA, sup]; done) | (simp [plus1, sHt, sH, sS, sAt, sA, sup]; omega)) (fun c25 => ?_) (fun c25 => ?_)
                  · skip
                    refine hR.run0 2 (S' := (139, [some (vR 100), some (vI u), some (vI ((g : Int) + 1)), some (vI ((((fxN τ ρ1 g).2.1 2 (g : Int)) + ((fxN τ ρ1 g).2.1 2 (5 + (g : Int)))) + ((fxN τ ρ1 g).2.1 2 (10 + (g : Int))))), some (vI (τ.2.2 0 3 (g : Int))), some (vI 3)], [], mW τ (sAt (sAt (sAt (fxN τ ρ1 g) 2 (0 + (g : Int)) (τ.2.2 0 3 (g : Int))) 2 (5 + (g : Int)) 0) 2 (10 + (g : Int)) (τ.2.2 0 3 (g : Int))))) rfl ?_
                    refine hR.fg 3 ?_
                    show G (139, [some (vR 100), some (vI u), some (vI ((g : Int) + 1)), none, some (vI (τ.2.2 0 3 (g : Int))), some (vI 3)], [], mW τ (sAt (sAt (sAt (fxN τ ρ1 g) 2 (0 + (g : Int)) (τ.2.2 0 3 (g : Int))) 2 (5 + (g : Int)) 0) 2 (10 + (g : Int)) (τ.2.2 0 3 (g : Int))))
                    refine hR.fg 4 ?_
                    show G (139, [some (vR 100), some (vI u), some (vI ((g : Int) + 1)), none, none, some (vI 3)], [], mW τ (sAt (sAt (sAt (fxN τ ρ1 g) 2 (0 + (g : Int)) (τ.2.2 0 3 (g : Int))) 2 (5 + (g : Int)) 0) 2 (10 + (g : Int)) (τ.2.2 0 3 (g : Int))))
                    refine hR.fg 5 ?_
                    show G (139, [some (vR 100), some (vI u), some (vI ((g : Int) + 1)), none, none, none], [], mW τ (sAt (sAt (sAt (fxN τ ρ1 g) 2 (0 + (g : Int)) (τ.2.2 0 3 (g : Int))) 2 (5 + (g : Int)) 0) 2 (10 + (g : Int)) (τ.2.2 0 3 (g : Int))))
                    rw [show mW τ (fxN τ ρ1 (g + 1)) = mW τ (sAt (sAt (sAt (fxN τ ρ1 g) 2 (0 + (g : Int)) (τ.2.2 0 3 (g : Int))) 2 (5 + (g : Int)) 0) 2 (10 + (g : Int)) (τ.2.2 0 3 (g : Int))) from by show mW τ (fx1 τ (g : Int) (fxN τ ρ1 g)) = _; unfold fx1; (repeat' split) <;> first | rfl | (exfalso; omega)] at ihg
                    exact ihg
                  · exfalso; omega
            · skip
              refine hR.run1 3 (S' := (228, [some (vR 100), some (vI u), some (vI (g : Int)), some (vI ((((fxN τ ρ1 g).2.1 2 (g : Int)) + ((fxN τ ρ1 g).2.1 2 (5 + (g : Int)))) + ((fxN τ ρ1 g).2.1 2 (10 + (g : Int))))), some (vI (τ.2.2 0 3 (g : Int))), some (vI 1)], [], pset (mW τ (sAt (fxN τ ρ1 g) 2 (0 + (g : Int)) (τ.2.2 0 3 (g : Int)))) 114 (.inl (15, .inl (pup ((sAt (fxN τ ρ1 g) 2 (0 + (g : Int)) (τ.2.2 0 3 (g : Int))).2.1 2) (5 + (g : Int)) (τ.2.2 0 3 (g : Int))))))) rfl (by first | omega | (dsimp only [plus1]; omega) | (simp [plus1, sHt, sH, sS, sAt, sA, sup]; done) | (simp [plus1, sHt, sH, sS, sAt, sA, sup]; omega)) ?_
              rw [mW_y2]
              refine hR.run0 4 (S' := (187, [some (vR 100), some (vI u), some (vI (g : Int)), some (vI ((((fxN τ ρ1 g).2.1 2 (g : Int)) + ((fxN τ ρ1 g).2.1 2 (5 + (g : Int)))) + ((fxN τ ρ1 g).2.1 2 (10 + (g : Int))))), some (vI (τ.2.2 0 3 (g : Int))), some (vI 2)], [vI 3, vI 2], mW τ (sAt (sAt (fxN τ ρ1 g) 2 (0 + (g : Int)) (τ.2.2 0 3 (g : Int))) 2 (5 + (g : Int)) (τ.2.2 0 3 (g : Int))))) rfl ?_
              refine hR.br (C := 3 ≤ 2) rfl (by first | omega | (dsimp only [plus1]; omega) | (simp [plus1, sHt, sH, sS, sAt, sA, sup]; done) | (simp [plus1, sHt, sH, sS, sAt, sA, sup]; omega)) (fun c26 => ?_) (fun c26 => ?_)
              · exfalso; omega
              refine hR.run0 2 (S' := (193, [some (vR 100), some (vI u), some (vI (g : Int)), some (vI ((((fxN τ ρ1 g).2.1 2 (g : Int)) + ((fxN τ ρ1 g).2.1 2 (5 + (g : Int)))) + ((fxN τ ρ1 g).2.1 2 (10 + (g : Int))))), some (vI (τ.2.2 0 3 (g : Int))), some (vI 2)], [vI (τ.2.2 0 3 (g : Int)), vI ((((fxN τ ρ1 g).2.1 2 (g : Int)) + ((fxN τ ρ1 g).2.1 2 (5 + (g : Int)))) + ((fxN τ ρ1 g).2.1 2 (10 + (g : Int))))], mW τ (sAt (sAt (fxN τ ρ1 g) 2 (0 + (g : Int)) (τ.2.2 0 3 (g : Int))) 2 (5 + (g : Int)) (τ.2.2 0 3 (g : Int))))) rfl ?_
              refine hR.br (C := (((fxN τ ρ1 g).2.1 2 (g : Int)) + ((fxN τ ρ1 g).2.1 2 (5 + (g : Int)))) + ((fxN τ ρ1 g).2.1 2 (10 + (g : Int))) ≤ τ.2.2 0 3 (g : Int)) rfl (by first | omega | (dsimp only [plus1]; omega) | (simp [plus1, sHt, sH, sS, sAt, sA, sup]; done) | (simp [plus1, sHt, sH, sS, sAt, sA, sup]; omega)) (fun c27 => ?_) (fun c27 => ?_)
              · skip
                refine hR.run0 2 (S' := (139, [some (vR 100), some (vI u), some (vI ((g : Int) + 1)), some (vI ((((fxN τ ρ1 g).2.1 2 (g : Int)) + ((fxN τ ρ1 g).2.1 2 (5 + (g : Int)))) + ((fxN τ ρ1 g).2.1 2 (10 + (g : Int))))), some (vI (τ.2.2 0 3 (g : Int))), some (vI 2)], [], mW τ (sAt (sAt (fxN τ ρ1 g) 2 (0 + (g : Int)) (τ.2.2 0 3 (g : Int))) 2 (5 + (g : Int)) (τ.2.2 0 3 (g : Int))))) rfl ?_
                refine hR.fg 3 ?_
                show G (139, [some (vR 100), some (vI u), some (vI ((g : Int) + 1)), none, some (vI (τ.2.2 0 3 (g : Int))), some (vI 2)], [], mW τ (sAt (sAt (fxN τ ρ1 g) 2 (0 + (g : Int)) (τ.2.2 0 3 (g : Int))) 2 (5 + (g : Int)) (τ.2.2 0 3 (g : Int))))
                refine hR.fg 4 ?_
                show G (139, [some (vR 100), some (vI u), some (vI ((g : Int) + 1)), none, none, some (vI 2)], [], mW τ (sAt (sAt (fxN τ ρ1 g) 2 (0 + (g : Int)) (τ.2.2 0 3 (g : Int))) 2 (5 + (g : Int)) (τ.2.2 0 3 (g : Int))))
                refine hR.fg 5 ?_
                show G (139, [some (vR 100), some (vI u), some (vI ((g : Int) + 1)), none, none, none], [], mW τ (sAt (sAt (fxN τ ρ1 g) 2 (0 + (g : Int)) (τ.2.2 0 3 (g : Int))) 2 (5 + (g : Int)) (τ.2.2 0 3 (g : Int))))
                rw [show mW τ (fxN τ ρ1 (g + 1)) = mW τ (sAt (sAt (fxN τ ρ1 g) 2 (0 + (g : Int)) (τ.2.2 0 3 (g : Int))) 2 (5 + (g : Int)) (τ.2.2 0 3 (g : Int))) from by show mW τ (fx1 τ (g : Int) (fxN τ ρ1 g)) = _; unfold fx1; (repeat' split) <;> first | rfl | (exfalso; omega)] at ihg
                exact ihg
              · skip
                have f6 : (sAt (sAt (fxN τ ρ1 g) 2 (0 + (g : Int)) (τ.2.2 0 3 (g : Int))) 2 (5 + (g : Int)) (τ.2.2 0 3 (g : Int))).2.1 2 (10 + (g : Int)) = (fxN τ ρ1 g).2.1 2 (10 + (g : Int)) := by rw [sAt_at, if_neg (by omega), sAt_at, if_neg (by omega)]
                refine hR.run1 16 (S' := (218, [some (vR 100), some (vI u), some (vI (g : Int)), some (vI ((((fxN τ ρ1 g).2.1 2 (g : Int)) + ((fxN τ ρ1 g).2.1 2 (5 + (g : Int)))) + ((fxN τ ρ1 g).2.1 2 (10 + (g : Int))))), some (vI (τ.2.2 0 3 (g : Int))), some (vI 2)], [vI ((((fxN τ ρ1 g).2.1 2 (g : Int)) + ((fxN τ ρ1 g).2.1 2 (5 + (g : Int)))) + ((fxN τ ρ1 g).2.1 2 (10 + (g : Int)))), vI ((sAt (sAt (fxN τ ρ1 g) 2 (0 + (g : Int)) (τ.2.2 0 3 (g : Int))) 2 (5 + (g : Int)) (τ.2.2 0 3 (g : Int))).2.1 2 (10 + (g : Int))), vI (10 + (g : Int)), vR 114], mW τ (sAt (sAt (fxN τ ρ1 g) 2 (0 + (g : Int)) (τ.2.2 0 3 (g : Int))) 2 (5 + (g : Int)) (τ.2.2 0 3 (g : Int))))) rfl (by first | omega | (dsimp only [plus1]; omega) | (simp [plus1, sHt, sH, sS, sAt, sA, sup]; done) | (simp [plus1, sHt, sH, sS, sAt, sA, sup]; omega)) ?_
                refine hR.br (C := (sAt (sAt (fxN τ ρ1 g) 2 (0 + (g : Int)) (τ.2.2 0 3 (g : Int))) 2 (5 + (g : Int)) (τ.2.2 0 3 (g : Int))).2.1 2 (10 + (g : Int)) ≠ (((fxN τ ρ1 g).2.1 2 (g : Int)) + ((fxN τ ρ1 g).2.1 2 (5 + (g : Int)))) + ((fxN τ ρ1 g).2.1 2 (10 + (g : Int)))) rfl (by first | omega | (dsimp only [plus1]; omega) | (simp [plus1, sHt, sH, sS, sAt, sA, sup]; done) | (simp [plus1, sHt, sH, sS, sAt, sA, sup]; omega)) (fun c28 => ?_) (fun c28 => ?_)
                · skip
                  refine hR.run1 2 (S' := (228, [some (vR 100), some (vI u), some (vI (g : Int)), some (vI ((((fxN τ ρ1 g).2.1 2 (g : Int)) + ((fxN τ ρ1 g).2.1 2 (5 + (g : Int)))) + ((fxN τ ρ1 g).2.1 2 (10 + (g : Int))))), some (vI (τ.2.2 0 3 (g : Int))), some (vI 2)], [], pset (mW τ (sAt (sAt (fxN τ ρ1 g) 2 (0 + (g : Int)) (τ.2.2 0 3 (g : Int))) 2 (5 + (g : Int)) (τ.2.2 0 3 (g : Int)))) 114 (.inl (15, .inl (pup ((sAt (sAt (fxN τ ρ1 g) 2 (0 + (g : Int)) (τ.2.2 0 3 (g : Int))) 2 (5 + (g : Int)) (τ.2.2 0 3 (g : Int))).2.1 2) (10 + (g : Int)) 0))))) rfl (by first | omega | (dsimp only [plus1]; omega) | (simp [plus1, sHt, sH, sS, sAt, sA, sup]; done) | (simp [plus1, sHt, sH, sS, sAt, sA, sup]; omega)) ?_
                  rw [mW_y2]
                  refine hR.run0 4 (S' := (187, [some (vR 100), some (vI u), some (vI (g : Int)), some (vI ((((fxN τ ρ1 g).2.1 2 (g : Int)) + ((fxN τ ρ1 g).2.1 2 (5 + (g : Int)))) + ((fxN τ ρ1 g).2.1 2 (10 + (g : Int))))), some (vI (τ.2.2 0 3 (g : Int))), some (vI 3)], [vI 3, vI 3], mW τ (sAt (sAt (sAt (fxN τ ρ1 g) 2 (0 + (g : Int)) (τ.2.2 0 3 (g : Int))) 2 (5 + (g : Int)) (τ.2.2 0 3 (g : Int))) 2 (10 + (g : Int)) 0))) rfl ?_
                  refine hR.br (C := 3 ≤ 3) rfl (by first | omega | (dsimp only [plus1]; omega) | (simp [plus1, sHt, sH, sS, sAt, sA, sup]; done) | (simp [plus1, sHt, sH, sS, sAt, sA, sup]; omega)) (fun c29 => ?_) (fun c29 => ?_)
                  · skip
                    refine hR.run0 2 (S' := (139, [some (vR 100), some (vI u), some (vI ((g : Int) + 1)), some (vI ((((fxN τ ρ1 g).2.1 2 (g : Int)) + ((fxN τ ρ1 g).2.1 2 (5 + (g : Int)))) + ((fxN τ ρ1 g).2.1 2 (10 + (g : Int))))), some (vI (τ.2.2 0 3 (g : Int))), some (vI 3)], [], mW τ (sAt (sAt (sAt (fxN τ ρ1 g) 2 (0 + (g : Int)) (τ.2.2 0 3 (g : Int))) 2 (5 + (g : Int)) (τ.2.2 0 3 (g : Int))) 2 (10 + (g : Int)) 0))) rfl ?_
                    refine hR.fg 3 ?_
                    show G (139, [some (vR 100), some (vI u), some (vI ((g : Int) + 1)), none, some (vI (τ.2.2 0 3 (g : Int))), some (vI 3)], [], mW τ (sAt (sAt (sAt (fxN τ ρ1 g) 2 (0 + (g : Int)) (τ.2.2 0 3 (g : Int))) 2 (5 + (g : Int)) (τ.2.2 0 3 (g : Int))) 2 (10 + (g : Int)) 0))
                    refine hR.fg 4 ?_
                    show G (139, [some (vR 100), some (vI u), some (vI ((g : Int) + 1)), none, none, some (vI 3)], [], mW τ (sAt (sAt (sAt (fxN τ ρ1 g) 2 (0 + (g : Int)) (τ.2.2 0 3 (g : Int))) 2 (5 + (g : Int)) (τ.2.2 0 3 (g : Int))) 2 (10 + (g : Int)) 0))
                    refine hR.fg 5 ?_
                    show G (139, [some (vR 100), some (vI u), some (vI ((g : Int) + 1)), none, none, none], [], mW τ (sAt (sAt (sAt (fxN τ ρ1 g) 2 (0 + (g : Int)) (τ.2.2 0 3 (g : Int))) 2 (5 + (g : Int)) (τ.2.2 0 3 (g : Int))) 2 (10 + (g : Int)) 0))
                    rw [show mW τ (fxN τ ρ1 (g + 1)) = mW τ (sAt (sAt (sAt (fxN τ ρ1 g) 2 (0 + (g : Int)) (τ.2.2 0 3 (g : Int))) 2 (5 + (g : Int)) (τ.2.2 0 3 (g : Int))) 2 (10 + (g : Int)) 0) from by show mW τ (fx1 τ (g : Int) (fxN τ ρ1 g)) = _; unfold fx1; (repeat' split) <;> first | rfl | (exfalso; omega)] at ihg
                    exact ihg
                  · exfalso; omega
                · skip
                  refine hR.run1 3 (S' := (228, [some (vR 100), some (vI u), some (vI (g : Int)), some (vI ((((fxN τ ρ1 g).2.1 2 (g : Int)) + ((fxN τ ρ1 g).2.1 2 (5 + (g : Int)))) + ((fxN τ ρ1 g).2.1 2 (10 + (g : Int))))), some (vI (τ.2.2 0 3 (g : Int))), some (vI 2)], [], pset (mW τ (sAt (sAt (fxN τ ρ1 g) 2 (0 + (g : Int)) (τ.2.2 0 3 (g : Int))) 2 (5 + (g : Int)) (τ.2.2 0 3 (g : Int)))) 114 (.inl (15, .inl (pup ((sAt (sAt (fxN τ ρ1 g) 2 (0 + (g : Int)) (τ.2.2 0 3 (g : Int))) 2 (5 + (g : Int)) (τ.2.2 0 3 (g : Int))).2.1 2) (10 + (g : Int)) (τ.2.2 0 3 (g : Int))))))) rfl (by first | omega | (dsimp only [plus1]; omega) | (simp [plus1, sHt, sH, sS, sAt, sA, sup]; done) | (simp [plus1, sHt, sH, sS, sAt, sA, sup]; omega)) ?_
                  rw [mW_y2]
                  refine hR.run0 4 (S' := (187, [some (vR 100), some (vI u), some (vI (g : Int)), some (vI ((((fxN τ ρ1 g).2.1 2 (g : Int)) + ((fxN τ ρ1 g).2.1 2 (5 + (g : Int)))) + ((fxN τ ρ1 g).2.1 2 (10 + (g : Int))))), some (vI (τ.2.2 0 3 (g : Int))), some (vI 3)], [vI 3, vI 3], mW τ (sAt (sAt (sAt (fxN τ ρ1 g) 2 (0 + (g : Int)) (τ.2.2 0 3 (g : Int))) 2 (5 + (g : Int)) (τ.2.2 0 3 (g : Int))) 2 (10 + (g : Int)) (τ.2.2 0 3 (g : Int))))) rfl ?_
                  refine hR.br (C := 3 ≤ 3) rfl (by first | omega | (dsimp only [plus1]; omega) | (simp [plus1, sHt, sH, sS, sAt, sA, sup]; done) | (simp [plus1, sHt, sH, sS, sAt, sA, sup]; omega)) (fun c30 => ?_) (fun c30 => ?_)
                  · skip
                    refine hR.run0 2 (S' := (139, [some (vR 100), some (vI u), some (vI ((g : Int) + 1)), some (vI ((((fxN τ ρ1 g).2.1 2 (g : Int)) + ((fxN τ ρ1 g).2.1 2 (5 + (g : Int)))) + ((fxN τ ρ1 g).2.1 2 (10 + (g : Int))))), some (vI (τ.2.2 0 3 (g : Int))), some (vI 3)], [], mW τ (sAt (sAt (sAt (fxN τ ρ1 g) 2 (0 + (g : Int)) (τ.2.2 0 3 (g : Int))) 2 (5 + (g : Int)) (τ.2.2 0 3 (g : Int))) 2 (10 + (g : Int)) (τ.2.2 0 3 (g : Int))))) rfl ?_
                    refine hR.fg 3 ?_
                    show G (139, [some (vR 100), some (vI u), some (vI ((g : Int) + 1)), none, some (vI (τ.2.2 0 3 (g : Int))), some (vI 3)], [], mW τ (sAt (sAt (sAt (fxN τ ρ1 g) 2 (0 + (g : Int)) (τ.2.2 0 3 (g : Int))) 2 (5 + (g : Int)) (τ.2.2 0 3 (g : Int))) 2 (10 + (g : Int)) (τ.2.2 0 3 (g : Int))))
                    refine hR.fg 4 ?_
                    show G (139, [some (vR 100), some (vI u), some (vI ((g : Int) + 1)), none, none, some (vI 3)], [], mW τ (sAt (sAt (sAt (fxN τ ρ1 g) 2 (0 + (g : Int)) (τ.2.2 0 3 (g : Int))) 2 (5 + (g : Int)) (τ.2.2 0 3 (g : Int))) 2 (10 + (g : Int)) (τ.2.2 0 3 (g : Int))))
                    refine hR.fg 5 ?_
                    show G (139, [some (vR 100), some (vI u), some (vI ((g : Int) + 1)), none, none, none], [], mW τ (sAt (sAt (sAt (fxN τ ρ1 g) 2 (0 + (g : Int)) (τ.2.2 0 3 (g : Int))) 2 (5 + (g : Int)) (τ.2.2 0 3 (g : Int))) 2 (10 + (g : Int)) (τ.2.2 0 3 (g : Int))))
                    rw [show mW τ (fxN τ ρ1 (g + 1)) = mW τ (sAt (sAt (sAt (fxN τ ρ1 g) 2 (0 + (g : Int)) (τ.2.2 0 3 (g : Int))) 2 (5 + (g : Int)) (τ.2.2 0 3 (g : Int))) 2 (10 + (g : Int)) (τ.2.2 0 3 (g : Int))) from by show mW τ (fx1 τ (g : Int) (fxN τ ρ1 g)) = _; unfold fx1; (repeat' split) <;> first | rfl | (exfalso; omega)] at ihg
                    exact ihg
                  · exfalso; omega
    · show G (139, [some (vR 100), some (vI u), some (vI ((5 : Nat) : Int)), none, none, none], [], mW τ (fxN τ ρ1 5))
      show G (139, [some (vR 100), some (vI u), some (vI 5), none, none, none], [], mW τ (fxN τ ρ1 5))
      generalize fxN τ ρ1 5 = ρ5 at hR ⊢
      refine hR.run0 2 (S' := (141, [some (vR 100), some (vI u), some (vI 5), none, none, none], [vI 5, vI 5], mW τ ρ5)) rfl ?_
      refine hR.br (C := 5 ≤ 5) rfl (by first | omega | (dsimp only [plus1]; omega) | (simp [plus1, sHt, sH, sS, sAt, sA, sup]; done) | (simp [plus1, sHt, sH, sS, sAt, sA, sup]; omega)) (fun c31 => ?_) (fun c31 => ?_)
      · skip
        exact hR.rt rfl trivial (by rfl) (by rfl)
      · exfalso; omega
  exact hL4 0 (Nat.zero_le _)
theorem sr_reckons (τ ρ : St) {u : Int} (hu : -2147483648 ≤ u ∧ u ≤ 2147483647) (hI : Iv τ)  : Sp mX6_reckons roC 1 [vR 100, vI u] (mW τ ρ) (.inl none) (mW τ (rkF τ u ρ)) := by
  refine Sp.of (lk := lkX6) (tb := bX6_reckons) (by decide) lkX6_ok tX6_reckons (mW_keys _ _ _ _) (Nat.le_of_ble_eq_true rfl) (fun G hR => ?_)
  refine hR.run0 2 (S' := (2, [some (vR 100), some (vI u), some (vI 0), none, none, none], [], mW τ ρ)) rfl ?_
  have hL1 : ∀ i : Nat, i ≤ 15 → G (2, [some (vR 100), some (vI u), some (vI ((i : Nat) : Int)), none, none, none], [], mW τ (zerN ρ i)) := by
    refine back (P := fun i : Nat => G (2, [some (vR 100), some (vI u), some (vI ((i : Nat) : Int)), none, none, none], [], mW τ (zerN ρ i))) ?_ ?_
    · intro i hii ihi
      replace ihi : G (2, [some (vR 100), some (vI u), some (vI ((i + 1 : Nat) : Int)), none, none, none], [], mW τ (zerN ρ (i + 1))) := ihi
      show G (2, [some (vR 100), some (vI u), some (vI (i : Int)), none, none, none], [], mW τ (zerN ρ i))
      refine hR.run0 2 (S' := (5, [some (vR 100), some (vI u), some (vI (i : Int)), none, none, none], [vI 15, vI (i : Int)], mW τ (zerN ρ i))) rfl ?_
      refine hR.br (C := 15 ≤ (i : Int)) rfl (by first | omega | (dsimp only [plus1]; omega) | (simp [plus1, sHt, sH, sS, sAt, sA, sup]; done) | (simp [plus1, sHt, sH, sS, sAt, sA, sup]; omega)) (fun c1 => ?_) (fun c1 => ?_)
      · exfalso; omega
      refine hR.run1 5 (S' := (15, [some (vR 100), some (vI u), some (vI (i : Int)), none, none, none], [], pset (mW τ (zerN ρ i)) 114 (.inl (15, .inl (pup ((zerN ρ i).2.1 2) (i : Int) 0))))) rfl (by first | omega | (dsimp only [plus1]; omega) | (simp [plus1, sHt, sH, sS, sAt, sA, sup]; done) | (simp [plus1, sHt, sH, sS, sAt, sA, sup]; omega)) ?_
      rw [mW_y2]
      refine hR.run0 2 (S' := (2, [some (vR 100), some (vI u), some (vI ((i : Int) + 1)), none, none, none], [], mW τ (sAt (zerN ρ i) 2 (i : Int) 0))) rfl ?_
      rw [show mW τ (zerN ρ (i + 1)) = mW τ (sAt (zerN ρ i) 2 (i : Int) 0) from by rfl] at ihi
      exact ihi
    · show G (2, [some (vR 100), some (vI u), some (vI ((15 : Nat) : Int)), none, none, none], [], mW τ (zerN ρ 15))
      show G (2, [some (vR 100), some (vI u), some (vI 15), none, none, none], [], mW τ (zerN ρ 15))
      have hfin : mW τ (rkF τ u ρ) = mW τ (fxN τ (rkO τ u (zerN ρ 15) 7) 5) := rfl
      rw [hfin] at hR
      have yy0 : ∀ p k : Int, (0 ≤ p ∧ p < 3) → (0 ≤ k ∧ k < 5) → (rkO τ u (zerN ρ 15) 7).2.1 2 (5 * p + k) = yldN (τ.2.1 0) (τ.2.1 1) (τ.2.1 2) (τ.1 5) p k u 7 := fun p k hp hk => rk_sum hI hp hk ρ
      generalize zerN ρ 15 = ρz at hR yy0 ⊢
      refine hR.run0 2 (S' := (5, [some (vR 100), some (vI u), some (vI 15), none, none, none], [vI 15, vI 15], mW τ ρz)) rfl ?_
      refine hR.br (C := 15 ≤ 15) rfl (by first | omega | (dsimp only [plus1]; omega) | (simp [plus1, sHt, sH, sS, sAt, sA, sup]; done) | (simp [plus1, sHt, sH, sS, sAt, sA, sup]; omega)) (fun c2 => ?_) (fun c2 => ?_)
      · skip
        refine hR.run0 2 (S' := (23, [some (vR 100), some (vI u), some (vI 0), none, none, none], [], mW τ ρz)) rfl ?_
        have hL2 : ∀ j : Nat, j ≤ 7 → G (23, [some (vR 100), some (vI u), some (vI ((j : Nat) : Int)), none, none, none], [], mW τ (rkO τ u ρz j)) := by
          refine back (P := fun j : Nat => G (23, [some (vR 100), some (vI u), some (vI ((j : Nat) : Int)), none, none, none], [], mW τ (rkO τ u ρz j))) ?_ ?_
          · intro j hij ihj
            replace ihj : G (23, [some (vR 100), some (vI u), some (vI ((j + 1 : Nat) : Int)), none, none, none], [], mW τ (rkO τ u ρz (j + 1))) := ihj
            show G (23, [some (vR 100), some (vI u), some (vI (j : Int)), none, none, none], [], mW τ (rkO τ u ρz j))
            refine hR.run0 2 (S' := (26, [some (vR 100), some (vI u), some (vI (j : Int)), none, none, none], [vI 7, vI (j : Int)], mW τ (rkO τ u ρz j))) rfl ?_
            refine hR.br (C := 7 ≤ (j : Int)) rfl (by first | omega | (dsimp only [plus1]; omega) | (simp [plus1, sHt, sH, sS, sAt, sA, sup]; done) | (simp [plus1, sHt, sH, sS, sAt, sA, sup]; omega)) (fun c3 => ?_) (fun c3 => ?_)
            · exfalso; omega
            refine hR.run0 2 (S' := (31, [some (vR 100), some (vI u), some (vI (j : Int)), some (vI 0), none, none], [], mW τ (rkO τ u ρz j))) rfl ?_
            refine rkA τ ρ hu hI (by omega) hR ?_
            have hst : rkI τ u (j : Int) (rkO τ u ρz j) 24 = rkO τ u ρz (j + 1) := rfl
            rw [hst]
            generalize rkO τ u ρz (j + 1) = ρy at ihj ⊢
            show G (31, [some (vR 100), some (vI u), some (vI (j : Int)), some (vI 24), none, none], [], mW τ ρy)
            refine hR.run0 2 (S' := (34, [some (vR 100), some (vI u), some (vI (j : Int)), some (vI 24), none, none], [vI 24, vI 24], mW τ ρy)) rfl ?_
            refine hR.br (C := 24 ≤ 24) rfl (by first | omega | (dsimp only [plus1]; omega) | (simp [plus1, sHt, sH, sS, sAt, sA, sup]; done) | (simp [plus1, sHt, sH, sS, sAt, sA, sup]; omega)) (fun c4 => ?_) (fun c4 => ?_)
            · skip
              refine hR.run0 2 (S' := (23, [some (vR 100), some (vI u), some (vI ((j : Int) + 1)), some (vI 24), none, none], [], mW τ ρy)) rfl ?_
              refine hR.fg 3 ?_
              show G (23, [some (vR 100), some (vI u), some (vI ((j : Int) + 1)), none, none, none], [], mW τ ρy)
              exact ihj
            · exfalso; omega
          · show G (23, [some (vR 100), some (vI u), some (vI ((7 : Nat) : Int)), none, none, none], [], mW τ (rkO τ u ρz 7))
            show G (23, [some (vR 100), some (vI u), some (vI 7), none, none, none], [], mW τ (rkO τ u ρz 7))
            generalize rkO τ u ρz 7 = ρ1 at hR yy0 ⊢
            refine hR.run0 2 (S' := (26, [some (vR 100), some (vI u), some (vI 7), none, none, none], [vI 7, vI 7], mW τ ρ1)) rfl ?_
            refine hR.br (C := 7 ≤ 7) rfl (by first | omega | (dsimp only [plus1]; omega) | (simp [plus1, sHt, sH, sS, sAt, sA, sup]; done) | (simp [plus1, sHt, sH, sS, sAt, sA, sup]; omega)) (fun c5 => ?_) (fun c5 => ?_)
            · skip
              refine hR.run0 2 (S' := (139, [some (vR 100), some (vI u), some (vI 0), none, none, none], [], mW τ ρ1)) rfl ?_
              exact rkC τ ρ hI yy0 hR
            · exfalso; omega
        exact hL2 0 (Nat.zero_le _)
      · exfalso; omega
  exact hL1 0 (Nat.zero_le _)
