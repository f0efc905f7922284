theorem sr_isVictim (τ ρ : St) {p h : Int} (hp : 0 ≤ p ∧ p < 3) (hhx : 0 ≤ h ∧ h < 7) (hb : ∀ c, -1 ≤ τ.2.1 2 c ∧ τ.2.1 2 c ≤ 5) (hh : ∀ p g, 0 ≤ τ.2.2 0 p g ∧ τ.2.2 0 p g ≤ 12) (htu : 0 ≤ τ.1 1 ∧ τ.1 1 < 3) : Sp mX6_isVictim roC 1 [vR 100, vI p, vI h] (mW τ ρ) (.inl (some (vI (bI (canB τ p h))))) (mW τ ρ) := by
  have z0 := vic_eq hp hhx hb
  refine Sp.of (lk := lkX6) (tb := bX6_isVictim) (by decide) lkX6_ok tX6_isVictim (mW_keys _ _ _ _) (Nat.le_of_ble_eq_true rfl) (fun G hR => ?_)
  refine hR.run0 4 (S' := (5, [some (vR 100), some (vI p), some (vI h), some (vI 0), some (vI 0)], [], mW τ ρ)) rfl ?_
  have hL : ∀ i : Nat, i ≤ 24 → G (5, [some (vR 100), some (vI p), some (vI h), some (vI (bI (vicN (τ.2.1 2) p h i))), some (vI ((i : Nat) : Int))], [], mW τ ρ) := by
    refine back (P := fun i : Nat => G (5, [some (vR 100), some (vI p), some (vI h), some (vI (bI (vicN (τ.2.1 2) p h i))), some (vI ((i : Nat) : Int))], [], mW τ ρ)) ?_ ?_
    · intro i hii ihi
      replace ihi : G (5, [some (vR 100), some (vI p), some (vI h), some (vI (bI (vicN (τ.2.1 2) p h (i + 1)))), some (vI ((i + 1 : Nat) : Int))], [], mW τ ρ) := ihi
      show G (5, [some (vR 100), some (vI p), some (vI h), some (vI (bI (vicN (τ.2.1 2) p h i))), some (vI (i : Int))], [], mW τ ρ)
      refine hR.run0 2 (S' := (9, [some (vR 100), some (vI p), some (vI h), some (vI (bI (vicN (τ.2.1 2) p h i))), some (vI (i : Int))], [vI 24, vI (i : Int)], mW τ ρ)) rfl ?_
      refine hR.br (C := 24 ≤ (i : Int)) rfl (by first | omega | (dsimp only [plus1]; omega) | (simp [plus1, sHt, sH, sS, sAt, sA, sup]; done) | (simp [plus1, sHt, sH, sS, sAt, sA, sup]; omega)) (fun c1 => ?_) (fun c1 => ?_)
      · exfalso; omega
      refine hR.run0 1 (S' := (13, [some (vR 100), some (vI p), some (vI h), some (vI (bI (vicN (τ.2.1 2) p h i))), some (vI (i : Int))], [vI (bI (vicN (τ.2.1 2) p h i))], mW τ ρ)) rfl ?_
      refine hR.br (C := bI (vicN (τ.2.1 2) p h i) ≠ 0) rfl (bI_r _) (fun c2 => ?_) (fun c2 => ?_)
      · replace c2 : (vicN (τ.2.1 2) p h i) = true := bI1 c2
        refine hR.run0 5 (S' := (5, [some (vR 100), some (vI p), some (vI h), some (vI 1), some (vI ((i : Int) + 1))], [], mW τ ρ)) rfl ?_
        rw [show bI (vicN (τ.2.1 2) p h (i + 1)) = 1 from by first | (exfalso; omega) | (unfold vicN at *; simp_all [anyN, bI_t, bI_f]; done)] at ihi
        exact ihi
      · replace c2 : (vicN (τ.2.1 2) p h i) = false := bI0 (Classical.not_not.mp c2)
        refine hR.run0 2 (S' := (19, [some (vR 100), some (vI p), some (vI h), some (vI (bI (vicN (τ.2.1 2) p h i))), some (vI (i : Int))], [vI (i : Int), vI h], mW τ ρ)) rfl ?_
        refine hR.cs [vI h, vI (i : Int)] kX6_137 rfl rfl (by first | decide | exact Nat.le_refl _) (by decide) (Nat.le_of_ble_eq_true rfl) rfl (sr_isOf _ _ (by omega) (by omega)) ?_
        show G (22, [some (vR 100), some (vI p), some (vI h), some (vI (bI (vicN (τ.2.1 2) p h i))), some (vI (i : Int))], [vI (bI (arnd h (i : Int)))], mW τ ρ)
        refine hR.br (C := bI (arnd h (i : Int)) = 0) rfl (bI_r _) (fun c3 => ?_) (fun c3 => ?_)
        · replace c3 : (arnd h (i : Int)) = false := bI0 c3
          refine hR.run0 4 (S' := (5, [some (vR 100), some (vI p), some (vI h), some (vI 0), some (vI ((i : Int) + 1))], [], mW τ ρ)) rfl ?_
          rw [show bI (vicN (τ.2.1 2) p h (i + 1)) = 0 from by first | (exfalso; omega) | (unfold vicN at *; simp_all [anyN, bI_t, bI_f]; done)] at ihi
          exact ihi
        · replace c3 : (arnd h (i : Int)) = true := bI1 c3
          refine hR.run0 2 (S' := (28, [some (vR 100), some (vI p), some (vI h), some (vI (bI (vicN (τ.2.1 2) p h i))), some (vI (i : Int))], [vI (i : Int), vR 100], mW τ ρ)) rfl ?_
          have f1 := ownB_r (hb (i : Int))
          refine hR.cv [vI (i : Int)] kX6_74 rfl rfl ⟨_, _, _, rfl, rfl, rfl⟩ (by first | decide | exact Nat.le_refl _) (by decide) (Nat.le_of_ble_eq_true rfl) rfl (sr_ownerAt _ _ (by omega) hb) ?_
          show G (31, [some (vR 100), some (vI p), some (vI h), some (vI (bI (vicN (τ.2.1 2) p h i))), some (vI (i : Int))], [vI (ownB (τ.2.1 2 (i : Int)))], mW τ ρ)
          refine hR.run0 1 (S' := (32, [some (vR 100), some (vI p), some (vI h), some (vI (bI (vicN (τ.2.1 2) p h i))), some (vI (i : Int))], [vI p, vI (ownB (τ.2.1 2 (i : Int)))], mW τ ρ)) rfl ?_
          refine hR.br (C := ownB (τ.2.1 2 (i : Int)) ≠ p) rfl (by first | omega | (dsimp only [plus1]; omega) | (simp [plus1, sHt, sH, sS, sAt, sA, sup]; done) | (simp [plus1, sHt, sH, sS, sAt, sA, sup]; omega)) (fun c4 => ?_) (fun c4 => ?_)
          · skip
            refine hR.run0 4 (S' := (5, [some (vR 100), some (vI p), some (vI h), some (vI 0), some (vI ((i : Int) + 1))], [], mW τ ρ)) rfl ?_
            rw [show bI (vicN (τ.2.1 2) p h (i + 1)) = 0 from by first | (exfalso; omega) | (unfold vicN at *; simp_all [anyN, bI_t, bI_f]; done)] at ihi
            exact ihi
          · skip
            refine hR.run0 5 (S' := (5, [some (vR 100), some (vI p), some (vI h), some (vI 1), some (vI ((i : Int) + 1))], [], mW τ ρ)) rfl ?_
            rw [show bI (vicN (τ.2.1 2) p h (i + 1)) = 1 from by first | (exfalso; omega) | (unfold vicN at *; simp_all [anyN, bI_t, bI_f]; done)] at ihi
            exact ihi
    · show G (5, [some (vR 100), some (vI p), some (vI h), some (vI (bI (vicN (τ.2.1 2) p h 24))), some (vI ((24 : Nat) : Int))], [], mW τ ρ)
      show G (5, [some (vR 100), some (vI p), some (vI h), some (vI (bI (vicN (τ.2.1 2) p h 24))), some (vI 24)], [], mW τ ρ)
      refine hR.run0 2 (S' := (9, [some (vR 100), some (vI p), some (vI h), some (vI (bI (vicN (τ.2.1 2) p h 24))), some (vI 24)], [vI 24, vI 24], mW τ ρ)) rfl ?_
      refine hR.br (C := 24 ≤ 24) rfl (by first | omega | (dsimp only [plus1]; omega) | (simp [plus1, sHt, sH, sS, sAt, sA, sup]; done) | (simp [plus1, sHt, sH, sS, sAt, sA, sup]; omega)) (fun c5 => ?_) (fun c5 => ?_)
      · skip
        refine hR.run0 1 (S' := (48, [some (vR 100), some (vI p), some (vI h), some (vI (bI (vicN (τ.2.1 2) p h 24))), some (vI 24)], [vI (bI (vicN (τ.2.1 2) p h 24))], mW τ ρ)) rfl ?_
        refine hR.br (C := bI (vicN (τ.2.1 2) p h 24) = 0) rfl (bI_r _) (fun c6 => ?_) (fun c6 => ?_)
        · replace c6 : (vicN (τ.2.1 2) p h 24) = false := bI0 c6
          refine hR.run0 1 (S' := (72, [some (vR 100), some (vI p), some (vI h), some (vI (bI (vicN (τ.2.1 2) p h 24))), some (vI 24)], [vI 0], mW τ ρ)) rfl ?_
          exact hR.rt rfl (Or.inl rfl) (by rw [show bI (canB τ p h) = 0 from by first | (exfalso; omega) | exact bIf (fun hx => by simp only [canB, Bool.and_eq_true, decide_eq_true_eq] at hx; first | omega | (simp_all; done) | (simp_all; omega))]) (by rfl)
        · replace c6 : (vicN (τ.2.1 2) p h 24) = true := bI1 c6
          refine hR.run0 3 (S' := (56, [some (vR 100), some (vI p), some (vI h), some (vI (bI (vicN (τ.2.1 2) p h 24))), some (vI 24)], [vI (τ.1 1), vI p], mW τ ρ)) rfl ?_
          refine hR.br (C := p = τ.1 1) rfl (by first | omega | (dsimp only [plus1]; omega) | (simp [plus1, sHt, sH, sS, sAt, sA, sup]; done) | (simp [plus1, sHt, sH, sS, sAt, sA, sup]; omega)) (fun c7 => ?_) (fun c7 => ?_)
          · skip
            refine hR.run0 1 (S' := (72, [some (vR 100), some (vI p), some (vI h), some (vI (bI (vicN (τ.2.1 2) p h 24))), some (vI 24)], [vI 0], mW τ ρ)) rfl ?_
            exact hR.rt rfl (Or.inl rfl) (by rw [show bI (canB τ p h) = 0 from by first | (exfalso; omega) | exact bIf (fun hx => by simp only [canB, Bool.and_eq_true, decide_eq_true_eq] at hx; first | omega | (simp_all; done) | (simp_all; omega))]) (by rfl)
          · skip
            refine hR.run0 2 (S' := (61, [some (vR 100), some (vI p), some (vI h), some (vI (bI (vicN (τ.2.1 2) p h 24))), some (vI 24)], [vI p, vR 100], mW τ ρ)) rfl ?_
            have f2 := tot_r hh p
            refine hR.cv [vI p] kX6_175 rfl rfl ⟨_, _, _, rfl, rfl, rfl⟩ (by first | decide | exact Nat.le_refl _) (by decide) (Nat.le_of_ble_eq_true rfl) rfl (sr_handOf _ _ (by omega) hh) ?_
            show G (64, [some (vR 100), some (vI p), some (vI h), some (vI (bI (vicN (τ.2.1 2) p h 24))), some (vI 24)], [vI (tot (τ.2.2 0) p)], mW τ ρ)
            refine hR.br (C := tot (τ.2.2 0) p ≤ 0) rfl (by first | omega | (dsimp only [plus1]; omega) | (simp [plus1, sHt, sH, sS, sAt, sA, sup]; done) | (simp [plus1, sHt, sH, sS, sAt, sA, sup]; omega)) (fun c8 => ?_) (fun c8 => ?_)
            · skip
              refine hR.run0 1 (S' := (72, [some (vR 100), some (vI p), some (vI h), some (vI (bI (vicN (τ.2.1 2) p h 24))), some (vI 24)], [vI 0], mW τ ρ)) rfl ?_
              exact hR.rt rfl (Or.inl rfl) (by rw [show bI (canB τ p h) = 0 from by first | (exfalso; omega) | exact bIf (fun hx => by simp only [canB, Bool.and_eq_true, decide_eq_true_eq] at hx; first | omega | (simp_all; done) | (simp_all; omega))]) (by rfl)
            · skip
              refine hR.run0 2 (S' := (72, [some (vR 100), some (vI p), some (vI h), some (vI (bI (vicN (τ.2.1 2) p h 24))), some (vI 24)], [vI 1], mW τ ρ)) rfl ?_
              exact hR.rt rfl (Or.inr rfl) (by rw [show bI (canB τ p h) = 1 from by first | (exfalso; omega) | exact bIt (by simp only [canB, Bool.and_eq_true, decide_eq_true_eq]; (first | rw [z0, decide_eq_true_eq] at * | skip); omega)]) (by rfl)
      · exfalso; omega
  exact hL 0 (Nat.zero_le _)
theorem sr_mayRobn (τ ρ : St) {h : Int} (hhx : 0 ≤ h ∧ h < 7) (hb : ∀ c, -1 ≤ τ.2.1 2 c ∧ τ.2.1 2 c ≤ 5) (hh : ∀ p g, 0 ≤ τ.2.2 0 p g ∧ τ.2.2 0 p g ≤ 12) (htu : 0 ≤ τ.1 1 ∧ τ.1 1 < 3) (hrb : 0 ≤ τ.1 5 ∧ τ.1 5 < 7) : Sp mX6_mayRob roC 2 [vR 100, vI h, vI (-1)] (mW τ ρ) (.inl (some (vI (bI (mayR τ h (-1)))))) (mW τ ρ) := by
  refine Sp.of (lk := lkX6) (tb := bX6_mayRob) (by decide) lkX6_ok tX6_mayRob (mW_keys _ _ _ _) (Nat.le_of_ble_eq_true rfl) (fun G hR => ?_)
  refine hR.run0 3 (S' := (3, [some (vR 100), some (vI h), some (vI (-1)), none], [vI h, vI 0, vR 100], mW τ ρ)) rfl ?_
  refine hR.cv [vI 0, vI h] kX6_188 rfl rfl ⟨_, _, _, rfl, rfl, rfl⟩ (by first | decide | exact Nat.le_refl _) (by decide) (Nat.le_of_ble_eq_true rfl) rfl (sr_isVictim _ _ (by omega) (by omega) hb hh htu) ?_
  show G (6, [some (vR 100), some (vI h), some (vI (-1)), none], [vI (bI (canB τ 0 h))], mW τ ρ)
  refine hR.br (C := bI (canB τ 0 h) ≠ 0) rfl (bI_r _) (fun c1 => ?_) (fun c1 => ?_)
  · replace c1 : (canB τ 0 h) = true := bI1 c1
    refine hR.run0 6 (S' := (38, [some (vR 100), some (vI h), some (vI (-1)), some (vI 1)], [vI (τ.1 5), vI h], mW τ ρ)) rfl ?_
    refine hR.br (C := h = τ.1 5) rfl (by first | omega | (dsimp only [plus1]; omega) | (simp [plus1, sHt, sH, sS, sAt, sA, sup]; done) | (simp [plus1, sHt, sH, sS, sAt, sA, sup]; omega)) (fun c2 => ?_) (fun c2 => ?_)
    · skip
      refine hR.run0 1 (S' := (67, [some (vR 100), some (vI h), some (vI (-1)), some (vI 1)], [vI 0], mW τ ρ)) rfl ?_
      exact hR.rt rfl (Or.inl rfl) (by rw [show bI (mayR τ h (-1)) = 0 from by first | (exfalso; omega) | (simp_all [mayR, bI_t, bI_f]; done) | (have zz : v ≠ -1 := by omega; simp_all [mayR, bI_t, bI_f]; done)]) (by rfl)
    · skip
      refine hR.run0 2 (S' := (43, [some (vR 100), some (vI h), some (vI (-1)), some (vI 1)], [vI (-1), vI (-1)], mW τ ρ)) rfl ?_
      refine hR.br (C := (-1) ≠ (-1)) rfl (by first | omega | (dsimp only [plus1]; omega) | (simp [plus1, sHt, sH, sS, sAt, sA, sup]; done) | (simp [plus1, sHt, sH, sS, sAt, sA, sup]; omega)) (fun c3 => ?_) (fun c3 => ?_)
      · exfalso; omega
      refine hR.run0 1 (S' := (47, [some (vR 100), some (vI h), some (vI (-1)), some (vI 1)], [vI 1], mW τ ρ)) rfl ?_
      refine hR.br (C := 1 ≠ 0) rfl (by first | omega | (dsimp only [plus1]; omega) | (simp [plus1, sHt, sH, sS, sAt, sA, sup]; done) | (simp [plus1, sHt, sH, sS, sAt, sA, sup]; omega)) (fun c4 => ?_) (fun c4 => ?_)
      · skip
        refine hR.run0 1 (S' := (67, [some (vR 100), some (vI h), some (vI (-1)), some (vI 1)], [vI 0], mW τ ρ)) rfl ?_
        exact hR.rt rfl (Or.inl rfl) (by rw [show bI (mayR τ h (-1)) = 0 from by first | (exfalso; omega) | (simp_all [mayR, bI_t, bI_f]; done) | (have zz : v ≠ -1 := by omega; simp_all [mayR, bI_t, bI_f]; done)]) (by rfl)
      · exfalso; omega
  · replace c1 : (canB τ 0 h) = false := bI0 (Classical.not_not.mp c1)
    refine hR.run0 3 (S' := (12, [some (vR 100), some (vI h), some (vI (-1)), none], [vI h, vI 1, vR 100], mW τ ρ)) rfl ?_
    refine hR.cv [vI 1, vI h] kX6_188 rfl rfl ⟨_, _, _, rfl, rfl, rfl⟩ (by first | decide | exact Nat.le_refl _) (by decide) (Nat.le_of_ble_eq_true rfl) rfl (sr_isVictim _ _ (by omega) (by omega) hb hh htu) ?_
    show G (15, [some (vR 100), some (vI h), some (vI (-1)), none], [vI (bI (canB τ 1 h))], mW τ ρ)
    refine hR.br (C := bI (canB τ 1 h) ≠ 0) rfl (bI_r _) (fun c5 => ?_) (fun c5 => ?_)
    · replace c5 : (canB τ 1 h) = true := bI1 c5
      refine hR.run0 6 (S' := (38, [some (vR 100), some (vI h), some (vI (-1)), some (vI 1)], [vI (τ.1 5), vI h], mW τ ρ)) rfl ?_
      refine hR.br (C := h = τ.1 5) rfl (by first | omega | (dsimp only [plus1]; omega) | (simp [plus1, sHt, sH, sS, sAt, sA, sup]; done) | (simp [plus1, sHt, sH, sS, sAt, sA, sup]; omega)) (fun c6 => ?_) (fun c6 => ?_)
      · skip
        refine hR.run0 1 (S' := (67, [some (vR 100), some (vI h), some (vI (-1)), some (vI 1)], [vI 0], mW τ ρ)) rfl ?_
        exact hR.rt rfl (Or.inl rfl) (by rw [show bI (mayR τ h (-1)) = 0 from by first | (exfalso; omega) | (simp_all [mayR, bI_t, bI_f]; done) | (have zz : v ≠ -1 := by omega; simp_all [mayR, bI_t, bI_f]; done)]) (by rfl)
      · skip
        refine hR.run0 2 (S' := (43, [some (vR 100), some (vI h), some (vI (-1)), some (vI 1)], [vI (-1), vI (-1)], mW τ ρ)) rfl ?_
        refine hR.br (C := (-1) ≠ (-1)) rfl (by first | omega | (dsimp only [plus1]; omega) | (simp [plus1, sHt, sH, sS, sAt, sA, sup]; done) | (simp [plus1, sHt, sH, sS, sAt, sA, sup]; omega)) (fun c7 => ?_) (fun c7 => ?_)
        · exfalso; omega
        refine hR.run0 1 (S' := (47, [some (vR 100), some (vI h), some (vI (-1)), some (vI 1)], [vI 1], mW τ ρ)) rfl ?_
        refine hR.br (C := 1 ≠ 0) rfl (by first | omega | (dsimp only [plus1]; omega) | (simp [plus1, sHt, sH, sS, sAt, sA, sup]; done) | (simp [plus1, sHt, sH, sS, sAt, sA, sup]; omega)) (fun c8 => ?_) (fun c8 => ?_)
        · skip
          refine hR.run0 1 (S' := (67, [some (vR 100), some (vI h), some (vI (-1)), some (vI 1)], [vI 0], mW τ ρ)) rfl ?_
          exact hR.rt rfl (Or.inl rfl) (by rw [show bI (mayR τ h (-1)) = 0 from by first | (exfalso; omega) | (simp_all [mayR, bI_t, bI_f]; done) | (have zz : v ≠ -1 := by omega; simp_all [mayR, bI_t, bI_f]; done)]) (by rfl)
        · exfalso; omega
    · replace c5 : (canB τ 1 h) = false := bI0 (Classical.not_not.mp c5)
      refine hR.run0 3 (S' := (21, [some (vR 100), some (vI h), some (vI (-1)), none], [vI h, vI 2, vR 100], mW τ ρ)) rfl ?_
      refine hR.cv [vI 2, vI h] kX6_188 rfl rfl ⟨_, _, _, rfl, rfl, rfl⟩ (by first | decide | exact Nat.le_refl _) (by decide) (Nat.le_of_ble_eq_true rfl) rfl (sr_isVictim _ _ (by omega) (by omega) hb hh htu) ?_
      show G (24, [some (vR 100), some (vI h), some (vI (-1)), none], [vI (bI (canB τ 2 h))], mW τ ρ)
      refine hR.br (C := bI (canB τ 2 h) = 0) rfl (bI_r _) (fun c9 => ?_) (fun c9 => ?_)
      · replace c9 : (canB τ 2 h) = false := bI0 c9
        refine hR.run0 5 (S' := (38, [some (vR 100), some (vI h), some (vI (-1)), some (vI 0)], [vI (τ.1 5), vI h], mW τ ρ)) rfl ?_
        refine hR.br (C := h = τ.1 5) rfl (by first | omega | (dsimp only [plus1]; omega) | (simp [plus1, sHt, sH, sS, sAt, sA, sup]; done) | (simp [plus1, sHt, sH, sS, sAt, sA, sup]; omega)) (fun c10 => ?_) (fun c10 => ?_)
        · skip
          refine hR.run0 1 (S' := (67, [some (vR 100), some (vI h), some (vI (-1)), some (vI 0)], [vI 0], mW τ ρ)) rfl ?_
          exact hR.rt rfl (Or.inl rfl) (by rw [show bI (mayR τ h (-1)) = 0 from by first | (exfalso; omega) | (simp_all [mayR, bI_t, bI_f]; done) | (have zz : v ≠ -1 := by omega; simp_all [mayR, bI_t, bI_f]; done)]) (by rfl)
        · skip
          refine hR.run0 2 (S' := (43, [some (vR 100), some (vI h), some (vI (-1)), some (vI 0)], [vI (-1), vI (-1)], mW τ ρ)) rfl ?_
          refine hR.br (C := (-1) ≠ (-1)) rfl (by first | omega | (dsimp only [plus1]; omega) | (simp [plus1, sHt, sH, sS, sAt, sA, sup]; done) | (simp [plus1, sHt, sH, sS, sAt, sA, sup]; omega)) (fun c11 => ?_) (fun c11 => ?_)
          · exfalso; omega
          refine hR.run0 1 (S' := (47, [some (vR 100), some (vI h), some (vI (-1)), some (vI 0)], [vI 0], mW τ ρ)) rfl ?_
          refine hR.br (C := 0 ≠ 0) rfl (by first | omega | (dsimp only [plus1]; omega) | (simp [plus1, sHt, sH, sS, sAt, sA, sup]; done) | (simp [plus1, sHt, sH, sS, sAt, sA, sup]; omega)) (fun c12 => ?_) (fun c12 => ?_)
          · exfalso; omega
          refine hR.run0 3 (S' := (67, [some (vR 100), some (vI h), some (vI (-1)), some (vI 0)], [vI 1], mW τ ρ)) rfl ?_
          exact hR.rt rfl (Or.inr rfl) (by rw [show bI (mayR τ h (-1)) = 1 from by first | (exfalso; omega) | (simp_all [mayR, bI_t, bI_f]; done) | (have zz : v ≠ -1 := by omega; simp_all [mayR, bI_t, bI_f]; done)]) (by rfl)
      · replace c9 : (canB τ 2 h) = true := bI1 c9
        refine hR.run0 6 (S' := (38, [some (vR 100), some (vI h), some (vI (-1)), some (vI 1)], [vI (τ.1 5), vI h], mW τ ρ)) rfl ?_
        refine hR.br (C := h = τ.1 5) rfl (by first | omega | (dsimp only [plus1]; omega) | (simp [plus1, sHt, sH, sS, sAt, sA, sup]; done) | (simp [plus1, sHt, sH, sS, sAt, sA, sup]; omega)) (fun c13 => ?_) (fun c13 => ?_)
        · skip
          refine hR.run0 1 (S' := (67, [some (vR 100), some (vI h), some (vI (-1)), some (vI 1)], [vI 0], mW τ ρ)) rfl ?_
          exact hR.rt rfl (Or.inl rfl) (by rw [show bI (mayR τ h (-1)) = 0 from by first | (exfalso; omega) | (simp_all [mayR, bI_t, bI_f]; done) | (have zz : v ≠ -1 := by omega; simp_all [mayR, bI_t, bI_f]; done)]) (by rfl)
        · skip
          refine hR.run0 2 (S' := (43, [some (vR 100), some (vI h), some (vI (-1)), some (vI 1)], [vI (-1), vI (-1)], mW τ ρ)) rfl ?_
          refine hR.br (C := (-1) ≠ (-1)) rfl (by first | omega | (dsimp only [plus1]; omega) | (simp [plus1, sHt, sH, sS, sAt, sA, sup]; done) | (simp [plus1, sHt, sH, sS, sAt, sA, sup]; omega)) (fun c14 => ?_) (fun c14 => ?_)
          · exfalso; omega
          refine hR.run0 1 (S' := (47, [some (vR 100), some (vI h), some (vI (-1)), some (vI 1)], [vI 1], mW τ ρ)) rfl ?_
          refine hR.br (C := 1 ≠ 0) rfl (by first | omega | (dsimp only [plus1]; omega) | (simp [plus1, sHt, sH, sS, sAt, sA, sup]; done) | (simp [plus1, sHt, sH, sS, sAt, sA, sup]; omega)) (fun c15 => ?_) (fun c15 => ?_)
          · skip
            refine hR.run0 1 (S' := (67, [some (vR 100), some (vI h), some (vI (-1)), some (vI 1)], [vI 0], mW τ ρ)) rfl ?_
            exact hR.rt rfl (Or.inl rfl) (by rw [show bI (mayR τ h (-1)) = 0 from by first | (exfalso; omega) | (simp_all [mayR, bI_t, bI_f]; done) | (have zz : v ≠ -1 := by omega; simp_all [mayR, bI_t, bI_f]; done)]) (by rfl)
          · exfalso; omega
theorem sr_mayRobv (τ ρ : St) {v : Int} (hv : 0 ≤ v ∧ v < 3) {h : Int} (hhx : 0 ≤ h ∧ h < 7) (hb : ∀ c, -1 ≤ τ.2.1 2 c ∧ τ.2.1 2 c ≤ 5) (hh : ∀ p g, 0 ≤ τ.2.2 0 p g ∧ τ.2.2 0 p g ≤ 12) (htu : 0 ≤ τ.1 1 ∧ τ.1 1 < 3) (hrb : 0 ≤ τ.1 5 ∧ τ.1 5 < 7) : Sp mX6_mayRob roC 2 [vR 100, vI h, vI v] (mW τ ρ) (.inl (some (vI (bI (mayR τ h v))))) (mW τ ρ) := by
  refine Sp.of (lk := lkX6) (tb := bX6_mayRob) (by decide) lkX6_ok tX6_mayRob (mW_keys _ _ _ _) (Nat.le_of_ble_eq_true rfl) (fun G hR => ?_)
  refine hR.run0 3 (S' := (3, [some (vR 100), some (vI h), some (vI v), none], [vI h, vI 0, vR 100], mW τ ρ)) rfl ?_
  refine hR.cv [vI 0, vI h] kX6_188 rfl rfl ⟨_, _, _, rfl, rfl, rfl⟩ (by first | decide | exact Nat.le_refl _) (by decide) (Nat.le_of_ble_eq_true rfl) rfl (sr_isVictim _ _ (by omega) (by omega) hb hh htu) ?_
  show G (6, [some (vR 100), some (vI h), some (vI v), none], [vI (bI (canB τ 0 h))], mW τ ρ)
  refine hR.br (C := bI (canB τ 0 h) ≠ 0) rfl (bI_r _) (fun c1 => ?_) (fun c1 => ?_)
  · replace c1 : (canB τ 0 h) = true := bI1 c1
    refine hR.run0 6 (S' := (38, [some (vR 100), some (vI h), some (vI v), some (vI 1)], [vI (τ.1 5), vI h], mW τ ρ)) rfl ?_
    refine hR.br (C := h = τ.1 5) rfl (by first | omega | (dsimp only [plus1]; omega) | (simp [plus1, sHt, sH, sS, sAt, sA, sup]; done) | (simp [plus1, sHt, sH, sS, sAt, sA, sup]; omega)) (fun c2 => ?_) (fun c2 => ?_)
    · skip
      refine hR.run0 1 (S' := (67, [some (vR 100), some (vI h), some (vI v), some (vI 1)], [vI 0], mW τ ρ)) rfl ?_
      exact hR.rt rfl (Or.inl rfl) (by rw [show bI (mayR τ h v) = 0 from by first | (exfalso; omega) | (simp_all [mayR, bI_t, bI_f]; done) | (have zz : v ≠ -1 := by omega; simp_all [mayR, bI_t, bI_f]; done)]) (by rfl)
    · skip
      refine hR.run0 2 (S' := (43, [some (vR 100), some (vI h), some (vI v), some (vI 1)], [vI (-1), vI v], mW τ ρ)) rfl ?_
      refine hR.br (C := v ≠ (-1)) rfl (by first | omega | (dsimp only [plus1]; omega) | (simp [plus1, sHt, sH, sS, sAt, sA, sup]; done) | (simp [plus1, sHt, sH, sS, sAt, sA, sup]; omega)) (fun c3 => ?_) (fun c3 => ?_)
      · skip
        refine hR.run0 3 (S' := (56, [some (vR 100), some (vI h), some (vI v), some (vI 1)], [vI h, vI v, vR 100], mW τ ρ)) rfl ?_
        refine hR.cv [vI v, vI h] kX6_188 rfl rfl ⟨_, _, _, rfl, rfl, rfl⟩ (by first | decide | exact Nat.le_refl _) (by decide) (Nat.le_of_ble_eq_true rfl) rfl (sr_isVictim _ _ (by omega) (by omega) hb hh htu) ?_
        show G (59, [some (vR 100), some (vI h), some (vI v), some (vI 1)], [vI (bI (canB τ v h))], mW τ ρ)
        refine hR.br (C := bI (canB τ v h) = 0) rfl (bI_r _) (fun c4 => ?_) (fun c4 => ?_)
        · replace c4 : (canB τ v h) = false := bI0 c4
          refine hR.run0 1 (S' := (67, [some (vR 100), some (vI h), some (vI v), some (vI 1)], [vI 0], mW τ ρ)) rfl ?_
          exact hR.rt rfl (Or.inl rfl) (by rw [show bI (mayR τ h v) = 0 from by first | (exfalso; omega) | (simp_all [mayR, bI_t, bI_f]; done) | (have zz : v ≠ -1 := by omega; simp_all [mayR, bI_t, bI_f]; done)]) (by rfl)
        · replace c4 : (canB τ v h) = true := bI1 c4
          refine hR.run0 2 (S' := (67, [some (vR 100), some (vI h), some (vI v), some (vI 1)], [vI 1], mW τ ρ)) rfl ?_
          exact hR.rt rfl (Or.inr rfl) (by rw [show bI (mayR τ h v) = 1 from by first | (exfalso; omega) | (simp_all [mayR, bI_t, bI_f]; done) | (have zz : v ≠ -1 := by omega; simp_all [mayR, bI_t, bI_f]; done)]) (by rfl)
      · exfalso; omega
  · replace c1 : (canB τ 0 h) = false := bI0 (Classical.not_not.mp c1)
    refine hR.run0 3 (S' := (12, [some (vR 100), some (vI h), some (vI v), none], [vI h, vI 1, vR 100], mW τ ρ)) rfl ?_
    refine hR.cv [vI 1, vI h] kX6_188 rfl rfl ⟨_, _, _, rfl, rfl, rfl⟩ (by first | decide | exact Nat.le_refl _) (by decide) (Nat.le_of_ble_eq_true rfl) rfl (sr_isVictim _ _ (by omega) (by omega) hb hh htu) ?_
    show G (15, [some (vR 100), some (vI h), some (vI v), none], [vI (bI (canB τ 1 h))], mW τ ρ)
    refine hR.br (C := bI (canB τ 1 h) ≠ 0) rfl (bI_r _) (fun c5 => ?_) (fun c5 => ?_)
    · replace c5 : (canB τ 1 h) = true := bI1 c5
      refine hR.run0 6 (S' := (38, [some (vR 100), some (vI h), some (vI v), some (vI 1)], [vI (τ.1 5), vI h], mW τ ρ)) rfl ?_
      refine hR.br (C := h = τ.1 5) rfl (by first | omega | (dsimp only [plus1]; omega) | (simp [plus1, sHt, sH, sS, sAt, sA, sup]; done) | (simp [plus1, sHt, sH, sS, sAt, sA, sup]; omega)) (fun c6 => ?_) (fun c6 => ?_)
      · skip
        refine hR.run0 1 (S' := (67, [some (vR 100), some (vI h), some (vI v), some (vI 1)], [vI 0], mW τ ρ)) rfl ?_
        exact hR.rt rfl (Or.inl rfl) (by rw [show bI (mayR τ h v) = 0 from by first | (exfalso; omega) | (simp_all [mayR, bI_t, bI_f]; done) | (have zz : v ≠ -1 := by omega; simp_all [mayR, bI_t, bI_f]; done)]) (by rfl)
      · skip
        refine hR.run0 2 (S' := (43, [some (vR 100), some (vI h), some (vI v), some (vI 1)], [vI (-1), vI v], mW τ ρ)) rfl ?_
        refine hR.br (C := v ≠ (-1)) rfl (by first | omega | (dsimp only [plus1]; omega) | (simp [plus1, sHt, sH, sS, sAt, sA, sup]; done) | (simp [plus1, sHt, sH, sS, sAt, sA, sup]; omega)) (fun c7 => ?_) (fun c7 => ?_)
        · skip
          refine hR.run0 3 (S' := (56, [some (vR 100), some (vI h), some (vI v), some (vI 1)], [vI h, vI v, vR 100], mW τ ρ)) rfl ?_
          refine hR.cv [vI v, vI h] kX6_188 rfl rfl ⟨_, _, _, rfl, rfl, rfl⟩ (by first | decide | exact Nat.le_refl _) (by decide) (Nat.le_of_ble_eq_true rfl) rfl (sr_isVictim _ _ (by omega) (by omega) hb hh htu) ?_
          show G (59, [some (vR 100), some (vI h), some (vI v), some (vI 1)], [vI (bI (canB τ v h))], mW τ ρ)
          refine hR.br (C := bI (canB τ v h) = 0) rfl (bI_r _) (fun c8 => ?_) (fun c8 => ?_)
          · replace c8 : (canB τ v h) = false := bI0 c8
            refine hR.run0 1 (S' := (67, [some (vR 100), some (vI h), some (vI v), some (vI 1)], [vI 0], mW τ ρ)) rfl ?_
            exact hR.rt rfl (Or.inl rfl) (by rw [show bI (mayR τ h v) = 0 from by first | (exfalso; omega) | (simp_all [mayR, bI_t, bI_f]; done) | (have zz : v ≠ -1 := by omega; simp_all [mayR, bI_t, bI_f]; done)]) (by rfl)
          · replace c8 : (canB τ v h) = true := bI1 c8
            refine hR.run0 2 (S' := (67, [some (vR 100), some (vI h), some (vI v), some (vI 1)], [vI 1], mW τ ρ)) rfl ?_
            exact hR.rt rfl (Or.inr rfl) (by rw [show bI (mayR τ h v) = 1 from by first | (exfalso; omega) | (simp_all [mayR, bI_t, bI_f]; done) | (have zz : v ≠ -1 := by omega; simp_all [mayR, bI_t, bI_f]; done)]) (by rfl)
        · exfalso; omega
    · replace c5 : (canB τ 1 h) = false := bI0 (Classical.not_not.mp c5)
      refine hR.run0 3 (S' := (21, [some (vR 100), some (vI h), some (vI v), none], [vI h, vI 2, vR 100], mW τ ρ)) rfl ?_
      refine hR.cv [vI 2, vI h] kX6_188 rfl rfl ⟨_, _, _, rfl, rfl, rfl⟩ (by first | decide | exact Nat.le_refl _) (by decide) (Nat.le_of_ble_eq_true rfl) rfl (sr_isVictim _ _ (by omega) (by omega) hb hh htu) ?_
      show G (24, [some (vR 100), some (vI h), some (vI v), none], [vI (bI (canB τ 2 h))], mW τ ρ)
      refine hR.br (C := bI (canB τ 2 h) = 0) rfl (bI_r _) (fun c9 => ?_) (fun c9 => ?_)
      · replace c9 : (canB τ 2 h) = false := bI0 c9
        refine hR.run0 5 (S' := (38, [some (vR 100), some (vI h), some (vI v), some (vI 0)], [vI (τ.1 5), vI h], mW τ ρ)) rfl ?_
        refine hR.br (C := h = τ.1 5) rfl (by first | omega | (dsimp only [plus1]; omega) | (simp [plus1, sHt, sH, sS, sAt, sA, sup]; done) | (simp [plus1, sHt, sH, sS, sAt, sA, sup]; omega)) (fun c10 => ?_) (fun c10 => ?_)
        · skip
          refine hR.run0 1 (S' := (67, [some (vR 100), some (vI h), some (vI v), some (vI 0)], [vI 0], mW τ ρ)) rfl ?_
          exact hR.rt rfl (Or.inl rfl) (by rw [show bI (mayR τ h v) = 0 from by first | (exfalso; omega) | (simp_all [mayR, bI_t, bI_f]; done) | (have zz : v ≠ -1 := by omega; simp_all [mayR, bI_t, bI_f]; done)]) (by rfl)
        · skip
          refine hR.run0 2 (S' := (43, [some (vR 100), some (vI h), some (vI v), some (vI 0)], [vI (-1), vI v], mW τ ρ)) rfl ?_
          refine hR.br (C := v ≠ (-1)) rfl (by first | omega | (dsimp only [plus1]; omega) | (simp [plus1, sHt, sH, sS, sAt, sA, sup]; done) | (simp [plus1, sHt, sH, sS, sAt, sA, sup]; omega)) (fun c11 => ?_) (fun c11 => ?_)
          · skip
            refine hR.run0 3 (S' := (56, [some (vR 100), some (vI h), some (vI v), some (vI 0)], [vI h, vI v, vR 100], mW τ ρ)) rfl ?_
            refine hR.cv [vI v, vI h] kX6_188 rfl rfl ⟨_, _, _, rfl, rfl, rfl⟩ (by first | decide | exact Nat.le_refl _) (by decide) (Nat.le_of_ble_eq_true rfl) rfl (sr_isVictim _ _ (by omega) (by omega) hb hh htu) ?_
            show G (59, [some (vR 100), some (vI h), some (vI v), some (vI 0)], [vI (bI (canB τ v h))], mW τ ρ)
            refine hR.br (C := bI (canB τ v h) = 0) rfl (bI_r _) (fun c12 => ?_) (fun c12 => ?_)
            · replace c12 : (canB τ v h) = false := bI0 c12
              refine hR.run0 1 (S' := (67, [some (vR 100), some (vI h), some (vI v), some (vI 0)], [vI 0], mW τ ρ)) rfl ?_
              exact hR.rt rfl (Or.inl rfl) (by rw [show bI (mayR τ h v) = 0 from by first | (exfalso; omega) | (simp_all [mayR, bI_t, bI_f]; done) | (have zz : v ≠ -1 := by omega; simp_all [mayR, bI_t, bI_f]; done)]) (by rfl)
            · replace c12 : (canB τ v h) = true := bI1 c12
              refine hR.run0 2 (S' := (67, [some (vR 100), some (vI h), some (vI v), some (vI 0)], [vI 1], mW τ ρ)) rfl ?_
              exact hR.rt rfl (Or.inr rfl) (by rw [show bI (mayR τ h v) = 1 from by first | (exfalso; omega) | (simp_all [mayR, bI_t, bI_f]; done) | (have zz : v ≠ -1 := by omega; simp_all [mayR, bI_t, bI_f]; done)]) (by rfl)
          · exfalso; omega
      · replace c9 : (canB τ 2 h) = true := bI1 c9
        refine hR.run0 6 (S' := (38, [some (vR 100), some (vI h), some (vI v), some (vI 1)], [vI (τ.1 5), vI h], mW τ ρ)) rfl ?_
        refine hR.br (C := h = τ.1 5) rfl (by first | omega | (dsimp only [plus1]; omega) | (simp [plus1, sHt, sH, sS, sAt, sA, sup]; done) | (simp [plus1, sHt, sH, sS, sAt, sA, sup]; omega)) (fun c13 => ?_) (fun c13 => ?_)
        · skip
          refine hR.run0 1 (S' := (67, [some (vR 100), some (vI h), some (vI v), some (vI 1)], [vI 0], mW τ ρ)) rfl ?_
          exact hR.rt rfl (Or.inl rfl) (by rw [show bI (mayR τ h v) = 0 from by first | (exfalso; omega) | (simp_all [mayR, bI_t, bI_f]; done) | (have zz : v ≠ -1 := by omega; simp_all [mayR, bI_t, bI_f]; done)]) (by rfl)
        · skip
          refine hR.run0 2 (S' := (43, [some (vR 100), some (vI h), some (vI v), some (vI 1)], [vI (-1), vI v], mW τ ρ)) rfl ?_
          refine hR.br (C := v ≠ (-1)) rfl (by first | omega | (dsimp only [plus1]; omega) | (simp [plus1, sHt, sH, sS, sAt, sA, sup]; done) | (simp [plus1, sHt, sH, sS, sAt, sA, sup]; omega)) (fun c14 => ?_) (fun c14 => ?_)
          · skip
            refine hR.run0 3 (S' := (56, [some (vR 100), some (vI h), some (vI v), some (vI 1)], [vI h, vI v, vR 100], mW τ ρ)) rfl ?_
            refine hR.cv [vI v, vI h] kX6_188 rfl rfl ⟨_, _, _, rfl, rfl, rfl⟩ (by first | decide | exact Nat.le_refl _) (by decide) (Nat.le_of_ble_eq_true rfl) rfl (sr_isVictim _ _ (by omega) (by omega) hb hh htu) ?_
            show G (59, [some (vR 100), some (vI h), some (vI v), some (vI 1)], [vI (bI (canB τ v h))], mW τ ρ)
            refine hR.br (C := bI (canB τ v h) = 0) rfl (bI_r _) (fun c15 => ?_) (fun c15 => ?_)
            · replace c15 : (canB τ v h) = false := bI0 c15
              refine hR.run0 1 (S' := (67, [some (vR 100), some (vI h), some (vI v), some (vI 1)], [vI 0], mW τ ρ)) rfl ?_
              exact hR.rt rfl (Or.inl rfl) (by rw [show bI (mayR τ h v) = 0 from by first | (exfalso; omega) | (simp_all [mayR, bI_t, bI_f]; done) | (have zz : v ≠ -1 := by omega; simp_all [mayR, bI_t, bI_f]; done)]) (by rfl)
            · replace c15 : (canB τ v h) = true := bI1 c15
              refine hR.run0 2 (S' := (67, [some (vR 100), some (vI h), some (vI v), some (vI 1)], [vI 1], mW τ ρ)) rfl ?_
              exact hR.rt rfl (Or.inr rfl) (by rw [show bI (mayR τ h v) = 1 from by first | (exfalso; omega) | (simp_all [mayR, bI_t, bI_f]; done) | (have zz : v ≠ -1 := by omega; simp_all [mayR, bI_t, bI_f]; done)]) (by rfl)
          · exfalso; omega
theorem sr_robsN (τ ρ : St) (h d : Int) : Sp mX6_robs roC 1 [vR 100, vI h, vI (-1), vI d] (mW τ ρ) (.inl (some (vI (-1)))) (mW (sS τ 5 h) ρ) := by
  refine Sp.of (lk := lkX6) (tb := bX6_robs) (by decide) lkX6_ok tX6_robs (mW_keys _ _ _ _) (Nat.le_of_ble_eq_true rfl) (fun G hR => ?_)
  refine hR.run0 3 (S' := (5, [some (vR 100), some (vI h), some (vI (-1)), some (vI d), none, none], [], pset (mW τ ρ) 100 (.inr (6, [vR 101, vR 102, vI h, vR 103, vR 104, vR 105, vR 106, vI (τ.1 0), vI (τ.1 1), vI (τ.1 2), vI (τ.1 3), vR 107, vR 108, vI (τ.1 6), vI (τ.1 7), vR 109, vI (τ.1 8), vI (τ.1 4), vI (τ.1 9), vI (τ.1 10), vR 110, vR 111, vR 112, vR 113, vR 114, vI (ρ.1 0)])))) rfl ?_
  rw [mW_s5]
  refine hR.run0 2 (S' := (7, [some (vR 100), some (vI h), some (vI (-1)), some (vI d), none, none], [vI (-1), vI (-1)], mW (sS τ 5 h) ρ)) rfl ?_
  refine hR.br (C := (-1) ≠ (-1)) rfl (by first | omega | (dsimp only [plus1]; omega) | (simp [plus1, sHt, sH, sS, sAt, sA, sup]; done) | (simp [plus1, sHt, sH, sS, sAt, sA, sup]; omega)) (fun c1 => ?_) (fun c1 => ?_)
  · exfalso; omega
  refine hR.run0 1 (S' := (11, [some (vR 100), some (vI h), some (vI (-1)), some (vI d), none, none], [vI (-1)], mW (sS τ 5 h) ρ)) rfl ?_
  exact hR.rt rfl trivial rfl (by rfl)
theorem sr_robs (τ ρ : St) {h v d : Int} (hv : 0 ≤ v ∧ v < 3) (hd : 0 ≤ d ∧ d ≤ 999) (ht0 : 0 < tot (τ.2.2 0) v) (hh : ∀ p g, 0 ≤ τ.2.2 0 p g ∧ τ.2.2 0 p g ≤ 12) (htu : 0 ≤ τ.1 1 ∧ τ.1 1 < 3) : Sp mX6_robs roC 1 [vR 100, vI h, vI v, vI d] (mW τ ρ) (.inl (some (vI (drw (τ.2.2 0) v d)))) (mW (robS τ h v d) ρ) := by
  have q0 := tot_r hh v
  have q1 : tot (τ.2.2 0) v = τ.2.2 0 v 0 + τ.2.2 0 v 1 + τ.2.2 0 v 2 + τ.2.2 0 v 3 + τ.2.2 0 v 4 := rfl
  have q2 : 0 ≤ d % tot (τ.2.2 0) v ∧ d % tot (τ.2.2 0) v < tot (τ.2.2 0) v := ⟨Int.emod_nonneg _ (by omega), Int.emod_lt_of_pos _ ht0⟩
  have h0 := hh v 0
  have h1 := hh v 1
  have h2 := hh v 2
  have h3 := hh v 3
  have h4 := hh v 4
  refine Sp.of (lk := lkX6) (tb := bX6_robs) (by decide) lkX6_ok tX6_robs (mW_keys _ _ _ _) (Nat.le_of_ble_eq_true rfl) (fun G hR => ?_)
  refine hR.run0 3 (S' := (5, [some (vR 100), some (vI h), some (vI v), some (vI d), none, none], [], pset (mW τ ρ) 100 (.inr (6, [vR 101, vR 102, vI h, vR 103, vR 104, vR 105, vR 106, vI (τ.1 0), vI (τ.1 1), vI (τ.1 2), vI (τ.1 3), vR 107, vR 108, vI (τ.1 6), vI (τ.1 7), vR 109, vI (τ.1 8), vI (τ.1 4), vI (τ.1 9), vI (τ.1 10), vR 110, vR 111, vR 112, vR 113, vR 114, vI (ρ.1 0)])))) rfl ?_
  rw [mW_s5]
  refine hR.run0 2 (S' := (7, [some (vR 100), some (vI h), some (vI v), some (vI d), none, none], [vI (-1), vI v], mW (sS τ 5 h) ρ)) rfl ?_
  refine hR.br (C := v ≠ (-1)) rfl (by first | omega | (dsimp only [plus1]; omega) | (simp [plus1, sHt, sH, sS, sAt, sA, sup]; done) | (simp [plus1, sHt, sH, sS, sAt, sA, sup]; omega)) (fun c1 => ?_) (fun c1 => ?_)
  · skip
    refine hR.run0 3 (S' := (15, [some (vR 100), some (vI h), some (vI v), some (vI d), none, none], [vI v, vR 100, vI d], mW (sS τ 5 h) ρ)) rfl ?_
    refine hR.cv [vI v] kX6_175 rfl rfl ⟨_, _, _, rfl, rfl, rfl⟩ (by first | decide | exact Nat.le_refl _) (by decide) (Nat.le_of_ble_eq_true rfl) rfl (sr_handOf _ _ (by omega) hh) ?_
    show G (18, [some (vR 100), some (vI h), some (vI v), some (vI d), none, none], [vI (tot (τ.2.2 0) v), vI d], mW (sS τ 5 h) ρ)
    refine hR.run1 13 (S' := (37, [some (vR 100), some (vI h), some (vI v), some (vI d), some (vI (d % (tot (τ.2.2 0) v))), some (vI 0)], [vI (flat (τ.2.2 0) ((5 * v) + 0)), vI (d % (tot (τ.2.2 0) v))], mW (sS τ 5 h) ρ)) rfl (by first | omega | (dsimp only [plus1]; omega) | (simp [plus1, sHt, sH, sS, sAt, sA, sup]; done) | (simp [plus1, sHt, sH, sS, sAt, sA, sup]; omega)) ?_
    rw [show flat (τ.2.2 0) ((5 * v) + 0) = τ.2.2 0 v 0 from flat_at (p := v) _ (by omega)]
    refine hR.br (C := d % (tot (τ.2.2 0) v) < τ.2.2 0 v 0) rfl (by first | omega | (dsimp only [plus1]; omega) | (simp [plus1, sHt, sH, sS, sAt, sA, sup]; done) | (simp [plus1, sHt, sH, sS, sAt, sA, sup]; omega)) (fun c2 => ?_) (fun c2 => ?_)
    · skip
      refine hR.run1 9 (S' := (74, [some (vR 100), some (vI h), some (vI v), some (vI d), some (vI (d % (tot (τ.2.2 0) v))), some (vI 0)], [vI (flat (τ.2.2 0) ((5 * v) + 0)), vI ((5 * v) + 0), vR 105], mW (sS τ 5 h) ρ)) rfl (by first | omega | (dsimp only [plus1]; omega) | (simp [plus1, sHt, sH, sS, sAt, sA, sup]; done) | (simp [plus1, sHt, sH, sS, sAt, sA, sup]; omega)) ?_
      rw [show flat (τ.2.2 0) ((5 * v) + 0) = τ.2.2 0 v 0 from flat_at (p := v) _ (by omega)]
      refine hR.run1 3 (S' := (77, [some (vR 100), some (vI h), some (vI v), some (vI d), some (vI (d % (tot (τ.2.2 0) v))), some (vI 0)], [], pset (mW (sS τ 5 h) ρ) 105 (.inl (20, .inl (pup (flat ((sS τ 5 h).2.2 0)) (5 * v + 0) ((τ.2.2 0 v 0) - 1)))))) rfl (by first | omega | (dsimp only [plus1]; omega) | (simp [plus1, sHt, sH, sS, sAt, sA, sup]; done) | (simp [plus1, sHt, sH, sS, sAt, sA, sup]; omega)) ?_
      rw [mW_h _ _ _ (by omega)]
      refine hR.run1 10 (S' := (92, [some (vR 100), some (vI h), some (vI v), some (vI d), some (vI (d % (tot (τ.2.2 0) v))), some (vI 0)], [vI (flat ((sHt (sS τ 5 h) 0 v 0 ((τ.2.2 0 v 0) - 1)).2.2 0) ((5 * (τ.1 1)) + 0)), vI ((5 * (τ.1 1)) + 0), vR 105], mW (sHt (sS τ 5 h) 0 v 0 ((τ.2.2 0 v 0) - 1)) ρ)) rfl (by first | omega | (dsimp only [plus1]; omega) | (simp [plus1, sHt, sH, sS, sAt, sA, sup]; done) | (simp [plus1, sHt, sH, sS, sAt, sA, sup]; omega)) ?_
      rw [show flat ((sHt (sS τ 5 h) 0 v 0 ((τ.2.2 0 v 0) - 1)).2.2 0) ((5 * (τ.1 1)) + 0) = (sHt (sS τ 5 h) 0 v 0 ((τ.2.2 0 v 0) - 1)).2.2 0 (τ.1 1) 0 from flat_at (p := (τ.1 1)) _ (by omega)]
      refine hR.run1 3 (S' := (95, [some (vR 100), some (vI h), some (vI v), some (vI d), some (vI (d % (tot (τ.2.2 0) v))), some (vI 0)], [], pset (mW (sHt (sS τ 5 h) 0 v 0 ((τ.2.2 0 v 0) - 1)) ρ) 105 (.inl (20, .inl (pup (flat ((sHt (sS τ 5 h) 0 v 0 ((τ.2.2 0 v 0) - 1)).2.2 0)) (5 * (τ.1 1) + 0) (((sHt (sS τ 5 h) 0 v 0 ((τ.2.2 0 v 0) - 1)).2.2 0 (τ.1 1) 0) + 1)))))) rfl (by first | omega | (dsimp only [plus1]; omega) | (simp [plus1, sHt, sH, sS, sAt, sA, sup]; done) | (simp [plus1, sHt, sH, sS, sAt, sA, sup]; omega)) ?_
      rw [mW_h _ _ _ (by omega)]
      refine hR.run0 1 (S' := (97, [some (vR 100), some (vI h), some (vI v), some (vI d), some (vI (d % (tot (τ.2.2 0) v))), some (vI 0)], [vI 0], mW (sHt (sHt (sS τ 5 h) 0 v 0 ((τ.2.2 0 v 0) - 1)) 0 (τ.1 1) 0 (((sHt (sS τ 5 h) 0 v 0 ((τ.2.2 0 v 0) - 1)).2.2 0 (τ.1 1) 0) + 1)) ρ)) rfl ?_
      have hdr : drw (τ.2.2 0) v d = 0 := by unfold drw; (repeat' split) <;> omega
      exact hR.rt rfl trivial (by rw [hdr]) (by unfold robS; rw [hdr]; rfl)
    · skip
      refine hR.run1 9 (S' := (53, [some (vR 100), some (vI h), some (vI v), some (vI d), some (vI (d % (tot (τ.2.2 0) v))), some (vI 0)], [vI (flat (τ.2.2 0) ((5 * v) + 0)), vI (d % (tot (τ.2.2 0) v))], mW (sS τ 5 h) ρ)) rfl (by first | omega | (dsimp only [plus1]; omega) | (simp [plus1, sHt, sH, sS, sAt, sA, sup]; done) | (simp [plus1, sHt, sH, sS, sAt, sA, sup]; omega)) ?_
      rw [show flat (τ.2.2 0) ((5 * v) + 0) = τ.2.2 0 v 0 from flat_at (p := v) _ (by omega)]
      refine hR.run1 13 (S' := (37, [some (vR 100), some (vI h), some (vI v), some (vI d), some (vI ((d % (tot (τ.2.2 0) v)) - (τ.2.2 0 v 0))), some (vI 1)], [vI (flat (τ.2.2 0) ((5 * v) + 1)), vI ((d % (tot (τ.2.2 0) v)) - (τ.2.2 0 v 0))], mW (sS τ 5 h) ρ)) rfl (by first | omega | (dsimp only [plus1]; omega) | (simp [plus1, sHt, sH, sS, sAt, sA, sup]; done) | (simp [plus1, sHt, sH, sS, sAt, sA, sup]; omega)) ?_
      rw [show flat (τ.2.2 0) ((5 * v) + 1) = τ.2.2 0 v 1 from flat_at (p := v) _ (by omega)]
      refine hR.br (C := (d % (tot (τ.2.2 0) v)) - (τ.2.2 0 v 0) < τ.2.2 0 v 1) rfl (by first | omega | (dsimp only [plus1]; omega) | (simp [plus1, sHt, sH, sS, sAt, sA, sup]; done) | (simp [plus1, sHt, sH, sS, sAt, sA, sup]; omega)) (fun c3 => ?_) (fun c3 => ?_)
      · skip
        refine hR.run1 9 (S' := (74, [some (vR 100), some (vI h), some (vI v), some (vI d), some (vI ((d % (tot (τ.2.2 0) v)) - (τ.2.2 0 v 0))), some (vI 1)], [vI (flat (τ.2.2 0) ((5 * v) + 1)), vI ((5 * v) + 1), vR 105], mW (sS τ 5 h) ρ)) rfl (by first | omega | (dsimp only [plus1]; omega) | (simp [plus1, sHt, sH, sS, sAt, sA, sup]; done) | (simp [plus1, sHt, sH, sS, sAt, sA, sup]; omega)) ?_
        rw [show flat (τ.2.2 0) ((5 * v) + 1) = τ.2.2 0 v 1 from flat_at (p := v) _ (by omega)]
        refine hR.run1 3 (S' := (77, [some (vR 100), some (vI h), some (vI v), some (vI d), some (vI ((d % (tot (τ.2.2 0) v)) - (τ.2.2 0 v 0))), some (vI 1)], [], pset (mW (sS τ 5 h) ρ) 105 (.inl (20, .inl (pup (flat ((sS τ 5 h).2.2 0)) (5 * v + 1) ((τ.2.2 0 v 1) - 1)))))) rfl (by first | omega | (dsimp only [plus1]; omega) | (simp [plus1, sHt, sH, sS, sAt, sA, sup]; done) | (simp [plus1, sHt, sH, sS, sAt, sA, sup]; omega)) ?_
        rw [mW_h _ _ _ (by omega)]
        refine hR.run1 10 (S' := (92, [some (vR 100), some (vI h), some (vI v), some (vI d), some (vI ((d % (tot (τ.2.2 0) v)) - (τ.2.2 0 v 0))), some (vI 1)], [vI (flat ((sHt (sS τ 5 h) 0 v 1 ((τ.2.2 0 v 1) - 1)).2.2 0) ((5 * (τ.1 1)) + 1)), vI ((5 * (τ.1 1)) + 1), vR 105], mW (sHt (sS τ 5 h) 0 v 1 ((τ.2.2 0 v 1) - 1)) ρ)) rfl (by first | omega | (dsimp only [plus1]; omega) | (simp [plus1, sHt, sH, sS, sAt, sA, sup]; done) | (simp [plus1, sHt, sH, sS, sAt, sA, sup]; omega)) ?_
        rw [show flat ((sHt (sS τ 5 h) 0 v 1 ((τ.2.2 0 v 1) - 1)).2.2 0) ((5 * (τ.1 1)) + 1) = (sHt (sS τ 5 h) 0 v 1 ((τ.2.2 0 v 1) - 1)).2.2 0 (τ.1 1) 1 from flat_at (p := (τ.1 1)) _ (by omega)]
        refine hR.run1 3 (S' := (95, [some (vR 100), some (vI h), some (vI v), some (vI d), some (vI ((d % (tot (τ.2.2 0) v)) - (τ.2.2 0 v 0))), some (vI 1)], [], pset (mW (sHt (sS τ 5 h) 0 v 1 ((τ.2.2 0 v 1) - 1)) ρ) 105 (.inl (20, .inl (pup (flat ((sHt (sS τ 5 h) 0 v 1 ((τ.2.2 0 v 1) - 1)).2.2 0)) (5 * (τ.1 1) + 1) (((sHt (sS τ 5 h) 0 v 1 ((τ.2.2 0 v 1) - 1)).2.2 0 (τ.1 1) 1) + 1)))))) rfl (by first | omega | (dsimp only [plus1]; omega) | (simp [plus1, sHt, sH, sS, sAt, sA, sup]; done) | (simp [plus1, sHt, sH, sS, sAt, sA, sup]; omega)) ?_
        rw [mW_h _ _ _ (by omega)]
        refine hR.run0 1 (S' := (97, [some (vR 100), some (vI h), some (vI v), some (vI d), some (vI ((d % (tot (τ.2.2 0) v)) - (τ.2.2 0 v 0))), some (vI 1)], [vI 1], mW (sHt (sHt (sS τ 5 h) 0 v 1 ((τ.2.2 0 v 1) - 1)) 0 (τ.1 1) 1 (((sHt (sS τ 5 h) 0 v 1 ((τ.2.2 0 v 1) - 1)).2.2 0 (τ.1 1) 1) + 1)) ρ)) rfl ?_
        have hdr : drw (τ.2.2 0) v d = 1 := by unfold drw; (repeat' split) <;> omega
        exact hR.rt rfl trivial (by rw [hdr]) (by unfold robS; rw [hdr]; rfl)
      · skip
        refine hR.run1 9 (S' := (53, [some (vR 100), some (vI h), some (vI v), some (vI d), some (vI ((d % (tot (τ.2.2 0) v)) - (τ.2.2 0 v 0))), some (vI 1)], [vI (flat (τ.2.2 0) ((5 * v) + 1)), vI ((d % (tot (τ.2.2 0) v)) - (τ.2.2 0 v 0))], mW (sS τ 5 h) ρ)) rfl (by first | omega | (dsimp only [plus1]; omega) | (simp [plus1, sHt, sH, sS, sAt, sA, sup]; done) | (simp [plus1, sHt, sH, sS, sAt, sA, sup]; omega)) ?_
        rw [show flat (τ.2.2 0) ((5 * v) + 1) = τ.2.2 0 v 1 from flat_at (p := v) _ (by omega)]
        refine hR.run1 13 (S' := (37, [some (vR 100), some (vI h), some (vI v), some (vI d), some (vI (((d % (tot (τ.2.2 0) v)) - (τ.2.2 0 v 0)) - (τ.2.2 0 v 1))), some (vI 2)], [vI (flat (τ.2.2 0) ((5 * v) + 2)), vI (((d % (tot (τ.2.2 0) v)) - (τ.2.2 0 v 0)) - (τ.2.2 0 v 1))], mW (sS τ 5 h) ρ)) rfl (by first | omega | (dsimp only [plus1]; omega) | (simp [plus1, sHt, sH, sS, sAt, sA, sup]; done) | (simp [plus1, sHt, sH, sS, sAt, sA, sup]; omega)) ?_
        rw [show flat (τ.2.2 0) ((5 * v) + 2) = τ.2.2 0 v 2 from flat_at (p := v) _ (by omega)]
        refine hR.br (C := ((d % (tot (τ.2.2 0) v)) - (τ.2.2 0 v 0)) - (τ.2.2 0 v 1) < τ.2.2 0 v 2) rfl (by first | omega | (dsimp only [plus1]; omega) | (simp [plus1, sHt, sH, sS, sAt, sA, sup]; done) | (simp [plus1, sHt, sH, sS, sAt, sA, sup]; omega)) (fun c4 => ?_) (fun c4 => ?_)
        · skip
          refine hR.run1 9 (S' := (74, [some (vR 100), some (vI h), some (vI v), some (vI d), some (vI (((d % (tot (τ.2.2 0) v)) - (τ.2.2 0 v 0)) - (τ.2.2 0 v 1))), some (vI 2)], [vI (flat (τ.2.2 0) ((5 * v) + 2)), vI ((5 * v) + 2), vR 105], mW (sS τ 5 h) ρ)) rfl (by first | omega | (dsimp only [plus1]; omega) | (simp [plus1, sHt, sH, sS, sAt, sA, sup]; done) | (simp [plus1, sHt, sH, sS, sAt, sA, sup]; omega)) ?_
          rw [show flat (τ.2.2 0) ((5 * v) + 2) = τ.2.2 0 v 2 from flat_at (p := v) _ (by omega)]
          refine hR.run1 3 (S' := (77, [some (vR 100), some (vI h), some (vI v), some (vI d), some (vI (((d % (tot (τ.2.2 0) v)) - (τ.2.2 0 v 0)) - (τ.2.2 0 v 1))), some (vI 2)], [], pset (mW (sS τ 5 h) ρ) 105 (.inl (20, .inl (pup (flat ((sS τ 5 h).2.2 0)) (5 * v + 2) ((τ.2.2 0 v 2) - 1)))))) rfl (by first | omega | (dsimp only [plus1]; omega) | (simp [plus1, sHt, sH, sS, sAt, sA, sup]; done) | (simp [plus1, sHt, sH, sS, sAt, sA, sup]; omega)) ?_
          rw [mW_h _ _ _ (by omega)]
          refine hR.run1 10 (S' := (92, [some (vR 100), some (vI h), some (vI v), some (vI d), some (vI (((d % (tot (τ.2.2 0) v)) - (τ.2.2 0 v 0)) - (τ.2.2 0 v 1))), some (vI 2)], [vI (flat ((sHt (sS τ 5 h) 0 v 2 ((τ.2.2 0 v 2) - 1)).2.2 0) ((5 * (τ.1 1)) + 2)), vI ((5 * (τ.1 1)) + 2), vR 105], mW (sHt (sS τ 5 h) 0 v 2 ((τ.2.2 0 v 2) - 1)) ρ)) rfl (by first | omega | (dsimp only [plus1]; omega) | (simp [plus1, sHt, sH, sS, sAt, sA, sup]; done) | (simp [plus1, sHt, sH, sS, sAt, sA, sup]; omega)) ?_
          rw [show flat ((sHt (sS τ 5 h) 0 v 2 ((τ.2.2 0 v 2) - 1)).2.2 0) ((5 * (τ.1 1)) + 2) = (sHt (sS τ 5 h) 0 v 2 ((τ.2.2 0 v 2) - 1)).2.2 0 (τ.1 1) 2 from flat_at (p := (τ.1 1)) _ (by omega)]
          refine hR.run1 3 (S' := (95, [some (vR 100), some (vI h), some (vI v), some (vI d), some (vI (((d % (tot (τ.2.2 0) v)) - (τ.2.2 0 v 0)) - (τ.2.2 0 v 1))), some (vI 2)], [], pset (mW (sHt (sS τ 5 h) 0 v 2 ((τ.2.2 0 v 2) - 1)) ρ) 105 (.inl (20, .inl (pup (flat ((sHt (sS τ 5 h) 0 v 2 ((τ.2.2 0 v 2) - 1)).2.2 0)) (5 * (τ.1 1) + 2) (((sHt (sS τ 5 h) 0 v 2 ((τ.2.2 0 v 2) - 1)).2.2 0 (τ.1 1) 2) + 1)))))) rfl (by first | omega | (dsimp only [plus1]; omega) | (simp [plus1, sHt, sH, sS, sAt, sA, sup]; done) | (simp [plus1, sHt, sH, sS, sAt, sA, sup]; omega)) ?_
          rw [mW_h _ _ _ (by omega)]
          refine hR.run0 1 (S' := (97, [some (vR 100), some (vI h), some (vI v), some (vI d), some (vI (((d % (tot (τ.2.2 0) v)) - (τ.2.2 0 v 0)) - (τ.2.2 0 v 1))), some (vI 2)], [vI 2], mW (sHt (sHt (sS τ 5 h) 0 v 2 ((τ.2.2 0 v 2) - 1)) 0 (τ.1 1) 2 (((sHt (sS τ 5 h) 0 v 2 ((τ.2.2 0 v 2) - 1)).2.2 0 (τ.1 1) 2) + 1)) ρ)) rfl ?_
          have hdr : drw (τ.2.2 0) v d = 2 := by unfold drw; (repeat' split) <;> omega
          exact hR.rt rfl trivial (by rw [hdr]) (by unfold robS; rw [hdr]; rfl)
        · skip
          refine hR.run1 9 (S' := (53, [some (vR 100), some (vI h), some (vI v), some (vI d), some (vI (((d % (tot (τ.2.2 0) v)) - (τ.2.2 0 v 0)) - (τ.2.2 0 v 1))), some (vI 2)], [vI (flat (τ.2.2 0) ((5 * v) + 2)), vI (((d % (tot (τ.2.2 0) v)) - (τ.2.2 0 v 0)) - (τ.2.2 0 v 1))], mW (sS τ 5 h) ρ)) rfl (by first | omega | (dsimp only [plus1]; omega) | (simp [plus1, sHt, sH, sS, sAt, sA, sup]; done) | (simp [plus1, sHt, sH, sS, sAt, sA, sup]; omega)) ?_
          rw [show flat (τ.2.2 0) ((5 * v) + 2) = τ.2.2 0 v 2 from flat_at (p := v) _ (by omega)]
          refine hR.run1 13 (S' := (37, [some (vR 100), some (vI h), some (vI v), some (vI d), some (vI ((((d % (tot (τ.2.2 0) v)) - (τ.2.2 0 v 0)) - (τ.2.2 0 v 1)) - (τ.2.2 0 v 2))), some (vI 3)], [vI (flat (τ.2.2 0) ((5 * v) + 3)), vI ((((d % (tot (τ.2.2 0) v)) - (τ.2.2 0 v 0)) - (τ.2.2 0 v 1)) - (τ.2.2 0 v 2))], mW (sS τ 5 h) ρ)) rfl (by first | omega | (dsimp only [plus1]; omega) | (simp [plus1, sHt, sH, sS, sAt, sA, sup]; done) | (simp [plus1, sHt, sH, sS, sAt, sA, sup]; omega)) ?_
          rw [show flat (τ.2.2 0) ((5 * v) + 3) = τ.2.2 0 v 3 from flat_at (p := v) _ (by omega)]
          refine hR.br (C := (((d % (tot (τ.2.2 0) v)) - (τ.2.2 0 v 0)) - (τ.2.2 0 v 1)) - (τ.2.2 0 v 2) < τ.2.2 0 v 3) rfl (by first | omega | (dsimp only [plus1]; omega) | (simp [plus1, sHt, sH, sS, sAt, sA, sup]; done) | (simp [plus1, sHt, sH, sS, sAt, sA, sup]; omega)) (fun c5 => ?_) (fun c5 => ?_)
          · skip
            refine hR.run1 9 (S' := (74, [some (vR 100), some (vI h), some (vI v), some (vI d), some (vI ((((d % (tot (τ.2.2 0) v)) - (τ.2.2 0 v 0)) - (τ.2.2 0 v 1)) - (τ.2.2 0 v 2))), some (vI 3)], [vI (flat (τ.2.2 0) ((5 * v) + 3)), vI ((5 * v) + 3), vR 105], mW (sS τ 5 h) ρ)) rfl (by first | omega | (dsimp only [plus1]; omega) | (simp [plus1, sHt, sH, sS, sAt, sA, sup]; done) | (simp [plus1, sHt, sH, sS, sAt, sA, sup]; omega)) ?_
            rw [show flat (τ.2.2 0) ((5 * v) + 3) = τ.2.2 0 v 3 from flat_at (p := v) _ (by omega)]
            refine hR.run1 3 (S' := (77, [some (vR 100), some (vI h), some (vI v), some (vI d), some (vI ((((d % (tot (τ.2.2 0) v)) - (τ.2.2 0 v 0)) - (τ.2.2 0 v 1)) - (τ.2.2 0 v 2))), some (vI 3)], [], pset (mW (sS τ 5 h) ρ) 105 (.inl (20, .inl (pup (flat ((sS τ 5 h).2.2 0)) (5 * v + 3) ((τ.2.2 0 v 3) - 1)))))) rfl (by first | omega | (dsimp only [plus1]; omega) | (simp [plus1, sHt, sH, sS, sAt, sA, sup]; done) | (simp [plus1, sHt, sH, sS, sAt, sA, sup]; omega)) ?_
            rw [mW_h _ _ _ (by omega)]
            refine hR.run1 10 (S' := (92, [some (vR 100), some (vI h), some (vI v), some (vI d), some (vI ((((d % (tot (τ.2.2 0) v)) - (τ.2.2 0 v 0)) - (τ.2.2 0 v 1)) - (τ.2.2 0 v 2))), some (vI 3)], [vI (flat ((sHt (sS τ 5 h) 0 v 3 ((τ.2.2 0 v 3) - 1)).2.2 0) ((5 * (τ.1 1)) + 3)), vI ((5 * (τ.1 1)) + 3), vR 105], mW (sHt (sS τ 5 h) 0 v 3 ((τ.2.2 0 v 3) - 1)) ρ)) rfl (by first | omega | (dsimp only [plus1]; omega) | (simp [plus1, sHt, sH, sS, sAt, sA, sup]; done) | (simp [plus1, sHt, sH, sS, sAt, sA, sup]; omega)) ?_
            rw [show flat ((sHt (sS τ 5 h) 0 v 3 ((τ.2.2 0 v 3) - 1)).2.2 0) ((5 * (τ.1 1)) + 3) = (sHt (sS τ 5 h) 0 v 3 ((τ.2.2 0 v 3) - 1)).2.2 0 (τ.1 1) 3 from flat_at (p := (τ.1 1)) _ (by omega)]
            refine hR.run1 3 (S' := (95, [some (vR 100), some (vI h), some (vI v), some (vI d), some (vI ((((d % (tot (τ.2.2 0) v)) - (τ.2.2 0 v 0)) - (τ.2.2 0 v 1)) - (τ.2.2 0 v 2))), some (vI 3)], [], pset (mW (sHt (sS τ 5 h) 0 v 3 ((τ.2.2 0 v 3) - 1)) ρ) 105 (.inl (20, .inl (pup (flat ((sHt (sS τ 5 h) 0 v 3 ((τ.2.2 0 v 3) - 1)).2.2 0)) (5 * (τ.1 1) + 3) (((sHt (sS τ 5 h) 0 v 3 ((τ.2.2 0 v 3) - 1)).2.2 0 (τ.1 1) 3) + 1)))))) rfl (by first | omega | (dsimp only [plus1]; omega) | (simp [plus1, sHt, sH, sS, sAt, sA, sup]; done) | (simp [plus1, sHt, sH, sS, sAt, sA, sup]; omega)) ?_
            rw [mW_h _ _ _ (by omega)]
            refine hR.run0 1 (S' := (97, [some (vR 100), some (vI h), some (vI v), some (vI d), some (vI ((((d % (tot (τ.2.2 0) v)) - (τ.2.2 0 v 0)) - (τ.2.2 0 v 1)) - (τ.2.2 0 v 2))), some (vI 3)], [vI 3], mW (sHt (sHt (sS τ 5 h) 0 v 3 ((τ.2.2 0 v 3) - 1)) 0 (τ.1 1) 3 (((sHt (sS τ 5 h) 0 v 3 ((τ.2.2 0 v 3) - 1)).2.2 0 (τ.1 1) 3) + 1)) ρ)) rfl ?_
            have hdr : drw (τ.2.2 0) v d = 3 := by unfold drw; (repeat' split) <;> omega
            exact hR.rt rfl trivial (by rw [hdr]) (by unfold robS; rw [hdr]; rfl)
          · skip
            refine hR.run1 9 (S' := (53, [some (vR 100), some (vI h), some (vI v), some (vI d), some (vI ((((d % (tot (τ.2.2 0) v)) - (τ.2.2 0 v 0)) - (τ.2.2 0 v 1)) - (τ.2.2 0 v 2))), some (vI 3)], [vI (flat (τ.2.2 0) ((5 * v) + 3)), vI ((((d % (tot (τ.2.2 0) v)) - (τ.2.2 0 v 0)) - (τ.2.2 0 v 1)) - (τ.2.2 0 v 2))], mW (sS τ 5 h) ρ)) rfl (by first | omega | (dsimp only [plus1]; omega) | (simp [plus1, sHt, sH, sS, sAt, sA, sup]; done) | (simp [plus1, sHt, sH, sS, sAt, sA, sup]; omega)) ?_
            rw [show flat (τ.2.2 0) ((5 * v) + 3) = τ.2.2 0 v 3 from flat_at (p := v) _ (by omega)]
            refine hR.run1 13 (S' := (37, [some (vR 100), some (vI h), some (vI v), some (vI d), some (vI (((((d % (tot (τ.2.2 0) v)) - (τ.2.2 0 v 0)) - (τ.2.2 0 v 1)) - (τ.2.2 0 v 2)) - (τ.2.2 0 v 3))), some (vI 4)], [vI (flat (τ.2.2 0) ((5 * v) + 4)), vI (((((d % (tot (τ.2.2 0) v)) - (τ.2.2 0 v 0)) - (τ.2.2 0 v 1)) - (τ.2.2 0 v 2)) - (τ.2.2 0 v 3))], mW (sS τ 5 h) ρ)) rfl (by first | omega | (dsimp only [plus1]; omega) | (simp [plus1, sHt, sH, sS, sAt, sA, sup]; done) | (simp [plus1, sHt, sH, sS, sAt, sA, sup]; omega)) ?_
            rw [show flat (τ.2.2 0) ((5 * v) + 4) = τ.2.2 0 v 4 from flat_at (p := v) _ (by omega)]
            refine hR.br (C := ((((d % (tot (τ.2.2 0) v)) - (τ.2.2 0 v 0)) - (τ.2.2 0 v 1)) - (τ.2.2 0 v 2)) - (τ.2.2 0 v 3) < τ.2.2 0 v 4) rfl (by first | omega | (dsimp only [plus1]; omega) | (simp [plus1, sHt, sH, sS, sAt, sA, sup]; done) | (simp [plus1, sHt, sH, sS, sAt, sA, sup]; omega)) (fun c6 => ?_) (fun c6 => ?_)
            · skip
              refine hR.run1 9 (S' := (74, [some (vR 100), some (vI h), some (vI v), some (vI d), some (vI (((((d % (tot (τ.2.2 0) v)) - (τ.2.2 0 v 0)) - (τ.2.2 0 v 1)) - (τ.2.2 0 v 2)) - (τ.2.2 0 v 3))), some (vI 4)], [vI (flat (τ.2.2 0) ((5 * v) + 4)), vI ((5 * v) + 4), vR 105], mW (sS τ 5 h) ρ)) rfl (by first | omega | (dsimp only [plus1]; omega) | (simp [plus1, sHt, sH, sS, sAt, sA, sup]; done) | (simp [plus1, sHt, sH, sS, sAt, sA, sup]; omega)) ?_
              rw [show flat (τ.2.2 0) ((5 * v) + 4) = τ.2.2 0 v 4 from flat_at (p := v) _ (by omega)]
              refine hR.run1 3 (S' := (77, [some (vR 100), some (vI h), some (vI v), some (vI d), some (vI (((((d % (tot (τ.2.2 0) v)) - (τ.2.2 0 v 0)) - (τ.2.2 0 v 1)) - (τ.2.2 0 v 2)) - (τ.2.2 0 v 3))), some (vI 4)], [], pset (mW (sS τ 5 h) ρ) 105 (.inl (20, .inl (pup (flat ((sS τ 5 h).2.2 0)) (5 * v + 4) ((τ.2.2 0 v 4) - 1)))))) rfl (by first | omega | (dsimp only [plus1]; omega) | (simp [plus1, sHt, sH, sS, sAt, sA, sup]; done) | (simp [plus1, sHt, sH, sS, sAt, sA, sup]; omega)) ?_
              rw [mW_h _ _ _ (by omega)]
              refine hR.run1 10 (S' := (92, [some (vR 100), some (vI h), some (vI v), some (vI d), some (vI (((((d % (tot (τ.2.2 0) v)) - (τ.2.2 0 v 0)) - (τ.2.2 0 v 1)) - (τ.2.2 0 v 2)) - (τ.2.2 0 v 3))), some (vI 4)], [vI (flat ((sHt (sS τ 5 h) 0 v 4 ((τ.2.2 0 v 4) - 1)).2.2 0) ((5 * (τ.1 1)) + 4)), vI ((5 * (τ.1 1)) + 4), vR 105], mW (sHt (sS τ 5 h) 0 v 4 ((τ.2.2 0 v 4) - 1)) ρ)) rfl (by first | omega | (dsimp only [plus1]; omega) | (simp [plus1, sHt, sH, sS, sAt, sA, sup]; done) | (simp [plus1, sHt, sH, sS, sAt, sA, sup]; omega)) ?_
              rw [show flat ((sHt (sS τ 5 h) 0 v 4 ((τ.2.2 0 v 4) - 1)).2.2 0) ((5 * (τ.1 1)) + 4) = (sHt (sS τ 5 h) 0 v 4 ((τ.2.2 0 v 4) - 1)).2.2 0 (τ.1 1) 4 from flat_at (p := (τ.1 1)) _ (by omega)]
              refine hR.run1 3 (S' := (95, [some (vR 100), some (vI h), some (vI v), some (vI d), some (vI (((((d % (tot (τ.2.2 0) v)) - (τ.2.2 0 v 0)) - (τ.2.2 0 v 1)) - (τ.2.2 0 v 2)) - (τ.2.2 0 v 3))), some (vI 4)], [], pset (mW (sHt (sS τ 5 h) 0 v 4 ((τ.2.2 0 v 4) - 1)) ρ) 105 (.inl (20, .inl (pup (flat ((sHt (sS τ 5 h) 0 v 4 ((τ.2.2 0 v 4) - 1)).2.2 0)) (5 * (τ.1 1) + 4) (((sHt (sS τ 5 h) 0 v 4 ((τ.2.2 0 v 4) - 1)).2.2 0 (τ.1 1) 4) + 1)))))) rfl (by first | omega | (dsimp only [plus1]; omega) | (simp [plus1, sHt, sH, sS, sAt, sA, sup]; done) | (simp [plus1, sHt, sH, sS, sAt, sA, sup]; omega)) ?_
              rw [mW_h _ _ _ (by omega)]
              refine hR.run0 1 (S' := (97, [some (vR 100), some (vI h), some (vI v), some (vI d), some (vI (((((d % (tot (τ.2.2 0) v)) - (τ.2.2 0 v 0)) - (τ.2.2 0 v 1)) - (τ.2.2 0 v 2)) - (τ.2.2 0 v 3))), some (vI 4)], [vI 4], mW (sHt (sHt (sS τ 5 h) 0 v 4 ((τ.2.2 0 v 4) - 1)) 0 (τ.1 1) 4 (((sHt (sS τ 5 h) 0 v 4 ((τ.2.2 0 v 4) - 1)).2.2 0 (τ.1 1) 4) + 1)) ρ)) rfl ?_
              have hdr : drw (τ.2.2 0) v d = 4 := by unfold drw; (repeat' split) <;> omega
              exact hR.rt rfl trivial (by rw [hdr]) (by unfold robS; rw [hdr]; rfl)
            · exfalso; omega
  · exfalso; omega
theorem sr_asksRob (τ ρ : St) {h v d : Int} (hh : -2147483648 ≤ h ∧ h ≤ 2147483647)(hv : -2147483648 ≤ v ∧ v ≤ 2147483647)(hd : -2147483648 ≤ d ∧ d ≤ 2147483647) : Sp mX6_asksRob roC 1 [vR 100, vI h, vI v, vI d] (mW τ ρ) (.inl (some (vI (bI (decide (arC h v d = 0)))))) (mW τ (sS ρ 0 (arC h v d))) := by
  refine Sp.of (lk := lkX6) (tb := bX6_asksRob) (by decide) lkX6_ok tX6_asksRob (mW_keys _ _ _ _) (Nat.le_of_ble_eq_true rfl) (fun G hR => ?_)
  refine hR.run0 2 (S' := (2, [some (vR 100), some (vI h), some (vI v), some (vI d)], [vI h, vR 100], mW τ ρ)) rfl ?_
  refine hR.cs [vI h] kX6_124 rfl rfl (by first | decide | exact Nat.le_refl _) (by decide) (Nat.le_of_ble_eq_true rfl) rfl (sr_isHex _ _ (by omega)) ?_
  show G (5, [some (vR 100), some (vI h), some (vI v), some (vI d)], [vI (bI (decide (0 ≤ h) && decide (h < 7))), vR 100], mW τ ρ)
  refine hR.br (C := (bI (decide (0 ≤ h) && decide (h < 7))) = 0) rfl (bI_r _) (fun c1 => ?_) (fun c1 => ?_)
  · replace c1 : (decide (0 ≤ h) && decide (h < 7)) = false := bI0 c1
    refine hR.run0 3 (S' := (43, [some (vR 100), some (vI h), some (vI v), some (vI d)], [], pset (mW τ ρ) 100 (.inr (6, [vR 101, vR 102, vI (τ.1 5), vR 103, vR 104, vR 105, vR 106, vI (τ.1 0), vI (τ.1 1), vI (τ.1 2), vI (τ.1 3), vR 107, vR 108, vI (τ.1 6), vI (τ.1 7), vR 109, vI (τ.1 8), vI (τ.1 4), vI (τ.1 9), vI (τ.1 10), vR 110, vR 111, vR 112, vR 113, vR 114, vI 1])))) rfl ?_
    rw [mW_x0]
    refine hR.run0 2 (S' := (47, [some (vR 100), some (vI h), some (vI v), some (vI d)], [vI 1], mW τ (sS ρ 0 1))) rfl ?_
    refine hR.br (C := 1 ≠ 0) rfl (by first | omega | (dsimp only [plus1]; omega) | (simp [plus1, sHt, sH, sS, sAt, sA, sup]; done) | (simp [plus1, sHt, sH, sS, sAt, sA, sup]; omega)) (fun c2 => ?_) (fun c2 => ?_)
    · skip
      refine hR.run0 1 (S' := (55, [some (vR 100), some (vI h), some (vI v), some (vI d)], [vI 0], mW τ (sS ρ 0 1))) rfl ?_
      have hk : arC h v d = 1 := by (try simp only [Bool.and_eq_true, Bool.and_eq_false_iff, decide_eq_true_eq, decide_eq_false_iff_not] at *); unfold arC; (repeat' split) <;> omega
      exact hR.rt rfl (Or.inl rfl) (by rw [hk]; rfl) (by rw [hk])
    · exfalso; omega
  · replace c1 : (decide (0 ≤ h) && decide (h < 7)) = true := bI1 c1
    refine hR.run0 2 (S' := (10, [some (vR 100), some (vI h), some (vI v), some (vI d)], [vI (-1), vI v, vR 100], mW τ ρ)) rfl ?_
    refine hR.br (C := v = (-1)) rfl (by first | omega | (dsimp only [plus1]; omega) | (simp [plus1, sHt, sH, sS, sAt, sA, sup]; done) | (simp [plus1, sHt, sH, sS, sAt, sA, sup]; omega)) (fun c3 => ?_) (fun c3 => ?_)
    · skip
      refine hR.run0 3 (S' := (29, [some (vR 100), some (vI h), some (vI v), some (vI d)], [vI 999, vI 0, vI d, vR 100], mW τ ρ)) rfl ?_
      refine hR.cs [vI d, vI 0, vI 999] kX6_131 rfl rfl (by first | decide | exact Nat.le_refl _) (by decide) (Nat.le_of_ble_eq_true rfl) rfl (sr_in _ _ (by omega) (by omega) (by omega)) ?_
      show G (32, [some (vR 100), some (vI h), some (vI v), some (vI d)], [vI (bI (decide (0 ≤ d) && decide (d ≤ 999))), vR 100], mW τ ρ)
      refine hR.br (C := bI (decide (0 ≤ d) && decide (d ≤ 999)) ≠ 0) rfl (bI_r _) (fun c4 => ?_) (fun c4 => ?_)
      · replace c4 : (decide (0 ≤ d) && decide (d ≤ 999)) = true := bI1 c4
        refine hR.run0 2 (S' := (43, [some (vR 100), some (vI h), some (vI v), some (vI d)], [], pset (mW τ ρ) 100 (.inr (6, [vR 101, vR 102, vI (τ.1 5), vR 103, vR 104, vR 105, vR 106, vI (τ.1 0), vI (τ.1 1), vI (τ.1 2), vI (τ.1 3), vR 107, vR 108, vI (τ.1 6), vI (τ.1 7), vR 109, vI (τ.1 8), vI (τ.1 4), vI (τ.1 9), vI (τ.1 10), vR 110, vR 111, vR 112, vR 113, vR 114, vI 0])))) rfl ?_
        rw [mW_x0]
        refine hR.run0 2 (S' := (47, [some (vR 100), some (vI h), some (vI v), some (vI d)], [vI 0], mW τ (sS ρ 0 0))) rfl ?_
        refine hR.br (C := 0 ≠ 0) rfl (by first | omega | (dsimp only [plus1]; omega) | (simp [plus1, sHt, sH, sS, sAt, sA, sup]; done) | (simp [plus1, sHt, sH, sS, sAt, sA, sup]; omega)) (fun c5 => ?_) (fun c5 => ?_)
        · exfalso; omega
        refine hR.run0 2 (S' := (55, [some (vR 100), some (vI h), some (vI v), some (vI d)], [vI 1], mW τ (sS ρ 0 0))) rfl ?_
        have hk : arC h v d = 0 := by (try simp only [Bool.and_eq_true, Bool.and_eq_false_iff, decide_eq_true_eq, decide_eq_false_iff_not] at *); unfold arC; (repeat' split) <;> omega
        exact hR.rt rfl (Or.inr rfl) (by rw [hk]; rfl) (by rw [hk])
      · replace c4 : (decide (0 ≤ d) && decide (d ≤ 999)) = false := bI0 (Classical.not_not.mp c4)
        refine hR.run0 3 (S' := (43, [some (vR 100), some (vI h), some (vI v), some (vI d)], [], pset (mW τ ρ) 100 (.inr (6, [vR 101, vR 102, vI (τ.1 5), vR 103, vR 104, vR 105, vR 106, vI (τ.1 0), vI (τ.1 1), vI (τ.1 2), vI (τ.1 3), vR 107, vR 108, vI (τ.1 6), vI (τ.1 7), vR 109, vI (τ.1 8), vI (τ.1 4), vI (τ.1 9), vI (τ.1 10), vR 110, vR 111, vR 112, vR 113, vR 114, vI 2])))) rfl ?_
        rw [mW_x0]
        refine hR.run0 2 (S' := (47, [some (vR 100), some (vI h), some (vI v), some (vI d)], [vI 2], mW τ (sS ρ 0 2))) rfl ?_
        refine hR.br (C := 2 ≠ 0) rfl (by first | omega | (dsimp only [plus1]; omega) | (simp [plus1, sHt, sH, sS, sAt, sA, sup]; done) | (simp [plus1, sHt, sH, sS, sAt, sA, sup]; omega)) (fun c6 => ?_) (fun c6 => ?_)
        · skip
          refine hR.run0 1 (S' := (55, [some (vR 100), some (vI h), some (vI v), some (vI d)], [vI 0], mW τ (sS ρ 0 2))) rfl ?_
          have hk : arC h v d = 2 := by (try simp only [Bool.and_eq_true, Bool.and_eq_false_iff, decide_eq_true_eq, decide_eq_false_iff_not] at *); unfold arC; (repeat' split) <;> omega
          exact hR.rt rfl (Or.inl rfl) (by rw [hk]; rfl) (by rw [hk])
        · exfalso; omega
    · skip
      refine hR.run0 1 (S' := (14, [some (vR 100), some (vI h), some (vI v), some (vI d)], [vI v, vR 100], mW τ ρ)) rfl ?_
      refine hR.cs [vI v] kX6_159 rfl rfl (by first | decide | exact Nat.le_refl _) (by decide) (Nat.le_of_ble_eq_true rfl) rfl (sr_isPlayer _ _ (by omega)) ?_
      show G (17, [some (vR 100), some (vI h), some (vI v), some (vI d)], [vI (bI (decide (0 ≤ v) && decide (v < 3))), vR 100], mW τ ρ)
      refine hR.br (C := (bI (decide (0 ≤ v) && decide (v < 3))) ≠ 0) rfl (bI_r _) (fun c7 => ?_) (fun c7 => ?_)
      · replace c7 : (decide (0 ≤ v) && decide (v < 3)) = true := bI1 c7
        refine hR.run0 3 (S' := (29, [some (vR 100), some (vI h), some (vI v), some (vI d)], [vI 999, vI 0, vI d, vR 100], mW τ ρ)) rfl ?_
        refine hR.cs [vI d, vI 0, vI 999] kX6_131 rfl rfl (by first | decide | exact Nat.le_refl _) (by decide) (Nat.le_of_ble_eq_true rfl) rfl (sr_in _ _ (by omega) (by omega) (by omega)) ?_
        show G (32, [some (vR 100), some (vI h), some (vI v), some (vI d)], [vI (bI (decide (0 ≤ d) && decide (d ≤ 999))), vR 100], mW τ ρ)
        refine hR.br (C := bI (decide (0 ≤ d) && decide (d ≤ 999)) ≠ 0) rfl (bI_r _) (fun c8 => ?_) (fun c8 => ?_)
        · replace c8 : (decide (0 ≤ d) && decide (d ≤ 999)) = true := bI1 c8
          refine hR.run0 2 (S' := (43, [some (vR 100), some (vI h), some (vI v), some (vI d)], [], pset (mW τ ρ) 100 (.inr (6, [vR 101, vR 102, vI (τ.1 5), vR 103, vR 104, vR 105, vR 106, vI (τ.1 0), vI (τ.1 1), vI (τ.1 2), vI (τ.1 3), vR 107, vR 108, vI (τ.1 6), vI (τ.1 7), vR 109, vI (τ.1 8), vI (τ.1 4), vI (τ.1 9), vI (τ.1 10), vR 110, vR 111, vR 112, vR 113, vR 114, vI 0])))) rfl ?_
          rw [mW_x0]
          refine hR.run0 2 (S' := (47, [some (vR 100), some (vI h), some (vI v), some (vI d)], [vI 0], mW τ (sS ρ 0 0))) rfl ?_
          refine hR.br (C := 0 ≠ 0) rfl (by first | omega | (dsimp only [plus1]; omega) | (simp [plus1, sHt, sH, sS, sAt, sA, sup]; done) | (simp [plus1, sHt, sH, sS, sAt, sA, sup]; omega)) (fun c9 => ?_) (fun c9 => ?_)
          · exfalso; omega
          refine hR.run0 2 (S' := (55, [some (vR 100), some (vI h), some (vI v), some (vI d)], [vI 1], mW τ (sS ρ 0 0))) rfl ?_
          have hk : arC h v d = 0 := by (try simp only [Bool.and_eq_true, Bool.and_eq_false_iff, decide_eq_true_eq, decide_eq_false_iff_not] at *); unfold arC; (repeat' split) <;> omega
          exact hR.rt rfl (Or.inr rfl) (by rw [hk]; rfl) (by rw [hk])
        · replace c8 : (decide (0 ≤ d) && decide (d ≤ 999)) = false := bI0 (Classical.not_not.mp c8)
          refine hR.run0 3 (S' := (43, [some (vR 100), some (vI h), some (vI v), some (vI d)], [], pset (mW τ ρ) 100 (.inr (6, [vR 101, vR 102, vI (τ.1 5), vR 103, vR 104, vR 105, vR 106, vI (τ.1 0), vI (τ.1 1), vI (τ.1 2), vI (τ.1 3), vR 107, vR 108, vI (τ.1 6), vI (τ.1 7), vR 109, vI (τ.1 8), vI (τ.1 4), vI (τ.1 9), vI (τ.1 10), vR 110, vR 111, vR 112, vR 113, vR 114, vI 2])))) rfl ?_
          rw [mW_x0]
          refine hR.run0 2 (S' := (47, [some (vR 100), some (vI h), some (vI v), some (vI d)], [vI 2], mW τ (sS ρ 0 2))) rfl ?_
          refine hR.br (C := 2 ≠ 0) rfl (by first | omega | (dsimp only [plus1]; omega) | (simp [plus1, sHt, sH, sS, sAt, sA, sup]; done) | (simp [plus1, sHt, sH, sS, sAt, sA, sup]; omega)) (fun c10 => ?_) (fun c10 => ?_)
          · skip
            refine hR.run0 1 (S' := (55, [some (vR 100), some (vI h), some (vI v), some (vI d)], [vI 0], mW τ (sS ρ 0 2))) rfl ?_
            have hk : arC h v d = 2 := by (try simp only [Bool.and_eq_true, Bool.and_eq_false_iff, decide_eq_true_eq, decide_eq_false_iff_not] at *); unfold arC; (repeat' split) <;> omega
            exact hR.rt rfl (Or.inl rfl) (by rw [hk]; rfl) (by rw [hk])
          · exfalso; omega
      · replace c7 : (decide (0 ≤ v) && decide (v < 3)) = false := bI0 (Classical.not_not.mp c7)
        refine hR.run0 3 (S' := (43, [some (vR 100), some (vI h), some (vI v), some (vI d)], [], pset (mW τ ρ) 100 (.inr (6, [vR 101, vR 102, vI (τ.1 5), vR 103, vR 104, vR 105, vR 106, vI (τ.1 0), vI (τ.1 1), vI (τ.1 2), vI (τ.1 3), vR 107, vR 108, vI (τ.1 6), vI (τ.1 7), vR 109, vI (τ.1 8), vI (τ.1 4), vI (τ.1 9), vI (τ.1 10), vR 110, vR 111, vR 112, vR 113, vR 114, vI 1])))) rfl ?_
        rw [mW_x0]
        refine hR.run0 2 (S' := (47, [some (vR 100), some (vI h), some (vI v), some (vI d)], [vI 1], mW τ (sS ρ 0 1))) rfl ?_
        refine hR.br (C := 1 ≠ 0) rfl (by first | omega | (dsimp only [plus1]; omega) | (simp [plus1, sHt, sH, sS, sAt, sA, sup]; done) | (simp [plus1, sHt, sH, sS, sAt, sA, sup]; omega)) (fun c11 => ?_) (fun c11 => ?_)
        · skip
          refine hR.run0 1 (S' := (55, [some (vR 100), some (vI h), some (vI v), some (vI d)], [vI 0], mW τ (sS ρ 0 1))) rfl ?_
          have hk : arC h v d = 1 := by (try simp only [Bool.and_eq_true, Bool.and_eq_false_iff, decide_eq_true_eq, decide_eq_false_iff_not] at *); unfold arC; (repeat' split) <;> omega
          exact hR.rt rfl (Or.inl rfl) (by rw [hk]; rfl) (by rw [hk])
        · exfalso; omega
theorem sr_uses0 (τ ρ : St) (htu : 0 ≤ τ.1 1 ∧ τ.1 1 < 3) : Sp mX6_uses roC 0 [vR 100, vI 0] (mW τ ρ) (.inl none) (mW (sS (sHt τ 1 (τ.1 1) 0 (τ.2.2 1 (τ.1 1) 0 - 1)) 7 1) ρ) := by
  refine Sp.of (lk := lkX6) (tb := bX6_uses) (by decide) lkX6_ok tX6_uses (mW_keys _ _ _ _) (Nat.le_of_ble_eq_true rfl) (fun G hR => ?_)
  refine hR.run1 3 (S' := (5, [some (vR 100), some (vI 0)], [], pset (mW τ ρ) 100 (.inr (6, [vR 101, vR 102, vI (τ.1 5), vR 103, vR 104, vR 105, vR 106, vI (τ.1 0), vI (τ.1 1), vI (τ.1 2), vI (τ.1 3), vR 107, vR 108, vI (τ.1 6), vI 1, vR 109, vI (τ.1 8), vI (τ.1 4), vI (τ.1 9), vI (τ.1 10), vR 110, vR 111, vR 112, vR 113, vR 114, vI (ρ.1 0)])))) rfl (by first | omega | (dsimp only [plus1]; omega) | (simp [plus1, sHt, sH, sS, sAt, sA, sup]; done) | (simp [plus1, sHt, sH, sS, sAt, sA, sup]; omega)) ?_
  rw [mW_s7]
  refine hR.run1 10 (S' := (19, [some (vR 100), some (vI 0)], [vI (flat (τ.2.2 1) ((5 * (τ.1 1)) + 0)), vI ((5 * (τ.1 1)) + 0), vR 107], mW (sS τ 7 1) ρ)) rfl (by first | omega | (dsimp only [plus1]; omega) | (simp [plus1, sHt, sH, sS, sAt, sA, sup]; done) | (simp [plus1, sHt, sH, sS, sAt, sA, sup]; omega)) ?_
  rw [show flat (τ.2.2 1) ((5 * (τ.1 1)) + 0) = τ.2.2 1 (τ.1 1) 0 from flat_at (p := (τ.1 1)) _ (by omega)]
  refine hR.run1 3 (S' := (22, [some (vR 100), some (vI 0)], [], pset (mW (sS τ 7 1) ρ) 107 (.inl (15, .inl (pup (flat ((sS τ 7 1).2.2 1)) (5 * (τ.1 1) + 0) ((τ.2.2 1 (τ.1 1) 0) - 1)))))) rfl (by first | omega | (dsimp only [plus1]; omega) | (simp [plus1, sHt, sH, sS, sAt, sA, sup]; done) | (simp [plus1, sHt, sH, sS, sAt, sA, sup]; omega)) ?_
  rw [mW_c _ _ _ (by omega)]
  exact hR.rt rfl trivial (by rfl) (by rfl)
theorem sr_mayUse0 (τ ρ : St) (hph : 0 ≤ τ.1 0 ∧ τ.1 0 ≤ 5) (htu : 0 ≤ τ.1 1 ∧ τ.1 1 < 3) (hcd : ∀ p k, 0 ≤ τ.2.2 1 p k ∧ τ.2.2 1 p k ≤ 15) (hfr : ∀ k, 0 ≤ τ.2.1 5 k ∧ τ.2.1 5 k ≤ 15) (hus : 0 ≤ τ.1 7 ∧ τ.1 7 ≤ 1) : Sp mX6_mayUse roC 0 [vR 100, vI 0] (mW τ ρ) (.inl (some (vI (bI (mayU τ 0))))) (mW τ ρ) := by
  refine Sp.of (lk := lkX6) (tb := bX6_mayUse) (by decide) lkX6_ok tX6_mayUse (mW_keys _ _ _ _) (Nat.le_of_ble_eq_true rfl) (fun G hR => ?_)
  refine hR.run0 3 (S' := (5, [some (vR 100), some (vI 0)], [vI 1, vI (τ.1 0)], mW τ ρ)) rfl ?_
  refine hR.br (C := τ.1 0 = 1) rfl (by first | omega | (dsimp only [plus1]; omega) | (simp [plus1, sHt, sH, sS, sAt, sA, sup]; done) | (simp [plus1, sHt, sH, sS, sAt, sA, sup]; omega)) (fun c1 => ?_) (fun c1 => ?_)
  · skip
    refine hR.run0 2 (S' := (20, [some (vR 100), some (vI 0)], [vI (τ.1 7)], mW τ ρ)) rfl ?_
    refine hR.br (C := τ.1 7 ≠ 0) rfl (by first | omega | (dsimp only [plus1]; omega) | (simp [plus1, sHt, sH, sS, sAt, sA, sup]; done) | (simp [plus1, sHt, sH, sS, sAt, sA, sup]; omega)) (fun c2 => ?_) (fun c2 => ?_)
    · skip
      refine hR.run0 1 (S' := (50, [some (vR 100), some (vI 0)], [vI 0], mW τ ρ)) rfl ?_
      exact hR.rt rfl (Or.inl rfl) (by rw [show bI (mayU τ 0) = 0 from by first | (exfalso; omega) | exact bIf (fun h => by simp only [mayU, canU, Bool.and_eq_true, Bool.or_eq_true, decide_eq_true_eq] at h; first | omega | (simp_all; done))]) (by rfl)
    · skip
      refine hR.run1 9 (S' := (36, [some (vR 100), some (vI 0)], [vI (flat (τ.2.2 1) ((5 * (τ.1 1)) + 0))], mW τ ρ)) rfl (by first | omega | (dsimp only [plus1]; omega) | (simp [plus1, sHt, sH, sS, sAt, sA, sup]; done) | (simp [plus1, sHt, sH, sS, sAt, sA, sup]; omega)) ?_
      rw [show flat (τ.2.2 1) ((5 * (τ.1 1)) + 0) = τ.2.2 1 (τ.1 1) 0 from flat_at (p := (τ.1 1)) _ (by omega)]
      have f13 := hcd (τ.1 1) 0
      have f1 := hfr 0
      refine hR.run1 4 (S' := (42, [some (vR 100), some (vI 0)], [vI (τ.2.1 5 0), vI (τ.2.2 1 (τ.1 1) 0)], mW τ ρ)) rfl (by first | omega | (dsimp only [plus1]; omega) | (simp [plus1, sHt, sH, sS, sAt, sA, sup]; done) | (simp [plus1, sHt, sH, sS, sAt, sA, sup]; omega)) ?_
      refine hR.br (C := τ.2.2 1 (τ.1 1) 0 ≤ τ.2.1 5 0) rfl (by first | omega | (dsimp only [plus1]; omega) | (simp [plus1, sHt, sH, sS, sAt, sA, sup]; done) | (simp [plus1, sHt, sH, sS, sAt, sA, sup]; omega)) (fun c3 => ?_) (fun c3 => ?_)
      · skip
        refine hR.run0 1 (S' := (50, [some (vR 100), some (vI 0)], [vI 0], mW τ ρ)) rfl ?_
        exact hR.rt rfl (Or.inl rfl) (by rw [show bI (mayU τ 0) = 0 from by first | (exfalso; omega) | exact bIf (fun h => by simp only [mayU, canU, Bool.and_eq_true, Bool.or_eq_true, decide_eq_true_eq] at h; first | omega | (simp_all; done))]) (by rfl)
      · skip
        refine hR.run0 2 (S' := (50, [some (vR 100), some (vI 0)], [vI 1], mW τ ρ)) rfl ?_
        exact hR.rt rfl (Or.inr rfl) (by rw [show bI (mayU τ 0) = 1 from by first | (exfalso; omega) | exact bIt (by simp only [mayU, canU, Bool.and_eq_true, Bool.or_eq_true, decide_eq_true_eq]; first | omega | (simp_all; done))]) (by rfl)
  · skip
    refine hR.run0 3 (S' := (13, [some (vR 100), some (vI 0)], [vI 2, vI (τ.1 0)], mW τ ρ)) rfl ?_
    refine hR.br (C := τ.1 0 ≠ 2) rfl (by first | omega | (dsimp only [plus1]; omega) | (simp [plus1, sHt, sH, sS, sAt, sA, sup]; done) | (simp [plus1, sHt, sH, sS, sAt, sA, sup]; omega)) (fun c4 => ?_) (fun c4 => ?_)
    · skip
      refine hR.run0 1 (S' := (50, [some (vR 100), some (vI 0)], [vI 0], mW τ ρ)) rfl ?_
      exact hR.rt rfl (Or.inl rfl) (by rw [show bI (mayU τ 0) = 0 from by first | (exfalso; omega) | exact bIf (fun h => by simp only [mayU, canU, Bool.and_eq_true, Bool.or_eq_true, decide_eq_true_eq] at h; first | omega | (simp_all; done))]) (by rfl)
    · skip
      refine hR.run0 2 (S' := (20, [some (vR 100), some (vI 0)], [vI (τ.1 7)], mW τ ρ)) rfl ?_
      refine hR.br (C := τ.1 7 ≠ 0) rfl (by first | omega | (dsimp only [plus1]; omega) | (simp [plus1, sHt, sH, sS, sAt, sA, sup]; done) | (simp [plus1, sHt, sH, sS, sAt, sA, sup]; omega)) (fun c5 => ?_) (fun c5 => ?_)
      · skip
        refine hR.run0 1 (S' := (50, [some (vR 100), some (vI 0)], [vI 0], mW τ ρ)) rfl ?_
        exact hR.rt rfl (Or.inl rfl) (by rw [show bI (mayU τ 0) = 0 from by first | (exfalso; omega) | exact bIf (fun h => by simp only [mayU, canU, Bool.and_eq_true, Bool.or_eq_true, decide_eq_true_eq] at h; first | omega | (simp_all; done))]) (by rfl)
      · skip
        refine hR.run1 9 (S' := (36, [some (vR 100), some (vI 0)], [vI (flat (τ.2.2 1) ((5 * (τ.1 1)) + 0))], mW τ ρ)) rfl (by first | omega | (dsimp only [plus1]; omega) | (simp [plus1, sHt, sH, sS, sAt, sA, sup]; done) | (simp [plus1, sHt, sH, sS, sAt, sA, sup]; omega)) ?_
        rw [show flat (τ.2.2 1) ((5 * (τ.1 1)) + 0) = τ.2.2 1 (τ.1 1) 0 from flat_at (p := (τ.1 1)) _ (by omega)]
        have f38 := hcd (τ.1 1) 0
        have f2 := hfr 0
        refine hR.run1 4 (S' := (42, [some (vR 100), some (vI 0)], [vI (τ.2.1 5 0), vI (τ.2.2 1 (τ.1 1) 0)], mW τ ρ)) rfl (by first | omega | (dsimp only [plus1]; omega) | (simp [plus1, sHt, sH, sS, sAt, sA, sup]; done) | (simp [plus1, sHt, sH, sS, sAt, sA, sup]; omega)) ?_
        refine hR.br (C := τ.2.2 1 (τ.1 1) 0 ≤ τ.2.1 5 0) rfl (by first | omega | (dsimp only [plus1]; omega) | (simp [plus1, sHt, sH, sS, sAt, sA, sup]; done) | (simp [plus1, sHt, sH, sS, sAt, sA, sup]; omega)) (fun c6 => ?_) (fun c6 => ?_)
        · skip
          refine hR.run0 1 (S' := (50, [some (vR 100), some (vI 0)], [vI 0], mW τ ρ)) rfl ?_
          exact hR.rt rfl (Or.inl rfl) (by rw [show bI (mayU τ 0) = 0 from by first | (exfalso; omega) | exact bIf (fun h => by simp only [mayU, canU, Bool.and_eq_true, Bool.or_eq_true, decide_eq_true_eq] at h; first | omega | (simp_all; done))]) (by rfl)
        · skip
          refine hR.run0 2 (S' := (50, [some (vR 100), some (vI 0)], [vI 1], mW τ ρ)) rfl ?_
          exact hR.rt rfl (Or.inr rfl) (by rw [show bI (mayU τ 0) = 1 from by first | (exfalso; omega) | exact bIt (by simp only [mayU, canU, Bool.and_eq_true, Bool.or_eq_true, decide_eq_true_eq]; first | omega | (simp_all; done))]) (by rfl)
theorem sr_uses1 (τ ρ : St) (htu : 0 ≤ τ.1 1 ∧ τ.1 1 < 3) : Sp mX6_uses roC 0 [vR 100, vI 1] (mW τ ρ) (.inl none) (mW (sS (sHt τ 1 (τ.1 1) 1 (τ.2.2 1 (τ.1 1) 1 - 1)) 7 1) ρ) := by
  refine Sp.of (lk := lkX6) (tb := bX6_uses) (by decide) lkX6_ok tX6_uses (mW_keys _ _ _ _) (Nat.le_of_ble_eq_true rfl) (fun G hR => ?_)
  refine hR.run1 3 (S' := (5, [some (vR 100), some (vI 1)], [], pset (mW τ ρ) 100 (.inr (6, [vR 101, vR 102, vI (τ.1 5), vR 103, vR 104, vR 105, vR 106, vI (τ.1 0), vI (τ.1 1), vI (τ.1 2), vI (τ.1 3), vR 107, vR 108, vI (τ.1 6), vI 1, vR 109, vI (τ.1 8), vI (τ.1 4), vI (τ.1 9), vI (τ.1 10), vR 110, vR 111, vR 112, vR 113, vR 114, vI (ρ.1 0)])))) rfl (by first | omega | (dsimp only [plus1]; omega) | (simp [plus1, sHt, sH, sS, sAt, sA, sup]; done) | (simp [plus1, sHt, sH, sS, sAt, sA, sup]; omega)) ?_
  rw [mW_s7]
  refine hR.run1 10 (S' := (19, [some (vR 100), some (vI 1)], [vI (flat (τ.2.2 1) ((5 * (τ.1 1)) + 1)), vI ((5 * (τ.1 1)) + 1), vR 107], mW (sS τ 7 1) ρ)) rfl (by first | omega | (dsimp only [plus1]; omega) | (simp [plus1, sHt, sH, sS, sAt, sA, sup]; done) | (simp [plus1, sHt, sH, sS, sAt, sA, sup]; omega)) ?_
  rw [show flat (τ.2.2 1) ((5 * (τ.1 1)) + 1) = τ.2.2 1 (τ.1 1) 1 from flat_at (p := (τ.1 1)) _ (by omega)]
  refine hR.run1 3 (S' := (22, [some (vR 100), some (vI 1)], [], pset (mW (sS τ 7 1) ρ) 107 (.inl (15, .inl (pup (flat ((sS τ 7 1).2.2 1)) (5 * (τ.1 1) + 1) ((τ.2.2 1 (τ.1 1) 1) - 1)))))) rfl (by first | omega | (dsimp only [plus1]; omega) | (simp [plus1, sHt, sH, sS, sAt, sA, sup]; done) | (simp [plus1, sHt, sH, sS, sAt, sA, sup]; omega)) ?_
  rw [mW_c _ _ _ (by omega)]
  exact hR.rt rfl trivial (by rfl) (by rfl)
theorem sr_mayUse1 (τ ρ : St) (hph : 0 ≤ τ.1 0 ∧ τ.1 0 ≤ 5) (htu : 0 ≤ τ.1 1 ∧ τ.1 1 < 3) (hcd : ∀ p k, 0 ≤ τ.2.2 1 p k ∧ τ.2.2 1 p k ≤ 15) (hfr : ∀ k, 0 ≤ τ.2.1 5 k ∧ τ.2.1 5 k ≤ 15) (hus : 0 ≤ τ.1 7 ∧ τ.1 7 ≤ 1) : Sp mX6_mayUse roC 0 [vR 100, vI 1] (mW τ ρ) (.inl (some (vI (bI (mayU τ 1))))) (mW τ ρ) := by
  refine Sp.of (lk := lkX6) (tb := bX6_mayUse) (by decide) lkX6_ok tX6_mayUse (mW_keys _ _ _ _) (Nat.le_of_ble_eq_true rfl) (fun G hR => ?_)
  refine hR.run0 3 (S' := (5, [some (vR 100), some (vI 1)], [vI 1, vI (τ.1 0)], mW τ ρ)) rfl ?_
  refine hR.br (C := τ.1 0 = 1) rfl (by first | omega | (dsimp only [plus1]; omega) | (simp [plus1, sHt, sH, sS, sAt, sA, sup]; done) | (simp [plus1, sHt, sH, sS, sAt, sA, sup]; omega)) (fun c1 => ?_) (fun c1 => ?_)
  · skip
    refine hR.run0 2 (S' := (20, [some (vR 100), some (vI 1)], [vI (τ.1 7)], mW τ ρ)) rfl ?_
    refine hR.br (C := τ.1 7 ≠ 0) rfl (by first | omega | (dsimp only [plus1]; omega) | (simp [plus1, sHt, sH, sS, sAt, sA, sup]; done) | (simp [plus1, sHt, sH, sS, sAt, sA, sup]; omega)) (fun c2 => ?_) (fun c2 => ?_)
    · skip
      refine hR.run0 1 (S' := (50, [some (vR 100), some (vI 1)], [vI 0], mW τ ρ)) rfl ?_
      exact hR.rt rfl (Or.inl rfl) (by rw [show bI (mayU τ 1) = 0 from by first | (exfalso; omega) | exact bIf (fun h => by simp only [mayU, canU, Bool.and_eq_true, Bool.or_eq_true, decide_eq_true_eq] at h; first | omega | (simp_all; done))]) (by rfl)
    · skip
      refine hR.run1 9 (S' := (36, [some (vR 100), some (vI 1)], [vI (flat (τ.2.2 1) ((5 * (τ.1 1)) + 1))], mW τ ρ)) rfl (by first | omega | (dsimp only [plus1]; omega) | (simp [plus1, sHt, sH, sS, sAt, sA, sup]; done) | (simp [plus1, sHt, sH, sS, sAt, sA, sup]; omega)) ?_
      rw [show flat (τ.2.2 1) ((5 * (τ.1 1)) + 1) = τ.2.2 1 (τ.1 1) 1 from flat_at (p := (τ.1 1)) _ (by omega)]
      have f13 := hcd (τ.1 1) 1
      have f1 := hfr 1
      refine hR.run1 4 (S' := (42, [some (vR 100), some (vI 1)], [vI (τ.2.1 5 1), vI (τ.2.2 1 (τ.1 1) 1)], mW τ ρ)) rfl (by first | omega | (dsimp only [plus1]; omega) | (simp [plus1, sHt, sH, sS, sAt, sA, sup]; done) | (simp [plus1, sHt, sH, sS, sAt, sA, sup]; omega)) ?_
      refine hR.br (C := τ.2.2 1 (τ.1 1) 1 ≤ τ.2.1 5 1) rfl (by first | omega | (dsimp only [plus1]; omega) | (simp [plus1, sHt, sH, sS, sAt, sA, sup]; done) | (simp [plus1, sHt, sH, sS, sAt, sA, sup]; omega)) (fun c3 => ?_) (fun c3 => ?_)
      · skip
        refine hR.run0 1 (S' := (50, [some (vR 100), some (vI 1)], [vI 0], mW τ ρ)) rfl ?_
        exact hR.rt rfl (Or.inl rfl) (by rw [show bI (mayU τ 1) = 0 from by first | (exfalso; omega) | exact bIf (fun h => by simp only [mayU, canU, Bool.and_eq_true, Bool.or_eq_true, decide_eq_true_eq] at h; first | omega | (simp_all; done))]) (by rfl)
      · skip
        refine hR.run0 2 (S' := (50, [some (vR 100), some (vI 1)], [vI 1], mW τ ρ)) rfl ?_
        exact hR.rt rfl (Or.inr rfl) (by rw [show bI (mayU τ 1) = 1 from by first | (exfalso; omega) | exact bIt (by simp only [mayU, canU, Bool.and_eq_true, Bool.or_eq_true, decide_eq_true_eq]; first | omega | (simp_all; done))]) (by rfl)
  · skip
    refine hR.run0 3 (S' := (13, [some (vR 100), some (vI 1)], [vI 2, vI (τ.1 0)], mW τ ρ)) rfl ?_
    refine hR.br (C := τ.1 0 ≠ 2) rfl (by first | omega | (dsimp only [plus1]; omega) | (simp [plus1, sHt, sH, sS, sAt, sA, sup]; done) | (simp [plus1, sHt, sH, sS, sAt, sA, sup]; omega)) (fun c4 => ?_) (fun c4 => ?_)
    · skip
      refine hR.run0 1 (S' := (50, [some (vR 100), some (vI 1)], [vI 0], mW τ ρ)) rfl ?_
      exact hR.rt rfl (Or.inl rfl) (by rw [show bI (mayU τ 1) = 0 from by first | (exfalso; omega) | exact bIf (fun h => by simp only [mayU, canU, Bool.and_eq_true, Bool.or_eq_true, decide_eq_true_eq] at h; first | omega | (simp_all; done))]) (by rfl)
    · skip
      refine hR.run0 2 (S' := (20, [some (vR 100), some (vI 1)], [vI (τ.1 7)], mW τ ρ)) rfl ?_
      refine hR.br (C := τ.1 7 ≠ 0) rfl (by first | omega | (dsimp only [plus1]; omega) | (simp [plus1, sHt, sH, sS, sAt, sA, sup]; done) | (simp [plus1, sHt, sH, sS, sAt, sA, sup]; omega)) (fun c5 => ?_) (fun c5 => ?_)
      · skip
        refine hR.run0 1 (S' := (50, [some (vR 100), some (vI 1)], [vI 0], mW τ ρ)) rfl ?_
        exact hR.rt rfl (Or.inl rfl) (by rw [show bI (mayU τ 1) = 0 from by first | (exfalso; omega) | exact bIf (fun h => by simp only [mayU, canU, Bool.and_eq_true, Bool.or_eq_true, decide_eq_true_eq] at h; first | omega | (simp_all; done))]) (by rfl)
      · skip
        refine hR.run1 9 (S' := (36, [some (vR 100), some (vI 1)], [vI (flat (τ.2.2 1) ((5 * (τ.1 1)) + 1))], mW τ ρ)) rfl (by first | omega | (dsimp only [plus1]; omega) | (simp [plus1, sHt, sH, sS, sAt, sA, sup]; done) | (simp [plus1, sHt, sH, sS, sAt, sA, sup]; omega)) ?_
        rw [show flat (τ.2.2 1) ((5 * (τ.1 1)) + 1) = τ.2.2 1 (τ.1 1) 1 from flat_at (p := (τ.1 1)) _ (by omega)]
        have f38 := hcd (τ.1 1) 1
        have f2 := hfr 1
        refine hR.run1 4 (S' := (42, [some (vR 100), some (vI 1)], [vI (τ.2.1 5 1), vI (τ.2.2 1 (τ.1 1) 1)], mW τ ρ)) rfl (by first | omega | (dsimp only [plus1]; omega) | (simp [plus1, sHt, sH, sS, sAt, sA, sup]; done) | (simp [plus1, sHt, sH, sS, sAt, sA, sup]; omega)) ?_
        refine hR.br (C := τ.2.2 1 (τ.1 1) 1 ≤ τ.2.1 5 1) rfl (by first | omega | (dsimp only [plus1]; omega) | (simp [plus1, sHt, sH, sS, sAt, sA, sup]; done) | (simp [plus1, sHt, sH, sS, sAt, sA, sup]; omega)) (fun c6 => ?_) (fun c6 => ?_)
        · skip
          refine hR.run0 1 (S' := (50, [some (vR 100), some (vI 1)], [vI 0], mW τ ρ)) rfl ?_
          exact hR.rt rfl (Or.inl rfl) (by rw [show bI (mayU τ 1) = 0 from by first | (exfalso; omega) | exact bIf (fun h => by simp only [mayU, canU, Bool.and_eq_true, Bool.or_eq_true, decide_eq_true_eq] at h; first | omega | (simp_all; done))]) (by rfl)
        · skip
          refine hR.run0 2 (S' := (50, [some (vR 100), some (vI 1)], [vI 1], mW τ ρ)) rfl ?_
          exact hR.rt rfl (Or.inr rfl) (by rw [show bI (mayU τ 1) = 1 from by first | (exfalso; omega) | exact bIt (by simp only [mayU, canU, Bool.and_eq_true, Bool.or_eq_true, decide_eq_true_eq]; first | omega | (simp_all; done))]) (by rfl)
theorem sr_uses2 (τ ρ : St) (htu : 0 ≤ τ.1 1 ∧ τ.1 1 < 3) : Sp mX6_uses roC 0 [vR 100, vI 2] (mW τ ρ) (.inl none) (mW (sS (sHt τ 1 (τ.1 1) 2 (τ.2.2 1 (τ.1 1) 2 - 1)) 7 1) ρ) := by
  refine Sp.of (lk := lkX6) (tb := bX6_uses) (by decide) lkX6_ok tX6_uses (mW_keys _ _ _ _) (Nat.le_of_ble_eq_true rfl) (fun G hR => ?_)
  refine hR.run1 3 (S' := (5, [some (vR 100), some (vI 2)], [], pset (mW τ ρ) 100 (.inr (6, [vR 101, vR 102, vI (τ.1 5), vR 103, vR 104, vR 105, vR 106, vI (τ.1 0), vI (τ.1 1), vI (τ.1 2), vI (τ.1 3), vR 107, vR 108, vI (τ.1 6), vI 1, vR 109, vI (τ.1 8), vI (τ.1 4), vI (τ.1 9), vI (τ.1 10), vR 110, vR 111, vR 112, vR 113, vR 114, vI (ρ.1 0)])))) rfl (by first | omega | (dsimp only [plus1]; omega) | (simp [plus1, sHt, sH, sS, sAt, sA, sup]; done) | (simp [plus1, sHt, sH, sS, sAt, sA, sup]; omega)) ?_
  rw [mW_s7]
  refine hR.run1 10 (S' := (19, [some (vR 100), some (vI 2)], [vI (flat (τ.2.2 1) ((5 * (τ.1 1)) + 2)), vI ((5 * (τ.1 1)) + 2), vR 107], mW (sS τ 7 1) ρ)) rfl (by first | omega | (dsimp only [plus1]; omega) | (simp [plus1, sHt, sH, sS, sAt, sA, sup]; done) | (simp [plus1, sHt, sH, sS, sAt, sA, sup]; omega)) ?_
  rw [show flat (τ.2.2 1) ((5 * (τ.1 1)) + 2) = τ.2.2 1 (τ.1 1) 2 from flat_at (p := (τ.1 1)) _ (by omega)]
  refine hR.run1 3 (S' := (22, [some (vR 100), some (vI 2)], [], pset (mW (sS τ 7 1) ρ) 107 (.inl (15, .inl (pup (flat ((sS τ 7 1).2.2 1)) (5 * (τ.1 1) + 2) ((τ.2.2 1 (τ.1 1) 2) - 1)))))) rfl (by first | omega | (dsimp only [plus1]; omega) | (simp [plus1, sHt, sH, sS, sAt, sA, sup]; done) | (simp [plus1, sHt, sH, sS, sAt, sA, sup]; omega)) ?_
  rw [mW_c _ _ _ (by omega)]
  exact hR.rt rfl trivial (by rfl) (by rfl)
theorem sr_mayUse2 (τ ρ : St) (hph : 0 ≤ τ.1 0 ∧ τ.1 0 ≤ 5) (htu : 0 ≤ τ.1 1 ∧ τ.1 1 < 3) (hcd : ∀ p k, 0 ≤ τ.2.2 1 p k ∧ τ.2.2 1 p k ≤ 15) (hfr : ∀ k, 0 ≤ τ.2.1 5 k ∧ τ.2.1 5 k ≤ 15) (hus : 0 ≤ τ.1 7 ∧ τ.1 7 ≤ 1) : Sp mX6_mayUse roC 0 [vR 100, vI 2] (mW τ ρ) (.inl (some (vI (bI (mayU τ 2))))) (mW τ ρ) := by
  refine Sp.of (lk := lkX6) (tb := bX6_mayUse) (by decide) lkX6_ok tX6_mayUse (mW_keys _ _ _ _) (Nat.le_of_ble_eq_true rfl) (fun G hR => ?_)
  refine hR.run0 3 (S' := (5, [some (vR 100), some (vI 2)], [vI 1, vI (τ.1 0)], mW τ ρ)) rfl ?_
  refine hR.br (C := τ.1 0 = 1) rfl (by first | omega | (dsimp only [plus1]; omega) | (simp [plus1, sHt, sH, sS, sAt, sA, sup]; done) | (simp [plus1, sHt, sH, sS, sAt, sA, sup]; omega)) (fun c1 => ?_) (fun c1 => ?_)
  · skip
    refine hR.run0 2 (S' := (20, [some (vR 100), some (vI 2)], [vI (τ.1 7)], mW τ ρ)) rfl ?_
    refine hR.br (C := τ.1 7 ≠ 0) rfl (by first | omega | (dsimp only [plus1]; omega) | (simp [plus1, sHt, sH, sS, sAt, sA, sup]; done) | (simp [plus1, sHt, sH, sS, sAt, sA, sup]; omega)) (fun c2 => ?_) (fun c2 => ?_)
    · skip
      refine hR.run0 1 (S' := (50, [some (vR 100), some (vI 2)], [vI 0], mW τ ρ)) rfl ?_
      exact hR.rt rfl (Or.inl rfl) (by rw [show bI (mayU τ 2) = 0 from by first | (exfalso; omega) | exact bIf (fun h => by simp only [mayU, canU, Bool.and_eq_true, Bool.or_eq_true, decide_eq_true_eq] at h; first | omega | (simp_all; done))]) (by rfl)
    · skip
      refine hR.run1 9 (S' := (36, [some (vR 100), some (vI 2)], [vI (flat (τ.2.2 1) ((5 * (τ.1 1)) + 2))], mW τ ρ)) rfl (by first | omega | (dsimp only [plus1]; omega) | (simp [plus1, sHt, sH, sS, sAt, sA, sup]; done) | (simp [plus1, sHt, sH, sS, sAt, sA, sup]; omega)) ?_
      rw [show flat (τ.2.2 1) ((5 * (τ.1 1)) + 2) = τ.2.2 1 (τ.1 1) 2 from flat_at (p := (τ.1 1)) _ (by omega)]
      have f13 := hcd (τ.1 1) 2
      have f1 := hfr 2
      refine hR.run1 4 (S' := (42, [some (vR 100), some (vI 2)], [vI (τ.2.1 5 2), vI (τ.2.2 1 (τ.1 1) 2)], mW τ ρ)) rfl (by first | omega | (dsimp only [plus1]; omega) | (simp [plus1, sHt, sH, sS, sAt, sA, sup]; done) | (simp [plus1, sHt, sH, sS, sAt, sA, sup]; omega)) ?_
      refine hR.br (C := τ.2.2 1 (τ.1 1) 2 ≤ τ.2.1 5 2) rfl (by first | omega | (dsimp only [plus1]; omega) | (simp [plus1, sHt, sH, sS, sAt, sA, sup]; done) | (simp [plus1, sHt, sH, sS, sAt, sA, sup]; omega)) (fun c3 => ?_) (fun c3 => ?_)
      · skip
        refine hR.run0 1 (S' := (50, [some (vR 100), some (vI 2)], [vI 0], mW τ ρ)) rfl ?_
        exact hR.rt rfl (Or.inl rfl) (by rw [show bI (mayU τ 2) = 0 from by first | (exfalso; omega) | exact bIf (fun h => by simp only [mayU, canU, Bool.and_eq_true, Bool.or_eq_true, decide_eq_true_eq] at h; first | omega | (simp_all; done))]) (by rfl)
      · skip
        refine hR.run0 2 (S' := (50, [some (vR 100), some (vI 2)], [vI 1], mW τ ρ)) rfl ?_
        exact hR.rt rfl (Or.inr rfl) (by rw [show bI (mayU τ 2) = 1 from by first | (exfalso; omega) | exact bIt (by simp only [mayU, canU, Bool.and_eq_true, Bool.or_eq_true, decide_eq_true_eq]; first | omega | (simp_all; done))]) (by rfl)
  · skip
    refine hR.run0 3 (S' := (13, [some (vR 100), some (vI 2)], [vI 2, vI (τ.1 0)], mW τ ρ)) rfl ?_
    refine hR.br (C := τ.1 0 ≠ 2) rfl (by first | omega | (dsimp only [plus1]; omega) | (simp [plus1, sHt, sH, sS, sAt, sA, sup]; done) | (simp [plus1, sHt, sH, sS, sAt, sA, sup]; omega)) (fun c4 => ?_) (fun c4 => ?_)
    · skip
      refine hR.run0 1 (S' := (50, [some (vR 100), some (vI 2)], [vI 0], mW τ ρ)) rfl ?_
      exact hR.rt rfl (Or.inl rfl) (by rw [show bI (mayU τ 2) = 0 from by first | (exfalso; omega) | exact bIf (fun h => by simp only [mayU, canU, Bool.and_eq_true, Bool.or_eq_true, decide_eq_true_eq] at h; first | omega | (simp_all; done))]) (by rfl)
    · skip
      refine hR.run0 2 (S' := (20, [some (vR 100), some (vI 2)], [vI (τ.1 7)], mW τ ρ)) rfl ?_
      refine hR.br (C := τ.1 7 ≠ 0) rfl (by first | omega | (dsimp only [plus1]; omega) | (simp [plus1, sHt, sH, sS, sAt, sA, sup]; done) | (simp [plus1, sHt, sH, sS, sAt, sA, sup]; omega)) (fun c5 => ?_) (fun c5 => ?_)
      · skip
        refine hR.run0 1 (S' := (50, [some (vR 100), some (vI 2)], [vI 0], mW τ ρ)) rfl ?_
        exact hR.rt rfl (Or.inl rfl) (by rw [show bI (mayU τ 2) = 0 from by first | (exfalso; omega) | exact bIf (fun h => by simp only [mayU, canU, Bool.and_eq_true, Bool.or_eq_true, decide_eq_true_eq] at h; first | omega | (simp_all; done))]) (by rfl)
      · skip
        refine hR.run1 9 (S' := (36, [some (vR 100), some (vI 2)], [vI (flat (τ.2.2 1) ((5 * (τ.1 1)) + 2))], mW τ ρ)) rfl (by first | omega | (dsimp only [plus1]; omega) | (simp [plus1, sHt, sH, sS, sAt, sA, sup]; done) | (simp [plus1, sHt, sH, sS, sAt, sA, sup]; omega)) ?_
        rw [show flat (τ.2.2 1) ((5 * (τ.1 1)) + 2) = τ.2.2 1 (τ.1 1) 2 from flat_at (p := (τ.1 1)) _ (by omega)]
        have f38 := hcd (τ.1 1) 2
        have f2 := hfr 2
        refine hR.run1 4 (S' := (42, [some (vR 100), some (vI 2)], [vI (τ.2.1 5 2), vI (τ.2.2 1 (τ.1 1) 2)], mW τ ρ)) rfl (by first | omega | (dsimp only [plus1]; omega) | (simp [plus1, sHt, sH, sS, sAt, sA, sup]; done) | (simp [plus1, sHt, sH, sS, sAt, sA, sup]; omega)) ?_
        refine hR.br (C := τ.2.2 1 (τ.1 1) 2 ≤ τ.2.1 5 2) rfl (by first | omega | (dsimp only [plus1]; omega) | (simp [plus1, sHt, sH, sS, sAt, sA, sup]; done) | (simp [plus1, sHt, sH, sS, sAt, sA, sup]; omega)) (fun c6 => ?_) (fun c6 => ?_)
        · skip
          refine hR.run0 1 (S' := (50, [some (vR 100), some (vI 2)], [vI 0], mW τ ρ)) rfl ?_
          exact hR.rt rfl (Or.inl rfl) (by rw [show bI (mayU τ 2) = 0 from by first | (exfalso; omega) | exact bIf (fun h => by simp only [mayU, canU, Bool.and_eq_true, Bool.or_eq_true, decide_eq_true_eq] at h; first | omega | (simp_all; done))]) (by rfl)
        · skip
          refine hR.run0 2 (S' := (50, [some (vR 100), some (vI 2)], [vI 1], mW τ ρ)) rfl ?_
          exact hR.rt rfl (Or.inr rfl) (by rw [show bI (mayU τ 2) = 1 from by first | (exfalso; omega) | exact bIt (by simp only [mayU, canU, Bool.and_eq_true, Bool.or_eq_true, decide_eq_true_eq]; first | omega | (simp_all; done))]) (by rfl)
theorem sr_uses3 (τ ρ : St) (htu : 0 ≤ τ.1 1 ∧ τ.1 1 < 3) : Sp mX6_uses roC 0 [vR 100, vI 3] (mW τ ρ) (.inl none) (mW (sS (sHt τ 1 (τ.1 1) 3 (τ.2.2 1 (τ.1 1) 3 - 1)) 7 1) ρ) := by
  refine Sp.of (lk := lkX6) (tb := bX6_uses) (by decide) lkX6_ok tX6_uses (mW_keys _ _ _ _) (Nat.le_of_ble_eq_true rfl) (fun G hR => ?_)
  refine hR.run1 3 (S' := (5, [some (vR 100), some (vI 3)], [], pset (mW τ ρ) 100 (.inr (6, [vR 101, vR 102, vI (τ.1 5), vR 103, vR 104, vR 105, vR 106, vI (τ.1 0), vI (τ.1 1), vI (τ.1 2), vI (τ.1 3), vR 107, vR 108, vI (τ.1 6), vI 1, vR 109, vI (τ.1 8), vI (τ.1 4), vI (τ.1 9), vI (τ.1 10), vR 110, vR 111, vR 112, vR 113, vR 114, vI (ρ.1 0)])))) rfl (by first | omega | (dsimp only [plus1]; omega) | (simp [plus1, sHt, sH, sS, sAt, sA, sup]; done) | (simp [plus1, sHt, sH, sS, sAt, sA, sup]; omega)) ?_
  rw [mW_s7]
  refine hR.run1 10 (S' := (19, [some (vR 100), some (vI 3)], [vI (flat (τ.2.2 1) ((5 * (τ.1 1)) + 3)), vI ((5 * (τ.1 1)) + 3), vR 107], mW (sS τ 7 1) ρ)) rfl (by first | omega | (dsimp only [plus1]; omega) | (simp [plus1, sHt, sH, sS, sAt, sA, sup]; done) | (simp [plus1, sHt, sH, sS, sAt, sA, sup]; omega)) ?_
  rw [show flat (τ.2.2 1) ((5 * (τ.1 1)) + 3) = τ.2.2 1 (τ.1 1) 3 from flat_at (p := (τ.1 1)) _ (by omega)]
  refine hR.run1 3 (S' := (22, [some (vR 100), some (vI 3)], [], pset (mW (sS τ 7 1) ρ) 107 (.inl (15, .inl (pup (flat ((sS τ 7 1).2.2 1)) (5 * (τ.1 1) + 3) ((τ.2.2 1 (τ.1 1) 3) - 1)))))) rfl (by first | omega | (dsimp only [plus1]; omega) | (simp [plus1, sHt, sH, sS, sAt, sA, sup]; done) | (simp [plus1, sHt, sH, sS, sAt, sA, sup]; omega)) ?_
  rw [mW_c _ _ _ (by omega)]
  exact hR.rt rfl trivial (by rfl) (by rfl)
theorem sr_mayUse3 (τ ρ : St) (hph : 0 ≤ τ.1 0 ∧ τ.1 0 ≤ 5) (htu : 0 ≤ τ.1 1 ∧ τ.1 1 < 3) (hcd : ∀ p k, 0 ≤ τ.2.2 1 p k ∧ τ.2.2 1 p k ≤ 15) (hfr : ∀ k, 0 ≤ τ.2.1 5 k ∧ τ.2.1 5 k ≤ 15) (hus : 0 ≤ τ.1 7 ∧ τ.1 7 ≤ 1) : Sp mX6_mayUse roC 0 [vR 100, vI 3] (mW τ ρ) (.inl (some (vI (bI (mayU τ 3))))) (mW τ ρ) := by
  refine Sp.of (lk := lkX6) (tb := bX6_mayUse) (by decide) lkX6_ok tX6_mayUse (mW_keys _ _ _ _) (Nat.le_of_ble_eq_true rfl) (fun G hR => ?_)
  refine hR.run0 3 (S' := (5, [some (vR 100), some (vI 3)], [vI 1, vI (τ.1 0)], mW τ ρ)) rfl ?_
  refine hR.br (C := τ.1 0 = 1) rfl (by first | omega | (dsimp only [plus1]; omega) | (simp [plus1, sHt, sH, sS, sAt, sA, sup]; done) | (simp [plus1, sHt, sH, sS, sAt, sA, sup]; omega)) (fun c1 => ?_) (fun c1 => ?_)
  · skip
    refine hR.run0 2 (S' := (20, [some (vR 100), some (vI 3)], [vI (τ.1 7)], mW τ ρ)) rfl ?_
    refine hR.br (C := τ.1 7 ≠ 0) rfl (by first | omega | (dsimp only [plus1]; omega) | (simp [plus1, sHt, sH, sS, sAt, sA, sup]; done) | (simp [plus1, sHt, sH, sS, sAt, sA, sup]; omega)) (fun c2 => ?_) (fun c2 => ?_)
    · skip
      refine hR.run0 1 (S' := (50, [some (vR 100), some (vI 3)], [vI 0], mW τ ρ)) rfl ?_
      exact hR.rt rfl (Or.inl rfl) (by rw [show bI (mayU τ 3) = 0 from by first | (exfalso; omega) | exact bIf (fun h => by simp only [mayU, canU, Bool.and_eq_true, Bool.or_eq_true, decide_eq_true_eq] at h; first | omega | (simp_all; done))]) (by rfl)
    · skip
      refine hR.run1 9 (S' := (36, [some (vR 100), some (vI 3)], [vI (flat (τ.2.2 1) ((5 * (τ.1 1)) + 3))], mW τ ρ)) rfl (by first | omega | (dsimp only [plus1]; omega) | (simp [plus1, sHt, sH, sS, sAt, sA, sup]; done) | (simp [plus1, sHt, sH, sS, sAt, sA, sup]; omega)) ?_
      rw [show flat (τ.2.2 1) ((5 * (τ.1 1)) + 3) = τ.2.2 1 (τ.1 1) 3 from flat_at (p := (τ.1 1)) _ (by omega)]
      have f13 := hcd (τ.1 1) 3
      have f1 := hfr 3
      refine hR.run1 4 (S' := (42, [some (vR 100), some (vI 3)], [vI (τ.2.1 5 3), vI (τ.2.2 1 (τ.1 1) 3)], mW τ ρ)) rfl (by first | omega | (dsimp only [plus1]; omega) | (simp [plus1, sHt, sH, sS, sAt, sA, sup]; done) | (simp [plus1, sHt, sH, sS, sAt, sA, sup]; omega)) ?_
      refine hR.br (C := τ.2.2 1 (τ.1 1) 3 ≤ τ.2.1 5 3) rfl (by first | omega | (dsimp only [plus1]; omega) | (simp [plus1, sHt, sH, sS, sAt, sA, sup]; done) | (simp [plus1, sHt, sH, sS, sAt, sA, sup]; omega)) (fun c3 => ?_) (fun c3 => ?_)
      · skip
        refine hR.run0 1 (S' := (50, [some (vR 100), some (vI 3)], [vI 0], mW τ ρ)) rfl ?_
        exact hR.rt rfl (Or.inl rfl) (by rw [show bI (mayU τ 3) = 0 from by first | (exfalso; omega) | exact bIf (fun h => by simp only [mayU, canU, Bool.and_eq_true, Bool.or_eq_true, decide_eq_true_eq] at h; first | omega | (simp_all; done))]) (by rfl)
      · skip
        refine hR.run0 2 (S' := (50, [some (vR 100), some (vI 3)], [vI 1], mW τ ρ)) rfl ?_
        exact hR.rt rfl (Or.inr rfl) (by rw [show bI (mayU τ 3) = 1 from by first | (exfalso; omega) | exact bIt (by simp only [mayU, canU, Bool.and_eq_true, Bool.or_eq_true, decide_eq_true_eq]; first | omega | (simp_all; done))]) (by rfl)
  · skip
    refine hR.run0 3 (S' := (13, [some (vR 100), some (vI 3)], [vI 2, vI (τ.1 0)], mW τ ρ)) rfl ?_
    refine hR.br (C := τ.1 0 ≠ 2) rfl (by first | omega | (dsimp only [plus1]; omega) | (simp [plus1, sHt, sH, sS, sAt, sA, sup]; done) | (simp [plus1, sHt, sH, sS, sAt, sA, sup]; omega)) (fun c4 => ?_) (fun c4 => ?_)
    · skip
      refine hR.run0 1 (S' := (50, [some (vR 100), some (vI 3)], [vI 0], mW τ ρ)) rfl ?_
      exact hR.rt rfl (Or.inl rfl) (by rw [show bI (mayU τ 3) = 0 from by first | (exfalso; omega) | exact bIf (fun h => by simp only [mayU, canU, Bool.and_eq_true, Bool.or_eq_true, decide_eq_true_eq] at h; first | omega | (simp_all; done))]) (by rfl)
    · skip
      refine hR.run0 2 (S' := (20, [some (vR 100), some (vI 3)], [vI (τ.1 7)], mW τ ρ)) rfl ?_
      refine hR.br (C := τ.1 7 ≠ 0) rfl (by first | omega | (dsimp only [plus1]; omega) | (simp [plus1, sHt, sH, sS, sAt, sA, sup]; done) | (simp [plus1, sHt, sH, sS, sAt, sA, sup]; omega)) (fun c5 => ?_) (fun c5 => ?_)
      · skip
        refine hR.run0 1 (S' := (50, [some (vR 100), some (vI 3)], [vI 0], mW τ ρ)) rfl ?_
        exact hR.rt rfl (Or.inl rfl) (by rw [show bI (mayU τ 3) = 0 from by first | (exfalso; omega) | exact bIf (fun h => by simp only [mayU, canU, Bool.and_eq_true, Bool.or_eq_true, decide_eq_true_eq] at h; first | omega | (simp_all; done))]) (by rfl)
      · skip
        refine hR.run1 9 (S' := (36, [some (vR 100), some (vI 3)], [vI (flat (τ.2.2 1) ((5 * (τ.1 1)) + 3))], mW τ ρ)) rfl (by first | omega | (dsimp only [plus1]; omega) | (simp [plus1, sHt, sH, sS, sAt, sA, sup]; done) | (simp [plus1, sHt, sH, sS, sAt, sA, sup]; omega)) ?_
        rw [show flat (τ.2.2 1) ((5 * (τ.1 1)) + 3) = τ.2.2 1 (τ.1 1) 3 from flat_at (p := (τ.1 1)) _ (by omega)]
        have f38 := hcd (τ.1 1) 3
        have f2 := hfr 3
        refine hR.run1 4 (S' := (42, [some (vR 100), some (vI 3)], [vI (τ.2.1 5 3), vI (τ.2.2 1 (τ.1 1) 3)], mW τ ρ)) rfl (by first | omega | (dsimp only [plus1]; omega) | (simp [plus1, sHt, sH, sS, sAt, sA, sup]; done) | (simp [plus1, sHt, sH, sS, sAt, sA, sup]; omega)) ?_
        refine hR.br (C := τ.2.2 1 (τ.1 1) 3 ≤ τ.2.1 5 3) rfl (by first | omega | (dsimp only [plus1]; omega) | (simp [plus1, sHt, sH, sS, sAt, sA, sup]; done) | (simp [plus1, sHt, sH, sS, sAt, sA, sup]; omega)) (fun c6 => ?_) (fun c6 => ?_)
        · skip
          refine hR.run0 1 (S' := (50, [some (vR 100), some (vI 3)], [vI 0], mW τ ρ)) rfl ?_
          exact hR.rt rfl (Or.inl rfl) (by rw [show bI (mayU τ 3) = 0 from by first | (exfalso; omega) | exact bIf (fun h => by simp only [mayU, canU, Bool.and_eq_true, Bool.or_eq_true, decide_eq_true_eq] at h; first | omega | (simp_all; done))]) (by rfl)
        · skip
          refine hR.run0 2 (S' := (50, [some (vR 100), some (vI 3)], [vI 1], mW τ ρ)) rfl ?_
          exact hR.rt rfl (Or.inr rfl) (by rw [show bI (mayU τ 3) = 1 from by first | (exfalso; omega) | exact bIt (by simp only [mayU, canU, Bool.and_eq_true, Bool.or_eq_true, decide_eq_true_eq]; first | omega | (simp_all; done))]) (by rfl)
theorem sr_uses4 (τ ρ : St) (htu : 0 ≤ τ.1 1 ∧ τ.1 1 < 3) : Sp mX6_uses roC 0 [vR 100, vI 4] (mW τ ρ) (.inl none) (mW (sS (sHt τ 1 (τ.1 1) 4 (τ.2.2 1 (τ.1 1) 4 - 1)) 7 1) ρ) := by
  refine Sp.of (lk := lkX6) (tb := bX6_uses) (by decide) lkX6_ok tX6_uses (mW_keys _ _ _ _) (Nat.le_of_ble_eq_true rfl) (fun G hR => ?_)
  refine hR.run1 3 (S' := (5, [some (vR 100), some (vI 4)], [], pset (mW τ ρ) 100 (.inr (6, [vR 101, vR 102, vI (τ.1 5), vR 103, vR 104, vR 105, vR 106, vI (τ.1 0), vI (τ.1 1), vI (τ.1 2), vI (τ.1 3), vR 107, vR 108, vI (τ.1 6), vI 1, vR 109, vI (τ.1 8), vI (τ.1 4), vI (τ.1 9), vI (τ.1 10), vR 110, vR 111, vR 112, vR 113, vR 114, vI (ρ.1 0)])))) rfl (by first | omega | (dsimp only [plus1]; omega) | (simp [plus1, sHt, sH, sS, sAt, sA, sup]; done) | (simp [plus1, sHt, sH, sS, sAt, sA, sup]; omega)) ?_
  rw [mW_s7]
  refine hR.run1 10 (S' := (19, [some (vR 100), some (vI 4)], [vI (flat (τ.2.2 1) ((5 * (τ.1 1)) + 4)), vI ((5 * (τ.1 1)) + 4), vR 107], mW (sS τ 7 1) ρ)) rfl (by first | omega | (dsimp only [plus1]; omega) | (simp [plus1, sHt, sH, sS, sAt, sA, sup]; done) | (simp [plus1, sHt, sH, sS, sAt, sA, sup]; omega)) ?_
  rw [show flat (τ.2.2 1) ((5 * (τ.1 1)) + 4) = τ.2.2 1 (τ.1 1) 4 from flat_at (p := (τ.1 1)) _ (by omega)]
  refine hR.run1 3 (S' := (22, [some (vR 100), some (vI 4)], [], pset (mW (sS τ 7 1) ρ) 107 (.inl (15, .inl (pup (flat ((sS τ 7 1).2.2 1)) (5 * (τ.1 1) + 4) ((τ.2.2 1 (τ.1 1) 4) - 1)))))) rfl (by first | omega | (dsimp only [plus1]; omega) | (simp [plus1, sHt, sH, sS, sAt, sA, sup]; done) | (simp [plus1, sHt, sH, sS, sAt, sA, sup]; omega)) ?_
  rw [mW_c _ _ _ (by omega)]
  exact hR.rt rfl trivial (by rfl) (by rfl)
theorem sr_mayUse4 (τ ρ : St) (hph : 0 ≤ τ.1 0 ∧ τ.1 0 ≤ 5) (htu : 0 ≤ τ.1 1 ∧ τ.1 1 < 3) (hcd : ∀ p k, 0 ≤ τ.2.2 1 p k ∧ τ.2.2 1 p k ≤ 15) (hfr : ∀ k, 0 ≤ τ.2.1 5 k ∧ τ.2.1 5 k ≤ 15) (hus : 0 ≤ τ.1 7 ∧ τ.1 7 ≤ 1) : Sp mX6_mayUse roC 0 [vR 100, vI 4] (mW τ ρ) (.inl (some (vI (bI (mayU τ 4))))) (mW τ ρ) := by
  refine Sp.of (lk := lkX6) (tb := bX6_mayUse) (by decide) lkX6_ok tX6_mayUse (mW_keys _ _ _ _) (Nat.le_of_ble_eq_true rfl) (fun G hR => ?_)
  refine hR.run0 3 (S' := (5, [some (vR 100), some (vI 4)], [vI 1, vI (τ.1 0)], mW τ ρ)) rfl ?_
  refine hR.br (C := τ.1 0 = 1) rfl (by first | omega | (dsimp only [plus1]; omega) | (simp [plus1, sHt, sH, sS, sAt, sA, sup]; done) | (simp [plus1, sHt, sH, sS, sAt, sA, sup]; omega)) (fun c1 => ?_) (fun c1 => ?_)
  · skip
    refine hR.run0 2 (S' := (20, [some (vR 100), some (vI 4)], [vI (τ.1 7)], mW τ ρ)) rfl ?_
    refine hR.br (C := τ.1 7 ≠ 0) rfl (by first | omega | (dsimp only [plus1]; omega) | (simp [plus1, sHt, sH, sS, sAt, sA, sup]; done) | (simp [plus1, sHt, sH, sS, sAt, sA, sup]; omega)) (fun c2 => ?_) (fun c2 => ?_)
    · skip
      refine hR.run0 1 (S' := (50, [some (vR 100), some (vI 4)], [vI 0], mW τ ρ)) rfl ?_
      exact hR.rt rfl (Or.inl rfl) (by rw [show bI (mayU τ 4) = 0 from by first | (exfalso; omega) | exact bIf (fun h => by simp only [mayU, canU, Bool.and_eq_true, Bool.or_eq_true, decide_eq_true_eq] at h; first | omega | (simp_all; done))]) (by rfl)
    · skip
      refine hR.run1 9 (S' := (36, [some (vR 100), some (vI 4)], [vI (flat (τ.2.2 1) ((5 * (τ.1 1)) + 4))], mW τ ρ)) rfl (by first | omega | (dsimp only [plus1]; omega) | (simp [plus1, sHt, sH, sS, sAt, sA, sup]; done) | (simp [plus1, sHt, sH, sS, sAt, sA, sup]; omega)) ?_
      rw [show flat (τ.2.2 1) ((5 * (τ.1 1)) + 4) = τ.2.2 1 (τ.1 1) 4 from flat_at (p := (τ.1 1)) _ (by omega)]
      have f13 := hcd (τ.1 1) 4
      have f1 := hfr 4
      refine hR.run1 4 (S' := (42, [some (vR 100), some (vI 4)], [vI (τ.2.1 5 4), vI (τ.2.2 1 (τ.1 1) 4)], mW τ ρ)) rfl (by first | omega | (dsimp only [plus1]; omega) | (simp [plus1, sHt, sH, sS, sAt, sA, sup]; done) | (simp [plus1, sHt, sH, sS, sAt, sA, sup]; omega)) ?_
      refine hR.br (C := τ.2.2 1 (τ.1 1) 4 ≤ τ.2.1 5 4) rfl (by first | omega | (dsimp only [plus1]; omega) | (simp [plus1, sHt, sH, sS, sAt, sA, sup]; done) | (simp [plus1, sHt, sH, sS, sAt, sA, sup]; omega)) (fun c3 => ?_) (fun c3 => ?_)
      · skip
        refine hR.run0 1 (S' := (50, [some (vR 100), some (vI 4)], [vI 0], mW τ ρ)) rfl ?_
        exact hR.rt rfl (Or.inl rfl) (by rw [show bI (mayU τ 4) = 0 from by first | (exfalso; omega) | exact bIf (fun h => by simp only [mayU, canU, Bool.and_eq_true, Bool.or_eq_true, decide_eq_true_eq] at h; first | omega | (simp_all; done))]) (by rfl)
      · skip
        refine hR.run0 2 (S' := (50, [some (vR 100), some (vI 4)], [vI 1], mW τ ρ)) rfl ?_
        exact hR.rt rfl (Or.inr rfl) (by rw [show bI (mayU τ 4) = 1 from by first | (exfalso; omega) | exact bIt (by simp only [mayU, canU, Bool.and_eq_true, Bool.or_eq_true, decide_eq_true_eq]; first | omega | (simp_all; done))]) (by rfl)
  · skip
    refine hR.run0 3 (S' := (13, [some (vR 100), some (vI 4)], [vI 2, vI (τ.1 0)], mW τ ρ)) rfl ?_
    refine hR.br (C := τ.1 0 ≠ 2) rfl (by first | omega | (dsimp only [plus1]; omega) | (simp [plus1, sHt, sH, sS, sAt, sA, sup]; done) | (simp [plus1, sHt, sH, sS, sAt, sA, sup]; omega)) (fun c4 => ?_) (fun c4 => ?_)
    · skip
      refine hR.run0 1 (S' := (50, [some (vR 100), some (vI 4)], [vI 0], mW τ ρ)) rfl ?_
      exact hR.rt rfl (Or.inl rfl) (by rw [show bI (mayU τ 4) = 0 from by first | (exfalso; omega) | exact bIf (fun h => by simp only [mayU, canU, Bool.and_eq_true, Bool.or_eq_true, decide_eq_true_eq] at h; first | omega | (simp_all; done))]) (by rfl)
    · skip
      refine hR.run0 2 (S' := (20, [some (vR 100), some (vI 4)], [vI (τ.1 7)], mW τ ρ)) rfl ?_
      refine hR.br (C := τ.1 7 ≠ 0) rfl (by first | omega | (dsimp only [plus1]; omega) | (simp [plus1, sHt, sH, sS, sAt, sA, sup]; done) | (simp [plus1, sHt, sH, sS, sAt, sA, sup]; omega)) (fun c5 => ?_) (fun c5 => ?_)
      · skip
        refine hR.run0 1 (S' := (50, [some (vR 100), some (vI 4)], [vI 0], mW τ ρ)) rfl ?_
        exact hR.rt rfl (Or.inl rfl) (by rw [show bI (mayU τ 4) = 0 from by first | (exfalso; omega) | exact bIf (fun h => by simp only [mayU, canU, Bool.and_eq_true, Bool.or_eq_true, decide_eq_true_eq] at h; first | omega | (simp_all; done))]) (by rfl)
      · skip
        refine hR.run1 9 (S' := (36, [some (vR 100), some (vI 4)], [vI (flat (τ.2.2 1) ((5 * (τ.1 1)) + 4))], mW τ ρ)) rfl (by first | omega | (dsimp only [plus1]; omega) | (simp [plus1, sHt, sH, sS, sAt, sA, sup]; done) | (simp [plus1, sHt, sH, sS, sAt, sA, sup]; omega)) ?_
        rw [show flat (τ.2.2 1) ((5 * (τ.1 1)) + 4) = τ.2.2 1 (τ.1 1) 4 from flat_at (p := (τ.1 1)) _ (by omega)]
        have f38 := hcd (τ.1 1) 4
        have f2 := hfr 4
        refine hR.run1 4 (S' := (42, [some (vR 100), some (vI 4)], [vI (τ.2.1 5 4), vI (τ.2.2 1 (τ.1 1) 4)], mW τ ρ)) rfl (by first | omega | (dsimp only [plus1]; omega) | (simp [plus1, sHt, sH, sS, sAt, sA, sup]; done) | (simp [plus1, sHt, sH, sS, sAt, sA, sup]; omega)) ?_
        refine hR.br (C := τ.2.2 1 (τ.1 1) 4 ≤ τ.2.1 5 4) rfl (by first | omega | (dsimp only [plus1]; omega) | (simp [plus1, sHt, sH, sS, sAt, sA, sup]; done) | (simp [plus1, sHt, sH, sS, sAt, sA, sup]; omega)) (fun c6 => ?_) (fun c6 => ?_)
        · skip
          refine hR.run0 1 (S' := (50, [some (vR 100), some (vI 4)], [vI 0], mW τ ρ)) rfl ?_
          exact hR.rt rfl (Or.inl rfl) (by rw [show bI (mayU τ 4) = 0 from by first | (exfalso; omega) | exact bIf (fun h => by simp only [mayU, canU, Bool.and_eq_true, Bool.or_eq_true, decide_eq_true_eq] at h; first | omega | (simp_all; done))]) (by rfl)
        · skip
          refine hR.run0 2 (S' := (50, [some (vR 100), some (vI 4)], [vI 1], mW τ ρ)) rfl ?_
          exact hR.rt rfl (Or.inr rfl) (by rw [show bI (mayU τ 4) = 1 from by first | (exfalso; omega) | exact bIt (by simp only [mayU, canU, Bool.and_eq_true, Bool.or_eq_true, decide_eq_true_eq]; first | omega | (simp_all; done))]) (by rfl)
theorem sr_endsOffers (τ ρ : St)  : Sp mX6_endsOffers roC 0 [vR 100] (mW τ ρ) (.inl none) (mW (ofS τ 0 0) ρ) := by
  refine Sp.of (lk := lkX6) (tb := bX6_endsOffers) (by decide) lkX6_ok tX6_endsOffers (mW_keys _ _ _ _) (Nat.le_of_ble_eq_true rfl) (fun G hR => ?_)
  refine hR.run0 3 (S' := (5, [some (vR 100), none], [], pset (mW τ ρ) 100 (.inr (6, [vR 101, vR 102, vI (τ.1 5), vR 103, vR 104, vR 105, vR 106, vI (τ.1 0), vI (τ.1 1), vI (τ.1 2), vI (τ.1 3), vR 107, vR 108, vI (τ.1 6), vI (τ.1 7), vR 109, vI (τ.1 8), vI (τ.1 4), vI 0, vI (τ.1 10), vR 110, vR 111, vR 112, vR 113, vR 114, vI (ρ.1 0)])))) rfl ?_
  rw [mW_s9]
  refine hR.run0 3 (S' := (10, [some (vR 100), none], [], pset (mW (sS τ 9 0) ρ) 100 (.inr (6, [vR 101, vR 102, vI ((sS τ 9 0).1 5), vR 103, vR 104, vR 105, vR 106, vI ((sS τ 9 0).1 0), vI ((sS τ 9 0).1 1), vI ((sS τ 9 0).1 2), vI ((sS τ 9 0).1 3), vR 107, vR 108, vI ((sS τ 9 0).1 6), vI ((sS τ 9 0).1 7), vR 109, vI ((sS τ 9 0).1 8), vI ((sS τ 9 0).1 4), vI ((sS τ 9 0).1 9), vI 0, vR 110, vR 111, vR 112, vR 113, vR 114, vI (ρ.1 0)])))) rfl ?_
  rw [mW_s10]
  refine hR.run0 4 (S' := (14, [some (vR 100), some (vI 0)], [vI 3, vI 0], mW (sS (sS τ 9 0) 10 0) ρ)) rfl ?_
  refine hR.br (C := 3 ≤ 0) rfl (by first | omega | (dsimp only [plus1]; omega) | (simp [plus1, sHt, sH, sS, sAt, sA, sup]; done) | (simp [plus1, sHt, sH, sS, sAt, sA, sup]; omega)) (fun c1 => ?_) (fun c1 => ?_)
  · exfalso; omega
  refine hR.run1 5 (S' := (24, [some (vR 100), some (vI 0)], [], pset (mW (sS (sS τ 9 0) 10 0) ρ) 110 (.inl (3, .inl (pup ((sS (sS τ 9 0) 10 0).2.1 7) 0 0))))) rfl (by first | omega | (dsimp only [plus1]; omega) | (simp [plus1, sHt, sH, sS, sAt, sA, sup]; done) | (simp [plus1, sHt, sH, sS, sAt, sA, sup]; omega)) ?_
  rw [mW_a7]
  refine hR.run1 5 (S' := (31, [some (vR 100), some (vI 0)], [], pset (mW (sAt (sS (sS τ 9 0) 10 0) 7 0 0) ρ) 111 (.inl (3, .inl (pup ((sAt (sS (sS τ 9 0) 10 0) 7 0 0).2.1 8) 0 0))))) rfl (by first | omega | (dsimp only [plus1]; omega) | (simp [plus1, sHt, sH, sS, sAt, sA, sup]; done) | (simp [plus1, sHt, sH, sS, sAt, sA, sup]; omega)) ?_
  rw [mW_a8]
  refine hR.run0 4 (S' := (14, [some (vR 100), some (vI 1)], [vI 3, vI 1], mW (sAt (sAt (sS (sS τ 9 0) 10 0) 7 0 0) 8 0 0) ρ)) rfl ?_
  refine hR.br (C := 3 ≤ 1) rfl (by first | omega | (dsimp only [plus1]; omega) | (simp [plus1, sHt, sH, sS, sAt, sA, sup]; done) | (simp [plus1, sHt, sH, sS, sAt, sA, sup]; omega)) (fun c2 => ?_) (fun c2 => ?_)
  · exfalso; omega
  refine hR.run1 5 (S' := (24, [some (vR 100), some (vI 1)], [], pset (mW (sAt (sAt (sS (sS τ 9 0) 10 0) 7 0 0) 8 0 0) ρ) 110 (.inl (3, .inl (pup ((sAt (sAt (sS (sS τ 9 0) 10 0) 7 0 0) 8 0 0).2.1 7) 1 0))))) rfl (by first | omega | (dsimp only [plus1]; omega) | (simp [plus1, sHt, sH, sS, sAt, sA, sup]; done) | (simp [plus1, sHt, sH, sS, sAt, sA, sup]; omega)) ?_
  rw [mW_a7]
  refine hR.run1 5 (S' := (31, [some (vR 100), some (vI 1)], [], pset (mW (sAt (sAt (sAt (sS (sS τ 9 0) 10 0) 7 0 0) 8 0 0) 7 1 0) ρ) 111 (.inl (3, .inl (pup ((sAt (sAt (sAt (sS (sS τ 9 0) 10 0) 7 0 0) 8 0 0) 7 1 0).2.1 8) 1 0))))) rfl (by first | omega | (dsimp only [plus1]; omega) | (simp [plus1, sHt, sH, sS, sAt, sA, sup]; done) | (simp [plus1, sHt, sH, sS, sAt, sA, sup]; omega)) ?_
  rw [mW_a8]
  refine hR.run0 4 (S' := (14, [some (vR 100), some (vI 2)], [vI 3, vI 2], mW (sAt (sAt (sAt (sAt (sS (sS τ 9 0) 10 0) 7 0 0) 8 0 0) 7 1 0) 8 1 0) ρ)) rfl ?_
  refine hR.br (C := 3 ≤ 2) rfl (by first | omega | (dsimp only [plus1]; omega) | (simp [plus1, sHt, sH, sS, sAt, sA, sup]; done) | (simp [plus1, sHt, sH, sS, sAt, sA, sup]; omega)) (fun c3 => ?_) (fun c3 => ?_)
  · exfalso; omega
  refine hR.run1 5 (S' := (24, [some (vR 100), some (vI 2)], [], pset (mW (sAt (sAt (sAt (sAt (sS (sS τ 9 0) 10 0) 7 0 0) 8 0 0) 7 1 0) 8 1 0) ρ) 110 (.inl (3, .inl (pup ((sAt (sAt (sAt (sAt (sS (sS τ 9 0) 10 0) 7 0 0) 8 0 0) 7 1 0) 8 1 0).2.1 7) 2 0))))) rfl (by first | omega | (dsimp only [plus1]; omega) | (simp [plus1, sHt, sH, sS, sAt, sA, sup]; done) | (simp [plus1, sHt, sH, sS, sAt, sA, sup]; omega)) ?_
  rw [mW_a7]
  refine hR.run1 5 (S' := (31, [some (vR 100), some (vI 2)], [], pset (mW (sAt (sAt (sAt (sAt (sAt (sS (sS τ 9 0) 10 0) 7 0 0) 8 0 0) 7 1 0) 8 1 0) 7 2 0) ρ) 111 (.inl (3, .inl (pup ((sAt (sAt (sAt (sAt (sAt (sS (sS τ 9 0) 10 0) 7 0 0) 8 0 0) 7 1 0) 8 1 0) 7 2 0).2.1 8) 2 0))))) rfl (by first | omega | (dsimp only [plus1]; omega) | (simp [plus1, sHt, sH, sS, sAt, sA, sup]; done) | (simp [plus1, sHt, sH, sS, sAt, sA, sup]; omega)) ?_
  rw [mW_a8]
  refine hR.run0 4 (S' := (14, [some (vR 100), some (vI 3)], [vI 3, vI 3], mW (sAt (sAt (sAt (sAt (sAt (sAt (sS (sS τ 9 0) 10 0) 7 0 0) 8 0 0) 7 1 0) 8 1 0) 7 2 0) 8 2 0) ρ)) rfl ?_
  refine hR.br (C := 3 ≤ 3) rfl (by first | omega | (dsimp only [plus1]; omega) | (simp [plus1, sHt, sH, sS, sAt, sA, sup]; done) | (simp [plus1, sHt, sH, sS, sAt, sA, sup]; omega)) (fun c4 => ?_) (fun c4 => ?_)
  · skip
    exact hR.rt rfl trivial (by rfl) (by rfl)
  · exfalso; omega
theorem sr_pointsOf (τ ρ : St) {p : Int} (hp : 0 ≤ p ∧ p < 3) (hb : ∀ c, -1 ≤ τ.2.1 2 c ∧ τ.2.1 2 c ≤ 5) (hcd : ∀ p k, 0 ≤ τ.2.2 1 p k ∧ τ.2.2 1 p k ≤ 15) (har : -1 ≤ τ.1 8 ∧ τ.1 8 < 3) (hth : -1 ≤ τ.1 4 ∧ τ.1 4 < 3) : Sp mX6_pointsOf roC 2 [vR 100, vI p] (mW τ ρ) (.inl (some (vI (ptsF τ p)))) (mW τ ρ) := by
  refine Sp.of (lk := lkX6) (tb := bX6_pointsOf) (by decide) lkX6_ok tX6_pointsOf (mW_keys _ _ _ _) (Nat.le_of_ble_eq_true rfl) (fun G hR => ?_)
  refine hR.run0 3 (S' := (3, [some (vR 100), some (vI p)], [vI 0, vI p, vR 100], mW τ ρ)) rfl ?_
  have f1 := cntN_r (τ.2.1 2) p 24
  refine hR.cv [vI p, vI 0] kX6_111 rfl rfl ⟨_, _, _, rfl, rfl, rfl⟩ (by first | decide | exact Nat.le_refl _) (by decide) (Nat.le_of_ble_eq_true rfl) rfl (sr_buildings_0 _ _ (by omega) hb) ?_
  show G (6, [some (vR 100), some (vI p)], [vI (cntN (τ.2.1 2) p 24)], mW τ ρ)
  refine hR.run0 4 (S' := (10, [some (vR 100), some (vI p)], [vI 1, vI p, vR 100, vI 2, vI (cntN (τ.2.1 2) p 24)], mW τ ρ)) rfl ?_
  have f2 := cntN_r (τ.2.1 2) (3 + p) 24
  refine hR.cv [vI p, vI 1] kX6_111 rfl rfl ⟨_, _, _, rfl, rfl, rfl⟩ (by first | decide | exact Nat.le_refl _) (by decide) (Nat.le_of_ble_eq_true rfl) rfl (sr_buildings_1 _ _ (by omega) hb) ?_
  show G (13, [some (vR 100), some (vI p)], [vI (cntN (τ.2.1 2) (3 + p) 24), vI 2, vI (cntN (τ.2.1 2) p 24)], mW τ ρ)
  refine hR.run1 10 (S' := (25, [some (vR 100), some (vI p)], [vI (flat (τ.2.2 1) ((5 * p) + 4)), vI ((cntN (τ.2.1 2) p 24) + (2 * (cntN (τ.2.1 2) (3 + p) 24)))], mW τ ρ)) rfl (by first | omega | (dsimp only [plus1]; omega) | (simp [plus1, sHt, sH, sS, sAt, sA, sup]; done) | (simp [plus1, sHt, sH, sS, sAt, sA, sup]; omega)) ?_
  rw [show flat (τ.2.2 1) ((5 * p) + 4) = τ.2.2 1 p 4 from flat_at (p := p) _ (by omega)]
  have f12 := hcd p 4
  refine hR.run0 4 (S' := (31, [some (vR 100), some (vI p)], [vI p, vI (τ.1 4), vI (((cntN (τ.2.1 2) p 24) + (2 * (cntN (τ.2.1 2) (3 + p) 24))) + (τ.2.2 1 p 4))], mW τ ρ)) rfl ?_
  refine hR.br (C := τ.1 4 ≠ p) rfl (by first | omega | (dsimp only [plus1]; omega) | (simp [plus1, sHt, sH, sS, sAt, sA, sup]; done) | (simp [plus1, sHt, sH, sS, sAt, sA, sup]; omega)) (fun c1 => ?_) (fun c1 => ?_)
  · skip
    refine hR.run0 5 (S' := (45, [some (vR 100), some (vI p)], [vI p, vI (τ.1 8), vI ((((cntN (τ.2.1 2) p 24) + (2 * (cntN (τ.2.1 2) (3 + p) 24))) + (τ.2.2 1 p 4)) + 0)], mW τ ρ)) rfl ?_
    refine hR.br (C := τ.1 8 ≠ p) rfl (by first | omega | (dsimp only [plus1]; omega) | (simp [plus1, sHt, sH, sS, sAt, sA, sup]; done) | (simp [plus1, sHt, sH, sS, sAt, sA, sup]; omega)) (fun c2 => ?_) (fun c2 => ?_)
    · skip
      refine hR.run0 2 (S' := (54, [some (vR 100), some (vI p)], [vI (((((cntN (τ.2.1 2) p 24) + (2 * (cntN (τ.2.1 2) (3 + p) 24))) + (τ.2.2 1 p 4)) + 0) + 0)], mW τ ρ)) rfl ?_
      exact hR.rt rfl trivial (by rw [show ptsF τ p = (((((cntN (τ.2.1 2) p 24) + (2 * (cntN (τ.2.1 2) (3 + p) 24))) + (τ.2.2 1 p 4)) + 0) + 0) from by unfold ptsF; (repeat' split) <;> omega]) (by rfl)
    · skip
      refine hR.run0 3 (S' := (54, [some (vR 100), some (vI p)], [vI (((((cntN (τ.2.1 2) p 24) + (2 * (cntN (τ.2.1 2) (3 + p) 24))) + (τ.2.2 1 p 4)) + 0) + 2)], mW τ ρ)) rfl ?_
      exact hR.rt rfl trivial (by rw [show ptsF τ p = (((((cntN (τ.2.1 2) p 24) + (2 * (cntN (τ.2.1 2) (3 + p) 24))) + (τ.2.2 1 p 4)) + 0) + 2) from by unfold ptsF; (repeat' split) <;> omega]) (by rfl)
  · skip
    refine hR.run0 6 (S' := (45, [some (vR 100), some (vI p)], [vI p, vI (τ.1 8), vI ((((cntN (τ.2.1 2) p 24) + (2 * (cntN (τ.2.1 2) (3 + p) 24))) + (τ.2.2 1 p 4)) + 2)], mW τ ρ)) rfl ?_
    refine hR.br (C := τ.1 8 ≠ p) rfl (by first | omega | (dsimp only [plus1]; omega) | (simp [plus1, sHt, sH, sS, sAt, sA, sup]; done) | (simp [plus1, sHt, sH, sS, sAt, sA, sup]; omega)) (fun c3 => ?_) (fun c3 => ?_)
    · skip
      refine hR.run0 2 (S' := (54, [some (vR 100), some (vI p)], [vI (((((cntN (τ.2.1 2) p 24) + (2 * (cntN (τ.2.1 2) (3 + p) 24))) + (τ.2.2 1 p 4)) + 2) + 0)], mW τ ρ)) rfl ?_
      exact hR.rt rfl trivial (by rw [show ptsF τ p = (((((cntN (τ.2.1 2) p 24) + (2 * (cntN (τ.2.1 2) (3 + p) 24))) + (τ.2.2 1 p 4)) + 2) + 0) from by unfold ptsF; (repeat' split) <;> omega]) (by rfl)
    · skip
      refine hR.run0 3 (S' := (54, [some (vR 100), some (vI p)], [vI (((((cntN (τ.2.1 2) p 24) + (2 * (cntN (τ.2.1 2) (3 + p) 24))) + (τ.2.2 1 p 4)) + 2) + 2)], mW τ ρ)) rfl ?_
      exact hR.rt rfl trivial (by rw [show ptsF τ p = (((((cntN (τ.2.1 2) p 24) + (2 * (cntN (τ.2.1 2) (3 + p) 24))) + (τ.2.2 1 p 4)) + 2) + 2) from by unfold ptsF; (repeat' split) <;> omega]) (by rfl)
theorem sr_looksAtWinner (τ ρ : St) (hb : ∀ c, -1 ≤ τ.2.1 2 c ∧ τ.2.1 2 c ≤ 5) (hcd : ∀ p k, 0 ≤ τ.2.2 1 p k ∧ τ.2.2 1 p k ≤ 15) (har : -1 ≤ τ.1 8 ∧ τ.1 8 < 3) (hth : -1 ≤ τ.1 4 ∧ τ.1 4 < 3) (hph : 0 ≤ τ.1 0 ∧ τ.1 0 ≤ 5) (htu : 0 ≤ τ.1 1 ∧ τ.1 1 < 3) : Sp mX6_looksAtWinner roC 3 [vR 100] (mW τ ρ) (.inl none) (mW (winS τ) ρ) := by
  refine Sp.of (lk := lkX6) (tb := bX6_looksAtWinner) (by decide) lkX6_ok tX6_looksAtWinner (mW_keys _ _ _ _) (Nat.le_of_ble_eq_true rfl) (fun G hR => ?_)
  refine hR.run0 3 (S' := (5, [some (vR 100)], [vI (τ.1 0), vR 100], mW τ ρ)) rfl ?_
  refine hR.br (C := τ.1 0 = 0) rfl (by first | omega | (dsimp only [plus1]; omega) | (simp [plus1, sHt, sH, sS, sAt, sA, sup]; done) | (simp [plus1, sHt, sH, sS, sAt, sA, sup]; omega)) (fun c1 => ?_) (fun c1 => ?_)
  · skip
    refine hR.run0 3 (S' := (32, [some (vR 100)], [], pset (mW τ ρ) 100 (.inr (6, [vR 101, vR 102, vI (τ.1 5), vR 103, vR 104, vR 105, vR 106, vI (τ.1 0), vI (τ.1 1), vI (τ.1 2), vI (τ.1 3), vR 107, vR 108, vI (τ.1 6), vI (τ.1 7), vR 109, vI (τ.1 8), vI (τ.1 4), vI (τ.1 9), vI (τ.1 10), vR 110, vR 111, vR 112, vR 113, vR 114, vI (ρ.1 0)])))) rfl ?_
    rw [mW_s0]
    exact hR.rt rfl trivial (by rfl) (by unfold winS; split <;> first | rfl | (exfalso; omega))
  · skip
    refine hR.run0 3 (S' := (13, [some (vR 100)], [vI (τ.1 1), vR 100, vR 100], mW τ ρ)) rfl ?_
    have f1 := ptsF_r (τ.1 1) (hcd (τ.1 1) 4)
    refine hR.cv [vI (τ.1 1)] kX6_121 rfl rfl ⟨_, _, _, rfl, rfl, rfl⟩ (by first | decide | exact Nat.le_refl _) (by decide) (Nat.le_of_ble_eq_true rfl) rfl (sr_pointsOf _ _ (by omega) hb hcd har hth) ?_
    show G (16, [some (vR 100)], [vI (ptsF τ (τ.1 1)), vR 100], mW τ ρ)
    refine hR.run0 1 (S' := (18, [some (vR 100)], [vI 8, vI (ptsF τ (τ.1 1)), vR 100], mW τ ρ)) rfl ?_
    refine hR.br (C := ptsF τ (τ.1 1) < 8) rfl (by first | omega | (dsimp only [plus1]; omega) | (simp [plus1, sHt, sH, sS, sAt, sA, sup]; done) | (simp [plus1, sHt, sH, sS, sAt, sA, sup]; omega)) (fun c2 => ?_) (fun c2 => ?_)
    · skip
      refine hR.run0 3 (S' := (32, [some (vR 100)], [], pset (mW τ ρ) 100 (.inr (6, [vR 101, vR 102, vI (τ.1 5), vR 103, vR 104, vR 105, vR 106, vI (τ.1 0), vI (τ.1 1), vI (τ.1 2), vI (τ.1 3), vR 107, vR 108, vI (τ.1 6), vI (τ.1 7), vR 109, vI (τ.1 8), vI (τ.1 4), vI (τ.1 9), vI (τ.1 10), vR 110, vR 111, vR 112, vR 113, vR 114, vI (ρ.1 0)])))) rfl ?_
      rw [mW_s0]
      exact hR.rt rfl trivial (by rfl) (by unfold winS; split <;> first | rfl | (exfalso; omega))
    · skip
      refine hR.run0 3 (S' := (32, [some (vR 100)], [], pset (mW τ ρ) 100 (.inr (6, [vR 101, vR 102, vI (τ.1 5), vR 103, vR 104, vR 105, vR 106, vI 5, vI (τ.1 1), vI (τ.1 2), vI (τ.1 3), vR 107, vR 108, vI (τ.1 6), vI (τ.1 7), vR 109, vI (τ.1 8), vI (τ.1 4), vI (τ.1 9), vI (τ.1 10), vR 110, vR 111, vR 112, vR 113, vR 114, vI (ρ.1 0)])))) rfl ?_
      rw [mW_s0]
      exact hR.rt rfl trivial (by rfl) (by unfold winS; split <;> first | rfl | (exfalso; omega))
theorem sr_pays (τ ρ : St) {n : Int} (hn : 0 ≤ n ∧ n ≤ 99999) (htu : 0 ≤ τ.1 1 ∧ τ.1 1 < 3) : Sp mX6_pays roC 2 [vR 100, vI n] (mW τ ρ) (.inl none) (mW (mvA τ (τ.1 1) 3 n) ρ) := by
  refine Sp.of (lk := lkX6) (tb := bX6_pays) (by decide) lkX6_ok tX6_pays (mW_keys _ _ _ _) (Nat.le_of_ble_eq_true rfl) (fun G hR => ?_)
  refine hR.run0 5 (S' := (7, [some (vR 100), some (vI n)], [vI n, vI 3, vI (τ.1 1), vR 100], mW τ ρ)) rfl ?_
  refine hR.cv [vI (τ.1 1), vI 3, vI n] kX6_172 rfl rfl ⟨_, _, _, rfl, rfl, rfl⟩ (by first | decide | exact Nat.le_refl _) (by decide) (Nat.le_of_ble_eq_true rfl) rfl (sr_gives _ _ (by omega) (by omega) (by omega)) ?_
  show G (10, [some (vR 100), some (vI n)], [], mW (mvA τ (τ.1 1) 3 n) ρ)
  exact hR.rt rfl trivial (by rfl) (by rfl)
