theorem sr_looksT (τ ρ : St) (h : Lh τ) : Sp mX6_looksAtTrails roC 5 [vR 100] (mW τ ρ) (.inl none) (mW (lkS τ) (rlK (τ.2.1 3) ρ)) := by
  have hth := h.1.2.2.2.1
  have hL := trT_r h
  rw [lkS_R h]
  unfold rlK
  refine Sp.of (lk := lkX6) (tb := bX6_looksAtTrails) (by decide) lkX6_ok tX6_looksAtTrails (mW_keys _ _ _ _) (Nat.le_of_ble_eq_true rfl) (fun G hR => ?_)
  generalize hLL : trT τ = L at hL hR
  have hT : ∀ ρ1, otK (τ.2.1 3) ρ 3 = ρ1 → G (32, [some (vR 100), some (vI (rmN L 3)), none, none, none, none, none], [], mW τ ρ1) := by
    intro ρ1 hρ1
    rw [hρ1] at hR
    have hMr := rmN_r hL 3 (by omega)
    unfold hoR at hR
    generalize rmN L 3 = M at hMr hR ⊢
    have q3 := rhN_r2 L M (τ.1 4) 3 (by omega)
    refine hR.run0 8 (S' := (42, [some (vR 100), some (vI M), some (vI 0), some (vI (-1)), some (vI 0), some (vI 0), none], [], mW τ ρ1)) rfl ?_
    have hL : ∀ i : Nat, i ≤ 3 → G (42, [some (vR 100), some (vI M), some (vI ((rhN L M (τ.1 4) i).1)), some (vI ((rhN L M (τ.1 4) i).2.1)), some (vI (bI ((rhN L M (τ.1 4) i).2.2))), some (vI ((i : Nat) : Int)), none], [], mW τ (otK (τ.2.1 3) ρ1 i)) := by
      refine back (P := fun i : Nat => G (42, [some (vR 100), some (vI M), some (vI ((rhN L M (τ.1 4) i).1)), some (vI ((rhN L M (τ.1 4) i).2.1)), some (vI (bI ((rhN L M (τ.1 4) i).2.2))), some (vI ((i : Nat) : Int)), none], [], mW τ (otK (τ.2.1 3) ρ1 i))) ?_ ?_
      · intro i hii ihi
        replace ihi : G (42, [some (vR 100), some (vI M), some (vI ((rhN L M (τ.1 4) (i + 1)).1)), some (vI ((rhN L M (τ.1 4) (i + 1)).2.1)), some (vI (bI ((rhN L M (τ.1 4) (i + 1)).2.2))), some (vI ((i + 1 : Nat) : Int)), none], [], mW τ (otK (τ.2.1 3) ρ1 (i + 1))) := ihi
        show G (42, [some (vR 100), some (vI M), some (vI ((rhN L M (τ.1 4) i).1)), some (vI ((rhN L M (τ.1 4) i).2.1)), some (vI (bI ((rhN L M (τ.1 4) i).2.2))), some (vI (i : Int)), none], [], mW τ (otK (τ.2.1 3) ρ1 i))
        have hq := rhN_r2 L M (τ.1 4) i (by omega)
        refine hR.run0 2 (S' := (45, [some (vR 100), some (vI M), some (vI ((rhN L M (τ.1 4) i).1)), some (vI ((rhN L M (τ.1 4) i).2.1)), some (vI (bI ((rhN L M (τ.1 4) i).2.2))), some (vI (i : Int)), none], [vI 3, vI (i : Int)], mW τ (otK (τ.2.1 3) ρ1 i))) rfl ?_
        refine hR.br (C := 3 ≤ (i : Int)) rfl (by first | omega | (dsimp only [plus1]; omega)) (fun c1 => ?_) (fun c1 => ?_)
        · exfalso; omega
        refine hR.run0 2 (S' := (51, [some (vR 100), some (vI M), some (vI ((rhN L M (τ.1 4) i).1)), some (vI ((rhN L M (τ.1 4) i).2.1)), some (vI (bI ((rhN L M (τ.1 4) i).2.2))), some (vI (i : Int)), none], [vI (i : Int), vR 100], mW τ (otK (τ.2.1 3) ρ1 i))) rfl ?_
        have hLi := hL (i : Int) (by omega)
        refine hR.cv [vI (i : Int)] kX6_104 rfl rfl ⟨_, _, _, rfl, rfl, rfl⟩ (by first | decide | exact Nat.le_refl _) (by decide) (Nat.le_of_ble_eq_true rfl) rfl (sr_trailOf τ _ (by omega) h) ?_
        show G (54, [some (vR 100), some (vI M), some (vI ((rhN L M (τ.1 4) i).1)), some (vI ((rhN L M (τ.1 4) i).2.1)), some (vI (bI ((rhN L M (τ.1 4) i).2.2))), some (vI (i : Int)), none], [vI (trT τ (i : Int))], mW τ (otK (τ.2.1 3) ρ1 (i + 1)))
        rw [show trT τ (i : Int) = L (i : Int) from by rw [hLL]]
        refine hR.run0 1 (S' := (55, [some (vR 100), some (vI M), some (vI ((rhN L M (τ.1 4) i).1)), some (vI ((rhN L M (τ.1 4) i).2.1)), some (vI (bI ((rhN L M (τ.1 4) i).2.2))), some (vI (i : Int)), none], [vI M, vI (L (i : Int))], mW τ (otK (τ.2.1 3) ρ1 (i + 1)))) rfl ?_
        refine hR.br (C := L (i : Int) ≠ M) rfl (by first | omega | (dsimp only [plus1]; omega)) (fun c2 => ?_) (fun c2 => ?_)
        · skip
          refine hR.run0 4 (S' := (68, [some (vR 100), some (vI M), some (vI ((rhN L M (τ.1 4) i).1)), some (vI ((rhN L M (τ.1 4) i).2.1)), some (vI (bI ((rhN L M (τ.1 4) i).2.2))), some (vI (i : Int)), some (vI 0)], [vI 0, vI ((rhN L M (τ.1 4) i).1)], mW τ (otK (τ.2.1 3) ρ1 (i + 1)))) rfl ?_
          refine hR.br (C := 0 = 0) rfl (by first | omega | (dsimp only [plus1]; omega)) (fun c3 => ?_) (fun c3 => ?_)
          · skip
            refine hR.run0 4 (S' := (80, [some (vR 100), some (vI M), some (vI (((rhN L M (τ.1 4) i).1) + 0)), some (vI ((rhN L M (τ.1 4) i).2.1)), some (vI (bI ((rhN L M (τ.1 4) i).2.2))), some (vI (i : Int)), some (vI 0)], [vI 0], mW τ (otK (τ.2.1 3) ρ1 (i + 1)))) rfl ?_
            refine hR.br (C := 0 = 0) rfl (by first | omega | (dsimp only [plus1]; omega)) (fun c4 => ?_) (fun c4 => ?_)
            · skip
              refine hR.run0 3 (S' := (92, [some (vR 100), some (vI M), some (vI (((rhN L M (τ.1 4) i).1) + 0)), some (vI ((rhN L M (τ.1 4) i).2.1)), some (vI (bI ((rhN L M (τ.1 4) i).2.2))), some (vI (i : Int)), some (vI 0)], [vI (bI ((rhN L M (τ.1 4) i).2.2))], mW τ (otK (τ.2.1 3) ρ1 (i + 1)))) rfl ?_
              refine hR.br (C := bI ((rhN L M (τ.1 4) i).2.2) ≠ 0) rfl (bI_r _) (fun c5 => ?_) (fun c5 => ?_)
              · replace c5 : ((rhN L M (τ.1 4) i).2.2) = true := bI1 c5
                refine hR.run0 5 (S' := (42, [some (vR 100), some (vI M), some (vI (((rhN L M (τ.1 4) i).1) + 0)), some (vI ((rhN L M (τ.1 4) i).2.1)), some (vI 1), some (vI ((i : Int) + 1)), some (vI 0)], [], mW τ (otK (τ.2.1 3) ρ1 (i + 1)))) rfl ?_
                rw [show (rhN L M (τ.1 4) (i + 1)).1 = (((rhN L M (τ.1 4) i).1) + 0) from by show (rhN L M (τ.1 4) i).1 + (if L (i : Int) = M then 1 else 0) = _; first | (rw [if_pos (by omega)]; done) | (rw [if_neg (by omega)]; done)] at ihi
                rw [show (rhN L M (τ.1 4) (i + 1)).2.1 = ((rhN L M (τ.1 4) i).2.1) from by show (if L (i : Int) = M then (i : Int) else (rhN L M (τ.1 4) i).2.1) = _; first | (rw [if_pos (by omega)]; done) | (rw [if_neg (by omega)]; done)] at ihi
                rw [show bI ((rhN L M (τ.1 4) (i + 1)).2.2) = 1 from by first | exact bIt (show ((rhN L M (τ.1 4) i).2.2 || (decide (L (i : Int) = M) && decide ((i : Int) = τ.1 4))) = true from by first | (rw [show (rhN L M (τ.1 4) i).2.2 = true from by assumption]; rfl) | (rw [decide_eq_true (show L (i : Int) = M by omega), decide_eq_true (show (i : Int) = τ.1 4 by omega)]; cases (rhN L M (τ.1 4) i).2.2 <;> rfl)) | exact bIf (fun hh => by have hq : ((rhN L M (τ.1 4) i).2.2 || (decide (L (i : Int) = M) && decide ((i : Int) = τ.1 4))) = true := hh; rw [Bool.or_eq_true, Bool.and_eq_true, decide_eq_true_eq, decide_eq_true_eq] at hq; rcases hq with q | q; exact absurd (q.symm.trans (by assumption : _ = false)) (by decide); omega)] at ihi
                refine hR.fg 6 ?_
                show G (42, [some (vR 100), some (vI M), some (vI (((rhN L M (τ.1 4) i).1) + 0)), some (vI ((rhN L M (τ.1 4) i).2.1)), some (vI 1), some (vI ((i : Int) + 1)), none], [], mW τ (otK (τ.2.1 3) ρ1 (i + 1)))
                exact ihi
              · replace c5 : ((rhN L M (τ.1 4) i).2.2) = false := bI0 (Classical.not_not.mp c5)
                refine hR.run0 1 (S' := (97, [some (vR 100), some (vI M), some (vI (((rhN L M (τ.1 4) i).1) + 0)), some (vI ((rhN L M (τ.1 4) i).2.1)), some (vI (bI ((rhN L M (τ.1 4) i).2.2))), some (vI (i : Int)), some (vI 0)], [vI 0], mW τ (otK (τ.2.1 3) ρ1 (i + 1)))) rfl ?_
                refine hR.br (C := 0 = 0) rfl (by first | omega | (dsimp only [plus1]; omega)) (fun c6 => ?_) (fun c6 => ?_)
                · skip
                  refine hR.run0 4 (S' := (42, [some (vR 100), some (vI M), some (vI (((rhN L M (τ.1 4) i).1) + 0)), some (vI ((rhN L M (τ.1 4) i).2.1)), some (vI 0), some (vI ((i : Int) + 1)), some (vI 0)], [], mW τ (otK (τ.2.1 3) ρ1 (i + 1)))) rfl ?_
                  rw [show (rhN L M (τ.1 4) (i + 1)).1 = (((rhN L M (τ.1 4) i).1) + 0) from by show (rhN L M (τ.1 4) i).1 + (if L (i : Int) = M then 1 else 0) = _; first | (rw [if_pos (by omega)]; done) | (rw [if_neg (by omega)]; done)] at ihi
                  rw [show (rhN L M (τ.1 4) (i + 1)).2.1 = ((rhN L M (τ.1 4) i).2.1) from by show (if L (i : Int) = M then (i : Int) else (rhN L M (τ.1 4) i).2.1) = _; first | (rw [if_pos (by omega)]; done) | (rw [if_neg (by omega)]; done)] at ihi
                  rw [show bI ((rhN L M (τ.1 4) (i + 1)).2.2) = 0 from by first | exact bIt (show ((rhN L M (τ.1 4) i).2.2 || (decide (L (i : Int) = M) && decide ((i : Int) = τ.1 4))) = true from by first | (rw [show (rhN L M (τ.1 4) i).2.2 = true from by assumption]; rfl) | (rw [decide_eq_true (show L (i : Int) = M by omega), decide_eq_true (show (i : Int) = τ.1 4 by omega)]; cases (rhN L M (τ.1 4) i).2.2 <;> rfl)) | exact bIf (fun hh => by have hq : ((rhN L M (τ.1 4) i).2.2 || (decide (L (i : Int) = M) && decide ((i : Int) = τ.1 4))) = true := hh; rw [Bool.or_eq_true, Bool.and_eq_true, decide_eq_true_eq, decide_eq_true_eq] at hq; rcases hq with q | q; exact absurd (q.symm.trans (by assumption : _ = false)) (by decide); omega)] at ihi
                  refine hR.fg 6 ?_
                  show G (42, [some (vR 100), some (vI M), some (vI (((rhN L M (τ.1 4) i).1) + 0)), some (vI ((rhN L M (τ.1 4) i).2.1)), some (vI 0), some (vI ((i : Int) + 1)), none], [], mW τ (otK (τ.2.1 3) ρ1 (i + 1)))
                  exact ihi
                · exfalso; omega
            · exfalso; omega
          · exfalso; omega
        · skip
          refine hR.run0 5 (S' := (68, [some (vR 100), some (vI M), some (vI ((rhN L M (τ.1 4) i).1)), some (vI ((rhN L M (τ.1 4) i).2.1)), some (vI (bI ((rhN L M (τ.1 4) i).2.2))), some (vI (i : Int)), some (vI 1)], [vI 1, vI ((rhN L M (τ.1 4) i).1)], mW τ (otK (τ.2.1 3) ρ1 (i + 1)))) rfl ?_
          refine hR.br (C := 1 = 0) rfl (by first | omega | (dsimp only [plus1]; omega)) (fun c7 => ?_) (fun c7 => ?_)
          · exfalso; omega
          refine hR.run0 5 (S' := (80, [some (vR 100), some (vI M), some (vI (((rhN L M (τ.1 4) i).1) + 1)), some (vI ((rhN L M (τ.1 4) i).2.1)), some (vI (bI ((rhN L M (τ.1 4) i).2.2))), some (vI (i : Int)), some (vI 1)], [vI 1], mW τ (otK (τ.2.1 3) ρ1 (i + 1)))) rfl ?_
          refine hR.br (C := 1 = 0) rfl (by first | omega | (dsimp only [plus1]; omega)) (fun c8 => ?_) (fun c8 => ?_)
          · exfalso; omega
          refine hR.run0 4 (S' := (92, [some (vR 100), some (vI M), some (vI (((rhN L M (τ.1 4) i).1) + 1)), some (vI (i : Int)), some (vI (bI ((rhN L M (τ.1 4) i).2.2))), some (vI (i : Int)), some (vI 1)], [vI (bI ((rhN L M (τ.1 4) i).2.2))], mW τ (otK (τ.2.1 3) ρ1 (i + 1)))) rfl ?_
          refine hR.br (C := bI ((rhN L M (τ.1 4) i).2.2) ≠ 0) rfl (bI_r _) (fun c9 => ?_) (fun c9 => ?_)
          · replace c9 : ((rhN L M (τ.1 4) i).2.2) = true := bI1 c9
            refine hR.run0 5 (S' := (42, [some (vR 100), some (vI M), some (vI (((rhN L M (τ.1 4) i).1) + 1)), some (vI (i : Int)), some (vI 1), some (vI ((i : Int) + 1)), some (vI 1)], [], mW τ (otK (τ.2.1 3) ρ1 (i + 1)))) rfl ?_
            rw [show (rhN L M (τ.1 4) (i + 1)).1 = (((rhN L M (τ.1 4) i).1) + 1) from by show (rhN L M (τ.1 4) i).1 + (if L (i : Int) = M then 1 else 0) = _; first | (rw [if_pos (by omega)]; done) | (rw [if_neg (by omega)]; done)] at ihi
            rw [show (rhN L M (τ.1 4) (i + 1)).2.1 = (i : Int) from by show (if L (i : Int) = M then (i : Int) else (rhN L M (τ.1 4) i).2.1) = _; first | (rw [if_pos (by omega)]; done) | (rw [if_neg (by omega)]; done)] at ihi
            rw [show bI ((rhN L M (τ.1 4) (i + 1)).2.2) = 1 from by first | exact bIt (show ((rhN L M (τ.1 4) i).2.2 || (decide (L (i : Int) = M) && decide ((i : Int) = τ.1 4))) = true from by first | (rw [show (rhN L M (τ.1 4) i).2.2 = true from by assumption]; rfl) | (rw [decide_eq_true (show L (i : Int) = M by omega), decide_eq_true (show (i : Int) = τ.1 4 by omega)]; cases (rhN L M (τ.1 4) i).2.2 <;> rfl)) | exact bIf (fun hh => by have hq : ((rhN L M (τ.1 4) i).2.2 || (decide (L (i : Int) = M) && decide ((i : Int) = τ.1 4))) = true := hh; rw [Bool.or_eq_true, Bool.and_eq_true, decide_eq_true_eq, decide_eq_true_eq] at hq; rcases hq with q | q; exact absurd (q.symm.trans (by assumption : _ = false)) (by decide); omega)] at ihi
            refine hR.fg 6 ?_
            show G (42, [some (vR 100), some (vI M), some (vI (((rhN L M (τ.1 4) i).1) + 1)), some (vI (i : Int)), some (vI 1), some (vI ((i : Int) + 1)), none], [], mW τ (otK (τ.2.1 3) ρ1 (i + 1)))
            exact ihi
          · replace c9 : ((rhN L M (τ.1 4) i).2.2) = false := bI0 (Classical.not_not.mp c9)
            refine hR.run0 1 (S' := (97, [some (vR 100), some (vI M), some (vI (((rhN L M (τ.1 4) i).1) + 1)), some (vI (i : Int)), some (vI (bI ((rhN L M (τ.1 4) i).2.2))), some (vI (i : Int)), some (vI 1)], [vI 1], mW τ (otK (τ.2.1 3) ρ1 (i + 1)))) rfl ?_
            refine hR.br (C := 1 = 0) rfl (by first | omega | (dsimp only [plus1]; omega)) (fun c10 => ?_) (fun c10 => ?_)
            · exfalso; omega
            refine hR.run0 3 (S' := (106, [some (vR 100), some (vI M), some (vI (((rhN L M (τ.1 4) i).1) + 1)), some (vI (i : Int)), some (vI (bI ((rhN L M (τ.1 4) i).2.2))), some (vI (i : Int)), some (vI 1)], [vI (τ.1 4), vI (i : Int)], mW τ (otK (τ.2.1 3) ρ1 (i + 1)))) rfl ?_
            refine hR.br (C := (i : Int) ≠ τ.1 4) rfl (by first | omega | (dsimp only [plus1]; omega)) (fun c11 => ?_) (fun c11 => ?_)
            · skip
              refine hR.run0 4 (S' := (42, [some (vR 100), some (vI M), some (vI (((rhN L M (τ.1 4) i).1) + 1)), some (vI (i : Int)), some (vI 0), some (vI ((i : Int) + 1)), some (vI 1)], [], mW τ (otK (τ.2.1 3) ρ1 (i + 1)))) rfl ?_
              rw [show (rhN L M (τ.1 4) (i + 1)).1 = (((rhN L M (τ.1 4) i).1) + 1) from by show (rhN L M (τ.1 4) i).1 + (if L (i : Int) = M then 1 else 0) = _; first | (rw [if_pos (by omega)]; done) | (rw [if_neg (by omega)]; done)] at ihi
              rw [show (rhN L M (τ.1 4) (i + 1)).2.1 = (i : Int) from by show (if L (i : Int) = M then (i : Int) else (rhN L M (τ.1 4) i).2.1) = _; first | (rw [if_pos (by omega)]; done) | (rw [if_neg (by omega)]; done)] at ihi
              rw [show bI ((rhN L M (τ.1 4) (i + 1)).2.2) = 0 from by first | exact bIt (show ((rhN L M (τ.1 4) i).2.2 || (decide (L (i : Int) = M) && decide ((i : Int) = τ.1 4))) = true from by first | (rw [show (rhN L M (τ.1 4) i).2.2 = true from by assumption]; rfl) | (rw [decide_eq_true (show L (i : Int) = M by omega), decide_eq_true (show (i : Int) = τ.1 4 by omega)]; cases (rhN L M (τ.1 4) i).2.2 <;> rfl)) | exact bIf (fun hh => by have hq : ((rhN L M (τ.1 4) i).2.2 || (decide (L (i : Int) = M) && decide ((i : Int) = τ.1 4))) = true := hh; rw [Bool.or_eq_true, Bool.and_eq_true, decide_eq_true_eq, decide_eq_true_eq] at hq; rcases hq with q | q; exact absurd (q.symm.trans (by assumption : _ = false)) (by decide); omega)] at ihi
              refine hR.fg 6 ?_
              show G (42, [some (vR 100), some (vI M), some (vI (((rhN L M (τ.1 4) i).1) + 1)), some (vI (i : Int)), some (vI 0), some (vI ((i : Int) + 1)), none], [], mW τ (otK (τ.2.1 3) ρ1 (i + 1)))
              exact ihi
            · skip
              refine hR.run0 5 (S' := (42, [some (vR 100), some (vI M), some (vI (((rhN L M (τ.1 4) i).1) + 1)), some (vI (i : Int)), some (vI 1), some (vI ((i : Int) + 1)), some (vI 1)], [], mW τ (otK (τ.2.1 3) ρ1 (i + 1)))) rfl ?_
              rw [show (rhN L M (τ.1 4) (i + 1)).1 = (((rhN L M (τ.1 4) i).1) + 1) from by show (rhN L M (τ.1 4) i).1 + (if L (i : Int) = M then 1 else 0) = _; first | (rw [if_pos (by omega)]; done) | (rw [if_neg (by omega)]; done)] at ihi
              rw [show (rhN L M (τ.1 4) (i + 1)).2.1 = (i : Int) from by show (if L (i : Int) = M then (i : Int) else (rhN L M (τ.1 4) i).2.1) = _; first | (rw [if_pos (by omega)]; done) | (rw [if_neg (by omega)]; done)] at ihi
              rw [show bI ((rhN L M (τ.1 4) (i + 1)).2.2) = 1 from by first | exact bIt (show ((rhN L M (τ.1 4) i).2.2 || (decide (L (i : Int) = M) && decide ((i : Int) = τ.1 4))) = true from by first | (rw [show (rhN L M (τ.1 4) i).2.2 = true from by assumption]; rfl) | (rw [decide_eq_true (show L (i : Int) = M by omega), decide_eq_true (show (i : Int) = τ.1 4 by omega)]; cases (rhN L M (τ.1 4) i).2.2 <;> rfl)) | exact bIf (fun hh => by have hq : ((rhN L M (τ.1 4) i).2.2 || (decide (L (i : Int) = M) && decide ((i : Int) = τ.1 4))) = true := hh; rw [Bool.or_eq_true, Bool.and_eq_true, decide_eq_true_eq, decide_eq_true_eq] at hq; rcases hq with q | q; exact absurd (q.symm.trans (by assumption : _ = false)) (by decide); omega)] at ihi
              refine hR.fg 6 ?_
              show G (42, [some (vR 100), some (vI M), some (vI (((rhN L M (τ.1 4) i).1) + 1)), some (vI (i : Int)), some (vI 1), some (vI ((i : Int) + 1)), none], [], mW τ (otK (τ.2.1 3) ρ1 (i + 1)))
              exact ihi
      · show G (42, [some (vR 100), some (vI M), some (vI ((rhN L M (τ.1 4) 3).1)), some (vI ((rhN L M (τ.1 4) 3).2.1)), some (vI (bI ((rhN L M (τ.1 4) 3).2.2))), some (vI ((3 : Nat) : Int)), none], [], mW τ (otK (τ.2.1 3) ρ1 3))
        show G (42, [some (vR 100), some (vI M), some (vI ((rhN L M (τ.1 4) 3).1)), some (vI ((rhN L M (τ.1 4) 3).2.1)), some (vI (bI ((rhN L M (τ.1 4) 3).2.2))), some (vI 3), none], [], mW τ (otK (τ.2.1 3) ρ1 3))
        refine hR.run0 2 (S' := (45, [some (vR 100), some (vI M), some (vI ((rhN L M (τ.1 4) 3).1)), some (vI ((rhN L M (τ.1 4) 3).2.1)), some (vI (bI ((rhN L M (τ.1 4) 3).2.2))), some (vI 3), none], [vI 3, vI 3], mW τ (otK (τ.2.1 3) ρ1 3))) rfl ?_
        refine hR.br (C := 3 ≤ 3) rfl (by first | omega | (dsimp only [plus1]; omega)) (fun c12 => ?_) (fun c12 => ?_)
        · skip
          refine hR.run0 3 (S' := (125, [some (vR 100), some (vI M), some (vI ((rhN L M (τ.1 4) 3).1)), some (vI ((rhN L M (τ.1 4) 3).2.1)), some (vI (bI ((rhN L M (τ.1 4) 3).2.2))), some (vI 3), none], [vI 5, vI M, vR 100], mW τ (otK (τ.2.1 3) ρ1 3))) rfl ?_
          refine hR.br (C := 5 ≤ M) rfl (by first | omega | (dsimp only [plus1]; omega)) (fun c13 => ?_) (fun c13 => ?_)
          · skip
            refine hR.run0 1 (S' := (134, [some (vR 100), some (vI M), some (vI ((rhN L M (τ.1 4) 3).1)), some (vI ((rhN L M (τ.1 4) 3).2.1)), some (vI (bI ((rhN L M (τ.1 4) 3).2.2))), some (vI 3), none], [vI (bI ((rhN L M (τ.1 4) 3).2.2)), vR 100], mW τ (otK (τ.2.1 3) ρ1 3))) rfl ?_
            refine hR.br (C := bI ((rhN L M (τ.1 4) 3).2.2) = 0) rfl (bI_r _) (fun c14 => ?_) (fun c14 => ?_)
            · replace c14 : ((rhN L M (τ.1 4) 3).2.2) = false := bI0 c14
              refine hR.run0 2 (S' := (146, [some (vR 100), some (vI M), some (vI ((rhN L M (τ.1 4) 3).1)), some (vI ((rhN L M (τ.1 4) 3).2.1)), some (vI (bI ((rhN L M (τ.1 4) 3).2.2))), some (vI 3), none], [vI 1, vI ((rhN L M (τ.1 4) 3).1), vR 100], mW τ (otK (τ.2.1 3) ρ1 3))) rfl ?_
              refine hR.br (C := (rhN L M (τ.1 4) 3).1 ≠ 1) rfl (by first | omega | (dsimp only [plus1]; omega)) (fun c15 => ?_) (fun c15 => ?_)
              · skip
                refine hR.run0 2 (S' := (157, [some (vR 100), some (vI M), some (vI ((rhN L M (τ.1 4) 3).1)), some (vI ((rhN L M (τ.1 4) 3).2.1)), some (vI (bI ((rhN L M (τ.1 4) 3).2.2))), some (vI 3), none], [], pset (mW τ (otK (τ.2.1 3) ρ1 3)) 100 (.inr (6, [vR 101, vR 102, vI (τ.1 5), vR 103, vR 104, vR 105, vR 106, vI (τ.1 0), vI (τ.1 1), vI (τ.1 2), vI (τ.1 3), vR 107, vR 108, vI (τ.1 6), vI (τ.1 7), vR 109, vI (τ.1 8), vI (-1), vI (τ.1 9), vI (τ.1 10), vR 110, vR 111, vR 112, vR 113, vR 114, vI ((otK (τ.2.1 3) ρ1 3).1 0)])))) rfl ?_
                rw [mW_s4]
                have hv9 : (if M < 5 then -1 else if (rhN L M (τ.1 4) 3).2.2 = true then τ.1 4 else if (rhN L M (τ.1 4) 3).1 = 1 then (rhN L M (τ.1 4) 3).2.1 else -1) = (-1) := by (repeat' split) <;> first | rfl | (exfalso; omega) | (exfalso; simp_all; done) | (simp_all; done)
                exact hR.rt rfl trivial rfl (by rw [hv9])
              · skip
                refine hR.run0 3 (S' := (157, [some (vR 100), some (vI M), some (vI ((rhN L M (τ.1 4) 3).1)), some (vI ((rhN L M (τ.1 4) 3).2.1)), some (vI (bI ((rhN L M (τ.1 4) 3).2.2))), some (vI 3), none], [], pset (mW τ (otK (τ.2.1 3) ρ1 3)) 100 (.inr (6, [vR 101, vR 102, vI (τ.1 5), vR 103, vR 104, vR 105, vR 106, vI (τ.1 0), vI (τ.1 1), vI (τ.1 2), vI (τ.1 3), vR 107, vR 108, vI (τ.1 6), vI (τ.1 7), vR 109, vI (τ.1 8), vI ((rhN L M (τ.1 4) 3).2.1), vI (τ.1 9), vI (τ.1 10), vR 110, vR 111, vR 112, vR 113, vR 114, vI ((otK (τ.2.1 3) ρ1 3).1 0)])))) rfl ?_
                rw [mW_s4]
                have hv9 : (if M < 5 then -1 else if (rhN L M (τ.1 4) 3).2.2 = true then τ.1 4 else if (rhN L M (τ.1 4) 3).1 = 1 then (rhN L M (τ.1 4) 3).2.1 else -1) = ((rhN L M (τ.1 4) 3).2.1) := by (repeat' split) <;> first | rfl | (exfalso; omega) | (exfalso; simp_all; done) | (simp_all; done)
                exact hR.rt rfl trivial rfl (by rw [hv9])
            · replace c14 : ((rhN L M (τ.1 4) 3).2.2) = true := bI1 c14
              refine hR.run0 4 (S' := (157, [some (vR 100), some (vI M), some (vI ((rhN L M (τ.1 4) 3).1)), some (vI ((rhN L M (τ.1 4) 3).2.1)), some (vI (bI ((rhN L M (τ.1 4) 3).2.2))), some (vI 3), none], [], pset (mW τ (otK (τ.2.1 3) ρ1 3)) 100 (.inr (6, [vR 101, vR 102, vI (τ.1 5), vR 103, vR 104, vR 105, vR 106, vI (τ.1 0), vI (τ.1 1), vI (τ.1 2), vI (τ.1 3), vR 107, vR 108, vI (τ.1 6), vI (τ.1 7), vR 109, vI (τ.1 8), vI (τ.1 4), vI (τ.1 9), vI (τ.1 10), vR 110, vR 111, vR 112, vR 113, vR 114, vI ((otK (τ.2.1 3) ρ1 3).1 0)])))) rfl ?_
              rw [mW_s4]
              have hv9 : (if M < 5 then -1 else if (rhN L M (τ.1 4) 3).2.2 = true then τ.1 4 else if (rhN L M (τ.1 4) 3).1 = 1 then (rhN L M (τ.1 4) 3).2.1 else -1) = (τ.1 4) := by (repeat' split) <;> first | rfl | (exfalso; omega) | (exfalso; simp_all; done) | (simp_all; done)
              exact hR.rt rfl trivial rfl (by rw [hv9])
          · skip
            refine hR.run0 3 (S' := (157, [some (vR 100), some (vI M), some (vI ((rhN L M (τ.1 4) 3).1)), some (vI ((rhN L M (τ.1 4) 3).2.1)), some (vI (bI ((rhN L M (τ.1 4) 3).2.2))), some (vI 3), none], [], pset (mW τ (otK (τ.2.1 3) ρ1 3)) 100 (.inr (6, [vR 101, vR 102, vI (τ.1 5), vR 103, vR 104, vR 105, vR 106, vI (τ.1 0), vI (τ.1 1), vI (τ.1 2), vI (τ.1 3), vR 107, vR 108, vI (τ.1 6), vI (τ.1 7), vR 109, vI (τ.1 8), vI (-1), vI (τ.1 9), vI (τ.1 10), vR 110, vR 111, vR 112, vR 113, vR 114, vI ((otK (τ.2.1 3) ρ1 3).1 0)])))) rfl ?_
            rw [mW_s4]
            have hv9 : (if M < 5 then -1 else if (rhN L M (τ.1 4) 3).2.2 = true then τ.1 4 else if (rhN L M (τ.1 4) 3).1 = 1 then (rhN L M (τ.1 4) 3).2.1 else -1) = (-1) := by (repeat' split) <;> first | rfl | (exfalso; omega) | (exfalso; simp_all; done) | (simp_all; done)
            exact hR.rt rfl trivial rfl (by rw [hv9])
        · exfalso; omega
    exact hL 0 (Nat.zero_le _)
  refine hR.run0 4 (S' := (4, [some (vR 100), some (vI 0), some (vI 0), none, none, none, none], [], mW τ ρ)) rfl ?_
  have hL : ∀ i : Nat, i ≤ 3 → G (4, [some (vR 100), some (vI (rmN L i)), some (vI ((i : Nat) : Int)), none, none, none, none], [], mW τ (otK (τ.2.1 3) ρ i)) := by
    refine back (P := fun i : Nat => G (4, [some (vR 100), some (vI (rmN L i)), some (vI ((i : Nat) : Int)), none, none, none, none], [], mW τ (otK (τ.2.1 3) ρ i))) ?_ ?_
    · intro i hii ihi
      replace ihi : G (4, [some (vR 100), some (vI (rmN L (i + 1))), some (vI ((i + 1 : Nat) : Int)), none, none, none, none], [], mW τ (otK (τ.2.1 3) ρ (i + 1))) := ihi
      show G (4, [some (vR 100), some (vI (rmN L i)), some (vI (i : Int)), none, none, none, none], [], mW τ (otK (τ.2.1 3) ρ i))
      have hq := rmN_r hL i (by omega)
      refine hR.run0 2 (S' := (6, [some (vR 100), some (vI (rmN L i)), some (vI (i : Int)), none, none, none, none], [vI 3, vI (i : Int)], mW τ (otK (τ.2.1 3) ρ i))) rfl ?_
      refine hR.br (C := 3 ≤ (i : Int)) rfl (by first | omega | (dsimp only [plus1]; omega)) (fun c16 => ?_) (fun c16 => ?_)
      · exfalso; omega
      refine hR.run0 2 (S' := (11, [some (vR 100), some (vI (rmN L i)), some (vI (i : Int)), none, none, none, none], [vI (i : Int), vR 100], mW τ (otK (τ.2.1 3) ρ i))) rfl ?_
      have hLi := hL (i : Int) (by omega)
      refine hR.cv [vI (i : Int)] kX6_104 rfl rfl ⟨_, _, _, rfl, rfl, rfl⟩ (by first | decide | exact Nat.le_refl _) (by decide) (Nat.le_of_ble_eq_true rfl) rfl (sr_trailOf τ _ (by omega) h) ?_
      show G (14, [some (vR 100), some (vI (rmN L i)), some (vI (i : Int)), none, none, none, none], [vI (trT τ (i : Int))], mW τ (otK (τ.2.1 3) ρ (i + 1)))
      rw [show trT τ (i : Int) = L (i : Int) from by rw [hLL]]
      refine hR.run0 3 (S' := (17, [some (vR 100), some (vI (rmN L i)), some (vI (i : Int)), some (vI (L (i : Int))), none, none, none], [vI (rmN L i), vI (L (i : Int))], mW τ (otK (τ.2.1 3) ρ (i + 1)))) rfl ?_
      refine hR.br (C := L (i : Int) ≤ rmN L i) rfl (by first | omega | (dsimp only [plus1]; omega)) (fun c17 => ?_) (fun c17 => ?_)
      · skip
        refine hR.run0 4 (S' := (4, [some (vR 100), some (vI (rmN L i)), some (vI ((i : Int) + 1)), some (vI (L (i : Int))), none, none, none], [], mW τ (otK (τ.2.1 3) ρ (i + 1)))) rfl ?_
        rw [show rmN L (i + 1) = (rmN L i) from by show (if rmN L i < L (i : Int) then L (i : Int) else rmN L i) = _; first | (rw [if_pos (by omega)]; done) | (rw [if_neg (by omega)]; done)] at ihi
        refine hR.fg 3 ?_
        show G (4, [some (vR 100), some (vI (rmN L i)), some (vI ((i : Int) + 1)), none, none, none, none], [], mW τ (otK (τ.2.1 3) ρ (i + 1)))
        exact ihi
      · skip
        refine hR.run0 5 (S' := (4, [some (vR 100), some (vI (L (i : Int))), some (vI ((i : Int) + 1)), some (vI (L (i : Int))), none, none, none], [], mW τ (otK (τ.2.1 3) ρ (i + 1)))) rfl ?_
        rw [show rmN L (i + 1) = (L (i : Int)) from by show (if rmN L i < L (i : Int) then L (i : Int) else rmN L i) = _; first | (rw [if_pos (by omega)]; done) | (rw [if_neg (by omega)]; done)] at ihi
        refine hR.fg 3 ?_
        show G (4, [some (vR 100), some (vI (L (i : Int))), some (vI ((i : Int) + 1)), none, none, none, none], [], mW τ (otK (τ.2.1 3) ρ (i + 1)))
        exact ihi
    · show G (4, [some (vR 100), some (vI (rmN L 3)), some (vI ((3 : Nat) : Int)), none, none, none, none], [], mW τ (otK (τ.2.1 3) ρ 3))
      show G (4, [some (vR 100), some (vI (rmN L 3)), some (vI 3), none, none, none, none], [], mW τ (otK (τ.2.1 3) ρ 3))
      refine hR.run0 2 (S' := (6, [some (vR 100), some (vI (rmN L 3)), some (vI 3), none, none, none, none], [vI 3, vI 3], mW τ (otK (τ.2.1 3) ρ 3))) rfl ?_
      refine hR.br (C := 3 ≤ 3) rfl (by first | omega | (dsimp only [plus1]; omega)) (fun c18 => ?_) (fun c18 => ?_)
      · skip
        refine hR.fg 2 ?_
        show G (32, [some (vR 100), some (vI (rmN L 3)), none, none, none, none, none], [], mW τ (otK (τ.2.1 3) ρ 3))
        exact hT _ rfl
      · exfalso; omega
  exact hL 0 (Nat.zero_le _)
theorem sr_lays (τ ρ : St) {e : Int} (he : 0 ≤ e ∧ e < 30) (htu : 0 ≤ τ.1 1 ∧ τ.1 1 < 3) (hL : Lh (sAt τ 3 e (τ.1 1))) : Sp mX6_lays roC 6 [vR 100, vI e] (mW τ ρ) (.inl none) (mW (lkS (sAt τ 3 e (τ.1 1))) (rlK ((sAt τ 3 e (τ.1 1)).2.1 3) ρ)) := by
  refine Sp.of (lk := lkX6) (tb := bX6_lays) (by decide) lkX6_ok tX6_lays (mW_keys _ _ _ _) (Nat.le_of_ble_eq_true rfl) (fun G hR => ?_)
  refine hR.run1 8 (S' := (12, [some (vR 100), some (vI e)], [], pset (mW τ ρ) 103 (.inl (30, .inl (pup (plus1 (τ.2.1 3)) e ((τ.1 1) + 1)))))) rfl (by first | omega | (dsimp only [plus1]; omega) | (simp [plus1, sHt, sH, sS, sAt, sA, sup]; done) | (simp [plus1, sHt, sH, sS, sAt, sA, sup]; omega)) ?_
  rw [mW_a3]
  refine hR.run0 1 (S' := (13, [some (vR 100), some (vI e)], [vR 100], mW (sAt τ 3 e (τ.1 1)) ρ)) rfl ?_
  refine hR.cv [] kX6_156 rfl rfl ⟨_, _, _, rfl, rfl, rfl⟩ (by first | decide | exact Nat.le_refl _) (by decide) (Nat.le_of_ble_eq_true rfl) rfl (sr_looksT (sAt τ 3 e (τ.1 1)) _ hL) ?_
  show G (16, [some (vR 100), some (vI e)], [], mW (lkS (sAt τ 3 e (τ.1 1))) (rlK ((sAt τ 3 e (τ.1 1)).2.1 3) ρ))
  exact hR.rt rfl trivial (by rfl) (by rfl)
theorem sr_yieldsFirst (τ ρ : St) {p c : Int} (hp : 0 ≤ p ∧ p < 3) (hc : 0 ≤ c ∧ c < 24) (hg : ∀ h, 0 ≤ τ.2.1 0 h ∧ τ.2.1 0 h ≤ 5) (hH : HH (τ.2.2 0)) : Sp mX6_yieldsFirst roC 1 [vR 100, vI p, vI c] (mW τ ρ) (.inl none) (mW (gnN p c τ 7) ρ) := by
  refine Sp.of (lk := lkX6) (tb := bX6_yieldsFirst) (by decide) lkX6_ok tX6_yieldsFirst (mW_keys _ _ _ _) (Nat.le_of_ble_eq_true rfl) (fun G hR => ?_)
  refine hR.run0 2 (S' := (2, [some (vR 100), some (vI p), some (vI c), some (vI 0), none], [], mW τ ρ)) rfl ?_
  have hL : ∀ i : Nat, i ≤ 7 → G (2, [some (vR 100), some (vI p), some (vI c), some (vI ((i : Nat) : Int)), none], [], mW (gnN p c τ i) ρ) := by
    refine back (P := fun i : Nat => G (2, [some (vR 100), some (vI p), some (vI c), some (vI ((i : Nat) : Int)), none], [], mW (gnN p c τ i) ρ)) ?_ ?_
    · intro i hii ihi
      replace ihi : G (2, [some (vR 100), some (vI p), some (vI c), some (vI ((i + 1 : Nat) : Int)), none], [], mW (gnN p c τ (i + 1)) ρ) := ihi
      show G (2, [some (vR 100), some (vI p), some (vI c), some (vI (i : Int)), none], [], mW (gnN p c τ i) ρ)
      have hn9 : gnN p c τ (i + 1) = gn1 p c (i : Int) (gnN p c τ i) := rfl
      rw [hn9] at ihi
      have zg : 0 ≤ (gnN p c τ i).2.1 0 (i : Int) ∧ (gnN p c τ i).2.1 0 (i : Int) ≤ 5 := by rw [gnN_2]; exact hg _
      have zH := gnN_HH (c := c) hp hg hH i
      generalize gnN p c τ i = σ at ihi zg zH ⊢
      have zH3 := zH.1 3 (σ.2.1 0 (i : Int))
      have zHp := zH.1 p (σ.2.1 0 (i : Int))
      refine hR.run0 2 (S' := (5, [some (vR 100), some (vI p), some (vI c), some (vI (i : Int)), none], [vI 7, vI (i : Int)], mW σ ρ)) rfl ?_
      refine hR.br (C := 7 ≤ (i : Int)) rfl (by first | omega | (dsimp only [plus1]; omega) | (simp [plus1, sHt, sH, sS, sAt, sA, sup]; done) | (simp [plus1, sHt, sH, sS, sAt, sA, sup]; omega)) (fun c1 => ?_) (fun c1 => ?_)
      · exfalso; omega
      refine hR.run0 2 (S' := (10, [some (vR 100), some (vI p), some (vI c), some (vI (i : Int)), none], [vI c, vI (i : Int)], mW σ ρ)) rfl ?_
      refine hR.cs [vI (i : Int), vI c] kX6_137 rfl rfl (by first | decide | exact Nat.le_refl _) (by decide) (Nat.le_of_ble_eq_true rfl) rfl (sr_isOf _ _ (by omega) (by omega)) ?_
      show G (13, [some (vR 100), some (vI p), some (vI c), some (vI (i : Int)), none], [vI (bI (arnd (i : Int) c))], mW σ ρ)
      refine hR.br (C := bI (arnd (i : Int) c) = 0) rfl (bI_r _) (fun c2 => ?_) (fun c2 => ?_)
      · replace c2 : (arnd (i : Int) c) = false := bI0 c2
        refine hR.run0 3 (S' := (35, [some (vR 100), some (vI p), some (vI c), some (vI (i : Int)), some (vI 0)], [vI 0], mW σ ρ)) rfl ?_
        refine hR.br (C := 0 = 0) rfl (by first | omega | (dsimp only [plus1]; omega) | (simp [plus1, sHt, sH, sS, sAt, sA, sup]; done) | (simp [plus1, sHt, sH, sS, sAt, sA, sup]; omega)) (fun c3 => ?_) (fun c3 => ?_)
        · skip
          refine hR.run0 2 (S' := (2, [some (vR 100), some (vI p), some (vI c), some (vI ((i : Int) + 1)), some (vI 0)], [], mW σ ρ)) rfl ?_
          refine hR.fg 4 ?_
          show G (2, [some (vR 100), some (vI p), some (vI c), some (vI ((i : Int) + 1)), none], [], mW σ ρ)
          rw [show mW (gn1 p c (i : Int) σ) ρ = mW σ ρ from by show mW (if gnC σ c (i : Int) = true then mvS σ 3 p (σ.2.1 0 (i : Int)) 1 else σ) ρ = _; first | (have hz : gnC σ c (i : Int) = false := (by unfold gnC; simp_all; done); rw [if_neg (by rw [hz]; decide)]; done) | (have hz : gnC σ c (i : Int) = false := (by unfold gnC; simp; intros; omega); rw [if_neg (by rw [hz]; decide)]; done) | (have hz : gnC σ c (i : Int) = true := (by unfold gnC; simp_all; done); rw [if_pos hz]; rfl)] at ihi
          exact ihi
        · exfalso; omega
      · replace c2 : (arnd (i : Int) c) = true := bI1 c2
        refine hR.run1 5 (S' := (23, [some (vR 100), some (vI p), some (vI c), some (vI (i : Int)), none], [vI 5, vI (σ.2.1 0 (i : Int))], mW σ ρ)) rfl (by first | omega | (dsimp only [plus1]; omega) | (simp [plus1, sHt, sH, sS, sAt, sA, sup]; done) | (simp [plus1, sHt, sH, sS, sAt, sA, sup]; omega)) ?_
        refine hR.br (C := σ.2.1 0 (i : Int) = 5) rfl (by first | omega | (dsimp only [plus1]; omega) | (simp [plus1, sHt, sH, sS, sAt, sA, sup]; done) | (simp [plus1, sHt, sH, sS, sAt, sA, sup]; omega)) (fun c4 => ?_) (fun c4 => ?_)
        · skip
          refine hR.run0 3 (S' := (35, [some (vR 100), some (vI p), some (vI c), some (vI (i : Int)), some (vI 0)], [vI 0], mW σ ρ)) rfl ?_
          refine hR.br (C := 0 = 0) rfl (by first | omega | (dsimp only [plus1]; omega) | (simp [plus1, sHt, sH, sS, sAt, sA, sup]; done) | (simp [plus1, sHt, sH, sS, sAt, sA, sup]; omega)) (fun c5 => ?_) (fun c5 => ?_)
          · skip
            refine hR.run0 2 (S' := (2, [some (vR 100), some (vI p), some (vI c), some (vI ((i : Int) + 1)), some (vI 0)], [], mW σ ρ)) rfl ?_
            refine hR.fg 4 ?_
            show G (2, [some (vR 100), some (vI p), some (vI c), some (vI ((i : Int) + 1)), none], [], mW σ ρ)
            rw [show mW (gn1 p c (i : Int) σ) ρ = mW σ ρ from by show mW (if gnC σ c (i : Int) = true then mvS σ 3 p (σ.2.1 0 (i : Int)) 1 else σ) ρ = _; first | (have hz : gnC σ c (i : Int) = false := (by unfold gnC; simp_all; done); rw [if_neg (by rw [hz]; decide)]; done) | (have hz : gnC σ c (i : Int) = false := (by unfold gnC; simp; intros; omega); rw [if_neg (by rw [hz]; decide)]; done) | (have hz : gnC σ c (i : Int) = true := (by unfold gnC; simp_all; done); rw [if_pos hz]; rfl)] at ihi
            exact ihi
          · exfalso; omega
        · skip
          refine hR.run0 4 (S' := (35, [some (vR 100), some (vI p), some (vI c), some (vI (i : Int)), some (vI 1)], [vI 1], mW σ ρ)) rfl ?_
          refine hR.br (C := 1 = 0) rfl (by first | omega | (dsimp only [plus1]; omega) | (simp [plus1, sHt, sH, sS, sAt, sA, sup]; done) | (simp [plus1, sHt, sH, sS, sAt, sA, sup]; omega)) (fun c6 => ?_) (fun c6 => ?_)
          · exfalso; omega
          refine hR.run1 9 (S' := (52, [some (vR 100), some (vI p), some (vI c), some (vI (i : Int)), some (vI 1)], [vI (flat (σ.2.2 0) (15 + (σ.2.1 0 (i : Int))))], mW σ ρ)) rfl (by first | omega | (dsimp only [plus1]; omega) | (simp [plus1, sHt, sH, sS, sAt, sA, sup]; done) | (simp [plus1, sHt, sH, sS, sAt, sA, sup]; omega)) ?_
          rw [show flat (σ.2.2 0) (15 + (σ.2.1 0 (i : Int))) = σ.2.2 0 3 (σ.2.1 0 (i : Int)) from flat_at (p := 3) _ (by omega)]
          refine hR.br (C := σ.2.2 0 3 (σ.2.1 0 (i : Int)) ≤ 0) rfl (by first | omega | (dsimp only [plus1]; omega) | (simp [plus1, sHt, sH, sS, sAt, sA, sup]; done) | (simp [plus1, sHt, sH, sS, sAt, sA, sup]; omega)) (fun c7 => ?_) (fun c7 => ?_)
          · skip
            refine hR.run0 2 (S' := (2, [some (vR 100), some (vI p), some (vI c), some (vI ((i : Int) + 1)), some (vI 1)], [], mW σ ρ)) rfl ?_
            refine hR.fg 4 ?_
            show G (2, [some (vR 100), some (vI p), some (vI c), some (vI ((i : Int) + 1)), none], [], mW σ ρ)
            rw [show mW (gn1 p c (i : Int) σ) ρ = mW σ ρ from by show mW (if gnC σ c (i : Int) = true then mvS σ 3 p (σ.2.1 0 (i : Int)) 1 else σ) ρ = _; first | (have hz : gnC σ c (i : Int) = false := (by unfold gnC; simp_all; done); rw [if_neg (by rw [hz]; decide)]; done) | (have hz : gnC σ c (i : Int) = false := (by unfold gnC; simp; intros; omega); rw [if_neg (by rw [hz]; decide)]; done) | (have hz : gnC σ c (i : Int) = true := (by unfold gnC; simp_all; done); rw [if_pos hz]; rfl)] at ihi
            exact ihi
          · skip
            refine hR.run1 10 (S' := (70, [some (vR 100), some (vI p), some (vI c), some (vI (i : Int)), some (vI 1)], [vI (flat (σ.2.2 0) (15 + (σ.2.1 0 (i : Int)))), vI (15 + (σ.2.1 0 (i : Int))), vR 105], mW σ ρ)) rfl (by first | omega | (dsimp only [plus1]; omega) | (simp [plus1, sHt, sH, sS, sAt, sA, sup]; done) | (simp [plus1, sHt, sH, sS, sAt, sA, sup]; omega)) ?_
            rw [show flat (σ.2.2 0) (15 + (σ.2.1 0 (i : Int))) = σ.2.2 0 3 (σ.2.1 0 (i : Int)) from flat_at (p := 3) _ (by omega)]
            refine hR.run1 3 (S' := (73, [some (vR 100), some (vI p), some (vI c), some (vI (i : Int)), some (vI 1)], [], pset (mW σ ρ) 105 (.inl (20, .inl (pup (flat (σ.2.2 0)) (5 * 3 + (σ.2.1 0 (i : Int))) ((σ.2.2 0 3 (σ.2.1 0 (i : Int))) - 1)))))) rfl (by first | omega | (dsimp only [plus1]; omega) | (simp [plus1, sHt, sH, sS, sAt, sA, sup]; done) | (simp [plus1, sHt, sH, sS, sAt, sA, sup]; omega)) ?_
            rw [mW_h _ _ _ (by omega)]
            refine hR.run1 12 (S' := (89, [some (vR 100), some (vI p), some (vI c), some (vI (i : Int)), some (vI 1)], [vI (flat ((sHt σ 0 3 (σ.2.1 0 (i : Int)) ((σ.2.2 0 3 (σ.2.1 0 (i : Int))) - 1)).2.2 0) ((5 * p) + (σ.2.1 0 (i : Int)))), vI ((5 * p) + (σ.2.1 0 (i : Int))), vR 105], mW (sHt σ 0 3 (σ.2.1 0 (i : Int)) ((σ.2.2 0 3 (σ.2.1 0 (i : Int))) - 1)) ρ)) rfl (by first | omega | (dsimp only [plus1]; omega) | (simp [plus1, sHt, sH, sS, sAt, sA, sup]; done) | (simp [plus1, sHt, sH, sS, sAt, sA, sup]; omega)) ?_
            rw [show flat ((sHt σ 0 3 (σ.2.1 0 (i : Int)) ((σ.2.2 0 3 (σ.2.1 0 (i : Int))) - 1)).2.2 0) ((5 * p) + (σ.2.1 0 (i : Int))) = (sHt σ 0 3 (σ.2.1 0 (i : Int)) ((σ.2.2 0 3 (σ.2.1 0 (i : Int))) - 1)).2.2 0 p (σ.2.1 0 (i : Int)) from flat_at (p := p) _ (by omega)]
            refine hR.run1 3 (S' := (92, [some (vR 100), some (vI p), some (vI c), some (vI (i : Int)), some (vI 1)], [], pset (mW (sHt σ 0 3 (σ.2.1 0 (i : Int)) ((σ.2.2 0 3 (σ.2.1 0 (i : Int))) - 1)) ρ) 105 (.inl (20, .inl (pup (flat ((sHt σ 0 3 (σ.2.1 0 (i : Int)) ((σ.2.2 0 3 (σ.2.1 0 (i : Int))) - 1)).2.2 0)) (5 * p + (σ.2.1 0 (i : Int))) (((sHt σ 0 3 (σ.2.1 0 (i : Int)) ((σ.2.2 0 3 (σ.2.1 0 (i : Int))) - 1)).2.2 0 p (σ.2.1 0 (i : Int))) + 1)))))) rfl (by first | omega | (dsimp only [plus1]; omega) | (simp [plus1, sHt, sH, sS, sAt, sA, sup]; done) | (simp [plus1, sHt, sH, sS, sAt, sA, sup]; omega)) ?_
            rw [mW_h _ _ _ (by omega)]
            refine hR.run0 2 (S' := (2, [some (vR 100), some (vI p), some (vI c), some (vI ((i : Int) + 1)), some (vI 1)], [], mW (sHt (sHt σ 0 3 (σ.2.1 0 (i : Int)) ((σ.2.2 0 3 (σ.2.1 0 (i : Int))) - 1)) 0 p (σ.2.1 0 (i : Int)) (((sHt σ 0 3 (σ.2.1 0 (i : Int)) ((σ.2.2 0 3 (σ.2.1 0 (i : Int))) - 1)).2.2 0 p (σ.2.1 0 (i : Int))) + 1)) ρ)) rfl ?_
            refine hR.fg 4 ?_
            show G (2, [some (vR 100), some (vI p), some (vI c), some (vI ((i : Int) + 1)), none], [], mW (sHt (sHt σ 0 3 (σ.2.1 0 (i : Int)) ((σ.2.2 0 3 (σ.2.1 0 (i : Int))) - 1)) 0 p (σ.2.1 0 (i : Int)) (((sHt σ 0 3 (σ.2.1 0 (i : Int)) ((σ.2.2 0 3 (σ.2.1 0 (i : Int))) - 1)).2.2 0 p (σ.2.1 0 (i : Int))) + 1)) ρ)
            rw [show mW (gn1 p c (i : Int) σ) ρ = mW (sHt (sHt σ 0 3 (σ.2.1 0 (i : Int)) ((σ.2.2 0 3 (σ.2.1 0 (i : Int))) - 1)) 0 p (σ.2.1 0 (i : Int)) (((sHt σ 0 3 (σ.2.1 0 (i : Int)) ((σ.2.2 0 3 (σ.2.1 0 (i : Int))) - 1)).2.2 0 p (σ.2.1 0 (i : Int))) + 1)) ρ from by show mW (if gnC σ c (i : Int) = true then mvS σ 3 p (σ.2.1 0 (i : Int)) 1 else σ) ρ = _; first | (have hz : gnC σ c (i : Int) = false := (by unfold gnC; simp_all; done); rw [if_neg (by rw [hz]; decide)]; done) | (have hz : gnC σ c (i : Int) = false := (by unfold gnC; simp; intros; omega); rw [if_neg (by rw [hz]; decide)]; done) | (have hz : gnC σ c (i : Int) = true := (by unfold gnC; simp_all; done); rw [if_pos hz]; rfl)] at ihi
            exact ihi
    · show G (2, [some (vR 100), some (vI p), some (vI c), some (vI ((7 : Nat) : Int)), none], [], mW (gnN p c τ 7) ρ)
      show G (2, [some (vR 100), some (vI p), some (vI c), some (vI 7), none], [], mW (gnN p c τ 7) ρ)
      refine hR.run0 2 (S' := (5, [some (vR 100), some (vI p), some (vI c), some (vI 7), none], [vI 7, vI 7], mW (gnN p c τ 7) ρ)) rfl ?_
      refine hR.br (C := 7 ≤ 7) rfl (by first | omega | (dsimp only [plus1]; omega) | (simp [plus1, sHt, sH, sS, sAt, sA, sup]; done) | (simp [plus1, sHt, sH, sS, sAt, sA, sup]; omega)) (fun c8 => ?_) (fun c8 => ?_)
      · skip
        exact hR.rt rfl trivial (by rfl) (by rfl)
      · exfalso; omega
  exact hL 0 (Nat.zero_le _)
