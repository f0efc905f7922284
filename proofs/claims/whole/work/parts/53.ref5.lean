theorem sr_trailOf (τ ρ : St) {p : Int} (hp : 0 ≤ p ∧ p < 3) (h : Lh τ) : Sp mX6_trailOf roC 4 [vR 100, vI p] (mW τ ρ) (.inl (some (vI (trT τ p)))) (mW τ (owK (τ.2.1 3) p ρ 30)) := by
  have hb := h.1.1
  have hr := h.2.1
  have h8 := h.ow hp
  refine Sp.of (lk := lkX6) (tb := bX6_trailOf) (by decide) lkX6_ok tX6_trailOf (mW_keys _ _ _ _) (Nat.le_of_ble_eq_true rfl) (fun G hR => ?_)
  have htr := owK_tr (b := τ.2.1 2) (p := p) ρ h8
  unfold trT at hR
  rw [← htr] at hR
  have hwr := owK_r (r := τ.2.1 3) (p := p) ρ
  have hl0 := owL_le (τ.2.1 3) p (Nat.le_refl 30)
  have hT : G (38, [some (vR 100), some (vI p), some (vI ((owL (τ.2.1 3) p 30).length : Int)), none, none], [], mW τ (owK (τ.2.1 3) p ρ 30)) := by
    unfold bestR at hR
    generalize owK (τ.2.1 3) p ρ 30 = ρ1 at hR hwr ⊢
    generalize (owL (τ.2.1 3) p 30).length = m at hR hwr h8 ⊢
    obtain ⟨M, hM, hM2, hMe⟩ : ∃ M : Nat, iSl 1 (m : Int) = (M : Int) + 1 ∧ M ≤ 255 ∧ 2 ^ m - 1 = M := ⟨2 ^ m - 1, (sl_8 h8).1, (sl_8 h8).2, rfl⟩
    rw [hMe] at hR
    refine hR.run0 4 (S' := (43, [some (vR 100), some (vI p), some (vI (m : Int)), some (vI 0), some (vI 1)], [], mW τ ρ1)) rfl ?_
    have hL : ∀ i : Nat, i ≤ M → G (43, [some (vR 100), some (vI p), some (vI (m : Int)), some (vI (bestP (fun s => onN s 8) (gdR (τ.2.1 2) (ρ1.2.1 0) p m) i)), some (vI (((i : Nat) : Int) + 1))], [], mW τ ρ1) := by
      refine back (P := fun i : Nat => G (43, [some (vR 100), some (vI p), some (vI (m : Int)), some (vI (bestP (fun s => onN s 8) (gdR (τ.2.1 2) (ρ1.2.1 0) p m) i)), some (vI (((i : Nat) : Int) + 1))], [], mW τ ρ1)) ?_ ?_
      · intro i hii ihi
        replace ihi : G (43, [some (vR 100), some (vI p), some (vI (m : Int)), some (vI (bestP (fun s => onN s 8) (gdR (τ.2.1 2) (ρ1.2.1 0) p m) (i + 1))), some (vI (((i + 1 : Nat) : Int) + 1))], [], mW τ ρ1) := ihi
        show G (43, [some (vR 100), some (vI p), some (vI (m : Int)), some (vI (bestP (fun s => onN s 8) (gdR (τ.2.1 2) (ρ1.2.1 0) p m) i)), some (vI ((i + 1 : Nat) : Int))], [], mW τ ρ1)
        have q1 := best_rr (b := τ.2.1 2) (w := ρ1.2.1 0) (p := p) (m := m) i (by omega)
        refine hR.run0 4 (S' := (48, [some (vR 100), some (vI p), some (vI (m : Int)), some (vI (bestP (fun s => onN s 8) (gdR (τ.2.1 2) (ρ1.2.1 0) p m) i)), some (vI ((i + 1 : Nat) : Int))], [vI (iSl 1 (m : Int)), vI ((i + 1 : Nat) : Int)], mW τ ρ1)) rfl ?_
        refine hR.br (C := iSl 1 (m : Int) ≤ ((i + 1 : Nat) : Int)) rfl (by first | omega | (dsimp only [plus1]; omega)) (fun c1 => ?_) (fun c1 => ?_)
        · exfalso; omega
        refine hR.run0 1 (S' := (53, [some (vR 100), some (vI p), some (vI (m : Int)), some (vI (bestP (fun s => onN s 8) (gdR (τ.2.1 2) (ρ1.2.1 0) p m) i)), some (vI ((i + 1 : Nat) : Int))], [vI ((i + 1 : Nat) : Int)], mW τ ρ1)) rfl ?_
        have hon8 := onN_r (s := i + 1) (by omega)
        refine hR.cs [vI ((i + 1 : Nat) : Int)] kX6_94 rfl rfl (by first | decide | exact Nat.le_refl _) (by decide) (Nat.le_of_ble_eq_true rfl) rfl (sr_ones _ (s := i + 1) (by omega)) ?_
        show G (56, [some (vR 100), some (vI p), some (vI (m : Int)), some (vI (bestP (fun s => onN s 8) (gdR (τ.2.1 2) (ρ1.2.1 0) p m) i)), some (vI ((i + 1 : Nat) : Int))], [vI (onN ((i + 1 : Nat) : Int) 8)], mW τ ρ1)
        refine hR.run0 1 (S' := (57, [some (vR 100), some (vI p), some (vI (m : Int)), some (vI (bestP (fun s => onN s 8) (gdR (τ.2.1 2) (ρ1.2.1 0) p m) i)), some (vI ((i + 1 : Nat) : Int))], [vI (bestP (fun s => onN s 8) (gdR (τ.2.1 2) (ρ1.2.1 0) p m) i), vI (onN ((i + 1 : Nat) : Int) 8)], mW τ ρ1)) rfl ?_
        refine hR.br (C := onN ((i + 1 : Nat) : Int) 8 ≤ (bestP (fun s => onN s 8) (gdR (τ.2.1 2) (ρ1.2.1 0) p m) i)) rfl (by first | omega | (dsimp only [plus1]; omega)) (fun c2 => ?_) (fun c2 => ?_)
        · skip
          refine hR.run0 2 (S' := (43, [some (vR 100), some (vI p), some (vI (m : Int)), some (vI (bestP (fun s => onN s 8) (gdR (τ.2.1 2) (ρ1.2.1 0) p m) i)), some (vI (((i + 1 : Nat) : Int) + 1))], [], mW τ ρ1)) rfl ?_
          rw [show bestP (fun s => onN s 8) (gdR (τ.2.1 2) (ρ1.2.1 0) p m) (i + 1) = (bestP (fun s => onN s 8) (gdR (τ.2.1 2) (ρ1.2.1 0) p m) i) from by rw [bestP_succ]; show (if bestP (fun s => onN s 8) (gdR (τ.2.1 2) (ρ1.2.1 0) p m) i < onN ((i + 1 : Nat) : Int) 8 ∧ gdR (τ.2.1 2) (ρ1.2.1 0) p m ((i + 1 : Nat) : Int) = true then onN ((i + 1 : Nat) : Int) 8 else bestP (fun s => onN s 8) (gdR (τ.2.1 2) (ρ1.2.1 0) p m) i) = _; first | exact if_neg (fun h => absurd h.1 (by omega)) | exact if_neg (fun h => by have h2 := h.2; unfold gdR at h2; rw [Bool.and_eq_true, decide_eq_true_eq, decide_eq_true_eq] at h2; omega) | exact if_pos ⟨by omega, by unfold gdR; rw [Bool.and_eq_true, decide_eq_true_eq, decide_eq_true_eq]; omega⟩] at ihi
          exact ihi
        · skip
          refine hR.run0 4 (S' := (65, [some (vR 100), some (vI p), some (vI (m : Int)), some (vI (bestP (fun s => onN s 8) (gdR (τ.2.1 2) (ρ1.2.1 0) p m) i)), some (vI ((i + 1 : Nat) : Int))], [vI (m : Int), vI ((i + 1 : Nat) : Int), vI p, vR 100], mW τ ρ1)) rfl ?_
          have hen8 := enN_r (τ.2.1 2) (ρ1.2.1 0) p ((i + 1 : Nat) : Int) h8 24
          refine hR.cv [vI p, vI ((i + 1 : Nat) : Int), vI (m : Int)] kX6_97 rfl rfl ⟨_, _, _, rfl, rfl, rfl⟩ (by first | decide | exact Nat.le_refl _) (by decide) (Nat.le_of_ble_eq_true rfl) rfl (sr_ends _ _ hp (by omega) h8 hb hwr) ?_
          show G (68, [some (vR 100), some (vI p), some (vI (m : Int)), some (vI (bestP (fun s => onN s 8) (gdR (τ.2.1 2) (ρ1.2.1 0) p m) i)), some (vI ((i + 1 : Nat) : Int))], [vI (enN (τ.2.1 2) (ρ1.2.1 0) p ((i + 1 : Nat) : Int) m 24)], mW τ ρ1)
          refine hR.run0 1 (S' := (69, [some (vR 100), some (vI p), some (vI (m : Int)), some (vI (bestP (fun s => onN s 8) (gdR (τ.2.1 2) (ρ1.2.1 0) p m) i)), some (vI ((i + 1 : Nat) : Int))], [vI 2, vI (enN (τ.2.1 2) (ρ1.2.1 0) p ((i + 1 : Nat) : Int) m 24)], mW τ ρ1)) rfl ?_
          refine hR.br (C := 2 < enN (τ.2.1 2) (ρ1.2.1 0) p ((i + 1 : Nat) : Int) m 24) rfl (by first | omega | (dsimp only [plus1]; omega)) (fun c3 => ?_) (fun c3 => ?_)
          · skip
            refine hR.run0 2 (S' := (43, [some (vR 100), some (vI p), some (vI (m : Int)), some (vI (bestP (fun s => onN s 8) (gdR (τ.2.1 2) (ρ1.2.1 0) p m) i)), some (vI (((i + 1 : Nat) : Int) + 1))], [], mW τ ρ1)) rfl ?_
            rw [show bestP (fun s => onN s 8) (gdR (τ.2.1 2) (ρ1.2.1 0) p m) (i + 1) = (bestP (fun s => onN s 8) (gdR (τ.2.1 2) (ρ1.2.1 0) p m) i) from by rw [bestP_succ]; show (if bestP (fun s => onN s 8) (gdR (τ.2.1 2) (ρ1.2.1 0) p m) i < onN ((i + 1 : Nat) : Int) 8 ∧ gdR (τ.2.1 2) (ρ1.2.1 0) p m ((i + 1 : Nat) : Int) = true then onN ((i + 1 : Nat) : Int) 8 else bestP (fun s => onN s 8) (gdR (τ.2.1 2) (ρ1.2.1 0) p m) i) = _; first | exact if_neg (fun h => absurd h.1 (by omega)) | exact if_neg (fun h => by have h2 := h.2; unfold gdR at h2; rw [Bool.and_eq_true, decide_eq_true_eq, decide_eq_true_eq] at h2; omega) | exact if_pos ⟨by omega, by unfold gdR; rw [Bool.and_eq_true, decide_eq_true_eq, decide_eq_true_eq]; omega⟩] at ihi
            exact ihi
          · skip
            refine hR.run0 4 (S' := (77, [some (vR 100), some (vI p), some (vI (m : Int)), some (vI (bestP (fun s => onN s 8) (gdR (τ.2.1 2) (ρ1.2.1 0) p m) i)), some (vI ((i + 1 : Nat) : Int))], [vI (m : Int), vI ((i + 1 : Nat) : Int), vI p, vR 100], mW τ ρ1)) rfl ?_
            obtain ⟨jj, hjj, hjj2⟩ := sprF_r (b := τ.2.1 2) (w := ρ1.2.1 0) (p := p) (s := i + 1) (m := m) h8 (by omega) (by omega)
            replace hjj : sprF (τ.2.1 2) (ρ1.2.1 0) p ((i + 1 : Nat) : Int) m = (jj : Int) := hjj
            refine hR.cv [vI p, vI ((i + 1 : Nat) : Int), vI (m : Int)] kX6_101 rfl rfl ⟨_, _, _, rfl, rfl, rfl⟩ (by first | decide | exact Nat.le_refl _) (by decide) (Nat.le_of_ble_eq_true rfl) rfl (sr_spread _ _ (s := i + 1) hp (by omega) (by omega) h8 hb hwr) ?_
            show G (80, [some (vR 100), some (vI p), some (vI (m : Int)), some (vI (bestP (fun s => onN s 8) (gdR (τ.2.1 2) (ρ1.2.1 0) p m) i)), some (vI ((i + 1 : Nat) : Int))], [vI (sprF (τ.2.1 2) (ρ1.2.1 0) p ((i + 1 : Nat) : Int) m)], mW τ ρ1)
            refine hR.run0 1 (S' := (82, [some (vR 100), some (vI p), some (vI (m : Int)), some (vI (bestP (fun s => onN s 8) (gdR (τ.2.1 2) (ρ1.2.1 0) p m) i)), some (vI ((i + 1 : Nat) : Int))], [vI ((i + 1 : Nat) : Int), vI (sprF (τ.2.1 2) (ρ1.2.1 0) p ((i + 1 : Nat) : Int) m)], mW τ ρ1)) rfl ?_
            refine hR.br (C := sprF (τ.2.1 2) (ρ1.2.1 0) p ((i + 1 : Nat) : Int) m ≠ ((i + 1 : Nat) : Int)) rfl (by first | omega | (dsimp only [plus1]; omega)) (fun c4 => ?_) (fun c4 => ?_)
            · skip
              refine hR.run0 2 (S' := (43, [some (vR 100), some (vI p), some (vI (m : Int)), some (vI (bestP (fun s => onN s 8) (gdR (τ.2.1 2) (ρ1.2.1 0) p m) i)), some (vI (((i + 1 : Nat) : Int) + 1))], [], mW τ ρ1)) rfl ?_
              rw [show bestP (fun s => onN s 8) (gdR (τ.2.1 2) (ρ1.2.1 0) p m) (i + 1) = (bestP (fun s => onN s 8) (gdR (τ.2.1 2) (ρ1.2.1 0) p m) i) from by rw [bestP_succ]; show (if bestP (fun s => onN s 8) (gdR (τ.2.1 2) (ρ1.2.1 0) p m) i < onN ((i + 1 : Nat) : Int) 8 ∧ gdR (τ.2.1 2) (ρ1.2.1 0) p m ((i + 1 : Nat) : Int) = true then onN ((i + 1 : Nat) : Int) 8 else bestP (fun s => onN s 8) (gdR (τ.2.1 2) (ρ1.2.1 0) p m) i) = _; first | exact if_neg (fun h => absurd h.1 (by omega)) | exact if_neg (fun h => by have h2 := h.2; unfold gdR at h2; rw [Bool.and_eq_true, decide_eq_true_eq, decide_eq_true_eq] at h2; omega) | exact if_pos ⟨by omega, by unfold gdR; rw [Bool.and_eq_true, decide_eq_true_eq, decide_eq_true_eq]; omega⟩] at ihi
              exact ihi
            · skip
              refine hR.run0 1 (S' := (87, [some (vR 100), some (vI p), some (vI (m : Int)), some (vI (bestP (fun s => onN s 8) (gdR (τ.2.1 2) (ρ1.2.1 0) p m) i)), some (vI ((i + 1 : Nat) : Int))], [vI ((i + 1 : Nat) : Int)], mW τ ρ1)) rfl ?_
              have hon8 := onN_r (s := i + 1) (by omega)
              refine hR.cs [vI ((i + 1 : Nat) : Int)] kX6_94 rfl rfl (by first | decide | exact Nat.le_refl _) (by decide) (Nat.le_of_ble_eq_true rfl) rfl (sr_ones _ (s := i + 1) (by omega)) ?_
              show G (90, [some (vR 100), some (vI p), some (vI (m : Int)), some (vI (bestP (fun s => onN s 8) (gdR (τ.2.1 2) (ρ1.2.1 0) p m) i)), some (vI ((i + 1 : Nat) : Int))], [vI (onN ((i + 1 : Nat) : Int) 8)], mW τ ρ1)
              refine hR.run0 3 (S' := (43, [some (vR 100), some (vI p), some (vI (m : Int)), some (vI (onN ((i + 1 : Nat) : Int) 8)), some (vI (((i + 1 : Nat) : Int) + 1))], [], mW τ ρ1)) rfl ?_
              rw [show bestP (fun s => onN s 8) (gdR (τ.2.1 2) (ρ1.2.1 0) p m) (i + 1) = (onN ((i + 1 : Nat) : Int) 8) from by rw [bestP_succ]; show (if bestP (fun s => onN s 8) (gdR (τ.2.1 2) (ρ1.2.1 0) p m) i < onN ((i + 1 : Nat) : Int) 8 ∧ gdR (τ.2.1 2) (ρ1.2.1 0) p m ((i + 1 : Nat) : Int) = true then onN ((i + 1 : Nat) : Int) 8 else bestP (fun s => onN s 8) (gdR (τ.2.1 2) (ρ1.2.1 0) p m) i) = _; first | exact if_neg (fun h => absurd h.1 (by omega)) | exact if_neg (fun h => by have h2 := h.2; unfold gdR at h2; rw [Bool.and_eq_true, decide_eq_true_eq, decide_eq_true_eq] at h2; omega) | exact if_pos ⟨by omega, by unfold gdR; rw [Bool.and_eq_true, decide_eq_true_eq, decide_eq_true_eq]; omega⟩] at ihi
              exact ihi
      · show G (43, [some (vR 100), some (vI p), some (vI (m : Int)), some (vI (bestP (fun s => onN s 8) (gdR (τ.2.1 2) (ρ1.2.1 0) p m) M)), some (vI (((M : Nat) : Int) + 1))], [], mW τ ρ1)
        show G (43, [some (vR 100), some (vI p), some (vI (m : Int)), some (vI (bestP (fun s => onN s 8) (gdR (τ.2.1 2) (ρ1.2.1 0) p m) M)), some (vI (((M : Nat) : Int) + 1))], [], mW τ ρ1)
        refine hR.run0 4 (S' := (48, [some (vR 100), some (vI p), some (vI (m : Int)), some (vI (bestP (fun s => onN s 8) (gdR (τ.2.1 2) (ρ1.2.1 0) p m) M)), some (vI (((M : Nat) : Int) + 1))], [vI (iSl 1 (m : Int)), vI (((M : Nat) : Int) + 1)], mW τ ρ1)) rfl ?_
        refine hR.br (C := iSl 1 (m : Int) ≤ ((M : Nat) : Int) + 1) rfl (by first | omega | (dsimp only [plus1]; omega)) (fun c5 => ?_) (fun c5 => ?_)
        · skip
          refine hR.run0 1 (S' := (98, [some (vR 100), some (vI p), some (vI (m : Int)), some (vI (bestP (fun s => onN s 8) (gdR (τ.2.1 2) (ρ1.2.1 0) p m) M)), some (vI (((M : Nat) : Int) + 1))], [vI (bestP (fun s => onN s 8) (gdR (τ.2.1 2) (ρ1.2.1 0) p m) M)], mW τ ρ1)) rfl ?_
          exact hR.rt rfl trivial rfl rfl
        · exfalso; omega
    exact hL 0 (Nat.zero_le _)
  refine hR.run0 4 (S' := (4, [some (vR 100), some (vI p), some (vI 0), some (vI 0), none], [], mW τ ρ)) rfl ?_
  have hL1 : ∀ i : Nat, i ≤ 30 → G (4, [some (vR 100), some (vI p), some (vI ((owL (τ.2.1 3) p i).length : Int)), some (vI ((i : Nat) : Int)), none], [], mW τ (owK (τ.2.1 3) p ρ i)) := by
    refine back (P := fun i : Nat => G (4, [some (vR 100), some (vI p), some (vI ((owL (τ.2.1 3) p i).length : Int)), some (vI ((i : Nat) : Int)), none], [], mW τ (owK (τ.2.1 3) p ρ i))) ?_ ?_
    · intro i hii ihi
      replace ihi : G (4, [some (vR 100), some (vI p), some (vI ((owL (τ.2.1 3) p (i + 1)).length : Int)), some (vI ((i + 1 : Nat) : Int)), none], [], mW τ (owK (τ.2.1 3) p ρ (i + 1))) := ihi
      show G (4, [some (vR 100), some (vI p), some (vI ((owL (τ.2.1 3) p i).length : Int)), some (vI (i : Int)), none], [], mW τ (owK (τ.2.1 3) p ρ i))
      have q1 := hr (i : Int)
      have q2 := owL_le (τ.2.1 3) p (n := i) (by omega)
      have q3 : τ.2.1 3 (i : Int) = p → (owL (τ.2.1 3) p i).length + 1 ≤ (owL (τ.2.1 3) p 30).length := fun z => owL_lt (by omega) z
      refine hR.run0 2 (S' := (7, [some (vR 100), some (vI p), some (vI ((owL (τ.2.1 3) p i).length : Int)), some (vI (i : Int)), none], [vI 30, vI (i : Int)], mW τ (owK (τ.2.1 3) p ρ i))) rfl ?_
      refine hR.br (C := 30 ≤ (i : Int)) rfl (by first | omega | (dsimp only [plus1]; omega)) (fun c6 => ?_) (fun c6 => ?_)
      · exfalso; omega
      have f1 := hr (i : Int)
      refine hR.run1 7 (S' := (19, [some (vR 100), some (vI p), some (vI ((owL (τ.2.1 3) p i).length : Int)), some (vI (i : Int)), none], [vI (p + 1), vI (τ.2.1 3 (i : Int) + 1)], mW τ (owK (τ.2.1 3) p ρ i))) rfl (by first | omega | (dsimp only [plus1]; omega)) ?_
      refine hR.br (C := τ.2.1 3 (i : Int) + 1 ≠ p + 1) rfl (by first | omega | (dsimp only [plus1]; omega)) (fun c7 => ?_) (fun c7 => ?_)
      · have ec7 : ¬ τ.2.1 3 (i : Int) = p := by omega
        refine hR.run0 2 (S' := (4, [some (vR 100), some (vI p), some (vI ((owL (τ.2.1 3) p i).length : Int)), some (vI ((i : Int) + 1)), none], [], mW τ (owK (τ.2.1 3) p ρ i))) rfl ?_
        rw [show ((owL (τ.2.1 3) p (i + 1)).length : Int) = ((owL (τ.2.1 3) p i).length : Int) from by first | (rw [owL_succ, if_pos (by omega), List.length_append]; rfl) | (rw [owL_succ, if_neg (by omega), List.append_nil])] at ihi
        rw [show mW τ (owK (τ.2.1 3) p ρ (i + 1)) = mW τ (owK (τ.2.1 3) p ρ i) from by show mW τ (if τ.2.1 3 (i : Int) = p then sAt (owK (τ.2.1 3) p ρ i) 0 (((owL (τ.2.1 3) p i).length : Int)) (i : Int) else owK (τ.2.1 3) p ρ i) = _; first | (rw [if_pos (by omega)]; done) | (rw [if_neg (by omega)]; done)] at ihi
        exact ihi
      · have ec7 : τ.2.1 3 (i : Int) = p := by omega
        have e9 := q3 ec7
        refine hR.run1 5 (S' := (29, [some (vR 100), some (vI p), some (vI ((owL (τ.2.1 3) p i).length : Int)), some (vI (i : Int)), none], [], pset (mW τ (owK (τ.2.1 3) p ρ i)) 112 (.inl (8, .inl (pup ((owK (τ.2.1 3) p ρ i).2.1 0) ((owL (τ.2.1 3) p i).length : Int) (i : Int)))))) rfl (by first | omega | (dsimp only [plus1]; omega)) ?_
        rw [mW_y0]
        refine hR.run0 3 (S' := (4, [some (vR 100), some (vI p), some (vI (((owL (τ.2.1 3) p i).length : Int) + 1)), some (vI ((i : Int) + 1)), none], [], mW τ (sAt (owK (τ.2.1 3) p ρ i) 0 ((owL (τ.2.1 3) p i).length : Int) (i : Int)))) rfl ?_
        rw [show ((owL (τ.2.1 3) p (i + 1)).length : Int) = (((owL (τ.2.1 3) p i).length : Int) + 1) from by first | (rw [owL_succ, if_pos (by omega), List.length_append]; rfl) | (rw [owL_succ, if_neg (by omega), List.append_nil])] at ihi
        rw [show mW τ (owK (τ.2.1 3) p ρ (i + 1)) = mW τ (sAt (owK (τ.2.1 3) p ρ i) 0 ((owL (τ.2.1 3) p i).length : Int) (i : Int)) from by show mW τ (if τ.2.1 3 (i : Int) = p then sAt (owK (τ.2.1 3) p ρ i) 0 (((owL (τ.2.1 3) p i).length : Int)) (i : Int) else owK (τ.2.1 3) p ρ i) = _; first | (rw [if_pos (by omega)]; done) | (rw [if_neg (by omega)]; done)] at ihi
        exact ihi
    · show G (4, [some (vR 100), some (vI p), some (vI ((owL (τ.2.1 3) p 30).length : Int)), some (vI ((30 : Nat) : Int)), none], [], mW τ (owK (τ.2.1 3) p ρ 30))
      show G (4, [some (vR 100), some (vI p), some (vI ((owL (τ.2.1 3) p 30).length : Int)), some (vI 30), none], [], mW τ (owK (τ.2.1 3) p ρ 30))
      refine hR.run0 2 (S' := (7, [some (vR 100), some (vI p), some (vI ((owL (τ.2.1 3) p 30).length : Int)), some (vI 30), none], [vI 30, vI 30], mW τ (owK (τ.2.1 3) p ρ 30))) rfl ?_
      refine hR.br (C := 30 ≤ 30) rfl (by first | omega | (dsimp only [plus1]; omega)) (fun c8 => ?_) (fun c8 => ?_)
      · skip
        refine hR.fg 3 ?_
        exact hT
      · exfalso; omega
  exact hL1 0 (Nat.zero_le _)
