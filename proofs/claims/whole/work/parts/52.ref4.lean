theorem sr_spread (τ ρ : St) {p : Int} {s m : Nat} (hp : 0 ≤ p ∧ p < 3) (hs : s < 256) (hs0 : s ≠ 0) (hm : m ≤ 8) (hb : ∀ c, -1 ≤ τ.2.1 2 c ∧ τ.2.1 2 c ≤ 5) (hw : ∀ a : Int, 0 ≤ a → a < (m : Int) → 0 ≤ ρ.2.1 0 a ∧ ρ.2.1 0 a < 30) : Sp mX6_spread roC 3 [vR 100, vI p, vI (s : Int), vI (m : Int)] (mW τ ρ) (.inl (some (vI (sprF (τ.2.1 2) (ρ.2.1 0) p (s : Int) m)))) (mW τ ρ) := by
  refine Sp.of (lk := lkX6) (tb := bX6_spread) (by decide) lkX6_ok tX6_spread (mW_keys _ _ _ _) (Nat.le_of_ble_eq_true rfl) (fun G hR => ?_)
  obtain ⟨lo, hlo, hlo2⟩ := low_fin ⟨s, hs⟩ hs0
  simp only at hlo hlo2
  have hl8 := (mb_sl lo.isLt).2
  obtain ⟨hmm, hm64⟩ := mm_r hm
  generalize hM : m * m = M at hmm hm64
  generalize hX : sprF (τ.2.1 2) (ρ.2.1 0) p (s : Int) m = X at hR
  unfold sprF at hX
  rw [hlo] at hX
  generalize hL0 : 2 ^ lo.val = L0 at hlo hl8 hX
  have hL00 : L0 ≠ 0 := by rw [← hL0]; exact Nat.ne_of_gt (Nat.two_pow_pos _)
  have hPass : ∀ (R : Nat), R < 256 → G (9, [some (vR 100), some (vI p), some (vI (s : Int)), some (vI (m : Int)), some (vI (spP (τ.2.1 2) (ρ.2.1 0) p (s : Int) m (R : Int))), some (vI (R : Int)), none, none, none, none], [], mW τ ρ) → G (20, [some (vR 100), some (vI p), some (vI (s : Int)), some (vI (m : Int)), some (vI (R : Int)), some (vI (R : Int)), none, none, none, none], [], mW τ ρ) := by
    intro R hRR hK
    refine hR.run0 2 (S' := (23, [some (vR 100), some (vI p), some (vI (s : Int)), some (vI (m : Int)), some (vI (R : Int)), some (vI (R : Int)), some (vI 0), none, none, none], [], mW τ ρ)) rfl ?_
    have hL2 : ∀ k : Nat, k ≤ M → G (23, [some (vR 100), some (vI p), some (vI (s : Int)), some (vI (m : Int)), some (vI (spN (τ.2.1 2) (ρ.2.1 0) p (s : Int) (m : Int) (R : Int) k)), some (vI (R : Int)), some (vI ((k : Nat) : Int)), none, none, none], [], mW τ ρ) := by
      refine back (P := fun k : Nat => G (23, [some (vR 100), some (vI p), some (vI (s : Int)), some (vI (m : Int)), some (vI (spN (τ.2.1 2) (ρ.2.1 0) p (s : Int) (m : Int) (R : Int) k)), some (vI (R : Int)), some (vI ((k : Nat) : Int)), none, none, none], [], mW τ ρ)) ?_ ?_
      · intro k hik ihk
        replace ihk : G (23, [some (vR 100), some (vI p), some (vI (s : Int)), some (vI (m : Int)), some (vI (spN (τ.2.1 2) (ρ.2.1 0) p (s : Int) (m : Int) (R : Int) (k + 1))), some (vI (R : Int)), some (vI ((k + 1 : Nat) : Int)), none, none, none], [], mW τ ρ) := ihk
        show G (23, [some (vR 100), some (vI p), some (vI (s : Int)), some (vI (m : Int)), some (vI (spN (τ.2.1 2) (ρ.2.1 0) p (s : Int) (m : Int) (R : Int) k)), some (vI (R : Int)), some (vI (k : Int)), none, none, none], [], mW τ ρ)
        obtain ⟨hq1, hq2, hm0⟩ := dv_r (k := k) (m := m) (by omega)
        obtain ⟨iv, hiv, hiv2, _⟩ := spN_is (b := τ.2.1 2) (w := ρ.2.1 0) (p := p) hs hm hRR k (by omega)
        have q4 := iA_r (iSr (spN (τ.2.1 2) (ρ.2.1 0) p (s : Int) (m : Int) (R : Int) k) ((k : Int) / (m : Int))) 1
        have q5 := iA_r (iSr (s : Int) ((k : Int) % (m : Int))) 1
        have q6 := hw ((k : Int) / (m : Int)) hq1.1 hq1.2
        have q7 := hw ((k : Int) % (m : Int)) hq2.1 hq2.2
        refine hR.run0 4 (S' := (28, [some (vR 100), some (vI p), some (vI (s : Int)), some (vI (m : Int)), some (vI (spN (τ.2.1 2) (ρ.2.1 0) p (s : Int) (m : Int) (R : Int) k)), some (vI (R : Int)), some (vI (k : Int)), none, none, none], [vI ((m : Int) * (m : Int)), vI (k : Int)], mW τ ρ)) rfl ?_
        refine hR.br (C := (m : Int) * (m : Int) ≤ (k : Int)) rfl (by first | omega | (dsimp only [plus1]; omega)) (fun c1 => ?_) (fun c1 => ?_)
        · exfalso; omega
        refine hR.run1 14 (S' := (51, [some (vR 100), some (vI p), some (vI (s : Int)), some (vI (m : Int)), some (vI (spN (τ.2.1 2) (ρ.2.1 0) p (s : Int) (m : Int) (R : Int) k)), some (vI (R : Int)), some (vI (k : Int)), some (vI ((k : Int) / (m : Int))), some (vI ((k : Int) % (m : Int))), none], [vI 1, vI (iA (iSr (spN (τ.2.1 2) (ρ.2.1 0) p (s : Int) (m : Int) (R : Int) k) ((k : Int) / (m : Int))) 1)], mW τ ρ)) rfl (by first | omega | (dsimp only [plus1]; omega)) ?_
        refine hR.br (C := iA (iSr (spN (τ.2.1 2) (ρ.2.1 0) p (s : Int) (m : Int) (R : Int) k) ((k : Int) / (m : Int))) 1 ≠ 1) rfl (by first | omega | (dsimp only [plus1]; omega)) (fun c2 => ?_) (fun c2 => ?_)
        · skip
          refine hR.run0 4 (S' := (97, [some (vR 100), some (vI p), some (vI (s : Int)), some (vI (m : Int)), some (vI (spN (τ.2.1 2) (ρ.2.1 0) p (s : Int) (m : Int) (R : Int) k)), some (vI (R : Int)), some (vI (k : Int)), some (vI ((k : Int) / (m : Int))), some (vI ((k : Int) % (m : Int))), some (vI 0)], [vI 0, vI (spN (τ.2.1 2) (ρ.2.1 0) p (s : Int) (m : Int) (R : Int) k)], mW τ ρ)) rfl ?_
          refine hR.br (C := 0 = 0) rfl (by first | omega | (dsimp only [plus1]; omega)) (fun c3 => ?_) (fun c3 => ?_)
          · skip
            refine hR.run0 5 (S' := (23, [some (vR 100), some (vI p), some (vI (s : Int)), some (vI (m : Int)), some (vI (iO (spN (τ.2.1 2) (ρ.2.1 0) p (s : Int) (m : Int) (R : Int) k) 0)), some (vI (R : Int)), some (vI ((k : Int) + 1)), some (vI ((k : Int) / (m : Int))), some (vI ((k : Int) % (m : Int))), some (vI 0)], [], mW τ ρ)) rfl ?_
            rw [show spN (τ.2.1 2) (ρ.2.1 0) p (s : Int) (m : Int) (R : Int) (k + 1) = (iO (spN (τ.2.1 2) (ρ.2.1 0) p (s : Int) (m : Int) (R : Int) k) 0) from by show sp1 (τ.2.1 2) (ρ.2.1 0) p (s : Int) (m : Int) (k : Int) (spN (τ.2.1 2) (ρ.2.1 0) p (s : Int) (m : Int) (R : Int) k) = _; unfold sp1; first | (rw [if_pos ⟨by omega, by omega, by assumption⟩]; done) | (rw [if_neg (fun h => absurd h.1 (by omega))]; done) | (rw [if_neg (fun h => absurd h.2.1 (by omega))]; done) | (rw [if_neg (fun h => absurd (h.2.2.symm.trans (by assumption : _ = false)) (by decide))]; done)] at ihk
            refine hR.fg 7 ?_
            show G (23, [some (vR 100), some (vI p), some (vI (s : Int)), some (vI (m : Int)), some (vI (iO (spN (τ.2.1 2) (ρ.2.1 0) p (s : Int) (m : Int) (R : Int) k) 0)), some (vI (R : Int)), some (vI ((k : Int) + 1)), none, some (vI ((k : Int) % (m : Int))), some (vI 0)], [], mW τ ρ)
            refine hR.fg 8 ?_
            show G (23, [some (vR 100), some (vI p), some (vI (s : Int)), some (vI (m : Int)), some (vI (iO (spN (τ.2.1 2) (ρ.2.1 0) p (s : Int) (m : Int) (R : Int) k) 0)), some (vI (R : Int)), some (vI ((k : Int) + 1)), none, none, some (vI 0)], [], mW τ ρ)
            refine hR.fg 9 ?_
            show G (23, [some (vR 100), some (vI p), some (vI (s : Int)), some (vI (m : Int)), some (vI (iO (spN (τ.2.1 2) (ρ.2.1 0) p (s : Int) (m : Int) (R : Int) k) 0)), some (vI (R : Int)), some (vI ((k : Int) + 1)), none, none, none], [], mW τ ρ)
            exact ihk
          · exfalso; omega
        · skip
          refine hR.run0 6 (S' := (61, [some (vR 100), some (vI p), some (vI (s : Int)), some (vI (m : Int)), some (vI (spN (τ.2.1 2) (ρ.2.1 0) p (s : Int) (m : Int) (R : Int) k)), some (vI (R : Int)), some (vI (k : Int)), some (vI ((k : Int) / (m : Int))), some (vI ((k : Int) % (m : Int))), none], [vI 1, vI (iA (iSr (s : Int) ((k : Int) % (m : Int))) 1)], mW τ ρ)) rfl ?_
          refine hR.br (C := iA (iSr (s : Int) ((k : Int) % (m : Int))) 1 ≠ 1) rfl (by first | omega | (dsimp only [plus1]; omega)) (fun c4 => ?_) (fun c4 => ?_)
          · skip
            refine hR.run0 4 (S' := (97, [some (vR 100), some (vI p), some (vI (s : Int)), some (vI (m : Int)), some (vI (spN (τ.2.1 2) (ρ.2.1 0) p (s : Int) (m : Int) (R : Int) k)), some (vI (R : Int)), some (vI (k : Int)), some (vI ((k : Int) / (m : Int))), some (vI ((k : Int) % (m : Int))), some (vI 0)], [vI 0, vI (spN (τ.2.1 2) (ρ.2.1 0) p (s : Int) (m : Int) (R : Int) k)], mW τ ρ)) rfl ?_
            refine hR.br (C := 0 = 0) rfl (by first | omega | (dsimp only [plus1]; omega)) (fun c5 => ?_) (fun c5 => ?_)
            · skip
              refine hR.run0 5 (S' := (23, [some (vR 100), some (vI p), some (vI (s : Int)), some (vI (m : Int)), some (vI (iO (spN (τ.2.1 2) (ρ.2.1 0) p (s : Int) (m : Int) (R : Int) k) 0)), some (vI (R : Int)), some (vI ((k : Int) + 1)), some (vI ((k : Int) / (m : Int))), some (vI ((k : Int) % (m : Int))), some (vI 0)], [], mW τ ρ)) rfl ?_
              rw [show spN (τ.2.1 2) (ρ.2.1 0) p (s : Int) (m : Int) (R : Int) (k + 1) = (iO (spN (τ.2.1 2) (ρ.2.1 0) p (s : Int) (m : Int) (R : Int) k) 0) from by show sp1 (τ.2.1 2) (ρ.2.1 0) p (s : Int) (m : Int) (k : Int) (spN (τ.2.1 2) (ρ.2.1 0) p (s : Int) (m : Int) (R : Int) k) = _; unfold sp1; first | (rw [if_pos ⟨by omega, by omega, by assumption⟩]; done) | (rw [if_neg (fun h => absurd h.1 (by omega))]; done) | (rw [if_neg (fun h => absurd h.2.1 (by omega))]; done) | (rw [if_neg (fun h => absurd (h.2.2.symm.trans (by assumption : _ = false)) (by decide))]; done)] at ihk
              refine hR.fg 7 ?_
              show G (23, [some (vR 100), some (vI p), some (vI (s : Int)), some (vI (m : Int)), some (vI (iO (spN (τ.2.1 2) (ρ.2.1 0) p (s : Int) (m : Int) (R : Int) k) 0)), some (vI (R : Int)), some (vI ((k : Int) + 1)), none, some (vI ((k : Int) % (m : Int))), some (vI 0)], [], mW τ ρ)
              refine hR.fg 8 ?_
              show G (23, [some (vR 100), some (vI p), some (vI (s : Int)), some (vI (m : Int)), some (vI (iO (spN (τ.2.1 2) (ρ.2.1 0) p (s : Int) (m : Int) (R : Int) k) 0)), some (vI (R : Int)), some (vI ((k : Int) + 1)), none, none, some (vI 0)], [], mW τ ρ)
              refine hR.fg 9 ?_
              show G (23, [some (vR 100), some (vI p), some (vI (s : Int)), some (vI (m : Int)), some (vI (iO (spN (τ.2.1 2) (ρ.2.1 0) p (s : Int) (m : Int) (R : Int) k) 0)), some (vI (R : Int)), some (vI ((k : Int) + 1)), none, none, none], [], mW τ ρ)
              exact ihk
            · exfalso; omega
          · skip
            refine hR.run1 10 (S' := (80, [some (vR 100), some (vI p), some (vI (s : Int)), some (vI (m : Int)), some (vI (spN (τ.2.1 2) (ρ.2.1 0) p (s : Int) (m : Int) (R : Int) k)), some (vI (R : Int)), some (vI (k : Int)), some (vI ((k : Int) / (m : Int))), some (vI ((k : Int) % (m : Int))), none], [vI (ρ.2.1 0 ((k : Int) % (m : Int))), vI (ρ.2.1 0 ((k : Int) / (m : Int))), vI p, vR 100], mW τ ρ)) rfl (by first | omega | (dsimp only [plus1]; omega)) ?_
            refine hR.cv [vI p, vI (ρ.2.1 0 ((k : Int) / (m : Int))), vI (ρ.2.1 0 ((k : Int) % (m : Int)))] kX6_91 rfl rfl ⟨_, _, _, rfl, rfl, rfl⟩ (by first | decide | exact Nat.le_refl _) (by decide) (Nat.le_of_ble_eq_true rfl) rfl (sr_meet _ _ (by omega) (by omega) (by omega) hb) ?_
            show G (83, [some (vR 100), some (vI p), some (vI (s : Int)), some (vI (m : Int)), some (vI (spN (τ.2.1 2) (ρ.2.1 0) p (s : Int) (m : Int) (R : Int) k)), some (vI (R : Int)), some (vI (k : Int)), some (vI ((k : Int) / (m : Int))), some (vI ((k : Int) % (m : Int))), none], [vI (bI (meF (τ.2.1 2) p (ρ.2.1 0 ((k : Int) / (m : Int))) (ρ.2.1 0 ((k : Int) % (m : Int)))))], mW τ ρ)
            refine hR.br (C := bI (meF (τ.2.1 2) p (ρ.2.1 0 ((k : Int) / (m : Int))) (ρ.2.1 0 ((k : Int) % (m : Int)))) = 0) rfl (bI_r _) (fun c6 => ?_) (fun c6 => ?_)
            · replace c6 : (meF (τ.2.1 2) p (ρ.2.1 0 ((k : Int) / (m : Int))) (ρ.2.1 0 ((k : Int) % (m : Int)))) = false := bI0 c6
              refine hR.run0 4 (S' := (97, [some (vR 100), some (vI p), some (vI (s : Int)), some (vI (m : Int)), some (vI (spN (τ.2.1 2) (ρ.2.1 0) p (s : Int) (m : Int) (R : Int) k)), some (vI (R : Int)), some (vI (k : Int)), some (vI ((k : Int) / (m : Int))), some (vI ((k : Int) % (m : Int))), some (vI 0)], [vI 0, vI (spN (τ.2.1 2) (ρ.2.1 0) p (s : Int) (m : Int) (R : Int) k)], mW τ ρ)) rfl ?_
              refine hR.br (C := 0 = 0) rfl (by first | omega | (dsimp only [plus1]; omega)) (fun c7 => ?_) (fun c7 => ?_)
              · skip
                refine hR.run0 5 (S' := (23, [some (vR 100), some (vI p), some (vI (s : Int)), some (vI (m : Int)), some (vI (iO (spN (τ.2.1 2) (ρ.2.1 0) p (s : Int) (m : Int) (R : Int) k) 0)), some (vI (R : Int)), some (vI ((k : Int) + 1)), some (vI ((k : Int) / (m : Int))), some (vI ((k : Int) % (m : Int))), some (vI 0)], [], mW τ ρ)) rfl ?_
                rw [show spN (τ.2.1 2) (ρ.2.1 0) p (s : Int) (m : Int) (R : Int) (k + 1) = (iO (spN (τ.2.1 2) (ρ.2.1 0) p (s : Int) (m : Int) (R : Int) k) 0) from by show sp1 (τ.2.1 2) (ρ.2.1 0) p (s : Int) (m : Int) (k : Int) (spN (τ.2.1 2) (ρ.2.1 0) p (s : Int) (m : Int) (R : Int) k) = _; unfold sp1; first | (rw [if_pos ⟨by omega, by omega, by assumption⟩]; done) | (rw [if_neg (fun h => absurd h.1 (by omega))]; done) | (rw [if_neg (fun h => absurd h.2.1 (by omega))]; done) | (rw [if_neg (fun h => absurd (h.2.2.symm.trans (by assumption : _ = false)) (by decide))]; done)] at ihk
                refine hR.fg 7 ?_
                show G (23, [some (vR 100), some (vI p), some (vI (s : Int)), some (vI (m : Int)), some (vI (iO (spN (τ.2.1 2) (ρ.2.1 0) p (s : Int) (m : Int) (R : Int) k) 0)), some (vI (R : Int)), some (vI ((k : Int) + 1)), none, some (vI ((k : Int) % (m : Int))), some (vI 0)], [], mW τ ρ)
                refine hR.fg 8 ?_
                show G (23, [some (vR 100), some (vI p), some (vI (s : Int)), some (vI (m : Int)), some (vI (iO (spN (τ.2.1 2) (ρ.2.1 0) p (s : Int) (m : Int) (R : Int) k) 0)), some (vI (R : Int)), some (vI ((k : Int) + 1)), none, none, some (vI 0)], [], mW τ ρ)
                refine hR.fg 9 ?_
                show G (23, [some (vR 100), some (vI p), some (vI (s : Int)), some (vI (m : Int)), some (vI (iO (spN (τ.2.1 2) (ρ.2.1 0) p (s : Int) (m : Int) (R : Int) k) 0)), some (vI (R : Int)), some (vI ((k : Int) + 1)), none, none, none], [], mW τ ρ)
                exact ihk
              · exfalso; omega
            · replace c6 : (meF (τ.2.1 2) p (ρ.2.1 0 ((k : Int) / (m : Int))) (ρ.2.1 0 ((k : Int) % (m : Int)))) = true := bI1 c6
              refine hR.run0 5 (S' := (97, [some (vR 100), some (vI p), some (vI (s : Int)), some (vI (m : Int)), some (vI (spN (τ.2.1 2) (ρ.2.1 0) p (s : Int) (m : Int) (R : Int) k)), some (vI (R : Int)), some (vI (k : Int)), some (vI ((k : Int) / (m : Int))), some (vI ((k : Int) % (m : Int))), some (vI 1)], [vI 1, vI (spN (τ.2.1 2) (ρ.2.1 0) p (s : Int) (m : Int) (R : Int) k)], mW τ ρ)) rfl ?_
              refine hR.br (C := 1 = 0) rfl (by first | omega | (dsimp only [plus1]; omega)) (fun c8 => ?_) (fun c8 => ?_)
              · exfalso; omega
              refine hR.run0 8 (S' := (23, [some (vR 100), some (vI p), some (vI (s : Int)), some (vI (m : Int)), some (vI (iO (spN (τ.2.1 2) (ρ.2.1 0) p (s : Int) (m : Int) (R : Int) k) (iSl 1 ((k : Int) % (m : Int))))), some (vI (R : Int)), some (vI ((k : Int) + 1)), some (vI ((k : Int) / (m : Int))), some (vI ((k : Int) % (m : Int))), some (vI 1)], [], mW τ ρ)) rfl ?_
              rw [show spN (τ.2.1 2) (ρ.2.1 0) p (s : Int) (m : Int) (R : Int) (k + 1) = (iO (spN (τ.2.1 2) (ρ.2.1 0) p (s : Int) (m : Int) (R : Int) k) (iSl 1 ((k : Int) % (m : Int)))) from by show sp1 (τ.2.1 2) (ρ.2.1 0) p (s : Int) (m : Int) (k : Int) (spN (τ.2.1 2) (ρ.2.1 0) p (s : Int) (m : Int) (R : Int) k) = _; unfold sp1; first | (rw [if_pos ⟨by omega, by omega, by assumption⟩]; done) | (rw [if_neg (fun h => absurd h.1 (by omega))]; done) | (rw [if_neg (fun h => absurd h.2.1 (by omega))]; done) | (rw [if_neg (fun h => absurd (h.2.2.symm.trans (by assumption : _ = false)) (by decide))]; done)] at ihk
              refine hR.fg 7 ?_
              show G (23, [some (vR 100), some (vI p), some (vI (s : Int)), some (vI (m : Int)), some (vI (iO (spN (τ.2.1 2) (ρ.2.1 0) p (s : Int) (m : Int) (R : Int) k) (iSl 1 ((k : Int) % (m : Int))))), some (vI (R : Int)), some (vI ((k : Int) + 1)), none, some (vI ((k : Int) % (m : Int))), some (vI 1)], [], mW τ ρ)
              refine hR.fg 8 ?_
              show G (23, [some (vR 100), some (vI p), some (vI (s : Int)), some (vI (m : Int)), some (vI (iO (spN (τ.2.1 2) (ρ.2.1 0) p (s : Int) (m : Int) (R : Int) k) (iSl 1 ((k : Int) % (m : Int))))), some (vI (R : Int)), some (vI ((k : Int) + 1)), none, none, some (vI 1)], [], mW τ ρ)
              refine hR.fg 9 ?_
              show G (23, [some (vR 100), some (vI p), some (vI (s : Int)), some (vI (m : Int)), some (vI (iO (spN (τ.2.1 2) (ρ.2.1 0) p (s : Int) (m : Int) (R : Int) k) (iSl 1 ((k : Int) % (m : Int))))), some (vI (R : Int)), some (vI ((k : Int) + 1)), none, none, none], [], mW τ ρ)
              exact ihk
      · show G (23, [some (vR 100), some (vI p), some (vI (s : Int)), some (vI (m : Int)), some (vI (spN (τ.2.1 2) (ρ.2.1 0) p (s : Int) (m : Int) (R : Int) M)), some (vI (R : Int)), some (vI ((M : Nat) : Int)), none, none, none], [], mW τ ρ)
        show G (23, [some (vR 100), some (vI p), some (vI (s : Int)), some (vI (m : Int)), some (vI (spN (τ.2.1 2) (ρ.2.1 0) p (s : Int) (m : Int) (R : Int) M)), some (vI (R : Int)), some (vI ((M : Nat) : Int)), none, none, none], [], mW τ ρ)
        refine hR.run0 4 (S' := (28, [some (vR 100), some (vI p), some (vI (s : Int)), some (vI (m : Int)), some (vI (spN (τ.2.1 2) (ρ.2.1 0) p (s : Int) (m : Int) (R : Int) M)), some (vI (R : Int)), some (vI ((M : Nat) : Int)), none, none, none], [vI ((m : Int) * (m : Int)), vI ((M : Nat) : Int)], mW τ ρ)) rfl ?_
        refine hR.br (C := (m : Int) * (m : Int) ≤ ((M : Nat) : Int)) rfl (by first | omega | (dsimp only [plus1]; omega)) (fun c9 => ?_) (fun c9 => ?_)
        · skip
          refine hR.run0 1 (S' := (9, [some (vR 100), some (vI p), some (vI (s : Int)), some (vI (m : Int)), some (vI (spN (τ.2.1 2) (ρ.2.1 0) p (s : Int) (m : Int) (R : Int) M)), some (vI (R : Int)), some (vI ((M : Nat) : Int)), none, none, none], [], mW τ ρ)) rfl ?_
          refine hR.fg 6 ?_
          show G (9, [some (vR 100), some (vI p), some (vI (s : Int)), some (vI (m : Int)), some (vI (spN (τ.2.1 2) (ρ.2.1 0) p (s : Int) (m : Int) (R : Int) M)), some (vI (R : Int)), none, none, none, none], [], mW τ ρ)
          have hz : spN (τ.2.1 2) (ρ.2.1 0) p (s : Int) (m : Int) (R : Int) M = spP (τ.2.1 2) (ρ.2.1 0) p (s : Int) m (R : Int) := by unfold spP; rw [hM]
          rw [hz]
          exact hK
        · exfalso; omega
    exact hL2 0 (Nat.zero_le _)
  have hW : ∀ (f R : Nat), R < 256 → 256 - R ≤ f → spL (spP (τ.2.1 2) (ρ.2.1 0) p (s : Int) m) f (R : Int) = X → G (9, [some (vR 100), some (vI p), some (vI (s : Int)), some (vI (m : Int)), some (vI (spP (τ.2.1 2) (ρ.2.1 0) p (s : Int) m (R : Int))), some (vI (R : Int)), none, none, none, none], [], mW τ ρ) := by
    intro f
    induction f with
    | zero => intro R h1 h2; omega
    | succ f ih =>
      intro R h1 h2 h3
      obtain ⟨j, hj, hj2, hj3⟩ := spP_is (b := τ.2.1 2) (w := ρ.2.1 0) (p := p) hs hm h1
      simp only [spL] at h3
      rw [hj] at h3 ⊢
      refine hR.run0 2 (S' := (13, [some (vR 100), some (vI p), some (vI (s : Int)), some (vI (m : Int)), some (vI (j : Int)), some (vI (R : Int)), none, none, none, none], [vI (j : Int), vI (R : Int)], mW τ ρ)) rfl ?_
      refine hR.br (C := (R : Int) = (j : Int)) rfl (by first | omega | (dsimp only [plus1]; omega)) (fun c10 => ?_) (fun c10 => ?_)
      · skip
        refine hR.run0 1 (S' := (122, [some (vR 100), some (vI p), some (vI (s : Int)), some (vI (m : Int)), some (vI (j : Int)), some (vI (R : Int)), none, none, none, none], [vI (j : Int)], mW τ ρ)) rfl ?_
        have e9 : j = R := by omega
        rw [if_pos (by omega)] at h3
        exact hR.rt rfl trivial (by rw [← h3, e9]) rfl
      · skip
        refine hR.run0 2 (S' := (20, [some (vR 100), some (vI p), some (vI (s : Int)), some (vI (m : Int)), some (vI (j : Int)), some (vI (j : Int)), none, none, none, none], [], mW τ ρ)) rfl ?_
        rw [if_neg (by omega)] at h3
        exact hPass j hj2 (ih j hj2 (by omega) h3)
  refine hR.run0 7 (S' := (9, [some (vR 100), some (vI p), some (vI (s : Int)), some (vI (m : Int)), some (vI (iA (s : Int) (-(s : Int)))), some (vI 0), none, none, none, none], [], mW τ ρ)) rfl ?_
  rw [hlo]
  show G (9, [some (vR 100), some (vI p), some (vI (s : Int)), some (vI (m : Int)), some (vI (L0 : Int)), some (vI 0), none, none, none, none], [], mW τ ρ)
  refine hR.run0 2 (S' := (13, [some (vR 100), some (vI p), some (vI (s : Int)), some (vI (m : Int)), some (vI (L0 : Int)), some (vI 0), none, none, none, none], [vI (L0 : Int), vI 0], mW τ ρ)) rfl ?_
  refine hR.br (C := 0 = (L0 : Int)) rfl (by first | omega | (dsimp only [plus1]; omega)) (fun c11 => ?_) (fun c11 => ?_)
  · exfalso; omega
  refine hR.run0 2 (S' := (20, [some (vR 100), some (vI p), some (vI (s : Int)), some (vI (m : Int)), some (vI (L0 : Int)), some (vI (L0 : Int)), none, none, none, none], [], mW τ ρ)) rfl ?_
  exact hPass L0 hl8 (hW 256 L0 hl8 (Nat.sub_le _ _) hX)
