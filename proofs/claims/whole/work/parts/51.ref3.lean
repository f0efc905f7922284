theorem sr_meet (τ ρ : St) {p e f : Int} (hp : 0 ≤ p ∧ p < 3) (he : 0 ≤ e ∧ e < 30) (hf : 0 ≤ f ∧ f < 30) (hb : ∀ c, -1 ≤ τ.2.1 2 c ∧ τ.2.1 2 c ≤ 5) : Sp mX6_meet roC 2 [vR 100, vI p, vI e, vI f] (mW τ ρ) (.inl (some (vI (bI (meF (τ.2.1 2) p e f))))) (mW τ ρ) := by
  have r1 := cA_r he
  have r2 := cB_r he
  have n1 : cA e ≠ -1 := by omega
  have n2 : cB e ≠ -1 := by omega
  refine Sp.of (lk := lkX6) (tb := bX6_meet) (by decide) lkX6_ok tX6_meet (mW_keys _ _ _ _) (Nat.le_of_ble_eq_true rfl) (fun G hR => ?_)
  refine hR.run0 2 (S' := (2, [some (vR 100), some (vI p), some (vI e), some (vI f), none], [vI e, vI f], mW τ ρ)) rfl ?_
  have f1 := cA_r (e := e) (by omega)
  refine hR.cs [vI e] kX6_63 rfl rfl (by first | decide | exact Nat.le_refl _) (by decide) (Nat.le_of_ble_eq_true rfl) rfl (sr_oneEnd _ _ (by omega)) ?_
  show G (5, [some (vR 100), some (vI p), some (vI e), some (vI f), none], [vI (cA e), vI f], mW τ ρ)
  refine hR.cs [vI f, vI (cA e)] kX6_70 rfl rfl (by first | decide | exact Nat.le_refl _) (by decide) (Nat.le_of_ble_eq_true rfl) rfl (sr_hasCorner _ _ (by omega) (by omega)) ?_
  show G (8, [some (vR 100), some (vI p), some (vI e), some (vI f), none], [vI (bI (isE f (cA e)))], mW τ ρ)
  refine hR.br (C := bI (isE f (cA e)) = 0) rfl (bI_r _) (fun c1 => ?_) (fun c1 => ?_)
  · replace c1 : (isE f (cA e)) = false := bI0 c1
    refine hR.run0 2 (S' := (20, [some (vR 100), some (vI p), some (vI e), some (vI f), none], [vI e, vI f], mW τ ρ)) rfl ?_
    have f2 := cB_r (e := e) (by omega)
    refine hR.cs [vI e] kX6_67 rfl rfl (by first | decide | exact Nat.le_refl _) (by decide) (Nat.le_of_ble_eq_true rfl) rfl (sr_otherEnd _ _ (by omega)) ?_
    show G (23, [some (vR 100), some (vI p), some (vI e), some (vI f), none], [vI (cB e), vI f], mW τ ρ)
    refine hR.cs [vI f, vI (cB e)] kX6_70 rfl rfl (by first | decide | exact Nat.le_refl _) (by decide) (Nat.le_of_ble_eq_true rfl) rfl (sr_hasCorner _ _ (by omega) (by omega)) ?_
    show G (26, [some (vR 100), some (vI p), some (vI e), some (vI f), none], [vI (bI (isE f (cB e)))], mW τ ρ)
    refine hR.br (C := bI (isE f (cB e)) = 0) rfl (bI_r _) (fun c2 => ?_) (fun c2 => ?_)
    · replace c2 : (isE f (cB e)) = false := bI0 c2
      refine hR.run0 4 (S' := (42, [some (vR 100), some (vI p), some (vI e), some (vI f), some (vI (-1))], [vI (-1), vI (-1)], mW τ ρ)) rfl ?_
      refine hR.br (C := (-1) = (-1)) rfl (by first | omega | (dsimp only [plus1]; omega) | (simp [plus1, sHt, sH, sS, sAt, sA, sup]; done) | (simp [plus1, sHt, sH, sS, sAt, sA, sup]; omega)) (fun c3 => ?_) (fun c3 => ?_)
      · skip
        refine hR.run0 1 (S' := (70, [some (vR 100), some (vI p), some (vI e), some (vI f), some (vI (-1))], [vI 0], mW τ ρ)) rfl ?_
        exact hR.rt rfl (Or.inl rfl) (by rw [show bI (meF (τ.2.1 2) p e f) = 0 from by first | (exact bIf (fun h => by unfold meF meC at h; simp_all; done)) | (exact bIf (fun h => by unfold meF meC at h; simp_all; omega))]) (by rfl)
      · exfalso; omega
    · replace c2 : (isE f (cB e)) = true := bI1 c2
      refine hR.run0 1 (S' := (30, [some (vR 100), some (vI p), some (vI e), some (vI f), none], [vI e], mW τ ρ)) rfl ?_
      have f3 := cB_r (e := e) (by omega)
      refine hR.cs [vI e] kX6_67 rfl rfl (by first | decide | exact Nat.le_refl _) (by decide) (Nat.le_of_ble_eq_true rfl) rfl (sr_otherEnd _ _ (by omega)) ?_
      show G (33, [some (vR 100), some (vI p), some (vI e), some (vI f), none], [vI (cB e)], mW τ ρ)
      refine hR.run0 4 (S' := (42, [some (vR 100), some (vI p), some (vI e), some (vI f), some (vI (cB e))], [vI (-1), vI (cB e)], mW τ ρ)) rfl ?_
      refine hR.br (C := cB e = (-1)) rfl (by first | omega | (dsimp only [plus1]; omega) | (simp [plus1, sHt, sH, sS, sAt, sA, sup]; done) | (simp [plus1, sHt, sH, sS, sAt, sA, sup]; omega)) (fun c4 => ?_) (fun c4 => ?_)
      · exfalso; omega
      refine hR.run0 2 (S' := (48, [some (vR 100), some (vI p), some (vI e), some (vI f), some (vI (cB e))], [vI (cB e), vR 100], mW τ ρ)) rfl ?_
      have f4 := ownB_r (hb (cB e))
      refine hR.cv [vI (cB e)] kX6_74 rfl rfl ⟨_, _, _, rfl, rfl, rfl⟩ (by first | decide | exact Nat.le_refl _) (by decide) (Nat.le_of_ble_eq_true rfl) rfl (sr_ownerAt _ _ (by omega) hb) ?_
      show G (51, [some (vR 100), some (vI p), some (vI e), some (vI f), some (vI (cB e))], [vI (ownB (τ.2.1 2 (cB e)))], mW τ ρ)
      refine hR.run0 1 (S' := (52, [some (vR 100), some (vI p), some (vI e), some (vI f), some (vI (cB e))], [vI (-1), vI (ownB (τ.2.1 2 (cB e)))], mW τ ρ)) rfl ?_
      refine hR.br (C := ownB (τ.2.1 2 (cB e)) = (-1)) rfl (by first | omega | (dsimp only [plus1]; omega) | (simp [plus1, sHt, sH, sS, sAt, sA, sup]; done) | (simp [plus1, sHt, sH, sS, sAt, sA, sup]; omega)) (fun c5 => ?_) (fun c5 => ?_)
      · skip
        refine hR.run0 2 (S' := (70, [some (vR 100), some (vI p), some (vI e), some (vI f), some (vI (cB e))], [vI 1], mW τ ρ)) rfl ?_
        exact hR.rt rfl (Or.inr rfl) (by rw [show bI (meF (τ.2.1 2) p e f) = 1 from by first | (exact bIt (by unfold meF meC; simp_all; done)) | (exact bIt (by unfold meF meC; simp_all; omega))]) (by rfl)
      · skip
        refine hR.run0 2 (S' := (58, [some (vR 100), some (vI p), some (vI e), some (vI f), some (vI (cB e))], [vI (cB e), vR 100], mW τ ρ)) rfl ?_
        have f5 := ownB_r (hb (cB e))
        refine hR.cv [vI (cB e)] kX6_74 rfl rfl ⟨_, _, _, rfl, rfl, rfl⟩ (by first | decide | exact Nat.le_refl _) (by decide) (Nat.le_of_ble_eq_true rfl) rfl (sr_ownerAt _ _ (by omega) hb) ?_
        show G (61, [some (vR 100), some (vI p), some (vI e), some (vI f), some (vI (cB e))], [vI (ownB (τ.2.1 2 (cB e)))], mW τ ρ)
        refine hR.run0 1 (S' := (62, [some (vR 100), some (vI p), some (vI e), some (vI f), some (vI (cB e))], [vI p, vI (ownB (τ.2.1 2 (cB e)))], mW τ ρ)) rfl ?_
        refine hR.br (C := ownB (τ.2.1 2 (cB e)) ≠ p) rfl (by first | omega | (dsimp only [plus1]; omega) | (simp [plus1, sHt, sH, sS, sAt, sA, sup]; done) | (simp [plus1, sHt, sH, sS, sAt, sA, sup]; omega)) (fun c6 => ?_) (fun c6 => ?_)
        · skip
          refine hR.run0 1 (S' := (70, [some (vR 100), some (vI p), some (vI e), some (vI f), some (vI (cB e))], [vI 0], mW τ ρ)) rfl ?_
          exact hR.rt rfl (Or.inl rfl) (by rw [show bI (meF (τ.2.1 2) p e f) = 0 from by first | (exact bIf (fun h => by unfold meF meC at h; simp_all; done)) | (exact bIf (fun h => by unfold meF meC at h; simp_all; omega))]) (by rfl)
        · skip
          refine hR.run0 2 (S' := (70, [some (vR 100), some (vI p), some (vI e), some (vI f), some (vI (cB e))], [vI 1], mW τ ρ)) rfl ?_
          exact hR.rt rfl (Or.inr rfl) (by rw [show bI (meF (τ.2.1 2) p e f) = 1 from by first | (exact bIt (by unfold meF meC; simp_all; done)) | (exact bIt (by unfold meF meC; simp_all; omega))]) (by rfl)
  · replace c1 : (isE f (cA e)) = true := bI1 c1
    refine hR.run0 1 (S' := (12, [some (vR 100), some (vI p), some (vI e), some (vI f), none], [vI e], mW τ ρ)) rfl ?_
    have f6 := cA_r (e := e) (by omega)
    refine hR.cs [vI e] kX6_63 rfl rfl (by first | decide | exact Nat.le_refl _) (by decide) (Nat.le_of_ble_eq_true rfl) rfl (sr_oneEnd _ _ (by omega)) ?_
    show G (15, [some (vR 100), some (vI p), some (vI e), some (vI f), none], [vI (cA e)], mW τ ρ)
    refine hR.run0 4 (S' := (42, [some (vR 100), some (vI p), some (vI e), some (vI f), some (vI (cA e))], [vI (-1), vI (cA e)], mW τ ρ)) rfl ?_
    refine hR.br (C := cA e = (-1)) rfl (by first | omega | (dsimp only [plus1]; omega) | (simp [plus1, sHt, sH, sS, sAt, sA, sup]; done) | (simp [plus1, sHt, sH, sS, sAt, sA, sup]; omega)) (fun c7 => ?_) (fun c7 => ?_)
    · exfalso; omega
    refine hR.run0 2 (S' := (48, [some (vR 100), some (vI p), some (vI e), some (vI f), some (vI (cA e))], [vI (cA e), vR 100], mW τ ρ)) rfl ?_
    have f7 := ownB_r (hb (cA e))
    refine hR.cv [vI (cA e)] kX6_74 rfl rfl ⟨_, _, _, rfl, rfl, rfl⟩ (by first | decide | exact Nat.le_refl _) (by decide) (Nat.le_of_ble_eq_true rfl) rfl (sr_ownerAt _ _ (by omega) hb) ?_
    show G (51, [some (vR 100), some (vI p), some (vI e), some (vI f), some (vI (cA e))], [vI (ownB (τ.2.1 2 (cA e)))], mW τ ρ)
    refine hR.run0 1 (S' := (52, [some (vR 100), some (vI p), some (vI e), some (vI f), some (vI (cA e))], [vI (-1), vI (ownB (τ.2.1 2 (cA e)))], mW τ ρ)) rfl ?_
    refine hR.br (C := ownB (τ.2.1 2 (cA e)) = (-1)) rfl (by first | omega | (dsimp only [plus1]; omega) | (simp [plus1, sHt, sH, sS, sAt, sA, sup]; done) | (simp [plus1, sHt, sH, sS, sAt, sA, sup]; omega)) (fun c8 => ?_) (fun c8 => ?_)
    · skip
      refine hR.run0 2 (S' := (70, [some (vR 100), some (vI p), some (vI e), some (vI f), some (vI (cA e))], [vI 1], mW τ ρ)) rfl ?_
      exact hR.rt rfl (Or.inr rfl) (by rw [show bI (meF (τ.2.1 2) p e f) = 1 from by first | (exact bIt (by unfold meF meC; simp_all; done)) | (exact bIt (by unfold meF meC; simp_all; omega))]) (by rfl)
    · skip
      refine hR.run0 2 (S' := (58, [some (vR 100), some (vI p), some (vI e), some (vI f), some (vI (cA e))], [vI (cA e), vR 100], mW τ ρ)) rfl ?_
      have f8 := ownB_r (hb (cA e))
      refine hR.cv [vI (cA e)] kX6_74 rfl rfl ⟨_, _, _, rfl, rfl, rfl⟩ (by first | decide | exact Nat.le_refl _) (by decide) (Nat.le_of_ble_eq_true rfl) rfl (sr_ownerAt _ _ (by omega) hb) ?_
      show G (61, [some (vR 100), some (vI p), some (vI e), some (vI f), some (vI (cA e))], [vI (ownB (τ.2.1 2 (cA e)))], mW τ ρ)
      refine hR.run0 1 (S' := (62, [some (vR 100), some (vI p), some (vI e), some (vI f), some (vI (cA e))], [vI p, vI (ownB (τ.2.1 2 (cA e)))], mW τ ρ)) rfl ?_
      refine hR.br (C := ownB (τ.2.1 2 (cA e)) ≠ p) rfl (by first | omega | (dsimp only [plus1]; omega) | (simp [plus1, sHt, sH, sS, sAt, sA, sup]; done) | (simp [plus1, sHt, sH, sS, sAt, sA, sup]; omega)) (fun c9 => ?_) (fun c9 => ?_)
      · skip
        refine hR.run0 1 (S' := (70, [some (vR 100), some (vI p), some (vI e), some (vI f), some (vI (cA e))], [vI 0], mW τ ρ)) rfl ?_
        exact hR.rt rfl (Or.inl rfl) (by rw [show bI (meF (τ.2.1 2) p e f) = 0 from by first | (exact bIf (fun h => by unfold meF meC at h; simp_all; done)) | (exact bIf (fun h => by unfold meF meC at h; simp_all; omega))]) (by rfl)
      · skip
        refine hR.run0 2 (S' := (70, [some (vR 100), some (vI p), some (vI e), some (vI f), some (vI (cA e))], [vI 1], mW τ ρ)) rfl ?_
        exact hR.rt rfl (Or.inr rfl) (by rw [show bI (meF (τ.2.1 2) p e f) = 1 from by first | (exact bIt (by unfold meF meC; simp_all; done)) | (exact bIt (by unfold meF meC; simp_all; omega))]) (by rfl)
theorem sr_ones (w : PW) {s : Nat} (hs : s < 256) : Sp mX6_ones roC 0 [vI (s : Int)] (w) (.inl (some (vI (onN (s : Int) 8)))) (w) := by
  refine Sp.of (lk := lkX6) (tb := bX6_ones) (by decide) lkX6_ok tX6_ones rfl (Nat.le_of_ble_eq_true rfl) (fun G hR => ?_)
  refine hR.run0 4 (S' := (4, [some (vI (s : Int)), some (vI 0), some (vI 0)], [], w)) rfl ?_
  have hL : ∀ i : Nat, i ≤ 8 → G (4, [some (vI (s : Int)), some (vI (onN (s : Int) i)), some (vI ((i : Nat) : Int))], [], w) := by
    refine back (P := fun i : Nat => G (4, [some (vI (s : Int)), some (vI (onN (s : Int) i)), some (vI ((i : Nat) : Int))], [], w)) ?_ ?_
    · intro i hii ihi
      replace ihi : G (4, [some (vI (s : Int)), some (vI (onN (s : Int) (i + 1))), some (vI ((i + 1 : Nat) : Int))], [], w) := ihi
      show G (4, [some (vI (s : Int)), some (vI (onN (s : Int) i)), some (vI (i : Int))], [], w)
      refine hR.run0 2 (S' := (7, [some (vI (s : Int)), some (vI (onN (s : Int) i)), some (vI (i : Int))], [vI 8, vI (i : Int)], w)) rfl ?_
      refine hR.br (C := 8 ≤ (i : Int)) rfl (by first | omega | (dsimp only; omega) | (simp [sHt, sH, sS, sAt, sA, sup]; done) | (simp [sHt, sH, sS, sAt, sA, sup]; omega)) (fun c1 => ?_) (fun c1 => ?_)
      · exfalso; omega
      refine hR.run0 10 (S' := (4, [some (vI (s : Int)), some (vI ((onN (s : Int) i) + (iA (iSr (s : Int) (i : Int)) 1))), some (vI ((i : Int) + 1))], [], w)) rfl ?_
      rw [show onN (s : Int) (i + 1) = ((onN (s : Int) i) + (iA (iSr (s : Int) (i : Int)) 1)) from by rfl] at ihi
      exact ihi
    · show G (4, [some (vI (s : Int)), some (vI (onN (s : Int) 8)), some (vI ((8 : Nat) : Int))], [], w)
      show G (4, [some (vI (s : Int)), some (vI (onN (s : Int) 8)), some (vI 8)], [], w)
      refine hR.run0 2 (S' := (7, [some (vI (s : Int)), some (vI (onN (s : Int) 8)), some (vI 8)], [vI 8, vI 8], w)) rfl ?_
      refine hR.br (C := 8 ≤ 8) rfl (by first | omega | (dsimp only; omega) | (simp [sHt, sH, sS, sAt, sA, sup]; done) | (simp [sHt, sH, sS, sAt, sA, sup]; omega)) (fun c2 => ?_) (fun c2 => ?_)
      · skip
        refine hR.run0 1 (S' := (25, [some (vI (s : Int)), some (vI (onN (s : Int) 8)), some (vI 8)], [vI (onN (s : Int) 8)], w)) rfl ?_
        exact hR.rt rfl trivial rfl rfl
      · exfalso; omega
  exact hL 0 (Nat.zero_le _)
theorem sr_ends (τ ρ : St) {p s : Int} {m : Nat} (hp : 0 ≤ p ∧ p < 3) (hs : -2147483648 ≤ s ∧ s ≤ 2147483647) (hm : m ≤ 8) (hb : ∀ c, -1 ≤ τ.2.1 2 c ∧ τ.2.1 2 c ≤ 5) (hw : ∀ a : Int, 0 ≤ a → a < (m : Int) → 0 ≤ ρ.2.1 0 a ∧ ρ.2.1 0 a < 30) : Sp mX6_ends roC 2 [vR 100, vI p, vI s, vI (m : Int)] (mW τ ρ) (.inl (some (vI (enN (τ.2.1 2) (ρ.2.1 0) p s m 24)))) (mW τ ρ) := by
  refine Sp.of (lk := lkX6) (tb := bX6_ends) (by decide) lkX6_ok tX6_ends (mW_keys _ _ _ _) (Nat.le_of_ble_eq_true rfl) (fun G hR => ?_)
  refine hR.run0 4 (S' := (6, [some (vR 100), some (vI p), some (vI s), some (vI (m : Int)), some (vI 0), some (vI 0), none, none], [], mW τ ρ)) rfl ?_
  have hL1 : ∀ i : Nat, i ≤ 24 → G (6, [some (vR 100), some (vI p), some (vI s), some (vI (m : Int)), some (vI (enN (τ.2.1 2) (ρ.2.1 0) p s m i)), some (vI ((i : Nat) : Int)), none, none], [], mW τ ρ) := by
    refine back (P := fun i : Nat => G (6, [some (vR 100), some (vI p), some (vI s), some (vI (m : Int)), some (vI (enN (τ.2.1 2) (ρ.2.1 0) p s m i)), some (vI ((i : Nat) : Int)), none, none], [], mW τ ρ)) ?_ ?_
    · intro i hii ihi
      replace ihi : G (6, [some (vR 100), some (vI p), some (vI s), some (vI (m : Int)), some (vI (enN (τ.2.1 2) (ρ.2.1 0) p s m (i + 1))), some (vI ((i + 1 : Nat) : Int)), none, none], [], mW τ ρ) := ihi
      show G (6, [some (vR 100), some (vI p), some (vI s), some (vI (m : Int)), some (vI (enN (τ.2.1 2) (ρ.2.1 0) p s m i)), some (vI (i : Int)), none, none], [], mW τ ρ)
      have q1 := enN_r (τ.2.1 2) (ρ.2.1 0) p s hm i
      have q2 := enR_r (ρ.2.1 0) s (i : Int) m
      have zb := hb (i : Int)
      have zo := ownB_r zb
      refine hR.run0 2 (S' := (10, [some (vR 100), some (vI p), some (vI s), some (vI (m : Int)), some (vI (enN (τ.2.1 2) (ρ.2.1 0) p s m i)), some (vI (i : Int)), none, none], [vI 24, vI (i : Int)], mW τ ρ)) rfl ?_
      refine hR.br (C := 24 ≤ (i : Int)) rfl (by first | omega | (dsimp only [plus1]; omega) | (simp [plus1, sHt, sH, sS, sAt, sA, sup]; done) | (simp [plus1, sHt, sH, sS, sAt, sA, sup]; omega)) (fun c1 => ?_) (fun c1 => ?_)
      · exfalso; omega
      refine hR.run0 4 (S' := (19, [some (vR 100), some (vI p), some (vI s), some (vI (m : Int)), some (vI (enN (τ.2.1 2) (ρ.2.1 0) p s m i)), some (vI (i : Int)), some (vI 0), some (vI 0)], [], mW τ ρ)) rfl ?_
      have hL2 : ∀ j : Nat, j ≤ m → G (19, [some (vR 100), some (vI p), some (vI s), some (vI (m : Int)), some (vI (enN (τ.2.1 2) (ρ.2.1 0) p s m i)), some (vI (i : Int)), some (vI (enR (ρ.2.1 0) s (i : Int) j)), some (vI ((j : Nat) : Int))], [], mW τ ρ) := by
        refine back (P := fun j : Nat => G (19, [some (vR 100), some (vI p), some (vI s), some (vI (m : Int)), some (vI (enN (τ.2.1 2) (ρ.2.1 0) p s m i)), some (vI (i : Int)), some (vI (enR (ρ.2.1 0) s (i : Int) j)), some (vI ((j : Nat) : Int))], [], mW τ ρ)) ?_ ?_
        · intro j hij ihj
          replace ihj : G (19, [some (vR 100), some (vI p), some (vI s), some (vI (m : Int)), some (vI (enN (τ.2.1 2) (ρ.2.1 0) p s m i)), some (vI (i : Int)), some (vI (enR (ρ.2.1 0) s (i : Int) (j + 1))), some (vI ((j + 1 : Nat) : Int))], [], mW τ ρ) := ihj
          show G (19, [some (vR 100), some (vI p), some (vI s), some (vI (m : Int)), some (vI (enN (τ.2.1 2) (ρ.2.1 0) p s m i)), some (vI (i : Int)), some (vI (enR (ρ.2.1 0) s (i : Int) j)), some (vI (j : Int))], [], mW τ ρ)
          have q3 := enR_r (ρ.2.1 0) s (i : Int) j
          have q4 := iA_r (iSr s (j : Int)) 1
          have q5 := hw (j : Int) (by omega) (by omega)
          refine hR.run0 2 (S' := (22, [some (vR 100), some (vI p), some (vI s), some (vI (m : Int)), some (vI (enN (τ.2.1 2) (ρ.2.1 0) p s m i)), some (vI (i : Int)), some (vI (enR (ρ.2.1 0) s (i : Int) j)), some (vI (j : Int))], [vI (m : Int), vI (j : Int)], mW τ ρ)) rfl ?_
          refine hR.br (C := (m : Int) ≤ (j : Int)) rfl (by first | omega | (dsimp only [plus1]; omega) | (simp [plus1, sHt, sH, sS, sAt, sA, sup]; done) | (simp [plus1, sHt, sH, sS, sAt, sA, sup]; omega)) (fun c2 => ?_) (fun c2 => ?_)
          · exfalso; omega
          refine hR.run0 7 (S' := (34, [some (vR 100), some (vI p), some (vI s), some (vI (m : Int)), some (vI (enN (τ.2.1 2) (ρ.2.1 0) p s m i)), some (vI (i : Int)), some (vI (enR (ρ.2.1 0) s (i : Int) j)), some (vI (j : Int))], [vI 1, vI (iA (iSr s (j : Int)) 1), vI (enR (ρ.2.1 0) s (i : Int) j)], mW τ ρ)) rfl ?_
          refine hR.br (C := iA (iSr s (j : Int)) 1 ≠ 1) rfl (by first | omega | (dsimp only [plus1]; omega) | (simp [plus1, sHt, sH, sS, sAt, sA, sup]; done) | (simp [plus1, sHt, sH, sS, sAt, sA, sup]; omega)) (fun c3 => ?_) (fun c3 => ?_)
          · skip
            refine hR.run0 5 (S' := (19, [some (vR 100), some (vI p), some (vI s), some (vI (m : Int)), some (vI (enN (τ.2.1 2) (ρ.2.1 0) p s m i)), some (vI (i : Int)), some (vI ((enR (ρ.2.1 0) s (i : Int) j) + 0)), some (vI ((j : Int) + 1))], [], mW τ ρ)) rfl ?_
            rw [show enR (ρ.2.1 0) s (i : Int) (j + 1) = ((enR (ρ.2.1 0) s (i : Int) j) + 0) from by show enR (ρ.2.1 0) s (i : Int) j + (if iA (iSr s (j : Int)) 1 = 1 ∧ isE (ρ.2.1 0 (j : Int)) (i : Int) = true then 1 else 0) = _; first | (rw [if_pos ⟨by omega, by assumption⟩]; done) | (rw [if_neg (fun h => absurd h.1 (by omega))]; done) | (rw [if_neg (fun h => absurd (h.2.symm.trans (by assumption : _ = false)) (by decide))]; done)] at ihj
            exact ihj
          · skip
            refine hR.run1 5 (S' := (46, [some (vR 100), some (vI p), some (vI s), some (vI (m : Int)), some (vI (enN (τ.2.1 2) (ρ.2.1 0) p s m i)), some (vI (i : Int)), some (vI (enR (ρ.2.1 0) s (i : Int) j)), some (vI (j : Int))], [vI (i : Int), vI (ρ.2.1 0 (j : Int)), vI (enR (ρ.2.1 0) s (i : Int) j)], mW τ ρ)) rfl (by first | omega | (dsimp only [plus1]; omega) | (simp [plus1, sHt, sH, sS, sAt, sA, sup]; done) | (simp [plus1, sHt, sH, sS, sAt, sA, sup]; omega)) ?_
            refine hR.cs [vI (ρ.2.1 0 (j : Int)), vI (i : Int)] kX6_70 rfl rfl (by first | decide | exact Nat.le_refl _) (by decide) (Nat.le_of_ble_eq_true rfl) rfl (sr_hasCorner _ _ (by omega) (by omega)) ?_
            show G (49, [some (vR 100), some (vI p), some (vI s), some (vI (m : Int)), some (vI (enN (τ.2.1 2) (ρ.2.1 0) p s m i)), some (vI (i : Int)), some (vI (enR (ρ.2.1 0) s (i : Int) j)), some (vI (j : Int))], [vI (bI (isE (ρ.2.1 0 (j : Int)) (i : Int))), vI (enR (ρ.2.1 0) s (i : Int) j)], mW τ ρ)
            refine hR.br (C := bI (isE (ρ.2.1 0 (j : Int)) (i : Int)) = 0) rfl (bI_r _) (fun c4 => ?_) (fun c4 => ?_)
            · replace c4 : (isE (ρ.2.1 0 (j : Int)) (i : Int)) = false := bI0 c4
              refine hR.run0 5 (S' := (19, [some (vR 100), some (vI p), some (vI s), some (vI (m : Int)), some (vI (enN (τ.2.1 2) (ρ.2.1 0) p s m i)), some (vI (i : Int)), some (vI ((enR (ρ.2.1 0) s (i : Int) j) + 0)), some (vI ((j : Int) + 1))], [], mW τ ρ)) rfl ?_
              rw [show enR (ρ.2.1 0) s (i : Int) (j + 1) = ((enR (ρ.2.1 0) s (i : Int) j) + 0) from by show enR (ρ.2.1 0) s (i : Int) j + (if iA (iSr s (j : Int)) 1 = 1 ∧ isE (ρ.2.1 0 (j : Int)) (i : Int) = true then 1 else 0) = _; first | (rw [if_pos ⟨by omega, by assumption⟩]; done) | (rw [if_neg (fun h => absurd h.1 (by omega))]; done) | (rw [if_neg (fun h => absurd (h.2.symm.trans (by assumption : _ = false)) (by decide))]; done)] at ihj
              exact ihj
            · replace c4 : (isE (ρ.2.1 0 (j : Int)) (i : Int)) = true := bI1 c4
              refine hR.run0 6 (S' := (19, [some (vR 100), some (vI p), some (vI s), some (vI (m : Int)), some (vI (enN (τ.2.1 2) (ρ.2.1 0) p s m i)), some (vI (i : Int)), some (vI ((enR (ρ.2.1 0) s (i : Int) j) + 1)), some (vI ((j : Int) + 1))], [], mW τ ρ)) rfl ?_
              rw [show enR (ρ.2.1 0) s (i : Int) (j + 1) = ((enR (ρ.2.1 0) s (i : Int) j) + 1) from by show enR (ρ.2.1 0) s (i : Int) j + (if iA (iSr s (j : Int)) 1 = 1 ∧ isE (ρ.2.1 0 (j : Int)) (i : Int) = true then 1 else 0) = _; first | (rw [if_pos ⟨by omega, by assumption⟩]; done) | (rw [if_neg (fun h => absurd h.1 (by omega))]; done) | (rw [if_neg (fun h => absurd (h.2.symm.trans (by assumption : _ = false)) (by decide))]; done)] at ihj
              exact ihj
        · show G (19, [some (vR 100), some (vI p), some (vI s), some (vI (m : Int)), some (vI (enN (τ.2.1 2) (ρ.2.1 0) p s m i)), some (vI (i : Int)), some (vI (enR (ρ.2.1 0) s (i : Int) m)), some (vI ((m : Nat) : Int))], [], mW τ ρ)
          show G (19, [some (vR 100), some (vI p), some (vI s), some (vI (m : Int)), some (vI (enN (τ.2.1 2) (ρ.2.1 0) p s m i)), some (vI (i : Int)), some (vI (enR (ρ.2.1 0) s (i : Int) m)), some (vI (m : Int))], [], mW τ ρ)
          refine hR.run0 2 (S' := (22, [some (vR 100), some (vI p), some (vI s), some (vI (m : Int)), some (vI (enN (τ.2.1 2) (ρ.2.1 0) p s m i)), some (vI (i : Int)), some (vI (enR (ρ.2.1 0) s (i : Int) m)), some (vI (m : Int))], [vI (m : Int), vI (m : Int)], mW τ ρ)) rfl ?_
          refine hR.br (C := (m : Int) ≤ (m : Int)) rfl (by first | omega | (dsimp only [plus1]; omega) | (simp [plus1, sHt, sH, sS, sAt, sA, sup]; done) | (simp [plus1, sHt, sH, sS, sAt, sA, sup]; omega)) (fun c5 => ?_) (fun c5 => ?_)
          · skip
            refine hR.run0 2 (S' := (69, [some (vR 100), some (vI p), some (vI s), some (vI (m : Int)), some (vI (enN (τ.2.1 2) (ρ.2.1 0) p s m i)), some (vI (i : Int)), some (vI (enR (ρ.2.1 0) s (i : Int) m)), some (vI (m : Int))], [vI (i : Int), vR 100], mW τ ρ)) rfl ?_
            have f1 := ownB_r (hb (i : Int))
            refine hR.cv [vI (i : Int)] kX6_74 rfl rfl ⟨_, _, _, rfl, rfl, rfl⟩ (by first | decide | exact Nat.le_refl _) (by decide) (Nat.le_of_ble_eq_true rfl) rfl (sr_ownerAt _ _ (by omega) hb) ?_
            show G (72, [some (vR 100), some (vI p), some (vI s), some (vI (m : Int)), some (vI (enN (τ.2.1 2) (ρ.2.1 0) p s m i)), some (vI (i : Int)), some (vI (enR (ρ.2.1 0) s (i : Int) m)), some (vI (m : Int))], [vI (ownB (τ.2.1 2 (i : Int)))], mW τ ρ)
            refine hR.run0 1 (S' := (73, [some (vR 100), some (vI p), some (vI s), some (vI (m : Int)), some (vI (enN (τ.2.1 2) (ρ.2.1 0) p s m i)), some (vI (i : Int)), some (vI (enR (ρ.2.1 0) s (i : Int) m)), some (vI (m : Int))], [vI (-1), vI (ownB (τ.2.1 2 (i : Int)))], mW τ ρ)) rfl ?_
            refine hR.br (C := ownB (τ.2.1 2 (i : Int)) = (-1)) rfl (by first | omega | (dsimp only [plus1]; omega) | (simp [plus1, sHt, sH, sS, sAt, sA, sup]; done) | (simp [plus1, sHt, sH, sS, sAt, sA, sup]; omega)) (fun c6 => ?_) (fun c6 => ?_)
            · skip
              refine hR.run0 4 (S' := (97, [some (vR 100), some (vI p), some (vI s), some (vI (m : Int)), some (vI (enN (τ.2.1 2) (ρ.2.1 0) p s m i)), some (vI (i : Int)), some (vI (enR (ρ.2.1 0) s (i : Int) m)), some (vI 0)], [vI 0, vI (enN (τ.2.1 2) (ρ.2.1 0) p s m i)], mW τ ρ)) rfl ?_
              refine hR.br (C := 0 = 0) rfl (by first | omega | (dsimp only [plus1]; omega) | (simp [plus1, sHt, sH, sS, sAt, sA, sup]; done) | (simp [plus1, sHt, sH, sS, sAt, sA, sup]; omega)) (fun c7 => ?_) (fun c7 => ?_)
              · skip
                refine hR.run1 7 (S' := (6, [some (vR 100), some (vI p), some (vI s), some (vI (m : Int)), some (vI ((enN (τ.2.1 2) (ρ.2.1 0) p s m i) + ((enR (ρ.2.1 0) s (i : Int) m) % 2))), some (vI ((i : Int) + 1)), some (vI (enR (ρ.2.1 0) s (i : Int) m)), some (vI 0)], [], mW τ ρ)) rfl (by first | omega | (dsimp only [plus1]; omega) | (simp [plus1, sHt, sH, sS, sAt, sA, sup]; done) | (simp [plus1, sHt, sH, sS, sAt, sA, sup]; omega)) ?_
                rw [show enN (τ.2.1 2) (ρ.2.1 0) p s m (i + 1) = ((enN (τ.2.1 2) (ρ.2.1 0) p s m i) + ((enR (ρ.2.1 0) s (i : Int) m) % 2)) from by show enN (τ.2.1 2) (ρ.2.1 0) p s m i + (if bar (τ.2.1 2) p (i : Int) = true then enR (ρ.2.1 0) s (i : Int) m else enR (ρ.2.1 0) s (i : Int) m % 2) = _; first | (rw [if_pos (bar_t (by omega) (by omega))]; done) | (rw [if_neg (bar_f (by omega))]; done)] at ihi
                refine hR.fg 6 ?_
                show G (6, [some (vR 100), some (vI p), some (vI s), some (vI (m : Int)), some (vI ((enN (τ.2.1 2) (ρ.2.1 0) p s m i) + ((enR (ρ.2.1 0) s (i : Int) m) % 2))), some (vI ((i : Int) + 1)), none, some (vI 0)], [], mW τ ρ)
                refine hR.fg 7 ?_
                show G (6, [some (vR 100), some (vI p), some (vI s), some (vI (m : Int)), some (vI ((enN (τ.2.1 2) (ρ.2.1 0) p s m i) + ((enR (ρ.2.1 0) s (i : Int) m) % 2))), some (vI ((i : Int) + 1)), none, none], [], mW τ ρ)
                exact ihi
              · exfalso; omega
            · skip
              refine hR.run0 2 (S' := (79, [some (vR 100), some (vI p), some (vI s), some (vI (m : Int)), some (vI (enN (τ.2.1 2) (ρ.2.1 0) p s m i)), some (vI (i : Int)), some (vI (enR (ρ.2.1 0) s (i : Int) m)), some (vI (m : Int))], [vI (i : Int), vR 100], mW τ ρ)) rfl ?_
              have f2 := ownB_r (hb (i : Int))
              refine hR.cv [vI (i : Int)] kX6_74 rfl rfl ⟨_, _, _, rfl, rfl, rfl⟩ (by first | decide | exact Nat.le_refl _) (by decide) (Nat.le_of_ble_eq_true rfl) rfl (sr_ownerAt _ _ (by omega) hb) ?_
              show G (82, [some (vR 100), some (vI p), some (vI s), some (vI (m : Int)), some (vI (enN (τ.2.1 2) (ρ.2.1 0) p s m i)), some (vI (i : Int)), some (vI (enR (ρ.2.1 0) s (i : Int) m)), some (vI (m : Int))], [vI (ownB (τ.2.1 2 (i : Int)))], mW τ ρ)
              refine hR.run0 1 (S' := (83, [some (vR 100), some (vI p), some (vI s), some (vI (m : Int)), some (vI (enN (τ.2.1 2) (ρ.2.1 0) p s m i)), some (vI (i : Int)), some (vI (enR (ρ.2.1 0) s (i : Int) m)), some (vI (m : Int))], [vI p, vI (ownB (τ.2.1 2 (i : Int)))], mW τ ρ)) rfl ?_
              refine hR.br (C := ownB (τ.2.1 2 (i : Int)) = p) rfl (by first | omega | (dsimp only [plus1]; omega) | (simp [plus1, sHt, sH, sS, sAt, sA, sup]; done) | (simp [plus1, sHt, sH, sS, sAt, sA, sup]; omega)) (fun c8 => ?_) (fun c8 => ?_)
              · skip
                refine hR.run0 4 (S' := (97, [some (vR 100), some (vI p), some (vI s), some (vI (m : Int)), some (vI (enN (τ.2.1 2) (ρ.2.1 0) p s m i)), some (vI (i : Int)), some (vI (enR (ρ.2.1 0) s (i : Int) m)), some (vI 0)], [vI 0, vI (enN (τ.2.1 2) (ρ.2.1 0) p s m i)], mW τ ρ)) rfl ?_
                refine hR.br (C := 0 = 0) rfl (by first | omega | (dsimp only [plus1]; omega) | (simp [plus1, sHt, sH, sS, sAt, sA, sup]; done) | (simp [plus1, sHt, sH, sS, sAt, sA, sup]; omega)) (fun c9 => ?_) (fun c9 => ?_)
                · skip
                  refine hR.run1 7 (S' := (6, [some (vR 100), some (vI p), some (vI s), some (vI (m : Int)), some (vI ((enN (τ.2.1 2) (ρ.2.1 0) p s m i) + ((enR (ρ.2.1 0) s (i : Int) m) % 2))), some (vI ((i : Int) + 1)), some (vI (enR (ρ.2.1 0) s (i : Int) m)), some (vI 0)], [], mW τ ρ)) rfl (by first | omega | (dsimp only [plus1]; omega) | (simp [plus1, sHt, sH, sS, sAt, sA, sup]; done) | (simp [plus1, sHt, sH, sS, sAt, sA, sup]; omega)) ?_
                  rw [show enN (τ.2.1 2) (ρ.2.1 0) p s m (i + 1) = ((enN (τ.2.1 2) (ρ.2.1 0) p s m i) + ((enR (ρ.2.1 0) s (i : Int) m) % 2)) from by show enN (τ.2.1 2) (ρ.2.1 0) p s m i + (if bar (τ.2.1 2) p (i : Int) = true then enR (ρ.2.1 0) s (i : Int) m else enR (ρ.2.1 0) s (i : Int) m % 2) = _; first | (rw [if_pos (bar_t (by omega) (by omega))]; done) | (rw [if_neg (bar_f (by omega))]; done)] at ihi
                  refine hR.fg 6 ?_
                  show G (6, [some (vR 100), some (vI p), some (vI s), some (vI (m : Int)), some (vI ((enN (τ.2.1 2) (ρ.2.1 0) p s m i) + ((enR (ρ.2.1 0) s (i : Int) m) % 2))), some (vI ((i : Int) + 1)), none, some (vI 0)], [], mW τ ρ)
                  refine hR.fg 7 ?_
                  show G (6, [some (vR 100), some (vI p), some (vI s), some (vI (m : Int)), some (vI ((enN (τ.2.1 2) (ρ.2.1 0) p s m i) + ((enR (ρ.2.1 0) s (i : Int) m) % 2))), some (vI ((i : Int) + 1)), none, none], [], mW τ ρ)
                  exact ihi
                · exfalso; omega
              · skip
                refine hR.run0 5 (S' := (97, [some (vR 100), some (vI p), some (vI s), some (vI (m : Int)), some (vI (enN (τ.2.1 2) (ρ.2.1 0) p s m i)), some (vI (i : Int)), some (vI (enR (ρ.2.1 0) s (i : Int) m)), some (vI 1)], [vI 1, vI (enN (τ.2.1 2) (ρ.2.1 0) p s m i)], mW τ ρ)) rfl ?_
                refine hR.br (C := 1 = 0) rfl (by first | omega | (dsimp only [plus1]; omega) | (simp [plus1, sHt, sH, sS, sAt, sA, sup]; done) | (simp [plus1, sHt, sH, sS, sAt, sA, sup]; omega)) (fun c10 => ?_) (fun c10 => ?_)
                · exfalso; omega
                refine hR.run0 6 (S' := (6, [some (vR 100), some (vI p), some (vI s), some (vI (m : Int)), some (vI ((enN (τ.2.1 2) (ρ.2.1 0) p s m i) + (enR (ρ.2.1 0) s (i : Int) m))), some (vI ((i : Int) + 1)), some (vI (enR (ρ.2.1 0) s (i : Int) m)), some (vI 1)], [], mW τ ρ)) rfl ?_
                rw [show enN (τ.2.1 2) (ρ.2.1 0) p s m (i + 1) = ((enN (τ.2.1 2) (ρ.2.1 0) p s m i) + (enR (ρ.2.1 0) s (i : Int) m)) from by show enN (τ.2.1 2) (ρ.2.1 0) p s m i + (if bar (τ.2.1 2) p (i : Int) = true then enR (ρ.2.1 0) s (i : Int) m else enR (ρ.2.1 0) s (i : Int) m % 2) = _; first | (rw [if_pos (bar_t (by omega) (by omega))]; done) | (rw [if_neg (bar_f (by omega))]; done)] at ihi
                refine hR.fg 6 ?_
                show G (6, [some (vR 100), some (vI p), some (vI s), some (vI (m : Int)), some (vI ((enN (τ.2.1 2) (ρ.2.1 0) p s m i) + (enR (ρ.2.1 0) s (i : Int) m))), some (vI ((i : Int) + 1)), none, some (vI 1)], [], mW τ ρ)
                refine hR.fg 7 ?_
                show G (6, [some (vR 100), some (vI p), some (vI s), some (vI (m : Int)), some (vI ((enN (τ.2.1 2) (ρ.2.1 0) p s m i) + (enR (ρ.2.1 0) s (i : Int) m))), some (vI ((i : Int) + 1)), none, none], [], mW τ ρ)
                exact ihi
          · exfalso; omega
      exact hL2 0 (Nat.zero_le _)
    · show G (6, [some (vR 100), some (vI p), some (vI s), some (vI (m : Int)), some (vI (enN (τ.2.1 2) (ρ.2.1 0) p s m 24)), some (vI ((24 : Nat) : Int)), none, none], [], mW τ ρ)
      show G (6, [some (vR 100), some (vI p), some (vI s), some (vI (m : Int)), some (vI (enN (τ.2.1 2) (ρ.2.1 0) p s m 24)), some (vI 24), none, none], [], mW τ ρ)
      refine hR.run0 2 (S' := (10, [some (vR 100), some (vI p), some (vI s), some (vI (m : Int)), some (vI (enN (τ.2.1 2) (ρ.2.1 0) p s m 24)), some (vI 24), none, none], [vI 24, vI 24], mW τ ρ)) rfl ?_
      refine hR.br (C := 24 ≤ 24) rfl (by first | omega | (dsimp only [plus1]; omega) | (simp [plus1, sHt, sH, sS, sAt, sA, sup]; done) | (simp [plus1, sHt, sH, sS, sAt, sA, sup]; omega)) (fun c11 => ?_) (fun c11 => ?_)
      · skip
        refine hR.run0 1 (S' := (120, [some (vR 100), some (vI p), some (vI s), some (vI (m : Int)), some (vI (enN (τ.2.1 2) (ρ.2.1 0) p s m 24)), some (vI 24), none, none], [vI (enN (τ.2.1 2) (ρ.2.1 0) p s m 24)], mW τ ρ)) rfl ?_
        exact hR.rt rfl trivial rfl rfl
      · exfalso; omega
  exact hL1 0 (Nat.zero_le _)
