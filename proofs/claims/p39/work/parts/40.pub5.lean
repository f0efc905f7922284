theorem sp_yieldAll (τ κ : St) {u : Int} (hu : 2 ≤ u ∧ u ≤ 12) (hI : Iv τ)  : Sp mX5_yieldAll roC 4 [vR 0, vI u] (cW τ κ) (.inl none) (cW (yaS τ u) (yaK τ κ u)) := by
  have hb := hI.hb
  have hr := hI.hr
  have hg := hI.hg
  have hn := hI.hn
  have h7 := hI.h7
  have hh := hI.hh
  have hsm := hI.hsm
  have hcd := hI.hcd
  have hfr := hI.hfr
  have hkn := hI.hkn
  have hbo := hI.hbo
  have hus := hI.hus
  have hro := hI.hro
  have har := hI.har
  have hth := hI.hth
  have hph := hI.hph
  have htu := hI.htu
  have hrb := hI.hrb
  have hpl := hI.hpl
  have hdu := hI.hdu
  have hdp := hI.hdp
  have hof := hI.hof
  have how := hI.how
  have hga := hI.hga
  have hwa := hI.hwa
  have hck := hI.hck
  have hkz := hI.hkz
  have hcb := hI.hcb
  have hfb := hI.hfb
  have hnr := hI.hnr
  have hpq := hI.hpq
  have hrc := hI.hrc
  have hbc := hI.hbc
  have hcc := hI.hcc
  have hac := hI.hac
  refine Sp.of (lk := lkX5) (tb := bX5_yieldAll) (by decide) lkX5_ok tX5_yieldAll (cW_keys _ _ _ _) (Nat.le_of_ble_eq_true rfl) (fun G hR => ?_)
  refine hR.run0 2 (S' := (2, [some (vR 0), some (vI u), some (vI 0), none], [], cW τ κ)) rfl ?_
  have hG : ∀ g : Nat, g ≤ 5 → G (2, [some (vR 0), some (vI u), some (vI ((g : Nat) : Int)), none], [], cW (ygN τ u g) (ykN τ κ u g)) := by
    refine back (P := fun g : Nat => G (2, [some (vR 0), some (vI u), some (vI ((g : Nat) : Int)), none], [], cW (ygN τ u g) (ykN τ κ u g))) ?_ ?_
    · intro g hig ihg
      replace ihg : G (2, [some (vR 0), some (vI u), some (vI ((g + 1 : Nat) : Int)), none], [], cW (ygN τ u (g + 1)) (ykN τ κ u (g + 1))) := ihg
      show G (2, [some (vR 0), some (vI u), some (vI (g : Int)), none], [], cW (ygN τ u g) (ykN τ κ u g))
      have hk3 := hh 3 (g : Int)
      have e3 : (ygN τ u g).2.2 0 3 (g : Int) = τ.2.2 0 3 (g : Int) := ygN_far τ u g (Int.le_refl _)
      have e2 := ygN_2 τ u g
      have e1 := ygN_s τ u g
      refine hR.run0 2 (S' := (4, [some (vR 0), some (vI u), some (vI (g : Int)), none], [vI 5, vI (g : Int)], cW (ygN τ u g) (ykN τ κ u g))) rfl ?_
      refine hR.br (C := 5 ≤ (g : Int)) rfl (by first | omega | (dsimp only; omega) | (simp [sHt, sH, sS, sAt, sA, sup]; done) | (simp [sHt, sH, sS, sAt, sA, sup]; omega)) (fun c1 => ?_) (fun c1 => ?_)
      · exfalso; omega
      refine hR.run0 6 (S' := (15, [some (vR 0), some (vI u), some (vI (g : Int)), some (vI 0)], [vI 3, vI 0], cW (ygN τ u g) (ykN τ κ u g))) rfl ?_
      refine hR.br (C := 3 ≤ 0) rfl (by first | omega | (dsimp only; omega) | (simp [sHt, sH, sS, sAt, sA, sup]; done) | (simp [sHt, sH, sS, sAt, sA, sup]; omega)) (fun c2 => ?_) (fun c2 => ?_)
      · exfalso; omega
      refine hR.run0 7 (S' := (27, [some (vR 0), some (vI u), some (vI (g : Int)), some (vI 0)], [vI u, vI (g : Int), vI 0, vR 0, vI 0, vR 71], cW (ygN τ u g) (ykN τ κ u g))) rfl ?_
      refine hR.cv [vI 0, vI (g : Int), vI u] kX5_290 rfl rfl ⟨_, _, _, rfl, rfl, rfl⟩ (by first | decide | exact Nat.le_refl _) (by decide) (Nat.le_of_ble_eq_true rfl) rfl (sp_yieldTo _ _ (by omega) (by omega) (by omega) (by rw [e2]; exact hb) (by rw [e2]; exact hg) (by rw [e2]; exact hn) (by rw [e1]; exact hrb) (by rw [e3]; omega)) ?_
      show G (30, [some (vR 0), some (vI u), some (vI (g : Int)), some (vI 0)], [vI (yTo (ygN τ u g) 0 (g : Int) u), vI 0, vR 71], cW (ygN τ u g) (ykN τ κ u g))
      rw [show yTo (ygN τ u g) 0 (g : Int) u = yTo τ 0 (g : Int) u from yTo_c e2 (by rw [e1]) e3]
      refine hR.run1 1 (S' := (31, [some (vR 0), some (vI u), some (vI (g : Int)), some (vI 0)], [], pset (cW (ygN τ u g) (ykN τ κ u g)) 71 (.inl (3, .inl (pup ((ykN τ κ u g).2.1 2) 0 (yTo τ 0 (g : Int) u)))))) rfl (by first | omega | (dsimp only; omega) | (simp [sHt, sH, sS, sAt, sA, sup]; done) | (simp [sHt, sH, sS, sAt, sA, sup]; omega)) ?_
      rw [cW_y2]
      refine hR.run0 6 (S' := (15, [some (vR 0), some (vI u), some (vI (g : Int)), some (vI 1)], [vI 3, vI 1], cW (ygN τ u g) (sAt (ykN τ κ u g) 2 0 (yTo τ 0 (g : Int) u)))) rfl ?_
      refine hR.br (C := 3 ≤ 1) rfl (by first | omega | (dsimp only; omega) | (simp [sHt, sH, sS, sAt, sA, sup]; done) | (simp [sHt, sH, sS, sAt, sA, sup]; omega)) (fun c3 => ?_) (fun c3 => ?_)
      · exfalso; omega
      refine hR.run0 7 (S' := (27, [some (vR 0), some (vI u), some (vI (g : Int)), some (vI 1)], [vI u, vI (g : Int), vI 1, vR 0, vI 1, vR 71], cW (ygN τ u g) (sAt (ykN τ κ u g) 2 0 (yTo τ 0 (g : Int) u)))) rfl ?_
      refine hR.cv [vI 1, vI (g : Int), vI u] kX5_290 rfl rfl ⟨_, _, _, rfl, rfl, rfl⟩ (by first | decide | exact Nat.le_refl _) (by decide) (Nat.le_of_ble_eq_true rfl) rfl (sp_yieldTo _ _ (by omega) (by omega) (by omega) (by rw [e2]; exact hb) (by rw [e2]; exact hg) (by rw [e2]; exact hn) (by rw [e1]; exact hrb) (by rw [e3]; omega)) ?_
      show G (30, [some (vR 0), some (vI u), some (vI (g : Int)), some (vI 1)], [vI (yTo (ygN τ u g) 1 (g : Int) u), vI 1, vR 71], cW (ygN τ u g) (sAt (ykN τ κ u g) 2 0 (yTo τ 0 (g : Int) u)))
      rw [show yTo (ygN τ u g) 1 (g : Int) u = yTo τ 1 (g : Int) u from yTo_c e2 (by rw [e1]) e3]
      refine hR.run1 1 (S' := (31, [some (vR 0), some (vI u), some (vI (g : Int)), some (vI 1)], [], pset (cW (ygN τ u g) (sAt (ykN τ κ u g) 2 0 (yTo τ 0 (g : Int) u))) 71 (.inl (3, .inl (pup ((sAt (ykN τ κ u g) 2 0 (yTo τ 0 (g : Int) u)).2.1 2) 1 (yTo τ 1 (g : Int) u)))))) rfl (by first | omega | (dsimp only; omega) | (simp [sHt, sH, sS, sAt, sA, sup]; done) | (simp [sHt, sH, sS, sAt, sA, sup]; omega)) ?_
      rw [cW_y2]
      refine hR.run0 6 (S' := (15, [some (vR 0), some (vI u), some (vI (g : Int)), some (vI 2)], [vI 3, vI 2], cW (ygN τ u g) (sAt (sAt (ykN τ κ u g) 2 0 (yTo τ 0 (g : Int) u)) 2 1 (yTo τ 1 (g : Int) u)))) rfl ?_
      refine hR.br (C := 3 ≤ 2) rfl (by first | omega | (dsimp only; omega) | (simp [sHt, sH, sS, sAt, sA, sup]; done) | (simp [sHt, sH, sS, sAt, sA, sup]; omega)) (fun c4 => ?_) (fun c4 => ?_)
      · exfalso; omega
      refine hR.run0 7 (S' := (27, [some (vR 0), some (vI u), some (vI (g : Int)), some (vI 2)], [vI u, vI (g : Int), vI 2, vR 0, vI 2, vR 71], cW (ygN τ u g) (sAt (sAt (ykN τ κ u g) 2 0 (yTo τ 0 (g : Int) u)) 2 1 (yTo τ 1 (g : Int) u)))) rfl ?_
      refine hR.cv [vI 2, vI (g : Int), vI u] kX5_290 rfl rfl ⟨_, _, _, rfl, rfl, rfl⟩ (by first | decide | exact Nat.le_refl _) (by decide) (Nat.le_of_ble_eq_true rfl) rfl (sp_yieldTo _ _ (by omega) (by omega) (by omega) (by rw [e2]; exact hb) (by rw [e2]; exact hg) (by rw [e2]; exact hn) (by rw [e1]; exact hrb) (by rw [e3]; omega)) ?_
      show G (30, [some (vR 0), some (vI u), some (vI (g : Int)), some (vI 2)], [vI (yTo (ygN τ u g) 2 (g : Int) u), vI 2, vR 71], cW (ygN τ u g) (sAt (sAt (ykN τ κ u g) 2 0 (yTo τ 0 (g : Int) u)) 2 1 (yTo τ 1 (g : Int) u)))
      rw [show yTo (ygN τ u g) 2 (g : Int) u = yTo τ 2 (g : Int) u from yTo_c e2 (by rw [e1]) e3]
      refine hR.run1 1 (S' := (31, [some (vR 0), some (vI u), some (vI (g : Int)), some (vI 2)], [], pset (cW (ygN τ u g) (sAt (sAt (ykN τ κ u g) 2 0 (yTo τ 0 (g : Int) u)) 2 1 (yTo τ 1 (g : Int) u))) 71 (.inl (3, .inl (pup ((sAt (sAt (ykN τ κ u g) 2 0 (yTo τ 0 (g : Int) u)) 2 1 (yTo τ 1 (g : Int) u)).2.1 2) 2 (yTo τ 2 (g : Int) u)))))) rfl (by first | omega | (dsimp only; omega) | (simp [sHt, sH, sS, sAt, sA, sup]; done) | (simp [sHt, sH, sS, sAt, sA, sup]; omega)) ?_
      rw [cW_y2]
      refine hR.run0 6 (S' := (15, [some (vR 0), some (vI u), some (vI (g : Int)), some (vI 3)], [vI 3, vI 3], cW (ygN τ u g) (sAt (sAt (sAt (ykN τ κ u g) 2 0 (yTo τ 0 (g : Int) u)) 2 1 (yTo τ 1 (g : Int) u)) 2 2 (yTo τ 2 (g : Int) u)))) rfl ?_
      refine hR.br (C := 3 ≤ 3) rfl (by first | omega | (dsimp only; omega) | (simp [sHt, sH, sS, sAt, sA, sup]; done) | (simp [sHt, sH, sS, sAt, sA, sup]; omega)) (fun c5 => ?_) (fun c5 => ?_)
      · skip
        refine hR.run0 6 (S' := (45, [some (vR 0), some (vI u), some (vI (g : Int)), some (vI 0)], [vI 3, vI 0], cW (ygN τ u g) (sAt (sAt (sAt (ykN τ κ u g) 2 0 (yTo τ 0 (g : Int) u)) 2 1 (yTo τ 1 (g : Int) u)) 2 2 (yTo τ 2 (g : Int) u)))) rfl ?_
        refine hR.br (C := 3 ≤ 0) rfl (by first | omega | (dsimp only; omega) | (simp [sHt, sH, sS, sAt, sA, sup]; done) | (simp [sHt, sH, sS, sAt, sA, sup]; omega)) (fun c6 => ?_) (fun c6 => ?_)
        · exfalso; omega
        refine hR.run1 9 (S' := (61, [some (vR 0), some (vI u), some (vI (g : Int)), some (vI 0)], [vI (yTo τ 0 (g : Int) u), vI (g : Int), vI 0, vI 3, vR 10], cW (ygN τ u g) (sAt (sAt (sAt (ykN τ κ u g) 2 0 (yTo τ 0 (g : Int) u)) 2 1 (yTo τ 1 (g : Int) u)) 2 2 (yTo τ 2 (g : Int) u)))) rfl (by first | omega | (dsimp only; omega) | (simp [sHt, sH, sS, sAt, sA, sup]; done) | (simp [sHt, sH, sS, sAt, sA, sup]; omega)) ?_
        refine hR.cv [vI 3, vI 0, vI (g : Int), vI (yTo τ 0 (g : Int) u)] kX5_221 rfl rfl ⟨_, _, _, rfl, rfl, rfl⟩ (by first | decide | exact Nat.le_refl _) (by decide) (Nat.le_of_ble_eq_true rfl) rfl (sp_move _ _ _ (by omega) (by omega) (by omega)) ?_
        show G (64, [some (vR 0), some (vI u), some (vI (g : Int)), some (vI 0)], [], cW (mvS (ygN τ u g) 3 0 (g : Int) (yTo τ 0 (g : Int) u)) (mvK (sAt (sAt (sAt (ykN τ κ u g) 2 0 (yTo τ 0 (g : Int) u)) 2 1 (yTo τ 1 (g : Int) u)) 2 2 (yTo τ 2 (g : Int) u)) 3 0 (g : Int) (yTo τ 0 (g : Int) u)))
        refine hR.run0 6 (S' := (45, [some (vR 0), some (vI u), some (vI (g : Int)), some (vI 1)], [vI 3, vI 1], cW (mvS (ygN τ u g) 3 0 (g : Int) (yTo τ 0 (g : Int) u)) (mvK (sAt (sAt (sAt (ykN τ κ u g) 2 0 (yTo τ 0 (g : Int) u)) 2 1 (yTo τ 1 (g : Int) u)) 2 2 (yTo τ 2 (g : Int) u)) 3 0 (g : Int) (yTo τ 0 (g : Int) u)))) rfl ?_
        refine hR.br (C := 3 ≤ 1) rfl (by first | omega | (dsimp only; omega) | (simp [sHt, sH, sS, sAt, sA, sup]; done) | (simp [sHt, sH, sS, sAt, sA, sup]; omega)) (fun c7 => ?_) (fun c7 => ?_)
        · exfalso; omega
        refine hR.run1 9 (S' := (61, [some (vR 0), some (vI u), some (vI (g : Int)), some (vI 1)], [vI (yTo τ 1 (g : Int) u), vI (g : Int), vI 1, vI 3, vR 10], cW (mvS (ygN τ u g) 3 0 (g : Int) (yTo τ 0 (g : Int) u)) (mvK (sAt (sAt (sAt (ykN τ κ u g) 2 0 (yTo τ 0 (g : Int) u)) 2 1 (yTo τ 1 (g : Int) u)) 2 2 (yTo τ 2 (g : Int) u)) 3 0 (g : Int) (yTo τ 0 (g : Int) u)))) rfl (by first | omega | (dsimp only; omega) | (simp [sHt, sH, sS, sAt, sA, sup]; done) | (simp [sHt, sH, sS, sAt, sA, sup]; omega)) ?_
        refine hR.cv [vI 3, vI 1, vI (g : Int), vI (yTo τ 1 (g : Int) u)] kX5_221 rfl rfl ⟨_, _, _, rfl, rfl, rfl⟩ (by first | decide | exact Nat.le_refl _) (by decide) (Nat.le_of_ble_eq_true rfl) rfl (sp_move _ _ _ (by omega) (by omega) (by omega)) ?_
        show G (64, [some (vR 0), some (vI u), some (vI (g : Int)), some (vI 1)], [], cW (mvS (mvS (ygN τ u g) 3 0 (g : Int) (yTo τ 0 (g : Int) u)) 3 1 (g : Int) (yTo τ 1 (g : Int) u)) (mvK (mvK (sAt (sAt (sAt (ykN τ κ u g) 2 0 (yTo τ 0 (g : Int) u)) 2 1 (yTo τ 1 (g : Int) u)) 2 2 (yTo τ 2 (g : Int) u)) 3 0 (g : Int) (yTo τ 0 (g : Int) u)) 3 1 (g : Int) (yTo τ 1 (g : Int) u)))
        refine hR.run0 6 (S' := (45, [some (vR 0), some (vI u), some (vI (g : Int)), some (vI 2)], [vI 3, vI 2], cW (mvS (mvS (ygN τ u g) 3 0 (g : Int) (yTo τ 0 (g : Int) u)) 3 1 (g : Int) (yTo τ 1 (g : Int) u)) (mvK (mvK (sAt (sAt (sAt (ykN τ κ u g) 2 0 (yTo τ 0 (g : Int) u)) 2 1 (yTo τ 1 (g : Int) u)) 2 2 (yTo τ 2 (g : Int) u)) 3 0 (g : Int) (yTo τ 0 (g : Int) u)) 3 1 (g : Int) (yTo τ 1 (g : Int) u)))) rfl ?_
        refine hR.br (C := 3 ≤ 2) rfl (by first | omega | (dsimp only; omega) | (simp [sHt, sH, sS, sAt, sA, sup]; done) | (simp [sHt, sH, sS, sAt, sA, sup]; omega)) (fun c8 => ?_) (fun c8 => ?_)
        · exfalso; omega
        refine hR.run1 9 (S' := (61, [some (vR 0), some (vI u), some (vI (g : Int)), some (vI 2)], [vI (yTo τ 2 (g : Int) u), vI (g : Int), vI 2, vI 3, vR 10], cW (mvS (mvS (ygN τ u g) 3 0 (g : Int) (yTo τ 0 (g : Int) u)) 3 1 (g : Int) (yTo τ 1 (g : Int) u)) (mvK (mvK (sAt (sAt (sAt (ykN τ κ u g) 2 0 (yTo τ 0 (g : Int) u)) 2 1 (yTo τ 1 (g : Int) u)) 2 2 (yTo τ 2 (g : Int) u)) 3 0 (g : Int) (yTo τ 0 (g : Int) u)) 3 1 (g : Int) (yTo τ 1 (g : Int) u)))) rfl (by first | omega | (dsimp only; omega) | (simp [sHt, sH, sS, sAt, sA, sup]; done) | (simp [sHt, sH, sS, sAt, sA, sup]; omega)) ?_
        refine hR.cv [vI 3, vI 2, vI (g : Int), vI (yTo τ 2 (g : Int) u)] kX5_221 rfl rfl ⟨_, _, _, rfl, rfl, rfl⟩ (by first | decide | exact Nat.le_refl _) (by decide) (Nat.le_of_ble_eq_true rfl) rfl (sp_move _ _ _ (by omega) (by omega) (by omega)) ?_
        show G (64, [some (vR 0), some (vI u), some (vI (g : Int)), some (vI 2)], [], cW (mvS (mvS (mvS (ygN τ u g) 3 0 (g : Int) (yTo τ 0 (g : Int) u)) 3 1 (g : Int) (yTo τ 1 (g : Int) u)) 3 2 (g : Int) (yTo τ 2 (g : Int) u)) (mvK (mvK (mvK (sAt (sAt (sAt (ykN τ κ u g) 2 0 (yTo τ 0 (g : Int) u)) 2 1 (yTo τ 1 (g : Int) u)) 2 2 (yTo τ 2 (g : Int) u)) 3 0 (g : Int) (yTo τ 0 (g : Int) u)) 3 1 (g : Int) (yTo τ 1 (g : Int) u)) 3 2 (g : Int) (yTo τ 2 (g : Int) u)))
        refine hR.run0 6 (S' := (45, [some (vR 0), some (vI u), some (vI (g : Int)), some (vI 3)], [vI 3, vI 3], cW (mvS (mvS (mvS (ygN τ u g) 3 0 (g : Int) (yTo τ 0 (g : Int) u)) 3 1 (g : Int) (yTo τ 1 (g : Int) u)) 3 2 (g : Int) (yTo τ 2 (g : Int) u)) (mvK (mvK (mvK (sAt (sAt (sAt (ykN τ κ u g) 2 0 (yTo τ 0 (g : Int) u)) 2 1 (yTo τ 1 (g : Int) u)) 2 2 (yTo τ 2 (g : Int) u)) 3 0 (g : Int) (yTo τ 0 (g : Int) u)) 3 1 (g : Int) (yTo τ 1 (g : Int) u)) 3 2 (g : Int) (yTo τ 2 (g : Int) u)))) rfl ?_
        refine hR.br (C := 3 ≤ 3) rfl (by first | omega | (dsimp only; omega) | (simp [sHt, sH, sS, sAt, sA, sup]; done) | (simp [sHt, sH, sS, sAt, sA, sup]; omega)) (fun c9 => ?_) (fun c9 => ?_)
        · skip
          refine hR.run0 2 (S' := (2, [some (vR 0), some (vI u), some (vI ((g : Int) + 1)), some (vI 3)], [], cW (mvS (mvS (mvS (ygN τ u g) 3 0 (g : Int) (yTo τ 0 (g : Int) u)) 3 1 (g : Int) (yTo τ 1 (g : Int) u)) 3 2 (g : Int) (yTo τ 2 (g : Int) u)) (mvK (mvK (mvK (sAt (sAt (sAt (ykN τ κ u g) 2 0 (yTo τ 0 (g : Int) u)) 2 1 (yTo τ 1 (g : Int) u)) 2 2 (yTo τ 2 (g : Int) u)) 3 0 (g : Int) (yTo τ 0 (g : Int) u)) 3 1 (g : Int) (yTo τ 1 (g : Int) u)) 3 2 (g : Int) (yTo τ 2 (g : Int) u)))) rfl ?_
          refine hR.fg 3 ?_
          show G (2, [some (vR 0), some (vI u), some (vI ((g : Int) + 1)), none], [], cW (mvS (mvS (mvS (ygN τ u g) 3 0 (g : Int) (yTo τ 0 (g : Int) u)) 3 1 (g : Int) (yTo τ 1 (g : Int) u)) 3 2 (g : Int) (yTo τ 2 (g : Int) u)) (mvK (mvK (mvK (sAt (sAt (sAt (ykN τ κ u g) 2 0 (yTo τ 0 (g : Int) u)) 2 1 (yTo τ 1 (g : Int) u)) 2 2 (yTo τ 2 (g : Int) u)) 3 0 (g : Int) (yTo τ 0 (g : Int) u)) 3 1 (g : Int) (yTo τ 1 (g : Int) u)) 3 2 (g : Int) (yTo τ 2 (g : Int) u)))
          rw [show cW (ygN τ u (g + 1)) (ykN τ κ u (g + 1)) = cW (mvS (mvS (mvS (ygN τ u g) 3 0 (g : Int) (yTo τ 0 (g : Int) u)) 3 1 (g : Int) (yTo τ 1 (g : Int) u)) 3 2 (g : Int) (yTo τ 2 (g : Int) u)) (mvK (mvK (mvK (sAt (sAt (sAt (ykN τ κ u g) 2 0 (yTo τ 0 (g : Int) u)) 2 1 (yTo τ 1 (g : Int) u)) 2 2 (yTo τ 2 (g : Int) u)) 3 0 (g : Int) (yTo τ 0 (g : Int) u)) 3 1 (g : Int) (yTo τ 1 (g : Int) u)) 3 2 (g : Int) (yTo τ 2 (g : Int) u)) from by rfl] at ihg
          exact ihg
        · exfalso; omega
      · exfalso; omega
    · show G (2, [some (vR 0), some (vI u), some (vI ((5 : Nat) : Int)), none], [], cW (ygN τ u 5) (ykN τ κ u 5))
      show G (2, [some (vR 0), some (vI u), some (vI 5), none], [], cW (ygN τ u 5) (ykN τ κ u 5))
      rw [yg_all]
      rw [show ykN τ κ u 5 = yaK τ κ u from rfl]
      refine hR.run0 2 (S' := (4, [some (vR 0), some (vI u), some (vI 5), none], [vI 5, vI 5], cW (yaS τ u) (yaK τ κ u))) rfl ?_
      refine hR.br (C := 5 ≤ 5) rfl (by first | omega | (dsimp only; omega) | (simp [sHt, sH, sS, sAt, sA, sup]; done) | (simp [sHt, sH, sS, sAt, sA, sup]; omega)) (fun c10 => ?_) (fun c10 => ?_)
      · skip
        exact hR.rt rfl trivial (by rfl) (by rfl)
      · exfalso; omega
  exact hG 0 (Nat.zero_le _)
theorem sp_demandDiscards (τ κ : St) (hh : ∀ p g, 0 ≤ τ.2.2 0 p g ∧ τ.2.2 0 p g ≤ 12) (hdu : ∀ p, 0 ≤ τ.2.1 4 p ∧ τ.2.1 4 p ≤ 30) : Sp mX5_demandDiscards roC 3 [vR 0] (cW τ κ) (.inl none) (cW (demS τ) κ) := by
  refine Sp.of (lk := lkX5) (tb := bX5_demandDiscards) (by decide) lkX5_ok tX5_demandDiscards (cW_keys _ _ _ _) (Nat.le_of_ble_eq_true rfl) (fun G hR => ?_)
  refine hR.run0 4 (S' := (4, [some (vR 0), some (vI 0), none], [vI 3, vI 0], cW τ κ)) rfl ?_
  refine hR.br (C := 3 ≤ 0) rfl (by first | omega | (dsimp only; omega) | (simp [sHt, sH, sS, sAt, sA, sup]; done) | (simp [sHt, sH, sS, sAt, sA, sup]; omega)) (fun c1 => ?_) (fun c1 => ?_)
  · exfalso; omega
  refine hR.run0 3 (S' := (12, [some (vR 0), some (vI 0), none], [vI 0, vR 10], cW τ κ)) rfl ?_
  have tt0 := tot_r hh 0
  refine hR.cv [vI 0] kX5_138 rfl rfl ⟨_, _, _, rfl, rfl, rfl⟩ (by first | decide | exact Nat.le_refl _) (by decide) (Nat.le_of_ble_eq_true rfl) rfl (sp_total _ _ (by omega) hh) ?_
  show G (15, [some (vR 0), some (vI 0), none], [vI (tot (τ.2.2 0) 0)], cW τ κ)
  refine hR.run0 5 (S' := (21, [some (vR 0), some (vI 0), some (vI (tot (τ.2.2 0) 0))], [vI 7, vI (tot (τ.2.2 0) 0), vI 0, vR 0], cW τ κ)) rfl ?_
  refine hR.br (C := tot (τ.2.2 0) 0 ≤ 7) rfl (by first | omega | (dsimp only; omega) | (simp [sHt, sH, sS, sAt, sA, sup]; done) | (simp [sHt, sH, sS, sAt, sA, sup]; omega)) (fun c2 => ?_) (fun c2 => ?_)
  · skip
    refine hR.run0 1 (S' := (31, [some (vR 0), some (vI 0), some (vI (tot (τ.2.2 0) 0))], [vI 0, vI 0, vR 0], cW τ κ)) rfl ?_
    refine hR.cv [vI 0, vI 0] kX5_155 rfl rfl ⟨_, _, _, rfl, rfl, rfl⟩ (by first | decide | exact Nat.le_refl _) (by decide) (Nat.le_of_ble_eq_true rfl) rfl (sp_setDue _ _ _ (by omega)) ?_
    show G (34, [some (vR 0), some (vI 0), some (vI (tot (τ.2.2 0) 0))], [], cW (sAt τ 4 0 0) κ)
    rw [show cW (sAt τ 4 0 0) κ = cW (sAt τ 4 0 (half (tot (τ.2.2 0) 0))) κ from by rw [show half (tot (τ.2.2 0) 0) = 0 from by unfold half; split <;> omega]]
    refine hR.run0 4 (S' := (4, [some (vR 0), some (vI 1), some (vI (tot (τ.2.2 0) 0))], [vI 3, vI 1], cW (sAt τ 4 0 (half (tot (τ.2.2 0) 0))) κ)) rfl ?_
    refine hR.br (C := 3 ≤ 1) rfl (by first | omega | (dsimp only; omega) | (simp [sHt, sH, sS, sAt, sA, sup]; done) | (simp [sHt, sH, sS, sAt, sA, sup]; omega)) (fun c3 => ?_) (fun c3 => ?_)
    · exfalso; omega
    refine hR.run0 3 (S' := (12, [some (vR 0), some (vI 1), some (vI (tot (τ.2.2 0) 0))], [vI 1, vR 10], cW (sAt τ 4 0 (half (tot (τ.2.2 0) 0))) κ)) rfl ?_
    have tt1 := tot_r hh 1
    refine hR.cv [vI 1] kX5_138 rfl rfl ⟨_, _, _, rfl, rfl, rfl⟩ (by first | decide | exact Nat.le_refl _) (by decide) (Nat.le_of_ble_eq_true rfl) rfl (sp_total _ _ (by omega) hh) ?_
    show G (15, [some (vR 0), some (vI 1), some (vI (tot (τ.2.2 0) 0))], [vI (tot (τ.2.2 0) 1)], cW (sAt τ 4 0 (half (tot (τ.2.2 0) 0))) κ)
    refine hR.run0 5 (S' := (21, [some (vR 0), some (vI 1), some (vI (tot (τ.2.2 0) 1))], [vI 7, vI (tot (τ.2.2 0) 1), vI 1, vR 0], cW (sAt τ 4 0 (half (tot (τ.2.2 0) 0))) κ)) rfl ?_
    refine hR.br (C := tot (τ.2.2 0) 1 ≤ 7) rfl (by first | omega | (dsimp only; omega) | (simp [sHt, sH, sS, sAt, sA, sup]; done) | (simp [sHt, sH, sS, sAt, sA, sup]; omega)) (fun c4 => ?_) (fun c4 => ?_)
    · skip
      refine hR.run0 1 (S' := (31, [some (vR 0), some (vI 1), some (vI (tot (τ.2.2 0) 1))], [vI 0, vI 1, vR 0], cW (sAt τ 4 0 (half (tot (τ.2.2 0) 0))) κ)) rfl ?_
      refine hR.cv [vI 1, vI 0] kX5_155 rfl rfl ⟨_, _, _, rfl, rfl, rfl⟩ (by first | decide | exact Nat.le_refl _) (by decide) (Nat.le_of_ble_eq_true rfl) rfl (sp_setDue _ _ _ (by omega)) ?_
      show G (34, [some (vR 0), some (vI 1), some (vI (tot (τ.2.2 0) 1))], [], cW (sAt (sAt τ 4 0 (half (tot (τ.2.2 0) 0))) 4 1 0) κ)
      rw [show cW (sAt (sAt τ 4 0 (half (tot (τ.2.2 0) 0))) 4 1 0) κ = cW (sAt (sAt τ 4 0 (half (tot (τ.2.2 0) 0))) 4 1 (half (tot (τ.2.2 0) 1))) κ from by rw [show half (tot (τ.2.2 0) 1) = 0 from by unfold half; split <;> omega]]
      refine hR.run0 4 (S' := (4, [some (vR 0), some (vI 2), some (vI (tot (τ.2.2 0) 1))], [vI 3, vI 2], cW (sAt (sAt τ 4 0 (half (tot (τ.2.2 0) 0))) 4 1 (half (tot (τ.2.2 0) 1))) κ)) rfl ?_
      refine hR.br (C := 3 ≤ 2) rfl (by first | omega | (dsimp only; omega) | (simp [sHt, sH, sS, sAt, sA, sup]; done) | (simp [sHt, sH, sS, sAt, sA, sup]; omega)) (fun c5 => ?_) (fun c5 => ?_)
      · exfalso; omega
      refine hR.run0 3 (S' := (12, [some (vR 0), some (vI 2), some (vI (tot (τ.2.2 0) 1))], [vI 2, vR 10], cW (sAt (sAt τ 4 0 (half (tot (τ.2.2 0) 0))) 4 1 (half (tot (τ.2.2 0) 1))) κ)) rfl ?_
      have tt2 := tot_r hh 2
      refine hR.cv [vI 2] kX5_138 rfl rfl ⟨_, _, _, rfl, rfl, rfl⟩ (by first | decide | exact Nat.le_refl _) (by decide) (Nat.le_of_ble_eq_true rfl) rfl (sp_total _ _ (by omega) hh) ?_
      show G (15, [some (vR 0), some (vI 2), some (vI (tot (τ.2.2 0) 1))], [vI (tot (τ.2.2 0) 2)], cW (sAt (sAt τ 4 0 (half (tot (τ.2.2 0) 0))) 4 1 (half (tot (τ.2.2 0) 1))) κ)
      refine hR.run0 5 (S' := (21, [some (vR 0), some (vI 2), some (vI (tot (τ.2.2 0) 2))], [vI 7, vI (tot (τ.2.2 0) 2), vI 2, vR 0], cW (sAt (sAt τ 4 0 (half (tot (τ.2.2 0) 0))) 4 1 (half (tot (τ.2.2 0) 1))) κ)) rfl ?_
      refine hR.br (C := tot (τ.2.2 0) 2 ≤ 7) rfl (by first | omega | (dsimp only; omega) | (simp [sHt, sH, sS, sAt, sA, sup]; done) | (simp [sHt, sH, sS, sAt, sA, sup]; omega)) (fun c6 => ?_) (fun c6 => ?_)
      · skip
        refine hR.run0 1 (S' := (31, [some (vR 0), some (vI 2), some (vI (tot (τ.2.2 0) 2))], [vI 0, vI 2, vR 0], cW (sAt (sAt τ 4 0 (half (tot (τ.2.2 0) 0))) 4 1 (half (tot (τ.2.2 0) 1))) κ)) rfl ?_
        refine hR.cv [vI 2, vI 0] kX5_155 rfl rfl ⟨_, _, _, rfl, rfl, rfl⟩ (by first | decide | exact Nat.le_refl _) (by decide) (Nat.le_of_ble_eq_true rfl) rfl (sp_setDue _ _ _ (by omega)) ?_
        show G (34, [some (vR 0), some (vI 2), some (vI (tot (τ.2.2 0) 2))], [], cW (sAt (sAt (sAt τ 4 0 (half (tot (τ.2.2 0) 0))) 4 1 (half (tot (τ.2.2 0) 1))) 4 2 0) κ)
        rw [show cW (sAt (sAt (sAt τ 4 0 (half (tot (τ.2.2 0) 0))) 4 1 (half (tot (τ.2.2 0) 1))) 4 2 0) κ = cW (sAt (sAt (sAt τ 4 0 (half (tot (τ.2.2 0) 0))) 4 1 (half (tot (τ.2.2 0) 1))) 4 2 (half (tot (τ.2.2 0) 2))) κ from by rw [show half (tot (τ.2.2 0) 2) = 0 from by unfold half; split <;> omega]]
        refine hR.run0 4 (S' := (4, [some (vR 0), some (vI 3), some (vI (tot (τ.2.2 0) 2))], [vI 3, vI 3], cW (sAt (sAt (sAt τ 4 0 (half (tot (τ.2.2 0) 0))) 4 1 (half (tot (τ.2.2 0) 1))) 4 2 (half (tot (τ.2.2 0) 2))) κ)) rfl ?_
        refine hR.br (C := 3 ≤ 3) rfl (by first | omega | (dsimp only; omega) | (simp [sHt, sH, sS, sAt, sA, sup]; done) | (simp [sHt, sH, sS, sAt, sA, sup]; omega)) (fun c7 => ?_) (fun c7 => ?_)
        · skip
          refine hR.run0 2 (S' := (42, [some (vR 0), some (vI 3), some (vI (tot (τ.2.2 0) 2))], [vR 0, vR 0], cW (sAt (sAt (sAt τ 4 0 (half (tot (τ.2.2 0) 0))) 4 1 (half (tot (τ.2.2 0) 1))) 4 2 (half (tot (τ.2.2 0) 2))) κ)) rfl ?_
          refine hR.cv [] kX5_158 rfl rfl ⟨_, _, _, rfl, rfl, rfl⟩ (by first | decide | exact Nat.le_refl _) (by decide) (Nat.le_of_ble_eq_true rfl) rfl (sp_isAnyDue _ _ (pup_b (pup_b (pup_b hdu (half_r (tot_r hh 0))) (half_r (tot_r hh 1))) (half_r (tot_r hh 2)))) ?_
          show G (45, [some (vR 0), some (vI 3), some (vI (tot (τ.2.2 0) 2))], [vI (bI (anyDue ((sAt (sAt (sAt τ 4 0 (half (tot (τ.2.2 0) 0))) 4 1 (half (tot (τ.2.2 0) 1))) 4 2 (half (tot (τ.2.2 0) 2))).2.1 4))), vR 0], cW (sAt (sAt (sAt τ 4 0 (half (tot (τ.2.2 0) 0))) 4 1 (half (tot (τ.2.2 0) 1))) 4 2 (half (tot (τ.2.2 0) 2))) κ)
          refine hR.br (C := bI (anyDue ((sAt (sAt (sAt τ 4 0 (half (tot (τ.2.2 0) 0))) 4 1 (half (tot (τ.2.2 0) 1))) 4 2 (half (tot (τ.2.2 0) 2))).2.1 4)) = 0) rfl (bI_r _) (fun c8 => ?_) (fun c8 => ?_)
          · replace c8 : (anyDue ((sAt (sAt (sAt τ 4 0 (half (tot (τ.2.2 0) 0))) 4 1 (half (tot (τ.2.2 0) 1))) 4 2 (half (tot (τ.2.2 0) 2))).2.1 4)) = false := bI0 c8
            refine hR.run0 2 (S' := (56, [some (vR 0), some (vI 3), some (vI (tot (τ.2.2 0) 2))], [], pset (cW (sAt (sAt (sAt τ 4 0 (half (tot (τ.2.2 0) 0))) 4 1 (half (tot (τ.2.2 0) 1))) 4 2 (half (tot (τ.2.2 0) 2))) κ) 0 (.inr (5, [vR 1, vR 10, vR 40, vR 50, vR 60, vR 70, vR 71, vI 4, vI ((sAt (sAt (sAt τ 4 0 (half (tot (τ.2.2 0) 0))) 4 1 (half (tot (τ.2.2 0) 1))) 4 2 (half (tot (τ.2.2 0) 2))).1 1), vI ((sAt (sAt (sAt τ 4 0 (half (tot (τ.2.2 0) 0))) 4 1 (half (tot (τ.2.2 0) 1))) 4 2 (half (tot (τ.2.2 0) 2))).1 2), vI ((sAt (sAt (sAt τ 4 0 (half (tot (τ.2.2 0) 0))) 4 1 (half (tot (τ.2.2 0) 1))) 4 2 (half (tot (τ.2.2 0) 2))).1 3), vI ((sAt (sAt (sAt τ 4 0 (half (tot (τ.2.2 0) 0))) 4 1 (half (tot (τ.2.2 0) 1))) 4 2 (half (tot (τ.2.2 0) 2))).1 4)])))) rfl ?_
            rw [cW_s0]
            exact hR.rt rfl trivial rfl (by unfold demS; split <;> first | rfl | (exfalso; simp_all; done))
          · replace c8 : (anyDue ((sAt (sAt (sAt τ 4 0 (half (tot (τ.2.2 0) 0))) 4 1 (half (tot (τ.2.2 0) 1))) 4 2 (half (tot (τ.2.2 0) 2))).2.1 4)) = true := bI1 c8
            refine hR.run0 3 (S' := (56, [some (vR 0), some (vI 3), some (vI (tot (τ.2.2 0) 2))], [], pset (cW (sAt (sAt (sAt τ 4 0 (half (tot (τ.2.2 0) 0))) 4 1 (half (tot (τ.2.2 0) 1))) 4 2 (half (tot (τ.2.2 0) 2))) κ) 0 (.inr (5, [vR 1, vR 10, vR 40, vR 50, vR 60, vR 70, vR 71, vI 3, vI ((sAt (sAt (sAt τ 4 0 (half (tot (τ.2.2 0) 0))) 4 1 (half (tot (τ.2.2 0) 1))) 4 2 (half (tot (τ.2.2 0) 2))).1 1), vI ((sAt (sAt (sAt τ 4 0 (half (tot (τ.2.2 0) 0))) 4 1 (half (tot (τ.2.2 0) 1))) 4 2 (half (tot (τ.2.2 0) 2))).1 2), vI ((sAt (sAt (sAt τ 4 0 (half (tot (τ.2.2 0) 0))) 4 1 (half (tot (τ.2.2 0) 1))) 4 2 (half (tot (τ.2.2 0) 2))).1 3), vI ((sAt (sAt (sAt τ 4 0 (half (tot (τ.2.2 0) 0))) 4 1 (half (tot (τ.2.2 0) 1))) 4 2 (half (tot (τ.2.2 0) 2))).1 4)])))) rfl ?_
            rw [cW_s0]
            exact hR.rt rfl trivial rfl (by unfold demS; split <;> first | rfl | (exfalso; simp_all; done))
        · exfalso; omega
      · skip
        refine hR.run1 4 (S' := (31, [some (vR 0), some (vI 2), some (vI (tot (τ.2.2 0) 2))], [vI ((tot (τ.2.2 0) 2) / 2), vI 2, vR 0], cW (sAt (sAt τ 4 0 (half (tot (τ.2.2 0) 0))) 4 1 (half (tot (τ.2.2 0) 1))) κ)) rfl (by first | omega | (dsimp only; omega) | (simp [sHt, sH, sS, sAt, sA, sup]; done) | (simp [sHt, sH, sS, sAt, sA, sup]; omega)) ?_
        refine hR.cv [vI 2, vI ((tot (τ.2.2 0) 2) / 2)] kX5_155 rfl rfl ⟨_, _, _, rfl, rfl, rfl⟩ (by first | decide | exact Nat.le_refl _) (by decide) (Nat.le_of_ble_eq_true rfl) rfl (sp_setDue _ _ _ (by omega)) ?_
        show G (34, [some (vR 0), some (vI 2), some (vI (tot (τ.2.2 0) 2))], [], cW (sAt (sAt (sAt τ 4 0 (half (tot (τ.2.2 0) 0))) 4 1 (half (tot (τ.2.2 0) 1))) 4 2 ((tot (τ.2.2 0) 2) / 2)) κ)
        rw [show cW (sAt (sAt (sAt τ 4 0 (half (tot (τ.2.2 0) 0))) 4 1 (half (tot (τ.2.2 0) 1))) 4 2 ((tot (τ.2.2 0) 2) / 2)) κ = cW (sAt (sAt (sAt τ 4 0 (half (tot (τ.2.2 0) 0))) 4 1 (half (tot (τ.2.2 0) 1))) 4 2 (half (tot (τ.2.2 0) 2))) κ from by rw [show half (tot (τ.2.2 0) 2) = (tot (τ.2.2 0) 2) / 2 from by unfold half; split <;> omega]]
        refine hR.run0 4 (S' := (4, [some (vR 0), some (vI 3), some (vI (tot (τ.2.2 0) 2))], [vI 3, vI 3], cW (sAt (sAt (sAt τ 4 0 (half (tot (τ.2.2 0) 0))) 4 1 (half (tot (τ.2.2 0) 1))) 4 2 (half (tot (τ.2.2 0) 2))) κ)) rfl ?_
        refine hR.br (C := 3 ≤ 3) rfl (by first | omega | (dsimp only; omega) | (simp [sHt, sH, sS, sAt, sA, sup]; done) | (simp [sHt, sH, sS, sAt, sA, sup]; omega)) (fun c9 => ?_) (fun c9 => ?_)
        · skip
          refine hR.run0 2 (S' := (42, [some (vR 0), some (vI 3), some (vI (tot (τ.2.2 0) 2))], [vR 0, vR 0], cW (sAt (sAt (sAt τ 4 0 (half (tot (τ.2.2 0) 0))) 4 1 (half (tot (τ.2.2 0) 1))) 4 2 (half (tot (τ.2.2 0) 2))) κ)) rfl ?_
          refine hR.cv [] kX5_158 rfl rfl ⟨_, _, _, rfl, rfl, rfl⟩ (by first | decide | exact Nat.le_refl _) (by decide) (Nat.le_of_ble_eq_true rfl) rfl (sp_isAnyDue _ _ (pup_b (pup_b (pup_b hdu (half_r (tot_r hh 0))) (half_r (tot_r hh 1))) (half_r (tot_r hh 2)))) ?_
          show G (45, [some (vR 0), some (vI 3), some (vI (tot (τ.2.2 0) 2))], [vI (bI (anyDue ((sAt (sAt (sAt τ 4 0 (half (tot (τ.2.2 0) 0))) 4 1 (half (tot (τ.2.2 0) 1))) 4 2 (half (tot (τ.2.2 0) 2))).2.1 4))), vR 0], cW (sAt (sAt (sAt τ 4 0 (half (tot (τ.2.2 0) 0))) 4 1 (half (tot (τ.2.2 0) 1))) 4 2 (half (tot (τ.2.2 0) 2))) κ)
          refine hR.br (C := bI (anyDue ((sAt (sAt (sAt τ 4 0 (half (tot (τ.2.2 0) 0))) 4 1 (half (tot (τ.2.2 0) 1))) 4 2 (half (tot (τ.2.2 0) 2))).2.1 4)) = 0) rfl (bI_r _) (fun c10 => ?_) (fun c10 => ?_)
          · replace c10 : (anyDue ((sAt (sAt (sAt τ 4 0 (half (tot (τ.2.2 0) 0))) 4 1 (half (tot (τ.2.2 0) 1))) 4 2 (half (tot (τ.2.2 0) 2))).2.1 4)) = false := bI0 c10
            refine hR.run0 2 (S' := (56, [some (vR 0), some (vI 3), some (vI (tot (τ.2.2 0) 2))], [], pset (cW (sAt (sAt (sAt τ 4 0 (half (tot (τ.2.2 0) 0))) 4 1 (half (tot (τ.2.2 0) 1))) 4 2 (half (tot (τ.2.2 0) 2))) κ) 0 (.inr (5, [vR 1, vR 10, vR 40, vR 50, vR 60, vR 70, vR 71, vI 4, vI ((sAt (sAt (sAt τ 4 0 (half (tot (τ.2.2 0) 0))) 4 1 (half (tot (τ.2.2 0) 1))) 4 2 (half (tot (τ.2.2 0) 2))).1 1), vI ((sAt (sAt (sAt τ 4 0 (half (tot (τ.2.2 0) 0))) 4 1 (half (tot (τ.2.2 0) 1))) 4 2 (half (tot (τ.2.2 0) 2))).1 2), vI ((sAt (sAt (sAt τ 4 0 (half (tot (τ.2.2 0) 0))) 4 1 (half (tot (τ.2.2 0) 1))) 4 2 (half (tot (τ.2.2 0) 2))).1 3), vI ((sAt (sAt (sAt τ 4 0 (half (tot (τ.2.2 0) 0))) 4 1 (half (tot (τ.2.2 0) 1))) 4 2 (half (tot (τ.2.2 0) 2))).1 4)])))) rfl ?_
            rw [cW_s0]
            exact hR.rt rfl trivial rfl (by unfold demS; split <;> first | rfl | (exfalso; simp_all; done))
          · replace c10 : (anyDue ((sAt (sAt (sAt τ 4 0 (half (tot (τ.2.2 0) 0))) 4 1 (half (tot (τ.2.2 0) 1))) 4 2 (half (tot (τ.2.2 0) 2))).2.1 4)) = true := bI1 c10
            refine hR.run0 3 (S' := (56, [some (vR 0), some (vI 3), some (vI (tot (τ.2.2 0) 2))], [], pset (cW (sAt (sAt (sAt τ 4 0 (half (tot (τ.2.2 0) 0))) 4 1 (half (tot (τ.2.2 0) 1))) 4 2 (half (tot (τ.2.2 0) 2))) κ) 0 (.inr (5, [vR 1, vR 10, vR 40, vR 50, vR 60, vR 70, vR 71, vI 3, vI ((sAt (sAt (sAt τ 4 0 (half (tot (τ.2.2 0) 0))) 4 1 (half (tot (τ.2.2 0) 1))) 4 2 (half (tot (τ.2.2 0) 2))).1 1), vI ((sAt (sAt (sAt τ 4 0 (half (tot (τ.2.2 0) 0))) 4 1 (half (tot (τ.2.2 0) 1))) 4 2 (half (tot (τ.2.2 0) 2))).1 2), vI ((sAt (sAt (sAt τ 4 0 (half (tot (τ.2.2 0) 0))) 4 1 (half (tot (τ.2.2 0) 1))) 4 2 (half (tot (τ.2.2 0) 2))).1 3), vI ((sAt (sAt (sAt τ 4 0 (half (tot (τ.2.2 0) 0))) 4 1 (half (tot (τ.2.2 0) 1))) 4 2 (half (tot (τ.2.2 0) 2))).1 4)])))) rfl ?_
            rw [cW_s0]
            exact hR.rt rfl trivial rfl (by unfold demS; split <;> first | rfl | (exfalso; simp_all; done))
        · exfalso; omega
    · skip
      refine hR.run1 4 (S' := (31, [some (vR 0), some (vI 1), some (vI (tot (τ.2.2 0) 1))], [vI ((tot (τ.2.2 0) 1) / 2), vI 1, vR 0], cW (sAt τ 4 0 (half (tot (τ.2.2 0) 0))) κ)) rfl (by first | omega | (dsimp only; omega) | (simp [sHt, sH, sS, sAt, sA, sup]; done) | (simp [sHt, sH, sS, sAt, sA, sup]; omega)) ?_
      refine hR.cv [vI 1, vI ((tot (τ.2.2 0) 1) / 2)] kX5_155 rfl rfl ⟨_, _, _, rfl, rfl, rfl⟩ (by first | decide | exact Nat.le_refl _) (by decide) (Nat.le_of_ble_eq_true rfl) rfl (sp_setDue _ _ _ (by omega)) ?_
      show G (34, [some (vR 0), some (vI 1), some (vI (tot (τ.2.2 0) 1))], [], cW (sAt (sAt τ 4 0 (half (tot (τ.2.2 0) 0))) 4 1 ((tot (τ.2.2 0) 1) / 2)) κ)
      rw [show cW (sAt (sAt τ 4 0 (half (tot (τ.2.2 0) 0))) 4 1 ((tot (τ.2.2 0) 1) / 2)) κ = cW (sAt (sAt τ 4 0 (half (tot (τ.2.2 0) 0))) 4 1 (half (tot (τ.2.2 0) 1))) κ from by rw [show half (tot (τ.2.2 0) 1) = (tot (τ.2.2 0) 1) / 2 from by unfold half; split <;> omega]]
      refine hR.run0 4 (S' := (4, [some (vR 0), some (vI 2), some (vI (tot (τ.2.2 0) 1))], [vI 3, vI 2], cW (sAt (sAt τ 4 0 (half (tot (τ.2.2 0) 0))) 4 1 (half (tot (τ.2.2 0) 1))) κ)) rfl ?_
      refine hR.br (C := 3 ≤ 2) rfl (by first | omega | (dsimp only; omega) | (simp [sHt, sH, sS, sAt, sA, sup]; done) | (simp [sHt, sH, sS, sAt, sA, sup]; omega)) (fun c11 => ?_) (fun c11 => ?_)
      · exfalso; omega
      refine hR.run0 3 (S' := (12, [some (vR 0), some (vI 2), some (vI (tot (τ.2.2 0) 1))], [vI 2, vR 10], cW (sAt (sAt τ 4 0 (half (tot (τ.2.2 0) 0))) 4 1 (half (tot (τ.2.2 0) 1))) κ)) rfl ?_
      have tt2 := tot_r hh 2
      refine hR.cv [vI 2] kX5_138 rfl rfl ⟨_, _, _, rfl, rfl, rfl⟩ (by first | decide | exact Nat.le_refl _) (by decide) (Nat.le_of_ble_eq_true rfl) rfl (sp_total _ _ (by omega) hh) ?_
      show G (15, [some (vR 0), some (vI 2), some (vI (tot (τ.2.2 0) 1))], [vI (tot (τ.2.2 0) 2)], cW (sAt (sAt τ 4 0 (half (tot (τ.2.2 0) 0))) 4 1 (half (tot (τ.2.2 0) 1))) κ)
      refine hR.run0 5 (S' := (21, [some (vR 0), some (vI 2), some (vI (tot (τ.2.2 0) 2))], [vI 7, vI (tot (τ.2.2 0) 2), vI 2, vR 0], cW (sAt (sAt τ 4 0 (half (tot (τ.2.2 0) 0))) 4 1 (half (tot (τ.2.2 0) 1))) κ)) rfl ?_
      refine hR.br (C := tot (τ.2.2 0) 2 ≤ 7) rfl (by first | omega | (dsimp only; omega) | (simp [sHt, sH, sS, sAt, sA, sup]; done) | (simp [sHt, sH, sS, sAt, sA, sup]; omega)) (fun c12 => ?_) (fun c12 => ?_)
      · skip
        refine hR.run0 1 (S' := (31, [some (vR 0), some (vI 2), some (vI (tot (τ.2.2 0) 2))], [vI 0, vI 2, vR 0], cW (sAt (sAt τ 4 0 (half (tot (τ.2.2 0) 0))) 4 1 (half (tot (τ.2.2 0) 1))) κ)) rfl ?_
        refine hR.cv [vI 2, vI 0] kX5_155 rfl rfl ⟨_, _, _, rfl, rfl, rfl⟩ (by first | decide | exact Nat.le_refl _) (by decide) (Nat.le_of_ble_eq_true rfl) rfl (sp_setDue _ _ _ (by omega)) ?_
        show G (34, [some (vR 0), some (vI 2), some (vI (tot (τ.2.2 0) 2))], [], cW (sAt (sAt (sAt τ 4 0 (half (tot (τ.2.2 0) 0))) 4 1 (half (tot (τ.2.2 0) 1))) 4 2 0) κ)
        rw [show cW (sAt (sAt (sAt τ 4 0 (half (tot (τ.2.2 0) 0))) 4 1 (half (tot (τ.2.2 0) 1))) 4 2 0) κ = cW (sAt (sAt (sAt τ 4 0 (half (tot (τ.2.2 0) 0))) 4 1 (half (tot (τ.2.2 0) 1))) 4 2 (half (tot (τ.2.2 0) 2))) κ from by rw [show half (tot (τ.2.2 0) 2) = 0 from by unfold half; split <;> omega]]
        refine hR.run0 4 (S' := (4, [some (vR 0), some (vI 3), some (vI (tot (τ.2.2 0) 2))], [vI 3, vI 3], cW (sAt (sAt (sAt τ 4 0 (half (tot (τ.2.2 0) 0))) 4 1 (half (tot (τ.2.2 0) 1))) 4 2 (half (tot (τ.2.2 0) 2))) κ)) rfl ?_
        refine hR.br (C := 3 ≤ 3) rfl (by first | omega | (dsimp only; omega) | (simp [sHt, sH, sS, sAt, sA, sup]; done) | (simp [sHt, sH, sS, sAt, sA, sup]; omega)) (fun c13 => ?_) (fun c13 => ?_)
        · skip
          refine hR.run0 2 (S' := (42, [some (vR 0), some (vI 3), some (vI (tot (τ.2.2 0) 2))], [vR 0, vR 0], cW (sAt (sAt (sAt τ 4 0 (half (tot (τ.2.2 0) 0))) 4 1 (half (tot (τ.2.2 0) 1))) 4 2 (half (tot (τ.2.2 0) 2))) κ)) rfl ?_
          refine hR.cv [] kX5_158 rfl rfl ⟨_, _, _, rfl, rfl, rfl⟩ (by first | decide | exact Nat.le_refl _) (by decide) (Nat.le_of_ble_eq_true rfl) rfl (sp_isAnyDue _ _ (pup_b (pup_b (pup_b hdu (half_r (tot_r hh 0))) (half_r (tot_r hh 1))) (half_r (tot_r hh 2)))) ?_
          show G (45, [some (vR 0), some (vI 3), some (vI (tot (τ.2.2 0) 2))], [vI (bI (anyDue ((sAt (sAt (sAt τ 4 0 (half (tot (τ.2.2 0) 0))) 4 1 (half (tot (τ.2.2 0) 1))) 4 2 (half (tot (τ.2.2 0) 2))).2.1 4))), vR 0], cW (sAt (sAt (sAt τ 4 0 (half (tot (τ.2.2 0) 0))) 4 1 (half (tot (τ.2.2 0) 1))) 4 2 (half (tot (τ.2.2 0) 2))) κ)
          refine hR.br (C := bI (anyDue ((sAt (sAt (sAt τ 4 0 (half (tot (τ.2.2 0) 0))) 4 1 (half (tot (τ.2.2 0) 1))) 4 2 (half (tot (τ.2.2 0) 2))).2.1 4)) = 0) rfl (bI_r _) (fun c14 => ?_) (fun c14 => ?_)
          · replace c14 : (anyDue ((sAt (sAt (sAt τ 4 0 (half (tot (τ.2.2 0) 0))) 4 1 (half (tot (τ.2.2 0) 1))) 4 2 (half (tot (τ.2.2 0) 2))).2.1 4)) = false := bI0 c14
            refine hR.run0 2 (S' := (56, [some (vR 0), some (vI 3), some (vI (tot (τ.2.2 0) 2))], [], pset (cW (sAt (sAt (sAt τ 4 0 (half (tot (τ.2.2 0) 0))) 4 1 (half (tot (τ.2.2 0) 1))) 4 2 (half (tot (τ.2.2 0) 2))) κ) 0 (.inr (5, [vR 1, vR 10, vR 40, vR 50, vR 60, vR 70, vR 71, vI 4, vI ((sAt (sAt (sAt τ 4 0 (half (tot (τ.2.2 0) 0))) 4 1 (half (tot (τ.2.2 0) 1))) 4 2 (half (tot (τ.2.2 0) 2))).1 1), vI ((sAt (sAt (sAt τ 4 0 (half (tot (τ.2.2 0) 0))) 4 1 (half (tot (τ.2.2 0) 1))) 4 2 (half (tot (τ.2.2 0) 2))).1 2), vI ((sAt (sAt (sAt τ 4 0 (half (tot (τ.2.2 0) 0))) 4 1 (half (tot (τ.2.2 0) 1))) 4 2 (half (tot (τ.2.2 0) 2))).1 3), vI ((sAt (sAt (sAt τ 4 0 (half (tot (τ.2.2 0) 0))) 4 1 (half (tot (τ.2.2 0) 1))) 4 2 (half (tot (τ.2.2 0) 2))).1 4)])))) rfl ?_
            rw [cW_s0]
            exact hR.rt rfl trivial rfl (by unfold demS; split <;> first | rfl | (exfalso; simp_all; done))
          · replace c14 : (anyDue ((sAt (sAt (sAt τ 4 0 (half (tot (τ.2.2 0) 0))) 4 1 (half (tot (τ.2.2 0) 1))) 4 2 (half (tot (τ.2.2 0) 2))).2.1 4)) = true := bI1 c14
            refine hR.run0 3 (S' := (56, [some (vR 0), some (vI 3), some (vI (tot (τ.2.2 0) 2))], [], pset (cW (sAt (sAt (sAt τ 4 0 (half (tot (τ.2.2 0) 0))) 4 1 (half (tot (τ.2.2 0) 1))) 4 2 (half (tot (τ.2.2 0) 2))) κ) 0 (.inr (5, [vR 1, vR 10, vR 40, vR 50, vR 60, vR 70, vR 71, vI 3, vI ((sAt (sAt (sAt τ 4 0 (half (tot (τ.2.2 0) 0))) 4 1 (half (tot (τ.2.2 0) 1))) 4 2 (half (tot (τ.2.2 0) 2))).1 1), vI ((sAt (sAt (sAt τ 4 0 (half (tot (τ.2.2 0) 0))) 4 1 (half (tot (τ.2.2 0) 1))) 4 2 (half (tot (τ.2.2 0) 2))).1 2), vI ((sAt (sAt (sAt τ 4 0 (half (tot (τ.2.2 0) 0))) 4 1 (half (tot (τ.2.2 0) 1))) 4 2 (half (tot (τ.2.2 0) 2))).1 3), vI ((sAt (sAt (sAt τ 4 0 (half (tot (τ.2.2 0) 0))) 4 1 (half (tot (τ.2.2 0) 1))) 4 2 (half (tot (τ.2.2 0) 2))).1 4)])))) rfl ?_
            rw [cW_s0]
            exact hR.rt rfl trivial rfl (by unfold demS; split <;> first | rfl | (exfalso; simp_all; done))
        · exfalso; omega
      · skip
        refine hR.run1 4 (S' := (31, [some (vR 0), some (vI 2), some (vI (tot (τ.2.2 0) 2))], [vI ((tot (τ.2.2 0) 2) / 2), vI 2, vR 0], cW (sAt (sAt τ 4 0 (half (tot (τ.2.2 0) 0))) 4 1 (half (tot (τ.2.2 0) 1))) κ)) rfl (by first | omega | (dsimp only; omega) | (simp [sHt, sH, sS, sAt, sA, sup]; done) | (simp [sHt, sH, sS, sAt, sA, sup]; omega)) ?_
        refine hR.cv [vI 2, vI ((tot (τ.2.2 0) 2) / 2)] kX5_155 rfl rfl ⟨_, _, _, rfl, rfl, rfl⟩ (by first | decide | exact Nat.le_refl _) (by decide) (Nat.le_of_ble_eq_true rfl) rfl (sp_setDue _ _ _ (by omega)) ?_
        show G (34, [some (vR 0), some (vI 2), some (vI (tot (τ.2.2 0) 2))], [], cW (sAt (sAt (sAt τ 4 0 (half (tot (τ.2.2 0) 0))) 4 1 (half (tot (τ.2.2 0) 1))) 4 2 ((tot (τ.2.2 0) 2) / 2)) κ)
        rw [show cW (sAt (sAt (sAt τ 4 0 (half (tot (τ.2.2 0) 0))) 4 1 (half (tot (τ.2.2 0) 1))) 4 2 ((tot (τ.2.2 0) 2) / 2)) κ = cW (sAt (sAt (sAt τ 4 0 (half (tot (τ.2.2 0) 0))) 4 1 (half (tot (τ.2.2 0) 1))) 4 2 (half (tot (τ.2.2 0) 2))) κ from by rw [show half (tot (τ.2.2 0) 2) = (tot (τ.2.2 0) 2) / 2 from by unfold half; split <;> omega]]
        refine hR.run0 4 (S' := (4, [some (vR 0), some (vI 3), some (vI (tot (τ.2.2 0) 2))], [vI 3, vI 3], cW (sAt (sAt (sAt τ 4 0 (half (tot (τ.2.2 0) 0))) 4 1 (half (tot (τ.2.2 0) 1))) 4 2 (half (tot (τ.2.2 0) 2))) κ)) rfl ?_
        refine hR.br (C := 3 ≤ 3) rfl (by first | omega | (dsimp only; omega) | (simp [sHt, sH, sS, sAt, sA, sup]; done) | (simp [sHt, sH, sS, sAt, sA, sup]; omega)) (fun c15 => ?_) (fun c15 => ?_)
        · skip
          refine hR.run0 2 (S' := (42, [some (vR 0), some (vI 3), some (vI (tot (τ.2.2 0) 2))], [vR 0, vR 0], cW (sAt (sAt (sAt τ 4 0 (half (tot (τ.2.2 0) 0))) 4 1 (half (tot (τ.2.2 0) 1))) 4 2 (half (tot (τ.2.2 0) 2))) κ)) rfl ?_
          refine hR.cv [] kX5_158 rfl rfl ⟨_, _, _, rfl, rfl, rfl⟩ (by first | decide | exact Nat.le_refl _) (by decide) (Nat.le_of_ble_eq_true rfl) rfl (sp_isAnyDue _ _ (pup_b (pup_b (pup_b hdu (half_r (tot_r hh 0))) (half_r (tot_r hh 1))) (half_r (tot_r hh 2)))) ?_
          show G (45, [some (vR 0), some (vI 3), some (vI (tot (τ.2.2 0) 2))], [vI (bI (anyDue ((sAt (sAt (sAt τ 4 0 (half (tot (τ.2.2 0) 0))) 4 1 (half (tot (τ.2.2 0) 1))) 4 2 (half (tot (τ.2.2 0) 2))).2.1 4))), vR 0], cW (sAt (sAt (sAt τ 4 0 (half (tot (τ.2.2 0) 0))) 4 1 (half (tot (τ.2.2 0) 1))) 4 2 (half (tot (τ.2.2 0) 2))) κ)
          refine hR.br (C := bI (anyDue ((sAt (sAt (sAt τ 4 0 (half (tot (τ.2.2 0) 0))) 4 1 (half (tot (τ.2.2 0) 1))) 4 2 (half (tot (τ.2.2 0) 2))).2.1 4)) = 0) rfl (bI_r _) (fun c16 => ?_) (fun c16 => ?_)
          · replace c16 : (anyDue ((sAt (sAt (sAt τ 4 0 (half (tot (τ.2.2 0) 0))) 4 1 (half (tot (τ.2.2 0) 1))) 4 2 (half (tot (τ.2.2 0) 2))).2.1 4)) = false := bI0 c16
            refine hR.run0 2 (S' := (56, [some (vR 0), some (vI 3), some (vI (tot (τ.2.2 0) 2))], [], pset (cW (sAt (sAt (sAt τ 4 0 (half (tot (τ.2.2 0) 0))) 4 1 (half (tot (τ.2.2 0) 1))) 4 2 (half (tot (τ.2.2 0) 2))) κ) 0 (.inr (5, [vR 1, vR 10, vR 40, vR 50, vR 60, vR 70, vR 71, vI 4, vI ((sAt (sAt (sAt τ 4 0 (half (tot (τ.2.2 0) 0))) 4 1 (half (tot (τ.2.2 0) 1))) 4 2 (half (tot (τ.2.2 0) 2))).1 1), vI ((sAt (sAt (sAt τ 4 0 (half (tot (τ.2.2 0) 0))) 4 1 (half (tot (τ.2.2 0) 1))) 4 2 (half (tot (τ.2.2 0) 2))).1 2), vI ((sAt (sAt (sAt τ 4 0 (half (tot (τ.2.2 0) 0))) 4 1 (half (tot (τ.2.2 0) 1))) 4 2 (half (tot (τ.2.2 0) 2))).1 3), vI ((sAt (sAt (sAt τ 4 0 (half (tot (τ.2.2 0) 0))) 4 1 (half (tot (τ.2.2 0) 1))) 4 2 (half (tot (τ.2.2 0) 2))).1 4)])))) rfl ?_
            rw [cW_s0]
            exact hR.rt rfl trivial rfl (by unfold demS; split <;> first | rfl | (exfalso; simp_all; done))
          · replace c16 : (anyDue ((sAt (sAt (sAt τ 4 0 (half (tot (τ.2.2 0) 0))) 4 1 (half (tot (τ.2.2 0) 1))) 4 2 (half (tot (τ.2.2 0) 2))).2.1 4)) = true := bI1 c16
            refine hR.run0 3 (S' := (56, [some (vR 0), some (vI 3), some (vI (tot (τ.2.2 0) 2))], [], pset (cW (sAt (sAt (sAt τ 4 0 (half (tot (τ.2.2 0) 0))) 4 1 (half (tot (τ.2.2 0) 1))) 4 2 (half (tot (τ.2.2 0) 2))) κ) 0 (.inr (5, [vR 1, vR 10, vR 40, vR 50, vR 60, vR 70, vR 71, vI 3, vI ((sAt (sAt (sAt τ 4 0 (half (tot (τ.2.2 0) 0))) 4 1 (half (tot (τ.2.2 0) 1))) 4 2 (half (tot (τ.2.2 0) 2))).1 1), vI ((sAt (sAt (sAt τ 4 0 (half (tot (τ.2.2 0) 0))) 4 1 (half (tot (τ.2.2 0) 1))) 4 2 (half (tot (τ.2.2 0) 2))).1 2), vI ((sAt (sAt (sAt τ 4 0 (half (tot (τ.2.2 0) 0))) 4 1 (half (tot (τ.2.2 0) 1))) 4 2 (half (tot (τ.2.2 0) 2))).1 3), vI ((sAt (sAt (sAt τ 4 0 (half (tot (τ.2.2 0) 0))) 4 1 (half (tot (τ.2.2 0) 1))) 4 2 (half (tot (τ.2.2 0) 2))).1 4)])))) rfl ?_
            rw [cW_s0]
            exact hR.rt rfl trivial rfl (by unfold demS; split <;> first | rfl | (exfalso; simp_all; done))
        · exfalso; omega
  · skip
    refine hR.run1 4 (S' := (31, [some (vR 0), some (vI 0), some (vI (tot (τ.2.2 0) 0))], [vI ((tot (τ.2.2 0) 0) / 2), vI 0, vR 0], cW τ κ)) rfl (by first | omega | (dsimp only; omega) | (simp [sHt, sH, sS, sAt, sA, sup]; done) | (simp [sHt, sH, sS, sAt, sA, sup]; omega)) ?_
    refine hR.cv [vI 0, vI ((tot (τ.2.2 0) 0) / 2)] kX5_155 rfl rfl ⟨_, _, _, rfl, rfl, rfl⟩ (by first | decide | exact Nat.le_refl _) (by decide) (Nat.le_of_ble_eq_true rfl) rfl (sp_setDue _ _ _ (by omega)) ?_
    show G (34, [some (vR 0), some (vI 0), some (vI (tot (τ.2.2 0) 0))], [], cW (sAt τ 4 0 ((tot (τ.2.2 0) 0) / 2)) κ)
    rw [show cW (sAt τ 4 0 ((tot (τ.2.2 0) 0) / 2)) κ = cW (sAt τ 4 0 (half (tot (τ.2.2 0) 0))) κ from by rw [show half (tot (τ.2.2 0) 0) = (tot (τ.2.2 0) 0) / 2 from by unfold half; split <;> omega]]
    refine hR.run0 4 (S' := (4, [some (vR 0), some (vI 1), some (vI (tot (τ.2.2 0) 0))], [vI 3, vI 1], cW (sAt τ 4 0 (half (tot (τ.2.2 0) 0))) κ)) rfl ?_
    refine hR.br (C := 3 ≤ 1) rfl (by first | omega | (dsimp only; omega) | (simp [sHt, sH, sS, sAt, sA, sup]; done) | (simp [sHt, sH, sS, sAt, sA, sup]; omega)) (fun c17 => ?_) (fun c17 => ?_)
    · exfalso; omega
    refine hR.run0 3 (S' := (12, [some (vR 0), some (vI 1), some (vI (tot (τ.2.2 0) 0))], [vI 1, vR 10], cW (sAt τ 4 0 (half (tot (τ.2.2 0) 0))) κ)) rfl ?_
    have tt1 := tot_r hh 1
    refine hR.cv [vI 1] kX5_138 rfl rfl ⟨_, _, _, rfl, rfl, rfl⟩ (by first | decide | exact Nat.le_refl _) (by decide) (Nat.le_of_ble_eq_true rfl) rfl (sp_total _ _ (by omega) hh) ?_
    show G (15, [some (vR 0), some (vI 1), some (vI (tot (τ.2.2 0) 0))], [vI (tot (τ.2.2 0) 1)], cW (sAt τ 4 0 (half (tot (τ.2.2 0) 0))) κ)
    refine hR.run0 5 (S' := (21, [some (vR 0), some (vI 1), some (vI (tot (τ.2.2 0) 1))], [vI 7, vI (tot (τ.2.2 0) 1), vI 1, vR 0], cW (sAt τ 4 0 (half (tot (τ.2.2 0) 0))) κ)) rfl ?_
    refine hR.br (C := tot (τ.2.2 0) 1 ≤ 7) rfl (by first | omega | (dsimp only; omega) | (simp [sHt, sH, sS, sAt, sA, sup]; done) | (simp [sHt, sH, sS, sAt, sA, sup]; omega)) (fun c18 => ?_) (fun c18 => ?_)
    · skip
      refine hR.run0 1 (S' := (31, [some (vR 0), some (vI 1), some (vI (tot (τ.2.2 0) 1))], [vI 0, vI 1, vR 0], cW (sAt τ 4 0 (half (tot (τ.2.2 0) 0))) κ)) rfl ?_
      refine hR.cv [vI 1, vI 0] kX5_155 rfl rfl ⟨_, _, _, rfl, rfl, rfl⟩ (by first | decide | exact Nat.le_refl _) (by decide) (Nat.le_of_ble_eq_true rfl) rfl (sp_setDue _ _ _ (by omega)) ?_
      show G (34, [some (vR 0), some (vI 1), some (vI (tot (τ.2.2 0) 1))], [], cW (sAt (sAt τ 4 0 (half (tot (τ.2.2 0) 0))) 4 1 0) κ)
      rw [show cW (sAt (sAt τ 4 0 (half (tot (τ.2.2 0) 0))) 4 1 0) κ = cW (sAt (sAt τ 4 0 (half (tot (τ.2.2 0) 0))) 4 1 (half (tot (τ.2.2 0) 1))) κ from by rw [show half (tot (τ.2.2 0) 1) = 0 from by unfold half; split <;> omega]]
      refine hR.run0 4 (S' := (4, [some (vR 0), some (vI 2), some (vI (tot (τ.2.2 0) 1))], [vI 3, vI 2], cW (sAt (sAt τ 4 0 (half (tot (τ.2.2 0) 0))) 4 1 (half (tot (τ.2.2 0) 1))) κ)) rfl ?_
      refine hR.br (C := 3 ≤ 2) rfl (by first | omega | (dsimp only; omega) | (simp [sHt, sH, sS, sAt, sA, sup]; done) | (simp [sHt, sH, sS, sAt, sA, sup]; omega)) (fun c19 => ?_) (fun c19 => ?_)
      · exfalso; omega
      refine hR.run0 3 (S' := (12, [some (vR 0), some (vI 2), some (vI (tot (τ.2.2 0) 1))], [vI 2, vR 10], cW (sAt (sAt τ 4 0 (half (tot (τ.2.2 0) 0))) 4 1 (half (tot (τ.2.2 0) 1))) κ)) rfl ?_
      have tt2 := tot_r hh 2
      refine hR.cv [vI 2] kX5_138 rfl rfl ⟨_, _, _, rfl, rfl, rfl⟩ (by first | decide | exact Nat.le_refl _) (by decide) (Nat.le_of_ble_eq_true rfl) rfl (sp_total _ _ (by omega) hh) ?_
      show G (15, [some (vR 0), some (vI 2), some (vI (tot (τ.2.2 0) 1))], [vI (tot (τ.2.2 0) 2)], cW (sAt (sAt τ 4 0 (half (tot (τ.2.2 0) 0))) 4 1 (half (tot (τ.2.2 0) 1))) κ)
      refine hR.run0 5 (S' := (21, [some (vR 0), some (vI 2), some (vI (tot (τ.2.2 0) 2))], [vI 7, vI (tot (τ.2.2 0) 2), vI 2, vR 0], cW (sAt (sAt τ 4 0 (half (tot (τ.2.2 0) 0))) 4 1 (half (tot (τ.2.2 0) 1))) κ)) rfl ?_
      refine hR.br (C := tot (τ.2.2 0) 2 ≤ 7) rfl (by first | omega | (dsimp only; omega) | (simp [sHt, sH, sS, sAt, sA, sup]; done) | (simp [sHt, sH, sS, sAt, sA, sup]; omega)) (fun c20 => ?_) (fun c20 => ?_)
      · skip
        refine hR.run0 1 (S' := (31, [some (vR 0), some (vI 2), some (vI (tot (τ.2.2 0) 2))], [vI 0, vI 2, vR 0], cW (sAt (sAt τ 4 0 (half (tot (τ.2.2 0) 0))) 4 1 (half (tot (τ.2.2 0) 1))) κ)) rfl ?_
        refine hR.cv [vI 2, vI 0] kX5_155 rfl rfl ⟨_, _, _, rfl, rfl, rfl⟩ (by first | decide | exact Nat.le_refl _) (by decide) (Nat.le_of_ble_eq_true rfl) rfl (sp_setDue _ _ _ (by omega)) ?_
        show G (34, [some (vR 0), some (vI 2), some (vI (tot (τ.2.2 0) 2))], [], cW (sAt (sAt (sAt τ 4 0 (half (tot (τ.2.2 0) 0))) 4 1 (half (tot (τ.2.2 0) 1))) 4 2 0) κ)
        rw [show cW (sAt (sAt (sAt τ 4 0 (half (tot (τ.2.2 0) 0))) 4 1 (half (tot (τ.2.2 0) 1))) 4 2 0) κ = cW (sAt (sAt (sAt τ 4 0 (half (tot (τ.2.2 0) 0))) 4 1 (half (tot (τ.2.2 0) 1))) 4 2 (half (tot (τ.2.2 0) 2))) κ from by rw [show half (tot (τ.2.2 0) 2) = 0 from by unfold half; split <;> omega]]
        refine hR.run0 4 (S' := (4, [some (vR 0), some (vI 3), some (vI (tot (τ.2.2 0) 2))], [vI 3, vI 3], cW (sAt (sAt (sAt τ 4 0 (half (tot (τ.2.2 0) 0))) 4 1 (half (tot (τ.2.2 0) 1))) 4 2 (half (tot (τ.2.2 0) 2))) κ)) rfl ?_
        refine hR.br (C := 3 ≤ 3) rfl (by first | omega | (dsimp only; omega) | (simp [sHt, sH, sS, sAt, sA, sup]; done) | (simp [sHt, sH, sS, sAt, sA, sup]; omega)) (fun c21 => ?_) (fun c21 => ?_)
        · skip
          refine hR.run0 2 (S' := (42, [some (vR 0), some (vI 3), some (vI (tot (τ.2.2 0) 2))], [vR 0, vR 0], cW (sAt (sAt (sAt τ 4 0 (half (tot (τ.2.2 0) 0))) 4 1 (half (tot (τ.2.2 0) 1))) 4 2 (half (tot (τ.2.2 0) 2))) κ)) rfl ?_
          refine hR.cv [] kX5_158 rfl rfl ⟨_, _, _, rfl, rfl, rfl⟩ (by first | decide | exact Nat.le_refl _) (by decide) (Nat.le_of_ble_eq_true rfl) rfl (sp_isAnyDue _ _ (pup_b (pup_b (pup_b hdu (half_r (tot_r hh 0))) (half_r (tot_r hh 1))) (half_r (tot_r hh 2)))) ?_
          show G (45, [some (vR 0), some (vI 3), some (vI (tot (τ.2.2 0) 2))], [vI (bI (anyDue ((sAt (sAt (sAt τ 4 0 (half (tot (τ.2.2 0) 0))) 4 1 (half (tot (τ.2.2 0) 1))) 4 2 (half (tot (τ.2.2 0) 2))).2.1 4))), vR 0], cW (sAt (sAt (sAt τ 4 0 (half (tot (τ.2.2 0) 0))) 4 1 (half (tot (τ.2.2 0) 1))) 4 2 (half (tot (τ.2.2 0) 2))) κ)
          refine hR.br (C := bI (anyDue ((sAt (sAt (sAt τ 4 0 (half (tot (τ.2.2 0) 0))) 4 1 (half (tot (τ.2.2 0) 1))) 4 2 (half (tot (τ.2.2 0) 2))).2.1 4)) = 0) rfl (bI_r _) (fun c22 => ?_) (fun c22 => ?_)
          · replace c22 : (anyDue ((sAt (sAt (sAt τ 4 0 (half (tot (τ.2.2 0) 0))) 4 1 (half (tot (τ.2.2 0) 1))) 4 2 (half (tot (τ.2.2 0) 2))).2.1 4)) = false := bI0 c22
            refine hR.run0 2 (S' := (56, [some (vR 0), some (vI 3), some (vI (tot (τ.2.2 0) 2))], [], pset (cW (sAt (sAt (sAt τ 4 0 (half (tot (τ.2.2 0) 0))) 4 1 (half (tot (τ.2.2 0) 1))) 4 2 (half (tot (τ.2.2 0) 2))) κ) 0 (.inr (5, [vR 1, vR 10, vR 40, vR 50, vR 60, vR 70, vR 71, vI 4, vI ((sAt (sAt (sAt τ 4 0 (half (tot (τ.2.2 0) 0))) 4 1 (half (tot (τ.2.2 0) 1))) 4 2 (half (tot (τ.2.2 0) 2))).1 1), vI ((sAt (sAt (sAt τ 4 0 (half (tot (τ.2.2 0) 0))) 4 1 (half (tot (τ.2.2 0) 1))) 4 2 (half (tot (τ.2.2 0) 2))).1 2), vI ((sAt (sAt (sAt τ 4 0 (half (tot (τ.2.2 0) 0))) 4 1 (half (tot (τ.2.2 0) 1))) 4 2 (half (tot (τ.2.2 0) 2))).1 3), vI ((sAt (sAt (sAt τ 4 0 (half (tot (τ.2.2 0) 0))) 4 1 (half (tot (τ.2.2 0) 1))) 4 2 (half (tot (τ.2.2 0) 2))).1 4)])))) rfl ?_
            rw [cW_s0]
            exact hR.rt rfl trivial rfl (by unfold demS; split <;> first | rfl | (exfalso; simp_all; done))
          · replace c22 : (anyDue ((sAt (sAt (sAt τ 4 0 (half (tot (τ.2.2 0) 0))) 4 1 (half (tot (τ.2.2 0) 1))) 4 2 (half (tot (τ.2.2 0) 2))).2.1 4)) = true := bI1 c22
            refine hR.run0 3 (S' := (56, [some (vR 0), some (vI 3), some (vI (tot (τ.2.2 0) 2))], [], pset (cW (sAt (sAt (sAt τ 4 0 (half (tot (τ.2.2 0) 0))) 4 1 (half (tot (τ.2.2 0) 1))) 4 2 (half (tot (τ.2.2 0) 2))) κ) 0 (.inr (5, [vR 1, vR 10, vR 40, vR 50, vR 60, vR 70, vR 71, vI 3, vI ((sAt (sAt (sAt τ 4 0 (half (tot (τ.2.2 0) 0))) 4 1 (half (tot (τ.2.2 0) 1))) 4 2 (half (tot (τ.2.2 0) 2))).1 1), vI ((sAt (sAt (sAt τ 4 0 (half (tot (τ.2.2 0) 0))) 4 1 (half (tot (τ.2.2 0) 1))) 4 2 (half (tot (τ.2.2 0) 2))).1 2), vI ((sAt (sAt (sAt τ 4 0 (half (tot (τ.2.2 0) 0))) 4 1 (half (tot (τ.2.2 0) 1))) 4 2 (half (tot (τ.2.2 0) 2))).1 3), vI ((sAt (sAt (sAt τ 4 0 (half (tot (τ.2.2 0) 0))) 4 1 (half (tot (τ.2.2 0) 1))) 4 2 (half (tot (τ.2.2 0) 2))).1 4)])))) rfl ?_
            rw [cW_s0]
            exact hR.rt rfl trivial rfl (by unfold demS; split <;> first | rfl | (exfalso; simp_all; done))
        · exfalso; omega
      · skip
        refine hR.run1 4 (S' := (31, [some (vR 0), some (vI 2), some (vI (tot (τ.2.2 0) 2))], [vI ((tot (τ.2.2 0) 2) / 2), vI 2, vR 0], cW (sAt (sAt τ 4 0 (half (tot (τ.2.2 0) 0))) 4 1 (half (tot (τ.2.2 0) 1))) κ)) rfl (by first | omega | (dsimp only; omega) | (simp [sHt, sH, sS, sAt, sA, sup]; done) | (simp [sHt, sH, sS, sAt, sA, sup]; omega)) ?_
        refine hR.cv [vI 2, vI ((tot (τ.2.2 0) 2) / 2)] kX5_155 rfl rfl ⟨_, _, _, rfl, rfl, rfl⟩ (by first | decide | exact Nat.le_refl _) (by decide) (Nat.le_of_ble_eq_true rfl) rfl (sp_setDue _ _ _ (by omega)) ?_
        show G (34, [some (vR 0), some (vI 2), some (vI (tot (τ.2.2 0) 2))], [], cW (sAt (sAt (sAt τ 4 0 (half (tot (τ.2.2 0) 0))) 4 1 (half (tot (τ.2.2 0) 1))) 4 2 ((tot (τ.2.2 0) 2) / 2)) κ)
        rw [show cW (sAt (sAt (sAt τ 4 0 (half (tot (τ.2.2 0) 0))) 4 1 (half (tot (τ.2.2 0) 1))) 4 2 ((tot (τ.2.2 0) 2) / 2)) κ = cW (sAt (sAt (sAt τ 4 0 (half (tot (τ.2.2 0) 0))) 4 1 (half (tot (τ.2.2 0) 1))) 4 2 (half (tot (τ.2.2 0) 2))) κ from by rw [show half (tot (τ.2.2 0) 2) = (tot (τ.2.2 0) 2) / 2 from by unfold half; split <;> omega]]
        refine hR.run0 4 (S' := (4, [some (vR 0), some (vI 3), some (vI (tot (τ.2.2 0) 2))], [vI 3, vI 3], cW (sAt (sAt (sAt τ 4 0 (half (tot (τ.2.2 0) 0))) 4 1 (half (tot (τ.2.2 0) 1))) 4 2 (half (tot (τ.2.2 0) 2))) κ)) rfl ?_
        refine hR.br (C := 3 ≤ 3) rfl (by first | omega | (dsimp only; omega) | (simp [sHt, sH, sS, sAt, sA, sup]; done) | (simp [sHt, sH, sS, sAt, sA, sup]; omega)) (fun c23 => ?_) (fun c23 => ?_)
        · skip
          refine hR.run0 2 (S' := (42, [some (vR 0), some (vI 3), some (vI (tot (τ.2.2 0) 2))], [vR 0, vR 0], cW (sAt (sAt (sAt τ 4 0 (half (tot (τ.2.2 0) 0))) 4 1 (half (tot (τ.2.2 0) 1))) 4 2 (half (tot (τ.2.2 0) 2))) κ)) rfl ?_
          refine hR.cv [] kX5_158 rfl rfl ⟨_, _, _, rfl, rfl, rfl⟩ (by first | decide | exact Nat.le_refl _) (by decide) (Nat.le_of_ble_eq_true rfl) rfl (sp_isAnyDue _ _ (pup_b (pup_b (pup_b hdu (half_r (tot_r hh 0))) (half_r (tot_r hh 1))) (half_r (tot_r hh 2)))) ?_
          show G (45, [some (vR 0), some (vI 3), some (vI (tot (τ.2.2 0) 2))], [vI (bI (anyDue ((sAt (sAt (sAt τ 4 0 (half (tot (τ.2.2 0) 0))) 4 1 (half (tot (τ.2.2 0) 1))) 4 2 (half (tot (τ.2.2 0) 2))).2.1 4))), vR 0], cW (sAt (sAt (sAt τ 4 0 (half (tot (τ.2.2 0) 0))) 4 1 (half (tot (τ.2.2 0) 1))) 4 2 (half (tot (τ.2.2 0) 2))) κ)
          refine hR.br (C := bI (anyDue ((sAt (sAt (sAt τ 4 0 (half (tot (τ.2.2 0) 0))) 4 1 (half (tot (τ.2.2 0) 1))) 4 2 (half (tot (τ.2.2 0) 2))).2.1 4)) = 0) rfl (bI_r _) (fun c24 => ?_) (fun c24 => ?_)
          · replace c24 : (anyDue ((sAt (sAt (sAt τ 4 0 (half (tot (τ.2.2 0) 0))) 4 1 (half (tot (τ.2.2 0) 1))) 4 2 (half (tot (τ.2.2 0) 2))).2.1 4)) = false := bI0 c24
            refine hR.run0 2 (S' := (56, [some (vR 0), some (vI 3), some (vI (tot (τ.2.2 0) 2))], [], pset (cW (sAt (sAt (sAt τ 4 0 (half (tot (τ.2.2 0) 0))) 4 1 (half (tot (τ.2.2 0) 1))) 4 2 (half (tot (τ.2.2 0) 2))) κ) 0 (.inr (5, [vR 1, vR 10, vR 40, vR 50, vR 60, vR 70, vR 71, vI 4, vI ((sAt (sAt (sAt τ 4 0 (half (tot (τ.2.2 0) 0))) 4 1 (half (tot (τ.2.2 0) 1))) 4 2 (half (tot (τ.2.2 0) 2))).1 1), vI ((sAt (sAt (sAt τ 4 0 (half (tot (τ.2.2 0) 0))) 4 1 (half (tot (τ.2.2 0) 1))) 4 2 (half (tot (τ.2.2 0) 2))).1 2), vI ((sAt (sAt (sAt τ 4 0 (half (tot (τ.2.2 0) 0))) 4 1 (half (tot (τ.2.2 0) 1))) 4 2 (half (tot (τ.2.2 0) 2))).1 3), vI ((sAt (sAt (sAt τ 4 0 (half (tot (τ.2.2 0) 0))) 4 1 (half (tot (τ.2.2 0) 1))) 4 2 (half (tot (τ.2.2 0) 2))).1 4)])))) rfl ?_
            rw [cW_s0]
            exact hR.rt rfl trivial rfl (by unfold demS; split <;> first | rfl | (exfalso; simp_all; done))
          · replace c24 : (anyDue ((sAt (sAt (sAt τ 4 0 (half (tot (τ.2.2 0) 0))) 4 1 (half (tot (τ.2.2 0) 1))) 4 2 (half (tot (τ.2.2 0) 2))).2.1 4)) = true := bI1 c24
            refine hR.run0 3 (S' := (56, [some (vR 0), some (vI 3), some (vI (tot (τ.2.2 0) 2))], [], pset (cW (sAt (sAt (sAt τ 4 0 (half (tot (τ.2.2 0) 0))) 4 1 (half (tot (τ.2.2 0) 1))) 4 2 (half (tot (τ.2.2 0) 2))) κ) 0 (.inr (5, [vR 1, vR 10, vR 40, vR 50, vR 60, vR 70, vR 71, vI 3, vI ((sAt (sAt (sAt τ 4 0 (half (tot (τ.2.2 0) 0))) 4 1 (half (tot (τ.2.2 0) 1))) 4 2 (half (tot (τ.2.2 0) 2))).1 1), vI ((sAt (sAt (sAt τ 4 0 (half (tot (τ.2.2 0) 0))) 4 1 (half (tot (τ.2.2 0) 1))) 4 2 (half (tot (τ.2.2 0) 2))).1 2), vI ((sAt (sAt (sAt τ 4 0 (half (tot (τ.2.2 0) 0))) 4 1 (half (tot (τ.2.2 0) 1))) 4 2 (half (tot (τ.2.2 0) 2))).1 3), vI ((sAt (sAt (sAt τ 4 0 (half (tot (τ.2.2 0) 0))) 4 1 (half (tot (τ.2.2 0) 1))) 4 2 (half (tot (τ.2.2 0) 2))).1 4)])))) rfl ?_
            rw [cW_s0]
            exact hR.rt rfl trivial rfl (by unfold demS; split <;> first | rfl | (exfalso; simp_all; done))
        · exfalso; omega
    · skip
      refine hR.run1 4 (S' := (31, [some (vR 0), some (vI 1), some (vI (tot (τ.2.2 0) 1))], [vI ((tot (τ.2.2 0) 1) / 2), vI 1, vR 0], cW (sAt τ 4 0 (half (tot (τ.2.2 0) 0))) κ)) rfl (by first | omega | (dsimp only; omega) | (simp [sHt, sH, sS, sAt, sA, sup]; done) | (simp [sHt, sH, sS, sAt, sA, sup]; omega)) ?_
      refine hR.cv [vI 1, vI ((tot (τ.2.2 0) 1) / 2)] kX5_155 rfl rfl ⟨_, _, _, rfl, rfl, rfl⟩ (by first | decide | exact Nat.le_refl _) (by decide) (Nat.le_of_ble_eq_true rfl) rfl (sp_setDue _ _ _ (by omega)) ?_
      show G (34, [some (vR 0), some (vI 1), some (vI (tot (τ.2.2 0) 1))], [], cW (sAt (sAt τ 4 0 (half (tot (τ.2.2 0) 0))) 4 1 ((tot (τ.2.2 0) 1) / 2)) κ)
      rw [show cW (sAt (sAt τ 4 0 (half (tot (τ.2.2 0) 0))) 4 1 ((tot (τ.2.2 0) 1) / 2)) κ = cW (sAt (sAt τ 4 0 (half (tot (τ.2.2 0) 0))) 4 1 (half (tot (τ.2.2 0) 1))) κ from by rw [show half (tot (τ.2.2 0) 1) = (tot (τ.2.2 0) 1) / 2 from by unfold half; split <;> omega]]
      refine hR.run0 4 (S' := (4, [some (vR 0), some (vI 2), some (vI (tot (τ.2.2 0) 1))], [vI 3, vI 2], cW (sAt (sAt τ 4 0 (half (tot (τ.2.2 0) 0))) 4 1 (half (tot (τ.2.2 0) 1))) κ)) rfl ?_
      refine hR.br (C := 3 ≤ 2) rfl (by first | omega | (dsimp only; omega) | (simp [sHt, sH, sS, sAt, sA, sup]; done) | (simp [sHt, sH, sS, sAt, sA, sup]; omega)) (fun c25 => ?_) (fun c25 => ?_)
      · exfalso; omega
      refine hR.run0 3 (S' := (12, [some (vR 0), some (vI 2), some (vI (tot (τ.2.2 0) 1))], [vI 2, vR 10], cW (sAt (sAt τ 4 0 (half (tot (τ.2.2 0) 0))) 4 1 (half (tot (τ.2.2 0) 1))) κ)) rfl ?_
      have tt2 := tot_r hh 2
      refine hR.cv [vI 2] kX5_138 rfl rfl ⟨_, _, _, rfl, rfl, rfl⟩ (by first | decide | exact Nat.le_refl _) (by decide) (Nat.le_of_ble_eq_true rfl) rfl (sp_total _ _ (by omega) hh) ?_
      show G (15, [some (vR 0), some (vI 2), some (vI (tot (τ.2.2 0) 1))], [vI (tot (τ.2.2 0) 2)], cW (sAt (sAt τ 4 0 (half (tot (τ.2.2 0) 0))) 4 1 (half (tot (τ.2.2 0) 1))) κ)
      refine hR.run0 5 (S' := (21, [some (vR 0), some (vI 2), some (vI (tot (τ.2.2 0) 2))], [vI 7, vI (tot (τ.2.2 0) 2), vI 2, vR 0], cW (sAt (sAt τ 4 0 (half (tot (τ.2.2 0) 0))) 4 1 (half (tot (τ.2.2 0) 1))) κ)) rfl ?_
      refine hR.br (C := tot (τ.2.2 0) 2 ≤ 7) rfl (by first | omega | (dsimp only; omega) | (simp [sHt, sH, sS, sAt, sA, sup]; done) | (simp [sHt, sH, sS, sAt, sA, sup]; omega)) (fun c26 => ?_) (fun c26 => ?_)
      · skip
        refine hR.run0 1 (S' := (31, [some (vR 0), some (vI 2), some (vI (tot (τ.2.2 0) 2))], [vI 0, vI 2, vR 0], cW (sAt (sAt τ 4 0 (half (tot (τ.2.2 0) 0))) 4 1 (half (tot (τ.2.2 0) 1))) κ)) rfl ?_
        refine hR.cv [vI 2, vI 0] kX5_155 rfl rfl ⟨_, _, _, rfl, rfl, rfl⟩ (by first | decide | exact Nat.le_refl _) (by decide) (Nat.le_of_ble_eq_true rfl) rfl (sp_setDue _ _ _ (by omega)) ?_
        show G (34, [some (vR 0), some (vI 2), some (vI (tot (τ.2.2 0) 2))], [], cW (sAt (sAt (sAt τ 4 0 (half (tot (τ.2.2 0) 0))) 4 1 (half (tot (τ.2.2 0) 1))) 4 2 0) κ)
        rw [show cW (sAt (sAt (sAt τ 4 0 (half (tot (τ.2.2 0) 0))) 4 1 (half (tot (τ.2.2 0) 1))) 4 2 0) κ = cW (sAt (sAt (sAt τ 4 0 (half (tot (τ.2.2 0) 0))) 4 1 (half (tot (τ.2.2 0) 1))) 4 2 (half (tot (τ.2.2 0) 2))) κ from by rw [show half (tot (τ.2.2 0) 2) = 0 from by unfold half; split <;> omega]]
        refine hR.run0 4 (S' := (4, [some (vR 0), some (vI 3), some (vI (tot (τ.2.2 0) 2))], [vI 3, vI 3], cW (sAt (sAt (sAt τ 4 0 (half (tot (τ.2.2 0) 0))) 4 1 (half (tot (τ.2.2 0) 1))) 4 2 (half (tot (τ.2.2 0) 2))) κ)) rfl ?_
        refine hR.br (C := 3 ≤ 3) rfl (by first | omega | (dsimp only; omega) | (simp [sHt, sH, sS, sAt, sA, sup]; done) | (simp [sHt, sH, sS, sAt, sA, sup]; omega)) (fun c27 => ?_) (fun c27 => ?_)
        · skip
          refine hR.run0 2 (S' := (42, [some (vR 0), some (vI 3), some (vI (tot (τ.2.2 0) 2))], [vR 0, vR 0], cW (sAt (sAt (sAt τ 4 0 (half (tot (τ.2.2 0) 0))) 4 1 (half (tot (τ.2.2 0) 1))) 4 2 (half (tot (τ.2.2 0) 2))) κ)) rfl ?_
          refine hR.cv [] kX5_158 rfl rfl ⟨_, _, _, rfl, rfl, rfl⟩ (by first | decide | exact Nat.le_refl _) (by decide) (Nat.le_of_ble_eq_true rfl) rfl (sp_isAnyDue _ _ (pup_b (pup_b (pup_b hdu (half_r (tot_r hh 0))) (half_r (tot_r hh 1))) (half_r (tot_r hh 2)))) ?_
          show G (45, [some (vR 0), some (vI 3), some (vI (tot (τ.2.2 0) 2))], [vI (bI (anyDue ((sAt (sAt (sAt τ 4 0 (half (tot (τ.2.2 0) 0))) 4 1 (half (tot (τ.2.2 0) 1))) 4 2 (half (tot (τ.2.2 0) 2))).2.1 4))), vR 0], cW (sAt (sAt (sAt τ 4 0 (half (tot (τ.2.2 0) 0))) 4 1 (half (tot (τ.2.2 0) 1))) 4 2 (half (tot (τ.2.2 0) 2))) κ)
          refine hR.br (C := bI (anyDue ((sAt (sAt (sAt τ 4 0 (half (tot (τ.2.2 0) 0))) 4 1 (half (tot (τ.2.2 0) 1))) 4 2 (half (tot (τ.2.2 0) 2))).2.1 4)) = 0) rfl (bI_r _) (fun c28 => ?_) (fun c28 => ?_)
          · replace c28 : (anyDue ((sAt (sAt (sAt τ 4 0 (half (tot (τ.2.2 0) 0))) 4 1 (half (tot (τ.2.2 0) 1))) 4 2 (half (tot (τ.2.2 0) 2))).2.1 4)) = false := bI0 c28
            refine hR.run0 2 (S' := (56, [some (vR 0), some (vI 3), some (vI (tot (τ.2.2 0) 2))], [], pset (cW (sAt (sAt (sAt τ 4 0 (half (tot (τ.2.2 0) 0))) 4 1 (half (tot (τ.2.2 0) 1))) 4 2 (half (tot (τ.2.2 0) 2))) κ) 0 (.inr (5, [vR 1, vR 10, vR 40, vR 50, vR 60, vR 70, vR 71, vI 4, vI ((sAt (sAt (sAt τ 4 0 (half (tot (τ.2.2 0) 0))) 4 1 (half (tot (τ.2.2 0) 1))) 4 2 (half (tot (τ.2.2 0) 2))).1 1), vI ((sAt (sAt (sAt τ 4 0 (half (tot (τ.2.2 0) 0))) 4 1 (half (tot (τ.2.2 0) 1))) 4 2 (half (tot (τ.2.2 0) 2))).1 2), vI ((sAt (sAt (sAt τ 4 0 (half (tot (τ.2.2 0) 0))) 4 1 (half (tot (τ.2.2 0) 1))) 4 2 (half (tot (τ.2.2 0) 2))).1 3), vI ((sAt (sAt (sAt τ 4 0 (half (tot (τ.2.2 0) 0))) 4 1 (half (tot (τ.2.2 0) 1))) 4 2 (half (tot (τ.2.2 0) 2))).1 4)])))) rfl ?_
            rw [cW_s0]
            exact hR.rt rfl trivial rfl (by unfold demS; split <;> first | rfl | (exfalso; simp_all; done))
          · replace c28 : (anyDue ((sAt (sAt (sAt τ 4 0 (half (tot (τ.2.2 0) 0))) 4 1 (half (tot (τ.2.2 0) 1))) 4 2 (half (tot (τ.2.2 0) 2))).2.1 4)) = true := bI1 c28
            refine hR.run0 3 (S' := (56, [some (vR 0), some (vI 3), some (vI (tot (τ.2.2 0) 2))], [], pset (cW (sAt (sAt (sAt τ 4 0 (half (tot (τ.2.2 0) 0))) 4 1 (half (tot (τ.2.2 0) 1))) 4 2 (half (tot (τ.2.2 0) 2))) κ) 0 (.inr (5, [vR 1, vR 10, vR 40, vR 50, vR 60, vR 70, vR 71, vI 3, vI ((sAt (sAt (sAt τ 4 0 (half (tot (τ.2.2 0) 0))) 4 1 (half (tot (τ.2.2 0) 1))) 4 2 (half (tot (τ.2.2 0) 2))).1 1), vI ((sAt (sAt (sAt τ 4 0 (half (tot (τ.2.2 0) 0))) 4 1 (half (tot (τ.2.2 0) 1))) 4 2 (half (tot (τ.2.2 0) 2))).1 2), vI ((sAt (sAt (sAt τ 4 0 (half (tot (τ.2.2 0) 0))) 4 1 (half (tot (τ.2.2 0) 1))) 4 2 (half (tot (τ.2.2 0) 2))).1 3), vI ((sAt (sAt (sAt τ 4 0 (half (tot (τ.2.2 0) 0))) 4 1 (half (tot (τ.2.2 0) 1))) 4 2 (half (tot (τ.2.2 0) 2))).1 4)])))) rfl ?_
            rw [cW_s0]
            exact hR.rt rfl trivial rfl (by unfold demS; split <;> first | rfl | (exfalso; simp_all; done))
        · exfalso; omega
      · skip
        refine hR.run1 4 (S' := (31, [some (vR 0), some (vI 2), some (vI (tot (τ.2.2 0) 2))], [vI ((tot (τ.2.2 0) 2) / 2), vI 2, vR 0], cW (sAt (sAt τ 4 0 (half (tot (τ.2.2 0) 0))) 4 1 (half (tot (τ.2.2 0) 1))) κ)) rfl (by first | omega | (dsimp only; omega) | (simp [sHt, sH, sS, sAt, sA, sup]; done) | (simp [sHt, sH, sS, sAt, sA, sup]; omega)) ?_
        refine hR.cv [vI 2, vI ((tot (τ.2.2 0) 2) / 2)] kX5_155 rfl rfl ⟨_, _, _, rfl, rfl, rfl⟩ (by first | decide | exact Nat.le_refl _) (by decide) (Nat.le_of_ble_eq_true rfl) rfl (sp_setDue _ _ _ (by omega)) ?_
        show G (34, [some (vR 0), some (vI 2), some (vI (tot (τ.2.2 0) 2))], [], cW (sAt (sAt (sAt τ 4 0 (half (tot (τ.2.2 0) 0))) 4 1 (half (tot (τ.2.2 0) 1))) 4 2 ((tot (τ.2.2 0) 2) / 2)) κ)
        rw [show cW (sAt (sAt (sAt τ 4 0 (half (tot (τ.2.2 0) 0))) 4 1 (half (tot (τ.2.2 0) 1))) 4 2 ((tot (τ.2.2 0) 2) / 2)) κ = cW (sAt (sAt (sAt τ 4 0 (half (tot (τ.2.2 0) 0))) 4 1 (half (tot (τ.2.2 0) 1))) 4 2 (half (tot (τ.2.2 0) 2))) κ from by rw [show half (tot (τ.2.2 0) 2) = (tot (τ.2.2 0) 2) / 2 from by unfold half; split <;> omega]]
        refine hR.run0 4 (S' := (4, [some (vR 0), some (vI 3), some (vI (tot (τ.2.2 0) 2))], [vI 3, vI 3], cW (sAt (sAt (sAt τ 4 0 (half (tot (τ.2.2 0) 0))) 4 1 (half (tot (τ.2.2 0) 1))) 4 2 (half (tot (τ.2.2 0) 2))) κ)) rfl ?_
        refine hR.br (C := 3 ≤ 3) rfl (by first | omega | (dsimp only; omega) | (simp [sHt, sH, sS, sAt, sA, sup]; done) | (simp [sHt, sH, sS, sAt, sA, sup]; omega)) (fun c29 => ?_) (fun c29 => ?_)
        · skip
          refine hR.run0 2 (S' := (42, [some (vR 0), some (vI 3), some (vI (tot (τ.2.2 0) 2))], [vR 0, vR 0], cW (sAt (sAt (sAt τ 4 0 (half (tot (τ.2.2 0) 0))) 4 1 (half (tot (τ.2.2 0) 1))) 4 2 (half (tot (τ.2.2 0) 2))) κ)) rfl ?_
          refine hR.cv [] kX5_158 rfl rfl ⟨_, _, _, rfl, rfl, rfl⟩ (by first | decide | exact Nat.le_refl _) (by decide) (Nat.le_of_ble_eq_true rfl) rfl (sp_isAnyDue _ _ (pup_b (pup_b (pup_b hdu (half_r (tot_r hh 0))) (half_r (tot_r hh 1))) (half_r (tot_r hh 2)))) ?_
          show G (45, [some (vR 0), some (vI 3), some (vI (tot (τ.2.2 0) 2))], [vI (bI (anyDue ((sAt (sAt (sAt τ 4 0 (half (tot (τ.2.2 0) 0))) 4 1 (half (tot (τ.2.2 0) 1))) 4 2 (half (tot (τ.2.2 0) 2))).2.1 4))), vR 0], cW (sAt (sAt (sAt τ 4 0 (half (tot (τ.2.2 0) 0))) 4 1 (half (tot (τ.2.2 0) 1))) 4 2 (half (tot (τ.2.2 0) 2))) κ)
          refine hR.br (C := bI (anyDue ((sAt (sAt (sAt τ 4 0 (half (tot (τ.2.2 0) 0))) 4 1 (half (tot (τ.2.2 0) 1))) 4 2 (half (tot (τ.2.2 0) 2))).2.1 4)) = 0) rfl (bI_r _) (fun c30 => ?_) (fun c30 => ?_)
          · replace c30 : (anyDue ((sAt (sAt (sAt τ 4 0 (half (tot (τ.2.2 0) 0))) 4 1 (half (tot (τ.2.2 0) 1))) 4 2 (half (tot (τ.2.2 0) 2))).2.1 4)) = false := bI0 c30
            refine hR.run0 2 (S' := (56, [some (vR 0), some (vI 3), some (vI (tot (τ.2.2 0) 2))], [], pset (cW (sAt (sAt (sAt τ 4 0 (half (tot (τ.2.2 0) 0))) 4 1 (half (tot (τ.2.2 0) 1))) 4 2 (half (tot (τ.2.2 0) 2))) κ) 0 (.inr (5, [vR 1, vR 10, vR 40, vR 50, vR 60, vR 70, vR 71, vI 4, vI ((sAt (sAt (sAt τ 4 0 (half (tot (τ.2.2 0) 0))) 4 1 (half (tot (τ.2.2 0) 1))) 4 2 (half (tot (τ.2.2 0) 2))).1 1), vI ((sAt (sAt (sAt τ 4 0 (half (tot (τ.2.2 0) 0))) 4 1 (half (tot (τ.2.2 0) 1))) 4 2 (half (tot (τ.2.2 0) 2))).1 2), vI ((sAt (sAt (sAt τ 4 0 (half (tot (τ.2.2 0) 0))) 4 1 (half (tot (τ.2.2 0) 1))) 4 2 (half (tot (τ.2.2 0) 2))).1 3), vI ((sAt (sAt (sAt τ 4 0 (half (tot (τ.2.2 0) 0))) 4 1 (half (tot (τ.2.2 0) 1))) 4 2 (half (tot (τ.2.2 0) 2))).1 4)])))) rfl ?_
            rw [cW_s0]
            exact hR.rt rfl trivial rfl (by unfold demS; split <;> first | rfl | (exfalso; simp_all; done))
          · replace c30 : (anyDue ((sAt (sAt (sAt τ 4 0 (half (tot (τ.2.2 0) 0))) 4 1 (half (tot (τ.2.2 0) 1))) 4 2 (half (tot (τ.2.2 0) 2))).2.1 4)) = true := bI1 c30
            refine hR.run0 3 (S' := (56, [some (vR 0), some (vI 3), some (vI (tot (τ.2.2 0) 2))], [], pset (cW (sAt (sAt (sAt τ 4 0 (half (tot (τ.2.2 0) 0))) 4 1 (half (tot (τ.2.2 0) 1))) 4 2 (half (tot (τ.2.2 0) 2))) κ) 0 (.inr (5, [vR 1, vR 10, vR 40, vR 50, vR 60, vR 70, vR 71, vI 3, vI ((sAt (sAt (sAt τ 4 0 (half (tot (τ.2.2 0) 0))) 4 1 (half (tot (τ.2.2 0) 1))) 4 2 (half (tot (τ.2.2 0) 2))).1 1), vI ((sAt (sAt (sAt τ 4 0 (half (tot (τ.2.2 0) 0))) 4 1 (half (tot (τ.2.2 0) 1))) 4 2 (half (tot (τ.2.2 0) 2))).1 2), vI ((sAt (sAt (sAt τ 4 0 (half (tot (τ.2.2 0) 0))) 4 1 (half (tot (τ.2.2 0) 1))) 4 2 (half (tot (τ.2.2 0) 2))).1 3), vI ((sAt (sAt (sAt τ 4 0 (half (tot (τ.2.2 0) 0))) 4 1 (half (tot (τ.2.2 0) 1))) 4 2 (half (tot (τ.2.2 0) 2))).1 4)])))) rfl ?_
            rw [cW_s0]
            exact hR.rt rfl trivial rfl (by unfold demS; split <;> first | rfl | (exfalso; simp_all; done))
        · exfalso; omega
