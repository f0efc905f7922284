theorem rw_n (τ : St) (a : Int) : rwS τ a (-1) = sAt τ 3 a (τ.1 1) := if_pos rfl
theorem rw_v (τ : St) (a : Int) {b : Int} (h : b ≠ -1) : rwS τ a b = sAt (sAt τ 3 a (τ.1 1)) 3 b (τ.1 1) := if_neg h
theorem pX5_roads_n (τ κ : St) {a : Int} (ha0 : -2147483648 ≤ a ∧ a ≤ 2147483647) (hk0 : ∀ i, 0 ≤ κ.2.1 0 i ∧ κ.2.1 0 i ≤ 63) (hk1 : ∀ i, 0 ≤ κ.2.1 1 i ∧ κ.2.1 1 i ≤ 63) (hI : Iv τ)  : Sp mX5_roads roC 11 [vR 0, vI a, vI (-1)] (cW τ κ) (oc eIS (xRoads τ a (-1))) (cW (xRoads τ a (-1)).2.2 (kRoads κ τ a (-1))) := by
  have hb := hI.hb
  have hr := hI.hr
  have hg := hI.hg
  have hn := hI.hn
  have h7 := hI.h7
  have hh := hI.hh
  have hsm := hI.hsm
  have hcd := hI.hcd
  have hfr := hI.hfr
  have hkn := hI.hkn
  have hbo := hI.hbo
  have hus := hI.hus
  have hro := hI.hro
  have har := hI.har
  have hth := hI.hth
  have hph := hI.hph
  have htu := hI.htu
  have hrb := hI.hrb
  have hpl := hI.hpl
  have hdu := hI.hdu
  have hdp := hI.hdp
  have hof := hI.hof
  have how := hI.how
  have hga := hI.hga
  have hwa := hI.hwa
  have hck := hI.hck
  have hkz := hI.hkz
  have hcb := hI.hcb
  have hfb := hI.hfb
  have hnr := hI.hnr
  have hpq := hI.hpq
  have hrc := hI.hrc
  have hbc := hI.hbc
  have hcc := hI.hcc
  have hac := hI.hac
  refine Sp.of (lk := lkX5) (tb := bX5_roads) (by decide) lkX5_ok tX5_roads (cW_keys _ _ _ _) (Nat.le_of_ble_eq_true rfl) (fun G hR => ?_)
  refine hR.run0 1 (S' := (1, [some (vR 0), some (vI a), some (vI (-1))], [vI a], cW τ κ)) rfl ?_
  by_cases q1 : 0 ≤ a ∧ a < 30
  · skip
    refine hR.cs [vI a] kX5_92 rfl rfl (by first | decide | exact Nat.le_refl _) (by decide) (Nat.le_of_ble_eq_true rfl) rfl (sp_rEdge_ok _ (by omega) q1) ?_
    show G (4, [some (vR 0), some (vI a), some (vI (-1))], [], cW τ κ)
    refine hR.run0 2 (S' := (6, [some (vR 0), some (vI a), some (vI (-1))], [vI (-1), vI (-1)], cW τ κ)) rfl ?_
    refine hR.br (C := (-1) = (-1)) rfl (by first | omega | (dsimp only; omega) | (simp [sHt, sH, sS, sAt, sA, sup]; done) | (simp [sHt, sH, sS, sAt, sA, sup]; omega)) (fun c2 => ?_) (fun c2 => ?_)
    · skip
      refine hR.run0 2 (S' := (15, [some (vR 0), some (vI a), some (vI (-1))], [vI 1, vR 0], cW τ κ)) rfl ?_
      by_cases q3 : (τ.1 0 = 1 ∨ τ.1 0 = 2) ∧ canU τ (τ.1 1) 1 = true
      · have q3u := q3.2
        have q3m : mayU τ 1 = true := by unfold mayU; simp_all
        refine hR.cv [vI 1] kX5_200 rfl rfl ⟨_, _, _, rfl, rfl, rfl⟩ (by first | decide | exact Nat.le_refl _) (by decide) (Nat.le_of_ble_eq_true rfl) rfl (sp_rUsable1_ok _ _ hph htu hcd hfr hus q3) ?_
        show G (18, [some (vR 0), some (vI a), some (vI (-1))], [], cW τ κ)
        refine hR.run0 2 (S' := (20, [some (vR 0), some (vI a), some (vI (-1))], [vI a, vR 0], cW τ κ)) rfl ?_
        refine hR.cv [vI a] kX5_172 rfl rfl ⟨_, _, _, rfl, rfl, rfl⟩ (by first | decide | exact Nat.le_refl _) (by decide) (Nat.le_of_ble_eq_true rfl) rfl (sp_canBuildRoad _ _ (by omega) hb hr htu) ?_
        show G (23, [some (vR 0), some (vI a), some (vI (-1))], [vI (bI (canR τ a))], cW τ κ)
        by_cases hb_q4 : (canR τ a) = true
        · skip
          have hs_q4 := hb_q4
          try simp only [Bool.and_eq_true, Bool.or_eq_true, Bool.and_eq_false_iff, Bool.or_eq_false_iff, decide_eq_true_eq, decide_eq_false_iff_not] at hs_q4
          refine hR.cs [vI (bI (canR τ a))] kX5_81 rfl rfl (by first | decide | exact Nat.le_refl _) (by decide) (Nat.le_of_ble_eq_true rfl) rfl (sp_rSob_ok _ hb_q4) ?_
          show G (26, [some (vR 0), some (vI a), some (vI (-1))], [], cW τ κ)
          refine hR.run0 5 (S' := (35, [some (vR 0), some (vI a), some (vI (-1))], [vI (τ.1 1), vI a, vR 1], cW τ κ)) rfl ?_
          refine hR.cv [vI a, vI (τ.1 1)] kX5_114 rfl rfl ⟨_, _, _, rfl, rfl, rfl⟩ (by first | decide | exact Nat.le_refl _) (by decide) (Nat.le_of_ble_eq_true rfl) rfl (sp_putRoad _ _ _ (by omega)) ?_
          show G (38, [some (vR 0), some (vI a), some (vI (-1))], [], cW (sAt τ 3 a (τ.1 1)) κ)
          refine hR.run0 2 (S' := (40, [some (vR 0), some (vI a), some (vI (-1))], [vI (-1), vI (-1)], cW (sAt τ 3 a (τ.1 1)) κ)) rfl ?_
          refine hR.br (C := (-1) = (-1)) rfl (by first | omega | (dsimp only; omega) | (simp [sHt, sH, sS, sAt, sA, sup]; done) | (simp [sHt, sH, sS, sAt, sA, sup]; omega)) (fun c5 => ?_) (fun c5 => ?_)
          · skip
            refine hR.run0 5 (S' := (91, [some (vR 0), some (vI a), some (vI (-1))], [vI 1, vI (τ.1 1), vR 50], cW (sAt τ 3 a (τ.1 1)) κ)) rfl ?_
            have hrw : sAt τ 3 a (τ.1 1) = rwS τ a (-1) := (rw_n τ a).symm
            rw [hrw]
            have hrw1 : (rwS τ a (-1)).1 = τ.1 := rwS_1 τ a (-1)
            refine hR.cv [vI (τ.1 1), vI 1] kX5_203 rfl rfl ⟨_, _, _, rfl, rfl, rfl⟩ (by first | decide | exact Nat.le_refl _) (by decide) (Nat.le_of_ble_eq_true rfl) rfl (sp_use1 _ _ (by omega)) ?_
            show G (94, [some (vR 0), some (vI a), some (vI (-1))], [], cW (ruS τ a (-1)) κ)
            refine hR.run0 1 (S' := (95, [some (vR 0), some (vI a), some (vI (-1))], [vR 0], cW (ruS τ a (-1)) κ)) rfl ?_
            have hL9 : Lh (ruS τ a (-1)) := (ruS_Lh hI (by omega) (by assumption) (by omega) (by first | exact .inl rfl | exact .inr (by assumption)) (by first | assumption | exact mayU_canU (by assumption)))
            refine hR.cv [] kX5_120 rfl rfl ⟨_, _, _, rfl, rfl, rfl⟩ (by first | decide | exact Nat.le_refl _) (by decide) (Nat.le_of_ble_eq_true rfl) rfl (sp_look (ruS τ a (-1)) _ hL9 hk0 hk1) ?_
            show G (98, [some (vR 0), some (vI a), some (vI (-1))], [], cW (winS (lkS (ruS τ a (-1)))) (utK ((ruS τ a (-1)).2.1 2) ((ruS τ a (-1)).2.1 3) κ 3))
            have hU0 := utK_on ((ruS τ a (-1)).2.1 2) ((ruS τ a (-1)).2.1 3) κ hk0 3
            have hU1 := utK_ot ((ruS τ a (-1)).2.1 2) ((ruS τ a (-1)).2.1 3) κ hk1 3
            generalize hU : utK ((ruS τ a (-1)).2.1 2) ((ruS τ a (-1)).2.1 3) κ 3 = U at hU0 hU1 ⊢
            have hbs := sp_bsW (ruS τ a (-1)) U hL9 htu hU0 hU1
            have hW1 : (winS (lkS (ruS τ a (-1)))).1 1 = τ.1 1 := by rw [winS_1 _ _ (by decide)]; exact ruS_1 τ a (-1)
            generalize hW : winS (lkS (ruS τ a (-1))) = W at hbs hW1 ⊢
            generalize hQ : gaN ((ruS τ a (-1)).2.1 2) ((ruS τ a (-1)).2.1 3) (τ.1 1) U 30 = Q at hbs
            generalize hB : trT (ruS τ a (-1)) (τ.1 1) = B at hbs
            show G (98, [some (vR 0), some (vI a), some (vI (-1))], [], cW W U)
            refine hR.run0 6 (S' := (110, [some (vR 0), some (vI a), some (vI (-1))], [vI (W.1 1), vR 1, vR 40], cW W U)) rfl ?_
            rw [hW1]
            refine hR.cv [vR 1, vI (τ.1 1)] kX5_175 rfl rfl ⟨_, _, _, rfl, rfl, rfl⟩ (by first | decide | exact Nat.le_refl _) (by decide) (Nat.le_of_ble_eq_true rfl) rfl (hbs) ?_
            show G (113, [some (vR 0), some (vI a), some (vI (-1))], [vI B], cW W Q)
            subst hB
            subst hQ
            subst hW
            subst hU
            have hx : xRoads τ a (-1) = (0, trT (rwS τ a (-1)) (τ.1 1), winS (lkS (usS (rwS τ a (-1)) (τ.1 1) 1))) := by unfold xRoads; (repeat' split) <;> first | rfl | (exfalso; omega) | (exfalso; simp_all; done) | (simp_all; done) | (exfalso; simp_all; omega)
            have hkx : kRoads κ τ a (-1) = gaN ((ruS τ a (-1)).2.1 2) ((ruS τ a (-1)).2.1 3) (τ.1 1) (utK ((ruS τ a (-1)).2.1 2) ((ruS τ a (-1)).2.1 3) κ 3) 30 := by unfold kRoads; rw [hx]; exact if_pos rfl
            have ht9 : trT (ruS τ a (-1)) (τ.1 1) = trT (rwS τ a (-1)) (τ.1 1) := by unfold ruS; rw [us_tr]
            exact hR.rt rfl trivial (by rw [hx, oc_0, ht9]) (by rw [hx, hkx]; rfl)
          · exfalso; omega
        · replace hb_q4 := Bool.eq_false_iff.mpr hb_q4
          have hs_q4 := hb_q4
          try simp only [Bool.and_eq_true, Bool.or_eq_true, Bool.and_eq_false_iff, Bool.or_eq_false_iff, decide_eq_true_eq, decide_eq_false_iff_not] at hs_q4
          have hx : xRoads τ a (-1) = (2, 0, τ) := by unfold xRoads; (repeat' split) <;> first | rfl | (exfalso; omega) | (exfalso; simp_all; done) | (simp_all; done) | (exfalso; simp_all; omega)
          exact hR.csx [vI (bI (canR τ a))] kX5_81 rfl rfl (by decide) (by decide) (Nat.le_of_ble_eq_true rfl) rfl (sp_rSob_x _ hb_q4) (by rw [hx]; rfl) (by unfold kRoads; rw [hx]; rfl)
      · have q3m : ¬ mayU τ 1 = true := by unfold mayU; simp_all
        have hx : xRoads τ a (-1) = (2, 0, τ) := by unfold xRoads; (repeat' split) <;> first | rfl | (exfalso; omega) | (exfalso; simp_all; done) | (simp_all; done) | (exfalso; simp_all; omega)
        exact hR.cvx [vI 1] kX5_200 rfl rfl ⟨_, _, _, rfl, rfl, rfl⟩ (by decide) (by decide) (Nat.le_of_ble_eq_true rfl) rfl (sp_rUsable1_x _ _ hph htu hcd hfr hus q3) (by rw [hx]; rfl) (by unfold kRoads; rw [hx]; rfl)
    · exfalso; omega
  · skip
    have hx : xRoads τ a (-1) = (1, 0, τ) := by unfold xRoads; (repeat' split) <;> first | rfl | (exfalso; omega) | (exfalso; simp_all; done) | (simp_all; done) | (exfalso; simp_all; omega)
    exact hR.csx [vI a] kX5_92 rfl rfl (by decide) (by decide) (Nat.le_of_ble_eq_true rfl) rfl (sp_rEdge_x _ (by omega) q1) (by rw [hx]; rfl) (by unfold kRoads; rw [hx]; rfl)
theorem pX5_roads_v (τ κ : St) {a b : Int} (ha0 : -2147483648 ≤ a ∧ a ≤ 2147483647) (hb0 : -2147483648 ≤ b ∧ b ≤ 2147483647) (hb1 : b ≠ -1) (hk0 : ∀ i, 0 ≤ κ.2.1 0 i ∧ κ.2.1 0 i ≤ 63) (hk1 : ∀ i, 0 ≤ κ.2.1 1 i ∧ κ.2.1 1 i ≤ 63) (hI : Iv τ)  : Sp mX5_roads roC 11 [vR 0, vI a, vI b] (cW τ κ) (oc eIS (xRoads τ a b)) (cW (xRoads τ a b).2.2 (kRoads κ τ a b)) := by
  have hb := hI.hb
  have hr := hI.hr
  have hg := hI.hg
  have hn := hI.hn
  have h7 := hI.h7
  have hh := hI.hh
  have hsm := hI.hsm
  have hcd := hI.hcd
  have hfr := hI.hfr
  have hkn := hI.hkn
  have hbo := hI.hbo
  have hus := hI.hus
  have hro := hI.hro
  have har := hI.har
  have hth := hI.hth
  have hph := hI.hph
  have htu := hI.htu
  have hrb := hI.hrb
  have hpl := hI.hpl
  have hdu := hI.hdu
  have hdp := hI.hdp
  have hof := hI.hof
  have how := hI.how
  have hga := hI.hga
  have hwa := hI.hwa
  have hck := hI.hck
  have hkz := hI.hkz
  have hcb := hI.hcb
  have hfb := hI.hfb
  have hnr := hI.hnr
  have hpq := hI.hpq
  have hrc := hI.hrc
  have hbc := hI.hbc
  have hcc := hI.hcc
  have hac := hI.hac
  refine Sp.of (lk := lkX5) (tb := bX5_roads) (by decide) lkX5_ok tX5_roads (cW_keys _ _ _ _) (Nat.le_of_ble_eq_true rfl) (fun G hR => ?_)
  refine hR.run0 1 (S' := (1, [some (vR 0), some (vI a), some (vI b)], [vI a], cW τ κ)) rfl ?_
  by_cases q1 : 0 ≤ a ∧ a < 30
  · skip
    refine hR.cs [vI a] kX5_92 rfl rfl (by first | decide | exact Nat.le_refl _) (by decide) (Nat.le_of_ble_eq_true rfl) rfl (sp_rEdge_ok _ (by omega) q1) ?_
    show G (4, [some (vR 0), some (vI a), some (vI b)], [], cW τ κ)
    refine hR.run0 2 (S' := (6, [some (vR 0), some (vI a), some (vI b)], [vI (-1), vI b], cW τ κ)) rfl ?_
    refine hR.br (C := b = (-1)) rfl (by first | omega | (dsimp only; omega) | (simp [sHt, sH, sS, sAt, sA, sup]; done) | (simp [sHt, sH, sS, sAt, sA, sup]; omega)) (fun c2 => ?_) (fun c2 => ?_)
    · exfalso; omega
    refine hR.run0 1 (S' := (10, [some (vR 0), some (vI a), some (vI b)], [vI b], cW τ κ)) rfl ?_
    by_cases q3 : 0 ≤ b ∧ b < 30
    · skip
      refine hR.cs [vI b] kX5_92 rfl rfl (by first | decide | exact Nat.le_refl _) (by decide) (Nat.le_of_ble_eq_true rfl) rfl (sp_rEdge_ok _ (by omega) q3) ?_
      show G (13, [some (vR 0), some (vI a), some (vI b)], [], cW τ κ)
      refine hR.run0 2 (S' := (15, [some (vR 0), some (vI a), some (vI b)], [vI 1, vR 0], cW τ κ)) rfl ?_
      by_cases q4 : (τ.1 0 = 1 ∨ τ.1 0 = 2) ∧ canU τ (τ.1 1) 1 = true
      · have q4u := q4.2
        have q4m : mayU τ 1 = true := by unfold mayU; simp_all
        refine hR.cv [vI 1] kX5_200 rfl rfl ⟨_, _, _, rfl, rfl, rfl⟩ (by first | decide | exact Nat.le_refl _) (by decide) (Nat.le_of_ble_eq_true rfl) rfl (sp_rUsable1_ok _ _ hph htu hcd hfr hus q4) ?_
        show G (18, [some (vR 0), some (vI a), some (vI b)], [], cW τ κ)
        refine hR.run0 2 (S' := (20, [some (vR 0), some (vI a), some (vI b)], [vI a, vR 0], cW τ κ)) rfl ?_
        refine hR.cv [vI a] kX5_172 rfl rfl ⟨_, _, _, rfl, rfl, rfl⟩ (by first | decide | exact Nat.le_refl _) (by decide) (Nat.le_of_ble_eq_true rfl) rfl (sp_canBuildRoad _ _ (by omega) hb hr htu) ?_
        show G (23, [some (vR 0), some (vI a), some (vI b)], [vI (bI (canR τ a))], cW τ κ)
        by_cases hb_q5 : (canR τ a) = true
        · skip
          have hs_q5 := hb_q5
          try simp only [Bool.and_eq_true, Bool.or_eq_true, Bool.and_eq_false_iff, Bool.or_eq_false_iff, decide_eq_true_eq, decide_eq_false_iff_not] at hs_q5
          refine hR.cs [vI (bI (canR τ a))] kX5_81 rfl rfl (by first | decide | exact Nat.le_refl _) (by decide) (Nat.le_of_ble_eq_true rfl) rfl (sp_rSob_ok _ hb_q5) ?_
          show G (26, [some (vR 0), some (vI a), some (vI b)], [], cW τ κ)
          refine hR.run0 5 (S' := (35, [some (vR 0), some (vI a), some (vI b)], [vI (τ.1 1), vI a, vR 1], cW τ κ)) rfl ?_
          refine hR.cv [vI a, vI (τ.1 1)] kX5_114 rfl rfl ⟨_, _, _, rfl, rfl, rfl⟩ (by first | decide | exact Nat.le_refl _) (by decide) (Nat.le_of_ble_eq_true rfl) rfl (sp_putRoad _ _ _ (by omega)) ?_
          show G (38, [some (vR 0), some (vI a), some (vI b)], [], cW (sAt τ 3 a (τ.1 1)) κ)
          refine hR.run0 2 (S' := (40, [some (vR 0), some (vI a), some (vI b)], [vI (-1), vI b], cW (sAt τ 3 a (τ.1 1)) κ)) rfl ?_
          refine hR.br (C := b = (-1)) rfl (by first | omega | (dsimp only; omega) | (simp [sHt, sH, sS, sAt, sA, sup]; done) | (simp [sHt, sH, sS, sAt, sA, sup]; omega)) (fun c6 => ?_) (fun c6 => ?_)
          · exfalso; omega
          refine hR.run0 2 (S' := (45, [some (vR 0), some (vI a), some (vI b)], [vI b, vR 0], cW (sAt τ 3 a (τ.1 1)) κ)) rfl ?_
          refine hR.cv [vI b] kX5_172 rfl rfl ⟨_, _, _, rfl, rfl, rfl⟩ (by first | decide | exact Nat.le_refl _) (by decide) (Nat.le_of_ble_eq_true rfl) rfl (sp_canBuildRoad _ _ (by omega) hb (r1_Lh hI (by omega) (by assumption)).2.1 htu) ?_
          show G (48, [some (vR 0), some (vI a), some (vI b)], [vI (bI (canR (sAt τ 3 a (τ.1 1)) b))], cW (sAt τ 3 a (τ.1 1)) κ)
          refine hR.br (C := bI (canR (sAt τ 3 a (τ.1 1)) b) ≠ 0) rfl (bI_r _) (fun c7 => ?_) (fun c7 => ?_)
          · replace c7 : (canR (sAt τ 3 a (τ.1 1)) b) = true := bI1 c7
            try simp only [Bool.and_eq_true, Bool.or_eq_true, Bool.and_eq_false_iff, Bool.or_eq_false_iff, decide_eq_true_eq, decide_eq_false_iff_not] at c7
            refine hR.run0 5 (S' := (79, [some (vR 0), some (vI a), some (vI b)], [vI (τ.1 1), vI b, vR 1], cW (sAt τ 3 a (τ.1 1)) κ)) rfl ?_
            refine hR.cv [vI b, vI (τ.1 1)] kX5_114 rfl rfl ⟨_, _, _, rfl, rfl, rfl⟩ (by first | decide | exact Nat.le_refl _) (by decide) (Nat.le_of_ble_eq_true rfl) rfl (sp_putRoad _ _ _ (by omega)) ?_
            show G (82, [some (vR 0), some (vI a), some (vI b)], [], cW (sAt (sAt τ 3 a (τ.1 1)) 3 b (τ.1 1)) κ)
            refine hR.run0 5 (S' := (91, [some (vR 0), some (vI a), some (vI b)], [vI 1, vI (τ.1 1), vR 50], cW (sAt (sAt τ 3 a (τ.1 1)) 3 b (τ.1 1)) κ)) rfl ?_
            have hrw : sAt (sAt τ 3 a (τ.1 1)) 3 b (τ.1 1) = rwS τ a b := (rw_v τ a hb1).symm
            rw [hrw]
            have hrw1 : (rwS τ a b).1 = τ.1 := rwS_1 τ a b
            refine hR.cv [vI (τ.1 1), vI 1] kX5_203 rfl rfl ⟨_, _, _, rfl, rfl, rfl⟩ (by first | decide | exact Nat.le_refl _) (by decide) (Nat.le_of_ble_eq_true rfl) rfl (sp_use1 _ _ (by omega)) ?_
            show G (94, [some (vR 0), some (vI a), some (vI b)], [], cW (ruS τ a b) κ)
            refine hR.run0 1 (S' := (95, [some (vR 0), some (vI a), some (vI b)], [vR 0], cW (ruS τ a b) κ)) rfl ?_
            have hL9 : Lh (ruS τ a b) := (ruS_Lh hI (by omega) (by assumption) (by omega) (by first | exact .inl rfl | exact .inr (by assumption)) (by first | assumption | exact mayU_canU (by assumption)))
            refine hR.cv [] kX5_120 rfl rfl ⟨_, _, _, rfl, rfl, rfl⟩ (by first | decide | exact Nat.le_refl _) (by decide) (Nat.le_of_ble_eq_true rfl) rfl (sp_look (ruS τ a b) _ hL9 hk0 hk1) ?_
            show G (98, [some (vR 0), some (vI a), some (vI b)], [], cW (winS (lkS (ruS τ a b))) (utK ((ruS τ a b).2.1 2) ((ruS τ a b).2.1 3) κ 3))
            have hU0 := utK_on ((ruS τ a b).2.1 2) ((ruS τ a b).2.1 3) κ hk0 3
            have hU1 := utK_ot ((ruS τ a b).2.1 2) ((ruS τ a b).2.1 3) κ hk1 3
            generalize hU : utK ((ruS τ a b).2.1 2) ((ruS τ a b).2.1 3) κ 3 = U at hU0 hU1 ⊢
            have hbs := sp_bsW (ruS τ a b) U hL9 htu hU0 hU1
            have hW1 : (winS (lkS (ruS τ a b))).1 1 = τ.1 1 := by rw [winS_1 _ _ (by decide)]; exact ruS_1 τ a b
            generalize hW : winS (lkS (ruS τ a b)) = W at hbs hW1 ⊢
            generalize hQ : gaN ((ruS τ a b).2.1 2) ((ruS τ a b).2.1 3) (τ.1 1) U 30 = Q at hbs
            generalize hB : trT (ruS τ a b) (τ.1 1) = B at hbs
            show G (98, [some (vR 0), some (vI a), some (vI b)], [], cW W U)
            refine hR.run0 6 (S' := (110, [some (vR 0), some (vI a), some (vI b)], [vI (W.1 1), vR 1, vR 40], cW W U)) rfl ?_
            rw [hW1]
            refine hR.cv [vR 1, vI (τ.1 1)] kX5_175 rfl rfl ⟨_, _, _, rfl, rfl, rfl⟩ (by first | decide | exact Nat.le_refl _) (by decide) (Nat.le_of_ble_eq_true rfl) rfl (hbs) ?_
            show G (113, [some (vR 0), some (vI a), some (vI b)], [vI B], cW W Q)
            subst hB
            subst hQ
            subst hW
            subst hU
            have hx : xRoads τ a b = (0, trT (rwS τ a b) (τ.1 1), winS (lkS (usS (rwS τ a b) (τ.1 1) 1))) := by unfold xRoads; (repeat' split) <;> first | rfl | (exfalso; omega) | (exfalso; simp_all; done) | (simp_all; done) | (exfalso; simp_all; omega)
            have hkx : kRoads κ τ a b = gaN ((ruS τ a b).2.1 2) ((ruS τ a b).2.1 3) (τ.1 1) (utK ((ruS τ a b).2.1 2) ((ruS τ a b).2.1 3) κ 3) 30 := by unfold kRoads; rw [hx]; exact if_pos rfl
            have ht9 : trT (ruS τ a b) (τ.1 1) = trT (rwS τ a b) (τ.1 1) := by unfold ruS; rw [us_tr]
            exact hR.rt rfl trivial (by rw [hx, oc_0, ht9]) (by rw [hx, hkx]; rfl)
          · replace c7 : (canR (sAt τ 3 a (τ.1 1)) b) = false := bI0 (Classical.not_not.mp c7)
            try simp only [Bool.and_eq_true, Bool.or_eq_true, Bool.and_eq_false_iff, Bool.or_eq_false_iff, decide_eq_true_eq, decide_eq_false_iff_not] at c7
            refine hR.run0 4 (S' := (57, [some (vR 0), some (vI a), some (vI b)], [vI (-1), vI a, vR 1], cW (sAt τ 3 a (τ.1 1)) κ)) rfl ?_
            refine hR.cv [vI a, vI (-1)] kX5_114 rfl rfl ⟨_, _, _, rfl, rfl, rfl⟩ (by first | decide | exact Nat.le_refl _) (by decide) (Nat.le_of_ble_eq_true rfl) rfl (sp_putRoad _ _ _ (by omega)) ?_
            show G (60, [some (vR 0), some (vI a), some (vI b)], [], cW (sAt (sAt τ 3 a (τ.1 1)) 3 a (-1)) κ)
            rw [show sAt (sAt τ 3 a (τ.1 1)) 3 a (-1) = τ from by have h9 := sAt_back (τ := τ) (k := 3) (e := a) (v := τ.1 1); rw [(canR_is (by assumption : canR τ a = true)).2] at h9; exact h9]
            have hx : xRoads τ a b = (2, 0, τ) := by unfold xRoads; (repeat' split) <;> first | rfl | (exfalso; omega) | (exfalso; simp_all; done) | (simp_all; done) | (exfalso; simp_all; omega)
            exact hR.th rfl rfl (Nat.le_of_ble_eq_true rfl) (by rw [hx]; rfl) (by unfold kRoads; rw [hx]; rfl)
        · replace hb_q5 := Bool.eq_false_iff.mpr hb_q5
          have hs_q5 := hb_q5
          try simp only [Bool.and_eq_true, Bool.or_eq_true, Bool.and_eq_false_iff, Bool.or_eq_false_iff, decide_eq_true_eq, decide_eq_false_iff_not] at hs_q5
          have hx : xRoads τ a b = (2, 0, τ) := by unfold xRoads; (repeat' split) <;> first | rfl | (exfalso; omega) | (exfalso; simp_all; done) | (simp_all; done) | (exfalso; simp_all; omega)
          exact hR.csx [vI (bI (canR τ a))] kX5_81 rfl rfl (by decide) (by decide) (Nat.le_of_ble_eq_true rfl) rfl (sp_rSob_x _ hb_q5) (by rw [hx]; rfl) (by unfold kRoads; rw [hx]; rfl)
      · have q4m : ¬ mayU τ 1 = true := by unfold mayU; simp_all
        have hx : xRoads τ a b = (2, 0, τ) := by unfold xRoads; (repeat' split) <;> first | rfl | (exfalso; omega) | (exfalso; simp_all; done) | (simp_all; done) | (exfalso; simp_all; omega)
        exact hR.cvx [vI 1] kX5_200 rfl rfl ⟨_, _, _, rfl, rfl, rfl⟩ (by decide) (by decide) (Nat.le_of_ble_eq_true rfl) rfl (sp_rUsable1_x _ _ hph htu hcd hfr hus q4) (by rw [hx]; rfl) (by unfold kRoads; rw [hx]; rfl)
    · skip
      have hx : xRoads τ a b = (1, 0, τ) := by unfold xRoads; (repeat' split) <;> first | rfl | (exfalso; omega) | (exfalso; simp_all; done) | (simp_all; done) | (exfalso; simp_all; omega)
      exact hR.csx [vI b] kX5_92 rfl rfl (by decide) (by decide) (Nat.le_of_ble_eq_true rfl) rfl (sp_rEdge_x _ (by omega) q3) (by rw [hx]; rfl) (by unfold kRoads; rw [hx]; rfl)
  · skip
    have hx : xRoads τ a b = (1, 0, τ) := by unfold xRoads; (repeat' split) <;> first | rfl | (exfalso; omega) | (exfalso; simp_all; done) | (simp_all; done) | (exfalso; simp_all; omega)
    exact hR.csx [vI a] kX5_92 rfl rfl (by decide) (by decide) (Nat.le_of_ble_eq_true rfl) rfl (sp_rEdge_x _ (by omega) q1) (by rw [hx]; rfl) (by unfold kRoads; rw [hx]; rfl)
theorem pX5_roads (τ κ : St) {a b : Int} (ha0 : -2147483648 ≤ a ∧ a ≤ 2147483647) (hb0 : -2147483648 ≤ b ∧ b ≤ 2147483647) (hk0 : ∀ i, 0 ≤ κ.2.1 0 i ∧ κ.2.1 0 i ≤ 63) (hk1 : ∀ i, 0 ≤ κ.2.1 1 i ∧ κ.2.1 1 i ≤ 63) (hI : Iv τ) : Sp mX5_roads roC 11 [vR 0, vI a, vI b] (cW τ κ) (oc eIS (xRoads τ a b)) (cW (xRoads τ a b).2.2 (kRoads κ τ a b)) := by
  by_cases e : b = -1
  · subst e
    exact pX5_roads_n τ κ ha0 hk0 hk1 hI
  · exact pX5_roads_v τ κ ha0 hb0 e hk0 hk1 hI
