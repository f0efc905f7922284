theorem pX5_road (τ κ : St) {e : Int} (he0 : -2147483648 ≤ e ∧ e ≤ 2147483647) (hk0 : ∀ i, 0 ≤ κ.2.1 0 i ∧ κ.2.1 0 i ≤ 63) (hk1 : ∀ i, 0 ≤ κ.2.1 1 i ∧ κ.2.1 1 i ≤ 63) (hI : Iv τ)  : Sp mX5_road roC 11 [vR 0, vI e] (cW τ κ) (oc eIS (xRoad τ e)) (cW (xRoad τ e).2.2 (kRoad κ τ e)) := by
  have hb := hI.hb
  have hr := hI.hr
  have hg := hI.hg
  have hn := hI.hn
  have h7 := hI.h7
  have hh := hI.hh
  have hsm := hI.hsm
  have hcd := hI.hcd
  have hfr := hI.hfr
  have hkn := hI.hkn
  have hbo := hI.hbo
  have hus := hI.hus
  have hro := hI.hro
  have har := hI.har
  have hth := hI.hth
  have hph := hI.hph
  have htu := hI.htu
  have hrb := hI.hrb
  have hpl := hI.hpl
  have hdu := hI.hdu
  have hdp := hI.hdp
  have hof := hI.hof
  have how := hI.how
  have hga := hI.hga
  have hwa := hI.hwa
  have hck := hI.hck
  have hkz := hI.hkz
  have hcb := hI.hcb
  have hfb := hI.hfb
  have hnr := hI.hnr
  have hpq := hI.hpq
  have hrc := hI.hrc
  have hbc := hI.hbc
  have hcc := hI.hcc
  have hac := hI.hac
  refine Sp.of (lk := lkX5) (tb := bX5_road) (by decide) lkX5_ok tX5_road (cW_keys _ _ _ _) (Nat.le_of_ble_eq_true rfl) (fun G hR => ?_)
  refine hR.run0 1 (S' := (1, [some (vR 0), some (vI e)], [vI e], cW τ κ)) rfl ?_
  by_cases q1 : 0 ≤ e ∧ e < 30
  · skip
    refine hR.cs [vI e] kX5_92 rfl rfl (by first | decide | exact Nat.le_refl _) (by decide) (Nat.le_of_ble_eq_true rfl) rfl (sp_rEdge_ok _ (by omega) q1) ?_
    show G (4, [some (vR 0), some (vI e)], [], cW τ κ)
    refine hR.run0 2 (S' := (6, [some (vR 0), some (vI e)], [vI 2, vR 0], cW τ κ)) rfl ?_
    by_cases q2 : τ.1 0 = 2
    · skip
      refine hR.cv [vI 2] kX5_95 rfl rfl ⟨_, _, _, rfl, rfl, rfl⟩ (by first | decide | exact Nat.le_refl _) (by decide) (Nat.le_of_ble_eq_true rfl) rfl (sp_rPhase_ok _ _ (by omega) hph q2) ?_
      show G (9, [some (vR 0), some (vI e)], [], cW τ κ)
      refine hR.run0 2 (S' := (11, [some (vR 0), some (vI e)], [vI e, vR 0], cW τ κ)) rfl ?_
      refine hR.cv [vI e] kX5_172 rfl rfl ⟨_, _, _, rfl, rfl, rfl⟩ (by first | decide | exact Nat.le_refl _) (by decide) (Nat.le_of_ble_eq_true rfl) rfl (sp_canBuildRoad _ _ (by omega) hb hr htu) ?_
      show G (14, [some (vR 0), some (vI e)], [vI (bI (canR τ e))], cW τ κ)
      by_cases hb_q3 : (canR τ e) = true
      · skip
        have hs_q3 := hb_q3
        try simp only [Bool.and_eq_true, Bool.or_eq_true, Bool.and_eq_false_iff, Bool.or_eq_false_iff, decide_eq_true_eq, decide_eq_false_iff_not] at hs_q3
        refine hR.cs [vI (bI (canR τ e))] kX5_81 rfl rfl (by first | decide | exact Nat.le_refl _) (by decide) (Nat.le_of_ble_eq_true rfl) rfl (sp_rSob_ok _ hb_q3) ?_
        show G (17, [some (vR 0), some (vI e)], [], cW τ κ)
        refine hR.run0 4 (S' := (24, [some (vR 0), some (vI e)], [vI 11, vI (τ.1 1), vR 0], cW τ κ)) rfl ?_
        by_cases q4 : hasG (τ.2.2 0) (τ.1 1) 11 = true
        · skip
          refine hR.cv [vI (τ.1 1), vI 11] kX5_132 rfl rfl ⟨_, _, _, rfl, rfl, rfl⟩ (by first | decide | exact Nat.le_refl _) (by decide) (Nat.le_of_ble_eq_true rfl) rfl (sp_rHas_ok _ _ (by omega) (by omega) hh q4) ?_
          show G (27, [some (vR 0), some (vI e)], [], cW τ κ)
          refine hR.run0 6 (S' := (38, [some (vR 0), some (vI e)], [vI 11, vI 3, vI (τ.1 1), vR 10], cW τ κ)) rfl ?_
          refine hR.cv [vI (τ.1 1), vI 3, vI 11] kX5_135 rfl rfl ⟨_, _, _, rfl, rfl, rfl⟩ (by first | decide | exact Nat.le_refl _) (by decide) (Nat.le_of_ble_eq_true rfl) rfl (sp_moveAll _ _ (by omega) (by omega) (by omega)) ?_
          show G (41, [some (vR 0), some (vI e)], [], cW (mvA τ (τ.1 1) 3 11) (mvAK κ (τ.1 1) 3 11))
          refine hR.run0 5 (S' := (50, [some (vR 0), some (vI e)], [vI (τ.1 1), vI e, vR 1], cW (mvA τ (τ.1 1) 3 11) (mvAK κ (τ.1 1) 3 11))) rfl ?_
          refine hR.cv [vI e, vI (τ.1 1)] kX5_114 rfl rfl ⟨_, _, _, rfl, rfl, rfl⟩ (by first | decide | exact Nat.le_refl _) (by decide) (Nat.le_of_ble_eq_true rfl) rfl (sp_putRoad _ _ _ (by omega)) ?_
          show G (53, [some (vR 0), some (vI e)], [], cW (sAt (mvA τ (τ.1 1) 3 11) 3 e (τ.1 1)) (mvAK κ (τ.1 1) 3 11))
          refine hR.run0 1 (S' := (54, [some (vR 0), some (vI e)], [vR 0], cW (sAt (mvA τ (τ.1 1) 3 11) 3 e (τ.1 1)) (mvAK κ (τ.1 1) 3 11))) rfl ?_
          have hL9 : Lh (rdS τ e) := (rdS_Lh hI (by omega) (by assumption))
          refine hR.cv [] kX5_120 rfl rfl ⟨_, _, _, rfl, rfl, rfl⟩ (by first | decide | exact Nat.le_refl _) (by decide) (Nat.le_of_ble_eq_true rfl) rfl (sp_look (rdS τ e) _ hL9 hk0 hk1) ?_
          show G (57, [some (vR 0), some (vI e)], [], cW (winS (lkS (rdS τ e))) (utK ((rdS τ e).2.1 2) ((rdS τ e).2.1 3) (mvAK κ (τ.1 1) 3 11) 3))
          have hU0 := utK_on ((rdS τ e).2.1 2) ((rdS τ e).2.1 3) (mvAK κ (τ.1 1) 3 11) hk0 3
          have hU1 := utK_ot ((rdS τ e).2.1 2) ((rdS τ e).2.1 3) (mvAK κ (τ.1 1) 3 11) hk1 3
          generalize hU : utK ((rdS τ e).2.1 2) ((rdS τ e).2.1 3) (mvAK κ (τ.1 1) 3 11) 3 = U at hU0 hU1 ⊢
          have hbs := sp_bsW (rdS τ e) U hL9 htu hU0 hU1
          have hW1 : (winS (lkS (rdS τ e))).1 1 = τ.1 1 := by rw [winS_1 _ _ (by decide)]; rfl
          generalize hW : winS (lkS (rdS τ e)) = W at hbs hW1 ⊢
          generalize hQ : gaN ((rdS τ e).2.1 2) ((rdS τ e).2.1 3) (τ.1 1) U 30 = Q at hbs
          generalize hB : trT (rdS τ e) (τ.1 1) = B at hbs
          show G (57, [some (vR 0), some (vI e)], [], cW W U)
          refine hR.run0 6 (S' := (69, [some (vR 0), some (vI e)], [vI (W.1 1), vR 1, vR 40], cW W U)) rfl ?_
          rw [hW1]
          refine hR.cv [vR 1, vI (τ.1 1)] kX5_175 rfl rfl ⟨_, _, _, rfl, rfl, rfl⟩ (by first | decide | exact Nat.le_refl _) (by decide) (Nat.le_of_ble_eq_true rfl) rfl (hbs) ?_
          show G (72, [some (vR 0), some (vI e)], [vI B], cW W Q)
          subst hB
          subst hQ
          subst hW
          subst hU
          have hx : xRoad τ e = (0, trT (rdS τ e) (τ.1 1), winS (lkS (rdS τ e))) := by unfold xRoad; (repeat' split) <;> first | rfl | (exfalso; omega) | (exfalso; simp_all; done) | (simp_all; done) | (exfalso; simp_all; omega)
          have hkx : kRoad κ τ e = gaN ((rdS τ e).2.1 2) ((rdS τ e).2.1 3) (τ.1 1) (utK ((rdS τ e).2.1 2) ((rdS τ e).2.1 3) (mvAK κ (τ.1 1) 3 11) 3) 30 := by unfold kRoad; rw [hx]; exact if_pos rfl
          exact hR.rt rfl trivial (by rw [hx, oc_0]) (by rw [hx, hkx])
        · skip
          have hx : xRoad τ e = (2, 0, τ) := by unfold xRoad; (repeat' split) <;> first | rfl | (exfalso; omega) | (exfalso; simp_all; done) | (simp_all; done) | (exfalso; simp_all; omega)
          exact hR.cvx [vI (τ.1 1), vI 11] kX5_132 rfl rfl ⟨_, _, _, rfl, rfl, rfl⟩ (by decide) (by decide) (Nat.le_of_ble_eq_true rfl) rfl (sp_rHas_x _ _ (by omega) (by omega) hh q4) (by rw [hx]; rfl) (by unfold kRoad; rw [hx]; rfl)
      · replace hb_q3 := Bool.eq_false_iff.mpr hb_q3
        have hs_q3 := hb_q3
        try simp only [Bool.and_eq_true, Bool.or_eq_true, Bool.and_eq_false_iff, Bool.or_eq_false_iff, decide_eq_true_eq, decide_eq_false_iff_not] at hs_q3
        have hx : xRoad τ e = (2, 0, τ) := by unfold xRoad; (repeat' split) <;> first | rfl | (exfalso; omega) | (exfalso; simp_all; done) | (simp_all; done) | (exfalso; simp_all; omega)
        exact hR.csx [vI (bI (canR τ e))] kX5_81 rfl rfl (by decide) (by decide) (Nat.le_of_ble_eq_true rfl) rfl (sp_rSob_x _ hb_q3) (by rw [hx]; rfl) (by unfold kRoad; rw [hx]; rfl)
    · skip
      have hx : xRoad τ e = (2, 0, τ) := by unfold xRoad; (repeat' split) <;> first | rfl | (exfalso; omega) | (exfalso; simp_all; done) | (simp_all; done) | (exfalso; simp_all; omega)
      exact hR.cvx [vI 2] kX5_95 rfl rfl ⟨_, _, _, rfl, rfl, rfl⟩ (by decide) (by decide) (Nat.le_of_ble_eq_true rfl) rfl (sp_rPhase_x _ _ (by omega) hph q2) (by rw [hx]; rfl) (by unfold kRoad; rw [hx]; rfl)
  · skip
    have hx : xRoad τ e = (1, 0, τ) := by unfold xRoad; (repeat' split) <;> first | rfl | (exfalso; omega) | (exfalso; simp_all; done) | (simp_all; done) | (exfalso; simp_all; omega)
    exact hR.csx [vI e] kX5_92 rfl rfl (by decide) (by decide) (Nat.le_of_ble_eq_true rfl) rfl (sp_rEdge_x _ (by omega) q1) (by rw [hx]; rfl) (by unfold kRoad; rw [hx]; rfl)
theorem pX5_house (τ κ : St) {c : Int} (hc0 : -2147483648 ≤ c ∧ c ≤ 2147483647) (hk0 : ∀ i, 0 ≤ κ.2.1 0 i ∧ κ.2.1 0 i ≤ 63) (hk1 : ∀ i, 0 ≤ κ.2.1 1 i ∧ κ.2.1 1 i ≤ 63) (hI : Iv τ)  : Sp mX5_house roC 11 [vR 0, vI c] (cW τ κ) (oc eIS (xHouse τ c)) (cW (xHouse τ c).2.2 (kHouse κ τ c)) := by
  have hb := hI.hb
  have hr := hI.hr
  have hg := hI.hg
  have hn := hI.hn
  have h7 := hI.h7
  have hh := hI.hh
  have hsm := hI.hsm
  have hcd := hI.hcd
  have hfr := hI.hfr
  have hkn := hI.hkn
  have hbo := hI.hbo
  have hus := hI.hus
  have hro := hI.hro
  have har := hI.har
  have hth := hI.hth
  have hph := hI.hph
  have htu := hI.htu
  have hrb := hI.hrb
  have hpl := hI.hpl
  have hdu := hI.hdu
  have hdp := hI.hdp
  have hof := hI.hof
  have how := hI.how
  have hga := hI.hga
  have hwa := hI.hwa
  have hck := hI.hck
  have hkz := hI.hkz
  have hcb := hI.hcb
  have hfb := hI.hfb
  have hnr := hI.hnr
  have hpq := hI.hpq
  have hrc := hI.hrc
  have hbc := hI.hbc
  have hcc := hI.hcc
  have hac := hI.hac
  have hbc1 := hb c
  refine Sp.of (lk := lkX5) (tb := bX5_house) (by decide) lkX5_ok tX5_house (cW_keys _ _ _ _) (Nat.le_of_ble_eq_true rfl) (fun G hR => ?_)
  refine hR.run0 1 (S' := (1, [some (vR 0), some (vI c)], [vI c], cW τ κ)) rfl ?_
  by_cases q1 : 0 ≤ c ∧ c < 24
  · skip
    refine hR.cs [vI c] kX5_89 rfl rfl (by first | decide | exact Nat.le_refl _) (by decide) (Nat.le_of_ble_eq_true rfl) rfl (sp_rCorner_ok _ (by omega) q1) ?_
    show G (4, [some (vR 0), some (vI c)], [], cW τ κ)
    refine hR.run0 2 (S' := (6, [some (vR 0), some (vI c)], [vI 2, vR 0], cW τ κ)) rfl ?_
    by_cases q2 : τ.1 0 = 2
    · skip
      refine hR.cv [vI 2] kX5_95 rfl rfl ⟨_, _, _, rfl, rfl, rfl⟩ (by first | decide | exact Nat.le_refl _) (by decide) (Nat.le_of_ble_eq_true rfl) rfl (sp_rPhase_ok _ _ (by omega) hph q2) ?_
      show G (9, [some (vR 0), some (vI c)], [], cW τ κ)
      refine hR.run0 4 (S' := (17, [some (vR 0), some (vI c)], [vI (τ.1 1), vR 1], cW τ κ)) rfl ?_
      have f1 := cntN_r (τ.2.1 2) (τ.1 1) 24
      refine hR.cv [vI (τ.1 1)] kX5_179 rfl rfl ⟨_, _, _, rfl, rfl, rfl⟩ (by first | decide | exact Nat.le_refl _) (by decide) (Nat.le_of_ble_eq_true rfl) rfl (sp_countBuildings _ _ (by omega) hb) ?_
      show G (20, [some (vR 0), some (vI c)], [vI (cntN (τ.2.1 2) (τ.1 1) 24)], cW τ κ)
      refine hR.run0 1 (S' := (21, [some (vR 0), some (vI c)], [vI 4, vI (cntN (τ.2.1 2) (τ.1 1) 24)], cW τ κ)) rfl ?_
      refine hR.br (C := 4 ≤ cntN (τ.2.1 2) (τ.1 1) 24) rfl (by first | omega | (dsimp only; omega) | (simp [sHt, sH, sS, sAt, sA, sup]; done) | (simp [sHt, sH, sS, sAt, sA, sup]; omega)) (fun c3 => ?_) (fun c3 => ?_)
      · skip
        refine hR.run0 1 (S' := (29, [some (vR 0), some (vI c)], [vI 0], cW τ κ)) rfl ?_
        have hx : xHouse τ c = (2, 0, τ) := by unfold xHouse; (repeat' split) <;> first | rfl | (exfalso; omega) | (exfalso; simp_all; done) | (simp_all; done) | (exfalso; simp_all; omega)
        exact hR.csx [vI 0] kX5_81 rfl rfl (by decide) (by decide) (Nat.le_of_ble_eq_true rfl) rfl (sp_rSo_x _ (Or.inl rfl) (by decide)) (by rw [hx]; rfl) (by unfold kHouse; rw [hx]; rfl)
      · skip
        refine hR.run0 2 (S' := (29, [some (vR 0), some (vI c)], [vI 1], cW τ κ)) rfl ?_
        refine hR.cs [vI 1] kX5_81 rfl rfl (by first | decide | exact Nat.le_refl _) (by decide) (Nat.le_of_ble_eq_true rfl) rfl (sp_rSo_ok _ (Or.inr rfl) rfl) ?_
        show G (32, [some (vR 0), some (vI c)], [], cW τ κ)
        refine hR.run0 3 (S' := (37, [some (vR 0), some (vI c)], [vI c, vR 1], cW τ κ)) rfl ?_
        refine hR.cv [vI c] kX5_98 rfl rfl ⟨_, _, _, rfl, rfl, rfl⟩ (by first | decide | exact Nat.le_refl _) (by decide) (Nat.le_of_ble_eq_true rfl) rfl (sp_canTakeHouse _ _ (by omega) hb) ?_
        show G (40, [some (vR 0), some (vI c)], [vI (bI (freeC (τ.2.1 2) c))], cW τ κ)
        by_cases hb_q4 : (freeC (τ.2.1 2) c) = true
        · skip
          have hs_q4 := hb_q4
          try simp only [Bool.and_eq_true, Bool.or_eq_true, Bool.and_eq_false_iff, Bool.or_eq_false_iff, decide_eq_true_eq, decide_eq_false_iff_not] at hs_q4
          refine hR.cs [vI (bI (freeC (τ.2.1 2) c))] kX5_81 rfl rfl (by first | decide | exact Nat.le_refl _) (by decide) (Nat.le_of_ble_eq_true rfl) rfl (sp_rSob_ok _ hb_q4) ?_
          show G (43, [some (vR 0), some (vI c)], [], cW τ κ)
          refine hR.run0 5 (S' := (52, [some (vR 0), some (vI c)], [vI c, vI (τ.1 1), vR 1], cW τ κ)) rfl ?_
          refine hR.cv [vI (τ.1 1), vI c] kX5_182 rfl rfl ⟨_, _, _, rfl, rfl, rfl⟩ (by first | decide | exact Nat.le_refl _) (by decide) (Nat.le_of_ble_eq_true rfl) rfl (sp_hasRoadAt _ _ (by omega) (by omega) hr) ?_
          show G (55, [some (vR 0), some (vI c)], [vI (bI (roadAtC (τ.2.1 3) (τ.1 1) c))], cW τ κ)
          by_cases hb_q5 : (roadAtC (τ.2.1 3) (τ.1 1) c) = true
          · skip
            have hs_q5 := hb_q5
            try simp only [Bool.and_eq_true, Bool.or_eq_true, Bool.and_eq_false_iff, Bool.or_eq_false_iff, decide_eq_true_eq, decide_eq_false_iff_not] at hs_q5
            refine hR.cs [vI (bI (roadAtC (τ.2.1 3) (τ.1 1) c))] kX5_81 rfl rfl (by first | decide | exact Nat.le_refl _) (by decide) (Nat.le_of_ble_eq_true rfl) rfl (sp_rSob_ok _ hb_q5) ?_
            show G (58, [some (vR 0), some (vI c)], [], cW τ κ)
            refine hR.run0 4 (S' := (66, [some (vR 0), some (vI c)], [vI 1111, vI (τ.1 1), vR 0], cW τ κ)) rfl ?_
            by_cases q6 : hasG (τ.2.2 0) (τ.1 1) 1111 = true
            · skip
              refine hR.cv [vI (τ.1 1), vI 1111] kX5_132 rfl rfl ⟨_, _, _, rfl, rfl, rfl⟩ (by first | decide | exact Nat.le_refl _) (by decide) (Nat.le_of_ble_eq_true rfl) rfl (sp_rHas_ok _ _ (by omega) (by omega) hh q6) ?_
              show G (69, [some (vR 0), some (vI c)], [], cW τ κ)
              refine hR.run0 6 (S' := (81, [some (vR 0), some (vI c)], [vI 1111, vI 3, vI (τ.1 1), vR 10], cW τ κ)) rfl ?_
              refine hR.cv [vI (τ.1 1), vI 3, vI 1111] kX5_135 rfl rfl ⟨_, _, _, rfl, rfl, rfl⟩ (by first | decide | exact Nat.le_refl _) (by decide) (Nat.le_of_ble_eq_true rfl) rfl (sp_moveAll _ _ (by omega) (by omega) (by omega)) ?_
              show G (84, [some (vR 0), some (vI c)], [], cW (mvA τ (τ.1 1) 3 1111) (mvAK κ (τ.1 1) 3 1111))
              refine hR.run0 5 (S' := (93, [some (vR 0), some (vI c)], [vI (τ.1 1), vI c, vR 1], cW (mvA τ (τ.1 1) 3 1111) (mvAK κ (τ.1 1) 3 1111))) rfl ?_
              refine hR.cv [vI c, vI (τ.1 1)] kX5_110 rfl rfl ⟨_, _, _, rfl, rfl, rfl⟩ (by first | decide | exact Nat.le_refl _) (by decide) (Nat.le_of_ble_eq_true rfl) rfl (sp_putBuilding _ _ _ (by omega)) ?_
              show G (96, [some (vR 0), some (vI c)], [], cW (sAt (mvA τ (τ.1 1) 3 1111) 2 c (τ.1 1)) (mvAK κ (τ.1 1) 3 1111))
              refine hR.run0 1 (S' := (97, [some (vR 0), some (vI c)], [vR 0], cW (sAt (mvA τ (τ.1 1) 3 1111) 2 c (τ.1 1)) (mvAK κ (τ.1 1) 3 1111))) rfl ?_
              refine hR.cv [] kX5_120 rfl rfl ⟨_, _, _, rfl, rfl, rfl⟩ (by first | decide | exact Nat.le_refl _) (by decide) (Nat.le_of_ble_eq_true rfl) rfl (sp_look (hsS τ c) _ (hsS_Lh hI) hk0 hk1) ?_
              show G (100, [some (vR 0), some (vI c)], [], cW (winS (lkS (hsS τ c))) (utK ((hsS τ c).2.1 2) ((hsS τ c).2.1 3) (mvAK κ (τ.1 1) 3 1111) 3))
              refine hR.run0 3 (S' := (105, [some (vR 0), some (vI c)], [vI ((winS (lkS (hsS τ c))).1 1), vR 0], cW (winS (lkS (hsS τ c))) (utK ((hsS τ c).2.1 2) ((hsS τ c).2.1 3) (mvAK κ (τ.1 1) 3 1111) 3))) rfl ?_
              rw [show (winS (lkS (hsS τ c))).1 1 = τ.1 1 from by rw [winS_1 _ _ (by decide)]; rfl]
              refine hR.cv [vI (τ.1 1)] kX5_185 rfl rfl ⟨_, _, _, rfl, rfl, rfl⟩ (by first | decide | exact Nat.le_refl _) (by decide) (Nat.le_of_ble_eq_true rfl) rfl (sp_ptsW _ _ (Wi.win (Lh.lk (hsS_Lh hI))) htu) ?_
              show G (108, [some (vR 0), some (vI c)], [vI (ptsF (winS (lkS (hsS τ c))) (τ.1 1))], cW (winS (lkS (hsS τ c))) (utK ((hsS τ c).2.1 2) ((hsS τ c).2.1 3) (mvAK κ (τ.1 1) 3 1111) 3))
              have hx : xHouse τ c = (0, ptsF (winS (lkS (hsS τ c))) (τ.1 1), winS (lkS (hsS τ c))) := by unfold xHouse; (repeat' split) <;> first | rfl | (exfalso; omega) | (exfalso; simp_all; done) | (simp_all; done) | (exfalso; simp_all; omega)
              have hkx : kHouse κ τ c = utK ((hsS τ c).2.1 2) ((hsS τ c).2.1 3) (mvAK κ (τ.1 1) 3 1111) 3 := by unfold kHouse; rw [hx]; exact if_pos rfl
              exact hR.rt rfl trivial (by rw [hx, oc_0]) (by rw [hx, hkx])
            · skip
              have hx : xHouse τ c = (2, 0, τ) := by unfold xHouse; (repeat' split) <;> first | rfl | (exfalso; omega) | (exfalso; simp_all; done) | (simp_all; done) | (exfalso; simp_all; omega)
              exact hR.cvx [vI (τ.1 1), vI 1111] kX5_132 rfl rfl ⟨_, _, _, rfl, rfl, rfl⟩ (by decide) (by decide) (Nat.le_of_ble_eq_true rfl) rfl (sp_rHas_x _ _ (by omega) (by omega) hh q6) (by rw [hx]; rfl) (by unfold kHouse; rw [hx]; rfl)
          · replace hb_q5 := Bool.eq_false_iff.mpr hb_q5
            have hs_q5 := hb_q5
            try simp only [Bool.and_eq_true, Bool.or_eq_true, Bool.and_eq_false_iff, Bool.or_eq_false_iff, decide_eq_true_eq, decide_eq_false_iff_not] at hs_q5
            have hx : xHouse τ c = (2, 0, τ) := by unfold xHouse; (repeat' split) <;> first | rfl | (exfalso; omega) | (exfalso; simp_all; done) | (simp_all; done) | (exfalso; simp_all; omega)
            exact hR.csx [vI (bI (roadAtC (τ.2.1 3) (τ.1 1) c))] kX5_81 rfl rfl (by decide) (by decide) (Nat.le_of_ble_eq_true rfl) rfl (sp_rSob_x _ hb_q5) (by rw [hx]; rfl) (by unfold kHouse; rw [hx]; rfl)
        · replace hb_q4 := Bool.eq_false_iff.mpr hb_q4
          have hs_q4 := hb_q4
          try simp only [Bool.and_eq_true, Bool.or_eq_true, Bool.and_eq_false_iff, Bool.or_eq_false_iff, decide_eq_true_eq, decide_eq_false_iff_not] at hs_q4
          have hx : xHouse τ c = (2, 0, τ) := by unfold xHouse; (repeat' split) <;> first | rfl | (exfalso; omega) | (exfalso; simp_all; done) | (simp_all; done) | (exfalso; simp_all; omega)
          exact hR.csx [vI (bI (freeC (τ.2.1 2) c))] kX5_81 rfl rfl (by decide) (by decide) (Nat.le_of_ble_eq_true rfl) rfl (sp_rSob_x _ hb_q4) (by rw [hx]; rfl) (by unfold kHouse; rw [hx]; rfl)
    · skip
      have hx : xHouse τ c = (2, 0, τ) := by unfold xHouse; (repeat' split) <;> first | rfl | (exfalso; omega) | (exfalso; simp_all; done) | (simp_all; done) | (exfalso; simp_all; omega)
      exact hR.cvx [vI 2] kX5_95 rfl rfl ⟨_, _, _, rfl, rfl, rfl⟩ (by decide) (by decide) (Nat.le_of_ble_eq_true rfl) rfl (sp_rPhase_x _ _ (by omega) hph q2) (by rw [hx]; rfl) (by unfold kHouse; rw [hx]; rfl)
  · skip
    have hx : xHouse τ c = (1, 0, τ) := by unfold xHouse; (repeat' split) <;> first | rfl | (exfalso; omega) | (exfalso; simp_all; done) | (simp_all; done) | (exfalso; simp_all; omega)
    exact hR.csx [vI c] kX5_89 rfl rfl (by decide) (by decide) (Nat.le_of_ble_eq_true rfl) rfl (sp_rCorner_x _ (by omega) q1) (by rw [hx]; rfl) (by unfold kHouse; rw [hx]; rfl)
theorem pX5_city (τ κ : St) {c : Int} (hc0 : -2147483648 ≤ c ∧ c ≤ 2147483647) (hk0 : ∀ i, 0 ≤ κ.2.1 0 i ∧ κ.2.1 0 i ≤ 63) (hk1 : ∀ i, 0 ≤ κ.2.1 1 i ∧ κ.2.1 1 i ≤ 63) (hI : Iv τ)  : Sp mX5_city roC 11 [vR 0, vI c] (cW τ κ) (oc eIS (xCity τ c)) (cW (xCity τ c).2.2 (kCity κ τ c)) := by
  have hb := hI.hb
  have hr := hI.hr
  have hg := hI.hg
  have hn := hI.hn
  have h7 := hI.h7
  have hh := hI.hh
  have hsm := hI.hsm
  have hcd := hI.hcd
  have hfr := hI.hfr
  have hkn := hI.hkn
  have hbo := hI.hbo
  have hus := hI.hus
  have hro := hI.hro
  have har := hI.har
  have hth := hI.hth
  have hph := hI.hph
  have htu := hI.htu
  have hrb := hI.hrb
  have hpl := hI.hpl
  have hdu := hI.hdu
  have hdp := hI.hdp
  have hof := hI.hof
  have how := hI.how
  have hga := hI.hga
  have hwa := hI.hwa
  have hck := hI.hck
  have hkz := hI.hkz
  have hcb := hI.hcb
  have hfb := hI.hfb
  have hnr := hI.hnr
  have hpq := hI.hpq
  have hrc := hI.hrc
  have hbc := hI.hbc
  have hcc := hI.hcc
  have hac := hI.hac
  have hbc1 := hb c
  refine Sp.of (lk := lkX5) (tb := bX5_city) (by decide) lkX5_ok tX5_city (cW_keys _ _ _ _) (Nat.le_of_ble_eq_true rfl) (fun G hR => ?_)
  refine hR.run0 1 (S' := (1, [some (vR 0), some (vI c)], [vI c], cW τ κ)) rfl ?_
  by_cases q1 : 0 ≤ c ∧ c < 24
  · skip
    refine hR.cs [vI c] kX5_89 rfl rfl (by first | decide | exact Nat.le_refl _) (by decide) (Nat.le_of_ble_eq_true rfl) rfl (sp_rCorner_ok _ (by omega) q1) ?_
    show G (4, [some (vR 0), some (vI c)], [], cW τ κ)
    refine hR.run0 2 (S' := (6, [some (vR 0), some (vI c)], [vI 2, vR 0], cW τ κ)) rfl ?_
    by_cases q2 : τ.1 0 = 2
    · skip
      refine hR.cv [vI 2] kX5_95 rfl rfl ⟨_, _, _, rfl, rfl, rfl⟩ (by first | decide | exact Nat.le_refl _) (by decide) (Nat.le_of_ble_eq_true rfl) rfl (sp_rPhase_ok _ _ (by omega) hph q2) ?_
      show G (9, [some (vR 0), some (vI c)], [], cW τ κ)
      refine hR.run0 6 (S' := (19, [some (vR 0), some (vI c)], [vI (3 + (τ.1 1)), vR 1], cW τ κ)) rfl ?_
      have f1 := cntN_r (τ.2.1 2) (3 + (τ.1 1)) 24
      refine hR.cv [vI (3 + (τ.1 1))] kX5_179 rfl rfl ⟨_, _, _, rfl, rfl, rfl⟩ (by first | decide | exact Nat.le_refl _) (by decide) (Nat.le_of_ble_eq_true rfl) rfl (sp_countBuildings _ _ (by omega) hb) ?_
      show G (22, [some (vR 0), some (vI c)], [vI (cntN (τ.2.1 2) (3 + (τ.1 1)) 24)], cW τ κ)
      refine hR.run0 1 (S' := (23, [some (vR 0), some (vI c)], [vI 3, vI (cntN (τ.2.1 2) (3 + (τ.1 1)) 24)], cW τ κ)) rfl ?_
      refine hR.br (C := 3 ≤ cntN (τ.2.1 2) (3 + (τ.1 1)) 24) rfl (by first | omega | (dsimp only; omega) | (simp [sHt, sH, sS, sAt, sA, sup]; done) | (simp [sHt, sH, sS, sAt, sA, sup]; omega)) (fun c3 => ?_) (fun c3 => ?_)
      · skip
        refine hR.run0 1 (S' := (31, [some (vR 0), some (vI c)], [vI 0], cW τ κ)) rfl ?_
        have hx : xCity τ c = (2, 0, τ) := by unfold xCity; (repeat' split) <;> first | rfl | (exfalso; omega) | (exfalso; simp_all; done) | (simp_all; done) | (exfalso; simp_all; omega)
        exact hR.csx [vI 0] kX5_81 rfl rfl (by decide) (by decide) (Nat.le_of_ble_eq_true rfl) rfl (sp_rSo_x _ (Or.inl rfl) (by decide)) (by rw [hx]; rfl) (by unfold kCity; rw [hx]; rfl)
      · skip
        refine hR.run0 2 (S' := (31, [some (vR 0), some (vI c)], [vI 1], cW τ κ)) rfl ?_
        refine hR.cs [vI 1] kX5_81 rfl rfl (by first | decide | exact Nat.le_refl _) (by decide) (Nat.le_of_ble_eq_true rfl) rfl (sp_rSo_ok _ (Or.inr rfl) rfl) ?_
        show G (34, [some (vR 0), some (vI c)], [], cW τ κ)
        refine hR.run0 3 (S' := (39, [some (vR 0), some (vI c)], [vI c, vR 1], cW τ κ)) rfl ?_
        refine hR.cv [vI c] kX5_188 rfl rfl ⟨_, _, _, rfl, rfl, rfl⟩ (by first | decide | exact Nat.le_refl _) (by decide) (Nat.le_of_ble_eq_true rfl) rfl (sp_building _ _ (by omega)) ?_
        show G (42, [some (vR 0), some (vI c)], [vI (τ.2.1 2 c)], cW τ κ)
        refine hR.run0 2 (S' := (46, [some (vR 0), some (vI c)], [vI (τ.1 1), vI (τ.2.1 2 c)], cW τ κ)) rfl ?_
        refine hR.br (C := τ.2.1 2 c ≠ τ.1 1) rfl (by first | omega | (dsimp only; omega) | (simp [sHt, sH, sS, sAt, sA, sup]; done) | (simp [sHt, sH, sS, sAt, sA, sup]; omega)) (fun c4 => ?_) (fun c4 => ?_)
        · skip
          refine hR.run0 1 (S' := (54, [some (vR 0), some (vI c)], [vI 0], cW τ κ)) rfl ?_
          have hx : xCity τ c = (2, 0, τ) := by unfold xCity; (repeat' split) <;> first | rfl | (exfalso; omega) | (exfalso; simp_all; done) | (simp_all; done) | (exfalso; simp_all; omega)
          exact hR.csx [vI 0] kX5_81 rfl rfl (by decide) (by decide) (Nat.le_of_ble_eq_true rfl) rfl (sp_rSo_x _ (Or.inl rfl) (by decide)) (by rw [hx]; rfl) (by unfold kCity; rw [hx]; rfl)
        · skip
          refine hR.run0 2 (S' := (54, [some (vR 0), some (vI c)], [vI 1], cW τ κ)) rfl ?_
          refine hR.cs [vI 1] kX5_81 rfl rfl (by first | decide | exact Nat.le_refl _) (by decide) (Nat.le_of_ble_eq_true rfl) rfl (sp_rSo_ok _ (Or.inr rfl) rfl) ?_
          show G (57, [some (vR 0), some (vI c)], [], cW τ κ)
          refine hR.run0 4 (S' := (65, [some (vR 0), some (vI c)], [vI 32000, vI (τ.1 1), vR 0], cW τ κ)) rfl ?_
          by_cases q5 : hasG (τ.2.2 0) (τ.1 1) 32000 = true
          · skip
            refine hR.cv [vI (τ.1 1), vI 32000] kX5_132 rfl rfl ⟨_, _, _, rfl, rfl, rfl⟩ (by first | decide | exact Nat.le_refl _) (by decide) (Nat.le_of_ble_eq_true rfl) rfl (sp_rHas_ok _ _ (by omega) (by omega) hh q5) ?_
            show G (68, [some (vR 0), some (vI c)], [], cW τ κ)
            refine hR.run0 6 (S' := (80, [some (vR 0), some (vI c)], [vI 32000, vI 3, vI (τ.1 1), vR 10], cW τ κ)) rfl ?_
            refine hR.cv [vI (τ.1 1), vI 3, vI 32000] kX5_135 rfl rfl ⟨_, _, _, rfl, rfl, rfl⟩ (by first | decide | exact Nat.le_refl _) (by decide) (Nat.le_of_ble_eq_true rfl) rfl (sp_moveAll _ _ (by omega) (by omega) (by omega)) ?_
            show G (83, [some (vR 0), some (vI c)], [], cW (mvA τ (τ.1 1) 3 32000) (mvAK κ (τ.1 1) 3 32000))
            refine hR.run0 7 (S' := (94, [some (vR 0), some (vI c)], [vI (3 + (τ.1 1)), vI c, vR 1], cW (mvA τ (τ.1 1) 3 32000) (mvAK κ (τ.1 1) 3 32000))) rfl ?_
            refine hR.cv [vI c, vI (3 + (τ.1 1))] kX5_110 rfl rfl ⟨_, _, _, rfl, rfl, rfl⟩ (by first | decide | exact Nat.le_refl _) (by decide) (Nat.le_of_ble_eq_true rfl) rfl (sp_putBuilding _ _ _ (by omega)) ?_
            show G (97, [some (vR 0), some (vI c)], [], cW (sAt (mvA τ (τ.1 1) 3 32000) 2 c (3 + (τ.1 1))) (mvAK κ (τ.1 1) 3 32000))
            refine hR.run0 1 (S' := (98, [some (vR 0), some (vI c)], [vR 0], cW (sAt (mvA τ (τ.1 1) 3 32000) 2 c (3 + (τ.1 1))) (mvAK κ (τ.1 1) 3 32000))) rfl ?_
            refine hR.cv [] kX5_120 rfl rfl ⟨_, _, _, rfl, rfl, rfl⟩ (by first | decide | exact Nat.le_refl _) (by decide) (Nat.le_of_ble_eq_true rfl) rfl (sp_look (ctS τ c) _ (ctS_Lh hI) hk0 hk1) ?_
            show G (101, [some (vR 0), some (vI c)], [], cW (winS (lkS (ctS τ c))) (utK ((ctS τ c).2.1 2) ((ctS τ c).2.1 3) (mvAK κ (τ.1 1) 3 32000) 3))
            refine hR.run0 3 (S' := (106, [some (vR 0), some (vI c)], [vI ((winS (lkS (ctS τ c))).1 1), vR 0], cW (winS (lkS (ctS τ c))) (utK ((ctS τ c).2.1 2) ((ctS τ c).2.1 3) (mvAK κ (τ.1 1) 3 32000) 3))) rfl ?_
            rw [show (winS (lkS (ctS τ c))).1 1 = τ.1 1 from by rw [winS_1 _ _ (by decide)]; rfl]
            refine hR.cv [vI (τ.1 1)] kX5_185 rfl rfl ⟨_, _, _, rfl, rfl, rfl⟩ (by first | decide | exact Nat.le_refl _) (by decide) (Nat.le_of_ble_eq_true rfl) rfl (sp_ptsW _ _ (Wi.win (Lh.lk (ctS_Lh hI))) htu) ?_
            show G (109, [some (vR 0), some (vI c)], [vI (ptsF (winS (lkS (ctS τ c))) (τ.1 1))], cW (winS (lkS (ctS τ c))) (utK ((ctS τ c).2.1 2) ((ctS τ c).2.1 3) (mvAK κ (τ.1 1) 3 32000) 3))
            have hx : xCity τ c = (0, ptsF (winS (lkS (ctS τ c))) (τ.1 1), winS (lkS (ctS τ c))) := by unfold xCity; (repeat' split) <;> first | rfl | (exfalso; omega) | (exfalso; simp_all; done) | (simp_all; done) | (exfalso; simp_all; omega)
            have hkx : kCity κ τ c = utK ((ctS τ c).2.1 2) ((ctS τ c).2.1 3) (mvAK κ (τ.1 1) 3 32000) 3 := by unfold kCity; rw [hx]; exact if_pos rfl
            exact hR.rt rfl trivial (by rw [hx, oc_0]) (by rw [hx, hkx])
          · skip
            have hx : xCity τ c = (2, 0, τ) := by unfold xCity; (repeat' split) <;> first | rfl | (exfalso; omega) | (exfalso; simp_all; done) | (simp_all; done) | (exfalso; simp_all; omega)
            exact hR.cvx [vI (τ.1 1), vI 32000] kX5_132 rfl rfl ⟨_, _, _, rfl, rfl, rfl⟩ (by decide) (by decide) (Nat.le_of_ble_eq_true rfl) rfl (sp_rHas_x _ _ (by omega) (by omega) hh q5) (by rw [hx]; rfl) (by unfold kCity; rw [hx]; rfl)
    · skip
      have hx : xCity τ c = (2, 0, τ) := by unfold xCity; (repeat' split) <;> first | rfl | (exfalso; omega) | (exfalso; simp_all; done) | (simp_all; done) | (exfalso; simp_all; omega)
      exact hR.cvx [vI 2] kX5_95 rfl rfl ⟨_, _, _, rfl, rfl, rfl⟩ (by decide) (by decide) (Nat.le_of_ble_eq_true rfl) rfl (sp_rPhase_x _ _ (by omega) hph q2) (by rw [hx]; rfl) (by unfold kCity; rw [hx]; rfl)
  · skip
    have hx : xCity τ c = (1, 0, τ) := by unfold xCity; (repeat' split) <;> first | rfl | (exfalso; omega) | (exfalso; simp_all; done) | (simp_all; done) | (exfalso; simp_all; omega)
    exact hR.csx [vI c] kX5_89 rfl rfl (by decide) (by decide) (Nat.le_of_ble_eq_true rfl) rfl (sp_rCorner_x _ (by omega) q1) (by rw [hx]; rfl) (by unfold kCity; rw [hx]; rfl)
theorem pX5_place (τ κ : St) {c e : Int} (hc0 : -2147483648 ≤ c ∧ c ≤ 2147483647) (he0 : -2147483648 ≤ e ∧ e ≤ 2147483647) (hk0 : ∀ i, 0 ≤ κ.2.1 0 i ∧ κ.2.1 0 i ≤ 63) (hk1 : ∀ i, 0 ≤ κ.2.1 1 i ∧ κ.2.1 1 i ≤ 63) (hI : Iv τ)  : Sp mX5_place roC 11 [vR 0, vI c, vI e] (cW τ κ) (oc eIS (xPlace τ c e)) (cW (xPlace τ c e).2.2 (kPlace κ τ c e)) := by
  have hb := hI.hb
  have hr := hI.hr
  have hg := hI.hg
  have hn := hI.hn
  have h7 := hI.h7
  have hh := hI.hh
  have hsm := hI.hsm
  have hcd := hI.hcd
  have hfr := hI.hfr
  have hkn := hI.hkn
  have hbo := hI.hbo
  have hus := hI.hus
  have hro := hI.hro
  have har := hI.har
  have hth := hI.hth
  have hph := hI.hph
  have htu := hI.htu
  have hrb := hI.hrb
  have hpl := hI.hpl
  have hdu := hI.hdu
  have hdp := hI.hdp
  have hof := hI.hof
  have how := hI.how
  have hga := hI.hga
  have hwa := hI.hwa
  have hck := hI.hck
  have hkz := hI.hkz
  have hcb := hI.hcb
  have hfb := hI.hfb
  have hnr := hI.hnr
  have hpq := hI.hpq
  have hrc := hI.hrc
  have hbc := hI.hbc
  have hcc := hI.hcc
  have hac := hI.hac
  have hre1 := hr e
  refine Sp.of (lk := lkX5) (tb := bX5_place) (by decide) lkX5_ok tX5_place (cW_keys _ _ _ _) (Nat.le_of_ble_eq_true rfl) (fun G hR => ?_)
  refine hR.run0 1 (S' := (1, [some (vR 0), some (vI c), some (vI e)], [vI c], cW τ κ)) rfl ?_
  by_cases q1 : 0 ≤ c ∧ c < 24
  · skip
    refine hR.cs [vI c] kX5_89 rfl rfl (by first | decide | exact Nat.le_refl _) (by decide) (Nat.le_of_ble_eq_true rfl) rfl (sp_rCorner_ok _ (by omega) q1) ?_
    show G (4, [some (vR 0), some (vI c), some (vI e)], [], cW τ κ)
    refine hR.run0 1 (S' := (5, [some (vR 0), some (vI c), some (vI e)], [vI e], cW τ κ)) rfl ?_
    by_cases q2 : 0 ≤ e ∧ e < 30
    · skip
      refine hR.cs [vI e] kX5_92 rfl rfl (by first | decide | exact Nat.le_refl _) (by decide) (Nat.le_of_ble_eq_true rfl) rfl (sp_rEdge_ok _ (by omega) q2) ?_
      show G (8, [some (vR 0), some (vI c), some (vI e)], [], cW τ κ)
      refine hR.run0 2 (S' := (10, [some (vR 0), some (vI c), some (vI e)], [vI 0, vR 0], cW τ κ)) rfl ?_
      by_cases q3 : τ.1 0 = 0
      · skip
        refine hR.cv [vI 0] kX5_95 rfl rfl ⟨_, _, _, rfl, rfl, rfl⟩ (by first | decide | exact Nat.le_refl _) (by decide) (Nat.le_of_ble_eq_true rfl) rfl (sp_rPhase_ok _ _ (by omega) hph q3) ?_
        show G (13, [some (vR 0), some (vI c), some (vI e)], [], cW τ κ)
        refine hR.run0 3 (S' := (18, [some (vR 0), some (vI c), some (vI e)], [vI c, vR 1], cW τ κ)) rfl ?_
        refine hR.cv [vI c] kX5_98 rfl rfl ⟨_, _, _, rfl, rfl, rfl⟩ (by first | decide | exact Nat.le_refl _) (by decide) (Nat.le_of_ble_eq_true rfl) rfl (sp_canTakeHouse _ _ (by omega) hb) ?_
        show G (21, [some (vR 0), some (vI c), some (vI e)], [vI (bI (freeC (τ.2.1 2) c))], cW τ κ)
        by_cases hb_q4 : (freeC (τ.2.1 2) c) = true
        · skip
          have hs_q4 := hb_q4
          try simp only [Bool.and_eq_true, Bool.or_eq_true, Bool.and_eq_false_iff, Bool.or_eq_false_iff, decide_eq_true_eq, decide_eq_false_iff_not] at hs_q4
          refine hR.cs [vI (bI (freeC (τ.2.1 2) c))] kX5_81 rfl rfl (by first | decide | exact Nat.le_refl _) (by decide) (Nat.le_of_ble_eq_true rfl) rfl (sp_rSob_ok _ hb_q4) ?_
          show G (24, [some (vR 0), some (vI c), some (vI e)], [], cW τ κ)
          refine hR.run0 2 (S' := (26, [some (vR 0), some (vI c), some (vI e)], [vI c, vI e], cW τ κ)) rfl ?_
          refine hR.cs [vI e, vI c] kX5_102 rfl rfl (by first | decide | exact Nat.le_refl _) (by decide) (Nat.le_of_ble_eq_true rfl) rfl (sp_isEnd _ _ (by omega) (by omega)) ?_
          show G (29, [some (vR 0), some (vI c), some (vI e)], [vI (bI (isE e c))], cW τ κ)
          by_cases hb_q5 : (isE e c) = true
          · skip
            have hs_q5 := hb_q5
            try simp only [Bool.and_eq_true, Bool.or_eq_true, Bool.and_eq_false_iff, Bool.or_eq_false_iff, decide_eq_true_eq, decide_eq_false_iff_not] at hs_q5
            refine hR.cs [vI (bI (isE e c))] kX5_81 rfl rfl (by first | decide | exact Nat.le_refl _) (by decide) (Nat.le_of_ble_eq_true rfl) rfl (sp_rSob_ok _ hb_q5) ?_
            show G (32, [some (vR 0), some (vI c), some (vI e)], [], cW τ κ)
            refine hR.run0 3 (S' := (37, [some (vR 0), some (vI c), some (vI e)], [vI e, vR 1], cW τ κ)) rfl ?_
            refine hR.cv [vI e] kX5_106 rfl rfl ⟨_, _, _, rfl, rfl, rfl⟩ (by first | decide | exact Nat.le_refl _) (by decide) (Nat.le_of_ble_eq_true rfl) rfl (sp_roadOwner _ _ (by omega)) ?_
            show G (40, [some (vR 0), some (vI c), some (vI e)], [vI (τ.2.1 3 e)], cW τ κ)
            refine hR.run0 1 (S' := (41, [some (vR 0), some (vI c), some (vI e)], [vI (-1), vI (τ.2.1 3 e)], cW τ κ)) rfl ?_
            refine hR.br (C := τ.2.1 3 e ≠ (-1)) rfl (by first | omega | (dsimp only; omega) | (simp [sHt, sH, sS, sAt, sA, sup]; done) | (simp [sHt, sH, sS, sAt, sA, sup]; omega)) (fun c6 => ?_) (fun c6 => ?_)
            · skip
              refine hR.run0 1 (S' := (49, [some (vR 0), some (vI c), some (vI e)], [vI 0], cW τ κ)) rfl ?_
              have hx : xPlace τ c e = (2, 0, τ) := by unfold xPlace; (repeat' split) <;> first | rfl | (exfalso; omega) | (exfalso; simp_all; done) | (simp_all; done) | (exfalso; simp_all; omega)
              exact hR.csx [vI 0] kX5_81 rfl rfl (by decide) (by decide) (Nat.le_of_ble_eq_true rfl) rfl (sp_rSo_x _ (Or.inl rfl) (by decide)) (by rw [hx]; rfl) (by unfold kPlace; rw [hx]; rfl)
            · skip
              refine hR.run0 2 (S' := (49, [some (vR 0), some (vI c), some (vI e)], [vI 1], cW τ κ)) rfl ?_
              refine hR.cs [vI 1] kX5_81 rfl rfl (by first | decide | exact Nat.le_refl _) (by decide) (Nat.le_of_ble_eq_true rfl) rfl (sp_rSo_ok _ (Or.inr rfl) rfl) ?_
              show G (52, [some (vR 0), some (vI c), some (vI e)], [], cW τ κ)
              refine hR.run0 5 (S' := (61, [some (vR 0), some (vI c), some (vI e)], [vI (τ.1 1), vI c, vR 1], cW τ κ)) rfl ?_
              refine hR.cv [vI c, vI (τ.1 1)] kX5_110 rfl rfl ⟨_, _, _, rfl, rfl, rfl⟩ (by first | decide | exact Nat.le_refl _) (by decide) (Nat.le_of_ble_eq_true rfl) rfl (sp_putBuilding _ _ _ (by omega)) ?_
              show G (64, [some (vR 0), some (vI c), some (vI e)], [], cW (sAt τ 2 c (τ.1 1)) κ)
              refine hR.run0 5 (S' := (73, [some (vR 0), some (vI c), some (vI e)], [vI (τ.1 1), vI e, vR 1], cW (sAt τ 2 c (τ.1 1)) κ)) rfl ?_
              refine hR.cv [vI e, vI (τ.1 1)] kX5_114 rfl rfl ⟨_, _, _, rfl, rfl, rfl⟩ (by first | decide | exact Nat.le_refl _) (by decide) (Nat.le_of_ble_eq_true rfl) rfl (sp_putRoad _ _ _ (by omega)) ?_
              show G (76, [some (vR 0), some (vI c), some (vI e)], [], cW (sAt (sAt τ 2 c (τ.1 1)) 3 e (τ.1 1)) κ)
              refine hR.run0 3 (S' := (81, [some (vR 0), some (vI c), some (vI e)], [vI 3, vI (τ.1 2)], cW (sAt (sAt τ 2 c (τ.1 1)) 3 e (τ.1 1)) κ)) rfl ?_
              refine hR.br (C := τ.1 2 < 3) rfl (by first | omega | (dsimp only; omega) | (simp [sHt, sH, sS, sAt, sA, sup]; done) | (simp [sHt, sH, sS, sAt, sA, sup]; omega)) (fun c7 => ?_) (fun c7 => ?_)
              · skip
                refine hR.run0 1 (S' := (90, [some (vR 0), some (vI c), some (vI e)], [vR 0], cW (sAt (sAt τ 2 c (τ.1 1)) 3 e (τ.1 1)) κ)) rfl ?_
                rw [show cW (sAt (sAt τ 2 c (τ.1 1)) 3 e (τ.1 1)) κ = cW (pgS τ c e) (pgK κ τ c e) from by rw [show pgS τ c e = sAt (sAt τ 2 c (τ.1 1)) 3 e (τ.1 1) from if_neg (by omega), show pgK κ τ c e = κ from if_neg (by omega)]]
                refine hR.cv [] kX5_120 rfl rfl ⟨_, _, _, rfl, rfl, rfl⟩ (by first | decide | exact Nat.le_refl _) (by decide) (Nat.le_of_ble_eq_true rfl) rfl (sp_look (pgS τ c e) _ (pgS_Lh hI (by omega) (by omega) (by omega)) (by rw [pgK_2]; exact hk0) (by rw [pgK_2]; exact hk1)) ?_
                show G (93, [some (vR 0), some (vI c), some (vI e)], [], cW (winS (lkS (pgS τ c e))) (utK ((pgS τ c e).2.1 2) ((pgS τ c e).2.1 3) (pgK κ τ c e) 3))
                rw [show winS (lkS (pgS τ c e)) = lkS (pgS τ c e) from win_p (by rw [pgS_1]; omega)]
                have hp1 : (pgS τ c e).1 = τ.1 := pgS_1 τ c e
                have hp2 : (lkS (pgS τ c e)).1 2 = τ.1 2 := by show (pgS τ c e).1 2 = τ.1 2; rw [hp1]
                generalize hZ : lkS (pgS τ c e) = Z at hp2 ⊢
                have hpp := hI.hpp (by omega)
                show G (93, [some (vR 0), some (vI c), some (vI e)], [], cW Z (utK ((pgS τ c e).2.1 2) ((pgS τ c e).2.1 3) (pgK κ τ c e) 3))
                refine hR.run0 6 (S' := (103, [some (vR 0), some (vI c), some (vI e)], [], pset (cW Z (utK ((pgS τ c e).2.1 2) ((pgS τ c e).2.1 3) (pgK κ τ c e) 3)) 0 (.inr (5, [vR 1, vR 10, vR 40, vR 50, vR 60, vR 70, vR 71, vI (Z.1 0), vI (Z.1 1), vI ((Z.1 2) + 1), vI (Z.1 3), vI (Z.1 4)])))) rfl ?_
                rw [cW_s2]
                refine hR.run0 1 (S' := (104, [some (vR 0), some (vI c), some (vI e)], [vR 0], cW (sS Z 2 ((Z.1 2) + 1)) (utK ((pgS τ c e).2.1 2) ((pgS τ c e).2.1 3) (pgK κ τ c e) 3))) rfl ?_
                rw [hp2]
                refine hR.cv [] kX5_123 rfl rfl ⟨_, _, _, rfl, rfl, rfl⟩ (by first | decide | exact Nat.le_refl _) (by decide) (Nat.le_of_ble_eq_true rfl) rfl (sp_goOnPlacing _ _ (by show 0 ≤ τ.1 2 + 1 ∧ τ.1 2 + 1 ≤ 6; omega)) ?_
                show G (107, [some (vR 0), some (vI c), some (vI e)], [], cW (gopS (sS Z 2 (τ.1 2 + 1))) (utK ((pgS τ c e).2.1 2) ((pgS τ c e).2.1 3) (pgK κ τ c e) 3))
                rw [← hZ]
                rw [show gopS (sS (lkS (pgS τ c e)) 2 (τ.1 2 + 1)) = xPlS τ c e from rfl]
                generalize hY : xPlS τ c e = Y
                show G (107, [some (vR 0), some (vI c), some (vI e)], [], cW Y (utK ((pgS τ c e).2.1 2) ((pgS τ c e).2.1 3) (pgK κ τ c e) 3))
                refine hR.run0 2 (S' := (111, [some (vR 0), some (vI c), some (vI e)], [vI (Y.1 1)], cW Y (utK ((pgS τ c e).2.1 2) ((pgS τ c e).2.1 3) (pgK κ τ c e) 3))) rfl ?_
                rw [← hY]
                show G (111, [some (vR 0), some (vI c), some (vI e)], [vI ((xPlS τ c e).1 1)], cW (xPlS τ c e) (utK ((pgS τ c e).2.1 2) ((pgS τ c e).2.1 3) (pgK κ τ c e) 3))
                have hx : xPlace τ c e = (0, (xPlS τ c e).1 1, xPlS τ c e) := by unfold xPlace; (repeat' split) <;> first | rfl | (exfalso; omega) | (exfalso; simp_all; done) | (simp_all; done) | (exfalso; simp_all; omega)
                have hkx : kPlace κ τ c e = utK ((pgS τ c e).2.1 2) ((pgS τ c e).2.1 3) (pgK κ τ c e) 3 := by unfold kPlace; rw [hx]; exact if_pos rfl
                exact hR.rt rfl trivial (by rw [hx, oc_0]) (by rw [hx, hkx])
              · skip
                refine hR.run0 2 (S' := (86, [some (vR 0), some (vI c), some (vI e)], [vI c, vR 0], cW (sAt (sAt τ 2 c (τ.1 1)) 3 e (τ.1 1)) κ)) rfl ?_
                refine hR.cv [vI c] kX5_117 rfl rfl ⟨_, _, _, rfl, rfl, rfl⟩ (by first | decide | exact Nat.le_refl _) (by decide) (Nat.le_of_ble_eq_true rfl) rfl (sp_gain (plS τ c e) _ (by omega) htu hg hI.hH) ?_
                show G (89, [some (vR 0), some (vI c), some (vI e)], [], cW (gnN (τ.1 1) c (plS τ c e) 7) (gkN (τ.1 1) c (plS τ c e) κ 7))
                refine hR.run0 1 (S' := (90, [some (vR 0), some (vI c), some (vI e)], [vR 0], cW (gnN (τ.1 1) c (plS τ c e) 7) (gkN (τ.1 1) c (plS τ c e) κ 7))) rfl ?_
                rw [show cW (gnN (τ.1 1) c (plS τ c e) 7) (gkN (τ.1 1) c (plS τ c e) κ 7) = cW (pgS τ c e) (pgK κ τ c e) from by rw [show pgS τ c e = gnN (τ.1 1) c (plS τ c e) 7 from if_pos (by omega), show pgK κ τ c e = gkN (τ.1 1) c (plS τ c e) κ 7 from if_pos (by omega)]]
                refine hR.cv [] kX5_120 rfl rfl ⟨_, _, _, rfl, rfl, rfl⟩ (by first | decide | exact Nat.le_refl _) (by decide) (Nat.le_of_ble_eq_true rfl) rfl (sp_look (pgS τ c e) _ (pgS_Lh hI (by omega) (by omega) (by omega)) (by rw [pgK_2]; exact hk0) (by rw [pgK_2]; exact hk1)) ?_
                show G (93, [some (vR 0), some (vI c), some (vI e)], [], cW (winS (lkS (pgS τ c e))) (utK ((pgS τ c e).2.1 2) ((pgS τ c e).2.1 3) (pgK κ τ c e) 3))
                rw [show winS (lkS (pgS τ c e)) = lkS (pgS τ c e) from win_p (by rw [pgS_1]; omega)]
                have hp1 : (pgS τ c e).1 = τ.1 := pgS_1 τ c e
                have hp2 : (lkS (pgS τ c e)).1 2 = τ.1 2 := by show (pgS τ c e).1 2 = τ.1 2; rw [hp1]
                generalize hZ : lkS (pgS τ c e) = Z at hp2 ⊢
                have hpp := hI.hpp (by omega)
                show G (93, [some (vR 0), some (vI c), some (vI e)], [], cW Z (utK ((pgS τ c e).2.1 2) ((pgS τ c e).2.1 3) (pgK κ τ c e) 3))
                refine hR.run0 6 (S' := (103, [some (vR 0), some (vI c), some (vI e)], [], pset (cW Z (utK ((pgS τ c e).2.1 2) ((pgS τ c e).2.1 3) (pgK κ τ c e) 3)) 0 (.inr (5, [vR 1, vR 10, vR 40, vR 50, vR 60, vR 70, vR 71, vI (Z.1 0), vI (Z.1 1), vI ((Z.1 2) + 1), vI (Z.1 3), vI (Z.1 4)])))) rfl ?_
                rw [cW_s2]
                refine hR.run0 1 (S' := (104, [some (vR 0), some (vI c), some (vI e)], [vR 0], cW (sS Z 2 ((Z.1 2) + 1)) (utK ((pgS τ c e).2.1 2) ((pgS τ c e).2.1 3) (pgK κ τ c e) 3))) rfl ?_
                rw [hp2]
                refine hR.cv [] kX5_123 rfl rfl ⟨_, _, _, rfl, rfl, rfl⟩ (by first | decide | exact Nat.le_refl _) (by decide) (Nat.le_of_ble_eq_true rfl) rfl (sp_goOnPlacing _ _ (by show 0 ≤ τ.1 2 + 1 ∧ τ.1 2 + 1 ≤ 6; omega)) ?_
                show G (107, [some (vR 0), some (vI c), some (vI e)], [], cW (gopS (sS Z 2 (τ.1 2 + 1))) (utK ((pgS τ c e).2.1 2) ((pgS τ c e).2.1 3) (pgK κ τ c e) 3))
                rw [← hZ]
                rw [show gopS (sS (lkS (pgS τ c e)) 2 (τ.1 2 + 1)) = xPlS τ c e from rfl]
                generalize hY : xPlS τ c e = Y
                show G (107, [some (vR 0), some (vI c), some (vI e)], [], cW Y (utK ((pgS τ c e).2.1 2) ((pgS τ c e).2.1 3) (pgK κ τ c e) 3))
                refine hR.run0 2 (S' := (111, [some (vR 0), some (vI c), some (vI e)], [vI (Y.1 1)], cW Y (utK ((pgS τ c e).2.1 2) ((pgS τ c e).2.1 3) (pgK κ τ c e) 3))) rfl ?_
                rw [← hY]
                show G (111, [some (vR 0), some (vI c), some (vI e)], [vI ((xPlS τ c e).1 1)], cW (xPlS τ c e) (utK ((pgS τ c e).2.1 2) ((pgS τ c e).2.1 3) (pgK κ τ c e) 3))
                have hx : xPlace τ c e = (0, (xPlS τ c e).1 1, xPlS τ c e) := by unfold xPlace; (repeat' split) <;> first | rfl | (exfalso; omega) | (exfalso; simp_all; done) | (simp_all; done) | (exfalso; simp_all; omega)
                have hkx : kPlace κ τ c e = utK ((pgS τ c e).2.1 2) ((pgS τ c e).2.1 3) (pgK κ τ c e) 3 := by unfold kPlace; rw [hx]; exact if_pos rfl
                exact hR.rt rfl trivial (by rw [hx, oc_0]) (by rw [hx, hkx])
          · replace hb_q5 := Bool.eq_false_iff.mpr hb_q5
            have hs_q5 := hb_q5
            try simp only [Bool.and_eq_true, Bool.or_eq_true, Bool.and_eq_false_iff, Bool.or_eq_false_iff, decide_eq_true_eq, decide_eq_false_iff_not] at hs_q5
            have hx : xPlace τ c e = (2, 0, τ) := by unfold xPlace; (repeat' split) <;> first | rfl | (exfalso; omega) | (exfalso; simp_all; done) | (simp_all; done) | (exfalso; simp_all; omega)
            exact hR.csx [vI (bI (isE e c))] kX5_81 rfl rfl (by decide) (by decide) (Nat.le_of_ble_eq_true rfl) rfl (sp_rSob_x _ hb_q5) (by rw [hx]; rfl) (by unfold kPlace; rw [hx]; rfl)
        · replace hb_q4 := Bool.eq_false_iff.mpr hb_q4
          have hs_q4 := hb_q4
          try simp only [Bool.and_eq_true, Bool.or_eq_true, Bool.and_eq_false_iff, Bool.or_eq_false_iff, decide_eq_true_eq, decide_eq_false_iff_not] at hs_q4
          have hx : xPlace τ c e = (2, 0, τ) := by unfold xPlace; (repeat' split) <;> first | rfl | (exfalso; omega) | (exfalso; simp_all; done) | (simp_all; done) | (exfalso; simp_all; omega)
          exact hR.csx [vI (bI (freeC (τ.2.1 2) c))] kX5_81 rfl rfl (by decide) (by decide) (Nat.le_of_ble_eq_true rfl) rfl (sp_rSob_x _ hb_q4) (by rw [hx]; rfl) (by unfold kPlace; rw [hx]; rfl)
      · skip
        have hx : xPlace τ c e = (2, 0, τ) := by unfold xPlace; (repeat' split) <;> first | rfl | (exfalso; omega) | (exfalso; simp_all; done) | (simp_all; done) | (exfalso; simp_all; omega)
        exact hR.cvx [vI 0] kX5_95 rfl rfl ⟨_, _, _, rfl, rfl, rfl⟩ (by decide) (by decide) (Nat.le_of_ble_eq_true rfl) rfl (sp_rPhase_x _ _ (by omega) hph q3) (by rw [hx]; rfl) (by unfold kPlace; rw [hx]; rfl)
    · skip
      have hx : xPlace τ c e = (1, 0, τ) := by unfold xPlace; (repeat' split) <;> first | rfl | (exfalso; omega) | (exfalso; simp_all; done) | (simp_all; done) | (exfalso; simp_all; omega)
      exact hR.csx [vI e] kX5_92 rfl rfl (by decide) (by decide) (Nat.le_of_ble_eq_true rfl) rfl (sp_rEdge_x _ (by omega) q2) (by rw [hx]; rfl) (by unfold kPlace; rw [hx]; rfl)
  · skip
    have hx : xPlace τ c e = (1, 0, τ) := by unfold xPlace; (repeat' split) <;> first | rfl | (exfalso; omega) | (exfalso; simp_all; done) | (simp_all; done) | (exfalso; simp_all; omega)
    exact hR.csx [vI c] kX5_89 rfl rfl (by decide) (by decide) (Nat.le_of_ble_eq_true rfl) rfl (sp_rCorner_x _ (by omega) q1) (by rw [hx]; rfl) (by unfold kPlace; rw [hx]; rfl)
