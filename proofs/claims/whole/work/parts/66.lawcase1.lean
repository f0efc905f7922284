theorem kS_121 : sLinkW RL 121 mL_layHex hhL_layHex 4 := ⟨gT_at 185 (by decide +kernel) (by decide +kernel), gT_at 186 (by decide +kernel) (by decide +kernel), gT_at 0 (by decide +kernel) (by decide +kernel), gT_at 187 (by decide +kernel) (by decide +kernel), ⟨by decide +kernel, by decide +kernel, by decide +kernel⟩⟩
theorem kL_126 : vLink RL 126 mX6_layHex 3 := ⟨gT_at 992 (by decide +kernel) (by decide +kernel), wX6_layHex⟩
theorem kL_127 : vLink RL 127 mX6_thrown 0 := ⟨gT_at 988 (by decide +kernel) (by decide +kernel), wX6_thrown⟩
set_option maxHeartbeats 4000000 in
theorem cs_layHex {xs : Int → Int} {N : Nat} {G : Nat → PS → Prop} (hRs : ∀ tb : PT, (∀ q ∈ tb, decode code q.1 = .ok (q.2.1, q.2.2)) → Rl lkL ((98, N, xs) :: roC) tb 100 G) (hx : N ≤ 2048 ∧ ∀ j, -2147483648 ≤ xs j ∧ xs j ≤ 2147483647) {τ κ ρ : St} {out : Int → Int} (hJ : Jv τ κ) {k : Nat} (hk : k < 600) {i : Int} (hi : 0 ≤ i ∧ i + 4 ≤ N) (kont : ∀ (τ κ ρ : St) (out : Int → Int) (j : Nat), j ≤ k + 1 → Jv τ κ → G j (2248, Lh_ i, [], LW τ κ τ ρ out)) : G k (196, Lh_ i, [], LW τ κ τ ρ out) := by
  have hR := hRs bc_layHex tc_layHex
  have hN := hx.1
  have hxr := hx.2
  have hr1 := hxr (i + 1)
  have hr2 := hxr (i + 2)
  have hr3 := hxr (i + 3)
  have hro : ∀ q ∈ roC, q ∈ ((98, N, xs) :: roC : PRO) := fun q hq => List.mem_cons_of_mem _ hq
  have hw := wL_layHex τ κ τ ρ out hro hr1 hr2 hr3 hJ.1
  have hm := fun (σ κ2 : St) (out2 : Int → Int) => frM (σ := σ) (κ := κ2) (out := out2) hro (pX6_layHex τ ρ hr1 hr2 hr3 hJ.1)
  have hcd := cd_xLay τ (xs (i + 1)) (xs (i + 2)) (xs (i + 3))
  have hth : (sS ρ 0 (xLay τ (xs (i + 1)) (xs (i + 2)) (xs (i + 3))).1).1 0 = (xLay τ (xs (i + 1)) (xs (i + 2)) (xs (i + 3))).1 := sS_at0 _ _
  have hJ2 := J_layHex hJ (xs (i + 1)) (xs (i + 2)) (xs (i + 3))
  generalize (sS ρ 0 (xLay τ (xs (i + 1)) (xs (i + 2)) (xs (i + 3))).1) = ρ2 at hm hth
  generalize xLay τ (xs (i + 1)) (xs (i + 2)) (xs (i + 3)) = x at hw hm hcd hth hJ2
  refine hR.run0 (by omega) 5 (S' := (202, [some (vR 98), some (vR 0), some (vR 100), some (vR 120), some (vI i), none, none], [vI (i + 1), vR 98, vR 0], LW τ κ τ ρ out)) rfl ?_
  refine hR.rd (by omega) hx.1 rfl rfl (by omega) ?_
  refine hR.run0 (by omega) 4 (S' := (208, [some (vR 98), some (vR 0), some (vR 100), some (vR 120), some (vI i), none, none], [vI (i + 2), vR 98, vI (xs (i + 1)), vR 0], LW τ κ τ ρ out)) rfl ?_
  refine hR.rd (by omega) hx.1 rfl rfl (by omega) ?_
  refine hR.run0 (by omega) 4 (S' := (214, [some (vR 98), some (vR 0), some (vR 100), some (vR 120), some (vI i), none, none], [vI (i + 3), vR 98, vI (xs (i + 2)), vI (xs (i + 1)), vR 0], LW τ κ τ ρ out)) rfl ?_
  refine hR.rd (by omega) hx.1 rfl rfl (by omega) ?_
  refine hR.cw hk [vR 0, vI (xs (i + 1)), vI (xs (i + 2)), vI (xs (i + 3))] kS_121 rfl rfl (by decide) (Nat.le_of_ble_eq_true rfl) (by decide) rfl hw ?_
  refine hR.run0 (by omega) 6 (S' := (226, [some (vR 98), some (vR 0), some (vR 100), some (vR 120), some (vI i), some (vI x.1), none], [vI (i + 1), vR 98, vR 100], LW x.2.2 κ τ ρ out)) rfl ?_
  refine hR.rd (by omega) hx.1 rfl rfl (by omega) ?_
  refine hR.run0 (by omega) 4 (S' := (232, [some (vR 98), some (vR 0), some (vR 100), some (vR 120), some (vI i), some (vI x.1), none], [vI (i + 2), vR 98, vI (xs (i + 1)), vR 100], LW x.2.2 κ τ ρ out)) rfl ?_
  refine hR.rd (by omega) hx.1 rfl rfl (by omega) ?_
  refine hR.run0 (by omega) 4 (S' := (238, [some (vR 98), some (vR 0), some (vR 100), some (vR 120), some (vI i), some (vI x.1), none], [vI (i + 3), vR 98, vI (xs (i + 2)), vI (xs (i + 1)), vR 100], LW x.2.2 κ τ ρ out)) rfl ?_
  refine hR.rd (by omega) hx.1 rfl rfl (by omega) ?_
  refine hR.cv (by omega) [vI (xs (i + 1)), vI (xs (i + 2)), vI (xs (i + 3))] kL_126 rfl rfl ⟨_, _, _, rfl, rfl, rfl⟩ (by decide) (Nat.le_of_ble_eq_true rfl) (by decide) rfl (hm _ _ _) ?_
  refine hR.run0 (by omega) 1 (S' := (243, [some (vR 98), some (vR 0), some (vR 100), some (vR 120), some (vI i), some (vI x.1), none], [vR 100], LW x.2.2 κ x.2.2 ρ2 out)) rfl ?_
  refine hR.cv (by omega) [] kL_127 rfl rfl ⟨_, _, _, rfl, rfl, rfl⟩ (by decide) (Nat.le_of_ble_eq_true rfl) (by decide) rfl (frM hro (sr_thrown _ _)) ?_
  show G (k + 1) (246, [some (vR 98), some (vR 0), some (vR 100), some (vR 120), some (vI i), some (vI x.1), none], [vI (ρ2.1 0)], LW x.2.2 κ x.2.2 ρ2 out)
  rw [hth]
  refine hR.run0 (by omega) 1 (S' := (248, [some (vR 98), some (vR 0), some (vR 100), some (vR 120), some (vI i), some (vI x.1), none], [vI x.1, vI x.1], LW x.2.2 κ x.2.2 ρ2 out)) rfl ?_
  refine hR.br (by omega) (C := x.1 = x.1) rfl (by omega) (fun _ => ?_) (fun h => absurd rfl h)
  refine hR.run0 (by omega) 1 (S' := (2248, [some (vR 98), some (vR 0), some (vR 100), some (vR 120), some (vI i), some (vI x.1), none], [], LW x.2.2 κ x.2.2 ρ2 out)) rfl ?_
  refine hR.2.2.2.2.2.2 _ 5 _ _ _ _ ?_
  exact kont _ _ _ _ _ (Nat.le_refl _) hJ2
theorem kS_130 : sLinkW RL 130 mL_place hhL_place 4 := ⟨gT_at 309 (by decide +kernel) (by decide +kernel), gT_at 310 (by decide +kernel) (by decide +kernel), gT_at 0 (by decide +kernel) (by decide +kernel), gT_at 311 (by decide +kernel) (by decide +kernel), ⟨by decide +kernel, by decide +kernel, by decide +kernel⟩⟩
theorem kL_133 : vLink RL 133 mX6_place 2 := ⟨gT_at 1006 (by decide +kernel) (by decide +kernel), wX6_place⟩
set_option maxHeartbeats 4000000 in
theorem cs_place {xs : Int → Int} {N : Nat} {G : Nat → PS → Prop} (hRs : ∀ tb : PT, (∀ q ∈ tb, decode code q.1 = .ok (q.2.1, q.2.2)) → Rl lkL ((98, N, xs) :: roC) tb 100 G) (hx : N ≤ 2048 ∧ ∀ j, -2147483648 ≤ xs j ∧ xs j ≤ 2147483647) {τ κ ρ : St} {out : Int → Int} (hJ : Jv τ κ) {k : Nat} (hk : k < 600) {i : Int} (hi : 0 ≤ i ∧ i + 4 ≤ N) (kont : ∀ (τ κ ρ : St) (out : Int → Int) (j : Nat), j ≤ k + 1 → Jv τ κ → G j (2248, Lh_ i, [], LW τ κ τ ρ out)) : G k (256, Lh_ i, [], LW τ κ τ ρ out) := by
  have hR := hRs bc_place tc_place
  have hN := hx.1
  have hxr := hx.2
  have hr1 := hxr (i + 1)
  have hr2 := hxr (i + 2)
  have hro : ∀ q ∈ roC, q ∈ ((98, N, xs) :: roC : PRO) := fun q hq => List.mem_cons_of_mem _ hq
  have hw := wL_place τ κ τ ρ out hro hr1 hr2 hJ.2.2.1 hJ.2.2.2.1 hJ.1
  have hm := fun (σ κ2 : St) (out2 : Int → Int) => frM (σ := σ) (κ := κ2) (out := out2) hro (pX6_place τ ρ hr1 hr2 hJ.1)
  have hcd := cd_xPlace τ (xs (i + 1)) (xs (i + 2))
  have hth : (rPlace τ ρ (xs (i + 1)) (xs (i + 2))).1 0 = (xPlace τ (xs (i + 1)) (xs (i + 2))).1 := r1_rPlace τ ρ (xs (i + 1)) (xs (i + 2))
  have hJ2 := J_place hJ (xs (i + 1)) (xs (i + 2))
  generalize (rPlace τ ρ (xs (i + 1)) (xs (i + 2))) = ρ2 at hm hth
  generalize xPlace τ (xs (i + 1)) (xs (i + 2)) = x at hw hm hcd hth hJ2
  generalize (kPlace κ τ (xs (i + 1)) (xs (i + 2))) = κ2 at hw hJ2
  refine hR.run0 (by omega) 5 (S' := (262, [some (vR 98), some (vR 0), some (vR 100), some (vR 120), some (vI i), none, none], [vI (i + 1), vR 98, vR 0], LW τ κ τ ρ out)) rfl ?_
  refine hR.rd (by omega) hx.1 rfl rfl (by omega) ?_
  refine hR.run0 (by omega) 4 (S' := (268, [some (vR 98), some (vR 0), some (vR 100), some (vR 120), some (vI i), none, none], [vI (i + 2), vR 98, vI (xs (i + 1)), vR 0], LW τ κ τ ρ out)) rfl ?_
  refine hR.rd (by omega) hx.1 rfl rfl (by omega) ?_
  refine hR.run0 (by omega) 1 (S' := (270, [some (vR 98), some (vR 0), some (vR 100), some (vR 120), some (vI i), none, none], [vR 120, vI (xs (i + 2)), vI (xs (i + 1)), vR 0], LW τ κ τ ρ out)) rfl ?_
  refine hR.cw hk [vR 0, vI (xs (i + 1)), vI (xs (i + 2)), vR 120] kS_130 rfl rfl (by decide) (Nat.le_of_ble_eq_true rfl) (by decide) rfl hw ?_
  refine hR.run0 (by omega) 6 (S' := (281, [some (vR 98), some (vR 0), some (vR 100), some (vR 120), some (vI i), some (vI x.1), none], [vI (i + 1), vR 98, vR 100], LW x.2.2 κ2 τ ρ (oP x out))) rfl ?_
  refine hR.rd (by omega) hx.1 rfl rfl (by omega) ?_
  refine hR.run0 (by omega) 4 (S' := (287, [some (vR 98), some (vR 0), some (vR 100), some (vR 120), some (vI i), some (vI x.1), none], [vI (i + 2), vR 98, vI (xs (i + 1)), vR 100], LW x.2.2 κ2 τ ρ (oP x out))) rfl ?_
  refine hR.rd (by omega) hx.1 rfl rfl (by omega) ?_
  refine hR.cv (by omega) [vI (xs (i + 1)), vI (xs (i + 2))] kL_133 rfl rfl ⟨_, _, _, rfl, rfl, rfl⟩ (by decide) (Nat.le_of_ble_eq_true rfl) (by decide) rfl (hm _ _ _) ?_
  show G (k + 1) (291, [some (vR 98), some (vR 0), some (vR 100), some (vR 120), some (vI i), some (vI x.1), none], [vI x.2.1], LW x.2.2 κ2 x.2.2 ρ2 (oP x out))
  refine hR.2.2.2.2.2.1 _ _ _ _ _ _ ?_
  refine hR.run0 (by omega) 2 (S' := (294, [some (vR 98), some (vR 0), some (vR 100), some (vR 120), some (vI i), some (vI x.1), some (vI (nmI x.2.1))], [vR 100], LW x.2.2 κ2 x.2.2 ρ2 (oP x out))) rfl ?_
  refine hR.cv (by omega) [] kL_127 rfl rfl ⟨_, _, _, rfl, rfl, rfl⟩ (by decide) (Nat.le_of_ble_eq_true rfl) (by decide) rfl (frM hro (sr_thrown _ _)) ?_
  show G (k + 1) (297, [some (vR 98), some (vR 0), some (vR 100), some (vR 120), some (vI i), some (vI x.1), some (vI (nmI x.2.1))], [vI (ρ2.1 0)], LW x.2.2 κ2 x.2.2 ρ2 (oP x out))
  rw [hth]
  refine hR.run0 (by omega) 1 (S' := (299, [some (vR 98), some (vR 0), some (vR 100), some (vR 120), some (vI i), some (vI x.1), some (vI (nmI x.2.1))], [vI x.1, vI x.1], LW x.2.2 κ2 x.2.2 ρ2 (oP x out))) rfl ?_
  refine hR.br (by omega) (C := x.1 = x.1) rfl (by omega) (fun _ => ?_) (fun h => absurd rfl h)
  refine hR.run0 (by omega) 1 (S' := (306, [some (vR 98), some (vR 0), some (vR 100), some (vR 120), some (vI i), some (vI x.1), some (vI (nmI x.2.1))], [vI x.1], LW x.2.2 κ2 x.2.2 ρ2 (oP x out))) rfl ?_
  refine hR.br (by omega) (C := x.1 ≠ 0) rfl (by omega) (fun _ => ?_) (fun h => ?_)
  · skip
    refine hR.run0 (by omega) 1 (S' := (2248, [some (vR 98), some (vR 0), some (vR 100), some (vR 120), some (vI i), some (vI x.1), some (vI (nmI x.2.1))], [], LW x.2.2 κ2 x.2.2 ρ2 (oP x out))) rfl ?_
    refine hR.2.2.2.2.2.2 _ 5 _ _ _ _ ?_
    refine hR.2.2.2.2.2.2 _ 6 _ _ _ _ ?_
    exact kont _ _ _ _ _ (Nat.le_refl _) hJ2
  · have h0 : x.1 = 0 := by omega
    have ho := oP_0 (out := out) h0
    have hnr := nmI_r x.2.1
    refine hR.run1 (by omega) 6 (S' := (316, [some (vR 98), some (vR 0), some (vR 100), some (vR 120), some (vI i), some (vI x.1), some (vI (nmI x.2.1))], [vI (if nmI x.2.1 < (oP x out) 0 then 1 else if (oP x out) 0 = nmI x.2.1 then 0 else -1)], LW x.2.2 κ2 x.2.2 ρ2 (oP x out))) rfl (by rw [ho]; omega) ?_
    refine hR.br (by omega) (C := (if nmI x.2.1 < (oP x out) 0 then (1 : Int) else if (oP x out) 0 = nmI x.2.1 then 0 else -1) = 0) rfl (by (repeat' split) <;> omega) (fun _ => ?_) (fun h => absurd (lc0.mpr ho) h)
    refine hR.run0 (by omega) 1 (S' := (2248, [some (vR 98), some (vR 0), some (vR 100), some (vR 120), some (vI i), some (vI x.1), some (vI (nmI x.2.1))], [], LW x.2.2 κ2 x.2.2 ρ2 (oP x out))) rfl ?_
    refine hR.2.2.2.2.2.2 _ 5 _ _ _ _ ?_
    refine hR.2.2.2.2.2.2 _ 6 _ _ _ _ ?_
    exact kont _ _ _ _ _ (Nat.le_refl _) hJ2
theorem kS_134 : sLinkW RL 134 mL_deal hhL_deal 4 := ⟨gT_at 437 (by decide +kernel) (by decide +kernel), gT_at 438 (by decide +kernel) (by decide +kernel), gT_at 0 (by decide +kernel) (by decide +kernel), gT_at 439 (by decide +kernel) (by decide +kernel), ⟨by decide +kernel, by decide +kernel, by decide +kernel⟩⟩
theorem kL_136 : vLink RL 136 mX6_deal 2 := ⟨gT_at 1067 (by decide +kernel) (by decide +kernel), wX6_deal⟩
set_option maxHeartbeats 4000000 in
theorem cs_deal {xs : Int → Int} {N : Nat} {G : Nat → PS → Prop} (hRs : ∀ tb : PT, (∀ q ∈ tb, decode code q.1 = .ok (q.2.1, q.2.2)) → Rl lkL ((98, N, xs) :: roC) tb 100 G) (hx : N ≤ 2048 ∧ ∀ j, -2147483648 ≤ xs j ∧ xs j ≤ 2147483647) {τ κ ρ : St} {out : Int → Int} (hJ : Jv τ κ) {k : Nat} (hk : k < 600) {i : Int} (hi : 0 ≤ i ∧ i + 4 ≤ N) (kont : ∀ (τ κ ρ : St) (out : Int → Int) (j : Nat), j ≤ k + 1 → Jv τ κ → G j (2248, Lh_ i, [], LW τ κ τ ρ out)) : G k (324, Lh_ i, [], LW τ κ τ ρ out) := by
  have hR := hRs bc_deal tc_deal
  have hN := hx.1
  have hxr := hx.2
  have hr1 := hxr (i + 1)
  have hr2 := hxr (i + 2)
  have hro : ∀ q ∈ roC, q ∈ ((98, N, xs) :: roC : PRO) := fun q hq => List.mem_cons_of_mem _ hq
  have hw := wL_deal τ κ τ ρ out hro hr1 hr2 hJ.1
  have hm := fun (σ κ2 : St) (out2 : Int → Int) => frM (σ := σ) (κ := κ2) (out := out2) hro (pX6_deal τ ρ hr1 hr2 hJ.1)
  have hcd := cd_xDeal τ (xs (i + 1)) (xs (i + 2))
  have hth : (sS ρ 0 (xDeal τ (xs (i + 1)) (xs (i + 2))).1).1 0 = (xDeal τ (xs (i + 1)) (xs (i + 2))).1 := sS_at0 _ _
  have hJ2 := J_deal hJ (xs (i + 1)) (xs (i + 2))
  generalize (sS ρ 0 (xDeal τ (xs (i + 1)) (xs (i + 2))).1) = ρ2 at hm hth
  generalize xDeal τ (xs (i + 1)) (xs (i + 2)) = x at hw hm hcd hth hJ2
  generalize (kDeal κ τ (xs (i + 1)) (xs (i + 2))) = κ2 at hw hJ2
  refine hR.run0 (by omega) 5 (S' := (330, [some (vR 98), some (vR 0), some (vR 100), some (vR 120), some (vI i), none, none], [vI (i + 1), vR 98, vR 0], LW τ κ τ ρ out)) rfl ?_
  refine hR.rd (by omega) hx.1 rfl rfl (by omega) ?_
  refine hR.run0 (by omega) 4 (S' := (336, [some (vR 98), some (vR 0), some (vR 100), some (vR 120), some (vI i), none, none], [vI (i + 2), vR 98, vI (xs (i + 1)), vR 0], LW τ κ τ ρ out)) rfl ?_
  refine hR.rd (by omega) hx.1 rfl rfl (by omega) ?_
  refine hR.run0 (by omega) 1 (S' := (338, [some (vR 98), some (vR 0), some (vR 100), some (vR 120), some (vI i), none, none], [vR 120, vI (xs (i + 2)), vI (xs (i + 1)), vR 0], LW τ κ τ ρ out)) rfl ?_
  refine hR.cw hk [vR 0, vI (xs (i + 1)), vI (xs (i + 2)), vR 120] kS_134 rfl rfl (by decide) (Nat.le_of_ble_eq_true rfl) (by decide) rfl hw ?_
  refine hR.run0 (by omega) 6 (S' := (349, [some (vR 98), some (vR 0), some (vR 100), some (vR 120), some (vI i), some (vI x.1), none], [vI (i + 1), vR 98, vR 100], LW x.2.2 κ2 τ ρ (oP x out))) rfl ?_
  refine hR.rd (by omega) hx.1 rfl rfl (by omega) ?_
  refine hR.run0 (by omega) 4 (S' := (355, [some (vR 98), some (vR 0), some (vR 100), some (vR 120), some (vI i), some (vI x.1), none], [vI (i + 2), vR 98, vI (xs (i + 1)), vR 100], LW x.2.2 κ2 τ ρ (oP x out))) rfl ?_
  refine hR.rd (by omega) hx.1 rfl rfl (by omega) ?_
  refine hR.cv (by omega) [vI (xs (i + 1)), vI (xs (i + 2))] kL_136 rfl rfl ⟨_, _, _, rfl, rfl, rfl⟩ (by decide) (Nat.le_of_ble_eq_true rfl) (by decide) rfl (hm _ _ _) ?_
  show G (k + 1) (359, [some (vR 98), some (vR 0), some (vR 100), some (vR 120), some (vI i), some (vI x.1), none], [vI x.2.1], LW x.2.2 κ2 x.2.2 ρ2 (oP x out))
  refine hR.2.2.2.2.2.1 _ _ _ _ _ _ ?_
  refine hR.run0 (by omega) 2 (S' := (362, [some (vR 98), some (vR 0), some (vR 100), some (vR 120), some (vI i), some (vI x.1), some (vI (nmI x.2.1))], [vR 100], LW x.2.2 κ2 x.2.2 ρ2 (oP x out))) rfl ?_
  refine hR.cv (by omega) [] kL_127 rfl rfl ⟨_, _, _, rfl, rfl, rfl⟩ (by decide) (Nat.le_of_ble_eq_true rfl) (by decide) rfl (frM hro (sr_thrown _ _)) ?_
  show G (k + 1) (365, [some (vR 98), some (vR 0), some (vR 100), some (vR 120), some (vI i), some (vI x.1), some (vI (nmI x.2.1))], [vI (ρ2.1 0)], LW x.2.2 κ2 x.2.2 ρ2 (oP x out))
  rw [hth]
  refine hR.run0 (by omega) 1 (S' := (367, [some (vR 98), some (vR 0), some (vR 100), some (vR 120), some (vI i), some (vI x.1), some (vI (nmI x.2.1))], [vI x.1, vI x.1], LW x.2.2 κ2 x.2.2 ρ2 (oP x out))) rfl ?_
  refine hR.br (by omega) (C := x.1 = x.1) rfl (by omega) (fun _ => ?_) (fun h => absurd rfl h)
  refine hR.run0 (by omega) 1 (S' := (374, [some (vR 98), some (vR 0), some (vR 100), some (vR 120), some (vI i), some (vI x.1), some (vI (nmI x.2.1))], [vI x.1], LW x.2.2 κ2 x.2.2 ρ2 (oP x out))) rfl ?_
  refine hR.br (by omega) (C := x.1 ≠ 0) rfl (by omega) (fun _ => ?_) (fun h => ?_)
  · skip
    refine hR.run0 (by omega) 1 (S' := (2248, [some (vR 98), some (vR 0), some (vR 100), some (vR 120), some (vI i), some (vI x.1), some (vI (nmI x.2.1))], [], LW x.2.2 κ2 x.2.2 ρ2 (oP x out))) rfl ?_
    refine hR.2.2.2.2.2.2 _ 5 _ _ _ _ ?_
    refine hR.2.2.2.2.2.2 _ 6 _ _ _ _ ?_
    exact kont _ _ _ _ _ (Nat.le_refl _) hJ2
  · have h0 : x.1 = 0 := by omega
    have ho := oP_0 (out := out) h0
    have hnr := nmI_r x.2.1
    refine hR.run1 (by omega) 6 (S' := (384, [some (vR 98), some (vR 0), some (vR 100), some (vR 120), some (vI i), some (vI x.1), some (vI (nmI x.2.1))], [vI (if nmI x.2.1 < (oP x out) 0 then 1 else if (oP x out) 0 = nmI x.2.1 then 0 else -1)], LW x.2.2 κ2 x.2.2 ρ2 (oP x out))) rfl (by rw [ho]; omega) ?_
    refine hR.br (by omega) (C := (if nmI x.2.1 < (oP x out) 0 then (1 : Int) else if (oP x out) 0 = nmI x.2.1 then 0 else -1) = 0) rfl (by (repeat' split) <;> omega) (fun _ => ?_) (fun h => absurd (lc0.mpr ho) h)
    refine hR.run0 (by omega) 1 (S' := (2248, [some (vR 98), some (vR 0), some (vR 100), some (vR 120), some (vI i), some (vI x.1), some (vI (nmI x.2.1))], [], LW x.2.2 κ2 x.2.2 ρ2 (oP x out))) rfl ?_
    refine hR.2.2.2.2.2.2 _ 5 _ _ _ _ ?_
    refine hR.2.2.2.2.2.2 _ 6 _ _ _ _ ?_
    exact kont _ _ _ _ _ (Nat.le_refl _) hJ2
theorem kS_137 : sLinkW RL 137 mL_roll hhL_roll 4 := ⟨gT_at 474 (by decide +kernel) (by decide +kernel), gT_at 475 (by decide +kernel) (by decide +kernel), gT_at 0 (by decide +kernel) (by decide +kernel), gT_at 476 (by decide +kernel) (by decide +kernel), ⟨by decide +kernel, by decide +kernel, by decide +kernel⟩⟩
theorem kL_139 : vLink RL 139 mX6_roll 2 := ⟨gT_at 1093 (by decide +kernel) (by decide +kernel), wX6_roll⟩
set_option maxHeartbeats 4000000 in
theorem cs_roll {xs : Int → Int} {N : Nat} {G : Nat → PS → Prop} (hRs : ∀ tb : PT, (∀ q ∈ tb, decode code q.1 = .ok (q.2.1, q.2.2)) → Rl lkL ((98, N, xs) :: roC) tb 100 G) (hx : N ≤ 2048 ∧ ∀ j, -2147483648 ≤ xs j ∧ xs j ≤ 2147483647) {τ κ ρ : St} {out : Int → Int} (hJ : Jv τ κ) {k : Nat} (hk : k < 600) {i : Int} (hi : 0 ≤ i ∧ i + 4 ≤ N) (kont : ∀ (τ κ ρ : St) (out : Int → Int) (j : Nat), j ≤ k + 1 → Jv τ κ → G j (2248, Lh_ i, [], LW τ κ τ ρ out)) : G k (392, Lh_ i, [], LW τ κ τ ρ out) := by
  have hR := hRs bc_roll tc_roll
  have hN := hx.1
  have hxr := hx.2
  have hr1 := hxr (i + 1)
  have hr2 := hxr (i + 2)
  have hro : ∀ q ∈ roC, q ∈ ((98, N, xs) :: roC : PRO) := fun q hq => List.mem_cons_of_mem _ hq
  have hw := wL_roll τ κ τ ρ out hro hr1 hr2 hJ.1
  have hm := fun (σ κ2 : St) (out2 : Int → Int) => frM (σ := σ) (κ := κ2) (out := out2) hro (pX6_roll τ ρ hr1 hr2 hJ.1)
  have hcd := cd_xRoll τ (xs (i + 1)) (xs (i + 2))
  have hth : (rRoll τ ρ (xs (i + 1)) (xs (i + 2))).1 0 = (xRoll τ (xs (i + 1)) (xs (i + 2))).1 := r1_rRoll τ ρ (xs (i + 1)) (xs (i + 2))
  have hJ2 := J_roll hJ (xs (i + 1)) (xs (i + 2))
  generalize (rRoll τ ρ (xs (i + 1)) (xs (i + 2))) = ρ2 at hm hth
  generalize xRoll τ (xs (i + 1)) (xs (i + 2)) = x at hw hm hcd hth hJ2
  generalize (kRoll κ τ (xs (i + 1)) (xs (i + 2))) = κ2 at hw hJ2
  refine hR.run0 (by omega) 5 (S' := (398, [some (vR 98), some (vR 0), some (vR 100), some (vR 120), some (vI i), none, none], [vI (i + 1), vR 98, vR 0], LW τ κ τ ρ out)) rfl ?_
  refine hR.rd (by omega) hx.1 rfl rfl (by omega) ?_
  refine hR.run0 (by omega) 4 (S' := (404, [some (vR 98), some (vR 0), some (vR 100), some (vR 120), some (vI i), none, none], [vI (i + 2), vR 98, vI (xs (i + 1)), vR 0], LW τ κ τ ρ out)) rfl ?_
  refine hR.rd (by omega) hx.1 rfl rfl (by omega) ?_
  refine hR.run0 (by omega) 1 (S' := (406, [some (vR 98), some (vR 0), some (vR 100), some (vR 120), some (vI i), none, none], [vR 120, vI (xs (i + 2)), vI (xs (i + 1)), vR 0], LW τ κ τ ρ out)) rfl ?_
  refine hR.cw hk [vR 0, vI (xs (i + 1)), vI (xs (i + 2)), vR 120] kS_137 rfl rfl (by decide) (Nat.le_of_ble_eq_true rfl) (by decide) rfl hw ?_
  refine hR.run0 (by omega) 6 (S' := (417, [some (vR 98), some (vR 0), some (vR 100), some (vR 120), some (vI i), some (vI x.1), none], [vI (i + 1), vR 98, vR 100], LW x.2.2 κ2 τ ρ (oP x out))) rfl ?_
  refine hR.rd (by omega) hx.1 rfl rfl (by omega) ?_
  refine hR.run0 (by omega) 4 (S' := (423, [some (vR 98), some (vR 0), some (vR 100), some (vR 120), some (vI i), some (vI x.1), none], [vI (i + 2), vR 98, vI (xs (i + 1)), vR 100], LW x.2.2 κ2 τ ρ (oP x out))) rfl ?_
  refine hR.rd (by omega) hx.1 rfl rfl (by omega) ?_
  refine hR.cv (by omega) [vI (xs (i + 1)), vI (xs (i + 2))] kL_139 rfl rfl ⟨_, _, _, rfl, rfl, rfl⟩ (by decide) (Nat.le_of_ble_eq_true rfl) (by decide) rfl (hm _ _ _) ?_
  show G (k + 1) (427, [some (vR 98), some (vR 0), some (vR 100), some (vR 120), some (vI i), some (vI x.1), none], [vI x.2.1], LW x.2.2 κ2 x.2.2 ρ2 (oP x out))
  refine hR.2.2.2.2.2.1 _ _ _ _ _ _ ?_
  refine hR.run0 (by omega) 2 (S' := (430, [some (vR 98), some (vR 0), some (vR 100), some (vR 120), some (vI i), some (vI x.1), some (vI (nmI x.2.1))], [vR 100], LW x.2.2 κ2 x.2.2 ρ2 (oP x out))) rfl ?_
  refine hR.cv (by omega) [] kL_127 rfl rfl ⟨_, _, _, rfl, rfl, rfl⟩ (by decide) (Nat.le_of_ble_eq_true rfl) (by decide) rfl (frM hro (sr_thrown _ _)) ?_
  show G (k + 1) (433, [some (vR 98), some (vR 0), some (vR 100), some (vR 120), some (vI i), some (vI x.1), some (vI (nmI x.2.1))], [vI (ρ2.1 0)], LW x.2.2 κ2 x.2.2 ρ2 (oP x out))
  rw [hth]
  refine hR.run0 (by omega) 1 (S' := (435, [some (vR 98), some (vR 0), some (vR 100), some (vR 120), some (vI i), some (vI x.1), some (vI (nmI x.2.1))], [vI x.1, vI x.1], LW x.2.2 κ2 x.2.2 ρ2 (oP x out))) rfl ?_
  refine hR.br (by omega) (C := x.1 = x.1) rfl (by omega) (fun _ => ?_) (fun h => absurd rfl h)
  refine hR.run0 (by omega) 1 (S' := (442, [some (vR 98), some (vR 0), some (vR 100), some (vR 120), some (vI i), some (vI x.1), some (vI (nmI x.2.1))], [vI x.1], LW x.2.2 κ2 x.2.2 ρ2 (oP x out))) rfl ?_
  refine hR.br (by omega) (C := x.1 ≠ 0) rfl (by omega) (fun _ => ?_) (fun h => ?_)
  · skip
    refine hR.run0 (by omega) 1 (S' := (2248, [some (vR 98), some (vR 0), some (vR 100), some (vR 120), some (vI i), some (vI x.1), some (vI (nmI x.2.1))], [], LW x.2.2 κ2 x.2.2 ρ2 (oP x out))) rfl ?_
    refine hR.2.2.2.2.2.2 _ 5 _ _ _ _ ?_
    refine hR.2.2.2.2.2.2 _ 6 _ _ _ _ ?_
    exact kont _ _ _ _ _ (Nat.le_refl _) hJ2
  · have h0 : x.1 = 0 := by omega
    have ho := oP_0 (out := out) h0
    have hnr := nmI_r x.2.1
    refine hR.run1 (by omega) 6 (S' := (452, [some (vR 98), some (vR 0), some (vR 100), some (vR 120), some (vI i), some (vI x.1), some (vI (nmI x.2.1))], [vI (if nmI x.2.1 < (oP x out) 0 then 1 else if (oP x out) 0 = nmI x.2.1 then 0 else -1)], LW x.2.2 κ2 x.2.2 ρ2 (oP x out))) rfl (by rw [ho]; omega) ?_
    refine hR.br (by omega) (C := (if nmI x.2.1 < (oP x out) 0 then (1 : Int) else if (oP x out) 0 = nmI x.2.1 then 0 else -1) = 0) rfl (by (repeat' split) <;> omega) (fun _ => ?_) (fun h => absurd (lc0.mpr ho) h)
    refine hR.run0 (by omega) 1 (S' := (2248, [some (vR 98), some (vR 0), some (vR 100), some (vR 120), some (vI i), some (vI x.1), some (vI (nmI x.2.1))], [], LW x.2.2 κ2 x.2.2 ρ2 (oP x out))) rfl ?_
    refine hR.2.2.2.2.2.2 _ 5 _ _ _ _ ?_
    refine hR.2.2.2.2.2.2 _ 6 _ _ _ _ ?_
    exact kont _ _ _ _ _ (Nat.le_refl _) hJ2
theorem kS_140 : sLinkW RL 140 mL_discard hhL_discard 4 := ⟨gT_at 510 (by decide +kernel) (by decide +kernel), gT_at 511 (by decide +kernel) (by decide +kernel), gT_at 0 (by decide +kernel) (by decide +kernel), gT_at 512 (by decide +kernel) (by decide +kernel), ⟨by decide +kernel, by decide +kernel, by decide +kernel⟩⟩
theorem kL_142 : vLink RL 142 mX6_discard 2 := ⟨gT_at 1105 (by decide +kernel) (by decide +kernel), wX6_discard⟩
set_option maxHeartbeats 4000000 in
theorem cs_discard {xs : Int → Int} {N : Nat} {G : Nat → PS → Prop} (hRs : ∀ tb : PT, (∀ q ∈ tb, decode code q.1 = .ok (q.2.1, q.2.2)) → Rl lkL ((98, N, xs) :: roC) tb 100 G) (hx : N ≤ 2048 ∧ ∀ j, -2147483648 ≤ xs j ∧ xs j ≤ 2147483647) {τ κ ρ : St} {out : Int → Int} (hJ : Jv τ κ) {k : Nat} (hk : k < 600) {i : Int} (hi : 0 ≤ i ∧ i + 4 ≤ N) (kont : ∀ (τ κ ρ : St) (out : Int → Int) (j : Nat), j ≤ k + 1 → Jv τ κ → G j (2248, Lh_ i, [], LW τ κ τ ρ out)) : G k (460, Lh_ i, [], LW τ κ τ ρ out) := by
  have hR := hRs bc_discard tc_discard
  have hN := hx.1
  have hxr := hx.2
  have hr1 := hxr (i + 1)
  have hr2 := hxr (i + 2)
  have hro : ∀ q ∈ roC, q ∈ ((98, N, xs) :: roC : PRO) := fun q hq => List.mem_cons_of_mem _ hq
  have hw := wL_discard τ κ τ ρ out hro hr1 hr2 hJ.1
  have hm := fun (σ κ2 : St) (out2 : Int → Int) => frM (σ := σ) (κ := κ2) (out := out2) hro (pX6_discard τ ρ hr1 hr2 hJ.1)
  have hcd := cd_xDisc τ (xs (i + 1)) (xs (i + 2))
  have hth : (sS ρ 0 (xDisc τ (xs (i + 1)) (xs (i + 2))).1).1 0 = (xDisc τ (xs (i + 1)) (xs (i + 2))).1 := sS_at0 _ _
  have hJ2 := J_discard hJ (xs (i + 1)) (xs (i + 2))
  generalize (sS ρ 0 (xDisc τ (xs (i + 1)) (xs (i + 2))).1) = ρ2 at hm hth
  generalize xDisc τ (xs (i + 1)) (xs (i + 2)) = x at hw hm hcd hth hJ2
  generalize (kDisc κ τ (xs (i + 1)) (xs (i + 2))) = κ2 at hw hJ2
  refine hR.run0 (by omega) 5 (S' := (466, [some (vR 98), some (vR 0), some (vR 100), some (vR 120), some (vI i), none, none], [vI (i + 1), vR 98, vR 0], LW τ κ τ ρ out)) rfl ?_
  refine hR.rd (by omega) hx.1 rfl rfl (by omega) ?_
  refine hR.run0 (by omega) 4 (S' := (472, [some (vR 98), some (vR 0), some (vR 100), some (vR 120), some (vI i), none, none], [vI (i + 2), vR 98, vI (xs (i + 1)), vR 0], LW τ κ τ ρ out)) rfl ?_
  refine hR.rd (by omega) hx.1 rfl rfl (by omega) ?_
  refine hR.run0 (by omega) 1 (S' := (474, [some (vR 98), some (vR 0), some (vR 100), some (vR 120), some (vI i), none, none], [vR 120, vI (xs (i + 2)), vI (xs (i + 1)), vR 0], LW τ κ τ ρ out)) rfl ?_
  refine hR.cw hk [vR 0, vI (xs (i + 1)), vI (xs (i + 2)), vR 120] kS_140 rfl rfl (by decide) (Nat.le_of_ble_eq_true rfl) (by decide) rfl hw ?_
  refine hR.run0 (by omega) 6 (S' := (485, [some (vR 98), some (vR 0), some (vR 100), some (vR 120), some (vI i), some (vI x.1), none], [vI (i + 1), vR 98, vR 100], LW x.2.2 κ2 τ ρ (oP x out))) rfl ?_
  refine hR.rd (by omega) hx.1 rfl rfl (by omega) ?_
  refine hR.run0 (by omega) 4 (S' := (491, [some (vR 98), some (vR 0), some (vR 100), some (vR 120), some (vI i), some (vI x.1), none], [vI (i + 2), vR 98, vI (xs (i + 1)), vR 100], LW x.2.2 κ2 τ ρ (oP x out))) rfl ?_
  refine hR.rd (by omega) hx.1 rfl rfl (by omega) ?_
  refine hR.cv (by omega) [vI (xs (i + 1)), vI (xs (i + 2))] kL_142 rfl rfl ⟨_, _, _, rfl, rfl, rfl⟩ (by decide) (Nat.le_of_ble_eq_true rfl) (by decide) rfl (hm _ _ _) ?_
  show G (k + 1) (495, [some (vR 98), some (vR 0), some (vR 100), some (vR 120), some (vI i), some (vI x.1), none], [vI x.2.1], LW x.2.2 κ2 x.2.2 ρ2 (oP x out))
  refine hR.2.2.2.2.2.1 _ _ _ _ _ _ ?_
  refine hR.run0 (by omega) 2 (S' := (498, [some (vR 98), some (vR 0), some (vR 100), some (vR 120), some (vI i), some (vI x.1), some (vI (nmI x.2.1))], [vR 100], LW x.2.2 κ2 x.2.2 ρ2 (oP x out))) rfl ?_
  refine hR.cv (by omega) [] kL_127 rfl rfl ⟨_, _, _, rfl, rfl, rfl⟩ (by decide) (Nat.le_of_ble_eq_true rfl) (by decide) rfl (frM hro (sr_thrown _ _)) ?_
  show G (k + 1) (501, [some (vR 98), some (vR 0), some (vR 100), some (vR 120), some (vI i), some (vI x.1), some (vI (nmI x.2.1))], [vI (ρ2.1 0)], LW x.2.2 κ2 x.2.2 ρ2 (oP x out))
  rw [hth]
  refine hR.run0 (by omega) 1 (S' := (503, [some (vR 98), some (vR 0), some (vR 100), some (vR 120), some (vI i), some (vI x.1), some (vI (nmI x.2.1))], [vI x.1, vI x.1], LW x.2.2 κ2 x.2.2 ρ2 (oP x out))) rfl ?_
  refine hR.br (by omega) (C := x.1 = x.1) rfl (by omega) (fun _ => ?_) (fun h => absurd rfl h)
  refine hR.run0 (by omega) 1 (S' := (510, [some (vR 98), some (vR 0), some (vR 100), some (vR 120), some (vI i), some (vI x.1), some (vI (nmI x.2.1))], [vI x.1], LW x.2.2 κ2 x.2.2 ρ2 (oP x out))) rfl ?_
  refine hR.br (by omega) (C := x.1 ≠ 0) rfl (by omega) (fun _ => ?_) (fun h => ?_)
  · skip
    refine hR.run0 (by omega) 1 (S' := (2248, [some (vR 98), some (vR 0), some (vR 100), some (vR 120), some (vI i), some (vI x.1), some (vI (nmI x.2.1))], [], LW x.2.2 κ2 x.2.2 ρ2 (oP x out))) rfl ?_
    refine hR.2.2.2.2.2.2 _ 5 _ _ _ _ ?_
    refine hR.2.2.2.2.2.2 _ 6 _ _ _ _ ?_
    exact kont _ _ _ _ _ (Nat.le_refl _) hJ2
  · have h0 : x.1 = 0 := by omega
    have ho := oP_0 (out := out) h0
    have hnr := nmI_r x.2.1
    refine hR.run1 (by omega) 6 (S' := (520, [some (vR 98), some (vR 0), some (vR 100), some (vR 120), some (vI i), some (vI x.1), some (vI (nmI x.2.1))], [vI (if nmI x.2.1 < (oP x out) 0 then 1 else if (oP x out) 0 = nmI x.2.1 then 0 else -1)], LW x.2.2 κ2 x.2.2 ρ2 (oP x out))) rfl (by rw [ho]; omega) ?_
    refine hR.br (by omega) (C := (if nmI x.2.1 < (oP x out) 0 then (1 : Int) else if (oP x out) 0 = nmI x.2.1 then 0 else -1) = 0) rfl (by (repeat' split) <;> omega) (fun _ => ?_) (fun h => absurd (lc0.mpr ho) h)
    refine hR.run0 (by omega) 1 (S' := (2248, [some (vR 98), some (vR 0), some (vR 100), some (vR 120), some (vI i), some (vI x.1), some (vI (nmI x.2.1))], [], LW x.2.2 κ2 x.2.2 ρ2 (oP x out))) rfl ?_
    refine hR.2.2.2.2.2.2 _ 5 _ _ _ _ ?_
    refine hR.2.2.2.2.2.2 _ 6 _ _ _ _ ?_
    exact kont _ _ _ _ _ (Nat.le_refl _) hJ2
theorem kS_143 : sLinkW RL 143 mL_rob hhL_rob 5 := ⟨gT_at 524 (by decide +kernel) (by decide +kernel), gT_at 525 (by decide +kernel) (by decide +kernel), gT_at 0 (by decide +kernel) (by decide +kernel), gT_at 526 (by decide +kernel) (by decide +kernel), ⟨by decide +kernel, by decide +kernel, by decide +kernel⟩⟩
theorem kL_146 : vLink RL 146 mX6_rob 3 := ⟨gT_at 1112 (by decide +kernel) (by decide +kernel), wX6_rob⟩
set_option maxHeartbeats 4000000 in
theorem cs_rob {xs : Int → Int} {N : Nat} {G : Nat → PS → Prop} (hRs : ∀ tb : PT, (∀ q ∈ tb, decode code q.1 = .ok (q.2.1, q.2.2)) → Rl lkL ((98, N, xs) :: roC) tb 100 G) (hx : N ≤ 2048 ∧ ∀ j, -2147483648 ≤ xs j ∧ xs j ≤ 2147483647) {τ κ ρ : St} {out : Int → Int} (hJ : Jv τ κ) {k : Nat} (hk : k < 600) {i : Int} (hi : 0 ≤ i ∧ i + 4 ≤ N) (kont : ∀ (τ κ ρ : St) (out : Int → Int) (j : Nat), j ≤ k + 1 → Jv τ κ → G j (2248, Lh_ i, [], LW τ κ τ ρ out)) : G k (528, Lh_ i, [], LW τ κ τ ρ out) := by
  have hR := hRs bc_rob tc_rob
  have hN := hx.1
  have hxr := hx.2
  have hr1 := hxr (i + 1)
  have hr2 := hxr (i + 2)
  have hr3 := hxr (i + 3)
  have hro : ∀ q ∈ roC, q ∈ ((98, N, xs) :: roC : PRO) := fun q hq => List.mem_cons_of_mem _ hq
  have hw := wL_rob τ κ τ ρ out hro hr1 hr2 hr3 hJ.1
  have hm := fun (σ κ2 : St) (out2 : Int → Int) => frM (σ := σ) (κ := κ2) (out := out2) hro (pX6_rob τ ρ hr1 hr2 hr3 hJ.1)
  have hcd := cd_xRob τ (xs (i + 1)) (xs (i + 2)) (xs (i + 3))
  have hth : (sS ρ 0 (xRob τ (xs (i + 1)) (xs (i + 2)) (xs (i + 3))).1).1 0 = (xRob τ (xs (i + 1)) (xs (i + 2)) (xs (i + 3))).1 := sS_at0 _ _
  have hJ2 := J_rob hJ (xs (i + 1)) (xs (i + 2)) (xs (i + 3))
  generalize (sS ρ 0 (xRob τ (xs (i + 1)) (xs (i + 2)) (xs (i + 3))).1) = ρ2 at hm hth
  generalize xRob τ (xs (i + 1)) (xs (i + 2)) (xs (i + 3)) = x at hw hm hcd hth hJ2
  generalize (kRob κ τ (xs (i + 1)) (xs (i + 2)) (xs (i + 3))) = κ2 at hw hJ2
  refine hR.run0 (by omega) 5 (S' := (534, [some (vR 98), some (vR 0), some (vR 100), some (vR 120), some (vI i), none, none], [vI (i + 1), vR 98, vR 0], LW τ κ τ ρ out)) rfl ?_
  refine hR.rd (by omega) hx.1 rfl rfl (by omega) ?_
  refine hR.run0 (by omega) 4 (S' := (540, [some (vR 98), some (vR 0), some (vR 100), some (vR 120), some (vI i), none, none], [vI (i + 2), vR 98, vI (xs (i + 1)), vR 0], LW τ κ τ ρ out)) rfl ?_
  refine hR.rd (by omega) hx.1 rfl rfl (by omega) ?_
  refine hR.run0 (by omega) 4 (S' := (546, [some (vR 98), some (vR 0), some (vR 100), some (vR 120), some (vI i), none, none], [vI (i + 3), vR 98, vI (xs (i + 2)), vI (xs (i + 1)), vR 0], LW τ κ τ ρ out)) rfl ?_
  refine hR.rd (by omega) hx.1 rfl rfl (by omega) ?_
  refine hR.run0 (by omega) 1 (S' := (548, [some (vR 98), some (vR 0), some (vR 100), some (vR 120), some (vI i), none, none], [vR 120, vI (xs (i + 3)), vI (xs (i + 2)), vI (xs (i + 1)), vR 0], LW τ κ τ ρ out)) rfl ?_
  refine hR.cw hk [vR 0, vI (xs (i + 1)), vI (xs (i + 2)), vI (xs (i + 3)), vR 120] kS_143 rfl rfl (by decide) (Nat.le_of_ble_eq_true rfl) (by decide) rfl hw ?_
  refine hR.run0 (by omega) 6 (S' := (559, [some (vR 98), some (vR 0), some (vR 100), some (vR 120), some (vI i), some (vI x.1), none], [vI (i + 1), vR 98, vR 100], LW x.2.2 κ2 τ ρ (oP x out))) rfl ?_
  refine hR.rd (by omega) hx.1 rfl rfl (by omega) ?_
  refine hR.run0 (by omega) 4 (S' := (565, [some (vR 98), some (vR 0), some (vR 100), some (vR 120), some (vI i), some (vI x.1), none], [vI (i + 2), vR 98, vI (xs (i + 1)), vR 100], LW x.2.2 κ2 τ ρ (oP x out))) rfl ?_
  refine hR.rd (by omega) hx.1 rfl rfl (by omega) ?_
  refine hR.run0 (by omega) 4 (S' := (571, [some (vR 98), some (vR 0), some (vR 100), some (vR 120), some (vI i), some (vI x.1), none], [vI (i + 3), vR 98, vI (xs (i + 2)), vI (xs (i + 1)), vR 100], LW x.2.2 κ2 τ ρ (oP x out))) rfl ?_
  refine hR.rd (by omega) hx.1 rfl rfl (by omega) ?_
  refine hR.cv (by omega) [vI (xs (i + 1)), vI (xs (i + 2)), vI (xs (i + 3))] kL_146 rfl rfl ⟨_, _, _, rfl, rfl, rfl⟩ (by decide) (Nat.le_of_ble_eq_true rfl) (by decide) rfl (hm _ _ _) ?_
  show G (k + 1) (575, [some (vR 98), some (vR 0), some (vR 100), some (vR 120), some (vI i), some (vI x.1), none], [vI x.2.1], LW x.2.2 κ2 x.2.2 ρ2 (oP x out))
  refine hR.2.2.2.2.2.1 _ _ _ _ _ _ ?_
  refine hR.run0 (by omega) 2 (S' := (578, [some (vR 98), some (vR 0), some (vR 100), some (vR 120), some (vI i), some (vI x.1), some (vI (nmI x.2.1))], [vR 100], LW x.2.2 κ2 x.2.2 ρ2 (oP x out))) rfl ?_
  refine hR.cv (by omega) [] kL_127 rfl rfl ⟨_, _, _, rfl, rfl, rfl⟩ (by decide) (Nat.le_of_ble_eq_true rfl) (by decide) rfl (frM hro (sr_thrown _ _)) ?_
  show G (k + 1) (581, [some (vR 98), some (vR 0), some (vR 100), some (vR 120), some (vI i), some (vI x.1), some (vI (nmI x.2.1))], [vI (ρ2.1 0)], LW x.2.2 κ2 x.2.2 ρ2 (oP x out))
  rw [hth]
  refine hR.run0 (by omega) 1 (S' := (583, [some (vR 98), some (vR 0), some (vR 100), some (vR 120), some (vI i), some (vI x.1), some (vI (nmI x.2.1))], [vI x.1, vI x.1], LW x.2.2 κ2 x.2.2 ρ2 (oP x out))) rfl ?_
  refine hR.br (by omega) (C := x.1 = x.1) rfl (by omega) (fun _ => ?_) (fun h => absurd rfl h)
  refine hR.run0 (by omega) 1 (S' := (590, [some (vR 98), some (vR 0), some (vR 100), some (vR 120), some (vI i), some (vI x.1), some (vI (nmI x.2.1))], [vI x.1], LW x.2.2 κ2 x.2.2 ρ2 (oP x out))) rfl ?_
  refine hR.br (by omega) (C := x.1 ≠ 0) rfl (by omega) (fun _ => ?_) (fun h => ?_)
  · skip
    refine hR.run0 (by omega) 1 (S' := (2248, [some (vR 98), some (vR 0), some (vR 100), some (vR 120), some (vI i), some (vI x.1), some (vI (nmI x.2.1))], [], LW x.2.2 κ2 x.2.2 ρ2 (oP x out))) rfl ?_
    refine hR.2.2.2.2.2.2 _ 5 _ _ _ _ ?_
    refine hR.2.2.2.2.2.2 _ 6 _ _ _ _ ?_
    exact kont _ _ _ _ _ (Nat.le_refl _) hJ2
  · have h0 : x.1 = 0 := by omega
    have ho := oP_0 (out := out) h0
    have hnr := nmI_r x.2.1
    refine hR.run1 (by omega) 6 (S' := (600, [some (vR 98), some (vR 0), some (vR 100), some (vR 120), some (vI i), some (vI x.1), some (vI (nmI x.2.1))], [vI (if nmI x.2.1 < (oP x out) 0 then 1 else if (oP x out) 0 = nmI x.2.1 then 0 else -1)], LW x.2.2 κ2 x.2.2 ρ2 (oP x out))) rfl (by rw [ho]; omega) ?_
    refine hR.br (by omega) (C := (if nmI x.2.1 < (oP x out) 0 then (1 : Int) else if (oP x out) 0 = nmI x.2.1 then 0 else -1) = 0) rfl (by (repeat' split) <;> omega) (fun _ => ?_) (fun h => absurd (lc0.mpr ho) h)
    refine hR.run0 (by omega) 1 (S' := (2248, [some (vR 98), some (vR 0), some (vR 100), some (vR 120), some (vI i), some (vI x.1), some (vI (nmI x.2.1))], [], LW x.2.2 κ2 x.2.2 ρ2 (oP x out))) rfl ?_
    refine hR.2.2.2.2.2.2 _ 5 _ _ _ _ ?_
    refine hR.2.2.2.2.2.2 _ 6 _ _ _ _ ?_
    exact kont _ _ _ _ _ (Nat.le_refl _) hJ2
theorem kS_147 : sLinkW RL 147 mL_road hhL_road 3 := ⟨gT_at 557 (by decide +kernel) (by decide +kernel), gT_at 558 (by decide +kernel) (by decide +kernel), gT_at 0 (by decide +kernel) (by decide +kernel), gT_at 559 (by decide +kernel) (by decide +kernel), ⟨by decide +kernel, by decide +kernel, by decide +kernel⟩⟩
theorem kL_150 : vLink RL 150 mX6_road 1 := ⟨gT_at 1132 (by decide +kernel) (by decide +kernel), wX6_road⟩
set_option maxHeartbeats 4000000 in
theorem cs_road {xs : Int → Int} {N : Nat} {G : Nat → PS → Prop} (hRs : ∀ tb : PT, (∀ q ∈ tb, decode code q.1 = .ok (q.2.1, q.2.2)) → Rl lkL ((98, N, xs) :: roC) tb 100 G) (hx : N ≤ 2048 ∧ ∀ j, -2147483648 ≤ xs j ∧ xs j ≤ 2147483647) {τ κ ρ : St} {out : Int → Int} (hJ : Jv τ κ) {k : Nat} (hk : k < 600) {i : Int} (hi : 0 ≤ i ∧ i + 4 ≤ N) (kont : ∀ (τ κ ρ : St) (out : Int → Int) (j : Nat), j ≤ k + 1 → Jv τ κ → G j (2248, Lh_ i, [], LW τ κ τ ρ out)) : G k (608, Lh_ i, [], LW τ κ τ ρ out) := by
  have hR := hRs bc_road tc_road
  have hN := hx.1
  have hxr := hx.2
  have hr1 := hxr (i + 1)
  have hro : ∀ q ∈ roC, q ∈ ((98, N, xs) :: roC : PRO) := fun q hq => List.mem_cons_of_mem _ hq
  have hw := wL_road τ κ τ ρ out hro hr1 hJ.2.2.1 hJ.2.2.2.1 hJ.1
  have hm := fun (σ κ2 : St) (out2 : Int → Int) => frM (σ := σ) (κ := κ2) (out := out2) hro (pX6_road τ ρ hr1 hJ.1)
  have hcd := cd_xRoad τ (xs (i + 1))
  have hth : (rRoad τ ρ (xs (i + 1))).1 0 = (xRoad τ (xs (i + 1))).1 := r1_rRoad τ ρ (xs (i + 1))
  have hJ2 := J_road hJ (xs (i + 1))
  generalize (rRoad τ ρ (xs (i + 1))) = ρ2 at hm hth
  generalize xRoad τ (xs (i + 1)) = x at hw hm hcd hth hJ2
  generalize (kRoad κ τ (xs (i + 1))) = κ2 at hw hJ2
  refine hR.run0 (by omega) 5 (S' := (614, [some (vR 98), some (vR 0), some (vR 100), some (vR 120), some (vI i), none, none], [vI (i + 1), vR 98, vR 0], LW τ κ τ ρ out)) rfl ?_
  refine hR.rd (by omega) hx.1 rfl rfl (by omega) ?_
  refine hR.run0 (by omega) 1 (S' := (616, [some (vR 98), some (vR 0), some (vR 100), some (vR 120), some (vI i), none, none], [vR 120, vI (xs (i + 1)), vR 0], LW τ κ τ ρ out)) rfl ?_
  refine hR.cw hk [vR 0, vI (xs (i + 1)), vR 120] kS_147 rfl rfl (by decide) (Nat.le_of_ble_eq_true rfl) (by decide) rfl hw ?_
  refine hR.run0 (by omega) 6 (S' := (627, [some (vR 98), some (vR 0), some (vR 100), some (vR 120), some (vI i), some (vI x.1), none], [vI (i + 1), vR 98, vR 100], LW x.2.2 κ2 τ ρ (oP x out))) rfl ?_
  refine hR.rd (by omega) hx.1 rfl rfl (by omega) ?_
  refine hR.cv (by omega) [vI (xs (i + 1))] kL_150 rfl rfl ⟨_, _, _, rfl, rfl, rfl⟩ (by decide) (Nat.le_of_ble_eq_true rfl) (by decide) rfl (hm _ _ _) ?_
  show G (k + 1) (631, [some (vR 98), some (vR 0), some (vR 100), some (vR 120), some (vI i), some (vI x.1), none], [vI x.2.1], LW x.2.2 κ2 x.2.2 ρ2 (oP x out))
  refine hR.2.2.2.2.2.1 _ _ _ _ _ _ ?_
  refine hR.run0 (by omega) 2 (S' := (634, [some (vR 98), some (vR 0), some (vR 100), some (vR 120), some (vI i), some (vI x.1), some (vI (nmI x.2.1))], [vR 100], LW x.2.2 κ2 x.2.2 ρ2 (oP x out))) rfl ?_
  refine hR.cv (by omega) [] kL_127 rfl rfl ⟨_, _, _, rfl, rfl, rfl⟩ (by decide) (Nat.le_of_ble_eq_true rfl) (by decide) rfl (frM hro (sr_thrown _ _)) ?_
  show G (k + 1) (637, [some (vR 98), some (vR 0), some (vR 100), some (vR 120), some (vI i), some (vI x.1), some (vI (nmI x.2.1))], [vI (ρ2.1 0)], LW x.2.2 κ2 x.2.2 ρ2 (oP x out))
  rw [hth]
  refine hR.run0 (by omega) 1 (S' := (639, [some (vR 98), some (vR 0), some (vR 100), some (vR 120), some (vI i), some (vI x.1), some (vI (nmI x.2.1))], [vI x.1, vI x.1], LW x.2.2 κ2 x.2.2 ρ2 (oP x out))) rfl ?_
  refine hR.br (by omega) (C := x.1 = x.1) rfl (by omega) (fun _ => ?_) (fun h => absurd rfl h)
  refine hR.run0 (by omega) 1 (S' := (646, [some (vR 98), some (vR 0), some (vR 100), some (vR 120), some (vI i), some (vI x.1), some (vI (nmI x.2.1))], [vI x.1], LW x.2.2 κ2 x.2.2 ρ2 (oP x out))) rfl ?_
  refine hR.br (by omega) (C := x.1 ≠ 0) rfl (by omega) (fun _ => ?_) (fun h => ?_)
  · skip
    refine hR.run0 (by omega) 1 (S' := (2248, [some (vR 98), some (vR 0), some (vR 100), some (vR 120), some (vI i), some (vI x.1), some (vI (nmI x.2.1))], [], LW x.2.2 κ2 x.2.2 ρ2 (oP x out))) rfl ?_
    refine hR.2.2.2.2.2.2 _ 5 _ _ _ _ ?_
    refine hR.2.2.2.2.2.2 _ 6 _ _ _ _ ?_
    exact kont _ _ _ _ _ (Nat.le_refl _) hJ2
  · have h0 : x.1 = 0 := by omega
    have ho := oP_0 (out := out) h0
    have hnr := nmI_r x.2.1
    refine hR.run1 (by omega) 6 (S' := (656, [some (vR 98), some (vR 0), some (vR 100), some (vR 120), some (vI i), some (vI x.1), some (vI (nmI x.2.1))], [vI (if nmI x.2.1 < (oP x out) 0 then 1 else if (oP x out) 0 = nmI x.2.1 then 0 else -1)], LW x.2.2 κ2 x.2.2 ρ2 (oP x out))) rfl (by rw [ho]; omega) ?_
    refine hR.br (by omega) (C := (if nmI x.2.1 < (oP x out) 0 then (1 : Int) else if (oP x out) 0 = nmI x.2.1 then 0 else -1) = 0) rfl (by (repeat' split) <;> omega) (fun _ => ?_) (fun h => absurd (lc0.mpr ho) h)
    refine hR.run0 (by omega) 1 (S' := (2248, [some (vR 98), some (vR 0), some (vR 100), some (vR 120), some (vI i), some (vI x.1), some (vI (nmI x.2.1))], [], LW x.2.2 κ2 x.2.2 ρ2 (oP x out))) rfl ?_
    refine hR.2.2.2.2.2.2 _ 5 _ _ _ _ ?_
    refine hR.2.2.2.2.2.2 _ 6 _ _ _ _ ?_
    exact kont _ _ _ _ _ (Nat.le_refl _) hJ2
theorem kS_151 : sLinkW RL 151 mL_house hhL_house 3 := ⟨gT_at 586 (by decide +kernel) (by decide +kernel), gT_at 587 (by decide +kernel) (by decide +kernel), gT_at 0 (by decide +kernel) (by decide +kernel), gT_at 588 (by decide +kernel) (by decide +kernel), ⟨by decide +kernel, by decide +kernel, by decide +kernel⟩⟩
theorem kL_153 : vLink RL 153 mX6_house 1 := ⟨gT_at 1172 (by decide +kernel) (by decide +kernel), wX6_house⟩
set_option maxHeartbeats 4000000 in
theorem cs_house {xs : Int → Int} {N : Nat} {G : Nat → PS → Prop} (hRs : ∀ tb : PT, (∀ q ∈ tb, decode code q.1 = .ok (q.2.1, q.2.2)) → Rl lkL ((98, N, xs) :: roC) tb 100 G) (hx : N ≤ 2048 ∧ ∀ j, -2147483648 ≤ xs j ∧ xs j ≤ 2147483647) {τ κ ρ : St} {out : Int → Int} (hJ : Jv τ κ) {k : Nat} (hk : k < 600) {i : Int} (hi : 0 ≤ i ∧ i + 4 ≤ N) (kont : ∀ (τ κ ρ : St) (out : Int → Int) (j : Nat), j ≤ k + 1 → Jv τ κ → G j (2248, Lh_ i, [], LW τ κ τ ρ out)) : G k (664, Lh_ i, [], LW τ κ τ ρ out) := by
  have hR := hRs bc_house tc_house
  have hN := hx.1
  have hxr := hx.2
  have hr1 := hxr (i + 1)
  have hro : ∀ q ∈ roC, q ∈ ((98, N, xs) :: roC : PRO) := fun q hq => List.mem_cons_of_mem _ hq
  have hw := wL_house τ κ τ ρ out hro hr1 hJ.2.2.1 hJ.2.2.2.1 hJ.1
  have hm := fun (σ κ2 : St) (out2 : Int → Int) => frM (σ := σ) (κ := κ2) (out := out2) hro (pX6_house τ ρ hr1 hJ.1)
  have hcd := cd_xHouse τ (xs (i + 1))
  have hth : (rHouse τ ρ (xs (i + 1))).1 0 = (xHouse τ (xs (i + 1))).1 := r1_rHouse τ ρ (xs (i + 1))
  have hJ2 := J_house hJ (xs (i + 1))
  generalize (rHouse τ ρ (xs (i + 1))) = ρ2 at hm hth
  generalize xHouse τ (xs (i + 1)) = x at hw hm hcd hth hJ2
  generalize (kHouse κ τ (xs (i + 1))) = κ2 at hw hJ2
  refine hR.run0 (by omega) 5 (S' := (670, [some (vR 98), some (vR 0), some (vR 100), some (vR 120), some (vI i), none, none], [vI (i + 1), vR 98, vR 0], LW τ κ τ ρ out)) rfl ?_
  refine hR.rd (by omega) hx.1 rfl rfl (by omega) ?_
  refine hR.run0 (by omega) 1 (S' := (672, [some (vR 98), some (vR 0), some (vR 100), some (vR 120), some (vI i), none, none], [vR 120, vI (xs (i + 1)), vR 0], LW τ κ τ ρ out)) rfl ?_
  refine hR.cw hk [vR 0, vI (xs (i + 1)), vR 120] kS_151 rfl rfl (by decide) (Nat.le_of_ble_eq_true rfl) (by decide) rfl hw ?_
  refine hR.run0 (by omega) 6 (S' := (683, [some (vR 98), some (vR 0), some (vR 100), some (vR 120), some (vI i), some (vI x.1), none], [vI (i + 1), vR 98, vR 100], LW x.2.2 κ2 τ ρ (oP x out))) rfl ?_
  refine hR.rd (by omega) hx.1 rfl rfl (by omega) ?_
  refine hR.cv (by omega) [vI (xs (i + 1))] kL_153 rfl rfl ⟨_, _, _, rfl, rfl, rfl⟩ (by decide) (Nat.le_of_ble_eq_true rfl) (by decide) rfl (hm _ _ _) ?_
  show G (k + 1) (687, [some (vR 98), some (vR 0), some (vR 100), some (vR 120), some (vI i), some (vI x.1), none], [vI x.2.1], LW x.2.2 κ2 x.2.2 ρ2 (oP x out))
  refine hR.2.2.2.2.2.1 _ _ _ _ _ _ ?_
  refine hR.run0 (by omega) 2 (S' := (690, [some (vR 98), some (vR 0), some (vR 100), some (vR 120), some (vI i), some (vI x.1), some (vI (nmI x.2.1))], [vR 100], LW x.2.2 κ2 x.2.2 ρ2 (oP x out))) rfl ?_
  refine hR.cv (by omega) [] kL_127 rfl rfl ⟨_, _, _, rfl, rfl, rfl⟩ (by decide) (Nat.le_of_ble_eq_true rfl) (by decide) rfl (frM hro (sr_thrown _ _)) ?_
  show G (k + 1) (693, [some (vR 98), some (vR 0), some (vR 100), some (vR 120), some (vI i), some (vI x.1), some (vI (nmI x.2.1))], [vI (ρ2.1 0)], LW x.2.2 κ2 x.2.2 ρ2 (oP x out))
  rw [hth]
  refine hR.run0 (by omega) 1 (S' := (695, [some (vR 98), some (vR 0), some (vR 100), some (vR 120), some (vI i), some (vI x.1), some (vI (nmI x.2.1))], [vI x.1, vI x.1], LW x.2.2 κ2 x.2.2 ρ2 (oP x out))) rfl ?_
  refine hR.br (by omega) (C := x.1 = x.1) rfl (by omega) (fun _ => ?_) (fun h => absurd rfl h)
  refine hR.run0 (by omega) 1 (S' := (702, [some (vR 98), some (vR 0), some (vR 100), some (vR 120), some (vI i), some (vI x.1), some (vI (nmI x.2.1))], [vI x.1], LW x.2.2 κ2 x.2.2 ρ2 (oP x out))) rfl ?_
  refine hR.br (by omega) (C := x.1 ≠ 0) rfl (by omega) (fun _ => ?_) (fun h => ?_)
  · skip
    refine hR.run0 (by omega) 1 (S' := (2248, [some (vR 98), some (vR 0), some (vR 100), some (vR 120), some (vI i), some (vI x.1), some (vI (nmI x.2.1))], [], LW x.2.2 κ2 x.2.2 ρ2 (oP x out))) rfl ?_
    refine hR.2.2.2.2.2.2 _ 5 _ _ _ _ ?_
    refine hR.2.2.2.2.2.2 _ 6 _ _ _ _ ?_
    exact kont _ _ _ _ _ (Nat.le_refl _) hJ2
  · have h0 : x.1 = 0 := by omega
    have ho := oP_0 (out := out) h0
    have hnr := nmI_r x.2.1
    refine hR.run1 (by omega) 6 (S' := (712, [some (vR 98), some (vR 0), some (vR 100), some (vR 120), some (vI i), some (vI x.1), some (vI (nmI x.2.1))], [vI (if nmI x.2.1 < (oP x out) 0 then 1 else if (oP x out) 0 = nmI x.2.1 then 0 else -1)], LW x.2.2 κ2 x.2.2 ρ2 (oP x out))) rfl (by rw [ho]; omega) ?_
    refine hR.br (by omega) (C := (if nmI x.2.1 < (oP x out) 0 then (1 : Int) else if (oP x out) 0 = nmI x.2.1 then 0 else -1) = 0) rfl (by (repeat' split) <;> omega) (fun _ => ?_) (fun h => absurd (lc0.mpr ho) h)
    refine hR.run0 (by omega) 1 (S' := (2248, [some (vR 98), some (vR 0), some (vR 100), some (vR 120), some (vI i), some (vI x.1), some (vI (nmI x.2.1))], [], LW x.2.2 κ2 x.2.2 ρ2 (oP x out))) rfl ?_
    refine hR.2.2.2.2.2.2 _ 5 _ _ _ _ ?_
    refine hR.2.2.2.2.2.2 _ 6 _ _ _ _ ?_
    exact kont _ _ _ _ _ (Nat.le_refl _) hJ2
theorem kS_154 : sLinkW RL 154 mL_city hhL_city 3 := ⟨gT_at 594 (by decide +kernel) (by decide +kernel), gT_at 595 (by decide +kernel) (by decide +kernel), gT_at 0 (by decide +kernel) (by decide +kernel), gT_at 596 (by decide +kernel) (by decide +kernel), ⟨by decide +kernel, by decide +kernel, by decide +kernel⟩⟩
theorem kL_156 : vLink RL 156 mX6_city 1 := ⟨gT_at 1176 (by decide +kernel) (by decide +kernel), wX6_city⟩
set_option maxHeartbeats 4000000 in
theorem cs_city {xs : Int → Int} {N : Nat} {G : Nat → PS → Prop} (hRs : ∀ tb : PT, (∀ q ∈ tb, decode code q.1 = .ok (q.2.1, q.2.2)) → Rl lkL ((98, N, xs) :: roC) tb 100 G) (hx : N ≤ 2048 ∧ ∀ j, -2147483648 ≤ xs j ∧ xs j ≤ 2147483647) {τ κ ρ : St} {out : Int → Int} (hJ : Jv τ κ) {k : Nat} (hk : k < 600) {i : Int} (hi : 0 ≤ i ∧ i + 4 ≤ N) (kont : ∀ (τ κ ρ : St) (out : Int → Int) (j : Nat), j ≤ k + 1 → Jv τ κ → G j (2248, Lh_ i, [], LW τ κ τ ρ out)) : G k (720, Lh_ i, [], LW τ κ τ ρ out) := by
  have hR := hRs bc_city tc_city
  have hN := hx.1
  have hxr := hx.2
  have hr1 := hxr (i + 1)
  have hro : ∀ q ∈ roC, q ∈ ((98, N, xs) :: roC : PRO) := fun q hq => List.mem_cons_of_mem _ hq
  have hw := wL_city τ κ τ ρ out hro hr1 hJ.2.2.1 hJ.2.2.2.1 hJ.1
  have hm := fun (σ κ2 : St) (out2 : Int → Int) => frM (σ := σ) (κ := κ2) (out := out2) hro (pX6_city τ ρ hr1 hJ.1)
  have hcd := cd_xCity τ (xs (i + 1))
  have hth : (rCity τ ρ (xs (i + 1))).1 0 = (xCity τ (xs (i + 1))).1 := r1_rCity τ ρ (xs (i + 1))
  have hJ2 := J_city hJ (xs (i + 1))
  generalize (rCity τ ρ (xs (i + 1))) = ρ2 at hm hth
  generalize xCity τ (xs (i + 1)) = x at hw hm hcd hth hJ2
  generalize (kCity κ τ (xs (i + 1))) = κ2 at hw hJ2
  refine hR.run0 (by omega) 5 (S' := (726, [some (vR 98), some (vR 0), some (vR 100), some (vR 120), some (vI i), none, none], [vI (i + 1), vR 98, vR 0], LW τ κ τ ρ out)) rfl ?_
  refine hR.rd (by omega) hx.1 rfl rfl (by omega) ?_
  refine hR.run0 (by omega) 1 (S' := (728, [some (vR 98), some (vR 0), some (vR 100), some (vR 120), some (vI i), none, none], [vR 120, vI (xs (i + 1)), vR 0], LW τ κ τ ρ out)) rfl ?_
  refine hR.cw hk [vR 0, vI (xs (i + 1)), vR 120] kS_154 rfl rfl (by decide) (Nat.le_of_ble_eq_true rfl) (by decide) rfl hw ?_
  refine hR.run0 (by omega) 6 (S' := (739, [some (vR 98), some (vR 0), some (vR 100), some (vR 120), some (vI i), some (vI x.1), none], [vI (i + 1), vR 98, vR 100], LW x.2.2 κ2 τ ρ (oP x out))) rfl ?_
  refine hR.rd (by omega) hx.1 rfl rfl (by omega) ?_
  refine hR.cv (by omega) [vI (xs (i + 1))] kL_156 rfl rfl ⟨_, _, _, rfl, rfl, rfl⟩ (by decide) (Nat.le_of_ble_eq_true rfl) (by decide) rfl (hm _ _ _) ?_
  show G (k + 1) (743, [some (vR 98), some (vR 0), some (vR 100), some (vR 120), some (vI i), some (vI x.1), none], [vI x.2.1], LW x.2.2 κ2 x.2.2 ρ2 (oP x out))
  refine hR.2.2.2.2.2.1 _ _ _ _ _ _ ?_
  refine hR.run0 (by omega) 2 (S' := (746, [some (vR 98), some (vR 0), some (vR 100), some (vR 120), some (vI i), some (vI x.1), some (vI (nmI x.2.1))], [vR 100], LW x.2.2 κ2 x.2.2 ρ2 (oP x out))) rfl ?_
  refine hR.cv (by omega) [] kL_127 rfl rfl ⟨_, _, _, rfl, rfl, rfl⟩ (by decide) (Nat.le_of_ble_eq_true rfl) (by decide) rfl (frM hro (sr_thrown _ _)) ?_
  show G (k + 1) (749, [some (vR 98), some (vR 0), some (vR 100), some (vR 120), some (vI i), some (vI x.1), some (vI (nmI x.2.1))], [vI (ρ2.1 0)], LW x.2.2 κ2 x.2.2 ρ2 (oP x out))
  rw [hth]
  refine hR.run0 (by omega) 1 (S' := (751, [some (vR 98), some (vR 0), some (vR 100), some (vR 120), some (vI i), some (vI x.1), some (vI (nmI x.2.1))], [vI x.1, vI x.1], LW x.2.2 κ2 x.2.2 ρ2 (oP x out))) rfl ?_
  refine hR.br (by omega) (C := x.1 = x.1) rfl (by omega) (fun _ => ?_) (fun h => absurd rfl h)
  refine hR.run0 (by omega) 1 (S' := (758, [some (vR 98), some (vR 0), some (vR 100), some (vR 120), some (vI i), some (vI x.1), some (vI (nmI x.2.1))], [vI x.1], LW x.2.2 κ2 x.2.2 ρ2 (oP x out))) rfl ?_
  refine hR.br (by omega) (C := x.1 ≠ 0) rfl (by omega) (fun _ => ?_) (fun h => ?_)
  · skip
    refine hR.run0 (by omega) 1 (S' := (2248, [some (vR 98), some (vR 0), some (vR 100), some (vR 120), some (vI i), some (vI x.1), some (vI (nmI x.2.1))], [], LW x.2.2 κ2 x.2.2 ρ2 (oP x out))) rfl ?_
    refine hR.2.2.2.2.2.2 _ 5 _ _ _ _ ?_
    refine hR.2.2.2.2.2.2 _ 6 _ _ _ _ ?_
    exact kont _ _ _ _ _ (Nat.le_refl _) hJ2
  · have h0 : x.1 = 0 := by omega
    have ho := oP_0 (out := out) h0
    have hnr := nmI_r x.2.1
    refine hR.run1 (by omega) 6 (S' := (768, [some (vR 98), some (vR 0), some (vR 100), some (vR 120), some (vI i), some (vI x.1), some (vI (nmI x.2.1))], [vI (if nmI x.2.1 < (oP x out) 0 then 1 else if (oP x out) 0 = nmI x.2.1 then 0 else -1)], LW x.2.2 κ2 x.2.2 ρ2 (oP x out))) rfl (by rw [ho]; omega) ?_
    refine hR.br (by omega) (C := (if nmI x.2.1 < (oP x out) 0 then (1 : Int) else if (oP x out) 0 = nmI x.2.1 then 0 else -1) = 0) rfl (by (repeat' split) <;> omega) (fun _ => ?_) (fun h => absurd (lc0.mpr ho) h)
    refine hR.run0 (by omega) 1 (S' := (2248, [some (vR 98), some (vR 0), some (vR 100), some (vR 120), some (vI i), some (vI x.1), some (vI (nmI x.2.1))], [], LW x.2.2 κ2 x.2.2 ρ2 (oP x out))) rfl ?_
    refine hR.2.2.2.2.2.2 _ 5 _ _ _ _ ?_
    refine hR.2.2.2.2.2.2 _ 6 _ _ _ _ ?_
    exact kont _ _ _ _ _ (Nat.le_refl _) hJ2
theorem kS_157 : sLinkW RL 157 mL_buy hhL_buy 2 := ⟨gT_at 602 (by decide +kernel) (by decide +kernel), gT_at 603 (by decide +kernel) (by decide +kernel), gT_at 0 (by decide +kernel) (by decide +kernel), gT_at 604 (by decide +kernel) (by decide +kernel), ⟨by decide +kernel, by decide +kernel, by decide +kernel⟩⟩
theorem kL_160 : vLink RL 160 mX6_buy 0 := ⟨gT_at 1180 (by decide +kernel) (by decide +kernel), wX6_buy⟩
set_option maxHeartbeats 4000000 in
theorem cs_buy {xs : Int → Int} {N : Nat} {G : Nat → PS → Prop} (hRs : ∀ tb : PT, (∀ q ∈ tb, decode code q.1 = .ok (q.2.1, q.2.2)) → Rl lkL ((98, N, xs) :: roC) tb 100 G) (hx : N ≤ 2048 ∧ ∀ j, -2147483648 ≤ xs j ∧ xs j ≤ 2147483647) {τ κ ρ : St} {out : Int → Int} (hJ : Jv τ κ) {k : Nat} (hk : k < 600) {i : Int} (hi : 0 ≤ i ∧ i + 4 ≤ N) (kont : ∀ (τ κ ρ : St) (out : Int → Int) (j : Nat), j ≤ k + 1 → Jv τ κ → G j (2248, Lh_ i, [], LW τ κ τ ρ out)) : G k (776, Lh_ i, [], LW τ κ τ ρ out) := by
  have hR := hRs bc_buy tc_buy
  have hN := hx.1
  have hxr := hx.2
  have hro : ∀ q ∈ roC, q ∈ ((98, N, xs) :: roC : PRO) := fun q hq => List.mem_cons_of_mem _ hq
  have hw := wL_buy τ κ τ ρ out hro hJ.1
  have hm := fun (σ κ2 : St) (out2 : Int → Int) => frM (σ := σ) (κ := κ2) (out := out2) hro (pX6_buy τ ρ hJ.1)
  have hcd := cd_xBuy τ
  have hth : (sS ρ 0 (xBuy τ).1).1 0 = (xBuy τ).1 := sS_at0 _ _
  have hJ2 := J_buy hJ
  generalize (sS ρ 0 (xBuy τ).1) = ρ2 at hm hth
  generalize xBuy τ = x at hw hm hcd hth hJ2
  generalize (kBuy κ τ) = κ2 at hw hJ2
  refine hR.run0 (by omega) 2 (S' := (778, [some (vR 98), some (vR 0), some (vR 100), some (vR 120), some (vI i), none, none], [vR 120, vR 0], LW τ κ τ ρ out)) rfl ?_
  refine hR.cw hk [vR 0, vR 120] kS_157 rfl rfl (by decide) (Nat.le_of_ble_eq_true rfl) (by decide) rfl hw ?_
  refine hR.run0 (by omega) 2 (S' := (784, [some (vR 98), some (vR 0), some (vR 100), some (vR 120), some (vI i), some (vI x.1), none], [vR 100], LW x.2.2 κ2 τ ρ (oP x out))) rfl ?_
  refine hR.cv (by omega) [] kL_160 rfl rfl ⟨_, _, _, rfl, rfl, rfl⟩ (by decide) (Nat.le_of_ble_eq_true rfl) (by decide) rfl (hm _ _ _) ?_
  show G (k + 1) (787, [some (vR 98), some (vR 0), some (vR 100), some (vR 120), some (vI i), some (vI x.1), none], [vI x.2.1], LW x.2.2 κ2 x.2.2 ρ2 (oP x out))
  refine hR.2.2.2.2.2.1 _ _ _ _ _ _ ?_
  refine hR.run0 (by omega) 2 (S' := (790, [some (vR 98), some (vR 0), some (vR 100), some (vR 120), some (vI i), some (vI x.1), some (vI (nmI x.2.1))], [vR 100], LW x.2.2 κ2 x.2.2 ρ2 (oP x out))) rfl ?_
  refine hR.cv (by omega) [] kL_127 rfl rfl ⟨_, _, _, rfl, rfl, rfl⟩ (by decide) (Nat.le_of_ble_eq_true rfl) (by decide) rfl (frM hro (sr_thrown _ _)) ?_
  show G (k + 1) (793, [some (vR 98), some (vR 0), some (vR 100), some (vR 120), some (vI i), some (vI x.1), some (vI (nmI x.2.1))], [vI (ρ2.1 0)], LW x.2.2 κ2 x.2.2 ρ2 (oP x out))
  rw [hth]
  refine hR.run0 (by omega) 1 (S' := (795, [some (vR 98), some (vR 0), some (vR 100), some (vR 120), some (vI i), some (vI x.1), some (vI (nmI x.2.1))], [vI x.1, vI x.1], LW x.2.2 κ2 x.2.2 ρ2 (oP x out))) rfl ?_
  refine hR.br (by omega) (C := x.1 = x.1) rfl (by omega) (fun _ => ?_) (fun h => absurd rfl h)
  refine hR.run0 (by omega) 1 (S' := (802, [some (vR 98), some (vR 0), some (vR 100), some (vR 120), some (vI i), some (vI x.1), some (vI (nmI x.2.1))], [vI x.1], LW x.2.2 κ2 x.2.2 ρ2 (oP x out))) rfl ?_
  refine hR.br (by omega) (C := x.1 ≠ 0) rfl (by omega) (fun _ => ?_) (fun h => ?_)
  · skip
    refine hR.run0 (by omega) 1 (S' := (2248, [some (vR 98), some (vR 0), some (vR 100), some (vR 120), some (vI i), some (vI x.1), some (vI (nmI x.2.1))], [], LW x.2.2 κ2 x.2.2 ρ2 (oP x out))) rfl ?_
    refine hR.2.2.2.2.2.2 _ 5 _ _ _ _ ?_
    refine hR.2.2.2.2.2.2 _ 6 _ _ _ _ ?_
    exact kont _ _ _ _ _ (Nat.le_refl _) hJ2
  · have h0 : x.1 = 0 := by omega
    have ho := oP_0 (out := out) h0
    have hnr := nmI_r x.2.1
    refine hR.run1 (by omega) 6 (S' := (812, [some (vR 98), some (vR 0), some (vR 100), some (vR 120), some (vI i), some (vI x.1), some (vI (nmI x.2.1))], [vI (if nmI x.2.1 < (oP x out) 0 then 1 else if (oP x out) 0 = nmI x.2.1 then 0 else -1)], LW x.2.2 κ2 x.2.2 ρ2 (oP x out))) rfl (by rw [ho]; omega) ?_
    refine hR.br (by omega) (C := (if nmI x.2.1 < (oP x out) 0 then (1 : Int) else if (oP x out) 0 = nmI x.2.1 then 0 else -1) = 0) rfl (by (repeat' split) <;> omega) (fun _ => ?_) (fun h => absurd (lc0.mpr ho) h)
    refine hR.run0 (by omega) 1 (S' := (2248, [some (vR 98), some (vR 0), some (vR 100), some (vR 120), some (vI i), some (vI x.1), some (vI (nmI x.2.1))], [], LW x.2.2 κ2 x.2.2 ρ2 (oP x out))) rfl ?_
    refine hR.2.2.2.2.2.2 _ 5 _ _ _ _ ?_
    refine hR.2.2.2.2.2.2 _ 6 _ _ _ _ ?_
    exact kont _ _ _ _ _ (Nat.le_refl _) hJ2
theorem kS_161 : sLinkW RL 161 mL_knight hhL_knight 5 := ⟨gT_at 619 (by decide +kernel) (by decide +kernel), gT_at 620 (by decide +kernel) (by decide +kernel), gT_at 0 (by decide +kernel) (by decide +kernel), gT_at 621 (by decide +kernel) (by decide +kernel), ⟨by decide +kernel, by decide +kernel, by decide +kernel⟩⟩
theorem kL_163 : vLink RL 163 mX6_knight 3 := ⟨gT_at 1187 (by decide +kernel) (by decide +kernel), wX6_knight⟩
set_option maxHeartbeats 4000000 in
theorem cs_knight {xs : Int → Int} {N : Nat} {G : Nat → PS → Prop} (hRs : ∀ tb : PT, (∀ q ∈ tb, decode code q.1 = .ok (q.2.1, q.2.2)) → Rl lkL ((98, N, xs) :: roC) tb 100 G) (hx : N ≤ 2048 ∧ ∀ j, -2147483648 ≤ xs j ∧ xs j ≤ 2147483647) {τ κ ρ : St} {out : Int → Int} (hJ : Jv τ κ) {k : Nat} (hk : k < 600) {i : Int} (hi : 0 ≤ i ∧ i + 4 ≤ N) (kont : ∀ (τ κ ρ : St) (out : Int → Int) (j : Nat), j ≤ k + 1 → Jv τ κ → G j (2248, Lh_ i, [], LW τ κ τ ρ out)) : G k (820, Lh_ i, [], LW τ κ τ ρ out) := by
  have hR := hRs bc_knight tc_knight
  have hN := hx.1
  have hxr := hx.2
  have hr1 := hxr (i + 1)
  have hr2 := hxr (i + 2)
  have hr3 := hxr (i + 3)
  have hro : ∀ q ∈ roC, q ∈ ((98, N, xs) :: roC : PRO) := fun q hq => List.mem_cons_of_mem _ hq
  have hw := wL_knight τ κ τ ρ out hro hr1 hr2 hr3 hJ.1
  have hm := fun (σ κ2 : St) (out2 : Int → Int) => frM (σ := σ) (κ := κ2) (out := out2) hro (pX6_knight τ ρ hr1 hr2 hr3 hJ.1)
  have hcd := cd_xKnight τ (xs (i + 1)) (xs (i + 2)) (xs (i + 3))
  have hth : (sS ρ 0 (xKnight τ (xs (i + 1)) (xs (i + 2)) (xs (i + 3))).1).1 0 = (xKnight τ (xs (i + 1)) (xs (i + 2)) (xs (i + 3))).1 := sS_at0 _ _
  have hJ2 := J_knight hJ (xs (i + 1)) (xs (i + 2)) (xs (i + 3))
  generalize (sS ρ 0 (xKnight τ (xs (i + 1)) (xs (i + 2)) (xs (i + 3))).1) = ρ2 at hm hth
  generalize xKnight τ (xs (i + 1)) (xs (i + 2)) (xs (i + 3)) = x at hw hm hcd hth hJ2
  generalize (kKnight κ τ (xs (i + 1)) (xs (i + 2)) (xs (i + 3))) = κ2 at hw hJ2
  refine hR.run0 (by omega) 5 (S' := (826, [some (vR 98), some (vR 0), some (vR 100), some (vR 120), some (vI i), none, none], [vI (i + 1), vR 98, vR 0], LW τ κ τ ρ out)) rfl ?_
  refine hR.rd (by omega) hx.1 rfl rfl (by omega) ?_
  refine hR.run0 (by omega) 4 (S' := (832, [some (vR 98), some (vR 0), some (vR 100), some (vR 120), some (vI i), none, none], [vI (i + 2), vR 98, vI (xs (i + 1)), vR 0], LW τ κ τ ρ out)) rfl ?_
  refine hR.rd (by omega) hx.1 rfl rfl (by omega) ?_
  refine hR.run0 (by omega) 4 (S' := (838, [some (vR 98), some (vR 0), some (vR 100), some (vR 120), some (vI i), none, none], [vI (i + 3), vR 98, vI (xs (i + 2)), vI (xs (i + 1)), vR 0], LW τ κ τ ρ out)) rfl ?_
  refine hR.rd (by omega) hx.1 rfl rfl (by omega) ?_
  refine hR.run0 (by omega) 1 (S' := (840, [some (vR 98), some (vR 0), some (vR 100), some (vR 120), some (vI i), none, none], [vR 120, vI (xs (i + 3)), vI (xs (i + 2)), vI (xs (i + 1)), vR 0], LW τ κ τ ρ out)) rfl ?_
  refine hR.cw hk [vR 0, vI (xs (i + 1)), vI (xs (i + 2)), vI (xs (i + 3)), vR 120] kS_161 rfl rfl (by decide) (Nat.le_of_ble_eq_true rfl) (by decide) rfl hw ?_
  refine hR.run0 (by omega) 6 (S' := (851, [some (vR 98), some (vR 0), some (vR 100), some (vR 120), some (vI i), some (vI x.1), none], [vI (i + 1), vR 98, vR 100], LW x.2.2 κ2 τ ρ (oP x out))) rfl ?_
  refine hR.rd (by omega) hx.1 rfl rfl (by omega) ?_
  refine hR.run0 (by omega) 4 (S' := (857, [some (vR 98), some (vR 0), some (vR 100), some (vR 120), some (vI i), some (vI x.1), none], [vI (i + 2), vR 98, vI (xs (i + 1)), vR 100], LW x.2.2 κ2 τ ρ (oP x out))) rfl ?_
  refine hR.rd (by omega) hx.1 rfl rfl (by omega) ?_
  refine hR.run0 (by omega) 4 (S' := (863, [some (vR 98), some (vR 0), some (vR 100), some (vR 120), some (vI i), some (vI x.1), none], [vI (i + 3), vR 98, vI (xs (i + 2)), vI (xs (i + 1)), vR 100], LW x.2.2 κ2 τ ρ (oP x out))) rfl ?_
  refine hR.rd (by omega) hx.1 rfl rfl (by omega) ?_
  refine hR.cv (by omega) [vI (xs (i + 1)), vI (xs (i + 2)), vI (xs (i + 3))] kL_163 rfl rfl ⟨_, _, _, rfl, rfl, rfl⟩ (by decide) (Nat.le_of_ble_eq_true rfl) (by decide) rfl (hm _ _ _) ?_
  show G (k + 1) (867, [some (vR 98), some (vR 0), some (vR 100), some (vR 120), some (vI i), some (vI x.1), none], [vI x.2.1], LW x.2.2 κ2 x.2.2 ρ2 (oP x out))
  refine hR.2.2.2.2.2.1 _ _ _ _ _ _ ?_
  refine hR.run0 (by omega) 2 (S' := (870, [some (vR 98), some (vR 0), some (vR 100), some (vR 120), some (vI i), some (vI x.1), some (vI (nmI x.2.1))], [vR 100], LW x.2.2 κ2 x.2.2 ρ2 (oP x out))) rfl ?_
  refine hR.cv (by omega) [] kL_127 rfl rfl ⟨_, _, _, rfl, rfl, rfl⟩ (by decide) (Nat.le_of_ble_eq_true rfl) (by decide) rfl (frM hro (sr_thrown _ _)) ?_
  show G (k + 1) (873, [some (vR 98), some (vR 0), some (vR 100), some (vR 120), some (vI i), some (vI x.1), some (vI (nmI x.2.1))], [vI (ρ2.1 0)], LW x.2.2 κ2 x.2.2 ρ2 (oP x out))
  rw [hth]
  refine hR.run0 (by omega) 1 (S' := (875, [some (vR 98), some (vR 0), some (vR 100), some (vR 120), some (vI i), some (vI x.1), some (vI (nmI x.2.1))], [vI x.1, vI x.1], LW x.2.2 κ2 x.2.2 ρ2 (oP x out))) rfl ?_
  refine hR.br (by omega) (C := x.1 = x.1) rfl (by omega) (fun _ => ?_) (fun h => absurd rfl h)
  refine hR.run0 (by omega) 1 (S' := (882, [some (vR 98), some (vR 0), some (vR 100), some (vR 120), some (vI i), some (vI x.1), some (vI (nmI x.2.1))], [vI x.1], LW x.2.2 κ2 x.2.2 ρ2 (oP x out))) rfl ?_
  refine hR.br (by omega) (C := x.1 ≠ 0) rfl (by omega) (fun _ => ?_) (fun h => ?_)
  · skip
    refine hR.run0 (by omega) 1 (S' := (2248, [some (vR 98), some (vR 0), some (vR 100), some (vR 120), some (vI i), some (vI x.1), some (vI (nmI x.2.1))], [], LW x.2.2 κ2 x.2.2 ρ2 (oP x out))) rfl ?_
    refine hR.2.2.2.2.2.2 _ 5 _ _ _ _ ?_
    refine hR.2.2.2.2.2.2 _ 6 _ _ _ _ ?_
    exact kont _ _ _ _ _ (Nat.le_refl _) hJ2
  · have h0 : x.1 = 0 := by omega
    have ho := oP_0 (out := out) h0
    have hnr := nmI_r x.2.1
    refine hR.run1 (by omega) 6 (S' := (892, [some (vR 98), some (vR 0), some (vR 100), some (vR 120), some (vI i), some (vI x.1), some (vI (nmI x.2.1))], [vI (if nmI x.2.1 < (oP x out) 0 then 1 else if (oP x out) 0 = nmI x.2.1 then 0 else -1)], LW x.2.2 κ2 x.2.2 ρ2 (oP x out))) rfl (by rw [ho]; omega) ?_
    refine hR.br (by omega) (C := (if nmI x.2.1 < (oP x out) 0 then (1 : Int) else if (oP x out) 0 = nmI x.2.1 then 0 else -1) = 0) rfl (by (repeat' split) <;> omega) (fun _ => ?_) (fun h => absurd (lc0.mpr ho) h)
    refine hR.run0 (by omega) 1 (S' := (2248, [some (vR 98), some (vR 0), some (vR 100), some (vR 120), some (vI i), some (vI x.1), some (vI (nmI x.2.1))], [], LW x.2.2 κ2 x.2.2 ρ2 (oP x out))) rfl ?_
    refine hR.2.2.2.2.2.2 _ 5 _ _ _ _ ?_
    refine hR.2.2.2.2.2.2 _ 6 _ _ _ _ ?_
    exact kont _ _ _ _ _ (Nat.le_refl _) hJ2
