theorem kS_206 : sLinkW RL 206 mL_due hhL_due 3 := ⟨gT_at 802 (by decide +kernel) (by decide +kernel), gT_at 803 (by decide +kernel) (by decide +kernel), gT_at 0 (by decide +kernel) (by decide +kernel), gT_at 804 (by decide +kernel) (by decide +kernel), ⟨by decide +kernel, by decide +kernel, by decide +kernel⟩⟩
theorem kL_208 : vLink RL 208 mX6_due 1 := ⟨gT_at 1273 (by decide +kernel) (by decide +kernel), wX6_due⟩
set_option maxHeartbeats 4000000 in
theorem cs_due {xs : Int → Int} {N : Nat} {G : Nat → PS → Prop} (hRs : ∀ tb : PT, (∀ q ∈ tb, decode code q.1 = .ok (q.2.1, q.2.2)) → Rl lkL ((98, N, xs) :: roC) tb 100 G) (hx : N ≤ 2048 ∧ ∀ j, -2147483648 ≤ xs j ∧ xs j ≤ 2147483647) {τ κ ρ : St} {out : Int → Int} (hJ : Jv τ κ) {k : Nat} (hk : k < 600) {i : Int} (hi : 0 ≤ i ∧ i + 4 ≤ N) (kont : ∀ (τ κ ρ : St) (out : Int → Int) (j : Nat), j ≤ k + 1 → Jv τ κ → G j (2248, Lh_ i, [], LW τ κ τ ρ out)) : G k (1586, Lh_ i, [], LW τ κ τ ρ out) := by
  have hR := hRs bc_due tc_due
  have hN := hx.1
  have hxr := hx.2
  have hr1 := hxr (i + 1)
  have hro : ∀ q ∈ roC, q ∈ ((98, N, xs) :: roC : PRO) := fun q hq => List.mem_cons_of_mem _ hq
  have hw := wL_due τ κ τ ρ out hro hr1 hJ.1
  have hm := fun (σ κ2 : St) (out2 : Int → Int) => frM (σ := σ) (κ := κ2) (out := out2) hro (pX6_due τ ρ hr1 hJ.1)
  have hcd := cd_xDue τ (xs (i + 1))
  have hth : (sS ρ 0 (xDue τ (xs (i + 1))).1).1 0 = (xDue τ (xs (i + 1))).1 := sS_at0 _ _
  have hJ2 := J_due hJ (xs (i + 1))
  generalize (sS ρ 0 (xDue τ (xs (i + 1))).1) = ρ2 at hm hth
  generalize xDue τ (xs (i + 1)) = x at hw hm hcd hth hJ2
  refine hR.run0 (by omega) 5 (S' := (1592, [some (vR 98), some (vR 0), some (vR 100), some (vR 120), some (vI i), none, none], [vI (i + 1), vR 98, vR 0], LW τ κ τ ρ out)) rfl ?_
  refine hR.rd (by omega) hx.1 rfl rfl (by omega) ?_
  refine hR.run0 (by omega) 1 (S' := (1594, [some (vR 98), some (vR 0), some (vR 100), some (vR 120), some (vI i), none, none], [vR 120, vI (xs (i + 1)), vR 0], LW τ κ τ ρ out)) rfl ?_
  refine hR.cw hk [vR 0, vI (xs (i + 1)), vR 120] kS_206 rfl rfl (by decide) (Nat.le_of_ble_eq_true rfl) (by decide) rfl hw ?_
  refine hR.run0 (by omega) 6 (S' := (1605, [some (vR 98), some (vR 0), some (vR 100), some (vR 120), some (vI i), some (vI x.1), none], [vI (i + 1), vR 98, vR 100], LW x.2.2 κ τ ρ (oP x out))) rfl ?_
  refine hR.rd (by omega) hx.1 rfl rfl (by omega) ?_
  refine hR.cv (by omega) [vI (xs (i + 1))] kL_208 rfl rfl ⟨_, _, _, rfl, rfl, rfl⟩ (by decide) (Nat.le_of_ble_eq_true rfl) (by decide) rfl (hm _ _ _) ?_
  show G (k + 1) (1609, [some (vR 98), some (vR 0), some (vR 100), some (vR 120), some (vI i), some (vI x.1), none], [vI x.2.1], LW x.2.2 κ x.2.2 ρ2 (oP x out))
  refine hR.2.2.2.2.2.1 _ _ _ _ _ _ ?_
  refine hR.run0 (by omega) 2 (S' := (1612, [some (vR 98), some (vR 0), some (vR 100), some (vR 120), some (vI i), some (vI x.1), some (vI (nmI x.2.1))], [vR 100], LW x.2.2 κ x.2.2 ρ2 (oP x out))) rfl ?_
  refine hR.cv (by omega) [] kL_127 rfl rfl ⟨_, _, _, rfl, rfl, rfl⟩ (by decide) (Nat.le_of_ble_eq_true rfl) (by decide) rfl (frM hro (sr_thrown _ _)) ?_
  show G (k + 1) (1615, [some (vR 98), some (vR 0), some (vR 100), some (vR 120), some (vI i), some (vI x.1), some (vI (nmI x.2.1))], [vI (ρ2.1 0)], LW x.2.2 κ x.2.2 ρ2 (oP x out))
  rw [hth]
  refine hR.run0 (by omega) 1 (S' := (1617, [some (vR 98), some (vR 0), some (vR 100), some (vR 120), some (vI i), some (vI x.1), some (vI (nmI x.2.1))], [vI x.1, vI x.1], LW x.2.2 κ x.2.2 ρ2 (oP x out))) rfl ?_
  refine hR.br (by omega) (C := x.1 = x.1) rfl (by omega) (fun _ => ?_) (fun h => absurd rfl h)
  refine hR.run0 (by omega) 1 (S' := (1624, [some (vR 98), some (vR 0), some (vR 100), some (vR 120), some (vI i), some (vI x.1), some (vI (nmI x.2.1))], [vI x.1], LW x.2.2 κ x.2.2 ρ2 (oP x out))) rfl ?_
  refine hR.br (by omega) (C := x.1 ≠ 0) rfl (by omega) (fun _ => ?_) (fun h => ?_)
  · skip
    refine hR.run0 (by omega) 1 (S' := (2248, [some (vR 98), some (vR 0), some (vR 100), some (vR 120), some (vI i), some (vI x.1), some (vI (nmI x.2.1))], [], LW x.2.2 κ x.2.2 ρ2 (oP x out))) rfl ?_
    refine hR.2.2.2.2.2.2 _ 5 _ _ _ _ ?_
    refine hR.2.2.2.2.2.2 _ 6 _ _ _ _ ?_
    exact kont _ _ _ _ _ (Nat.le_refl _) hJ2
  · have h0 : x.1 = 0 := by omega
    have ho := oP_0 (out := out) h0
    have hnr := nmI_r x.2.1
    refine hR.run1 (by omega) 6 (S' := (1634, [some (vR 98), some (vR 0), some (vR 100), some (vR 120), some (vI i), some (vI x.1), some (vI (nmI x.2.1))], [vI (if nmI x.2.1 < (oP x out) 0 then 1 else if (oP x out) 0 = nmI x.2.1 then 0 else -1)], LW x.2.2 κ x.2.2 ρ2 (oP x out))) rfl (by rw [ho]; omega) ?_
    refine hR.br (by omega) (C := (if nmI x.2.1 < (oP x out) 0 then (1 : Int) else if (oP x out) 0 = nmI x.2.1 then 0 else -1) = 0) rfl (by (repeat' split) <;> omega) (fun _ => ?_) (fun h => absurd (lc0.mpr ho) h)
    refine hR.run0 (by omega) 1 (S' := (2248, [some (vR 98), some (vR 0), some (vR 100), some (vR 120), some (vI i), some (vI x.1), some (vI (nmI x.2.1))], [], LW x.2.2 κ x.2.2 ρ2 (oP x out))) rfl ?_
    refine hR.2.2.2.2.2.2 _ 5 _ _ _ _ ?_
    refine hR.2.2.2.2.2.2 _ 6 _ _ _ _ ?_
    exact kont _ _ _ _ _ (Nat.le_refl _) hJ2
theorem kS_209 : sLinkW RL 209 mL_points hhL_points 3 := ⟨gT_at 809 (by decide +kernel) (by decide +kernel), gT_at 810 (by decide +kernel) (by decide +kernel), gT_at 0 (by decide +kernel) (by decide +kernel), gT_at 811 (by decide +kernel) (by decide +kernel), ⟨by decide +kernel, by decide +kernel, by decide +kernel⟩⟩
theorem kL_211 : vLink RL 211 mX6_points 1 := ⟨gT_at 1277 (by decide +kernel) (by decide +kernel), wX6_points⟩
set_option maxHeartbeats 4000000 in
theorem cs_points {xs : Int → Int} {N : Nat} {G : Nat → PS → Prop} (hRs : ∀ tb : PT, (∀ q ∈ tb, decode code q.1 = .ok (q.2.1, q.2.2)) → Rl lkL ((98, N, xs) :: roC) tb 100 G) (hx : N ≤ 2048 ∧ ∀ j, -2147483648 ≤ xs j ∧ xs j ≤ 2147483647) {τ κ ρ : St} {out : Int → Int} (hJ : Jv τ κ) {k : Nat} (hk : k < 600) {i : Int} (hi : 0 ≤ i ∧ i + 4 ≤ N) (kont : ∀ (τ κ ρ : St) (out : Int → Int) (j : Nat), j ≤ k + 1 → Jv τ κ → G j (2248, Lh_ i, [], LW τ κ τ ρ out)) : G k (1642, Lh_ i, [], LW τ κ τ ρ out) := by
  have hR := hRs bc_points tc_points
  have hN := hx.1
  have hxr := hx.2
  have hr1 := hxr (i + 1)
  have hro : ∀ q ∈ roC, q ∈ ((98, N, xs) :: roC : PRO) := fun q hq => List.mem_cons_of_mem _ hq
  have hw := wL_points τ κ τ ρ out hro hr1 hJ.1
  have hm := fun (σ κ2 : St) (out2 : Int → Int) => frM (σ := σ) (κ := κ2) (out := out2) hro (pX6_points τ ρ hr1 hJ.1)
  have hcd := cd_xPoints τ (xs (i + 1))
  have hth : (sS ρ 0 (xPoints τ (xs (i + 1))).1).1 0 = (xPoints τ (xs (i + 1))).1 := sS_at0 _ _
  have hJ2 := J_points hJ (xs (i + 1))
  generalize (sS ρ 0 (xPoints τ (xs (i + 1))).1) = ρ2 at hm hth
  generalize xPoints τ (xs (i + 1)) = x at hw hm hcd hth hJ2
  refine hR.run0 (by omega) 5 (S' := (1648, [some (vR 98), some (vR 0), some (vR 100), some (vR 120), some (vI i), none, none], [vI (i + 1), vR 98, vR 0], LW τ κ τ ρ out)) rfl ?_
  refine hR.rd (by omega) hx.1 rfl rfl (by omega) ?_
  refine hR.run0 (by omega) 1 (S' := (1650, [some (vR 98), some (vR 0), some (vR 100), some (vR 120), some (vI i), none, none], [vR 120, vI (xs (i + 1)), vR 0], LW τ κ τ ρ out)) rfl ?_
  refine hR.cw hk [vR 0, vI (xs (i + 1)), vR 120] kS_209 rfl rfl (by decide) (Nat.le_of_ble_eq_true rfl) (by decide) rfl hw ?_
  refine hR.run0 (by omega) 6 (S' := (1661, [some (vR 98), some (vR 0), some (vR 100), some (vR 120), some (vI i), some (vI x.1), none], [vI (i + 1), vR 98, vR 100], LW x.2.2 κ τ ρ (oP x out))) rfl ?_
  refine hR.rd (by omega) hx.1 rfl rfl (by omega) ?_
  refine hR.cv (by omega) [vI (xs (i + 1))] kL_211 rfl rfl ⟨_, _, _, rfl, rfl, rfl⟩ (by decide) (Nat.le_of_ble_eq_true rfl) (by decide) rfl (hm _ _ _) ?_
  show G (k + 1) (1665, [some (vR 98), some (vR 0), some (vR 100), some (vR 120), some (vI i), some (vI x.1), none], [vI x.2.1], LW x.2.2 κ x.2.2 ρ2 (oP x out))
  refine hR.2.2.2.2.2.1 _ _ _ _ _ _ ?_
  refine hR.run0 (by omega) 2 (S' := (1668, [some (vR 98), some (vR 0), some (vR 100), some (vR 120), some (vI i), some (vI x.1), some (vI (nmI x.2.1))], [vR 100], LW x.2.2 κ x.2.2 ρ2 (oP x out))) rfl ?_
  refine hR.cv (by omega) [] kL_127 rfl rfl ⟨_, _, _, rfl, rfl, rfl⟩ (by decide) (Nat.le_of_ble_eq_true rfl) (by decide) rfl (frM hro (sr_thrown _ _)) ?_
  show G (k + 1) (1671, [some (vR 98), some (vR 0), some (vR 100), some (vR 120), some (vI i), some (vI x.1), some (vI (nmI x.2.1))], [vI (ρ2.1 0)], LW x.2.2 κ x.2.2 ρ2 (oP x out))
  rw [hth]
  refine hR.run0 (by omega) 1 (S' := (1673, [some (vR 98), some (vR 0), some (vR 100), some (vR 120), some (vI i), some (vI x.1), some (vI (nmI x.2.1))], [vI x.1, vI x.1], LW x.2.2 κ x.2.2 ρ2 (oP x out))) rfl ?_
  refine hR.br (by omega) (C := x.1 = x.1) rfl (by omega) (fun _ => ?_) (fun h => absurd rfl h)
  refine hR.run0 (by omega) 1 (S' := (1680, [some (vR 98), some (vR 0), some (vR 100), some (vR 120), some (vI i), some (vI x.1), some (vI (nmI x.2.1))], [vI x.1], LW x.2.2 κ x.2.2 ρ2 (oP x out))) rfl ?_
  refine hR.br (by omega) (C := x.1 ≠ 0) rfl (by omega) (fun _ => ?_) (fun h => ?_)
  · skip
    refine hR.run0 (by omega) 1 (S' := (2248, [some (vR 98), some (vR 0), some (vR 100), some (vR 120), some (vI i), some (vI x.1), some (vI (nmI x.2.1))], [], LW x.2.2 κ x.2.2 ρ2 (oP x out))) rfl ?_
    refine hR.2.2.2.2.2.2 _ 5 _ _ _ _ ?_
    refine hR.2.2.2.2.2.2 _ 6 _ _ _ _ ?_
    exact kont _ _ _ _ _ (Nat.le_refl _) hJ2
  · have h0 : x.1 = 0 := by omega
    have ho := oP_0 (out := out) h0
    have hnr := nmI_r x.2.1
    refine hR.run1 (by omega) 6 (S' := (1690, [some (vR 98), some (vR 0), some (vR 100), some (vR 120), some (vI i), some (vI x.1), some (vI (nmI x.2.1))], [vI (if nmI x.2.1 < (oP x out) 0 then 1 else if (oP x out) 0 = nmI x.2.1 then 0 else -1)], LW x.2.2 κ x.2.2 ρ2 (oP x out))) rfl (by rw [ho]; omega) ?_
    refine hR.br (by omega) (C := (if nmI x.2.1 < (oP x out) 0 then (1 : Int) else if (oP x out) 0 = nmI x.2.1 then 0 else -1) = 0) rfl (by (repeat' split) <;> omega) (fun _ => ?_) (fun h => absurd (lc0.mpr ho) h)
    refine hR.run0 (by omega) 1 (S' := (2248, [some (vR 98), some (vR 0), some (vR 100), some (vR 120), some (vI i), some (vI x.1), some (vI (nmI x.2.1))], [], LW x.2.2 κ x.2.2 ρ2 (oP x out))) rfl ?_
    refine hR.2.2.2.2.2.2 _ 5 _ _ _ _ ?_
    refine hR.2.2.2.2.2.2 _ 6 _ _ _ _ ?_
    exact kont _ _ _ _ _ (Nat.le_refl _) hJ2
theorem kS_212 : sLinkW RL 212 mL_trail hhL_trail 3 := ⟨gT_at 816 (by decide +kernel) (by decide +kernel), gT_at 817 (by decide +kernel) (by decide +kernel), gT_at 0 (by decide +kernel) (by decide +kernel), gT_at 818 (by decide +kernel) (by decide +kernel), ⟨by decide +kernel, by decide +kernel, by decide +kernel⟩⟩
theorem kL_214 : vLink RL 214 mX6_trail 1 := ⟨gT_at 1281 (by decide +kernel) (by decide +kernel), wX6_trail⟩
set_option maxHeartbeats 4000000 in
theorem cs_trail {xs : Int → Int} {N : Nat} {G : Nat → PS → Prop} (hRs : ∀ tb : PT, (∀ q ∈ tb, decode code q.1 = .ok (q.2.1, q.2.2)) → Rl lkL ((98, N, xs) :: roC) tb 100 G) (hx : N ≤ 2048 ∧ ∀ j, -2147483648 ≤ xs j ∧ xs j ≤ 2147483647) {τ κ ρ : St} {out : Int → Int} (hJ : Jv τ κ) {k : Nat} (hk : k < 600) {i : Int} (hi : 0 ≤ i ∧ i + 4 ≤ N) (kont : ∀ (τ κ ρ : St) (out : Int → Int) (j : Nat), j ≤ k + 1 → Jv τ κ → G j (2248, Lh_ i, [], LW τ κ τ ρ out)) : G k (1698, Lh_ i, [], LW τ κ τ ρ out) := by
  have hR := hRs bc_trail tc_trail
  have hN := hx.1
  have hxr := hx.2
  have hr1 := hxr (i + 1)
  have hro : ∀ q ∈ roC, q ∈ ((98, N, xs) :: roC : PRO) := fun q hq => List.mem_cons_of_mem _ hq
  have hw := wL_trail τ κ τ ρ out hro hr1 hJ.2.2.1 hJ.2.2.2.1 hJ.1
  have hm := fun (σ κ2 : St) (out2 : Int → Int) => frM (σ := σ) (κ := κ2) (out := out2) hro (pX6_trail τ ρ hr1 hJ.1)
  have hcd := cd_xTrail τ (xs (i + 1))
  have hth : (rTrail τ ρ (xs (i + 1))).1 0 = (xTrail τ (xs (i + 1))).1 := r1_rTrail τ ρ (xs (i + 1))
  have hJ2 := J_trail hJ (xs (i + 1))
  generalize (rTrail τ ρ (xs (i + 1))) = ρ2 at hm hth
  generalize xTrail τ (xs (i + 1)) = x at hw hm hcd hth hJ2
  generalize (kTrail κ τ (xs (i + 1))) = κ2 at hw hJ2
  refine hR.run0 (by omega) 5 (S' := (1704, [some (vR 98), some (vR 0), some (vR 100), some (vR 120), some (vI i), none, none], [vI (i + 1), vR 98, vR 0], LW τ κ τ ρ out)) rfl ?_
  refine hR.rd (by omega) hx.1 rfl rfl (by omega) ?_
  refine hR.run0 (by omega) 1 (S' := (1706, [some (vR 98), some (vR 0), some (vR 100), some (vR 120), some (vI i), none, none], [vR 120, vI (xs (i + 1)), vR 0], LW τ κ τ ρ out)) rfl ?_
  refine hR.cw hk [vR 0, vI (xs (i + 1)), vR 120] kS_212 rfl rfl (by decide) (Nat.le_of_ble_eq_true rfl) (by decide) rfl hw ?_
  refine hR.run0 (by omega) 6 (S' := (1717, [some (vR 98), some (vR 0), some (vR 100), some (vR 120), some (vI i), some (vI x.1), none], [vI (i + 1), vR 98, vR 100], LW x.2.2 κ2 τ ρ (oP x out))) rfl ?_
  refine hR.rd (by omega) hx.1 rfl rfl (by omega) ?_
  refine hR.cv (by omega) [vI (xs (i + 1))] kL_214 rfl rfl ⟨_, _, _, rfl, rfl, rfl⟩ (by decide) (Nat.le_of_ble_eq_true rfl) (by decide) rfl (hm _ _ _) ?_
  show G (k + 1) (1721, [some (vR 98), some (vR 0), some (vR 100), some (vR 120), some (vI i), some (vI x.1), none], [vI x.2.1], LW x.2.2 κ2 x.2.2 ρ2 (oP x out))
  refine hR.2.2.2.2.2.1 _ _ _ _ _ _ ?_
  refine hR.run0 (by omega) 2 (S' := (1724, [some (vR 98), some (vR 0), some (vR 100), some (vR 120), some (vI i), some (vI x.1), some (vI (nmI x.2.1))], [vR 100], LW x.2.2 κ2 x.2.2 ρ2 (oP x out))) rfl ?_
  refine hR.cv (by omega) [] kL_127 rfl rfl ⟨_, _, _, rfl, rfl, rfl⟩ (by decide) (Nat.le_of_ble_eq_true rfl) (by decide) rfl (frM hro (sr_thrown _ _)) ?_
  show G (k + 1) (1727, [some (vR 98), some (vR 0), some (vR 100), some (vR 120), some (vI i), some (vI x.1), some (vI (nmI x.2.1))], [vI (ρ2.1 0)], LW x.2.2 κ2 x.2.2 ρ2 (oP x out))
  rw [hth]
  refine hR.run0 (by omega) 1 (S' := (1729, [some (vR 98), some (vR 0), some (vR 100), some (vR 120), some (vI i), some (vI x.1), some (vI (nmI x.2.1))], [vI x.1, vI x.1], LW x.2.2 κ2 x.2.2 ρ2 (oP x out))) rfl ?_
  refine hR.br (by omega) (C := x.1 = x.1) rfl (by omega) (fun _ => ?_) (fun h => absurd rfl h)
  refine hR.run0 (by omega) 1 (S' := (1736, [some (vR 98), some (vR 0), some (vR 100), some (vR 120), some (vI i), some (vI x.1), some (vI (nmI x.2.1))], [vI x.1], LW x.2.2 κ2 x.2.2 ρ2 (oP x out))) rfl ?_
  refine hR.br (by omega) (C := x.1 ≠ 0) rfl (by omega) (fun _ => ?_) (fun h => ?_)
  · skip
    refine hR.run0 (by omega) 1 (S' := (2248, [some (vR 98), some (vR 0), some (vR 100), some (vR 120), some (vI i), some (vI x.1), some (vI (nmI x.2.1))], [], LW x.2.2 κ2 x.2.2 ρ2 (oP x out))) rfl ?_
    refine hR.2.2.2.2.2.2 _ 5 _ _ _ _ ?_
    refine hR.2.2.2.2.2.2 _ 6 _ _ _ _ ?_
    exact kont _ _ _ _ _ (Nat.le_refl _) hJ2
  · have h0 : x.1 = 0 := by omega
    have ho := oP_0 (out := out) h0
    have hnr := nmI_r x.2.1
    refine hR.run1 (by omega) 6 (S' := (1746, [some (vR 98), some (vR 0), some (vR 100), some (vR 120), some (vI i), some (vI x.1), some (vI (nmI x.2.1))], [vI (if nmI x.2.1 < (oP x out) 0 then 1 else if (oP x out) 0 = nmI x.2.1 then 0 else -1)], LW x.2.2 κ2 x.2.2 ρ2 (oP x out))) rfl (by rw [ho]; omega) ?_
    refine hR.br (by omega) (C := (if nmI x.2.1 < (oP x out) 0 then (1 : Int) else if (oP x out) 0 = nmI x.2.1 then 0 else -1) = 0) rfl (by (repeat' split) <;> omega) (fun _ => ?_) (fun h => absurd (lc0.mpr ho) h)
    refine hR.run0 (by omega) 1 (S' := (2248, [some (vR 98), some (vR 0), some (vR 100), some (vR 120), some (vI i), some (vI x.1), some (vI (nmI x.2.1))], [], LW x.2.2 κ2 x.2.2 ρ2 (oP x out))) rfl ?_
    refine hR.2.2.2.2.2.2 _ 5 _ _ _ _ ?_
    refine hR.2.2.2.2.2.2 _ 6 _ _ _ _ ?_
    exact kont _ _ _ _ _ (Nat.le_refl _) hJ2
theorem kS_215 : sLinkW RL 215 mL_trailBySets hhL_trailBySets 3 := ⟨gT_at 823 (by decide +kernel) (by decide +kernel), gT_at 824 (by decide +kernel) (by decide +kernel), gT_at 0 (by decide +kernel) (by decide +kernel), gT_at 825 (by decide +kernel) (by decide +kernel), ⟨by decide +kernel, by decide +kernel, by decide +kernel⟩⟩
theorem kL_217 : vLink RL 217 mX6_trailBySets 1 := ⟨gT_at 1285 (by decide +kernel) (by decide +kernel), wX6_trailBySets⟩
set_option maxHeartbeats 4000000 in
theorem cs_trailBySets {xs : Int → Int} {N : Nat} {G : Nat → PS → Prop} (hRs : ∀ tb : PT, (∀ q ∈ tb, decode code q.1 = .ok (q.2.1, q.2.2)) → Rl lkL ((98, N, xs) :: roC) tb 100 G) (hx : N ≤ 2048 ∧ ∀ j, -2147483648 ≤ xs j ∧ xs j ≤ 2147483647) {τ κ ρ : St} {out : Int → Int} (hJ : Jv τ κ) {k : Nat} (hk : k < 600) {i : Int} (hi : 0 ≤ i ∧ i + 4 ≤ N) (kont : ∀ (τ κ ρ : St) (out : Int → Int) (j : Nat), j ≤ k + 1 → Jv τ κ → G j (2248, Lh_ i, [], LW τ κ τ ρ out)) : G k (1754, Lh_ i, [], LW τ κ τ ρ out) := by
  have hR := hRs bc_trailBySets tc_trailBySets
  have hN := hx.1
  have hxr := hx.2
  have hr1 := hxr (i + 1)
  have hro : ∀ q ∈ roC, q ∈ ((98, N, xs) :: roC : PRO) := fun q hq => List.mem_cons_of_mem _ hq
  have hw := wL_trailBySets τ κ τ ρ out hro hr1 hJ.2.2.1 hJ.2.2.2.1 hJ.1
  have hm := fun (σ κ2 : St) (out2 : Int → Int) => frM (σ := σ) (κ := κ2) (out := out2) hro (pX6_trailBySets τ ρ hr1 hJ.1)
  have hcd := cd_xTrail τ (xs (i + 1))
  have hth : (rTrail τ ρ (xs (i + 1))).1 0 = (xTrail τ (xs (i + 1))).1 := r1_rTrail τ ρ (xs (i + 1))
  have hJ2 := J_trailBySets hJ (xs (i + 1))
  generalize (rTrail τ ρ (xs (i + 1))) = ρ2 at hm hth
  generalize xTrail τ (xs (i + 1)) = x at hw hm hcd hth hJ2
  generalize (kTrail κ τ (xs (i + 1))) = κ2 at hw hJ2
  refine hR.run0 (by omega) 5 (S' := (1760, [some (vR 98), some (vR 0), some (vR 100), some (vR 120), some (vI i), none, none], [vI (i + 1), vR 98, vR 0], LW τ κ τ ρ out)) rfl ?_
  refine hR.rd (by omega) hx.1 rfl rfl (by omega) ?_
  refine hR.run0 (by omega) 1 (S' := (1762, [some (vR 98), some (vR 0), some (vR 100), some (vR 120), some (vI i), none, none], [vR 120, vI (xs (i + 1)), vR 0], LW τ κ τ ρ out)) rfl ?_
  refine hR.cw hk [vR 0, vI (xs (i + 1)), vR 120] kS_215 rfl rfl (by decide) (Nat.le_of_ble_eq_true rfl) (by decide) rfl hw ?_
  refine hR.run0 (by omega) 6 (S' := (1773, [some (vR 98), some (vR 0), some (vR 100), some (vR 120), some (vI i), some (vI x.1), none], [vI (i + 1), vR 98, vR 100], LW x.2.2 κ2 τ ρ (oP x out))) rfl ?_
  refine hR.rd (by omega) hx.1 rfl rfl (by omega) ?_
  refine hR.cv (by omega) [vI (xs (i + 1))] kL_217 rfl rfl ⟨_, _, _, rfl, rfl, rfl⟩ (by decide) (Nat.le_of_ble_eq_true rfl) (by decide) rfl (hm _ _ _) ?_
  show G (k + 1) (1777, [some (vR 98), some (vR 0), some (vR 100), some (vR 120), some (vI i), some (vI x.1), none], [vI x.2.1], LW x.2.2 κ2 x.2.2 ρ2 (oP x out))
  refine hR.2.2.2.2.2.1 _ _ _ _ _ _ ?_
  refine hR.run0 (by omega) 2 (S' := (1780, [some (vR 98), some (vR 0), some (vR 100), some (vR 120), some (vI i), some (vI x.1), some (vI (nmI x.2.1))], [vR 100], LW x.2.2 κ2 x.2.2 ρ2 (oP x out))) rfl ?_
  refine hR.cv (by omega) [] kL_127 rfl rfl ⟨_, _, _, rfl, rfl, rfl⟩ (by decide) (Nat.le_of_ble_eq_true rfl) (by decide) rfl (frM hro (sr_thrown _ _)) ?_
  show G (k + 1) (1783, [some (vR 98), some (vR 0), some (vR 100), some (vR 120), some (vI i), some (vI x.1), some (vI (nmI x.2.1))], [vI (ρ2.1 0)], LW x.2.2 κ2 x.2.2 ρ2 (oP x out))
  rw [hth]
  refine hR.run0 (by omega) 1 (S' := (1785, [some (vR 98), some (vR 0), some (vR 100), some (vR 120), some (vI i), some (vI x.1), some (vI (nmI x.2.1))], [vI x.1, vI x.1], LW x.2.2 κ2 x.2.2 ρ2 (oP x out))) rfl ?_
  refine hR.br (by omega) (C := x.1 = x.1) rfl (by omega) (fun _ => ?_) (fun h => absurd rfl h)
  refine hR.run0 (by omega) 1 (S' := (1792, [some (vR 98), some (vR 0), some (vR 100), some (vR 120), some (vI i), some (vI x.1), some (vI (nmI x.2.1))], [vI x.1], LW x.2.2 κ2 x.2.2 ρ2 (oP x out))) rfl ?_
  refine hR.br (by omega) (C := x.1 ≠ 0) rfl (by omega) (fun _ => ?_) (fun h => ?_)
  · skip
    refine hR.run0 (by omega) 1 (S' := (2248, [some (vR 98), some (vR 0), some (vR 100), some (vR 120), some (vI i), some (vI x.1), some (vI (nmI x.2.1))], [], LW x.2.2 κ2 x.2.2 ρ2 (oP x out))) rfl ?_
    refine hR.2.2.2.2.2.2 _ 5 _ _ _ _ ?_
    refine hR.2.2.2.2.2.2 _ 6 _ _ _ _ ?_
    exact kont _ _ _ _ _ (Nat.le_refl _) hJ2
  · have h0 : x.1 = 0 := by omega
    have ho := oP_0 (out := out) h0
    have hnr := nmI_r x.2.1
    refine hR.run1 (by omega) 6 (S' := (1802, [some (vR 98), some (vR 0), some (vR 100), some (vR 120), some (vI i), some (vI x.1), some (vI (nmI x.2.1))], [vI (if nmI x.2.1 < (oP x out) 0 then 1 else if (oP x out) 0 = nmI x.2.1 then 0 else -1)], LW x.2.2 κ2 x.2.2 ρ2 (oP x out))) rfl (by rw [ho]; omega) ?_
    refine hR.br (by omega) (C := (if nmI x.2.1 < (oP x out) 0 then (1 : Int) else if (oP x out) 0 = nmI x.2.1 then 0 else -1) = 0) rfl (by (repeat' split) <;> omega) (fun _ => ?_) (fun h => absurd (lc0.mpr ho) h)
    refine hR.run0 (by omega) 1 (S' := (2248, [some (vR 98), some (vR 0), some (vR 100), some (vR 120), some (vI i), some (vI x.1), some (vI (nmI x.2.1))], [], LW x.2.2 κ2 x.2.2 ρ2 (oP x out))) rfl ?_
    refine hR.2.2.2.2.2.2 _ 5 _ _ _ _ ?_
    refine hR.2.2.2.2.2.2 _ 6 _ _ _ _ ?_
    exact kont _ _ _ _ _ (Nat.le_refl _) hJ2
theorem kL_218 : vLink RL 218 mX5_holder 1 := ⟨gT_at 169 (by decide +kernel) (by decide +kernel), wX5_holder⟩
theorem kL_222 : vLink RL 222 mX6_holder 1 := ⟨gT_at 1289 (by decide +kernel) (by decide +kernel), wX6_holder⟩
theorem cs_holder {xs : Int → Int} {N : Nat} {G : Nat → PS → Prop} (hRs : ∀ tb : PT, (∀ q ∈ tb, decode code q.1 = .ok (q.2.1, q.2.2)) → Rl lkL ((98, N, xs) :: roC) tb 100 G) (hx : N ≤ 2048 ∧ ∀ j, -2147483648 ≤ xs j ∧ xs j ≤ 2147483647) {τ κ ρ : St} {out : Int → Int} (hJ : Jv τ κ) {k : Nat} (hk : k < 600) {i : Int} (hi : 0 ≤ i ∧ i + 4 ≤ N) (kont : ∀ (τ κ ρ : St) (out : Int → Int) (j : Nat), j ≤ k + 1 → Jv τ κ → G j (2248, Lh_ i, [], LW τ κ τ ρ out)) : G k (1810, Lh_ i, [], LW τ κ τ ρ out) := by
  have hR := hRs bc_holder tc_holder
  have hN := hx.1
  have hxr := hx.2
  have hr1 := hxr (i + 1)
  have hro : ∀ q ∈ roC, q ∈ ((98, N, xs) :: roC : PRO) := fun q hq => List.mem_cons_of_mem _ hq
  have hrg := hJ.1.hth
  have hrg2 := hJ.1.har
  have h1 : ∀ b : Int, b = 0 ∨ b = 1 → Sp mX5_holder ((98, N, xs) :: roC) 1 [vR 0, vI b] (LW τ κ τ ρ out) (.inl (some (vI (if b = 0 then τ.1 4 else τ.1 8)))) (LW τ κ τ ρ out) := fun b hb => frC hro (pX5_holder τ κ hb hJ.1)
  have h2 : ∀ b : Int, b = 0 ∨ b = 1 → Sp mX6_holder ((98, N, xs) :: roC) 0 [vR 100, vI b] (LW τ κ τ ρ out) (.inl (some (vI (if b = 0 then τ.1 4 else τ.1 8)))) (LW τ κ τ (sS ρ 0 0) out) := fun b hb => frM hro (pX6_holder τ ρ hb hJ.1)
  refine hR.run0 (by omega) 5 (S' := (1816, [some (vR 98), some (vR 0), some (vR 100), some (vR 120), some (vI i), none, none], [vI (i + 1), vR 98, vR 0], LW τ κ τ ρ out)) rfl ?_
  refine hR.rd (by omega) hx.1 rfl rfl (by omega) ?_
  refine hR.br (by omega) (C := xs (i + 1) = 0) rfl (by omega) (fun hz => ?_) (fun hz => ?_)
  · refine hR.run0 (by omega) 1 (S' := (1825, [some (vR 98), some (vR 0), some (vR 100), some (vR 120), some (vI i), none, none], [vI 0, vR 0], LW τ κ τ ρ out)) rfl ?_
    refine hR.cv (by omega) [vI 0] kL_218 rfl rfl ⟨_, _, _, rfl, rfl, rfl⟩ (by decide) (Nat.le_of_ble_eq_true rfl) (by decide) rfl (h1 0 (by omega)) ?_
    refine hR.run0 (by omega) 5 (S' := (1834, [some (vR 98), some (vR 0), some (vR 100), some (vR 120), some (vI i), none, none], [vI (i + 1), vR 98, vR 100, vI (τ.1 4)], LW τ κ τ ρ out)) rfl ?_
    refine hR.rd (by omega) hx.1 rfl rfl (by omega) ?_
    refine hR.br (by omega) (C := xs (i + 1) = 0) rfl (by omega) (fun hy => ?_) (fun hy => ?_)
    · refine hR.run0 (by omega) 1 (S' := (1843, [some (vR 98), some (vR 0), some (vR 100), some (vR 120), some (vI i), none, none], [vI 0, vR 100, vI (τ.1 4)], LW τ κ τ ρ out)) rfl ?_
      refine hR.cv (by omega) [vI 0] kL_222 rfl rfl ⟨_, _, _, rfl, rfl, rfl⟩ (by decide) (Nat.le_of_ble_eq_true rfl) (Nat.le_of_ble_eq_true rfl) rfl (h2 0 (by omega)) ?_
      refine hR.br (by omega) (C := τ.1 4 = τ.1 4) rfl (by show (_ ∧ _) ∧ _; omega) (fun _ => ?_) (fun h => absurd rfl h)
      exact kont _ _ _ _ _ (Nat.le_succ _) hJ
    · exfalso; omega
  · refine hR.run0 (by omega) 2 (S' := (1825, [some (vR 98), some (vR 0), some (vR 100), some (vR 120), some (vI i), none, none], [vI 1, vR 0], LW τ κ τ ρ out)) rfl ?_
    refine hR.cv (by omega) [vI 1] kL_218 rfl rfl ⟨_, _, _, rfl, rfl, rfl⟩ (by decide) (Nat.le_of_ble_eq_true rfl) (by decide) rfl (h1 1 (by omega)) ?_
    refine hR.run0 (by omega) 5 (S' := (1834, [some (vR 98), some (vR 0), some (vR 100), some (vR 120), some (vI i), none, none], [vI (i + 1), vR 98, vR 100, vI (τ.1 8)], LW τ κ τ ρ out)) rfl ?_
    refine hR.rd (by omega) hx.1 rfl rfl (by omega) ?_
    refine hR.br (by omega) (C := xs (i + 1) = 0) rfl (by omega) (fun hy => ?_) (fun hy => ?_)
    · exfalso; omega
    · refine hR.run0 (by omega) 2 (S' := (1843, [some (vR 98), some (vR 0), some (vR 100), some (vR 120), some (vI i), none, none], [vI 1, vR 100, vI (τ.1 8)], LW τ κ τ ρ out)) rfl ?_
      refine hR.cv (by omega) [vI 1] kL_222 rfl rfl ⟨_, _, _, rfl, rfl, rfl⟩ (by decide) (Nat.le_of_ble_eq_true rfl) (Nat.le_of_ble_eq_true rfl) rfl (h2 1 (by omega)) ?_
      refine hR.br (by omega) (C := τ.1 8 = τ.1 8) rfl (by show (_ ∧ _) ∧ _; omega) (fun _ => ?_) (fun h => absurd rfl h)
      exact kont _ _ _ _ _ (Nat.le_succ _) hJ
theorem kS_223 : sLinkW RL 223 mL_knights hhL_knights 3 := ⟨gT_at 858 (by decide +kernel) (by decide +kernel), gT_at 859 (by decide +kernel) (by decide +kernel), gT_at 0 (by decide +kernel) (by decide +kernel), gT_at 860 (by decide +kernel) (by decide +kernel), ⟨by decide +kernel, by decide +kernel, by decide +kernel⟩⟩
theorem kL_225 : vLink RL 225 mX6_knights 1 := ⟨gT_at 1293 (by decide +kernel) (by decide +kernel), wX6_knights⟩
set_option maxHeartbeats 4000000 in
theorem cs_knights {xs : Int → Int} {N : Nat} {G : Nat → PS → Prop} (hRs : ∀ tb : PT, (∀ q ∈ tb, decode code q.1 = .ok (q.2.1, q.2.2)) → Rl lkL ((98, N, xs) :: roC) tb 100 G) (hx : N ≤ 2048 ∧ ∀ j, -2147483648 ≤ xs j ∧ xs j ≤ 2147483647) {τ κ ρ : St} {out : Int → Int} (hJ : Jv τ κ) {k : Nat} (hk : k < 600) {i : Int} (hi : 0 ≤ i ∧ i + 4 ≤ N) (kont : ∀ (τ κ ρ : St) (out : Int → Int) (j : Nat), j ≤ k + 1 → Jv τ κ → G j (2248, Lh_ i, [], LW τ κ τ ρ out)) : G k (1851, Lh_ i, [], LW τ κ τ ρ out) := by
  have hR := hRs bc_knights tc_knights
  have hN := hx.1
  have hxr := hx.2
  have hr1 := hxr (i + 1)
  have hro : ∀ q ∈ roC, q ∈ ((98, N, xs) :: roC : PRO) := fun q hq => List.mem_cons_of_mem _ hq
  have hw := wL_knights τ κ τ ρ out hro hr1 hJ.1
  have hm := fun (σ κ2 : St) (out2 : Int → Int) => frM (σ := σ) (κ := κ2) (out := out2) hro (pX6_knights τ ρ hr1 hJ.1)
  have hcd := cd_xKnights τ (xs (i + 1))
  have hth : (sS ρ 0 (xKnights τ (xs (i + 1))).1).1 0 = (xKnights τ (xs (i + 1))).1 := sS_at0 _ _
  have hJ2 := J_knights hJ (xs (i + 1))
  generalize (sS ρ 0 (xKnights τ (xs (i + 1))).1) = ρ2 at hm hth
  generalize xKnights τ (xs (i + 1)) = x at hw hm hcd hth hJ2
  refine hR.run0 (by omega) 5 (S' := (1857, [some (vR 98), some (vR 0), some (vR 100), some (vR 120), some (vI i), none, none], [vI (i + 1), vR 98, vR 0], LW τ κ τ ρ out)) rfl ?_
  refine hR.rd (by omega) hx.1 rfl rfl (by omega) ?_
  refine hR.run0 (by omega) 1 (S' := (1859, [some (vR 98), some (vR 0), some (vR 100), some (vR 120), some (vI i), none, none], [vR 120, vI (xs (i + 1)), vR 0], LW τ κ τ ρ out)) rfl ?_
  refine hR.cw hk [vR 0, vI (xs (i + 1)), vR 120] kS_223 rfl rfl (by decide) (Nat.le_of_ble_eq_true rfl) (by decide) rfl hw ?_
  refine hR.run0 (by omega) 6 (S' := (1870, [some (vR 98), some (vR 0), some (vR 100), some (vR 120), some (vI i), some (vI x.1), none], [vI (i + 1), vR 98, vR 100], LW x.2.2 κ τ ρ (oP x out))) rfl ?_
  refine hR.rd (by omega) hx.1 rfl rfl (by omega) ?_
  refine hR.cv (by omega) [vI (xs (i + 1))] kL_225 rfl rfl ⟨_, _, _, rfl, rfl, rfl⟩ (by decide) (Nat.le_of_ble_eq_true rfl) (by decide) rfl (hm _ _ _) ?_
  show G (k + 1) (1874, [some (vR 98), some (vR 0), some (vR 100), some (vR 120), some (vI i), some (vI x.1), none], [vI x.2.1], LW x.2.2 κ x.2.2 ρ2 (oP x out))
  refine hR.2.2.2.2.2.1 _ _ _ _ _ _ ?_
  refine hR.run0 (by omega) 2 (S' := (1877, [some (vR 98), some (vR 0), some (vR 100), some (vR 120), some (vI i), some (vI x.1), some (vI (nmI x.2.1))], [vR 100], LW x.2.2 κ x.2.2 ρ2 (oP x out))) rfl ?_
  refine hR.cv (by omega) [] kL_127 rfl rfl ⟨_, _, _, rfl, rfl, rfl⟩ (by decide) (Nat.le_of_ble_eq_true rfl) (by decide) rfl (frM hro (sr_thrown _ _)) ?_
  show G (k + 1) (1880, [some (vR 98), some (vR 0), some (vR 100), some (vR 120), some (vI i), some (vI x.1), some (vI (nmI x.2.1))], [vI (ρ2.1 0)], LW x.2.2 κ x.2.2 ρ2 (oP x out))
  rw [hth]
  refine hR.run0 (by omega) 1 (S' := (1882, [some (vR 98), some (vR 0), some (vR 100), some (vR 120), some (vI i), some (vI x.1), some (vI (nmI x.2.1))], [vI x.1, vI x.1], LW x.2.2 κ x.2.2 ρ2 (oP x out))) rfl ?_
  refine hR.br (by omega) (C := x.1 = x.1) rfl (by omega) (fun _ => ?_) (fun h => absurd rfl h)
  refine hR.run0 (by omega) 1 (S' := (1889, [some (vR 98), some (vR 0), some (vR 100), some (vR 120), some (vI i), some (vI x.1), some (vI (nmI x.2.1))], [vI x.1], LW x.2.2 κ x.2.2 ρ2 (oP x out))) rfl ?_
  refine hR.br (by omega) (C := x.1 ≠ 0) rfl (by omega) (fun _ => ?_) (fun h => ?_)
  · skip
    refine hR.run0 (by omega) 1 (S' := (2248, [some (vR 98), some (vR 0), some (vR 100), some (vR 120), some (vI i), some (vI x.1), some (vI (nmI x.2.1))], [], LW x.2.2 κ x.2.2 ρ2 (oP x out))) rfl ?_
    refine hR.2.2.2.2.2.2 _ 5 _ _ _ _ ?_
    refine hR.2.2.2.2.2.2 _ 6 _ _ _ _ ?_
    exact kont _ _ _ _ _ (Nat.le_refl _) hJ2
  · have h0 : x.1 = 0 := by omega
    have ho := oP_0 (out := out) h0
    have hnr := nmI_r x.2.1
    refine hR.run1 (by omega) 6 (S' := (1899, [some (vR 98), some (vR 0), some (vR 100), some (vR 120), some (vI i), some (vI x.1), some (vI (nmI x.2.1))], [vI (if nmI x.2.1 < (oP x out) 0 then 1 else if (oP x out) 0 = nmI x.2.1 then 0 else -1)], LW x.2.2 κ x.2.2 ρ2 (oP x out))) rfl (by rw [ho]; omega) ?_
    refine hR.br (by omega) (C := (if nmI x.2.1 < (oP x out) 0 then (1 : Int) else if (oP x out) 0 = nmI x.2.1 then 0 else -1) = 0) rfl (by (repeat' split) <;> omega) (fun _ => ?_) (fun h => absurd (lc0.mpr ho) h)
    refine hR.run0 (by omega) 1 (S' := (2248, [some (vR 98), some (vR 0), some (vR 100), some (vR 120), some (vI i), some (vI x.1), some (vI (nmI x.2.1))], [], LW x.2.2 κ x.2.2 ρ2 (oP x out))) rfl ?_
    refine hR.2.2.2.2.2.2 _ 5 _ _ _ _ ?_
    refine hR.2.2.2.2.2.2 _ 6 _ _ _ _ ?_
    exact kont _ _ _ _ _ (Nat.le_refl _) hJ2
theorem kS_226 : sLinkW RL 226 mL_cards hhL_cards 4 := ⟨gT_at 866 (by decide +kernel) (by decide +kernel), gT_at 867 (by decide +kernel) (by decide +kernel), gT_at 0 (by decide +kernel) (by decide +kernel), gT_at 868 (by decide +kernel) (by decide +kernel), ⟨by decide +kernel, by decide +kernel, by decide +kernel⟩⟩
theorem kL_228 : vLink RL 228 mX6_cards 2 := ⟨gT_at 1297 (by decide +kernel) (by decide +kernel), wX6_cards⟩
set_option maxHeartbeats 4000000 in
theorem cs_cards {xs : Int → Int} {N : Nat} {G : Nat → PS → Prop} (hRs : ∀ tb : PT, (∀ q ∈ tb, decode code q.1 = .ok (q.2.1, q.2.2)) → Rl lkL ((98, N, xs) :: roC) tb 100 G) (hx : N ≤ 2048 ∧ ∀ j, -2147483648 ≤ xs j ∧ xs j ≤ 2147483647) {τ κ ρ : St} {out : Int → Int} (hJ : Jv τ κ) {k : Nat} (hk : k < 600) {i : Int} (hi : 0 ≤ i ∧ i + 4 ≤ N) (kont : ∀ (τ κ ρ : St) (out : Int → Int) (j : Nat), j ≤ k + 1 → Jv τ κ → G j (2248, Lh_ i, [], LW τ κ τ ρ out)) : G k (1907, Lh_ i, [], LW τ κ τ ρ out) := by
  have hR := hRs bc_cards tc_cards
  have hN := hx.1
  have hxr := hx.2
  have hr1 := hxr (i + 1)
  have hr2 := hxr (i + 2)
  have hro : ∀ q ∈ roC, q ∈ ((98, N, xs) :: roC : PRO) := fun q hq => List.mem_cons_of_mem _ hq
  have hw := wL_cards τ κ τ ρ out hro hr1 hr2 hJ.1
  have hm := fun (σ κ2 : St) (out2 : Int → Int) => frM (σ := σ) (κ := κ2) (out := out2) hro (pX6_cards τ ρ hr1 hr2 hJ.1)
  have hcd := cd_xCards τ (xs (i + 1)) (xs (i + 2))
  have hth : (sS ρ 0 (xCards τ (xs (i + 1)) (xs (i + 2))).1).1 0 = (xCards τ (xs (i + 1)) (xs (i + 2))).1 := sS_at0 _ _
  have hJ2 := J_cards hJ (xs (i + 1)) (xs (i + 2))
  generalize (sS ρ 0 (xCards τ (xs (i + 1)) (xs (i + 2))).1) = ρ2 at hm hth
  generalize xCards τ (xs (i + 1)) (xs (i + 2)) = x at hw hm hcd hth hJ2
  refine hR.run0 (by omega) 5 (S' := (1913, [some (vR 98), some (vR 0), some (vR 100), some (vR 120), some (vI i), none, none], [vI (i + 1), vR 98, vR 0], LW τ κ τ ρ out)) rfl ?_
  refine hR.rd (by omega) hx.1 rfl rfl (by omega) ?_
  refine hR.run0 (by omega) 4 (S' := (1919, [some (vR 98), some (vR 0), some (vR 100), some (vR 120), some (vI i), none, none], [vI (i + 2), vR 98, vI (xs (i + 1)), vR 0], LW τ κ τ ρ out)) rfl ?_
  refine hR.rd (by omega) hx.1 rfl rfl (by omega) ?_
  refine hR.run0 (by omega) 1 (S' := (1921, [some (vR 98), some (vR 0), some (vR 100), some (vR 120), some (vI i), none, none], [vR 120, vI (xs (i + 2)), vI (xs (i + 1)), vR 0], LW τ κ τ ρ out)) rfl ?_
  refine hR.cw hk [vR 0, vI (xs (i + 1)), vI (xs (i + 2)), vR 120] kS_226 rfl rfl (by decide) (Nat.le_of_ble_eq_true rfl) (by decide) rfl hw ?_
  refine hR.run0 (by omega) 6 (S' := (1932, [some (vR 98), some (vR 0), some (vR 100), some (vR 120), some (vI i), some (vI x.1), none], [vI (i + 1), vR 98, vR 100], LW x.2.2 κ τ ρ (oP x out))) rfl ?_
  refine hR.rd (by omega) hx.1 rfl rfl (by omega) ?_
  refine hR.run0 (by omega) 4 (S' := (1938, [some (vR 98), some (vR 0), some (vR 100), some (vR 120), some (vI i), some (vI x.1), none], [vI (i + 2), vR 98, vI (xs (i + 1)), vR 100], LW x.2.2 κ τ ρ (oP x out))) rfl ?_
  refine hR.rd (by omega) hx.1 rfl rfl (by omega) ?_
  refine hR.cv (by omega) [vI (xs (i + 1)), vI (xs (i + 2))] kL_228 rfl rfl ⟨_, _, _, rfl, rfl, rfl⟩ (by decide) (Nat.le_of_ble_eq_true rfl) (by decide) rfl (hm _ _ _) ?_
  show G (k + 1) (1942, [some (vR 98), some (vR 0), some (vR 100), some (vR 120), some (vI i), some (vI x.1), none], [vI x.2.1], LW x.2.2 κ x.2.2 ρ2 (oP x out))
  refine hR.2.2.2.2.2.1 _ _ _ _ _ _ ?_
  refine hR.run0 (by omega) 2 (S' := (1945, [some (vR 98), some (vR 0), some (vR 100), some (vR 120), some (vI i), some (vI x.1), some (vI (nmI x.2.1))], [vR 100], LW x.2.2 κ x.2.2 ρ2 (oP x out))) rfl ?_
  refine hR.cv (by omega) [] kL_127 rfl rfl ⟨_, _, _, rfl, rfl, rfl⟩ (by decide) (Nat.le_of_ble_eq_true rfl) (by decide) rfl (frM hro (sr_thrown _ _)) ?_
  show G (k + 1) (1948, [some (vR 98), some (vR 0), some (vR 100), some (vR 120), some (vI i), some (vI x.1), some (vI (nmI x.2.1))], [vI (ρ2.1 0)], LW x.2.2 κ x.2.2 ρ2 (oP x out))
  rw [hth]
  refine hR.run0 (by omega) 1 (S' := (1950, [some (vR 98), some (vR 0), some (vR 100), some (vR 120), some (vI i), some (vI x.1), some (vI (nmI x.2.1))], [vI x.1, vI x.1], LW x.2.2 κ x.2.2 ρ2 (oP x out))) rfl ?_
  refine hR.br (by omega) (C := x.1 = x.1) rfl (by omega) (fun _ => ?_) (fun h => absurd rfl h)
  refine hR.run0 (by omega) 1 (S' := (1957, [some (vR 98), some (vR 0), some (vR 100), some (vR 120), some (vI i), some (vI x.1), some (vI (nmI x.2.1))], [vI x.1], LW x.2.2 κ x.2.2 ρ2 (oP x out))) rfl ?_
  refine hR.br (by omega) (C := x.1 ≠ 0) rfl (by omega) (fun _ => ?_) (fun h => ?_)
  · skip
    refine hR.run0 (by omega) 1 (S' := (2248, [some (vR 98), some (vR 0), some (vR 100), some (vR 120), some (vI i), some (vI x.1), some (vI (nmI x.2.1))], [], LW x.2.2 κ x.2.2 ρ2 (oP x out))) rfl ?_
    refine hR.2.2.2.2.2.2 _ 5 _ _ _ _ ?_
    refine hR.2.2.2.2.2.2 _ 6 _ _ _ _ ?_
    exact kont _ _ _ _ _ (Nat.le_refl _) hJ2
  · have h0 : x.1 = 0 := by omega
    have ho := oP_0 (out := out) h0
    have hnr := nmI_r x.2.1
    refine hR.run1 (by omega) 6 (S' := (1967, [some (vR 98), some (vR 0), some (vR 100), some (vR 120), some (vI i), some (vI x.1), some (vI (nmI x.2.1))], [vI (if nmI x.2.1 < (oP x out) 0 then 1 else if (oP x out) 0 = nmI x.2.1 then 0 else -1)], LW x.2.2 κ x.2.2 ρ2 (oP x out))) rfl (by rw [ho]; omega) ?_
    refine hR.br (by omega) (C := (if nmI x.2.1 < (oP x out) 0 then (1 : Int) else if (oP x out) 0 = nmI x.2.1 then 0 else -1) = 0) rfl (by (repeat' split) <;> omega) (fun _ => ?_) (fun h => absurd (lc0.mpr ho) h)
    refine hR.run0 (by omega) 1 (S' := (2248, [some (vR 98), some (vR 0), some (vR 100), some (vR 120), some (vI i), some (vI x.1), some (vI (nmI x.2.1))], [], LW x.2.2 κ x.2.2 ρ2 (oP x out))) rfl ?_
    refine hR.2.2.2.2.2.2 _ 5 _ _ _ _ ?_
    refine hR.2.2.2.2.2.2 _ 6 _ _ _ _ ?_
    exact kont _ _ _ _ _ (Nat.le_refl _) hJ2
theorem kS_229 : sLinkW RL 229 mL_buildingAt hhL_buildingAt 3 := ⟨gT_at 874 (by decide +kernel) (by decide +kernel), gT_at 875 (by decide +kernel) (by decide +kernel), gT_at 0 (by decide +kernel) (by decide +kernel), gT_at 876 (by decide +kernel) (by decide +kernel), ⟨by decide +kernel, by decide +kernel, by decide +kernel⟩⟩
theorem kL_231 : vLink RL 231 mX6_buildingAt 1 := ⟨gT_at 1301 (by decide +kernel) (by decide +kernel), wX6_buildingAt⟩
set_option maxHeartbeats 4000000 in
theorem cs_buildingAt {xs : Int → Int} {N : Nat} {G : Nat → PS → Prop} (hRs : ∀ tb : PT, (∀ q ∈ tb, decode code q.1 = .ok (q.2.1, q.2.2)) → Rl lkL ((98, N, xs) :: roC) tb 100 G) (hx : N ≤ 2048 ∧ ∀ j, -2147483648 ≤ xs j ∧ xs j ≤ 2147483647) {τ κ ρ : St} {out : Int → Int} (hJ : Jv τ κ) {k : Nat} (hk : k < 600) {i : Int} (hi : 0 ≤ i ∧ i + 4 ≤ N) (kont : ∀ (τ κ ρ : St) (out : Int → Int) (j : Nat), j ≤ k + 1 → Jv τ κ → G j (2248, Lh_ i, [], LW τ κ τ ρ out)) : G k (1975, Lh_ i, [], LW τ κ τ ρ out) := by
  have hR := hRs bc_buildingAt tc_buildingAt
  have hN := hx.1
  have hxr := hx.2
  have hr1 := hxr (i + 1)
  have hro : ∀ q ∈ roC, q ∈ ((98, N, xs) :: roC : PRO) := fun q hq => List.mem_cons_of_mem _ hq
  have hw := wL_buildingAt τ κ τ ρ out hro hr1 hJ.1
  have hm := fun (σ κ2 : St) (out2 : Int → Int) => frM (σ := σ) (κ := κ2) (out := out2) hro (pX6_buildingAt τ ρ hr1 hJ.1)
  have hcd := cd_xBuilding τ (xs (i + 1))
  have hth : (sS ρ 0 (xBuilding τ (xs (i + 1))).1).1 0 = (xBuilding τ (xs (i + 1))).1 := sS_at0 _ _
  have hJ2 := J_buildingAt hJ (xs (i + 1))
  generalize (sS ρ 0 (xBuilding τ (xs (i + 1))).1) = ρ2 at hm hth
  generalize xBuilding τ (xs (i + 1)) = x at hw hm hcd hth hJ2
  refine hR.run0 (by omega) 5 (S' := (1981, [some (vR 98), some (vR 0), some (vR 100), some (vR 120), some (vI i), none, none], [vI (i + 1), vR 98, vR 0], LW τ κ τ ρ out)) rfl ?_
  refine hR.rd (by omega) hx.1 rfl rfl (by omega) ?_
  refine hR.run0 (by omega) 1 (S' := (1983, [some (vR 98), some (vR 0), some (vR 100), some (vR 120), some (vI i), none, none], [vR 120, vI (xs (i + 1)), vR 0], LW τ κ τ ρ out)) rfl ?_
  refine hR.cw hk [vR 0, vI (xs (i + 1)), vR 120] kS_229 rfl rfl (by decide) (Nat.le_of_ble_eq_true rfl) (by decide) rfl hw ?_
  refine hR.run0 (by omega) 6 (S' := (1994, [some (vR 98), some (vR 0), some (vR 100), some (vR 120), some (vI i), some (vI x.1), none], [vI (i + 1), vR 98, vR 100], LW x.2.2 κ τ ρ (oP x out))) rfl ?_
  refine hR.rd (by omega) hx.1 rfl rfl (by omega) ?_
  refine hR.cv (by omega) [vI (xs (i + 1))] kL_231 rfl rfl ⟨_, _, _, rfl, rfl, rfl⟩ (by decide) (Nat.le_of_ble_eq_true rfl) (by decide) rfl (hm _ _ _) ?_
  show G (k + 1) (1998, [some (vR 98), some (vR 0), some (vR 100), some (vR 120), some (vI i), some (vI x.1), none], [vI x.2.1], LW x.2.2 κ x.2.2 ρ2 (oP x out))
  refine hR.2.2.2.2.2.1 _ _ _ _ _ _ ?_
  refine hR.run0 (by omega) 2 (S' := (2001, [some (vR 98), some (vR 0), some (vR 100), some (vR 120), some (vI i), some (vI x.1), some (vI (nmI x.2.1))], [vR 100], LW x.2.2 κ x.2.2 ρ2 (oP x out))) rfl ?_
  refine hR.cv (by omega) [] kL_127 rfl rfl ⟨_, _, _, rfl, rfl, rfl⟩ (by decide) (Nat.le_of_ble_eq_true rfl) (by decide) rfl (frM hro (sr_thrown _ _)) ?_
  show G (k + 1) (2004, [some (vR 98), some (vR 0), some (vR 100), some (vR 120), some (vI i), some (vI x.1), some (vI (nmI x.2.1))], [vI (ρ2.1 0)], LW x.2.2 κ x.2.2 ρ2 (oP x out))
  rw [hth]
  refine hR.run0 (by omega) 1 (S' := (2006, [some (vR 98), some (vR 0), some (vR 100), some (vR 120), some (vI i), some (vI x.1), some (vI (nmI x.2.1))], [vI x.1, vI x.1], LW x.2.2 κ x.2.2 ρ2 (oP x out))) rfl ?_
  refine hR.br (by omega) (C := x.1 = x.1) rfl (by omega) (fun _ => ?_) (fun h => absurd rfl h)
  refine hR.run0 (by omega) 1 (S' := (2013, [some (vR 98), some (vR 0), some (vR 100), some (vR 120), some (vI i), some (vI x.1), some (vI (nmI x.2.1))], [vI x.1], LW x.2.2 κ x.2.2 ρ2 (oP x out))) rfl ?_
  refine hR.br (by omega) (C := x.1 ≠ 0) rfl (by omega) (fun _ => ?_) (fun h => ?_)
  · skip
    refine hR.run0 (by omega) 1 (S' := (2248, [some (vR 98), some (vR 0), some (vR 100), some (vR 120), some (vI i), some (vI x.1), some (vI (nmI x.2.1))], [], LW x.2.2 κ x.2.2 ρ2 (oP x out))) rfl ?_
    refine hR.2.2.2.2.2.2 _ 5 _ _ _ _ ?_
    refine hR.2.2.2.2.2.2 _ 6 _ _ _ _ ?_
    exact kont _ _ _ _ _ (Nat.le_refl _) hJ2
  · have h0 : x.1 = 0 := by omega
    have ho := oP_0 (out := out) h0
    have hnr := nmI_r x.2.1
    refine hR.run1 (by omega) 6 (S' := (2023, [some (vR 98), some (vR 0), some (vR 100), some (vR 120), some (vI i), some (vI x.1), some (vI (nmI x.2.1))], [vI (if nmI x.2.1 < (oP x out) 0 then 1 else if (oP x out) 0 = nmI x.2.1 then 0 else -1)], LW x.2.2 κ x.2.2 ρ2 (oP x out))) rfl (by rw [ho]; omega) ?_
    refine hR.br (by omega) (C := (if nmI x.2.1 < (oP x out) 0 then (1 : Int) else if (oP x out) 0 = nmI x.2.1 then 0 else -1) = 0) rfl (by (repeat' split) <;> omega) (fun _ => ?_) (fun h => absurd (lc0.mpr ho) h)
    refine hR.run0 (by omega) 1 (S' := (2248, [some (vR 98), some (vR 0), some (vR 100), some (vR 120), some (vI i), some (vI x.1), some (vI (nmI x.2.1))], [], LW x.2.2 κ x.2.2 ρ2 (oP x out))) rfl ?_
    refine hR.2.2.2.2.2.2 _ 5 _ _ _ _ ?_
    refine hR.2.2.2.2.2.2 _ 6 _ _ _ _ ?_
    exact kont _ _ _ _ _ (Nat.le_refl _) hJ2
theorem kS_232 : sLinkW RL 232 mL_roadAt hhL_roadAt 3 := ⟨gT_at 881 (by decide +kernel) (by decide +kernel), gT_at 882 (by decide +kernel) (by decide +kernel), gT_at 0 (by decide +kernel) (by decide +kernel), gT_at 883 (by decide +kernel) (by decide +kernel), ⟨by decide +kernel, by decide +kernel, by decide +kernel⟩⟩
theorem kL_234 : vLink RL 234 mX6_roadAt 1 := ⟨gT_at 1305 (by decide +kernel) (by decide +kernel), wX6_roadAt⟩
set_option maxHeartbeats 4000000 in
theorem cs_roadAt {xs : Int → Int} {N : Nat} {G : Nat → PS → Prop} (hRs : ∀ tb : PT, (∀ q ∈ tb, decode code q.1 = .ok (q.2.1, q.2.2)) → Rl lkL ((98, N, xs) :: roC) tb 100 G) (hx : N ≤ 2048 ∧ ∀ j, -2147483648 ≤ xs j ∧ xs j ≤ 2147483647) {τ κ ρ : St} {out : Int → Int} (hJ : Jv τ κ) {k : Nat} (hk : k < 600) {i : Int} (hi : 0 ≤ i ∧ i + 4 ≤ N) (kont : ∀ (τ κ ρ : St) (out : Int → Int) (j : Nat), j ≤ k + 1 → Jv τ κ → G j (2248, Lh_ i, [], LW τ κ τ ρ out)) : G k (2031, Lh_ i, [], LW τ κ τ ρ out) := by
  have hR := hRs bc_roadAt tc_roadAt
  have hN := hx.1
  have hxr := hx.2
  have hr1 := hxr (i + 1)
  have hro : ∀ q ∈ roC, q ∈ ((98, N, xs) :: roC : PRO) := fun q hq => List.mem_cons_of_mem _ hq
  have hw := wL_roadAt τ κ τ ρ out hro hr1 hJ.1
  have hm := fun (σ κ2 : St) (out2 : Int → Int) => frM (σ := σ) (κ := κ2) (out := out2) hro (pX6_roadAt τ ρ hr1 hJ.1)
  have hcd := cd_xRoadAt τ (xs (i + 1))
  have hth : (sS ρ 0 (xRoadAt τ (xs (i + 1))).1).1 0 = (xRoadAt τ (xs (i + 1))).1 := sS_at0 _ _
  have hJ2 := J_roadAt hJ (xs (i + 1))
  generalize (sS ρ 0 (xRoadAt τ (xs (i + 1))).1) = ρ2 at hm hth
  generalize xRoadAt τ (xs (i + 1)) = x at hw hm hcd hth hJ2
  refine hR.run0 (by omega) 5 (S' := (2037, [some (vR 98), some (vR 0), some (vR 100), some (vR 120), some (vI i), none, none], [vI (i + 1), vR 98, vR 0], LW τ κ τ ρ out)) rfl ?_
  refine hR.rd (by omega) hx.1 rfl rfl (by omega) ?_
  refine hR.run0 (by omega) 1 (S' := (2039, [some (vR 98), some (vR 0), some (vR 100), some (vR 120), some (vI i), none, none], [vR 120, vI (xs (i + 1)), vR 0], LW τ κ τ ρ out)) rfl ?_
  refine hR.cw hk [vR 0, vI (xs (i + 1)), vR 120] kS_232 rfl rfl (by decide) (Nat.le_of_ble_eq_true rfl) (by decide) rfl hw ?_
  refine hR.run0 (by omega) 6 (S' := (2050, [some (vR 98), some (vR 0), some (vR 100), some (vR 120), some (vI i), some (vI x.1), none], [vI (i + 1), vR 98, vR 100], LW x.2.2 κ τ ρ (oP x out))) rfl ?_
  refine hR.rd (by omega) hx.1 rfl rfl (by omega) ?_
  refine hR.cv (by omega) [vI (xs (i + 1))] kL_234 rfl rfl ⟨_, _, _, rfl, rfl, rfl⟩ (by decide) (Nat.le_of_ble_eq_true rfl) (by decide) rfl (hm _ _ _) ?_
  show G (k + 1) (2054, [some (vR 98), some (vR 0), some (vR 100), some (vR 120), some (vI i), some (vI x.1), none], [vI x.2.1], LW x.2.2 κ x.2.2 ρ2 (oP x out))
  refine hR.2.2.2.2.2.1 _ _ _ _ _ _ ?_
  refine hR.run0 (by omega) 2 (S' := (2057, [some (vR 98), some (vR 0), some (vR 100), some (vR 120), some (vI i), some (vI x.1), some (vI (nmI x.2.1))], [vR 100], LW x.2.2 κ x.2.2 ρ2 (oP x out))) rfl ?_
  refine hR.cv (by omega) [] kL_127 rfl rfl ⟨_, _, _, rfl, rfl, rfl⟩ (by decide) (Nat.le_of_ble_eq_true rfl) (by decide) rfl (frM hro (sr_thrown _ _)) ?_
  show G (k + 1) (2060, [some (vR 98), some (vR 0), some (vR 100), some (vR 120), some (vI i), some (vI x.1), some (vI (nmI x.2.1))], [vI (ρ2.1 0)], LW x.2.2 κ x.2.2 ρ2 (oP x out))
  rw [hth]
  refine hR.run0 (by omega) 1 (S' := (2062, [some (vR 98), some (vR 0), some (vR 100), some (vR 120), some (vI i), some (vI x.1), some (vI (nmI x.2.1))], [vI x.1, vI x.1], LW x.2.2 κ x.2.2 ρ2 (oP x out))) rfl ?_
  refine hR.br (by omega) (C := x.1 = x.1) rfl (by omega) (fun _ => ?_) (fun h => absurd rfl h)
  refine hR.run0 (by omega) 1 (S' := (2069, [some (vR 98), some (vR 0), some (vR 100), some (vR 120), some (vI i), some (vI x.1), some (vI (nmI x.2.1))], [vI x.1], LW x.2.2 κ x.2.2 ρ2 (oP x out))) rfl ?_
  refine hR.br (by omega) (C := x.1 ≠ 0) rfl (by omega) (fun _ => ?_) (fun h => ?_)
  · skip
    refine hR.run0 (by omega) 1 (S' := (2248, [some (vR 98), some (vR 0), some (vR 100), some (vR 120), some (vI i), some (vI x.1), some (vI (nmI x.2.1))], [], LW x.2.2 κ x.2.2 ρ2 (oP x out))) rfl ?_
    refine hR.2.2.2.2.2.2 _ 5 _ _ _ _ ?_
    refine hR.2.2.2.2.2.2 _ 6 _ _ _ _ ?_
    exact kont _ _ _ _ _ (Nat.le_refl _) hJ2
  · have h0 : x.1 = 0 := by omega
    have ho := oP_0 (out := out) h0
    have hnr := nmI_r x.2.1
    refine hR.run1 (by omega) 6 (S' := (2079, [some (vR 98), some (vR 0), some (vR 100), some (vR 120), some (vI i), some (vI x.1), some (vI (nmI x.2.1))], [vI (if nmI x.2.1 < (oP x out) 0 then 1 else if (oP x out) 0 = nmI x.2.1 then 0 else -1)], LW x.2.2 κ x.2.2 ρ2 (oP x out))) rfl (by rw [ho]; omega) ?_
    refine hR.br (by omega) (C := (if nmI x.2.1 < (oP x out) 0 then (1 : Int) else if (oP x out) 0 = nmI x.2.1 then 0 else -1) = 0) rfl (by (repeat' split) <;> omega) (fun _ => ?_) (fun h => absurd (lc0.mpr ho) h)
    refine hR.run0 (by omega) 1 (S' := (2248, [some (vR 98), some (vR 0), some (vR 100), some (vR 120), some (vI i), some (vI x.1), some (vI (nmI x.2.1))], [], LW x.2.2 κ x.2.2 ρ2 (oP x out))) rfl ?_
    refine hR.2.2.2.2.2.2 _ 5 _ _ _ _ ?_
    refine hR.2.2.2.2.2.2 _ 6 _ _ _ _ ?_
    exact kont _ _ _ _ _ (Nat.le_refl _) hJ2
theorem kL_235 : vLink RL 235 mX5_robber 0 := ⟨gT_at 177 (by decide +kernel) (by decide +kernel), wX5_robber⟩
theorem kL_238 : vLink RL 238 mX6_robber 0 := ⟨gT_at 1309 (by decide +kernel) (by decide +kernel), wX6_robber⟩
theorem cs_robber {xs : Int → Int} {N : Nat} {G : Nat → PS → Prop} (hRs : ∀ tb : PT, (∀ q ∈ tb, decode code q.1 = .ok (q.2.1, q.2.2)) → Rl lkL ((98, N, xs) :: roC) tb 100 G) (hx : N ≤ 2048 ∧ ∀ j, -2147483648 ≤ xs j ∧ xs j ≤ 2147483647) {τ κ ρ : St} {out : Int → Int} (hJ : Jv τ κ) {k : Nat} (hk : k < 600) {i : Int} (hi : 0 ≤ i ∧ i + 4 ≤ N) (kont : ∀ (τ κ ρ : St) (out : Int → Int) (j : Nat), j ≤ k + 1 → Jv τ κ → G j (2248, Lh_ i, [], LW τ κ τ ρ out)) : G k (2087, Lh_ i, [], LW τ κ τ ρ out) := by
  have hR := hRs bc_robber tc_robber
  have hro : ∀ q ∈ roC, q ∈ ((98, N, xs) :: roC : PRO) := fun q hq => List.mem_cons_of_mem _ hq
  have hrg := hJ.1.hrb
  have h1 : Sp mX5_robber ((98, N, xs) :: roC) 1 [vR 0] (LW τ κ τ ρ out) (.inl (some (vI (τ.1 5)))) (LW τ κ τ ρ out) := frC hro (pX5_robber τ κ hJ.1)
  have h2 : Sp mX6_robber ((98, N, xs) :: roC) 0 [vR 100] (LW τ κ τ ρ out) (.inl (some (vI (τ.1 5)))) (LW τ κ τ (sS ρ 0 0) out) := frM hro (pX6_robber τ ρ hJ.1)
  refine hR.run0 (by omega) 1 (S' := (2088, [some (vR 98), some (vR 0), some (vR 100), some (vR 120), some (vI i), none, none], [vR 0], LW τ κ τ ρ out)) rfl ?_
  refine hR.cv (by omega) [] kL_235 rfl rfl ⟨_, _, _, rfl, rfl, rfl⟩ (by decide) (Nat.le_of_ble_eq_true rfl) (by decide) rfl h1 ?_
  refine hR.run0 (by omega) 1 (S' := (2092, [some (vR 98), some (vR 0), some (vR 100), some (vR 120), some (vI i), none, none], [vR 100, vI (τ.1 5)], LW τ κ τ ρ out)) rfl ?_
  refine hR.cv (by omega) [] kL_238 rfl rfl ⟨_, _, _, rfl, rfl, rfl⟩ (by decide) (Nat.le_of_ble_eq_true rfl) (Nat.le_of_ble_eq_true rfl) rfl h2 ?_
  refine hR.br (by omega) (C := τ.1 5 = τ.1 5) rfl (by omega) (fun _ => ?_) (fun h => absurd rfl h)
  exact kont _ _ _ _ _ (Nat.le_succ _) hJ
theorem kS_239 : sLinkW RL 239 mL_rate hhL_rate 4 := ⟨gT_at 888 (by decide +kernel) (by decide +kernel), gT_at 889 (by decide +kernel) (by decide +kernel), gT_at 0 (by decide +kernel) (by decide +kernel), gT_at 890 (by decide +kernel) (by decide +kernel), ⟨by decide +kernel, by decide +kernel, by decide +kernel⟩⟩
theorem kL_241 : vLink RL 241 mX6_rate 2 := ⟨gT_at 1313 (by decide +kernel) (by decide +kernel), wX6_rate⟩
set_option maxHeartbeats 4000000 in
theorem cs_rate {xs : Int → Int} {N : Nat} {G : Nat → PS → Prop} (hRs : ∀ tb : PT, (∀ q ∈ tb, decode code q.1 = .ok (q.2.1, q.2.2)) → Rl lkL ((98, N, xs) :: roC) tb 100 G) (hx : N ≤ 2048 ∧ ∀ j, -2147483648 ≤ xs j ∧ xs j ≤ 2147483647) {τ κ ρ : St} {out : Int → Int} (hJ : Jv τ κ) {k : Nat} (hk : k < 600) {i : Int} (hi : 0 ≤ i ∧ i + 4 ≤ N) (kont : ∀ (τ κ ρ : St) (out : Int → Int) (j : Nat), j ≤ k + 1 → Jv τ κ → G j (2248, Lh_ i, [], LW τ κ τ ρ out)) : G k (2100, Lh_ i, [], LW τ κ τ ρ out) := by
  have hR := hRs bc_rate tc_rate
  have hN := hx.1
  have hxr := hx.2
  have hr1 := hxr (i + 1)
  have hr2 := hxr (i + 2)
  have hro : ∀ q ∈ roC, q ∈ ((98, N, xs) :: roC : PRO) := fun q hq => List.mem_cons_of_mem _ hq
  have hw := wL_rate τ κ τ ρ out hro hr1 hr2 hJ.1
  have hm := fun (σ κ2 : St) (out2 : Int → Int) => frM (σ := σ) (κ := κ2) (out := out2) hro (pX6_rate τ ρ hr1 hr2 hJ.1)
  have hcd := cd_xRate τ (xs (i + 1)) (xs (i + 2))
  have hth : (sS ρ 0 (xRate τ (xs (i + 1)) (xs (i + 2))).1).1 0 = (xRate τ (xs (i + 1)) (xs (i + 2))).1 := sS_at0 _ _
  have hJ2 := J_rate hJ (xs (i + 1)) (xs (i + 2))
  generalize (sS ρ 0 (xRate τ (xs (i + 1)) (xs (i + 2))).1) = ρ2 at hm hth
  generalize xRate τ (xs (i + 1)) (xs (i + 2)) = x at hw hm hcd hth hJ2
  refine hR.run0 (by omega) 5 (S' := (2106, [some (vR 98), some (vR 0), some (vR 100), some (vR 120), some (vI i), none, none], [vI (i + 1), vR 98, vR 0], LW τ κ τ ρ out)) rfl ?_
  refine hR.rd (by omega) hx.1 rfl rfl (by omega) ?_
  refine hR.run0 (by omega) 4 (S' := (2112, [some (vR 98), some (vR 0), some (vR 100), some (vR 120), some (vI i), none, none], [vI (i + 2), vR 98, vI (xs (i + 1)), vR 0], LW τ κ τ ρ out)) rfl ?_
  refine hR.rd (by omega) hx.1 rfl rfl (by omega) ?_
  refine hR.run0 (by omega) 1 (S' := (2114, [some (vR 98), some (vR 0), some (vR 100), some (vR 120), some (vI i), none, none], [vR 120, vI (xs (i + 2)), vI (xs (i + 1)), vR 0], LW τ κ τ ρ out)) rfl ?_
  refine hR.cw hk [vR 0, vI (xs (i + 1)), vI (xs (i + 2)), vR 120] kS_239 rfl rfl (by decide) (Nat.le_of_ble_eq_true rfl) (by decide) rfl hw ?_
  refine hR.run0 (by omega) 6 (S' := (2125, [some (vR 98), some (vR 0), some (vR 100), some (vR 120), some (vI i), some (vI x.1), none], [vI (i + 1), vR 98, vR 100], LW x.2.2 κ τ ρ (oP x out))) rfl ?_
  refine hR.rd (by omega) hx.1 rfl rfl (by omega) ?_
  refine hR.run0 (by omega) 4 (S' := (2131, [some (vR 98), some (vR 0), some (vR 100), some (vR 120), some (vI i), some (vI x.1), none], [vI (i + 2), vR 98, vI (xs (i + 1)), vR 100], LW x.2.2 κ τ ρ (oP x out))) rfl ?_
  refine hR.rd (by omega) hx.1 rfl rfl (by omega) ?_
  refine hR.cv (by omega) [vI (xs (i + 1)), vI (xs (i + 2))] kL_241 rfl rfl ⟨_, _, _, rfl, rfl, rfl⟩ (by decide) (Nat.le_of_ble_eq_true rfl) (by decide) rfl (hm _ _ _) ?_
  show G (k + 1) (2135, [some (vR 98), some (vR 0), some (vR 100), some (vR 120), some (vI i), some (vI x.1), none], [vI x.2.1], LW x.2.2 κ x.2.2 ρ2 (oP x out))
  refine hR.2.2.2.2.2.1 _ _ _ _ _ _ ?_
  refine hR.run0 (by omega) 2 (S' := (2138, [some (vR 98), some (vR 0), some (vR 100), some (vR 120), some (vI i), some (vI x.1), some (vI (nmI x.2.1))], [vR 100], LW x.2.2 κ x.2.2 ρ2 (oP x out))) rfl ?_
  refine hR.cv (by omega) [] kL_127 rfl rfl ⟨_, _, _, rfl, rfl, rfl⟩ (by decide) (Nat.le_of_ble_eq_true rfl) (by decide) rfl (frM hro (sr_thrown _ _)) ?_
  show G (k + 1) (2141, [some (vR 98), some (vR 0), some (vR 100), some (vR 120), some (vI i), some (vI x.1), some (vI (nmI x.2.1))], [vI (ρ2.1 0)], LW x.2.2 κ x.2.2 ρ2 (oP x out))
  rw [hth]
  refine hR.run0 (by omega) 1 (S' := (2143, [some (vR 98), some (vR 0), some (vR 100), some (vR 120), some (vI i), some (vI x.1), some (vI (nmI x.2.1))], [vI x.1, vI x.1], LW x.2.2 κ x.2.2 ρ2 (oP x out))) rfl ?_
  refine hR.br (by omega) (C := x.1 = x.1) rfl (by omega) (fun _ => ?_) (fun h => absurd rfl h)
  refine hR.run0 (by omega) 1 (S' := (2150, [some (vR 98), some (vR 0), some (vR 100), some (vR 120), some (vI i), some (vI x.1), some (vI (nmI x.2.1))], [vI x.1], LW x.2.2 κ x.2.2 ρ2 (oP x out))) rfl ?_
  refine hR.br (by omega) (C := x.1 ≠ 0) rfl (by omega) (fun _ => ?_) (fun h => ?_)
  · skip
    refine hR.run0 (by omega) 1 (S' := (2248, [some (vR 98), some (vR 0), some (vR 100), some (vR 120), some (vI i), some (vI x.1), some (vI (nmI x.2.1))], [], LW x.2.2 κ x.2.2 ρ2 (oP x out))) rfl ?_
    refine hR.2.2.2.2.2.2 _ 5 _ _ _ _ ?_
    refine hR.2.2.2.2.2.2 _ 6 _ _ _ _ ?_
    exact kont _ _ _ _ _ (Nat.le_refl _) hJ2
  · have h0 : x.1 = 0 := by omega
    have ho := oP_0 (out := out) h0
    have hnr := nmI_r x.2.1
    refine hR.run1 (by omega) 6 (S' := (2160, [some (vR 98), some (vR 0), some (vR 100), some (vR 120), some (vI i), some (vI x.1), some (vI (nmI x.2.1))], [vI (if nmI x.2.1 < (oP x out) 0 then 1 else if (oP x out) 0 = nmI x.2.1 then 0 else -1)], LW x.2.2 κ x.2.2 ρ2 (oP x out))) rfl (by rw [ho]; omega) ?_
    refine hR.br (by omega) (C := (if nmI x.2.1 < (oP x out) 0 then (1 : Int) else if (oP x out) 0 = nmI x.2.1 then 0 else -1) = 0) rfl (by (repeat' split) <;> omega) (fun _ => ?_) (fun h => absurd (lc0.mpr ho) h)
    refine hR.run0 (by omega) 1 (S' := (2248, [some (vR 98), some (vR 0), some (vR 100), some (vR 120), some (vI i), some (vI x.1), some (vI (nmI x.2.1))], [], LW x.2.2 κ x.2.2 ρ2 (oP x out))) rfl ?_
    refine hR.2.2.2.2.2.2 _ 5 _ _ _ _ ?_
    refine hR.2.2.2.2.2.2 _ 6 _ _ _ _ ?_
    exact kont _ _ _ _ _ (Nat.le_refl _) hJ2
theorem kS_242 : sLinkW RL 242 mL_wouldGet hhL_wouldGet 5 := ⟨gT_at 895 (by decide +kernel) (by decide +kernel), gT_at 896 (by decide +kernel) (by decide +kernel), gT_at 0 (by decide +kernel) (by decide +kernel), gT_at 897 (by decide +kernel) (by decide +kernel), ⟨by decide +kernel, by decide +kernel, by decide +kernel⟩⟩
theorem kL_244 : vLink RL 244 mX6_wouldGet 3 := ⟨gT_at 1317 (by decide +kernel) (by decide +kernel), wX6_wouldGet⟩
set_option maxHeartbeats 4000000 in
theorem cs_wouldGet {xs : Int → Int} {N : Nat} {G : Nat → PS → Prop} (hRs : ∀ tb : PT, (∀ q ∈ tb, decode code q.1 = .ok (q.2.1, q.2.2)) → Rl lkL ((98, N, xs) :: roC) tb 100 G) (hx : N ≤ 2048 ∧ ∀ j, -2147483648 ≤ xs j ∧ xs j ≤ 2147483647) {τ κ ρ : St} {out : Int → Int} (hJ : Jv τ κ) {k : Nat} (hk : k < 600) {i : Int} (hi : 0 ≤ i ∧ i + 4 ≤ N) (kont : ∀ (τ κ ρ : St) (out : Int → Int) (j : Nat), j ≤ k + 1 → Jv τ κ → G j (2248, Lh_ i, [], LW τ κ τ ρ out)) : G k (2168, Lh_ i, [], LW τ κ τ ρ out) := by
  have hR := hRs bc_wouldGet tc_wouldGet
  have hN := hx.1
  have hxr := hx.2
  have hr1 := hxr (i + 1)
  have hr2 := hxr (i + 2)
  have hr3 := hxr (i + 3)
  have hro : ∀ q ∈ roC, q ∈ ((98, N, xs) :: roC : PRO) := fun q hq => List.mem_cons_of_mem _ hq
  have hw := wL_wouldGet τ κ τ ρ out hro hr1 hr2 hr3 hJ.1
  have hm := fun (σ κ2 : St) (out2 : Int → Int) => frM (σ := σ) (κ := κ2) (out := out2) hro (pX6_wouldGet τ ρ hr1 hr2 hr3 hJ.1)
  have hcd := cd_xWould τ (xs (i + 1)) (xs (i + 2)) (xs (i + 3))
  have hth : (rWould τ ρ (xs (i + 1)) (xs (i + 2)) (xs (i + 3))).1 0 = (xWould τ (xs (i + 1)) (xs (i + 2)) (xs (i + 3))).1 := r1_rWould τ ρ (xs (i + 1)) (xs (i + 2)) (xs (i + 3))
  have hJ2 := J_wouldGet hJ (xs (i + 1)) (xs (i + 2)) (xs (i + 3))
  generalize (rWould τ ρ (xs (i + 1)) (xs (i + 2)) (xs (i + 3))) = ρ2 at hm hth
  generalize xWould τ (xs (i + 1)) (xs (i + 2)) (xs (i + 3)) = x at hw hm hcd hth hJ2
  refine hR.run0 (by omega) 5 (S' := (2174, [some (vR 98), some (vR 0), some (vR 100), some (vR 120), some (vI i), none, none], [vI (i + 1), vR 98, vR 0], LW τ κ τ ρ out)) rfl ?_
  refine hR.rd (by omega) hx.1 rfl rfl (by omega) ?_
  refine hR.run0 (by omega) 4 (S' := (2180, [some (vR 98), some (vR 0), some (vR 100), some (vR 120), some (vI i), none, none], [vI (i + 2), vR 98, vI (xs (i + 1)), vR 0], LW τ κ τ ρ out)) rfl ?_
  refine hR.rd (by omega) hx.1 rfl rfl (by omega) ?_
  refine hR.run0 (by omega) 4 (S' := (2186, [some (vR 98), some (vR 0), some (vR 100), some (vR 120), some (vI i), none, none], [vI (i + 3), vR 98, vI (xs (i + 2)), vI (xs (i + 1)), vR 0], LW τ κ τ ρ out)) rfl ?_
  refine hR.rd (by omega) hx.1 rfl rfl (by omega) ?_
  refine hR.run0 (by omega) 1 (S' := (2188, [some (vR 98), some (vR 0), some (vR 100), some (vR 120), some (vI i), none, none], [vR 120, vI (xs (i + 3)), vI (xs (i + 2)), vI (xs (i + 1)), vR 0], LW τ κ τ ρ out)) rfl ?_
  refine hR.cw hk [vR 0, vI (xs (i + 1)), vI (xs (i + 2)), vI (xs (i + 3)), vR 120] kS_242 rfl rfl (by decide) (Nat.le_of_ble_eq_true rfl) (by decide) rfl hw ?_
  refine hR.run0 (by omega) 6 (S' := (2199, [some (vR 98), some (vR 0), some (vR 100), some (vR 120), some (vI i), some (vI x.1), none], [vI (i + 1), vR 98, vR 100], LW x.2.2 κ τ ρ (oP x out))) rfl ?_
  refine hR.rd (by omega) hx.1 rfl rfl (by omega) ?_
  refine hR.run0 (by omega) 4 (S' := (2205, [some (vR 98), some (vR 0), some (vR 100), some (vR 120), some (vI i), some (vI x.1), none], [vI (i + 2), vR 98, vI (xs (i + 1)), vR 100], LW x.2.2 κ τ ρ (oP x out))) rfl ?_
  refine hR.rd (by omega) hx.1 rfl rfl (by omega) ?_
  refine hR.run0 (by omega) 4 (S' := (2211, [some (vR 98), some (vR 0), some (vR 100), some (vR 120), some (vI i), some (vI x.1), none], [vI (i + 3), vR 98, vI (xs (i + 2)), vI (xs (i + 1)), vR 100], LW x.2.2 κ τ ρ (oP x out))) rfl ?_
  refine hR.rd (by omega) hx.1 rfl rfl (by omega) ?_
  refine hR.cv (by omega) [vI (xs (i + 1)), vI (xs (i + 2)), vI (xs (i + 3))] kL_244 rfl rfl ⟨_, _, _, rfl, rfl, rfl⟩ (by decide) (Nat.le_of_ble_eq_true rfl) (by decide) rfl (hm _ _ _) ?_
  show G (k + 1) (2215, [some (vR 98), some (vR 0), some (vR 100), some (vR 120), some (vI i), some (vI x.1), none], [vI x.2.1], LW x.2.2 κ x.2.2 ρ2 (oP x out))
  refine hR.2.2.2.2.2.1 _ _ _ _ _ _ ?_
  refine hR.run0 (by omega) 2 (S' := (2218, [some (vR 98), some (vR 0), some (vR 100), some (vR 120), some (vI i), some (vI x.1), some (vI (nmI x.2.1))], [vR 100], LW x.2.2 κ x.2.2 ρ2 (oP x out))) rfl ?_
  refine hR.cv (by omega) [] kL_127 rfl rfl ⟨_, _, _, rfl, rfl, rfl⟩ (by decide) (Nat.le_of_ble_eq_true rfl) (by decide) rfl (frM hro (sr_thrown _ _)) ?_
  show G (k + 1) (2221, [some (vR 98), some (vR 0), some (vR 100), some (vR 120), some (vI i), some (vI x.1), some (vI (nmI x.2.1))], [vI (ρ2.1 0)], LW x.2.2 κ x.2.2 ρ2 (oP x out))
  rw [hth]
  refine hR.run0 (by omega) 1 (S' := (2223, [some (vR 98), some (vR 0), some (vR 100), some (vR 120), some (vI i), some (vI x.1), some (vI (nmI x.2.1))], [vI x.1, vI x.1], LW x.2.2 κ x.2.2 ρ2 (oP x out))) rfl ?_
  refine hR.br (by omega) (C := x.1 = x.1) rfl (by omega) (fun _ => ?_) (fun h => absurd rfl h)
  refine hR.run0 (by omega) 1 (S' := (2230, [some (vR 98), some (vR 0), some (vR 100), some (vR 120), some (vI i), some (vI x.1), some (vI (nmI x.2.1))], [vI x.1], LW x.2.2 κ x.2.2 ρ2 (oP x out))) rfl ?_
  refine hR.br (by omega) (C := x.1 ≠ 0) rfl (by omega) (fun _ => ?_) (fun h => ?_)
  · skip
    refine hR.run0 (by omega) 1 (S' := (2248, [some (vR 98), some (vR 0), some (vR 100), some (vR 120), some (vI i), some (vI x.1), some (vI (nmI x.2.1))], [], LW x.2.2 κ x.2.2 ρ2 (oP x out))) rfl ?_
    refine hR.2.2.2.2.2.2 _ 5 _ _ _ _ ?_
    refine hR.2.2.2.2.2.2 _ 6 _ _ _ _ ?_
    exact kont _ _ _ _ _ (Nat.le_refl _) hJ2
  · have h0 : x.1 = 0 := by omega
    have ho := oP_0 (out := out) h0
    have hnr := nmI_r x.2.1
    refine hR.run1 (by omega) 6 (S' := (2240, [some (vR 98), some (vR 0), some (vR 100), some (vR 120), some (vI i), some (vI x.1), some (vI (nmI x.2.1))], [vI (if nmI x.2.1 < (oP x out) 0 then 1 else if (oP x out) 0 = nmI x.2.1 then 0 else -1)], LW x.2.2 κ x.2.2 ρ2 (oP x out))) rfl (by rw [ho]; omega) ?_
    refine hR.br (by omega) (C := (if nmI x.2.1 < (oP x out) 0 then (1 : Int) else if (oP x out) 0 = nmI x.2.1 then 0 else -1) = 0) rfl (by (repeat' split) <;> omega) (fun _ => ?_) (fun h => absurd (lc0.mpr ho) h)
    refine hR.run0 (by omega) 1 (S' := (2248, [some (vR 98), some (vR 0), some (vR 100), some (vR 120), some (vI i), some (vI x.1), some (vI (nmI x.2.1))], [], LW x.2.2 κ x.2.2 ρ2 (oP x out))) rfl ?_
    refine hR.2.2.2.2.2.2 _ 5 _ _ _ _ ?_
    refine hR.2.2.2.2.2.2 _ 6 _ _ _ _ ?_
    exact kont _ _ _ _ _ (Nat.le_refl _) hJ2
