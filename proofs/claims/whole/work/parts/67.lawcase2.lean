theorem kS_164 : sLinkW RL 164 mL_roads hhL_roads 4 := ⟨gT_at 647 (by decide +kernel) (by decide +kernel), gT_at 648 (by decide +kernel) (by decide +kernel), gT_at 0 (by decide +kernel) (by decide +kernel), gT_at 649 (by decide +kernel) (by decide +kernel), ⟨by decide +kernel, by decide +kernel, by decide +kernel⟩⟩
theorem kL_166 : vLink RL 166 mX6_roads 2 := ⟨gT_at 1199 (by decide +kernel) (by decide +kernel), wX6_roads⟩
set_option maxHeartbeats 4000000 in
theorem cs_roads {xs : Int → Int} {N : Nat} {G : Nat → PS → Prop} (hRs : ∀ tb : PT, (∀ q ∈ tb, decode code q.1 = .ok (q.2.1, q.2.2)) → Rl lkL ((98, N, xs) :: roC) tb 100 G) (hx : N ≤ 2048 ∧ ∀ j, -2147483648 ≤ xs j ∧ xs j ≤ 2147483647) {τ κ ρ : St} {out : Int → Int} (hJ : Jv τ κ) {k : Nat} (hk : k < 600) {i : Int} (hi : 0 ≤ i ∧ i + 4 ≤ N) (kont : ∀ (τ κ ρ : St) (out : Int → Int) (j : Nat), j ≤ k + 1 → Jv τ κ → G j (2248, Lh_ i, [], LW τ κ τ ρ out)) : G k (900, Lh_ i, [], LW τ κ τ ρ out) := by
  have hR := hRs bc_roads tc_roads
  have hN := hx.1
  have hxr := hx.2
  have hr1 := hxr (i + 1)
  have hr2 := hxr (i + 2)
  have hro : ∀ q ∈ roC, q ∈ ((98, N, xs) :: roC : PRO) := fun q hq => List.mem_cons_of_mem _ hq
  have hw := wL_roads τ κ τ ρ out hro hr1 hr2 hJ.2.2.1 hJ.2.2.2.1 hJ.1
  have hm := fun (σ κ2 : St) (out2 : Int → Int) => frM (σ := σ) (κ := κ2) (out := out2) hro (pX6_roads τ ρ hr1 hr2 hJ.1 hJ.2.1)
  have hcd := cd_xRoads τ (xs (i + 1)) (xs (i + 2))
  have hth : (rRoads τ ρ (xs (i + 1)) (xs (i + 2))).1 0 = (xRoads τ (xs (i + 1)) (xs (i + 2))).1 := r1_rRoads τ ρ (xs (i + 1)) (xs (i + 2))
  have hJ2 := J_roads hJ (xs (i + 1)) (xs (i + 2))
  generalize (rRoads τ ρ (xs (i + 1)) (xs (i + 2))) = ρ2 at hm hth
  generalize xRoads τ (xs (i + 1)) (xs (i + 2)) = x at hw hm hcd hth hJ2
  generalize (kRoads κ τ (xs (i + 1)) (xs (i + 2))) = κ2 at hw hJ2
  refine hR.run0 (by omega) 5 (S' := (906, [some (vR 98), some (vR 0), some (vR 100), some (vR 120), some (vI i), none, none], [vI (i + 1), vR 98, vR 0], LW τ κ τ ρ out)) rfl ?_
  refine hR.rd (by omega) hx.1 rfl rfl (by omega) ?_
  refine hR.run0 (by omega) 4 (S' := (912, [some (vR 98), some (vR 0), some (vR 100), some (vR 120), some (vI i), none, none], [vI (i + 2), vR 98, vI (xs (i + 1)), vR 0], LW τ κ τ ρ out)) rfl ?_
  refine hR.rd (by omega) hx.1 rfl rfl (by omega) ?_
  refine hR.run0 (by omega) 1 (S' := (914, [some (vR 98), some (vR 0), some (vR 100), some (vR 120), some (vI i), none, none], [vR 120, vI (xs (i + 2)), vI (xs (i + 1)), vR 0], LW τ κ τ ρ out)) rfl ?_
  refine hR.cw hk [vR 0, vI (xs (i + 1)), vI (xs (i + 2)), vR 120] kS_164 rfl rfl (by decide) (Nat.le_of_ble_eq_true rfl) (by decide) rfl hw ?_
  refine hR.run0 (by omega) 6 (S' := (925, [some (vR 98), some (vR 0), some (vR 100), some (vR 120), some (vI i), some (vI x.1), none], [vI (i + 1), vR 98, vR 100], LW x.2.2 κ2 τ ρ (oP x out))) rfl ?_
  refine hR.rd (by omega) hx.1 rfl rfl (by omega) ?_
  refine hR.run0 (by omega) 4 (S' := (931, [some (vR 98), some (vR 0), some (vR 100), some (vR 120), some (vI i), some (vI x.1), none], [vI (i + 2), vR 98, vI (xs (i + 1)), vR 100], LW x.2.2 κ2 τ ρ (oP x out))) rfl ?_
  refine hR.rd (by omega) hx.1 rfl rfl (by omega) ?_
  refine hR.cv (by omega) [vI (xs (i + 1)), vI (xs (i + 2))] kL_166 rfl rfl ⟨_, _, _, rfl, rfl, rfl⟩ (by decide) (Nat.le_of_ble_eq_true rfl) (by decide) rfl (hm _ _ _) ?_
  show G (k + 1) (935, [some (vR 98), some (vR 0), some (vR 100), some (vR 120), some (vI i), some (vI x.1), none], [vI x.2.1], LW x.2.2 κ2 x.2.2 ρ2 (oP x out))
  refine hR.2.2.2.2.2.1 _ _ _ _ _ _ ?_
  refine hR.run0 (by omega) 2 (S' := (938, [some (vR 98), some (vR 0), some (vR 100), some (vR 120), some (vI i), some (vI x.1), some (vI (nmI x.2.1))], [vR 100], LW x.2.2 κ2 x.2.2 ρ2 (oP x out))) rfl ?_
  refine hR.cv (by omega) [] kL_127 rfl rfl ⟨_, _, _, rfl, rfl, rfl⟩ (by decide) (Nat.le_of_ble_eq_true rfl) (by decide) rfl (frM hro (sr_thrown _ _)) ?_
  show G (k + 1) (941, [some (vR 98), some (vR 0), some (vR 100), some (vR 120), some (vI i), some (vI x.1), some (vI (nmI x.2.1))], [vI (ρ2.1 0)], LW x.2.2 κ2 x.2.2 ρ2 (oP x out))
  rw [hth]
  refine hR.run0 (by omega) 1 (S' := (943, [some (vR 98), some (vR 0), some (vR 100), some (vR 120), some (vI i), some (vI x.1), some (vI (nmI x.2.1))], [vI x.1, vI x.1], LW x.2.2 κ2 x.2.2 ρ2 (oP x out))) rfl ?_
  refine hR.br (by omega) (C := x.1 = x.1) rfl (by omega) (fun _ => ?_) (fun h => absurd rfl h)
  refine hR.run0 (by omega) 1 (S' := (950, [some (vR 98), some (vR 0), some (vR 100), some (vR 120), some (vI i), some (vI x.1), some (vI (nmI x.2.1))], [vI x.1], LW x.2.2 κ2 x.2.2 ρ2 (oP x out))) rfl ?_
  refine hR.br (by omega) (C := x.1 ≠ 0) rfl (by omega) (fun _ => ?_) (fun h => ?_)
  · skip
    refine hR.run0 (by omega) 1 (S' := (2248, [some (vR 98), some (vR 0), some (vR 100), some (vR 120), some (vI i), some (vI x.1), some (vI (nmI x.2.1))], [], LW x.2.2 κ2 x.2.2 ρ2 (oP x out))) rfl ?_
    refine hR.2.2.2.2.2.2 _ 5 _ _ _ _ ?_
    refine hR.2.2.2.2.2.2 _ 6 _ _ _ _ ?_
    exact kont _ _ _ _ _ (Nat.le_refl _) hJ2
  · have h0 : x.1 = 0 := by omega
    have ho := oP_0 (out := out) h0
    have hnr := nmI_r x.2.1
    refine hR.run1 (by omega) 6 (S' := (960, [some (vR 98), some (vR 0), some (vR 100), some (vR 120), some (vI i), some (vI x.1), some (vI (nmI x.2.1))], [vI (if nmI x.2.1 < (oP x out) 0 then 1 else if (oP x out) 0 = nmI x.2.1 then 0 else -1)], LW x.2.2 κ2 x.2.2 ρ2 (oP x out))) rfl (by rw [ho]; omega) ?_
    refine hR.br (by omega) (C := (if nmI x.2.1 < (oP x out) 0 then (1 : Int) else if (oP x out) 0 = nmI x.2.1 then 0 else -1) = 0) rfl (by (repeat' split) <;> omega) (fun _ => ?_) (fun h => absurd (lc0.mpr ho) h)
    refine hR.run0 (by omega) 1 (S' := (2248, [some (vR 98), some (vR 0), some (vR 100), some (vR 120), some (vI i), some (vI x.1), some (vI (nmI x.2.1))], [], LW x.2.2 κ2 x.2.2 ρ2 (oP x out))) rfl ?_
    refine hR.2.2.2.2.2.2 _ 5 _ _ _ _ ?_
    refine hR.2.2.2.2.2.2 _ 6 _ _ _ _ ?_
    exact kont _ _ _ _ _ (Nat.le_refl _) hJ2
theorem kS_167 : sLinkW RL 167 mL_plenty hhL_plenty 4 := ⟨gT_at 655 (by decide +kernel) (by decide +kernel), gT_at 656 (by decide +kernel) (by decide +kernel), gT_at 0 (by decide +kernel) (by decide +kernel), gT_at 657 (by decide +kernel) (by decide +kernel), ⟨by decide +kernel, by decide +kernel, by decide +kernel⟩⟩
theorem kL_169 : vLink RL 169 mX6_plenty 2 := ⟨gT_at 1203 (by decide +kernel) (by decide +kernel), wX6_plenty⟩
set_option maxHeartbeats 4000000 in
theorem cs_plenty {xs : Int → Int} {N : Nat} {G : Nat → PS → Prop} (hRs : ∀ tb : PT, (∀ q ∈ tb, decode code q.1 = .ok (q.2.1, q.2.2)) → Rl lkL ((98, N, xs) :: roC) tb 100 G) (hx : N ≤ 2048 ∧ ∀ j, -2147483648 ≤ xs j ∧ xs j ≤ 2147483647) {τ κ ρ : St} {out : Int → Int} (hJ : Jv τ κ) {k : Nat} (hk : k < 600) {i : Int} (hi : 0 ≤ i ∧ i + 4 ≤ N) (kont : ∀ (τ κ ρ : St) (out : Int → Int) (j : Nat), j ≤ k + 1 → Jv τ κ → G j (2248, Lh_ i, [], LW τ κ τ ρ out)) : G k (968, Lh_ i, [], LW τ κ τ ρ out) := by
  have hR := hRs bc_plenty tc_plenty
  have hN := hx.1
  have hxr := hx.2
  have hr1 := hxr (i + 1)
  have hr2 := hxr (i + 2)
  have hro : ∀ q ∈ roC, q ∈ ((98, N, xs) :: roC : PRO) := fun q hq => List.mem_cons_of_mem _ hq
  have hw := wL_plenty τ κ τ ρ out hro hr1 hr2 hJ.1
  have hm := fun (σ κ2 : St) (out2 : Int → Int) => frM (σ := σ) (κ := κ2) (out := out2) hro (pX6_plenty τ ρ hr1 hr2 hJ.1)
  have hcd := cd_xPlenty τ (xs (i + 1)) (xs (i + 2))
  have hth : (sS ρ 0 (xPlenty τ (xs (i + 1)) (xs (i + 2))).1).1 0 = (xPlenty τ (xs (i + 1)) (xs (i + 2))).1 := sS_at0 _ _
  have hJ2 := J_plenty hJ (xs (i + 1)) (xs (i + 2))
  generalize (sS ρ 0 (xPlenty τ (xs (i + 1)) (xs (i + 2))).1) = ρ2 at hm hth
  generalize xPlenty τ (xs (i + 1)) (xs (i + 2)) = x at hw hm hcd hth hJ2
  generalize (kPlenty κ τ (xs (i + 1)) (xs (i + 2))) = κ2 at hw hJ2
  refine hR.run0 (by omega) 5 (S' := (974, [some (vR 98), some (vR 0), some (vR 100), some (vR 120), some (vI i), none, none], [vI (i + 1), vR 98, vR 0], LW τ κ τ ρ out)) rfl ?_
  refine hR.rd (by omega) hx.1 rfl rfl (by omega) ?_
  refine hR.run0 (by omega) 4 (S' := (980, [some (vR 98), some (vR 0), some (vR 100), some (vR 120), some (vI i), none, none], [vI (i + 2), vR 98, vI (xs (i + 1)), vR 0], LW τ κ τ ρ out)) rfl ?_
  refine hR.rd (by omega) hx.1 rfl rfl (by omega) ?_
  refine hR.run0 (by omega) 1 (S' := (982, [some (vR 98), some (vR 0), some (vR 100), some (vR 120), some (vI i), none, none], [vR 120, vI (xs (i + 2)), vI (xs (i + 1)), vR 0], LW τ κ τ ρ out)) rfl ?_
  refine hR.cw hk [vR 0, vI (xs (i + 1)), vI (xs (i + 2)), vR 120] kS_167 rfl rfl (by decide) (Nat.le_of_ble_eq_true rfl) (by decide) rfl hw ?_
  refine hR.run0 (by omega) 6 (S' := (993, [some (vR 98), some (vR 0), some (vR 100), some (vR 120), some (vI i), some (vI x.1), none], [vI (i + 1), vR 98, vR 100], LW x.2.2 κ2 τ ρ (oP x out))) rfl ?_
  refine hR.rd (by omega) hx.1 rfl rfl (by omega) ?_
  refine hR.run0 (by omega) 4 (S' := (999, [some (vR 98), some (vR 0), some (vR 100), some (vR 120), some (vI i), some (vI x.1), none], [vI (i + 2), vR 98, vI (xs (i + 1)), vR 100], LW x.2.2 κ2 τ ρ (oP x out))) rfl ?_
  refine hR.rd (by omega) hx.1 rfl rfl (by omega) ?_
  refine hR.cv (by omega) [vI (xs (i + 1)), vI (xs (i + 2))] kL_169 rfl rfl ⟨_, _, _, rfl, rfl, rfl⟩ (by decide) (Nat.le_of_ble_eq_true rfl) (by decide) rfl (hm _ _ _) ?_
  show G (k + 1) (1003, [some (vR 98), some (vR 0), some (vR 100), some (vR 120), some (vI i), some (vI x.1), none], [vI x.2.1], LW x.2.2 κ2 x.2.2 ρ2 (oP x out))
  refine hR.2.2.2.2.2.1 _ _ _ _ _ _ ?_
  refine hR.run0 (by omega) 2 (S' := (1006, [some (vR 98), some (vR 0), some (vR 100), some (vR 120), some (vI i), some (vI x.1), some (vI (nmI x.2.1))], [vR 100], LW x.2.2 κ2 x.2.2 ρ2 (oP x out))) rfl ?_
  refine hR.cv (by omega) [] kL_127 rfl rfl ⟨_, _, _, rfl, rfl, rfl⟩ (by decide) (Nat.le_of_ble_eq_true rfl) (by decide) rfl (frM hro (sr_thrown _ _)) ?_
  show G (k + 1) (1009, [some (vR 98), some (vR 0), some (vR 100), some (vR 120), some (vI i), some (vI x.1), some (vI (nmI x.2.1))], [vI (ρ2.1 0)], LW x.2.2 κ2 x.2.2 ρ2 (oP x out))
  rw [hth]
  refine hR.run0 (by omega) 1 (S' := (1011, [some (vR 98), some (vR 0), some (vR 100), some (vR 120), some (vI i), some (vI x.1), some (vI (nmI x.2.1))], [vI x.1, vI x.1], LW x.2.2 κ2 x.2.2 ρ2 (oP x out))) rfl ?_
  refine hR.br (by omega) (C := x.1 = x.1) rfl (by omega) (fun _ => ?_) (fun h => absurd rfl h)
  refine hR.run0 (by omega) 1 (S' := (1018, [some (vR 98), some (vR 0), some (vR 100), some (vR 120), some (vI i), some (vI x.1), some (vI (nmI x.2.1))], [vI x.1], LW x.2.2 κ2 x.2.2 ρ2 (oP x out))) rfl ?_
  refine hR.br (by omega) (C := x.1 ≠ 0) rfl (by omega) (fun _ => ?_) (fun h => ?_)
  · skip
    refine hR.run0 (by omega) 1 (S' := (2248, [some (vR 98), some (vR 0), some (vR 100), some (vR 120), some (vI i), some (vI x.1), some (vI (nmI x.2.1))], [], LW x.2.2 κ2 x.2.2 ρ2 (oP x out))) rfl ?_
    refine hR.2.2.2.2.2.2 _ 5 _ _ _ _ ?_
    refine hR.2.2.2.2.2.2 _ 6 _ _ _ _ ?_
    exact kont _ _ _ _ _ (Nat.le_refl _) hJ2
  · have h0 : x.1 = 0 := by omega
    have ho := oP_0 (out := out) h0
    have hnr := nmI_r x.2.1
    refine hR.run1 (by omega) 6 (S' := (1028, [some (vR 98), some (vR 0), some (vR 100), some (vR 120), some (vI i), some (vI x.1), some (vI (nmI x.2.1))], [vI (if nmI x.2.1 < (oP x out) 0 then 1 else if (oP x out) 0 = nmI x.2.1 then 0 else -1)], LW x.2.2 κ2 x.2.2 ρ2 (oP x out))) rfl (by rw [ho]; omega) ?_
    refine hR.br (by omega) (C := (if nmI x.2.1 < (oP x out) 0 then (1 : Int) else if (oP x out) 0 = nmI x.2.1 then 0 else -1) = 0) rfl (by (repeat' split) <;> omega) (fun _ => ?_) (fun h => absurd (lc0.mpr ho) h)
    refine hR.run0 (by omega) 1 (S' := (2248, [some (vR 98), some (vR 0), some (vR 100), some (vR 120), some (vI i), some (vI x.1), some (vI (nmI x.2.1))], [], LW x.2.2 κ2 x.2.2 ρ2 (oP x out))) rfl ?_
    refine hR.2.2.2.2.2.2 _ 5 _ _ _ _ ?_
    refine hR.2.2.2.2.2.2 _ 6 _ _ _ _ ?_
    exact kont _ _ _ _ _ (Nat.le_refl _) hJ2
theorem kS_170 : sLinkW RL 170 mL_monopoly hhL_monopoly 3 := ⟨gT_at 669 (by decide +kernel) (by decide +kernel), gT_at 670 (by decide +kernel) (by decide +kernel), gT_at 0 (by decide +kernel) (by decide +kernel), gT_at 671 (by decide +kernel) (by decide +kernel), ⟨by decide +kernel, by decide +kernel, by decide +kernel⟩⟩
theorem kL_172 : vLink RL 172 mX6_monopoly 1 := ⟨gT_at 1214 (by decide +kernel) (by decide +kernel), wX6_monopoly⟩
set_option maxHeartbeats 4000000 in
theorem cs_monopoly {xs : Int → Int} {N : Nat} {G : Nat → PS → Prop} (hRs : ∀ tb : PT, (∀ q ∈ tb, decode code q.1 = .ok (q.2.1, q.2.2)) → Rl lkL ((98, N, xs) :: roC) tb 100 G) (hx : N ≤ 2048 ∧ ∀ j, -2147483648 ≤ xs j ∧ xs j ≤ 2147483647) {τ κ ρ : St} {out : Int → Int} (hJ : Jv τ κ) {k : Nat} (hk : k < 600) {i : Int} (hi : 0 ≤ i ∧ i + 4 ≤ N) (kont : ∀ (τ κ ρ : St) (out : Int → Int) (j : Nat), j ≤ k + 1 → Jv τ κ → G j (2248, Lh_ i, [], LW τ κ τ ρ out)) : G k (1036, Lh_ i, [], LW τ κ τ ρ out) := by
  have hR := hRs bc_monopoly tc_monopoly
  have hN := hx.1
  have hxr := hx.2
  have hr1 := hxr (i + 1)
  have hro : ∀ q ∈ roC, q ∈ ((98, N, xs) :: roC : PRO) := fun q hq => List.mem_cons_of_mem _ hq
  have hw := wL_monopoly τ κ τ ρ out hro hr1 hJ.1
  have hm := fun (σ κ2 : St) (out2 : Int → Int) => frM (σ := σ) (κ := κ2) (out := out2) hro (pX6_monopoly τ ρ hr1 hJ.1)
  have hcd := cd_xMono τ (xs (i + 1))
  have hth : (sS ρ 0 (xMono τ (xs (i + 1))).1).1 0 = (xMono τ (xs (i + 1))).1 := sS_at0 _ _
  have hJ2 := J_monopoly hJ (xs (i + 1))
  generalize (sS ρ 0 (xMono τ (xs (i + 1))).1) = ρ2 at hm hth
  generalize xMono τ (xs (i + 1)) = x at hw hm hcd hth hJ2
  generalize (kMono κ τ (xs (i + 1))) = κ2 at hw hJ2
  refine hR.run0 (by omega) 5 (S' := (1042, [some (vR 98), some (vR 0), some (vR 100), some (vR 120), some (vI i), none, none], [vI (i + 1), vR 98, vR 0], LW τ κ τ ρ out)) rfl ?_
  refine hR.rd (by omega) hx.1 rfl rfl (by omega) ?_
  refine hR.run0 (by omega) 1 (S' := (1044, [some (vR 98), some (vR 0), some (vR 100), some (vR 120), some (vI i), none, none], [vR 120, vI (xs (i + 1)), vR 0], LW τ κ τ ρ out)) rfl ?_
  refine hR.cw hk [vR 0, vI (xs (i + 1)), vR 120] kS_170 rfl rfl (by decide) (Nat.le_of_ble_eq_true rfl) (by decide) rfl hw ?_
  refine hR.run0 (by omega) 6 (S' := (1055, [some (vR 98), some (vR 0), some (vR 100), some (vR 120), some (vI i), some (vI x.1), none], [vI (i + 1), vR 98, vR 100], LW x.2.2 κ2 τ ρ (oP x out))) rfl ?_
  refine hR.rd (by omega) hx.1 rfl rfl (by omega) ?_
  refine hR.cv (by omega) [vI (xs (i + 1))] kL_172 rfl rfl ⟨_, _, _, rfl, rfl, rfl⟩ (by decide) (Nat.le_of_ble_eq_true rfl) (by decide) rfl (hm _ _ _) ?_
  show G (k + 1) (1059, [some (vR 98), some (vR 0), some (vR 100), some (vR 120), some (vI i), some (vI x.1), none], [vI x.2.1], LW x.2.2 κ2 x.2.2 ρ2 (oP x out))
  refine hR.2.2.2.2.2.1 _ _ _ _ _ _ ?_
  refine hR.run0 (by omega) 2 (S' := (1062, [some (vR 98), some (vR 0), some (vR 100), some (vR 120), some (vI i), some (vI x.1), some (vI (nmI x.2.1))], [vR 100], LW x.2.2 κ2 x.2.2 ρ2 (oP x out))) rfl ?_
  refine hR.cv (by omega) [] kL_127 rfl rfl ⟨_, _, _, rfl, rfl, rfl⟩ (by decide) (Nat.le_of_ble_eq_true rfl) (by decide) rfl (frM hro (sr_thrown _ _)) ?_
  show G (k + 1) (1065, [some (vR 98), some (vR 0), some (vR 100), some (vR 120), some (vI i), some (vI x.1), some (vI (nmI x.2.1))], [vI (ρ2.1 0)], LW x.2.2 κ2 x.2.2 ρ2 (oP x out))
  rw [hth]
  refine hR.run0 (by omega) 1 (S' := (1067, [some (vR 98), some (vR 0), some (vR 100), some (vR 120), some (vI i), some (vI x.1), some (vI (nmI x.2.1))], [vI x.1, vI x.1], LW x.2.2 κ2 x.2.2 ρ2 (oP x out))) rfl ?_
  refine hR.br (by omega) (C := x.1 = x.1) rfl (by omega) (fun _ => ?_) (fun h => absurd rfl h)
  refine hR.run0 (by omega) 1 (S' := (1074, [some (vR 98), some (vR 0), some (vR 100), some (vR 120), some (vI i), some (vI x.1), some (vI (nmI x.2.1))], [vI x.1], LW x.2.2 κ2 x.2.2 ρ2 (oP x out))) rfl ?_
  refine hR.br (by omega) (C := x.1 ≠ 0) rfl (by omega) (fun _ => ?_) (fun h => ?_)
  · skip
    refine hR.run0 (by omega) 1 (S' := (2248, [some (vR 98), some (vR 0), some (vR 100), some (vR 120), some (vI i), some (vI x.1), some (vI (nmI x.2.1))], [], LW x.2.2 κ2 x.2.2 ρ2 (oP x out))) rfl ?_
    refine hR.2.2.2.2.2.2 _ 5 _ _ _ _ ?_
    refine hR.2.2.2.2.2.2 _ 6 _ _ _ _ ?_
    exact kont _ _ _ _ _ (Nat.le_refl _) hJ2
  · have h0 : x.1 = 0 := by omega
    have ho := oP_0 (out := out) h0
    have hnr := nmI_r x.2.1
    refine hR.run1 (by omega) 6 (S' := (1084, [some (vR 98), some (vR 0), some (vR 100), some (vR 120), some (vI i), some (vI x.1), some (vI (nmI x.2.1))], [vI (if nmI x.2.1 < (oP x out) 0 then 1 else if (oP x out) 0 = nmI x.2.1 then 0 else -1)], LW x.2.2 κ2 x.2.2 ρ2 (oP x out))) rfl (by rw [ho]; omega) ?_
    refine hR.br (by omega) (C := (if nmI x.2.1 < (oP x out) 0 then (1 : Int) else if (oP x out) 0 = nmI x.2.1 then 0 else -1) = 0) rfl (by (repeat' split) <;> omega) (fun _ => ?_) (fun h => absurd (lc0.mpr ho) h)
    refine hR.run0 (by omega) 1 (S' := (2248, [some (vR 98), some (vR 0), some (vR 100), some (vR 120), some (vI i), some (vI x.1), some (vI (nmI x.2.1))], [], LW x.2.2 κ2 x.2.2 ρ2 (oP x out))) rfl ?_
    refine hR.2.2.2.2.2.2 _ 5 _ _ _ _ ?_
    refine hR.2.2.2.2.2.2 _ 6 _ _ _ _ ?_
    exact kont _ _ _ _ _ (Nat.le_refl _) hJ2
theorem kS_173 : sLinkW RL 173 mL_swap hhL_swap 4 := ⟨gT_at 676 (by decide +kernel) (by decide +kernel), gT_at 677 (by decide +kernel) (by decide +kernel), gT_at 0 (by decide +kernel) (by decide +kernel), gT_at 678 (by decide +kernel) (by decide +kernel), ⟨by decide +kernel, by decide +kernel, by decide +kernel⟩⟩
theorem kL_175 : vLink RL 175 mX6_swap 2 := ⟨gT_at 1218 (by decide +kernel) (by decide +kernel), wX6_swap⟩
set_option maxHeartbeats 4000000 in
theorem cs_swap {xs : Int → Int} {N : Nat} {G : Nat → PS → Prop} (hRs : ∀ tb : PT, (∀ q ∈ tb, decode code q.1 = .ok (q.2.1, q.2.2)) → Rl lkL ((98, N, xs) :: roC) tb 100 G) (hx : N ≤ 2048 ∧ ∀ j, -2147483648 ≤ xs j ∧ xs j ≤ 2147483647) {τ κ ρ : St} {out : Int → Int} (hJ : Jv τ κ) {k : Nat} (hk : k < 600) {i : Int} (hi : 0 ≤ i ∧ i + 4 ≤ N) (kont : ∀ (τ κ ρ : St) (out : Int → Int) (j : Nat), j ≤ k + 1 → Jv τ κ → G j (2248, Lh_ i, [], LW τ κ τ ρ out)) : G k (1092, Lh_ i, [], LW τ κ τ ρ out) := by
  have hR := hRs bc_swap tc_swap
  have hN := hx.1
  have hxr := hx.2
  have hr1 := hxr (i + 1)
  have hr2 := hxr (i + 2)
  have hro : ∀ q ∈ roC, q ∈ ((98, N, xs) :: roC : PRO) := fun q hq => List.mem_cons_of_mem _ hq
  have hw := wL_swap τ κ τ ρ out hro hr1 hr2 hJ.1
  have hm := fun (σ κ2 : St) (out2 : Int → Int) => frM (σ := σ) (κ := κ2) (out := out2) hro (pX6_swap τ ρ hr1 hr2 hJ.1)
  have hcd := cd_xSwap τ (xs (i + 1)) (xs (i + 2))
  have hth : (sS ρ 0 (xSwap τ (xs (i + 1)) (xs (i + 2))).1).1 0 = (xSwap τ (xs (i + 1)) (xs (i + 2))).1 := sS_at0 _ _
  have hJ2 := J_swap hJ (xs (i + 1)) (xs (i + 2))
  generalize (sS ρ 0 (xSwap τ (xs (i + 1)) (xs (i + 2))).1) = ρ2 at hm hth
  generalize xSwap τ (xs (i + 1)) (xs (i + 2)) = x at hw hm hcd hth hJ2
  generalize (kSwap κ τ (xs (i + 1)) (xs (i + 2))) = κ2 at hw hJ2
  refine hR.run0 (by omega) 5 (S' := (1098, [some (vR 98), some (vR 0), some (vR 100), some (vR 120), some (vI i), none, none], [vI (i + 1), vR 98, vR 0], LW τ κ τ ρ out)) rfl ?_
  refine hR.rd (by omega) hx.1 rfl rfl (by omega) ?_
  refine hR.run0 (by omega) 4 (S' := (1104, [some (vR 98), some (vR 0), some (vR 100), some (vR 120), some (vI i), none, none], [vI (i + 2), vR 98, vI (xs (i + 1)), vR 0], LW τ κ τ ρ out)) rfl ?_
  refine hR.rd (by omega) hx.1 rfl rfl (by omega) ?_
  refine hR.run0 (by omega) 1 (S' := (1106, [some (vR 98), some (vR 0), some (vR 100), some (vR 120), some (vI i), none, none], [vR 120, vI (xs (i + 2)), vI (xs (i + 1)), vR 0], LW τ κ τ ρ out)) rfl ?_
  refine hR.cw hk [vR 0, vI (xs (i + 1)), vI (xs (i + 2)), vR 120] kS_173 rfl rfl (by decide) (Nat.le_of_ble_eq_true rfl) (by decide) rfl hw ?_
  refine hR.run0 (by omega) 6 (S' := (1117, [some (vR 98), some (vR 0), some (vR 100), some (vR 120), some (vI i), some (vI x.1), none], [vI (i + 1), vR 98, vR 100], LW x.2.2 κ2 τ ρ (oP x out))) rfl ?_
  refine hR.rd (by omega) hx.1 rfl rfl (by omega) ?_
  refine hR.run0 (by omega) 4 (S' := (1123, [some (vR 98), some (vR 0), some (vR 100), some (vR 120), some (vI i), some (vI x.1), none], [vI (i + 2), vR 98, vI (xs (i + 1)), vR 100], LW x.2.2 κ2 τ ρ (oP x out))) rfl ?_
  refine hR.rd (by omega) hx.1 rfl rfl (by omega) ?_
  refine hR.cv (by omega) [vI (xs (i + 1)), vI (xs (i + 2))] kL_175 rfl rfl ⟨_, _, _, rfl, rfl, rfl⟩ (by decide) (Nat.le_of_ble_eq_true rfl) (by decide) rfl (hm _ _ _) ?_
  show G (k + 1) (1127, [some (vR 98), some (vR 0), some (vR 100), some (vR 120), some (vI i), some (vI x.1), none], [vI x.2.1], LW x.2.2 κ2 x.2.2 ρ2 (oP x out))
  refine hR.2.2.2.2.2.1 _ _ _ _ _ _ ?_
  refine hR.run0 (by omega) 2 (S' := (1130, [some (vR 98), some (vR 0), some (vR 100), some (vR 120), some (vI i), some (vI x.1), some (vI (nmI x.2.1))], [vR 100], LW x.2.2 κ2 x.2.2 ρ2 (oP x out))) rfl ?_
  refine hR.cv (by omega) [] kL_127 rfl rfl ⟨_, _, _, rfl, rfl, rfl⟩ (by decide) (Nat.le_of_ble_eq_true rfl) (by decide) rfl (frM hro (sr_thrown _ _)) ?_
  show G (k + 1) (1133, [some (vR 98), some (vR 0), some (vR 100), some (vR 120), some (vI i), some (vI x.1), some (vI (nmI x.2.1))], [vI (ρ2.1 0)], LW x.2.2 κ2 x.2.2 ρ2 (oP x out))
  rw [hth]
  refine hR.run0 (by omega) 1 (S' := (1135, [some (vR 98), some (vR 0), some (vR 100), some (vR 120), some (vI i), some (vI x.1), some (vI (nmI x.2.1))], [vI x.1, vI x.1], LW x.2.2 κ2 x.2.2 ρ2 (oP x out))) rfl ?_
  refine hR.br (by omega) (C := x.1 = x.1) rfl (by omega) (fun _ => ?_) (fun h => absurd rfl h)
  refine hR.run0 (by omega) 1 (S' := (1142, [some (vR 98), some (vR 0), some (vR 100), some (vR 120), some (vI i), some (vI x.1), some (vI (nmI x.2.1))], [vI x.1], LW x.2.2 κ2 x.2.2 ρ2 (oP x out))) rfl ?_
  refine hR.br (by omega) (C := x.1 ≠ 0) rfl (by omega) (fun _ => ?_) (fun h => ?_)
  · skip
    refine hR.run0 (by omega) 1 (S' := (2248, [some (vR 98), some (vR 0), some (vR 100), some (vR 120), some (vI i), some (vI x.1), some (vI (nmI x.2.1))], [], LW x.2.2 κ2 x.2.2 ρ2 (oP x out))) rfl ?_
    refine hR.2.2.2.2.2.2 _ 5 _ _ _ _ ?_
    refine hR.2.2.2.2.2.2 _ 6 _ _ _ _ ?_
    exact kont _ _ _ _ _ (Nat.le_refl _) hJ2
  · have h0 : x.1 = 0 := by omega
    have ho := oP_0 (out := out) h0
    have hnr := nmI_r x.2.1
    refine hR.run1 (by omega) 6 (S' := (1152, [some (vR 98), some (vR 0), some (vR 100), some (vR 120), some (vI i), some (vI x.1), some (vI (nmI x.2.1))], [vI (if nmI x.2.1 < (oP x out) 0 then 1 else if (oP x out) 0 = nmI x.2.1 then 0 else -1)], LW x.2.2 κ2 x.2.2 ρ2 (oP x out))) rfl (by rw [ho]; omega) ?_
    refine hR.br (by omega) (C := (if nmI x.2.1 < (oP x out) 0 then (1 : Int) else if (oP x out) 0 = nmI x.2.1 then 0 else -1) = 0) rfl (by (repeat' split) <;> omega) (fun _ => ?_) (fun h => absurd (lc0.mpr ho) h)
    refine hR.run0 (by omega) 1 (S' := (2248, [some (vR 98), some (vR 0), some (vR 100), some (vR 120), some (vI i), some (vI x.1), some (vI (nmI x.2.1))], [], LW x.2.2 κ2 x.2.2 ρ2 (oP x out))) rfl ?_
    refine hR.2.2.2.2.2.2 _ 5 _ _ _ _ ?_
    refine hR.2.2.2.2.2.2 _ 6 _ _ _ _ ?_
    exact kont _ _ _ _ _ (Nat.le_refl _) hJ2
theorem kS_176 : sLinkW RL 176 mL_offer hhL_offer 3 := ⟨gT_at 695 (by decide +kernel) (by decide +kernel), gT_at 696 (by decide +kernel) (by decide +kernel), gT_at 0 (by decide +kernel) (by decide +kernel), gT_at 697 (by decide +kernel) (by decide +kernel), ⟨by decide +kernel, by decide +kernel, by decide +kernel⟩⟩
theorem kL_179 : vLink RL 179 mX6_offer 2 := ⟨gT_at 1226 (by decide +kernel) (by decide +kernel), wX6_offer⟩
set_option maxHeartbeats 4000000 in
theorem cs_offer {xs : Int → Int} {N : Nat} {G : Nat → PS → Prop} (hRs : ∀ tb : PT, (∀ q ∈ tb, decode code q.1 = .ok (q.2.1, q.2.2)) → Rl lkL ((98, N, xs) :: roC) tb 100 G) (hx : N ≤ 2048 ∧ ∀ j, -2147483648 ≤ xs j ∧ xs j ≤ 2147483647) {τ κ ρ : St} {out : Int → Int} (hJ : Jv τ κ) {k : Nat} (hk : k < 600) {i : Int} (hi : 0 ≤ i ∧ i + 4 ≤ N) (kont : ∀ (τ κ ρ : St) (out : Int → Int) (j : Nat), j ≤ k + 1 → Jv τ κ → G j (2248, Lh_ i, [], LW τ κ τ ρ out)) : G k (1160, Lh_ i, [], LW τ κ τ ρ out) := by
  have hR := hRs bc_offer tc_offer
  have hN := hx.1
  have hxr := hx.2
  have hr1 := hxr (i + 1)
  have hr2 := hxr (i + 2)
  have hro : ∀ q ∈ roC, q ∈ ((98, N, xs) :: roC : PRO) := fun q hq => List.mem_cons_of_mem _ hq
  have hw := wL_offer τ κ τ ρ out hro hr1 hr2 hJ.1
  have hm := fun (σ κ2 : St) (out2 : Int → Int) => frM (σ := σ) (κ := κ2) (out := out2) hro (pX6_offer τ ρ hr1 hr2 hJ.1)
  have hcd := cd_xOffer τ (xs (i + 1)) (xs (i + 2))
  have hth : (sS ρ 0 (xOffer τ (xs (i + 1)) (xs (i + 2))).1).1 0 = (xOffer τ (xs (i + 1)) (xs (i + 2))).1 := sS_at0 _ _
  have hJ2 := J_offer hJ (xs (i + 1)) (xs (i + 2))
  generalize (sS ρ 0 (xOffer τ (xs (i + 1)) (xs (i + 2))).1) = ρ2 at hm hth
  generalize xOffer τ (xs (i + 1)) (xs (i + 2)) = x at hw hm hcd hth hJ2
  refine hR.run0 (by omega) 5 (S' := (1166, [some (vR 98), some (vR 0), some (vR 100), some (vR 120), some (vI i), none, none], [vI (i + 1), vR 98, vR 0], LW τ κ τ ρ out)) rfl ?_
  refine hR.rd (by omega) hx.1 rfl rfl (by omega) ?_
  refine hR.run0 (by omega) 4 (S' := (1172, [some (vR 98), some (vR 0), some (vR 100), some (vR 120), some (vI i), none, none], [vI (i + 2), vR 98, vI (xs (i + 1)), vR 0], LW τ κ τ ρ out)) rfl ?_
  refine hR.rd (by omega) hx.1 rfl rfl (by omega) ?_
  refine hR.cw hk [vR 0, vI (xs (i + 1)), vI (xs (i + 2))] kS_176 rfl rfl (by decide) (Nat.le_of_ble_eq_true rfl) (by decide) rfl hw ?_
  refine hR.run0 (by omega) 6 (S' := (1184, [some (vR 98), some (vR 0), some (vR 100), some (vR 120), some (vI i), some (vI x.1), none], [vI (i + 1), vR 98, vR 100], LW x.2.2 κ τ ρ out)) rfl ?_
  refine hR.rd (by omega) hx.1 rfl rfl (by omega) ?_
  refine hR.run0 (by omega) 4 (S' := (1190, [some (vR 98), some (vR 0), some (vR 100), some (vR 120), some (vI i), some (vI x.1), none], [vI (i + 2), vR 98, vI (xs (i + 1)), vR 100], LW x.2.2 κ τ ρ out)) rfl ?_
  refine hR.rd (by omega) hx.1 rfl rfl (by omega) ?_
  refine hR.cv (by omega) [vI (xs (i + 1)), vI (xs (i + 2))] kL_179 rfl rfl ⟨_, _, _, rfl, rfl, rfl⟩ (by decide) (Nat.le_of_ble_eq_true rfl) (by decide) rfl (hm _ _ _) ?_
  refine hR.run0 (by omega) 1 (S' := (1195, [some (vR 98), some (vR 0), some (vR 100), some (vR 120), some (vI i), some (vI x.1), none], [vR 100], LW x.2.2 κ x.2.2 ρ2 out)) rfl ?_
  refine hR.cv (by omega) [] kL_127 rfl rfl ⟨_, _, _, rfl, rfl, rfl⟩ (by decide) (Nat.le_of_ble_eq_true rfl) (by decide) rfl (frM hro (sr_thrown _ _)) ?_
  show G (k + 1) (1198, [some (vR 98), some (vR 0), some (vR 100), some (vR 120), some (vI i), some (vI x.1), none], [vI (ρ2.1 0)], LW x.2.2 κ x.2.2 ρ2 out)
  rw [hth]
  refine hR.run0 (by omega) 1 (S' := (1200, [some (vR 98), some (vR 0), some (vR 100), some (vR 120), some (vI i), some (vI x.1), none], [vI x.1, vI x.1], LW x.2.2 κ x.2.2 ρ2 out)) rfl ?_
  refine hR.br (by omega) (C := x.1 = x.1) rfl (by omega) (fun _ => ?_) (fun h => absurd rfl h)
  refine hR.run0 (by omega) 1 (S' := (2248, [some (vR 98), some (vR 0), some (vR 100), some (vR 120), some (vI i), some (vI x.1), none], [], LW x.2.2 κ x.2.2 ρ2 out)) rfl ?_
  refine hR.2.2.2.2.2.2 _ 5 _ _ _ _ ?_
  exact kont _ _ _ _ _ (Nat.le_refl _) hJ2
theorem kS_180 : sLinkW RL 180 mL_counter hhL_counter 4 := ⟨gT_at 714 (by decide +kernel) (by decide +kernel), gT_at 715 (by decide +kernel) (by decide +kernel), gT_at 0 (by decide +kernel) (by decide +kernel), gT_at 716 (by decide +kernel) (by decide +kernel), ⟨by decide +kernel, by decide +kernel, by decide +kernel⟩⟩
theorem kL_182 : vLink RL 182 mX6_counter 3 := ⟨gT_at 1237 (by decide +kernel) (by decide +kernel), wX6_counter⟩
set_option maxHeartbeats 4000000 in
theorem cs_counter {xs : Int → Int} {N : Nat} {G : Nat → PS → Prop} (hRs : ∀ tb : PT, (∀ q ∈ tb, decode code q.1 = .ok (q.2.1, q.2.2)) → Rl lkL ((98, N, xs) :: roC) tb 100 G) (hx : N ≤ 2048 ∧ ∀ j, -2147483648 ≤ xs j ∧ xs j ≤ 2147483647) {τ κ ρ : St} {out : Int → Int} (hJ : Jv τ κ) {k : Nat} (hk : k < 600) {i : Int} (hi : 0 ≤ i ∧ i + 4 ≤ N) (kont : ∀ (τ κ ρ : St) (out : Int → Int) (j : Nat), j ≤ k + 1 → Jv τ κ → G j (2248, Lh_ i, [], LW τ κ τ ρ out)) : G k (1208, Lh_ i, [], LW τ κ τ ρ out) := by
  have hR := hRs bc_counter tc_counter
  have hN := hx.1
  have hxr := hx.2
  have hr1 := hxr (i + 1)
  have hr2 := hxr (i + 2)
  have hr3 := hxr (i + 3)
  have hro : ∀ q ∈ roC, q ∈ ((98, N, xs) :: roC : PRO) := fun q hq => List.mem_cons_of_mem _ hq
  have hw := wL_counter τ κ τ ρ out hro hr1 hr2 hr3 hJ.1
  have hm := fun (σ κ2 : St) (out2 : Int → Int) => frM (σ := σ) (κ := κ2) (out := out2) hro (pX6_counter τ ρ hr1 hr2 hr3 hJ.1)
  have hcd := cd_xCounter τ (xs (i + 1)) (xs (i + 2)) (xs (i + 3))
  have hth : (sS ρ 0 (xCounter τ (xs (i + 1)) (xs (i + 2)) (xs (i + 3))).1).1 0 = (xCounter τ (xs (i + 1)) (xs (i + 2)) (xs (i + 3))).1 := sS_at0 _ _
  have hJ2 := J_counter hJ (xs (i + 1)) (xs (i + 2)) (xs (i + 3))
  generalize (sS ρ 0 (xCounter τ (xs (i + 1)) (xs (i + 2)) (xs (i + 3))).1) = ρ2 at hm hth
  generalize xCounter τ (xs (i + 1)) (xs (i + 2)) (xs (i + 3)) = x at hw hm hcd hth hJ2
  refine hR.run0 (by omega) 5 (S' := (1214, [some (vR 98), some (vR 0), some (vR 100), some (vR 120), some (vI i), none, none], [vI (i + 1), vR 98, vR 0], LW τ κ τ ρ out)) rfl ?_
  refine hR.rd (by omega) hx.1 rfl rfl (by omega) ?_
  refine hR.run0 (by omega) 4 (S' := (1220, [some (vR 98), some (vR 0), some (vR 100), some (vR 120), some (vI i), none, none], [vI (i + 2), vR 98, vI (xs (i + 1)), vR 0], LW τ κ τ ρ out)) rfl ?_
  refine hR.rd (by omega) hx.1 rfl rfl (by omega) ?_
  refine hR.run0 (by omega) 4 (S' := (1226, [some (vR 98), some (vR 0), some (vR 100), some (vR 120), some (vI i), none, none], [vI (i + 3), vR 98, vI (xs (i + 2)), vI (xs (i + 1)), vR 0], LW τ κ τ ρ out)) rfl ?_
  refine hR.rd (by omega) hx.1 rfl rfl (by omega) ?_
  refine hR.cw hk [vR 0, vI (xs (i + 1)), vI (xs (i + 2)), vI (xs (i + 3))] kS_180 rfl rfl (by decide) (Nat.le_of_ble_eq_true rfl) (by decide) rfl hw ?_
  refine hR.run0 (by omega) 6 (S' := (1238, [some (vR 98), some (vR 0), some (vR 100), some (vR 120), some (vI i), some (vI x.1), none], [vI (i + 1), vR 98, vR 100], LW x.2.2 κ τ ρ out)) rfl ?_
  refine hR.rd (by omega) hx.1 rfl rfl (by omega) ?_
  refine hR.run0 (by omega) 4 (S' := (1244, [some (vR 98), some (vR 0), some (vR 100), some (vR 120), some (vI i), some (vI x.1), none], [vI (i + 2), vR 98, vI (xs (i + 1)), vR 100], LW x.2.2 κ τ ρ out)) rfl ?_
  refine hR.rd (by omega) hx.1 rfl rfl (by omega) ?_
  refine hR.run0 (by omega) 4 (S' := (1250, [some (vR 98), some (vR 0), some (vR 100), some (vR 120), some (vI i), some (vI x.1), none], [vI (i + 3), vR 98, vI (xs (i + 2)), vI (xs (i + 1)), vR 100], LW x.2.2 κ τ ρ out)) rfl ?_
  refine hR.rd (by omega) hx.1 rfl rfl (by omega) ?_
  refine hR.cv (by omega) [vI (xs (i + 1)), vI (xs (i + 2)), vI (xs (i + 3))] kL_182 rfl rfl ⟨_, _, _, rfl, rfl, rfl⟩ (by decide) (Nat.le_of_ble_eq_true rfl) (by decide) rfl (hm _ _ _) ?_
  refine hR.run0 (by omega) 1 (S' := (1255, [some (vR 98), some (vR 0), some (vR 100), some (vR 120), some (vI i), some (vI x.1), none], [vR 100], LW x.2.2 κ x.2.2 ρ2 out)) rfl ?_
  refine hR.cv (by omega) [] kL_127 rfl rfl ⟨_, _, _, rfl, rfl, rfl⟩ (by decide) (Nat.le_of_ble_eq_true rfl) (by decide) rfl (frM hro (sr_thrown _ _)) ?_
  show G (k + 1) (1258, [some (vR 98), some (vR 0), some (vR 100), some (vR 120), some (vI i), some (vI x.1), none], [vI (ρ2.1 0)], LW x.2.2 κ x.2.2 ρ2 out)
  rw [hth]
  refine hR.run0 (by omega) 1 (S' := (1260, [some (vR 98), some (vR 0), some (vR 100), some (vR 120), some (vI i), some (vI x.1), none], [vI x.1, vI x.1], LW x.2.2 κ x.2.2 ρ2 out)) rfl ?_
  refine hR.br (by omega) (C := x.1 = x.1) rfl (by omega) (fun _ => ?_) (fun h => absurd rfl h)
  refine hR.run0 (by omega) 1 (S' := (2248, [some (vR 98), some (vR 0), some (vR 100), some (vR 120), some (vI i), some (vI x.1), none], [], LW x.2.2 κ x.2.2 ρ2 out)) rfl ?_
  refine hR.2.2.2.2.2.2 _ 5 _ _ _ _ ?_
  exact kont _ _ _ _ _ (Nat.le_refl _) hJ2
theorem kS_183 : sLinkW RL 183 mL_accept hhL_accept 3 := ⟨gT_at 726 (by decide +kernel) (by decide +kernel), gT_at 727 (by decide +kernel) (by decide +kernel), gT_at 0 (by decide +kernel) (by decide +kernel), gT_at 728 (by decide +kernel) (by decide +kernel), ⟨by decide +kernel, by decide +kernel, by decide +kernel⟩⟩
theorem kL_185 : vLink RL 185 mX6_accept 1 := ⟨gT_at 1241 (by decide +kernel) (by decide +kernel), wX6_accept⟩
set_option maxHeartbeats 4000000 in
theorem cs_accept {xs : Int → Int} {N : Nat} {G : Nat → PS → Prop} (hRs : ∀ tb : PT, (∀ q ∈ tb, decode code q.1 = .ok (q.2.1, q.2.2)) → Rl lkL ((98, N, xs) :: roC) tb 100 G) (hx : N ≤ 2048 ∧ ∀ j, -2147483648 ≤ xs j ∧ xs j ≤ 2147483647) {τ κ ρ : St} {out : Int → Int} (hJ : Jv τ κ) {k : Nat} (hk : k < 600) {i : Int} (hi : 0 ≤ i ∧ i + 4 ≤ N) (kont : ∀ (τ κ ρ : St) (out : Int → Int) (j : Nat), j ≤ k + 1 → Jv τ κ → G j (2248, Lh_ i, [], LW τ κ τ ρ out)) : G k (1268, Lh_ i, [], LW τ κ τ ρ out) := by
  have hR := hRs bc_accept tc_accept
  have hN := hx.1
  have hxr := hx.2
  have hr1 := hxr (i + 1)
  have hro : ∀ q ∈ roC, q ∈ ((98, N, xs) :: roC : PRO) := fun q hq => List.mem_cons_of_mem _ hq
  have hw := wL_accept τ κ τ ρ out hro hr1 hJ.1
  have hm := fun (σ κ2 : St) (out2 : Int → Int) => frM (σ := σ) (κ := κ2) (out := out2) hro (pX6_accept τ ρ hr1 hJ.1)
  have hcd := cd_xAccept τ (xs (i + 1))
  have hth : (sS ρ 0 (xAccept τ (xs (i + 1))).1).1 0 = (xAccept τ (xs (i + 1))).1 := sS_at0 _ _
  have hJ2 := J_accept hJ (xs (i + 1))
  generalize (sS ρ 0 (xAccept τ (xs (i + 1))).1) = ρ2 at hm hth
  generalize xAccept τ (xs (i + 1)) = x at hw hm hcd hth hJ2
  generalize (kAccept κ τ (xs (i + 1))) = κ2 at hw hJ2
  refine hR.run0 (by omega) 5 (S' := (1274, [some (vR 98), some (vR 0), some (vR 100), some (vR 120), some (vI i), none, none], [vI (i + 1), vR 98, vR 0], LW τ κ τ ρ out)) rfl ?_
  refine hR.rd (by omega) hx.1 rfl rfl (by omega) ?_
  refine hR.run0 (by omega) 1 (S' := (1276, [some (vR 98), some (vR 0), some (vR 100), some (vR 120), some (vI i), none, none], [vR 120, vI (xs (i + 1)), vR 0], LW τ κ τ ρ out)) rfl ?_
  refine hR.cw hk [vR 0, vI (xs (i + 1)), vR 120] kS_183 rfl rfl (by decide) (Nat.le_of_ble_eq_true rfl) (by decide) rfl hw ?_
  refine hR.run0 (by omega) 6 (S' := (1287, [some (vR 98), some (vR 0), some (vR 100), some (vR 120), some (vI i), some (vI x.1), none], [vI (i + 1), vR 98, vR 100], LW x.2.2 κ2 τ ρ (oP x out))) rfl ?_
  refine hR.rd (by omega) hx.1 rfl rfl (by omega) ?_
  refine hR.cv (by omega) [vI (xs (i + 1))] kL_185 rfl rfl ⟨_, _, _, rfl, rfl, rfl⟩ (by decide) (Nat.le_of_ble_eq_true rfl) (by decide) rfl (hm _ _ _) ?_
  show G (k + 1) (1291, [some (vR 98), some (vR 0), some (vR 100), some (vR 120), some (vI i), some (vI x.1), none], [vI x.2.1], LW x.2.2 κ2 x.2.2 ρ2 (oP x out))
  refine hR.2.2.2.2.2.1 _ _ _ _ _ _ ?_
  refine hR.run0 (by omega) 2 (S' := (1294, [some (vR 98), some (vR 0), some (vR 100), some (vR 120), some (vI i), some (vI x.1), some (vI (nmI x.2.1))], [vR 100], LW x.2.2 κ2 x.2.2 ρ2 (oP x out))) rfl ?_
  refine hR.cv (by omega) [] kL_127 rfl rfl ⟨_, _, _, rfl, rfl, rfl⟩ (by decide) (Nat.le_of_ble_eq_true rfl) (by decide) rfl (frM hro (sr_thrown _ _)) ?_
  show G (k + 1) (1297, [some (vR 98), some (vR 0), some (vR 100), some (vR 120), some (vI i), some (vI x.1), some (vI (nmI x.2.1))], [vI (ρ2.1 0)], LW x.2.2 κ2 x.2.2 ρ2 (oP x out))
  rw [hth]
  refine hR.run0 (by omega) 1 (S' := (1299, [some (vR 98), some (vR 0), some (vR 100), some (vR 120), some (vI i), some (vI x.1), some (vI (nmI x.2.1))], [vI x.1, vI x.1], LW x.2.2 κ2 x.2.2 ρ2 (oP x out))) rfl ?_
  refine hR.br (by omega) (C := x.1 = x.1) rfl (by omega) (fun _ => ?_) (fun h => absurd rfl h)
  refine hR.run0 (by omega) 1 (S' := (1306, [some (vR 98), some (vR 0), some (vR 100), some (vR 120), some (vI i), some (vI x.1), some (vI (nmI x.2.1))], [vI x.1], LW x.2.2 κ2 x.2.2 ρ2 (oP x out))) rfl ?_
  refine hR.br (by omega) (C := x.1 ≠ 0) rfl (by omega) (fun _ => ?_) (fun h => ?_)
  · skip
    refine hR.run0 (by omega) 1 (S' := (2248, [some (vR 98), some (vR 0), some (vR 100), some (vR 120), some (vI i), some (vI x.1), some (vI (nmI x.2.1))], [], LW x.2.2 κ2 x.2.2 ρ2 (oP x out))) rfl ?_
    refine hR.2.2.2.2.2.2 _ 5 _ _ _ _ ?_
    refine hR.2.2.2.2.2.2 _ 6 _ _ _ _ ?_
    exact kont _ _ _ _ _ (Nat.le_refl _) hJ2
  · have h0 : x.1 = 0 := by omega
    have ho := oP_0 (out := out) h0
    have hnr := nmI_r x.2.1
    refine hR.run1 (by omega) 6 (S' := (1316, [some (vR 98), some (vR 0), some (vR 100), some (vR 120), some (vI i), some (vI x.1), some (vI (nmI x.2.1))], [vI (if nmI x.2.1 < (oP x out) 0 then 1 else if (oP x out) 0 = nmI x.2.1 then 0 else -1)], LW x.2.2 κ2 x.2.2 ρ2 (oP x out))) rfl (by rw [ho]; omega) ?_
    refine hR.br (by omega) (C := (if nmI x.2.1 < (oP x out) 0 then (1 : Int) else if (oP x out) 0 = nmI x.2.1 then 0 else -1) = 0) rfl (by (repeat' split) <;> omega) (fun _ => ?_) (fun h => absurd (lc0.mpr ho) h)
    refine hR.run0 (by omega) 1 (S' := (2248, [some (vR 98), some (vR 0), some (vR 100), some (vR 120), some (vI i), some (vI x.1), some (vI (nmI x.2.1))], [], LW x.2.2 κ2 x.2.2 ρ2 (oP x out))) rfl ?_
    refine hR.2.2.2.2.2.2 _ 5 _ _ _ _ ?_
    refine hR.2.2.2.2.2.2 _ 6 _ _ _ _ ?_
    exact kont _ _ _ _ _ (Nat.le_refl _) hJ2
theorem kS_186 : sLinkW RL 186 mL_agree hhL_agree 3 := ⟨gT_at 750 (by decide +kernel) (by decide +kernel), gT_at 751 (by decide +kernel) (by decide +kernel), gT_at 0 (by decide +kernel) (by decide +kernel), gT_at 752 (by decide +kernel) (by decide +kernel), ⟨by decide +kernel, by decide +kernel, by decide +kernel⟩⟩
theorem kL_188 : vLink RL 188 mX6_agree 1 := ⟨gT_at 1245 (by decide +kernel) (by decide +kernel), wX6_agree⟩
set_option maxHeartbeats 4000000 in
theorem cs_agree {xs : Int → Int} {N : Nat} {G : Nat → PS → Prop} (hRs : ∀ tb : PT, (∀ q ∈ tb, decode code q.1 = .ok (q.2.1, q.2.2)) → Rl lkL ((98, N, xs) :: roC) tb 100 G) (hx : N ≤ 2048 ∧ ∀ j, -2147483648 ≤ xs j ∧ xs j ≤ 2147483647) {τ κ ρ : St} {out : Int → Int} (hJ : Jv τ κ) {k : Nat} (hk : k < 600) {i : Int} (hi : 0 ≤ i ∧ i + 4 ≤ N) (kont : ∀ (τ κ ρ : St) (out : Int → Int) (j : Nat), j ≤ k + 1 → Jv τ κ → G j (2248, Lh_ i, [], LW τ κ τ ρ out)) : G k (1324, Lh_ i, [], LW τ κ τ ρ out) := by
  have hR := hRs bc_agree tc_agree
  have hN := hx.1
  have hxr := hx.2
  have hr1 := hxr (i + 1)
  have hro : ∀ q ∈ roC, q ∈ ((98, N, xs) :: roC : PRO) := fun q hq => List.mem_cons_of_mem _ hq
  have hw := wL_agree τ κ τ ρ out hro hr1 hJ.1
  have hm := fun (σ κ2 : St) (out2 : Int → Int) => frM (σ := σ) (κ := κ2) (out := out2) hro (pX6_agree τ ρ hr1 hJ.1)
  have hcd := cd_xAgree τ (xs (i + 1))
  have hth : (sS ρ 0 (xAgree τ (xs (i + 1))).1).1 0 = (xAgree τ (xs (i + 1))).1 := sS_at0 _ _
  have hJ2 := J_agree hJ (xs (i + 1))
  generalize (sS ρ 0 (xAgree τ (xs (i + 1))).1) = ρ2 at hm hth
  generalize xAgree τ (xs (i + 1)) = x at hw hm hcd hth hJ2
  generalize (kAgree κ τ (xs (i + 1))) = κ2 at hw hJ2
  refine hR.run0 (by omega) 5 (S' := (1330, [some (vR 98), some (vR 0), some (vR 100), some (vR 120), some (vI i), none, none], [vI (i + 1), vR 98, vR 0], LW τ κ τ ρ out)) rfl ?_
  refine hR.rd (by omega) hx.1 rfl rfl (by omega) ?_
  refine hR.run0 (by omega) 1 (S' := (1332, [some (vR 98), some (vR 0), some (vR 100), some (vR 120), some (vI i), none, none], [vR 120, vI (xs (i + 1)), vR 0], LW τ κ τ ρ out)) rfl ?_
  refine hR.cw hk [vR 0, vI (xs (i + 1)), vR 120] kS_186 rfl rfl (by decide) (Nat.le_of_ble_eq_true rfl) (by decide) rfl hw ?_
  refine hR.run0 (by omega) 6 (S' := (1343, [some (vR 98), some (vR 0), some (vR 100), some (vR 120), some (vI i), some (vI x.1), none], [vI (i + 1), vR 98, vR 100], LW x.2.2 κ2 τ ρ (oP x out))) rfl ?_
  refine hR.rd (by omega) hx.1 rfl rfl (by omega) ?_
  refine hR.cv (by omega) [vI (xs (i + 1))] kL_188 rfl rfl ⟨_, _, _, rfl, rfl, rfl⟩ (by decide) (Nat.le_of_ble_eq_true rfl) (by decide) rfl (hm _ _ _) ?_
  show G (k + 1) (1347, [some (vR 98), some (vR 0), some (vR 100), some (vR 120), some (vI i), some (vI x.1), none], [vI x.2.1], LW x.2.2 κ2 x.2.2 ρ2 (oP x out))
  refine hR.2.2.2.2.2.1 _ _ _ _ _ _ ?_
  refine hR.run0 (by omega) 2 (S' := (1350, [some (vR 98), some (vR 0), some (vR 100), some (vR 120), some (vI i), some (vI x.1), some (vI (nmI x.2.1))], [vR 100], LW x.2.2 κ2 x.2.2 ρ2 (oP x out))) rfl ?_
  refine hR.cv (by omega) [] kL_127 rfl rfl ⟨_, _, _, rfl, rfl, rfl⟩ (by decide) (Nat.le_of_ble_eq_true rfl) (by decide) rfl (frM hro (sr_thrown _ _)) ?_
  show G (k + 1) (1353, [some (vR 98), some (vR 0), some (vR 100), some (vR 120), some (vI i), some (vI x.1), some (vI (nmI x.2.1))], [vI (ρ2.1 0)], LW x.2.2 κ2 x.2.2 ρ2 (oP x out))
  rw [hth]
  refine hR.run0 (by omega) 1 (S' := (1355, [some (vR 98), some (vR 0), some (vR 100), some (vR 120), some (vI i), some (vI x.1), some (vI (nmI x.2.1))], [vI x.1, vI x.1], LW x.2.2 κ2 x.2.2 ρ2 (oP x out))) rfl ?_
  refine hR.br (by omega) (C := x.1 = x.1) rfl (by omega) (fun _ => ?_) (fun h => absurd rfl h)
  refine hR.run0 (by omega) 1 (S' := (1362, [some (vR 98), some (vR 0), some (vR 100), some (vR 120), some (vI i), some (vI x.1), some (vI (nmI x.2.1))], [vI x.1], LW x.2.2 κ2 x.2.2 ρ2 (oP x out))) rfl ?_
  refine hR.br (by omega) (C := x.1 ≠ 0) rfl (by omega) (fun _ => ?_) (fun h => ?_)
  · skip
    refine hR.run0 (by omega) 1 (S' := (2248, [some (vR 98), some (vR 0), some (vR 100), some (vR 120), some (vI i), some (vI x.1), some (vI (nmI x.2.1))], [], LW x.2.2 κ2 x.2.2 ρ2 (oP x out))) rfl ?_
    refine hR.2.2.2.2.2.2 _ 5 _ _ _ _ ?_
    refine hR.2.2.2.2.2.2 _ 6 _ _ _ _ ?_
    exact kont _ _ _ _ _ (Nat.le_refl _) hJ2
  · have h0 : x.1 = 0 := by omega
    have ho := oP_0 (out := out) h0
    have hnr := nmI_r x.2.1
    refine hR.run1 (by omega) 6 (S' := (1372, [some (vR 98), some (vR 0), some (vR 100), some (vR 120), some (vI i), some (vI x.1), some (vI (nmI x.2.1))], [vI (if nmI x.2.1 < (oP x out) 0 then 1 else if (oP x out) 0 = nmI x.2.1 then 0 else -1)], LW x.2.2 κ2 x.2.2 ρ2 (oP x out))) rfl (by rw [ho]; omega) ?_
    refine hR.br (by omega) (C := (if nmI x.2.1 < (oP x out) 0 then (1 : Int) else if (oP x out) 0 = nmI x.2.1 then 0 else -1) = 0) rfl (by (repeat' split) <;> omega) (fun _ => ?_) (fun h => absurd (lc0.mpr ho) h)
    refine hR.run0 (by omega) 1 (S' := (2248, [some (vR 98), some (vR 0), some (vR 100), some (vR 120), some (vI i), some (vI x.1), some (vI (nmI x.2.1))], [], LW x.2.2 κ2 x.2.2 ρ2 (oP x out))) rfl ?_
    refine hR.2.2.2.2.2.2 _ 5 _ _ _ _ ?_
    refine hR.2.2.2.2.2.2 _ 6 _ _ _ _ ?_
    exact kont _ _ _ _ _ (Nat.le_refl _) hJ2
theorem kS_189 : sLinkW RL 189 mL_endTurn hhL_endTurn 2 := ⟨gT_at 770 (by decide +kernel) (by decide +kernel), gT_at 771 (by decide +kernel) (by decide +kernel), gT_at 0 (by decide +kernel) (by decide +kernel), gT_at 772 (by decide +kernel) (by decide +kernel), ⟨by decide +kernel, by decide +kernel, by decide +kernel⟩⟩
theorem kL_191 : vLink RL 191 mX6_endTurn 0 := ⟨gT_at 1249 (by decide +kernel) (by decide +kernel), wX6_endTurn⟩
set_option maxHeartbeats 4000000 in
theorem cs_endTurn {xs : Int → Int} {N : Nat} {G : Nat → PS → Prop} (hRs : ∀ tb : PT, (∀ q ∈ tb, decode code q.1 = .ok (q.2.1, q.2.2)) → Rl lkL ((98, N, xs) :: roC) tb 100 G) (hx : N ≤ 2048 ∧ ∀ j, -2147483648 ≤ xs j ∧ xs j ≤ 2147483647) {τ κ ρ : St} {out : Int → Int} (hJ : Jv τ κ) {k : Nat} (hk : k < 600) {i : Int} (hi : 0 ≤ i ∧ i + 4 ≤ N) (kont : ∀ (τ κ ρ : St) (out : Int → Int) (j : Nat), j ≤ k + 1 → Jv τ κ → G j (2248, Lh_ i, [], LW τ κ τ ρ out)) : G k (1380, Lh_ i, [], LW τ κ τ ρ out) := by
  have hR := hRs bc_endTurn tc_endTurn
  have hN := hx.1
  have hxr := hx.2
  have hro : ∀ q ∈ roC, q ∈ ((98, N, xs) :: roC : PRO) := fun q hq => List.mem_cons_of_mem _ hq
  have hw := wL_endTurn τ κ τ ρ out hro hJ.1
  have hm := fun (σ κ2 : St) (out2 : Int → Int) => frM (σ := σ) (κ := κ2) (out := out2) hro (pX6_endTurn τ ρ hJ.1)
  have hcd := cd_xEnd τ
  have hth : (sS ρ 0 (xEnd τ).1).1 0 = (xEnd τ).1 := sS_at0 _ _
  have hJ2 := J_endTurn hJ
  generalize (sS ρ 0 (xEnd τ).1) = ρ2 at hm hth
  generalize xEnd τ = x at hw hm hcd hth hJ2
  refine hR.run0 (by omega) 2 (S' := (1382, [some (vR 98), some (vR 0), some (vR 100), some (vR 120), some (vI i), none, none], [vR 120, vR 0], LW τ κ τ ρ out)) rfl ?_
  refine hR.cw hk [vR 0, vR 120] kS_189 rfl rfl (by decide) (Nat.le_of_ble_eq_true rfl) (by decide) rfl hw ?_
  refine hR.run0 (by omega) 2 (S' := (1388, [some (vR 98), some (vR 0), some (vR 100), some (vR 120), some (vI i), some (vI x.1), none], [vR 100], LW x.2.2 κ τ ρ (oP x out))) rfl ?_
  refine hR.cv (by omega) [] kL_191 rfl rfl ⟨_, _, _, rfl, rfl, rfl⟩ (by decide) (Nat.le_of_ble_eq_true rfl) (by decide) rfl (hm _ _ _) ?_
  show G (k + 1) (1391, [some (vR 98), some (vR 0), some (vR 100), some (vR 120), some (vI i), some (vI x.1), none], [vI x.2.1], LW x.2.2 κ x.2.2 ρ2 (oP x out))
  refine hR.2.2.2.2.2.1 _ _ _ _ _ _ ?_
  refine hR.run0 (by omega) 2 (S' := (1394, [some (vR 98), some (vR 0), some (vR 100), some (vR 120), some (vI i), some (vI x.1), some (vI (nmI x.2.1))], [vR 100], LW x.2.2 κ x.2.2 ρ2 (oP x out))) rfl ?_
  refine hR.cv (by omega) [] kL_127 rfl rfl ⟨_, _, _, rfl, rfl, rfl⟩ (by decide) (Nat.le_of_ble_eq_true rfl) (by decide) rfl (frM hro (sr_thrown _ _)) ?_
  show G (k + 1) (1397, [some (vR 98), some (vR 0), some (vR 100), some (vR 120), some (vI i), some (vI x.1), some (vI (nmI x.2.1))], [vI (ρ2.1 0)], LW x.2.2 κ x.2.2 ρ2 (oP x out))
  rw [hth]
  refine hR.run0 (by omega) 1 (S' := (1399, [some (vR 98), some (vR 0), some (vR 100), some (vR 120), some (vI i), some (vI x.1), some (vI (nmI x.2.1))], [vI x.1, vI x.1], LW x.2.2 κ x.2.2 ρ2 (oP x out))) rfl ?_
  refine hR.br (by omega) (C := x.1 = x.1) rfl (by omega) (fun _ => ?_) (fun h => absurd rfl h)
  refine hR.run0 (by omega) 1 (S' := (1406, [some (vR 98), some (vR 0), some (vR 100), some (vR 120), some (vI i), some (vI x.1), some (vI (nmI x.2.1))], [vI x.1], LW x.2.2 κ x.2.2 ρ2 (oP x out))) rfl ?_
  refine hR.br (by omega) (C := x.1 ≠ 0) rfl (by omega) (fun _ => ?_) (fun h => ?_)
  · skip
    refine hR.run0 (by omega) 1 (S' := (2248, [some (vR 98), some (vR 0), some (vR 100), some (vR 120), some (vI i), some (vI x.1), some (vI (nmI x.2.1))], [], LW x.2.2 κ x.2.2 ρ2 (oP x out))) rfl ?_
    refine hR.2.2.2.2.2.2 _ 5 _ _ _ _ ?_
    refine hR.2.2.2.2.2.2 _ 6 _ _ _ _ ?_
    exact kont _ _ _ _ _ (Nat.le_refl _) hJ2
  · have h0 : x.1 = 0 := by omega
    have ho := oP_0 (out := out) h0
    have hnr := nmI_r x.2.1
    refine hR.run1 (by omega) 6 (S' := (1416, [some (vR 98), some (vR 0), some (vR 100), some (vR 120), some (vI i), some (vI x.1), some (vI (nmI x.2.1))], [vI (if nmI x.2.1 < (oP x out) 0 then 1 else if (oP x out) 0 = nmI x.2.1 then 0 else -1)], LW x.2.2 κ x.2.2 ρ2 (oP x out))) rfl (by rw [ho]; omega) ?_
    refine hR.br (by omega) (C := (if nmI x.2.1 < (oP x out) 0 then (1 : Int) else if (oP x out) 0 = nmI x.2.1 then 0 else -1) = 0) rfl (by (repeat' split) <;> omega) (fun _ => ?_) (fun h => absurd (lc0.mpr ho) h)
    refine hR.run0 (by omega) 1 (S' := (2248, [some (vR 98), some (vR 0), some (vR 100), some (vR 120), some (vI i), some (vI x.1), some (vI (nmI x.2.1))], [], LW x.2.2 κ x.2.2 ρ2 (oP x out))) rfl ?_
    refine hR.2.2.2.2.2.2 _ 5 _ _ _ _ ?_
    refine hR.2.2.2.2.2.2 _ 6 _ _ _ _ ?_
    exact kont _ _ _ _ _ (Nat.le_refl _) hJ2
theorem kL_192 : vLink RL 192 mX5_phase 0 := ⟨gT_at 161 (by decide +kernel) (by decide +kernel), wX5_phase⟩
theorem kL_195 : vLink RL 195 mX6_phase 0 := ⟨gT_at 1253 (by decide +kernel) (by decide +kernel), wX6_phase⟩
theorem cs_phase {xs : Int → Int} {N : Nat} {G : Nat → PS → Prop} (hRs : ∀ tb : PT, (∀ q ∈ tb, decode code q.1 = .ok (q.2.1, q.2.2)) → Rl lkL ((98, N, xs) :: roC) tb 100 G) (hx : N ≤ 2048 ∧ ∀ j, -2147483648 ≤ xs j ∧ xs j ≤ 2147483647) {τ κ ρ : St} {out : Int → Int} (hJ : Jv τ κ) {k : Nat} (hk : k < 600) {i : Int} (hi : 0 ≤ i ∧ i + 4 ≤ N) (kont : ∀ (τ κ ρ : St) (out : Int → Int) (j : Nat), j ≤ k + 1 → Jv τ κ → G j (2248, Lh_ i, [], LW τ κ τ ρ out)) : G k (1424, Lh_ i, [], LW τ κ τ ρ out) := by
  have hR := hRs bc_phase tc_phase
  have hro : ∀ q ∈ roC, q ∈ ((98, N, xs) :: roC : PRO) := fun q hq => List.mem_cons_of_mem _ hq
  have hrg := hJ.1.hph
  have h1 : Sp mX5_phase ((98, N, xs) :: roC) 0 [vR 0] (LW τ κ τ ρ out) (.inl (some (vI (τ.1 0)))) (LW τ κ τ ρ out) := frC hro (pX5_phase τ κ hJ.1)
  have h2 : Sp mX6_phase ((98, N, xs) :: roC) 0 [vR 100] (LW τ κ τ ρ out) (.inl (some (vI (τ.1 0)))) (LW τ κ τ (sS ρ 0 0) out) := frM hro (pX6_phase τ ρ hJ.1)
  refine hR.run0 (by omega) 1 (S' := (1425, [some (vR 98), some (vR 0), some (vR 100), some (vR 120), some (vI i), none, none], [vR 0], LW τ κ τ ρ out)) rfl ?_
  refine hR.cv (by omega) [] kL_192 rfl rfl ⟨_, _, _, rfl, rfl, rfl⟩ (by decide) (Nat.le_of_ble_eq_true rfl) (by decide) rfl h1 ?_
  refine hR.run0 (by omega) 1 (S' := (1429, [some (vR 98), some (vR 0), some (vR 100), some (vR 120), some (vI i), none, none], [vR 100, vI (τ.1 0)], LW τ κ τ ρ out)) rfl ?_
  refine hR.cv (by omega) [] kL_195 rfl rfl ⟨_, _, _, rfl, rfl, rfl⟩ (by decide) (Nat.le_of_ble_eq_true rfl) (Nat.le_of_ble_eq_true rfl) rfl h2 ?_
  refine hR.br (by omega) (C := τ.1 0 = τ.1 0) rfl (by omega) (fun _ => ?_) (fun h => absurd rfl h)
  exact kont _ _ _ _ _ (Nat.le_succ _) hJ
theorem kL_196 : vLink RL 196 mX5_turn 0 := ⟨gT_at 165 (by decide +kernel) (by decide +kernel), wX5_turn⟩
theorem kL_199 : vLink RL 199 mX6_turn 0 := ⟨gT_at 1257 (by decide +kernel) (by decide +kernel), wX6_turn⟩
theorem cs_turn {xs : Int → Int} {N : Nat} {G : Nat → PS → Prop} (hRs : ∀ tb : PT, (∀ q ∈ tb, decode code q.1 = .ok (q.2.1, q.2.2)) → Rl lkL ((98, N, xs) :: roC) tb 100 G) (hx : N ≤ 2048 ∧ ∀ j, -2147483648 ≤ xs j ∧ xs j ≤ 2147483647) {τ κ ρ : St} {out : Int → Int} (hJ : Jv τ κ) {k : Nat} (hk : k < 600) {i : Int} (hi : 0 ≤ i ∧ i + 4 ≤ N) (kont : ∀ (τ κ ρ : St) (out : Int → Int) (j : Nat), j ≤ k + 1 → Jv τ κ → G j (2248, Lh_ i, [], LW τ κ τ ρ out)) : G k (1437, Lh_ i, [], LW τ κ τ ρ out) := by
  have hR := hRs bc_turn tc_turn
  have hro : ∀ q ∈ roC, q ∈ ((98, N, xs) :: roC : PRO) := fun q hq => List.mem_cons_of_mem _ hq
  have hrg := hJ.1.htu
  have h1 : Sp mX5_turn ((98, N, xs) :: roC) 0 [vR 0] (LW τ κ τ ρ out) (.inl (some (vI (τ.1 1)))) (LW τ κ τ ρ out) := frC hro (pX5_turn τ κ hJ.1)
  have h2 : Sp mX6_turn ((98, N, xs) :: roC) 0 [vR 100] (LW τ κ τ ρ out) (.inl (some (vI (τ.1 1)))) (LW τ κ τ (sS ρ 0 0) out) := frM hro (pX6_turn τ ρ hJ.1)
  refine hR.run0 (by omega) 1 (S' := (1438, [some (vR 98), some (vR 0), some (vR 100), some (vR 120), some (vI i), none, none], [vR 0], LW τ κ τ ρ out)) rfl ?_
  refine hR.cv (by omega) [] kL_196 rfl rfl ⟨_, _, _, rfl, rfl, rfl⟩ (by decide) (Nat.le_of_ble_eq_true rfl) (by decide) rfl h1 ?_
  refine hR.run0 (by omega) 1 (S' := (1442, [some (vR 98), some (vR 0), some (vR 100), some (vR 120), some (vI i), none, none], [vR 100, vI (τ.1 1)], LW τ κ τ ρ out)) rfl ?_
  refine hR.cv (by omega) [] kL_199 rfl rfl ⟨_, _, _, rfl, rfl, rfl⟩ (by decide) (Nat.le_of_ble_eq_true rfl) (Nat.le_of_ble_eq_true rfl) rfl h2 ?_
  refine hR.br (by omega) (C := τ.1 1 = τ.1 1) rfl (by omega) (fun _ => ?_) (fun h => absurd rfl h)
  exact kont _ _ _ _ _ (Nat.le_succ _) hJ
theorem kS_200 : sLinkW RL 200 mL_hand hhL_hand 4 := ⟨gT_at 781 (by decide +kernel) (by decide +kernel), gT_at 782 (by decide +kernel) (by decide +kernel), gT_at 0 (by decide +kernel) (by decide +kernel), gT_at 783 (by decide +kernel) (by decide +kernel), ⟨by decide +kernel, by decide +kernel, by decide +kernel⟩⟩
theorem kL_202 : vLink RL 202 mX6_hand 2 := ⟨gT_at 1261 (by decide +kernel) (by decide +kernel), wX6_hand⟩
set_option maxHeartbeats 4000000 in
theorem cs_hand {xs : Int → Int} {N : Nat} {G : Nat → PS → Prop} (hRs : ∀ tb : PT, (∀ q ∈ tb, decode code q.1 = .ok (q.2.1, q.2.2)) → Rl lkL ((98, N, xs) :: roC) tb 100 G) (hx : N ≤ 2048 ∧ ∀ j, -2147483648 ≤ xs j ∧ xs j ≤ 2147483647) {τ κ ρ : St} {out : Int → Int} (hJ : Jv τ κ) {k : Nat} (hk : k < 600) {i : Int} (hi : 0 ≤ i ∧ i + 4 ≤ N) (kont : ∀ (τ κ ρ : St) (out : Int → Int) (j : Nat), j ≤ k + 1 → Jv τ κ → G j (2248, Lh_ i, [], LW τ κ τ ρ out)) : G k (1450, Lh_ i, [], LW τ κ τ ρ out) := by
  have hR := hRs bc_hand tc_hand
  have hN := hx.1
  have hxr := hx.2
  have hr1 := hxr (i + 1)
  have hr2 := hxr (i + 2)
  have hro : ∀ q ∈ roC, q ∈ ((98, N, xs) :: roC : PRO) := fun q hq => List.mem_cons_of_mem _ hq
  have hw := wL_hand τ κ τ ρ out hro hr1 hr2 hJ.1
  have hm := fun (σ κ2 : St) (out2 : Int → Int) => frM (σ := σ) (κ := κ2) (out := out2) hro (pX6_hand τ ρ hr1 hr2 hJ.1)
  have hcd := cd_xHand τ (xs (i + 1)) (xs (i + 2))
  have hth : (sS ρ 0 (xHand τ (xs (i + 1)) (xs (i + 2))).1).1 0 = (xHand τ (xs (i + 1)) (xs (i + 2))).1 := sS_at0 _ _
  have hJ2 := J_hand hJ (xs (i + 1)) (xs (i + 2))
  generalize (sS ρ 0 (xHand τ (xs (i + 1)) (xs (i + 2))).1) = ρ2 at hm hth
  generalize xHand τ (xs (i + 1)) (xs (i + 2)) = x at hw hm hcd hth hJ2
  refine hR.run0 (by omega) 5 (S' := (1456, [some (vR 98), some (vR 0), some (vR 100), some (vR 120), some (vI i), none, none], [vI (i + 1), vR 98, vR 0], LW τ κ τ ρ out)) rfl ?_
  refine hR.rd (by omega) hx.1 rfl rfl (by omega) ?_
  refine hR.run0 (by omega) 4 (S' := (1462, [some (vR 98), some (vR 0), some (vR 100), some (vR 120), some (vI i), none, none], [vI (i + 2), vR 98, vI (xs (i + 1)), vR 0], LW τ κ τ ρ out)) rfl ?_
  refine hR.rd (by omega) hx.1 rfl rfl (by omega) ?_
  refine hR.run0 (by omega) 1 (S' := (1464, [some (vR 98), some (vR 0), some (vR 100), some (vR 120), some (vI i), none, none], [vR 120, vI (xs (i + 2)), vI (xs (i + 1)), vR 0], LW τ κ τ ρ out)) rfl ?_
  refine hR.cw hk [vR 0, vI (xs (i + 1)), vI (xs (i + 2)), vR 120] kS_200 rfl rfl (by decide) (Nat.le_of_ble_eq_true rfl) (by decide) rfl hw ?_
  refine hR.run0 (by omega) 6 (S' := (1475, [some (vR 98), some (vR 0), some (vR 100), some (vR 120), some (vI i), some (vI x.1), none], [vI (i + 1), vR 98, vR 100], LW x.2.2 κ τ ρ (oP x out))) rfl ?_
  refine hR.rd (by omega) hx.1 rfl rfl (by omega) ?_
  refine hR.run0 (by omega) 4 (S' := (1481, [some (vR 98), some (vR 0), some (vR 100), some (vR 120), some (vI i), some (vI x.1), none], [vI (i + 2), vR 98, vI (xs (i + 1)), vR 100], LW x.2.2 κ τ ρ (oP x out))) rfl ?_
  refine hR.rd (by omega) hx.1 rfl rfl (by omega) ?_
  refine hR.cv (by omega) [vI (xs (i + 1)), vI (xs (i + 2))] kL_202 rfl rfl ⟨_, _, _, rfl, rfl, rfl⟩ (by decide) (Nat.le_of_ble_eq_true rfl) (by decide) rfl (hm _ _ _) ?_
  show G (k + 1) (1485, [some (vR 98), some (vR 0), some (vR 100), some (vR 120), some (vI i), some (vI x.1), none], [vI x.2.1], LW x.2.2 κ x.2.2 ρ2 (oP x out))
  refine hR.2.2.2.2.2.1 _ _ _ _ _ _ ?_
  refine hR.run0 (by omega) 2 (S' := (1488, [some (vR 98), some (vR 0), some (vR 100), some (vR 120), some (vI i), some (vI x.1), some (vI (nmI x.2.1))], [vR 100], LW x.2.2 κ x.2.2 ρ2 (oP x out))) rfl ?_
  refine hR.cv (by omega) [] kL_127 rfl rfl ⟨_, _, _, rfl, rfl, rfl⟩ (by decide) (Nat.le_of_ble_eq_true rfl) (by decide) rfl (frM hro (sr_thrown _ _)) ?_
  show G (k + 1) (1491, [some (vR 98), some (vR 0), some (vR 100), some (vR 120), some (vI i), some (vI x.1), some (vI (nmI x.2.1))], [vI (ρ2.1 0)], LW x.2.2 κ x.2.2 ρ2 (oP x out))
  rw [hth]
  refine hR.run0 (by omega) 1 (S' := (1493, [some (vR 98), some (vR 0), some (vR 100), some (vR 120), some (vI i), some (vI x.1), some (vI (nmI x.2.1))], [vI x.1, vI x.1], LW x.2.2 κ x.2.2 ρ2 (oP x out))) rfl ?_
  refine hR.br (by omega) (C := x.1 = x.1) rfl (by omega) (fun _ => ?_) (fun h => absurd rfl h)
  refine hR.run0 (by omega) 1 (S' := (1500, [some (vR 98), some (vR 0), some (vR 100), some (vR 120), some (vI i), some (vI x.1), some (vI (nmI x.2.1))], [vI x.1], LW x.2.2 κ x.2.2 ρ2 (oP x out))) rfl ?_
  refine hR.br (by omega) (C := x.1 ≠ 0) rfl (by omega) (fun _ => ?_) (fun h => ?_)
  · skip
    refine hR.run0 (by omega) 1 (S' := (2248, [some (vR 98), some (vR 0), some (vR 100), some (vR 120), some (vI i), some (vI x.1), some (vI (nmI x.2.1))], [], LW x.2.2 κ x.2.2 ρ2 (oP x out))) rfl ?_
    refine hR.2.2.2.2.2.2 _ 5 _ _ _ _ ?_
    refine hR.2.2.2.2.2.2 _ 6 _ _ _ _ ?_
    exact kont _ _ _ _ _ (Nat.le_refl _) hJ2
  · have h0 : x.1 = 0 := by omega
    have ho := oP_0 (out := out) h0
    have hnr := nmI_r x.2.1
    refine hR.run1 (by omega) 6 (S' := (1510, [some (vR 98), some (vR 0), some (vR 100), some (vR 120), some (vI i), some (vI x.1), some (vI (nmI x.2.1))], [vI (if nmI x.2.1 < (oP x out) 0 then 1 else if (oP x out) 0 = nmI x.2.1 then 0 else -1)], LW x.2.2 κ x.2.2 ρ2 (oP x out))) rfl (by rw [ho]; omega) ?_
    refine hR.br (by omega) (C := (if nmI x.2.1 < (oP x out) 0 then (1 : Int) else if (oP x out) 0 = nmI x.2.1 then 0 else -1) = 0) rfl (by (repeat' split) <;> omega) (fun _ => ?_) (fun h => absurd (lc0.mpr ho) h)
    refine hR.run0 (by omega) 1 (S' := (2248, [some (vR 98), some (vR 0), some (vR 100), some (vR 120), some (vI i), some (vI x.1), some (vI (nmI x.2.1))], [], LW x.2.2 κ x.2.2 ρ2 (oP x out))) rfl ?_
    refine hR.2.2.2.2.2.2 _ 5 _ _ _ _ ?_
    refine hR.2.2.2.2.2.2 _ 6 _ _ _ _ ?_
    exact kont _ _ _ _ _ (Nat.le_refl _) hJ2
theorem kS_203 : sLinkW RL 203 mL_handByMoves hhL_handByMoves 4 := ⟨gT_at 791 (by decide +kernel) (by decide +kernel), gT_at 792 (by decide +kernel) (by decide +kernel), gT_at 0 (by decide +kernel) (by decide +kernel), gT_at 793 (by decide +kernel) (by decide +kernel), ⟨by decide +kernel, by decide +kernel, by decide +kernel⟩⟩
theorem kL_205 : vLink RL 205 mX6_handByMoves 2 := ⟨gT_at 1269 (by decide +kernel) (by decide +kernel), wX6_handByMoves⟩
set_option maxHeartbeats 4000000 in
theorem cs_handByMoves {xs : Int → Int} {N : Nat} {G : Nat → PS → Prop} (hRs : ∀ tb : PT, (∀ q ∈ tb, decode code q.1 = .ok (q.2.1, q.2.2)) → Rl lkL ((98, N, xs) :: roC) tb 100 G) (hx : N ≤ 2048 ∧ ∀ j, -2147483648 ≤ xs j ∧ xs j ≤ 2147483647) {τ κ ρ : St} {out : Int → Int} (hJ : Jv τ κ) {k : Nat} (hk : k < 600) {i : Int} (hi : 0 ≤ i ∧ i + 4 ≤ N) (kont : ∀ (τ κ ρ : St) (out : Int → Int) (j : Nat), j ≤ k + 1 → Jv τ κ → G j (2248, Lh_ i, [], LW τ κ τ ρ out)) : G k (1518, Lh_ i, [], LW τ κ τ ρ out) := by
  have hR := hRs bc_handByMoves tc_handByMoves
  have hN := hx.1
  have hxr := hx.2
  have hr1 := hxr (i + 1)
  have hr2 := hxr (i + 2)
  have hro : ∀ q ∈ roC, q ∈ ((98, N, xs) :: roC : PRO) := fun q hq => List.mem_cons_of_mem _ hq
  have hw := wL_handByMoves τ κ τ ρ out hro hr1 hr2 hJ.1
  rw [xHandK_eq hJ] at hw
  have hm := fun (σ κ2 : St) (out2 : Int → Int) => frM (σ := σ) (κ := κ2) (out := out2) hro (pX6_handByMoves τ ρ hr1 hr2 hJ.1)
  have hcd := cd_xHand τ (xs (i + 1)) (xs (i + 2))
  have hth : (sS ρ 0 (xHand τ (xs (i + 1)) (xs (i + 2))).1).1 0 = (xHand τ (xs (i + 1)) (xs (i + 2))).1 := sS_at0 _ _
  have hJ2 := J_handByMoves hJ (xs (i + 1)) (xs (i + 2))
  generalize (sS ρ 0 (xHand τ (xs (i + 1)) (xs (i + 2))).1) = ρ2 at hm hth
  generalize xHand τ (xs (i + 1)) (xs (i + 2)) = x at hw hm hcd hth hJ2
  refine hR.run0 (by omega) 5 (S' := (1524, [some (vR 98), some (vR 0), some (vR 100), some (vR 120), some (vI i), none, none], [vI (i + 1), vR 98, vR 0], LW τ κ τ ρ out)) rfl ?_
  refine hR.rd (by omega) hx.1 rfl rfl (by omega) ?_
  refine hR.run0 (by omega) 4 (S' := (1530, [some (vR 98), some (vR 0), some (vR 100), some (vR 120), some (vI i), none, none], [vI (i + 2), vR 98, vI (xs (i + 1)), vR 0], LW τ κ τ ρ out)) rfl ?_
  refine hR.rd (by omega) hx.1 rfl rfl (by omega) ?_
  refine hR.run0 (by omega) 1 (S' := (1532, [some (vR 98), some (vR 0), some (vR 100), some (vR 120), some (vI i), none, none], [vR 120, vI (xs (i + 2)), vI (xs (i + 1)), vR 0], LW τ κ τ ρ out)) rfl ?_
  refine hR.cw hk [vR 0, vI (xs (i + 1)), vI (xs (i + 2)), vR 120] kS_203 rfl rfl (by decide) (Nat.le_of_ble_eq_true rfl) (by decide) rfl hw ?_
  refine hR.run0 (by omega) 6 (S' := (1543, [some (vR 98), some (vR 0), some (vR 100), some (vR 120), some (vI i), some (vI x.1), none], [vI (i + 1), vR 98, vR 100], LW x.2.2 κ τ ρ (oP x out))) rfl ?_
  refine hR.rd (by omega) hx.1 rfl rfl (by omega) ?_
  refine hR.run0 (by omega) 4 (S' := (1549, [some (vR 98), some (vR 0), some (vR 100), some (vR 120), some (vI i), some (vI x.1), none], [vI (i + 2), vR 98, vI (xs (i + 1)), vR 100], LW x.2.2 κ τ ρ (oP x out))) rfl ?_
  refine hR.rd (by omega) hx.1 rfl rfl (by omega) ?_
  refine hR.cv (by omega) [vI (xs (i + 1)), vI (xs (i + 2))] kL_205 rfl rfl ⟨_, _, _, rfl, rfl, rfl⟩ (by decide) (Nat.le_of_ble_eq_true rfl) (by decide) rfl (hm _ _ _) ?_
  show G (k + 1) (1553, [some (vR 98), some (vR 0), some (vR 100), some (vR 120), some (vI i), some (vI x.1), none], [vI x.2.1], LW x.2.2 κ x.2.2 ρ2 (oP x out))
  refine hR.2.2.2.2.2.1 _ _ _ _ _ _ ?_
  refine hR.run0 (by omega) 2 (S' := (1556, [some (vR 98), some (vR 0), some (vR 100), some (vR 120), some (vI i), some (vI x.1), some (vI (nmI x.2.1))], [vR 100], LW x.2.2 κ x.2.2 ρ2 (oP x out))) rfl ?_
  refine hR.cv (by omega) [] kL_127 rfl rfl ⟨_, _, _, rfl, rfl, rfl⟩ (by decide) (Nat.le_of_ble_eq_true rfl) (by decide) rfl (frM hro (sr_thrown _ _)) ?_
  show G (k + 1) (1559, [some (vR 98), some (vR 0), some (vR 100), some (vR 120), some (vI i), some (vI x.1), some (vI (nmI x.2.1))], [vI (ρ2.1 0)], LW x.2.2 κ x.2.2 ρ2 (oP x out))
  rw [hth]
  refine hR.run0 (by omega) 1 (S' := (1561, [some (vR 98), some (vR 0), some (vR 100), some (vR 120), some (vI i), some (vI x.1), some (vI (nmI x.2.1))], [vI x.1, vI x.1], LW x.2.2 κ x.2.2 ρ2 (oP x out))) rfl ?_
  refine hR.br (by omega) (C := x.1 = x.1) rfl (by omega) (fun _ => ?_) (fun h => absurd rfl h)
  refine hR.run0 (by omega) 1 (S' := (1568, [some (vR 98), some (vR 0), some (vR 100), some (vR 120), some (vI i), some (vI x.1), some (vI (nmI x.2.1))], [vI x.1], LW x.2.2 κ x.2.2 ρ2 (oP x out))) rfl ?_
  refine hR.br (by omega) (C := x.1 ≠ 0) rfl (by omega) (fun _ => ?_) (fun h => ?_)
  · skip
    refine hR.run0 (by omega) 1 (S' := (2248, [some (vR 98), some (vR 0), some (vR 100), some (vR 120), some (vI i), some (vI x.1), some (vI (nmI x.2.1))], [], LW x.2.2 κ x.2.2 ρ2 (oP x out))) rfl ?_
    refine hR.2.2.2.2.2.2 _ 5 _ _ _ _ ?_
    refine hR.2.2.2.2.2.2 _ 6 _ _ _ _ ?_
    exact kont _ _ _ _ _ (Nat.le_refl _) hJ2
  · have h0 : x.1 = 0 := by omega
    have ho := oP_0 (out := out) h0
    have hnr := nmI_r x.2.1
    refine hR.run1 (by omega) 6 (S' := (1578, [some (vR 98), some (vR 0), some (vR 100), some (vR 120), some (vI i), some (vI x.1), some (vI (nmI x.2.1))], [vI (if nmI x.2.1 < (oP x out) 0 then 1 else if (oP x out) 0 = nmI x.2.1 then 0 else -1)], LW x.2.2 κ x.2.2 ρ2 (oP x out))) rfl (by rw [ho]; omega) ?_
    refine hR.br (by omega) (C := (if nmI x.2.1 < (oP x out) 0 then (1 : Int) else if (oP x out) 0 = nmI x.2.1 then 0 else -1) = 0) rfl (by (repeat' split) <;> omega) (fun _ => ?_) (fun h => absurd (lc0.mpr ho) h)
    refine hR.run0 (by omega) 1 (S' := (2248, [some (vR 98), some (vR 0), some (vR 100), some (vR 120), some (vI i), some (vI x.1), some (vI (nmI x.2.1))], [], LW x.2.2 κ x.2.2 ρ2 (oP x out))) rfl ?_
    refine hR.2.2.2.2.2.2 _ 5 _ _ _ _ ?_
    refine hR.2.2.2.2.2.2 _ 6 _ _ _ _ ?_
    exact kont _ _ _ _ _ (Nat.le_refl _) hJ2
