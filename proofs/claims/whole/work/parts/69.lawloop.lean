set_option maxRecDepth 20000 in
set_option maxHeartbeats 4000000 in
theorem law_loop {xs : Int → Int} {N : Nat} {G : Nat → PS → Prop} (hRs : ∀ tb : PT, (∀ q ∈ tb, decode code q.1 = .ok (q.2.1, q.2.2)) → Rl lkL ((98, N, xs) :: roC) tb 100 G) (hx : N ≤ 2048 ∧ ∀ j, -2147483648 ≤ xs j ∧ xs j ≤ 2147483647) : ∀ (n k : Nat) (τ κ ρ : St) (out : Int → Int) (i : Int), (0 ≤ i ∧ (N : Int) - i ≤ 4 * n ∧ i ≤ 2048) → k + n ≤ 560 → Jv τ κ → G k (23, Lh_ i, [], LW τ κ τ ρ out) := by
  have hR := hRs bc_head tc_head
  intro n
  induction n with
  | zero =>
    intro k τ κ ρ out i hi hk hJ
    have hN := hx.1
    refine hR.run0 (by omega) 2 (S' := (26, Lh_ i, [vR 98, vI i], LW τ κ τ ρ out)) rfl ?_
    refine hR.ln (by omega) hx.1 rfl rfl ?_
    refine hR.run0 (by omega) 2 (S' := (29, Lh_ i, [vI ((N : Int) - 4), vI i], LW τ κ τ ρ out)) rfl ?_
    refine hR.br (by omega) (C := (N : Int) - 4 < i) rfl (by omega) (fun _ => show G k (2254, Lh_ i, [], LW τ κ τ ρ out) from ?_) (fun h => by omega)
    refine hR.run0 (by omega) 1 (S' := (2255, Lh_ i, [vI 1], LW τ κ τ ρ out)) rfl ?_
    exact hR.2.2.2.2.1 _ _ _ _ (by omega) rfl
  | succ n ih =>
    intro k τ κ ρ out i hi hk hJ
    have hN := hx.1
    refine hR.run0 (by omega) 2 (S' := (26, Lh_ i, [vR 98, vI i], LW τ κ τ ρ out)) rfl ?_
    refine hR.ln (by omega) hx.1 rfl rfl ?_
    refine hR.run0 (by omega) 2 (S' := (29, Lh_ i, [vI ((N : Int) - 4), vI i], LW τ κ τ ρ out)) rfl ?_
    refine hR.br (by omega) (C := (N : Int) - 4 < i) rfl (by omega) (fun _ => show G k (2254, Lh_ i, [], LW τ κ τ ρ out) from ?_) (fun h => ?_)
    · refine hR.run0 (by omega) 1 (S' := (2255, Lh_ i, [vI 1], LW τ κ τ ρ out)) rfl ?_
      exact hR.2.2.2.2.1 _ _ _ _ (by omega) rfl
    · have kont : ∀ (τ κ ρ : St) (out : Int → Int) (j : Nat), j ≤ k + 1 → Jv τ κ → G j (2248, Lh_ i, [], LW τ κ τ ρ out) := by
        intro τ κ ρ out j hj hJ
        refine hR.run0 (by omega) 1 (S' := (2251, Lh_ (i + 4), [], LW τ κ τ ρ out)) rfl ?_
        refine hR.run0 (by omega) 1 (S' := (23, Lh_ (i + 4), [], LW τ κ τ ρ out)) rfl ?_
        exact ih j τ κ ρ out (i + 4) (by omega) (by omega) hJ
      refine hR.run0 (by omega) 2 (S' := (35, Lh_ i, [vI i, vR 98], LW τ κ τ ρ out)) rfl ?_
      refine hR.rd (by omega) hx.1 rfl rfl (by omega) ?_
      refine hR.run0 (by omega) 2 (S' := (39, Lh_ i, [vI (iA (xs i) 63)], LW τ κ τ ρ out)) rfl ?_
      have hc := and63 (xs i)
      generalize iA (xs i) 63 = v at hc ⊢
      have hd : ∀ v : Int, 36 ≤ v ∧ v < 64 → G k (39, Lh_ i, [vI v], LW τ κ τ ρ out) := by
        intro v hv
        rcases (show (36 ≤ v ∧ v < 43) ∨ (43 ≤ v ∧ v < 50) ∨ (50 ≤ v ∧ v < 57) ∨ (57 ≤ v ∧ v < 64) from by omega) with hv | hv | hv | hv
        · rcases (show v = 36 ∨ v = 37 ∨ v = 38 ∨ v = 39 ∨ v = 40 ∨ v = 41 ∨ v = 42 from by omega) with rfl | rfl | rfl | rfl | rfl | rfl | rfl
          all_goals exact hR.run1 (by omega) 1 (S' := (2248, Lh_ i, [], LW τ κ τ ρ out)) rfl (by omega) (kont _ _ _ _ _ (Nat.le_succ _) hJ)
        · rcases (show v = 43 ∨ v = 44 ∨ v = 45 ∨ v = 46 ∨ v = 47 ∨ v = 48 ∨ v = 49 from by omega) with rfl | rfl | rfl | rfl | rfl | rfl | rfl
          all_goals exact hR.run1 (by omega) 1 (S' := (2248, Lh_ i, [], LW τ κ τ ρ out)) rfl (by omega) (kont _ _ _ _ _ (Nat.le_succ _) hJ)
        · rcases (show v = 50 ∨ v = 51 ∨ v = 52 ∨ v = 53 ∨ v = 54 ∨ v = 55 ∨ v = 56 from by omega) with rfl | rfl | rfl | rfl | rfl | rfl | rfl
          all_goals exact hR.run1 (by omega) 1 (S' := (2248, Lh_ i, [], LW τ κ τ ρ out)) rfl (by omega) (kont _ _ _ _ _ (Nat.le_succ _) hJ)
        · rcases (show v = 57 ∨ v = 58 ∨ v = 59 ∨ v = 60 ∨ v = 61 ∨ v = 62 ∨ v = 63 from by omega) with rfl | rfl | rfl | rfl | rfl | rfl | rfl
          all_goals exact hR.run1 (by omega) 1 (S' := (2248, Lh_ i, [], LW τ κ τ ρ out)) rfl (by omega) (kont _ _ _ _ _ (Nat.le_succ _) hJ)
      by_cases h36 : 36 ≤ v
      · exact hd v (by omega)
      · rcases (show (0 ≤ v ∧ v < 6) ∨ (6 ≤ v ∧ v < 12) ∨ (12 ≤ v ∧ v < 18) ∨ (18 ≤ v ∧ v < 24) ∨ (24 ≤ v ∧ v < 30) ∨ (30 ≤ v ∧ v < 36) from by omega) with hv | hv | hv | hv | hv | hv
        · rcases (show v = 0 ∨ v = 1 ∨ v = 2 ∨ v = 3 ∨ v = 4 ∨ v = 5 from by omega) with rfl | rfl | rfl | rfl | rfl | rfl
          · exact hR.run1 (by omega) 1 (S' := (196, Lh_ i, [], LW τ κ τ ρ out)) rfl (by omega) (cs_layHex hRs hx hJ (by omega) (by omega) kont)
          · exact hR.run1 (by omega) 1 (S' := (256, Lh_ i, [], LW τ κ τ ρ out)) rfl (by omega) (cs_place hRs hx hJ (by omega) (by omega) kont)
          · exact hR.run1 (by omega) 1 (S' := (324, Lh_ i, [], LW τ κ τ ρ out)) rfl (by omega) (cs_deal hRs hx hJ (by omega) (by omega) kont)
          · exact hR.run1 (by omega) 1 (S' := (392, Lh_ i, [], LW τ κ τ ρ out)) rfl (by omega) (cs_roll hRs hx hJ (by omega) (by omega) kont)
          · exact hR.run1 (by omega) 1 (S' := (460, Lh_ i, [], LW τ κ τ ρ out)) rfl (by omega) (cs_discard hRs hx hJ (by omega) (by omega) kont)
          · exact hR.run1 (by omega) 1 (S' := (528, Lh_ i, [], LW τ κ τ ρ out)) rfl (by omega) (cs_rob hRs hx hJ (by omega) (by omega) kont)
        · rcases (show v = 6 ∨ v = 7 ∨ v = 8 ∨ v = 9 ∨ v = 10 ∨ v = 11 from by omega) with rfl | rfl | rfl | rfl | rfl | rfl
          · exact hR.run1 (by omega) 1 (S' := (608, Lh_ i, [], LW τ κ τ ρ out)) rfl (by omega) (cs_road hRs hx hJ (by omega) (by omega) kont)
          · exact hR.run1 (by omega) 1 (S' := (664, Lh_ i, [], LW τ κ τ ρ out)) rfl (by omega) (cs_house hRs hx hJ (by omega) (by omega) kont)
          · exact hR.run1 (by omega) 1 (S' := (720, Lh_ i, [], LW τ κ τ ρ out)) rfl (by omega) (cs_city hRs hx hJ (by omega) (by omega) kont)
          · exact hR.run1 (by omega) 1 (S' := (776, Lh_ i, [], LW τ κ τ ρ out)) rfl (by omega) (cs_buy hRs hx hJ (by omega) (by omega) kont)
          · exact hR.run1 (by omega) 1 (S' := (820, Lh_ i, [], LW τ κ τ ρ out)) rfl (by omega) (cs_knight hRs hx hJ (by omega) (by omega) kont)
          · exact hR.run1 (by omega) 1 (S' := (900, Lh_ i, [], LW τ κ τ ρ out)) rfl (by omega) (cs_roads hRs hx hJ (by omega) (by omega) kont)
        · rcases (show v = 12 ∨ v = 13 ∨ v = 14 ∨ v = 15 ∨ v = 16 ∨ v = 17 from by omega) with rfl | rfl | rfl | rfl | rfl | rfl
          · exact hR.run1 (by omega) 1 (S' := (968, Lh_ i, [], LW τ κ τ ρ out)) rfl (by omega) (cs_plenty hRs hx hJ (by omega) (by omega) kont)
          · exact hR.run1 (by omega) 1 (S' := (1036, Lh_ i, [], LW τ κ τ ρ out)) rfl (by omega) (cs_monopoly hRs hx hJ (by omega) (by omega) kont)
          · exact hR.run1 (by omega) 1 (S' := (1092, Lh_ i, [], LW τ κ τ ρ out)) rfl (by omega) (cs_swap hRs hx hJ (by omega) (by omega) kont)
          · exact hR.run1 (by omega) 1 (S' := (1160, Lh_ i, [], LW τ κ τ ρ out)) rfl (by omega) (cs_offer hRs hx hJ (by omega) (by omega) kont)
          · exact hR.run1 (by omega) 1 (S' := (1208, Lh_ i, [], LW τ κ τ ρ out)) rfl (by omega) (cs_counter hRs hx hJ (by omega) (by omega) kont)
          · exact hR.run1 (by omega) 1 (S' := (1268, Lh_ i, [], LW τ κ τ ρ out)) rfl (by omega) (cs_accept hRs hx hJ (by omega) (by omega) kont)
        · rcases (show v = 18 ∨ v = 19 ∨ v = 20 ∨ v = 21 ∨ v = 22 ∨ v = 23 from by omega) with rfl | rfl | rfl | rfl | rfl | rfl
          · exact hR.run1 (by omega) 1 (S' := (1324, Lh_ i, [], LW τ κ τ ρ out)) rfl (by omega) (cs_agree hRs hx hJ (by omega) (by omega) kont)
          · exact hR.run1 (by omega) 1 (S' := (1380, Lh_ i, [], LW τ κ τ ρ out)) rfl (by omega) (cs_endTurn hRs hx hJ (by omega) (by omega) kont)
          · exact hR.run1 (by omega) 1 (S' := (1424, Lh_ i, [], LW τ κ τ ρ out)) rfl (by omega) (cs_phase hRs hx hJ (by omega) (by omega) kont)
          · exact hR.run1 (by omega) 1 (S' := (1437, Lh_ i, [], LW τ κ τ ρ out)) rfl (by omega) (cs_turn hRs hx hJ (by omega) (by omega) kont)
          · exact hR.run1 (by omega) 1 (S' := (1450, Lh_ i, [], LW τ κ τ ρ out)) rfl (by omega) (cs_hand hRs hx hJ (by omega) (by omega) kont)
          · exact hR.run1 (by omega) 1 (S' := (1518, Lh_ i, [], LW τ κ τ ρ out)) rfl (by omega) (cs_handByMoves hRs hx hJ (by omega) (by omega) kont)
        · rcases (show v = 24 ∨ v = 25 ∨ v = 26 ∨ v = 27 ∨ v = 28 ∨ v = 29 from by omega) with rfl | rfl | rfl | rfl | rfl | rfl
          · exact hR.run1 (by omega) 1 (S' := (1586, Lh_ i, [], LW τ κ τ ρ out)) rfl (by omega) (cs_due hRs hx hJ (by omega) (by omega) kont)
          · exact hR.run1 (by omega) 1 (S' := (1642, Lh_ i, [], LW τ κ τ ρ out)) rfl (by omega) (cs_points hRs hx hJ (by omega) (by omega) kont)
          · exact hR.run1 (by omega) 1 (S' := (1698, Lh_ i, [], LW τ κ τ ρ out)) rfl (by omega) (cs_trail hRs hx hJ (by omega) (by omega) kont)
          · exact hR.run1 (by omega) 1 (S' := (1754, Lh_ i, [], LW τ κ τ ρ out)) rfl (by omega) (cs_trailBySets hRs hx hJ (by omega) (by omega) kont)
          · exact hR.run1 (by omega) 1 (S' := (1810, Lh_ i, [], LW τ κ τ ρ out)) rfl (by omega) (cs_holder hRs hx hJ (by omega) (by omega) kont)
          · exact hR.run1 (by omega) 1 (S' := (1851, Lh_ i, [], LW τ κ τ ρ out)) rfl (by omega) (cs_knights hRs hx hJ (by omega) (by omega) kont)
        · rcases (show v = 30 ∨ v = 31 ∨ v = 32 ∨ v = 33 ∨ v = 34 ∨ v = 35 from by omega) with rfl | rfl | rfl | rfl | rfl | rfl
          · exact hR.run1 (by omega) 1 (S' := (1907, Lh_ i, [], LW τ κ τ ρ out)) rfl (by omega) (cs_cards hRs hx hJ (by omega) (by omega) kont)
          · exact hR.run1 (by omega) 1 (S' := (1975, Lh_ i, [], LW τ κ τ ρ out)) rfl (by omega) (cs_buildingAt hRs hx hJ (by omega) (by omega) kont)
          · exact hR.run1 (by omega) 1 (S' := (2031, Lh_ i, [], LW τ κ τ ρ out)) rfl (by omega) (cs_roadAt hRs hx hJ (by omega) (by omega) kont)
          · exact hR.run1 (by omega) 1 (S' := (2087, Lh_ i, [], LW τ κ τ ρ out)) rfl (by omega) (cs_robber hRs hx hJ (by omega) (by omega) kont)
          · exact hR.run1 (by omega) 1 (S' := (2100, Lh_ i, [], LW τ κ τ ρ out)) rfl (by omega) (cs_rate hRs hx hJ (by omega) (by omega) kont)
          · exact hR.run1 (by omega) 1 (S' := (2168, Lh_ i, [], LW τ κ τ ρ out)) rfl (by omega) (cs_wouldGet hRs hx hJ (by omega) (by omega) kont)
