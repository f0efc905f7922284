/-! ===== trading, as the law looks at it ===== -/
theorem giv_r {a b : Int} (ha : 0 ≤ a ∧ a < 2) (hb : 0 ≤ b ∧ b < 2) : 1 ≤ 1 + 10 * a + 1000 * b ∧ 1 + 10 * a + 1000 * b ≤ 1011 ∧ dgt (1 + 10 * a + 1000 * b) 2 = 0 ∧ dgt (1 + 10 * a + 1000 * b) 4 = 0 := by
  rcases (show a = 0 ∨ a = 1 from by omega) with rfl | rfl <;> rcases (show b = 0 ∨ b = 1 from by omega) with rfl | rfl <;> decide
theorem wan_r {a b : Int} (ha : 0 ≤ a ∧ a < 2) (hb : 0 ≤ b ∧ b < 2) : 1 ≤ 100 * a + 10000 * b + 10 ∧ 100 * a + 10000 * b + 10 ≤ 10110 ∧ dgt (100 * a + 10000 * b + 10) 0 = 0 ∧ dgt (100 * a + 10000 * b + 10) 3 = 0 := by
  rcases (show a = 0 ∨ a = 1 from by omega) with rfl | rfl <;> rcases (show b = 0 ∨ b = 1 from by omega) with rfl | rfl <;> decide
theorem ex_at {h : Int → Int → Int} {p t g w k : Int} (hp : 0 ≤ p ∧ p < 3) (ht : 0 ≤ t ∧ t < 3) (hpt : p ≠ t) (hk : 0 ≤ k ∧ k < 5) : exF h p t g w p k = h p k + dgt w k - dgt g k ∧ exF h p t g w t k = h t k - dgt w k + dgt g k ∧ exF h p t g w 3 k = h 3 k := by
  have h1 : ¬ t = p := fun z => hpt z.symm
  have h2 : ¬ (3 : Int) = p := by omega
  have h3 : ¬ (3 : Int) = t := by omega
  unfold exF mvF
  simp only [dgs_at _ hk, if_pos, if_neg hpt, if_neg h1, if_neg h2, if_neg h3]
  simp
  omega
set_option maxRecDepth 20000 in
set_option maxHeartbeats 4000000 in
theorem w_trades0 {ro : PRO} (hro : ∀ q ∈ roC, q ∈ ro) {τ : St} (hJ : Jx τ) {q : Int → Int} (hq : isQ (τ.2.2 0) q) (hO0 : Ov τ) (z : Int) (h2 : τ.1 0 = 2) (hw : smI z 5 = 0) : SX mL_trades ro 15 [vR 0, vR 200, vR 150, vI z] τ [(150, .inl (20, .inl q))] (fun i σ => i = 1 ∧ Ov σ) 8 := by
  have hI := hJ.iv
  refine SX.of rfl tL_trades (Nat.le_of_ble_eq_true rfl) (fun G ks hk hR => ?_)
  show GX G 0 τ ([(150, .inl (20, .inl q))]) 0 [some (vR 0), some (vR 200), some (vR 150), some (vI z), none, none, none, none, none, none, none, none, none] []
  have hqr := hq.r hI
  have ht := hI.htu
  refine GX.run0 hR 2 (pc' := 2) (L' := [some (vR 0), some (vR 200), some (vR 150), some (vI z), none, none, none, none, none, none, none, none, none]) (st' := [vI 5, vI z]) (X' := [(150, .inl (20, .inl q))]) (fun _ _ => rfl) ?_
  have f1 := smI_r z (n := 5) (by omega)
  refine GX.sx hR [vI z, vI 5] (fun w => lp_some (x := z) (n := 5) (by omega) w) kL_158 rfl rfl (by decide) (Nat.le_of_ble_eq_true rfl) (Nat.le_of_ble_eq_true rfl) rfl ?_
  rw [hw]
  refine GX.run0 hR 2 (pc' := 8) (L' := [some (vR 0), some (vR 200), some (vR 150), some (vI z), some (vI 0), none, none, none, none, none, none, none, none]) (st' := [vR 0]) (X' := [(150, .inl (20, .inl q))]) (fun _ _ => rfl) ?_
  have f2 := hI.htu
  refine GX.ask hR hro [] ((q_turn τ).gt) kL_130 rfl rfl rfl (by decide) (Nat.le_of_ble_eq_true rfl) (Nat.le_of_ble_eq_true rfl) rfl (fun _ _ => ⟨_, rfl⟩) ?_
  refine GX.run0 hR 3 (pc' := 16) (L' := [some (vR 0), some (vR 200), some (vR 150), some (vI z), some (vI 0), some (vI (τ.1 1)), none, none, none, none, none, none, none]) (st' := [vI 2, vI 0]) (X' := [(150, .inl (20, .inl q))]) (fun _ _ => rfl) ?_
  refine GX.br hR (pc1 := 214) (pc2 := 19) (st1 := []) (C := (2 : Int) ≤ 0) (fun _ => rfl) (by first | omega | (dsimp only; omega)) (fun h3 => (by exfalso; omega)) (fun h3 => ?_)
  refine GX.run0 hR 4 (pc' := 23) (L' := [some (vR 0), some (vR 200), some (vR 150), some (vI z), some (vI 0), some (vI (τ.1 1)), none, none, none, none, none, none, none]) (st' := [vI 5, vI (iSr z 3)]) (X' := [(150, .inl (20, .inl q))]) (fun _ _ => rfl) ?_
  have f4 := smI_r (iSr z 3) (n := 5) (by omega)
  refine GX.sx hR [vI (iSr z 3), vI 5] (fun w => lp_some (x := iSr z 3) (n := 5) (by omega) w) kL_158 rfl rfl (by decide) (Nat.le_of_ble_eq_true rfl) (Nat.le_of_ble_eq_true rfl) rfl ?_
  refine GX.run0 hR 8 (pc' := 37) (L' := [some (vR 0), some (vR 200), some (vR 150), some (vI z), some (vI 0), some (vI (τ.1 1)), some (vI (smI (iSr z 3) 5)), none, none, none, none, none, none]) (st' := [vI 4, vI (iSr z 6), vI ((smI (iSr z 3) 5) + 1)]) (X' := [(150, .inl (20, .inl q))]) (fun _ _ => rfl) ?_
  have f5 := smI_r (iSr z 6) (n := 4) (by omega)
  refine GX.sx hR [vI (iSr z 6), vI 4] (fun w => lp_some (x := iSr z 6) (n := 4) (by omega) w) kL_158 rfl rfl (by decide) (Nat.le_of_ble_eq_true rfl) (Nat.le_of_ble_eq_true rfl) rfl ?_
  refine GX.run1 hR 7 (pc' := 50) (L' := [some (vR 0), some (vR 200), some (vR 150), some (vI z), some (vI 0), some (vI (τ.1 1)), some (vI (smI (iSr z 3) 5)), some (vI ((((smI (iSr z 3) 5) + 1) + (smI (iSr z 6) 4)) % 5)), none, none, none, none, none]) (st' := [vI (smI (iSr z 3) 5), vI (τ.1 1), vR 0]) (X' := [(150, .inl (20, .inl q))]) (fun _ _ => rfl) (by first | omega | (dsimp only; omega)) ?_
  have f6 := rtN_r (τ.2.1 2) (τ.1 1) (smI (iSr z 3) 5) 24
  refine GX.ask hR hro [vI (τ.1 1), vI (smI (iSr z 3) 5)] ((q_rate τ (by omega) (by omega)).gt) kL_119 rfl rfl rfl (by decide) (Nat.le_of_ble_eq_true rfl) (Nat.le_of_ble_eq_true rfl) rfl (fun _ _ => ⟨_, rfl⟩) ?_
  refine GX.run0 hR 7 (pc' := 64) (L' := [some (vR 0), some (vR 200), some (vR 150), some (vI z), some (vI 0), some (vI (τ.1 1)), some (vI (smI (iSr z 3) 5)), some (vI ((((smI (iSr z 3) 5) + 1) + (smI (iSr z 6) 4)) % 5)), some (vI (rtN (τ.2.1 2) (τ.1 1) (smI (iSr z 3) 5) 24)), none, none, none, none]) (st' := [vI 0, vI ((((smI (iSr z 3) 5) + 1) + (smI (iSr z 6) 4)) % 5), vI (smI (iSr z 3) 5), vI 14, vR 200, vR 0]) (X' := [(150, .inl (20, .inl q))]) (fun _ _ => rfl) ?_
  have fa := smI_r (iSr z 3) (n := 5) (by omega)
  have fb := smI_r (iSr z 6) (n := 4) (by omega)
  obtain ⟨v7, σ8, hcl, hc⟩ := s_swap hJ h2 (a := smI (iSr z 3) 5) (b := (((smI (iSr z 3) 5) + 1) + (smI (iSr z 6) 4)) % 5) (by omega) (by omega) (by omega) 0
  refine GX.bo hR hro hcl rfl (by decide) (Nat.le_of_ble_eq_true rfl) rfl (by decide) (fun hJ2 => ?_)
  have hI2 := hJ2.iv
  have pa := hq.at (p := τ.1 1) (g := smI (iSr z 3) 5) (by omega) (by omega)
  have pb := hq.at (p := τ.1 1) (g := (((smI (iSr z 3) 5) + 1) + (smI (iSr z 6) 4)) % 5) (by omega) (by omega)
  have pc : q (15 + (smI (iSr z 3) 5)) = τ.2.2 0 3 (smI (iSr z 3) 5) := hq.at (p := 3) (g := smI (iSr z 3) 5) (by omega) (by omega)
  have pd : q (15 + ((((smI (iSr z 3) 5) + 1) + (smI (iSr z 6) 4)) % 5)) = τ.2.2 0 3 ((((smI (iSr z 3) 5) + 1) + (smI (iSr z 6) 4)) % 5) := hq.at (p := 3) (g := (((smI (iSr z 3) 5) + 1) + (smI (iSr z 6) 4)) % 5) (by omega) (by omega)
  have f9 := hI.hh (τ.1 1) (smI (iSr z 3) 5)
  have f10 := hI.hh (τ.1 1) ((((smI (iSr z 3) 5) + 1) + (smI (iSr z 6) 4)) % 5)
  have f11 := hI.hh 3 (smI (iSr z 3) 5)
  have f12 := hI.hh 3 ((((smI (iSr z 3) 5) + 1) + (smI (iSr z 6) 4)) % 5)
  rcases hc with ⟨e1, e2, e3⟩ | ⟨e1, e2, e3, e4, e5⟩
  · skip
    rw [e1, e2]
    refine GX.run0 hR 3 (pc' := 74) (L' := [some (vR 0), some (vR 200), some (vR 150), some (vI z), some (vI 0), some (vI (τ.1 1)), some (vI (smI (iSr z 3) 5)), some (vI ((((smI (iSr z 3) 5) + 1) + (smI (iSr z 6) 4)) % 5)), some (vI (rtN (τ.2.1 2) (τ.1 1) (smI (iSr z 3) 5) 24)), some (vI (-1123)), none, none, none]) (st' := [vI (-1123), vI (-1123)]) (X' := [(150, .inl (20, .inl q))]) (fun _ _ => rfl) ?_
    refine GX.br hR (pc1 := 118) (pc2 := 77) (st1 := []) (C := ((-1123) : Int) ≠ (-1123)) (fun _ => rfl) (by first | omega | (dsimp only; omega)) (fun h13 => (by exfalso; omega)) (fun h13 => ?_)
    refine GX.run0 hR 5 (pc' := 82) (L' := [some (vR 0), some (vR 200), some (vR 150), some (vI z), some (vI 0), some (vI (τ.1 1)), some (vI (smI (iSr z 3) 5)), some (vI ((((smI (iSr z 3) 5) + 1) + (smI (iSr z 6) 4)) % 5)), some (vI (rtN (τ.2.1 2) (τ.1 1) (smI (iSr z 3) 5) 24)), some (vI (-1123)), none, none, none]) (st' := [vI 0, vI 0, vI 0, vR 150, vR 0]) (X' := [(150, .inl (20, .inl q))]) (fun _ _ => rfl) ?_
    refine GX.sg hR [vR 0, vR 150, vI 0, vI 0, vI 0] (fun κ κ2 hJ hJ2 => lp_moved hro hJ κ2 (q := q) (f := 0) (t := 0) (n := 0) (by omega) (by omega) (by omega) hqr (mvd_0 hq rfl)) kL_169 rfl rfl (by decide) (Nat.le_of_ble_eq_true rfl) (Nat.le_of_ble_eq_true rfl) rfl ?_
    refine GX.br hR (pc1 := 116) (pc2 := 88) (st1 := []) (C := (1 : Int) = 0) (fun _ => rfl) (by first | omega | (dsimp only; omega)) (fun h14 => (by exfalso; omega)) (fun h14 => ?_)
    refine GX.run1 hR 8 (pc' := 99) (L' := [some (vR 0), some (vR 200), some (vR 150), some (vI z), some (vI 0), some (vI (τ.1 1)), some (vI (smI (iSr z 3) 5)), some (vI ((((smI (iSr z 3) 5) + 1) + (smI (iSr z 6) 4)) % 5)), some (vI (rtN (τ.2.1 2) (τ.1 1) (smI (iSr z 3) 5) 24)), some (vI (-1123)), none, none, none]) (st' := [vI (rtN (τ.2.1 2) (τ.1 1) (smI (iSr z 3) 5) 24), vI (q ((5 * (τ.1 1)) + (smI (iSr z 3) 5)))]) (X' := [(150, .inl (20, .inl q))]) (fun _ _ => rfl) (by first | omega | (dsimp only; omega)) ?_
    refine GX.br hR (pc1 := 112) (pc2 := 102) (st1 := []) (C := q ((5 * (τ.1 1)) + (smI (iSr z 3) 5)) < rtN (τ.2.1 2) (τ.1 1) (smI (iSr z 3) 5) 24) (fun _ => rfl) (by first | omega | (dsimp only; omega)) (fun h15 => ?_) (fun h15 => ?_)
    · skip
      refine GX.run0 hR 2 (pc' := 117) (L' := [some (vR 0), some (vR 200), some (vR 150), some (vI z), some (vI 0), some (vI (τ.1 1)), some (vI (smI (iSr z 3) 5)), some (vI ((((smI (iSr z 3) 5) + 1) + (smI (iSr z 6) 4)) % 5)), some (vI (rtN (τ.2.1 2) (τ.1 1) (smI (iSr z 3) 5) 24)), some (vI (-1123)), none, none, none]) (st' := [vI 1]) (X' := [(150, .inl (20, .inl q))]) (fun _ _ => rfl) ?_
      exact GX.rt hR hk rfl (.inr rfl) ⟨rfl, hO0⟩
    · skip
      refine GX.run1 hR 5 (pc' := 109) (L' := [some (vR 0), some (vR 200), some (vR 150), some (vI z), some (vI 0), some (vI (τ.1 1)), some (vI (smI (iSr z 3) 5)), some (vI ((((smI (iSr z 3) 5) + 1) + (smI (iSr z 6) 4)) % 5)), some (vI (rtN (τ.2.1 2) (τ.1 1) (smI (iSr z 3) 5) 24)), some (vI (-1123)), none, none, none]) (st' := [vI (q (15 + ((((smI (iSr z 3) 5) + 1) + (smI (iSr z 6) 4)) % 5)))]) (X' := [(150, .inl (20, .inl q))]) (fun _ _ => rfl) (by first | omega | (dsimp only; omega)) ?_
      refine GX.br hR (pc1 := 116) (pc2 := 112) (st1 := []) (C := q (15 + ((((smI (iSr z 3) 5) + 1) + (smI (iSr z 6) 4)) % 5)) ≠ 0) (fun _ => rfl) (by first | omega | (dsimp only; omega)) (fun h16 => (by exfalso; omega)) (fun h16 => ?_)
      refine GX.run0 hR 2 (pc' := 117) (L' := [some (vR 0), some (vR 200), some (vR 150), some (vI z), some (vI 0), some (vI (τ.1 1)), some (vI (smI (iSr z 3) 5)), some (vI ((((smI (iSr z 3) 5) + 1) + (smI (iSr z 6) 4)) % 5)), some (vI (rtN (τ.2.1 2) (τ.1 1) (smI (iSr z 3) 5) 24)), some (vI (-1123)), none, none, none]) (st' := [vI 1]) (X' := [(150, .inl (20, .inl q))]) (fun _ _ => rfl) ?_
      exact GX.rt hR hk rfl (.inr rfl) ⟨rfl, hO0⟩
  · skip
    refine GX.run0 hR 3 (pc' := 74) (L' := [some (vR 0), some (vR 200), some (vR 150), some (vI z), some (vI 0), some (vI (τ.1 1)), some (vI (smI (iSr z 3) 5)), some (vI ((((smI (iSr z 3) 5) + 1) + (smI (iSr z 6) 4)) % 5)), some (vI (rtN (τ.2.1 2) (τ.1 1) (smI (iSr z 3) 5) 24)), some (vI v7), none, none, none]) (st' := [vI (-1123), vI v7]) (X' := [(150, .inl (20, .inl q))]) (fun _ _ => rfl) ?_
    refine GX.br hR (pc1 := 118) (pc2 := 77) (st1 := []) (C := v7 ≠ (-1123)) (fun _ => rfl) (by first | omega | (dsimp only; omega)) (fun h17 => ?_) (fun h17 => (by exfalso; omega))
    refine GX.run0 hR 2 (pc' := 121) (L' := [some (vR 0), some (vR 200), some (vR 150), some (vI z), some (vI 0), some (vI (τ.1 1)), some (vI (smI (iSr z 3) 5)), some (vI ((((smI (iSr z 3) 5) + 1) + (smI (iSr z 6) 4)) % 5)), some (vI (rtN (τ.2.1 2) (τ.1 1) (smI (iSr z 3) 5) 24)), some (vI v7), none, none, none]) (st' := [vI 1, vI (rtN (τ.2.1 2) (τ.1 1) (smI (iSr z 3) 5) 24)]) (X' := [(150, .inl (20, .inl q))]) (fun _ _ => rfl) ?_
    refine GX.br hR (pc1 := 212) (pc2 := 124) (st1 := []) (C := rtN (τ.2.1 2) (τ.1 1) (smI (iSr z 3) 5) 24 ≤ 1) (fun _ => rfl) (by first | omega | (dsimp only; omega)) (fun h18 => (by exfalso; omega)) (fun h18 => ?_)
    refine GX.run0 hR 2 (pc' := 127) (L' := [some (vR 0), some (vR 200), some (vR 150), some (vI z), some (vI 0), some (vI (τ.1 1)), some (vI (smI (iSr z 3) 5)), some (vI ((((smI (iSr z 3) 5) + 1) + (smI (iSr z 6) 4)) % 5)), some (vI (rtN (τ.2.1 2) (τ.1 1) (smI (iSr z 3) 5) 24)), some (vI v7), none, none, none]) (st' := [vI 5, vI (rtN (τ.2.1 2) (τ.1 1) (smI (iSr z 3) 5) 24)]) (X' := [(150, .inl (20, .inl q))]) (fun _ _ => rfl) ?_
    refine GX.br hR (pc1 := 212) (pc2 := 130) (st1 := []) (C := 5 ≤ rtN (τ.2.1 2) (τ.1 1) (smI (iSr z 3) 5) 24) (fun _ => rfl) (by first | omega | (dsimp only; omega)) (fun h19 => (by exfalso; omega)) (fun h19 => ?_)
    refine GX.run1 hR 10 (pc' := 143) (L' := [some (vR 0), some (vR 200), some (vR 150), some (vI z), some (vI 0), some (vI (τ.1 1)), some (vI (smI (iSr z 3) 5)), some (vI ((((smI (iSr z 3) 5) + 1) + (smI (iSr z 6) 4)) % 5)), some (vI (rtN (τ.2.1 2) (τ.1 1) (smI (iSr z 3) 5) 24)), some (vI v7), none, none, none]) (st' := [vI ((q ((5 * (τ.1 1)) + ((((smI (iSr z 3) 5) + 1) + (smI (iSr z 6) 4)) % 5))) + 1), vI v7]) (X' := [(150, .inl (20, .inl q))]) (fun _ _ => rfl) (by first | omega | (dsimp only; omega)) ?_
    refine GX.br hR (pc1 := 212) (pc2 := 146) (st1 := []) (C := v7 ≠ (q ((5 * (τ.1 1)) + ((((smI (iSr z 3) 5) + 1) + (smI (iSr z 6) 4)) % 5))) + 1) (fun _ => rfl) (by first | omega | (dsimp only; omega)) (fun h20 => (by exfalso; omega)) (fun h20 => ?_)
    refine GX.run0 hR 3 (pc' := 151) (L' := [some (vR 0), some (vR 200), some (vR 150), some (vI z), some (vI 0), some (vI (τ.1 1)), some (vI (smI (iSr z 3) 5)), some (vI ((((smI (iSr z 3) 5) + 1) + (smI (iSr z 6) 4)) % 5)), some (vI (rtN (τ.2.1 2) (τ.1 1) (smI (iSr z 3) 5) 24)), some (vI v7), none, none, none]) (st' := [vI (smI (iSr z 3) 5), vI (τ.1 1), vR 0]) (X' := [(150, .inl (20, .inl q))]) (fun _ _ => rfl) ?_
    have f21 := hI2.hh (τ.1 1) (smI (iSr z 3) 5)
    refine GX.ask hR hro [vI (τ.1 1), vI (smI (iSr z 3) 5)] ((q_hand σ8 (by omega) (by omega)).gt) kL_89 rfl rfl rfl (by decide) (Nat.le_of_ble_eq_true rfl) (Nat.le_of_ble_eq_true rfl) rfl (fun _ _ => ⟨_, rfl⟩) ?_
    refine GX.run1 hR 9 (pc' := 166) (L' := [some (vR 0), some (vR 200), some (vR 150), some (vI z), some (vI 0), some (vI (τ.1 1)), some (vI (smI (iSr z 3) 5)), some (vI ((((smI (iSr z 3) 5) + 1) + (smI (iSr z 6) 4)) % 5)), some (vI (rtN (τ.2.1 2) (τ.1 1) (smI (iSr z 3) 5) 24)), some (vI v7), none, none, none]) (st' := [vI ((q ((5 * (τ.1 1)) + (smI (iSr z 3) 5))) - (rtN (τ.2.1 2) (τ.1 1) (smI (iSr z 3) 5) 24)), vI (σ8.2.2 0 (τ.1 1) (smI (iSr z 3) 5))]) (X' := [(150, .inl (20, .inl q))]) (fun _ _ => rfl) (by first | omega | (dsimp only; omega)) ?_
    refine GX.br hR (pc1 := 212) (pc2 := 169) (st1 := []) (C := σ8.2.2 0 (τ.1 1) (smI (iSr z 3) 5) ≠ (q ((5 * (τ.1 1)) + (smI (iSr z 3) 5))) - (rtN (τ.2.1 2) (τ.1 1) (smI (iSr z 3) 5) 24)) (fun _ => rfl) (by first | omega | (dsimp only; omega)) (fun h22 => (by exfalso; omega)) (fun h22 => ?_)
    refine GX.run0 hR 3 (pc' := 173) (L' := [some (vR 0), some (vR 200), some (vR 150), some (vI z), some (vI 0), some (vI (τ.1 1)), some (vI (smI (iSr z 3) 5)), some (vI ((((smI (iSr z 3) 5) + 1) + (smI (iSr z 6) 4)) % 5)), some (vI (rtN (τ.2.1 2) (τ.1 1) (smI (iSr z 3) 5) 24)), some (vI v7), none, none, none]) (st' := [vI (smI (iSr z 3) 5), vI 3, vR 0]) (X' := [(150, .inl (20, .inl q))]) (fun _ _ => rfl) ?_
    have f23 := hI2.hh 3 (smI (iSr z 3) 5)
    refine GX.ask hR hro [vI 3, vI (smI (iSr z 3) 5)] ((q_hand σ8 (by omega) (by omega)).gt) kL_89 rfl rfl rfl (by decide) (Nat.le_of_ble_eq_true rfl) (Nat.le_of_ble_eq_true rfl) rfl (fun _ _ => ⟨_, rfl⟩) ?_
    refine GX.run1 hR 7 (pc' := 186) (L' := [some (vR 0), some (vR 200), some (vR 150), some (vI z), some (vI 0), some (vI (τ.1 1)), some (vI (smI (iSr z 3) 5)), some (vI ((((smI (iSr z 3) 5) + 1) + (smI (iSr z 6) 4)) % 5)), some (vI (rtN (τ.2.1 2) (τ.1 1) (smI (iSr z 3) 5) 24)), some (vI v7), none, none, none]) (st' := [vI ((q (15 + (smI (iSr z 3) 5))) + (rtN (τ.2.1 2) (τ.1 1) (smI (iSr z 3) 5) 24)), vI (σ8.2.2 0 3 (smI (iSr z 3) 5))]) (X' := [(150, .inl (20, .inl q))]) (fun _ _ => rfl) (by first | omega | (dsimp only; omega)) ?_
    refine GX.br hR (pc1 := 212) (pc2 := 189) (st1 := []) (C := σ8.2.2 0 3 (smI (iSr z 3) 5) ≠ (q (15 + (smI (iSr z 3) 5))) + (rtN (τ.2.1 2) (τ.1 1) (smI (iSr z 3) 5) 24)) (fun _ => rfl) (by first | omega | (dsimp only; omega)) (fun h24 => (by exfalso; omega)) (fun h24 => ?_)
    refine GX.run0 hR 3 (pc' := 193) (L' := [some (vR 0), some (vR 200), some (vR 150), some (vI z), some (vI 0), some (vI (τ.1 1)), some (vI (smI (iSr z 3) 5)), some (vI ((((smI (iSr z 3) 5) + 1) + (smI (iSr z 6) 4)) % 5)), some (vI (rtN (τ.2.1 2) (τ.1 1) (smI (iSr z 3) 5) 24)), some (vI v7), none, none, none]) (st' := [vI ((((smI (iSr z 3) 5) + 1) + (smI (iSr z 6) 4)) % 5), vI 3, vR 0]) (X' := [(150, .inl (20, .inl q))]) (fun _ _ => rfl) ?_
    have f25 := hI2.hh 3 ((((smI (iSr z 3) 5) + 1) + (smI (iSr z 6) 4)) % 5)
    refine GX.ask hR hro [vI 3, vI ((((smI (iSr z 3) 5) + 1) + (smI (iSr z 6) 4)) % 5)] ((q_hand σ8 (by omega) (by omega)).gt) kL_89 rfl rfl rfl (by decide) (Nat.le_of_ble_eq_true rfl) (Nat.le_of_ble_eq_true rfl) rfl (fun _ _ => ⟨_, rfl⟩) ?_
    refine GX.run1 hR 7 (pc' := 205) (L' := [some (vR 0), some (vR 200), some (vR 150), some (vI z), some (vI 0), some (vI (τ.1 1)), some (vI (smI (iSr z 3) 5)), some (vI ((((smI (iSr z 3) 5) + 1) + (smI (iSr z 6) 4)) % 5)), some (vI (rtN (τ.2.1 2) (τ.1 1) (smI (iSr z 3) 5) 24)), some (vI v7), none, none, none]) (st' := [vI ((q (15 + ((((smI (iSr z 3) 5) + 1) + (smI (iSr z 6) 4)) % 5))) - 1), vI (σ8.2.2 0 3 ((((smI (iSr z 3) 5) + 1) + (smI (iSr z 6) 4)) % 5))]) (X' := [(150, .inl (20, .inl q))]) (fun _ _ => rfl) (by first | omega | (dsimp only; omega)) ?_
    refine GX.br hR (pc1 := 212) (pc2 := 208) (st1 := []) (C := σ8.2.2 0 3 ((((smI (iSr z 3) 5) + 1) + (smI (iSr z 6) 4)) % 5) ≠ (q (15 + ((((smI (iSr z 3) 5) + 1) + (smI (iSr z 6) 4)) % 5))) - 1) (fun _ => rfl) (by first | omega | (dsimp only; omega)) (fun h26 => (by exfalso; omega)) (fun h26 => ?_)
    refine GX.run0 hR 2 (pc' := 213) (L' := [some (vR 0), some (vR 200), some (vR 150), some (vI z), some (vI 0), some (vI (τ.1 1)), some (vI (smI (iSr z 3) 5)), some (vI ((((smI (iSr z 3) 5) + 1) + (smI (iSr z 6) 4)) % 5)), some (vI (rtN (τ.2.1 2) (τ.1 1) (smI (iSr z 3) 5) 24)), some (vI v7), none, none, none]) (st' := [vI 1]) (X' := [(150, .inl (20, .inl q))]) (fun _ _ => rfl) ?_
    exact GX.rt hR hk rfl (.inr rfl) ⟨rfl, (Ov.of (by omega))⟩
set_option maxRecDepth 20000 in
set_option maxHeartbeats 4000000 in
theorem w_trades1 {ro : PRO} (hro : ∀ q ∈ roC, q ∈ ro) {τ : St} (hJ : Jx τ) {q : Int → Int} (hq : isQ (τ.2.2 0) q) (hO0 : Ov τ) (z : Int) (h2 : τ.1 0 = 2) (hw : smI z 5 = 1) : SX mL_trades ro 15 [vR 0, vR 200, vR 150, vI z] τ [(150, .inl (20, .inl q))] (fun i σ => i = 1 ∧ Ov σ) 8 := by
  have hI := hJ.iv
  refine SX.of rfl tL_trades (Nat.le_of_ble_eq_true rfl) (fun G ks hk hR => ?_)
  show GX G 0 τ ([(150, .inl (20, .inl q))]) 0 [some (vR 0), some (vR 200), some (vR 150), some (vI z), none, none, none, none, none, none, none, none, none] []
  have hqr := hq.r hI
  have ht := hI.htu
  refine GX.run0 hR 2 (pc' := 2) (L' := [some (vR 0), some (vR 200), some (vR 150), some (vI z), none, none, none, none, none, none, none, none, none]) (st' := [vI 5, vI z]) (X' := [(150, .inl (20, .inl q))]) (fun _ _ => rfl) ?_
  have f1 := smI_r z (n := 5) (by omega)
  refine GX.sx hR [vI z, vI 5] (fun w => lp_some (x := z) (n := 5) (by omega) w) kL_158 rfl rfl (by decide) (Nat.le_of_ble_eq_true rfl) (Nat.le_of_ble_eq_true rfl) rfl ?_
  rw [hw]
  refine GX.run0 hR 2 (pc' := 8) (L' := [some (vR 0), some (vR 200), some (vR 150), some (vI z), some (vI 1), none, none, none, none, none, none, none, none]) (st' := [vR 0]) (X' := [(150, .inl (20, .inl q))]) (fun _ _ => rfl) ?_
  have f2 := hI.htu
  refine GX.ask hR hro [] ((q_turn τ).gt) kL_130 rfl rfl rfl (by decide) (Nat.le_of_ble_eq_true rfl) (Nat.le_of_ble_eq_true rfl) rfl (fun _ _ => ⟨_, rfl⟩) ?_
  refine GX.run0 hR 3 (pc' := 16) (L' := [some (vR 0), some (vR 200), some (vR 150), some (vI z), some (vI 1), some (vI (τ.1 1)), none, none, none, none, none, none, none]) (st' := [vI 2, vI 1]) (X' := [(150, .inl (20, .inl q))]) (fun _ _ => rfl) ?_
  refine GX.br hR (pc1 := 214) (pc2 := 19) (st1 := []) (C := (2 : Int) ≤ 1) (fun _ => rfl) (by first | omega | (dsimp only; omega)) (fun h3 => (by exfalso; omega)) (fun h3 => ?_)
  refine GX.run0 hR 4 (pc' := 23) (L' := [some (vR 0), some (vR 200), some (vR 150), some (vI z), some (vI 1), some (vI (τ.1 1)), none, none, none, none, none, none, none]) (st' := [vI 5, vI (iSr z 3)]) (X' := [(150, .inl (20, .inl q))]) (fun _ _ => rfl) ?_
  have f4 := smI_r (iSr z 3) (n := 5) (by omega)
  refine GX.sx hR [vI (iSr z 3), vI 5] (fun w => lp_some (x := iSr z 3) (n := 5) (by omega) w) kL_158 rfl rfl (by decide) (Nat.le_of_ble_eq_true rfl) (Nat.le_of_ble_eq_true rfl) rfl ?_
  refine GX.run0 hR 8 (pc' := 37) (L' := [some (vR 0), some (vR 200), some (vR 150), some (vI z), some (vI 1), some (vI (τ.1 1)), some (vI (smI (iSr z 3) 5)), none, none, none, none, none, none]) (st' := [vI 4, vI (iSr z 6), vI ((smI (iSr z 3) 5) + 1)]) (X' := [(150, .inl (20, .inl q))]) (fun _ _ => rfl) ?_
  have f5 := smI_r (iSr z 6) (n := 4) (by omega)
  refine GX.sx hR [vI (iSr z 6), vI 4] (fun w => lp_some (x := iSr z 6) (n := 4) (by omega) w) kL_158 rfl rfl (by decide) (Nat.le_of_ble_eq_true rfl) (Nat.le_of_ble_eq_true rfl) rfl ?_
  refine GX.run1 hR 7 (pc' := 50) (L' := [some (vR 0), some (vR 200), some (vR 150), some (vI z), some (vI 1), some (vI (τ.1 1)), some (vI (smI (iSr z 3) 5)), some (vI ((((smI (iSr z 3) 5) + 1) + (smI (iSr z 6) 4)) % 5)), none, none, none, none, none]) (st' := [vI (smI (iSr z 3) 5), vI (τ.1 1), vR 0]) (X' := [(150, .inl (20, .inl q))]) (fun _ _ => rfl) (by first | omega | (dsimp only; omega)) ?_
  have f6 := rtN_r (τ.2.1 2) (τ.1 1) (smI (iSr z 3) 5) 24
  refine GX.ask hR hro [vI (τ.1 1), vI (smI (iSr z 3) 5)] ((q_rate τ (by omega) (by omega)).gt) kL_119 rfl rfl rfl (by decide) (Nat.le_of_ble_eq_true rfl) (Nat.le_of_ble_eq_true rfl) rfl (fun _ _ => ⟨_, rfl⟩) ?_
  refine GX.run0 hR 7 (pc' := 64) (L' := [some (vR 0), some (vR 200), some (vR 150), some (vI z), some (vI 1), some (vI (τ.1 1)), some (vI (smI (iSr z 3) 5)), some (vI ((((smI (iSr z 3) 5) + 1) + (smI (iSr z 6) 4)) % 5)), some (vI (rtN (τ.2.1 2) (τ.1 1) (smI (iSr z 3) 5) 24)), none, none, none, none]) (st' := [vI 0, vI ((((smI (iSr z 3) 5) + 1) + (smI (iSr z 6) 4)) % 5), vI (smI (iSr z 3) 5), vI 14, vR 200, vR 0]) (X' := [(150, .inl (20, .inl q))]) (fun _ _ => rfl) ?_
  have fa := smI_r (iSr z 3) (n := 5) (by omega)
  have fb := smI_r (iSr z 6) (n := 4) (by omega)
  obtain ⟨v7, σ8, hcl, hc⟩ := s_swap hJ h2 (a := smI (iSr z 3) 5) (b := (((smI (iSr z 3) 5) + 1) + (smI (iSr z 6) 4)) % 5) (by omega) (by omega) (by omega) 0
  refine GX.bo hR hro hcl rfl (by decide) (Nat.le_of_ble_eq_true rfl) rfl (by decide) (fun hJ2 => ?_)
  have hI2 := hJ2.iv
  have pa := hq.at (p := τ.1 1) (g := smI (iSr z 3) 5) (by omega) (by omega)
  have pb := hq.at (p := τ.1 1) (g := (((smI (iSr z 3) 5) + 1) + (smI (iSr z 6) 4)) % 5) (by omega) (by omega)
  have pc : q (15 + (smI (iSr z 3) 5)) = τ.2.2 0 3 (smI (iSr z 3) 5) := hq.at (p := 3) (g := smI (iSr z 3) 5) (by omega) (by omega)
  have pd : q (15 + ((((smI (iSr z 3) 5) + 1) + (smI (iSr z 6) 4)) % 5)) = τ.2.2 0 3 ((((smI (iSr z 3) 5) + 1) + (smI (iSr z 6) 4)) % 5) := hq.at (p := 3) (g := (((smI (iSr z 3) 5) + 1) + (smI (iSr z 6) 4)) % 5) (by omega) (by omega)
  have f9 := hI.hh (τ.1 1) (smI (iSr z 3) 5)
  have f10 := hI.hh (τ.1 1) ((((smI (iSr z 3) 5) + 1) + (smI (iSr z 6) 4)) % 5)
  have f11 := hI.hh 3 (smI (iSr z 3) 5)
  have f12 := hI.hh 3 ((((smI (iSr z 3) 5) + 1) + (smI (iSr z 6) 4)) % 5)
  rcases hc with ⟨e1, e2, e3⟩ | ⟨e1, e2, e3, e4, e5⟩
  · skip
    rw [e1, e2]
    refine GX.run0 hR 3 (pc' := 74) (L' := [some (vR 0), some (vR 200), some (vR 150), some (vI z), some (vI 1), some (vI (τ.1 1)), some (vI (smI (iSr z 3) 5)), some (vI ((((smI (iSr z 3) 5) + 1) + (smI (iSr z 6) 4)) % 5)), some (vI (rtN (τ.2.1 2) (τ.1 1) (smI (iSr z 3) 5) 24)), some (vI (-1123)), none, none, none]) (st' := [vI (-1123), vI (-1123)]) (X' := [(150, .inl (20, .inl q))]) (fun _ _ => rfl) ?_
    refine GX.br hR (pc1 := 118) (pc2 := 77) (st1 := []) (C := ((-1123) : Int) ≠ (-1123)) (fun _ => rfl) (by first | omega | (dsimp only; omega)) (fun h13 => (by exfalso; omega)) (fun h13 => ?_)
    refine GX.run0 hR 5 (pc' := 82) (L' := [some (vR 0), some (vR 200), some (vR 150), some (vI z), some (vI 1), some (vI (τ.1 1)), some (vI (smI (iSr z 3) 5)), some (vI ((((smI (iSr z 3) 5) + 1) + (smI (iSr z 6) 4)) % 5)), some (vI (rtN (τ.2.1 2) (τ.1 1) (smI (iSr z 3) 5) 24)), some (vI (-1123)), none, none, none]) (st' := [vI 0, vI 0, vI 0, vR 150, vR 0]) (X' := [(150, .inl (20, .inl q))]) (fun _ _ => rfl) ?_
    refine GX.sg hR [vR 0, vR 150, vI 0, vI 0, vI 0] (fun κ κ2 hJ hJ2 => lp_moved hro hJ κ2 (q := q) (f := 0) (t := 0) (n := 0) (by omega) (by omega) (by omega) hqr (mvd_0 hq rfl)) kL_169 rfl rfl (by decide) (Nat.le_of_ble_eq_true rfl) (Nat.le_of_ble_eq_true rfl) rfl ?_
    refine GX.br hR (pc1 := 116) (pc2 := 88) (st1 := []) (C := (1 : Int) = 0) (fun _ => rfl) (by first | omega | (dsimp only; omega)) (fun h14 => (by exfalso; omega)) (fun h14 => ?_)
    refine GX.run1 hR 8 (pc' := 99) (L' := [some (vR 0), some (vR 200), some (vR 150), some (vI z), some (vI 1), some (vI (τ.1 1)), some (vI (smI (iSr z 3) 5)), some (vI ((((smI (iSr z 3) 5) + 1) + (smI (iSr z 6) 4)) % 5)), some (vI (rtN (τ.2.1 2) (τ.1 1) (smI (iSr z 3) 5) 24)), some (vI (-1123)), none, none, none]) (st' := [vI (rtN (τ.2.1 2) (τ.1 1) (smI (iSr z 3) 5) 24), vI (q ((5 * (τ.1 1)) + (smI (iSr z 3) 5)))]) (X' := [(150, .inl (20, .inl q))]) (fun _ _ => rfl) (by first | omega | (dsimp only; omega)) ?_
    refine GX.br hR (pc1 := 112) (pc2 := 102) (st1 := []) (C := q ((5 * (τ.1 1)) + (smI (iSr z 3) 5)) < rtN (τ.2.1 2) (τ.1 1) (smI (iSr z 3) 5) 24) (fun _ => rfl) (by first | omega | (dsimp only; omega)) (fun h15 => ?_) (fun h15 => ?_)
    · skip
      refine GX.run0 hR 2 (pc' := 117) (L' := [some (vR 0), some (vR 200), some (vR 150), some (vI z), some (vI 1), some (vI (τ.1 1)), some (vI (smI (iSr z 3) 5)), some (vI ((((smI (iSr z 3) 5) + 1) + (smI (iSr z 6) 4)) % 5)), some (vI (rtN (τ.2.1 2) (τ.1 1) (smI (iSr z 3) 5) 24)), some (vI (-1123)), none, none, none]) (st' := [vI 1]) (X' := [(150, .inl (20, .inl q))]) (fun _ _ => rfl) ?_
      exact GX.rt hR hk rfl (.inr rfl) ⟨rfl, hO0⟩
    · skip
      refine GX.run1 hR 5 (pc' := 109) (L' := [some (vR 0), some (vR 200), some (vR 150), some (vI z), some (vI 1), some (vI (τ.1 1)), some (vI (smI (iSr z 3) 5)), some (vI ((((smI (iSr z 3) 5) + 1) + (smI (iSr z 6) 4)) % 5)), some (vI (rtN (τ.2.1 2) (τ.1 1) (smI (iSr z 3) 5) 24)), some (vI (-1123)), none, none, none]) (st' := [vI (q (15 + ((((smI (iSr z 3) 5) + 1) + (smI (iSr z 6) 4)) % 5)))]) (X' := [(150, .inl (20, .inl q))]) (fun _ _ => rfl) (by first | omega | (dsimp only; omega)) ?_
      refine GX.br hR (pc1 := 116) (pc2 := 112) (st1 := []) (C := q (15 + ((((smI (iSr z 3) 5) + 1) + (smI (iSr z 6) 4)) % 5)) ≠ 0) (fun _ => rfl) (by first | omega | (dsimp only; omega)) (fun h16 => (by exfalso; omega)) (fun h16 => ?_)
      refine GX.run0 hR 2 (pc' := 117) (L' := [some (vR 0), some (vR 200), some (vR 150), some (vI z), some (vI 1), some (vI (τ.1 1)), some (vI (smI (iSr z 3) 5)), some (vI ((((smI (iSr z 3) 5) + 1) + (smI (iSr z 6) 4)) % 5)), some (vI (rtN (τ.2.1 2) (τ.1 1) (smI (iSr z 3) 5) 24)), some (vI (-1123)), none, none, none]) (st' := [vI 1]) (X' := [(150, .inl (20, .inl q))]) (fun _ _ => rfl) ?_
      exact GX.rt hR hk rfl (.inr rfl) ⟨rfl, hO0⟩
  · skip
    refine GX.run0 hR 3 (pc' := 74) (L' := [some (vR 0), some (vR 200), some (vR 150), some (vI z), some (vI 1), some (vI (τ.1 1)), some (vI (smI (iSr z 3) 5)), some (vI ((((smI (iSr z 3) 5) + 1) + (smI (iSr z 6) 4)) % 5)), some (vI (rtN (τ.2.1 2) (τ.1 1) (smI (iSr z 3) 5) 24)), some (vI v7), none, none, none]) (st' := [vI (-1123), vI v7]) (X' := [(150, .inl (20, .inl q))]) (fun _ _ => rfl) ?_
    refine GX.br hR (pc1 := 118) (pc2 := 77) (st1 := []) (C := v7 ≠ (-1123)) (fun _ => rfl) (by first | omega | (dsimp only; omega)) (fun h17 => ?_) (fun h17 => (by exfalso; omega))
    refine GX.run0 hR 2 (pc' := 121) (L' := [some (vR 0), some (vR 200), some (vR 150), some (vI z), some (vI 1), some (vI (τ.1 1)), some (vI (smI (iSr z 3) 5)), some (vI ((((smI (iSr z 3) 5) + 1) + (smI (iSr z 6) 4)) % 5)), some (vI (rtN (τ.2.1 2) (τ.1 1) (smI (iSr z 3) 5) 24)), some (vI v7), none, none, none]) (st' := [vI 1, vI (rtN (τ.2.1 2) (τ.1 1) (smI (iSr z 3) 5) 24)]) (X' := [(150, .inl (20, .inl q))]) (fun _ _ => rfl) ?_
    refine GX.br hR (pc1 := 212) (pc2 := 124) (st1 := []) (C := rtN (τ.2.1 2) (τ.1 1) (smI (iSr z 3) 5) 24 ≤ 1) (fun _ => rfl) (by first | omega | (dsimp only; omega)) (fun h18 => (by exfalso; omega)) (fun h18 => ?_)
    refine GX.run0 hR 2 (pc' := 127) (L' := [some (vR 0), some (vR 200), some (vR 150), some (vI z), some (vI 1), some (vI (τ.1 1)), some (vI (smI (iSr z 3) 5)), some (vI ((((smI (iSr z 3) 5) + 1) + (smI (iSr z 6) 4)) % 5)), some (vI (rtN (τ.2.1 2) (τ.1 1) (smI (iSr z 3) 5) 24)), some (vI v7), none, none, none]) (st' := [vI 5, vI (rtN (τ.2.1 2) (τ.1 1) (smI (iSr z 3) 5) 24)]) (X' := [(150, .inl (20, .inl q))]) (fun _ _ => rfl) ?_
    refine GX.br hR (pc1 := 212) (pc2 := 130) (st1 := []) (C := 5 ≤ rtN (τ.2.1 2) (τ.1 1) (smI (iSr z 3) 5) 24) (fun _ => rfl) (by first | omega | (dsimp only; omega)) (fun h19 => (by exfalso; omega)) (fun h19 => ?_)
    refine GX.run1 hR 10 (pc' := 143) (L' := [some (vR 0), some (vR 200), some (vR 150), some (vI z), some (vI 1), some (vI (τ.1 1)), some (vI (smI (iSr z 3) 5)), some (vI ((((smI (iSr z 3) 5) + 1) + (smI (iSr z 6) 4)) % 5)), some (vI (rtN (τ.2.1 2) (τ.1 1) (smI (iSr z 3) 5) 24)), some (vI v7), none, none, none]) (st' := [vI ((q ((5 * (τ.1 1)) + ((((smI (iSr z 3) 5) + 1) + (smI (iSr z 6) 4)) % 5))) + 1), vI v7]) (X' := [(150, .inl (20, .inl q))]) (fun _ _ => rfl) (by first | omega | (dsimp only; omega)) ?_
    refine GX.br hR (pc1 := 212) (pc2 := 146) (st1 := []) (C := v7 ≠ (q ((5 * (τ.1 1)) + ((((smI (iSr z 3) 5) + 1) + (smI (iSr z 6) 4)) % 5))) + 1) (fun _ => rfl) (by first | omega | (dsimp only; omega)) (fun h20 => (by exfalso; omega)) (fun h20 => ?_)
    refine GX.run0 hR 3 (pc' := 151) (L' := [some (vR 0), some (vR 200), some (vR 150), some (vI z), some (vI 1), some (vI (τ.1 1)), some (vI (smI (iSr z 3) 5)), some (vI ((((smI (iSr z 3) 5) + 1) + (smI (iSr z 6) 4)) % 5)), some (vI (rtN (τ.2.1 2) (τ.1 1) (smI (iSr z 3) 5) 24)), some (vI v7), none, none, none]) (st' := [vI (smI (iSr z 3) 5), vI (τ.1 1), vR 0]) (X' := [(150, .inl (20, .inl q))]) (fun _ _ => rfl) ?_
    have f21 := hI2.hh (τ.1 1) (smI (iSr z 3) 5)
    refine GX.ask hR hro [vI (τ.1 1), vI (smI (iSr z 3) 5)] ((q_hand σ8 (by omega) (by omega)).gt) kL_89 rfl rfl rfl (by decide) (Nat.le_of_ble_eq_true rfl) (Nat.le_of_ble_eq_true rfl) rfl (fun _ _ => ⟨_, rfl⟩) ?_
    refine GX.run1 hR 9 (pc' := 166) (L' := [some (vR 0), some (vR 200), some (vR 150), some (vI z), some (vI 1), some (vI (τ.1 1)), some (vI (smI (iSr z 3) 5)), some (vI ((((smI (iSr z 3) 5) + 1) + (smI (iSr z 6) 4)) % 5)), some (vI (rtN (τ.2.1 2) (τ.1 1) (smI (iSr z 3) 5) 24)), some (vI v7), none, none, none]) (st' := [vI ((q ((5 * (τ.1 1)) + (smI (iSr z 3) 5))) - (rtN (τ.2.1 2) (τ.1 1) (smI (iSr z 3) 5) 24)), vI (σ8.2.2 0 (τ.1 1) (smI (iSr z 3) 5))]) (X' := [(150, .inl (20, .inl q))]) (fun _ _ => rfl) (by first | omega | (dsimp only; omega)) ?_
    refine GX.br hR (pc1 := 212) (pc2 := 169) (st1 := []) (C := σ8.2.2 0 (τ.1 1) (smI (iSr z 3) 5) ≠ (q ((5 * (τ.1 1)) + (smI (iSr z 3) 5))) - (rtN (τ.2.1 2) (τ.1 1) (smI (iSr z 3) 5) 24)) (fun _ => rfl) (by first | omega | (dsimp only; omega)) (fun h22 => (by exfalso; omega)) (fun h22 => ?_)
    refine GX.run0 hR 3 (pc' := 173) (L' := [some (vR 0), some (vR 200), some (vR 150), some (vI z), some (vI 1), some (vI (τ.1 1)), some (vI (smI (iSr z 3) 5)), some (vI ((((smI (iSr z 3) 5) + 1) + (smI (iSr z 6) 4)) % 5)), some (vI (rtN (τ.2.1 2) (τ.1 1) (smI (iSr z 3) 5) 24)), some (vI v7), none, none, none]) (st' := [vI (smI (iSr z 3) 5), vI 3, vR 0]) (X' := [(150, .inl (20, .inl q))]) (fun _ _ => rfl) ?_
    have f23 := hI2.hh 3 (smI (iSr z 3) 5)
    refine GX.ask hR hro [vI 3, vI (smI (iSr z 3) 5)] ((q_hand σ8 (by omega) (by omega)).gt) kL_89 rfl rfl rfl (by decide) (Nat.le_of_ble_eq_true rfl) (Nat.le_of_ble_eq_true rfl) rfl (fun _ _ => ⟨_, rfl⟩) ?_
    refine GX.run1 hR 7 (pc' := 186) (L' := [some (vR 0), some (vR 200), some (vR 150), some (vI z), some (vI 1), some (vI (τ.1 1)), some (vI (smI (iSr z 3) 5)), some (vI ((((smI (iSr z 3) 5) + 1) + (smI (iSr z 6) 4)) % 5)), some (vI (rtN (τ.2.1 2) (τ.1 1) (smI (iSr z 3) 5) 24)), some (vI v7), none, none, none]) (st' := [vI ((q (15 + (smI (iSr z 3) 5))) + (rtN (τ.2.1 2) (τ.1 1) (smI (iSr z 3) 5) 24)), vI (σ8.2.2 0 3 (smI (iSr z 3) 5))]) (X' := [(150, .inl (20, .inl q))]) (fun _ _ => rfl) (by first | omega | (dsimp only; omega)) ?_
    refine GX.br hR (pc1 := 212) (pc2 := 189) (st1 := []) (C := σ8.2.2 0 3 (smI (iSr z 3) 5) ≠ (q (15 + (smI (iSr z 3) 5))) + (rtN (τ.2.1 2) (τ.1 1) (smI (iSr z 3) 5) 24)) (fun _ => rfl) (by first | omega | (dsimp only; omega)) (fun h24 => (by exfalso; omega)) (fun h24 => ?_)
    refine GX.run0 hR 3 (pc' := 193) (L' := [some (vR 0), some (vR 200), some (vR 150), some (vI z), some (vI 1), some (vI (τ.1 1)), some (vI (smI (iSr z 3) 5)), some (vI ((((smI (iSr z 3) 5) + 1) + (smI (iSr z 6) 4)) % 5)), some (vI (rtN (τ.2.1 2) (τ.1 1) (smI (iSr z 3) 5) 24)), some (vI v7), none, none, none]) (st' := [vI ((((smI (iSr z 3) 5) + 1) + (smI (iSr z 6) 4)) % 5), vI 3, vR 0]) (X' := [(150, .inl (20, .inl q))]) (fun _ _ => rfl) ?_
    have f25 := hI2.hh 3 ((((smI (iSr z 3) 5) + 1) + (smI (iSr z 6) 4)) % 5)
    refine GX.ask hR hro [vI 3, vI ((((smI (iSr z 3) 5) + 1) + (smI (iSr z 6) 4)) % 5)] ((q_hand σ8 (by omega) (by omega)).gt) kL_89 rfl rfl rfl (by decide) (Nat.le_of_ble_eq_true rfl) (Nat.le_of_ble_eq_true rfl) rfl (fun _ _ => ⟨_, rfl⟩) ?_
    refine GX.run1 hR 7 (pc' := 205) (L' := [some (vR 0), some (vR 200), some (vR 150), some (vI z), some (vI 1), some (vI (τ.1 1)), some (vI (smI (iSr z 3) 5)), some (vI ((((smI (iSr z 3) 5) + 1) + (smI (iSr z 6) 4)) % 5)), some (vI (rtN (τ.2.1 2) (τ.1 1) (smI (iSr z 3) 5) 24)), some (vI v7), none, none, none]) (st' := [vI ((q (15 + ((((smI (iSr z 3) 5) + 1) + (smI (iSr z 6) 4)) % 5))) - 1), vI (σ8.2.2 0 3 ((((smI (iSr z 3) 5) + 1) + (smI (iSr z 6) 4)) % 5))]) (X' := [(150, .inl (20, .inl q))]) (fun _ _ => rfl) (by first | omega | (dsimp only; omega)) ?_
    refine GX.br hR (pc1 := 212) (pc2 := 208) (st1 := []) (C := σ8.2.2 0 3 ((((smI (iSr z 3) 5) + 1) + (smI (iSr z 6) 4)) % 5) ≠ (q (15 + ((((smI (iSr z 3) 5) + 1) + (smI (iSr z 6) 4)) % 5))) - 1) (fun _ => rfl) (by first | omega | (dsimp only; omega)) (fun h26 => (by exfalso; omega)) (fun h26 => ?_)
    refine GX.run0 hR 2 (pc' := 213) (L' := [some (vR 0), some (vR 200), some (vR 150), some (vI z), some (vI 1), some (vI (τ.1 1)), some (vI (smI (iSr z 3) 5)), some (vI ((((smI (iSr z 3) 5) + 1) + (smI (iSr z 6) 4)) % 5)), some (vI (rtN (τ.2.1 2) (τ.1 1) (smI (iSr z 3) 5) 24)), some (vI v7), none, none, none]) (st' := [vI 1]) (X' := [(150, .inl (20, .inl q))]) (fun _ _ => rfl) ?_
    exact GX.rt hR hk rfl (.inr rfl) ⟨rfl, (Ov.of (by omega))⟩
set_option maxRecDepth 20000 in
set_option maxHeartbeats 4000000 in
theorem w_trades2 {ro : PRO} (hro : ∀ q ∈ roC, q ∈ ro) {τ : St} (hJ : Jx τ) {q : Int → Int} (hq : isQ (τ.2.2 0) q) (hO0 : Ov τ) (z : Int) (h2 : τ.1 0 = 2) (hw : smI z 5 = 2) : SX mL_trades ro 15 [vR 0, vR 200, vR 150, vI z] τ [(150, .inl (20, .inl q))] (fun i σ => i = 1 ∧ Ov σ) 8 := by
  have hI := hJ.iv
  refine SX.of rfl tL_trades (Nat.le_of_ble_eq_true rfl) (fun G ks hk hR => ?_)
  show GX G 0 τ ([(150, .inl (20, .inl q))]) 0 [some (vR 0), some (vR 200), some (vR 150), some (vI z), none, none, none, none, none, none, none, none, none] []
  have hqr := hq.r hI
  have ht := hI.htu
  refine GX.run0 hR 2 (pc' := 2) (L' := [some (vR 0), some (vR 200), some (vR 150), some (vI z), none, none, none, none, none, none, none, none, none]) (st' := [vI 5, vI z]) (X' := [(150, .inl (20, .inl q))]) (fun _ _ => rfl) ?_
  have f1 := smI_r z (n := 5) (by omega)
  refine GX.sx hR [vI z, vI 5] (fun w => lp_some (x := z) (n := 5) (by omega) w) kL_158 rfl rfl (by decide) (Nat.le_of_ble_eq_true rfl) (Nat.le_of_ble_eq_true rfl) rfl ?_
  rw [hw]
  refine GX.run0 hR 2 (pc' := 8) (L' := [some (vR 0), some (vR 200), some (vR 150), some (vI z), some (vI 2), none, none, none, none, none, none, none, none]) (st' := [vR 0]) (X' := [(150, .inl (20, .inl q))]) (fun _ _ => rfl) ?_
  have f2 := hI.htu
  refine GX.ask hR hro [] ((q_turn τ).gt) kL_130 rfl rfl rfl (by decide) (Nat.le_of_ble_eq_true rfl) (Nat.le_of_ble_eq_true rfl) rfl (fun _ _ => ⟨_, rfl⟩) ?_
  refine GX.run0 hR 3 (pc' := 16) (L' := [some (vR 0), some (vR 200), some (vR 150), some (vI z), some (vI 2), some (vI (τ.1 1)), none, none, none, none, none, none, none]) (st' := [vI 2, vI 2]) (X' := [(150, .inl (20, .inl q))]) (fun _ _ => rfl) ?_
  refine GX.br hR (pc1 := 214) (pc2 := 19) (st1 := []) (C := (2 : Int) ≤ 2) (fun _ => rfl) (by first | omega | (dsimp only; omega)) (fun h3 => ?_) (fun h3 => (by exfalso; omega))
  refine GX.run0 hR 7 (pc' := 222) (L' := [some (vR 0), some (vR 200), some (vR 150), some (vI z), some (vI 2), some (vI (τ.1 1)), none, none, none, none, none, none, none]) (st' := [vI 2, vI (iSr z 3), vI ((τ.1 1) + 1)]) (X' := [(150, .inl (20, .inl q))]) (fun _ _ => rfl) ?_
  have f4 := smI_r (iSr z 3) (n := 2) (by omega)
  refine GX.sx hR [vI (iSr z 3), vI 2] (fun w => lp_some (x := iSr z 3) (n := 2) (by omega) w) kL_158 rfl rfl (by decide) (Nat.le_of_ble_eq_true rfl) (Nat.le_of_ble_eq_true rfl) rfl ?_
  refine GX.run1 hR 10 (pc' := 237) (L' := [some (vR 0), some (vR 200), some (vR 150), some (vI z), some (vI 2), some (vI (τ.1 1)), some (vI ((((τ.1 1) + 1) + (smI (iSr z 3) 2)) % 3)), none, none, none, none, none, none]) (st' := [vI 2, vI (iSr z 5), vI 10, vI 1]) (X' := [(150, .inl (20, .inl q))]) (fun _ _ => rfl) (by first | omega | (dsimp only; omega)) ?_
  have f5 := smI_r (iSr z 5) (n := 2) (by omega)
  refine GX.sx hR [vI (iSr z 5), vI 2] (fun w => lp_some (x := iSr z 5) (n := 2) (by omega) w) kL_158 rfl rfl (by decide) (Nat.le_of_ble_eq_true rfl) (Nat.le_of_ble_eq_true rfl) rfl ?_
  refine GX.run0 hR 7 (pc' := 250) (L' := [some (vR 0), some (vR 200), some (vR 150), some (vI z), some (vI 2), some (vI (τ.1 1)), some (vI ((((τ.1 1) + 1) + (smI (iSr z 3) 2)) % 3)), none, none, none, none, none, none]) (st' := [vI 2, vI (iSr z 6), vI 1000, vI (1 + (10 * (smI (iSr z 5) 2)))]) (X' := [(150, .inl (20, .inl q))]) (fun _ _ => rfl) ?_
  have f6 := smI_r (iSr z 6) (n := 2) (by omega)
  refine GX.sx hR [vI (iSr z 6), vI 2] (fun w => lp_some (x := iSr z 6) (n := 2) (by omega) w) kL_158 rfl rfl (by decide) (Nat.le_of_ble_eq_true rfl) (Nat.le_of_ble_eq_true rfl) rfl ?_
  refine GX.run0 hR 8 (pc' := 264) (L' := [some (vR 0), some (vR 200), some (vR 150), some (vI z), some (vI 2), some (vI (τ.1 1)), some (vI ((((τ.1 1) + 1) + (smI (iSr z 3) 2)) % 3)), some (vI ((1 + (10 * (smI (iSr z 5) 2))) + (1000 * (smI (iSr z 6) 2)))), none, none, none, none, none]) (st' := [vI 2, vI (iSr z 7), vI 100]) (X' := [(150, .inl (20, .inl q))]) (fun _ _ => rfl) ?_
  have f7 := smI_r (iSr z 7) (n := 2) (by omega)
  refine GX.sx hR [vI (iSr z 7), vI 2] (fun w => lp_some (x := iSr z 7) (n := 2) (by omega) w) kL_158 rfl rfl (by decide) (Nat.le_of_ble_eq_true rfl) (Nat.le_of_ble_eq_true rfl) rfl ?_
  refine GX.run0 hR 6 (pc' := 276) (L' := [some (vR 0), some (vR 200), some (vR 150), some (vI z), some (vI 2), some (vI (τ.1 1)), some (vI ((((τ.1 1) + 1) + (smI (iSr z 3) 2)) % 3)), some (vI ((1 + (10 * (smI (iSr z 5) 2))) + (1000 * (smI (iSr z 6) 2)))), none, none, none, none, none]) (st' := [vI 2, vI (iSr z 8), vI 10000, vI (100 * (smI (iSr z 7) 2))]) (X' := [(150, .inl (20, .inl q))]) (fun _ _ => rfl) ?_
  have f8 := smI_r (iSr z 8) (n := 2) (by omega)
  refine GX.sx hR [vI (iSr z 8), vI 2] (fun w => lp_some (x := iSr z 8) (n := 2) (by omega) w) kL_158 rfl rfl (by decide) (Nat.le_of_ble_eq_true rfl) (Nat.le_of_ble_eq_true rfl) rfl ?_
  refine GX.run0 hR 5 (pc' := 286) (L' := [some (vR 0), some (vR 200), some (vR 150), some (vI z), some (vI 2), some (vI (τ.1 1)), some (vI ((((τ.1 1) + 1) + (smI (iSr z 3) 2)) % 3)), some (vI ((1 + (10 * (smI (iSr z 5) 2))) + (1000 * (smI (iSr z 6) 2)))), some (vI (((100 * (smI (iSr z 7) 2)) + (10000 * (smI (iSr z 8) 2))) + 10)), none, none, none, none]) (st' := []) (X' := [(150, .inl (20, .inl q))]) (fun _ _ => rfl) ?_
  have s5 := smI_r (iSr z 5) (n := 2) (by omega)
  have s6 := smI_r (iSr z 6) (n := 2) (by omega)
  have s7 := smI_r (iSr z 7) (n := 2) (by omega)
  have s8 := smI_r (iSr z 8) (n := 2) (by omega)
  have s3 := smI_r (iSr z 3) (n := 2) (by omega)
  have gr : _ := giv_r s5 s6
  have wr : _ := wan_r s7 s8
  have pr : 0 ≤ (((τ.1 1) + 1) + (smI (iSr z 3) 2)) % 3 ∧ (((τ.1 1) + 1) + (smI (iSr z 3) 2)) % 3 < 3 ∧ (((τ.1 1) + 1) + (smI (iSr z 3) 2)) % 3 ≠ τ.1 1 := by omega
  generalize (1 + (10 * (smI (iSr z 5) 2))) + (1000 * (smI (iSr z 6) 2)) = gv at gr ⊢
  generalize ((100 * (smI (iSr z 7) 2)) + (10000 * (smI (iSr z 8) 2))) + 10 = wn at wr ⊢
  generalize (((τ.1 1) + 1) + (smI (iSr z 3) 2)) % 3 = pp at pr ⊢
  obtain ⟨gr1, gr2, gr3, gr4⟩ := gr
  obtain ⟨wr1, wr2, wr3, wr4⟩ := wr
  obtain ⟨pr1, pr2, pr3⟩ := pr
  have hpp : 0 ≤ pp ∧ pp < 3 := ⟨pr1, pr2⟩
  have qt0 := hq.at (p := τ.1 1) (g := 0) (by omega) (by omega)
  have qp0 := hq.at (p := pp) (g := 0) (by omega) (by omega)
  have qb0 : q 15 = τ.2.2 0 3 0 := hq.at (p := 3) (g := 0) (by omega) (by omega)
  have f9 := hI.hh (τ.1 1) 0
  have f10 := hI.hh pp 0
  have f11 := hI.hh 3 0
  have qt1 := hq.at (p := τ.1 1) (g := 1) (by omega) (by omega)
  have qp1 := hq.at (p := pp) (g := 1) (by omega) (by omega)
  have qb1 : q 16 = τ.2.2 0 3 1 := hq.at (p := 3) (g := 1) (by omega) (by omega)
  have f12 := hI.hh (τ.1 1) 1
  have f13 := hI.hh pp 1
  have f14 := hI.hh 3 1
  have qt2 := hq.at (p := τ.1 1) (g := 2) (by omega) (by omega)
  have qp2 := hq.at (p := pp) (g := 2) (by omega) (by omega)
  have qb2 : q 17 = τ.2.2 0 3 2 := hq.at (p := 3) (g := 2) (by omega) (by omega)
  have f15 := hI.hh (τ.1 1) 2
  have f16 := hI.hh pp 2
  have f17 := hI.hh 3 2
  have qt3 := hq.at (p := τ.1 1) (g := 3) (by omega) (by omega)
  have qp3 := hq.at (p := pp) (g := 3) (by omega) (by omega)
  have qb3 : q 18 = τ.2.2 0 3 3 := hq.at (p := 3) (g := 3) (by omega) (by omega)
  have f18 := hI.hh (τ.1 1) 3
  have f19 := hI.hh pp 3
  have f20 := hI.hh 3 3
  have qt4 := hq.at (p := τ.1 1) (g := 4) (by omega) (by omega)
  have qp4 := hq.at (p := pp) (g := 4) (by omega) (by omega)
  have qb4 : q 19 = τ.2.2 0 3 4 := hq.at (p := 3) (g := 4) (by omega) (by omega)
  have f21 := hI.hh (τ.1 1) 4
  have f22 := hI.hh pp 4
  have f23 := hI.hh 3 4
  have qz0 : q (5 * τ.1 1) = τ.2.2 0 (τ.1 1) 0 := by rw [Int.add_zero] at qt0; exact qt0
  refine GX.run0 hR 2 (pc' := 289) (L' := [some (vR 0), some (vR 200), some (vR 150), some (vI z), some (vI 2), some (vI (τ.1 1)), some (vI pp), some (vI gv), some (vI wn), none, none, none, none]) (st' := [vI 4, vI 2]) (X' := [(150, .inl (20, .inl q))]) (fun _ _ => rfl) ?_
  refine GX.br hR (pc1 := 542) (pc2 := 292) (st1 := []) (C := (4 : Int) ≤ 2) (fun _ => rfl) (by first | omega | (dsimp only; omega)) (fun h24 => (by exfalso; omega)) (fun h24 => ?_)
  refine GX.run0 hR 6 (pc' := 301) (L' := [some (vR 0), some (vR 200), some (vR 150), some (vI z), some (vI 2), some (vI (τ.1 1)), some (vI pp), some (vI gv), some (vI wn), none, none, none, none]) (st' := [vI 0, vI wn, vI gv, vI 15, vR 200, vR 0]) (X' := [(150, .inl (20, .inl q))]) (fun _ _ => rfl) ?_
  obtain ⟨v25, σ26, hcl, hc⟩ := s_offer h2 (a := gv) (b := wn) ⟨gr1, by omega⟩ ⟨wr1, by omega⟩ 0
  refine GX.bo hR hro hcl rfl (by decide) (Nat.le_of_ble_eq_true rfl) rfl (by decide) (fun hJ2 => ?_)
  have hI2 := hJ2.iv
  have hJs := hJ2
  have hIs := hI2
  rcases hc with ⟨e1, e2⟩ | ⟨e1, e2, e3⟩
  · skip
    rw [e1, e2]
    refine GX.run0 hR 2 (pc' := 308) (L' := [some (vR 0), some (vR 200), some (vR 150), some (vI z), some (vI 2), some (vI (τ.1 1)), some (vI pp), some (vI gv), some (vI wn), some (vI (-1123)), none, none, none]) (st' := [vI (-1123)]) (X' := [(150, .inl (20, .inl q))]) (fun _ _ => rfl) ?_
    refine GX.br hR (pc1 := 325) (pc2 := 311) (st1 := []) (C := ((-1123) : Int) ≠ 0) (fun _ => rfl) (by first | omega | (dsimp only; omega)) (fun h27 => ?_) (fun h27 => (by exfalso; omega))
    refine GX.run0 hR 4 (pc' := 335) (L' := [some (vR 0), some (vR 200), some (vR 150), some (vI z), some (vI 2), some (vI (τ.1 1)), some (vI pp), some (vI gv), some (vI wn), some (vI (-1123)), some (vI (-1123)), none, none]) (st' := [vI (-1123), vI (-1123)]) (X' := [(150, .inl (20, .inl q))]) (fun _ _ => rfl) ?_
    refine GX.br hR (pc1 := 363) (pc2 := 338) (st1 := []) (C := ((-1123) : Int) ≠ (-1123)) (fun _ => rfl) (by first | omega | (dsimp only; omega)) (fun h28 => (by exfalso; omega)) (fun h28 => ?_)
    refine GX.run0 hR 2 (pc' := 343) (L' := [some (vR 0), some (vR 200), some (vR 150), some (vI z), some (vI 2), some (vI (τ.1 1)), some (vI pp), some (vI gv), some (vI wn), some (vI (-1123)), some (vI (-1123)), none, none]) (st' := [vI (-2000), vI (-1123)]) (X' := [(150, .inl (20, .inl q))]) (fun _ _ => rfl) ?_
    refine GX.br hR (pc1 := 361) (pc2 := 346) (st1 := []) (C := ((-1123) : Int) ≤ (-2000)) (fun _ => rfl) (by first | omega | (dsimp only; omega)) (fun h29 => (by exfalso; omega)) (fun h29 => ?_)
    refine GX.run0 hR 5 (pc' := 351) (L' := [some (vR 0), some (vR 200), some (vR 150), some (vI z), some (vI 2), some (vI (τ.1 1)), some (vI pp), some (vI gv), some (vI wn), some (vI (-1123)), some (vI (-1123)), none, none]) (st' := [vI 0, vI 0, vI 0, vR 150, vR 0]) (X' := [(150, .inl (20, .inl q))]) (fun _ _ => rfl) ?_
    refine GX.sg hR [vR 0, vR 150, vI 0, vI 0, vI 0] (fun κ κ2 hJ hJ2 => lp_moved hro hJ κ2 (q := q) (f := 0) (t := 0) (n := 0) (by omega) (by omega) (by omega) hqr (mvd_0 hq rfl)) kL_169 rfl rfl (by decide) (Nat.le_of_ble_eq_true rfl) (Nat.le_of_ble_eq_true rfl) rfl ?_
    refine GX.br hR (pc1 := 361) (pc2 := 357) (st1 := []) (C := (1 : Int) = 0) (fun _ => rfl) (by first | omega | (dsimp only; omega)) (fun h30 => (by exfalso; omega)) (fun h30 => ?_)
    refine GX.run0 hR 2 (pc' := 362) (L' := [some (vR 0), some (vR 200), some (vR 150), some (vI z), some (vI 2), some (vI (τ.1 1)), some (vI pp), some (vI gv), some (vI wn), some (vI (-1123)), some (vI (-1123)), none, none]) (st' := [vI 1]) (X' := [(150, .inl (20, .inl q))]) (fun _ _ => rfl) ?_
    exact GX.rt hR hk rfl (.inr rfl) ⟨rfl, hO0⟩
  · skip
    rw [e1]
    have eh : σ26.2.2 0 = τ.2.2 0 := by rw [e2]; rfl
    have e0 : σ26.1 0 = 2 := by rw [e2]; exact h2
    have et : σ26.1 1 = τ.1 1 := by rw [e2]; rfl
    have e9 : σ26.1 9 = gv := by rw [e2]; rfl
    have e10 : σ26.1 10 = wn := by rw [e2]; rfl
    refine GX.run0 hR 2 (pc' := 308) (L' := [some (vR 0), some (vR 200), some (vR 150), some (vI z), some (vI 2), some (vI (τ.1 1)), some (vI pp), some (vI gv), some (vI wn), some (vI 0), none, none, none]) (st' := [vI 0]) (X' := [(150, .inl (20, .inl q))]) (fun _ _ => rfl) ?_
    refine GX.br hR (pc1 := 325) (pc2 := 311) (st1 := []) (C := (0 : Int) ≠ 0) (fun _ => rfl) (by first | omega | (dsimp only; omega)) (fun h31 => (by exfalso; omega)) (fun h31 => ?_)
    refine GX.run0 hR 6 (pc' := 319) (L' := [some (vR 0), some (vR 200), some (vR 150), some (vI z), some (vI 2), some (vI (τ.1 1)), some (vI pp), some (vI gv), some (vI wn), some (vI 0), none, none, none]) (st' := [vI 0, vI 0, vI pp, vI 17, vR 200, vR 0]) (X' := [(150, .inl (20, .inl q))]) (fun _ _ => rfl) ?_
    obtain ⟨v32, σ33, hcl, hc⟩ := s_accept hJs (p := pp) hpp 0 0
    refine GX.bo hR hro hcl rfl (by decide) (Nat.le_of_ble_eq_true rfl) rfl (by decide) (fun hJ2 => ?_)
    have hI2 := hJ2.iv
    rcases hc with ⟨f1, f2⟩ | ⟨f1, f2, f3, f4, f5, f6⟩
    · skip
      rw [f1, f2]
      refine GX.run0 hR 4 (pc' := 335) (L' := [some (vR 0), some (vR 200), some (vR 150), some (vI z), some (vI 2), some (vI (τ.1 1)), some (vI pp), some (vI gv), some (vI wn), some (vI 0), some (vI (-1123)), none, none]) (st' := [vI (-1123), vI (-1123)]) (X' := [(150, .inl (20, .inl q))]) (fun _ _ => rfl) ?_
      refine GX.br hR (pc1 := 363) (pc2 := 338) (st1 := []) (C := ((-1123) : Int) ≠ (-1123)) (fun _ => rfl) (by first | omega | (dsimp only; omega)) (fun h34 => (by exfalso; omega)) (fun h34 => ?_)
      refine GX.run0 hR 2 (pc' := 343) (L' := [some (vR 0), some (vR 200), some (vR 150), some (vI z), some (vI 2), some (vI (τ.1 1)), some (vI pp), some (vI gv), some (vI wn), some (vI 0), some (vI (-1123)), none, none]) (st' := [vI (-2000), vI 0]) (X' := [(150, .inl (20, .inl q))]) (fun _ _ => rfl) ?_
      refine GX.br hR (pc1 := 361) (pc2 := 346) (st1 := []) (C := (0 : Int) ≤ (-2000)) (fun _ => rfl) (by first | omega | (dsimp only; omega)) (fun h35 => (by exfalso; omega)) (fun h35 => ?_)
      refine GX.run0 hR 5 (pc' := 351) (L' := [some (vR 0), some (vR 200), some (vR 150), some (vI z), some (vI 2), some (vI (τ.1 1)), some (vI pp), some (vI gv), some (vI wn), some (vI 0), some (vI (-1123)), none, none]) (st' := [vI 0, vI 0, vI 0, vR 150, vR 0]) (X' := [(150, .inl (20, .inl q))]) (fun _ _ => rfl) ?_
      refine GX.sg hR [vR 0, vR 150, vI 0, vI 0, vI 0] (fun κ κ2 hJ hJ2 => lp_moved hro hJ κ2 (q := q) (f := 0) (t := 0) (n := 0) (by omega) (by omega) (by omega) hqr (mvd_0 hq eh)) kL_169 rfl rfl (by decide) (Nat.le_of_ble_eq_true rfl) (Nat.le_of_ble_eq_true rfl) rfl ?_
      refine GX.br hR (pc1 := 361) (pc2 := 357) (st1 := []) (C := (1 : Int) = 0) (fun _ => rfl) (by first | omega | (dsimp only; omega)) (fun h36 => (by exfalso; omega)) (fun h36 => ?_)
      refine GX.run0 hR 2 (pc' := 362) (L' := [some (vR 0), some (vR 200), some (vR 150), some (vI z), some (vI 2), some (vI (τ.1 1)), some (vI pp), some (vI gv), some (vI wn), some (vI 0), some (vI (-1123)), none, none]) (st' := [vI 1]) (X' := [(150, .inl (20, .inl q))]) (fun _ _ => rfl) ?_
      exact GX.rt hR hk rfl (.inr rfl) ⟨rfl, (Ov.of (by omega))⟩
    · skip
      rw [eh, et, e9, e10] at f3
      have hto := tot_r (h := σ33.2.2 0) hI2.hh pp
      have x0 := ex_at (h := τ.2.2 0) (p := pp) (t := τ.1 1) (g := wn) (w := gv) (k := 0) hpp ht pr3 (by omega)
      rw [← f3] at x0
      have x1 := ex_at (h := τ.2.2 0) (p := pp) (t := τ.1 1) (g := wn) (w := gv) (k := 1) hpp ht pr3 (by omega)
      rw [← f3] at x1
      have x2 := ex_at (h := τ.2.2 0) (p := pp) (t := τ.1 1) (g := wn) (w := gv) (k := 2) hpp ht pr3 (by omega)
      rw [← f3] at x2
      have x3 := ex_at (h := τ.2.2 0) (p := pp) (t := τ.1 1) (g := wn) (w := gv) (k := 3) hpp ht pr3 (by omega)
      rw [← f3] at x3
      have x4 := ex_at (h := τ.2.2 0) (p := pp) (t := τ.1 1) (g := wn) (w := gv) (k := 4) hpp ht pr3 (by omega)
      rw [← f3] at x4
      refine GX.run0 hR 4 (pc' := 335) (L' := [some (vR 0), some (vR 200), some (vR 150), some (vI z), some (vI 2), some (vI (τ.1 1)), some (vI pp), some (vI gv), some (vI wn), some (vI 0), some (vI v32), none, none]) (st' := [vI (-1123), vI v32]) (X' := [(150, .inl (20, .inl q))]) (fun _ _ => rfl) ?_
      refine GX.br hR (pc1 := 363) (pc2 := 338) (st1 := []) (C := v32 ≠ (-1123)) (fun _ => rfl) (by first | omega | (dsimp only; omega)) (fun h37 => ?_) (fun h37 => (by exfalso; omega))
      refine GX.run0 hR 3 (pc' := 368) (L' := [some (vR 0), some (vR 200), some (vR 150), some (vI z), some (vI 2), some (vI (τ.1 1)), some (vI pp), some (vI gv), some (vI wn), some (vI 0), some (vI v32), none, none]) (st' := [vI pp, vR 0, vI v32]) (X' := [(150, .inl (20, .inl q))]) (fun _ _ => rfl) ?_
      have f38 := tot_r hI2.hh pp
      refine GX.sg hR [vR 0, vI pp] (fun κ κ2 hJ hJ2 => lp_size hro hJ κ2 ([(150, .inl (20, .inl q))]) (by omega)) kL_165 rfl rfl (by decide) (Nat.le_of_ble_eq_true rfl) (Nat.le_of_ble_eq_true rfl) rfl ?_
      refine GX.br hR (pc1 := 378) (pc2 := 374) (st1 := []) (C := v32 ≠ tot (σ33.2.2 0) pp) (fun _ => rfl) (by first | omega | (dsimp only; omega)) (fun h39 => (by exfalso; omega)) (fun h39 => ?_)
      refine GX.run0 hR 7 (pc' := 387) (L' := [some (vR 0), some (vR 200), some (vR 150), some (vI z), some (vI 2), some (vI (τ.1 1)), some (vI pp), some (vI gv), some (vI wn), some (vI 0), some (vI v32), some (vI 1), some (vI 0)]) (st' := [vI 5, vI 0]) (X' := [(150, .inl (20, .inl q))]) (fun _ _ => rfl) ?_
      refine GX.br hR (pc1 := 497) (pc2 := 390) (st1 := []) (C := (5 : Int) ≤ 0) (fun _ => rfl) (by first | omega | (dsimp only; omega)) (fun h40 => (by exfalso; omega)) (fun h40 => ?_)
      refine GX.run0 hR 1 (pc' := 392) (L' := [some (vR 0), some (vR 200), some (vR 150), some (vI z), some (vI 2), some (vI (τ.1 1)), some (vI pp), some (vI gv), some (vI wn), some (vI 0), some (vI v32), some (vI 1), some (vI 0)]) (st' := [vI 1]) (X' := [(150, .inl (20, .inl q))]) (fun _ _ => rfl) ?_
      refine GX.br hR (pc1 := 497) (pc2 := 395) (st1 := []) (C := (1 : Int) = 0) (fun _ => rfl) (by first | omega | (dsimp only; omega)) (fun h41 => (by exfalso; omega)) (fun h41 => ?_)
      refine GX.run0 hR 3 (pc' := 400) (L' := [some (vR 0), some (vR 200), some (vR 150), some (vI z), some (vI 2), some (vI (τ.1 1)), some (vI pp), some (vI gv), some (vI wn), some (vI 0), some (vI v32), some (vI 1), some (vI 0)]) (st' := [vI 0, vI pp, vR 0]) (X' := [(150, .inl (20, .inl q))]) (fun _ _ => rfl) ?_
      have f42 := hI2.hh pp 0
      refine GX.ask hR hro [vI pp, vI 0] ((q_hand σ33 (by omega) (by omega)).gt) kL_89 rfl rfl rfl (by decide) (Nat.le_of_ble_eq_true rfl) (Nat.le_of_ble_eq_true rfl) rfl (fun _ _ => ⟨_, rfl⟩) ?_
      refine GX.run1 hR 9 (pc' := 416) (L' := [some (vR 0), some (vR 200), some (vR 150), some (vI z), some (vI 2), some (vI (τ.1 1)), some (vI pp), some (vI gv), some (vI wn), some (vI 0), some (vI v32), some (vI 1), some (vI 0)]) (st' := [vI 0, vI gv, vI (q ((5 * pp) + 0)), vI (σ33.2.2 0 pp 0)]) (X' := [(150, .inl (20, .inl q))]) (fun _ _ => rfl) (by first | omega | (dsimp only; omega)) ?_
      have f43 := dgt_r gv 0
      refine GX.sx hR [vI gv, vI 0] (fun w => lp_digit (n := gv) (k := 0) (by omega) (by omega) w) kL_152 rfl rfl (by decide) (Nat.le_of_ble_eq_true rfl) (Nat.le_of_ble_eq_true rfl) rfl ?_
      refine GX.run0 hR 3 (pc' := 424) (L' := [some (vR 0), some (vR 200), some (vR 150), some (vI z), some (vI 2), some (vI (τ.1 1)), some (vI pp), some (vI gv), some (vI wn), some (vI 0), some (vI v32), some (vI 1), some (vI 0)]) (st' := [vI 0, vI wn, vI ((q ((5 * pp) + 0)) + (dgt gv 0)), vI (σ33.2.2 0 pp 0)]) (X' := [(150, .inl (20, .inl q))]) (fun _ _ => rfl) ?_
      have f44 := dgt_r wn 0
      refine GX.sx hR [vI wn, vI 0] (fun w => lp_digit (n := wn) (k := 0) (by omega) (by omega) w) kL_152 rfl rfl (by decide) (Nat.le_of_ble_eq_true rfl) (Nat.le_of_ble_eq_true rfl) rfl ?_
      refine GX.run0 hR 1 (pc' := 428) (L' := [some (vR 0), some (vR 200), some (vR 150), some (vI z), some (vI 2), some (vI (τ.1 1)), some (vI pp), some (vI gv), some (vI wn), some (vI 0), some (vI v32), some (vI 1), some (vI 0)]) (st' := [vI (((q ((5 * pp) + 0)) + (dgt gv 0)) - (dgt wn 0)), vI (σ33.2.2 0 pp 0)]) (X' := [(150, .inl (20, .inl q))]) (fun _ _ => rfl) ?_
      refine GX.br hR (pc1 := 488) (pc2 := 431) (st1 := []) (C := σ33.2.2 0 pp 0 ≠ ((q ((5 * pp) + 0)) + (dgt gv 0)) - (dgt wn 0)) (fun _ => rfl) (by first | omega | (dsimp only; omega)) (fun h45 => (by exfalso; omega)) (fun h45 => ?_)
      refine GX.run0 hR 3 (pc' := 436) (L' := [some (vR 0), some (vR 200), some (vR 150), some (vI z), some (vI 2), some (vI (τ.1 1)), some (vI pp), some (vI gv), some (vI wn), some (vI 0), some (vI v32), some (vI 1), some (vI 0)]) (st' := [vI 0, vI (τ.1 1), vR 0]) (X' := [(150, .inl (20, .inl q))]) (fun _ _ => rfl) ?_
      have f46 := hI2.hh (τ.1 1) 0
      refine GX.ask hR hro [vI (τ.1 1), vI 0] ((q_hand σ33 (by omega) (by omega)).gt) kL_89 rfl rfl rfl (by decide) (Nat.le_of_ble_eq_true rfl) (Nat.le_of_ble_eq_true rfl) rfl (fun _ _ => ⟨_, rfl⟩) ?_
      refine GX.run1 hR 9 (pc' := 452) (L' := [some (vR 0), some (vR 200), some (vR 150), some (vI z), some (vI 2), some (vI (τ.1 1)), some (vI pp), some (vI gv), some (vI wn), some (vI 0), some (vI v32), some (vI 1), some (vI 0)]) (st' := [vI 0, vI gv, vI (q ((5 * (τ.1 1)) + 0)), vI (σ33.2.2 0 (τ.1 1) 0)]) (X' := [(150, .inl (20, .inl q))]) (fun _ _ => rfl) (by first | omega | (dsimp only; omega)) ?_
      have f47 := dgt_r gv 0
      refine GX.sx hR [vI gv, vI 0] (fun w => lp_digit (n := gv) (k := 0) (by omega) (by omega) w) kL_152 rfl rfl (by decide) (Nat.le_of_ble_eq_true rfl) (Nat.le_of_ble_eq_true rfl) rfl ?_
      refine GX.run0 hR 3 (pc' := 460) (L' := [some (vR 0), some (vR 200), some (vR 150), some (vI z), some (vI 2), some (vI (τ.1 1)), some (vI pp), some (vI gv), some (vI wn), some (vI 0), some (vI v32), some (vI 1), some (vI 0)]) (st' := [vI 0, vI wn, vI ((q ((5 * (τ.1 1)) + 0)) - (dgt gv 0)), vI (σ33.2.2 0 (τ.1 1) 0)]) (X' := [(150, .inl (20, .inl q))]) (fun _ _ => rfl) ?_
      have f48 := dgt_r wn 0
      refine GX.sx hR [vI wn, vI 0] (fun w => lp_digit (n := wn) (k := 0) (by omega) (by omega) w) kL_152 rfl rfl (by decide) (Nat.le_of_ble_eq_true rfl) (Nat.le_of_ble_eq_true rfl) rfl ?_
      refine GX.run0 hR 1 (pc' := 464) (L' := [some (vR 0), some (vR 200), some (vR 150), some (vI z), some (vI 2), some (vI (τ.1 1)), some (vI pp), some (vI gv), some (vI wn), some (vI 0), some (vI v32), some (vI 1), some (vI 0)]) (st' := [vI (((q ((5 * (τ.1 1)) + 0)) - (dgt gv 0)) + (dgt wn 0)), vI (σ33.2.2 0 (τ.1 1) 0)]) (X' := [(150, .inl (20, .inl q))]) (fun _ _ => rfl) ?_
      refine GX.br hR (pc1 := 488) (pc2 := 467) (st1 := []) (C := σ33.2.2 0 (τ.1 1) 0 ≠ ((q ((5 * (τ.1 1)) + 0)) - (dgt gv 0)) + (dgt wn 0)) (fun _ => rfl) (by first | omega | (dsimp only; omega)) (fun h49 => (by exfalso; omega)) (fun h49 => ?_)
      refine GX.run0 hR 3 (pc' := 471) (L' := [some (vR 0), some (vR 200), some (vR 150), some (vI z), some (vI 2), some (vI (τ.1 1)), some (vI pp), some (vI gv), some (vI wn), some (vI 0), some (vI v32), some (vI 1), some (vI 0)]) (st' := [vI 0, vI 3, vR 0]) (X' := [(150, .inl (20, .inl q))]) (fun _ _ => rfl) ?_
      have f50 := hI2.hh 3 0
      refine GX.ask hR hro [vI 3, vI 0] ((q_hand σ33 (by omega) (by omega)).gt) kL_89 rfl rfl rfl (by decide) (Nat.le_of_ble_eq_true rfl) (Nat.le_of_ble_eq_true rfl) rfl (fun _ _ => ⟨_, rfl⟩) ?_
      refine GX.run1 hR 5 (pc' := 481) (L' := [some (vR 0), some (vR 200), some (vR 150), some (vI z), some (vI 2), some (vI (τ.1 1)), some (vI pp), some (vI gv), some (vI wn), some (vI 0), some (vI v32), some (vI 1), some (vI 0)]) (st' := [vI (q 15), vI (σ33.2.2 0 3 0)]) (X' := [(150, .inl (20, .inl q))]) (fun _ _ => rfl) (by first | omega | (dsimp only; omega)) ?_
      refine GX.br hR (pc1 := 488) (pc2 := 484) (st1 := []) (C := σ33.2.2 0 3 0 ≠ q 15) (fun _ => rfl) (by first | omega | (dsimp only; omega)) (fun h51 => (by exfalso; omega)) (fun h51 => ?_)
      refine GX.run0 hR 7 (pc' := 387) (L' := [some (vR 0), some (vR 200), some (vR 150), some (vI z), some (vI 2), some (vI (τ.1 1)), some (vI pp), some (vI gv), some (vI wn), some (vI 0), some (vI v32), some (vI 1), some (vI 1)]) (st' := [vI 5, vI 1]) (X' := [(150, .inl (20, .inl q))]) (fun _ _ => rfl) ?_
      refine GX.br hR (pc1 := 497) (pc2 := 390) (st1 := []) (C := (5 : Int) ≤ 1) (fun _ => rfl) (by first | omega | (dsimp only; omega)) (fun h52 => (by exfalso; omega)) (fun h52 => ?_)
      refine GX.run0 hR 1 (pc' := 392) (L' := [some (vR 0), some (vR 200), some (vR 150), some (vI z), some (vI 2), some (vI (τ.1 1)), some (vI pp), some (vI gv), some (vI wn), some (vI 0), some (vI v32), some (vI 1), some (vI 1)]) (st' := [vI 1]) (X' := [(150, .inl (20, .inl q))]) (fun _ _ => rfl) ?_
      refine GX.br hR (pc1 := 497) (pc2 := 395) (st1 := []) (C := (1 : Int) = 0) (fun _ => rfl) (by first | omega | (dsimp only; omega)) (fun h53 => (by exfalso; omega)) (fun h53 => ?_)
      refine GX.run0 hR 3 (pc' := 400) (L' := [some (vR 0), some (vR 200), some (vR 150), some (vI z), some (vI 2), some (vI (τ.1 1)), some (vI pp), some (vI gv), some (vI wn), some (vI 0), some (vI v32), some (vI 1), some (vI 1)]) (st' := [vI 1, vI pp, vR 0]) (X' := [(150, .inl (20, .inl q))]) (fun _ _ => rfl) ?_
      have f54 := hI2.hh pp 1
      refine GX.ask hR hro [vI pp, vI 1] ((q_hand σ33 (by omega) (by omega)).gt) kL_89 rfl rfl rfl (by decide) (Nat.le_of_ble_eq_true rfl) (Nat.le_of_ble_eq_true rfl) rfl (fun _ _ => ⟨_, rfl⟩) ?_
      refine GX.run1 hR 9 (pc' := 416) (L' := [some (vR 0), some (vR 200), some (vR 150), some (vI z), some (vI 2), some (vI (τ.1 1)), some (vI pp), some (vI gv), some (vI wn), some (vI 0), some (vI v32), some (vI 1), some (vI 1)]) (st' := [vI 1, vI gv, vI (q ((5 * pp) + 1)), vI (σ33.2.2 0 pp 1)]) (X' := [(150, .inl (20, .inl q))]) (fun _ _ => rfl) (by first | omega | (dsimp only; omega)) ?_
      have f55 := dgt_r gv 1
      refine GX.sx hR [vI gv, vI 1] (fun w => lp_digit (n := gv) (k := 1) (by omega) (by omega) w) kL_152 rfl rfl (by decide) (Nat.le_of_ble_eq_true rfl) (Nat.le_of_ble_eq_true rfl) rfl ?_
      refine GX.run0 hR 3 (pc' := 424) (L' := [some (vR 0), some (vR 200), some (vR 150), some (vI z), some (vI 2), some (vI (τ.1 1)), some (vI pp), some (vI gv), some (vI wn), some (vI 0), some (vI v32), some (vI 1), some (vI 1)]) (st' := [vI 1, vI wn, vI ((q ((5 * pp) + 1)) + (dgt gv 1)), vI (σ33.2.2 0 pp 1)]) (X' := [(150, .inl (20, .inl q))]) (fun _ _ => rfl) ?_
      have f56 := dgt_r wn 1
      refine GX.sx hR [vI wn, vI 1] (fun w => lp_digit (n := wn) (k := 1) (by omega) (by omega) w) kL_152 rfl rfl (by decide) (Nat.le_of_ble_eq_true rfl) (Nat.le_of_ble_eq_true rfl) rfl ?_
      refine GX.run0 hR 1 (pc' := 428) (L' := [some (vR 0), some (vR 200), some (vR 150), some (vI z), some (vI 2), some (vI (τ.1 1)), some (vI pp), some (vI gv), some (vI wn), some (vI 0), some (vI v32), some (vI 1), some (vI 1)]) (st' := [vI (((q ((5 * pp) + 1)) + (dgt gv 1)) - (dgt wn 1)), vI (σ33.2.2 0 pp 1)]) (X' := [(150, .inl (20, .inl q))]) (fun _ _ => rfl) ?_
      refine GX.br hR (pc1 := 488) (pc2 := 431) (st1 := []) (C := σ33.2.2 0 pp 1 ≠ ((q ((5 * pp) + 1)) + (dgt gv 1)) - (dgt wn 1)) (fun _ => rfl) (by first | omega | (dsimp only; omega)) (fun h57 => (by exfalso; omega)) (fun h57 => ?_)
      refine GX.run0 hR 3 (pc' := 436) (L' := [some (vR 0), some (vR 200), some (vR 150), some (vI z), some (vI 2), some (vI (τ.1 1)), some (vI pp), some (vI gv), some (vI wn), some (vI 0), some (vI v32), some (vI 1), some (vI 1)]) (st' := [vI 1, vI (τ.1 1), vR 0]) (X' := [(150, .inl (20, .inl q))]) (fun _ _ => rfl) ?_
      have f58 := hI2.hh (τ.1 1) 1
      refine GX.ask hR hro [vI (τ.1 1), vI 1] ((q_hand σ33 (by omega) (by omega)).gt) kL_89 rfl rfl rfl (by decide) (Nat.le_of_ble_eq_true rfl) (Nat.le_of_ble_eq_true rfl) rfl (fun _ _ => ⟨_, rfl⟩) ?_
      refine GX.run1 hR 9 (pc' := 452) (L' := [some (vR 0), some (vR 200), some (vR 150), some (vI z), some (vI 2), some (vI (τ.1 1)), some (vI pp), some (vI gv), some (vI wn), some (vI 0), some (vI v32), some (vI 1), some (vI 1)]) (st' := [vI 1, vI gv, vI (q ((5 * (τ.1 1)) + 1)), vI (σ33.2.2 0 (τ.1 1) 1)]) (X' := [(150, .inl (20, .inl q))]) (fun _ _ => rfl) (by first | omega | (dsimp only; omega)) ?_
      have f59 := dgt_r gv 1
      refine GX.sx hR [vI gv, vI 1] (fun w => lp_digit (n := gv) (k := 1) (by omega) (by omega) w) kL_152 rfl rfl (by decide) (Nat.le_of_ble_eq_true rfl) (Nat.le_of_ble_eq_true rfl) rfl ?_
      refine GX.run0 hR 3 (pc' := 460) (L' := [some (vR 0), some (vR 200), some (vR 150), some (vI z), some (vI 2), some (vI (τ.1 1)), some (vI pp), some (vI gv), some (vI wn), some (vI 0), some (vI v32), some (vI 1), some (vI 1)]) (st' := [vI 1, vI wn, vI ((q ((5 * (τ.1 1)) + 1)) - (dgt gv 1)), vI (σ33.2.2 0 (τ.1 1) 1)]) (X' := [(150, .inl (20, .inl q))]) (fun _ _ => rfl) ?_
      have f60 := dgt_r wn 1
      refine GX.sx hR [vI wn, vI 1] (fun w => lp_digit (n := wn) (k := 1) (by omega) (by omega) w) kL_152 rfl rfl (by decide) (Nat.le_of_ble_eq_true rfl) (Nat.le_of_ble_eq_true rfl) rfl ?_
      refine GX.run0 hR 1 (pc' := 464) (L' := [some (vR 0), some (vR 200), some (vR 150), some (vI z), some (vI 2), some (vI (τ.1 1)), some (vI pp), some (vI gv), some (vI wn), some (vI 0), some (vI v32), some (vI 1), some (vI 1)]) (st' := [vI (((q ((5 * (τ.1 1)) + 1)) - (dgt gv 1)) + (dgt wn 1)), vI (σ33.2.2 0 (τ.1 1) 1)]) (X' := [(150, .inl (20, .inl q))]) (fun _ _ => rfl) ?_
      refine GX.br hR (pc1 := 488) (pc2 := 467) (st1 := []) (C := σ33.2.2 0 (τ.1 1) 1 ≠ ((q ((5 * (τ.1 1)) + 1)) - (dgt gv 1)) + (dgt wn 1)) (fun _ => rfl) (by first | omega | (dsimp only; omega)) (fun h61 => (by exfalso; omega)) (fun h61 => ?_)
      refine GX.run0 hR 3 (pc' := 471) (L' := [some (vR 0), some (vR 200), some (vR 150), some (vI z), some (vI 2), some (vI (τ.1 1)), some (vI pp), some (vI gv), some (vI wn), some (vI 0), some (vI v32), some (vI 1), some (vI 1)]) (st' := [vI 1, vI 3, vR 0]) (X' := [(150, .inl (20, .inl q))]) (fun _ _ => rfl) ?_
      have f62 := hI2.hh 3 1
      refine GX.ask hR hro [vI 3, vI 1] ((q_hand σ33 (by omega) (by omega)).gt) kL_89 rfl rfl rfl (by decide) (Nat.le_of_ble_eq_true rfl) (Nat.le_of_ble_eq_true rfl) rfl (fun _ _ => ⟨_, rfl⟩) ?_
      refine GX.run1 hR 5 (pc' := 481) (L' := [some (vR 0), some (vR 200), some (vR 150), some (vI z), some (vI 2), some (vI (τ.1 1)), some (vI pp), some (vI gv), some (vI wn), some (vI 0), some (vI v32), some (vI 1), some (vI 1)]) (st' := [vI (q 16), vI (σ33.2.2 0 3 1)]) (X' := [(150, .inl (20, .inl q))]) (fun _ _ => rfl) (by first | omega | (dsimp only; omega)) ?_
      refine GX.br hR (pc1 := 488) (pc2 := 484) (st1 := []) (C := σ33.2.2 0 3 1 ≠ q 16) (fun _ => rfl) (by first | omega | (dsimp only; omega)) (fun h63 => (by exfalso; omega)) (fun h63 => ?_)
      refine GX.run0 hR 7 (pc' := 387) (L' := [some (vR 0), some (vR 200), some (vR 150), some (vI z), some (vI 2), some (vI (τ.1 1)), some (vI pp), some (vI gv), some (vI wn), some (vI 0), some (vI v32), some (vI 1), some (vI 2)]) (st' := [vI 5, vI 2]) (X' := [(150, .inl (20, .inl q))]) (fun _ _ => rfl) ?_
      refine GX.br hR (pc1 := 497) (pc2 := 390) (st1 := []) (C := (5 : Int) ≤ 2) (fun _ => rfl) (by first | omega | (dsimp only; omega)) (fun h64 => (by exfalso; omega)) (fun h64 => ?_)
      refine GX.run0 hR 1 (pc' := 392) (L' := [some (vR 0), some (vR 200), some (vR 150), some (vI z), some (vI 2), some (vI (τ.1 1)), some (vI pp), some (vI gv), some (vI wn), some (vI 0), some (vI v32), some (vI 1), some (vI 2)]) (st' := [vI 1]) (X' := [(150, .inl (20, .inl q))]) (fun _ _ => rfl) ?_
      refine GX.br hR (pc1 := 497) (pc2 := 395) (st1 := []) (C := (1 : Int) = 0) (fun _ => rfl) (by first | omega | (dsimp only; omega)) (fun h65 => (by exfalso; omega)) (fun h65 => ?_)
      refine GX.run0 hR 3 (pc' := 400) (L' := [some (vR 0), some (vR 200), some (vR 150), some (vI z), some (vI 2), some (vI (τ.1 1)), some (vI pp), some (vI gv), some (vI wn), some (vI 0), some (vI v32), some (vI 1), some (vI 2)]) (st' := [vI 2, vI pp, vR 0]) (X' := [(150, .inl (20, .inl q))]) (fun _ _ => rfl) ?_
      have f66 := hI2.hh pp 2
      refine GX.ask hR hro [vI pp, vI 2] ((q_hand σ33 (by omega) (by omega)).gt) kL_89 rfl rfl rfl (by decide) (Nat.le_of_ble_eq_true rfl) (Nat.le_of_ble_eq_true rfl) rfl (fun _ _ => ⟨_, rfl⟩) ?_
      refine GX.run1 hR 9 (pc' := 416) (L' := [some (vR 0), some (vR 200), some (vR 150), some (vI z), some (vI 2), some (vI (τ.1 1)), some (vI pp), some (vI gv), some (vI wn), some (vI 0), some (vI v32), some (vI 1), some (vI 2)]) (st' := [vI 2, vI gv, vI (q ((5 * pp) + 2)), vI (σ33.2.2 0 pp 2)]) (X' := [(150, .inl (20, .inl q))]) (fun _ _ => rfl) (by first | omega | (dsimp only; omega)) ?_
      have f67 := dgt_r gv 2
      refine GX.sx hR [vI gv, vI 2] (fun w => lp_digit (n := gv) (k := 2) (by omega) (by omega) w) kL_152 rfl rfl (by decide) (Nat.le_of_ble_eq_true rfl) (Nat.le_of_ble_eq_true rfl) rfl ?_
      refine GX.run0 hR 3 (pc' := 424) (L' := [some (vR 0), some (vR 200), some (vR 150), some (vI z), some (vI 2), some (vI (τ.1 1)), some (vI pp), some (vI gv), some (vI wn), some (vI 0), some (vI v32), some (vI 1), some (vI 2)]) (st' := [vI 2, vI wn, vI ((q ((5 * pp) + 2)) + (dgt gv 2)), vI (σ33.2.2 0 pp 2)]) (X' := [(150, .inl (20, .inl q))]) (fun _ _ => rfl) ?_
      have f68 := dgt_r wn 2
      refine GX.sx hR [vI wn, vI 2] (fun w => lp_digit (n := wn) (k := 2) (by omega) (by omega) w) kL_152 rfl rfl (by decide) (Nat.le_of_ble_eq_true rfl) (Nat.le_of_ble_eq_true rfl) rfl ?_
      refine GX.run0 hR 1 (pc' := 428) (L' := [some (vR 0), some (vR 200), some (vR 150), some (vI z), some (vI 2), some (vI (τ.1 1)), some (vI pp), some (vI gv), some (vI wn), some (vI 0), some (vI v32), some (vI 1), some (vI 2)]) (st' := [vI (((q ((5 * pp) + 2)) + (dgt gv 2)) - (dgt wn 2)), vI (σ33.2.2 0 pp 2)]) (X' := [(150, .inl (20, .inl q))]) (fun _ _ => rfl) ?_
      refine GX.br hR (pc1 := 488) (pc2 := 431) (st1 := []) (C := σ33.2.2 0 pp 2 ≠ ((q ((5 * pp) + 2)) + (dgt gv 2)) - (dgt wn 2)) (fun _ => rfl) (by first | omega | (dsimp only; omega)) (fun h69 => (by exfalso; omega)) (fun h69 => ?_)
      refine GX.run0 hR 3 (pc' := 436) (L' := [some (vR 0), some (vR 200), some (vR 150), some (vI z), some (vI 2), some (vI (τ.1 1)), some (vI pp), some (vI gv), some (vI wn), some (vI 0), some (vI v32), some (vI 1), some (vI 2)]) (st' := [vI 2, vI (τ.1 1), vR 0]) (X' := [(150, .inl (20, .inl q))]) (fun _ _ => rfl) ?_
      have f70 := hI2.hh (τ.1 1) 2
      refine GX.ask hR hro [vI (τ.1 1), vI 2] ((q_hand σ33 (by omega) (by omega)).gt) kL_89 rfl rfl rfl (by decide) (Nat.le_of_ble_eq_true rfl) (Nat.le_of_ble_eq_true rfl) rfl (fun _ _ => ⟨_, rfl⟩) ?_
      refine GX.run1 hR 9 (pc' := 452) (L' := [some (vR 0), some (vR 200), some (vR 150), some (vI z), some (vI 2), some (vI (τ.1 1)), some (vI pp), some (vI gv), some (vI wn), some (vI 0), some (vI v32), some (vI 1), some (vI 2)]) (st' := [vI 2, vI gv, vI (q ((5 * (τ.1 1)) + 2)), vI (σ33.2.2 0 (τ.1 1) 2)]) (X' := [(150, .inl (20, .inl q))]) (fun _ _ => rfl) (by first | omega | (dsimp only; omega)) ?_
      have f71 := dgt_r gv 2
      refine GX.sx hR [vI gv, vI 2] (fun w => lp_digit (n := gv) (k := 2) (by omega) (by omega) w) kL_152 rfl rfl (by decide) (Nat.le_of_ble_eq_true rfl) (Nat.le_of_ble_eq_true rfl) rfl ?_
      refine GX.run0 hR 3 (pc' := 460) (L' := [some (vR 0), some (vR 200), some (vR 150), some (vI z), some (vI 2), some (vI (τ.1 1)), some (vI pp), some (vI gv), some (vI wn), some (vI 0), some (vI v32), some (vI 1), some (vI 2)]) (st' := [vI 2, vI wn, vI ((q ((5 * (τ.1 1)) + 2)) - (dgt gv 2)), vI (σ33.2.2 0 (τ.1 1) 2)]) (X' := [(150, .inl (20, .inl q))]) (fun _ _ => rfl) ?_
      have f72 := dgt_r wn 2
      refine GX.sx hR [vI wn, vI 2] (fun w => lp_digit (n := wn) (k := 2) (by omega) (by omega) w) kL_152 rfl rfl (by decide) (Nat.le_of_ble_eq_true rfl) (Nat.le_of_ble_eq_true rfl) rfl ?_
      refine GX.run0 hR 1 (pc' := 464) (L' := [some (vR 0), some (vR 200), some (vR 150), some (vI z), some (vI 2), some (vI (τ.1 1)), some (vI pp), some (vI gv), some (vI wn), some (vI 0), some (vI v32), some (vI 1), some (vI 2)]) (st' := [vI (((q ((5 * (τ.1 1)) + 2)) - (dgt gv 2)) + (dgt wn 2)), vI (σ33.2.2 0 (τ.1 1) 2)]) (X' := [(150, .inl (20, .inl q))]) (fun _ _ => rfl) ?_
      refine GX.br hR (pc1 := 488) (pc2 := 467) (st1 := []) (C := σ33.2.2 0 (τ.1 1) 2 ≠ ((q ((5 * (τ.1 1)) + 2)) - (dgt gv 2)) + (dgt wn 2)) (fun _ => rfl) (by first | omega | (dsimp only; omega)) (fun h73 => (by exfalso; omega)) (fun h73 => ?_)
      refine GX.run0 hR 3 (pc' := 471) (L' := [some (vR 0), some (vR 200), some (vR 150), some (vI z), some (vI 2), some (vI (τ.1 1)), some (vI pp), some (vI gv), some (vI wn), some (vI 0), some (vI v32), some (vI 1), some (vI 2)]) (st' := [vI 2, vI 3, vR 0]) (X' := [(150, .inl (20, .inl q))]) (fun _ _ => rfl) ?_
      have f74 := hI2.hh 3 2
      refine GX.ask hR hro [vI 3, vI 2] ((q_hand σ33 (by omega) (by omega)).gt) kL_89 rfl rfl rfl (by decide) (Nat.le_of_ble_eq_true rfl) (Nat.le_of_ble_eq_true rfl) rfl (fun _ _ => ⟨_, rfl⟩) ?_
      refine GX.run1 hR 5 (pc' := 481) (L' := [some (vR 0), some (vR 200), some (vR 150), some (vI z), some (vI 2), some (vI (τ.1 1)), some (vI pp), some (vI gv), some (vI wn), some (vI 0), some (vI v32), some (vI 1), some (vI 2)]) (st' := [vI (q 17), vI (σ33.2.2 0 3 2)]) (X' := [(150, .inl (20, .inl q))]) (fun _ _ => rfl) (by first | omega | (dsimp only; omega)) ?_
      refine GX.br hR (pc1 := 488) (pc2 := 484) (st1 := []) (C := σ33.2.2 0 3 2 ≠ q 17) (fun _ => rfl) (by first | omega | (dsimp only; omega)) (fun h75 => (by exfalso; omega)) (fun h75 => ?_)
      refine GX.run0 hR 7 (pc' := 387) (L' := [some (vR 0), some (vR 200), some (vR 150), some (vI z), some (vI 2), some (vI (τ.1 1)), some (vI pp), some (vI gv), some (vI wn), some (vI 0), some (vI v32), some (vI 1), some (vI 3)]) (st' := [vI 5, vI 3]) (X' := [(150, .inl (20, .inl q))]) (fun _ _ => rfl) ?_
      refine GX.br hR (pc1 := 497) (pc2 := 390) (st1 := []) (C := (5 : Int) ≤ 3) (fun _ => rfl) (by first | omega | (dsimp only; omega)) (fun h76 => (by exfalso; omega)) (fun h76 => ?_)
      refine GX.run0 hR 1 (pc' := 392) (L' := [some (vR 0), some (vR 200), some (vR 150), some (vI z), some (vI 2), some (vI (τ.1 1)), some (vI pp), some (vI gv), some (vI wn), some (vI 0), some (vI v32), some (vI 1), some (vI 3)]) (st' := [vI 1]) (X' := [(150, .inl (20, .inl q))]) (fun _ _ => rfl) ?_
      refine GX.br hR (pc1 := 497) (pc2 := 395) (st1 := []) (C := (1 : Int) = 0) (fun _ => rfl) (by first | omega | (dsimp only; omega)) (fun h77 => (by exfalso; omega)) (fun h77 => ?_)
      refine GX.run0 hR 3 (pc' := 400) (L' := [some (vR 0), some (vR 200), some (vR 150), some (vI z), some (vI 2), some (vI (τ.1 1)), some (vI pp), some (vI gv), some (vI wn), some (vI 0), some (vI v32), some (vI 1), some (vI 3)]) (st' := [vI 3, vI pp, vR 0]) (X' := [(150, .inl (20, .inl q))]) (fun _ _ => rfl) ?_
      have f78 := hI2.hh pp 3
      refine GX.ask hR hro [vI pp, vI 3] ((q_hand σ33 (by omega) (by omega)).gt) kL_89 rfl rfl rfl (by decide) (Nat.le_of_ble_eq_true rfl) (Nat.le_of_ble_eq_true rfl) rfl (fun _ _ => ⟨_, rfl⟩) ?_
      refine GX.run1 hR 9 (pc' := 416) (L' := [some (vR 0), some (vR 200), some (vR 150), some (vI z), some (vI 2), some (vI (τ.1 1)), some (vI pp), some (vI gv), some (vI wn), some (vI 0), some (vI v32), some (vI 1), some (vI 3)]) (st' := [vI 3, vI gv, vI (q ((5 * pp) + 3)), vI (σ33.2.2 0 pp 3)]) (X' := [(150, .inl (20, .inl q))]) (fun _ _ => rfl) (by first | omega | (dsimp only; omega)) ?_
      have f79 := dgt_r gv 3
      refine GX.sx hR [vI gv, vI 3] (fun w => lp_digit (n := gv) (k := 3) (by omega) (by omega) w) kL_152 rfl rfl (by decide) (Nat.le_of_ble_eq_true rfl) (Nat.le_of_ble_eq_true rfl) rfl ?_
      refine GX.run0 hR 3 (pc' := 424) (L' := [some (vR 0), some (vR 200), some (vR 150), some (vI z), some (vI 2), some (vI (τ.1 1)), some (vI pp), some (vI gv), some (vI wn), some (vI 0), some (vI v32), some (vI 1), some (vI 3)]) (st' := [vI 3, vI wn, vI ((q ((5 * pp) + 3)) + (dgt gv 3)), vI (σ33.2.2 0 pp 3)]) (X' := [(150, .inl (20, .inl q))]) (fun _ _ => rfl) ?_
      have f80 := dgt_r wn 3
      refine GX.sx hR [vI wn, vI 3] (fun w => lp_digit (n := wn) (k := 3) (by omega) (by omega) w) kL_152 rfl rfl (by decide) (Nat.le_of_ble_eq_true rfl) (Nat.le_of_ble_eq_true rfl) rfl ?_
      refine GX.run0 hR 1 (pc' := 428) (L' := [some (vR 0), some (vR 200), some (vR 150), some (vI z), some (vI 2), some (vI (τ.1 1)), some (vI pp), some (vI gv), some (vI wn), some (vI 0), some (vI v32), some (vI 1), some (vI 3)]) (st' := [vI (((q ((5 * pp) + 3)) + (dgt gv 3)) - (dgt wn 3)), vI (σ33.2.2 0 pp 3)]) (X' := [(150, .inl (20, .inl q))]) (fun _ _ => rfl) ?_
      refine GX.br hR (pc1 := 488) (pc2 := 431) (st1 := []) (C := σ33.2.2 0 pp 3 ≠ ((q ((5 * pp) + 3)) + (dgt gv 3)) - (dgt wn 3)) (fun _ => rfl) (by first | omega | (dsimp only; omega)) (fun h81 => (by exfalso; omega)) (fun h81 => ?_)
      refine GX.run0 hR 3 (pc' := 436) (L' := [some (vR 0), some (vR 200), some (vR 150), some (vI z), some (vI 2), some (vI (τ.1 1)), some (vI pp), some (vI gv), some (vI wn), some (vI 0), some (vI v32), some (vI 1), some (vI 3)]) (st' := [vI 3, vI (τ.1 1), vR 0]) (X' := [(150, .inl (20, .inl q))]) (fun _ _ => rfl) ?_
      have f82 := hI2.hh (τ.1 1) 3
      refine GX.ask hR hro [vI (τ.1 1), vI 3] ((q_hand σ33 (by omega) (by omega)).gt) kL_89 rfl rfl rfl (by decide) (Nat.le_of_ble_eq_true rfl) (Nat.le_of_ble_eq_true rfl) rfl (fun _ _ => ⟨_, rfl⟩) ?_
      refine GX.run1 hR 9 (pc' := 452) (L' := [some (vR 0), some (vR 200), some (vR 150), some (vI z), some (vI 2), some (vI (τ.1 1)), some (vI pp), some (vI gv), some (vI wn), some (vI 0), some (vI v32), some (vI 1), some (vI 3)]) (st' := [vI 3, vI gv, vI (q ((5 * (τ.1 1)) + 3)), vI (σ33.2.2 0 (τ.1 1) 3)]) (X' := [(150, .inl (20, .inl q))]) (fun _ _ => rfl) (by first | omega | (dsimp only; omega)) ?_
      have f83 := dgt_r gv 3
      refine GX.sx hR [vI gv, vI 3] (fun w => lp_digit (n := gv) (k := 3) (by omega) (by omega) w) kL_152 rfl rfl (by decide) (Nat.le_of_ble_eq_true rfl) (Nat.le_of_ble_eq_true rfl) rfl ?_
      refine GX.run0 hR 3 (pc' := 460) (L' := [some (vR 0), some (vR 200), some (vR 150), some (vI z), some (vI 2), some (vI (τ.1 1)), some (vI pp), some (vI gv), some (vI wn), some (vI 0), some (vI v32), some (vI 1), some (vI 3)]) (st' := [vI 3, vI wn, vI ((q ((5 * (τ.1 1)) + 3)) - (dgt gv 3)), vI (σ33.2.2 0 (τ.1 1) 3)]) (X' := [(150, .inl (20, .inl q))]) (fun _ _ => rfl) ?_
      have f84 := dgt_r wn 3
      refine GX.sx hR [vI wn, vI 3] (fun w => lp_digit (n := wn) (k := 3) (by omega) (by omega) w) kL_152 rfl rfl (by decide) (Nat.le_of_ble_eq_true rfl) (Nat.le_of_ble_eq_true rfl) rfl ?_
      refine GX.run0 hR 1 (pc' := 464) (L' := [some (vR 0), some (vR 200), some (vR 150), some (vI z), some (vI 2), some (vI (τ.1 1)), some (vI pp), some (vI gv), some (vI wn), some (vI 0), some (vI v32), some (vI 1), some (vI 3)]) (st' := [vI (((q ((5 * (τ.1 1)) + 3)) - (dgt gv 3)) + (dgt wn 3)), vI (σ33.2.2 0 (τ.1 1) 3)]) (X' := [(150, .inl (20, .inl q))]) (fun _ _ => rfl) ?_
      refine GX.br hR (pc1 := 488) (pc2 := 467) (st1 := []) (C := σ33.2.2 0 (τ.1 1) 3 ≠ ((q ((5 * (τ.1 1)) + 3)) - (dgt gv 3)) + (dgt wn 3)) (fun _ => rfl) (by first | omega | (dsimp only; omega)) (fun h85 => (by exfalso; omega)) (fun h85 => ?_)
      refine GX.run0 hR 3 (pc' := 471) (L' := [some (vR 0), some (vR 200), some (vR 150), some (vI z), some (vI 2), some (vI (τ.1 1)), some (vI pp), some (vI gv), some (vI wn), some (vI 0), some (vI v32), some (vI 1), some (vI 3)]) (st' := [vI 3, vI 3, vR 0]) (X' := [(150, .inl (20, .inl q))]) (fun _ _ => rfl) ?_
      have f86 := hI2.hh 3 3
      refine GX.ask hR hro [vI 3, vI 3] ((q_hand σ33 (by omega) (by omega)).gt) kL_89 rfl rfl rfl (by decide) (Nat.le_of_ble_eq_true rfl) (Nat.le_of_ble_eq_true rfl) rfl (fun _ _ => ⟨_, rfl⟩) ?_
      refine GX.run1 hR 5 (pc' := 481) (L' := [some (vR 0), some (vR 200), some (vR 150), some (vI z), some (vI 2), some (vI (τ.1 1)), some (vI pp), some (vI gv), some (vI wn), some (vI 0), some (vI v32), some (vI 1), some (vI 3)]) (st' := [vI (q 18), vI (σ33.2.2 0 3 3)]) (X' := [(150, .inl (20, .inl q))]) (fun _ _ => rfl) (by first | omega | (dsimp only; omega)) ?_
      refine GX.br hR (pc1 := 488) (pc2 := 484) (st1 := []) (C := σ33.2.2 0 3 3 ≠ q 18) (fun _ => rfl) (by first | omega | (dsimp only; omega)) (fun h87 => (by exfalso; omega)) (fun h87 => ?_)
      refine GX.run0 hR 7 (pc' := 387) (L' := [some (vR 0), some (vR 200), some (vR 150), some (vI z), some (vI 2), some (vI (τ.1 1)), some (vI pp), some (vI gv), some (vI wn), some (vI 0), some (vI v32), some (vI 1), some (vI 4)]) (st' := [vI 5, vI 4]) (X' := [(150, .inl (20, .inl q))]) (fun _ _ => rfl) ?_
      refine GX.br hR (pc1 := 497) (pc2 := 390) (st1 := []) (C := (5 : Int) ≤ 4) (fun _ => rfl) (by first | omega | (dsimp only; omega)) (fun h88 => (by exfalso; omega)) (fun h88 => ?_)
      refine GX.run0 hR 1 (pc' := 392) (L' := [some (vR 0), some (vR 200), some (vR 150), some (vI z), some (vI 2), some (vI (τ.1 1)), some (vI pp), some (vI gv), some (vI wn), some (vI 0), some (vI v32), some (vI 1), some (vI 4)]) (st' := [vI 1]) (X' := [(150, .inl (20, .inl q))]) (fun _ _ => rfl) ?_
      refine GX.br hR (pc1 := 497) (pc2 := 395) (st1 := []) (C := (1 : Int) = 0) (fun _ => rfl) (by first | omega | (dsimp only; omega)) (fun h89 => (by exfalso; omega)) (fun h89 => ?_)
      refine GX.run0 hR 3 (pc' := 400) (L' := [some (vR 0), some (vR 200), some (vR 150), some (vI z), some (vI 2), some (vI (τ.1 1)), some (vI pp), some (vI gv), some (vI wn), some (vI 0), some (vI v32), some (vI 1), some (vI 4)]) (st' := [vI 4, vI pp, vR 0]) (X' := [(150, .inl (20, .inl q))]) (fun _ _ => rfl) ?_
      have f90 := hI2.hh pp 4
      refine GX.ask hR hro [vI pp, vI 4] ((q_hand σ33 (by omega) (by omega)).gt) kL_89 rfl rfl rfl (by decide) (Nat.le_of_ble_eq_true rfl) (Nat.le_of_ble_eq_true rfl) rfl (fun _ _ => ⟨_, rfl⟩) ?_
      refine GX.run1 hR 9 (pc' := 416) (L' := [some (vR 0), some (vR 200), some (vR 150), some (vI z), some (vI 2), some (vI (τ.1 1)), some (vI pp), some (vI gv), some (vI wn), some (vI 0), some (vI v32), some (vI 1), some (vI 4)]) (st' := [vI 4, vI gv, vI (q ((5 * pp) + 4)), vI (σ33.2.2 0 pp 4)]) (X' := [(150, .inl (20, .inl q))]) (fun _ _ => rfl) (by first | omega | (dsimp only; omega)) ?_
      have f91 := dgt_r gv 4
      refine GX.sx hR [vI gv, vI 4] (fun w => lp_digit (n := gv) (k := 4) (by omega) (by omega) w) kL_152 rfl rfl (by decide) (Nat.le_of_ble_eq_true rfl) (Nat.le_of_ble_eq_true rfl) rfl ?_
      refine GX.run0 hR 3 (pc' := 424) (L' := [some (vR 0), some (vR 200), some (vR 150), some (vI z), some (vI 2), some (vI (τ.1 1)), some (vI pp), some (vI gv), some (vI wn), some (vI 0), some (vI v32), some (vI 1), some (vI 4)]) (st' := [vI 4, vI wn, vI ((q ((5 * pp) + 4)) + (dgt gv 4)), vI (σ33.2.2 0 pp 4)]) (X' := [(150, .inl (20, .inl q))]) (fun _ _ => rfl) ?_
      have f92 := dgt_r wn 4
      refine GX.sx hR [vI wn, vI 4] (fun w => lp_digit (n := wn) (k := 4) (by omega) (by omega) w) kL_152 rfl rfl (by decide) (Nat.le_of_ble_eq_true rfl) (Nat.le_of_ble_eq_true rfl) rfl ?_
      refine GX.run0 hR 1 (pc' := 428) (L' := [some (vR 0), some (vR 200), some (vR 150), some (vI z), some (vI 2), some (vI (τ.1 1)), some (vI pp), some (vI gv), some (vI wn), some (vI 0), some (vI v32), some (vI 1), some (vI 4)]) (st' := [vI (((q ((5 * pp) + 4)) + (dgt gv 4)) - (dgt wn 4)), vI (σ33.2.2 0 pp 4)]) (X' := [(150, .inl (20, .inl q))]) (fun _ _ => rfl) ?_
      refine GX.br hR (pc1 := 488) (pc2 := 431) (st1 := []) (C := σ33.2.2 0 pp 4 ≠ ((q ((5 * pp) + 4)) + (dgt gv 4)) - (dgt wn 4)) (fun _ => rfl) (by first | omega | (dsimp only; omega)) (fun h93 => (by exfalso; omega)) (fun h93 => ?_)
      refine GX.run0 hR 3 (pc' := 436) (L' := [some (vR 0), some (vR 200), some (vR 150), some (vI z), some (vI 2), some (vI (τ.1 1)), some (vI pp), some (vI gv), some (vI wn), some (vI 0), some (vI v32), some (vI 1), some (vI 4)]) (st' := [vI 4, vI (τ.1 1), vR 0]) (X' := [(150, .inl (20, .inl q))]) (fun _ _ => rfl) ?_
      have f94 := hI2.hh (τ.1 1) 4
      refine GX.ask hR hro [vI (τ.1 1), vI 4] ((q_hand σ33 (by omega) (by omega)).gt) kL_89 rfl rfl rfl (by decide) (Nat.le_of_ble_eq_true rfl) (Nat.le_of_ble_eq_true rfl) rfl (fun _ _ => ⟨_, rfl⟩) ?_
      refine GX.run1 hR 9 (pc' := 452) (L' := [some (vR 0), some (vR 200), some (vR 150), some (vI z), some (vI 2), some (vI (τ.1 1)), some (vI pp), some (vI gv), some (vI wn), some (vI 0), some (vI v32), some (vI 1), some (vI 4)]) (st' := [vI 4, vI gv, vI (q ((5 * (τ.1 1)) + 4)), vI (σ33.2.2 0 (τ.1 1) 4)]) (X' := [(150, .inl (20, .inl q))]) (fun _ _ => rfl) (by first | omega | (dsimp only; omega)) ?_
      have f95 := dgt_r gv 4
      refine GX.sx hR [vI gv, vI 4] (fun w => lp_digit (n := gv) (k := 4) (by omega) (by omega) w) kL_152 rfl rfl (by decide) (Nat.le_of_ble_eq_true rfl) (Nat.le_of_ble_eq_true rfl) rfl ?_
      refine GX.run0 hR 3 (pc' := 460) (L' := [some (vR 0), some (vR 200), some (vR 150), some (vI z), some (vI 2), some (vI (τ.1 1)), some (vI pp), some (vI gv), some (vI wn), some (vI 0), some (vI v32), some (vI 1), some (vI 4)]) (st' := [vI 4, vI wn, vI ((q ((5 * (τ.1 1)) + 4)) - (dgt gv 4)), vI (σ33.2.2 0 (τ.1 1) 4)]) (X' := [(150, .inl (20, .inl q))]) (fun _ _ => rfl) ?_
      have f96 := dgt_r wn 4
      refine GX.sx hR [vI wn, vI 4] (fun w => lp_digit (n := wn) (k := 4) (by omega) (by omega) w) kL_152 rfl rfl (by decide) (Nat.le_of_ble_eq_true rfl) (Nat.le_of_ble_eq_true rfl) rfl ?_
      refine GX.run0 hR 1 (pc' := 464) (L' := [some (vR 0), some (vR 200), some (vR 150), some (vI z), some (vI 2), some (vI (τ.1 1)), some (vI pp), some (vI gv), some (vI wn), some (vI 0), some (vI v32), some (vI 1), some (vI 4)]) (st' := [vI (((q ((5 * (τ.1 1)) + 4)) - (dgt gv 4)) + (dgt wn 4)), vI (σ33.2.2 0 (τ.1 1) 4)]) (X' := [(150, .inl (20, .inl q))]) (fun _ _ => rfl) ?_
      refine GX.br hR (pc1 := 488) (pc2 := 467) (st1 := []) (C := σ33.2.2 0 (τ.1 1) 4 ≠ ((q ((5 * (τ.1 1)) + 4)) - (dgt gv 4)) + (dgt wn 4)) (fun _ => rfl) (by first | omega | (dsimp only; omega)) (fun h97 => (by exfalso; omega)) (fun h97 => ?_)
      refine GX.run0 hR 3 (pc' := 471) (L' := [some (vR 0), some (vR 200), some (vR 150), some (vI z), some (vI 2), some (vI (τ.1 1)), some (vI pp), some (vI gv), some (vI wn), some (vI 0), some (vI v32), some (vI 1), some (vI 4)]) (st' := [vI 4, vI 3, vR 0]) (X' := [(150, .inl (20, .inl q))]) (fun _ _ => rfl) ?_
      have f98 := hI2.hh 3 4
      refine GX.ask hR hro [vI 3, vI 4] ((q_hand σ33 (by omega) (by omega)).gt) kL_89 rfl rfl rfl (by decide) (Nat.le_of_ble_eq_true rfl) (Nat.le_of_ble_eq_true rfl) rfl (fun _ _ => ⟨_, rfl⟩) ?_
      refine GX.run1 hR 5 (pc' := 481) (L' := [some (vR 0), some (vR 200), some (vR 150), some (vI z), some (vI 2), some (vI (τ.1 1)), some (vI pp), some (vI gv), some (vI wn), some (vI 0), some (vI v32), some (vI 1), some (vI 4)]) (st' := [vI (q 19), vI (σ33.2.2 0 3 4)]) (X' := [(150, .inl (20, .inl q))]) (fun _ _ => rfl) (by first | omega | (dsimp only; omega)) ?_
      refine GX.br hR (pc1 := 488) (pc2 := 484) (st1 := []) (C := σ33.2.2 0 3 4 ≠ q 19) (fun _ => rfl) (by first | omega | (dsimp only; omega)) (fun h99 => (by exfalso; omega)) (fun h99 => ?_)
      refine GX.run0 hR 7 (pc' := 387) (L' := [some (vR 0), some (vR 200), some (vR 150), some (vI z), some (vI 2), some (vI (τ.1 1)), some (vI pp), some (vI gv), some (vI wn), some (vI 0), some (vI v32), some (vI 1), some (vI 5)]) (st' := [vI 5, vI 5]) (X' := [(150, .inl (20, .inl q))]) (fun _ _ => rfl) ?_
      refine GX.br hR (pc1 := 497) (pc2 := 390) (st1 := []) (C := (5 : Int) ≤ 5) (fun _ => rfl) (by first | omega | (dsimp only; omega)) (fun h100 => ?_) (fun h100 => (by exfalso; omega))
      refine GX.run0 hR 1 (pc' := 499) (L' := [some (vR 0), some (vR 200), some (vR 150), some (vI z), some (vI 2), some (vI (τ.1 1)), some (vI pp), some (vI gv), some (vI wn), some (vI 0), some (vI v32), some (vI 1), some (vI 5)]) (st' := [vI 1]) (X' := [(150, .inl (20, .inl q))]) (fun _ _ => rfl) ?_
      refine GX.br hR (pc1 := 540) (pc2 := 502) (st1 := []) (C := (1 : Int) = 0) (fun _ => rfl) (by first | omega | (dsimp only; omega)) (fun h101 => (by exfalso; omega)) (fun h101 => ?_)
      refine GX.run0 hR 6 (pc' := 510) (L' := [some (vR 0), some (vR 200), some (vR 150), some (vI z), some (vI 2), some (vI (τ.1 1)), some (vI pp), some (vI gv), some (vI wn), some (vI 0), some (vI v32), some (vI 1), some (vI 5)]) (st' := [vI 0, vI 0, vI pp, vI 17, vR 200, vR 0]) (X' := [(150, .inl (20, .inl q))]) (fun _ _ => rfl) ?_
      refine GX.bo hR hro (acc_no (τ := σ33) (p := pp) hpp f4 0 0) rfl (by decide) (Nat.le_of_ble_eq_true rfl) rfl (by decide) (fun _ => ?_)
      refine GX.run0 hR 1 (pc' := 516) (L' := [some (vR 0), some (vR 200), some (vR 150), some (vI z), some (vI 2), some (vI (τ.1 1)), some (vI pp), some (vI gv), some (vI wn), some (vI 0), some (vI v32), some (vI 1), some (vI 5)]) (st' := [vI (-1123), vI (-1123)]) (X' := [(150, .inl (20, .inl q))]) (fun _ _ => rfl) ?_
      refine GX.br hR (pc1 := 540) (pc2 := 519) (st1 := []) (C := ((-1123) : Int) ≠ (-1123)) (fun _ => rfl) (by first | omega | (dsimp only; omega)) (fun h102 => (by exfalso; omega)) (fun h102 => ?_)
      refine GX.run0 hR 6 (pc' := 527) (L' := [some (vR 0), some (vR 200), some (vR 150), some (vI z), some (vI 2), some (vI (τ.1 1)), some (vI pp), some (vI gv), some (vI wn), some (vI 0), some (vI v32), some (vI 1), some (vI 5)]) (st' := [vI 0, vI 0, vI pp, vI 18, vR 200, vR 0]) (X' := [(150, .inl (20, .inl q))]) (fun _ _ => rfl) ?_
      refine GX.bo hR hro (agr_no (τ := σ33) (p := pp) hpp f5 0 0) rfl (by decide) (Nat.le_of_ble_eq_true rfl) rfl (by decide) (fun _ => ?_)
      refine GX.run0 hR 1 (pc' := 533) (L' := [some (vR 0), some (vR 200), some (vR 150), some (vI z), some (vI 2), some (vI (τ.1 1)), some (vI pp), some (vI gv), some (vI wn), some (vI 0), some (vI v32), some (vI 1), some (vI 5)]) (st' := [vI (-1123), vI (-1123)]) (X' := [(150, .inl (20, .inl q))]) (fun _ _ => rfl) ?_
      refine GX.br hR (pc1 := 540) (pc2 := 536) (st1 := []) (C := ((-1123) : Int) ≠ (-1123)) (fun _ => rfl) (by first | omega | (dsimp only; omega)) (fun h103 => (by exfalso; omega)) (fun h103 => ?_)
      refine GX.run0 hR 2 (pc' := 541) (L' := [some (vR 0), some (vR 200), some (vR 150), some (vI z), some (vI 2), some (vI (τ.1 1)), some (vI pp), some (vI gv), some (vI wn), some (vI 0), some (vI v32), some (vI 1), some (vI 5)]) (st' := [vI 1]) (X' := [(150, .inl (20, .inl q))]) (fun _ _ => rfl) ?_
      exact GX.rt hR hk rfl (.inr rfl) ⟨rfl, (Ov.of (by omega))⟩
set_option maxRecDepth 20000 in
set_option maxHeartbeats 4000000 in
theorem w_trades3 {ro : PRO} (hro : ∀ q ∈ roC, q ∈ ro) {τ : St} (hJ : Jx τ) {q : Int → Int} (hq : isQ (τ.2.2 0) q) (hO0 : Ov τ) (z : Int) (h2 : τ.1 0 = 2) (hw : smI z 5 = 3) : SX mL_trades ro 15 [vR 0, vR 200, vR 150, vI z] τ [(150, .inl (20, .inl q))] (fun i σ => i = 1 ∧ Ov σ) 8 := by
  have hI := hJ.iv
  refine SX.of rfl tL_trades (Nat.le_of_ble_eq_true rfl) (fun G ks hk hR => ?_)
  show GX G 0 τ ([(150, .inl (20, .inl q))]) 0 [some (vR 0), some (vR 200), some (vR 150), some (vI z), none, none, none, none, none, none, none, none, none] []
  have hqr := hq.r hI
  have ht := hI.htu
  refine GX.run0 hR 2 (pc' := 2) (L' := [some (vR 0), some (vR 200), some (vR 150), some (vI z), none, none, none, none, none, none, none, none, none]) (st' := [vI 5, vI z]) (X' := [(150, .inl (20, .inl q))]) (fun _ _ => rfl) ?_
  have f1 := smI_r z (n := 5) (by omega)
  refine GX.sx hR [vI z, vI 5] (fun w => lp_some (x := z) (n := 5) (by omega) w) kL_158 rfl rfl (by decide) (Nat.le_of_ble_eq_true rfl) (Nat.le_of_ble_eq_true rfl) rfl ?_
  rw [hw]
  refine GX.run0 hR 2 (pc' := 8) (L' := [some (vR 0), some (vR 200), some (vR 150), some (vI z), some (vI 3), none, none, none, none, none, none, none, none]) (st' := [vR 0]) (X' := [(150, .inl (20, .inl q))]) (fun _ _ => rfl) ?_
  have f2 := hI.htu
  refine GX.ask hR hro [] ((q_turn τ).gt) kL_130 rfl rfl rfl (by decide) (Nat.le_of_ble_eq_true rfl) (Nat.le_of_ble_eq_true rfl) rfl (fun _ _ => ⟨_, rfl⟩) ?_
  refine GX.run0 hR 3 (pc' := 16) (L' := [some (vR 0), some (vR 200), some (vR 150), some (vI z), some (vI 3), some (vI (τ.1 1)), none, none, none, none, none, none, none]) (st' := [vI 2, vI 3]) (X' := [(150, .inl (20, .inl q))]) (fun _ _ => rfl) ?_
  refine GX.br hR (pc1 := 214) (pc2 := 19) (st1 := []) (C := (2 : Int) ≤ 3) (fun _ => rfl) (by first | omega | (dsimp only; omega)) (fun h3 => ?_) (fun h3 => (by exfalso; omega))
  refine GX.run0 hR 7 (pc' := 222) (L' := [some (vR 0), some (vR 200), some (vR 150), some (vI z), some (vI 3), some (vI (τ.1 1)), none, none, none, none, none, none, none]) (st' := [vI 2, vI (iSr z 3), vI ((τ.1 1) + 1)]) (X' := [(150, .inl (20, .inl q))]) (fun _ _ => rfl) ?_
  have f4 := smI_r (iSr z 3) (n := 2) (by omega)
  refine GX.sx hR [vI (iSr z 3), vI 2] (fun w => lp_some (x := iSr z 3) (n := 2) (by omega) w) kL_158 rfl rfl (by decide) (Nat.le_of_ble_eq_true rfl) (Nat.le_of_ble_eq_true rfl) rfl ?_
  refine GX.run1 hR 10 (pc' := 237) (L' := [some (vR 0), some (vR 200), some (vR 150), some (vI z), some (vI 3), some (vI (τ.1 1)), some (vI ((((τ.1 1) + 1) + (smI (iSr z 3) 2)) % 3)), none, none, none, none, none, none]) (st' := [vI 2, vI (iSr z 5), vI 10, vI 1]) (X' := [(150, .inl (20, .inl q))]) (fun _ _ => rfl) (by first | omega | (dsimp only; omega)) ?_
  have f5 := smI_r (iSr z 5) (n := 2) (by omega)
  refine GX.sx hR [vI (iSr z 5), vI 2] (fun w => lp_some (x := iSr z 5) (n := 2) (by omega) w) kL_158 rfl rfl (by decide) (Nat.le_of_ble_eq_true rfl) (Nat.le_of_ble_eq_true rfl) rfl ?_
  refine GX.run0 hR 7 (pc' := 250) (L' := [some (vR 0), some (vR 200), some (vR 150), some (vI z), some (vI 3), some (vI (τ.1 1)), some (vI ((((τ.1 1) + 1) + (smI (iSr z 3) 2)) % 3)), none, none, none, none, none, none]) (st' := [vI 2, vI (iSr z 6), vI 1000, vI (1 + (10 * (smI (iSr z 5) 2)))]) (X' := [(150, .inl (20, .inl q))]) (fun _ _ => rfl) ?_
  have f6 := smI_r (iSr z 6) (n := 2) (by omega)
  refine GX.sx hR [vI (iSr z 6), vI 2] (fun w => lp_some (x := iSr z 6) (n := 2) (by omega) w) kL_158 rfl rfl (by decide) (Nat.le_of_ble_eq_true rfl) (Nat.le_of_ble_eq_true rfl) rfl ?_
  refine GX.run0 hR 8 (pc' := 264) (L' := [some (vR 0), some (vR 200), some (vR 150), some (vI z), some (vI 3), some (vI (τ.1 1)), some (vI ((((τ.1 1) + 1) + (smI (iSr z 3) 2)) % 3)), some (vI ((1 + (10 * (smI (iSr z 5) 2))) + (1000 * (smI (iSr z 6) 2)))), none, none, none, none, none]) (st' := [vI 2, vI (iSr z 7), vI 100]) (X' := [(150, .inl (20, .inl q))]) (fun _ _ => rfl) ?_
  have f7 := smI_r (iSr z 7) (n := 2) (by omega)
  refine GX.sx hR [vI (iSr z 7), vI 2] (fun w => lp_some (x := iSr z 7) (n := 2) (by omega) w) kL_158 rfl rfl (by decide) (Nat.le_of_ble_eq_true rfl) (Nat.le_of_ble_eq_true rfl) rfl ?_
  refine GX.run0 hR 6 (pc' := 276) (L' := [some (vR 0), some (vR 200), some (vR 150), some (vI z), some (vI 3), some (vI (τ.1 1)), some (vI ((((τ.1 1) + 1) + (smI (iSr z 3) 2)) % 3)), some (vI ((1 + (10 * (smI (iSr z 5) 2))) + (1000 * (smI (iSr z 6) 2)))), none, none, none, none, none]) (st' := [vI 2, vI (iSr z 8), vI 10000, vI (100 * (smI (iSr z 7) 2))]) (X' := [(150, .inl (20, .inl q))]) (fun _ _ => rfl) ?_
  have f8 := smI_r (iSr z 8) (n := 2) (by omega)
  refine GX.sx hR [vI (iSr z 8), vI 2] (fun w => lp_some (x := iSr z 8) (n := 2) (by omega) w) kL_158 rfl rfl (by decide) (Nat.le_of_ble_eq_true rfl) (Nat.le_of_ble_eq_true rfl) rfl ?_
  refine GX.run0 hR 5 (pc' := 286) (L' := [some (vR 0), some (vR 200), some (vR 150), some (vI z), some (vI 3), some (vI (τ.1 1)), some (vI ((((τ.1 1) + 1) + (smI (iSr z 3) 2)) % 3)), some (vI ((1 + (10 * (smI (iSr z 5) 2))) + (1000 * (smI (iSr z 6) 2)))), some (vI (((100 * (smI (iSr z 7) 2)) + (10000 * (smI (iSr z 8) 2))) + 10)), none, none, none, none]) (st' := []) (X' := [(150, .inl (20, .inl q))]) (fun _ _ => rfl) ?_
  have s5 := smI_r (iSr z 5) (n := 2) (by omega)
  have s6 := smI_r (iSr z 6) (n := 2) (by omega)
  have s7 := smI_r (iSr z 7) (n := 2) (by omega)
  have s8 := smI_r (iSr z 8) (n := 2) (by omega)
  have s3 := smI_r (iSr z 3) (n := 2) (by omega)
  have gr : _ := giv_r s5 s6
  have wr : _ := wan_r s7 s8
  have pr : 0 ≤ (((τ.1 1) + 1) + (smI (iSr z 3) 2)) % 3 ∧ (((τ.1 1) + 1) + (smI (iSr z 3) 2)) % 3 < 3 ∧ (((τ.1 1) + 1) + (smI (iSr z 3) 2)) % 3 ≠ τ.1 1 := by omega
  generalize (1 + (10 * (smI (iSr z 5) 2))) + (1000 * (smI (iSr z 6) 2)) = gv at gr ⊢
  generalize ((100 * (smI (iSr z 7) 2)) + (10000 * (smI (iSr z 8) 2))) + 10 = wn at wr ⊢
  generalize (((τ.1 1) + 1) + (smI (iSr z 3) 2)) % 3 = pp at pr ⊢
  obtain ⟨gr1, gr2, gr3, gr4⟩ := gr
  obtain ⟨wr1, wr2, wr3, wr4⟩ := wr
  obtain ⟨pr1, pr2, pr3⟩ := pr
  have hpp : 0 ≤ pp ∧ pp < 3 := ⟨pr1, pr2⟩
  have qt0 := hq.at (p := τ.1 1) (g := 0) (by omega) (by omega)
  have qp0 := hq.at (p := pp) (g := 0) (by omega) (by omega)
  have qb0 : q 15 = τ.2.2 0 3 0 := hq.at (p := 3) (g := 0) (by omega) (by omega)
  have f9 := hI.hh (τ.1 1) 0
  have f10 := hI.hh pp 0
  have f11 := hI.hh 3 0
  have qt1 := hq.at (p := τ.1 1) (g := 1) (by omega) (by omega)
  have qp1 := hq.at (p := pp) (g := 1) (by omega) (by omega)
  have qb1 : q 16 = τ.2.2 0 3 1 := hq.at (p := 3) (g := 1) (by omega) (by omega)
  have f12 := hI.hh (τ.1 1) 1
  have f13 := hI.hh pp 1
  have f14 := hI.hh 3 1
  have qt2 := hq.at (p := τ.1 1) (g := 2) (by omega) (by omega)
  have qp2 := hq.at (p := pp) (g := 2) (by omega) (by omega)
  have qb2 : q 17 = τ.2.2 0 3 2 := hq.at (p := 3) (g := 2) (by omega) (by omega)
  have f15 := hI.hh (τ.1 1) 2
  have f16 := hI.hh pp 2
  have f17 := hI.hh 3 2
  have qt3 := hq.at (p := τ.1 1) (g := 3) (by omega) (by omega)
  have qp3 := hq.at (p := pp) (g := 3) (by omega) (by omega)
  have qb3 : q 18 = τ.2.2 0 3 3 := hq.at (p := 3) (g := 3) (by omega) (by omega)
  have f18 := hI.hh (τ.1 1) 3
  have f19 := hI.hh pp 3
  have f20 := hI.hh 3 3
  have qt4 := hq.at (p := τ.1 1) (g := 4) (by omega) (by omega)
  have qp4 := hq.at (p := pp) (g := 4) (by omega) (by omega)
  have qb4 : q 19 = τ.2.2 0 3 4 := hq.at (p := 3) (g := 4) (by omega) (by omega)
  have f21 := hI.hh (τ.1 1) 4
  have f22 := hI.hh pp 4
  have f23 := hI.hh 3 4
  have qz0 : q (5 * τ.1 1) = τ.2.2 0 (τ.1 1) 0 := by rw [Int.add_zero] at qt0; exact qt0
  refine GX.run0 hR 2 (pc' := 289) (L' := [some (vR 0), some (vR 200), some (vR 150), some (vI z), some (vI 3), some (vI (τ.1 1)), some (vI pp), some (vI gv), some (vI wn), none, none, none, none]) (st' := [vI 4, vI 3]) (X' := [(150, .inl (20, .inl q))]) (fun _ _ => rfl) ?_
  refine GX.br hR (pc1 := 542) (pc2 := 292) (st1 := []) (C := (4 : Int) ≤ 3) (fun _ => rfl) (by first | omega | (dsimp only; omega)) (fun h24 => (by exfalso; omega)) (fun h24 => ?_)
  refine GX.run0 hR 6 (pc' := 301) (L' := [some (vR 0), some (vR 200), some (vR 150), some (vI z), some (vI 3), some (vI (τ.1 1)), some (vI pp), some (vI gv), some (vI wn), none, none, none, none]) (st' := [vI 0, vI wn, vI gv, vI 15, vR 200, vR 0]) (X' := [(150, .inl (20, .inl q))]) (fun _ _ => rfl) ?_
  obtain ⟨v25, σ26, hcl, hc⟩ := s_offer h2 (a := gv) (b := wn) ⟨gr1, by omega⟩ ⟨wr1, by omega⟩ 0
  refine GX.bo hR hro hcl rfl (by decide) (Nat.le_of_ble_eq_true rfl) rfl (by decide) (fun hJ2 => ?_)
  have hI2 := hJ2.iv
  have hJs := hJ2
  have hIs := hI2
  rcases hc with ⟨e1, e2⟩ | ⟨e1, e2, e3⟩
  · skip
    rw [e1, e2]
    refine GX.run0 hR 2 (pc' := 308) (L' := [some (vR 0), some (vR 200), some (vR 150), some (vI z), some (vI 3), some (vI (τ.1 1)), some (vI pp), some (vI gv), some (vI wn), some (vI (-1123)), none, none, none]) (st' := [vI (-1123)]) (X' := [(150, .inl (20, .inl q))]) (fun _ _ => rfl) ?_
    refine GX.br hR (pc1 := 325) (pc2 := 311) (st1 := []) (C := ((-1123) : Int) ≠ 0) (fun _ => rfl) (by first | omega | (dsimp only; omega)) (fun h27 => ?_) (fun h27 => (by exfalso; omega))
    refine GX.run0 hR 4 (pc' := 335) (L' := [some (vR 0), some (vR 200), some (vR 150), some (vI z), some (vI 3), some (vI (τ.1 1)), some (vI pp), some (vI gv), some (vI wn), some (vI (-1123)), some (vI (-1123)), none, none]) (st' := [vI (-1123), vI (-1123)]) (X' := [(150, .inl (20, .inl q))]) (fun _ _ => rfl) ?_
    refine GX.br hR (pc1 := 363) (pc2 := 338) (st1 := []) (C := ((-1123) : Int) ≠ (-1123)) (fun _ => rfl) (by first | omega | (dsimp only; omega)) (fun h28 => (by exfalso; omega)) (fun h28 => ?_)
    refine GX.run0 hR 2 (pc' := 343) (L' := [some (vR 0), some (vR 200), some (vR 150), some (vI z), some (vI 3), some (vI (τ.1 1)), some (vI pp), some (vI gv), some (vI wn), some (vI (-1123)), some (vI (-1123)), none, none]) (st' := [vI (-2000), vI (-1123)]) (X' := [(150, .inl (20, .inl q))]) (fun _ _ => rfl) ?_
    refine GX.br hR (pc1 := 361) (pc2 := 346) (st1 := []) (C := ((-1123) : Int) ≤ (-2000)) (fun _ => rfl) (by first | omega | (dsimp only; omega)) (fun h29 => (by exfalso; omega)) (fun h29 => ?_)
    refine GX.run0 hR 5 (pc' := 351) (L' := [some (vR 0), some (vR 200), some (vR 150), some (vI z), some (vI 3), some (vI (τ.1 1)), some (vI pp), some (vI gv), some (vI wn), some (vI (-1123)), some (vI (-1123)), none, none]) (st' := [vI 0, vI 0, vI 0, vR 150, vR 0]) (X' := [(150, .inl (20, .inl q))]) (fun _ _ => rfl) ?_
    refine GX.sg hR [vR 0, vR 150, vI 0, vI 0, vI 0] (fun κ κ2 hJ hJ2 => lp_moved hro hJ κ2 (q := q) (f := 0) (t := 0) (n := 0) (by omega) (by omega) (by omega) hqr (mvd_0 hq rfl)) kL_169 rfl rfl (by decide) (Nat.le_of_ble_eq_true rfl) (Nat.le_of_ble_eq_true rfl) rfl ?_
    refine GX.br hR (pc1 := 361) (pc2 := 357) (st1 := []) (C := (1 : Int) = 0) (fun _ => rfl) (by first | omega | (dsimp only; omega)) (fun h30 => (by exfalso; omega)) (fun h30 => ?_)
    refine GX.run0 hR 2 (pc' := 362) (L' := [some (vR 0), some (vR 200), some (vR 150), some (vI z), some (vI 3), some (vI (τ.1 1)), some (vI pp), some (vI gv), some (vI wn), some (vI (-1123)), some (vI (-1123)), none, none]) (st' := [vI 1]) (X' := [(150, .inl (20, .inl q))]) (fun _ _ => rfl) ?_
    exact GX.rt hR hk rfl (.inr rfl) ⟨rfl, hO0⟩
  · skip
    rw [e1]
    have eh : σ26.2.2 0 = τ.2.2 0 := by rw [e2]; rfl
    have e0 : σ26.1 0 = 2 := by rw [e2]; exact h2
    have et : σ26.1 1 = τ.1 1 := by rw [e2]; rfl
    have e9 : σ26.1 9 = gv := by rw [e2]; rfl
    have e10 : σ26.1 10 = wn := by rw [e2]; rfl
    refine GX.run0 hR 2 (pc' := 308) (L' := [some (vR 0), some (vR 200), some (vR 150), some (vI z), some (vI 3), some (vI (τ.1 1)), some (vI pp), some (vI gv), some (vI wn), some (vI 0), none, none, none]) (st' := [vI 0]) (X' := [(150, .inl (20, .inl q))]) (fun _ _ => rfl) ?_
    refine GX.br hR (pc1 := 325) (pc2 := 311) (st1 := []) (C := (0 : Int) ≠ 0) (fun _ => rfl) (by first | omega | (dsimp only; omega)) (fun h31 => (by exfalso; omega)) (fun h31 => ?_)
    refine GX.run0 hR 6 (pc' := 319) (L' := [some (vR 0), some (vR 200), some (vR 150), some (vI z), some (vI 3), some (vI (τ.1 1)), some (vI pp), some (vI gv), some (vI wn), some (vI 0), none, none, none]) (st' := [vI 0, vI 0, vI pp, vI 17, vR 200, vR 0]) (X' := [(150, .inl (20, .inl q))]) (fun _ _ => rfl) ?_
    obtain ⟨v32, σ33, hcl, hc⟩ := s_accept hJs (p := pp) hpp 0 0
    refine GX.bo hR hro hcl rfl (by decide) (Nat.le_of_ble_eq_true rfl) rfl (by decide) (fun hJ2 => ?_)
    have hI2 := hJ2.iv
    rcases hc with ⟨f1, f2⟩ | ⟨f1, f2, f3, f4, f5, f6⟩
    · skip
      rw [f1, f2]
      refine GX.run0 hR 4 (pc' := 335) (L' := [some (vR 0), some (vR 200), some (vR 150), some (vI z), some (vI 3), some (vI (τ.1 1)), some (vI pp), some (vI gv), some (vI wn), some (vI 0), some (vI (-1123)), none, none]) (st' := [vI (-1123), vI (-1123)]) (X' := [(150, .inl (20, .inl q))]) (fun _ _ => rfl) ?_
      refine GX.br hR (pc1 := 363) (pc2 := 338) (st1 := []) (C := ((-1123) : Int) ≠ (-1123)) (fun _ => rfl) (by first | omega | (dsimp only; omega)) (fun h34 => (by exfalso; omega)) (fun h34 => ?_)
      refine GX.run0 hR 2 (pc' := 343) (L' := [some (vR 0), some (vR 200), some (vR 150), some (vI z), some (vI 3), some (vI (τ.1 1)), some (vI pp), some (vI gv), some (vI wn), some (vI 0), some (vI (-1123)), none, none]) (st' := [vI (-2000), vI 0]) (X' := [(150, .inl (20, .inl q))]) (fun _ _ => rfl) ?_
      refine GX.br hR (pc1 := 361) (pc2 := 346) (st1 := []) (C := (0 : Int) ≤ (-2000)) (fun _ => rfl) (by first | omega | (dsimp only; omega)) (fun h35 => (by exfalso; omega)) (fun h35 => ?_)
      refine GX.run0 hR 5 (pc' := 351) (L' := [some (vR 0), some (vR 200), some (vR 150), some (vI z), some (vI 3), some (vI (τ.1 1)), some (vI pp), some (vI gv), some (vI wn), some (vI 0), some (vI (-1123)), none, none]) (st' := [vI 0, vI 0, vI 0, vR 150, vR 0]) (X' := [(150, .inl (20, .inl q))]) (fun _ _ => rfl) ?_
      refine GX.sg hR [vR 0, vR 150, vI 0, vI 0, vI 0] (fun κ κ2 hJ hJ2 => lp_moved hro hJ κ2 (q := q) (f := 0) (t := 0) (n := 0) (by omega) (by omega) (by omega) hqr (mvd_0 hq eh)) kL_169 rfl rfl (by decide) (Nat.le_of_ble_eq_true rfl) (Nat.le_of_ble_eq_true rfl) rfl ?_
      refine GX.br hR (pc1 := 361) (pc2 := 357) (st1 := []) (C := (1 : Int) = 0) (fun _ => rfl) (by first | omega | (dsimp only; omega)) (fun h36 => (by exfalso; omega)) (fun h36 => ?_)
      refine GX.run0 hR 2 (pc' := 362) (L' := [some (vR 0), some (vR 200), some (vR 150), some (vI z), some (vI 3), some (vI (τ.1 1)), some (vI pp), some (vI gv), some (vI wn), some (vI 0), some (vI (-1123)), none, none]) (st' := [vI 1]) (X' := [(150, .inl (20, .inl q))]) (fun _ _ => rfl) ?_
      exact GX.rt hR hk rfl (.inr rfl) ⟨rfl, (Ov.of (by omega))⟩
    · skip
      rw [eh, et, e9, e10] at f3
      have hto := tot_r (h := σ33.2.2 0) hI2.hh pp
      have x0 := ex_at (h := τ.2.2 0) (p := pp) (t := τ.1 1) (g := wn) (w := gv) (k := 0) hpp ht pr3 (by omega)
      rw [← f3] at x0
      have x1 := ex_at (h := τ.2.2 0) (p := pp) (t := τ.1 1) (g := wn) (w := gv) (k := 1) hpp ht pr3 (by omega)
      rw [← f3] at x1
      have x2 := ex_at (h := τ.2.2 0) (p := pp) (t := τ.1 1) (g := wn) (w := gv) (k := 2) hpp ht pr3 (by omega)
      rw [← f3] at x2
      have x3 := ex_at (h := τ.2.2 0) (p := pp) (t := τ.1 1) (g := wn) (w := gv) (k := 3) hpp ht pr3 (by omega)
      rw [← f3] at x3
      have x4 := ex_at (h := τ.2.2 0) (p := pp) (t := τ.1 1) (g := wn) (w := gv) (k := 4) hpp ht pr3 (by omega)
      rw [← f3] at x4
      refine GX.run0 hR 4 (pc' := 335) (L' := [some (vR 0), some (vR 200), some (vR 150), some (vI z), some (vI 3), some (vI (τ.1 1)), some (vI pp), some (vI gv), some (vI wn), some (vI 0), some (vI v32), none, none]) (st' := [vI (-1123), vI v32]) (X' := [(150, .inl (20, .inl q))]) (fun _ _ => rfl) ?_
      refine GX.br hR (pc1 := 363) (pc2 := 338) (st1 := []) (C := v32 ≠ (-1123)) (fun _ => rfl) (by first | omega | (dsimp only; omega)) (fun h37 => ?_) (fun h37 => (by exfalso; omega))
      refine GX.run0 hR 3 (pc' := 368) (L' := [some (vR 0), some (vR 200), some (vR 150), some (vI z), some (vI 3), some (vI (τ.1 1)), some (vI pp), some (vI gv), some (vI wn), some (vI 0), some (vI v32), none, none]) (st' := [vI pp, vR 0, vI v32]) (X' := [(150, .inl (20, .inl q))]) (fun _ _ => rfl) ?_
      have f38 := tot_r hI2.hh pp
      refine GX.sg hR [vR 0, vI pp] (fun κ κ2 hJ hJ2 => lp_size hro hJ κ2 ([(150, .inl (20, .inl q))]) (by omega)) kL_165 rfl rfl (by decide) (Nat.le_of_ble_eq_true rfl) (Nat.le_of_ble_eq_true rfl) rfl ?_
      refine GX.br hR (pc1 := 378) (pc2 := 374) (st1 := []) (C := v32 ≠ tot (σ33.2.2 0) pp) (fun _ => rfl) (by first | omega | (dsimp only; omega)) (fun h39 => (by exfalso; omega)) (fun h39 => ?_)
      refine GX.run0 hR 7 (pc' := 387) (L' := [some (vR 0), some (vR 200), some (vR 150), some (vI z), some (vI 3), some (vI (τ.1 1)), some (vI pp), some (vI gv), some (vI wn), some (vI 0), some (vI v32), some (vI 1), some (vI 0)]) (st' := [vI 5, vI 0]) (X' := [(150, .inl (20, .inl q))]) (fun _ _ => rfl) ?_
      refine GX.br hR (pc1 := 497) (pc2 := 390) (st1 := []) (C := (5 : Int) ≤ 0) (fun _ => rfl) (by first | omega | (dsimp only; omega)) (fun h40 => (by exfalso; omega)) (fun h40 => ?_)
      refine GX.run0 hR 1 (pc' := 392) (L' := [some (vR 0), some (vR 200), some (vR 150), some (vI z), some (vI 3), some (vI (τ.1 1)), some (vI pp), some (vI gv), some (vI wn), some (vI 0), some (vI v32), some (vI 1), some (vI 0)]) (st' := [vI 1]) (X' := [(150, .inl (20, .inl q))]) (fun _ _ => rfl) ?_
      refine GX.br hR (pc1 := 497) (pc2 := 395) (st1 := []) (C := (1 : Int) = 0) (fun _ => rfl) (by first | omega | (dsimp only; omega)) (fun h41 => (by exfalso; omega)) (fun h41 => ?_)
      refine GX.run0 hR 3 (pc' := 400) (L' := [some (vR 0), some (vR 200), some (vR 150), some (vI z), some (vI 3), some (vI (τ.1 1)), some (vI pp), some (vI gv), some (vI wn), some (vI 0), some (vI v32), some (vI 1), some (vI 0)]) (st' := [vI 0, vI pp, vR 0]) (X' := [(150, .inl (20, .inl q))]) (fun _ _ => rfl) ?_
      have f42 := hI2.hh pp 0
      refine GX.ask hR hro [vI pp, vI 0] ((q_hand σ33 (by omega) (by omega)).gt) kL_89 rfl rfl rfl (by decide) (Nat.le_of_ble_eq_true rfl) (Nat.le_of_ble_eq_true rfl) rfl (fun _ _ => ⟨_, rfl⟩) ?_
      refine GX.run1 hR 9 (pc' := 416) (L' := [some (vR 0), some (vR 200), some (vR 150), some (vI z), some (vI 3), some (vI (τ.1 1)), some (vI pp), some (vI gv), some (vI wn), some (vI 0), some (vI v32), some (vI 1), some (vI 0)]) (st' := [vI 0, vI gv, vI (q ((5 * pp) + 0)), vI (σ33.2.2 0 pp 0)]) (X' := [(150, .inl (20, .inl q))]) (fun _ _ => rfl) (by first | omega | (dsimp only; omega)) ?_
      have f43 := dgt_r gv 0
      refine GX.sx hR [vI gv, vI 0] (fun w => lp_digit (n := gv) (k := 0) (by omega) (by omega) w) kL_152 rfl rfl (by decide) (Nat.le_of_ble_eq_true rfl) (Nat.le_of_ble_eq_true rfl) rfl ?_
      refine GX.run0 hR 3 (pc' := 424) (L' := [some (vR 0), some (vR 200), some (vR 150), some (vI z), some (vI 3), some (vI (τ.1 1)), some (vI pp), some (vI gv), some (vI wn), some (vI 0), some (vI v32), some (vI 1), some (vI 0)]) (st' := [vI 0, vI wn, vI ((q ((5 * pp) + 0)) + (dgt gv 0)), vI (σ33.2.2 0 pp 0)]) (X' := [(150, .inl (20, .inl q))]) (fun _ _ => rfl) ?_
      have f44 := dgt_r wn 0
      refine GX.sx hR [vI wn, vI 0] (fun w => lp_digit (n := wn) (k := 0) (by omega) (by omega) w) kL_152 rfl rfl (by decide) (Nat.le_of_ble_eq_true rfl) (Nat.le_of_ble_eq_true rfl) rfl ?_
      refine GX.run0 hR 1 (pc' := 428) (L' := [some (vR 0), some (vR 200), some (vR 150), some (vI z), some (vI 3), some (vI (τ.1 1)), some (vI pp), some (vI gv), some (vI wn), some (vI 0), some (vI v32), some (vI 1), some (vI 0)]) (st' := [vI (((q ((5 * pp) + 0)) + (dgt gv 0)) - (dgt wn 0)), vI (σ33.2.2 0 pp 0)]) (X' := [(150, .inl (20, .inl q))]) (fun _ _ => rfl) ?_
      refine GX.br hR (pc1 := 488) (pc2 := 431) (st1 := []) (C := σ33.2.2 0 pp 0 ≠ ((q ((5 * pp) + 0)) + (dgt gv 0)) - (dgt wn 0)) (fun _ => rfl) (by first | omega | (dsimp only; omega)) (fun h45 => (by exfalso; omega)) (fun h45 => ?_)
      refine GX.run0 hR 3 (pc' := 436) (L' := [some (vR 0), some (vR 200), some (vR 150), some (vI z), some (vI 3), some (vI (τ.1 1)), some (vI pp), some (vI gv), some (vI wn), some (vI 0), some (vI v32), some (vI 1), some (vI 0)]) (st' := [vI 0, vI (τ.1 1), vR 0]) (X' := [(150, .inl (20, .inl q))]) (fun _ _ => rfl) ?_
      have f46 := hI2.hh (τ.1 1) 0
      refine GX.ask hR hro [vI (τ.1 1), vI 0] ((q_hand σ33 (by omega) (by omega)).gt) kL_89 rfl rfl rfl (by decide) (Nat.le_of_ble_eq_true rfl) (Nat.le_of_ble_eq_true rfl) rfl (fun _ _ => ⟨_, rfl⟩) ?_
      refine GX.run1 hR 9 (pc' := 452) (L' := [some (vR 0), some (vR 200), some (vR 150), some (vI z), some (vI 3), some (vI (τ.1 1)), some (vI pp), some (vI gv), some (vI wn), some (vI 0), some (vI v32), some (vI 1), some (vI 0)]) (st' := [vI 0, vI gv, vI (q ((5 * (τ.1 1)) + 0)), vI (σ33.2.2 0 (τ.1 1) 0)]) (X' := [(150, .inl (20, .inl q))]) (fun _ _ => rfl) (by first | omega | (dsimp only; omega)) ?_
      have f47 := dgt_r gv 0
      refine GX.sx hR [vI gv, vI 0] (fun w => lp_digit (n := gv) (k := 0) (by omega) (by omega) w) kL_152 rfl rfl (by decide) (Nat.le_of_ble_eq_true rfl) (Nat.le_of_ble_eq_true rfl) rfl ?_
      refine GX.run0 hR 3 (pc' := 460) (L' := [some (vR 0), some (vR 200), some (vR 150), some (vI z), some (vI 3), some (vI (τ.1 1)), some (vI pp), some (vI gv), some (vI wn), some (vI 0), some (vI v32), some (vI 1), some (vI 0)]) (st' := [vI 0, vI wn, vI ((q ((5 * (τ.1 1)) + 0)) - (dgt gv 0)), vI (σ33.2.2 0 (τ.1 1) 0)]) (X' := [(150, .inl (20, .inl q))]) (fun _ _ => rfl) ?_
      have f48 := dgt_r wn 0
      refine GX.sx hR [vI wn, vI 0] (fun w => lp_digit (n := wn) (k := 0) (by omega) (by omega) w) kL_152 rfl rfl (by decide) (Nat.le_of_ble_eq_true rfl) (Nat.le_of_ble_eq_true rfl) rfl ?_
      refine GX.run0 hR 1 (pc' := 464) (L' := [some (vR 0), some (vR 200), some (vR 150), some (vI z), some (vI 3), some (vI (τ.1 1)), some (vI pp), some (vI gv), some (vI wn), some (vI 0), some (vI v32), some (vI 1), some (vI 0)]) (st' := [vI (((q ((5 * (τ.1 1)) + 0)) - (dgt gv 0)) + (dgt wn 0)), vI (σ33.2.2 0 (τ.1 1) 0)]) (X' := [(150, .inl (20, .inl q))]) (fun _ _ => rfl) ?_
      refine GX.br hR (pc1 := 488) (pc2 := 467) (st1 := []) (C := σ33.2.2 0 (τ.1 1) 0 ≠ ((q ((5 * (τ.1 1)) + 0)) - (dgt gv 0)) + (dgt wn 0)) (fun _ => rfl) (by first | omega | (dsimp only; omega)) (fun h49 => (by exfalso; omega)) (fun h49 => ?_)
      refine GX.run0 hR 3 (pc' := 471) (L' := [some (vR 0), some (vR 200), some (vR 150), some (vI z), some (vI 3), some (vI (τ.1 1)), some (vI pp), some (vI gv), some (vI wn), some (vI 0), some (vI v32), some (vI 1), some (vI 0)]) (st' := [vI 0, vI 3, vR 0]) (X' := [(150, .inl (20, .inl q))]) (fun _ _ => rfl) ?_
      have f50 := hI2.hh 3 0
      refine GX.ask hR hro [vI 3, vI 0] ((q_hand σ33 (by omega) (by omega)).gt) kL_89 rfl rfl rfl (by decide) (Nat.le_of_ble_eq_true rfl) (Nat.le_of_ble_eq_true rfl) rfl (fun _ _ => ⟨_, rfl⟩) ?_
      refine GX.run1 hR 5 (pc' := 481) (L' := [some (vR 0), some (vR 200), some (vR 150), some (vI z), some (vI 3), some (vI (τ.1 1)), some (vI pp), some (vI gv), some (vI wn), some (vI 0), some (vI v32), some (vI 1), some (vI 0)]) (st' := [vI (q 15), vI (σ33.2.2 0 3 0)]) (X' := [(150, .inl (20, .inl q))]) (fun _ _ => rfl) (by first | omega | (dsimp only; omega)) ?_
      refine GX.br hR (pc1 := 488) (pc2 := 484) (st1 := []) (C := σ33.2.2 0 3 0 ≠ q 15) (fun _ => rfl) (by first | omega | (dsimp only; omega)) (fun h51 => (by exfalso; omega)) (fun h51 => ?_)
      refine GX.run0 hR 7 (pc' := 387) (L' := [some (vR 0), some (vR 200), some (vR 150), some (vI z), some (vI 3), some (vI (τ.1 1)), some (vI pp), some (vI gv), some (vI wn), some (vI 0), some (vI v32), some (vI 1), some (vI 1)]) (st' := [vI 5, vI 1]) (X' := [(150, .inl (20, .inl q))]) (fun _ _ => rfl) ?_
      refine GX.br hR (pc1 := 497) (pc2 := 390) (st1 := []) (C := (5 : Int) ≤ 1) (fun _ => rfl) (by first | omega | (dsimp only; omega)) (fun h52 => (by exfalso; omega)) (fun h52 => ?_)
      refine GX.run0 hR 1 (pc' := 392) (L' := [some (vR 0), some (vR 200), some (vR 150), some (vI z), some (vI 3), some (vI (τ.1 1)), some (vI pp), some (vI gv), some (vI wn), some (vI 0), some (vI v32), some (vI 1), some (vI 1)]) (st' := [vI 1]) (X' := [(150, .inl (20, .inl q))]) (fun _ _ => rfl) ?_
      refine GX.br hR (pc1 := 497) (pc2 := 395) (st1 := []) (C := (1 : Int) = 0) (fun _ => rfl) (by first | omega | (dsimp only; omega)) (fun h53 => (by exfalso; omega)) (fun h53 => ?_)
      refine GX.run0 hR 3 (pc' := 400) (L' := [some (vR 0), some (vR 200), some (vR 150), some (vI z), some (vI 3), some (vI (τ.1 1)), some (vI pp), some (vI gv), some (vI wn), some (vI 0), some (vI v32), some (vI 1), some (vI 1)]) (st' := [vI 1, vI pp, vR 0]) (X' := [(150, .inl (20, .inl q))]) (fun _ _ => rfl) ?_
      have f54 := hI2.hh pp 1
      refine GX.ask hR hro [vI pp, vI 1] ((q_hand σ33 (by omega) (by omega)).gt) kL_89 rfl rfl rfl (by decide) (Nat.le_of_ble_eq_true rfl) (Nat.le_of_ble_eq_true rfl) rfl (fun _ _ => ⟨_, rfl⟩) ?_
      refine GX.run1 hR 9 (pc' := 416) (L' := [some (vR 0), some (vR 200), some (vR 150), some (vI z), some (vI 3), some (vI (τ.1 1)), some (vI pp), some (vI gv), some (vI wn), some (vI 0), some (vI v32), some (vI 1), some (vI 1)]) (st' := [vI 1, vI gv, vI (q ((5 * pp) + 1)), vI (σ33.2.2 0 pp 1)]) (X' := [(150, .inl (20, .inl q))]) (fun _ _ => rfl) (by first | omega | (dsimp only; omega)) ?_
      have f55 := dgt_r gv 1
      refine GX.sx hR [vI gv, vI 1] (fun w => lp_digit (n := gv) (k := 1) (by omega) (by omega) w) kL_152 rfl rfl (by decide) (Nat.le_of_ble_eq_true rfl) (Nat.le_of_ble_eq_true rfl) rfl ?_
      refine GX.run0 hR 3 (pc' := 424) (L' := [some (vR 0), some (vR 200), some (vR 150), some (vI z), some (vI 3), some (vI (τ.1 1)), some (vI pp), some (vI gv), some (vI wn), some (vI 0), some (vI v32), some (vI 1), some (vI 1)]) (st' := [vI 1, vI wn, vI ((q ((5 * pp) + 1)) + (dgt gv 1)), vI (σ33.2.2 0 pp 1)]) (X' := [(150, .inl (20, .inl q))]) (fun _ _ => rfl) ?_
      have f56 := dgt_r wn 1
      refine GX.sx hR [vI wn, vI 1] (fun w => lp_digit (n := wn) (k := 1) (by omega) (by omega) w) kL_152 rfl rfl (by decide) (Nat.le_of_ble_eq_true rfl) (Nat.le_of_ble_eq_true rfl) rfl ?_
      refine GX.run0 hR 1 (pc' := 428) (L' := [some (vR 0), some (vR 200), some (vR 150), some (vI z), some (vI 3), some (vI (τ.1 1)), some (vI pp), some (vI gv), some (vI wn), some (vI 0), some (vI v32), some (vI 1), some (vI 1)]) (st' := [vI (((q ((5 * pp) + 1)) + (dgt gv 1)) - (dgt wn 1)), vI (σ33.2.2 0 pp 1)]) (X' := [(150, .inl (20, .inl q))]) (fun _ _ => rfl) ?_
      refine GX.br hR (pc1 := 488) (pc2 := 431) (st1 := []) (C := σ33.2.2 0 pp 1 ≠ ((q ((5 * pp) + 1)) + (dgt gv 1)) - (dgt wn 1)) (fun _ => rfl) (by first | omega | (dsimp only; omega)) (fun h57 => (by exfalso; omega)) (fun h57 => ?_)
      refine GX.run0 hR 3 (pc' := 436) (L' := [some (vR 0), some (vR 200), some (vR 150), some (vI z), some (vI 3), some (vI (τ.1 1)), some (vI pp), some (vI gv), some (vI wn), some (vI 0), some (vI v32), some (vI 1), some (vI 1)]) (st' := [vI 1, vI (τ.1 1), vR 0]) (X' := [(150, .inl (20, .inl q))]) (fun _ _ => rfl) ?_
      have f58 := hI2.hh (τ.1 1) 1
      refine GX.ask hR hro [vI (τ.1 1), vI 1] ((q_hand σ33 (by omega) (by omega)).gt) kL_89 rfl rfl rfl (by decide) (Nat.le_of_ble_eq_true rfl) (Nat.le_of_ble_eq_true rfl) rfl (fun _ _ => ⟨_, rfl⟩) ?_
      refine GX.run1 hR 9 (pc' := 452) (L' := [some (vR 0), some (vR 200), some (vR 150), some (vI z), some (vI 3), some (vI (τ.1 1)), some (vI pp), some (vI gv), some (vI wn), some (vI 0), some (vI v32), some (vI 1), some (vI 1)]) (st' := [vI 1, vI gv, vI (q ((5 * (τ.1 1)) + 1)), vI (σ33.2.2 0 (τ.1 1) 1)]) (X' := [(150, .inl (20, .inl q))]) (fun _ _ => rfl) (by first | omega | (dsimp only; omega)) ?_
      have f59 := dgt_r gv 1
      refine GX.sx hR [vI gv, vI 1] (fun w => lp_digit (n := gv) (k := 1) (by omega) (by omega) w) kL_152 rfl rfl (by decide) (Nat.le_of_ble_eq_true rfl) (Nat.le_of_ble_eq_true rfl) rfl ?_
      refine GX.run0 hR 3 (pc' := 460) (L' := [some (vR 0), some (vR 200), some (vR 150), some (vI z), some (vI 3), some (vI (τ.1 1)), some (vI pp), some (vI gv), some (vI wn), some (vI 0), some (vI v32), some (vI 1), some (vI 1)]) (st' := [vI 1, vI wn, vI ((q ((5 * (τ.1 1)) + 1)) - (dgt gv 1)), vI (σ33.2.2 0 (τ.1 1) 1)]) (X' := [(150, .inl (20, .inl q))]) (fun _ _ => rfl) ?_
      have f60 := dgt_r wn 1
      refine GX.sx hR [vI wn, vI 1] (fun w => lp_digit (n := wn) (k := 1) (by omega) (by omega) w) kL_152 rfl rfl (by decide) (Nat.le_of_ble_eq_true rfl) (Nat.le_of_ble_eq_true rfl) rfl ?_
      refine GX.run0 hR 1 (pc' := 464) (L' := [some (vR 0), some (vR 200), some (vR 150), some (vI z), some (vI 3), some (vI (τ.1 1)), some (vI pp), some (vI gv), some (vI wn), some (vI 0), some (vI v32), some (vI 1), some (vI 1)]) (st' := [vI (((q ((5 * (τ.1 1)) + 1)) - (dgt gv 1)) + (dgt wn 1)), vI (σ33.2.2 0 (τ.1 1) 1)]) (X' := [(150, .inl (20, .inl q))]) (fun _ _ => rfl) ?_
      refine GX.br hR (pc1 := 488) (pc2 := 467) (st1 := []) (C := σ33.2.2 0 (τ.1 1) 1 ≠ ((q ((5 * (τ.1 1)) + 1)) - (dgt gv 1)) + (dgt wn 1)) (fun _ => rfl) (by first | omega | (dsimp only; omega)) (fun h61 => (by exfalso; omega)) (fun h61 => ?_)
      refine GX.run0 hR 3 (pc' := 471) (L' := [some (vR 0), some (vR 200), some (vR 150), some (vI z), some (vI 3), some (vI (τ.1 1)), some (vI pp), some (vI gv), some (vI wn), some (vI 0), some (vI v32), some (vI 1), some (vI 1)]) (st' := [vI 1, vI 3, vR 0]) (X' := [(150, .inl (20, .inl q))]) (fun _ _ => rfl) ?_
      have f62 := hI2.hh 3 1
      refine GX.ask hR hro [vI 3, vI 1] ((q_hand σ33 (by omega) (by omega)).gt) kL_89 rfl rfl rfl (by decide) (Nat.le_of_ble_eq_true rfl) (Nat.le_of_ble_eq_true rfl) rfl (fun _ _ => ⟨_, rfl⟩) ?_
      refine GX.run1 hR 5 (pc' := 481) (L' := [some (vR 0), some (vR 200), some (vR 150), some (vI z), some (vI 3), some (vI (τ.1 1)), some (vI pp), some (vI gv), some (vI wn), some (vI 0), some (vI v32), some (vI 1), some (vI 1)]) (st' := [vI (q 16), vI (σ33.2.2 0 3 1)]) (X' := [(150, .inl (20, .inl q))]) (fun _ _ => rfl) (by first | omega | (dsimp only; omega)) ?_
      refine GX.br hR (pc1 := 488) (pc2 := 484) (st1 := []) (C := σ33.2.2 0 3 1 ≠ q 16) (fun _ => rfl) (by first | omega | (dsimp only; omega)) (fun h63 => (by exfalso; omega)) (fun h63 => ?_)
      refine GX.run0 hR 7 (pc' := 387) (L' := [some (vR 0), some (vR 200), some (vR 150), some (vI z), some (vI 3), some (vI (τ.1 1)), some (vI pp), some (vI gv), some (vI wn), some (vI 0), some (vI v32), some (vI 1), some (vI 2)]) (st' := [vI 5, vI 2]) (X' := [(150, .inl (20, .inl q))]) (fun _ _ => rfl) ?_
      refine GX.br hR (pc1 := 497) (pc2 := 390) (st1 := []) (C := (5 : Int) ≤ 2) (fun _ => rfl) (by first | omega | (dsimp only; omega)) (fun h64 => (by exfalso; omega)) (fun h64 => ?_)
      refine GX.run0 hR 1 (pc' := 392) (L' := [some (vR 0), some (vR 200), some (vR 150), some (vI z), some (vI 3), some (vI (τ.1 1)), some (vI pp), some (vI gv), some (vI wn), some (vI 0), some (vI v32), some (vI 1), some (vI 2)]) (st' := [vI 1]) (X' := [(150, .inl (20, .inl q))]) (fun _ _ => rfl) ?_
      refine GX.br hR (pc1 := 497) (pc2 := 395) (st1 := []) (C := (1 : Int) = 0) (fun _ => rfl) (by first | omega | (dsimp only; omega)) (fun h65 => (by exfalso; omega)) (fun h65 => ?_)
      refine GX.run0 hR 3 (pc' := 400) (L' := [some (vR 0), some (vR 200), some (vR 150), some (vI z), some (vI 3), some (vI (τ.1 1)), some (vI pp), some (vI gv), some (vI wn), some (vI 0), some (vI v32), some (vI 1), some (vI 2)]) (st' := [vI 2, vI pp, vR 0]) (X' := [(150, .inl (20, .inl q))]) (fun _ _ => rfl) ?_
      have f66 := hI2.hh pp 2
      refine GX.ask hR hro [vI pp, vI 2] ((q_hand σ33 (by omega) (by omega)).gt) kL_89 rfl rfl rfl (by decide) (Nat.le_of_ble_eq_true rfl) (Nat.le_of_ble_eq_true rfl) rfl (fun _ _ => ⟨_, rfl⟩) ?_
      refine GX.run1 hR 9 (pc' := 416) (L' := [some (vR 0), some (vR 200), some (vR 150), some (vI z), some (vI 3), some (vI (τ.1 1)), some (vI pp), some (vI gv), some (vI wn), some (vI 0), some (vI v32), some (vI 1), some (vI 2)]) (st' := [vI 2, vI gv, vI (q ((5 * pp) + 2)), vI (σ33.2.2 0 pp 2)]) (X' := [(150, .inl (20, .inl q))]) (fun _ _ => rfl) (by first | omega | (dsimp only; omega)) ?_
      have f67 := dgt_r gv 2
      refine GX.sx hR [vI gv, vI 2] (fun w => lp_digit (n := gv) (k := 2) (by omega) (by omega) w) kL_152 rfl rfl (by decide) (Nat.le_of_ble_eq_true rfl) (Nat.le_of_ble_eq_true rfl) rfl ?_
      refine GX.run0 hR 3 (pc' := 424) (L' := [some (vR 0), some (vR 200), some (vR 150), some (vI z), some (vI 3), some (vI (τ.1 1)), some (vI pp), some (vI gv), some (vI wn), some (vI 0), some (vI v32), some (vI 1), some (vI 2)]) (st' := [vI 2, vI wn, vI ((q ((5 * pp) + 2)) + (dgt gv 2)), vI (σ33.2.2 0 pp 2)]) (X' := [(150, .inl (20, .inl q))]) (fun _ _ => rfl) ?_
      have f68 := dgt_r wn 2
      refine GX.sx hR [vI wn, vI 2] (fun w => lp_digit (n := wn) (k := 2) (by omega) (by omega) w) kL_152 rfl rfl (by decide) (Nat.le_of_ble_eq_true rfl) (Nat.le_of_ble_eq_true rfl) rfl ?_
      refine GX.run0 hR 1 (pc' := 428) (L' := [some (vR 0), some (vR 200), some (vR 150), some (vI z), some (vI 3), some (vI (τ.1 1)), some (vI pp), some (vI gv), some (vI wn), some (vI 0), some (vI v32), some (vI 1), some (vI 2)]) (st' := [vI (((q ((5 * pp) + 2)) + (dgt gv 2)) - (dgt wn 2)), vI (σ33.2.2 0 pp 2)]) (X' := [(150, .inl (20, .inl q))]) (fun _ _ => rfl) ?_
      refine GX.br hR (pc1 := 488) (pc2 := 431) (st1 := []) (C := σ33.2.2 0 pp 2 ≠ ((q ((5 * pp) + 2)) + (dgt gv 2)) - (dgt wn 2)) (fun _ => rfl) (by first | omega | (dsimp only; omega)) (fun h69 => (by exfalso; omega)) (fun h69 => ?_)
      refine GX.run0 hR 3 (pc' := 436) (L' := [some (vR 0), some (vR 200), some (vR 150), some (vI z), some (vI 3), some (vI (τ.1 1)), some (vI pp), some (vI gv), some (vI wn), some (vI 0), some (vI v32), some (vI 1), some (vI 2)]) (st' := [vI 2, vI (τ.1 1), vR 0]) (X' := [(150, .inl (20, .inl q))]) (fun _ _ => rfl) ?_
      have f70 := hI2.hh (τ.1 1) 2
      refine GX.ask hR hro [vI (τ.1 1), vI 2] ((q_hand σ33 (by omega) (by omega)).gt) kL_89 rfl rfl rfl (by decide) (Nat.le_of_ble_eq_true rfl) (Nat.le_of_ble_eq_true rfl) rfl (fun _ _ => ⟨_, rfl⟩) ?_
      refine GX.run1 hR 9 (pc' := 452) (L' := [some (vR 0), some (vR 200), some (vR 150), some (vI z), some (vI 3), some (vI (τ.1 1)), some (vI pp), some (vI gv), some (vI wn), some (vI 0), some (vI v32), some (vI 1), some (vI 2)]) (st' := [vI 2, vI gv, vI (q ((5 * (τ.1 1)) + 2)), vI (σ33.2.2 0 (τ.1 1) 2)]) (X' := [(150, .inl (20, .inl q))]) (fun _ _ => rfl) (by first | omega | (dsimp only; omega)) ?_
      have f71 := dgt_r gv 2
      refine GX.sx hR [vI gv, vI 2] (fun w => lp_digit (n := gv) (k := 2) (by omega) (by omega) w) kL_152 rfl rfl (by decide) (Nat.le_of_ble_eq_true rfl) (Nat.le_of_ble_eq_true rfl) rfl ?_
      refine GX.run0 hR 3 (pc' := 460) (L' := [some (vR 0), some (vR 200), some (vR 150), some (vI z), some (vI 3), some (vI (τ.1 1)), some (vI pp), some (vI gv), some (vI wn), some (vI 0), some (vI v32), some (vI 1), some (vI 2)]) (st' := [vI 2, vI wn, vI ((q ((5 * (τ.1 1)) + 2)) - (dgt gv 2)), vI (σ33.2.2 0 (τ.1 1) 2)]) (X' := [(150, .inl (20, .inl q))]) (fun _ _ => rfl) ?_
      have f72 := dgt_r wn 2
      refine GX.sx hR [vI wn, vI 2] (fun w => lp_digit (n := wn) (k := 2) (by omega) (by omega) w) kL_152 rfl rfl (by decide) (Nat.le_of_ble_eq_true rfl) (Nat.le_of_ble_eq_true rfl) rfl ?_
      refine GX.run0 hR 1 (pc' := 464) (L' := [some (vR 0), some (vR 200), some (vR 150), some (vI z), some (vI 3), some (vI (τ.1 1)), some (vI pp), some (vI gv), some (vI wn), some (vI 0), some (vI v32), some (vI 1), some (vI 2)]) (st' := [vI (((q ((5 * (τ.1 1)) + 2)) - (dgt gv 2)) + (dgt wn 2)), vI (σ33.2.2 0 (τ.1 1) 2)]) (X' := [(150, .inl (20, .inl q))]) (fun _ _ => rfl) ?_
      refine GX.br hR (pc1 := 488) (pc2 := 467) (st1 := []) (C := σ33.2.2 0 (τ.1 1) 2 ≠ ((q ((5 * (τ.1 1)) + 2)) - (dgt gv 2)) + (dgt wn 2)) (fun _ => rfl) (by first | omega | (dsimp only; omega)) (fun h73 => (by exfalso; omega)) (fun h73 => ?_)
      refine GX.run0 hR 3 (pc' := 471) (L' := [some (vR 0), some (vR 200), some (vR 150), some (vI z), some (vI 3), some (vI (τ.1 1)), some (vI pp), some (vI gv), some (vI wn), some (vI 0), some (vI v32), some (vI 1), some (vI 2)]) (st' := [vI 2, vI 3, vR 0]) (X' := [(150, .inl (20, .inl q))]) (fun _ _ => rfl) ?_
      have f74 := hI2.hh 3 2
      refine GX.ask hR hro [vI 3, vI 2] ((q_hand σ33 (by omega) (by omega)).gt) kL_89 rfl rfl rfl (by decide) (Nat.le_of_ble_eq_true rfl) (Nat.le_of_ble_eq_true rfl) rfl (fun _ _ => ⟨_, rfl⟩) ?_
      refine GX.run1 hR 5 (pc' := 481) (L' := [some (vR 0), some (vR 200), some (vR 150), some (vI z), some (vI 3), some (vI (τ.1 1)), some (vI pp), some (vI gv), some (vI wn), some (vI 0), some (vI v32), some (vI 1), some (vI 2)]) (st' := [vI (q 17), vI (σ33.2.2 0 3 2)]) (X' := [(150, .inl (20, .inl q))]) (fun _ _ => rfl) (by first | omega | (dsimp only; omega)) ?_
      refine GX.br hR (pc1 := 488) (pc2 := 484) (st1 := []) (C := σ33.2.2 0 3 2 ≠ q 17) (fun _ => rfl) (by first | omega | (dsimp only; omega)) (fun h75 => (by exfalso; omega)) (fun h75 => ?_)
      refine GX.run0 hR 7 (pc' := 387) (L' := [some (vR 0), some (vR 200), some (vR 150), some (vI z), some (vI 3), some (vI (τ.1 1)), some (vI pp), some (vI gv), some (vI wn), some (vI 0), some (vI v32), some (vI 1), some (vI 3)]) (st' := [vI 5, vI 3]) (X' := [(150, .inl (20, .inl q))]) (fun _ _ => rfl) ?_
      refine GX.br hR (pc1 := 497) (pc2 := 390) (st1 := []) (C := (5 : Int) ≤ 3) (fun _ => rfl) (by first | omega | (dsimp only; omega)) (fun h76 => (by exfalso; omega)) (fun h76 => ?_)
      refine GX.run0 hR 1 (pc' := 392) (L' := [some (vR 0), some (vR 200), some (vR 150), some (vI z), some (vI 3), some (vI (τ.1 1)), some (vI pp), some (vI gv), some (vI wn), some (vI 0), some (vI v32), some (vI 1), some (vI 3)]) (st' := [vI 1]) (X' := [(150, .inl (20, .inl q))]) (fun _ _ => rfl) ?_
      refine GX.br hR (pc1 := 497) (pc2 := 395) (st1 := []) (C := (1 : Int) = 0) (fun _ => rfl) (by first | omega | (dsimp only; omega)) (fun h77 => (by exfalso; omega)) (fun h77 => ?_)
      refine GX.run0 hR 3 (pc' := 400) (L' := [some (vR 0), some (vR 200), some (vR 150), some (vI z), some (vI 3), some (vI (τ.1 1)), some (vI pp), some (vI gv), some (vI wn), some (vI 0), some (vI v32), some (vI 1), some (vI 3)]) (st' := [vI 3, vI pp, vR 0]) (X' := [(150, .inl (20, .inl q))]) (fun _ _ => rfl) ?_
      have f78 := hI2.hh pp 3
      refine GX.ask hR hro [vI pp, vI 3] ((q_hand σ33 (by omega) (by omega)).gt) kL_89 rfl rfl rfl (by decide) (Nat.le_of_ble_eq_true rfl) (Nat.le_of_ble_eq_true rfl) rfl (fun _ _ => ⟨_, rfl⟩) ?_
      refine GX.run1 hR 9 (pc' := 416) (L' := [some (vR 0), some (vR 200), some (vR 150), some (vI z), some (vI 3), some (vI (τ.1 1)), some (vI pp), some (vI gv), some (vI wn), some (vI 0), some (vI v32), some (vI 1), some (vI 3)]) (st' := [vI 3, vI gv, vI (q ((5 * pp) + 3)), vI (σ33.2.2 0 pp 3)]) (X' := [(150, .inl (20, .inl q))]) (fun _ _ => rfl) (by first | omega | (dsimp only; omega)) ?_
      have f79 := dgt_r gv 3
      refine GX.sx hR [vI gv, vI 3] (fun w => lp_digit (n := gv) (k := 3) (by omega) (by omega) w) kL_152 rfl rfl (by decide) (Nat.le_of_ble_eq_true rfl) (Nat.le_of_ble_eq_true rfl) rfl ?_
      refine GX.run0 hR 3 (pc' := 424) (L' := [some (vR 0), some (vR 200), some (vR 150), some (vI z), some (vI 3), some (vI (τ.1 1)), some (vI pp), some (vI gv), some (vI wn), some (vI 0), some (vI v32), some (vI 1), some (vI 3)]) (st' := [vI 3, vI wn, vI ((q ((5 * pp) + 3)) + (dgt gv 3)), vI (σ33.2.2 0 pp 3)]) (X' := [(150, .inl (20, .inl q))]) (fun _ _ => rfl) ?_
      have f80 := dgt_r wn 3
      refine GX.sx hR [vI wn, vI 3] (fun w => lp_digit (n := wn) (k := 3) (by omega) (by omega) w) kL_152 rfl rfl (by decide) (Nat.le_of_ble_eq_true rfl) (Nat.le_of_ble_eq_true rfl) rfl ?_
      refine GX.run0 hR 1 (pc' := 428) (L' := [some (vR 0), some (vR 200), some (vR 150), some (vI z), some (vI 3), some (vI (τ.1 1)), some (vI pp), some (vI gv), some (vI wn), some (vI 0), some (vI v32), some (vI 1), some (vI 3)]) (st' := [vI (((q ((5 * pp) + 3)) + (dgt gv 3)) - (dgt wn 3)), vI (σ33.2.2 0 pp 3)]) (X' := [(150, .inl (20, .inl q))]) (fun _ _ => rfl) ?_
      refine GX.br hR (pc1 := 488) (pc2 := 431) (st1 := []) (C := σ33.2.2 0 pp 3 ≠ ((q ((5 * pp) + 3)) + (dgt gv 3)) - (dgt wn 3)) (fun _ => rfl) (by first | omega | (dsimp only; omega)) (fun h81 => (by exfalso; omega)) (fun h81 => ?_)
      refine GX.run0 hR 3 (pc' := 436) (L' := [some (vR 0), some (vR 200), some (vR 150), some (vI z), some (vI 3), some (vI (τ.1 1)), some (vI pp), some (vI gv), some (vI wn), some (vI 0), some (vI v32), some (vI 1), some (vI 3)]) (st' := [vI 3, vI (τ.1 1), vR 0]) (X' := [(150, .inl (20, .inl q))]) (fun _ _ => rfl) ?_
      have f82 := hI2.hh (τ.1 1) 3
      refine GX.ask hR hro [vI (τ.1 1), vI 3] ((q_hand σ33 (by omega) (by omega)).gt) kL_89 rfl rfl rfl (by decide) (Nat.le_of_ble_eq_true rfl) (Nat.le_of_ble_eq_true rfl) rfl (fun _ _ => ⟨_, rfl⟩) ?_
      refine GX.run1 hR 9 (pc' := 452) (L' := [some (vR 0), some (vR 200), some (vR 150), some (vI z), some (vI 3), some (vI (τ.1 1)), some (vI pp), some (vI gv), some (vI wn), some (vI 0), some (vI v32), some (vI 1), some (vI 3)]) (st' := [vI 3, vI gv, vI (q ((5 * (τ.1 1)) + 3)), vI (σ33.2.2 0 (τ.1 1) 3)]) (X' := [(150, .inl (20, .inl q))]) (fun _ _ => rfl) (by first | omega | (dsimp only; omega)) ?_
      have f83 := dgt_r gv 3
      refine GX.sx hR [vI gv, vI 3] (fun w => lp_digit (n := gv) (k := 3) (by omega) (by omega) w) kL_152 rfl rfl (by decide) (Nat.le_of_ble_eq_true rfl) (Nat.le_of_ble_eq_true rfl) rfl ?_
      refine GX.run0 hR 3 (pc' := 460) (L' := [some (vR 0), some (vR 200), some (vR 150), some (vI z), some (vI 3), some (vI (τ.1 1)), some (vI pp), some (vI gv), some (vI wn), some (vI 0), some (vI v32), some (vI 1), some (vI 3)]) (st' := [vI 3, vI wn, vI ((q ((5 * (τ.1 1)) + 3)) - (dgt gv 3)), vI (σ33.2.2 0 (τ.1 1) 3)]) (X' := [(150, .inl (20, .inl q))]) (fun _ _ => rfl) ?_
      have f84 := dgt_r wn 3
      refine GX.sx hR [vI wn, vI 3] (fun w => lp_digit (n := wn) (k := 3) (by omega) (by omega) w) kL_152 rfl rfl (by decide) (Nat.le_of_ble_eq_true rfl) (Nat.le_of_ble_eq_true rfl) rfl ?_
      refine GX.run0 hR 1 (pc' := 464) (L' := [some (vR 0), some (vR 200), some (vR 150), some (vI z), some (vI 3), some (vI (τ.1 1)), some (vI pp), some (vI gv), some (vI wn), some (vI 0), some (vI v32), some (vI 1), some (vI 3)]) (st' := [vI (((q ((5 * (τ.1 1)) + 3)) - (dgt gv 3)) + (dgt wn 3)), vI (σ33.2.2 0 (τ.1 1) 3)]) (X' := [(150, .inl (20, .inl q))]) (fun _ _ => rfl) ?_
      refine GX.br hR (pc1 := 488) (pc2 := 467) (st1 := []) (C := σ33.2.2 0 (τ.1 1) 3 ≠ ((q ((5 * (τ.1 1)) + 3)) - (dgt gv 3)) + (dgt wn 3)) (fun _ => rfl) (by first | omega | (dsimp only; omega)) (fun h85 => (by exfalso; omega)) (fun h85 => ?_)
      refine GX.run0 hR 3 (pc' := 471) (L' := [some (vR 0), some (vR 200), some (vR 150), some (vI z), some (vI 3), some (vI (τ.1 1)), some (vI pp), some (vI gv), some (vI wn), some (vI 0), some (vI v32), some (vI 1), some (vI 3)]) (st' := [vI 3, vI 3, vR 0]) (X' := [(150, .inl (20, .inl q))]) (fun _ _ => rfl) ?_
      have f86 := hI2.hh 3 3
      refine GX.ask hR hro [vI 3, vI 3] ((q_hand σ33 (by omega) (by omega)).gt) kL_89 rfl rfl rfl (by decide) (Nat.le_of_ble_eq_true rfl) (Nat.le_of_ble_eq_true rfl) rfl (fun _ _ => ⟨_, rfl⟩) ?_
      refine GX.run1 hR 5 (pc' := 481) (L' := [some (vR 0), some (vR 200), some (vR 150), some (vI z), some (vI 3), some (vI (τ.1 1)), some (vI pp), some (vI gv), some (vI wn), some (vI 0), some (vI v32), some (vI 1), some (vI 3)]) (st' := [vI (q 18), vI (σ33.2.2 0 3 3)]) (X' := [(150, .inl (20, .inl q))]) (fun _ _ => rfl) (by first | omega | (dsimp only; omega)) ?_
      refine GX.br hR (pc1 := 488) (pc2 := 484) (st1 := []) (C := σ33.2.2 0 3 3 ≠ q 18) (fun _ => rfl) (by first | omega | (dsimp only; omega)) (fun h87 => (by exfalso; omega)) (fun h87 => ?_)
      refine GX.run0 hR 7 (pc' := 387) (L' := [some (vR 0), some (vR 200), some (vR 150), some (vI z), some (vI 3), some (vI (τ.1 1)), some (vI pp), some (vI gv), some (vI wn), some (vI 0), some (vI v32), some (vI 1), some (vI 4)]) (st' := [vI 5, vI 4]) (X' := [(150, .inl (20, .inl q))]) (fun _ _ => rfl) ?_
      refine GX.br hR (pc1 := 497) (pc2 := 390) (st1 := []) (C := (5 : Int) ≤ 4) (fun _ => rfl) (by first | omega | (dsimp only; omega)) (fun h88 => (by exfalso; omega)) (fun h88 => ?_)
      refine GX.run0 hR 1 (pc' := 392) (L' := [some (vR 0), some (vR 200), some (vR 150), some (vI z), some (vI 3), some (vI (τ.1 1)), some (vI pp), some (vI gv), some (vI wn), some (vI 0), some (vI v32), some (vI 1), some (vI 4)]) (st' := [vI 1]) (X' := [(150, .inl (20, .inl q))]) (fun _ _ => rfl) ?_
      refine GX.br hR (pc1 := 497) (pc2 := 395) (st1 := []) (C := (1 : Int) = 0) (fun _ => rfl) (by first | omega | (dsimp only; omega)) (fun h89 => (by exfalso; omega)) (fun h89 => ?_)
      refine GX.run0 hR 3 (pc' := 400) (L' := [some (vR 0), some (vR 200), some (vR 150), some (vI z), some (vI 3), some (vI (τ.1 1)), some (vI pp), some (vI gv), some (vI wn), some (vI 0), some (vI v32), some (vI 1), some (vI 4)]) (st' := [vI 4, vI pp, vR 0]) (X' := [(150, .inl (20, .inl q))]) (fun _ _ => rfl) ?_
      have f90 := hI2.hh pp 4
      refine GX.ask hR hro [vI pp, vI 4] ((q_hand σ33 (by omega) (by omega)).gt) kL_89 rfl rfl rfl (by decide) (Nat.le_of_ble_eq_true rfl) (Nat.le_of_ble_eq_true rfl) rfl (fun _ _ => ⟨_, rfl⟩) ?_
      refine GX.run1 hR 9 (pc' := 416) (L' := [some (vR 0), some (vR 200), some (vR 150), some (vI z), some (vI 3), some (vI (τ.1 1)), some (vI pp), some (vI gv), some (vI wn), some (vI 0), some (vI v32), some (vI 1), some (vI 4)]) (st' := [vI 4, vI gv, vI (q ((5 * pp) + 4)), vI (σ33.2.2 0 pp 4)]) (X' := [(150, .inl (20, .inl q))]) (fun _ _ => rfl) (by first | omega | (dsimp only; omega)) ?_
      have f91 := dgt_r gv 4
      refine GX.sx hR [vI gv, vI 4] (fun w => lp_digit (n := gv) (k := 4) (by omega) (by omega) w) kL_152 rfl rfl (by decide) (Nat.le_of_ble_eq_true rfl) (Nat.le_of_ble_eq_true rfl) rfl ?_
      refine GX.run0 hR 3 (pc' := 424) (L' := [some (vR 0), some (vR 200), some (vR 150), some (vI z), some (vI 3), some (vI (τ.1 1)), some (vI pp), some (vI gv), some (vI wn), some (vI 0), some (vI v32), some (vI 1), some (vI 4)]) (st' := [vI 4, vI wn, vI ((q ((5 * pp) + 4)) + (dgt gv 4)), vI (σ33.2.2 0 pp 4)]) (X' := [(150, .inl (20, .inl q))]) (fun _ _ => rfl) ?_
      have f92 := dgt_r wn 4
      refine GX.sx hR [vI wn, vI 4] (fun w => lp_digit (n := wn) (k := 4) (by omega) (by omega) w) kL_152 rfl rfl (by decide) (Nat.le_of_ble_eq_true rfl) (Nat.le_of_ble_eq_true rfl) rfl ?_
      refine GX.run0 hR 1 (pc' := 428) (L' := [some (vR 0), some (vR 200), some (vR 150), some (vI z), some (vI 3), some (vI (τ.1 1)), some (vI pp), some (vI gv), some (vI wn), some (vI 0), some (vI v32), some (vI 1), some (vI 4)]) (st' := [vI (((q ((5 * pp) + 4)) + (dgt gv 4)) - (dgt wn 4)), vI (σ33.2.2 0 pp 4)]) (X' := [(150, .inl (20, .inl q))]) (fun _ _ => rfl) ?_
      refine GX.br hR (pc1 := 488) (pc2 := 431) (st1 := []) (C := σ33.2.2 0 pp 4 ≠ ((q ((5 * pp) + 4)) + (dgt gv 4)) - (dgt wn 4)) (fun _ => rfl) (by first | omega | (dsimp only; omega)) (fun h93 => (by exfalso; omega)) (fun h93 => ?_)
      refine GX.run0 hR 3 (pc' := 436) (L' := [some (vR 0), some (vR 200), some (vR 150), some (vI z), some (vI 3), some (vI (τ.1 1)), some (vI pp), some (vI gv), some (vI wn), some (vI 0), some (vI v32), some (vI 1), some (vI 4)]) (st' := [vI 4, vI (τ.1 1), vR 0]) (X' := [(150, .inl (20, .inl q))]) (fun _ _ => rfl) ?_
      have f94 := hI2.hh (τ.1 1) 4
      refine GX.ask hR hro [vI (τ.1 1), vI 4] ((q_hand σ33 (by omega) (by omega)).gt) kL_89 rfl rfl rfl (by decide) (Nat.le_of_ble_eq_true rfl) (Nat.le_of_ble_eq_true rfl) rfl (fun _ _ => ⟨_, rfl⟩) ?_
      refine GX.run1 hR 9 (pc' := 452) (L' := [some (vR 0), some (vR 200), some (vR 150), some (vI z), some (vI 3), some (vI (τ.1 1)), some (vI pp), some (vI gv), some (vI wn), some (vI 0), some (vI v32), some (vI 1), some (vI 4)]) (st' := [vI 4, vI gv, vI (q ((5 * (τ.1 1)) + 4)), vI (σ33.2.2 0 (τ.1 1) 4)]) (X' := [(150, .inl (20, .inl q))]) (fun _ _ => rfl) (by first | omega | (dsimp only; omega)) ?_
      have f95 := dgt_r gv 4
      refine GX.sx hR [vI gv, vI 4] (fun w => lp_digit (n := gv) (k := 4) (by omega) (by omega) w) kL_152 rfl rfl (by decide) (Nat.le_of_ble_eq_true rfl) (Nat.le_of_ble_eq_true rfl) rfl ?_
      refine GX.run0 hR 3 (pc' := 460) (L' := [some (vR 0), some (vR 200), some (vR 150), some (vI z), some (vI 3), some (vI (τ.1 1)), some (vI pp), some (vI gv), some (vI wn), some (vI 0), some (vI v32), some (vI 1), some (vI 4)]) (st' := [vI 4, vI wn, vI ((q ((5 * (τ.1 1)) + 4)) - (dgt gv 4)), vI (σ33.2.2 0 (τ.1 1) 4)]) (X' := [(150, .inl (20, .inl q))]) (fun _ _ => rfl) ?_
      have f96 := dgt_r wn 4
      refine GX.sx hR [vI wn, vI 4] (fun w => lp_digit (n := wn) (k := 4) (by omega) (by omega) w) kL_152 rfl rfl (by decide) (Nat.le_of_ble_eq_true rfl) (Nat.le_of_ble_eq_true rfl) rfl ?_
      refine GX.run0 hR 1 (pc' := 464) (L' := [some (vR 0), some (vR 200), some (vR 150), some (vI z), some (vI 3), some (vI (τ.1 1)), some (vI pp), some (vI gv), some (vI wn), some (vI 0), some (vI v32), some (vI 1), some (vI 4)]) (st' := [vI (((q ((5 * (τ.1 1)) + 4)) - (dgt gv 4)) + (dgt wn 4)), vI (σ33.2.2 0 (τ.1 1) 4)]) (X' := [(150, .inl (20, .inl q))]) (fun _ _ => rfl) ?_
      refine GX.br hR (pc1 := 488) (pc2 := 467) (st1 := []) (C := σ33.2.2 0 (τ.1 1) 4 ≠ ((q ((5 * (τ.1 1)) + 4)) - (dgt gv 4)) + (dgt wn 4)) (fun _ => rfl) (by first | omega | (dsimp only; omega)) (fun h97 => (by exfalso; omega)) (fun h97 => ?_)
      refine GX.run0 hR 3 (pc' := 471) (L' := [some (vR 0), some (vR 200), some (vR 150), some (vI z), some (vI 3), some (vI (τ.1 1)), some (vI pp), some (vI gv), some (vI wn), some (vI 0), some (vI v32), some (vI 1), some (vI 4)]) (st' := [vI 4, vI 3, vR 0]) (X' := [(150, .inl (20, .inl q))]) (fun _ _ => rfl) ?_
      have f98 := hI2.hh 3 4
      refine GX.ask hR hro [vI 3, vI 4] ((q_hand σ33 (by omega) (by omega)).gt) kL_89 rfl rfl rfl (by decide) (Nat.le_of_ble_eq_true rfl) (Nat.le_of_ble_eq_true rfl) rfl (fun _ _ => ⟨_, rfl⟩) ?_
      refine GX.run1 hR 5 (pc' := 481) (L' := [some (vR 0), some (vR 200), some (vR 150), some (vI z), some (vI 3), some (vI (τ.1 1)), some (vI pp), some (vI gv), some (vI wn), some (vI 0), some (vI v32), some (vI 1), some (vI 4)]) (st' := [vI (q 19), vI (σ33.2.2 0 3 4)]) (X' := [(150, .inl (20, .inl q))]) (fun _ _ => rfl) (by first | omega | (dsimp only; omega)) ?_
      refine GX.br hR (pc1 := 488) (pc2 := 484) (st1 := []) (C := σ33.2.2 0 3 4 ≠ q 19) (fun _ => rfl) (by first | omega | (dsimp only; omega)) (fun h99 => (by exfalso; omega)) (fun h99 => ?_)
      refine GX.run0 hR 7 (pc' := 387) (L' := [some (vR 0), some (vR 200), some (vR 150), some (vI z), some (vI 3), some (vI (τ.1 1)), some (vI pp), some (vI gv), some (vI wn), some (vI 0), some (vI v32), some (vI 1), some (vI 5)]) (st' := [vI 5, vI 5]) (X' := [(150, .inl (20, .inl q))]) (fun _ _ => rfl) ?_
      refine GX.br hR (pc1 := 497) (pc2 := 390) (st1 := []) (C := (5 : Int) ≤ 5) (fun _ => rfl) (by first | omega | (dsimp only; omega)) (fun h100 => ?_) (fun h100 => (by exfalso; omega))
      refine GX.run0 hR 1 (pc' := 499) (L' := [some (vR 0), some (vR 200), some (vR 150), some (vI z), some (vI 3), some (vI (τ.1 1)), some (vI pp), some (vI gv), some (vI wn), some (vI 0), some (vI v32), some (vI 1), some (vI 5)]) (st' := [vI 1]) (X' := [(150, .inl (20, .inl q))]) (fun _ _ => rfl) ?_
      refine GX.br hR (pc1 := 540) (pc2 := 502) (st1 := []) (C := (1 : Int) = 0) (fun _ => rfl) (by first | omega | (dsimp only; omega)) (fun h101 => (by exfalso; omega)) (fun h101 => ?_)
      refine GX.run0 hR 6 (pc' := 510) (L' := [some (vR 0), some (vR 200), some (vR 150), some (vI z), some (vI 3), some (vI (τ.1 1)), some (vI pp), some (vI gv), some (vI wn), some (vI 0), some (vI v32), some (vI 1), some (vI 5)]) (st' := [vI 0, vI 0, vI pp, vI 17, vR 200, vR 0]) (X' := [(150, .inl (20, .inl q))]) (fun _ _ => rfl) ?_
      refine GX.bo hR hro (acc_no (τ := σ33) (p := pp) hpp f4 0 0) rfl (by decide) (Nat.le_of_ble_eq_true rfl) rfl (by decide) (fun _ => ?_)
      refine GX.run0 hR 1 (pc' := 516) (L' := [some (vR 0), some (vR 200), some (vR 150), some (vI z), some (vI 3), some (vI (τ.1 1)), some (vI pp), some (vI gv), some (vI wn), some (vI 0), some (vI v32), some (vI 1), some (vI 5)]) (st' := [vI (-1123), vI (-1123)]) (X' := [(150, .inl (20, .inl q))]) (fun _ _ => rfl) ?_
      refine GX.br hR (pc1 := 540) (pc2 := 519) (st1 := []) (C := ((-1123) : Int) ≠ (-1123)) (fun _ => rfl) (by first | omega | (dsimp only; omega)) (fun h102 => (by exfalso; omega)) (fun h102 => ?_)
      refine GX.run0 hR 6 (pc' := 527) (L' := [some (vR 0), some (vR 200), some (vR 150), some (vI z), some (vI 3), some (vI (τ.1 1)), some (vI pp), some (vI gv), some (vI wn), some (vI 0), some (vI v32), some (vI 1), some (vI 5)]) (st' := [vI 0, vI 0, vI pp, vI 18, vR 200, vR 0]) (X' := [(150, .inl (20, .inl q))]) (fun _ _ => rfl) ?_
      refine GX.bo hR hro (agr_no (τ := σ33) (p := pp) hpp f5 0 0) rfl (by decide) (Nat.le_of_ble_eq_true rfl) rfl (by decide) (fun _ => ?_)
      refine GX.run0 hR 1 (pc' := 533) (L' := [some (vR 0), some (vR 200), some (vR 150), some (vI z), some (vI 3), some (vI (τ.1 1)), some (vI pp), some (vI gv), some (vI wn), some (vI 0), some (vI v32), some (vI 1), some (vI 5)]) (st' := [vI (-1123), vI (-1123)]) (X' := [(150, .inl (20, .inl q))]) (fun _ _ => rfl) ?_
      refine GX.br hR (pc1 := 540) (pc2 := 536) (st1 := []) (C := ((-1123) : Int) ≠ (-1123)) (fun _ => rfl) (by first | omega | (dsimp only; omega)) (fun h103 => (by exfalso; omega)) (fun h103 => ?_)
      refine GX.run0 hR 2 (pc' := 541) (L' := [some (vR 0), some (vR 200), some (vR 150), some (vI z), some (vI 3), some (vI (τ.1 1)), some (vI pp), some (vI gv), some (vI wn), some (vI 0), some (vI v32), some (vI 1), some (vI 5)]) (st' := [vI 1]) (X' := [(150, .inl (20, .inl q))]) (fun _ _ => rfl) ?_
      exact GX.rt hR hk rfl (.inr rfl) ⟨rfl, (Ov.of (by omega))⟩
set_option maxRecDepth 20000 in
set_option maxHeartbeats 4000000 in
theorem w_trades4 {ro : PRO} (hro : ∀ q ∈ roC, q ∈ ro) {τ : St} (hJ : Jx τ) {q : Int → Int} (hq : isQ (τ.2.2 0) q) (hO0 : Ov τ) (z : Int) (h2 : τ.1 0 = 2) (hw : smI z 5 = 4) : SX mL_trades ro 15 [vR 0, vR 200, vR 150, vI z] τ [(150, .inl (20, .inl q))] (fun i σ => i = 1 ∧ Ov σ) 8 := by
  have hI := hJ.iv
  refine SX.of rfl tL_trades (Nat.le_of_ble_eq_true rfl) (fun G ks hk hR => ?_)
  show GX G 0 τ ([(150, .inl (20, .inl q))]) 0 [some (vR 0), some (vR 200), some (vR 150), some (vI z), none, none, none, none, none, none, none, none, none] []
  have hqr := hq.r hI
  have ht := hI.htu
  refine GX.run0 hR 2 (pc' := 2) (L' := [some (vR 0), some (vR 200), some (vR 150), some (vI z), none, none, none, none, none, none, none, none, none]) (st' := [vI 5, vI z]) (X' := [(150, .inl (20, .inl q))]) (fun _ _ => rfl) ?_
  have f1 := smI_r z (n := 5) (by omega)
  refine GX.sx hR [vI z, vI 5] (fun w => lp_some (x := z) (n := 5) (by omega) w) kL_158 rfl rfl (by decide) (Nat.le_of_ble_eq_true rfl) (Nat.le_of_ble_eq_true rfl) rfl ?_
  rw [hw]
  refine GX.run0 hR 2 (pc' := 8) (L' := [some (vR 0), some (vR 200), some (vR 150), some (vI z), some (vI 4), none, none, none, none, none, none, none, none]) (st' := [vR 0]) (X' := [(150, .inl (20, .inl q))]) (fun _ _ => rfl) ?_
  have f2 := hI.htu
  refine GX.ask hR hro [] ((q_turn τ).gt) kL_130 rfl rfl rfl (by decide) (Nat.le_of_ble_eq_true rfl) (Nat.le_of_ble_eq_true rfl) rfl (fun _ _ => ⟨_, rfl⟩) ?_
  refine GX.run0 hR 3 (pc' := 16) (L' := [some (vR 0), some (vR 200), some (vR 150), some (vI z), some (vI 4), some (vI (τ.1 1)), none, none, none, none, none, none, none]) (st' := [vI 2, vI 4]) (X' := [(150, .inl (20, .inl q))]) (fun _ _ => rfl) ?_
  refine GX.br hR (pc1 := 214) (pc2 := 19) (st1 := []) (C := (2 : Int) ≤ 4) (fun _ => rfl) (by first | omega | (dsimp only; omega)) (fun h3 => ?_) (fun h3 => (by exfalso; omega))
  refine GX.run0 hR 7 (pc' := 222) (L' := [some (vR 0), some (vR 200), some (vR 150), some (vI z), some (vI 4), some (vI (τ.1 1)), none, none, none, none, none, none, none]) (st' := [vI 2, vI (iSr z 3), vI ((τ.1 1) + 1)]) (X' := [(150, .inl (20, .inl q))]) (fun _ _ => rfl) ?_
  have f4 := smI_r (iSr z 3) (n := 2) (by omega)
  refine GX.sx hR [vI (iSr z 3), vI 2] (fun w => lp_some (x := iSr z 3) (n := 2) (by omega) w) kL_158 rfl rfl (by decide) (Nat.le_of_ble_eq_true rfl) (Nat.le_of_ble_eq_true rfl) rfl ?_
  refine GX.run1 hR 10 (pc' := 237) (L' := [some (vR 0), some (vR 200), some (vR 150), some (vI z), some (vI 4), some (vI (τ.1 1)), some (vI ((((τ.1 1) + 1) + (smI (iSr z 3) 2)) % 3)), none, none, none, none, none, none]) (st' := [vI 2, vI (iSr z 5), vI 10, vI 1]) (X' := [(150, .inl (20, .inl q))]) (fun _ _ => rfl) (by first | omega | (dsimp only; omega)) ?_
  have f5 := smI_r (iSr z 5) (n := 2) (by omega)
  refine GX.sx hR [vI (iSr z 5), vI 2] (fun w => lp_some (x := iSr z 5) (n := 2) (by omega) w) kL_158 rfl rfl (by decide) (Nat.le_of_ble_eq_true rfl) (Nat.le_of_ble_eq_true rfl) rfl ?_
  refine GX.run0 hR 7 (pc' := 250) (L' := [some (vR 0), some (vR 200), some (vR 150), some (vI z), some (vI 4), some (vI (τ.1 1)), some (vI ((((τ.1 1) + 1) + (smI (iSr z 3) 2)) % 3)), none, none, none, none, none, none]) (st' := [vI 2, vI (iSr z 6), vI 1000, vI (1 + (10 * (smI (iSr z 5) 2)))]) (X' := [(150, .inl (20, .inl q))]) (fun _ _ => rfl) ?_
  have f6 := smI_r (iSr z 6) (n := 2) (by omega)
  refine GX.sx hR [vI (iSr z 6), vI 2] (fun w => lp_some (x := iSr z 6) (n := 2) (by omega) w) kL_158 rfl rfl (by decide) (Nat.le_of_ble_eq_true rfl) (Nat.le_of_ble_eq_true rfl) rfl ?_
  refine GX.run0 hR 8 (pc' := 264) (L' := [some (vR 0), some (vR 200), some (vR 150), some (vI z), some (vI 4), some (vI (τ.1 1)), some (vI ((((τ.1 1) + 1) + (smI (iSr z 3) 2)) % 3)), some (vI ((1 + (10 * (smI (iSr z 5) 2))) + (1000 * (smI (iSr z 6) 2)))), none, none, none, none, none]) (st' := [vI 2, vI (iSr z 7), vI 100]) (X' := [(150, .inl (20, .inl q))]) (fun _ _ => rfl) ?_
  have f7 := smI_r (iSr z 7) (n := 2) (by omega)
  refine GX.sx hR [vI (iSr z 7), vI 2] (fun w => lp_some (x := iSr z 7) (n := 2) (by omega) w) kL_158 rfl rfl (by decide) (Nat.le_of_ble_eq_true rfl) (Nat.le_of_ble_eq_true rfl) rfl ?_
  refine GX.run0 hR 6 (pc' := 276) (L' := [some (vR 0), some (vR 200), some (vR 150), some (vI z), some (vI 4), some (vI (τ.1 1)), some (vI ((((τ.1 1) + 1) + (smI (iSr z 3) 2)) % 3)), some (vI ((1 + (10 * (smI (iSr z 5) 2))) + (1000 * (smI (iSr z 6) 2)))), none, none, none, none, none]) (st' := [vI 2, vI (iSr z 8), vI 10000, vI (100 * (smI (iSr z 7) 2))]) (X' := [(150, .inl (20, .inl q))]) (fun _ _ => rfl) ?_
  have f8 := smI_r (iSr z 8) (n := 2) (by omega)
  refine GX.sx hR [vI (iSr z 8), vI 2] (fun w => lp_some (x := iSr z 8) (n := 2) (by omega) w) kL_158 rfl rfl (by decide) (Nat.le_of_ble_eq_true rfl) (Nat.le_of_ble_eq_true rfl) rfl ?_
  refine GX.run0 hR 5 (pc' := 286) (L' := [some (vR 0), some (vR 200), some (vR 150), some (vI z), some (vI 4), some (vI (τ.1 1)), some (vI ((((τ.1 1) + 1) + (smI (iSr z 3) 2)) % 3)), some (vI ((1 + (10 * (smI (iSr z 5) 2))) + (1000 * (smI (iSr z 6) 2)))), some (vI (((100 * (smI (iSr z 7) 2)) + (10000 * (smI (iSr z 8) 2))) + 10)), none, none, none, none]) (st' := []) (X' := [(150, .inl (20, .inl q))]) (fun _ _ => rfl) ?_
  have s5 := smI_r (iSr z 5) (n := 2) (by omega)
  have s6 := smI_r (iSr z 6) (n := 2) (by omega)
  have s7 := smI_r (iSr z 7) (n := 2) (by omega)
  have s8 := smI_r (iSr z 8) (n := 2) (by omega)
  have s3 := smI_r (iSr z 3) (n := 2) (by omega)
  have gr : _ := giv_r s5 s6
  have wr : _ := wan_r s7 s8
  have pr : 0 ≤ (((τ.1 1) + 1) + (smI (iSr z 3) 2)) % 3 ∧ (((τ.1 1) + 1) + (smI (iSr z 3) 2)) % 3 < 3 ∧ (((τ.1 1) + 1) + (smI (iSr z 3) 2)) % 3 ≠ τ.1 1 := by omega
  generalize (1 + (10 * (smI (iSr z 5) 2))) + (1000 * (smI (iSr z 6) 2)) = gv at gr ⊢
  generalize ((100 * (smI (iSr z 7) 2)) + (10000 * (smI (iSr z 8) 2))) + 10 = wn at wr ⊢
  generalize (((τ.1 1) + 1) + (smI (iSr z 3) 2)) % 3 = pp at pr ⊢
  obtain ⟨gr1, gr2, gr3, gr4⟩ := gr
  obtain ⟨wr1, wr2, wr3, wr4⟩ := wr
  obtain ⟨pr1, pr2, pr3⟩ := pr
  have hpp : 0 ≤ pp ∧ pp < 3 := ⟨pr1, pr2⟩
  have qt0 := hq.at (p := τ.1 1) (g := 0) (by omega) (by omega)
  have qp0 := hq.at (p := pp) (g := 0) (by omega) (by omega)
  have qb0 : q 15 = τ.2.2 0 3 0 := hq.at (p := 3) (g := 0) (by omega) (by omega)
  have f9 := hI.hh (τ.1 1) 0
  have f10 := hI.hh pp 0
  have f11 := hI.hh 3 0
  have qt1 := hq.at (p := τ.1 1) (g := 1) (by omega) (by omega)
  have qp1 := hq.at (p := pp) (g := 1) (by omega) (by omega)
  have qb1 : q 16 = τ.2.2 0 3 1 := hq.at (p := 3) (g := 1) (by omega) (by omega)
  have f12 := hI.hh (τ.1 1) 1
  have f13 := hI.hh pp 1
  have f14 := hI.hh 3 1
  have qt2 := hq.at (p := τ.1 1) (g := 2) (by omega) (by omega)
  have qp2 := hq.at (p := pp) (g := 2) (by omega) (by omega)
  have qb2 : q 17 = τ.2.2 0 3 2 := hq.at (p := 3) (g := 2) (by omega) (by omega)
  have f15 := hI.hh (τ.1 1) 2
  have f16 := hI.hh pp 2
  have f17 := hI.hh 3 2
  have qt3 := hq.at (p := τ.1 1) (g := 3) (by omega) (by omega)
  have qp3 := hq.at (p := pp) (g := 3) (by omega) (by omega)
  have qb3 : q 18 = τ.2.2 0 3 3 := hq.at (p := 3) (g := 3) (by omega) (by omega)
  have f18 := hI.hh (τ.1 1) 3
  have f19 := hI.hh pp 3
  have f20 := hI.hh 3 3
  have qt4 := hq.at (p := τ.1 1) (g := 4) (by omega) (by omega)
  have qp4 := hq.at (p := pp) (g := 4) (by omega) (by omega)
  have qb4 : q 19 = τ.2.2 0 3 4 := hq.at (p := 3) (g := 4) (by omega) (by omega)
  have f21 := hI.hh (τ.1 1) 4
  have f22 := hI.hh pp 4
  have f23 := hI.hh 3 4
  have qz0 : q (5 * τ.1 1) = τ.2.2 0 (τ.1 1) 0 := by rw [Int.add_zero] at qt0; exact qt0
  refine GX.run0 hR 2 (pc' := 289) (L' := [some (vR 0), some (vR 200), some (vR 150), some (vI z), some (vI 4), some (vI (τ.1 1)), some (vI pp), some (vI gv), some (vI wn), none, none, none, none]) (st' := [vI 4, vI 4]) (X' := [(150, .inl (20, .inl q))]) (fun _ _ => rfl) ?_
  refine GX.br hR (pc1 := 542) (pc2 := 292) (st1 := []) (C := (4 : Int) ≤ 4) (fun _ => rfl) (by first | omega | (dsimp only; omega)) (fun h24 => ?_) (fun h24 => (by exfalso; omega))
  refine GX.run0 hR 6 (pc' := 550) (L' := [some (vR 0), some (vR 200), some (vR 150), some (vI z), some (vI 4), some (vI (τ.1 1)), some (vI pp), some (vI gv), some (vI wn), none, none, none, none]) (st' := [vI 0, vI 1, vI gv, vI 15, vR 200, vR 0]) (X' := [(150, .inl (20, .inl q))]) (fun _ _ => rfl) ?_
  obtain ⟨v25, σ26, hcl, hc⟩ := s_offer h2 (a := gv) (b := 1) ⟨gr1, by omega⟩ ⟨by omega, by omega⟩ 0
  refine GX.bo hR hro hcl rfl (by decide) (Nat.le_of_ble_eq_true rfl) rfl (by decide) (fun hJ2 => ?_)
  have hI2 := hJ2.iv
  have hJs := hJ2
  have hIs := hI2
  rcases hc with ⟨e1, e2⟩ | ⟨e1, e2, e3⟩
  · skip
    rw [e1, e2]
    refine GX.run0 hR 7 (pc' := 565) (L' := [some (vR 0), some (vR 200), some (vR 150), some (vI z), some (vI 4), some (vI (τ.1 1)), some (vI pp), some (vI gv), some (vI wn), some (vI (-1123)), none, none, none]) (st' := [vI gv, vI wn, vI pp, vI 16, vR 200, vR 0]) (X' := [(150, .inl (20, .inl q))]) (fun _ _ => rfl) ?_
    obtain ⟨v27, σ28, hcl, hc⟩ := s_counter (τ := τ) (p := pp) (a := wn) (b := gv) hpp ⟨wr1, by omega⟩ ⟨gr1, by omega⟩
    refine GX.bo hR hro hcl rfl (by decide) (Nat.le_of_ble_eq_true rfl) rfl (by decide) (fun hJ2 => ?_)
    have hI2 := hJ2.iv
    rcases hc with ⟨f1, f2⟩ | ⟨f1, f2, f3⟩
    · skip
      rw [f1, f2]
      refine GX.run0 hR 2 (pc' := 572) (L' := [some (vR 0), some (vR 200), some (vR 150), some (vI z), some (vI 4), some (vI (τ.1 1)), some (vI pp), some (vI gv), some (vI wn), some (vI (-1123)), some (vI (-1123)), none, none]) (st' := [vI (-1123)]) (X' := [(150, .inl (20, .inl q))]) (fun _ _ => rfl) ?_
      refine GX.br hR (pc1 := 580) (pc2 := 575) (st1 := []) (C := ((-1123) : Int) ≠ 0) (fun _ => rfl) (by first | omega | (dsimp only; omega)) (fun h29 => ?_) (fun h29 => (by exfalso; omega))
      refine GX.run0 hR 2 (pc' := 585) (L' := [some (vR 0), some (vR 200), some (vR 150), some (vI z), some (vI 4), some (vI (τ.1 1)), some (vI pp), some (vI gv), some (vI wn), some (vI (-1123)), some (vI (-1123)), none, none]) (st' := [vI (-1123), vI (-1123)]) (X' := [(150, .inl (20, .inl q))]) (fun _ _ => rfl) ?_
      refine GX.br hR (pc1 := 593) (pc2 := 588) (st1 := []) (C := ((-1123) : Int) = (-1123)) (fun _ => rfl) (by first | omega | (dsimp only; omega)) (fun h30 => ?_) (fun h30 => (by exfalso; omega))
      refine GX.run0 hR 2 (pc' := 598) (L' := [some (vR 0), some (vR 200), some (vR 150), some (vI z), some (vI 4), some (vI (τ.1 1)), some (vI pp), some (vI gv), some (vI wn), some (vI (-1123)), some (vI (-1123)), none, none]) (st' := [vI (-1123), vI (-1123)]) (X' := [(150, .inl (20, .inl q))]) (fun _ _ => rfl) ?_
      refine GX.br hR (pc1 := 606) (pc2 := 601) (st1 := []) (C := ((-1123) : Int) = (-1123)) (fun _ => rfl) (by first | omega | (dsimp only; omega)) (fun h31 => ?_) (fun h31 => (by exfalso; omega))
      refine GX.run0 hR 5 (pc' := 611) (L' := [some (vR 0), some (vR 200), some (vR 150), some (vI z), some (vI 4), some (vI (τ.1 1)), some (vI pp), some (vI gv), some (vI wn), some (vI (-1123)), some (vI (-1123)), none, none]) (st' := [vI 0, vI 0, vI 0, vR 150, vR 0]) (X' := [(150, .inl (20, .inl q))]) (fun _ _ => rfl) ?_
      refine GX.sg hR [vR 0, vR 150, vI 0, vI 0, vI 0] (fun κ κ2 hJ hJ2 => lp_moved hro hJ κ2 (q := q) (f := 0) (t := 0) (n := 0) (by omega) (by omega) (by omega) hqr (mvd_0 hq rfl)) kL_169 rfl rfl (by decide) (Nat.le_of_ble_eq_true rfl) (Nat.le_of_ble_eq_true rfl) rfl ?_
      refine GX.br hR (pc1 := 621) (pc2 := 617) (st1 := []) (C := (1 : Int) = 0) (fun _ => rfl) (by first | omega | (dsimp only; omega)) (fun h32 => (by exfalso; omega)) (fun h32 => ?_)
      refine GX.run0 hR 2 (pc' := 622) (L' := [some (vR 0), some (vR 200), some (vR 150), some (vI z), some (vI 4), some (vI (τ.1 1)), some (vI pp), some (vI gv), some (vI wn), some (vI (-1123)), some (vI (-1123)), none, none]) (st' := [vI 1]) (X' := [(150, .inl (20, .inl q))]) (fun _ _ => rfl) ?_
      exact GX.rt hR hk rfl (.inr rfl) ⟨rfl, (Ov.of (by omega))⟩
    · skip
      rw [f1]
      have fh : σ28.2.2 0 = τ.2.2 0 := by rw [f2]; exact rfl
      have f0 : σ28.1 0 = 2 := by rw [f2]; exact h2
      refine GX.run0 hR 2 (pc' := 572) (L' := [some (vR 0), some (vR 200), some (vR 150), some (vI z), some (vI 4), some (vI (τ.1 1)), some (vI pp), some (vI gv), some (vI wn), some (vI (-1123)), some (vI 0), none, none]) (st' := [vI (-1123)]) (X' := [(150, .inl (20, .inl q))]) (fun _ _ => rfl) ?_
      refine GX.br hR (pc1 := 580) (pc2 := 575) (st1 := []) (C := ((-1123) : Int) ≠ 0) (fun _ => rfl) (by first | omega | (dsimp only; omega)) (fun h33 => ?_) (fun h33 => (by exfalso; omega))
      refine GX.run0 hR 2 (pc' := 585) (L' := [some (vR 0), some (vR 200), some (vR 150), some (vI z), some (vI 4), some (vI (τ.1 1)), some (vI pp), some (vI gv), some (vI wn), some (vI (-1123)), some (vI 0), none, none]) (st' := [vI (-1123), vI (-1123)]) (X' := [(150, .inl (20, .inl q))]) (fun _ _ => rfl) ?_
      refine GX.br hR (pc1 := 593) (pc2 := 588) (st1 := []) (C := ((-1123) : Int) = (-1123)) (fun _ => rfl) (by first | omega | (dsimp only; omega)) (fun h34 => ?_) (fun h34 => (by exfalso; omega))
      refine GX.run0 hR 2 (pc' := 598) (L' := [some (vR 0), some (vR 200), some (vR 150), some (vI z), some (vI 4), some (vI (τ.1 1)), some (vI pp), some (vI gv), some (vI wn), some (vI (-1123)), some (vI 0), none, none]) (st' := [vI (-1123), vI 0]) (X' := [(150, .inl (20, .inl q))]) (fun _ _ => rfl) ?_
      refine GX.br hR (pc1 := 606) (pc2 := 601) (st1 := []) (C := (0 : Int) = (-1123)) (fun _ => rfl) (by first | omega | (dsimp only; omega)) (fun h35 => (by exfalso; omega)) (fun h35 => ?_)
      refine GX.run0 hR 1 (pc' := 603) (L' := [some (vR 0), some (vR 200), some (vR 150), some (vI z), some (vI 4), some (vI (τ.1 1)), some (vI pp), some (vI gv), some (vI wn), some (vI (-1123)), some (vI 0), none, none]) (st' := [vI 0]) (X' := [(150, .inl (20, .inl q))]) (fun _ _ => rfl) ?_
      refine GX.br hR (pc1 := 621) (pc2 := 606) (st1 := []) (C := (0 : Int) ≠ 0) (fun _ => rfl) (by first | omega | (dsimp only; omega)) (fun h36 => (by exfalso; omega)) (fun h36 => ?_)
      refine GX.run0 hR 5 (pc' := 611) (L' := [some (vR 0), some (vR 200), some (vR 150), some (vI z), some (vI 4), some (vI (τ.1 1)), some (vI pp), some (vI gv), some (vI wn), some (vI (-1123)), some (vI 0), none, none]) (st' := [vI 0, vI 0, vI 0, vR 150, vR 0]) (X' := [(150, .inl (20, .inl q))]) (fun _ _ => rfl) ?_
      refine GX.sg hR [vR 0, vR 150, vI 0, vI 0, vI 0] (fun κ κ2 hJ hJ2 => lp_moved hro hJ κ2 (q := q) (f := 0) (t := 0) (n := 0) (by omega) (by omega) (by omega) hqr (mvd_0 hq fh)) kL_169 rfl rfl (by decide) (Nat.le_of_ble_eq_true rfl) (Nat.le_of_ble_eq_true rfl) rfl ?_
      refine GX.br hR (pc1 := 621) (pc2 := 617) (st1 := []) (C := (1 : Int) = 0) (fun _ => rfl) (by first | omega | (dsimp only; omega)) (fun h37 => (by exfalso; omega)) (fun h37 => ?_)
      refine GX.run0 hR 2 (pc' := 622) (L' := [some (vR 0), some (vR 200), some (vR 150), some (vI z), some (vI 4), some (vI (τ.1 1)), some (vI pp), some (vI gv), some (vI wn), some (vI (-1123)), some (vI 0), none, none]) (st' := [vI 1]) (X' := [(150, .inl (20, .inl q))]) (fun _ _ => rfl) ?_
      exact GX.rt hR hk rfl (.inr rfl) ⟨rfl, (Ov.of (by omega))⟩
  · skip
    rw [e1]
    have eh : σ26.2.2 0 = τ.2.2 0 := by rw [e2]; rfl
    have e0 : σ26.1 0 = 2 := by rw [e2]; exact h2
    refine GX.run0 hR 7 (pc' := 565) (L' := [some (vR 0), some (vR 200), some (vR 150), some (vI z), some (vI 4), some (vI (τ.1 1)), some (vI pp), some (vI gv), some (vI wn), some (vI 0), none, none, none]) (st' := [vI gv, vI wn, vI pp, vI 16, vR 200, vR 0]) (X' := [(150, .inl (20, .inl q))]) (fun _ _ => rfl) ?_
    obtain ⟨v38, σ39, hcl, hc⟩ := s_counter (τ := σ26) (p := pp) (a := wn) (b := gv) hpp ⟨wr1, by omega⟩ ⟨gr1, by omega⟩
    refine GX.bo hR hro hcl rfl (by decide) (Nat.le_of_ble_eq_true rfl) rfl (by decide) (fun hJ2 => ?_)
    have hI2 := hJ2.iv
    rcases hc with ⟨f1, f2⟩ | ⟨f1, f2, f3⟩
    · skip
      rw [f1, f2]
      refine GX.run0 hR 2 (pc' := 572) (L' := [some (vR 0), some (vR 200), some (vR 150), some (vI z), some (vI 4), some (vI (τ.1 1)), some (vI pp), some (vI gv), some (vI wn), some (vI 0), some (vI (-1123)), none, none]) (st' := [vI 0]) (X' := [(150, .inl (20, .inl q))]) (fun _ _ => rfl) ?_
      refine GX.br hR (pc1 := 580) (pc2 := 575) (st1 := []) (C := (0 : Int) ≠ 0) (fun _ => rfl) (by first | omega | (dsimp only; omega)) (fun h40 => (by exfalso; omega)) (fun h40 => ?_)
      refine GX.run0 hR 1 (pc' := 577) (L' := [some (vR 0), some (vR 200), some (vR 150), some (vI z), some (vI 4), some (vI (τ.1 1)), some (vI pp), some (vI gv), some (vI wn), some (vI 0), some (vI (-1123)), none, none]) (st' := [vI (-1123)]) (X' := [(150, .inl (20, .inl q))]) (fun _ _ => rfl) ?_
      refine GX.br hR (pc1 := 623) (pc2 := 580) (st1 := []) (C := ((-1123) : Int) = 0) (fun _ => rfl) (by first | omega | (dsimp only; omega)) (fun h41 => (by exfalso; omega)) (fun h41 => ?_)
      refine GX.run0 hR 2 (pc' := 585) (L' := [some (vR 0), some (vR 200), some (vR 150), some (vI z), some (vI 4), some (vI (τ.1 1)), some (vI pp), some (vI gv), some (vI wn), some (vI 0), some (vI (-1123)), none, none]) (st' := [vI (-1123), vI 0]) (X' := [(150, .inl (20, .inl q))]) (fun _ _ => rfl) ?_
      refine GX.br hR (pc1 := 593) (pc2 := 588) (st1 := []) (C := (0 : Int) = (-1123)) (fun _ => rfl) (by first | omega | (dsimp only; omega)) (fun h42 => (by exfalso; omega)) (fun h42 => ?_)
      refine GX.run0 hR 1 (pc' := 590) (L' := [some (vR 0), some (vR 200), some (vR 150), some (vI z), some (vI 4), some (vI (τ.1 1)), some (vI pp), some (vI gv), some (vI wn), some (vI 0), some (vI (-1123)), none, none]) (st' := [vI 0]) (X' := [(150, .inl (20, .inl q))]) (fun _ _ => rfl) ?_
      refine GX.br hR (pc1 := 621) (pc2 := 593) (st1 := []) (C := (0 : Int) ≠ 0) (fun _ => rfl) (by first | omega | (dsimp only; omega)) (fun h43 => (by exfalso; omega)) (fun h43 => ?_)
      refine GX.run0 hR 2 (pc' := 598) (L' := [some (vR 0), some (vR 200), some (vR 150), some (vI z), some (vI 4), some (vI (τ.1 1)), some (vI pp), some (vI gv), some (vI wn), some (vI 0), some (vI (-1123)), none, none]) (st' := [vI (-1123), vI (-1123)]) (X' := [(150, .inl (20, .inl q))]) (fun _ _ => rfl) ?_
      refine GX.br hR (pc1 := 606) (pc2 := 601) (st1 := []) (C := ((-1123) : Int) = (-1123)) (fun _ => rfl) (by first | omega | (dsimp only; omega)) (fun h44 => ?_) (fun h44 => (by exfalso; omega))
      refine GX.run0 hR 5 (pc' := 611) (L' := [some (vR 0), some (vR 200), some (vR 150), some (vI z), some (vI 4), some (vI (τ.1 1)), some (vI pp), some (vI gv), some (vI wn), some (vI 0), some (vI (-1123)), none, none]) (st' := [vI 0, vI 0, vI 0, vR 150, vR 0]) (X' := [(150, .inl (20, .inl q))]) (fun _ _ => rfl) ?_
      refine GX.sg hR [vR 0, vR 150, vI 0, vI 0, vI 0] (fun κ κ2 hJ hJ2 => lp_moved hro hJ κ2 (q := q) (f := 0) (t := 0) (n := 0) (by omega) (by omega) (by omega) hqr (mvd_0 hq eh)) kL_169 rfl rfl (by decide) (Nat.le_of_ble_eq_true rfl) (Nat.le_of_ble_eq_true rfl) rfl ?_
      refine GX.br hR (pc1 := 621) (pc2 := 617) (st1 := []) (C := (1 : Int) = 0) (fun _ => rfl) (by first | omega | (dsimp only; omega)) (fun h45 => (by exfalso; omega)) (fun h45 => ?_)
      refine GX.run0 hR 2 (pc' := 622) (L' := [some (vR 0), some (vR 200), some (vR 150), some (vI z), some (vI 4), some (vI (τ.1 1)), some (vI pp), some (vI gv), some (vI wn), some (vI 0), some (vI (-1123)), none, none]) (st' := [vI 1]) (X' := [(150, .inl (20, .inl q))]) (fun _ _ => rfl) ?_
      exact GX.rt hR hk rfl (.inr rfl) ⟨rfl, (Ov.of (by omega))⟩
    · skip
      rw [f1]
      have fh : σ39.2.2 0 = τ.2.2 0 := by rw [f2]; exact eh
      have f0 : σ39.1 0 = 2 := by rw [f2]; exact e0
      have hJ3 : Jx (sAt (sAt σ26 7 pp wn) 8 pp gv) := by rw [← f2]; exact hJ2
      refine GX.run0 hR 2 (pc' := 572) (L' := [some (vR 0), some (vR 200), some (vR 150), some (vI z), some (vI 4), some (vI (τ.1 1)), some (vI pp), some (vI gv), some (vI wn), some (vI 0), some (vI 0), none, none]) (st' := [vI 0]) (X' := [(150, .inl (20, .inl q))]) (fun _ _ => rfl) ?_
      refine GX.br hR (pc1 := 580) (pc2 := 575) (st1 := []) (C := (0 : Int) ≠ 0) (fun _ => rfl) (by first | omega | (dsimp only; omega)) (fun h46 => (by exfalso; omega)) (fun h46 => ?_)
      refine GX.run0 hR 1 (pc' := 577) (L' := [some (vR 0), some (vR 200), some (vR 150), some (vI z), some (vI 4), some (vI (τ.1 1)), some (vI pp), some (vI gv), some (vI wn), some (vI 0), some (vI 0), none, none]) (st' := [vI 0]) (X' := [(150, .inl (20, .inl q))]) (fun _ _ => rfl) ?_
      refine GX.br hR (pc1 := 623) (pc2 := 580) (st1 := []) (C := (0 : Int) = 0) (fun _ => rfl) (by first | omega | (dsimp only; omega)) (fun h47 => ?_) (fun h47 => (by exfalso; omega))
      refine GX.run0 hR 6 (pc' := 631) (L' := [some (vR 0), some (vR 200), some (vR 150), some (vI z), some (vI 4), some (vI (τ.1 1)), some (vI pp), some (vI gv), some (vI wn), some (vI 0), some (vI 0), none, none]) (st' := [vI 0, vI 0, vI pp, vI 18, vR 200, vR 0]) (X' := [(150, .inl (20, .inl q))]) (fun _ _ => rfl) ?_
      have et : σ26.1 1 = τ.1 1 := by rw [e2]; rfl
      have ea := s_agree (τ := σ26) (p := pp) (a := wn) (b := gv) hJ3 e0 hpp wr1 f3 (by rw [eh, et]; exact e3) 0 0
      rw [← f2] at ea
      obtain ⟨v48, σ49, hcl, hc⟩ := ea
      refine GX.bo hR hro hcl rfl (by decide) (Nat.le_of_ble_eq_true rfl) rfl (by decide) (fun hJ2 => ?_)
      have hI2 := hJ2.iv
      obtain ⟨g1, g2, g3, g4⟩ := hc
      rw [et] at g1 g2
      rw [eh] at g2
      have hto := tot_r (h := σ49.2.2 0) hI2.hh (τ.1 1)
      have htd : tot (σ49.2.2 0) (τ.1 1) = σ49.2.2 0 (τ.1 1) 0 + σ49.2.2 0 (τ.1 1) 1 + σ49.2.2 0 (τ.1 1) 2 + σ49.2.2 0 (τ.1 1) 3 + σ49.2.2 0 (τ.1 1) 4 := rfl
      have x0 := ex_at (h := τ.2.2 0) (p := pp) (t := τ.1 1) (g := wn) (w := gv) (k := 0) hpp ht pr3 (by omega)
      rw [← g2] at x0
      have x1 := ex_at (h := τ.2.2 0) (p := pp) (t := τ.1 1) (g := wn) (w := gv) (k := 1) hpp ht pr3 (by omega)
      rw [← g2] at x1
      have x2 := ex_at (h := τ.2.2 0) (p := pp) (t := τ.1 1) (g := wn) (w := gv) (k := 2) hpp ht pr3 (by omega)
      rw [← g2] at x2
      have x3 := ex_at (h := τ.2.2 0) (p := pp) (t := τ.1 1) (g := wn) (w := gv) (k := 3) hpp ht pr3 (by omega)
      rw [← g2] at x3
      have x4 := ex_at (h := τ.2.2 0) (p := pp) (t := τ.1 1) (g := wn) (w := gv) (k := 4) hpp ht pr3 (by omega)
      rw [← g2] at x4
      refine GX.run0 hR 3 (pc' := 641) (L' := [some (vR 0), some (vR 200), some (vR 150), some (vI z), some (vI 4), some (vI (τ.1 1)), some (vI pp), some (vI gv), some (vI wn), some (vI 0), some (vI 0), some (vI v48), none]) (st' := [vI (-1123), vI v48]) (X' := [(150, .inl (20, .inl q))]) (fun _ _ => rfl) ?_
      refine GX.br hR (pc1 := 765) (pc2 := 644) (st1 := []) (C := v48 = (-1123)) (fun _ => rfl) (by first | omega | (dsimp only; omega)) (fun h50 => (by exfalso; omega)) (fun h50 => ?_)
      refine GX.run0 hR 3 (pc' := 649) (L' := [some (vR 0), some (vR 200), some (vR 150), some (vI z), some (vI 4), some (vI (τ.1 1)), some (vI pp), some (vI gv), some (vI wn), some (vI 0), some (vI 0), some (vI v48), none]) (st' := [vI (τ.1 1), vR 0, vI v48]) (X' := [(150, .inl (20, .inl q))]) (fun _ _ => rfl) ?_
      have f51 := tot_r hI2.hh (τ.1 1)
      refine GX.sg hR [vR 0, vI (τ.1 1)] (fun κ κ2 hJ hJ2 => lp_size hro hJ κ2 ([(150, .inl (20, .inl q))]) (by omega)) kL_165 rfl rfl (by decide) (Nat.le_of_ble_eq_true rfl) (Nat.le_of_ble_eq_true rfl) rfl ?_
      refine GX.br hR (pc1 := 765) (pc2 := 655) (st1 := []) (C := v48 ≠ tot (σ49.2.2 0) (τ.1 1)) (fun _ => rfl) (by first | omega | (dsimp only; omega)) (fun h52 => (by exfalso; omega)) (fun h52 => ?_)
      refine GX.run1 hR 40 (pc' := 702) (L' := [some (vR 0), some (vR 200), some (vR 150), some (vI z), some (vI 4), some (vI (τ.1 1)), some (vI pp), some (vI gv), some (vI wn), some (vI 0), some (vI 0), some (vI v48), none]) (st' := [vI 1, vI wn, vI (((((q (5 * (τ.1 1))) + (q ((5 * (τ.1 1)) + 1))) + (q ((5 * (τ.1 1)) + 2))) + (q ((5 * (τ.1 1)) + 3))) + (q ((5 * (τ.1 1)) + 4))), vI v48]) (X' := [(150, .inl (20, .inl q))]) (fun _ _ => rfl) (by first | omega | (dsimp only; omega)) ?_
      have f53 := dgt_r wn 1
      refine GX.sx hR [vI wn, vI 1] (fun w => lp_digit (n := wn) (k := 1) (by omega) (by omega) w) kL_152 rfl rfl (by decide) (Nat.le_of_ble_eq_true rfl) (Nat.le_of_ble_eq_true rfl) rfl ?_
      refine GX.run0 hR 3 (pc' := 709) (L' := [some (vR 0), some (vR 200), some (vR 150), some (vI z), some (vI 4), some (vI (τ.1 1)), some (vI pp), some (vI gv), some (vI wn), some (vI 0), some (vI 0), some (vI v48), none]) (st' := [vI 2, vI wn, vI ((((((q (5 * (τ.1 1))) + (q ((5 * (τ.1 1)) + 1))) + (q ((5 * (τ.1 1)) + 2))) + (q ((5 * (τ.1 1)) + 3))) + (q ((5 * (τ.1 1)) + 4))) + (dgt wn 1)), vI v48]) (X' := [(150, .inl (20, .inl q))]) (fun _ _ => rfl) ?_
      have f54 := dgt_r wn 2
      refine GX.sx hR [vI wn, vI 2] (fun w => lp_digit (n := wn) (k := 2) (by omega) (by omega) w) kL_152 rfl rfl (by decide) (Nat.le_of_ble_eq_true rfl) (Nat.le_of_ble_eq_true rfl) rfl ?_
      refine GX.run0 hR 3 (pc' := 716) (L' := [some (vR 0), some (vR 200), some (vR 150), some (vI z), some (vI 4), some (vI (τ.1 1)), some (vI pp), some (vI gv), some (vI wn), some (vI 0), some (vI 0), some (vI v48), none]) (st' := [vI 4, vI wn, vI (((((((q (5 * (τ.1 1))) + (q ((5 * (τ.1 1)) + 1))) + (q ((5 * (τ.1 1)) + 2))) + (q ((5 * (τ.1 1)) + 3))) + (q ((5 * (τ.1 1)) + 4))) + (dgt wn 1)) + (dgt wn 2)), vI v48]) (X' := [(150, .inl (20, .inl q))]) (fun _ _ => rfl) ?_
      have f55 := dgt_r wn 4
      refine GX.sx hR [vI wn, vI 4] (fun w => lp_digit (n := wn) (k := 4) (by omega) (by omega) w) kL_152 rfl rfl (by decide) (Nat.le_of_ble_eq_true rfl) (Nat.le_of_ble_eq_true rfl) rfl ?_
      refine GX.run0 hR 3 (pc' := 723) (L' := [some (vR 0), some (vR 200), some (vR 150), some (vI z), some (vI 4), some (vI (τ.1 1)), some (vI pp), some (vI gv), some (vI wn), some (vI 0), some (vI 0), some (vI v48), none]) (st' := [vI 0, vI gv, vI ((((((((q (5 * (τ.1 1))) + (q ((5 * (τ.1 1)) + 1))) + (q ((5 * (τ.1 1)) + 2))) + (q ((5 * (τ.1 1)) + 3))) + (q ((5 * (τ.1 1)) + 4))) + (dgt wn 1)) + (dgt wn 2)) + (dgt wn 4)), vI v48]) (X' := [(150, .inl (20, .inl q))]) (fun _ _ => rfl) ?_
      have f56 := dgt_r gv 0
      refine GX.sx hR [vI gv, vI 0] (fun w => lp_digit (n := gv) (k := 0) (by omega) (by omega) w) kL_152 rfl rfl (by decide) (Nat.le_of_ble_eq_true rfl) (Nat.le_of_ble_eq_true rfl) rfl ?_
      refine GX.run0 hR 3 (pc' := 730) (L' := [some (vR 0), some (vR 200), some (vR 150), some (vI z), some (vI 4), some (vI (τ.1 1)), some (vI pp), some (vI gv), some (vI wn), some (vI 0), some (vI 0), some (vI v48), none]) (st' := [vI 1, vI gv, vI (((((((((q (5 * (τ.1 1))) + (q ((5 * (τ.1 1)) + 1))) + (q ((5 * (τ.1 1)) + 2))) + (q ((5 * (τ.1 1)) + 3))) + (q ((5 * (τ.1 1)) + 4))) + (dgt wn 1)) + (dgt wn 2)) + (dgt wn 4)) - (dgt gv 0)), vI v48]) (X' := [(150, .inl (20, .inl q))]) (fun _ _ => rfl) ?_
      have f57 := dgt_r gv 1
      refine GX.sx hR [vI gv, vI 1] (fun w => lp_digit (n := gv) (k := 1) (by omega) (by omega) w) kL_152 rfl rfl (by decide) (Nat.le_of_ble_eq_true rfl) (Nat.le_of_ble_eq_true rfl) rfl ?_
      refine GX.run0 hR 3 (pc' := 737) (L' := [some (vR 0), some (vR 200), some (vR 150), some (vI z), some (vI 4), some (vI (τ.1 1)), some (vI pp), some (vI gv), some (vI wn), some (vI 0), some (vI 0), some (vI v48), none]) (st' := [vI 3, vI gv, vI ((((((((((q (5 * (τ.1 1))) + (q ((5 * (τ.1 1)) + 1))) + (q ((5 * (τ.1 1)) + 2))) + (q ((5 * (τ.1 1)) + 3))) + (q ((5 * (τ.1 1)) + 4))) + (dgt wn 1)) + (dgt wn 2)) + (dgt wn 4)) - (dgt gv 0)) - (dgt gv 1)), vI v48]) (X' := [(150, .inl (20, .inl q))]) (fun _ _ => rfl) ?_
      have f58 := dgt_r gv 3
      refine GX.sx hR [vI gv, vI 3] (fun w => lp_digit (n := gv) (k := 3) (by omega) (by omega) w) kL_152 rfl rfl (by decide) (Nat.le_of_ble_eq_true rfl) (Nat.le_of_ble_eq_true rfl) rfl ?_
      refine GX.run0 hR 1 (pc' := 741) (L' := [some (vR 0), some (vR 200), some (vR 150), some (vI z), some (vI 4), some (vI (τ.1 1)), some (vI pp), some (vI gv), some (vI wn), some (vI 0), some (vI 0), some (vI v48), none]) (st' := [vI (((((((((((q (5 * (τ.1 1))) + (q ((5 * (τ.1 1)) + 1))) + (q ((5 * (τ.1 1)) + 2))) + (q ((5 * (τ.1 1)) + 3))) + (q ((5 * (τ.1 1)) + 4))) + (dgt wn 1)) + (dgt wn 2)) + (dgt wn 4)) - (dgt gv 0)) - (dgt gv 1)) - (dgt gv 3)), vI v48]) (X' := [(150, .inl (20, .inl q))]) (fun _ _ => rfl) ?_
      refine GX.br hR (pc1 := 765) (pc2 := 744) (st1 := []) (C := v48 ≠ ((((((((((q (5 * (τ.1 1))) + (q ((5 * (τ.1 1)) + 1))) + (q ((5 * (τ.1 1)) + 2))) + (q ((5 * (τ.1 1)) + 3))) + (q ((5 * (τ.1 1)) + 4))) + (dgt wn 1)) + (dgt wn 2)) + (dgt wn 4)) - (dgt gv 0)) - (dgt gv 1)) - (dgt gv 3)) (fun _ => rfl) (by first | omega | (dsimp only; omega)) (fun h59 => (by exfalso; omega)) (fun h59 => ?_)
      refine GX.run0 hR 6 (pc' := 752) (L' := [some (vR 0), some (vR 200), some (vR 150), some (vI z), some (vI 4), some (vI (τ.1 1)), some (vI pp), some (vI gv), some (vI wn), some (vI 0), some (vI 0), some (vI v48), none]) (st' := [vI 0, vI 0, vI pp, vI 17, vR 200, vR 0]) (X' := [(150, .inl (20, .inl q))]) (fun _ _ => rfl) ?_
      refine GX.bo hR hro (acc_no (τ := σ49) (p := pp) hpp g3 0 0) rfl (by decide) (Nat.le_of_ble_eq_true rfl) rfl (by decide) (fun _ => ?_)
      refine GX.run0 hR 1 (pc' := 758) (L' := [some (vR 0), some (vR 200), some (vR 150), some (vI z), some (vI 4), some (vI (τ.1 1)), some (vI pp), some (vI gv), some (vI wn), some (vI 0), some (vI 0), some (vI v48), none]) (st' := [vI (-1123), vI (-1123)]) (X' := [(150, .inl (20, .inl q))]) (fun _ _ => rfl) ?_
      refine GX.br hR (pc1 := 765) (pc2 := 761) (st1 := []) (C := ((-1123) : Int) ≠ (-1123)) (fun _ => rfl) (by first | omega | (dsimp only; omega)) (fun h60 => (by exfalso; omega)) (fun h60 => ?_)
      refine GX.run0 hR 2 (pc' := 766) (L' := [some (vR 0), some (vR 200), some (vR 150), some (vI z), some (vI 4), some (vI (τ.1 1)), some (vI pp), some (vI gv), some (vI wn), some (vI 0), some (vI 0), some (vI v48), none]) (st' := [vI 1]) (X' := [(150, .inl (20, .inl q))]) (fun _ _ => rfl) ?_
      exact GX.rt hR hk rfl (.inr rfl) ⟨rfl, (Ov.of (by omega))⟩
theorem w_trades {ro : PRO} (hro : ∀ q ∈ roC, q ∈ ro) {τ : St} (hJ : Jx τ) {q : Int → Int} (hq : isQ (τ.2.2 0) q) (hO0 : Ov τ) (z : Int) (h2 : τ.1 0 = 2) : SX mL_trades ro 15 [vR 0, vR 200, vR 150, vI z] τ [(150, .inl (20, .inl q))] (fun i σ => i = 1 ∧ Ov σ) 8 := by
  have h := smI_r z (n := 5) (by omega)
  rcases (show smI z 5 = 0 ∨ smI z 5 = 1 ∨ smI z 5 = 2 ∨ smI z 5 = 3 ∨ smI z 5 = 4 from by omega) with h | h | h | h | h
  · exact w_trades0 hro hJ hq hO0 z h2 h
  · exact w_trades1 hro hJ hq hO0 z h2 h
  · exact w_trades2 hro hJ hq hO0 z h2 h
  · exact w_trades3 hro hJ hq hO0 z h2 h
  · exact w_trades4 hro hJ hq hO0 z h2 h
