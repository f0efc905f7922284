/-! ===== buying, as the law looks at it ===== -/
theorem w_buys {ro : PRO} (hro : ∀ q ∈ roC, q ∈ ro) {τ : St} (hJ : Jx τ) {q : Int → Int} (hq : isQ (τ.2.2 0) q) (hO0 : Ov τ) : SX mL_buys ro 15 [vR 0, vR 200, vR 150] τ [(150, .inl (20, .inl q))] (fun i σ => i = 1 ∧ Ov σ) 2 := by
  have hI := hJ.iv
  refine SX.of rfl tL_buys (Nat.le_of_ble_eq_true rfl) (fun G ks hk hR => ?_)
  show GX G 0 τ ([(150, .inl (20, .inl q))]) 0 [some (vR 0), some (vR 200), some (vR 150), none, none, none, none] []
  have hqr := hq.r hI
  have ht := hI.htu
  have p2 := hq.at (p := τ.1 1) (g := 2) (by omega) (by omega)
  have g2 : hasG (τ.2.2 0) (τ.1 1) 11100 = true → 1 ≤ τ.2.2 0 (τ.1 1) 2 := fun hg => hasG_le hg 2 (by omega)
  have r2 := hI.hh (τ.1 1) 2
  have p3 := hq.at (p := τ.1 1) (g := 3) (by omega) (by omega)
  have g3 : hasG (τ.2.2 0) (τ.1 1) 11100 = true → 1 ≤ τ.2.2 0 (τ.1 1) 3 := fun hg => hasG_le hg 3 (by omega)
  have r3 := hI.hh (τ.1 1) 3
  have p4 := hq.at (p := τ.1 1) (g := 4) (by omega) (by omega)
  have g4 : hasG (τ.2.2 0) (τ.1 1) 11100 = true → 1 ≤ τ.2.2 0 (τ.1 1) 4 := fun hg => hasG_le hg 4 (by omega)
  have r4 := hI.hh (τ.1 1) 4
  refine GX.run0 hR 1 (pc' := 1) (L' := [some (vR 0), some (vR 200), some (vR 150), none, none, none, none]) (st' := [vR 0]) (X' := [(150, .inl (20, .inl q))]) (fun _ _ => rfl) ?_
  have f1 := hI.htu
  refine GX.ask hR hro [] ((q_turn τ).gt) kL_130 rfl rfl rfl (by decide) (Nat.le_of_ble_eq_true rfl) (Nat.le_of_ble_eq_true rfl) rfl (fun _ _ => ⟨_, rfl⟩) ?_
  refine GX.run1 hR 8 (pc' := 12) (L' := [some (vR 0), some (vR 200), some (vR 150), some (vI (τ.1 1)), none, none, none]) (st' := [vI (q ((5 * (τ.1 1)) + 2))]) (X' := [(150, .inl (20, .inl q))]) (fun _ _ => rfl) (by first | omega | (dsimp only; omega)) ?_
  have main : ∀ b : Int, (b = 0 ∨ b = 1) → (hasG (τ.2.2 0) (τ.1 1) 11100 = true → b = 1) → GX G 0 τ ([(150, .inl (20, .inl q))]) 40 [some (vR 0), some (vR 200), some (vR 150), some (vI (τ.1 1)), none, none, none] [vI b] := by
    intro b hb hmay
    refine GX.run0 hR 4 (pc' := 45) (L' := [some (vR 0), some (vR 200), some (vR 150), some (vI (τ.1 1)), some (vI b), none, none]) (st' := [vI 0, vI (τ.1 1), vR 0]) (X' := [(150, .inl (20, .inl q))]) (fun _ _ => rfl) ?_
    have f2 := hI.hcd (τ.1 1) 0
    refine GX.ask hR hro [vI (τ.1 1), vI 0] ((q_cards τ (by omega) (by omega)).gt) kL_110 rfl rfl rfl (by decide) (Nat.le_of_ble_eq_true rfl) (Nat.le_of_ble_eq_true rfl) rfl (fun _ _ => ⟨_, rfl⟩) ?_
    refine GX.run0 hR 3 (pc' := 51) (L' := [some (vR 0), some (vR 200), some (vR 150), some (vI (τ.1 1)), some (vI b), none, none]) (st' := [vI 1, vI (τ.1 1), vR 0, vI (τ.2.2 1 (τ.1 1) 0)]) (X' := [(150, .inl (20, .inl q))]) (fun _ _ => rfl) ?_
    have f3 := hI.hcd (τ.1 1) 1
    refine GX.ask hR hro [vI (τ.1 1), vI 1] ((q_cards τ (by omega) (by omega)).gt) kL_110 rfl rfl rfl (by decide) (Nat.le_of_ble_eq_true rfl) (Nat.le_of_ble_eq_true rfl) rfl (fun _ _ => ⟨_, rfl⟩) ?_
    refine GX.run0 hR 4 (pc' := 58) (L' := [some (vR 0), some (vR 200), some (vR 150), some (vI (τ.1 1)), some (vI b), none, none]) (st' := [vI 2, vI (τ.1 1), vR 0, vI ((τ.2.2 1 (τ.1 1) 0) + (τ.2.2 1 (τ.1 1) 1))]) (X' := [(150, .inl (20, .inl q))]) (fun _ _ => rfl) ?_
    have f4 := hI.hcd (τ.1 1) 2
    refine GX.ask hR hro [vI (τ.1 1), vI 2] ((q_cards τ (by omega) (by omega)).gt) kL_110 rfl rfl rfl (by decide) (Nat.le_of_ble_eq_true rfl) (Nat.le_of_ble_eq_true rfl) rfl (fun _ _ => ⟨_, rfl⟩) ?_
    refine GX.run0 hR 4 (pc' := 65) (L' := [some (vR 0), some (vR 200), some (vR 150), some (vI (τ.1 1)), some (vI b), none, none]) (st' := [vI 3, vI (τ.1 1), vR 0, vI (((τ.2.2 1 (τ.1 1) 0) + (τ.2.2 1 (τ.1 1) 1)) + (τ.2.2 1 (τ.1 1) 2))]) (X' := [(150, .inl (20, .inl q))]) (fun _ _ => rfl) ?_
    have f5 := hI.hcd (τ.1 1) 3
    refine GX.ask hR hro [vI (τ.1 1), vI 3] ((q_cards τ (by omega) (by omega)).gt) kL_110 rfl rfl rfl (by decide) (Nat.le_of_ble_eq_true rfl) (Nat.le_of_ble_eq_true rfl) rfl (fun _ _ => ⟨_, rfl⟩) ?_
    refine GX.run0 hR 4 (pc' := 72) (L' := [some (vR 0), some (vR 200), some (vR 150), some (vI (τ.1 1)), some (vI b), none, none]) (st' := [vI 4, vI (τ.1 1), vR 0, vI ((((τ.2.2 1 (τ.1 1) 0) + (τ.2.2 1 (τ.1 1) 1)) + (τ.2.2 1 (τ.1 1) 2)) + (τ.2.2 1 (τ.1 1) 3))]) (X' := [(150, .inl (20, .inl q))]) (fun _ _ => rfl) ?_
    have f6 := hI.hcd (τ.1 1) 4
    refine GX.ask hR hro [vI (τ.1 1), vI 4] ((q_cards τ (by omega) (by omega)).gt) kL_110 rfl rfl rfl (by decide) (Nat.le_of_ble_eq_true rfl) (Nat.le_of_ble_eq_true rfl) rfl (fun _ _ => ⟨_, rfl⟩) ?_
    refine GX.run0 hR 8 (pc' := 85) (L' := [some (vR 0), some (vR 200), some (vR 150), some (vI (τ.1 1)), some (vI b), some (vI (((((τ.2.2 1 (τ.1 1) 0) + (τ.2.2 1 (τ.1 1) 1)) + (τ.2.2 1 (τ.1 1) 2)) + (τ.2.2 1 (τ.1 1) 3)) + (τ.2.2 1 (τ.1 1) 4))), none]) (st' := [vI 0, vI 0, vI 0, vI 9, vR 200, vR 0]) (X' := [(150, .inl (20, .inl q))]) (fun _ _ => rfl) ?_
    obtain ⟨v7, σ8, hcl, hc⟩ := s_buy hJ 0 0 0
    refine GX.bo hR hro hcl rfl (by decide) (Nat.le_of_ble_eq_true rfl) rfl (by decide) (fun hJ2 => ?_)
    have hI2 := hJ2.iv
    rcases hc with ⟨e1, e2⟩ | ⟨hv, hg, e1, e3, hO⟩
    · skip
      rw [e1, e2]
      refine GX.run0 hR 3 (pc' := 95) (L' := [some (vR 0), some (vR 200), some (vR 150), some (vI (τ.1 1)), some (vI b), some (vI (((((τ.2.2 1 (τ.1 1) 0) + (τ.2.2 1 (τ.1 1) 1)) + (τ.2.2 1 (τ.1 1) 2)) + (τ.2.2 1 (τ.1 1) 3)) + (τ.2.2 1 (τ.1 1) 4))), some (vI (-1123))]) (st' := [vI (-1123), vI (-1123)]) (X' := [(150, .inl (20, .inl q))]) (fun _ _ => rfl) ?_
      refine GX.br hR (pc1 := 107) (pc2 := 98) (st1 := []) (C := ((-1123) : Int) ≠ (-1123)) (fun _ => rfl) (by first | omega | (dsimp only; omega)) (fun h9 => (by exfalso; omega)) (fun h9 => ?_)
      refine GX.run0 hR 5 (pc' := 103) (L' := [some (vR 0), some (vR 200), some (vR 150), some (vI (τ.1 1)), some (vI b), some (vI (((((τ.2.2 1 (τ.1 1) 0) + (τ.2.2 1 (τ.1 1) 1)) + (τ.2.2 1 (τ.1 1) 2)) + (τ.2.2 1 (τ.1 1) 3)) + (τ.2.2 1 (τ.1 1) 4))), some (vI (-1123))]) (st' := [vI 0, vI 0, vI 0, vR 150, vR 0]) (X' := [(150, .inl (20, .inl q))]) (fun _ _ => rfl) ?_
      refine GX.sg hR [vR 0, vR 150, vI 0, vI 0, vI 0] (fun κ κ2 hJ hJ2 => lp_moved hro hJ κ2 (q := q) (f := 0) (t := 0) (n := 0) (by omega) (by omega) (by omega) hqr (mvd_0 hq rfl)) kL_169 rfl rfl (by decide) (Nat.le_of_ble_eq_true rfl) (Nat.le_of_ble_eq_true rfl) rfl ?_
      exact GX.rt hR hk rfl (.inr rfl) ⟨rfl, hO0⟩
    · skip
      have hb1 := hmay hg
      refine GX.run0 hR 3 (pc' := 95) (L' := [some (vR 0), some (vR 200), some (vR 150), some (vI (τ.1 1)), some (vI b), some (vI (((((τ.2.2 1 (τ.1 1) 0) + (τ.2.2 1 (τ.1 1) 1)) + (τ.2.2 1 (τ.1 1) 2)) + (τ.2.2 1 (τ.1 1) 3)) + (τ.2.2 1 (τ.1 1) 4))), some (vI v7)]) (st' := [vI (-1123), vI v7]) (X' := [(150, .inl (20, .inl q))]) (fun _ _ => rfl) ?_
      refine GX.br hR (pc1 := 107) (pc2 := 98) (st1 := []) (C := v7 ≠ (-1123)) (fun _ => rfl) (by first | omega | (dsimp only; omega)) (fun h10 => ?_) (fun h10 => (by exfalso; omega))
      refine GX.run0 hR 1 (pc' := 109) (L' := [some (vR 0), some (vR 200), some (vR 150), some (vI (τ.1 1)), some (vI b), some (vI (((((τ.2.2 1 (τ.1 1) 0) + (τ.2.2 1 (τ.1 1) 1)) + (τ.2.2 1 (τ.1 1) 2)) + (τ.2.2 1 (τ.1 1) 3)) + (τ.2.2 1 (τ.1 1) 4))), some (vI v7)]) (st' := [vI b]) (X' := [(150, .inl (20, .inl q))]) (fun _ _ => rfl) ?_
      refine GX.br hR (pc1 := 181) (pc2 := 112) (st1 := []) (C := b = 0) (fun _ => rfl) (by first | omega | (dsimp only; omega)) (fun h11 => (by exfalso; omega)) (fun h11 => ?_)
      refine GX.run0 hR 1 (pc' := 114) (L' := [some (vR 0), some (vR 200), some (vR 150), some (vI (τ.1 1)), some (vI b), some (vI (((((τ.2.2 1 (τ.1 1) 0) + (τ.2.2 1 (τ.1 1) 1)) + (τ.2.2 1 (τ.1 1) 2)) + (τ.2.2 1 (τ.1 1) 3)) + (τ.2.2 1 (τ.1 1) 4))), some (vI v7)]) (st' := [vI v7]) (X' := [(150, .inl (20, .inl q))]) (fun _ _ => rfl) ?_
      refine GX.br hR (pc1 := 181) (pc2 := 117) (st1 := []) (C := v7 < 0) (fun _ => rfl) (by first | omega | (dsimp only; omega)) (fun h12 => (by exfalso; omega)) (fun h12 => ?_)
      refine GX.run0 hR 2 (pc' := 120) (L' := [some (vR 0), some (vR 200), some (vR 150), some (vI (τ.1 1)), some (vI b), some (vI (((((τ.2.2 1 (τ.1 1) 0) + (τ.2.2 1 (τ.1 1) 1)) + (τ.2.2 1 (τ.1 1) 2)) + (τ.2.2 1 (τ.1 1) 3)) + (τ.2.2 1 (τ.1 1) 4))), some (vI v7)]) (st' := [vI 5, vI v7]) (X' := [(150, .inl (20, .inl q))]) (fun _ _ => rfl) ?_
      refine GX.br hR (pc1 := 181) (pc2 := 123) (st1 := []) (C := 5 ≤ v7) (fun _ => rfl) (by first | omega | (dsimp only; omega)) (fun h13 => (by exfalso; omega)) (fun h13 => ?_)
      refine GX.run0 hR 5 (pc' := 130) (L' := [some (vR 0), some (vR 200), some (vR 150), some (vI (τ.1 1)), some (vI b), some (vI (((((τ.2.2 1 (τ.1 1) 0) + (τ.2.2 1 (τ.1 1) 1)) + (τ.2.2 1 (τ.1 1) 2)) + (τ.2.2 1 (τ.1 1) 3)) + (τ.2.2 1 (τ.1 1) 4))), some (vI v7)]) (st' := [vI 11100, vI 3, vI (τ.1 1), vR 150, vR 0]) (X' := [(150, .inl (20, .inl q))]) (fun _ _ => rfl) ?_
      refine GX.sg hR [vR 0, vR 150, vI (τ.1 1), vI 3, vI 11100] (fun κ κ2 hJ hJ2 => lp_moved hro hJ κ2 (q := q) (f := τ.1 1) (t := 3) (n := 11100) (by omega) (by omega) (by omega) hqr (mvd_of hq e1)) kL_169 rfl rfl (by decide) (Nat.le_of_ble_eq_true rfl) (Nat.le_of_ble_eq_true rfl) rfl ?_
      refine GX.br hR (pc1 := 181) (pc2 := 136) (st1 := []) (C := (1 : Int) = 0) (fun _ => rfl) (by first | omega | (dsimp only; omega)) (fun h14 => (by exfalso; omega)) (fun h14 => ?_)
      refine GX.run0 hR 3 (pc' := 139) (L' := [some (vR 0), some (vR 200), some (vR 150), some (vI (τ.1 1)), some (vI b), some (vI (((((τ.2.2 1 (τ.1 1) 0) + (τ.2.2 1 (τ.1 1) 1)) + (τ.2.2 1 (τ.1 1) 2)) + (τ.2.2 1 (τ.1 1) 3)) + (τ.2.2 1 (τ.1 1) 4))), some (vI v7)]) (st' := [vI 0, vI (τ.1 1), vR 0]) (X' := [(150, .inl (20, .inl q))]) (fun _ _ => rfl) ?_
      have f15 := hI2.hcd (τ.1 1) 0
      refine GX.ask hR hro [vI (τ.1 1), vI 0] ((q_cards σ8 (by omega) (by omega)).gt) kL_110 rfl rfl rfl (by decide) (Nat.le_of_ble_eq_true rfl) (Nat.le_of_ble_eq_true rfl) rfl (fun _ _ => ⟨_, rfl⟩) ?_
      refine GX.run0 hR 3 (pc' := 145) (L' := [some (vR 0), some (vR 200), some (vR 150), some (vI (τ.1 1)), some (vI b), some (vI (((((τ.2.2 1 (τ.1 1) 0) + (τ.2.2 1 (τ.1 1) 1)) + (τ.2.2 1 (τ.1 1) 2)) + (τ.2.2 1 (τ.1 1) 3)) + (τ.2.2 1 (τ.1 1) 4))), some (vI v7)]) (st' := [vI 1, vI (τ.1 1), vR 0, vI (σ8.2.2 1 (τ.1 1) 0)]) (X' := [(150, .inl (20, .inl q))]) (fun _ _ => rfl) ?_
      have f16 := hI2.hcd (τ.1 1) 1
      refine GX.ask hR hro [vI (τ.1 1), vI 1] ((q_cards σ8 (by omega) (by omega)).gt) kL_110 rfl rfl rfl (by decide) (Nat.le_of_ble_eq_true rfl) (Nat.le_of_ble_eq_true rfl) rfl (fun _ _ => ⟨_, rfl⟩) ?_
      refine GX.run0 hR 4 (pc' := 152) (L' := [some (vR 0), some (vR 200), some (vR 150), some (vI (τ.1 1)), some (vI b), some (vI (((((τ.2.2 1 (τ.1 1) 0) + (τ.2.2 1 (τ.1 1) 1)) + (τ.2.2 1 (τ.1 1) 2)) + (τ.2.2 1 (τ.1 1) 3)) + (τ.2.2 1 (τ.1 1) 4))), some (vI v7)]) (st' := [vI 2, vI (τ.1 1), vR 0, vI ((σ8.2.2 1 (τ.1 1) 0) + (σ8.2.2 1 (τ.1 1) 1))]) (X' := [(150, .inl (20, .inl q))]) (fun _ _ => rfl) ?_
      have f17 := hI2.hcd (τ.1 1) 2
      refine GX.ask hR hro [vI (τ.1 1), vI 2] ((q_cards σ8 (by omega) (by omega)).gt) kL_110 rfl rfl rfl (by decide) (Nat.le_of_ble_eq_true rfl) (Nat.le_of_ble_eq_true rfl) rfl (fun _ _ => ⟨_, rfl⟩) ?_
      refine GX.run0 hR 4 (pc' := 159) (L' := [some (vR 0), some (vR 200), some (vR 150), some (vI (τ.1 1)), some (vI b), some (vI (((((τ.2.2 1 (τ.1 1) 0) + (τ.2.2 1 (τ.1 1) 1)) + (τ.2.2 1 (τ.1 1) 2)) + (τ.2.2 1 (τ.1 1) 3)) + (τ.2.2 1 (τ.1 1) 4))), some (vI v7)]) (st' := [vI 3, vI (τ.1 1), vR 0, vI (((σ8.2.2 1 (τ.1 1) 0) + (σ8.2.2 1 (τ.1 1) 1)) + (σ8.2.2 1 (τ.1 1) 2))]) (X' := [(150, .inl (20, .inl q))]) (fun _ _ => rfl) ?_
      have f18 := hI2.hcd (τ.1 1) 3
      refine GX.ask hR hro [vI (τ.1 1), vI 3] ((q_cards σ8 (by omega) (by omega)).gt) kL_110 rfl rfl rfl (by decide) (Nat.le_of_ble_eq_true rfl) (Nat.le_of_ble_eq_true rfl) rfl (fun _ _ => ⟨_, rfl⟩) ?_
      refine GX.run0 hR 4 (pc' := 166) (L' := [some (vR 0), some (vR 200), some (vR 150), some (vI (τ.1 1)), some (vI b), some (vI (((((τ.2.2 1 (τ.1 1) 0) + (τ.2.2 1 (τ.1 1) 1)) + (τ.2.2 1 (τ.1 1) 2)) + (τ.2.2 1 (τ.1 1) 3)) + (τ.2.2 1 (τ.1 1) 4))), some (vI v7)]) (st' := [vI 4, vI (τ.1 1), vR 0, vI ((((σ8.2.2 1 (τ.1 1) 0) + (σ8.2.2 1 (τ.1 1) 1)) + (σ8.2.2 1 (τ.1 1) 2)) + (σ8.2.2 1 (τ.1 1) 3))]) (X' := [(150, .inl (20, .inl q))]) (fun _ _ => rfl) ?_
      have f19 := hI2.hcd (τ.1 1) 4
      refine GX.ask hR hro [vI (τ.1 1), vI 4] ((q_cards σ8 (by omega) (by omega)).gt) kL_110 rfl rfl rfl (by decide) (Nat.le_of_ble_eq_true rfl) (Nat.le_of_ble_eq_true rfl) rfl (fun _ _ => ⟨_, rfl⟩) ?_
      refine GX.run0 hR 4 (pc' := 174) (L' := [some (vR 0), some (vR 200), some (vR 150), some (vI (τ.1 1)), some (vI b), some (vI (((((τ.2.2 1 (τ.1 1) 0) + (τ.2.2 1 (τ.1 1) 1)) + (τ.2.2 1 (τ.1 1) 2)) + (τ.2.2 1 (τ.1 1) 3)) + (τ.2.2 1 (τ.1 1) 4))), some (vI v7)]) (st' := [vI ((((((τ.2.2 1 (τ.1 1) 0) + (τ.2.2 1 (τ.1 1) 1)) + (τ.2.2 1 (τ.1 1) 2)) + (τ.2.2 1 (τ.1 1) 3)) + (τ.2.2 1 (τ.1 1) 4)) + 1), vI (((((σ8.2.2 1 (τ.1 1) 0) + (σ8.2.2 1 (τ.1 1) 1)) + (σ8.2.2 1 (τ.1 1) 2)) + (σ8.2.2 1 (τ.1 1) 3)) + (σ8.2.2 1 (τ.1 1) 4))]) (X' := [(150, .inl (20, .inl q))]) (fun _ _ => rfl) ?_
      refine GX.br hR (pc1 := 181) (pc2 := 177) (st1 := []) (C := ((((σ8.2.2 1 (τ.1 1) 0) + (σ8.2.2 1 (τ.1 1) 1)) + (σ8.2.2 1 (τ.1 1) 2)) + (σ8.2.2 1 (τ.1 1) 3)) + (σ8.2.2 1 (τ.1 1) 4) ≠ (((((τ.2.2 1 (τ.1 1) 0) + (τ.2.2 1 (τ.1 1) 1)) + (τ.2.2 1 (τ.1 1) 2)) + (τ.2.2 1 (τ.1 1) 3)) + (τ.2.2 1 (τ.1 1) 4)) + 1) (fun _ => rfl) (by first | omega | (dsimp only; omega)) (fun h20 => (by exfalso; omega)) (fun h20 => ?_)
      refine GX.run0 hR 2 (pc' := 182) (L' := [some (vR 0), some (vR 200), some (vR 150), some (vI (τ.1 1)), some (vI b), some (vI (((((τ.2.2 1 (τ.1 1) 0) + (τ.2.2 1 (τ.1 1) 1)) + (τ.2.2 1 (τ.1 1) 2)) + (τ.2.2 1 (τ.1 1) 3)) + (τ.2.2 1 (τ.1 1) 4))), some (vI v7)]) (st' := [vI 1]) (X' := [(150, .inl (20, .inl q))]) (fun _ _ => rfl) ?_
      exact GX.rt hR hk rfl (.inr rfl) ⟨rfl, hO⟩
  refine GX.br hR (pc1 := 39) (pc2 := 15) (st1 := []) (C := q ((5 * (τ.1 1)) + 2) ≤ 0) (fun _ => rfl) (by first | omega | (dsimp only; omega)) (fun h21 => ?_) (fun h21 => ?_)
  · skip
    refine GX.run0 hR 1 (pc' := 40) (L' := [some (vR 0), some (vR 200), some (vR 150), some (vI (τ.1 1)), none, none, none]) (st' := [vI 0]) (X' := [(150, .inl (20, .inl q))]) (fun _ _ => rfl) ?_
    exact main 0 (by omega) (fun hg => by have q2 := g2 hg; have q3 := g3 hg; have q4 := g4 hg; omega)
  · skip
    refine GX.run1 hR 7 (pc' := 22) (L' := [some (vR 0), some (vR 200), some (vR 150), some (vI (τ.1 1)), none, none, none]) (st' := [vI (q ((5 * (τ.1 1)) + 3))]) (X' := [(150, .inl (20, .inl q))]) (fun _ _ => rfl) (by first | omega | (dsimp only; omega)) ?_
    refine GX.br hR (pc1 := 39) (pc2 := 25) (st1 := []) (C := q ((5 * (τ.1 1)) + 3) ≤ 0) (fun _ => rfl) (by first | omega | (dsimp only; omega)) (fun h22 => ?_) (fun h22 => ?_)
    · skip
      refine GX.run0 hR 1 (pc' := 40) (L' := [some (vR 0), some (vR 200), some (vR 150), some (vI (τ.1 1)), none, none, none]) (st' := [vI 0]) (X' := [(150, .inl (20, .inl q))]) (fun _ _ => rfl) ?_
      exact main 0 (by omega) (fun hg => by have q2 := g2 hg; have q3 := g3 hg; have q4 := g4 hg; omega)
    · skip
      refine GX.run1 hR 7 (pc' := 32) (L' := [some (vR 0), some (vR 200), some (vR 150), some (vI (τ.1 1)), none, none, none]) (st' := [vI (q ((5 * (τ.1 1)) + 4))]) (X' := [(150, .inl (20, .inl q))]) (fun _ _ => rfl) (by first | omega | (dsimp only; omega)) ?_
      refine GX.br hR (pc1 := 39) (pc2 := 35) (st1 := []) (C := q ((5 * (τ.1 1)) + 4) ≤ 0) (fun _ => rfl) (by first | omega | (dsimp only; omega)) (fun h23 => ?_) (fun h23 => ?_)
      · skip
        refine GX.run0 hR 1 (pc' := 40) (L' := [some (vR 0), some (vR 200), some (vR 150), some (vI (τ.1 1)), none, none, none]) (st' := [vI 0]) (X' := [(150, .inl (20, .inl q))]) (fun _ _ => rfl) ?_
        exact main 0 (by omega) (fun hg => by have q2 := g2 hg; have q3 := g3 hg; have q4 := g4 hg; omega)
      · skip
        refine GX.run0 hR 2 (pc' := 40) (L' := [some (vR 0), some (vR 200), some (vR 150), some (vI (τ.1 1)), none, none, none]) (st' := [vI 1]) (X' := [(150, .inl (20, .inl q))]) (fun _ _ => rfl) ?_
        exact main 1 (by omega) (fun hg => by have q2 := g2 hg; have q3 := g3 hg; have q4 := g4 hg; omega)
