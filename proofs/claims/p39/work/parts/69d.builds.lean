/-! ===== building, as the law looks at it ===== -/
set_option maxHeartbeats 4000000 in
theorem w_builds0 {ro : PRO} (hro : ∀ q ∈ roC, q ∈ ro) {τ : St} (hJ : Jx τ) {q : Int → Int} (hq : isQ (τ.2.2 0) q) (hO0 : Ov τ) (z : Int) (hw : smI z 3 = 0) : SX mL_builds ro 15 [vR 0, vR 200, vR 150, vI z] τ [(150, .inl (20, .inl q))] (fun i σ => i = 1 ∧ Ov σ) 2 := by
  have hI := hJ.iv
  refine SX.of rfl tL_builds (Nat.le_of_ble_eq_true rfl) (fun G ks hk hR => ?_)
  show GX G 0 τ ([(150, .inl (20, .inl q))]) 0 [some (vR 0), some (vR 200), some (vR 150), some (vI z), none, none, none, none, none, none, none, none, none] []
  have hqr := hq.r hI
  have ht := hI.htu
  refine GX.run0 hR 3 (pc' := 4) (L' := [some (vR 0), some (vR 200), some (vR 150), some (vI z), none, none, none, none, none, none, none, none, none]) (st' := [vI 3, vI z, vI 6]) (X' := [(150, .inl (20, .inl q))]) (fun _ _ => rfl) ?_
  have f1 := smI_r z (n := 3) (by omega)
  refine GX.sx hR [vI z, vI 3] (fun w => lp_some (x := z) (n := 3) (by omega) w) kL_158 rfl rfl (by decide) (Nat.le_of_ble_eq_true rfl) (Nat.le_of_ble_eq_true rfl) rfl ?_
  rw [hw]
  refine GX.run0 hR 7 (pc' := 17) (L' := [some (vR 0), some (vR 200), some (vR 150), some (vI z), some (vI 6), none, none, none, none, none, none, none, none]) (st' := [vI 6, vI 6, vI (iSr z 2)]) (X' := [(150, .inl (20, .inl q))]) (fun _ _ => rfl) ?_
  refine GX.br hR (pc1 := 25) (pc2 := 20) (st1 := [vI (iSr z 2)]) (C := (6 : Int) ≠ 6) (fun _ => rfl) (by first | omega | (dsimp only; omega)) (fun h2 => (by exfalso; omega)) (fun h2 => ?_)
  refine GX.run0 hR 2 (pc' := 27) (L' := [some (vR 0), some (vR 200), some (vR 150), some (vI z), some (vI 6), none, none, none, none, none, none, none, none]) (st' := [vI 30, vI (iSr z 2)]) (X' := [(150, .inl (20, .inl q))]) (fun _ _ => rfl) ?_
  have f3 := smI_r (iSr z 2) (n := 30) (by omega)
  refine GX.sx hR [vI (iSr z 2), vI 30] (fun w => lp_some (x := iSr z 2) (n := 30) (by omega) w) kL_158 rfl rfl (by decide) (Nat.le_of_ble_eq_true rfl) (Nat.le_of_ble_eq_true rfl) rfl ?_
  refine GX.run0 hR 2 (pc' := 33) (L' := [some (vR 0), some (vR 200), some (vR 150), some (vI z), some (vI 6), some (vI (smI (iSr z 2) 30)), none, none, none, none, none, none, none]) (st' := [vR 0]) (X' := [(150, .inl (20, .inl q))]) (fun _ _ => rfl) ?_
  have f4 := hI.htu
  refine GX.ask hR hro [] ((q_turn τ).gt) kL_130 rfl rfl rfl (by decide) (Nat.le_of_ble_eq_true rfl) (Nat.le_of_ble_eq_true rfl) rfl (fun _ _ => ⟨_, rfl⟩) ?_
  refine GX.run0 hR 3 (pc' := 42) (L' := [some (vR 0), some (vR 200), some (vR 150), some (vI z), some (vI 6), some (vI (smI (iSr z 2) 30)), some (vI (τ.1 1)), none, none, none, none, none, none]) (st' := [vI 6, vI 6]) (X' := [(150, .inl (20, .inl q))]) (fun _ _ => rfl) ?_
  refine GX.br hR (pc1 := 50) (pc2 := 45) (st1 := []) (C := (6 : Int) ≠ 6) (fun _ => rfl) (by first | omega | (dsimp only; omega)) (fun h5 => (by exfalso; omega)) (fun h5 => ?_)
  refine GX.run0 hR 7 (pc' := 74) (L' := [some (vR 0), some (vR 200), some (vR 150), some (vI z), some (vI 6), some (vI (smI (iSr z 2) 30)), some (vI (τ.1 1)), some (vI 11), some (vI 1), some (vI 0), none, none, none]) (st' := []) (X' := [(150, .inl (20, .inl q))]) (fun _ _ => rfl) ?_
  have hL : ∀ k : Nat, k ≤ 5 → ∀ b : Int, (b = 0 ∨ b = 1) → (hasG (τ.2.2 0) (τ.1 1) 11 = true → b = 1) → GX G 0 τ ([(150, .inl (20, .inl q))]) 74 [some (vR 0), some (vR 200), some (vR 150), some (vI z), some (vI 6), some (vI (smI (iSr z 2) 30)), some (vI (τ.1 1)), some (vI 11), some (vI b), some (vI (k : Int)), none, none, none] [] := by
    refine back (P := fun k : Nat => ∀ b : Int, (b = 0 ∨ b = 1) → (hasG (τ.2.2 0) (τ.1 1) 11 = true → b = 1) → GX G 0 τ ([(150, .inl (20, .inl q))]) 74 [some (vR 0), some (vR 200), some (vR 150), some (vI z), some (vI 6), some (vI (smI (iSr z 2) 30)), some (vI (τ.1 1)), some (vI 11), some (vI b), some (vI (k : Int)), none, none, none] []) ?_ ?_
    · intro k hk ih b hb hgb
      have hkq := hq.at (p := τ.1 1) (g := (k : Int)) (by omega) (by omega)
      have hkr := hI.hh (τ.1 1) (k : Int)
      have hkg : hasG (τ.2.2 0) (τ.1 1) 11 = true → dgt 11 (k : Int) ≤ τ.2.2 0 (τ.1 1) (k : Int) := fun hg => hasG_le hg (k : Int) (by omega)
      replace ih : ∀ b : Int, (b = 0 ∨ b = 1) → (hasG (τ.2.2 0) (τ.1 1) 11 = true → b = 1) → GX G 0 τ ([(150, .inl (20, .inl q))]) 74 [some (vR 0), some (vR 200), some (vR 150), some (vI z), some (vI 6), some (vI (smI (iSr z 2) 30)), some (vI (τ.1 1)), some (vI 11), some (vI b), some (vI ((k : Int) + 1)), none, none, none] [] := ih
      refine GX.run0 hR 2 (pc' := 77) (L' := [some (vR 0), some (vR 200), some (vR 150), some (vI z), some (vI 6), some (vI (smI (iSr z 2) 30)), some (vI (τ.1 1)), some (vI 11), some (vI b), some (vI (k : Int)), none, none, none]) (st' := [vI 5, vI (k : Int)]) (X' := [(150, .inl (20, .inl q))]) (fun _ _ => rfl) ?_
      refine GX.br hR (pc1 := 117) (pc2 := 80) (st1 := []) (C := 5 ≤ (k : Int)) (fun _ => rfl) (by first | omega | (dsimp only; omega)) (fun h6 => (by exfalso; omega)) (fun h6 => ?_)
      refine GX.run0 hR 1 (pc' := 82) (L' := [some (vR 0), some (vR 200), some (vR 150), some (vI z), some (vI 6), some (vI (smI (iSr z 2) 30)), some (vI (τ.1 1)), some (vI 11), some (vI b), some (vI (k : Int)), none, none, none]) (st' := [vI b]) (X' := [(150, .inl (20, .inl q))]) (fun _ _ => rfl) ?_
      refine GX.br hR (pc1 := 108) (pc2 := 85) (st1 := []) (C := b = 0) (fun _ => rfl) (by first | omega | (dsimp only; omega)) (fun h7 => ?_) (fun h7 => ?_)
      · skip
        refine GX.run0 hR 4 (pc' := 74) (L' := [some (vR 0), some (vR 200), some (vR 150), some (vI z), some (vI 6), some (vI (smI (iSr z 2) 30)), some (vI (τ.1 1)), some (vI 11), some (vI 0), some (vI ((k : Int) + 1)), none, none, none]) (st' := []) (X' := [(150, .inl (20, .inl q))]) (fun _ _ => rfl) ?_
        exact ih 0 (by omega) (fun hg => by have q1 := hkg hg; have q2 := hgb hg; omega)
      · skip
        refine GX.run1 hR 9 (pc' := 98) (L' := [some (vR 0), some (vR 200), some (vR 150), some (vI z), some (vI 6), some (vI (smI (iSr z 2) 30)), some (vI (τ.1 1)), some (vI 11), some (vI b), some (vI (k : Int)), none, none, none]) (st' := [vI (k : Int), vI 11, vI (q ((5 * (τ.1 1)) + (k : Int)))]) (X' := [(150, .inl (20, .inl q))]) (fun _ _ => rfl) (by first | omega | (dsimp only; omega)) ?_
        have f8 := dgt_r 11 (k : Int)
        refine GX.sx hR [vI 11, vI (k : Int)] (fun w => lp_digit (n := 11) (k := (k : Int)) (by omega) (by omega) w) kL_152 rfl rfl (by decide) (Nat.le_of_ble_eq_true rfl) (Nat.le_of_ble_eq_true rfl) rfl ?_
        refine GX.br hR (pc1 := 108) (pc2 := 104) (st1 := []) (C := q ((5 * (τ.1 1)) + (k : Int)) < dgt 11 (k : Int)) (fun _ => rfl) (by first | omega | (dsimp only; omega)) (fun h9 => ?_) (fun h9 => ?_)
        · skip
          refine GX.run0 hR 4 (pc' := 74) (L' := [some (vR 0), some (vR 200), some (vR 150), some (vI z), some (vI 6), some (vI (smI (iSr z 2) 30)), some (vI (τ.1 1)), some (vI 11), some (vI 0), some (vI ((k : Int) + 1)), none, none, none]) (st' := []) (X' := [(150, .inl (20, .inl q))]) (fun _ _ => rfl) ?_
          exact ih 0 (by omega) (fun hg => by have q1 := hkg hg; have q2 := hgb hg; omega)
        · skip
          refine GX.run0 hR 5 (pc' := 74) (L' := [some (vR 0), some (vR 200), some (vR 150), some (vI z), some (vI 6), some (vI (smI (iSr z 2) 30)), some (vI (τ.1 1)), some (vI 11), some (vI 1), some (vI ((k : Int) + 1)), none, none, none]) (st' := []) (X' := [(150, .inl (20, .inl q))]) (fun _ _ => rfl) ?_
          exact ih 1 (by omega) (fun hg => by have q1 := hkg hg; have q2 := hgb hg; omega)
    · intro b hb hgb
      show GX G 0 τ ([(150, .inl (20, .inl q))]) 74 [some (vR 0), some (vR 200), some (vR 150), some (vI z), some (vI 6), some (vI (smI (iSr z 2) 30)), some (vI (τ.1 1)), some (vI 11), some (vI b), some (vI 5), none, none, none] []
      refine GX.run0 hR 2 (pc' := 77) (L' := [some (vR 0), some (vR 200), some (vR 150), some (vI z), some (vI 6), some (vI (smI (iSr z 2) 30)), some (vI (τ.1 1)), some (vI 11), some (vI b), some (vI 5), none, none, none]) (st' := [vI 5, vI 5]) (X' := [(150, .inl (20, .inl q))]) (fun _ _ => rfl) ?_
      refine GX.br hR (pc1 := 117) (pc2 := 80) (st1 := []) (C := (5 : Int) ≤ 5) (fun _ => rfl) (by first | omega | (dsimp only; omega)) (fun h10 => ?_) (fun h10 => (by exfalso; omega))
      refine GX.run0 hR 2 (pc' := 121) (L' := [some (vR 0), some (vR 200), some (vR 150), some (vI z), some (vI 6), some (vI (smI (iSr z 2) 30)), some (vI (τ.1 1)), some (vI 11), some (vI b), some (vI 5), none, none, none]) (st' := [vI 6, vI 6]) (X' := [(150, .inl (20, .inl q))]) (fun _ _ => rfl) ?_
      refine GX.br hR (pc1 := 133) (pc2 := 124) (st1 := []) (C := (6 : Int) ≠ 6) (fun _ => rfl) (by first | omega | (dsimp only; omega)) (fun h11 => (by exfalso; omega)) (fun h11 => ?_)
      refine GX.run0 hR 2 (pc' := 127) (L' := [some (vR 0), some (vR 200), some (vR 150), some (vI z), some (vI 6), some (vI (smI (iSr z 2) 30)), some (vI (τ.1 1)), some (vI 11), some (vI b), some (vI 5), none, none, none]) (st' := [vI (smI (iSr z 2) 30), vR 0]) (X' := [(150, .inl (20, .inl q))]) (fun _ _ => rfl) ?_
      have f12 := hI.hr (smI (iSr z 2) 30)
      refine GX.ask hR hro [vI (smI (iSr z 2) 30)] ((q_road τ (by omega)).gt) kL_116 rfl rfl rfl (by decide) (Nat.le_of_ble_eq_true rfl) (Nat.le_of_ble_eq_true rfl) rfl (fun _ _ => ⟨_, rfl⟩) ?_
      refine GX.run0 hR 4 (pc' := 144) (L' := [some (vR 0), some (vR 200), some (vR 150), some (vI z), some (vI 6), some (vI (smI (iSr z 2) 30)), some (vI (τ.1 1)), some (vI 11), some (vI b), some (vI (τ.2.1 3 (smI (iSr z 2) 30))), none, none, none]) (st' := [vI (τ.1 1), vR 0]) (X' := [(150, .inl (20, .inl q))]) (fun _ _ => rfl) ?_
      have f13 := trT_r hI.lh (τ.1 1) (by omega)
      refine GX.ask hR hro [vI (τ.1 1)] (q_trail τ (by omega)) kL_101 rfl rfl rfl (by decide) (Nat.le_of_ble_eq_true rfl) (Nat.le_of_ble_eq_true rfl) rfl (fun _ _ => ⟨_, rfl⟩) ?_
      refine GX.run0 hR 7 (pc' := 157) (L' := [some (vR 0), some (vR 200), some (vR 150), some (vI z), some (vI 6), some (vI (smI (iSr z 2) 30)), some (vI (τ.1 1)), some (vI 11), some (vI b), some (vI (τ.2.1 3 (smI (iSr z 2) 30))), some (vI (trT τ (τ.1 1))), none, none]) (st' := [vI 0, vI 0, vI (smI (iSr z 2) 30), vI 6, vR 200, vR 0]) (X' := [(150, .inl (20, .inl q))]) (fun _ _ => rfl) ?_
      obtain ⟨v14, σ15, hcl, hc⟩ := s_road hJ (e := smI (iSr z 2) 30) (by omega) 0 0
      refine GX.bo hR hro hcl rfl (by decide) (Nat.le_of_ble_eq_true rfl) rfl (by decide) (fun hJ2 => ?_)
      have hI2 := hJ2.iv
      rcases hc with ⟨e1, e2⟩ | ⟨hg, e1, e2, e3, e4, e5, e6, hO⟩
      · skip
        rw [e1, e2]
        refine GX.run0 hR 3 (pc' := 167) (L' := [some (vR 0), some (vR 200), some (vR 150), some (vI z), some (vI 6), some (vI (smI (iSr z 2) 30)), some (vI (τ.1 1)), some (vI 11), some (vI b), some (vI (τ.2.1 3 (smI (iSr z 2) 30))), some (vI (trT τ (τ.1 1))), some (vI (-1123)), none]) (st' := [vI (-1123), vI (-1123)]) (X' := [(150, .inl (20, .inl q))]) (fun _ _ => rfl) ?_
        refine GX.br hR (pc1 := 214) (pc2 := 170) (st1 := []) (C := ((-1123) : Int) ≠ (-1123)) (fun _ => rfl) (by first | omega | (dsimp only; omega)) (fun h16 => (by exfalso; omega)) (fun h16 => ?_)
        refine GX.run0 hR 5 (pc' := 175) (L' := [some (vR 0), some (vR 200), some (vR 150), some (vI z), some (vI 6), some (vI (smI (iSr z 2) 30)), some (vI (τ.1 1)), some (vI 11), some (vI b), some (vI (τ.2.1 3 (smI (iSr z 2) 30))), some (vI (trT τ (τ.1 1))), some (vI (-1123)), none]) (st' := [vI 0, vI 0, vI 0, vR 150, vR 0]) (X' := [(150, .inl (20, .inl q))]) (fun _ _ => rfl) ?_
        refine GX.sg hR [vR 0, vR 150, vI 0, vI 0, vI 0] (fun κ κ2 hJ hJ2 => lp_moved hro hJ κ2 (q := q) (f := 0) (t := 0) (n := 0) (by omega) (by omega) (by omega) hqr (mvd_0 hq rfl)) kL_169 rfl rfl (by decide) (Nat.le_of_ble_eq_true rfl) (Nat.le_of_ble_eq_true rfl) rfl ?_
        refine GX.br hR (pc1 := 212) (pc2 := 181) (st1 := []) (C := (1 : Int) = 0) (fun _ => rfl) (by first | omega | (dsimp only; omega)) (fun h17 => (by exfalso; omega)) (fun h17 => ?_)
        refine GX.run0 hR 2 (pc' := 185) (L' := [some (vR 0), some (vR 200), some (vR 150), some (vI z), some (vI 6), some (vI (smI (iSr z 2) 30)), some (vI (τ.1 1)), some (vI 11), some (vI b), some (vI (τ.2.1 3 (smI (iSr z 2) 30))), some (vI (trT τ (τ.1 1))), some (vI (-1123)), none]) (st' := [vI 6, vI 6]) (X' := [(150, .inl (20, .inl q))]) (fun _ _ => rfl) ?_
        refine GX.br hR (pc1 := 197) (pc2 := 188) (st1 := []) (C := (6 : Int) ≠ 6) (fun _ => rfl) (by first | omega | (dsimp only; omega)) (fun h18 => (by exfalso; omega)) (fun h18 => ?_)
        refine GX.run0 hR 2 (pc' := 191) (L' := [some (vR 0), some (vR 200), some (vR 150), some (vI z), some (vI 6), some (vI (smI (iSr z 2) 30)), some (vI (τ.1 1)), some (vI 11), some (vI b), some (vI (τ.2.1 3 (smI (iSr z 2) 30))), some (vI (trT τ (τ.1 1))), some (vI (-1123)), none]) (st' := [vI (smI (iSr z 2) 30), vR 0]) (X' := [(150, .inl (20, .inl q))]) (fun _ _ => rfl) ?_
        have f19 := hI.hr (smI (iSr z 2) 30)
        refine GX.ask hR hro [vI (smI (iSr z 2) 30)] ((q_road τ (by omega)).gt) kL_116 rfl rfl rfl (by decide) (Nat.le_of_ble_eq_true rfl) (Nat.le_of_ble_eq_true rfl) rfl (fun _ _ => ⟨_, rfl⟩) ?_
        refine GX.run0 hR 2 (pc' := 205) (L' := [some (vR 0), some (vR 200), some (vR 150), some (vI z), some (vI 6), some (vI (smI (iSr z 2) 30)), some (vI (τ.1 1)), some (vI 11), some (vI b), some (vI (τ.2.1 3 (smI (iSr z 2) 30))), some (vI (trT τ (τ.1 1))), some (vI (-1123)), none]) (st' := [vI (τ.2.1 3 (smI (iSr z 2) 30)), vI (τ.2.1 3 (smI (iSr z 2) 30))]) (X' := [(150, .inl (20, .inl q))]) (fun _ _ => rfl) ?_
        refine GX.br hR (pc1 := 212) (pc2 := 208) (st1 := []) (C := τ.2.1 3 (smI (iSr z 2) 30) ≠ τ.2.1 3 (smI (iSr z 2) 30)) (fun _ => rfl) (by first | omega | (dsimp only; omega)) (fun h20 => (by exfalso; omega)) (fun h20 => ?_)
        refine GX.run0 hR 2 (pc' := 213) (L' := [some (vR 0), some (vR 200), some (vR 150), some (vI z), some (vI 6), some (vI (smI (iSr z 2) 30)), some (vI (τ.1 1)), some (vI 11), some (vI b), some (vI (τ.2.1 3 (smI (iSr z 2) 30))), some (vI (trT τ (τ.1 1))), some (vI (-1123)), none]) (st' := [vI 1]) (X' := [(150, .inl (20, .inl q))]) (fun _ _ => rfl) ?_
        exact GX.rt hR hk rfl (.inr rfl) ⟨rfl, hO0⟩
      · skip
        have hb1 := hgb hg
        have hr1 := trT_r hI.lh (τ.1 1) ht
        have hr2 := trT_r hI2.lh (τ.1 1) ht
        refine GX.run0 hR 3 (pc' := 167) (L' := [some (vR 0), some (vR 200), some (vR 150), some (vI z), some (vI 6), some (vI (smI (iSr z 2) 30)), some (vI (τ.1 1)), some (vI 11), some (vI b), some (vI (τ.2.1 3 (smI (iSr z 2) 30))), some (vI (trT τ (τ.1 1))), some (vI v14), none]) (st' := [vI (-1123), vI v14]) (X' := [(150, .inl (20, .inl q))]) (fun _ _ => rfl) ?_
        refine GX.br hR (pc1 := 214) (pc2 := 170) (st1 := []) (C := v14 ≠ (-1123)) (fun _ => rfl) (by first | omega | (dsimp only; omega)) (fun h21 => ?_) (fun h21 => (by exfalso; omega))
        refine GX.run0 hR 1 (pc' := 216) (L' := [some (vR 0), some (vR 200), some (vR 150), some (vI z), some (vI 6), some (vI (smI (iSr z 2) 30)), some (vI (τ.1 1)), some (vI 11), some (vI b), some (vI (τ.2.1 3 (smI (iSr z 2) 30))), some (vI (trT τ (τ.1 1))), some (vI v14), none]) (st' := [vI b]) (X' := [(150, .inl (20, .inl q))]) (fun _ _ => rfl) ?_
        refine GX.br hR (pc1 := 254) (pc2 := 219) (st1 := []) (C := b = 0) (fun _ => rfl) (by first | omega | (dsimp only; omega)) (fun h22 => (by exfalso; omega)) (fun h22 => ?_)
        refine GX.run0 hR 5 (pc' := 226) (L' := [some (vR 0), some (vR 200), some (vR 150), some (vI z), some (vI 6), some (vI (smI (iSr z 2) 30)), some (vI (τ.1 1)), some (vI 11), some (vI b), some (vI (τ.2.1 3 (smI (iSr z 2) 30))), some (vI (trT τ (τ.1 1))), some (vI v14), none]) (st' := [vI 11, vI 3, vI (τ.1 1), vR 150, vR 0]) (X' := [(150, .inl (20, .inl q))]) (fun _ _ => rfl) ?_
        refine GX.sg hR [vR 0, vR 150, vI (τ.1 1), vI 3, vI 11] (fun κ κ2 hJ hJ2 => lp_moved hro hJ κ2 (q := q) (f := τ.1 1) (t := 3) (n := 11) (by omega) (by omega) (by omega) hqr (mvd_of hq e1)) kL_169 rfl rfl (by decide) (Nat.le_of_ble_eq_true rfl) (Nat.le_of_ble_eq_true rfl) rfl ?_
        refine GX.br hR (pc1 := 254) (pc2 := 232) (st1 := []) (C := (1 : Int) = 0) (fun _ => rfl) (by first | omega | (dsimp only; omega)) (fun h23 => (by exfalso; omega)) (fun h23 => ?_)
        refine GX.run0 hR 3 (pc' := 238) (L' := [some (vR 0), some (vR 200), some (vR 150), some (vI z), some (vI 6), some (vI (smI (iSr z 2) 30)), some (vI (τ.1 1)), some (vI 11), some (vI b), some (vI (τ.2.1 3 (smI (iSr z 2) 30))), some (vI (trT τ (τ.1 1))), some (vI v14), none]) (st' := [vI 8, vI 6, vI (τ.2.1 3 (smI (iSr z 2) 30))]) (X' := [(150, .inl (20, .inl q))]) (fun _ _ => rfl) ?_
        refine GX.br hR (pc1 := 246) (pc2 := 241) (st1 := [vI (τ.2.1 3 (smI (iSr z 2) 30))]) (C := (6 : Int) ≠ 8) (fun _ => rfl) (by first | omega | (dsimp only; omega)) (fun h24 => ?_) (fun h24 => (by exfalso; omega))
        refine GX.run0 hR 1 (pc' := 247) (L' := [some (vR 0), some (vR 200), some (vR 150), some (vI z), some (vI 6), some (vI (smI (iSr z 2) 30)), some (vI (τ.1 1)), some (vI 11), some (vI b), some (vI (τ.2.1 3 (smI (iSr z 2) 30))), some (vI (trT τ (τ.1 1))), some (vI v14), none]) (st' := [vI (-1), vI (τ.2.1 3 (smI (iSr z 2) 30))]) (X' := [(150, .inl (20, .inl q))]) (fun _ _ => rfl) ?_
        refine GX.br hR (pc1 := 254) (pc2 := 250) (st1 := []) (C := τ.2.1 3 (smI (iSr z 2) 30) ≠ (-1)) (fun _ => rfl) (by first | omega | (dsimp only; omega)) (fun h25 => (by exfalso; omega)) (fun h25 => ?_)
        refine GX.run0 hR 4 (pc' := 259) (L' := [some (vR 0), some (vR 200), some (vR 150), some (vI z), some (vI 6), some (vI (smI (iSr z 2) 30)), some (vI (τ.1 1)), some (vI 11), some (vI b), some (vI (τ.2.1 3 (smI (iSr z 2) 30))), some (vI (trT τ (τ.1 1))), some (vI v14), some (vI 1)]) (st' := [vI 1]) (X' := [(150, .inl (20, .inl q))]) (fun _ _ => rfl) ?_
        refine GX.br hR (pc1 := 372) (pc2 := 262) (st1 := []) (C := (1 : Int) = 0) (fun _ => rfl) (by first | omega | (dsimp only; omega)) (fun h26 => (by exfalso; omega)) (fun h26 => ?_)
        refine GX.run0 hR 2 (pc' := 266) (L' := [some (vR 0), some (vR 200), some (vR 150), some (vI z), some (vI 6), some (vI (smI (iSr z 2) 30)), some (vI (τ.1 1)), some (vI 11), some (vI b), some (vI (τ.2.1 3 (smI (iSr z 2) 30))), some (vI (trT τ (τ.1 1))), some (vI v14), some (vI 1)]) (st' := [vI 6, vI 6]) (X' := [(150, .inl (20, .inl q))]) (fun _ _ => rfl) ?_
        refine GX.br hR (pc1 := 312) (pc2 := 269) (st1 := []) (C := (6 : Int) ≠ 6) (fun _ => rfl) (by first | omega | (dsimp only; omega)) (fun h27 => (by exfalso; omega)) (fun h27 => ?_)
        refine GX.run0 hR 2 (pc' := 272) (L' := [some (vR 0), some (vR 200), some (vR 150), some (vI z), some (vI 6), some (vI (smI (iSr z 2) 30)), some (vI (τ.1 1)), some (vI 11), some (vI b), some (vI (τ.2.1 3 (smI (iSr z 2) 30))), some (vI (trT τ (τ.1 1))), some (vI v14), some (vI 1)]) (st' := [vI (smI (iSr z 2) 30), vR 0]) (X' := [(150, .inl (20, .inl q))]) (fun _ _ => rfl) ?_
        have f28 := hI2.hr (smI (iSr z 2) 30)
        refine GX.ask hR hro [vI (smI (iSr z 2) 30)] ((q_road σ15 (by omega)).gt) kL_116 rfl rfl rfl (by decide) (Nat.le_of_ble_eq_true rfl) (Nat.le_of_ble_eq_true rfl) rfl (fun _ _ => ⟨_, rfl⟩) ?_
        refine GX.run0 hR 1 (pc' := 277) (L' := [some (vR 0), some (vR 200), some (vR 150), some (vI z), some (vI 6), some (vI (smI (iSr z 2) 30)), some (vI (τ.1 1)), some (vI 11), some (vI b), some (vI (τ.2.1 3 (smI (iSr z 2) 30))), some (vI (trT τ (τ.1 1))), some (vI v14), some (vI 1)]) (st' := [vI (τ.1 1), vI (σ15.2.1 3 (smI (iSr z 2) 30))]) (X' := [(150, .inl (20, .inl q))]) (fun _ _ => rfl) ?_
        refine GX.br hR (pc1 := 372) (pc2 := 280) (st1 := []) (C := σ15.2.1 3 (smI (iSr z 2) 30) ≠ τ.1 1) (fun _ => rfl) (by first | omega | (dsimp only; omega)) (fun h29 => (by exfalso; omega)) (fun h29 => ?_)
        refine GX.run0 hR 3 (pc' := 285) (L' := [some (vR 0), some (vR 200), some (vR 150), some (vI z), some (vI 6), some (vI (smI (iSr z 2) 30)), some (vI (τ.1 1)), some (vI 11), some (vI b), some (vI (τ.2.1 3 (smI (iSr z 2) 30))), some (vI (trT τ (τ.1 1))), some (vI v14), some (vI 1)]) (st' := [vI (τ.1 1), vR 0, vI v14]) (X' := [(150, .inl (20, .inl q))]) (fun _ _ => rfl) ?_
        have f30 := trT_r hI2.lh (τ.1 1) (by omega)
        refine GX.ask hR hro [vI (τ.1 1)] (q_trail σ15 (by omega)) kL_101 rfl rfl rfl (by decide) (Nat.le_of_ble_eq_true rfl) (Nat.le_of_ble_eq_true rfl) rfl (fun _ _ => ⟨_, rfl⟩) ?_
        refine GX.br hR (pc1 := 372) (pc2 := 291) (st1 := []) (C := v14 ≠ trT σ15 (τ.1 1)) (fun _ => rfl) (by first | omega | (dsimp only; omega)) (fun h31 => (by exfalso; omega)) (fun h31 => ?_)
        refine GX.run0 hR 2 (pc' := 295) (L' := [some (vR 0), some (vR 200), some (vR 150), some (vI z), some (vI 6), some (vI (smI (iSr z 2) 30)), some (vI (τ.1 1)), some (vI 11), some (vI b), some (vI (τ.2.1 3 (smI (iSr z 2) 30))), some (vI (trT τ (τ.1 1))), some (vI v14), some (vI 1)]) (st' := [vI (trT τ (τ.1 1)), vI v14]) (X' := [(150, .inl (20, .inl q))]) (fun _ _ => rfl) ?_
        refine GX.br hR (pc1 := 372) (pc2 := 298) (st1 := []) (C := v14 < trT τ (τ.1 1)) (fun _ => rfl) (by first | omega | (dsimp only; omega)) (fun h32 => (by exfalso; omega)) (fun h32 => ?_)
        refine GX.run0 hR 6 (pc' := 306) (L' := [some (vR 0), some (vR 200), some (vR 150), some (vI z), some (vI 6), some (vI (smI (iSr z 2) 30)), some (vI (τ.1 1)), some (vI 11), some (vI b), some (vI (τ.2.1 3 (smI (iSr z 2) 30))), some (vI (trT τ (τ.1 1))), some (vI v14), some (vI 1)]) (st' := [vI (((trT τ (τ.1 1)) * 2) + 1), vI v14]) (X' := [(150, .inl (20, .inl q))]) (fun _ _ => rfl) ?_
        refine GX.br hR (pc1 := 372) (pc2 := 309) (st1 := []) (C := ((trT τ (τ.1 1)) * 2) + 1 < v14) (fun _ => rfl) (by first | omega | (dsimp only; omega)) (fun h33 => (by exfalso; omega)) (fun h33 => ?_)
        refine GX.run0 hR 3 (pc' := 373) (L' := [some (vR 0), some (vR 200), some (vR 150), some (vI z), some (vI 6), some (vI (smI (iSr z 2) 30)), some (vI (τ.1 1)), some (vI 11), some (vI b), some (vI (τ.2.1 3 (smI (iSr z 2) 30))), some (vI (trT τ (τ.1 1))), some (vI v14), some (vI 1)]) (st' := [vI 1]) (X' := [(150, .inl (20, .inl q))]) (fun _ _ => rfl) ?_
        exact GX.rt hR hk rfl (.inr rfl) ⟨rfl, hO⟩
  exact hL 0 (Nat.zero_le _) 1 (by omega) (fun _ => rfl)
set_option maxHeartbeats 4000000 in
theorem w_builds1 {ro : PRO} (hro : ∀ q ∈ roC, q ∈ ro) {τ : St} (hJ : Jx τ) {q : Int → Int} (hq : isQ (τ.2.2 0) q) (hO0 : Ov τ) (z : Int) (hw : smI z 3 = 1) : SX mL_builds ro 15 [vR 0, vR 200, vR 150, vI z] τ [(150, .inl (20, .inl q))] (fun i σ => i = 1 ∧ Ov σ) 2 := by
  have hI := hJ.iv
  refine SX.of rfl tL_builds (Nat.le_of_ble_eq_true rfl) (fun G ks hk hR => ?_)
  show GX G 0 τ ([(150, .inl (20, .inl q))]) 0 [some (vR 0), some (vR 200), some (vR 150), some (vI z), none, none, none, none, none, none, none, none, none] []
  have hqr := hq.r hI
  have ht := hI.htu
  refine GX.run0 hR 3 (pc' := 4) (L' := [some (vR 0), some (vR 200), some (vR 150), some (vI z), none, none, none, none, none, none, none, none, none]) (st' := [vI 3, vI z, vI 6]) (X' := [(150, .inl (20, .inl q))]) (fun _ _ => rfl) ?_
  have f1 := smI_r z (n := 3) (by omega)
  refine GX.sx hR [vI z, vI 3] (fun w => lp_some (x := z) (n := 3) (by omega) w) kL_158 rfl rfl (by decide) (Nat.le_of_ble_eq_true rfl) (Nat.le_of_ble_eq_true rfl) rfl ?_
  rw [hw]
  refine GX.run0 hR 7 (pc' := 17) (L' := [some (vR 0), some (vR 200), some (vR 150), some (vI z), some (vI 7), none, none, none, none, none, none, none, none]) (st' := [vI 6, vI 7, vI (iSr z 2)]) (X' := [(150, .inl (20, .inl q))]) (fun _ _ => rfl) ?_
  refine GX.br hR (pc1 := 25) (pc2 := 20) (st1 := [vI (iSr z 2)]) (C := (7 : Int) ≠ 6) (fun _ => rfl) (by first | omega | (dsimp only; omega)) (fun h2 => ?_) (fun h2 => (by exfalso; omega))
  refine GX.run0 hR 1 (pc' := 27) (L' := [some (vR 0), some (vR 200), some (vR 150), some (vI z), some (vI 7), none, none, none, none, none, none, none, none]) (st' := [vI 24, vI (iSr z 2)]) (X' := [(150, .inl (20, .inl q))]) (fun _ _ => rfl) ?_
  have f3 := smI_r (iSr z 2) (n := 24) (by omega)
  refine GX.sx hR [vI (iSr z 2), vI 24] (fun w => lp_some (x := iSr z 2) (n := 24) (by omega) w) kL_158 rfl rfl (by decide) (Nat.le_of_ble_eq_true rfl) (Nat.le_of_ble_eq_true rfl) rfl ?_
  refine GX.run0 hR 2 (pc' := 33) (L' := [some (vR 0), some (vR 200), some (vR 150), some (vI z), some (vI 7), some (vI (smI (iSr z 2) 24)), none, none, none, none, none, none, none]) (st' := [vR 0]) (X' := [(150, .inl (20, .inl q))]) (fun _ _ => rfl) ?_
  have f4 := hI.htu
  refine GX.ask hR hro [] ((q_turn τ).gt) kL_130 rfl rfl rfl (by decide) (Nat.le_of_ble_eq_true rfl) (Nat.le_of_ble_eq_true rfl) rfl (fun _ _ => ⟨_, rfl⟩) ?_
  refine GX.run0 hR 3 (pc' := 42) (L' := [some (vR 0), some (vR 200), some (vR 150), some (vI z), some (vI 7), some (vI (smI (iSr z 2) 24)), some (vI (τ.1 1)), none, none, none, none, none, none]) (st' := [vI 6, vI 7]) (X' := [(150, .inl (20, .inl q))]) (fun _ _ => rfl) ?_
  refine GX.br hR (pc1 := 50) (pc2 := 45) (st1 := []) (C := (7 : Int) ≠ 6) (fun _ => rfl) (by first | omega | (dsimp only; omega)) (fun h5 => ?_) (fun h5 => (by exfalso; omega))
  refine GX.run0 hR 2 (pc' := 54) (L' := [some (vR 0), some (vR 200), some (vR 150), some (vI z), some (vI 7), some (vI (smI (iSr z 2) 24)), some (vI (τ.1 1)), none, none, none, none, none, none]) (st' := [vI 7, vI 7]) (X' := [(150, .inl (20, .inl q))]) (fun _ _ => rfl) ?_
  refine GX.br hR (pc1 := 63) (pc2 := 57) (st1 := []) (C := (7 : Int) ≠ 7) (fun _ => rfl) (by first | omega | (dsimp only; omega)) (fun h6 => (by exfalso; omega)) (fun h6 => ?_)
  refine GX.run0 hR 7 (pc' := 74) (L' := [some (vR 0), some (vR 200), some (vR 150), some (vI z), some (vI 7), some (vI (smI (iSr z 2) 24)), some (vI (τ.1 1)), some (vI 1111), some (vI 1), some (vI 0), none, none, none]) (st' := []) (X' := [(150, .inl (20, .inl q))]) (fun _ _ => rfl) ?_
  have hL : ∀ k : Nat, k ≤ 5 → ∀ b : Int, (b = 0 ∨ b = 1) → (hasG (τ.2.2 0) (τ.1 1) 1111 = true → b = 1) → GX G 0 τ ([(150, .inl (20, .inl q))]) 74 [some (vR 0), some (vR 200), some (vR 150), some (vI z), some (vI 7), some (vI (smI (iSr z 2) 24)), some (vI (τ.1 1)), some (vI 1111), some (vI b), some (vI (k : Int)), none, none, none] [] := by
    refine back (P := fun k : Nat => ∀ b : Int, (b = 0 ∨ b = 1) → (hasG (τ.2.2 0) (τ.1 1) 1111 = true → b = 1) → GX G 0 τ ([(150, .inl (20, .inl q))]) 74 [some (vR 0), some (vR 200), some (vR 150), some (vI z), some (vI 7), some (vI (smI (iSr z 2) 24)), some (vI (τ.1 1)), some (vI 1111), some (vI b), some (vI (k : Int)), none, none, none] []) ?_ ?_
    · intro k hk ih b hb hgb
      have hkq := hq.at (p := τ.1 1) (g := (k : Int)) (by omega) (by omega)
      have hkr := hI.hh (τ.1 1) (k : Int)
      have hkg : hasG (τ.2.2 0) (τ.1 1) 1111 = true → dgt 1111 (k : Int) ≤ τ.2.2 0 (τ.1 1) (k : Int) := fun hg => hasG_le hg (k : Int) (by omega)
      replace ih : ∀ b : Int, (b = 0 ∨ b = 1) → (hasG (τ.2.2 0) (τ.1 1) 1111 = true → b = 1) → GX G 0 τ ([(150, .inl (20, .inl q))]) 74 [some (vR 0), some (vR 200), some (vR 150), some (vI z), some (vI 7), some (vI (smI (iSr z 2) 24)), some (vI (τ.1 1)), some (vI 1111), some (vI b), some (vI ((k : Int) + 1)), none, none, none] [] := ih
      refine GX.run0 hR 2 (pc' := 77) (L' := [some (vR 0), some (vR 200), some (vR 150), some (vI z), some (vI 7), some (vI (smI (iSr z 2) 24)), some (vI (τ.1 1)), some (vI 1111), some (vI b), some (vI (k : Int)), none, none, none]) (st' := [vI 5, vI (k : Int)]) (X' := [(150, .inl (20, .inl q))]) (fun _ _ => rfl) ?_
      refine GX.br hR (pc1 := 117) (pc2 := 80) (st1 := []) (C := 5 ≤ (k : Int)) (fun _ => rfl) (by first | omega | (dsimp only; omega)) (fun h7 => (by exfalso; omega)) (fun h7 => ?_)
      refine GX.run0 hR 1 (pc' := 82) (L' := [some (vR 0), some (vR 200), some (vR 150), some (vI z), some (vI 7), some (vI (smI (iSr z 2) 24)), some (vI (τ.1 1)), some (vI 1111), some (vI b), some (vI (k : Int)), none, none, none]) (st' := [vI b]) (X' := [(150, .inl (20, .inl q))]) (fun _ _ => rfl) ?_
      refine GX.br hR (pc1 := 108) (pc2 := 85) (st1 := []) (C := b = 0) (fun _ => rfl) (by first | omega | (dsimp only; omega)) (fun h8 => ?_) (fun h8 => ?_)
      · skip
        refine GX.run0 hR 4 (pc' := 74) (L' := [some (vR 0), some (vR 200), some (vR 150), some (vI z), some (vI 7), some (vI (smI (iSr z 2) 24)), some (vI (τ.1 1)), some (vI 1111), some (vI 0), some (vI ((k : Int) + 1)), none, none, none]) (st' := []) (X' := [(150, .inl (20, .inl q))]) (fun _ _ => rfl) ?_
        exact ih 0 (by omega) (fun hg => by have q1 := hkg hg; have q2 := hgb hg; omega)
      · skip
        refine GX.run1 hR 9 (pc' := 98) (L' := [some (vR 0), some (vR 200), some (vR 150), some (vI z), some (vI 7), some (vI (smI (iSr z 2) 24)), some (vI (τ.1 1)), some (vI 1111), some (vI b), some (vI (k : Int)), none, none, none]) (st' := [vI (k : Int), vI 1111, vI (q ((5 * (τ.1 1)) + (k : Int)))]) (X' := [(150, .inl (20, .inl q))]) (fun _ _ => rfl) (by first | omega | (dsimp only; omega)) ?_
        have f9 := dgt_r 1111 (k : Int)
        refine GX.sx hR [vI 1111, vI (k : Int)] (fun w => lp_digit (n := 1111) (k := (k : Int)) (by omega) (by omega) w) kL_152 rfl rfl (by decide) (Nat.le_of_ble_eq_true rfl) (Nat.le_of_ble_eq_true rfl) rfl ?_
        refine GX.br hR (pc1 := 108) (pc2 := 104) (st1 := []) (C := q ((5 * (τ.1 1)) + (k : Int)) < dgt 1111 (k : Int)) (fun _ => rfl) (by first | omega | (dsimp only; omega)) (fun h10 => ?_) (fun h10 => ?_)
        · skip
          refine GX.run0 hR 4 (pc' := 74) (L' := [some (vR 0), some (vR 200), some (vR 150), some (vI z), some (vI 7), some (vI (smI (iSr z 2) 24)), some (vI (τ.1 1)), some (vI 1111), some (vI 0), some (vI ((k : Int) + 1)), none, none, none]) (st' := []) (X' := [(150, .inl (20, .inl q))]) (fun _ _ => rfl) ?_
          exact ih 0 (by omega) (fun hg => by have q1 := hkg hg; have q2 := hgb hg; omega)
        · skip
          refine GX.run0 hR 5 (pc' := 74) (L' := [some (vR 0), some (vR 200), some (vR 150), some (vI z), some (vI 7), some (vI (smI (iSr z 2) 24)), some (vI (τ.1 1)), some (vI 1111), some (vI 1), some (vI ((k : Int) + 1)), none, none, none]) (st' := []) (X' := [(150, .inl (20, .inl q))]) (fun _ _ => rfl) ?_
          exact ih 1 (by omega) (fun hg => by have q1 := hkg hg; have q2 := hgb hg; omega)
    · intro b hb hgb
      show GX G 0 τ ([(150, .inl (20, .inl q))]) 74 [some (vR 0), some (vR 200), some (vR 150), some (vI z), some (vI 7), some (vI (smI (iSr z 2) 24)), some (vI (τ.1 1)), some (vI 1111), some (vI b), some (vI 5), none, none, none] []
      refine GX.run0 hR 2 (pc' := 77) (L' := [some (vR 0), some (vR 200), some (vR 150), some (vI z), some (vI 7), some (vI (smI (iSr z 2) 24)), some (vI (τ.1 1)), some (vI 1111), some (vI b), some (vI 5), none, none, none]) (st' := [vI 5, vI 5]) (X' := [(150, .inl (20, .inl q))]) (fun _ _ => rfl) ?_
      refine GX.br hR (pc1 := 117) (pc2 := 80) (st1 := []) (C := (5 : Int) ≤ 5) (fun _ => rfl) (by first | omega | (dsimp only; omega)) (fun h11 => ?_) (fun h11 => (by exfalso; omega))
      refine GX.run0 hR 2 (pc' := 121) (L' := [some (vR 0), some (vR 200), some (vR 150), some (vI z), some (vI 7), some (vI (smI (iSr z 2) 24)), some (vI (τ.1 1)), some (vI 1111), some (vI b), some (vI 5), none, none, none]) (st' := [vI 6, vI 7]) (X' := [(150, .inl (20, .inl q))]) (fun _ _ => rfl) ?_
      refine GX.br hR (pc1 := 133) (pc2 := 124) (st1 := []) (C := (7 : Int) ≠ 6) (fun _ => rfl) (by first | omega | (dsimp only; omega)) (fun h12 => ?_) (fun h12 => (by exfalso; omega))
      refine GX.run0 hR 2 (pc' := 136) (L' := [some (vR 0), some (vR 200), some (vR 150), some (vI z), some (vI 7), some (vI (smI (iSr z 2) 24)), some (vI (τ.1 1)), some (vI 1111), some (vI b), some (vI 5), none, none, none]) (st' := [vI (smI (iSr z 2) 24), vR 0]) (X' := [(150, .inl (20, .inl q))]) (fun _ _ => rfl) ?_
      have f13 := hI.hb (smI (iSr z 2) 24)
      refine GX.ask hR hro [vI (smI (iSr z 2) 24)] ((q_building τ (by omega)).gt) kL_113 rfl rfl rfl (by decide) (Nat.le_of_ble_eq_true rfl) (Nat.le_of_ble_eq_true rfl) rfl (fun _ _ => ⟨_, rfl⟩) ?_
      refine GX.run0 hR 3 (pc' := 144) (L' := [some (vR 0), some (vR 200), some (vR 150), some (vI z), some (vI 7), some (vI (smI (iSr z 2) 24)), some (vI (τ.1 1)), some (vI 1111), some (vI b), some (vI (τ.2.1 2 (smI (iSr z 2) 24))), none, none, none]) (st' := [vI (τ.1 1), vR 0]) (X' := [(150, .inl (20, .inl q))]) (fun _ _ => rfl) ?_
      have f14 := trT_r hI.lh (τ.1 1) (by omega)
      refine GX.ask hR hro [vI (τ.1 1)] (q_trail τ (by omega)) kL_101 rfl rfl rfl (by decide) (Nat.le_of_ble_eq_true rfl) (Nat.le_of_ble_eq_true rfl) rfl (fun _ _ => ⟨_, rfl⟩) ?_
      refine GX.run0 hR 7 (pc' := 157) (L' := [some (vR 0), some (vR 200), some (vR 150), some (vI z), some (vI 7), some (vI (smI (iSr z 2) 24)), some (vI (τ.1 1)), some (vI 1111), some (vI b), some (vI (τ.2.1 2 (smI (iSr z 2) 24))), some (vI (trT τ (τ.1 1))), none, none]) (st' := [vI 0, vI 0, vI (smI (iSr z 2) 24), vI 7, vR 200, vR 0]) (X' := [(150, .inl (20, .inl q))]) (fun _ _ => rfl) ?_
      obtain ⟨v15, σ16, hcl, hc⟩ := s_house hJ (e := smI (iSr z 2) 24) (by omega) 0 0
      refine GX.bo hR hro hcl rfl (by decide) (Nat.le_of_ble_eq_true rfl) rfl (by decide) (fun hJ2 => ?_)
      have hI2 := hJ2.iv
      rcases hc with ⟨e1, e2⟩ | ⟨hg, e1, e2, e3, e4, hO⟩
      · skip
        rw [e1, e2]
        refine GX.run0 hR 3 (pc' := 167) (L' := [some (vR 0), some (vR 200), some (vR 150), some (vI z), some (vI 7), some (vI (smI (iSr z 2) 24)), some (vI (τ.1 1)), some (vI 1111), some (vI b), some (vI (τ.2.1 2 (smI (iSr z 2) 24))), some (vI (trT τ (τ.1 1))), some (vI (-1123)), none]) (st' := [vI (-1123), vI (-1123)]) (X' := [(150, .inl (20, .inl q))]) (fun _ _ => rfl) ?_
        refine GX.br hR (pc1 := 214) (pc2 := 170) (st1 := []) (C := ((-1123) : Int) ≠ (-1123)) (fun _ => rfl) (by first | omega | (dsimp only; omega)) (fun h17 => (by exfalso; omega)) (fun h17 => ?_)
        refine GX.run0 hR 5 (pc' := 175) (L' := [some (vR 0), some (vR 200), some (vR 150), some (vI z), some (vI 7), some (vI (smI (iSr z 2) 24)), some (vI (τ.1 1)), some (vI 1111), some (vI b), some (vI (τ.2.1 2 (smI (iSr z 2) 24))), some (vI (trT τ (τ.1 1))), some (vI (-1123)), none]) (st' := [vI 0, vI 0, vI 0, vR 150, vR 0]) (X' := [(150, .inl (20, .inl q))]) (fun _ _ => rfl) ?_
        refine GX.sg hR [vR 0, vR 150, vI 0, vI 0, vI 0] (fun κ κ2 hJ hJ2 => lp_moved hro hJ κ2 (q := q) (f := 0) (t := 0) (n := 0) (by omega) (by omega) (by omega) hqr (mvd_0 hq rfl)) kL_169 rfl rfl (by decide) (Nat.le_of_ble_eq_true rfl) (Nat.le_of_ble_eq_true rfl) rfl ?_
        refine GX.br hR (pc1 := 212) (pc2 := 181) (st1 := []) (C := (1 : Int) = 0) (fun _ => rfl) (by first | omega | (dsimp only; omega)) (fun h18 => (by exfalso; omega)) (fun h18 => ?_)
        refine GX.run0 hR 2 (pc' := 185) (L' := [some (vR 0), some (vR 200), some (vR 150), some (vI z), some (vI 7), some (vI (smI (iSr z 2) 24)), some (vI (τ.1 1)), some (vI 1111), some (vI b), some (vI (τ.2.1 2 (smI (iSr z 2) 24))), some (vI (trT τ (τ.1 1))), some (vI (-1123)), none]) (st' := [vI 6, vI 7]) (X' := [(150, .inl (20, .inl q))]) (fun _ _ => rfl) ?_
        refine GX.br hR (pc1 := 197) (pc2 := 188) (st1 := []) (C := (7 : Int) ≠ 6) (fun _ => rfl) (by first | omega | (dsimp only; omega)) (fun h19 => ?_) (fun h19 => (by exfalso; omega))
        refine GX.run0 hR 2 (pc' := 200) (L' := [some (vR 0), some (vR 200), some (vR 150), some (vI z), some (vI 7), some (vI (smI (iSr z 2) 24)), some (vI (τ.1 1)), some (vI 1111), some (vI b), some (vI (τ.2.1 2 (smI (iSr z 2) 24))), some (vI (trT τ (τ.1 1))), some (vI (-1123)), none]) (st' := [vI (smI (iSr z 2) 24), vR 0]) (X' := [(150, .inl (20, .inl q))]) (fun _ _ => rfl) ?_
        have f20 := hI.hb (smI (iSr z 2) 24)
        refine GX.ask hR hro [vI (smI (iSr z 2) 24)] ((q_building τ (by omega)).gt) kL_113 rfl rfl rfl (by decide) (Nat.le_of_ble_eq_true rfl) (Nat.le_of_ble_eq_true rfl) rfl (fun _ _ => ⟨_, rfl⟩) ?_
        refine GX.run0 hR 1 (pc' := 205) (L' := [some (vR 0), some (vR 200), some (vR 150), some (vI z), some (vI 7), some (vI (smI (iSr z 2) 24)), some (vI (τ.1 1)), some (vI 1111), some (vI b), some (vI (τ.2.1 2 (smI (iSr z 2) 24))), some (vI (trT τ (τ.1 1))), some (vI (-1123)), none]) (st' := [vI (τ.2.1 2 (smI (iSr z 2) 24)), vI (τ.2.1 2 (smI (iSr z 2) 24))]) (X' := [(150, .inl (20, .inl q))]) (fun _ _ => rfl) ?_
        refine GX.br hR (pc1 := 212) (pc2 := 208) (st1 := []) (C := τ.2.1 2 (smI (iSr z 2) 24) ≠ τ.2.1 2 (smI (iSr z 2) 24)) (fun _ => rfl) (by first | omega | (dsimp only; omega)) (fun h21 => (by exfalso; omega)) (fun h21 => ?_)
        refine GX.run0 hR 2 (pc' := 213) (L' := [some (vR 0), some (vR 200), some (vR 150), some (vI z), some (vI 7), some (vI (smI (iSr z 2) 24)), some (vI (τ.1 1)), some (vI 1111), some (vI b), some (vI (τ.2.1 2 (smI (iSr z 2) 24))), some (vI (trT τ (τ.1 1))), some (vI (-1123)), none]) (st' := [vI 1]) (X' := [(150, .inl (20, .inl q))]) (fun _ _ => rfl) ?_
        exact GX.rt hR hk rfl (.inr rfl) ⟨rfl, hO0⟩
      · skip
        have hb1 := hgb hg
        have hr2 := ptsF_r (τ := σ16) (τ.1 1) (hI2.hcd (τ.1 1) 4)
        refine GX.run0 hR 3 (pc' := 167) (L' := [some (vR 0), some (vR 200), some (vR 150), some (vI z), some (vI 7), some (vI (smI (iSr z 2) 24)), some (vI (τ.1 1)), some (vI 1111), some (vI b), some (vI (τ.2.1 2 (smI (iSr z 2) 24))), some (vI (trT τ (τ.1 1))), some (vI v15), none]) (st' := [vI (-1123), vI v15]) (X' := [(150, .inl (20, .inl q))]) (fun _ _ => rfl) ?_
        refine GX.br hR (pc1 := 214) (pc2 := 170) (st1 := []) (C := v15 ≠ (-1123)) (fun _ => rfl) (by first | omega | (dsimp only; omega)) (fun h22 => ?_) (fun h22 => (by exfalso; omega))
        refine GX.run0 hR 1 (pc' := 216) (L' := [some (vR 0), some (vR 200), some (vR 150), some (vI z), some (vI 7), some (vI (smI (iSr z 2) 24)), some (vI (τ.1 1)), some (vI 1111), some (vI b), some (vI (τ.2.1 2 (smI (iSr z 2) 24))), some (vI (trT τ (τ.1 1))), some (vI v15), none]) (st' := [vI b]) (X' := [(150, .inl (20, .inl q))]) (fun _ _ => rfl) ?_
        refine GX.br hR (pc1 := 254) (pc2 := 219) (st1 := []) (C := b = 0) (fun _ => rfl) (by first | omega | (dsimp only; omega)) (fun h23 => (by exfalso; omega)) (fun h23 => ?_)
        refine GX.run0 hR 5 (pc' := 226) (L' := [some (vR 0), some (vR 200), some (vR 150), some (vI z), some (vI 7), some (vI (smI (iSr z 2) 24)), some (vI (τ.1 1)), some (vI 1111), some (vI b), some (vI (τ.2.1 2 (smI (iSr z 2) 24))), some (vI (trT τ (τ.1 1))), some (vI v15), none]) (st' := [vI 1111, vI 3, vI (τ.1 1), vR 150, vR 0]) (X' := [(150, .inl (20, .inl q))]) (fun _ _ => rfl) ?_
        refine GX.sg hR [vR 0, vR 150, vI (τ.1 1), vI 3, vI 1111] (fun κ κ2 hJ hJ2 => lp_moved hro hJ κ2 (q := q) (f := τ.1 1) (t := 3) (n := 1111) (by omega) (by omega) (by omega) hqr (mvd_of hq e1)) kL_169 rfl rfl (by decide) (Nat.le_of_ble_eq_true rfl) (Nat.le_of_ble_eq_true rfl) rfl ?_
        refine GX.br hR (pc1 := 254) (pc2 := 232) (st1 := []) (C := (1 : Int) = 0) (fun _ => rfl) (by first | omega | (dsimp only; omega)) (fun h24 => (by exfalso; omega)) (fun h24 => ?_)
        refine GX.run0 hR 3 (pc' := 238) (L' := [some (vR 0), some (vR 200), some (vR 150), some (vI z), some (vI 7), some (vI (smI (iSr z 2) 24)), some (vI (τ.1 1)), some (vI 1111), some (vI b), some (vI (τ.2.1 2 (smI (iSr z 2) 24))), some (vI (trT τ (τ.1 1))), some (vI v15), none]) (st' := [vI 8, vI 7, vI (τ.2.1 2 (smI (iSr z 2) 24))]) (X' := [(150, .inl (20, .inl q))]) (fun _ _ => rfl) ?_
        refine GX.br hR (pc1 := 246) (pc2 := 241) (st1 := [vI (τ.2.1 2 (smI (iSr z 2) 24))]) (C := (7 : Int) ≠ 8) (fun _ => rfl) (by first | omega | (dsimp only; omega)) (fun h25 => ?_) (fun h25 => (by exfalso; omega))
        refine GX.run0 hR 1 (pc' := 247) (L' := [some (vR 0), some (vR 200), some (vR 150), some (vI z), some (vI 7), some (vI (smI (iSr z 2) 24)), some (vI (τ.1 1)), some (vI 1111), some (vI b), some (vI (τ.2.1 2 (smI (iSr z 2) 24))), some (vI (trT τ (τ.1 1))), some (vI v15), none]) (st' := [vI (-1), vI (τ.2.1 2 (smI (iSr z 2) 24))]) (X' := [(150, .inl (20, .inl q))]) (fun _ _ => rfl) ?_
        refine GX.br hR (pc1 := 254) (pc2 := 250) (st1 := []) (C := τ.2.1 2 (smI (iSr z 2) 24) ≠ (-1)) (fun _ => rfl) (by first | omega | (dsimp only; omega)) (fun h26 => (by exfalso; omega)) (fun h26 => ?_)
        refine GX.run0 hR 4 (pc' := 259) (L' := [some (vR 0), some (vR 200), some (vR 150), some (vI z), some (vI 7), some (vI (smI (iSr z 2) 24)), some (vI (τ.1 1)), some (vI 1111), some (vI b), some (vI (τ.2.1 2 (smI (iSr z 2) 24))), some (vI (trT τ (τ.1 1))), some (vI v15), some (vI 1)]) (st' := [vI 1]) (X' := [(150, .inl (20, .inl q))]) (fun _ _ => rfl) ?_
        refine GX.br hR (pc1 := 372) (pc2 := 262) (st1 := []) (C := (1 : Int) = 0) (fun _ => rfl) (by first | omega | (dsimp only; omega)) (fun h27 => (by exfalso; omega)) (fun h27 => ?_)
        refine GX.run0 hR 2 (pc' := 266) (L' := [some (vR 0), some (vR 200), some (vR 150), some (vI z), some (vI 7), some (vI (smI (iSr z 2) 24)), some (vI (τ.1 1)), some (vI 1111), some (vI b), some (vI (τ.2.1 2 (smI (iSr z 2) 24))), some (vI (trT τ (τ.1 1))), some (vI v15), some (vI 1)]) (st' := [vI 6, vI 7]) (X' := [(150, .inl (20, .inl q))]) (fun _ _ => rfl) ?_
        refine GX.br hR (pc1 := 312) (pc2 := 269) (st1 := []) (C := (7 : Int) ≠ 6) (fun _ => rfl) (by first | omega | (dsimp only; omega)) (fun h28 => ?_) (fun h28 => (by exfalso; omega))
        refine GX.run0 hR 2 (pc' := 316) (L' := [some (vR 0), some (vR 200), some (vR 150), some (vI z), some (vI 7), some (vI (smI (iSr z 2) 24)), some (vI (τ.1 1)), some (vI 1111), some (vI b), some (vI (τ.2.1 2 (smI (iSr z 2) 24))), some (vI (trT τ (τ.1 1))), some (vI v15), some (vI 1)]) (st' := [vI 7, vI 7]) (X' := [(150, .inl (20, .inl q))]) (fun _ _ => rfl) ?_
        refine GX.br hR (pc1 := 344) (pc2 := 319) (st1 := []) (C := (7 : Int) ≠ 7) (fun _ => rfl) (by first | omega | (dsimp only; omega)) (fun h29 => (by exfalso; omega)) (fun h29 => ?_)
        refine GX.run0 hR 2 (pc' := 322) (L' := [some (vR 0), some (vR 200), some (vR 150), some (vI z), some (vI 7), some (vI (smI (iSr z 2) 24)), some (vI (τ.1 1)), some (vI 1111), some (vI b), some (vI (τ.2.1 2 (smI (iSr z 2) 24))), some (vI (trT τ (τ.1 1))), some (vI v15), some (vI 1)]) (st' := [vI (smI (iSr z 2) 24), vR 0]) (X' := [(150, .inl (20, .inl q))]) (fun _ _ => rfl) ?_
        have f30 := hI2.hb (smI (iSr z 2) 24)
        refine GX.ask hR hro [vI (smI (iSr z 2) 24)] ((q_building σ16 (by omega)).gt) kL_113 rfl rfl rfl (by decide) (Nat.le_of_ble_eq_true rfl) (Nat.le_of_ble_eq_true rfl) rfl (fun _ _ => ⟨_, rfl⟩) ?_
        refine GX.run0 hR 1 (pc' := 327) (L' := [some (vR 0), some (vR 200), some (vR 150), some (vI z), some (vI 7), some (vI (smI (iSr z 2) 24)), some (vI (τ.1 1)), some (vI 1111), some (vI b), some (vI (τ.2.1 2 (smI (iSr z 2) 24))), some (vI (trT τ (τ.1 1))), some (vI v15), some (vI 1)]) (st' := [vI (τ.1 1), vI (σ16.2.1 2 (smI (iSr z 2) 24))]) (X' := [(150, .inl (20, .inl q))]) (fun _ _ => rfl) ?_
        refine GX.br hR (pc1 := 372) (pc2 := 330) (st1 := []) (C := σ16.2.1 2 (smI (iSr z 2) 24) ≠ τ.1 1) (fun _ => rfl) (by first | omega | (dsimp only; omega)) (fun h31 => (by exfalso; omega)) (fun h31 => ?_)
        refine GX.run0 hR 3 (pc' := 335) (L' := [some (vR 0), some (vR 200), some (vR 150), some (vI z), some (vI 7), some (vI (smI (iSr z 2) 24)), some (vI (τ.1 1)), some (vI 1111), some (vI b), some (vI (τ.2.1 2 (smI (iSr z 2) 24))), some (vI (trT τ (τ.1 1))), some (vI v15), some (vI 1)]) (st' := [vI (τ.1 1), vR 0, vI v15]) (X' := [(150, .inl (20, .inl q))]) (fun _ _ => rfl) ?_
        have f32 := ptsF_r (τ.1 1) (hI2.hcd (τ.1 1) 4)
        refine GX.ask hR hro [vI (τ.1 1)] ((q_points σ16 (by omega)).gt) kL_98 rfl rfl rfl (by decide) (Nat.le_of_ble_eq_true rfl) (Nat.le_of_ble_eq_true rfl) rfl (fun _ _ => ⟨_, rfl⟩) ?_
        refine GX.br hR (pc1 := 372) (pc2 := 341) (st1 := []) (C := v15 ≠ ptsF σ16 (τ.1 1)) (fun _ => rfl) (by first | omega | (dsimp only; omega)) (fun h33 => (by exfalso; omega)) (fun h33 => ?_)
        refine GX.run0 hR 3 (pc' := 373) (L' := [some (vR 0), some (vR 200), some (vR 150), some (vI z), some (vI 7), some (vI (smI (iSr z 2) 24)), some (vI (τ.1 1)), some (vI 1111), some (vI b), some (vI (τ.2.1 2 (smI (iSr z 2) 24))), some (vI (trT τ (τ.1 1))), some (vI v15), some (vI 1)]) (st' := [vI 1]) (X' := [(150, .inl (20, .inl q))]) (fun _ _ => rfl) ?_
        exact GX.rt hR hk rfl (.inr rfl) ⟨rfl, hO⟩
  exact hL 0 (Nat.zero_le _) 1 (by omega) (fun _ => rfl)
set_option maxHeartbeats 4000000 in
theorem w_builds2 {ro : PRO} (hro : ∀ q ∈ roC, q ∈ ro) {τ : St} (hJ : Jx τ) {q : Int → Int} (hq : isQ (τ.2.2 0) q) (hO0 : Ov τ) (z : Int) (hw : smI z 3 = 2) : SX mL_builds ro 15 [vR 0, vR 200, vR 150, vI z] τ [(150, .inl (20, .inl q))] (fun i σ => i = 1 ∧ Ov σ) 2 := by
  have hI := hJ.iv
  refine SX.of rfl tL_builds (Nat.le_of_ble_eq_true rfl) (fun G ks hk hR => ?_)
  show GX G 0 τ ([(150, .inl (20, .inl q))]) 0 [some (vR 0), some (vR 200), some (vR 150), some (vI z), none, none, none, none, none, none, none, none, none] []
  have hqr := hq.r hI
  have ht := hI.htu
  refine GX.run0 hR 3 (pc' := 4) (L' := [some (vR 0), some (vR 200), some (vR 150), some (vI z), none, none, none, none, none, none, none, none, none]) (st' := [vI 3, vI z, vI 6]) (X' := [(150, .inl (20, .inl q))]) (fun _ _ => rfl) ?_
  have f1 := smI_r z (n := 3) (by omega)
  refine GX.sx hR [vI z, vI 3] (fun w => lp_some (x := z) (n := 3) (by omega) w) kL_158 rfl rfl (by decide) (Nat.le_of_ble_eq_true rfl) (Nat.le_of_ble_eq_true rfl) rfl ?_
  rw [hw]
  refine GX.run0 hR 7 (pc' := 17) (L' := [some (vR 0), some (vR 200), some (vR 150), some (vI z), some (vI 8), none, none, none, none, none, none, none, none]) (st' := [vI 6, vI 8, vI (iSr z 2)]) (X' := [(150, .inl (20, .inl q))]) (fun _ _ => rfl) ?_
  refine GX.br hR (pc1 := 25) (pc2 := 20) (st1 := [vI (iSr z 2)]) (C := (8 : Int) ≠ 6) (fun _ => rfl) (by first | omega | (dsimp only; omega)) (fun h2 => ?_) (fun h2 => (by exfalso; omega))
  refine GX.run0 hR 1 (pc' := 27) (L' := [some (vR 0), some (vR 200), some (vR 150), some (vI z), some (vI 8), none, none, none, none, none, none, none, none]) (st' := [vI 24, vI (iSr z 2)]) (X' := [(150, .inl (20, .inl q))]) (fun _ _ => rfl) ?_
  have f3 := smI_r (iSr z 2) (n := 24) (by omega)
  refine GX.sx hR [vI (iSr z 2), vI 24] (fun w => lp_some (x := iSr z 2) (n := 24) (by omega) w) kL_158 rfl rfl (by decide) (Nat.le_of_ble_eq_true rfl) (Nat.le_of_ble_eq_true rfl) rfl ?_
  refine GX.run0 hR 2 (pc' := 33) (L' := [some (vR 0), some (vR 200), some (vR 150), some (vI z), some (vI 8), some (vI (smI (iSr z 2) 24)), none, none, none, none, none, none, none]) (st' := [vR 0]) (X' := [(150, .inl (20, .inl q))]) (fun _ _ => rfl) ?_
  have f4 := hI.htu
  refine GX.ask hR hro [] ((q_turn τ).gt) kL_130 rfl rfl rfl (by decide) (Nat.le_of_ble_eq_true rfl) (Nat.le_of_ble_eq_true rfl) rfl (fun _ _ => ⟨_, rfl⟩) ?_
  refine GX.run0 hR 3 (pc' := 42) (L' := [some (vR 0), some (vR 200), some (vR 150), some (vI z), some (vI 8), some (vI (smI (iSr z 2) 24)), some (vI (τ.1 1)), none, none, none, none, none, none]) (st' := [vI 6, vI 8]) (X' := [(150, .inl (20, .inl q))]) (fun _ _ => rfl) ?_
  refine GX.br hR (pc1 := 50) (pc2 := 45) (st1 := []) (C := (8 : Int) ≠ 6) (fun _ => rfl) (by first | omega | (dsimp only; omega)) (fun h5 => ?_) (fun h5 => (by exfalso; omega))
  refine GX.run0 hR 2 (pc' := 54) (L' := [some (vR 0), some (vR 200), some (vR 150), some (vI z), some (vI 8), some (vI (smI (iSr z 2) 24)), some (vI (τ.1 1)), none, none, none, none, none, none]) (st' := [vI 7, vI 8]) (X' := [(150, .inl (20, .inl q))]) (fun _ _ => rfl) ?_
  refine GX.br hR (pc1 := 63) (pc2 := 57) (st1 := []) (C := (8 : Int) ≠ 7) (fun _ => rfl) (by first | omega | (dsimp only; omega)) (fun h6 => ?_) (fun h6 => (by exfalso; omega))
  refine GX.run0 hR 6 (pc' := 74) (L' := [some (vR 0), some (vR 200), some (vR 150), some (vI z), some (vI 8), some (vI (smI (iSr z 2) 24)), some (vI (τ.1 1)), some (vI 32000), some (vI 1), some (vI 0), none, none, none]) (st' := []) (X' := [(150, .inl (20, .inl q))]) (fun _ _ => rfl) ?_
  have hL : ∀ k : Nat, k ≤ 5 → ∀ b : Int, (b = 0 ∨ b = 1) → (hasG (τ.2.2 0) (τ.1 1) 32000 = true → b = 1) → GX G 0 τ ([(150, .inl (20, .inl q))]) 74 [some (vR 0), some (vR 200), some (vR 150), some (vI z), some (vI 8), some (vI (smI (iSr z 2) 24)), some (vI (τ.1 1)), some (vI 32000), some (vI b), some (vI (k : Int)), none, none, none] [] := by
    refine back (P := fun k : Nat => ∀ b : Int, (b = 0 ∨ b = 1) → (hasG (τ.2.2 0) (τ.1 1) 32000 = true → b = 1) → GX G 0 τ ([(150, .inl (20, .inl q))]) 74 [some (vR 0), some (vR 200), some (vR 150), some (vI z), some (vI 8), some (vI (smI (iSr z 2) 24)), some (vI (τ.1 1)), some (vI 32000), some (vI b), some (vI (k : Int)), none, none, none] []) ?_ ?_
    · intro k hk ih b hb hgb
      have hkq := hq.at (p := τ.1 1) (g := (k : Int)) (by omega) (by omega)
      have hkr := hI.hh (τ.1 1) (k : Int)
      have hkg : hasG (τ.2.2 0) (τ.1 1) 32000 = true → dgt 32000 (k : Int) ≤ τ.2.2 0 (τ.1 1) (k : Int) := fun hg => hasG_le hg (k : Int) (by omega)
      replace ih : ∀ b : Int, (b = 0 ∨ b = 1) → (hasG (τ.2.2 0) (τ.1 1) 32000 = true → b = 1) → GX G 0 τ ([(150, .inl (20, .inl q))]) 74 [some (vR 0), some (vR 200), some (vR 150), some (vI z), some (vI 8), some (vI (smI (iSr z 2) 24)), some (vI (τ.1 1)), some (vI 32000), some (vI b), some (vI ((k : Int) + 1)), none, none, none] [] := ih
      refine GX.run0 hR 2 (pc' := 77) (L' := [some (vR 0), some (vR 200), some (vR 150), some (vI z), some (vI 8), some (vI (smI (iSr z 2) 24)), some (vI (τ.1 1)), some (vI 32000), some (vI b), some (vI (k : Int)), none, none, none]) (st' := [vI 5, vI (k : Int)]) (X' := [(150, .inl (20, .inl q))]) (fun _ _ => rfl) ?_
      refine GX.br hR (pc1 := 117) (pc2 := 80) (st1 := []) (C := 5 ≤ (k : Int)) (fun _ => rfl) (by first | omega | (dsimp only; omega)) (fun h7 => (by exfalso; omega)) (fun h7 => ?_)
      refine GX.run0 hR 1 (pc' := 82) (L' := [some (vR 0), some (vR 200), some (vR 150), some (vI z), some (vI 8), some (vI (smI (iSr z 2) 24)), some (vI (τ.1 1)), some (vI 32000), some (vI b), some (vI (k : Int)), none, none, none]) (st' := [vI b]) (X' := [(150, .inl (20, .inl q))]) (fun _ _ => rfl) ?_
      refine GX.br hR (pc1 := 108) (pc2 := 85) (st1 := []) (C := b = 0) (fun _ => rfl) (by first | omega | (dsimp only; omega)) (fun h8 => ?_) (fun h8 => ?_)
      · skip
        refine GX.run0 hR 4 (pc' := 74) (L' := [some (vR 0), some (vR 200), some (vR 150), some (vI z), some (vI 8), some (vI (smI (iSr z 2) 24)), some (vI (τ.1 1)), some (vI 32000), some (vI 0), some (vI ((k : Int) + 1)), none, none, none]) (st' := []) (X' := [(150, .inl (20, .inl q))]) (fun _ _ => rfl) ?_
        exact ih 0 (by omega) (fun hg => by have q1 := hkg hg; have q2 := hgb hg; omega)
      · skip
        refine GX.run1 hR 9 (pc' := 98) (L' := [some (vR 0), some (vR 200), some (vR 150), some (vI z), some (vI 8), some (vI (smI (iSr z 2) 24)), some (vI (τ.1 1)), some (vI 32000), some (vI b), some (vI (k : Int)), none, none, none]) (st' := [vI (k : Int), vI 32000, vI (q ((5 * (τ.1 1)) + (k : Int)))]) (X' := [(150, .inl (20, .inl q))]) (fun _ _ => rfl) (by first | omega | (dsimp only; omega)) ?_
        have f9 := dgt_r 32000 (k : Int)
        refine GX.sx hR [vI 32000, vI (k : Int)] (fun w => lp_digit (n := 32000) (k := (k : Int)) (by omega) (by omega) w) kL_152 rfl rfl (by decide) (Nat.le_of_ble_eq_true rfl) (Nat.le_of_ble_eq_true rfl) rfl ?_
        refine GX.br hR (pc1 := 108) (pc2 := 104) (st1 := []) (C := q ((5 * (τ.1 1)) + (k : Int)) < dgt 32000 (k : Int)) (fun _ => rfl) (by first | omega | (dsimp only; omega)) (fun h10 => ?_) (fun h10 => ?_)
        · skip
          refine GX.run0 hR 4 (pc' := 74) (L' := [some (vR 0), some (vR 200), some (vR 150), some (vI z), some (vI 8), some (vI (smI (iSr z 2) 24)), some (vI (τ.1 1)), some (vI 32000), some (vI 0), some (vI ((k : Int) + 1)), none, none, none]) (st' := []) (X' := [(150, .inl (20, .inl q))]) (fun _ _ => rfl) ?_
          exact ih 0 (by omega) (fun hg => by have q1 := hkg hg; have q2 := hgb hg; omega)
        · skip
          refine GX.run0 hR 5 (pc' := 74) (L' := [some (vR 0), some (vR 200), some (vR 150), some (vI z), some (vI 8), some (vI (smI (iSr z 2) 24)), some (vI (τ.1 1)), some (vI 32000), some (vI 1), some (vI ((k : Int) + 1)), none, none, none]) (st' := []) (X' := [(150, .inl (20, .inl q))]) (fun _ _ => rfl) ?_
          exact ih 1 (by omega) (fun hg => by have q1 := hkg hg; have q2 := hgb hg; omega)
    · intro b hb hgb
      show GX G 0 τ ([(150, .inl (20, .inl q))]) 74 [some (vR 0), some (vR 200), some (vR 150), some (vI z), some (vI 8), some (vI (smI (iSr z 2) 24)), some (vI (τ.1 1)), some (vI 32000), some (vI b), some (vI 5), none, none, none] []
      refine GX.run0 hR 2 (pc' := 77) (L' := [some (vR 0), some (vR 200), some (vR 150), some (vI z), some (vI 8), some (vI (smI (iSr z 2) 24)), some (vI (τ.1 1)), some (vI 32000), some (vI b), some (vI 5), none, none, none]) (st' := [vI 5, vI 5]) (X' := [(150, .inl (20, .inl q))]) (fun _ _ => rfl) ?_
      refine GX.br hR (pc1 := 117) (pc2 := 80) (st1 := []) (C := (5 : Int) ≤ 5) (fun _ => rfl) (by first | omega | (dsimp only; omega)) (fun h11 => ?_) (fun h11 => (by exfalso; omega))
      refine GX.run0 hR 2 (pc' := 121) (L' := [some (vR 0), some (vR 200), some (vR 150), some (vI z), some (vI 8), some (vI (smI (iSr z 2) 24)), some (vI (τ.1 1)), some (vI 32000), some (vI b), some (vI 5), none, none, none]) (st' := [vI 6, vI 8]) (X' := [(150, .inl (20, .inl q))]) (fun _ _ => rfl) ?_
      refine GX.br hR (pc1 := 133) (pc2 := 124) (st1 := []) (C := (8 : Int) ≠ 6) (fun _ => rfl) (by first | omega | (dsimp only; omega)) (fun h12 => ?_) (fun h12 => (by exfalso; omega))
      refine GX.run0 hR 2 (pc' := 136) (L' := [some (vR 0), some (vR 200), some (vR 150), some (vI z), some (vI 8), some (vI (smI (iSr z 2) 24)), some (vI (τ.1 1)), some (vI 32000), some (vI b), some (vI 5), none, none, none]) (st' := [vI (smI (iSr z 2) 24), vR 0]) (X' := [(150, .inl (20, .inl q))]) (fun _ _ => rfl) ?_
      have f13 := hI.hb (smI (iSr z 2) 24)
      refine GX.ask hR hro [vI (smI (iSr z 2) 24)] ((q_building τ (by omega)).gt) kL_113 rfl rfl rfl (by decide) (Nat.le_of_ble_eq_true rfl) (Nat.le_of_ble_eq_true rfl) rfl (fun _ _ => ⟨_, rfl⟩) ?_
      refine GX.run0 hR 3 (pc' := 144) (L' := [some (vR 0), some (vR 200), some (vR 150), some (vI z), some (vI 8), some (vI (smI (iSr z 2) 24)), some (vI (τ.1 1)), some (vI 32000), some (vI b), some (vI (τ.2.1 2 (smI (iSr z 2) 24))), none, none, none]) (st' := [vI (τ.1 1), vR 0]) (X' := [(150, .inl (20, .inl q))]) (fun _ _ => rfl) ?_
      have f14 := trT_r hI.lh (τ.1 1) (by omega)
      refine GX.ask hR hro [vI (τ.1 1)] (q_trail τ (by omega)) kL_101 rfl rfl rfl (by decide) (Nat.le_of_ble_eq_true rfl) (Nat.le_of_ble_eq_true rfl) rfl (fun _ _ => ⟨_, rfl⟩) ?_
      refine GX.run0 hR 7 (pc' := 157) (L' := [some (vR 0), some (vR 200), some (vR 150), some (vI z), some (vI 8), some (vI (smI (iSr z 2) 24)), some (vI (τ.1 1)), some (vI 32000), some (vI b), some (vI (τ.2.1 2 (smI (iSr z 2) 24))), some (vI (trT τ (τ.1 1))), none, none]) (st' := [vI 0, vI 0, vI (smI (iSr z 2) 24), vI 8, vR 200, vR 0]) (X' := [(150, .inl (20, .inl q))]) (fun _ _ => rfl) ?_
      obtain ⟨v15, σ16, hcl, hc⟩ := s_city hJ (e := smI (iSr z 2) 24) (by omega) 0 0
      refine GX.bo hR hro hcl rfl (by decide) (Nat.le_of_ble_eq_true rfl) rfl (by decide) (fun hJ2 => ?_)
      have hI2 := hJ2.iv
      rcases hc with ⟨e1, e2⟩ | ⟨hg, e1, e2, e3, e4, hO⟩
      · skip
        rw [e1, e2]
        refine GX.run0 hR 3 (pc' := 167) (L' := [some (vR 0), some (vR 200), some (vR 150), some (vI z), some (vI 8), some (vI (smI (iSr z 2) 24)), some (vI (τ.1 1)), some (vI 32000), some (vI b), some (vI (τ.2.1 2 (smI (iSr z 2) 24))), some (vI (trT τ (τ.1 1))), some (vI (-1123)), none]) (st' := [vI (-1123), vI (-1123)]) (X' := [(150, .inl (20, .inl q))]) (fun _ _ => rfl) ?_
        refine GX.br hR (pc1 := 214) (pc2 := 170) (st1 := []) (C := ((-1123) : Int) ≠ (-1123)) (fun _ => rfl) (by first | omega | (dsimp only; omega)) (fun h17 => (by exfalso; omega)) (fun h17 => ?_)
        refine GX.run0 hR 5 (pc' := 175) (L' := [some (vR 0), some (vR 200), some (vR 150), some (vI z), some (vI 8), some (vI (smI (iSr z 2) 24)), some (vI (τ.1 1)), some (vI 32000), some (vI b), some (vI (τ.2.1 2 (smI (iSr z 2) 24))), some (vI (trT τ (τ.1 1))), some (vI (-1123)), none]) (st' := [vI 0, vI 0, vI 0, vR 150, vR 0]) (X' := [(150, .inl (20, .inl q))]) (fun _ _ => rfl) ?_
        refine GX.sg hR [vR 0, vR 150, vI 0, vI 0, vI 0] (fun κ κ2 hJ hJ2 => lp_moved hro hJ κ2 (q := q) (f := 0) (t := 0) (n := 0) (by omega) (by omega) (by omega) hqr (mvd_0 hq rfl)) kL_169 rfl rfl (by decide) (Nat.le_of_ble_eq_true rfl) (Nat.le_of_ble_eq_true rfl) rfl ?_
        refine GX.br hR (pc1 := 212) (pc2 := 181) (st1 := []) (C := (1 : Int) = 0) (fun _ => rfl) (by first | omega | (dsimp only; omega)) (fun h18 => (by exfalso; omega)) (fun h18 => ?_)
        refine GX.run0 hR 2 (pc' := 185) (L' := [some (vR 0), some (vR 200), some (vR 150), some (vI z), some (vI 8), some (vI (smI (iSr z 2) 24)), some (vI (τ.1 1)), some (vI 32000), some (vI b), some (vI (τ.2.1 2 (smI (iSr z 2) 24))), some (vI (trT τ (τ.1 1))), some (vI (-1123)), none]) (st' := [vI 6, vI 8]) (X' := [(150, .inl (20, .inl q))]) (fun _ _ => rfl) ?_
        refine GX.br hR (pc1 := 197) (pc2 := 188) (st1 := []) (C := (8 : Int) ≠ 6) (fun _ => rfl) (by first | omega | (dsimp only; omega)) (fun h19 => ?_) (fun h19 => (by exfalso; omega))
        refine GX.run0 hR 2 (pc' := 200) (L' := [some (vR 0), some (vR 200), some (vR 150), some (vI z), some (vI 8), some (vI (smI (iSr z 2) 24)), some (vI (τ.1 1)), some (vI 32000), some (vI b), some (vI (τ.2.1 2 (smI (iSr z 2) 24))), some (vI (trT τ (τ.1 1))), some (vI (-1123)), none]) (st' := [vI (smI (iSr z 2) 24), vR 0]) (X' := [(150, .inl (20, .inl q))]) (fun _ _ => rfl) ?_
        have f20 := hI.hb (smI (iSr z 2) 24)
        refine GX.ask hR hro [vI (smI (iSr z 2) 24)] ((q_building τ (by omega)).gt) kL_113 rfl rfl rfl (by decide) (Nat.le_of_ble_eq_true rfl) (Nat.le_of_ble_eq_true rfl) rfl (fun _ _ => ⟨_, rfl⟩) ?_
        refine GX.run0 hR 1 (pc' := 205) (L' := [some (vR 0), some (vR 200), some (vR 150), some (vI z), some (vI 8), some (vI (smI (iSr z 2) 24)), some (vI (τ.1 1)), some (vI 32000), some (vI b), some (vI (τ.2.1 2 (smI (iSr z 2) 24))), some (vI (trT τ (τ.1 1))), some (vI (-1123)), none]) (st' := [vI (τ.2.1 2 (smI (iSr z 2) 24)), vI (τ.2.1 2 (smI (iSr z 2) 24))]) (X' := [(150, .inl (20, .inl q))]) (fun _ _ => rfl) ?_
        refine GX.br hR (pc1 := 212) (pc2 := 208) (st1 := []) (C := τ.2.1 2 (smI (iSr z 2) 24) ≠ τ.2.1 2 (smI (iSr z 2) 24)) (fun _ => rfl) (by first | omega | (dsimp only; omega)) (fun h21 => (by exfalso; omega)) (fun h21 => ?_)
        refine GX.run0 hR 2 (pc' := 213) (L' := [some (vR 0), some (vR 200), some (vR 150), some (vI z), some (vI 8), some (vI (smI (iSr z 2) 24)), some (vI (τ.1 1)), some (vI 32000), some (vI b), some (vI (τ.2.1 2 (smI (iSr z 2) 24))), some (vI (trT τ (τ.1 1))), some (vI (-1123)), none]) (st' := [vI 1]) (X' := [(150, .inl (20, .inl q))]) (fun _ _ => rfl) ?_
        exact GX.rt hR hk rfl (.inr rfl) ⟨rfl, hO0⟩
      · skip
        have hb1 := hgb hg
        have hr2 := ptsF_r (τ := σ16) (τ.1 1) (hI2.hcd (τ.1 1) 4)
        refine GX.run0 hR 3 (pc' := 167) (L' := [some (vR 0), some (vR 200), some (vR 150), some (vI z), some (vI 8), some (vI (smI (iSr z 2) 24)), some (vI (τ.1 1)), some (vI 32000), some (vI b), some (vI (τ.2.1 2 (smI (iSr z 2) 24))), some (vI (trT τ (τ.1 1))), some (vI v15), none]) (st' := [vI (-1123), vI v15]) (X' := [(150, .inl (20, .inl q))]) (fun _ _ => rfl) ?_
        refine GX.br hR (pc1 := 214) (pc2 := 170) (st1 := []) (C := v15 ≠ (-1123)) (fun _ => rfl) (by first | omega | (dsimp only; omega)) (fun h22 => ?_) (fun h22 => (by exfalso; omega))
        refine GX.run0 hR 1 (pc' := 216) (L' := [some (vR 0), some (vR 200), some (vR 150), some (vI z), some (vI 8), some (vI (smI (iSr z 2) 24)), some (vI (τ.1 1)), some (vI 32000), some (vI b), some (vI (τ.2.1 2 (smI (iSr z 2) 24))), some (vI (trT τ (τ.1 1))), some (vI v15), none]) (st' := [vI b]) (X' := [(150, .inl (20, .inl q))]) (fun _ _ => rfl) ?_
        refine GX.br hR (pc1 := 254) (pc2 := 219) (st1 := []) (C := b = 0) (fun _ => rfl) (by first | omega | (dsimp only; omega)) (fun h23 => (by exfalso; omega)) (fun h23 => ?_)
        refine GX.run0 hR 5 (pc' := 226) (L' := [some (vR 0), some (vR 200), some (vR 150), some (vI z), some (vI 8), some (vI (smI (iSr z 2) 24)), some (vI (τ.1 1)), some (vI 32000), some (vI b), some (vI (τ.2.1 2 (smI (iSr z 2) 24))), some (vI (trT τ (τ.1 1))), some (vI v15), none]) (st' := [vI 32000, vI 3, vI (τ.1 1), vR 150, vR 0]) (X' := [(150, .inl (20, .inl q))]) (fun _ _ => rfl) ?_
        refine GX.sg hR [vR 0, vR 150, vI (τ.1 1), vI 3, vI 32000] (fun κ κ2 hJ hJ2 => lp_moved hro hJ κ2 (q := q) (f := τ.1 1) (t := 3) (n := 32000) (by omega) (by omega) (by omega) hqr (mvd_of hq e1)) kL_169 rfl rfl (by decide) (Nat.le_of_ble_eq_true rfl) (Nat.le_of_ble_eq_true rfl) rfl ?_
        refine GX.br hR (pc1 := 254) (pc2 := 232) (st1 := []) (C := (1 : Int) = 0) (fun _ => rfl) (by first | omega | (dsimp only; omega)) (fun h24 => (by exfalso; omega)) (fun h24 => ?_)
        refine GX.run0 hR 3 (pc' := 238) (L' := [some (vR 0), some (vR 200), some (vR 150), some (vI z), some (vI 8), some (vI (smI (iSr z 2) 24)), some (vI (τ.1 1)), some (vI 32000), some (vI b), some (vI (τ.2.1 2 (smI (iSr z 2) 24))), some (vI (trT τ (τ.1 1))), some (vI v15), none]) (st' := [vI 8, vI 8, vI (τ.2.1 2 (smI (iSr z 2) 24))]) (X' := [(150, .inl (20, .inl q))]) (fun _ _ => rfl) ?_
        refine GX.br hR (pc1 := 246) (pc2 := 241) (st1 := [vI (τ.2.1 2 (smI (iSr z 2) 24))]) (C := (8 : Int) ≠ 8) (fun _ => rfl) (by first | omega | (dsimp only; omega)) (fun h25 => (by exfalso; omega)) (fun h25 => ?_)
        refine GX.run0 hR 2 (pc' := 247) (L' := [some (vR 0), some (vR 200), some (vR 150), some (vI z), some (vI 8), some (vI (smI (iSr z 2) 24)), some (vI (τ.1 1)), some (vI 32000), some (vI b), some (vI (τ.2.1 2 (smI (iSr z 2) 24))), some (vI (trT τ (τ.1 1))), some (vI v15), none]) (st' := [vI (τ.1 1), vI (τ.2.1 2 (smI (iSr z 2) 24))]) (X' := [(150, .inl (20, .inl q))]) (fun _ _ => rfl) ?_
        refine GX.br hR (pc1 := 254) (pc2 := 250) (st1 := []) (C := τ.2.1 2 (smI (iSr z 2) 24) ≠ τ.1 1) (fun _ => rfl) (by first | omega | (dsimp only; omega)) (fun h26 => (by exfalso; omega)) (fun h26 => ?_)
        refine GX.run0 hR 4 (pc' := 259) (L' := [some (vR 0), some (vR 200), some (vR 150), some (vI z), some (vI 8), some (vI (smI (iSr z 2) 24)), some (vI (τ.1 1)), some (vI 32000), some (vI b), some (vI (τ.2.1 2 (smI (iSr z 2) 24))), some (vI (trT τ (τ.1 1))), some (vI v15), some (vI 1)]) (st' := [vI 1]) (X' := [(150, .inl (20, .inl q))]) (fun _ _ => rfl) ?_
        refine GX.br hR (pc1 := 372) (pc2 := 262) (st1 := []) (C := (1 : Int) = 0) (fun _ => rfl) (by first | omega | (dsimp only; omega)) (fun h27 => (by exfalso; omega)) (fun h27 => ?_)
        refine GX.run0 hR 2 (pc' := 266) (L' := [some (vR 0), some (vR 200), some (vR 150), some (vI z), some (vI 8), some (vI (smI (iSr z 2) 24)), some (vI (τ.1 1)), some (vI 32000), some (vI b), some (vI (τ.2.1 2 (smI (iSr z 2) 24))), some (vI (trT τ (τ.1 1))), some (vI v15), some (vI 1)]) (st' := [vI 6, vI 8]) (X' := [(150, .inl (20, .inl q))]) (fun _ _ => rfl) ?_
        refine GX.br hR (pc1 := 312) (pc2 := 269) (st1 := []) (C := (8 : Int) ≠ 6) (fun _ => rfl) (by first | omega | (dsimp only; omega)) (fun h28 => ?_) (fun h28 => (by exfalso; omega))
        refine GX.run0 hR 2 (pc' := 316) (L' := [some (vR 0), some (vR 200), some (vR 150), some (vI z), some (vI 8), some (vI (smI (iSr z 2) 24)), some (vI (τ.1 1)), some (vI 32000), some (vI b), some (vI (τ.2.1 2 (smI (iSr z 2) 24))), some (vI (trT τ (τ.1 1))), some (vI v15), some (vI 1)]) (st' := [vI 7, vI 8]) (X' := [(150, .inl (20, .inl q))]) (fun _ _ => rfl) ?_
        refine GX.br hR (pc1 := 344) (pc2 := 319) (st1 := []) (C := (8 : Int) ≠ 7) (fun _ => rfl) (by first | omega | (dsimp only; omega)) (fun h29 => ?_) (fun h29 => (by exfalso; omega))
        refine GX.run0 hR 2 (pc' := 347) (L' := [some (vR 0), some (vR 200), some (vR 150), some (vI z), some (vI 8), some (vI (smI (iSr z 2) 24)), some (vI (τ.1 1)), some (vI 32000), some (vI b), some (vI (τ.2.1 2 (smI (iSr z 2) 24))), some (vI (trT τ (τ.1 1))), some (vI v15), some (vI 1)]) (st' := [vI (smI (iSr z 2) 24), vR 0]) (X' := [(150, .inl (20, .inl q))]) (fun _ _ => rfl) ?_
        have f30 := hI2.hb (smI (iSr z 2) 24)
        refine GX.ask hR hro [vI (smI (iSr z 2) 24)] ((q_building σ16 (by omega)).gt) kL_113 rfl rfl rfl (by decide) (Nat.le_of_ble_eq_true rfl) (Nat.le_of_ble_eq_true rfl) rfl (fun _ _ => ⟨_, rfl⟩) ?_
        refine GX.run0 hR 3 (pc' := 354) (L' := [some (vR 0), some (vR 200), some (vR 150), some (vI z), some (vI 8), some (vI (smI (iSr z 2) 24)), some (vI (τ.1 1)), some (vI 32000), some (vI b), some (vI (τ.2.1 2 (smI (iSr z 2) 24))), some (vI (trT τ (τ.1 1))), some (vI v15), some (vI 1)]) (st' := [vI ((τ.1 1) + 3), vI (σ16.2.1 2 (smI (iSr z 2) 24))]) (X' := [(150, .inl (20, .inl q))]) (fun _ _ => rfl) ?_
        refine GX.br hR (pc1 := 372) (pc2 := 357) (st1 := []) (C := σ16.2.1 2 (smI (iSr z 2) 24) ≠ (τ.1 1) + 3) (fun _ => rfl) (by first | omega | (dsimp only; omega)) (fun h31 => (by exfalso; omega)) (fun h31 => ?_)
        refine GX.run0 hR 3 (pc' := 362) (L' := [some (vR 0), some (vR 200), some (vR 150), some (vI z), some (vI 8), some (vI (smI (iSr z 2) 24)), some (vI (τ.1 1)), some (vI 32000), some (vI b), some (vI (τ.2.1 2 (smI (iSr z 2) 24))), some (vI (trT τ (τ.1 1))), some (vI v15), some (vI 1)]) (st' := [vI (τ.1 1), vR 0, vI v15]) (X' := [(150, .inl (20, .inl q))]) (fun _ _ => rfl) ?_
        have f32 := ptsF_r (τ.1 1) (hI2.hcd (τ.1 1) 4)
        refine GX.ask hR hro [vI (τ.1 1)] ((q_points σ16 (by omega)).gt) kL_98 rfl rfl rfl (by decide) (Nat.le_of_ble_eq_true rfl) (Nat.le_of_ble_eq_true rfl) rfl (fun _ _ => ⟨_, rfl⟩) ?_
        refine GX.br hR (pc1 := 372) (pc2 := 368) (st1 := []) (C := v15 ≠ ptsF σ16 (τ.1 1)) (fun _ => rfl) (by first | omega | (dsimp only; omega)) (fun h33 => (by exfalso; omega)) (fun h33 => ?_)
        refine GX.run0 hR 2 (pc' := 373) (L' := [some (vR 0), some (vR 200), some (vR 150), some (vI z), some (vI 8), some (vI (smI (iSr z 2) 24)), some (vI (τ.1 1)), some (vI 32000), some (vI b), some (vI (τ.2.1 2 (smI (iSr z 2) 24))), some (vI (trT τ (τ.1 1))), some (vI v15), some (vI 1)]) (st' := [vI 1]) (X' := [(150, .inl (20, .inl q))]) (fun _ _ => rfl) ?_
        exact GX.rt hR hk rfl (.inr rfl) ⟨rfl, hO⟩
  exact hL 0 (Nat.zero_le _) 1 (by omega) (fun _ => rfl)
theorem w_builds {ro : PRO} (hro : ∀ q ∈ roC, q ∈ ro) {τ : St} (hJ : Jx τ) {q : Int → Int} (hq : isQ (τ.2.2 0) q) (hO0 : Ov τ) (z : Int) : SX mL_builds ro 15 [vR 0, vR 200, vR 150, vI z] τ [(150, .inl (20, .inl q))] (fun i σ => i = 1 ∧ Ov σ) 2 := by
  have h := smI_r z (n := 3) (by omega)
  rcases (show smI z 3 = 0 ∨ smI z 3 = 1 ∨ smI z 3 = 2 from by omega) with h | h | h
  · exact w_builds0 hro hJ hq hO0 z h
  · exact w_builds1 hro hJ hq hO0 z h
  · exact w_builds2 hro hJ hq hO0 z h
