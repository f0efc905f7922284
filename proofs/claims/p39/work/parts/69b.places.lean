/-! ===== placing, as the law looks at it ===== -/
theorem w_places {ro : PRO} (hro : ∀ q ∈ roC, q ∈ ro) {τ : St} (hJ : Jx τ) {q : Int → Int} (z : Int) (h0 : τ.1 0 = 0) : SX mL_places ro 15 [vR 0, vR 200, vI z] τ [(150, .inl (20, .inl q))] (fun i σ => i = 1 ∧ Ov σ) 2 := by
  have hI := hJ.iv
  refine SX.of rfl tL_places (Nat.le_of_ble_eq_true rfl) (fun G ks hk hR => ?_)
  show GX G 0 τ ([(150, .inl (20, .inl q))]) 0 [some (vR 0), some (vR 200), some (vI z), none, none, none, none] []
  refine GX.run0 hR 1 (pc' := 1) (L' := [some (vR 0), some (vR 200), some (vI z), none, none, none, none]) (st' := [vR 0]) (X' := [(150, .inl (20, .inl q))]) (fun _ _ => rfl) ?_
  have f1 := hI.htu
  refine GX.ask hR hro [] ((q_turn τ).gt) kL_130 rfl rfl rfl (by decide) (Nat.le_of_ble_eq_true rfl) (Nat.le_of_ble_eq_true rfl) rfl (fun _ _ => ⟨_, rfl⟩) ?_
  refine GX.run0 hR 3 (pc' := 8) (L' := [some (vR 0), some (vR 200), some (vI z), some (vI (τ.1 1)), none, none, none]) (st' := [vI 24, vI z]) (X' := [(150, .inl (20, .inl q))]) (fun _ _ => rfl) ?_
  have f2 := smI_r z (n := 24) (by omega)
  refine GX.sx hR [vI z, vI 24] (fun w => lp_some (x := z) (n := 24) (by omega) w) kL_158 rfl rfl (by decide) (Nat.le_of_ble_eq_true rfl) (Nat.le_of_ble_eq_true rfl) rfl ?_
  refine GX.run0 hR 3 (pc' := 17) (L' := [some (vR 0), some (vR 200), some (vI z), some (vI (τ.1 1)), some (vI (smI z 24)), none, none]) (st' := [vI 6, vI (smI z 24)]) (X' := [(150, .inl (20, .inl q))]) (fun _ _ => rfl) ?_
  have fc := smI_r z (n := 24) (by omega)
  have main : ∀ e : Int, 0 ≤ e ∧ e < 30 → GX G 0 τ ([(150, .inl (20, .inl q))]) 62 [some (vR 0), some (vR 200), some (vI z), some (vI (τ.1 1)), some (vI (smI z 24)), some (vI e), none] [] := by
    intro e he
    refine GX.run0 hR 6 (pc' := 70) (L' := [some (vR 0), some (vR 200), some (vI z), some (vI (τ.1 1)), some (vI (smI z 24)), some (vI e), none]) (st' := [vI 0, vI e, vI (smI z 24), vI 1, vR 200, vR 0]) (X' := [(150, .inl (20, .inl q))]) (fun _ _ => rfl) ?_
    obtain ⟨v3, σ4, hcl, hc⟩ := s_place hJ h0 (c := smI z 24) (e := e) (by omega) he 0
    refine GX.bo hR hro hcl rfl (by decide) (Nat.le_of_ble_eq_true rfl) rfl (by decide) (fun hJ2 => ?_)
    have hI2 := hJ2.iv
    rcases hc with ⟨e1, e2⟩ | ⟨hv, e1, e2, e3, e4, hO⟩
    · skip
      rw [e1, e2]
      refine GX.run0 hR 3 (pc' := 80) (L' := [some (vR 0), some (vR 200), some (vI z), some (vI (τ.1 1)), some (vI (smI z 24)), some (vI e), some (vI (-1123))]) (st' := [vI (-1123), vI (-1123)]) (X' := [(150, .inl (20, .inl q))]) (fun _ _ => rfl) ?_
      refine GX.br hR (pc1 := 108) (pc2 := 83) (st1 := []) (C := ((-1123) : Int) ≠ (-1123)) (fun _ => rfl) (by first | omega | (dsimp only; omega)) (fun h5 => (by exfalso; omega)) (fun h5 => ?_)
      refine GX.run0 hR 2 (pc' := 86) (L' := [some (vR 0), some (vR 200), some (vI z), some (vI (τ.1 1)), some (vI (smI z 24)), some (vI e), some (vI (-1123))]) (st' := [vI (smI z 24), vR 0]) (X' := [(150, .inl (20, .inl q))]) (fun _ _ => rfl) ?_
      have f6 := hI.hb (smI z 24)
      refine GX.ask hR hro [vI (smI z 24)] ((q_building τ (by omega)).gt) kL_113 rfl rfl rfl (by decide) (Nat.le_of_ble_eq_true rfl) (Nat.le_of_ble_eq_true rfl) rfl (fun _ _ => ⟨_, rfl⟩) ?_
      refine GX.run0 hR 1 (pc' := 90) (L' := [some (vR 0), some (vR 200), some (vI z), some (vI (τ.1 1)), some (vI (smI z 24)), some (vI e), some (vI (-1123))]) (st' := [vI (τ.1 1), vI (τ.2.1 2 (smI z 24))]) (X' := [(150, .inl (20, .inl q))]) (fun _ _ => rfl) ?_
      refine GX.br hR (pc1 := 100) (pc2 := 93) (st1 := []) (C := τ.2.1 2 (smI z 24) ≠ τ.1 1) (fun _ => rfl) (by first | omega | (dsimp only; omega)) (fun h7 => ?_) (fun h7 => ?_)
      · skip
        refine GX.run0 hR 2 (pc' := 162) (L' := [some (vR 0), some (vR 200), some (vI z), some (vI (τ.1 1)), some (vI (smI z 24)), some (vI e), some (vI (-1123))]) (st' := [vI 1]) (X' := [(150, .inl (20, .inl q))]) (fun _ _ => rfl) ?_
        exact GX.rt hR hk rfl (.inr rfl) ⟨rfl, Ov.of (by omega)⟩
      · skip
        refine GX.run0 hR 1 (pc' := 94) (L' := [some (vR 0), some (vR 200), some (vI z), some (vI (τ.1 1)), some (vI (smI z 24)), some (vI e), some (vI (-1123))]) (st' := [vR 0]) (X' := [(150, .inl (20, .inl q))]) (fun _ _ => rfl) ?_
        have f8 := hI.hph
        refine GX.ask hR hro [] ((q_phase τ).gt) kL_125 rfl rfl rfl (by decide) (Nat.le_of_ble_eq_true rfl) (Nat.le_of_ble_eq_true rfl) rfl (fun _ _ => ⟨_, rfl⟩) ?_
        refine GX.br hR (pc1 := 104) (pc2 := 100) (st1 := []) (C := τ.1 0 ≠ 0) (fun _ => rfl) (by first | omega | (dsimp only; omega)) (fun h9 => (by exfalso; exact h9 h0)) (fun h9 => ?_)
        refine GX.run0 hR 2 (pc' := 162) (L' := [some (vR 0), some (vR 200), some (vI z), some (vI (τ.1 1)), some (vI (smI z 24)), some (vI e), some (vI (-1123))]) (st' := [vI 1]) (X' := [(150, .inl (20, .inl q))]) (fun _ _ => rfl) ?_
        exact GX.rt hR hk rfl (.inr rfl) ⟨rfl, Ov.of (by omega)⟩
    · skip
      refine GX.run0 hR 3 (pc' := 80) (L' := [some (vR 0), some (vR 200), some (vI z), some (vI (τ.1 1)), some (vI (smI z 24)), some (vI e), some (vI v3)]) (st' := [vI (-1123), vI v3]) (X' := [(150, .inl (20, .inl q))]) (fun _ _ => rfl) ?_
      refine GX.br hR (pc1 := 108) (pc2 := 83) (st1 := []) (C := v3 ≠ (-1123)) (fun _ => rfl) (by first | omega | (dsimp only; omega)) (fun h10 => ?_) (fun h10 => (by exfalso; omega))
      refine GX.run0 hR 1 (pc' := 110) (L' := [some (vR 0), some (vR 200), some (vI z), some (vI (τ.1 1)), some (vI (smI z 24)), some (vI e), some (vI v3)]) (st' := [vI v3]) (X' := [(150, .inl (20, .inl q))]) (fun _ _ => rfl) ?_
      refine GX.br hR (pc1 := 161) (pc2 := 113) (st1 := []) (C := v3 < 0) (fun _ => rfl) (by first | omega | (dsimp only; omega)) (fun h11 => (by exfalso; omega)) (fun h11 => ?_)
      refine GX.run0 hR 2 (pc' := 116) (L' := [some (vR 0), some (vR 200), some (vI z), some (vI (τ.1 1)), some (vI (smI z 24)), some (vI e), some (vI v3)]) (st' := [vI 3, vI v3]) (X' := [(150, .inl (20, .inl q))]) (fun _ _ => rfl) ?_
      refine GX.br hR (pc1 := 161) (pc2 := 119) (st1 := []) (C := 3 ≤ v3) (fun _ => rfl) (by first | omega | (dsimp only; omega)) (fun h12 => (by exfalso; omega)) (fun h12 => ?_)
      refine GX.run0 hR 2 (pc' := 122) (L' := [some (vR 0), some (vR 200), some (vI z), some (vI (τ.1 1)), some (vI (smI z 24)), some (vI e), some (vI v3)]) (st' := [vR 0, vI v3]) (X' := [(150, .inl (20, .inl q))]) (fun _ _ => rfl) ?_
      have f13 := hI2.htu
      refine GX.ask hR hro [] ((q_turn σ4).gt) kL_130 rfl rfl rfl (by decide) (Nat.le_of_ble_eq_true rfl) (Nat.le_of_ble_eq_true rfl) rfl (fun _ _ => ⟨_, rfl⟩) ?_
      refine GX.br hR (pc1 := 161) (pc2 := 128) (st1 := []) (C := v3 ≠ σ4.1 1) (fun _ => rfl) (by first | omega | (dsimp only; omega)) (fun h14 => (by exfalso; omega)) (fun h14 => ?_)
      refine GX.run0 hR 2 (pc' := 131) (L' := [some (vR 0), some (vR 200), some (vI z), some (vI (τ.1 1)), some (vI (smI z 24)), some (vI e), some (vI v3)]) (st' := [vI (smI z 24), vR 0]) (X' := [(150, .inl (20, .inl q))]) (fun _ _ => rfl) ?_
      have f15 := hI2.hb (smI z 24)
      refine GX.ask hR hro [vI (smI z 24)] ((q_building σ4 (by omega)).gt) kL_113 rfl rfl rfl (by decide) (Nat.le_of_ble_eq_true rfl) (Nat.le_of_ble_eq_true rfl) rfl (fun _ _ => ⟨_, rfl⟩) ?_
      refine GX.run0 hR 1 (pc' := 135) (L' := [some (vR 0), some (vR 200), some (vI z), some (vI (τ.1 1)), some (vI (smI z 24)), some (vI e), some (vI v3)]) (st' := [vI (τ.1 1), vI (σ4.2.1 2 (smI z 24))]) (X' := [(150, .inl (20, .inl q))]) (fun _ _ => rfl) ?_
      refine GX.br hR (pc1 := 161) (pc2 := 138) (st1 := []) (C := σ4.2.1 2 (smI z 24) ≠ τ.1 1) (fun _ => rfl) (by first | omega | (dsimp only; omega)) (fun h16 => (by exfalso; omega)) (fun h16 => ?_)
      refine GX.run0 hR 2 (pc' := 141) (L' := [some (vR 0), some (vR 200), some (vI z), some (vI (τ.1 1)), some (vI (smI z 24)), some (vI e), some (vI v3)]) (st' := [vI e, vR 0]) (X' := [(150, .inl (20, .inl q))]) (fun _ _ => rfl) ?_
      have f17 := hI2.hr e
      refine GX.ask hR hro [vI e] ((q_road σ4 (by omega)).gt) kL_116 rfl rfl rfl (by decide) (Nat.le_of_ble_eq_true rfl) (Nat.le_of_ble_eq_true rfl) rfl (fun _ _ => ⟨_, rfl⟩) ?_
      refine GX.run0 hR 1 (pc' := 145) (L' := [some (vR 0), some (vR 200), some (vI z), some (vI (τ.1 1)), some (vI (smI z 24)), some (vI e), some (vI v3)]) (st' := [vI (τ.1 1), vI (σ4.2.1 3 e)]) (X' := [(150, .inl (20, .inl q))]) (fun _ _ => rfl) ?_
      refine GX.br hR (pc1 := 161) (pc2 := 148) (st1 := []) (C := σ4.2.1 3 e ≠ τ.1 1) (fun _ => rfl) (by first | omega | (dsimp only; omega)) (fun h18 => (by exfalso; omega)) (fun h18 => ?_)
      refine GX.run0 hR 2 (pc' := 150) (L' := [some (vR 0), some (vR 200), some (vI z), some (vI (τ.1 1)), some (vI (smI z 24)), some (vI e), some (vI v3)]) (st' := [vI (τ.1 1), vR 0]) (X' := [(150, .inl (20, .inl q))]) (fun _ _ => rfl) ?_
      have f19 := ptsF_r (τ.1 1) (hI2.hcd (τ.1 1) 4)
      refine GX.ask hR hro [vI (τ.1 1)] ((q_points σ4 (by omega)).gt) kL_98 rfl rfl rfl (by decide) (Nat.le_of_ble_eq_true rfl) (Nat.le_of_ble_eq_true rfl) rfl (fun _ _ => ⟨_, rfl⟩) ?_
      refine GX.run0 hR 1 (pc' := 154) (L' := [some (vR 0), some (vR 200), some (vI z), some (vI (τ.1 1)), some (vI (smI z 24)), some (vI e), some (vI v3)]) (st' := [vI 3, vI (ptsF σ4 (τ.1 1))]) (X' := [(150, .inl (20, .inl q))]) (fun _ _ => rfl) ?_
      refine GX.br hR (pc1 := 161) (pc2 := 157) (st1 := []) (C := 3 ≤ ptsF σ4 (τ.1 1)) (fun _ => rfl) (by first | omega | (dsimp only; omega)) (fun h20 => (by exfalso; omega)) (fun h20 => ?_)
      refine GX.run0 hR 2 (pc' := 162) (L' := [some (vR 0), some (vR 200), some (vI z), some (vI (τ.1 1)), some (vI (smI z 24)), some (vI e), some (vI v3)]) (st' := [vI 1]) (X' := [(150, .inl (20, .inl q))]) (fun _ _ => rfl) ?_
      exact GX.rt hR hk rfl (.inr rfl) ⟨rfl, hO⟩
  refine GX.br hR (pc1 := 43) (pc2 := 20) (st1 := []) (C := 6 ≤ smI z 24) (fun _ => rfl) (by first | omega | (dsimp only; omega)) (fun h21 => ?_) (fun h21 => ?_)
  · skip
    refine GX.run0 hR 2 (pc' := 47) (L' := [some (vR 0), some (vR 200), some (vI z), some (vI (τ.1 1)), some (vI (smI z 24)), none, none]) (st' := [vI 23, vI (smI z 24)]) (X' := [(150, .inl (20, .inl q))]) (fun _ _ => rfl) ?_
    refine GX.br hR (pc1 := 55) (pc2 := 50) (st1 := []) (C := smI z 24 ≠ 23) (fun _ => rfl) (by first | omega | (dsimp only; omega)) (fun h22 => ?_) (fun h22 => ?_)
    · skip
      refine GX.run0 hR 4 (pc' := 62) (L' := [some (vR 0), some (vR 200), some (vI z), some (vI (τ.1 1)), some (vI (smI z 24)), some (vI ((smI z 24) + 6)), none]) (st' := []) (X' := [(150, .inl (20, .inl q))]) (fun _ _ => rfl) ?_
      exact main _ (by omega)
    · skip
      refine GX.run0 hR 3 (pc' := 62) (L' := [some (vR 0), some (vR 200), some (vI z), some (vI (τ.1 1)), some (vI (smI z 24)), some (vI 29), none]) (st' := []) (X' := [(150, .inl (20, .inl q))]) (fun _ _ => rfl) ?_
      exact main _ (by omega)
  · skip
    refine GX.run0 hR 4 (pc' := 24) (L' := [some (vR 0), some (vR 200), some (vI z), some (vI (τ.1 1)), some (vI (smI z 24)), none, none]) (st' := [vI 2, vI (iSr z 5)]) (X' := [(150, .inl (20, .inl q))]) (fun _ _ => rfl) ?_
    have f23 := smI_r (iSr z 5) (n := 2) (by omega)
    refine GX.sx hR [vI (iSr z 5), vI 2] (fun w => lp_some (x := iSr z 5) (n := 2) (by omega) w) kL_158 rfl rfl (by decide) (Nat.le_of_ble_eq_true rfl) (Nat.le_of_ble_eq_true rfl) rfl ?_
    refine GX.br hR (pc1 := 35) (pc2 := 30) (st1 := []) (C := smI (iSr z 5) 2 ≠ 0) (fun _ => rfl) (by first | omega | (dsimp only; omega)) (fun h24 => ?_) (fun h24 => ?_)
    · skip
      refine GX.run0 hR 5 (pc' := 62) (L' := [some (vR 0), some (vR 200), some (vI z), some (vI (τ.1 1)), some (vI (smI z 24)), some (vI (6 + (smI z 24))), none]) (st' := []) (X' := [(150, .inl (20, .inl q))]) (fun _ _ => rfl) ?_
      exact main _ (by omega)
    · skip
      refine GX.run0 hR 3 (pc' := 62) (L' := [some (vR 0), some (vR 200), some (vI z), some (vI (τ.1 1)), some (vI (smI z 24)), some (vI (smI z 24)), none]) (st' := []) (X' := [(150, .inl (20, .inl q))]) (fun _ _ => rfl) ?_
      exact main _ (by omega)
