/-! ===== cards, as the law looks at it ===== -/
set_option maxHeartbeats 4000000 in
theorem w_plays0 {ro : PRO} (hro : ∀ q ∈ roC, q ∈ ro) {τ : St} (hJ : Jx τ) {q : Int → Int} (hq : isQ (τ.2.2 0) q) (hO0 : Ov τ) (z : Int) (hw : smI z 3 = 0) : SX mL_plays ro 15 [vR 0, vR 200, vR 150, vI z] τ [(150, .inl (20, .inl q))] (fun i σ => i = 1 ∧ Ov σ) 2 := by
  have hI := hJ.iv
  refine SX.of rfl tL_plays (Nat.le_of_ble_eq_true rfl) (fun G ks hk hR => ?_)
  show GX G 0 τ ([(150, .inl (20, .inl q))]) 0 [some (vR 0), some (vR 200), some (vR 150), some (vI z), none, none, none, none, none] []
  have hqr := hq.r hI
  have ht := hI.htu
  refine GX.run0 hR 2 (pc' := 2) (L' := [some (vR 0), some (vR 200), some (vR 150), some (vI z), none, none, none, none, none]) (st' := [vI 3, vI z]) (X' := [(150, .inl (20, .inl q))]) (fun _ _ => rfl) ?_
  have f1 := smI_r z (n := 3) (by omega)
  refine GX.sx hR [vI z, vI 3] (fun w => lp_some (x := z) (n := 3) (by omega) w) kL_158 rfl rfl (by decide) (Nat.le_of_ble_eq_true rfl) (Nat.le_of_ble_eq_true rfl) rfl ?_
  rw [hw]
  refine GX.run0 hR 2 (pc' := 8) (L' := [some (vR 0), some (vR 200), some (vR 150), some (vI z), some (vI 0), none, none, none, none]) (st' := [vR 0]) (X' := [(150, .inl (20, .inl q))]) (fun _ _ => rfl) ?_
  have f2 := hI.htu
  refine GX.ask hR hro [] ((q_turn τ).gt) kL_130 rfl rfl rfl (by decide) (Nat.le_of_ble_eq_true rfl) (Nat.le_of_ble_eq_true rfl) rfl (fun _ _ => ⟨_, rfl⟩) ?_
  refine GX.run0 hR 2 (pc' := 15) (L' := [some (vR 0), some (vR 200), some (vR 150), some (vI z), some (vI 0), some (vI (τ.1 1)), none, none, none]) (st' := [vI 0]) (X' := [(150, .inl (20, .inl q))]) (fun _ _ => rfl) ?_
  refine GX.br hR (pc1 := 117) (pc2 := 18) (st1 := []) (C := (0 : Int) ≠ 0) (fun _ => rfl) (by first | omega | (dsimp only; omega)) (fun h3 => (by exfalso; omega)) (fun h3 => ?_)
  refine GX.run0 hR 2 (pc' := 21) (L' := [some (vR 0), some (vR 200), some (vR 150), some (vI z), some (vI 0), some (vI (τ.1 1)), none, none, none]) (st' := [vI (τ.1 1), vR 0]) (X' := [(150, .inl (20, .inl q))]) (fun _ _ => rfl) ?_
  have f4 := trT_r hI.lh (τ.1 1) (by omega)
  refine GX.ask hR hro [vI (τ.1 1)] (q_trail τ (by omega)) kL_101 rfl rfl rfl (by decide) (Nat.le_of_ble_eq_true rfl) (Nat.le_of_ble_eq_true rfl) rfl (fun _ _ => ⟨_, rfl⟩) ?_
  refine GX.run0 hR 8 (pc' := 35) (L' := [some (vR 0), some (vR 200), some (vR 150), some (vI z), some (vI 0), some (vI (τ.1 1)), some (vI (trT τ (τ.1 1))), none, none]) (st' := [vI 30, vI (iSr z 2), vI 11, vR 200, vR 0]) (X' := [(150, .inl (20, .inl q))]) (fun _ _ => rfl) ?_
  have f5 := smI_r (iSr z 2) (n := 30) (by omega)
  refine GX.sx hR [vI (iSr z 2), vI 30] (fun w => lp_some (x := iSr z 2) (n := 30) (by omega) w) kL_158 rfl rfl (by decide) (Nat.le_of_ble_eq_true rfl) (Nat.le_of_ble_eq_true rfl) rfl ?_
  refine GX.run0 hR 4 (pc' := 44) (L' := [some (vR 0), some (vR 200), some (vR 150), some (vI z), some (vI 0), some (vI (τ.1 1)), some (vI (trT τ (τ.1 1))), none, none]) (st' := [vI 31, vI (iSr z 7), vI (smI (iSr z 2) 30), vI 11, vR 200, vR 0]) (X' := [(150, .inl (20, .inl q))]) (fun _ _ => rfl) ?_
  have f6 := smI_r (iSr z 7) (n := 31) (by omega)
  refine GX.sx hR [vI (iSr z 7), vI 31] (fun w => lp_some (x := iSr z 7) (n := 31) (by omega) w) kL_158 rfl rfl (by decide) (Nat.le_of_ble_eq_true rfl) (Nat.le_of_ble_eq_true rfl) rfl ?_
  refine GX.run0 hR 3 (pc' := 50) (L' := [some (vR 0), some (vR 200), some (vR 150), some (vI z), some (vI 0), some (vI (τ.1 1)), some (vI (trT τ (τ.1 1))), none, none]) (st' := [vI 0, vI ((smI (iSr z 7) 31) - 1), vI (smI (iSr z 2) 30), vI 11, vR 200, vR 0]) (X' := [(150, .inl (20, .inl q))]) (fun _ _ => rfl) ?_
  have hr1 := trT_r hI.lh (τ.1 1) ht
  obtain ⟨v7, σ8, hcl, hc⟩ := s_roads hJ (a := smI (iSr z 2) 30) (b := smI (iSr z 7) 31 - 1) (by omega) (by omega) 0
  refine GX.bo hR hro hcl rfl (by decide) (Nat.le_of_ble_eq_true rfl) rfl (by decide) (fun hJ2 => ?_)
  have hI2 := hJ2.iv
  rcases hc with ⟨e1, e2⟩ | ⟨e1, e2, e3, e4, hO⟩
  · skip
    rw [e1, e2]
    refine GX.run0 hR 3 (pc' := 60) (L' := [some (vR 0), some (vR 200), some (vR 150), some (vI z), some (vI 0), some (vI (τ.1 1)), some (vI (trT τ (τ.1 1))), some (vI (-1123)), none]) (st' := [vI (-1123), vI (-1123)]) (X' := [(150, .inl (20, .inl q))]) (fun _ _ => rfl) ?_
    refine GX.br hR (pc1 := 82) (pc2 := 63) (st1 := []) (C := ((-1123) : Int) ≠ (-1123)) (fun _ => rfl) (by first | omega | (dsimp only; omega)) (fun h9 => (by exfalso; omega)) (fun h9 => ?_)
    refine GX.run0 hR 2 (pc' := 66) (L' := [some (vR 0), some (vR 200), some (vR 150), some (vI z), some (vI 0), some (vI (τ.1 1)), some (vI (trT τ (τ.1 1))), some (vI (-1123)), none]) (st' := [vI (τ.1 1), vR 0]) (X' := [(150, .inl (20, .inl q))]) (fun _ _ => rfl) ?_
    have f10 := trT_r hI.lh (τ.1 1) (by omega)
    refine GX.ask hR hro [vI (τ.1 1)] (q_trail τ (by omega)) kL_101 rfl rfl rfl (by decide) (Nat.le_of_ble_eq_true rfl) (Nat.le_of_ble_eq_true rfl) rfl (fun _ _ => ⟨_, rfl⟩) ?_
    refine GX.run0 hR 1 (pc' := 71) (L' := [some (vR 0), some (vR 200), some (vR 150), some (vI z), some (vI 0), some (vI (τ.1 1)), some (vI (trT τ (τ.1 1))), some (vI (-1123)), none]) (st' := [vI (trT τ (τ.1 1)), vI (trT τ (τ.1 1))]) (X' := [(150, .inl (20, .inl q))]) (fun _ _ => rfl) ?_
    refine GX.br hR (pc1 := 78) (pc2 := 74) (st1 := []) (C := trT τ (τ.1 1) ≠ trT τ (τ.1 1)) (fun _ => rfl) (by first | omega | (dsimp only; omega)) (fun h11 => (by exfalso; omega)) (fun h11 => ?_)
    refine GX.run0 hR 2 (pc' := 116) (L' := [some (vR 0), some (vR 200), some (vR 150), some (vI z), some (vI 0), some (vI (τ.1 1)), some (vI (trT τ (τ.1 1))), some (vI (-1123)), none]) (st' := [vI 1]) (X' := [(150, .inl (20, .inl q))]) (fun _ _ => rfl) ?_
    exact GX.rt hR hk rfl (.inr rfl) ⟨rfl, hO0⟩
  · skip
    refine GX.run0 hR 3 (pc' := 60) (L' := [some (vR 0), some (vR 200), some (vR 150), some (vI z), some (vI 0), some (vI (τ.1 1)), some (vI (trT τ (τ.1 1))), some (vI v7), none]) (st' := [vI (-1123), vI v7]) (X' := [(150, .inl (20, .inl q))]) (fun _ _ => rfl) ?_
    refine GX.br hR (pc1 := 82) (pc2 := 63) (st1 := []) (C := v7 ≠ (-1123)) (fun _ => rfl) (by first | omega | (dsimp only; omega)) (fun h12 => ?_) (fun h12 => (by exfalso; omega))
    refine GX.run0 hR 3 (pc' := 87) (L' := [some (vR 0), some (vR 200), some (vR 150), some (vI z), some (vI 0), some (vI (τ.1 1)), some (vI (trT τ (τ.1 1))), some (vI v7), none]) (st' := [vI (τ.1 1), vR 0, vI v7]) (X' := [(150, .inl (20, .inl q))]) (fun _ _ => rfl) ?_
    have f13 := trT_r hI2.lh (τ.1 1) (by omega)
    refine GX.ask hR hro [vI (τ.1 1)] (q_trail σ8 (by omega)) kL_101 rfl rfl rfl (by decide) (Nat.le_of_ble_eq_true rfl) (Nat.le_of_ble_eq_true rfl) rfl (fun _ _ => ⟨_, rfl⟩) ?_
    refine GX.br hR (pc1 := 115) (pc2 := 93) (st1 := []) (C := v7 ≠ trT σ8 (τ.1 1)) (fun _ => rfl) (by first | omega | (dsimp only; omega)) (fun h14 => (by exfalso; omega)) (fun h14 => ?_)
    refine GX.run0 hR 2 (pc' := 97) (L' := [some (vR 0), some (vR 200), some (vR 150), some (vI z), some (vI 0), some (vI (τ.1 1)), some (vI (trT τ (τ.1 1))), some (vI v7), none]) (st' := [vI (trT τ (τ.1 1)), vI v7]) (X' := [(150, .inl (20, .inl q))]) (fun _ _ => rfl) ?_
    refine GX.br hR (pc1 := 115) (pc2 := 100) (st1 := []) (C := v7 < trT τ (τ.1 1)) (fun _ => rfl) (by first | omega | (dsimp only; omega)) (fun h15 => (by exfalso; omega)) (fun h15 => ?_)
    refine GX.run0 hR 5 (pc' := 105) (L' := [some (vR 0), some (vR 200), some (vR 150), some (vI z), some (vI 0), some (vI (τ.1 1)), some (vI (trT τ (τ.1 1))), some (vI v7), none]) (st' := [vI 0, vI 0, vI 0, vR 150, vR 0]) (X' := [(150, .inl (20, .inl q))]) (fun _ _ => rfl) ?_
    refine GX.sg hR [vR 0, vR 150, vI 0, vI 0, vI 0] (fun κ κ2 hJ hJ2 => lp_moved hro hJ κ2 (q := q) (f := 0) (t := 0) (n := 0) (by omega) (by omega) (by omega) hqr (mvd_0 hq e4)) kL_169 rfl rfl (by decide) (Nat.le_of_ble_eq_true rfl) (Nat.le_of_ble_eq_true rfl) rfl ?_
    refine GX.br hR (pc1 := 115) (pc2 := 111) (st1 := []) (C := (1 : Int) = 0) (fun _ => rfl) (by first | omega | (dsimp only; omega)) (fun h16 => (by exfalso; omega)) (fun h16 => ?_)
    refine GX.run0 hR 2 (pc' := 116) (L' := [some (vR 0), some (vR 200), some (vR 150), some (vI z), some (vI 0), some (vI (τ.1 1)), some (vI (trT τ (τ.1 1))), some (vI v7), none]) (st' := [vI 1]) (X' := [(150, .inl (20, .inl q))]) (fun _ _ => rfl) ?_
    exact GX.rt hR hk rfl (.inr rfl) ⟨rfl, hO⟩
set_option maxHeartbeats 4000000 in
theorem w_plays1 {ro : PRO} (hro : ∀ q ∈ roC, q ∈ ro) {τ : St} (hJ : Jx τ) {q : Int → Int} (hq : isQ (τ.2.2 0) q) (hO0 : Ov τ) (z : Int) (hw : smI z 3 = 1) : SX mL_plays ro 15 [vR 0, vR 200, vR 150, vI z] τ [(150, .inl (20, .inl q))] (fun i σ => i = 1 ∧ Ov σ) 2 := by
  have hI := hJ.iv
  refine SX.of rfl tL_plays (Nat.le_of_ble_eq_true rfl) (fun G ks hk hR => ?_)
  show GX G 0 τ ([(150, .inl (20, .inl q))]) 0 [some (vR 0), some (vR 200), some (vR 150), some (vI z), none, none, none, none, none] []
  have hqr := hq.r hI
  have ht := hI.htu
  refine GX.run0 hR 2 (pc' := 2) (L' := [some (vR 0), some (vR 200), some (vR 150), some (vI z), none, none, none, none, none]) (st' := [vI 3, vI z]) (X' := [(150, .inl (20, .inl q))]) (fun _ _ => rfl) ?_
  have f1 := smI_r z (n := 3) (by omega)
  refine GX.sx hR [vI z, vI 3] (fun w => lp_some (x := z) (n := 3) (by omega) w) kL_158 rfl rfl (by decide) (Nat.le_of_ble_eq_true rfl) (Nat.le_of_ble_eq_true rfl) rfl ?_
  rw [hw]
  refine GX.run0 hR 2 (pc' := 8) (L' := [some (vR 0), some (vR 200), some (vR 150), some (vI z), some (vI 1), none, none, none, none]) (st' := [vR 0]) (X' := [(150, .inl (20, .inl q))]) (fun _ _ => rfl) ?_
  have f2 := hI.htu
  refine GX.ask hR hro [] ((q_turn τ).gt) kL_130 rfl rfl rfl (by decide) (Nat.le_of_ble_eq_true rfl) (Nat.le_of_ble_eq_true rfl) rfl (fun _ _ => ⟨_, rfl⟩) ?_
  refine GX.run0 hR 2 (pc' := 15) (L' := [some (vR 0), some (vR 200), some (vR 150), some (vI z), some (vI 1), some (vI (τ.1 1)), none, none, none]) (st' := [vI 1]) (X' := [(150, .inl (20, .inl q))]) (fun _ _ => rfl) ?_
  refine GX.br hR (pc1 := 117) (pc2 := 18) (st1 := []) (C := (1 : Int) ≠ 0) (fun _ => rfl) (by first | omega | (dsimp only; omega)) (fun h3 => ?_) (fun h3 => (by exfalso; omega))
  refine GX.run0 hR 2 (pc' := 120) (L' := [some (vR 0), some (vR 200), some (vR 150), some (vI z), some (vI 1), some (vI (τ.1 1)), none, none, none]) (st' := [vI 1, vI 1]) (X' := [(150, .inl (20, .inl q))]) (fun _ _ => rfl) ?_
  refine GX.br hR (pc1 := 253) (pc2 := 123) (st1 := []) (C := (1 : Int) ≠ 1) (fun _ => rfl) (by first | omega | (dsimp only; omega)) (fun h4 => (by exfalso; omega)) (fun h4 => ?_)
  refine GX.run0 hR 4 (pc' := 127) (L' := [some (vR 0), some (vR 200), some (vR 150), some (vI z), some (vI 1), some (vI (τ.1 1)), none, none, none]) (st' := [vI 5, vI (iSr z 2)]) (X' := [(150, .inl (20, .inl q))]) (fun _ _ => rfl) ?_
  have f5 := smI_r (iSr z 2) (n := 5) (by omega)
  refine GX.sx hR [vI (iSr z 2), vI 5] (fun w => lp_some (x := iSr z 2) (n := 5) (by omega) w) kL_158 rfl rfl (by decide) (Nat.le_of_ble_eq_true rfl) (Nat.le_of_ble_eq_true rfl) rfl ?_
  refine GX.run1 hR 13 (pc' := 149) (L' := [some (vR 0), some (vR 200), some (vR 150), some (vI z), some (vI 1), some (vI (τ.1 1)), some (vI (smI (iSr z 2) 5)), some (vI (((smI (iSr z 2) 5) + 1) % 5)), none]) (st' := [vI 0, vI (((smI (iSr z 2) 5) + 1) % 5), vI (smI (iSr z 2) 5), vI 12, vR 200, vR 0]) (X' := [(150, .inl (20, .inl q))]) (fun _ _ => rfl) (by first | omega | (dsimp only; omega)) ?_
  obtain ⟨v6, σ7, hcl, hc⟩ := s_plenty hJ (a := smI (iSr z 2) 5) (b := ((smI (iSr z 2) 5) + 1) % 5) (by omega) (by omega) (by omega) 0
  refine GX.bo hR hro hcl rfl (by decide) (Nat.le_of_ble_eq_true rfl) rfl (by decide) (fun hJ2 => ?_)
  have hI2 := hJ2.iv
  have pa := hq.at (p := τ.1 1) (g := smI (iSr z 2) 5) (by omega) (by omega)
  have pb := hq.at (p := τ.1 1) (g := ((smI (iSr z 2) 5) + 1) % 5) (by omega) (by omega)
  have pc : q (15 + (smI (iSr z 2) 5)) = τ.2.2 0 3 (smI (iSr z 2) 5) := hq.at (p := 3) (g := smI (iSr z 2) 5) (by omega) (by omega)
  have f8 := hI.hh (τ.1 1) (smI (iSr z 2) 5)
  have f9 := hI.hh (τ.1 1) (((smI (iSr z 2) 5) + 1) % 5)
  have f10 := hI.hh 3 (smI (iSr z 2) 5)
  rcases hc with ⟨e1, e2⟩ | ⟨e1, e2, e3, e4, e5⟩
  · skip
    rw [e1, e2]
    refine GX.run0 hR 3 (pc' := 159) (L' := [some (vR 0), some (vR 200), some (vR 150), some (vI z), some (vI 1), some (vI (τ.1 1)), some (vI (smI (iSr z 2) 5)), some (vI (((smI (iSr z 2) 5) + 1) % 5)), some (vI (-1123))]) (st' := [vI (-1123), vI (-1123)]) (X' := [(150, .inl (20, .inl q))]) (fun _ _ => rfl) ?_
    refine GX.br hR (pc1 := 173) (pc2 := 162) (st1 := []) (C := ((-1123) : Int) ≠ (-1123)) (fun _ => rfl) (by first | omega | (dsimp only; omega)) (fun h11 => (by exfalso; omega)) (fun h11 => ?_)
    refine GX.run0 hR 5 (pc' := 167) (L' := [some (vR 0), some (vR 200), some (vR 150), some (vI z), some (vI 1), some (vI (τ.1 1)), some (vI (smI (iSr z 2) 5)), some (vI (((smI (iSr z 2) 5) + 1) % 5)), some (vI (-1123))]) (st' := [vI 0, vI 0, vI 0, vR 150, vR 0]) (X' := [(150, .inl (20, .inl q))]) (fun _ _ => rfl) ?_
    refine GX.sg hR [vR 0, vR 150, vI 0, vI 0, vI 0] (fun κ κ2 hJ hJ2 => lp_moved hro hJ κ2 (q := q) (f := 0) (t := 0) (n := 0) (by omega) (by omega) (by omega) hqr (mvd_0 hq rfl)) kL_169 rfl rfl (by decide) (Nat.le_of_ble_eq_true rfl) (Nat.le_of_ble_eq_true rfl) rfl ?_
    refine GX.run0 hR 1 (pc' := 252) (L' := [some (vR 0), some (vR 200), some (vR 150), some (vI z), some (vI 1), some (vI (τ.1 1)), some (vI (smI (iSr z 2) 5)), some (vI (((smI (iSr z 2) 5) + 1) % 5)), some (vI (-1123))]) (st' := [vI 1]) (X' := [(150, .inl (20, .inl q))]) (fun _ _ => rfl) ?_
    exact GX.rt hR hk rfl (.inr rfl) ⟨rfl, hO0⟩
  · skip
    have hto := tot_r (h := σ7.2.2 0) hI2.hh (τ.1 1)
    refine GX.run0 hR 3 (pc' := 159) (L' := [some (vR 0), some (vR 200), some (vR 150), some (vI z), some (vI 1), some (vI (τ.1 1)), some (vI (smI (iSr z 2) 5)), some (vI (((smI (iSr z 2) 5) + 1) % 5)), some (vI v6)]) (st' := [vI (-1123), vI v6]) (X' := [(150, .inl (20, .inl q))]) (fun _ _ => rfl) ?_
    refine GX.br hR (pc1 := 173) (pc2 := 162) (st1 := []) (C := v6 ≠ (-1123)) (fun _ => rfl) (by first | omega | (dsimp only; omega)) (fun h12 => ?_) (fun h12 => (by exfalso; omega))
    refine GX.run0 hR 3 (pc' := 178) (L' := [some (vR 0), some (vR 200), some (vR 150), some (vI z), some (vI 1), some (vI (τ.1 1)), some (vI (smI (iSr z 2) 5)), some (vI (((smI (iSr z 2) 5) + 1) % 5)), some (vI v6)]) (st' := [vI (τ.1 1), vR 0, vI v6]) (X' := [(150, .inl (20, .inl q))]) (fun _ _ => rfl) ?_
    have f13 := tot_r hI2.hh (τ.1 1)
    refine GX.sg hR [vR 0, vI (τ.1 1)] (fun κ κ2 hJ hJ2 => lp_size hro hJ κ2 ([(150, .inl (20, .inl q))]) (by omega)) kL_165 rfl rfl (by decide) (Nat.le_of_ble_eq_true rfl) (Nat.le_of_ble_eq_true rfl) rfl ?_
    refine GX.br hR (pc1 := 251) (pc2 := 184) (st1 := []) (C := v6 ≠ tot (σ7.2.2 0) (τ.1 1)) (fun _ => rfl) (by first | omega | (dsimp only; omega)) (fun h14 => (by exfalso; omega)) (fun h14 => ?_)
    refine GX.run0 hR 3 (pc' := 189) (L' := [some (vR 0), some (vR 200), some (vR 150), some (vI z), some (vI 1), some (vI (τ.1 1)), some (vI (smI (iSr z 2) 5)), some (vI (((smI (iSr z 2) 5) + 1) % 5)), some (vI v6)]) (st' := [vI (smI (iSr z 2) 5), vI (τ.1 1), vR 0]) (X' := [(150, .inl (20, .inl q))]) (fun _ _ => rfl) ?_
    have f15 := hI2.hh (τ.1 1) (smI (iSr z 2) 5)
    refine GX.ask hR hro [vI (τ.1 1), vI (smI (iSr z 2) 5)] ((q_hand σ7 (by omega) (by omega)).gt) kL_89 rfl rfl rfl (by decide) (Nat.le_of_ble_eq_true rfl) (Nat.le_of_ble_eq_true rfl) rfl (fun _ _ => ⟨_, rfl⟩) ?_
    refine GX.run1 hR 9 (pc' := 203) (L' := [some (vR 0), some (vR 200), some (vR 150), some (vI z), some (vI 1), some (vI (τ.1 1)), some (vI (smI (iSr z 2) 5)), some (vI (((smI (iSr z 2) 5) + 1) % 5)), some (vI v6)]) (st' := [vI ((q ((5 * (τ.1 1)) + (smI (iSr z 2) 5))) + 1), vI (σ7.2.2 0 (τ.1 1) (smI (iSr z 2) 5))]) (X' := [(150, .inl (20, .inl q))]) (fun _ _ => rfl) (by first | omega | (dsimp only; omega)) ?_
    refine GX.br hR (pc1 := 251) (pc2 := 206) (st1 := []) (C := σ7.2.2 0 (τ.1 1) (smI (iSr z 2) 5) ≠ (q ((5 * (τ.1 1)) + (smI (iSr z 2) 5))) + 1) (fun _ => rfl) (by first | omega | (dsimp only; omega)) (fun h16 => (by exfalso; omega)) (fun h16 => ?_)
    refine GX.run0 hR 3 (pc' := 211) (L' := [some (vR 0), some (vR 200), some (vR 150), some (vI z), some (vI 1), some (vI (τ.1 1)), some (vI (smI (iSr z 2) 5)), some (vI (((smI (iSr z 2) 5) + 1) % 5)), some (vI v6)]) (st' := [vI (((smI (iSr z 2) 5) + 1) % 5), vI (τ.1 1), vR 0]) (X' := [(150, .inl (20, .inl q))]) (fun _ _ => rfl) ?_
    have f17 := hI2.hh (τ.1 1) (((smI (iSr z 2) 5) + 1) % 5)
    refine GX.ask hR hro [vI (τ.1 1), vI (((smI (iSr z 2) 5) + 1) % 5)] ((q_hand σ7 (by omega) (by omega)).gt) kL_89 rfl rfl rfl (by decide) (Nat.le_of_ble_eq_true rfl) (Nat.le_of_ble_eq_true rfl) rfl (fun _ _ => ⟨_, rfl⟩) ?_
    refine GX.run1 hR 9 (pc' := 225) (L' := [some (vR 0), some (vR 200), some (vR 150), some (vI z), some (vI 1), some (vI (τ.1 1)), some (vI (smI (iSr z 2) 5)), some (vI (((smI (iSr z 2) 5) + 1) % 5)), some (vI v6)]) (st' := [vI ((q ((5 * (τ.1 1)) + (((smI (iSr z 2) 5) + 1) % 5))) + 1), vI (σ7.2.2 0 (τ.1 1) (((smI (iSr z 2) 5) + 1) % 5))]) (X' := [(150, .inl (20, .inl q))]) (fun _ _ => rfl) (by first | omega | (dsimp only; omega)) ?_
    refine GX.br hR (pc1 := 251) (pc2 := 228) (st1 := []) (C := σ7.2.2 0 (τ.1 1) (((smI (iSr z 2) 5) + 1) % 5) ≠ (q ((5 * (τ.1 1)) + (((smI (iSr z 2) 5) + 1) % 5))) + 1) (fun _ => rfl) (by first | omega | (dsimp only; omega)) (fun h18 => (by exfalso; omega)) (fun h18 => ?_)
    refine GX.run0 hR 3 (pc' := 232) (L' := [some (vR 0), some (vR 200), some (vR 150), some (vI z), some (vI 1), some (vI (τ.1 1)), some (vI (smI (iSr z 2) 5)), some (vI (((smI (iSr z 2) 5) + 1) % 5)), some (vI v6)]) (st' := [vI (smI (iSr z 2) 5), vI 3, vR 0]) (X' := [(150, .inl (20, .inl q))]) (fun _ _ => rfl) ?_
    have f19 := hI2.hh 3 (smI (iSr z 2) 5)
    refine GX.ask hR hro [vI 3, vI (smI (iSr z 2) 5)] ((q_hand σ7 (by omega) (by omega)).gt) kL_89 rfl rfl rfl (by decide) (Nat.le_of_ble_eq_true rfl) (Nat.le_of_ble_eq_true rfl) rfl (fun _ _ => ⟨_, rfl⟩) ?_
    refine GX.run1 hR 7 (pc' := 244) (L' := [some (vR 0), some (vR 200), some (vR 150), some (vI z), some (vI 1), some (vI (τ.1 1)), some (vI (smI (iSr z 2) 5)), some (vI (((smI (iSr z 2) 5) + 1) % 5)), some (vI v6)]) (st' := [vI ((q (15 + (smI (iSr z 2) 5))) - 1), vI (σ7.2.2 0 3 (smI (iSr z 2) 5))]) (X' := [(150, .inl (20, .inl q))]) (fun _ _ => rfl) (by first | omega | (dsimp only; omega)) ?_
    refine GX.br hR (pc1 := 251) (pc2 := 247) (st1 := []) (C := σ7.2.2 0 3 (smI (iSr z 2) 5) ≠ (q (15 + (smI (iSr z 2) 5))) - 1) (fun _ => rfl) (by first | omega | (dsimp only; omega)) (fun h20 => (by exfalso; omega)) (fun h20 => ?_)
    refine GX.run0 hR 2 (pc' := 252) (L' := [some (vR 0), some (vR 200), some (vR 150), some (vI z), some (vI 1), some (vI (τ.1 1)), some (vI (smI (iSr z 2) 5)), some (vI (((smI (iSr z 2) 5) + 1) % 5)), some (vI v6)]) (st' := [vI 1]) (X' := [(150, .inl (20, .inl q))]) (fun _ _ => rfl) ?_
    exact GX.rt hR hk rfl (.inr rfl) ⟨rfl, (Ov.of e5)⟩
set_option maxHeartbeats 4000000 in
theorem w_plays2 {ro : PRO} (hro : ∀ q ∈ roC, q ∈ ro) {τ : St} (hJ : Jx τ) {q : Int → Int} (hq : isQ (τ.2.2 0) q) (hO0 : Ov τ) (z : Int) (hw : smI z 3 = 2) : SX mL_plays ro 15 [vR 0, vR 200, vR 150, vI z] τ [(150, .inl (20, .inl q))] (fun i σ => i = 1 ∧ Ov σ) 2 := by
  have hI := hJ.iv
  refine SX.of rfl tL_plays (Nat.le_of_ble_eq_true rfl) (fun G ks hk hR => ?_)
  show GX G 0 τ ([(150, .inl (20, .inl q))]) 0 [some (vR 0), some (vR 200), some (vR 150), some (vI z), none, none, none, none, none] []
  have hqr := hq.r hI
  have ht := hI.htu
  refine GX.run0 hR 2 (pc' := 2) (L' := [some (vR 0), some (vR 200), some (vR 150), some (vI z), none, none, none, none, none]) (st' := [vI 3, vI z]) (X' := [(150, .inl (20, .inl q))]) (fun _ _ => rfl) ?_
  have f1 := smI_r z (n := 3) (by omega)
  refine GX.sx hR [vI z, vI 3] (fun w => lp_some (x := z) (n := 3) (by omega) w) kL_158 rfl rfl (by decide) (Nat.le_of_ble_eq_true rfl) (Nat.le_of_ble_eq_true rfl) rfl ?_
  rw [hw]
  refine GX.run0 hR 2 (pc' := 8) (L' := [some (vR 0), some (vR 200), some (vR 150), some (vI z), some (vI 2), none, none, none, none]) (st' := [vR 0]) (X' := [(150, .inl (20, .inl q))]) (fun _ _ => rfl) ?_
  have f2 := hI.htu
  refine GX.ask hR hro [] ((q_turn τ).gt) kL_130 rfl rfl rfl (by decide) (Nat.le_of_ble_eq_true rfl) (Nat.le_of_ble_eq_true rfl) rfl (fun _ _ => ⟨_, rfl⟩) ?_
  refine GX.run0 hR 2 (pc' := 15) (L' := [some (vR 0), some (vR 200), some (vR 150), some (vI z), some (vI 2), some (vI (τ.1 1)), none, none, none]) (st' := [vI 2]) (X' := [(150, .inl (20, .inl q))]) (fun _ _ => rfl) ?_
  refine GX.br hR (pc1 := 117) (pc2 := 18) (st1 := []) (C := (2 : Int) ≠ 0) (fun _ => rfl) (by first | omega | (dsimp only; omega)) (fun h3 => ?_) (fun h3 => (by exfalso; omega))
  refine GX.run0 hR 2 (pc' := 120) (L' := [some (vR 0), some (vR 200), some (vR 150), some (vI z), some (vI 2), some (vI (τ.1 1)), none, none, none]) (st' := [vI 1, vI 2]) (X' := [(150, .inl (20, .inl q))]) (fun _ _ => rfl) ?_
  refine GX.br hR (pc1 := 253) (pc2 := 123) (st1 := []) (C := (2 : Int) ≠ 1) (fun _ => rfl) (by first | omega | (dsimp only; omega)) (fun h4 => ?_) (fun h4 => (by exfalso; omega))
  refine GX.run0 hR 4 (pc' := 257) (L' := [some (vR 0), some (vR 200), some (vR 150), some (vI z), some (vI 2), some (vI (τ.1 1)), none, none, none]) (st' := [vI 5, vI (iSr z 2)]) (X' := [(150, .inl (20, .inl q))]) (fun _ _ => rfl) ?_
  have f5 := smI_r (iSr z 2) (n := 5) (by omega)
  refine GX.sx hR [vI (iSr z 2), vI 5] (fun w => lp_some (x := iSr z 2) (n := 5) (by omega) w) kL_158 rfl rfl (by decide) (Nat.le_of_ble_eq_true rfl) (Nat.le_of_ble_eq_true rfl) rfl ?_
  refine GX.run0 hR 7 (pc' := 270) (L' := [some (vR 0), some (vR 200), some (vR 150), some (vI z), some (vI 2), some (vI (τ.1 1)), some (vI (smI (iSr z 2) 5)), none, none]) (st' := [vI 0, vI 0, vI (smI (iSr z 2) 5), vI 13, vR 200, vR 0]) (X' := [(150, .inl (20, .inl q))]) (fun _ _ => rfl) ?_
  obtain ⟨v6, σ7, hcl, hc⟩ := s_mono hJ (a := smI (iSr z 2) 5) (by omega) 0 0
  refine GX.bo hR hro hcl rfl (by decide) (Nat.le_of_ble_eq_true rfl) rfl (by decide) (fun hJ2 => ?_)
  have hI2 := hJ2.iv
  have pa := hq.at (p := τ.1 1) (g := smI (iSr z 2) 5) (by omega) (by omega)
  have pc : q (15 + (smI (iSr z 2) 5)) = τ.2.2 0 3 (smI (iSr z 2) 5) := hq.at (p := 3) (g := smI (iSr z 2) 5) (by omega) (by omega)
  have f8 := hI.hh (τ.1 1) (smI (iSr z 2) 5)
  have f9 := hI.hh 3 (smI (iSr z 2) 5)
  rcases hc with ⟨e1, e2⟩ | ⟨hv, e1, e2, e3, e4, e5⟩
  · skip
    rw [e1, e2]
    refine GX.run0 hR 3 (pc' := 280) (L' := [some (vR 0), some (vR 200), some (vR 150), some (vI z), some (vI 2), some (vI (τ.1 1)), some (vI (smI (iSr z 2) 5)), some (vI (-1123)), none]) (st' := [vI (-1123), vI (-1123)]) (X' := [(150, .inl (20, .inl q))]) (fun _ _ => rfl) ?_
    refine GX.br hR (pc1 := 294) (pc2 := 283) (st1 := []) (C := ((-1123) : Int) ≠ (-1123)) (fun _ => rfl) (by first | omega | (dsimp only; omega)) (fun h10 => (by exfalso; omega)) (fun h10 => ?_)
    refine GX.run0 hR 5 (pc' := 288) (L' := [some (vR 0), some (vR 200), some (vR 150), some (vI z), some (vI 2), some (vI (τ.1 1)), some (vI (smI (iSr z 2) 5)), some (vI (-1123)), none]) (st' := [vI 0, vI 0, vI 0, vR 150, vR 0]) (X' := [(150, .inl (20, .inl q))]) (fun _ _ => rfl) ?_
    refine GX.sg hR [vR 0, vR 150, vI 0, vI 0, vI 0] (fun κ κ2 hJ hJ2 => lp_moved hro hJ κ2 (q := q) (f := 0) (t := 0) (n := 0) (by omega) (by omega) (by omega) hqr (mvd_0 hq rfl)) kL_169 rfl rfl (by decide) (Nat.le_of_ble_eq_true rfl) (Nat.le_of_ble_eq_true rfl) rfl ?_
    refine GX.run0 hR 1 (pc' := 369) (L' := [some (vR 0), some (vR 200), some (vR 150), some (vI z), some (vI 2), some (vI (τ.1 1)), some (vI (smI (iSr z 2) 5)), some (vI (-1123)), none]) (st' := [vI 1]) (X' := [(150, .inl (20, .inl q))]) (fun _ _ => rfl) ?_
    exact GX.rt hR hk rfl (.inr rfl) ⟨rfl, hO0⟩
  · skip
    refine GX.run0 hR 3 (pc' := 280) (L' := [some (vR 0), some (vR 200), some (vR 150), some (vI z), some (vI 2), some (vI (τ.1 1)), some (vI (smI (iSr z 2) 5)), some (vI v6), none]) (st' := [vI (-1123), vI v6]) (X' := [(150, .inl (20, .inl q))]) (fun _ _ => rfl) ?_
    refine GX.br hR (pc1 := 294) (pc2 := 283) (st1 := []) (C := v6 ≠ (-1123)) (fun _ => rfl) (by first | omega | (dsimp only; omega)) (fun h11 => ?_) (fun h11 => (by exfalso; omega))
    refine GX.run1 hR 7 (pc' := 303) (L' := [some (vR 0), some (vR 200), some (vR 150), some (vI z), some (vI 2), some (vI (τ.1 1)), some (vI (smI (iSr z 2) 5)), some (vI v6), none]) (st' := [vI (smI (iSr z 2) 5), vI (((τ.1 1) + 1) % 3), vR 0]) (X' := [(150, .inl (20, .inl q))]) (fun _ _ => rfl) (by first | omega | (dsimp only; omega)) ?_
    have f12 := hI2.hh (((τ.1 1) + 1) % 3) (smI (iSr z 2) 5)
    refine GX.ask hR hro [vI (((τ.1 1) + 1) % 3), vI (smI (iSr z 2) 5)] ((q_hand σ7 (by omega) (by omega)).gt) kL_89 rfl rfl rfl (by decide) (Nat.le_of_ble_eq_true rfl) (Nat.le_of_ble_eq_true rfl) rfl (fun _ _ => ⟨_, rfl⟩) ?_
    refine GX.br hR (pc1 := 368) (pc2 := 309) (st1 := []) (C := σ7.2.2 0 (((τ.1 1) + 1) % 3) (smI (iSr z 2) 5) ≠ 0) (fun _ => rfl) (by first | omega | (dsimp only; omega)) (fun h13 => (by exfalso; omega)) (fun h13 => ?_)
    refine GX.run1 hR 7 (pc' := 318) (L' := [some (vR 0), some (vR 200), some (vR 150), some (vI z), some (vI 2), some (vI (τ.1 1)), some (vI (smI (iSr z 2) 5)), some (vI v6), none]) (st' := [vI (smI (iSr z 2) 5), vI (((τ.1 1) + 2) % 3), vR 0]) (X' := [(150, .inl (20, .inl q))]) (fun _ _ => rfl) (by first | omega | (dsimp only; omega)) ?_
    have f14 := hI2.hh (((τ.1 1) + 2) % 3) (smI (iSr z 2) 5)
    refine GX.ask hR hro [vI (((τ.1 1) + 2) % 3), vI (smI (iSr z 2) 5)] ((q_hand σ7 (by omega) (by omega)).gt) kL_89 rfl rfl rfl (by decide) (Nat.le_of_ble_eq_true rfl) (Nat.le_of_ble_eq_true rfl) rfl (fun _ _ => ⟨_, rfl⟩) ?_
    refine GX.br hR (pc1 := 368) (pc2 := 324) (st1 := []) (C := σ7.2.2 0 (((τ.1 1) + 2) % 3) (smI (iSr z 2) 5) ≠ 0) (fun _ => rfl) (by first | omega | (dsimp only; omega)) (fun h15 => (by exfalso; omega)) (fun h15 => ?_)
    refine GX.run0 hR 3 (pc' := 329) (L' := [some (vR 0), some (vR 200), some (vR 150), some (vI z), some (vI 2), some (vI (τ.1 1)), some (vI (smI (iSr z 2) 5)), some (vI v6), none]) (st' := [vI (smI (iSr z 2) 5), vI (τ.1 1), vR 0]) (X' := [(150, .inl (20, .inl q))]) (fun _ _ => rfl) ?_
    have f16 := hI2.hh (τ.1 1) (smI (iSr z 2) 5)
    refine GX.ask hR hro [vI (τ.1 1), vI (smI (iSr z 2) 5)] ((q_hand σ7 (by omega) (by omega)).gt) kL_89 rfl rfl rfl (by decide) (Nat.le_of_ble_eq_true rfl) (Nat.le_of_ble_eq_true rfl) rfl (fun _ _ => ⟨_, rfl⟩) ?_
    refine GX.run1 hR 9 (pc' := 344) (L' := [some (vR 0), some (vR 200), some (vR 150), some (vI z), some (vI 2), some (vI (τ.1 1)), some (vI (smI (iSr z 2) 5)), some (vI v6), none]) (st' := [vI ((q ((5 * (τ.1 1)) + (smI (iSr z 2) 5))) + v6), vI (σ7.2.2 0 (τ.1 1) (smI (iSr z 2) 5))]) (X' := [(150, .inl (20, .inl q))]) (fun _ _ => rfl) (by first | omega | (dsimp only; omega)) ?_
    refine GX.br hR (pc1 := 368) (pc2 := 347) (st1 := []) (C := σ7.2.2 0 (τ.1 1) (smI (iSr z 2) 5) ≠ (q ((5 * (τ.1 1)) + (smI (iSr z 2) 5))) + v6) (fun _ => rfl) (by first | omega | (dsimp only; omega)) (fun h17 => (by exfalso; omega)) (fun h17 => ?_)
    refine GX.run0 hR 3 (pc' := 351) (L' := [some (vR 0), some (vR 200), some (vR 150), some (vI z), some (vI 2), some (vI (τ.1 1)), some (vI (smI (iSr z 2) 5)), some (vI v6), none]) (st' := [vI (smI (iSr z 2) 5), vI 3, vR 0]) (X' := [(150, .inl (20, .inl q))]) (fun _ _ => rfl) ?_
    have f18 := hI2.hh 3 (smI (iSr z 2) 5)
    refine GX.ask hR hro [vI 3, vI (smI (iSr z 2) 5)] ((q_hand σ7 (by omega) (by omega)).gt) kL_89 rfl rfl rfl (by decide) (Nat.le_of_ble_eq_true rfl) (Nat.le_of_ble_eq_true rfl) rfl (fun _ _ => ⟨_, rfl⟩) ?_
    refine GX.run1 hR 5 (pc' := 361) (L' := [some (vR 0), some (vR 200), some (vR 150), some (vI z), some (vI 2), some (vI (τ.1 1)), some (vI (smI (iSr z 2) 5)), some (vI v6), none]) (st' := [vI (q (15 + (smI (iSr z 2) 5))), vI (σ7.2.2 0 3 (smI (iSr z 2) 5))]) (X' := [(150, .inl (20, .inl q))]) (fun _ _ => rfl) (by first | omega | (dsimp only; omega)) ?_
    refine GX.br hR (pc1 := 368) (pc2 := 364) (st1 := []) (C := σ7.2.2 0 3 (smI (iSr z 2) 5) ≠ q (15 + (smI (iSr z 2) 5))) (fun _ => rfl) (by first | omega | (dsimp only; omega)) (fun h19 => (by exfalso; omega)) (fun h19 => ?_)
    refine GX.run0 hR 2 (pc' := 369) (L' := [some (vR 0), some (vR 200), some (vR 150), some (vI z), some (vI 2), some (vI (τ.1 1)), some (vI (smI (iSr z 2) 5)), some (vI v6), none]) (st' := [vI 1]) (X' := [(150, .inl (20, .inl q))]) (fun _ _ => rfl) ?_
    exact GX.rt hR hk rfl (.inr rfl) ⟨rfl, (Ov.of e5)⟩
theorem w_plays {ro : PRO} (hro : ∀ q ∈ roC, q ∈ ro) {τ : St} (hJ : Jx τ) {q : Int → Int} (hq : isQ (τ.2.2 0) q) (hO0 : Ov τ) (z : Int) : SX mL_plays ro 15 [vR 0, vR 200, vR 150, vI z] τ [(150, .inl (20, .inl q))] (fun i σ => i = 1 ∧ Ov σ) 2 := by
  have h := smI_r z (n := 3) (by omega)
  rcases (show smI z 3 = 0 ∨ smI z 3 = 1 ∨ smI z 3 = 2 from by omega) with h | h | h
  · exact w_plays0 hro hJ hq hO0 z h
  · exact w_plays1 hro hJ hq hO0 z h
  · exact w_plays2 hro hJ hq hO0 z h
