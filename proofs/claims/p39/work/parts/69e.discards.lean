/-! ===== discarding, as the law looks at it ===== -/
def Dg (q : Int → Int) (p due l g k : Int) : Prop := ∃ m : Int → Int, (∀ j, 0 ≤ j ∧ j < 5 → 0 ≤ m j ∧ m j ≤ 9 ∧ m j ≤ q (5 * p + j)) ∧ (∀ j, j ≤ k → m j = 0) ∧ g = m 0 + 10 * m 1 + 100 * m 2 + 1000 * m 3 + 10000 * m 4 ∧ l + (m 0 + m 1 + m 2 + m 3 + m 4) = due ∧ 0 ≤ l
theorem Dg_step {q : Int → Int} {p due l g k u n : Int} (hk : 0 ≤ k ∧ k < 5) (hu : u = sgl k) (h : Dg q p due l g k) (h0 : 0 ≤ n) (h9 : n ≤ 9) (hq : n ≤ q (5 * p + k)) (hl : n ≤ l) : Dg q p due (l - n) (g + n * u) (k - 1) := by
  obtain ⟨m, m1, m2, m3, m4, m5⟩ := h
  have mk := m2 k (Int.le_refl k)
  refine ⟨pup m k n, fun j hj => ?_, fun j hj => ?_, ?_, ?_, by omega⟩
  · unfold pup
    split
    · next e => rw [e]; omega
    · exact m1 j hj
  · unfold pup
    rw [if_neg (by omega)]
    exact m2 j (by omega)
  · subst hu
    rcases (show k = 0 ∨ k = 1 ∨ k = 2 ∨ k = 3 ∨ k = 4 from by omega) with rfl | rfl | rfl | rfl | rfl <;> simp [pup, sgl] <;> omega
  · rcases (show k = 0 ∨ k = 1 ∨ k = 2 ∨ k = 3 ∨ k = 4 from by omega) with rfl | rfl | rfl | rfl | rfl <;> simp [pup] <;> omega
theorem Dg_out {q : Int → Int} {p due l g k : Int} (h : Dg q p due l g k) : (0 ≤ g ∧ g ≤ 99999) ∧ szG g + l = due ∧ 0 ≤ l ∧ ∀ j, 0 ≤ j ∧ j < 5 → dgt g j ≤ q (5 * p + j) := by
  obtain ⟨m, m1, m2, m3, m4, m5⟩ := h
  have a0 := m1 0 (by omega)
  have a1 := m1 1 (by omega)
  have a2 := m1 2 (by omega)
  have a3 := m1 3 (by omega)
  have a4 := m1 4 (by omega)
  have q1 : g / 10 = m 1 + 10 * m 2 + 100 * m 3 + 1000 * m 4 := by omega
  have q2 : g / 100 = m 2 + 10 * m 3 + 100 * m 4 := by omega
  have q3 : g / 1000 = m 3 + 10 * m 4 := by omega
  have q4 : g / 10000 = m 4 := by omega
  have d0 : dgt g 0 = m 0 := by simp [dgt]; omega
  have d1 : dgt g 1 = m 1 := by
    show g / 10 % 10 = m 1
    rw [q1]
    omega
  have d2 : dgt g 2 = m 2 := by
    show g / 100 % 10 = m 2
    rw [q2]
    omega
  have d3 : dgt g 3 = m 3 := by
    show g / 1000 % 10 = m 3
    rw [q3]
    omega
  have d4 : dgt g 4 = m 4 := by
    show g / 10000 % 10 = m 4
    rw [q4]
    omega
  refine ⟨by omega, ?_, m5, fun j hj => ?_⟩
  · unfold szG
    rw [d0, d1, d2, d3, d4]
    omega
  · rcases (show j = 0 ∨ j = 1 ∨ j = 2 ∨ j = 3 ∨ j = 4 from by omega) with rfl | rfl | rfl | rfl | rfl
    · rw [d0]; exact a0.2.2
    · rw [d1]; exact a1.2.2
    · rw [d2]; exact a2.2.2
    · rw [d3]; exact a3.2.2
    · rw [d4]; exact a4.2.2
theorem has_of {h : Int → Int → Int} {p n : Int} (hd : ∀ j, 0 ≤ j ∧ j < 5 → dgt n j ≤ h p j) : hasG h p n = true := by
  simp only [hasG, Bool.and_eq_true, decide_eq_true_eq]
  exact ⟨⟨⟨⟨hd 0 (by omega), hd 1 (by omega)⟩, hd 2 (by omega)⟩, hd 3 (by omega)⟩, hd 4 (by omega)⟩
set_option maxHeartbeats 4000000 in
theorem w_discards {ro : PRO} (hro : ∀ q ∈ roC, q ∈ ro) {τ : St} (hJ : Jx τ) {q : Int → Int} (hq : isQ (τ.2.2 0) q) (hO0 : Ov τ) (z : Int)  : SX mL_discards ro 15 [vR 0, vR 200, vR 150, vI z] τ [(150, .inl (20, .inl q))] (fun i σ => i = 1 ∧ Ov σ) 2 := by
  have hI := hJ.iv
  refine SX.of rfl tL_discards (Nat.le_of_ble_eq_true rfl) (fun G ks hk hR => ?_)
  show GX G 0 τ ([(150, .inl (20, .inl q))]) 0 [some (vR 0), some (vR 200), some (vR 150), some (vI z), none, none, none, none, none, none] []
  have hqr := hq.r hI
  refine GX.run0 hR 2 (pc' := 2) (L' := [some (vR 0), some (vR 200), some (vR 150), some (vI z), none, none, none, none, none, none]) (st' := [vI 3, vI z]) (X' := [(150, .inl (20, .inl q))]) (fun _ _ => rfl) ?_
  have f1 := smI_r z (n := 3) (by omega)
  refine GX.sx hR [vI z, vI 3] (fun w => lp_some (x := z) (n := 3) (by omega) w) kL_158 rfl rfl (by decide) (Nat.le_of_ble_eq_true rfl) (Nat.le_of_ble_eq_true rfl) rfl ?_
  refine GX.run0 hR 3 (pc' := 10) (L' := [some (vR 0), some (vR 200), some (vR 150), some (vI z), some (vI (smI z 3)), none, none, none, none, none]) (st' := [vI (smI z 3), vR 0]) (X' := [(150, .inl (20, .inl q))]) (fun _ _ => rfl) ?_
  have f2 := hI.hdu (smI z 3)
  refine GX.ask hR hro [vI (smI z 3)] ((q_due τ (by omega)).gt) kL_95 rfl rfl rfl (by decide) (Nat.le_of_ble_eq_true rfl) (Nat.le_of_ble_eq_true rfl) rfl (fun _ _ => ⟨_, rfl⟩) ?_
  refine GX.run0 hR 7 (pc' := 26) (L' := [some (vR 0), some (vR 200), some (vR 150), some (vI z), some (vI (smI z 3)), some (vI (τ.2.1 4 (smI z 3))), some (vI 0), some (vI 10000), some (vI 4), none]) (st' := []) (X' := [(150, .inl (20, .inl q))]) (fun _ _ => rfl) ?_
  have d_e : ∀ l g : Int, Dg q (smI z 3) (τ.2.1 4 (smI z 3)) l g (-1) → GX G 0 τ ([(150, .inl (20, .inl q))]) 26 [some (vR 0), some (vR 200), some (vR 150), some (vI z), some (vI (smI z 3)), some (vI l), some (vI g), some (vI 0), some (vI (-1)), none] [] := by
    intro l g hD
    obtain ⟨hg, hs, hl, hd⟩ := Dg_out hD
    have hsz : 0 ≤ szG g := by have a0 := dgt_r g 0; have a1 := dgt_r g 1; have a2 := dgt_r g 2; have a3 := dgt_r g 3; have a4 := dgt_r g 4; unfold szG; omega
    have hhas : hasG (τ.2.2 0) (smI z 3) g = true := has_of (fun j hj => by rw [← hq.at (p := smI z 3) (g := j) (by omega) hj]; exact hd j hj)
    refine GX.run0 hR 1 (pc' := 28) (L' := [some (vR 0), some (vR 200), some (vR 150), some (vI z), some (vI (smI z 3)), some (vI l), some (vI g), some (vI 0), some (vI (-1)), none]) (st' := [vI (-1)]) (X' := [(150, .inl (20, .inl q))]) (fun _ _ => rfl) ?_
    refine GX.br hR (pc1 := 107) (pc2 := 31) (st1 := []) (C := ((-1) : Int) < 0) (fun _ => rfl) (by first | omega | (dsimp only; omega)) (fun h3 => ?_) (fun h3 => (by exfalso; omega))
    refine GX.run0 hR 2 (pc' := 110) (L' := [some (vR 0), some (vR 200), some (vR 150), some (vI z), some (vI (smI z 3)), some (vI l), some (vI g), some (vI 0), some (vI (-1)), none]) (st' := [vI (smI z 3), vR 0]) (X' := [(150, .inl (20, .inl q))]) (fun _ _ => rfl) ?_
    have f4 := hI.hdu (smI z 3)
    refine GX.ask hR hro [vI (smI z 3)] ((q_due τ (by omega)).gt) kL_95 rfl rfl rfl (by decide) (Nat.le_of_ble_eq_true rfl) (Nat.le_of_ble_eq_true rfl) rfl (fun _ _ => ⟨_, rfl⟩) ?_
    refine GX.run0 hR 7 (pc' := 123) (L' := [some (vR 0), some (vR 200), some (vR 150), some (vI z), some (vI (smI z 3)), some (vI l), some (vI g), some (vI 0), some (vI (τ.2.1 4 (smI z 3))), none]) (st' := [vI 0, vI g, vI (smI z 3), vI 4, vR 200, vR 0]) (X' := [(150, .inl (20, .inl q))]) (fun _ _ => rfl) ?_
    obtain ⟨v5, σ6, hcl, hc⟩ := s_disc hJ (p := smI z 3) (n := g) (by omega) hg 0
    refine GX.bo hR hro hcl rfl (by decide) (Nat.le_of_ble_eq_true rfl) rfl (by decide) (fun hJ2 => ?_)
    have hI2 := hJ2.iv
    rcases hc with ⟨e1, e2, e3⟩ | ⟨hv, e1, e2, e3, e4, e5⟩
    · skip
      rw [e1, e2]
      refine GX.run0 hR 2 (pc' := 130) (L' := [some (vR 0), some (vR 200), some (vR 150), some (vI z), some (vI (smI z 3)), some (vI l), some (vI g), some (vI 0), some (vI (τ.2.1 4 (smI z 3))), some (vI (-1123))]) (st' := [vI (τ.2.1 4 (smI z 3))]) (X' := [(150, .inl (20, .inl q))]) (fun _ _ => rfl) ?_
      refine GX.br hR (pc1 := 158) (pc2 := 133) (st1 := []) (C := τ.2.1 4 (smI z 3) ≠ 0) (fun _ => rfl) (by first | omega | (dsimp only; omega)) (fun h7 => ?_) (fun h7 => ?_)
      · skip
        refine GX.run0 hR 1 (pc' := 160) (L' := [some (vR 0), some (vR 200), some (vR 150), some (vI z), some (vI (smI z 3)), some (vI l), some (vI g), some (vI 0), some (vI (τ.2.1 4 (smI z 3))), some (vI (-1123))]) (st' := [vI l]) (X' := [(150, .inl (20, .inl q))]) (fun _ _ => rfl) ?_
        refine GX.br hR (pc1 := 179) (pc2 := 163) (st1 := []) (C := l ≤ 0) (fun _ => rfl) (by first | omega | (dsimp only; omega)) (fun h8 => (by exfalso; exact e3 ⟨by omega, by omega, hhas⟩)) (fun h8 => ?_)
        refine GX.run0 hR 2 (pc' := 168) (L' := [some (vR 0), some (vR 200), some (vR 150), some (vI z), some (vI (smI z 3)), some (vI l), some (vI g), some (vI 0), some (vI (τ.2.1 4 (smI z 3))), some (vI (-1123))]) (st' := [vI (-1123), vI (-1123)]) (X' := [(150, .inl (20, .inl q))]) (fun _ _ => rfl) ?_
        refine GX.br hR (pc1 := 175) (pc2 := 171) (st1 := []) (C := ((-1123) : Int) ≠ (-1123)) (fun _ => rfl) (by first | omega | (dsimp only; omega)) (fun h9 => (by exfalso; omega)) (fun h9 => ?_)
        refine GX.run0 hR 2 (pc' := 218) (L' := [some (vR 0), some (vR 200), some (vR 150), some (vI z), some (vI (smI z 3)), some (vI l), some (vI g), some (vI 0), some (vI (τ.2.1 4 (smI z 3))), some (vI (-1123))]) (st' := [vI 1]) (X' := [(150, .inl (20, .inl q))]) (fun _ _ => rfl) ?_
        exact GX.rt hR hk rfl (.inr rfl) ⟨rfl, hO0⟩
      · skip
        refine GX.run0 hR 2 (pc' := 138) (L' := [some (vR 0), some (vR 200), some (vR 150), some (vI z), some (vI (smI z 3)), some (vI l), some (vI g), some (vI 0), some (vI (τ.2.1 4 (smI z 3))), some (vI (-1123))]) (st' := [vI (-1123), vI (-1123)]) (X' := [(150, .inl (20, .inl q))]) (fun _ _ => rfl) ?_
        refine GX.br hR (pc1 := 156) (pc2 := 141) (st1 := []) (C := ((-1123) : Int) ≠ (-1123)) (fun _ => rfl) (by first | omega | (dsimp only; omega)) (fun h10 => (by exfalso; omega)) (fun h10 => ?_)
        refine GX.run0 hR 5 (pc' := 146) (L' := [some (vR 0), some (vR 200), some (vR 150), some (vI z), some (vI (smI z 3)), some (vI l), some (vI g), some (vI 0), some (vI (τ.2.1 4 (smI z 3))), some (vI (-1123))]) (st' := [vI 0, vI 0, vI 0, vR 150, vR 0]) (X' := [(150, .inl (20, .inl q))]) (fun _ _ => rfl) ?_
        refine GX.sg hR [vR 0, vR 150, vI 0, vI 0, vI 0] (fun κ κ2 hJ hJ2 => lp_moved hro hJ κ2 (q := q) (f := 0) (t := 0) (n := 0) (by omega) (by omega) (by omega) hqr (mvd_0 hq rfl)) kL_169 rfl rfl (by decide) (Nat.le_of_ble_eq_true rfl) (Nat.le_of_ble_eq_true rfl) rfl ?_
        refine GX.br hR (pc1 := 156) (pc2 := 152) (st1 := []) (C := (1 : Int) = 0) (fun _ => rfl) (by first | omega | (dsimp only; omega)) (fun h11 => (by exfalso; omega)) (fun h11 => ?_)
        refine GX.run0 hR 2 (pc' := 157) (L' := [some (vR 0), some (vR 200), some (vR 150), some (vI z), some (vI (smI z 3)), some (vI l), some (vI g), some (vI 0), some (vI (τ.2.1 4 (smI z 3))), some (vI (-1123))]) (st' := [vI 1]) (X' := [(150, .inl (20, .inl q))]) (fun _ _ => rfl) ?_
        exact GX.rt hR hk rfl (.inr rfl) ⟨rfl, hO0⟩
    · skip
      refine GX.run0 hR 2 (pc' := 130) (L' := [some (vR 0), some (vR 200), some (vR 150), some (vI z), some (vI (smI z 3)), some (vI l), some (vI g), some (vI 0), some (vI (τ.2.1 4 (smI z 3))), some (vI v5)]) (st' := [vI (τ.2.1 4 (smI z 3))]) (X' := [(150, .inl (20, .inl q))]) (fun _ _ => rfl) ?_
      refine GX.br hR (pc1 := 158) (pc2 := 133) (st1 := []) (C := τ.2.1 4 (smI z 3) ≠ 0) (fun _ => rfl) (by first | omega | (dsimp only; omega)) (fun h12 => ?_) (fun h12 => (by exfalso; omega))
      refine GX.run0 hR 1 (pc' := 160) (L' := [some (vR 0), some (vR 200), some (vR 150), some (vI z), some (vI (smI z 3)), some (vI l), some (vI g), some (vI 0), some (vI (τ.2.1 4 (smI z 3))), some (vI v5)]) (st' := [vI l]) (X' := [(150, .inl (20, .inl q))]) (fun _ _ => rfl) ?_
      refine GX.br hR (pc1 := 179) (pc2 := 163) (st1 := []) (C := l ≤ 0) (fun _ => rfl) (by first | omega | (dsimp only; omega)) (fun h13 => ?_) (fun h13 => (by exfalso; omega))
      refine GX.run0 hR 2 (pc' := 182) (L' := [some (vR 0), some (vR 200), some (vR 150), some (vI z), some (vI (smI z 3)), some (vI l), some (vI g), some (vI 0), some (vI (τ.2.1 4 (smI z 3))), some (vI v5)]) (st' := [vI 3, vI v5]) (X' := [(150, .inl (20, .inl q))]) (fun _ _ => rfl) ?_
      refine GX.br hR (pc1 := 191) (pc2 := 185) (st1 := []) (C := v5 = 3) (fun _ => rfl) (by first | omega | (dsimp only; omega)) (fun h14 => ?_) (fun h14 => ?_)
      · skip
        refine GX.run0 hR 5 (pc' := 198) (L' := [some (vR 0), some (vR 200), some (vR 150), some (vI z), some (vI (smI z 3)), some (vI l), some (vI g), some (vI 0), some (vI (τ.2.1 4 (smI z 3))), some (vI v5)]) (st' := [vI g, vI 3, vI (smI z 3), vR 150, vR 0]) (X' := [(150, .inl (20, .inl q))]) (fun _ _ => rfl) ?_
        refine GX.sg hR [vR 0, vR 150, vI (smI z 3), vI 3, vI g] (fun κ κ2 hJ hJ2 => lp_moved hro hJ κ2 (q := q) (f := smI z 3) (t := 3) (n := g) (by omega) (by omega) (by omega) hqr (mvd_of hq e1)) kL_169 rfl rfl (by decide) (Nat.le_of_ble_eq_true rfl) (Nat.le_of_ble_eq_true rfl) rfl ?_
        refine GX.br hR (pc1 := 217) (pc2 := 204) (st1 := []) (C := (1 : Int) = 0) (fun _ => rfl) (by first | omega | (dsimp only; omega)) (fun h15 => (by exfalso; omega)) (fun h15 => ?_)
        refine GX.run0 hR 2 (pc' := 207) (L' := [some (vR 0), some (vR 200), some (vR 150), some (vI z), some (vI (smI z 3)), some (vI l), some (vI g), some (vI 0), some (vI (τ.2.1 4 (smI z 3))), some (vI v5)]) (st' := [vI (smI z 3), vR 0]) (X' := [(150, .inl (20, .inl q))]) (fun _ _ => rfl) ?_
        have f16 := hI2.hdu (smI z 3)
        refine GX.ask hR hro [vI (smI z 3)] ((q_due σ6 (by omega)).gt) kL_95 rfl rfl rfl (by decide) (Nat.le_of_ble_eq_true rfl) (Nat.le_of_ble_eq_true rfl) rfl (fun _ _ => ⟨_, rfl⟩) ?_
        refine GX.br hR (pc1 := 217) (pc2 := 213) (st1 := []) (C := σ6.2.1 4 (smI z 3) ≠ 0) (fun _ => rfl) (by first | omega | (dsimp only; omega)) (fun h17 => (by exfalso; omega)) (fun h17 => ?_)
        refine GX.run0 hR 2 (pc' := 218) (L' := [some (vR 0), some (vR 200), some (vR 150), some (vI z), some (vI (smI z 3)), some (vI l), some (vI g), some (vI 0), some (vI (τ.2.1 4 (smI z 3))), some (vI v5)]) (st' := [vI 1]) (X' := [(150, .inl (20, .inl q))]) (fun _ _ => rfl) ?_
        exact GX.rt hR hk rfl (.inr rfl) ⟨rfl, (Ov.of (by omega))⟩
      · skip
        refine GX.run0 hR 2 (pc' := 188) (L' := [some (vR 0), some (vR 200), some (vR 150), some (vI z), some (vI (smI z 3)), some (vI l), some (vI g), some (vI 0), some (vI (τ.2.1 4 (smI z 3))), some (vI v5)]) (st' := [vI 4, vI v5]) (X' := [(150, .inl (20, .inl q))]) (fun _ _ => rfl) ?_
        refine GX.br hR (pc1 := 217) (pc2 := 191) (st1 := []) (C := v5 ≠ 4) (fun _ => rfl) (by first | omega | (dsimp only; omega)) (fun h18 => (by exfalso; omega)) (fun h18 => ?_)
        refine GX.run0 hR 5 (pc' := 198) (L' := [some (vR 0), some (vR 200), some (vR 150), some (vI z), some (vI (smI z 3)), some (vI l), some (vI g), some (vI 0), some (vI (τ.2.1 4 (smI z 3))), some (vI v5)]) (st' := [vI g, vI 3, vI (smI z 3), vR 150, vR 0]) (X' := [(150, .inl (20, .inl q))]) (fun _ _ => rfl) ?_
        refine GX.sg hR [vR 0, vR 150, vI (smI z 3), vI 3, vI g] (fun κ κ2 hJ hJ2 => lp_moved hro hJ κ2 (q := q) (f := smI z 3) (t := 3) (n := g) (by omega) (by omega) (by omega) hqr (mvd_of hq e1)) kL_169 rfl rfl (by decide) (Nat.le_of_ble_eq_true rfl) (Nat.le_of_ble_eq_true rfl) rfl ?_
        refine GX.br hR (pc1 := 217) (pc2 := 204) (st1 := []) (C := (1 : Int) = 0) (fun _ => rfl) (by first | omega | (dsimp only; omega)) (fun h19 => (by exfalso; omega)) (fun h19 => ?_)
        refine GX.run0 hR 2 (pc' := 207) (L' := [some (vR 0), some (vR 200), some (vR 150), some (vI z), some (vI (smI z 3)), some (vI l), some (vI g), some (vI 0), some (vI (τ.2.1 4 (smI z 3))), some (vI v5)]) (st' := [vI (smI z 3), vR 0]) (X' := [(150, .inl (20, .inl q))]) (fun _ _ => rfl) ?_
        have f20 := hI2.hdu (smI z 3)
        refine GX.ask hR hro [vI (smI z 3)] ((q_due σ6 (by omega)).gt) kL_95 rfl rfl rfl (by decide) (Nat.le_of_ble_eq_true rfl) (Nat.le_of_ble_eq_true rfl) rfl (fun _ _ => ⟨_, rfl⟩) ?_
        refine GX.br hR (pc1 := 217) (pc2 := 213) (st1 := []) (C := σ6.2.1 4 (smI z 3) ≠ 0) (fun _ => rfl) (by first | omega | (dsimp only; omega)) (fun h21 => (by exfalso; omega)) (fun h21 => ?_)
        refine GX.run0 hR 2 (pc' := 218) (L' := [some (vR 0), some (vR 200), some (vR 150), some (vI z), some (vI (smI z 3)), some (vI l), some (vI g), some (vI 0), some (vI (τ.2.1 4 (smI z 3))), some (vI v5)]) (st' := [vI 1]) (X' := [(150, .inl (20, .inl q))]) (fun _ _ => rfl) ?_
        exact GX.rt hR hk rfl (.inr rfl) ⟨rfl, (Ov.of (by omega))⟩
  have d_0 : ∀ l g : Int, Dg q (smI z 3) (τ.2.1 4 (smI z 3)) l g 0 → GX G 0 τ ([(150, .inl (20, .inl q))]) 26 [some (vR 0), some (vR 200), some (vR 150), some (vI z), some (vI (smI z 3)), some (vI l), some (vI g), some (vI 1), some (vI 0), none] [] := by
    intro l g hD
    have hkq := hqr (5 * (smI z 3) + 0) (by omega)
    have hl := (Dg_out hD).2.2.1
    have hdl := (Dg_out hD).2.1
    have hsz : 0 ≤ szG g := by have a0 := dgt_r g 0; have a1 := dgt_r g 1; have a2 := dgt_r g 2; have a3 := dgt_r g 3; have a4 := dgt_r g 4; unfold szG; omega
    refine GX.run0 hR 1 (pc' := 28) (L' := [some (vR 0), some (vR 200), some (vR 150), some (vI z), some (vI (smI z 3)), some (vI l), some (vI g), some (vI 1), some (vI 0), none]) (st' := [vI 0]) (X' := [(150, .inl (20, .inl q))]) (fun _ _ => rfl) ?_
    refine GX.br hR (pc1 := 107) (pc2 := 31) (st1 := []) (C := (0 : Int) < 0) (fun _ => rfl) (by first | omega | (dsimp only; omega)) (fun h22 => (by exfalso; omega)) (fun h22 => ?_)
    refine GX.run1 hR 8 (pc' := 42) (L' := [some (vR 0), some (vR 200), some (vR 150), some (vI z), some (vI (smI z 3)), some (vI l), some (vI g), some (vI 1), some (vI 0), none]) (st' := [vI l, vI (q ((5 * (smI z 3)) + 0))]) (X' := [(150, .inl (20, .inl q))]) (fun _ _ => rfl) (by first | omega | (dsimp only; omega)) ?_
    have hm : ∀ n : Int, 0 ≤ n → n ≤ 9 → n ≤ q (5 * (smI z 3) + 0) → n ≤ l → GX G 0 τ ([(150, .inl (20, .inl q))]) 77 [some (vR 0), some (vR 200), some (vR 150), some (vI z), some (vI (smI z 3)), some (vI l), some (vI g), some (vI 1), some (vI 0), some (vI n)] [] := by
      intro n n0 n9 nq nl
      refine GX.run1 hR 16 (pc' := 26) (L' := [some (vR 0), some (vR 200), some (vR 150), some (vI z), some (vI (smI z 3)), some (vI (l - n)), some (vI (g + (n * 1))), some (vI 0), some (vI (-1)), some (vI n)]) (st' := []) (X' := [(150, .inl (20, .inl q))]) (fun _ _ => rfl) (by first | omega | (dsimp only; omega)) ?_
      refine GX.fg hR 9 ?_
      exact d_e _ _ (Dg_step (u := 1) (by omega) (by decide) hD n0 n9 nq nl)
    refine GX.br hR (pc1 := 57) (pc2 := 45) (st1 := []) (C := l ≤ q ((5 * (smI z 3)) + 0)) (fun _ => rfl) (by first | omega | (dsimp only; omega)) (fun h23 => ?_) (fun h23 => ?_)
    · skip
      refine GX.run0 hR 4 (pc' := 65) (L' := [some (vR 0), some (vR 200), some (vR 150), some (vI z), some (vI (smI z 3)), some (vI l), some (vI g), some (vI 1), some (vI 0), some (vI l)]) (st' := [vI 9, vI l]) (X' := [(150, .inl (20, .inl q))]) (fun _ _ => rfl) ?_
      refine GX.br hR (pc1 := 73) (pc2 := 68) (st1 := []) (C := l ≤ 9) (fun _ => rfl) (by first | omega | (dsimp only; omega)) (fun h24 => ?_) (fun h24 => ?_)
      · skip
        refine GX.run0 hR 2 (pc' := 77) (L' := [some (vR 0), some (vR 200), some (vR 150), some (vI z), some (vI (smI z 3)), some (vI l), some (vI g), some (vI 1), some (vI 0), some (vI l)]) (st' := []) (X' := [(150, .inl (20, .inl q))]) (fun _ _ => rfl) ?_
        exact hm _ (by omega) (by omega) (by omega) (by omega)
      · skip
        refine GX.run0 hR 3 (pc' := 77) (L' := [some (vR 0), some (vR 200), some (vR 150), some (vI z), some (vI (smI z 3)), some (vI l), some (vI g), some (vI 1), some (vI 0), some (vI 9)]) (st' := []) (X' := [(150, .inl (20, .inl q))]) (fun _ _ => rfl) ?_
        exact hm _ (by omega) (by omega) (by omega) (by omega)
    · skip
      refine GX.run1 hR 11 (pc' := 65) (L' := [some (vR 0), some (vR 200), some (vR 150), some (vI z), some (vI (smI z 3)), some (vI l), some (vI g), some (vI 1), some (vI 0), some (vI (q ((5 * (smI z 3)) + 0)))]) (st' := [vI 9, vI (q ((5 * (smI z 3)) + 0))]) (X' := [(150, .inl (20, .inl q))]) (fun _ _ => rfl) (by first | omega | (dsimp only; omega)) ?_
      refine GX.br hR (pc1 := 73) (pc2 := 68) (st1 := []) (C := q ((5 * (smI z 3)) + 0) ≤ 9) (fun _ => rfl) (by first | omega | (dsimp only; omega)) (fun h25 => ?_) (fun h25 => ?_)
      · skip
        refine GX.run0 hR 2 (pc' := 77) (L' := [some (vR 0), some (vR 200), some (vR 150), some (vI z), some (vI (smI z 3)), some (vI l), some (vI g), some (vI 1), some (vI 0), some (vI (q ((5 * (smI z 3)) + 0)))]) (st' := []) (X' := [(150, .inl (20, .inl q))]) (fun _ _ => rfl) ?_
        exact hm _ (by omega) (by omega) (by omega) (by omega)
      · skip
        refine GX.run0 hR 3 (pc' := 77) (L' := [some (vR 0), some (vR 200), some (vR 150), some (vI z), some (vI (smI z 3)), some (vI l), some (vI g), some (vI 1), some (vI 0), some (vI 9)]) (st' := []) (X' := [(150, .inl (20, .inl q))]) (fun _ _ => rfl) ?_
        exact hm _ (by omega) (by omega) (by omega) (by omega)
  have d_1 : ∀ l g : Int, Dg q (smI z 3) (τ.2.1 4 (smI z 3)) l g 1 → GX G 0 τ ([(150, .inl (20, .inl q))]) 26 [some (vR 0), some (vR 200), some (vR 150), some (vI z), some (vI (smI z 3)), some (vI l), some (vI g), some (vI 10), some (vI 1), none] [] := by
    intro l g hD
    have hkq := hqr (5 * (smI z 3) + 1) (by omega)
    have hl := (Dg_out hD).2.2.1
    have hdl := (Dg_out hD).2.1
    have hsz : 0 ≤ szG g := by have a0 := dgt_r g 0; have a1 := dgt_r g 1; have a2 := dgt_r g 2; have a3 := dgt_r g 3; have a4 := dgt_r g 4; unfold szG; omega
    refine GX.run0 hR 1 (pc' := 28) (L' := [some (vR 0), some (vR 200), some (vR 150), some (vI z), some (vI (smI z 3)), some (vI l), some (vI g), some (vI 10), some (vI 1), none]) (st' := [vI 1]) (X' := [(150, .inl (20, .inl q))]) (fun _ _ => rfl) ?_
    refine GX.br hR (pc1 := 107) (pc2 := 31) (st1 := []) (C := (1 : Int) < 0) (fun _ => rfl) (by first | omega | (dsimp only; omega)) (fun h26 => (by exfalso; omega)) (fun h26 => ?_)
    refine GX.run1 hR 8 (pc' := 42) (L' := [some (vR 0), some (vR 200), some (vR 150), some (vI z), some (vI (smI z 3)), some (vI l), some (vI g), some (vI 10), some (vI 1), none]) (st' := [vI l, vI (q ((5 * (smI z 3)) + 1))]) (X' := [(150, .inl (20, .inl q))]) (fun _ _ => rfl) (by first | omega | (dsimp only; omega)) ?_
    have hm : ∀ n : Int, 0 ≤ n → n ≤ 9 → n ≤ q (5 * (smI z 3) + 1) → n ≤ l → GX G 0 τ ([(150, .inl (20, .inl q))]) 77 [some (vR 0), some (vR 200), some (vR 150), some (vI z), some (vI (smI z 3)), some (vI l), some (vI g), some (vI 10), some (vI 1), some (vI n)] [] := by
      intro n n0 n9 nq nl
      refine GX.run1 hR 16 (pc' := 26) (L' := [some (vR 0), some (vR 200), some (vR 150), some (vI z), some (vI (smI z 3)), some (vI (l - n)), some (vI (g + (n * 10))), some (vI 1), some (vI 0), some (vI n)]) (st' := []) (X' := [(150, .inl (20, .inl q))]) (fun _ _ => rfl) (by first | omega | (dsimp only; omega)) ?_
      refine GX.fg hR 9 ?_
      exact d_0 _ _ (Dg_step (u := 10) (by omega) (by decide) hD n0 n9 nq nl)
    refine GX.br hR (pc1 := 57) (pc2 := 45) (st1 := []) (C := l ≤ q ((5 * (smI z 3)) + 1)) (fun _ => rfl) (by first | omega | (dsimp only; omega)) (fun h27 => ?_) (fun h27 => ?_)
    · skip
      refine GX.run0 hR 4 (pc' := 65) (L' := [some (vR 0), some (vR 200), some (vR 150), some (vI z), some (vI (smI z 3)), some (vI l), some (vI g), some (vI 10), some (vI 1), some (vI l)]) (st' := [vI 9, vI l]) (X' := [(150, .inl (20, .inl q))]) (fun _ _ => rfl) ?_
      refine GX.br hR (pc1 := 73) (pc2 := 68) (st1 := []) (C := l ≤ 9) (fun _ => rfl) (by first | omega | (dsimp only; omega)) (fun h28 => ?_) (fun h28 => ?_)
      · skip
        refine GX.run0 hR 2 (pc' := 77) (L' := [some (vR 0), some (vR 200), some (vR 150), some (vI z), some (vI (smI z 3)), some (vI l), some (vI g), some (vI 10), some (vI 1), some (vI l)]) (st' := []) (X' := [(150, .inl (20, .inl q))]) (fun _ _ => rfl) ?_
        exact hm _ (by omega) (by omega) (by omega) (by omega)
      · skip
        refine GX.run0 hR 3 (pc' := 77) (L' := [some (vR 0), some (vR 200), some (vR 150), some (vI z), some (vI (smI z 3)), some (vI l), some (vI g), some (vI 10), some (vI 1), some (vI 9)]) (st' := []) (X' := [(150, .inl (20, .inl q))]) (fun _ _ => rfl) ?_
        exact hm _ (by omega) (by omega) (by omega) (by omega)
    · skip
      refine GX.run1 hR 11 (pc' := 65) (L' := [some (vR 0), some (vR 200), some (vR 150), some (vI z), some (vI (smI z 3)), some (vI l), some (vI g), some (vI 10), some (vI 1), some (vI (q ((5 * (smI z 3)) + 1)))]) (st' := [vI 9, vI (q ((5 * (smI z 3)) + 1))]) (X' := [(150, .inl (20, .inl q))]) (fun _ _ => rfl) (by first | omega | (dsimp only; omega)) ?_
      refine GX.br hR (pc1 := 73) (pc2 := 68) (st1 := []) (C := q ((5 * (smI z 3)) + 1) ≤ 9) (fun _ => rfl) (by first | omega | (dsimp only; omega)) (fun h29 => ?_) (fun h29 => ?_)
      · skip
        refine GX.run0 hR 2 (pc' := 77) (L' := [some (vR 0), some (vR 200), some (vR 150), some (vI z), some (vI (smI z 3)), some (vI l), some (vI g), some (vI 10), some (vI 1), some (vI (q ((5 * (smI z 3)) + 1)))]) (st' := []) (X' := [(150, .inl (20, .inl q))]) (fun _ _ => rfl) ?_
        exact hm _ (by omega) (by omega) (by omega) (by omega)
      · skip
        refine GX.run0 hR 3 (pc' := 77) (L' := [some (vR 0), some (vR 200), some (vR 150), some (vI z), some (vI (smI z 3)), some (vI l), some (vI g), some (vI 10), some (vI 1), some (vI 9)]) (st' := []) (X' := [(150, .inl (20, .inl q))]) (fun _ _ => rfl) ?_
        exact hm _ (by omega) (by omega) (by omega) (by omega)
  have d_2 : ∀ l g : Int, Dg q (smI z 3) (τ.2.1 4 (smI z 3)) l g 2 → GX G 0 τ ([(150, .inl (20, .inl q))]) 26 [some (vR 0), some (vR 200), some (vR 150), some (vI z), some (vI (smI z 3)), some (vI l), some (vI g), some (vI 100), some (vI 2), none] [] := by
    intro l g hD
    have hkq := hqr (5 * (smI z 3) + 2) (by omega)
    have hl := (Dg_out hD).2.2.1
    have hdl := (Dg_out hD).2.1
    have hsz : 0 ≤ szG g := by have a0 := dgt_r g 0; have a1 := dgt_r g 1; have a2 := dgt_r g 2; have a3 := dgt_r g 3; have a4 := dgt_r g 4; unfold szG; omega
    refine GX.run0 hR 1 (pc' := 28) (L' := [some (vR 0), some (vR 200), some (vR 150), some (vI z), some (vI (smI z 3)), some (vI l), some (vI g), some (vI 100), some (vI 2), none]) (st' := [vI 2]) (X' := [(150, .inl (20, .inl q))]) (fun _ _ => rfl) ?_
    refine GX.br hR (pc1 := 107) (pc2 := 31) (st1 := []) (C := (2 : Int) < 0) (fun _ => rfl) (by first | omega | (dsimp only; omega)) (fun h30 => (by exfalso; omega)) (fun h30 => ?_)
    refine GX.run1 hR 8 (pc' := 42) (L' := [some (vR 0), some (vR 200), some (vR 150), some (vI z), some (vI (smI z 3)), some (vI l), some (vI g), some (vI 100), some (vI 2), none]) (st' := [vI l, vI (q ((5 * (smI z 3)) + 2))]) (X' := [(150, .inl (20, .inl q))]) (fun _ _ => rfl) (by first | omega | (dsimp only; omega)) ?_
    have hm : ∀ n : Int, 0 ≤ n → n ≤ 9 → n ≤ q (5 * (smI z 3) + 2) → n ≤ l → GX G 0 τ ([(150, .inl (20, .inl q))]) 77 [some (vR 0), some (vR 200), some (vR 150), some (vI z), some (vI (smI z 3)), some (vI l), some (vI g), some (vI 100), some (vI 2), some (vI n)] [] := by
      intro n n0 n9 nq nl
      refine GX.run1 hR 16 (pc' := 26) (L' := [some (vR 0), some (vR 200), some (vR 150), some (vI z), some (vI (smI z 3)), some (vI (l - n)), some (vI (g + (n * 100))), some (vI 10), some (vI 1), some (vI n)]) (st' := []) (X' := [(150, .inl (20, .inl q))]) (fun _ _ => rfl) (by first | omega | (dsimp only; omega)) ?_
      refine GX.fg hR 9 ?_
      exact d_1 _ _ (Dg_step (u := 100) (by omega) (by decide) hD n0 n9 nq nl)
    refine GX.br hR (pc1 := 57) (pc2 := 45) (st1 := []) (C := l ≤ q ((5 * (smI z 3)) + 2)) (fun _ => rfl) (by first | omega | (dsimp only; omega)) (fun h31 => ?_) (fun h31 => ?_)
    · skip
      refine GX.run0 hR 4 (pc' := 65) (L' := [some (vR 0), some (vR 200), some (vR 150), some (vI z), some (vI (smI z 3)), some (vI l), some (vI g), some (vI 100), some (vI 2), some (vI l)]) (st' := [vI 9, vI l]) (X' := [(150, .inl (20, .inl q))]) (fun _ _ => rfl) ?_
      refine GX.br hR (pc1 := 73) (pc2 := 68) (st1 := []) (C := l ≤ 9) (fun _ => rfl) (by first | omega | (dsimp only; omega)) (fun h32 => ?_) (fun h32 => ?_)
      · skip
        refine GX.run0 hR 2 (pc' := 77) (L' := [some (vR 0), some (vR 200), some (vR 150), some (vI z), some (vI (smI z 3)), some (vI l), some (vI g), some (vI 100), some (vI 2), some (vI l)]) (st' := []) (X' := [(150, .inl (20, .inl q))]) (fun _ _ => rfl) ?_
        exact hm _ (by omega) (by omega) (by omega) (by omega)
      · skip
        refine GX.run0 hR 3 (pc' := 77) (L' := [some (vR 0), some (vR 200), some (vR 150), some (vI z), some (vI (smI z 3)), some (vI l), some (vI g), some (vI 100), some (vI 2), some (vI 9)]) (st' := []) (X' := [(150, .inl (20, .inl q))]) (fun _ _ => rfl) ?_
        exact hm _ (by omega) (by omega) (by omega) (by omega)
    · skip
      refine GX.run1 hR 11 (pc' := 65) (L' := [some (vR 0), some (vR 200), some (vR 150), some (vI z), some (vI (smI z 3)), some (vI l), some (vI g), some (vI 100), some (vI 2), some (vI (q ((5 * (smI z 3)) + 2)))]) (st' := [vI 9, vI (q ((5 * (smI z 3)) + 2))]) (X' := [(150, .inl (20, .inl q))]) (fun _ _ => rfl) (by first | omega | (dsimp only; omega)) ?_
      refine GX.br hR (pc1 := 73) (pc2 := 68) (st1 := []) (C := q ((5 * (smI z 3)) + 2) ≤ 9) (fun _ => rfl) (by first | omega | (dsimp only; omega)) (fun h33 => ?_) (fun h33 => ?_)
      · skip
        refine GX.run0 hR 2 (pc' := 77) (L' := [some (vR 0), some (vR 200), some (vR 150), some (vI z), some (vI (smI z 3)), some (vI l), some (vI g), some (vI 100), some (vI 2), some (vI (q ((5 * (smI z 3)) + 2)))]) (st' := []) (X' := [(150, .inl (20, .inl q))]) (fun _ _ => rfl) ?_
        exact hm _ (by omega) (by omega) (by omega) (by omega)
      · skip
        refine GX.run0 hR 3 (pc' := 77) (L' := [some (vR 0), some (vR 200), some (vR 150), some (vI z), some (vI (smI z 3)), some (vI l), some (vI g), some (vI 100), some (vI 2), some (vI 9)]) (st' := []) (X' := [(150, .inl (20, .inl q))]) (fun _ _ => rfl) ?_
        exact hm _ (by omega) (by omega) (by omega) (by omega)
  have d_3 : ∀ l g : Int, Dg q (smI z 3) (τ.2.1 4 (smI z 3)) l g 3 → GX G 0 τ ([(150, .inl (20, .inl q))]) 26 [some (vR 0), some (vR 200), some (vR 150), some (vI z), some (vI (smI z 3)), some (vI l), some (vI g), some (vI 1000), some (vI 3), none] [] := by
    intro l g hD
    have hkq := hqr (5 * (smI z 3) + 3) (by omega)
    have hl := (Dg_out hD).2.2.1
    have hdl := (Dg_out hD).2.1
    have hsz : 0 ≤ szG g := by have a0 := dgt_r g 0; have a1 := dgt_r g 1; have a2 := dgt_r g 2; have a3 := dgt_r g 3; have a4 := dgt_r g 4; unfold szG; omega
    refine GX.run0 hR 1 (pc' := 28) (L' := [some (vR 0), some (vR 200), some (vR 150), some (vI z), some (vI (smI z 3)), some (vI l), some (vI g), some (vI 1000), some (vI 3), none]) (st' := [vI 3]) (X' := [(150, .inl (20, .inl q))]) (fun _ _ => rfl) ?_
    refine GX.br hR (pc1 := 107) (pc2 := 31) (st1 := []) (C := (3 : Int) < 0) (fun _ => rfl) (by first | omega | (dsimp only; omega)) (fun h34 => (by exfalso; omega)) (fun h34 => ?_)
    refine GX.run1 hR 8 (pc' := 42) (L' := [some (vR 0), some (vR 200), some (vR 150), some (vI z), some (vI (smI z 3)), some (vI l), some (vI g), some (vI 1000), some (vI 3), none]) (st' := [vI l, vI (q ((5 * (smI z 3)) + 3))]) (X' := [(150, .inl (20, .inl q))]) (fun _ _ => rfl) (by first | omega | (dsimp only; omega)) ?_
    have hm : ∀ n : Int, 0 ≤ n → n ≤ 9 → n ≤ q (5 * (smI z 3) + 3) → n ≤ l → GX G 0 τ ([(150, .inl (20, .inl q))]) 77 [some (vR 0), some (vR 200), some (vR 150), some (vI z), some (vI (smI z 3)), some (vI l), some (vI g), some (vI 1000), some (vI 3), some (vI n)] [] := by
      intro n n0 n9 nq nl
      refine GX.run1 hR 16 (pc' := 26) (L' := [some (vR 0), some (vR 200), some (vR 150), some (vI z), some (vI (smI z 3)), some (vI (l - n)), some (vI (g + (n * 1000))), some (vI 100), some (vI 2), some (vI n)]) (st' := []) (X' := [(150, .inl (20, .inl q))]) (fun _ _ => rfl) (by first | omega | (dsimp only; omega)) ?_
      refine GX.fg hR 9 ?_
      exact d_2 _ _ (Dg_step (u := 1000) (by omega) (by decide) hD n0 n9 nq nl)
    refine GX.br hR (pc1 := 57) (pc2 := 45) (st1 := []) (C := l ≤ q ((5 * (smI z 3)) + 3)) (fun _ => rfl) (by first | omega | (dsimp only; omega)) (fun h35 => ?_) (fun h35 => ?_)
    · skip
      refine GX.run0 hR 4 (pc' := 65) (L' := [some (vR 0), some (vR 200), some (vR 150), some (vI z), some (vI (smI z 3)), some (vI l), some (vI g), some (vI 1000), some (vI 3), some (vI l)]) (st' := [vI 9, vI l]) (X' := [(150, .inl (20, .inl q))]) (fun _ _ => rfl) ?_
      refine GX.br hR (pc1 := 73) (pc2 := 68) (st1 := []) (C := l ≤ 9) (fun _ => rfl) (by first | omega | (dsimp only; omega)) (fun h36 => ?_) (fun h36 => ?_)
      · skip
        refine GX.run0 hR 2 (pc' := 77) (L' := [some (vR 0), some (vR 200), some (vR 150), some (vI z), some (vI (smI z 3)), some (vI l), some (vI g), some (vI 1000), some (vI 3), some (vI l)]) (st' := []) (X' := [(150, .inl (20, .inl q))]) (fun _ _ => rfl) ?_
        exact hm _ (by omega) (by omega) (by omega) (by omega)
      · skip
        refine GX.run0 hR 3 (pc' := 77) (L' := [some (vR 0), some (vR 200), some (vR 150), some (vI z), some (vI (smI z 3)), some (vI l), some (vI g), some (vI 1000), some (vI 3), some (vI 9)]) (st' := []) (X' := [(150, .inl (20, .inl q))]) (fun _ _ => rfl) ?_
        exact hm _ (by omega) (by omega) (by omega) (by omega)
    · skip
      refine GX.run1 hR 11 (pc' := 65) (L' := [some (vR 0), some (vR 200), some (vR 150), some (vI z), some (vI (smI z 3)), some (vI l), some (vI g), some (vI 1000), some (vI 3), some (vI (q ((5 * (smI z 3)) + 3)))]) (st' := [vI 9, vI (q ((5 * (smI z 3)) + 3))]) (X' := [(150, .inl (20, .inl q))]) (fun _ _ => rfl) (by first | omega | (dsimp only; omega)) ?_
      refine GX.br hR (pc1 := 73) (pc2 := 68) (st1 := []) (C := q ((5 * (smI z 3)) + 3) ≤ 9) (fun _ => rfl) (by first | omega | (dsimp only; omega)) (fun h37 => ?_) (fun h37 => ?_)
      · skip
        refine GX.run0 hR 2 (pc' := 77) (L' := [some (vR 0), some (vR 200), some (vR 150), some (vI z), some (vI (smI z 3)), some (vI l), some (vI g), some (vI 1000), some (vI 3), some (vI (q ((5 * (smI z 3)) + 3)))]) (st' := []) (X' := [(150, .inl (20, .inl q))]) (fun _ _ => rfl) ?_
        exact hm _ (by omega) (by omega) (by omega) (by omega)
      · skip
        refine GX.run0 hR 3 (pc' := 77) (L' := [some (vR 0), some (vR 200), some (vR 150), some (vI z), some (vI (smI z 3)), some (vI l), some (vI g), some (vI 1000), some (vI 3), some (vI 9)]) (st' := []) (X' := [(150, .inl (20, .inl q))]) (fun _ _ => rfl) ?_
        exact hm _ (by omega) (by omega) (by omega) (by omega)
  have d_4 : ∀ l g : Int, Dg q (smI z 3) (τ.2.1 4 (smI z 3)) l g 4 → GX G 0 τ ([(150, .inl (20, .inl q))]) 26 [some (vR 0), some (vR 200), some (vR 150), some (vI z), some (vI (smI z 3)), some (vI l), some (vI g), some (vI 10000), some (vI 4), none] [] := by
    intro l g hD
    have hkq := hqr (5 * (smI z 3) + 4) (by omega)
    have hl := (Dg_out hD).2.2.1
    have hdl := (Dg_out hD).2.1
    have hsz : 0 ≤ szG g := by have a0 := dgt_r g 0; have a1 := dgt_r g 1; have a2 := dgt_r g 2; have a3 := dgt_r g 3; have a4 := dgt_r g 4; unfold szG; omega
    refine GX.run0 hR 1 (pc' := 28) (L' := [some (vR 0), some (vR 200), some (vR 150), some (vI z), some (vI (smI z 3)), some (vI l), some (vI g), some (vI 10000), some (vI 4), none]) (st' := [vI 4]) (X' := [(150, .inl (20, .inl q))]) (fun _ _ => rfl) ?_
    refine GX.br hR (pc1 := 107) (pc2 := 31) (st1 := []) (C := (4 : Int) < 0) (fun _ => rfl) (by first | omega | (dsimp only; omega)) (fun h38 => (by exfalso; omega)) (fun h38 => ?_)
    refine GX.run1 hR 8 (pc' := 42) (L' := [some (vR 0), some (vR 200), some (vR 150), some (vI z), some (vI (smI z 3)), some (vI l), some (vI g), some (vI 10000), some (vI 4), none]) (st' := [vI l, vI (q ((5 * (smI z 3)) + 4))]) (X' := [(150, .inl (20, .inl q))]) (fun _ _ => rfl) (by first | omega | (dsimp only; omega)) ?_
    have hm : ∀ n : Int, 0 ≤ n → n ≤ 9 → n ≤ q (5 * (smI z 3) + 4) → n ≤ l → GX G 0 τ ([(150, .inl (20, .inl q))]) 77 [some (vR 0), some (vR 200), some (vR 150), some (vI z), some (vI (smI z 3)), some (vI l), some (vI g), some (vI 10000), some (vI 4), some (vI n)] [] := by
      intro n n0 n9 nq nl
      refine GX.run1 hR 16 (pc' := 26) (L' := [some (vR 0), some (vR 200), some (vR 150), some (vI z), some (vI (smI z 3)), some (vI (l - n)), some (vI (g + (n * 10000))), some (vI 1000), some (vI 3), some (vI n)]) (st' := []) (X' := [(150, .inl (20, .inl q))]) (fun _ _ => rfl) (by first | omega | (dsimp only; omega)) ?_
      refine GX.fg hR 9 ?_
      exact d_3 _ _ (Dg_step (u := 10000) (by omega) (by decide) hD n0 n9 nq nl)
    refine GX.br hR (pc1 := 57) (pc2 := 45) (st1 := []) (C := l ≤ q ((5 * (smI z 3)) + 4)) (fun _ => rfl) (by first | omega | (dsimp only; omega)) (fun h39 => ?_) (fun h39 => ?_)
    · skip
      refine GX.run0 hR 4 (pc' := 65) (L' := [some (vR 0), some (vR 200), some (vR 150), some (vI z), some (vI (smI z 3)), some (vI l), some (vI g), some (vI 10000), some (vI 4), some (vI l)]) (st' := [vI 9, vI l]) (X' := [(150, .inl (20, .inl q))]) (fun _ _ => rfl) ?_
      refine GX.br hR (pc1 := 73) (pc2 := 68) (st1 := []) (C := l ≤ 9) (fun _ => rfl) (by first | omega | (dsimp only; omega)) (fun h40 => ?_) (fun h40 => ?_)
      · skip
        refine GX.run0 hR 2 (pc' := 77) (L' := [some (vR 0), some (vR 200), some (vR 150), some (vI z), some (vI (smI z 3)), some (vI l), some (vI g), some (vI 10000), some (vI 4), some (vI l)]) (st' := []) (X' := [(150, .inl (20, .inl q))]) (fun _ _ => rfl) ?_
        exact hm _ (by omega) (by omega) (by omega) (by omega)
      · skip
        refine GX.run0 hR 3 (pc' := 77) (L' := [some (vR 0), some (vR 200), some (vR 150), some (vI z), some (vI (smI z 3)), some (vI l), some (vI g), some (vI 10000), some (vI 4), some (vI 9)]) (st' := []) (X' := [(150, .inl (20, .inl q))]) (fun _ _ => rfl) ?_
        exact hm _ (by omega) (by omega) (by omega) (by omega)
    · skip
      refine GX.run1 hR 11 (pc' := 65) (L' := [some (vR 0), some (vR 200), some (vR 150), some (vI z), some (vI (smI z 3)), some (vI l), some (vI g), some (vI 10000), some (vI 4), some (vI (q ((5 * (smI z 3)) + 4)))]) (st' := [vI 9, vI (q ((5 * (smI z 3)) + 4))]) (X' := [(150, .inl (20, .inl q))]) (fun _ _ => rfl) (by first | omega | (dsimp only; omega)) ?_
      refine GX.br hR (pc1 := 73) (pc2 := 68) (st1 := []) (C := q ((5 * (smI z 3)) + 4) ≤ 9) (fun _ => rfl) (by first | omega | (dsimp only; omega)) (fun h41 => ?_) (fun h41 => ?_)
      · skip
        refine GX.run0 hR 2 (pc' := 77) (L' := [some (vR 0), some (vR 200), some (vR 150), some (vI z), some (vI (smI z 3)), some (vI l), some (vI g), some (vI 10000), some (vI 4), some (vI (q ((5 * (smI z 3)) + 4)))]) (st' := []) (X' := [(150, .inl (20, .inl q))]) (fun _ _ => rfl) ?_
        exact hm _ (by omega) (by omega) (by omega) (by omega)
      · skip
        refine GX.run0 hR 3 (pc' := 77) (L' := [some (vR 0), some (vR 200), some (vR 150), some (vI z), some (vI (smI z 3)), some (vI l), some (vI g), some (vI 10000), some (vI 4), some (vI 9)]) (st' := []) (X' := [(150, .inl (20, .inl q))]) (fun _ _ => rfl) ?_
        exact hm _ (by omega) (by omega) (by omega) (by omega)
  exact d_4 _ _ ⟨fun _ => 0, fun j hj => ⟨Int.le_refl 0, (by decide : (0 : Int) ≤ 9), (hqr (5 * (smI z 3) + j) (by omega)).1⟩, fun _ _ => rfl, rfl, by show τ.2.1 4 (smI z 3) + (0 + 0 + 0 + 0 + 0) = τ.2.1 4 (smI z 3); omega, by omega⟩
