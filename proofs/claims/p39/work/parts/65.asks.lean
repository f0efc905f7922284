/-! ===== what the law asks, and its small methods ===== -/
def Gq (τ : St) (M : PM) (d1 : Nat) (as : List PV) (v : PV) : Prop := ∀ κ : St, Jv τ κ → Sp M roC d1 (vR 0 :: as) (cW τ κ) (.inl (some v)) (cW τ κ)
theorem Gq.gt {τ : St} {M : PM} {d1 : Nat} {as : List PV} {v : PV} (h : Gq τ M d1 as v) : Gt τ M d1 as v := fun κ hJ => ⟨κ, hJ, h κ hJ⟩
theorem oc_lit (E : Int → String) (v : Int) (σ : St) : oc E (0, v, σ) = .inl (some (vI v)) := rfl
theorem q_phase (τ : St) : Gq τ mX5_phase 0 [] (vI (τ.1 0)) := fun κ hJ => pX5_phase τ κ hJ.1
theorem q_turn (τ : St) : Gq τ mX5_turn 0 [] (vI (τ.1 1)) := fun κ hJ => pX5_turn τ κ hJ.1
theorem q_robber (τ : St) : Gq τ mX5_robber 1 [] (vI (τ.1 5)) := fun κ hJ => pX5_robber τ κ hJ.1
theorem q_holder (τ : St) {b : Int} (hb : b = 0 ∨ b = 1) : Gq τ mX5_holder 1 [vI b] (vI (if b = 0 then τ.1 4 else τ.1 8)) := fun κ hJ => pX5_holder τ κ hb hJ.1
theorem q_hand (τ : St) {p g : Int} (hp : 0 ≤ p ∧ p < 4) (hg : 0 ≤ g ∧ g < 5) : Gq τ mX5_hand 2 [vI p, vI g] (vI (τ.2.2 0 p g)) := by
  intro κ hJ
  have h := pX5_hand τ κ (p := p) (g := g) (by omega) (by omega) hJ.1
  have e : xHand τ p g = (0, τ.2.2 0 p g, τ) := by
    unfold xHand
    rw [if_neg (fun z => z hp), if_neg (fun z => z hg)]
  rw [e] at h
  exact h
theorem q_hbm (τ : St) {p g : Int} (hp : 0 ≤ p ∧ p < 4) (hg : 0 ≤ g ∧ g < 5) : Gq τ mX5_handByMoves 2 [vI p, vI g] (vI (τ.2.2 0 p g)) := by
  intro κ hJ
  have h := pX5_handByMoves τ κ (p := p) (g := g) (by omega) (by omega) hJ.1
  have e : xHand τ p g = (0, τ.2.2 0 p g, τ) := by
    unfold xHand
    rw [if_neg (fun z => z hp), if_neg (fun z => z hg)]
  rw [xHandK_eq hJ, e] at h
  exact h
theorem q_cards (τ : St) {p k : Int} (hp : 0 ≤ p ∧ p < 3) (hg : 0 ≤ k ∧ k < 5) : Gq τ mX5_cards 2 [vI p, vI k] (vI (τ.2.2 1 p k)) := by
  intro κ hJ
  have h := pX5_cards τ κ (p := p) (k := k) (by omega) (by omega) hJ.1
  have e : xCards τ p k = (0, τ.2.2 1 p k, τ) := by
    unfold xCards
    rw [if_neg (fun z => z hp), if_neg (fun z => z hg)]
  rw [e] at h
  exact h
theorem q_rate (τ : St) {p g : Int} (hp : 0 ≤ p ∧ p < 3) (hg : 0 ≤ g ∧ g < 5) : Gq τ mX5_rate 2 [vI p, vI g] (vI (rtN (τ.2.1 2) p g 24)) := by
  intro κ hJ
  have h := pX5_rate τ κ (p := p) (g := g) (by omega) (by omega) hJ.1
  have e : xRate τ p g = (0, rtN (τ.2.1 2) p g 24, τ) := by
    unfold xRate
    rw [if_neg (fun z => z hp), if_neg (fun z => z hg)]
  rw [e] at h
  exact h
theorem q_would (τ : St) {p g u : Int} (hp : 0 ≤ p ∧ p < 3) (hg : 0 ≤ g ∧ g < 5) (hu : 2 ≤ u ∧ u ≤ 12) : Gq τ mX5_wouldGet 4 [vI p, vI g, vI u] (vI (yTo τ p g u)) := by
  intro κ hJ
  have h := pX5_wouldGet τ κ (p := p) (g := g) (u := u) (by omega) (by omega) (by omega) hJ.1
  have e : xWould τ p g u = (0, yTo τ p g u, τ) := by
    unfold xWould
    rw [if_neg (fun z => z hp), if_neg (fun z => z ⟨hg, hu⟩)]
  rw [e] at h
  exact h
theorem q_due (τ : St) {p : Int} (hp : 0 ≤ p ∧ p < 3) : Gq τ mX5_due 2 [vI p] (vI (τ.2.1 4 p)) := by
  intro κ hJ
  have h := pX5_due τ κ (p := p) (by omega) hJ.1
  have e : xDue τ p = (0, τ.2.1 4 p, τ) := by
    unfold xDue
    rw [if_neg (fun z => z hp)]
  rw [e] at h
  exact h
theorem q_points (τ : St) {p : Int} (hp : 0 ≤ p ∧ p < 3) : Gq τ mX5_points 3 [vI p] (vI (ptsF τ p)) := by
  intro κ hJ
  have h := pX5_points τ κ (p := p) (by omega) hJ.1
  have e : xPoints τ p = (0, ptsF τ p, τ) := by
    unfold xPoints
    rw [if_neg (fun z => z hp)]
  rw [e] at h
  exact h
theorem q_knights (τ : St) {p : Int} (hp : 0 ≤ p ∧ p < 3) : Gq τ mX5_knights 2 [vI p] (vI (τ.2.1 6 p)) := by
  intro κ hJ
  have h := pX5_knights τ κ (p := p) (by omega) hJ.1
  have e : xKnights τ p = (0, τ.2.1 6 p, τ) := by
    unfold xKnights
    rw [if_neg (fun z => z hp)]
  rw [e] at h
  exact h
theorem q_building (τ : St) {p : Int} (hp : 0 ≤ p ∧ p < 24) : Gq τ mX5_buildingAt 2 [vI p] (vI (τ.2.1 2 p)) := by
  intro κ hJ
  have h := pX5_buildingAt τ κ (p := p) (by omega) hJ.1
  have e : xBuilding τ p = (0, τ.2.1 2 p, τ) := by
    unfold xBuilding
    rw [if_neg (fun z => z hp)]
  rw [e] at h
  exact h
theorem q_road (τ : St) {p : Int} (hp : 0 ≤ p ∧ p < 30) : Gq τ mX5_roadAt 2 [vI p] (vI (τ.2.1 3 p)) := by
  intro κ hJ
  have h := pX5_roadAt τ κ (p := p) (by omega) hJ.1
  have e : xRoadAt τ p = (0, τ.2.1 3 p, τ) := by
    unfold xRoadAt
    rw [if_neg (fun z => z hp)]
  rw [e] at h
  exact h
theorem q_trail (τ : St) {p : Int} (hp : 0 ≤ p ∧ p < 3) : Gt τ mX5_trail 9 [vI p] (vI (trT τ p)) := by
  intro κ hJ
  have h := pX5_trail τ κ (p := p) (by omega) hJ.2.2.1 hJ.2.2.2.1 hJ.1
  have h2 := J_trail hJ p
  have e : xTrail τ p = (0, trT τ p, τ) := by
    unfold xTrail
    rw [if_neg (fun z => z hp)]
  rw [e] at h h2
  rw [oc_lit] at h
  exact ⟨kTrail κ τ p, h2, h⟩
def smI (x n : Int) : Int := iUs x 1 % n
theorem iUs1_r (x : Int) : 0 ≤ iUs x 1 ∧ iUs x 1 ≤ 2147483647 := by
  unfold iUs
  have h1 : ((Int32.ofInt 1).toUInt32 &&& Int32.toUInt32 31) = 1 := by decide +kernel
  rw [h1]
  generalize (Int32.ofInt x).toUInt32 = y
  have h2 : (y >>> 1).toNat = y.toNat / 2 := by
    rw [UInt32.toNat_shiftRight]
    show y.toNat >>> (1 % 32) = _
    rw [Nat.shiftRight_eq_div_pow]
  have h3 := y.toNat_lt
  have h4 : (y >>> 1).toInt32.toInt = ((y >>> 1).toNat : Int) := by
    show (y >>> 1).toBitVec.toInt = _
    have h5 : (y >>> 1).toBitVec.toNat = (y >>> 1).toNat := rfl
    rw [BitVec.toInt_eq_toNat_of_lt (by omega), h5]
  rw [h4, h2]
  omega
theorem smI_r (x : Int) {n : Int} (hn : 0 < n) : 0 ≤ smI x n ∧ smI x n < n := ⟨Int.emod_nonneg _ (by omega), Int.emod_lt_of_pos _ hn⟩
theorem lp_some {ro : PRO} {x n : Int} (hn : 0 < n ∧ n ≤ 2147483647) (w : PW) : Sp mL_some ro 0 [vI x, vI n] w (.inl (some (vI (smI x n)))) w := by
  refine Sp.of (lk := lkL) (tb := bL_some) (by decide) lkL_ok tL_some rfl (Nat.le_of_ble_eq_true rfl) (fun G hR => ?_)
  refine hR.run1 5 (S' := (5, [some (vI x), some (vI n)], [vI (iUs x 1 % n)], w)) rfl ⟨iUs1_r x, hn⟩ ?_
  exact hR.rt rfl trivial rfl rfl
theorem lp_digit {ro : PRO} {n k : Int} (hn : 0 ≤ n ∧ n ≤ 99999) (hk : 0 ≤ k ∧ k < 5) (w : PW) : Sp mL_digit ro 0 [vI n, vI k] w (.inl (some (vI (dgt n k)))) w := by
  rcases (show k = 0 ∨ k = 1 ∨ k = 2 ∨ k = 3 ∨ k = 4 from by omega) with rfl | rfl | rfl | rfl | rfl
  · have e : dgt n 0 = (n / 1) % 10 := by simp [dgt]
    rw [e]
    refine Sp.of (lk := lkL) (tb := bL_digit) (by decide) lkL_ok tL_digit rfl (Nat.le_of_ble_eq_true rfl) (fun G hR => ?_)
    refine hR.run0 2 (S' := (2, [some (vI n), some (vI 0)], [vI 0, vI n], w)) rfl ?_
    refine hR.br (C := (0 : Int) ≠ 0) rfl (by first | omega | (dsimp only; omega)) (fun h1 => (by exfalso; omega)) (fun h1 => ?_)
    refine hR.run1 5 (S' := (47, [some (vI n), some (vI 0)], [vI ((n / 1) % 10)], w)) rfl (by first | omega | (dsimp only; omega)) ?_
    exact hR.rt rfl trivial rfl rfl
  · have e : dgt n 1 = (n / 10) % 10 := by simp [dgt]
    rw [e]
    refine Sp.of (lk := lkL) (tb := bL_digit) (by decide) lkL_ok tL_digit rfl (Nat.le_of_ble_eq_true rfl) (fun G hR => ?_)
    refine hR.run0 2 (S' := (2, [some (vI n), some (vI 1)], [vI 1, vI n], w)) rfl ?_
    refine hR.br (C := (1 : Int) ≠ 0) rfl (by first | omega | (dsimp only; omega)) (fun h1 => ?_) (fun h1 => (by exfalso; omega))
    refine hR.run0 2 (S' := (11, [some (vI n), some (vI 1)], [vI 1, vI 1, vI n], w)) rfl ?_
    refine hR.br (C := (1 : Int) ≠ 1) rfl (by first | omega | (dsimp only; omega)) (fun h2 => (by exfalso; omega)) (fun h2 => ?_)
    refine hR.run1 5 (S' := (47, [some (vI n), some (vI 1)], [vI ((n / 10) % 10)], w)) rfl (by first | omega | (dsimp only; omega)) ?_
    exact hR.rt rfl trivial rfl rfl
  · have e : dgt n 2 = (n / 100) % 10 := by simp [dgt]
    rw [e]
    refine Sp.of (lk := lkL) (tb := bL_digit) (by decide) lkL_ok tL_digit rfl (Nat.le_of_ble_eq_true rfl) (fun G hR => ?_)
    refine hR.run0 2 (S' := (2, [some (vI n), some (vI 2)], [vI 2, vI n], w)) rfl ?_
    refine hR.br (C := (2 : Int) ≠ 0) rfl (by first | omega | (dsimp only; omega)) (fun h1 => ?_) (fun h1 => (by exfalso; omega))
    refine hR.run0 2 (S' := (11, [some (vI n), some (vI 2)], [vI 1, vI 2, vI n], w)) rfl ?_
    refine hR.br (C := (2 : Int) ≠ 1) rfl (by first | omega | (dsimp only; omega)) (fun h2 => ?_) (fun h2 => (by exfalso; omega))
    refine hR.run0 2 (S' := (21, [some (vI n), some (vI 2)], [vI 2, vI 2, vI n], w)) rfl ?_
    refine hR.br (C := (2 : Int) ≠ 2) rfl (by first | omega | (dsimp only; omega)) (fun h3 => (by exfalso; omega)) (fun h3 => ?_)
    refine hR.run1 5 (S' := (47, [some (vI n), some (vI 2)], [vI ((n / 100) % 10)], w)) rfl (by first | omega | (dsimp only; omega)) ?_
    exact hR.rt rfl trivial rfl rfl
  · have e : dgt n 3 = (n / 1000) % 10 := by simp [dgt]
    rw [e]
    refine Sp.of (lk := lkL) (tb := bL_digit) (by decide) lkL_ok tL_digit rfl (Nat.le_of_ble_eq_true rfl) (fun G hR => ?_)
    refine hR.run0 2 (S' := (2, [some (vI n), some (vI 3)], [vI 3, vI n], w)) rfl ?_
    refine hR.br (C := (3 : Int) ≠ 0) rfl (by first | omega | (dsimp only; omega)) (fun h1 => ?_) (fun h1 => (by exfalso; omega))
    refine hR.run0 2 (S' := (11, [some (vI n), some (vI 3)], [vI 1, vI 3, vI n], w)) rfl ?_
    refine hR.br (C := (3 : Int) ≠ 1) rfl (by first | omega | (dsimp only; omega)) (fun h2 => ?_) (fun h2 => (by exfalso; omega))
    refine hR.run0 2 (S' := (21, [some (vI n), some (vI 3)], [vI 2, vI 3, vI n], w)) rfl ?_
    refine hR.br (C := (3 : Int) ≠ 2) rfl (by first | omega | (dsimp only; omega)) (fun h3 => ?_) (fun h3 => (by exfalso; omega))
    refine hR.run0 2 (S' := (31, [some (vI n), some (vI 3)], [vI 3, vI 3, vI n], w)) rfl ?_
    refine hR.br (C := (3 : Int) ≠ 3) rfl (by first | omega | (dsimp only; omega)) (fun h4 => (by exfalso; omega)) (fun h4 => ?_)
    refine hR.run1 5 (S' := (47, [some (vI n), some (vI 3)], [vI ((n / 1000) % 10)], w)) rfl (by first | omega | (dsimp only; omega)) ?_
    exact hR.rt rfl trivial rfl rfl
  · have e : dgt n 4 = (n / 10000) % 10 := by simp [dgt]
    rw [e]
    refine Sp.of (lk := lkL) (tb := bL_digit) (by decide) lkL_ok tL_digit rfl (Nat.le_of_ble_eq_true rfl) (fun G hR => ?_)
    refine hR.run0 2 (S' := (2, [some (vI n), some (vI 4)], [vI 4, vI n], w)) rfl ?_
    refine hR.br (C := (4 : Int) ≠ 0) rfl (by first | omega | (dsimp only; omega)) (fun h1 => ?_) (fun h1 => (by exfalso; omega))
    refine hR.run0 2 (S' := (11, [some (vI n), some (vI 4)], [vI 1, vI 4, vI n], w)) rfl ?_
    refine hR.br (C := (4 : Int) ≠ 1) rfl (by first | omega | (dsimp only; omega)) (fun h2 => ?_) (fun h2 => (by exfalso; omega))
    refine hR.run0 2 (S' := (21, [some (vI n), some (vI 4)], [vI 2, vI 4, vI n], w)) rfl ?_
    refine hR.br (C := (4 : Int) ≠ 2) rfl (by first | omega | (dsimp only; omega)) (fun h3 => ?_) (fun h3 => (by exfalso; omega))
    refine hR.run0 2 (S' := (31, [some (vI n), some (vI 4)], [vI 3, vI 4, vI n], w)) rfl ?_
    refine hR.br (C := (4 : Int) ≠ 3) rfl (by first | omega | (dsimp only; omega)) (fun h4 => ?_) (fun h4 => (by exfalso; omega))
    refine hR.run1 4 (S' := (47, [some (vI n), some (vI 4)], [vI ((n / 10000) % 10)], w)) rfl (by first | omega | (dsimp only; omega)) ?_
    exact hR.rt rfl trivial rfl rfl
theorem lp_size {ro : PRO} (hro : ∀ q ∈ roC, q ∈ ro) {τ κ : St} (hJ : Jv τ κ) (κ2 : St) (X : PW) {p : Int} (hp : 0 ≤ p ∧ p < 4) (hX : ∃ fs, alk (T2 τ κ κ2 X) 0 = some (.inr (5, fs)) := by exact ⟨_, rfl⟩) : Sp mL_size ro 3 [vR 0, vI p] (T2 τ κ κ2 X) (.inl (some (vI (tot (τ.2.2 0) p)))) (T2 τ κ κ2 X) := by
  obtain ⟨fs, hX⟩ := hX
  have e : tot (τ.2.2 0) p = ((((0 + (τ.2.2 0 p 0)) + (τ.2.2 0 p 1)) + (τ.2.2 0 p 2)) + (τ.2.2 0 p 3)) + (τ.2.2 0 p 4) := by simp [tot]
  rw [e]
  refine Sp.of (lk := lkL) (tb := bL_size) (by decide) lkL_ok tL_size rfl (Nat.le_of_ble_eq_true rfl) (fun G hR => ?_)
  refine hR.run0 6 (S' := (6, [some (vR 0), some (vI p), some (vI 0), some (vI 0)], [vI 5, vI 0], T2 τ κ κ2 X)) rfl ?_
  refine hR.br (C := (5 : Int) ≤ 0) rfl (by first | omega | (dsimp only; omega)) (fun h1 => (by exfalso; omega)) (fun h1 => ?_)
  refine hR.run0 4 (S' := (13, [some (vR 0), some (vI p), some (vI 0), some (vI 0)], [vI 0, vI p, vR 0, vI 0], T2 τ κ κ2 X)) rfl ?_
  have f2 := hJ.1.hh p 0
  refine hR.cv [vI p, vI 0] kL_89 rfl rfl ⟨5, _, _, hX, rfl, rfl⟩ (by decide) (Nat.le_of_ble_eq_true rfl) (Nat.le_of_ble_eq_true rfl) rfl (Sp.to1 hro ((q_hand τ (by omega) (by omega)) κ hJ)) ?_
  show G (16, [some (vR 0), some (vI p), some (vI 0), some (vI 0)], [vI (τ.2.2 0 p 0), vI 0], T2 τ κ κ2 X)
  refine hR.run0 6 (S' := (6, [some (vR 0), some (vI p), some (vI (0 + (τ.2.2 0 p 0))), some (vI 1)], [vI 5, vI 1], T2 τ κ κ2 X)) rfl ?_
  refine hR.br (C := (5 : Int) ≤ 1) rfl (by first | omega | (dsimp only; omega)) (fun h3 => (by exfalso; omega)) (fun h3 => ?_)
  refine hR.run0 4 (S' := (13, [some (vR 0), some (vI p), some (vI (0 + (τ.2.2 0 p 0))), some (vI 1)], [vI 1, vI p, vR 0, vI (0 + (τ.2.2 0 p 0))], T2 τ κ κ2 X)) rfl ?_
  have f4 := hJ.1.hh p 1
  refine hR.cv [vI p, vI 1] kL_89 rfl rfl ⟨5, _, _, hX, rfl, rfl⟩ (by decide) (Nat.le_of_ble_eq_true rfl) (Nat.le_of_ble_eq_true rfl) rfl (Sp.to1 hro ((q_hand τ (by omega) (by omega)) κ hJ)) ?_
  show G (16, [some (vR 0), some (vI p), some (vI (0 + (τ.2.2 0 p 0))), some (vI 1)], [vI (τ.2.2 0 p 1), vI (0 + (τ.2.2 0 p 0))], T2 τ κ κ2 X)
  refine hR.run0 6 (S' := (6, [some (vR 0), some (vI p), some (vI ((0 + (τ.2.2 0 p 0)) + (τ.2.2 0 p 1))), some (vI 2)], [vI 5, vI 2], T2 τ κ κ2 X)) rfl ?_
  refine hR.br (C := (5 : Int) ≤ 2) rfl (by first | omega | (dsimp only; omega)) (fun h5 => (by exfalso; omega)) (fun h5 => ?_)
  refine hR.run0 4 (S' := (13, [some (vR 0), some (vI p), some (vI ((0 + (τ.2.2 0 p 0)) + (τ.2.2 0 p 1))), some (vI 2)], [vI 2, vI p, vR 0, vI ((0 + (τ.2.2 0 p 0)) + (τ.2.2 0 p 1))], T2 τ κ κ2 X)) rfl ?_
  have f6 := hJ.1.hh p 2
  refine hR.cv [vI p, vI 2] kL_89 rfl rfl ⟨5, _, _, hX, rfl, rfl⟩ (by decide) (Nat.le_of_ble_eq_true rfl) (Nat.le_of_ble_eq_true rfl) rfl (Sp.to1 hro ((q_hand τ (by omega) (by omega)) κ hJ)) ?_
  show G (16, [some (vR 0), some (vI p), some (vI ((0 + (τ.2.2 0 p 0)) + (τ.2.2 0 p 1))), some (vI 2)], [vI (τ.2.2 0 p 2), vI ((0 + (τ.2.2 0 p 0)) + (τ.2.2 0 p 1))], T2 τ κ κ2 X)
  refine hR.run0 6 (S' := (6, [some (vR 0), some (vI p), some (vI (((0 + (τ.2.2 0 p 0)) + (τ.2.2 0 p 1)) + (τ.2.2 0 p 2))), some (vI 3)], [vI 5, vI 3], T2 τ κ κ2 X)) rfl ?_
  refine hR.br (C := (5 : Int) ≤ 3) rfl (by first | omega | (dsimp only; omega)) (fun h7 => (by exfalso; omega)) (fun h7 => ?_)
  refine hR.run0 4 (S' := (13, [some (vR 0), some (vI p), some (vI (((0 + (τ.2.2 0 p 0)) + (τ.2.2 0 p 1)) + (τ.2.2 0 p 2))), some (vI 3)], [vI 3, vI p, vR 0, vI (((0 + (τ.2.2 0 p 0)) + (τ.2.2 0 p 1)) + (τ.2.2 0 p 2))], T2 τ κ κ2 X)) rfl ?_
  have f8 := hJ.1.hh p 3
  refine hR.cv [vI p, vI 3] kL_89 rfl rfl ⟨5, _, _, hX, rfl, rfl⟩ (by decide) (Nat.le_of_ble_eq_true rfl) (Nat.le_of_ble_eq_true rfl) rfl (Sp.to1 hro ((q_hand τ (by omega) (by omega)) κ hJ)) ?_
  show G (16, [some (vR 0), some (vI p), some (vI (((0 + (τ.2.2 0 p 0)) + (τ.2.2 0 p 1)) + (τ.2.2 0 p 2))), some (vI 3)], [vI (τ.2.2 0 p 3), vI (((0 + (τ.2.2 0 p 0)) + (τ.2.2 0 p 1)) + (τ.2.2 0 p 2))], T2 τ κ κ2 X)
  refine hR.run0 6 (S' := (6, [some (vR 0), some (vI p), some (vI ((((0 + (τ.2.2 0 p 0)) + (τ.2.2 0 p 1)) + (τ.2.2 0 p 2)) + (τ.2.2 0 p 3))), some (vI 4)], [vI 5, vI 4], T2 τ κ κ2 X)) rfl ?_
  refine hR.br (C := (5 : Int) ≤ 4) rfl (by first | omega | (dsimp only; omega)) (fun h9 => (by exfalso; omega)) (fun h9 => ?_)
  refine hR.run0 4 (S' := (13, [some (vR 0), some (vI p), some (vI ((((0 + (τ.2.2 0 p 0)) + (τ.2.2 0 p 1)) + (τ.2.2 0 p 2)) + (τ.2.2 0 p 3))), some (vI 4)], [vI 4, vI p, vR 0, vI ((((0 + (τ.2.2 0 p 0)) + (τ.2.2 0 p 1)) + (τ.2.2 0 p 2)) + (τ.2.2 0 p 3))], T2 τ κ κ2 X)) rfl ?_
  have f10 := hJ.1.hh p 4
  refine hR.cv [vI p, vI 4] kL_89 rfl rfl ⟨5, _, _, hX, rfl, rfl⟩ (by decide) (Nat.le_of_ble_eq_true rfl) (Nat.le_of_ble_eq_true rfl) rfl (Sp.to1 hro ((q_hand τ (by omega) (by omega)) κ hJ)) ?_
  show G (16, [some (vR 0), some (vI p), some (vI ((((0 + (τ.2.2 0 p 0)) + (τ.2.2 0 p 1)) + (τ.2.2 0 p 2)) + (τ.2.2 0 p 3))), some (vI 4)], [vI (τ.2.2 0 p 4), vI ((((0 + (τ.2.2 0 p 0)) + (τ.2.2 0 p 1)) + (τ.2.2 0 p 2)) + (τ.2.2 0 p 3))], T2 τ κ κ2 X)
  refine hR.run0 6 (S' := (6, [some (vR 0), some (vI p), some (vI (((((0 + (τ.2.2 0 p 0)) + (τ.2.2 0 p 1)) + (τ.2.2 0 p 2)) + (τ.2.2 0 p 3)) + (τ.2.2 0 p 4))), some (vI 5)], [vI 5, vI 5], T2 τ κ κ2 X)) rfl ?_
  refine hR.br (C := (5 : Int) ≤ 5) rfl (by first | omega | (dsimp only; omega)) (fun h11 => ?_) (fun h11 => (by exfalso; omega))
  refine hR.run0 1 (S' := (25, [some (vR 0), some (vI p), some (vI (((((0 + (τ.2.2 0 p 0)) + (τ.2.2 0 p 1)) + (τ.2.2 0 p 2)) + (τ.2.2 0 p 3)) + (τ.2.2 0 p 4))), some (vI 5)], [vI (((((0 + (τ.2.2 0 p 0)) + (τ.2.2 0 p 1)) + (τ.2.2 0 p 2)) + (τ.2.2 0 p 3)) + (τ.2.2 0 p 4))], T2 τ κ κ2 X)) rfl ?_
  exact hR.rt rfl trivial rfl rfl
/-- the row of hands -/
def hQ (h : Int → Int → Int) (q : Int → Int) (n : Int) : Int → Int := fun j => if 0 ≤ j ∧ j < n then h (j / 5) (j % 5) else q j
theorem hQ_0 (h : Int → Int → Int) (q : Int → Int) : hQ h q 0 = q := by
  funext j
  unfold hQ
  rw [if_neg (by omega)]
theorem hQ_s (h : Int → Int → Int) (q : Int → Int) {i : Int} (hi : 0 ≤ i) : pup (hQ h q i) i (h (i / 5) (i % 5)) = hQ h q (i + 1) := by
  funext j
  unfold hQ pup
  by_cases e : j = i
  · rw [if_pos e, if_pos (by omega), e]
  · rw [if_neg e]
    show (if 0 ≤ j ∧ j < i then h (j / 5) (j % 5) else q j) = _
    by_cases e2 : 0 ≤ j ∧ j < i
    · rw [if_pos e2, if_pos (by omega)]
    · rw [if_neg e2, if_neg (by omega)]
theorem hQ_at (h : Int → Int → Int) (q : Int → Int) {j : Int} (hj : 0 ≤ j ∧ j < 20) : hQ h q 20 j = h (j / 5) (j % 5) := if_pos hj
theorem lp_hands {ro : PRO} (hro : ∀ q ∈ roC, q ∈ ro) {τ κ : St} (hJ : Jv τ κ) (κ2 : St) (q : Int → Int) : Sp mL_hands ro 3 [vR 0, vR 150] (T2 τ κ κ2 [(150, .inl (20, .inl q))]) (.inl none) (T2 τ κ κ2 [(150, .inl (20, .inl (hQ (τ.2.2 0) q 20)))]) := by
  refine Sp.of (lk := lkL) (tb := bL_hands) (by decide) lkL_ok tL_hands (T2_keys rfl) (Nat.le_of_ble_eq_true rfl) (fun G hR => ?_)
  have hL : ∀ i : Nat, i ≤ 20 → G (2, [some (vR 0), some (vR 150), some (vI (i : Int))], [], T2 τ κ κ2 [(150, .inl (20, .inl (hQ (τ.2.2 0) q i)))]) := by
    refine back (P := fun i : Nat => G (2, [some (vR 0), some (vR 150), some (vI (i : Int))], [], T2 τ κ κ2 [(150, .inl (20, .inl (hQ (τ.2.2 0) q i)))])) ?_ ?_
    · intro i hi ih
      replace ih : G (2, [some (vR 0), some (vR 150), some (vI ((i : Int) + 1))], [], T2 τ κ κ2 [(150, .inl (20, .inl (hQ (τ.2.2 0) q ((i : Int) + 1))))]) := ih
      show G (2, [some (vR 0), some (vR 150), some (vI (i : Int))], [], T2 τ κ κ2 [(150, .inl (20, .inl (hQ (τ.2.2 0) q (i : Int))))])
      refine hR.run0 2 (S' := (5, [some (vR 0), some (vR 150), some (vI (i : Int))], [vI 20, vI (i : Int)], T2 τ κ κ2 [(150, .inl (20, .inl (hQ (τ.2.2 0) q (i : Int))))])) rfl ?_
      refine hR.br (C := 20 ≤ (i : Int)) rfl (by first | omega | (dsimp only; omega)) (fun h1 => (by exfalso; omega)) (fun h1 => ?_)
      refine hR.run1 9 (S' := (17, [some (vR 0), some (vR 150), some (vI (i : Int))], [vI ((i : Int) % 5), vI ((i : Int) / 5), vR 0, vI (i : Int), vR 150], T2 τ κ κ2 [(150, .inl (20, .inl (hQ (τ.2.2 0) q (i : Int))))])) rfl (by first | omega | (dsimp only; omega)) ?_
      have f2 := hJ.1.hh ((i : Int) / 5) ((i : Int) % 5)
      refine hR.cv [vI ((i : Int) / 5), vI ((i : Int) % 5)] kL_89 rfl rfl ⟨5, _, _, rfl, rfl, rfl⟩ (by decide) (Nat.le_of_ble_eq_true rfl) (Nat.le_of_ble_eq_true rfl) rfl (Sp.to1 hro ((q_hand τ (by omega) (by omega)) κ hJ)) ?_
      show G (20, [some (vR 0), some (vR 150), some (vI (i : Int))], [vI (τ.2.2 0 ((i : Int) / 5) ((i : Int) % 5)), vI (i : Int), vR 150], T2 τ κ κ2 [(150, .inl (20, .inl (hQ (τ.2.2 0) q (i : Int))))])
      refine hR.run1 3 (S' := (2, [some (vR 0), some (vR 150), some (vI ((i : Int) + 1))], [], T2 τ κ κ2 [(150, .inl (20, .inl (pup (hQ (τ.2.2 0) q (i : Int)) (i : Int) (τ.2.2 0 ((i : Int) / 5) ((i : Int) % 5)))))])) rfl (by omega) ?_
      rw [hQ_s _ _ (by omega)]
      exact ih
    · show G (2, [some (vR 0), some (vR 150), some (vI 20)], [], T2 τ κ κ2 [(150, .inl (20, .inl (hQ (τ.2.2 0) q 20)))])
      refine hR.run0 2 (S' := (5, [some (vR 0), some (vR 150), some (vI 20)], [vI 20, vI 20], T2 τ κ κ2 [(150, .inl (20, .inl (hQ (τ.2.2 0) q 20)))])) rfl ?_
      refine hR.br (C := (20 : Int) ≤ 20) rfl (by first | omega | (dsimp only; omega)) (fun h1 => ?_) (fun h1 => (by exfalso; omega))
      exact hR.rt rfl trivial rfl rfl
  have hE := hL 0 (Nat.zero_le _)
  replace hE : G (2, [some (vR 0), some (vR 150), some (vI 0)], [], T2 τ κ κ2 [(150, .inl (20, .inl (hQ (τ.2.2 0) q 0)))]) := hE
  rw [hQ_0] at hE
  refine hR.run0 2 (S' := (2, [some (vR 0), some (vR 150), some (vI 0)], [], T2 τ κ κ2 [(150, .inl (20, .inl q))])) rfl ?_
  exact hE
/-- whether hands are as they were, but for goods that have gone from one to another -/
def mvd (h : Int → Int → Int) (q : Int → Int) (f t n : Int) : Prop := ∀ k : Int, 0 ≤ k ∧ k < 20 → h (k / 5) (k % 5) = q k + (if k / 5 = t then dgt n (k % 5) else 0) - (if k / 5 = f then dgt n (k % 5) else 0)
theorem lp_moved {ro : PRO} (hro : ∀ q ∈ roC, q ∈ ro) {τ κ : St} (hJ : Jv τ κ) (κ2 : St) {q : Int → Int} {f t n : Int} (hf : -1 ≤ f ∧ f ≤ 3) (ht : -1 ≤ t ∧ t ≤ 3) (hn : 0 ≤ n ∧ n ≤ 99999) (hq : ∀ k : Int, 0 ≤ k ∧ k < 20 → 0 ≤ q k ∧ q k ≤ 12) (h : mvd (τ.2.2 0) q f t n) : Sp mL_moved ro 3 [vR 0, vR 150, vI f, vI t, vI n] (T2 τ κ κ2 [(150, .inl (20, .inl q))]) (.inl (some (vI 1))) (T2 τ κ κ2 [(150, .inl (20, .inl q))]) := by
  refine Sp.of (lk := lkL) (tb := bL_moved) (by decide) lkL_ok tL_moved rfl (Nat.le_of_ble_eq_true rfl) (fun G hR => ?_)
  have hI := hJ.1
  have hL : ∀ i : Nat, i ≤ 20 → G (6, [some (vR 0), some (vR 150), some (vI f), some (vI t), some (vI n), some (vI 1), some (vI (i : Int)), none], [], T2 τ κ κ2 [(150, .inl (20, .inl q))]) := by
    refine back (P := fun i : Nat => G (6, [some (vR 0), some (vR 150), some (vI f), some (vI t), some (vI n), some (vI 1), some (vI (i : Int)), none], [], T2 τ κ κ2 [(150, .inl (20, .inl q))])) ?_ ?_
    · intro i hi ih
      replace ih : G (6, [some (vR 0), some (vR 150), some (vI f), some (vI t), some (vI n), some (vI 1), some (vI ((i : Int) + 1)), none], [], T2 τ κ κ2 [(150, .inl (20, .inl q))]) := ih
      show G (6, [some (vR 0), some (vR 150), some (vI f), some (vI t), some (vI n), some (vI 1), some (vI (i : Int)), none], [], T2 τ κ κ2 [(150, .inl (20, .inl q))])
      have hki := h (i : Int) (by omega)
      have hqi := hq (i : Int) (by omega)
      have hdi := dgt_r n ((i : Int) % 5)
      refine hR.run0 2 (S' := (10, [some (vR 0), some (vR 150), some (vI f), some (vI t), some (vI n), some (vI 1), some (vI (i : Int)), none], [vI 20, vI (i : Int)], T2 τ κ κ2 [(150, .inl (20, .inl q))])) rfl ?_
      refine hR.br (C := 20 ≤ (i : Int)) rfl (by first | omega | (dsimp only; omega)) (fun h1 => (by exfalso; omega)) (fun h1 => ?_)
      refine hR.run1 4 (S' := (19, [some (vR 0), some (vR 150), some (vI f), some (vI t), some (vI n), some (vI 1), some (vI (i : Int)), none], [vI ((i : Int) % 5), vI n], T2 τ κ κ2 [(150, .inl (20, .inl q))])) rfl (by first | omega | (dsimp only; omega)) ?_
      have f2 := dgt_r n ((i : Int) % 5)
      refine hR.cs [vI n, vI ((i : Int) % 5)] kL_152 rfl rfl (by decide) (Nat.le_of_ble_eq_true rfl) (Nat.le_of_ble_eq_true rfl) rfl (lp_digit (n := n) (k := (i : Int) % 5) (by omega) (by omega) _) ?_
      show G (22, [some (vR 0), some (vR 150), some (vI f), some (vI t), some (vI n), some (vI 1), some (vI (i : Int)), none], [vI (dgt n ((i : Int) % 5))], T2 τ κ κ2 [(150, .inl (20, .inl q))])
      refine hR.run0 2 (S' := (26, [some (vR 0), some (vR 150), some (vI f), some (vI t), some (vI n), some (vI 1), some (vI (i : Int)), some (vI (dgt n ((i : Int) % 5)))], [vI 1], T2 τ κ κ2 [(150, .inl (20, .inl q))])) rfl ?_
      refine hR.br (C := (1 : Int) = 0) rfl (by first | omega | (dsimp only; omega)) (fun h3 => (by exfalso; omega)) (fun h3 => ?_)
      refine hR.run1 7 (S' := (38, [some (vR 0), some (vR 150), some (vI f), some (vI t), some (vI n), some (vI 1), some (vI (i : Int)), some (vI (dgt n ((i : Int) % 5)))], [vI ((i : Int) % 5), vI ((i : Int) / 5), vR 0], T2 τ κ κ2 [(150, .inl (20, .inl q))])) rfl (by first | omega | (dsimp only; omega)) ?_
      have f4 := hI.hh ((i : Int) / 5) ((i : Int) % 5)
      refine hR.cv [vI ((i : Int) / 5), vI ((i : Int) % 5)] kL_89 rfl rfl ⟨5, _, _, rfl, rfl, rfl⟩ (by decide) (Nat.le_of_ble_eq_true rfl) (Nat.le_of_ble_eq_true rfl) rfl (Sp.to1 hro ((q_hand τ (by omega) (by omega)) κ hJ)) ?_
      show G (41, [some (vR 0), some (vR 150), some (vI f), some (vI t), some (vI n), some (vI 1), some (vI (i : Int)), some (vI (dgt n ((i : Int) % 5)))], [vI (τ.2.2 0 ((i : Int) / 5) ((i : Int) % 5))], T2 τ κ κ2 [(150, .inl (20, .inl q))])
      refine hR.run1 7 (S' := (50, [some (vR 0), some (vR 150), some (vI f), some (vI t), some (vI n), some (vI 1), some (vI (i : Int)), some (vI (dgt n ((i : Int) % 5)))], [vI t, vI ((i : Int) / 5), vI (q (i : Int)), vI (τ.2.2 0 ((i : Int) / 5) ((i : Int) % 5))], T2 τ κ κ2 [(150, .inl (20, .inl q))])) rfl (by first | omega | (dsimp only; omega)) ?_
      refine hR.br (C := (i : Int) / 5 ≠ t) rfl (by first | omega | (dsimp only; omega)) (fun h1 => ?_) (fun h1 => ?_)
      · skip
        refine hR.run1 6 (S' := (65, [some (vR 0), some (vR 150), some (vI f), some (vI t), some (vI n), some (vI 1), some (vI (i : Int)), some (vI (dgt n ((i : Int) % 5)))], [vI f, vI ((i : Int) / 5), vI ((q (i : Int)) + 0), vI (τ.2.2 0 ((i : Int) / 5) ((i : Int) % 5))], T2 τ κ κ2 [(150, .inl (20, .inl q))])) rfl (by first | omega | (dsimp only; omega)) ?_
        refine hR.br (C := (i : Int) / 5 ≠ f) rfl (by first | omega | (dsimp only; omega)) (fun h2 => ?_) (fun h2 => ?_)
        · skip
          refine hR.run0 2 (S' := (75, [some (vR 0), some (vR 150), some (vI f), some (vI t), some (vI n), some (vI 1), some (vI (i : Int)), some (vI (dgt n ((i : Int) % 5)))], [vI (((q (i : Int)) + 0) - 0), vI (τ.2.2 0 ((i : Int) / 5) ((i : Int) % 5))], T2 τ κ κ2 [(150, .inl (20, .inl q))])) rfl ?_
          refine hR.br (C := τ.2.2 0 ((i : Int) / 5) ((i : Int) % 5) ≠ ((q (i : Int)) + 0) - 0) rfl (by omega) (fun h5 => (by exfalso; (first | rw [if_pos h1] at hki | rw [if_neg h1] at hki | rw [if_pos (Classical.not_not.mp h1)] at hki); (first | rw [if_pos h2] at hki | rw [if_neg h2] at hki | rw [if_pos (Classical.not_not.mp h2)] at hki); omega)) (fun h5 => ?_)
          refine hR.run0 5 (S' := (6, [some (vR 0), some (vR 150), some (vI f), some (vI t), some (vI n), some (vI 1), some (vI ((i : Int) + 1)), some (vI (dgt n ((i : Int) % 5)))], [], T2 τ κ κ2 [(150, .inl (20, .inl q))])) rfl ?_
          refine hR.fg 7 ?_
          exact ih
        · skip
          refine hR.run0 3 (S' := (75, [some (vR 0), some (vR 150), some (vI f), some (vI t), some (vI n), some (vI 1), some (vI (i : Int)), some (vI (dgt n ((i : Int) % 5)))], [vI (((q (i : Int)) + 0) - (dgt n ((i : Int) % 5))), vI (τ.2.2 0 ((i : Int) / 5) ((i : Int) % 5))], T2 τ κ κ2 [(150, .inl (20, .inl q))])) rfl ?_
          refine hR.br (C := τ.2.2 0 ((i : Int) / 5) ((i : Int) % 5) ≠ ((q (i : Int)) + 0) - (dgt n ((i : Int) % 5))) rfl (by omega) (fun h6 => (by exfalso; (first | rw [if_pos h1] at hki | rw [if_neg h1] at hki | rw [if_pos (Classical.not_not.mp h1)] at hki); (first | rw [if_pos h2] at hki | rw [if_neg h2] at hki | rw [if_pos (Classical.not_not.mp h2)] at hki); omega)) (fun h6 => ?_)
          refine hR.run0 5 (S' := (6, [some (vR 0), some (vR 150), some (vI f), some (vI t), some (vI n), some (vI 1), some (vI ((i : Int) + 1)), some (vI (dgt n ((i : Int) % 5)))], [], T2 τ κ κ2 [(150, .inl (20, .inl q))])) rfl ?_
          refine hR.fg 7 ?_
          exact ih
      · skip
        refine hR.run1 7 (S' := (65, [some (vR 0), some (vR 150), some (vI f), some (vI t), some (vI n), some (vI 1), some (vI (i : Int)), some (vI (dgt n ((i : Int) % 5)))], [vI f, vI ((i : Int) / 5), vI ((q (i : Int)) + (dgt n ((i : Int) % 5))), vI (τ.2.2 0 ((i : Int) / 5) ((i : Int) % 5))], T2 τ κ κ2 [(150, .inl (20, .inl q))])) rfl (by first | omega | (dsimp only; omega)) ?_
        refine hR.br (C := (i : Int) / 5 ≠ f) rfl (by first | omega | (dsimp only; omega)) (fun h2 => ?_) (fun h2 => ?_)
        · skip
          refine hR.run0 2 (S' := (75, [some (vR 0), some (vR 150), some (vI f), some (vI t), some (vI n), some (vI 1), some (vI (i : Int)), some (vI (dgt n ((i : Int) % 5)))], [vI (((q (i : Int)) + (dgt n ((i : Int) % 5))) - 0), vI (τ.2.2 0 ((i : Int) / 5) ((i : Int) % 5))], T2 τ κ κ2 [(150, .inl (20, .inl q))])) rfl ?_
          refine hR.br (C := τ.2.2 0 ((i : Int) / 5) ((i : Int) % 5) ≠ ((q (i : Int)) + (dgt n ((i : Int) % 5))) - 0) rfl (by omega) (fun h7 => (by exfalso; (first | rw [if_pos h1] at hki | rw [if_neg h1] at hki | rw [if_pos (Classical.not_not.mp h1)] at hki); (first | rw [if_pos h2] at hki | rw [if_neg h2] at hki | rw [if_pos (Classical.not_not.mp h2)] at hki); omega)) (fun h7 => ?_)
          refine hR.run0 5 (S' := (6, [some (vR 0), some (vR 150), some (vI f), some (vI t), some (vI n), some (vI 1), some (vI ((i : Int) + 1)), some (vI (dgt n ((i : Int) % 5)))], [], T2 τ κ κ2 [(150, .inl (20, .inl q))])) rfl ?_
          refine hR.fg 7 ?_
          exact ih
        · skip
          refine hR.run0 3 (S' := (75, [some (vR 0), some (vR 150), some (vI f), some (vI t), some (vI n), some (vI 1), some (vI (i : Int)), some (vI (dgt n ((i : Int) % 5)))], [vI (((q (i : Int)) + (dgt n ((i : Int) % 5))) - (dgt n ((i : Int) % 5))), vI (τ.2.2 0 ((i : Int) / 5) ((i : Int) % 5))], T2 τ κ κ2 [(150, .inl (20, .inl q))])) rfl ?_
          refine hR.br (C := τ.2.2 0 ((i : Int) / 5) ((i : Int) % 5) ≠ ((q (i : Int)) + (dgt n ((i : Int) % 5))) - (dgt n ((i : Int) % 5))) rfl (by omega) (fun h8 => (by exfalso; (first | rw [if_pos h1] at hki | rw [if_neg h1] at hki | rw [if_pos (Classical.not_not.mp h1)] at hki); (first | rw [if_pos h2] at hki | rw [if_neg h2] at hki | rw [if_pos (Classical.not_not.mp h2)] at hki); omega)) (fun h8 => ?_)
          refine hR.run0 5 (S' := (6, [some (vR 0), some (vR 150), some (vI f), some (vI t), some (vI n), some (vI 1), some (vI ((i : Int) + 1)), some (vI (dgt n ((i : Int) % 5)))], [], T2 τ κ κ2 [(150, .inl (20, .inl q))])) rfl ?_
          refine hR.fg 7 ?_
          exact ih
    · show G (6, [some (vR 0), some (vR 150), some (vI f), some (vI t), some (vI n), some (vI 1), some (vI 20), none], [], T2 τ κ κ2 [(150, .inl (20, .inl q))])
      refine hR.run0 2 (S' := (10, [some (vR 0), some (vR 150), some (vI f), some (vI t), some (vI n), some (vI 1), some (vI 20), none], [vI 20, vI 20], T2 τ κ κ2 [(150, .inl (20, .inl q))])) rfl ?_
      refine hR.br (C := (20 : Int) ≤ 20) rfl (by first | omega | (dsimp only; omega)) (fun h1 => ?_) (fun h1 => (by exfalso; omega))
      refine hR.run0 1 (S' := (93, [some (vR 0), some (vR 150), some (vI f), some (vI t), some (vI n), some (vI 1), some (vI 20), none], [vI 1], T2 τ κ κ2 [(150, .inl (20, .inl q))])) rfl ?_
      exact hR.rt rfl (.inr rfl) rfl rfl
  refine hR.run0 4 (S' := (6, [some (vR 0), some (vR 150), some (vI f), some (vI t), some (vI n), some (vI 1), some (vI 0), none], [], T2 τ κ κ2 [(150, .inl (20, .inl q))])) rfl ?_
  exact hL 0 (Nat.zero_le _)
