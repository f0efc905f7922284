/-! ===== placing ===== -/
theorem plc_2 {n p t : Int} (hn : 0 ≤ n ∧ n < 6) (hp : 0 ≤ p ∧ p < 3) (ht : t = if n < 3 then n else 5 - n) : 0 ≤ plc n p + (if t = p then 1 else 0) ∧ plc n p + (if t = p then 1 else 0) ≤ 2 := by
  unfold plc
  subst ht
  (repeat' split) <;> omega
theorem s_place {τ : St} (hJ : Jx τ) (h0 : τ.1 0 = 0) {c e : Int} (hc : 0 ≤ c ∧ c < 24) (he : 0 ≤ e ∧ e < 30) (b : Int) : ∃ (v : Int) (σ : St), Cl τ 1 c e b v σ ∧ ((v = -1123 ∧ σ = τ) ∨ ((0 ≤ v ∧ v < 3) ∧ v = σ.1 1 ∧ σ.2.1 2 c = τ.1 1 ∧ σ.2.1 3 e = τ.1 1 ∧ ptsF σ (τ.1 1) < 3 ∧ Ov σ)) := by
  have hI := hJ.iv
  have ht := hI.htu
  obtain ⟨κ, hκ⟩ := hJ
  have hI2 := (J_place hκ c e).1
  refine ⟨_, _, Cl_place τ c e b (by omega) (by omega), ?_⟩
  by_cases h : τ.1 0 = 0 ∧ freeC (τ.2.1 2) c = true ∧ isE e c = true ∧ τ.2.1 3 e = -1
  · have ex : xPlace τ c e = (0, (xPlS τ c e).1 1, xPlS τ c e) := by
      unfold xPlace
      rw [if_neg (fun z => z ⟨hc, he⟩), if_neg (fun z => z h)]
    rw [ex] at hI2 ⊢
    obtain ⟨hn, htn, hcn, h3⟩ := hI.hpp h0
    have hpl := hI.hpl
    have hb := free_1 h.2.1
    obtain ⟨K, hH, hP⟩ := pgS_sH hI c e
    have g2 : ∀ X : St, (gopS X).2 = X.2 := fun X => by unfold gopS; split <;> rfl
    have g4 : ∀ X : St, (gopS X).1 4 = X.1 4 := fun X => by unfold gopS; split <;> rfl
    have g8 : ∀ X : St, (gopS X).1 8 = X.1 8 := fun X => by unfold gopS; split <;> rfl
    have g0 : ∀ X : St, X.1 0 ≠ 5 → (gopS X).1 0 ≠ 5 := fun X hX => by
      unfold gopS
      split
      · show (1 : Int) ≠ 5
        decide
      · exact hX
    have hr3 : (pgS τ c e).2.1 3 = pup (τ.2.1 3) e (τ.1 1) := by rw [hP]; rfl
    have hr2 : (pgS τ c e).2.1 2 = pup (τ.2.1 2) c (τ.1 1) := by rw [hP]; rfl
    have hcnt : ∀ p : Int, 0 ≤ p ∧ p < 3 → cntN (pup (τ.2.1 3) e (τ.1 1)) p 30 ≤ 2 := by
      intro p hp
      rw [cnt_pup he.1 30 he.2, (hcn p hp).2.2, h.2.2.2, if_neg (by omega)]
      have := plc_2 (n := τ.1 2) (p := p) (t := τ.1 1) (by omega) hp htn
      omega
    have hT : ∀ p : Int, 0 ≤ p ∧ p < 3 → (0 ≤ trT (pgS τ c e) p ∧ trT (pgS τ c e) p ≤ 8) ∧ trT (pgS τ c e) p < 5 := by
      intro p hp
      have e1 : trT (pgS τ c e) p = trF (pup (τ.2.1 2) c (τ.1 1)) (pup (τ.2.1 3) e (τ.1 1)) p := by
        unfold trT
        rw [hr2, hr3]
      have h1 := hcnt p hp
      have h2 := owL_len (pup (τ.2.1 3) e (τ.1 1)) p 30
      have h8 : (owL (pup (τ.2.1 3) e (τ.1 1)) p 30).length ≤ 8 := by omega
      have h4 := tr_cnt (b := pup (τ.2.1 2) c (τ.1 1)) h8
      have h5 := tr_r (b := pup (τ.2.1 2) c (τ.1 1)) h8
      rw [e1]
      omega
    have hz : hoF (trT (pgS τ c e)) ((pgS τ c e).1 4) = -1 := by
      have h4 : (pgS τ c e).1 4 = τ.1 4 := by rw [hP]; rfl
      rw [h4, (ho_P (fun p hp => (hT p hp).1) hI.hth).1]
      exact hoP_low ⟨(hT 0 (by omega)).2, (hT 1 (by omega)).2, (hT 2 (by omega)).2⟩
    have s2 : (xPlS τ c e).2.1 2 = pup (τ.2.1 2) c (τ.1 1) := by
      unfold xPlS
      rw [g2]
      exact hr2
    have s3 : (xPlS τ c e).2.1 3 = pup (τ.2.1 3) e (τ.1 1) := by
      unfold xPlS
      rw [g2]
      exact hr3
    have sc : (xPlS τ c e).2.2 1 = τ.2.2 1 := by
      unfold xPlS
      rw [g2]
      show (pgS τ c e).2.2 1 = _
      rw [hP]
      rfl
    have s4 : (xPlS τ c e).1 4 = -1 := by
      unfold xPlS
      rw [g4]
      unfold lkS
      generalize hoF (trT (pgS τ c e)) ((pgS τ c e).1 4) = z at hz ⊢
      exact hz
    have s8 : (xPlS τ c e).1 8 = τ.1 8 := by
      unfold xPlS
      rw [g8]
      show (pgS τ c e).1 8 = _
      rw [hP]
      rfl
    have s0 : (xPlS τ c e).1 0 ≠ 5 := by
      unfold xPlS
      refine g0 _ ?_
      show (pgS τ c e).1 0 ≠ 5
      rw [hP]
      show τ.1 0 ≠ 5
      omega
    have h6 := (hI.hnr h3).2
    have k4 := hI.hcb (τ.1 1) 4
    have k4' := hI.hcd (τ.1 1) 4
    have a8 : τ.1 8 = -1 := by
      refine Classical.byContradiction fun hne => ?_
      have a1 := hI.hac hne
      have a2 := hI.hck
      have a3 := hI.har
      have b0 := (hI.hcd 0 0).1
      have b1 := (hI.hcd 1 0).1
      have b2 := (hI.hcd 2 0).1
      have k0 := (hI.hkn 0).1
      have k1 := (hI.hkn 1).1
      have k2 := (hI.hkn 2).1
      rcases (show τ.1 8 = 0 ∨ τ.1 8 = 1 ∨ τ.1 8 = 2 from by omega) with q | q | q <;> rw [q] at a1 <;> omega
    have htu := hI2.htu
    rw [told_ok (by show -2147483648 ≤ (xPlS τ c e).1 1 ∧ _; have : 0 ≤ (xPlS τ c e).1 1 ∧ (xPlS τ c e).1 1 < 3 := htu; omega)]
    refine .inr ⟨htu, rfl, ?_, ?_, ?_, Ov.of s0⟩
    · show (xPlS τ c e).2.1 2 c = _
      rw [s2]
      simp [pup]
    · show (xPlS τ c e).2.1 3 e = _
      rw [s3]
      simp [pup]
    · show ptsF (xPlS τ c e) (τ.1 1) < 3
      have q1 : ¬ (-1 : Int) = τ.1 1 := by omega
      have q2 : ¬ (-1 : Int) = 3 + τ.1 1 := by omega
      have q3 : ¬ τ.1 1 = 3 + τ.1 1 := by omega
      have q4 : ¬ τ.1 1 = -1 := by omega
      have := plc_2 (n := τ.1 2) (p := τ.1 1) (t := τ.1 1) (by omega) ht htn
      rw [if_pos rfl] at this
      unfold ptsF
      rw [s2, sc, s4, s8, a8, cnt_pup hc.1 24 hc.2, cnt_pup hc.1 24 hc.2, (hcn _ ht).1, (hcn _ ht).2.1, hb, if_neg q1, if_neg q2, if_neg q3, if_neg q4, if_pos (rfl : τ.1 1 = τ.1 1)]
      omega
  · have ex : xPlace τ c e = (2, 0, τ) := by
      unfold xPlace
      rw [if_neg (fun z => z ⟨hc, he⟩), if_pos h]
    rw [ex]
    exact .inl ⟨told_S (by decide) rfl, rfl⟩
/-! ===== calls that are refused for what they were given ===== -/
theorem told_lit {E : Int → String} {k c : Int} {τ : St} (hk : k ≠ 0) (hc : cdE (E k) = c) : told E (k, 0, τ) = c := by
  unfold told
  rw [if_neg hk]
  exact hc
theorem rf_0 (τ : St) : Cl τ 0 7 0 6 (-1121) τ := by
  have h := Cl_layHex τ 7 0 6 (by omega) (by omega) (by omega)
  have e : xLay τ 7 0 6 = (1, 0, τ) := by
    unfold xLay
    first
      | (rw [if_pos (by decide)]; rfl)
      | rw [if_pos (by decide)]
      | (rw [if_neg (by decide), if_pos (by decide)]; rfl)
      | rw [if_neg (by decide), if_pos (by decide)]
  have e2 : told eIAS (1, 0, τ) = -1121 := told_lit (by decide) (by decide)
  rw [e, e2] at h
  exact h
theorem rf_1 (τ : St) : Cl τ 0 0 6 6 (-1122) τ := by
  have h := Cl_layHex τ 0 6 6 (by omega) (by omega) (by omega)
  have e : xLay τ 0 6 6 = (2, 0, τ) := by
    unfold xLay
    first
      | (rw [if_pos (by decide)]; rfl)
      | rw [if_pos (by decide)]
      | (rw [if_neg (by decide), if_pos (by decide)]; rfl)
      | rw [if_neg (by decide), if_pos (by decide)]
  have e2 : told eIAS (2, 0, τ) = -1122 := told_lit (by decide) (by decide)
  rw [e, e2] at h
  exact h
theorem rf_2 (τ : St) : Cl τ 1 24 0 0 (-1121) τ := by
  have h := Cl_place τ 24 0 0 (by omega) (by omega)
  have e : xPlace τ 24 0 = (1, 0, τ) := by
    unfold xPlace
    first
      | (rw [if_pos (by decide)]; rfl)
      | rw [if_pos (by decide)]
      | (rw [if_neg (by decide), if_pos (by decide)]; rfl)
      | rw [if_neg (by decide), if_pos (by decide)]
  have e2 : told eIS (1, 0, τ) = -1121 := told_lit (by decide) (by decide)
  rw [e, e2] at h
  exact h
theorem rf_3 (τ : St) : Cl τ 1 0 30 0 (-1121) τ := by
  have h := Cl_place τ 0 30 0 (by omega) (by omega)
  have e : xPlace τ 0 30 = (1, 0, τ) := by
    unfold xPlace
    first
      | (rw [if_pos (by decide)]; rfl)
      | rw [if_pos (by decide)]
      | (rw [if_neg (by decide), if_pos (by decide)]; rfl)
      | rw [if_neg (by decide), if_pos (by decide)]
  have e2 : told eIS (1, 0, τ) = -1121 := told_lit (by decide) (by decide)
  rw [e, e2] at h
  exact h
theorem rf_4 (τ : St) : Cl τ 2 3 0 0 (-1121) τ := by
  have h := Cl_deal τ 3 0 0 (by omega) (by omega)
  have e : xDeal τ 3 0 = (1, 0, τ) := by
    unfold xDeal
    first
      | (rw [if_pos (by decide)]; rfl)
      | rw [if_pos (by decide)]
      | (rw [if_neg (by decide), if_pos (by decide)]; rfl)
      | rw [if_neg (by decide), if_pos (by decide)]
  have e2 : told eIAS (1, 0, τ) = -1121 := told_lit (by decide) (by decide)
  rw [e, e2] at h
  exact h
theorem rf_5 (τ : St) : Cl τ 2 0 (-1) 0 (-1122) τ := by
  have h := Cl_deal τ 0 (-1) 0 (by omega) (by omega)
  have e : xDeal τ 0 (-1) = (2, 0, τ) := by
    unfold xDeal
    first
      | (rw [if_pos (by decide)]; rfl)
      | rw [if_pos (by decide)]
      | (rw [if_neg (by decide), if_pos (by decide)]; rfl)
      | rw [if_neg (by decide), if_pos (by decide)]
  have e2 : told eIAS (2, 0, τ) = -1122 := told_lit (by decide) (by decide)
  rw [e, e2] at h
  exact h
theorem rf_6 (τ : St) : Cl τ 3 0 1 0 (-1122) τ := by
  have h := Cl_roll τ 0 1 0 (by omega) (by omega)
  have e : xRoll τ 0 1 = (1, 0, τ) := by
    unfold xRoll
    first
      | (rw [if_pos (by decide)]; rfl)
      | rw [if_pos (by decide)]
      | (rw [if_neg (by decide), if_pos (by decide)]; rfl)
      | rw [if_neg (by decide), if_pos (by decide)]
  have e2 : told eAS (1, 0, τ) = -1122 := told_lit (by decide) (by decide)
  rw [e, e2] at h
  exact h
theorem rf_7 (τ : St) : Cl τ 4 3 100000 0 (-1121) τ := by
  have h := Cl_discard τ 3 100000 0 (by omega) (by omega)
  have e : xDisc τ 3 100000 = (1, 0, τ) := by
    unfold xDisc
    first
      | (rw [if_pos (by decide)]; rfl)
      | rw [if_pos (by decide)]
      | (rw [if_neg (by decide), if_pos (by decide)]; rfl)
      | rw [if_neg (by decide), if_pos (by decide)]
  have e2 : told eIAS (1, 0, τ) = -1121 := told_lit (by decide) (by decide)
  rw [e, e2] at h
  exact h
theorem rf_8 (τ : St) : Cl τ 5 0 3 0 (-1121) τ := by
  have h := Cl_rob τ 0 3 0 (by omega) (by omega) (by omega)
  have e : xRob τ 0 3 0 = (1, 0, τ) := by
    unfold xRob
    first
      | (rw [if_pos (by decide)]; rfl)
      | rw [if_pos (by decide)]
      | (rw [if_neg (by decide), if_pos (by decide)]; rfl)
      | rw [if_neg (by decide), if_pos (by decide)]
  have e2 : told eIAS (1, 0, τ) = -1121 := told_lit (by decide) (by decide)
  rw [e, e2] at h
  exact h
theorem rf_9 (τ : St) : Cl τ 5 0 0 (-1) (-1122) τ := by
  have h := Cl_rob τ 0 0 (-1) (by omega) (by omega) (by omega)
  have e : xRob τ 0 0 (-1) = (2, 0, τ) := by
    unfold xRob
    first
      | (rw [if_pos (by decide)]; rfl)
      | rw [if_pos (by decide)]
      | (rw [if_neg (by decide), if_pos (by decide)]; rfl)
      | rw [if_neg (by decide), if_pos (by decide)]
  have e2 : told eIAS (2, 0, τ) = -1122 := told_lit (by decide) (by decide)
  rw [e, e2] at h
  exact h
theorem rf_10 (τ : St) : Cl τ 6 30 0 0 (-1121) τ := by
  have h := Cl_road τ 30 0 0 (by omega)
  have e : xRoad τ 30 = (1, 0, τ) := by
    unfold xRoad
    first
      | (rw [if_pos (by decide)]; rfl)
      | rw [if_pos (by decide)]
      | (rw [if_neg (by decide), if_pos (by decide)]; rfl)
      | rw [if_neg (by decide), if_pos (by decide)]
  have e2 : told eIS (1, 0, τ) = -1121 := told_lit (by decide) (by decide)
  rw [e, e2] at h
  exact h
theorem rf_11 (τ : St) : Cl τ 7 (-1) 0 0 (-1121) τ := by
  have h := Cl_house τ (-1) 0 0 (by omega)
  have e : xHouse τ (-1) = (1, 0, τ) := by
    unfold xHouse
    first
      | (rw [if_pos (by decide)]; rfl)
      | rw [if_pos (by decide)]
      | (rw [if_neg (by decide), if_pos (by decide)]; rfl)
      | rw [if_neg (by decide), if_pos (by decide)]
  have e2 : told eIS (1, 0, τ) = -1121 := told_lit (by decide) (by decide)
  rw [e, e2] at h
  exact h
theorem rf_12 (τ : St) : Cl τ 8 24 0 0 (-1121) τ := by
  have h := Cl_city τ 24 0 0 (by omega)
  have e : xCity τ 24 = (1, 0, τ) := by
    unfold xCity
    first
      | (rw [if_pos (by decide)]; rfl)
      | rw [if_pos (by decide)]
      | (rw [if_neg (by decide), if_pos (by decide)]; rfl)
      | rw [if_neg (by decide), if_pos (by decide)]
  have e2 : told eIS (1, 0, τ) = -1121 := told_lit (by decide) (by decide)
  rw [e, e2] at h
  exact h
theorem rf_13 (τ : St) : Cl τ 10 7 (-1) 0 (-1121) τ := by
  have h := Cl_knight τ 7 (-1) 0 (by omega) (by omega) (by omega)
  have e : xKnight τ 7 (-1) 0 = (1, 0, τ) := by
    unfold xKnight
    first
      | (rw [if_pos (by decide)]; rfl)
      | rw [if_pos (by decide)]
      | (rw [if_neg (by decide), if_pos (by decide)]; rfl)
      | rw [if_neg (by decide), if_pos (by decide)]
  have e2 : told eIAS (1, 0, τ) = -1121 := told_lit (by decide) (by decide)
  rw [e, e2] at h
  exact h
theorem rf_14 (τ : St) : Cl τ 10 0 (-2) 1000 (-1121) τ := by
  have h := Cl_knight τ 0 (-2) 1000 (by omega) (by omega) (by omega)
  have e : xKnight τ 0 (-2) 1000 = (1, 0, τ) := by
    unfold xKnight
    first
      | (rw [if_pos (by decide)]; rfl)
      | rw [if_pos (by decide)]
      | (rw [if_neg (by decide), if_pos (by decide)]; rfl)
      | rw [if_neg (by decide), if_pos (by decide)]
  have e2 : told eIAS (1, 0, τ) = -1121 := told_lit (by decide) (by decide)
  rw [e, e2] at h
  exact h
theorem rf_15 (τ : St) : Cl τ 11 (-1) 0 0 (-1121) τ := by
  have h := Cl_roads τ (-1) 0 0 (by omega) (by omega)
  have e : xRoads τ (-1) 0 = (1, 0, τ) := by
    unfold xRoads
    first
      | (rw [if_pos (by decide)]; rfl)
      | rw [if_pos (by decide)]
      | (rw [if_neg (by decide), if_pos (by decide)]; rfl)
      | rw [if_neg (by decide), if_pos (by decide)]
  have e2 : told eIS (1, 0, τ) = -1121 := told_lit (by decide) (by decide)
  rw [e, e2] at h
  exact h
theorem rf_16 (τ : St) : Cl τ 12 0 (-1) 0 (-1122) τ := by
  have h := Cl_plenty τ 0 (-1) 0 (by omega) (by omega)
  have e : xPlenty τ 0 (-1) = (1, 0, τ) := by
    unfold xPlenty
    first
      | (rw [if_pos (by decide)]; rfl)
      | rw [if_pos (by decide)]
      | (rw [if_neg (by decide), if_pos (by decide)]; rfl)
      | rw [if_neg (by decide), if_pos (by decide)]
  have e2 : told eAS (1, 0, τ) = -1122 := told_lit (by decide) (by decide)
  rw [e, e2] at h
  exact h
theorem rf_17 (τ : St) : Cl τ 13 5 0 0 (-1122) τ := by
  have h := Cl_monopoly τ 5 0 0 (by omega)
  have e : xMono τ 5 = (1, 0, τ) := by
    unfold xMono
    first
      | (rw [if_pos (by decide)]; rfl)
      | rw [if_pos (by decide)]
      | (rw [if_neg (by decide), if_pos (by decide)]; rfl)
      | rw [if_neg (by decide), if_pos (by decide)]
  have e2 : told eAS (1, 0, τ) = -1122 := told_lit (by decide) (by decide)
  rw [e, e2] at h
  exact h
theorem rf_18 (τ : St) : Cl τ 14 2 2 0 (-1122) τ := by
  have h := Cl_swap τ 2 2 0 (by omega) (by omega)
  have e : xSwap τ 2 2 = (1, 0, τ) := by
    unfold xSwap
    first
      | (rw [if_pos (by decide)]; rfl)
      | rw [if_pos (by decide)]
      | (rw [if_neg (by decide), if_pos (by decide)]; rfl)
      | rw [if_neg (by decide), if_pos (by decide)]
  have e2 : told eAS (1, 0, τ) = -1122 := told_lit (by decide) (by decide)
  rw [e, e2] at h
  exact h
theorem rf_19 (τ : St) : Cl τ 15 100000 1 0 (-1122) τ := by
  have h := Cl_offer τ 100000 1 0 (by omega) (by omega)
  have e : xOffer τ 100000 1 = (1, 0, τ) := by
    unfold xOffer
    first
      | (rw [if_pos (by decide)]; rfl)
      | rw [if_pos (by decide)]
      | (rw [if_neg (by decide), if_pos (by decide)]; rfl)
      | rw [if_neg (by decide), if_pos (by decide)]
  have e2 : told eAS (1, 0, τ) = -1122 := told_lit (by decide) (by decide)
  rw [e, e2] at h
  exact h
theorem rf_20 (τ : St) : Cl τ 16 3 0 0 (-1121) τ := by
  have h := Cl_counter τ 3 0 0 (by omega) (by omega) (by omega)
  have e : xCounter τ 3 0 0 = (1, 0, τ) := by
    unfold xCounter
    first
      | (rw [if_pos (by decide)]; rfl)
      | rw [if_pos (by decide)]
      | (rw [if_neg (by decide), if_pos (by decide)]; rfl)
      | rw [if_neg (by decide), if_pos (by decide)]
  have e2 : told eIAS (1, 0, τ) = -1121 := told_lit (by decide) (by decide)
  rw [e, e2] at h
  exact h
theorem rf_21 (τ : St) : Cl τ 16 0 0 1 (-1122) τ := by
  have h := Cl_counter τ 0 0 1 (by omega) (by omega) (by omega)
  have e : xCounter τ 0 0 1 = (2, 0, τ) := by
    unfold xCounter
    first
      | (rw [if_pos (by decide)]; rfl)
      | rw [if_pos (by decide)]
      | (rw [if_neg (by decide), if_pos (by decide)]; rfl)
      | rw [if_neg (by decide), if_pos (by decide)]
  have e2 : told eIAS (2, 0, τ) = -1122 := told_lit (by decide) (by decide)
  rw [e, e2] at h
  exact h
theorem rf_22 (τ : St) : Cl τ 17 (-1) 0 0 (-1121) τ := by
  have h := Cl_accept τ (-1) 0 0 (by omega)
  have e : xAccept τ (-1) = (1, 0, τ) := by
    unfold xAccept
    first
      | (rw [if_pos (by decide)]; rfl)
      | rw [if_pos (by decide)]
      | (rw [if_neg (by decide), if_pos (by decide)]; rfl)
      | rw [if_neg (by decide), if_pos (by decide)]
  have e2 : told eIS (1, 0, τ) = -1121 := told_lit (by decide) (by decide)
  rw [e, e2] at h
  exact h
theorem rf_23 (τ : St) : Cl τ 18 3 0 0 (-1121) τ := by
  have h := Cl_agree τ 3 0 0 (by omega)
  have e : xAgree τ 3 = (1, 0, τ) := by
    unfold xAgree
    first
      | (rw [if_pos (by decide)]; rfl)
      | rw [if_pos (by decide)]
      | (rw [if_neg (by decide), if_pos (by decide)]; rfl)
      | rw [if_neg (by decide), if_pos (by decide)]
  have e2 : told eIS (1, 0, τ) = -1121 := told_lit (by decide) (by decide)
  rw [e, e2] at h
  exact h
/-! ===== all that a game tells, as one number ===== -/
def dgL (m : Int) (f : Int → Int) (h0 : Int) : Nat → Int
  | 0 => h0
  | n + 1 => dgL m f h0 n * m + f (n : Int)
def dgP (τ : St) (h0 : Int) : Nat → Int
  | 0 => h0
  | n + 1 => dgL 19 (fun k => τ.2.2 1 (n : Int) k) (((dgP τ h0 n * 31 + τ.2.1 4 (n : Int)) * 13 + ptsF τ (n : Int)) * 31 + τ.2.1 6 (n : Int)) 5
def dg2 (τ : St) : Int := ((((τ.1 0 * 7 + τ.1 1) * 11 + τ.1 5) * 5 + τ.1 8) * 5 + τ.1 4)
def dg3 (τ : St) : Int := dgL 17 (fun k => τ.2.2 0 (k / 5) (k % 5)) (dg2 τ) 20
def dg4 (τ : St) : Int := dgL 11 (τ.2.1 2) (dg3 τ) 24
def dg5 (τ : St) : Int := dgL 7 (τ.2.1 3) (dg4 τ) 30
def dgA (τ : St) : Int := dgP τ (dg5 τ) 3
theorem lp_all {τ κ : St} (hJ : Jv τ κ) : Sp mL_all roC 4 [vR 0] (cW τ κ) (.inl (some (vL (dgA τ)))) (cW τ κ) := by
  have hI := hJ.1
  refine Sp.of (lk := lkL) (tb := bL_all) (by decide) lkL_ok tL_all rfl (Nat.le_of_ble_eq_true rfl) (fun G hR => ?_)
  refine hR.run0 1 (S' := (1, [some (vR 0), none, none, none, none], [vR 0], cW τ κ)) rfl ?_
  have f1 := hI.hph
  refine hR.cv [] kL_125 rfl rfl ⟨5, _, _, rfl, rfl, rfl⟩ (by decide) (Nat.le_of_ble_eq_true rfl) (Nat.le_of_ble_eq_true rfl) rfl ((q_phase τ) κ hJ) ?_
  show G (4, [some (vR 0), none, none, none, none], [vI (τ.1 0)], cW τ κ)
  refine hR.run1 4 (S' := (10, [some (vR 0), none, none, none, none], [vR 0, vL ((τ.1 0) * 7)], cW τ κ)) rfl (by first | omega | (dsimp only; omega)) ?_
  have f2 := hI.htu
  refine hR.cv [] kL_130 rfl rfl ⟨5, _, _, rfl, rfl, rfl⟩ (by decide) (Nat.le_of_ble_eq_true rfl) (Nat.le_of_ble_eq_true rfl) rfl ((q_turn τ) κ hJ) ?_
  show G (13, [some (vR 0), none, none, none, none], [vI (τ.1 1), vL ((τ.1 0) * 7)], cW τ κ)
  refine hR.run1 5 (S' := (20, [some (vR 0), none, none, none, none], [vR 0, vL ((((τ.1 0) * 7) + (τ.1 1)) * 11)], cW τ κ)) rfl (by first | omega | (dsimp only; omega)) ?_
  have f3 := hI.hrb
  refine hR.cv [] kL_135 rfl rfl ⟨5, _, _, rfl, rfl, rfl⟩ (by decide) (Nat.le_of_ble_eq_true rfl) (Nat.le_of_ble_eq_true rfl) rfl ((q_robber τ) κ hJ) ?_
  show G (23, [some (vR 0), none, none, none, none], [vI (τ.1 5), vL ((((τ.1 0) * 7) + (τ.1 1)) * 11)], cW τ κ)
  refine hR.run1 8 (S' := (33, [some (vR 0), some (vL (((((τ.1 0) * 7) + (τ.1 1)) * 11) + (τ.1 5))), none, none, none], [vI 1, vR 0, vL ((((((τ.1 0) * 7) + (τ.1 1)) * 11) + (τ.1 5)) * 5)], cW τ κ)) rfl (by first | omega | (dsimp only; omega)) ?_
  have f4 := hI.har
  refine hR.cv [vI 1] kL_140 rfl rfl ⟨5, _, _, rfl, rfl, rfl⟩ (by decide) (Nat.le_of_ble_eq_true rfl) (Nat.le_of_ble_eq_true rfl) rfl ((q_holder τ (by decide)) κ hJ) ?_
  show G (36, [some (vR 0), some (vL (((((τ.1 0) * 7) + (τ.1 1)) * 11) + (τ.1 5))), none, none, none], [vI (τ.1 8), vL ((((((τ.1 0) * 7) + (τ.1 1)) * 11) + (τ.1 5)) * 5)], cW τ κ)
  refine hR.run1 6 (S' := (44, [some (vR 0), some (vL (((((τ.1 0) * 7) + (τ.1 1)) * 11) + (τ.1 5))), none, none, none], [vI 0, vR 0, vL ((((((((τ.1 0) * 7) + (τ.1 1)) * 11) + (τ.1 5)) * 5) + (τ.1 8)) * 5)], cW τ κ)) rfl (by first | omega | (dsimp only; omega)) ?_
  have f5 := hI.hth
  refine hR.cv [vI 0] kL_140 rfl rfl ⟨5, _, _, rfl, rfl, rfl⟩ (by decide) (Nat.le_of_ble_eq_true rfl) (Nat.le_of_ble_eq_true rfl) rfl ((q_holder τ (by decide)) κ hJ) ?_
  show G (47, [some (vR 0), some (vL (((((τ.1 0) * 7) + (τ.1 1)) * 11) + (τ.1 5))), none, none, none], [vI (τ.1 4), vL ((((((((τ.1 0) * 7) + (τ.1 1)) * 11) + (τ.1 5)) * 5) + (τ.1 8)) * 5)], cW τ κ)
  refine hR.run1 5 (S' := (52, [some (vR 0), some (vL (((((((((τ.1 0) * 7) + (τ.1 1)) * 11) + (τ.1 5)) * 5) + (τ.1 8)) * 5) + (τ.1 4))), none, some (vI 0), none], [], cW τ κ)) rfl (by first | omega | (dsimp only; omega)) ?_
  show G (52, [some (vR 0), some (vL (dg2 τ)), none, some (vI 0), none], [], cW τ κ)
  have hLh : ∀ h : Nat, h ≤ 20 → G (52, [some (vR 0), some (vL (dgL 17 (fun k => τ.2.2 0 (k / 5) (k % 5)) (dg2 τ) h)), none, some (vI (h : Int)), none], [], cW τ κ) := by
    refine back (P := fun h : Nat => G (52, [some (vR 0), some (vL (dgL 17 (fun k => τ.2.2 0 (k / 5) (k % 5)) (dg2 τ) h)), none, some (vI (h : Int)), none], [], cW τ κ)) ?_ ?_
    · intro h hh ihh
      replace ihh : G (52, [some (vR 0), some (vL (dgL 17 (fun k => τ.2.2 0 (k / 5) (k % 5)) (dg2 τ) (h + 1))), none, some (vI ((h : Int) + 1)), none], [], cW τ κ) := ihh
      show G (52, [some (vR 0), some (vL (dgL 17 (fun k => τ.2.2 0 (k / 5) (k % 5)) (dg2 τ) h)), none, some (vI (h : Int)), none], [], cW τ κ)
      refine hR.run0 2 (S' := (55, [some (vR 0), some (vL (dgL 17 (fun k => τ.2.2 0 (k / 5) (k % 5)) (dg2 τ) h)), none, some (vI (h : Int)), none], [vI 20, vI (h : Int)], cW τ κ)) rfl ?_
      refine hR.br (C := 20 ≤ (h : Int)) rfl (by first | omega | (dsimp only; omega)) (fun h6 => (by exfalso; omega)) (fun h6 => ?_)
      refine hR.run1 10 (S' := (70, [some (vR 0), some (vL (dgL 17 (fun k => τ.2.2 0 (k / 5) (k % 5)) (dg2 τ) h)), none, some (vI (h : Int)), none], [vI ((h : Int) % 5), vI ((h : Int) / 5), vR 0, vL ((dgL 17 (fun k => τ.2.2 0 (k / 5) (k % 5)) (dg2 τ) h) * 17)], cW τ κ)) rfl (by first | omega | (dsimp only; omega)) ?_
      have f7 := hI.hh ((h : Int) / 5) ((h : Int) % 5)
      refine hR.cv [vI ((h : Int) / 5), vI ((h : Int) % 5)] kL_92 rfl rfl ⟨5, _, _, rfl, rfl, rfl⟩ (by decide) (Nat.le_of_ble_eq_true rfl) (Nat.le_of_ble_eq_true rfl) rfl ((q_hbm τ (by omega) (by omega)) κ hJ) ?_
      show G (73, [some (vR 0), some (vL (dgL 17 (fun k => τ.2.2 0 (k / 5) (k % 5)) (dg2 τ) h)), none, some (vI (h : Int)), none], [vI (τ.2.2 0 ((h : Int) / 5) ((h : Int) % 5)), vL ((dgL 17 (fun k => τ.2.2 0 (k / 5) (k % 5)) (dg2 τ) h) * 17)], cW τ κ)
      refine hR.run1 5 (S' := (52, [some (vR 0), some (vL (((dgL 17 (fun k => τ.2.2 0 (k / 5) (k % 5)) (dg2 τ) h) * 17) + (τ.2.2 0 ((h : Int) / 5) ((h : Int) % 5)))), none, some (vI ((h : Int) + 1)), none], [], cW τ κ)) rfl (by first | omega | (dsimp only; omega)) ?_
      exact ihh
    · show G (52, [some (vR 0), some (vL (dgL 17 (fun k => τ.2.2 0 (k / 5) (k % 5)) (dg2 τ) 20)), none, some (vI 20), none], [], cW τ κ)
      refine hR.run0 2 (S' := (55, [some (vR 0), some (vL (dgL 17 (fun k => τ.2.2 0 (k / 5) (k % 5)) (dg2 τ) 20)), none, some (vI 20), none], [vI 20, vI 20], cW τ κ)) rfl ?_
      refine hR.br (C := (20 : Int) ≤ 20) rfl (by first | omega | (dsimp only; omega)) (fun h8 => ?_) (fun h8 => (by exfalso; omega))
      refine hR.run0 2 (S' := (84, [some (vR 0), some (vL (dgL 17 (fun k => τ.2.2 0 (k / 5) (k % 5)) (dg2 τ) 20)), none, some (vI 0), none], [], cW τ κ)) rfl ?_
      show G (84, [some (vR 0), some (vL (dg3 τ)), none, some (vI 0), none], [], cW τ κ)
      have hLc : ∀ c : Nat, c ≤ 24 → G (84, [some (vR 0), some (vL (dgL 11 (τ.2.1 2) (dg3 τ) c)), none, some (vI (c : Int)), none], [], cW τ κ) := by
        refine back (P := fun c : Nat => G (84, [some (vR 0), some (vL (dgL 11 (τ.2.1 2) (dg3 τ) c)), none, some (vI (c : Int)), none], [], cW τ κ)) ?_ ?_
        · intro c hc ihc
          replace ihc : G (84, [some (vR 0), some (vL (dgL 11 (τ.2.1 2) (dg3 τ) (c + 1))), none, some (vI ((c : Int) + 1)), none], [], cW τ κ) := ihc
          show G (84, [some (vR 0), some (vL (dgL 11 (τ.2.1 2) (dg3 τ) c)), none, some (vI (c : Int)), none], [], cW τ κ)
          refine hR.run0 2 (S' := (87, [some (vR 0), some (vL (dgL 11 (τ.2.1 2) (dg3 τ) c)), none, some (vI (c : Int)), none], [vI 24, vI (c : Int)], cW τ κ)) rfl ?_
          refine hR.br (C := 24 ≤ (c : Int)) rfl (by first | omega | (dsimp only; omega)) (fun h9 => (by exfalso; omega)) (fun h9 => ?_)
          refine hR.run0 5 (S' := (97, [some (vR 0), some (vL (dgL 11 (τ.2.1 2) (dg3 τ) c)), none, some (vI (c : Int)), none], [vI (c : Int), vR 0, vL ((dgL 11 (τ.2.1 2) (dg3 τ) c) * 11)], cW τ κ)) rfl ?_
          have f10 := hI.hb (c : Int)
          refine hR.cv [vI (c : Int)] kL_113 rfl rfl ⟨5, _, _, rfl, rfl, rfl⟩ (by decide) (Nat.le_of_ble_eq_true rfl) (Nat.le_of_ble_eq_true rfl) rfl ((q_building τ (by omega)) κ hJ) ?_
          show G (100, [some (vR 0), some (vL (dgL 11 (τ.2.1 2) (dg3 τ) c)), none, some (vI (c : Int)), none], [vI (τ.2.1 2 (c : Int)), vL ((dgL 11 (τ.2.1 2) (dg3 τ) c) * 11)], cW τ κ)
          refine hR.run1 5 (S' := (84, [some (vR 0), some (vL (((dgL 11 (τ.2.1 2) (dg3 τ) c) * 11) + (τ.2.1 2 (c : Int)))), none, some (vI ((c : Int) + 1)), none], [], cW τ κ)) rfl (by first | omega | (dsimp only; omega)) ?_
          exact ihc
        · show G (84, [some (vR 0), some (vL (dgL 11 (τ.2.1 2) (dg3 τ) 24)), none, some (vI 24), none], [], cW τ κ)
          refine hR.run0 2 (S' := (87, [some (vR 0), some (vL (dgL 11 (τ.2.1 2) (dg3 τ) 24)), none, some (vI 24), none], [vI 24, vI 24], cW τ κ)) rfl ?_
          refine hR.br (C := (24 : Int) ≤ 24) rfl (by first | omega | (dsimp only; omega)) (fun h11 => ?_) (fun h11 => (by exfalso; omega))
          refine hR.run0 2 (S' := (111, [some (vR 0), some (vL (dgL 11 (τ.2.1 2) (dg3 τ) 24)), none, some (vI 0), none], [], cW τ κ)) rfl ?_
          show G (111, [some (vR 0), some (vL (dg4 τ)), none, some (vI 0), none], [], cW τ κ)
          have hLe : ∀ e : Nat, e ≤ 30 → G (111, [some (vR 0), some (vL (dgL 7 (τ.2.1 3) (dg4 τ) e)), none, some (vI (e : Int)), none], [], cW τ κ) := by
            refine back (P := fun e : Nat => G (111, [some (vR 0), some (vL (dgL 7 (τ.2.1 3) (dg4 τ) e)), none, some (vI (e : Int)), none], [], cW τ κ)) ?_ ?_
            · intro e he ihe
              replace ihe : G (111, [some (vR 0), some (vL (dgL 7 (τ.2.1 3) (dg4 τ) (e + 1))), none, some (vI ((e : Int) + 1)), none], [], cW τ κ) := ihe
              show G (111, [some (vR 0), some (vL (dgL 7 (τ.2.1 3) (dg4 τ) e)), none, some (vI (e : Int)), none], [], cW τ κ)
              refine hR.run0 2 (S' := (114, [some (vR 0), some (vL (dgL 7 (τ.2.1 3) (dg4 τ) e)), none, some (vI (e : Int)), none], [vI 30, vI (e : Int)], cW τ κ)) rfl ?_
              refine hR.br (C := 30 ≤ (e : Int)) rfl (by first | omega | (dsimp only; omega)) (fun h12 => (by exfalso; omega)) (fun h12 => ?_)
              refine hR.run0 5 (S' := (124, [some (vR 0), some (vL (dgL 7 (τ.2.1 3) (dg4 τ) e)), none, some (vI (e : Int)), none], [vI (e : Int), vR 0, vL ((dgL 7 (τ.2.1 3) (dg4 τ) e) * 7)], cW τ κ)) rfl ?_
              have f13 := hI.hr (e : Int)
              refine hR.cv [vI (e : Int)] kL_116 rfl rfl ⟨5, _, _, rfl, rfl, rfl⟩ (by decide) (Nat.le_of_ble_eq_true rfl) (Nat.le_of_ble_eq_true rfl) rfl ((q_road τ (by omega)) κ hJ) ?_
              show G (127, [some (vR 0), some (vL (dgL 7 (τ.2.1 3) (dg4 τ) e)), none, some (vI (e : Int)), none], [vI (τ.2.1 3 (e : Int)), vL ((dgL 7 (τ.2.1 3) (dg4 τ) e) * 7)], cW τ κ)
              refine hR.run1 5 (S' := (111, [some (vR 0), some (vL (((dgL 7 (τ.2.1 3) (dg4 τ) e) * 7) + (τ.2.1 3 (e : Int)))), none, some (vI ((e : Int) + 1)), none], [], cW τ κ)) rfl (by first | omega | (dsimp only; omega)) ?_
              exact ihe
            · show G (111, [some (vR 0), some (vL (dgL 7 (τ.2.1 3) (dg4 τ) 30)), none, some (vI 30), none], [], cW τ κ)
              refine hR.run0 2 (S' := (114, [some (vR 0), some (vL (dgL 7 (τ.2.1 3) (dg4 τ) 30)), none, some (vI 30), none], [vI 30, vI 30], cW τ κ)) rfl ?_
              refine hR.br (C := (30 : Int) ≤ 30) rfl (by first | omega | (dsimp only; omega)) (fun h14 => ?_) (fun h14 => (by exfalso; omega))
              refine hR.run0 2 (S' := (138, [some (vR 0), some (vL (dgL 7 (τ.2.1 3) (dg4 τ) 30)), none, some (vI 0), none], [], cW τ κ)) rfl ?_
              show G (138, [some (vR 0), some (vL (dg5 τ)), none, some (vI 0), none], [], cW τ κ)
              have hLp : ∀ p : Nat, p ≤ 3 → G (138, [some (vR 0), some (vL (dgP τ (dg5 τ) p)), none, some (vI (p : Int)), none], [], cW τ κ) := by
                refine back (P := fun p : Nat => G (138, [some (vR 0), some (vL (dgP τ (dg5 τ) p)), none, some (vI (p : Int)), none], [], cW τ κ)) ?_ ?_
                · intro p hp ihp
                  replace ihp : G (138, [some (vR 0), some (vL (dgP τ (dg5 τ) (p + 1))), none, some (vI ((p : Int) + 1)), none], [], cW τ κ) := ihp
                  show G (138, [some (vR 0), some (vL (dgP τ (dg5 τ) p)), none, some (vI (p : Int)), none], [], cW τ κ)
                  refine hR.run0 2 (S' := (140, [some (vR 0), some (vL (dgP τ (dg5 τ) p)), none, some (vI (p : Int)), none], [vI 3, vI (p : Int)], cW τ κ)) rfl ?_
                  refine hR.br (C := 3 ≤ (p : Int)) rfl (by first | omega | (dsimp only; omega)) (fun h15 => (by exfalso; omega)) (fun h15 => ?_)
                  refine hR.run0 5 (S' := (150, [some (vR 0), some (vL (dgP τ (dg5 τ) p)), none, some (vI (p : Int)), none], [vI (p : Int), vR 0, vL ((dgP τ (dg5 τ) p) * 31)], cW τ κ)) rfl ?_
                  have f16 := hI.hdu (p : Int)
                  refine hR.cv [vI (p : Int)] kL_95 rfl rfl ⟨5, _, _, rfl, rfl, rfl⟩ (by decide) (Nat.le_of_ble_eq_true rfl) (Nat.le_of_ble_eq_true rfl) rfl ((q_due τ (by omega)) κ hJ) ?_
                  show G (153, [some (vR 0), some (vL (dgP τ (dg5 τ) p)), none, some (vI (p : Int)), none], [vI (τ.2.1 4 (p : Int)), vL ((dgP τ (dg5 τ) p) * 31)], cW τ κ)
                  refine hR.run1 6 (S' := (161, [some (vR 0), some (vL (dgP τ (dg5 τ) p)), none, some (vI (p : Int)), none], [vI (p : Int), vR 0, vL ((((dgP τ (dg5 τ) p) * 31) + (τ.2.1 4 (p : Int))) * 13)], cW τ κ)) rfl (by first | omega | (dsimp only; omega)) ?_
                  have f17 := ptsF_r (p : Int) (hI.hcd (p : Int) 4)
                  refine hR.cv [vI (p : Int)] kL_98 rfl rfl ⟨5, _, _, rfl, rfl, rfl⟩ (by decide) (Nat.le_of_ble_eq_true rfl) (Nat.le_of_ble_eq_true rfl) rfl ((q_points τ (by omega)) κ hJ) ?_
                  show G (164, [some (vR 0), some (vL (dgP τ (dg5 τ) p)), none, some (vI (p : Int)), none], [vI (ptsF τ (p : Int)), vL ((((dgP τ (dg5 τ) p) * 31) + (τ.2.1 4 (p : Int))) * 13)], cW τ κ)
                  refine hR.run1 6 (S' := (172, [some (vR 0), some (vL (dgP τ (dg5 τ) p)), none, some (vI (p : Int)), none], [vI (p : Int), vR 0, vL ((((((dgP τ (dg5 τ) p) * 31) + (τ.2.1 4 (p : Int))) * 13) + (ptsF τ (p : Int))) * 31)], cW τ κ)) rfl (by first | omega | (dsimp only; omega)) ?_
                  have f18 := hI.hkn (p : Int)
                  refine hR.cv [vI (p : Int)] kL_107 rfl rfl ⟨5, _, _, rfl, rfl, rfl⟩ (by decide) (Nat.le_of_ble_eq_true rfl) (Nat.le_of_ble_eq_true rfl) rfl ((q_knights τ (by omega)) κ hJ) ?_
                  show G (175, [some (vR 0), some (vL (dgP τ (dg5 τ) p)), none, some (vI (p : Int)), none], [vI (τ.2.1 6 (p : Int)), vL ((((((dgP τ (dg5 τ) p) * 31) + (τ.2.1 4 (p : Int))) * 13) + (ptsF τ (p : Int))) * 31)], cW τ κ)
                  refine hR.run1 5 (S' := (181, [some (vR 0), some (vL (((((((dgP τ (dg5 τ) p) * 31) + (τ.2.1 4 (p : Int))) * 13) + (ptsF τ (p : Int))) * 31) + (τ.2.1 6 (p : Int)))), none, some (vI (p : Int)), some (vI 0)], [], cW τ κ)) rfl (by first | omega | (dsimp only; omega)) ?_
                  have hLk : ∀ k : Nat, k ≤ 5 → G (181, [some (vR 0), some (vL (dgL 19 (fun k => τ.2.2 1 (p : Int) k) (((((((dgP τ (dg5 τ) p) * 31) + (τ.2.1 4 (p : Int))) * 13) + (ptsF τ (p : Int))) * 31) + (τ.2.1 6 (p : Int))) k)), none, some (vI (p : Int)), some (vI (k : Int))], [], cW τ κ) := by
                    refine back (P := fun k : Nat => G (181, [some (vR 0), some (vL (dgL 19 (fun k => τ.2.2 1 (p : Int) k) (((((((dgP τ (dg5 τ) p) * 31) + (τ.2.1 4 (p : Int))) * 13) + (ptsF τ (p : Int))) * 31) + (τ.2.1 6 (p : Int))) k)), none, some (vI (p : Int)), some (vI (k : Int))], [], cW τ κ)) ?_ ?_
                    · intro k hk ihk
                      replace ihk : G (181, [some (vR 0), some (vL (dgL 19 (fun k => τ.2.2 1 (p : Int) k) (((((((dgP τ (dg5 τ) p) * 31) + (τ.2.1 4 (p : Int))) * 13) + (ptsF τ (p : Int))) * 31) + (τ.2.1 6 (p : Int))) (k + 1))), none, some (vI (p : Int)), some (vI ((k : Int) + 1))], [], cW τ κ) := ihk
                      show G (181, [some (vR 0), some (vL (dgL 19 (fun k => τ.2.2 1 (p : Int) k) (((((((dgP τ (dg5 τ) p) * 31) + (τ.2.1 4 (p : Int))) * 13) + (ptsF τ (p : Int))) * 31) + (τ.2.1 6 (p : Int))) k)), none, some (vI (p : Int)), some (vI (k : Int))], [], cW τ κ)
                      refine hR.run0 2 (S' := (184, [some (vR 0), some (vL (dgL 19 (fun k => τ.2.2 1 (p : Int) k) (((((((dgP τ (dg5 τ) p) * 31) + (τ.2.1 4 (p : Int))) * 13) + (ptsF τ (p : Int))) * 31) + (τ.2.1 6 (p : Int))) k)), none, some (vI (p : Int)), some (vI (k : Int))], [vI 5, vI (k : Int)], cW τ κ)) rfl ?_
                      refine hR.br (C := 5 ≤ (k : Int)) rfl (by first | omega | (dsimp only; omega)) (fun h19 => (by exfalso; omega)) (fun h19 => ?_)
                      refine hR.run0 6 (S' := (196, [some (vR 0), some (vL (dgL 19 (fun k => τ.2.2 1 (p : Int) k) (((((((dgP τ (dg5 τ) p) * 31) + (τ.2.1 4 (p : Int))) * 13) + (ptsF τ (p : Int))) * 31) + (τ.2.1 6 (p : Int))) k)), none, some (vI (p : Int)), some (vI (k : Int))], [vI (k : Int), vI (p : Int), vR 0, vL ((dgL 19 (fun k => τ.2.2 1 (p : Int) k) (((((((dgP τ (dg5 τ) p) * 31) + (τ.2.1 4 (p : Int))) * 13) + (ptsF τ (p : Int))) * 31) + (τ.2.1 6 (p : Int))) k) * 19)], cW τ κ)) rfl ?_
                      have f20 := hI.hcd (p : Int) (k : Int)
                      refine hR.cv [vI (p : Int), vI (k : Int)] kL_110 rfl rfl ⟨5, _, _, rfl, rfl, rfl⟩ (by decide) (Nat.le_of_ble_eq_true rfl) (Nat.le_of_ble_eq_true rfl) rfl ((q_cards τ (by omega) (by omega)) κ hJ) ?_
                      show G (199, [some (vR 0), some (vL (dgL 19 (fun k => τ.2.2 1 (p : Int) k) (((((((dgP τ (dg5 τ) p) * 31) + (τ.2.1 4 (p : Int))) * 13) + (ptsF τ (p : Int))) * 31) + (τ.2.1 6 (p : Int))) k)), none, some (vI (p : Int)), some (vI (k : Int))], [vI (τ.2.2 1 (p : Int) (k : Int)), vL ((dgL 19 (fun k => τ.2.2 1 (p : Int) k) (((((((dgP τ (dg5 τ) p) * 31) + (τ.2.1 4 (p : Int))) * 13) + (ptsF τ (p : Int))) * 31) + (τ.2.1 6 (p : Int))) k) * 19)], cW τ κ)
                      refine hR.run1 5 (S' := (181, [some (vR 0), some (vL (((dgL 19 (fun k => τ.2.2 1 (p : Int) k) (((((((dgP τ (dg5 τ) p) * 31) + (τ.2.1 4 (p : Int))) * 13) + (ptsF τ (p : Int))) * 31) + (τ.2.1 6 (p : Int))) k) * 19) + (τ.2.2 1 (p : Int) (k : Int)))), none, some (vI (p : Int)), some (vI ((k : Int) + 1))], [], cW τ κ)) rfl (by first | omega | (dsimp only; omega)) ?_
                      exact ihk
                    · show G (181, [some (vR 0), some (vL (dgL 19 (fun k => τ.2.2 1 (p : Int) k) (((((((dgP τ (dg5 τ) p) * 31) + (τ.2.1 4 (p : Int))) * 13) + (ptsF τ (p : Int))) * 31) + (τ.2.1 6 (p : Int))) 5)), none, some (vI (p : Int)), some (vI 5)], [], cW τ κ)
                      refine hR.run0 2 (S' := (184, [some (vR 0), some (vL (dgL 19 (fun k => τ.2.2 1 (p : Int) k) (((((((dgP τ (dg5 τ) p) * 31) + (τ.2.1 4 (p : Int))) * 13) + (ptsF τ (p : Int))) * 31) + (τ.2.1 6 (p : Int))) 5)), none, some (vI (p : Int)), some (vI 5)], [vI 5, vI 5], cW τ κ)) rfl ?_
                      refine hR.br (C := (5 : Int) ≤ 5) rfl (by first | omega | (dsimp only; omega)) (fun h21 => ?_) (fun h21 => (by exfalso; omega))
                      refine hR.run0 2 (S' := (138, [some (vR 0), some (vL (dgL 19 (fun k => τ.2.2 1 (p : Int) k) (((((((dgP τ (dg5 τ) p) * 31) + (τ.2.1 4 (p : Int))) * 13) + (ptsF τ (p : Int))) * 31) + (τ.2.1 6 (p : Int))) 5)), none, some (vI ((p : Int) + 1)), some (vI 5)], [], cW τ κ)) rfl ?_
                      refine hR.fg 4 ?_
                      exact ihp
                  exact hLk 0 (Nat.zero_le _)
                · show G (138, [some (vR 0), some (vL (dgP τ (dg5 τ) 3)), none, some (vI 3), none], [], cW τ κ)
                  refine hR.run0 2 (S' := (140, [some (vR 0), some (vL (dgP τ (dg5 τ) 3)), none, some (vI 3), none], [vI 3, vI 3], cW τ κ)) rfl ?_
                  refine hR.br (C := (3 : Int) ≤ 3) rfl (by first | omega | (dsimp only; omega)) (fun h22 => ?_) (fun h22 => (by exfalso; omega))
                  refine hR.run0 1 (S' := (215, [some (vR 0), some (vL (dgP τ (dg5 τ) 3)), none, some (vI 3), none], [vL (dgP τ (dg5 τ) 3)], cW τ κ)) rfl ?_
                  exact hR.rt rfl trivial rfl rfl
              exact hLp 0 (Nat.zero_le _)
          exact hLe 0 (Nat.zero_le _)
      exact hLc 0 (Nat.zero_le _)
  exact hLh 0 (Nat.zero_le _)
theorem lp_all1 {ro : PRO} (hro : ∀ q ∈ roC, q ∈ ro) {τ κ : St} (hJ : Jv τ κ) (κ2 : St) (X : PW) : Sp mL_all ro 4 [vR 0] (T2 τ κ κ2 X) (.inl (some (vL (nmL (dgA τ))))) (T2 τ κ κ2 X) := Sp.asPv (fun ad => nmL_pv ad _) (Sp.to1 hro (lp_all hJ))
theorem to2L {M : PM} {ro : PRO} {d : Nat} {τ κ2 : St} {H : Int} {Y : PW} (hro : ∀ q ∈ roC, q ∈ ro) (h : Sp M roC d [vR 0] (cW τ κ2) (.inl (some (vL H))) (cW τ κ2)) : Sp M ro d [vR 200] (Y ++ rW (cW τ κ2)) (.inl (some (vL H))) (Y ++ rW (cW τ κ2)) := by
  have h1 := Sp.to2 (Y := Y) hro h
  have e1 : [vR 0].map rPV = [vR 200] := rfl
  have e2 : rO (.inl (some (vL H))) = .inl (some (vL H)) := rfl
  rw [e1, e2] at h1
  exact h1
theorem lp_all2 {ro : PRO} (hro : ∀ q ∈ roC, q ∈ ro) {τ κ2 : St} (hJ : Jv τ κ2) (κ : St) (X : PW) : Sp mL_all ro 4 [vR 200] (T2 τ κ κ2 X) (.inl (some (vL (nmL (dgA τ))))) (T2 τ κ κ2 X) := Sp.asPv (fun ad => nmL_pv ad _) (to2L (Y := X ++ cW τ κ) hro (lp_all hJ))
