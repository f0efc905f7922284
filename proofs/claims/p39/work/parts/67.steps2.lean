/-! ===== a trail grows by one road at most twice and one ===== -/
theorem tr_one {b r : Int → Int} {p : Int} {e0 : Nat} (h8 : (owL r p 30).length ≤ 8) (h8' : (owL (pup r (e0 : Int) p) p 30).length ≤ 8) : trF b (pup r (e0 : Int) p) p ≤ 2 * trF b r p + 1 := by
  have h1 := tr_Lg (b := b) st0 h8
  have h2 := tr_Lg (b := b) st0 h8'
  obtain ⟨⟨T, x, y, t1, t2, t3, t4⟩, -⟩ := h2
  have hold : ∀ e : Nat, e < 30 ∧ pup r (e0 : Int) p (e : Int) = p → e ≠ e0 → e < 30 ∧ r (e : Int) = p := by
    intro e he hne
    refine ⟨he.1, ?_⟩
    have h3 := he.2
    unfold pup at h3
    rw [if_neg (by omega)] at h3
    exact h3
  show bsF (gaN b (pup r (e0 : Int) p) p st0 30) ≤ 2 * bsF (gaN b r p st0 30) + 1
  have h0 : 0 ≤ bsF (gaN b r p st0 30) := (tr_r (b := b) h8).1
  by_cases hm : e0 ∈ T
  · obtain ⟨T1, T2, rfl⟩ := List.append_of_mem hm
    obtain ⟨u, w1, w2⟩ := Wy_app.mp t1
    obtain ⟨v, -, w3⟩ := w2
    have n1 := List.nodup_append.mp t2
    have n2 := List.nodup_cons.mp n1.2.1
    have l1 := h1.2 T1 x u w1 n1.1 (fun e he => hold e (t3 e (List.mem_append_left _ he)) (fun z => n1.2.2 e he e0 List.mem_cons_self z))
    have l2 := h1.2 T2 v y w3 n2.2 (fun e he => hold e (t3 e (List.mem_append_right _ (List.mem_cons_of_mem _ he))) (fun z => n2.1 (by rw [← z]; exact he)))
    rw [List.length_append, List.length_cons] at t4
    omega
  · have l1 := h1.2 T x y t1 t2 (fun e he => hold e (t3 e he) (fun z => hm (by rw [← z]; exact he)))
    omega
theorem tr_cnt {b r : Int → Int} {p : Int} (h8 : (owL r p 30).length ≤ 8) : trF b r p ≤ cntN r p 30 := by
  obtain ⟨g1, g2⟩ := gaN_own b r p st0 h8 30 (Nat.le_refl _)
  obtain ⟨⟨T, a, c, t1, t2, t3, t4⟩, hu⟩ := bsF_Lg g1 h8
  have h1 := nodup_len t2 t3
  have h2 := owL_len r p 30
  show bsF (gaN b r p st0 30) ≤ cntN r p 30
  omega
/-! ===== the other calls ===== -/
theorem s_buy {τ : St} (hJ : Jx τ) (a b c : Int) : ∃ (v : Int) (σ : St), Cl τ 9 a b c v σ ∧ ((v = -1123 ∧ σ = τ) ∨ ((0 ≤ v ∧ v < 5) ∧ hasG (τ.2.2 0) (τ.1 1) 11100 = true ∧ σ.2.2 0 = mvF (τ.2.2 0) (τ.1 1) 3 (dgs 11100) ∧ σ.2.2 1 (τ.1 1) 0 + σ.2.2 1 (τ.1 1) 1 + σ.2.2 1 (τ.1 1) 2 + σ.2.2 1 (τ.1 1) 3 + σ.2.2 1 (τ.1 1) 4 = τ.2.2 1 (τ.1 1) 0 + τ.2.2 1 (τ.1 1) 1 + τ.2.2 1 (τ.1 1) 2 + τ.2.2 1 (τ.1 1) 3 + τ.2.2 1 (τ.1 1) 4 + 1 ∧ Ov σ)) := by
  have hI := hJ.iv
  refine ⟨_, _, Cl_buy τ a b c, ?_⟩
  by_cases h : τ.1 0 = 2 ∧ τ.1 6 < 15 ∧ hasG (τ.2.2 0) (τ.1 1) 11100 = true
  · have e : xBuy τ = (0, ordF (τ.1 6), winS (gvS (mvA τ (τ.1 1) 3 11100) (τ.1 1))) := by
      unfold xBuy
      rw [if_neg (fun z => z h)]
    rw [e]
    have ho := ordF_r (τ.1 6)
    have hg : (gvS (mvA τ (τ.1 1) 3 11100) (τ.1 1)).2.2 1 = pup2 (τ.2.2 1) (τ.1 1) (ordF (τ.1 6)) (τ.2.2 1 (τ.1 1) (ordF (τ.1 6)) + 1) := rfl
    refine .inr ⟨?_, h.2.2, ?_, ?_, ?_⟩
    · rw [told_ok (by omega)]
      exact ho
    · show (winS _).2.2 0 = _
      rw [winS_2]
      exact mvA_h τ (τ.1 1) 3 11100
    · show (winS _).2.2 1 (τ.1 1) 0 + (winS _).2.2 1 (τ.1 1) 1 + (winS _).2.2 1 (τ.1 1) 2 + (winS _).2.2 1 (τ.1 1) 3 + (winS _).2.2 1 (τ.1 1) 4 = _
      rw [winS_2, hg]
      rcases (show ordF (τ.1 6) = 0 ∨ ordF (τ.1 6) = 1 ∨ ordF (τ.1 6) = 2 ∨ ordF (τ.1 6) = 3 ∨ ordF (τ.1 6) = 4 from by omega) with o | o | o | o | o <;> rw [o] <;> simp [pup2, pup] <;> omega
    · exact Ov.win (by show τ.1 0 ≠ 5; omega)
  · have e : xBuy τ = (1, 0, τ) := by
      unfold xBuy
      rw [if_pos h]
    rw [e]
    exact .inl ⟨told_S (by decide) rfl, rfl⟩
theorem s_road {τ : St} (hJ : Jx τ) {e : Int} (he : 0 ≤ e ∧ e < 30) (b c : Int) : ∃ (v : Int) (σ : St), Cl τ 6 e b c v σ ∧ ((v = -1123 ∧ σ = τ) ∨ (hasG (τ.2.2 0) (τ.1 1) 11 = true ∧ σ.2.2 0 = mvF (τ.2.2 0) (τ.1 1) 3 (dgs 11) ∧ τ.2.1 3 e = -1 ∧ σ.2.1 3 e = τ.1 1 ∧ v = trT σ (τ.1 1) ∧ trT τ (τ.1 1) ≤ v ∧ v ≤ trT τ (τ.1 1) * 2 + 1 ∧ Ov σ)) := by
  have hI := hJ.iv
  have ht := hI.htu
  obtain ⟨κ, hκ⟩ := hJ
  have hI2 := (J_road hκ e).1
  refine ⟨_, _, Cl_road τ e b c (by omega), ?_⟩
  by_cases h : τ.1 0 = 2 ∧ canR τ e = true ∧ hasG (τ.2.2 0) (τ.1 1) 11 = true
  · have ex : xRoad τ e = (0, trT (rdS τ e) (τ.1 1), winS (lkS (rdS τ e))) := by
      unfold xRoad
      rw [if_neg (fun z => z he), if_neg (fun z => z h)]
    rw [ex] at hI2 ⊢
    have hw : (winS (lkS (rdS τ e))).2 = (rdS τ e).2 := winS_2 _
    have htr : trT (winS (lkS (rdS τ e))) = trT (rdS τ e) := by
      unfold trT
      rw [hw]
    have hr2 : (rdS τ e).2.1 2 = τ.2.1 2 := by
      show (mvA τ (τ.1 1) 3 11).2.1 2 = _
      rw [mvA_2]
    have hr3 : (rdS τ e).2.1 3 = pup (τ.2.1 3) e (τ.1 1) := by
      show pup ((mvA τ (τ.1 1) 3 11).2.1 3) e (τ.1 1) = _
      rw [mvA_2]
    have hc := h.2.1
    simp only [canR, roadC, Bool.and_eq_true, decide_eq_true_eq] at hc
    have o1 := hI.lh.ow ht
    have o2 := hI2.lh.ow ht
    have o3 : (owL (pup (τ.2.1 3) e (τ.1 1)) (τ.1 1) 30).length ≤ 8 := by
      rw [← hr3, ← hw]
      exact o2
    have r2 := trT_r hI2.lh (τ.1 1) ht
    have htr2 : trT (winS (lkS (rdS τ e))) (τ.1 1) = trT (rdS τ e) (τ.1 1) := by rw [htr]
    have hv : told eIS (0, trT (rdS τ e) (τ.1 1), winS (lkS (rdS τ e))) = trT (rdS τ e) (τ.1 1) := told_ok (by
      rw [← htr2]
      have r3 : 0 ≤ trT (winS (lkS (rdS τ e))) (τ.1 1) ∧ trT (winS (lkS (rdS τ e))) (τ.1 1) ≤ 8 := r2
      omega)
    rw [hv]
    have hT : trT (rdS τ e) (τ.1 1) = trF (τ.2.1 2) (pup (τ.2.1 3) e (τ.1 1)) (τ.1 1) := by
      unfold trT
      rw [hr2, hr3]
    refine .inr ⟨h.2.2, ?_, hc.2.1, ?_, ?_, ?_, ?_, Ov.win ?_⟩
    · show (winS _).2.2 0 = _
      rw [winS_2]
      exact mvA_h τ (τ.1 1) 3 11
    · show (winS _).2.1 3 e = _
      rw [winS_2]
      show (rdS τ e).2.1 3 e = _
      rw [hr3]
      simp [pup]
    · exact htr2.symm
    · rw [hT]
      refine tr_mono o1 o3 (fun n _ hp => ?_)
      unfold pup
      split
      · rfl
      · exact hp
    · rw [hT]
      have := tr_one (b := τ.2.1 2) (r := τ.2.1 3) (p := τ.1 1) (e0 := e.toNat) o1 (by rw [i_cl he.1]; exact o3)
      rw [i_cl he.1] at this
      show _ ≤ trF (τ.2.1 2) (τ.2.1 3) (τ.1 1) * 2 + 1
      omega
    · show (mvA τ (τ.1 1) 3 11).1 0 ≠ 5
      rw [mvA_s]
      omega
  · have ex : xRoad τ e = (2, 0, τ) := by
      unfold xRoad
      rw [if_neg (fun z => z he), if_pos h]
    rw [ex]
    exact .inl ⟨told_S (by decide) rfl, rfl⟩
theorem free_1 {b : Int → Int} {c : Int} (h : freeC b c = true) : b c = -1 := by
  simp only [freeC, Bool.and_eq_true, decide_eq_true_eq] at h
  exact h.1
theorem s_house {τ : St} (hJ : Jx τ) {e : Int} (he : 0 ≤ e ∧ e < 24) (b c : Int) : ∃ (v : Int) (σ : St), Cl τ 7 e b c v σ ∧ ((v = -1123 ∧ σ = τ) ∨ (hasG (τ.2.2 0) (τ.1 1) 1111 = true ∧ σ.2.2 0 = mvF (τ.2.2 0) (τ.1 1) 3 (dgs 1111) ∧ τ.2.1 2 e = -1 ∧ σ.2.1 2 e = τ.1 1 ∧ v = ptsF σ (τ.1 1) ∧ Ov σ)) := by
  obtain ⟨κ, hκ⟩ := hJ
  have hI2 := (J_house hκ e).1
  refine ⟨_, _, Cl_house τ e b c (by omega), ?_⟩
  by_cases h : τ.1 0 = 2 ∧ cntN (τ.2.1 2) (τ.1 1) 24 < 4 ∧ freeC (τ.2.1 2) e = true ∧ roadAtC (τ.2.1 3) (τ.1 1) e = true ∧ hasG (τ.2.2 0) (τ.1 1) 1111 = true
  · have ex : xHouse τ e = (0, ptsF (winS (lkS (hsS τ e))) (τ.1 1), winS (lkS (hsS τ e))) := by
      unfold xHouse
      rw [if_neg (fun z => z he), if_neg (fun z => z h)]
    rw [ex] at hI2 ⊢
    have hp := ptsF_r (τ := winS (lkS (hsS τ e))) (τ.1 1) (hI2.hcd (τ.1 1) 4)
    have hv : told eIS (0, ptsF (winS (lkS (hsS τ e))) (τ.1 1), winS (lkS (hsS τ e))) = ptsF (winS (lkS (hsS τ e))) (τ.1 1) := told_ok (by omega)
    rw [hv]
    refine .inr ⟨h.2.2.2.2, ?_, free_1 h.2.2.1, ?_, rfl, Ov.win ?_⟩
    · show (winS _).2.2 0 = _
      rw [winS_2]
      exact mvA_h τ (τ.1 1) 3 1111
    · show (winS _).2.1 2 e = _
      rw [winS_2]
      show pup ((mvA τ (τ.1 1) 3 1111).2.1 2) e (τ.1 1) e = _
      simp [pup]
    · show (mvA τ (τ.1 1) 3 1111).1 0 ≠ 5
      rw [mvA_s]
      omega
  · have ex : xHouse τ e = (2, 0, τ) := by
      unfold xHouse
      rw [if_neg (fun z => z he), if_pos h]
    rw [ex]
    exact .inl ⟨told_S (by decide) rfl, rfl⟩
theorem s_city {τ : St} (hJ : Jx τ) {e : Int} (he : 0 ≤ e ∧ e < 24) (b c : Int) : ∃ (v : Int) (σ : St), Cl τ 8 e b c v σ ∧ ((v = -1123 ∧ σ = τ) ∨ (hasG (τ.2.2 0) (τ.1 1) 32000 = true ∧ σ.2.2 0 = mvF (τ.2.2 0) (τ.1 1) 3 (dgs 32000) ∧ τ.2.1 2 e = τ.1 1 ∧ σ.2.1 2 e = τ.1 1 + 3 ∧ v = ptsF σ (τ.1 1) ∧ Ov σ)) := by
  obtain ⟨κ, hκ⟩ := hJ
  have hI2 := (J_city hκ e).1
  refine ⟨_, _, Cl_city τ e b c (by omega), ?_⟩
  by_cases h : τ.1 0 = 2 ∧ cntN (τ.2.1 2) (3 + τ.1 1) 24 < 3 ∧ τ.2.1 2 e = τ.1 1 ∧ hasG (τ.2.2 0) (τ.1 1) 32000 = true
  · have ex : xCity τ e = (0, ptsF (winS (lkS (ctS τ e))) (τ.1 1), winS (lkS (ctS τ e))) := by
      unfold xCity
      rw [if_neg (fun z => z he), if_neg (fun z => z h)]
    rw [ex] at hI2 ⊢
    have hp := ptsF_r (τ := winS (lkS (ctS τ e))) (τ.1 1) (hI2.hcd (τ.1 1) 4)
    have hv : told eIS (0, ptsF (winS (lkS (ctS τ e))) (τ.1 1), winS (lkS (ctS τ e))) = ptsF (winS (lkS (ctS τ e))) (τ.1 1) := told_ok (by omega)
    rw [hv]
    refine .inr ⟨h.2.2.2, ?_, h.2.2.1, ?_, rfl, Ov.win ?_⟩
    · show (winS _).2.2 0 = _
      rw [winS_2]
      exact mvA_h τ (τ.1 1) 3 32000
    · show (winS _).2.1 2 e = _
      rw [winS_2]
      show pup ((mvA τ (τ.1 1) 3 32000).2.1 2) e (3 + τ.1 1) e = _
      simp [pup]
      omega
    · show (mvA τ (τ.1 1) 3 32000).1 0 ≠ 5
      rw [mvA_s]
      omega
  · have ex : xCity τ e = (2, 0, τ) := by
      unfold xCity
      rw [if_neg (fun z => z he), if_pos h]
    rw [ex]
    exact .inl ⟨told_S (by decide) rfl, rfl⟩
theorem s_swap {τ : St} (hJ : Jx τ) (h2 : τ.1 0 = 2) {a b : Int} (ha : 0 ≤ a ∧ a < 5) (hb : 0 ≤ b ∧ b < 5) (hab : a ≠ b) (c : Int) : ∃ (v : Int) (σ : St), Cl τ 14 a b c v σ ∧ ((v = -1123 ∧ σ = τ ∧ ¬ (rtN (τ.2.1 2) (τ.1 1) a 24 ≤ τ.2.2 0 (τ.1 1) a ∧ 1 ≤ τ.2.2 0 3 b)) ∨ (v = τ.2.2 0 (τ.1 1) b + 1 ∧ σ.2.2 0 (τ.1 1) a = τ.2.2 0 (τ.1 1) a - rtN (τ.2.1 2) (τ.1 1) a 24 ∧ σ.2.2 0 3 a = τ.2.2 0 3 a + rtN (τ.2.1 2) (τ.1 1) a 24 ∧ σ.2.2 0 3 b = τ.2.2 0 3 b - 1 ∧ σ.1 0 = 2)) := by
  have hI := hJ.iv
  have ht := hI.htu
  refine ⟨_, _, Cl_swap τ a b c (by omega) (by omega), ?_⟩
  by_cases h : rtN (τ.2.1 2) (τ.1 1) a 24 ≤ τ.2.2 0 (τ.1 1) a ∧ 1 ≤ τ.2.2 0 3 b
  · have e : xSwap τ a b = (0, (mvS (mvS τ (τ.1 1) 3 a (rtN (τ.2.1 2) (τ.1 1) a 24)) 3 (τ.1 1) b 1).2.2 0 (τ.1 1) b, mvS (mvS τ (τ.1 1) 3 a (rtN (τ.2.1 2) (τ.1 1) a 24)) 3 (τ.1 1) b 1) := by
      unfold xSwap
      rw [if_neg (fun z => z ⟨ha, hb, hab⟩), if_neg (fun z => z ⟨h2, h⟩)]
    rw [e]
    have hh : (mvS (mvS τ (τ.1 1) 3 a (rtN (τ.2.1 2) (τ.1 1) a 24)) 3 (τ.1 1) b 1).2.2 0 = mvF (mvF (τ.2.2 0) (τ.1 1) 3 (one1 a (rtN (τ.2.1 2) (τ.1 1) a 24))) 3 (τ.1 1) (one1 b 1) := by
      rw [mvS_eq, sH_at, mvS_eq, sH_at]
    have hq := hI.hh (τ.1 1) b
    have h3 : ¬ τ.1 1 = 3 := by omega
    have h3' : ¬ (3 : Int) = τ.1 1 := by omega
    have hba : ¬ b = a := fun z => hab z.symm
    have hv : (mvS (mvS τ (τ.1 1) 3 a (rtN (τ.2.1 2) (τ.1 1) a 24)) 3 (τ.1 1) b 1).2.2 0 (τ.1 1) b = τ.2.2 0 (τ.1 1) b + 1 := by
      rw [hh]
      simp [mvF, one1, h3, hba]
    rw [hv, told_ok (by omega)]
    refine .inr ⟨rfl, ?_, ?_, ?_, h2⟩
    · show (mvS (mvS τ (τ.1 1) 3 a (rtN (τ.2.1 2) (τ.1 1) a 24)) 3 (τ.1 1) b 1).2.2 0 (τ.1 1) a = _
      rw [hh]
      simp [mvF, one1, h3, hab]
      omega
    · show (mvS (mvS τ (τ.1 1) 3 a (rtN (τ.2.1 2) (τ.1 1) a 24)) 3 (τ.1 1) b 1).2.2 0 3 a = _
      rw [hh]
      simp [mvF, one1, h3', hab]
    · show (mvS (mvS τ (τ.1 1) 3 a (rtN (τ.2.1 2) (τ.1 1) a 24)) 3 (τ.1 1) b 1).2.2 0 3 b = _
      rw [hh]
      simp [mvF, one1, h3', hba]
      omega
  · have e : xSwap τ a b = (2, 0, τ) := by
      unfold xSwap
      rw [if_neg (fun z => z ⟨ha, hb, hab⟩), if_pos (fun z => h z.2)]
    rw [e]
    exact .inl ⟨told_S (by decide) rfl, rfl, h⟩
theorem ofS_h (τ : St) (a b : Int) : (ofS τ a b).2.2 = τ.2.2 := rfl
theorem ofS_9 (τ : St) (a b : Int) : (ofS τ a b).1 9 = a := rfl
theorem ofS_10 (τ : St) (a b : Int) : (ofS τ a b).1 10 = b := rfl
theorem ofS_0 (τ : St) (a b : Int) : (ofS τ a b).1 0 = τ.1 0 := rfl
theorem ofS_1 (τ : St) (a b : Int) : (ofS τ a b).1 1 = τ.1 1 := rfl
theorem ofS_7 (τ : St) (a b : Int) {p : Int} (hp : 0 ≤ p ∧ p < 3) : (ofS τ a b).2.1 7 p = 0 := by
  rcases (show p = 0 ∨ p = 1 ∨ p = 2 from by omega) with rfl | rfl | rfl <;> simp [ofS, sAt, sA, sS, sup, pup]
theorem s_offer {τ : St} (h2 : τ.1 0 = 2) {a b : Int} (ha : 1 ≤ a ∧ a ≤ 99999) (hb : 1 ≤ b ∧ b ≤ 99999) (c : Int) : ∃ (v : Int) (σ : St), Cl τ 15 a b c v σ ∧ ((v = -1123 ∧ σ = τ) ∨ (v = 0 ∧ σ = ofS τ a b ∧ hasG (τ.2.2 0) (τ.1 1) a = true)) := by
  refine ⟨_, _, Cl_offer τ a b c (by omega) (by omega), ?_⟩
  by_cases h : hasG (τ.2.2 0) (τ.1 1) a = true
  · have e : xOffer τ a b = (0, 0, ofS τ a b) := by
      unfold xOffer
      rw [if_neg (fun z => z ⟨ha, hb⟩), if_neg (fun z => z ⟨h2, h⟩)]
    rw [e]
    exact .inr ⟨told_ok (by omega), rfl, h⟩
  · have e : xOffer τ a b = (2, 0, τ) := by
      unfold xOffer
      rw [if_neg (fun z => z ⟨ha, hb⟩), if_pos (fun z => h z.2)]
    rw [e]
    exact .inl ⟨told_S (by decide) rfl, rfl⟩
theorem s_counter {τ : St} {p a b : Int} (hp : 0 ≤ p ∧ p < 3) (ha : 1 ≤ a ∧ a ≤ 99999) (hb : 1 ≤ b ∧ b ≤ 99999) : ∃ (v : Int) (σ : St), Cl τ 16 p a b v σ ∧ ((v = -1123 ∧ σ = τ) ∨ (v = 0 ∧ σ = sAt (sAt τ 7 p a) 8 p b ∧ hasG (τ.2.2 0) p a = true)) := by
  refine ⟨_, _, Cl_counter τ p a b (by omega) (by omega) (by omega), ?_⟩
  by_cases h : τ.1 0 = 2 ∧ p ≠ τ.1 1 ∧ τ.1 9 ≠ 0 ∧ hasG (τ.2.2 0) p a = true
  · have e : xCounter τ p a b = (0, 0, sAt (sAt τ 7 p a) 8 p b) := by
      unfold xCounter
      rw [if_neg (fun z => z hp), if_neg (fun z => z ⟨ha, hb⟩), if_neg (fun z => z h)]
    rw [e]
    exact .inr ⟨told_ok (by omega), rfl, h.2.2.2⟩
  · have e : xCounter τ p a b = (3, 0, τ) := by
      unfold xCounter
      rw [if_neg (fun z => z hp), if_neg (fun z => z ⟨ha, hb⟩), if_pos h]
    rw [e]
    exact .inl ⟨told_S (by decide) rfl, rfl⟩
/-- hands behind an exchange: p gives g, the other one gives w -/
def exF (h : Int → Int → Int) (p t g w : Int) : Int → Int → Int := mvF (mvF h p t (dgs g)) t p (dgs w)
theorem excS_h (τ : St) (p g w : Int) : (excS τ p g w).2.2 0 = exF (τ.2.2 0) p (τ.1 1) g w := by
  show (mvA (mvA τ p (τ.1 1) g) (τ.1 1) p w).2.2 0 = _
  rw [mvA_h, mvA_h]
  rfl
theorem excS_0 (τ : St) (p g w : Int) : (excS τ p g w).1 0 = τ.1 0 := by
  show (mvA (mvA τ p (τ.1 1) g) (τ.1 1) p w).1 0 = _
  rw [mvA_s, mvA_s]
theorem s_accept {τ : St} (hJ : Jx τ) {p : Int} (hp : 0 ≤ p ∧ p < 3) (b c : Int) : ∃ (v : Int) (σ : St), Cl τ 17 p b c v σ ∧ ((v = -1123 ∧ σ = τ) ∨ (v = tot (σ.2.2 0) p ∧ p ≠ τ.1 1 ∧ σ.2.2 0 = exF (τ.2.2 0) p (τ.1 1) (τ.1 10) (τ.1 9) ∧ σ.1 9 = 0 ∧ σ.2.1 7 p = 0 ∧ σ.1 0 = τ.1 0)) := by
  obtain ⟨κ, hκ⟩ := hJ
  have hI2 := (J_accept hκ p).1
  refine ⟨_, _, Cl_accept τ p b c (by omega), ?_⟩
  by_cases h : τ.1 0 = 2 ∧ p ≠ τ.1 1 ∧ τ.1 9 ≠ 0 ∧ hasG (τ.2.2 0) p (τ.1 10) = true ∧ hasG (τ.2.2 0) (τ.1 1) (τ.1 9) = true
  · have e : xAccept τ p = (0, tot ((excS τ p (τ.1 10) (τ.1 9)).2.2 0) p, excS τ p (τ.1 10) (τ.1 9)) := by
      unfold xAccept
      rw [if_neg (fun z => z hp), if_neg (fun z => z h)]
    rw [e] at hI2 ⊢
    have hh := tot_r (h := (excS τ p (τ.1 10) (τ.1 9)).2.2 0) hI2.hh p
    exact .inr ⟨told_ok (by omega), h.2.1, excS_h _ _ _ _, rfl, ofS_7 _ 0 0 hp, excS_0 _ _ _ _⟩
  · have e : xAccept τ p = (2, 0, τ) := by
      unfold xAccept
      rw [if_neg (fun z => z hp), if_pos h]
    rw [e]
    exact .inl ⟨told_S (by decide) rfl, rfl⟩
theorem acc_no {τ : St} {p : Int} (hp : 0 ≤ p ∧ p < 3) (h9 : τ.1 9 = 0) (b c : Int) : Cl τ 17 p b c (-1123) τ := by
  have h := Cl_accept τ p b c (by omega)
  have e : xAccept τ p = (2, 0, τ) := by
    unfold xAccept
    rw [if_neg (fun z => z hp), if_pos (fun z => z.2.2.1 h9)]
  rw [e, told_S (by decide) rfl] at h
  exact h
theorem agr_no {τ : St} {p : Int} (hp : 0 ≤ p ∧ p < 3) (h7 : τ.2.1 7 p = 0) (b c : Int) : Cl τ 18 p b c (-1123) τ := by
  have h := Cl_agree τ p b c (by omega)
  have e : xAgree τ p = (2, 0, τ) := by
    unfold xAgree
    rw [if_neg (fun z => z hp), if_pos (fun z => z.2.1 h7)]
  rw [e, told_S (by decide) rfl] at h
  exact h
/-- an offer, a counter-offer behind it, and the turn's player agrees -/
theorem s_agree {τ : St} {p a b : Int} (hJ : Jx (sAt (sAt τ 7 p a) 8 p b)) (h2 : τ.1 0 = 2) (hp : 0 ≤ p ∧ p < 3) (ha : 1 ≤ a) (h3 : hasG (τ.2.2 0) p a = true) (h4 : hasG (τ.2.2 0) (τ.1 1) b = true) (x y : Int) : ∃ (v : Int) (σ : St), Cl (sAt (sAt τ 7 p a) 8 p b) 18 p x y v σ ∧ v = tot (σ.2.2 0) (τ.1 1) ∧ σ.2.2 0 = exF (τ.2.2 0) p (τ.1 1) a b ∧ σ.1 9 = 0 ∧ σ.1 0 = 2 := by
  obtain ⟨κ, hκ⟩ := hJ
  have hI2 := (J_agree hκ p).1
  refine ⟨_, _, Cl_agree _ p x y (by omega), ?_⟩
  have e7 : (sAt (sAt τ 7 p a) 8 p b).2.1 7 p = a := by simp [sAt, sA, sup, pup]
  have e8 : (sAt (sAt τ 7 p a) 8 p b).2.1 8 p = b := by simp [sAt, sA, sup, pup]
  have e : xAgree (sAt (sAt τ 7 p a) 8 p b) p = (0, tot ((excS (sAt (sAt τ 7 p a) 8 p b) p a b).2.2 0) (τ.1 1), excS (sAt (sAt τ 7 p a) 8 p b) p a b) := by
    unfold xAgree
    rw [e7, e8, if_neg (fun z => z hp), if_neg (fun z => z ⟨h2, by omega, h3, h4⟩)]
    rfl
  rw [e] at hI2 ⊢
  have hh := tot_r (h := (excS (sAt (sAt τ 7 p a) 8 p b) p a b).2.2 0) hI2.hh (τ.1 1)
  exact ⟨told_ok (by omega), excS_h _ _ _ _, rfl, (excS_0 _ _ _ _).trans h2⟩
theorem s_end {τ : St} (h2 : τ.1 0 = 2) (hI : Iv τ) (a b c : Int) : ∃ (v : Int) (σ : St), Cl τ 19 a b c v σ ∧ v = nxtT (τ.1 1) ∧ σ.1 1 = v ∧ (σ.1 0 = 1 ∨ σ.1 0 = 5) ∧ σ.2.2 0 = τ.2.2 0 ∧ Ov σ := by
  refine ⟨_, _, Cl_endTurn τ a b c, ?_⟩
  have e : xEnd τ = (0, (winS (sS (sS (strt (ofS τ 0 0)) 1 (nxtT (τ.1 1))) 0 1)).1 1, winS (sS (sS (strt (ofS τ 0 0)) 1 (nxtT (τ.1 1))) 0 1)) := by
    unfold xEnd
    rw [if_neg (fun z => z h2)]
  rw [e]
  have h1 : (winS (sS (sS (strt (ofS τ 0 0)) 1 (nxtT (τ.1 1))) 0 1)).1 1 = nxtT (τ.1 1) := by
    rw [winS_1 _ _ (by decide)]
    rfl
  have hn := nxtT_r hI.htu
  have h0 := winS_0 (sS (sS (strt (ofS τ 0 0)) 1 (nxtT (τ.1 1))) 0 1)
  have h0' : (sS (sS (strt (ofS τ 0 0)) 1 (nxtT (τ.1 1))) 0 1).1 0 = 1 := rfl
  rw [h0'] at h0
  rw [h1, told_ok (by omega)]
  refine ⟨rfl, by first | rfl | exact h1, h0.symm, ?_, Ov.win (by rw [h0']; decide)⟩
  show (winS _).2.2 0 = _
  rw [winS_2]
  rfl
theorem s_roads {τ : St} (hJ : Jx τ) {a b : Int} (ha : 0 ≤ a ∧ a < 30) (hb : b = -1 ∨ (0 ≤ b ∧ b < 30)) (c : Int) : ∃ (v : Int) (σ : St), Cl τ 11 a b c v σ ∧ ((v = -1123 ∧ σ = τ) ∨ (v = trT σ (τ.1 1) ∧ trT τ (τ.1 1) ≤ v ∧ v ≤ 8 ∧ σ.2.2 0 = τ.2.2 0 ∧ Ov σ)) := by
  have hI := hJ.iv
  have ht := hI.htu
  obtain ⟨κ, hκ⟩ := hJ
  have hI2 := (J_roads hκ a b).1
  refine ⟨_, _, Cl_roads τ a b c (by omega) (by omega), ?_⟩
  by_cases h : mayU τ 1 = true ∧ canR τ a = true ∧ (b = -1 ∨ canR (sAt τ 3 a (τ.1 1)) b = true)
  · have ex : xRoads τ a b = (0, trT (rwS τ a b) (τ.1 1), winS (lkS (usS (rwS τ a b) (τ.1 1) 1))) := by
      unfold xRoads
      rw [if_neg (fun z => z ⟨ha, hb⟩), if_neg (fun z => z h)]
    rw [ex] at hI2 ⊢
    have hw : (winS (lkS (usS (rwS τ a b) (τ.1 1) 1))).2 = (usS (rwS τ a b) (τ.1 1) 1).2 := winS_2 _
    have htr : trT (winS (lkS (usS (rwS τ a b) (τ.1 1) 1))) (τ.1 1) = trT (rwS τ a b) (τ.1 1) := by
      unfold trT
      rw [hw, usS_2 _ _ _ 2 (by decide), usS_2 _ _ _ 3 (by decide)]
    have r2 := trT_r hI2.lh (τ.1 1) ht
    have r3 : 0 ≤ trT (winS (lkS (usS (rwS τ a b) (τ.1 1) 1))) (τ.1 1) ∧ trT (winS (lkS (usS (rwS τ a b) (τ.1 1) 1))) (τ.1 1) ≤ 8 := r2
    have hv : told eIS (0, trT (rwS τ a b) (τ.1 1), winS (lkS (usS (rwS τ a b) (τ.1 1) 1))) = trT (rwS τ a b) (τ.1 1) := told_ok (by
      rw [← htr]
      omega)
    rw [hv]
    have hwh : (rwS τ a b).2.2 = τ.2.2 := by unfold rwS; split <;> rfl
    have hw0 : (rwS τ a b).1 = τ.1 := by unfold rwS; split <;> rfl
    have hw2 : (rwS τ a b).2.1 2 = τ.2.1 2 := by unfold rwS; split <;> rfl
    have hp := mayU_ph h.1
    refine .inr ⟨htr.symm, ?_, by rw [← htr]; exact r3.2, ?_, Ov.win ?_⟩
    · have o1 := hI.lh.ow ht
      have o2 := hI2.lh.ow ht
      have o3 : (owL ((rwS τ a b).2.1 3) (τ.1 1) 30).length ≤ 8 := by
        have e3 : (winS (lkS (usS (rwS τ a b) (τ.1 1) 1))).2.1 3 = (rwS τ a b).2.1 3 := by rw [hw, usS_2 _ _ _ 3 (by decide)]
        rw [← e3]
        exact o2
      unfold trT
      rw [hw2]
      refine tr_mono o1 o3 (fun n _ hq => ?_)
      unfold rwS
      split
      · show pup (τ.2.1 3) a (τ.1 1) (n : Int) = _
        unfold pup
        split
        · rfl
        · exact hq
      · show pup (pup (τ.2.1 3) a (τ.1 1)) b (τ.1 1) (n : Int) = _
        unfold pup
        split
        · rfl
        · split
          · rfl
          · exact hq
    · show (winS _).2.2 0 = _
      rw [winS_2]
      show (usS (rwS τ a b) (τ.1 1) 1).2.2 0 = _
      rw [usS_3, hwh]
    · show (usS (rwS τ a b) (τ.1 1) 1).1 0 ≠ 5
      rw [usS_1 _ _ _ 0 (by decide) (by decide), hw0]
      omega
  · have ex : xRoads τ a b = (2, 0, τ) := by
      unfold xRoads
      rw [if_neg (fun z => z ⟨ha, hb⟩), if_pos h]
    rw [ex]
    exact .inl ⟨told_S (by decide) rfl, rfl⟩
theorem two_dg {a b k : Int} (ha : 0 ≤ a ∧ a < 5) (hb : 0 ≤ b ∧ b < 5) (hab : a ≠ b) (hk : 0 ≤ k ∧ k < 5) : dgs (sgl a + sgl b) k = (if k = a then 1 else 0) + (if k = b then 1 else 0) := by
  rw [dgs_at _ hk]
  rcases (show a = 0 ∨ a = 1 ∨ a = 2 ∨ a = 3 ∨ a = 4 from by omega) with rfl | rfl | rfl | rfl | rfl <;> rcases (show b = 0 ∨ b = 1 ∨ b = 2 ∨ b = 3 ∨ b = 4 from by omega) with rfl | rfl | rfl | rfl | rfl <;> rcases (show k = 0 ∨ k = 1 ∨ k = 2 ∨ k = 3 ∨ k = 4 from by omega) with rfl | rfl | rfl | rfl | rfl <;> first | decide | (exact absurd rfl hab)
theorem s_plenty {τ : St} (hJ : Jx τ) {a b : Int} (ha : 0 ≤ a ∧ a < 5) (hb : 0 ≤ b ∧ b < 5) (hab : a ≠ b) (c : Int) : ∃ (v : Int) (σ : St), Cl τ 12 a b c v σ ∧ ((v = -1123 ∧ σ = τ) ∨ (v = tot (σ.2.2 0) (τ.1 1) ∧ σ.2.2 0 (τ.1 1) a = τ.2.2 0 (τ.1 1) a + 1 ∧ σ.2.2 0 (τ.1 1) b = τ.2.2 0 (τ.1 1) b + 1 ∧ σ.2.2 0 3 a = τ.2.2 0 3 a - 1 ∧ σ.1 0 ≠ 5)) := by
  have hI := hJ.iv
  have ht := hI.htu
  obtain ⟨κ, hκ⟩ := hJ
  have hI2 := (J_plenty hκ a b).1
  refine ⟨_, _, Cl_plenty τ a b c (by omega) (by omega), ?_⟩
  by_cases h : mayU τ 2 = true ∧ hasG (τ.2.2 0) 3 (sgl a + sgl b) = true
  · have e : xPlenty τ a b = (0, tot ((mvA (usS τ (τ.1 1) 2) 3 (τ.1 1) (sgl a + sgl b)).2.2 0) (τ.1 1), mvA (usS τ (τ.1 1) 2) 3 (τ.1 1) (sgl a + sgl b)) := by
      unfold xPlenty
      rw [if_neg (fun z => z ⟨ha, hb⟩), if_neg (fun z => z h)]
    rw [e] at hI2 ⊢
    have hh := tot_r (h := (mvA (usS τ (τ.1 1) 2) 3 (τ.1 1) (sgl a + sgl b)).2.2 0) hI2.hh (τ.1 1)
    have hm : (mvA (usS τ (τ.1 1) 2) 3 (τ.1 1) (sgl a + sgl b)).2.2 0 = mvF (τ.2.2 0) 3 (τ.1 1) (dgs (sgl a + sgl b)) := by rw [mvA_h, usS_3]
    have h3 : ¬ τ.1 1 = 3 := by omega
    have h3' : ¬ (3 : Int) = τ.1 1 := by omega
    have hba : ¬ b = a := fun z => hab z.symm
    have d1 := two_dg ha hb hab ha
    rw [if_pos rfl, if_neg hab] at d1
    have d2 := two_dg ha hb hab hb
    rw [if_pos rfl, if_neg hba] at d2
    have hp := mayU_ph h.1
    refine .inr ⟨told_ok (by omega), ?_, ?_, ?_, ?_⟩
    · show (mvA (usS τ (τ.1 1) 2) 3 (τ.1 1) (sgl a + sgl b)).2.2 0 (τ.1 1) a = _
      rw [hm]
      simp [mvF, h3, d1]
    · show (mvA (usS τ (τ.1 1) 2) 3 (τ.1 1) (sgl a + sgl b)).2.2 0 (τ.1 1) b = _
      rw [hm]
      simp [mvF, h3, d2]
    · show (mvA (usS τ (τ.1 1) 2) 3 (τ.1 1) (sgl a + sgl b)).2.2 0 3 a = _
      rw [hm]
      simp [mvF, h3', d1]
      omega
    · show (mvA (usS τ (τ.1 1) 2) 3 (τ.1 1) (sgl a + sgl b)).1 0 ≠ 5
      rw [mvA_s, usS_1 _ _ _ 0 (by decide) (by decide)]
      omega
  · have e : xPlenty τ a b = (2, 0, τ) := by
      unfold xPlenty
      rw [if_neg (fun z => z ⟨ha, hb⟩), if_pos h]
    rw [e]
    exact .inl ⟨told_S (by decide) rfl, rfl⟩
theorem s_mono {τ : St} (hJ : Jx τ) {a : Int} (ha : 0 ≤ a ∧ a < 5) (b c : Int) : ∃ (v : Int) (σ : St), Cl τ 13 a b c v σ ∧ ((v = -1123 ∧ σ = τ) ∨ ((0 ≤ v ∧ v ≤ 24) ∧ σ.2.2 0 ((τ.1 1 + 1) % 3) a = 0 ∧ σ.2.2 0 ((τ.1 1 + 2) % 3) a = 0 ∧ σ.2.2 0 (τ.1 1) a = τ.2.2 0 (τ.1 1) a + v ∧ σ.2.2 0 3 a = τ.2.2 0 3 a ∧ σ.1 0 ≠ 5)) := by
  have hI := hJ.iv
  have ht := hI.htu
  refine ⟨_, _, Cl_monopoly τ a b c (by omega), ?_⟩
  by_cases h : mayU τ 3 = true
  · have e : xMono τ a = (0, monV (usS τ (τ.1 1) 3) (τ.1 1) a, monS (usS τ (τ.1 1) 3) (τ.1 1) a) := by
      unfold xMono
      rw [if_neg (fun z => z ha), if_neg (fun z => z h)]
    rw [e]
    have hp := mayU_ph h
    have u3 := usS_3 τ (τ.1 1) 3
    have u0 := usS_1 τ (τ.1 1) 3 0 (by decide) (by decide)
    have g0 := hI.hh 0 a
    have g1 := hI.hh 1 a
    have g2 := hI.hh 2 a
    generalize usS τ (τ.1 1) 3 = ω at u3 u0 ⊢
    rw [← u3] at g0 g1 g2 ⊢
    have m1 : ∀ (X : St) (f t m p : Int), (mvS X f t a m).2.2 0 p a = X.2.2 0 p a + ((if p = t then m else 0) - (if p = f then m else 0)) := by
      intro X f t m p
      rw [mvS_eq, sH_at]
      simp [mvF, one1]
    have m0 : ∀ (X : St) (f t m : Int), (mvS X f t a m).1 0 = X.1 0 := by
      intro X f t m
      rw [mvS_eq]
      rfl
    have key : ∀ t : Int, (t = 0 ∨ t = 1 ∨ t = 2) → (0 ≤ monV ω t a ∧ monV ω t a ≤ 24) ∧ (monS ω t a).2.2 0 ((t + 1) % 3) a = 0 ∧ (monS ω t a).2.2 0 ((t + 2) % 3) a = 0 ∧ (monS ω t a).2.2 0 t a = ω.2.2 0 t a + monV ω t a ∧ (monS ω t a).2.2 0 3 a = ω.2.2 0 3 a ∧ (monS ω t a).1 0 = ω.1 0 := by
      intro t ht
      rcases ht with rfl | rfl | rfl <;> refine ⟨?_, ?_, ?_, ?_, ?_, ?_⟩ <;> simp [monV, monS, m1, m0] <;> omega
    obtain ⟨k1, k2, k3, k4, k5, k6⟩ := key (τ.1 1) (by omega)
    rw [told_ok (by omega)]
    exact .inr ⟨k1, k2, k3, k4, k5, by show (monS ω (τ.1 1) a).1 0 ≠ 5; rw [k6, u0]; omega⟩
  · have e : xMono τ a = (2, 0, τ) := by
      unfold xMono
      rw [if_neg (fun z => z ha), if_pos h]
    rw [e]
    exact .inl ⟨told_S (by decide) rfl, rfl⟩
theorem over_no {τ : St} (h5 : τ.1 0 = 5) : Cl τ 19 0 0 0 (-1123) τ ∧ Cl τ 3 1 1 0 (-1123) τ ∧ Cl τ 9 0 0 0 (-1123) τ := by
  refine ⟨?_, ?_, ?_⟩
  · have h := Cl_endTurn τ 0 0 0
    have e : xEnd τ = (1, 0, τ) := by
      unfold xEnd
      rw [if_pos (by omega)]
    rw [e, told_S (by decide) rfl] at h
    exact h
  · have h := Cl_roll τ 1 1 0 (by omega) (by omega)
    have e : xRoll τ 1 1 = (2, 0, τ) := by
      unfold xRoll
      rw [if_neg (fun z => z (by omega)), if_pos (by omega)]
    rw [e, told_S (by decide) rfl] at h
    exact h
  · have h := Cl_buy τ 0 0 0
    have e : xBuy τ = (1, 0, τ) := by
      unfold xBuy
      rw [if_pos (fun z => by omega)]
    rw [e, told_S (by decide) rfl] at h
    exact h
