/-! ===== each call of the law's: what it tells and what it leaves, in the law's own words ===== -/
theorem nmI_id {v : Int} (h : -2147483648 ≤ v ∧ v ≤ 2147483647) : nmI v = v := i_of h
theorem told_ok {E : Int → String} {v : Int} {σ : St} (h : -2147483648 ≤ v ∧ v ≤ 2147483647) : told E (0, v, σ) = v := by
  unfold told
  rw [if_pos rfl]
  exact nmI_id h
theorem told_S {E : Int → String} {k v : Int} {σ : St} (hk : k ≠ 0) (hE : E k = xS) : told E (k, v, σ) = -1123 := by
  unfold told
  rw [if_neg hk]
  show cdE (E k) = -1123
  rw [hE]
  decide
def Ov (τ : St) : Prop := τ.1 0 = 5 → 8 ≤ ptsF τ (τ.1 1)
theorem Ov.of {τ : St} (h : τ.1 0 ≠ 5) : Ov τ := fun e => absurd e h
theorem pts_0 (τ : St) (v p : Int) : ptsF (sS τ 0 v) p = ptsF τ p := by simp [ptsF, sS, sup]
theorem Ov.win {τ : St} (h : τ.1 0 ≠ 5) : Ov (winS τ) := by
  unfold winS
  split
  · next h1 =>
    intro _
    rw [pts_0]
    exact h1.2
  · exact Ov.of h
theorem winS_0 (τ : St) : (winS τ).1 0 = 5 ∨ (winS τ).1 0 = τ.1 0 := by
  unfold winS
  split
  · exact .inl rfl
  · exact .inr rfl
theorem pts_win (τ : St) (p : Int) : ptsF (winS τ) p = ptsF τ p := by
  unfold winS
  split
  · exact pts_0 τ 5 p
  · rfl
theorem mvA_h (τ : St) (f t n : Int) : (mvA τ f t n).2.2 0 = mvF (τ.2.2 0) f t (dgs n) := by rw [mvA_eq, sH_at]
theorem mvA_s (τ : St) (f t n : Int) : (mvA τ f t n).1 = τ.1 := by rw [mvA_eq]; rfl
theorem mvA_2 (τ : St) (f t n : Int) : (mvA τ f t n).2.1 = τ.2.1 := by rw [mvA_eq]; rfl
theorem sH_3 (τ : St) (k j : Nat) (a : Int → Int → Int) (h : j ≠ k) : (sH τ k a).2.2 j = τ.2.2 j := by simp [sH, sup, h]
theorem mvA_3 (τ : St) (f t n : Int) : (mvA τ f t n).2.2 1 = τ.2.2 1 := by rw [mvA_eq]; exact sH_3 _ _ _ _ (by decide)
theorem dgs_at (n : Int) {k : Int} (hk : 0 ≤ k ∧ k < 5) : dgs n k = dgt n k := if_pos hk
theorem dgt_0 (k : Int) : dgt 0 k = 0 := by unfold dgt; (repeat' split) <;> rfl
/-- the law's row of hands, as they are -/
def isQ (h : Int → Int → Int) (q : Int → Int) : Prop := ∀ k : Int, 0 ≤ k ∧ k < 20 → q k = h (k / 5) (k % 5)
theorem isQ.r {τ : St} {q : Int → Int} (h : isQ (τ.2.2 0) q) (hI : Iv τ) : ∀ k : Int, 0 ≤ k ∧ k < 20 → 0 ≤ q k ∧ q k ≤ 12 := by
  intro k hk
  rw [h k hk]
  exact hI.hh _ _
theorem isQ.at {h : Int → Int → Int} {q : Int → Int} (hq : isQ h q) {p g : Int} (hp : 0 ≤ p ∧ p < 4) (hg : 0 ≤ g ∧ g < 5) : q (5 * p + g) = h p g := by
  rw [hq _ (by omega), show (5 * p + g) / 5 = p by omega, show (5 * p + g) % 5 = g by omega]
theorem mvd_of {h h2 : Int → Int → Int} {q : Int → Int} {f t n : Int} (hq : isQ h q) (e : h2 = mvF h f t (dgs n)) : mvd h2 q f t n := by
  intro k hk
  rw [hq k hk, e]
  simp only [mvF]
  rw [dgs_at n (k := k % 5) (by omega)]
  omega
theorem mvd_0 {h h2 : Int → Int → Int} {q : Int → Int} (hq : isQ h q) (e : h2 = h) : mvd h2 q 0 0 0 := by
  intro k hk
  rw [hq k hk, e, dgt_0]
  (repeat' split) <;> omega
theorem s_deal {τ : St} (hJ : Jx τ) {p n : Int} (hp : 0 ≤ p ∧ p < 3) (hn : 0 ≤ n ∧ n ≤ 99999) (c : Int) : ∃ (v : Int) (σ : St), Cl τ 2 p n c v σ ∧ ((v = -1123 ∧ σ = τ) ∨ (v = tot (σ.2.2 0) p ∧ σ.2.2 0 = mvF (τ.2.2 0) 3 p (dgs n) ∧ σ.1 0 = τ.1 0)) := by
  have hI := hJ.iv
  refine ⟨_, _, Cl_deal τ p n c (by omega) (by omega), ?_⟩
  by_cases h : τ.1 3 = 0 ∧ hasG (τ.2.2 0) 3 n = true
  · have e : xDeal τ p n = (0, tot ((mvA τ 3 p n).2.2 0) p, mvA τ 3 p n) := by
      unfold xDeal
      rw [if_neg (fun z => z hp), if_neg (fun z => z hn), if_neg (fun z => z h)]
    rw [e]
    have hh := tot_r (HH_mvA hI.hH (by omega) (by omega) h.2 : HH ((mvA τ 3 p n).2.2 0)).1 p
    exact .inr ⟨told_ok (by omega), mvA_h _ _ _ _, by rw [mvA_s]⟩
  · have e : xDeal τ p n = (3, 0, τ) := by
      unfold xDeal
      rw [if_neg (fun z => z hp), if_neg (fun z => z hn), if_pos h]
    rw [e]
    exact .inl ⟨told_S (by decide) rfl, rfl⟩
/-! rolling -/
theorem yld_7 {τ : St} (hI : Iv τ) {p g : Int} (hg : 0 ≤ g ∧ g < 5) : ∀ n : Nat, yldN (τ.2.1 0) (τ.2.1 1) (τ.2.1 2) (τ.1 5) p g 7 n = 0
  | 0 => rfl
  | n + 1 => by
    have ih := yld_7 hI (p := p) hg n
    have h7 := hI.h7 (n : Int)
    unfold yldN
    rw [ih, if_neg (fun z => by have := h7.mp z.1; omega)]
    rfl
theorem yTo_7 {τ : St} (hI : Iv τ) {p g : Int} (hg : 0 ≤ g ∧ g < 5) : yTo τ p g 7 = 0 := by
  have hh := hI.hh 3 g
  unfold yTo
  rw [yld_7 hI hg, yld_7 hI hg, yld_7 hI hg, yld_7 hI hg]
  (repeat' split) <;> omega
theorem any_3 (d : Int → Int) : anyDue d = true ↔ (0 < d 0 ∨ 0 < d 1 ∨ 0 < d 2) := by
  simp only [anyDue, Bool.or_eq_true, decide_eq_true_eq]
  omega
theorem s_roll {τ : St} (hJ : Jx τ) (h1 : τ.1 0 = 1) {a b : Int} (ha : 1 ≤ a ∧ a ≤ 6) (hb : 1 ≤ b ∧ b ≤ 6) (c : Int) : ∃ (v : Int) (σ : St), Cl τ 3 a b c v σ ∧ σ.1 0 = v ∧ (a + b = 7 → (v = 3 ∨ v = 4) ∧ σ.2.2 0 = τ.2.2 0 ∧ (∀ p : Int, 0 ≤ p ∧ p < 3 → σ.2.1 4 p = half (tot (τ.2.2 0) p)) ∧ (v = 3 → 0 < σ.2.1 4 0 + σ.2.1 4 1 + σ.2.1 4 2)) ∧ (a + b ≠ 7 → v = 2 ∧ (∀ p g : Int, 0 ≤ p ∧ p < 3 → 0 ≤ g ∧ g < 5 → σ.2.2 0 p g = τ.2.2 0 p g + yTo τ p g (a + b)) ∧ ∀ p : Int, σ.2.1 4 p = 0) := by
  have hI := hJ.iv
  refine ⟨_, _, Cl_roll τ a b c (by omega) (by omega), ?_⟩
  by_cases h7 : a + b = 7
  · have e : xRoll τ a b = (0, (demS (sS τ 3 1)).1 0, demS (sS τ 3 1)) := by
      unfold xRoll
      rw [if_neg (fun z => z ⟨ha, hb⟩), if_neg (fun z => z h1), if_pos h7]
    rw [e]
    have q0 := half_r (tot_r hI.hh 0)
    have q1 := half_r (tot_r hI.hh 1)
    have q2 := half_r (tot_r hI.hh 2)
    have d0 : (demS (sS τ 3 1)).2.1 4 0 = half (tot (τ.2.2 0) 0) := by simp [demS, sAt, sA, sS, sup, pup]
    have d1 : (demS (sS τ 3 1)).2.1 4 1 = half (tot (τ.2.2 0) 1) := by simp [demS, sAt, sA, sS, sup, pup]
    have d2 : (demS (sS τ 3 1)).2.1 4 2 = half (tot (τ.2.2 0) 2) := by simp [demS, sAt, sA, sS, sup, pup]
    have e2 : (demS (sS τ 3 1)).1 0 = if anyDue ((demS (sS τ 3 1)).2.1 4) = true then 3 else 4 := rfl
    have e3 := any_3 ((demS (sS τ 3 1)).2.1 4)
    rw [d0, d1, d2] at e3
    have hr : (demS (sS τ 3 1)).1 0 = 3 ∨ (demS (sS τ 3 1)).1 0 = 4 := by
      rw [e2]
      split
      · exact .inl rfl
      · exact .inr rfl
    have ht : told eAS (0, (demS (sS τ 3 1)).1 0, demS (sS τ 3 1)) = (demS (sS τ 3 1)).1 0 := told_ok (by omega)
    rw [ht]
    refine ⟨rfl, fun _ => ⟨hr, rfl, fun p hp => ?_, fun hv => ?_⟩, fun z => absurd h7 z⟩
    · rcases (show p = 0 ∨ p = 1 ∨ p = 2 from by omega) with rfl | rfl | rfl
      · exact d0
      · exact d1
      · exact d2
    · show 0 < (demS (sS τ 3 1)).2.1 4 0 + (demS (sS τ 3 1)).2.1 4 1 + (demS (sS τ 3 1)).2.1 4 2
      rw [d0, d1, d2]
      by_cases ha : anyDue ((demS (sS τ 3 1)).2.1 4) = true
      · have := e3.mp ha
        omega
      · rw [e2, if_neg ha] at hv
        omega
  · have e : xRoll τ a b = (0, 2, sS (yaS (sS τ 3 1) (a + b)) 0 2) := by
      unfold xRoll
      rw [if_neg (fun z => z ⟨ha, hb⟩), if_neg (fun z => z h1), if_neg h7]
    rw [e]
    have ht : told eAS (0, 2, sS (yaS (sS τ 3 1) (a + b)) 0 2) = 2 := told_ok (by omega)
    rw [ht]
    refine ⟨rfl, fun z => absurd z h7, fun _ => ⟨rfl, fun p g hp hg => ?_, fun p => hI.hdp (by omega) p⟩⟩
    show (yaS (sS τ 3 1) (a + b)).2.2 0 p g = _
    unfold yaS
    rw [sH_at]
    unfold yaF
    rw [if_pos hg, if_pos hp]
    have hy : yTo (sS τ 3 1) p g (a + b) = yTo τ p g (a + b) := yTo_c rfl rfl rfl
    rw [hy]
    rfl
/-! discarding -/
theorem s_disc {τ : St} (hJ : Jx τ) {p n : Int} (hp : 0 ≤ p ∧ p < 3) (hn : 0 ≤ n ∧ n ≤ 99999) (c : Int) : ∃ (v : Int) (σ : St), Cl τ 4 p n c v σ ∧ ((v = -1123 ∧ σ = τ ∧ ¬ (0 < τ.2.1 4 p ∧ szG n = τ.2.1 4 p ∧ hasG (τ.2.2 0) p n = true)) ∨ ((v = 3 ∨ v = 4) ∧ σ.2.2 0 = mvF (τ.2.2 0) p 3 (dgs n) ∧ σ.1 0 = v ∧ σ.2.1 4 p = 0 ∧ 0 < τ.2.1 4 p ∧ szG n = τ.2.1 4 p)) := by
  have hI := hJ.iv
  refine ⟨_, _, Cl_discard τ p n c (by omega) (by omega), ?_⟩
  by_cases h : 0 < τ.2.1 4 p ∧ szG n = τ.2.1 4 p ∧ hasG (τ.2.2 0) p n = true
  · have e : xDisc τ p n = (0, phD (disS τ p n), sS (disS τ p n) 0 (phD (disS τ p n))) := by
      unfold xDisc
      rw [if_neg (fun z => z hp), if_neg (fun z => z hn), if_neg (fun z => z h)]
    rw [e]
    have hr : phD (disS τ p n) = 3 ∨ phD (disS τ p n) = 4 := by
      unfold phD
      split
      · exact .inl rfl
      · exact .inr rfl
    have ht : told eIAS (0, phD (disS τ p n), sS (disS τ p n) 0 (phD (disS τ p n))) = phD (disS τ p n) := told_ok (by omega)
    rw [ht]
    refine .inr ⟨hr, mvA_h _ _ _ _, rfl, ?_, h.1, h.2.1⟩
    show (sAt (mvA τ p 3 n) 4 p 0).2.1 4 p = 0
    simp [sAt, sA, sup, pup]
  · have e : xDisc τ p n = (3, 0, τ) := by
      unfold xDisc
      rw [if_neg (fun z => z hp), if_neg (fun z => z hn), if_pos h]
    rw [e]
    exact .inl ⟨told_S (by decide) rfl, rfl, h⟩
/-! the robber -/
theorem drw_n (h : Int → Int → Int) (d : Int) : drw h (-1) d = -1 := by simp [drw]
theorem drw_v {h : Int → Int → Int} {v d : Int} (hv : v ≠ -1) (ht : 0 < tot h v) : 0 ≤ drw h v d := by
  unfold drw
  rw [if_neg (by omega)]
  (repeat' split) <;> omega
theorem one_ten {w k : Int} (hw : 0 ≤ w ∧ w < 5) (hk : 0 ≤ k ∧ k < 5) : one1 w 1 k = dgt (sgl w) k := by
  rcases (show w = 0 ∨ w = 1 ∨ w = 2 ∨ w = 3 ∨ w = 4 from by omega) with rfl | rfl | rfl | rfl | rfl <;> rcases (show k = 0 ∨ k = 1 ∨ k = 2 ∨ k = 3 ∨ k = 4 from by omega) with rfl | rfl | rfl | rfl | rfl <;> decide
theorem mvd_one {h h2 : Int → Int → Int} {q : Int → Int} {f t w : Int} (hw : 0 ≤ w ∧ w < 5) (hq : isQ h q) (e : h2 = mvF h f t (one1 w 1)) : mvd h2 q f t (sgl w) := by
  intro k hk
  rw [hq k hk, e]
  simp only [mvF]
  rw [one_ten hw (k := k % 5) (by omega)]
  omega
/-- what a theft does -/
theorem rob_is {τ : St} {h v d : Int} (hm : mayR τ h v = true) (hv : v = -1 ∨ (0 ≤ v ∧ v < 3)) : h ≠ τ.1 5 ∧ (robS τ h v d).1 5 = h ∧ (robS τ h v d).2.1 = τ.2.1 ∧ (robS τ h v d).2.2 1 = τ.2.2 1 ∧ (∀ j : Nat, j ≠ 5 → (robS τ h v d).1 j = τ.1 j) ∧ ((v = -1 ∧ drw (τ.2.2 0) v d = -1 ∧ (robS τ h v d).2.2 0 = τ.2.2 0) ∨ ((0 ≤ v ∧ v < 3) ∧ v ≠ τ.1 1 ∧ (0 ≤ drw (τ.2.2 0) v d ∧ drw (τ.2.2 0) v d < 5) ∧ (robS τ h v d).2.2 0 = mvF (τ.2.2 0) v (τ.1 1) (one1 (drw (τ.2.2 0) v d) 1))) := by
  have hm0 := hm
  simp only [mayR, Bool.and_eq_true, decide_eq_true_eq] at hm
  have h5 : (robS τ h v d).1 5 = h := by
    unfold robS
    split
    · simp [sS, sup]
    · simp [mvS, sHt, sH, sS, sup]
  refine ⟨hm.1, h5, robS_2 _ _ _ _, robS_h _ _ _ _, fun j hj => robS_1 _ _ _ _ j hj, ?_⟩
  rcases hv with rfl | hv
  · refine .inl ⟨rfl, drw_n _ _, ?_⟩
    rw [robS_n]
    rfl
  · have hne : v ≠ -1 := by omega
    have h2 := hm.2
    rw [if_neg hne] at h2
    simp only [canB, Bool.and_eq_true, decide_eq_true_eq] at h2
    have h3 := drw_v (d := d) hne h2.2
    have h4 := drw_r (τ.2.2 0) v d
    refine .inr ⟨hv, h2.1.1, ⟨h3, by omega⟩, ?_⟩
    unfold robS
    rw [if_neg (by omega), mvS_eq, sH_at]
    rfl
theorem s_rob {τ : St} (hJ : Jx τ) (h4 : τ.1 0 = 4) {h v d : Int} (hh : 0 ≤ h ∧ h < 7) (hv : v = -1 ∨ (0 ≤ v ∧ v < 3)) (hd : 0 ≤ d ∧ d ≤ 999) : ∃ (w : Int) (σ : St), Cl τ 5 h v d w σ ∧ ((w = -1123 ∧ σ = τ) ∨ (h ≠ τ.1 5 ∧ σ.1 5 = h ∧ σ.2.1 6 = τ.2.1 6 ∧ σ.2.2 1 = τ.2.2 1 ∧ σ.1 0 = 2 ∧ ((v = -1 ∧ w = -1 ∧ σ.2.2 0 = τ.2.2 0) ∨ ((0 ≤ v ∧ v < 3) ∧ v ≠ τ.1 1 ∧ (0 ≤ w ∧ w < 5) ∧ σ.2.2 0 = mvF (τ.2.2 0) v (τ.1 1) (one1 w 1))))) := by
  have hI := hJ.iv
  have _ := hI
  refine ⟨_, _, Cl_rob τ h v d (by omega) (by omega) (by omega), ?_⟩
  have ha : arC h v d = 0 := arC_1 ⟨⟨hh, hv⟩, hd⟩
  have h4r := drw_r (τ.2.2 0) v d
  by_cases hm : mayR τ h v = true
  · have e : xRob τ h v d = (0, drw (τ.2.2 0) v d, robS (sS τ 0 2) h v d) := by
      unfold xRob
      rw [if_neg (fun z => z ha), if_neg (fun z => z ⟨h4, hm⟩)]
    rw [e]
    obtain ⟨r1, r2, r3, r4, r5, r6⟩ := rob_is (τ := sS τ 0 2) (d := d) hm hv
    have ht : told eIAS (0, drw (τ.2.2 0) v d, robS (sS τ 0 2) h v d) = drw (τ.2.2 0) v d := told_ok (by omega)
    rw [ht]
    refine .inr ⟨r1, r2, by rw [r3]; rfl, r4, by rw [r5 0 (by decide)]; rfl, r6⟩
  · have e : xRob τ h v d = (3, 0, τ) := by
      unfold xRob
      rw [if_neg (fun z => z ha), if_pos (fun z => hm z.2)]
    rw [e]
    exact .inl ⟨told_S (by decide) rfl, rfl⟩
theorem armS_2 (X : St) (p : Int) : (armS X p).2 = X.2 := by
  unfold armS
  by_cases h : (if X.1 8 = -1 then 3 else X.2.1 6 (X.1 8) + 1) ≤ X.2.1 6 p
  · rw [if_pos h]
    rfl
  · rw [if_neg h]
theorem us0_6 {τ : St} (t : Int) : (usS τ t 0).2.1 6 = pup (τ.2.1 6) t (τ.2.1 6 t + 1) := by
  unfold usS
  rw [if_pos rfl, armS_2]
  simp [sAt, sA, sS, sHt, sH, sup]
theorem s_knight {τ : St} (hJ : Jx τ) {h v d : Int} (hh : 0 ≤ h ∧ h < 7) (hv : v = -1 ∨ (0 ≤ v ∧ v < 3)) (hd : 0 ≤ d ∧ d ≤ 999) : ∃ (w : Int) (σ : St), Cl τ 10 h v d w σ ∧ ((w = -1123 ∧ σ = τ) ∨ (h ≠ τ.1 5 ∧ σ.1 5 = h ∧ σ.2.1 6 (τ.1 1) = τ.2.1 6 (τ.1 1) + 1 ∧ σ.2.2 1 (τ.1 1) 0 = τ.2.2 1 (τ.1 1) 0 - 1 ∧ (σ.1 0 = 5 ∨ σ.1 0 = τ.1 0) ∧ Ov σ ∧ ((v = -1 ∧ w = -1 ∧ σ.2.2 0 = τ.2.2 0) ∨ ((0 ≤ v ∧ v < 3) ∧ v ≠ τ.1 1 ∧ (0 ≤ w ∧ w < 5) ∧ σ.2.2 0 = mvF (τ.2.2 0) v (τ.1 1) (one1 w 1))))) := by
  have hI := hJ.iv
  have _ := hI
  refine ⟨_, _, Cl_knight τ h v d (by omega) (by omega) (by omega), ?_⟩
  have ha : arC h v d = 0 := arC_1 ⟨⟨hh, hv⟩, hd⟩
  have u0 := usS_3 τ (τ.1 1) 0
  have u1 := usS_1 τ (τ.1 1) 0
  have h4r := drw_r ((usS τ (τ.1 1) 0).2.2 0) v d
  by_cases hm : mayU τ 0 = true ∧ mayR τ h v = true
  · have e : xKnight τ h v d = (0, drw ((usS τ (τ.1 1) 0).2.2 0) v d, winS (robS (usS τ (τ.1 1) 0) h v d)) := by
      unfold xKnight
      rw [if_neg (fun z => z ha), if_neg (fun z => z hm)]
    rw [e]
    have hm2 : mayR (usS τ (τ.1 1) 0) h v = true := by
      have h2 := hm.2
      unfold mayR canB at h2 ⊢
      rw [u0, u1 5 (by decide) (by decide), u1 1 (by decide) (by decide), usS_2 _ _ _ 2 (by decide)]
      exact h2
    obtain ⟨r1, r2, r3, r4, r5, r6⟩ := rob_is (d := d) hm2 hv
    have hp := mayU_ph hm.1
    have hne : (robS (usS τ (τ.1 1) 0) h v d).1 0 ≠ 5 := by
      rw [r5 0 (by decide), u1 0 (by decide) (by decide)]
      omega
    have ht : told eIAS (0, drw ((usS τ (τ.1 1) 0).2.2 0) v d, winS (robS (usS τ (τ.1 1) 0) h v d)) = drw ((usS τ (τ.1 1) 0).2.2 0) v d := told_ok (by omega)
    rw [ht]
    have w2 := winS_2 (robS (usS τ (τ.1 1) 0) h v d)
    have w1 := winS_1 (robS (usS τ (τ.1 1) 0) h v d)
    have w0 := winS_0 (robS (usS τ (τ.1 1) 0) h v d)
    rw [u1 5 (by decide) (by decide)] at r1
    refine .inr ⟨r1, ?_, ?_, ?_, ?_, Ov.win hne, ?_⟩
    · show (winS _).1 5 = h
      rw [w1 5 (by decide), r2]
    · show (winS _).2.1 6 (τ.1 1) = _
      rw [w2, r3, us0_6]
      simp [pup]
    · show (winS _).2.2 1 (τ.1 1) 0 = _
      rw [w2, r4, usS_h]
      simp [pup2, pup]
    · rw [r5 0 (by decide), u1 0 (by decide) (by decide)] at w0
      exact w0
    · show _ ∨ _ ∧ _ ∧ _ ∧ (winS _).2.2 0 = _
      rw [u0] at r6 ⊢
      rw [u1 1 (by decide) (by decide)] at r6
      rcases r6 with ⟨a1, a2, a3⟩ | ⟨a1, a2, a3, a4⟩
      · exact .inl ⟨a1, a2, by show (winS _).2.2 0 = _; rw [w2]; exact a3⟩
      · exact .inr ⟨a1, a2, a3, by rw [w2]; exact a4⟩
  · have e : xKnight τ h v d = (3, 0, τ) := by
      unfold xKnight
      rw [if_neg (fun z => z ha), if_pos hm]
    rw [e]
    exact .inl ⟨told_S (by decide) rfl, rfl⟩
