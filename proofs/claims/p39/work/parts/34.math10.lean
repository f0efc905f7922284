/-! ===== moves of goods, in closed form ===== -/
def mvF (h : Int → Int → Int) (f t : Int) (q : Int → Int) : Int → Int → Int := fun p k => h p k + ((if p = t then q k else 0) - (if p = f then q k else 0))
def one1 (g m : Int) : Int → Int := fun k => if k = g then m else 0
def dgs (n : Int) : Int → Int := fun k => if 0 ≤ k ∧ k < 5 then dgt n k else 0
theorem sH_sH (τ : St) (k : Nat) (a b : Int → Int → Int) : sH (sH τ k a) k b = sH τ k b := by
  unfold sH
  refine Prod.ext rfl (Prod.ext rfl (funext fun j => ?_))
  simp only [sup]
  split <;> rfl
theorem sH_at (τ : St) (k : Nat) (a : Int → Int → Int) : (sH τ k a).2.2 k = a := by simp [sH, sup]
theorem pup2_at (h : Int → Int → Int) (p g v i j : Int) : pup2 h p g v i j = if i = p ∧ j = g then v else h i j := by
  unfold pup2 pup
  by_cases h1 : i = p <;> by_cases h2 : j = g <;> simp [h1, h2]
theorem mvS_eq (τ : St) (f t g m : Int) : mvS τ f t g m = sH τ 0 (mvF (τ.2.2 0) f t (one1 g m)) := by
  unfold mvS sHt
  rw [sH_sH]
  refine congrArg (sH τ 0) (funext fun p => funext fun k => ?_)
  simp only [sH_at, pup2_at, mvF, one1]
  by_cases h1 : p = t <;> by_cases h2 : p = f <;> by_cases h3 : k = g <;> by_cases h4 : t = f <;> simp_all <;> omega
theorem mvF_mvF (h : Int → Int → Int) (f t : Int) (q r : Int → Int) : mvF (mvF h f t q) f t r = mvF h f t (fun k => q k + r k) := by
  funext p k
  simp only [mvF]
  (repeat' split) <;> omega
theorem mvF_comm (h : Int → Int → Int) (f t u v : Int) (q r : Int → Int) : mvF (mvF h f t q) u v r = mvF (mvF h u v r) f t q := by
  funext p k
  simp only [mvF]
  omega
theorem mvF_at (τ : St) (f t : Int) (q : Int → Int) : (sH τ 0 (mvF (τ.2.2 0) f t q)).2.2 0 = mvF (τ.2.2 0) f t q := sH_at _ _ _
theorem mvA_eq (τ : St) (f t n : Int) : mvA τ f t n = sH τ 0 (mvF (τ.2.2 0) f t (dgs n)) := by
  unfold mvA
  simp only [mvS_eq, sH_sH, sH_at, mvF_mvF]
  refine congrArg (sH τ 0) (congrArg (mvF (τ.2.2 0) f t) (funext fun k => ?_))
  simp only [one1, dgs]
  by_cases h : 0 ≤ k ∧ k < 5
  · rw [if_pos h]
    rcases (show k = 0 ∨ k = 1 ∨ k = 2 ∨ k = 3 ∨ k = 4 from by omega) with rfl | rfl | rfl | rfl | rfl <;> simp
  · rw [if_neg h]
    (repeat' split) <;> omega
theorem mvA_comm (τ : St) (f t n u v m : Int) : mvA (mvA τ f t n) u v m = mvA (mvA τ u v m) f t n := by
  simp only [mvA_eq, sH_sH, sH_at]
  rw [mvF_comm]
theorem mvS_self (τ : St) (t g m : Int) : mvS τ t t g m = τ := by
  rw [mvS_eq]
  have : mvF (τ.2.2 0) t t (one1 g m) = τ.2.2 0 := by
    funext p k
    simp only [mvF]
    omega
  rw [this]
  unfold sH
  refine Prod.ext rfl (Prod.ext rfl (funext fun j => ?_))
  simp only [sup]
  split
  · next h => rw [h]
  · rfl
/-- tables of goods -/
def HH (h : Int → Int → Int) : Prop := (∀ p g, 0 ≤ h p g ∧ h p g ≤ 12) ∧ ∀ g, 0 ≤ g ∧ g < 5 → h 0 g + h 1 g + h 2 g + h 3 g = 12
theorem HH_mv {h : Int → Int → Int} (hH : HH h) {f t : Int} (hf : 0 ≤ f ∧ f < 4) (ht : 0 ≤ t ∧ t < 4) {q : Int → Int} (hq : ∀ k, 0 ≤ q k ∧ q k ≤ h f k) (hz : ∀ k, ¬ (0 ≤ k ∧ k < 5) → q k = 0) : HH (mvF h f t q) := by
  have key : ∀ g, 0 ≤ g ∧ g < 5 → mvF h f t q 0 g + mvF h f t q 1 g + mvF h f t q 2 g + mvF h f t q 3 g = 12 := by
    intro g hg
    have hs := hH.2 g hg
    simp only [mvF]
    rcases (show f = 0 ∨ f = 1 ∨ f = 2 ∨ f = 3 from by omega) with rfl | rfl | rfl | rfl <;> rcases (show t = 0 ∨ t = 1 ∨ t = 2 ∨ t = 3 from by omega) with rfl | rfl | rfl | rfl <;> simp <;> omega
  have pos : ∀ p g, 0 ≤ mvF h f t q p g := by
    intro p g
    have h1 := (hH.1 p g).1
    have h2 := hq g
    simp only [mvF]
    have h3 : p = f → h p g = h f g := fun e => by rw [e]
    by_cases e1 : p = t
    · rw [if_pos e1]
      by_cases e2 : p = f
      · rw [if_pos e2]; omega
      · rw [if_neg e2]; omega
    · rw [if_neg e1]
      by_cases e2 : p = f
      · have := h3 e2
        rw [if_pos e2]; omega
      · rw [if_neg e2]; omega
  refine ⟨fun p g => ⟨pos p g, ?_⟩, key⟩
  by_cases hg : 0 ≤ g ∧ g < 5
  · by_cases hp : 0 ≤ p ∧ p < 4
    · have hk := key g hg
      have p0 := pos 0 g
      have p1 := pos 1 g
      have p2 := pos 2 g
      have p3 := pos 3 g
      rcases (show p = 0 ∨ p = 1 ∨ p = 2 ∨ p = 3 from by omega) with rfl | rfl | rfl | rfl <;> omega
    · have h1 := (hH.1 p g).2
      simp only [mvF]
      rw [if_neg (by omega), if_neg (by omega)]
      omega
  · have h1 := (hH.1 p g).2
    simp only [mvF]
    rw [hz g hg]
    (repeat' split) <;> omega
theorem Iv.hH {τ : St} (h : Iv τ) : HH (τ.2.2 0) := ⟨h.hh, h.hsm⟩
theorem hasG_le {h : Int → Int → Int} {p n : Int} (hg : hasG h p n = true) : ∀ k, 0 ≤ k ∧ k < 5 → dgt n k ≤ h p k := by
  intro k hk
  simp only [hasG, Bool.and_eq_true, decide_eq_true_eq] at hg
  rcases (show k = 0 ∨ k = 1 ∨ k = 2 ∨ k = 3 ∨ k = 4 from by omega) with rfl | rfl | rfl | rfl | rfl <;> omega
theorem HH_mvA {τ : St} (hH : HH (τ.2.2 0)) {f t n : Int} (hf : 0 ≤ f ∧ f < 4) (ht : 0 ≤ t ∧ t < 4) (hg : hasG (τ.2.2 0) f n = true) : HH ((mvA τ f t n).2.2 0) := by
  rw [mvA_eq, sH_at]
  refine HH_mv hH hf ht (fun k => ?_) (fun k hk => by simp only [dgs]; rw [if_neg hk])
  simp only [dgs]
  split
  · next hk => exact ⟨(dgt_r n k).1, hasG_le hg k hk⟩
  · exact ⟨Int.le_refl _, (hH.1 f k).1⟩
theorem HH_mvS {τ : St} (hH : HH (τ.2.2 0)) {f t g m : Int} (hf : 0 ≤ f ∧ f < 4) (ht : 0 ≤ t ∧ t < 4) (hg : 0 ≤ g ∧ g < 5) (hm : 0 ≤ m ∧ m ≤ τ.2.2 0 f g) : HH ((mvS τ f t g m).2.2 0) := by
  rw [mvS_eq, sH_at]
  refine HH_mv hH hf ht (fun k => ?_) (fun k hk => by simp only [one1]; rw [if_neg (by omega)])
  simp only [one1]
  split
  · next hk => rw [hk]; exact hm
  · exact ⟨Int.le_refl _, (hH.1 f k).1⟩
theorem hasG_of {h : Int → Int → Int} {p n : Int} (hg : ∀ k, 0 ≤ k ∧ k < 5 → dgt n k ≤ h p k) : hasG h p n = true := by
  simp only [hasG, Bool.and_eq_true, decide_eq_true_eq]
  exact ⟨⟨⟨⟨hg 0 (by omega), hg 1 (by omega)⟩, hg 2 (by omega)⟩, hg 3 (by omega)⟩, hg 4 (by omega)⟩
/-- who receives has no less -/
theorem hasG_mvA {τ : St} {f t n m : Int} (hg : hasG (τ.2.2 0) t m = true) : hasG ((mvA τ f t n).2.2 0) t m = true := by
  rw [mvA_eq, sH_at]
  refine hasG_of (fun k hk => ?_)
  have h1 := hasG_le hg k hk
  have h2 := dgt_r n k
  simp only [mvF, dgs]
  rw [if_pos trivial, if_pos hk]
  split <;> omega
theorem usS_1 (τ : St) (p k : Int) (j : Nat) (h7 : j ≠ 7) (h8 : j ≠ 8) : (usS τ p k).1 j = τ.1 j := by
  unfold usS armS
  (repeat' split) <;> simp [sS, sAt, sHt, sH, sA, sup, h7, h8]
theorem usS_2 (τ : St) (p k : Int) (j : Nat) (h6 : j ≠ 6) : (usS τ p k).2.1 j = τ.2.1 j := by
  unfold usS armS
  (repeat' split) <;> simp [sS, sAt, sHt, sH, sA, sup, h6]
theorem usS_3 (τ : St) (p k : Int) : (usS τ p k).2.2 0 = τ.2.2 0 := by
  unfold usS armS
  (repeat' split) <;> simp [sS, sAt, sHt, sH, sA, sup]
theorem usS_h (τ : St) (p k : Int) : (usS τ p k).2.2 1 = pup2 (τ.2.2 1) p k (τ.2.2 1 p k - 1) := by
  unfold usS armS
  (repeat' split) <;> simp [sS, sAt, sHt, sH, sA, sup]
theorem winS_1 (τ : St) (j : Nat) (h : j ≠ 0) : (winS τ).1 j = τ.1 j := by
  unfold winS
  split <;> simp [sS, sup, h]
theorem winS_2 (τ : St) : (winS τ).2 = τ.2 := by
  unfold winS
  split <;> rfl
theorem pup2_b {f : Int → Int → Int} {a b p k v : Int} (hf : ∀ i j, a ≤ f i j ∧ f i j ≤ b) (hv : a ≤ v ∧ v ≤ b) : ∀ i j, a ≤ pup2 f p k v i j ∧ pup2 f p k v i j ≤ b := by
  intro i j
  rw [pup2_at]
  split
  · exact hv
  · exact hf i j
/-! ===== calls that change the game ===== -/
def xLay (τ : St) (h g n : Int) : XR := if ¬ (0 ≤ h ∧ h < 7) then (1, 0, τ) else if ¬ ((0 ≤ g ∧ g ≤ 5) ∧ (2 ≤ n ∧ n ≤ 12) ∧ (n = 7 ↔ g = 5)) then (2, 0, τ) else if 0 < τ.1 2 then (3, 0, τ) else (0, 0, sAt (sAt τ 0 h g) 1 h n)
def xDeal (τ : St) (p n : Int) : XR := if ¬ (0 ≤ p ∧ p < 3) then (1, 0, τ) else if ¬ (0 ≤ n ∧ n ≤ 99999) then (2, 0, τ) else if ¬ (τ.1 3 = 0 ∧ hasG (τ.2.2 0) 3 n = true) then (3, 0, τ) else (0, tot ((mvA τ 3 p n).2.2 0) p, mvA τ 3 p n)
def disS (τ : St) (p n : Int) : St := sAt (mvA τ p 3 n) 4 p 0
def phD (τ : St) : Int := if anyDue (τ.2.1 4) = true then 3 else 4
def xDisc (τ : St) (p n : Int) : XR := if ¬ (0 ≤ p ∧ p < 3) then (1, 0, τ) else if ¬ (0 ≤ n ∧ n ≤ 99999) then (2, 0, τ) else if ¬ (0 < τ.2.1 4 p ∧ szG n = τ.2.1 4 p ∧ hasG (τ.2.2 0) p n = true) then (3, 0, τ) else (0, phD (disS τ p n), sS (disS τ p n) 0 (phD (disS τ p n)))
def xRob (τ : St) (h v d : Int) : XR := if ¬ arC h v d = 0 then (arC h v d, 0, τ) else if ¬ (τ.1 0 = 4 ∧ mayR τ h v = true) then (3, 0, τ) else (0, drw (τ.2.2 0) v d, robS (sS τ 0 2) h v d)
def xBuy (τ : St) : XR := if ¬ (τ.1 0 = 2 ∧ τ.1 6 < 15 ∧ hasG (τ.2.2 0) (τ.1 1) 11100 = true) then (1, 0, τ) else (0, ordF (τ.1 6), winS (gvS (mvA τ (τ.1 1) 3 11100) (τ.1 1)))
def xKnight (τ : St) (h v d : Int) : XR := if ¬ arC h v d = 0 then (arC h v d, 0, τ) else if ¬ (mayU τ 0 = true ∧ mayR τ h v = true) then (3, 0, τ) else (0, drw ((usS τ (τ.1 1) 0).2.2 0) v d, winS (robS (usS τ (τ.1 1) 0) h v d))
def xPlenty (τ : St) (a b : Int) : XR := if ¬ ((0 ≤ a ∧ a < 5) ∧ (0 ≤ b ∧ b < 5)) then (1, 0, τ) else if ¬ (mayU τ 2 = true ∧ hasG (τ.2.2 0) 3 (sgl a + sgl b) = true) then (2, 0, τ) else (0, tot ((mvA (usS τ (τ.1 1) 2) 3 (τ.1 1) (sgl a + sgl b)).2.2 0) (τ.1 1), mvA (usS τ (τ.1 1) 2) 3 (τ.1 1) (sgl a + sgl b))
def monS (τ : St) (t g : Int) : St := if t = 0 then mvS (mvS τ 1 t g (τ.2.2 0 1 g)) 2 t g ((mvS τ 1 t g (τ.2.2 0 1 g)).2.2 0 2 g) else if t = 1 then mvS (mvS τ 0 t g (τ.2.2 0 0 g)) 2 t g ((mvS τ 0 t g (τ.2.2 0 0 g)).2.2 0 2 g) else mvS (mvS τ 0 t g (τ.2.2 0 0 g)) 1 t g ((mvS τ 0 t g (τ.2.2 0 0 g)).2.2 0 1 g)
def monV (τ : St) (t g : Int) : Int := if t = 0 then (0 + τ.2.2 0 1 g) + (mvS τ 1 t g (τ.2.2 0 1 g)).2.2 0 2 g else if t = 1 then (0 + τ.2.2 0 0 g) + (mvS τ 0 t g (τ.2.2 0 0 g)).2.2 0 2 g else (0 + τ.2.2 0 0 g) + (mvS τ 0 t g (τ.2.2 0 0 g)).2.2 0 1 g
def xMono (τ : St) (g : Int) : XR := if ¬ (0 ≤ g ∧ g < 5) then (1, 0, τ) else if ¬ mayU τ 3 = true then (2, 0, τ) else (0, monV (usS τ (τ.1 1) 3) (τ.1 1) g, monS (usS τ (τ.1 1) 3) (τ.1 1) g)
def xSwap (τ : St) (a b : Int) : XR := if ¬ ((0 ≤ a ∧ a < 5) ∧ (0 ≤ b ∧ b < 5) ∧ a ≠ b) then (1, 0, τ) else if ¬ (τ.1 0 = 2 ∧ rtN (τ.2.1 2) (τ.1 1) a 24 ≤ τ.2.2 0 (τ.1 1) a ∧ 1 ≤ τ.2.2 0 3 b) then (2, 0, τ) else (0, (mvS (mvS τ (τ.1 1) 3 a (rtN (τ.2.1 2) (τ.1 1) a 24)) 3 (τ.1 1) b 1).2.2 0 (τ.1 1) b, mvS (mvS τ (τ.1 1) 3 a (rtN (τ.2.1 2) (τ.1 1) a 24)) 3 (τ.1 1) b 1)
def xOffer (τ : St) (a b : Int) : XR := if ¬ ((1 ≤ a ∧ a ≤ 99999) ∧ (1 ≤ b ∧ b ≤ 99999)) then (1, 0, τ) else if ¬ (τ.1 0 = 2 ∧ hasG (τ.2.2 0) (τ.1 1) a = true) then (2, 0, τ) else (0, 0, ofS τ a b)
def xCounter (τ : St) (p a b : Int) : XR := if ¬ (0 ≤ p ∧ p < 3) then (1, 0, τ) else if ¬ ((1 ≤ a ∧ a ≤ 99999) ∧ (1 ≤ b ∧ b ≤ 99999)) then (2, 0, τ) else if ¬ (τ.1 0 = 2 ∧ p ≠ τ.1 1 ∧ τ.1 9 ≠ 0 ∧ hasG (τ.2.2 0) p a = true) then (3, 0, τ) else (0, 0, sAt (sAt τ 7 p a) 8 p b)
def xAccept (τ : St) (p : Int) : XR := if ¬ (0 ≤ p ∧ p < 3) then (1, 0, τ) else if ¬ (τ.1 0 = 2 ∧ p ≠ τ.1 1 ∧ τ.1 9 ≠ 0 ∧ hasG (τ.2.2 0) p (τ.1 10) = true ∧ hasG (τ.2.2 0) (τ.1 1) (τ.1 9) = true) then (2, 0, τ) else (0, tot ((excS τ p (τ.1 10) (τ.1 9)).2.2 0) p, excS τ p (τ.1 10) (τ.1 9))
def xAgree (τ : St) (p : Int) : XR := if ¬ (0 ≤ p ∧ p < 3) then (1, 0, τ) else if ¬ (τ.1 0 = 2 ∧ τ.2.1 7 p ≠ 0 ∧ hasG (τ.2.2 0) p (τ.2.1 7 p) = true ∧ hasG (τ.2.2 0) (τ.1 1) (τ.2.1 8 p) = true) then (2, 0, τ) else (0, tot ((excS τ p (τ.2.1 7 p) (τ.2.1 8 p)).2.2 0) (τ.1 1), excS τ p (τ.2.1 7 p) (τ.2.1 8 p))
def nxtT (t : Int) : Int := if t + 1 < 3 then t + 1 else 0
def xEnd (τ : St) : XR := if ¬ τ.1 0 = 2 then (1, 0, τ) else (0, (winS (sS (sS (strt (ofS τ 0 0)) 1 (nxtT (τ.1 1))) 0 1)).1 1, winS (sS (sS (strt (ofS τ 0 0)) 1 (nxtT (τ.1 1))) 0 1))
/-! ===== what the look at a winner asks ===== -/
def Wi (τ : St) : Prop := (∀ c, -1 ≤ τ.2.1 2 c ∧ τ.2.1 2 c ≤ 5) ∧ (∀ p k, 0 ≤ τ.2.2 1 p k ∧ τ.2.2 1 p k ≤ 15) ∧ (-1 ≤ τ.1 8 ∧ τ.1 8 < 3) ∧ (-1 ≤ τ.1 4 ∧ τ.1 4 < 3) ∧ (0 ≤ τ.1 0 ∧ τ.1 0 ≤ 5) ∧ (0 ≤ τ.1 1 ∧ τ.1 1 < 3)
theorem Iv.wi {τ : St} (h : Iv τ) : Wi τ := ⟨h.hb, h.hcd, h.har, h.hth, h.hph, h.htu⟩
theorem robS_2 (τ : St) (h v d : Int) : (robS τ h v d).2.1 = τ.2.1 := by
  unfold robS
  split <;> rfl
theorem robS_1 (τ : St) (h v d : Int) (j : Nat) (hj : j ≠ 5) : (robS τ h v d).1 j = τ.1 j := by
  unfold robS
  split <;> simp [mvS, sS, sHt, sH, sup, hj]
theorem robS_h (τ : St) (h v d : Int) : (robS τ h v d).2.2 1 = τ.2.2 1 := by
  unfold robS
  split <;> simp [mvS, sS, sHt, sH, sup]
theorem Wi.rob {τ : St} (w : Wi τ) (h v d : Int) : Wi (robS τ h v d) := by
  unfold Wi
  rw [robS_2, robS_h, robS_1 _ _ _ _ _ (by decide), robS_1 _ _ _ _ _ (by decide), robS_1 _ _ _ _ _ (by decide), robS_1 _ _ _ _ _ (by decide)]
  exact w
theorem canU_le {τ : St} {p k : Int} (h : canU τ p k = true) : τ.1 7 = 0 ∧ τ.2.1 5 k < τ.2.2 1 p k := by
  simpa [canU, Bool.and_eq_true, decide_eq_true_eq] using h
theorem usS_8 (τ : St) (p k : Int) (hp : 0 ≤ p ∧ p < 3) (h : -1 ≤ τ.1 8 ∧ τ.1 8 < 3) : -1 ≤ (usS τ p k).1 8 ∧ (usS τ p k).1 8 < 3 := by
  unfold usS armS
  (repeat' split) <;> simp [sS, sAt, sHt, sH, sA, sup] <;> omega
theorem Wi.use {τ : St} (w : Wi τ) {k : Int} (h1 : ∀ k, 0 ≤ τ.2.1 5 k) (h : canU τ (τ.1 1) k = true) : Wi (usS τ (τ.1 1) k) := by
  obtain ⟨w1, w2, w3, w4, w5, w6⟩ := w
  have q := canU_le h
  have q1 := h1 k
  have q2 := w2 (τ.1 1) k
  refine ⟨?_, ?_, usS_8 τ _ _ w6 w3, ?_, ?_, ?_⟩
  · rw [usS_2 _ _ _ _ (by decide)]; exact w1
  · rw [usS_h]; exact pup2_b w2 (by omega)
  · rw [usS_1 _ _ _ _ (by decide) (by decide)]; exact w4
  · rw [usS_1 _ _ _ _ (by decide) (by decide)]; exact w5
  · rw [usS_1 _ _ _ _ (by decide) (by decide)]; exact w6
theorem Wi.gv {τ : St} (w : Wi τ) (h1 : τ.1 6 < 15) (h2 : ∀ p k, τ.2.2 1 p k ≤ τ.1 6) (n : Int) : Wi (gvS (mvA τ (τ.1 1) 3 n) (τ.1 1)) := by
  obtain ⟨w1, w2, w3, w4, w5, w6⟩ := w
  refine ⟨w1, ?_, w3, w4, w5, w6⟩
  have a := w2 (τ.1 1) (ordF (τ.1 6))
  have b := h2 (τ.1 1) (ordF (τ.1 6))
  exact pup2_b (f := τ.2.2 1) w2 (v := τ.2.2 1 (τ.1 1) (ordF (τ.1 6)) + 1) (by omega)
theorem nxtT_r {t : Int} (h : 0 ≤ t ∧ t < 3) : 0 ≤ nxtT t ∧ nxtT t < 3 := by unfold nxtT; split <;> omega
theorem Wi.nd {τ : St} (w : Wi τ) {t : Int} (ht : 0 ≤ t ∧ t < 3) : Wi (sS (sS (strt (ofS τ 0 0)) 1 t) 0 1) := by
  obtain ⟨w1, w2, w3, w4, w5, w6⟩ := w
  refine ⟨w1, w2, w3, w4, ?_, ht⟩
  show (0 : Int) ≤ 1 ∧ (1 : Int) ≤ 5
  omega
theorem Iv.kn14 {τ : St} (h : Iv τ) (hc : canU τ (τ.1 1) 0 = true) : ∀ p, 0 ≤ τ.2.1 6 p ∧ τ.2.1 6 p ≤ 14 := by
  intro p
  have q := canU_le hc
  have q1 := (h.hfr 0).1
  have t := h.htu
  have a0 := (h.hcd 0 0).1
  have a1 := (h.hcd 1 0).1
  have a2 := (h.hcd 2 0).1
  have k0 := (h.hkn 0).1
  have k1 := (h.hkn 1).1
  have k2 := (h.hkn 2).1
  have hs := h.hck
  have hb := h.hbo
  have z := h.hkz p
  refine ⟨(h.hkn p).1, ?_⟩
  by_cases hp : 0 ≤ p ∧ p < 3
  · have hp3 : p = 0 ∨ p = 1 ∨ p = 2 := by omega
    rcases (show τ.1 1 = 0 ∨ τ.1 1 = 1 ∨ τ.1 1 = 2 from by omega) with e | e | e <;> rw [e] at q <;> rcases hp3 with e3 | e3 | e3 <;> rw [e3] <;> omega
  · rw [z hp]
    omega
theorem sgl_r (g : Int) : 1 ≤ sgl g ∧ sgl g ≤ 10000 := by unfold sgl; (repeat' split) <;> omega
theorem iv_has {τ : St} (h : Iv τ) : ∀ p g, 0 ≤ (sS τ 0 2).2.2 0 p g ∧ (sS τ 0 2).2.2 0 p g ≤ 12 := h.hh
def eS1 (_ : Int) : String := xS
theorem robS_n (τ : St) (h d : Int) : robS τ h (-1) d = sS τ 5 h := by
  unfold robS drw
  simp
theorem robK_n (τ κ : St) (d : Int) : robK τ κ (-1) d = κ := by
  unfold robK drw
  simp
def kDeal (κ τ : St) (p n : Int) : St := if (xDeal τ p n).1 = 0 then mvAK κ 3 p n else κ
def kDisc (κ τ : St) (p n : Int) : St := if (xDisc τ p n).1 = 0 then mvAK κ p 3 n else κ
def kRob (κ τ : St) (h v d : Int) : St := if (xRob τ h v d).1 = 0 then robK (sS τ 0 2) κ v d else κ
def kBuy (κ τ : St) : St := if (xBuy τ).1 = 0 then mvAK κ (τ.1 1) 3 11100 else κ
def kKnight (κ τ : St) (h v d : Int) : St := if (xKnight τ h v d).1 = 0 then robK (usS τ (τ.1 1) 0) κ v d else κ
def kPlenty (κ τ : St) (a b : Int) : St := if (xPlenty τ a b).1 = 0 then mvAK κ 3 (τ.1 1) (sgl a + sgl b) else κ
def monK (τ κ : St) (t g : Int) : St := if t = 0 then mvK (mvK κ 1 t g (τ.2.2 0 1 g)) 2 t g ((mvS τ 1 t g (τ.2.2 0 1 g)).2.2 0 2 g) else if t = 1 then mvK (mvK κ 0 t g (τ.2.2 0 0 g)) 2 t g ((mvS τ 0 t g (τ.2.2 0 0 g)).2.2 0 2 g) else mvK (mvK κ 0 t g (τ.2.2 0 0 g)) 1 t g ((mvS τ 0 t g (τ.2.2 0 0 g)).2.2 0 1 g)
def kMono (κ τ : St) (g : Int) : St := if (xMono τ g).1 = 0 then monK (usS τ (τ.1 1) 3) κ (τ.1 1) g else κ
def kSwap (κ τ : St) (a b : Int) : St := if (xSwap τ a b).1 = 0 then mvK (mvK κ (τ.1 1) 3 a (rtN (τ.2.1 2) (τ.1 1) a 24)) 3 (τ.1 1) b 1 else κ
def kAccept (κ τ : St) (p : Int) : St := if (xAccept τ p).1 = 0 then excK τ κ p (τ.1 10) (τ.1 9) else κ
def kAgree (κ τ : St) (p : Int) : St := if (xAgree τ p).1 = 0 then excK τ κ p (τ.2.1 7 p) (τ.2.1 8 p) else κ
