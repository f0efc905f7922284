/-! ===== the reference's calls that change the land ===== -/
theorem rhN_r2 (L : Int → Int) (m h : Int) : ∀ n : Nat, n ≤ 3 → (0 ≤ (rhN L m h n).1 ∧ (rhN L m h n).1 ≤ n) ∧ -1 ≤ (rhN L m h n).2.1 ∧ (rhN L m h n).2.1 < 3
  | 0, _ => by simp [rhN]
  | n + 1, hn => by
    have ih := rhN_r2 L m h n (by omega)
    show (0 ≤ (rhN L m h n).1 + (if L (n : Int) = m then 1 else 0) ∧ (rhN L m h n).1 + (if L (n : Int) = m then 1 else 0) ≤ (n + 1 : Nat)) ∧ -1 ≤ (if L (n : Int) = m then (n : Int) else (rhN L m h n).2.1) ∧ (if L (n : Int) = m then (n : Int) else (rhN L m h n).2.1) < 3
    split <;> omega
theorem pl_eq {τ P : St} {T F : Int} (h1 : P.1 = τ.1) (h0 : τ.1 0 = 0) (hn : 0 ≤ τ.1 2 ∧ τ.1 2 < 6) (hT : T = if 6 ≤ τ.1 2 + 1 then 0 else if τ.1 2 + 1 < 3 then τ.1 2 + 1 else 5 - (τ.1 2 + 1)) (hF : F = if τ.1 2 + 1 = 6 then 1 else 0) : lkS (sS (sS (sS P 2 (τ.1 2 + 1)) 1 T) 0 F) = gopS (sS (lkS P) 2 (τ.1 2 + 1)) := by
  have ht : trT (sS (sS (sS P 2 (τ.1 2 + 1)) 1 T) 0 F) = trT P := rfl
  have h4 : (sS (sS (sS P 2 (τ.1 2 + 1)) 1 T) 0 F).1 4 = P.1 4 := rfl
  unfold lkS
  rw [ht, h4]
  generalize hoF (trT P) (P.1 4) = z
  unfold gopS
  have e2 : (sS (sS P 4 z) 2 (τ.1 2 + 1)).1 2 = τ.1 2 + 1 := rfl
  rw [e2]
  by_cases h6 : 6 ≤ τ.1 2 + 1
  · rw [if_pos h6] at hT ⊢
    rw [if_pos (by omega)] at hF
    subst hT hF
    refine Prod.ext (funext fun j => ?_) rfl
    simp only [sS, sup]
    (repeat' split) <;> first | rfl | omega
  · rw [if_neg h6] at hT ⊢
    rw [if_neg (by omega)] at hF
    rw [← hT]
    subst hF
    refine Prod.ext (funext fun j => ?_) rfl
    have hp0 : P.1 0 = 0 := by rw [h1]; exact h0
    simp only [sS, sup]
    (repeat' split) <;> first | rfl | omega | (next h => subst h; exact hp0.symm) | (simp_all; done)
def rPlace (τ ρ : St) (c e : Int) : St := if (xPlace τ c e).1 = 0 then rlK ((pgS τ c e).2.1 3) (sS ρ 0 0) else sS ρ 0 (xPlace τ c e).1
def rRoad (τ ρ : St) (e : Int) : St := if (xRoad τ e).1 = 0 then owK ((rdS τ e).2.1 3) (τ.1 1) (rlK ((rdS τ e).2.1 3) (sS ρ 0 0)) 30 else sS ρ 0 (xRoad τ e).1
def rHouse (τ ρ : St) (c : Int) : St := if (xHouse τ c).1 = 0 then rlK ((hsS τ c).2.1 3) (sS ρ 0 0) else sS ρ 0 (xHouse τ c).1
def rCity (τ ρ : St) (c : Int) : St := if (xCity τ c).1 = 0 then rlK ((ctS τ c).2.1 3) (sS ρ 0 0) else sS ρ 0 (xCity τ c).1
def rTrail (τ ρ : St) (p : Int) : St := if (xTrail τ p).1 = 0 then owK (τ.2.1 3) p (sS ρ 0 0) 30 else sS ρ 0 (xTrail τ p).1
/-- the second road of a card: the holder is looked at once more -/
def r1S (τ : St) (a : Int) : St := sAt (usS τ (τ.1 1) 1) 3 a (τ.1 1)
def rRoads (τ ρ : St) (a b : Int) : St := if (xRoads τ a b).1 = 0 then owK ((rwS τ a b).2.1 3) (τ.1 1) (if b = -1 then rlK ((r1S τ a).2.1 3) (sS ρ 0 0) else rlK ((rwS τ a b).2.1 3) (rlK ((r1S τ a).2.1 3) (sS ρ 0 0))) 30 else sS ρ 0 (xRoads τ a b).1
theorem us_at (τ : St) (t a v : Int) : sAt (usS τ t 1) 3 a v = usS (sAt τ 3 a v) t 1 := by
  unfold usS
  rw [if_neg (by decide), if_neg (by decide)]
  rfl
theorem lk_at (τ : St) (b v : Int) : sAt (lkS τ) 3 b v = sS (sAt τ 3 b v) 4 (hoF (trT τ) (τ.1 4)) := rfl
theorem us_lk (τ : St) (t z : Int) : sS (usS τ t 1) 4 z = usS (sS τ 4 z) t 1 := by
  unfold usS
  rw [if_neg (by decide), if_neg (by decide)]
  refine Prod.ext (funext fun j => ?_) rfl
  simp only [sS, sHt, sH, sup]
  (repeat' split) <;> first | rfl | omega
/-- roads that another player lays change no trail of mine -/
theorem tr_other {b r r' : Int → Int} {p : Int} (h8 : (owL r p 30).length ≤ 8) (h8' : (owL r' p 30).length ≤ 8) (h : ∀ e : Nat, e < 30 → (r (e : Int) = p ↔ r' (e : Int) = p)) : trF b r p = trF b r' p := by
  have h1 := tr_mono (b := b) h8 h8' (fun e he hr => (h e he).mp hr)
  have h2 := tr_mono (b := b) h8' h8 (fun e he hr => (h e he).mpr hr)
  omega
theorem tr_put {τ : St} {e t : Int} (h : Lh τ) (h' : Lh (sAt τ 3 e t)) (hf : τ.2.1 3 e = -1) {p : Int} (hp : 0 ≤ p ∧ p < 3) : (p = t → trT τ p ≤ trT (sAt τ 3 e t) p) ∧ (p ≠ t → trT (sAt τ 3 e t) p = trT τ p) := by
  have hb : (sAt τ 3 e t).2.1 2 = τ.2.1 2 := rfl
  have hr : (sAt τ 3 e t).2.1 3 = pup (τ.2.1 3) e t := rfl
  have o1 := h.ow hp
  have o2 := h'.ow hp
  unfold trT
  rw [hb]
  rw [hr] at o2 ⊢
  constructor
  · intro hpt
    refine tr_mono o1 o2 (fun i hi hi2 => ?_)
    show (if (i : Int) = e then t else τ.2.1 3 (i : Int)) = p
    split
    · exact hpt.symm
    · exact hi2
  · intro hpt
    refine (tr_other o1 o2 (fun i hi => ?_)).symm
    show τ.2.1 3 (i : Int) = p ↔ (if (i : Int) = e then t else τ.2.1 3 (i : Int)) = p
    split
    · next h9 => rw [h9, hf]; omega
    · rfl
theorem ho_two {τ : St} {a b t : Int} (ht : 0 ≤ t ∧ t < 3) (h0 : Lh τ) (h1 : Lh (sAt τ 3 a t)) (h2 : Lh (sAt (sAt τ 3 a t) 3 b t)) (fa : τ.2.1 3 a = -1) (fb : (sAt τ 3 a t).2.1 3 b = -1) (hv : hoF (trT τ) (τ.1 4) = τ.1 4) : hoF (trT (sAt (sAt τ 3 a t) 3 b t)) (hoF (trT (sAt τ 3 a t)) (τ.1 4)) = hoF (trT (sAt (sAt τ 3 a t) 3 b t)) (τ.1 4) := by
  have hh := h0.1.2.2.2.1
  have l0 := trT_r h0
  have l1 := trT_r h1
  have l2 := trT_r h2
  have e1 := (ho_P l1 hh).1
  have r1 := hoP_r (trT (sAt τ 3 a t) 0) (trT (sAt τ 3 a t) 1) (trT (sAt τ 3 a t) 2) hh
  rw [e1, (ho_P l2 r1).1, (ho_P l2 hh).1]
  rw [(ho_P l0 hh).1] at hv
  have q10 := tr_put h0 h1 fa (p := 0) (by omega)
  have q11 := tr_put h0 h1 fa (p := 1) (by omega)
  have q12 := tr_put h0 h1 fa (p := 2) (by omega)
  have q20 := tr_put h1 h2 fb (p := 0) (by omega)
  have q21 := tr_put h1 h2 fb (p := 1) (by omega)
  have q22 := tr_put h1 h2 fb (p := 2) (by omega)
  clear e1 r1 l0 l1 l2
  rcases (show t = 0 ∨ t = 1 ∨ t = 2 from by omega) with rfl | rfl | rfl
  · rw [q21.2 (by decide), q22.2 (by decide), q11.2 (by decide), q12.2 (by decide)]
    exact hoP_two0 (q10.1 rfl) (q20.1 rfl) hh hv
  · rw [q20.2 (by decide), q22.2 (by decide), q10.2 (by decide), q12.2 (by decide)]
    exact hoP_two1 (q11.1 rfl) (q21.1 rfl) hh hv
  · rw [q20.2 (by decide), q21.2 (by decide), q10.2 (by decide), q11.2 (by decide)]
    exact hoP_two2 (q12.1 rfl) (q22.1 rfl) hh hv
theorem rr_eq {τ : St} (hI : Iv τ) {a b : Int} (ha : 0 ≤ a ∧ a < 30) (hb : 0 ≤ b ∧ b < 30) (hb1 : b ≠ -1) (ca : canR τ a = true) (cb : canR (sAt τ 3 a (τ.1 1)) b = true) (hv : hoF (trT τ) (τ.1 4) = τ.1 4) : lkS (sAt (lkS (r1S τ a)) 3 b (τ.1 1)) = lkS (usS (rwS τ a b) (τ.1 1) 1) := by
  have h1 := r1_Lh hI ha ca
  have h2 := r2_Lh hI ha ca hb cb
  have hw := ho_two hI.htu hI.lh h1 h2 (canR_is ca).2 (canR_is cb).2 hv
  rw [rw_v τ a hb1]
  unfold r1S
  rw [us_at, lk_at, us_tr]
  have e4 : (usS (sAt τ 3 a (τ.1 1)) (τ.1 1) 1).1 4 = τ.1 4 := by rw [usS_1 _ _ _ _ (by decide) (by decide)]; rfl
  rw [e4]
  rw [us_at]
  generalize hoF (trT (sAt τ 3 a (τ.1 1))) (τ.1 4) = z at hw ⊢
  unfold lkS
  have e5 : (sS (usS (sAt (sAt τ 3 a (τ.1 1)) 3 b (τ.1 1)) (τ.1 1) 1) 4 z).1 4 = z := rfl
  have e6 : trT (sS (usS (sAt (sAt τ 3 a (τ.1 1)) 3 b (τ.1 1)) (τ.1 1) 1) 4 z) = trT (sAt (sAt τ 3 a (τ.1 1)) 3 b (τ.1 1)) := by
    have : trT (sS (usS (sAt (sAt τ 3 a (τ.1 1)) 3 b (τ.1 1)) (τ.1 1) 1) 4 z) = trT (usS (sAt (sAt τ 3 a (τ.1 1)) 3 b (τ.1 1)) (τ.1 1) 1) := rfl
    rw [this, us_tr]
  have e7 : (usS (sAt (sAt τ 3 a (τ.1 1)) 3 b (τ.1 1)) (τ.1 1) 1).1 4 = τ.1 4 := by rw [usS_1 _ _ _ _ (by decide) (by decide)]; rfl
  rw [e5, e6, us_tr, e7, hw, sS_sS]
theorem rw_3 (τ : St) (a b : Int) : (usS (rwS τ a b) (τ.1 1) 1).2.1 3 = (rwS τ a b).2.1 3 := usS_2 _ _ _ 3 (by decide)
theorem Lh.pl {P : St} (h : Lh P) {n T F : Int} (hT : 0 ≤ T ∧ T < 3) (hF : 0 ≤ F ∧ F ≤ 5) : Lh (sS (sS (sS P 2 n) 1 T) 0 F) := ⟨⟨h.1.1, h.1.2.1, h.1.2.2.1, h.1.2.2.2.1, hF, hT⟩, h.2.1, h.2.2⟩
theorem r1S_Lh {τ : St} (hI : Iv τ) {a : Int} (ha : 0 ≤ a ∧ a < 30) (hc : canR τ a = true) (hu : canU τ (τ.1 1) 1 = true) : Lh (r1S τ a) := by
  have h := ruS_Lh hI ha hc (.inl rfl) (.inl rfl) hu
  unfold ruS at h
  rw [rw_n] at h
  unfold r1S
  rw [us_at]
  exact h
theorem r2_3 (τ : St) (a : Int) {b : Int} (hb : b ≠ -1) : (sAt (lkS (r1S τ a)) 3 b (τ.1 1)).2.1 3 = (rwS τ a b).2.1 3 := by
  have h1 : (sAt (lkS (r1S τ a)) 3 b (τ.1 1)).2.1 3 = pup (pup ((usS τ (τ.1 1) 1).2.1 3) a (τ.1 1)) b (τ.1 1) := rfl
  rw [h1, usS_2 _ _ _ 3 (by decide), rw_v τ a hb]
  rfl
theorem r2S_Lh {τ : St} (hI : Iv τ) {a b : Int} (ha : 0 ≤ a ∧ a < 30) (hc : canR τ a = true) (hb : 0 ≤ b ∧ b < 30) (hb1 : b ≠ -1) (hd : canR (sAt τ 3 a (τ.1 1)) b = true) (hu : canU τ (τ.1 1) 1 = true) : Lh (sAt (lkS (r1S τ a)) 3 b (τ.1 1)) := by
  have h1 := (r1S_Lh hI ha hc hu).lk2
  have h2 := (r2_Lh hI ha hc hb hd).2.2
  have ht := hI.htu
  refine h1.r (by omega) ?_
  have e : pup ((lkS (r1S τ a)).2.1 3) b (τ.1 1) = (rwS τ a b).2.1 3 := r2_3 τ a hb1
  rw [e, rw_v τ a hb1]
  exact h2
theorem r1_eq (τ : St) (a : Int) : lkS (r1S τ a) = lkS (usS (rwS τ a (-1)) (τ.1 1) 1) := by
  unfold r1S
  rw [us_at, rw_n]
