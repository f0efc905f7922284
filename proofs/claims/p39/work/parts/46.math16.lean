theorem oc_0 (E : Int → String) (v : Int) (t : St) : oc E (0, v, t) = .inl (some (vI v)) := rfl
/-! ===== what is asked of the land, and the calls that change it ===== -/
def trT (τ : St) : Int → Int := trF (τ.2.1 2) (τ.2.1 3)
def lkS (τ : St) : St := sS τ 4 (hoF (trT τ) (τ.1 4))
/-- what a look at the land asks -/
def Lh (τ : St) : Prop := Wi τ ∧ (∀ e, -1 ≤ τ.2.1 3 e ∧ τ.2.1 3 e ≤ 2) ∧ (∀ p, 0 ≤ p ∧ p < 3 → cntN (τ.2.1 3) p 30 ≤ 8)
theorem Lh.ow {τ : St} (h : Lh τ) {p : Int} (hp : 0 ≤ p ∧ p < 3) : (owL (τ.2.1 3) p 30).length ≤ 8 := ow8 h.2.2 hp
theorem trT_r {τ : St} (h : Lh τ) : ∀ p, 0 ≤ p ∧ p < 3 → 0 ≤ trT τ p ∧ trT τ p ≤ 8 := fun p hp => tr_r (h.ow hp)
theorem hoF_r {L : Int → Int} {h : Int} (hL : ∀ p, 0 ≤ p ∧ p < 3 → 0 ≤ L p ∧ L p ≤ 8) (hh : -1 ≤ h ∧ h < 3) : -1 ≤ hoF L h ∧ hoF L h < 3 := by
  rw [(ho_P hL hh).1]
  exact hoP_r _ _ _ hh
theorem Lh.lk {τ : St} (h : Lh τ) : Wi (lkS τ) := by
  have e := hoF_r (trT_r h) h.1.2.2.2.1
  unfold lkS
  generalize hoF (trT τ) (τ.1 4) = z at e ⊢
  exact ⟨h.1.1, h.1.2.1, h.1.2.2.1, e, h.1.2.2.2.2.1, h.1.2.2.2.2.2⟩
theorem Lh.lk2 {τ : St} (h : Lh τ) : Lh (lkS τ) := by
  have e := h.lk
  unfold lkS at *
  generalize hoF (trT τ) (τ.1 4) = z at e ⊢
  exact ⟨e, h.2.1, h.2.2⟩
theorem Iv.lh {τ : St} (h : Iv τ) : Lh τ := ⟨h.wi, h.hr, h.hrc⟩
theorem Lh.b {τ : St} (h : Lh τ) {c v : Int} (hv : -1 ≤ v ∧ v ≤ 5) : Lh (sAt τ 2 c v) := ⟨⟨pup_b (f := τ.2.1 2) h.1.1 hv, h.1.2⟩, h.2⟩
theorem Lh.r {τ : St} (h : Lh τ) {e v : Int} (hv : -1 ≤ v ∧ v ≤ 2) (hc : ∀ p, 0 ≤ p ∧ p < 3 → cntN (pup (τ.2.1 3) e v) p 30 ≤ 8) : Lh (sAt τ 3 e v) := ⟨h.1, pup_b (f := τ.2.1 3) h.2.1 hv, hc⟩
theorem Lh.h {τ : St} (h : Lh τ) (k : Int → Int → Int) : Lh (sH τ 0 k) := h
theorem Lh.mv {τ : St} (h : Lh τ) (f t n : Int) : Lh (mvA τ f t n) := by
  rw [mvA_eq]
  exact h
theorem Lh.use {τ : St} (h : Lh τ) (hI : Iv τ) {k : Int} (hu : canU τ (τ.1 1) k = true) : Lh (usS τ (τ.1 1) k) := by
  have h3 : (usS τ (τ.1 1) k).2.1 3 = τ.2.1 3 := usS_2 τ _ _ 3 (by decide)
  refine ⟨Wi.use h.1 (fun k => (hI.hfr k).1) hu, ?_, ?_⟩
  · rw [h3]; exact h.2.1
  · rw [h3]; exact h.2.2
theorem cnt_far {f : Int → Int} {e v b : Int} : ∀ n : Nat, (n : Int) ≤ e → cntN (pup f e v) b n = cntN f b n
  | 0, _ => rfl
  | n + 1, h => by
    have ih := cnt_far (f := f) (e := e) (v := v) (b := b) n (by omega)
    simp only [cntN]
    rw [ih]
    have : pup f e v (n : Int) = f (n : Int) := if_neg (by omega)
    rw [this]
theorem cnt_pup {f : Int → Int} {e v b : Int} (h0 : 0 ≤ e) : ∀ n : Nat, e < n → cntN (pup f e v) b n = cntN f b n - (if f e = b then 1 else 0) + (if v = b then 1 else 0)
  | 0, h => by omega
  | n + 1, h => by
    simp only [cntN]
    by_cases he : e = (n : Int)
    · subst he
      have h1 : pup f (n : Int) v (n : Int) = v := if_pos rfl
      rw [h1, cnt_far n (Int.le_refl _)]
      omega
    · have h1 : pup f e v (n : Int) = f (n : Int) := if_neg (by omega)
      rw [h1, cnt_pup h0 n (by omega)]
      omega
theorem cnt_put {τ : St} {e v : Int} (he : 0 ≤ e ∧ e < 30) (hf : τ.2.1 3 e = -1) (h : ∀ p, 0 ≤ p ∧ p < 3 → cntN (τ.2.1 3) p 30 ≤ 8) (hv : cntN (τ.2.1 3) v 30 < 8) : ∀ p, 0 ≤ p ∧ p < 3 → cntN (pup (τ.2.1 3) e v) p 30 ≤ 8 := by
  intro p hp
  rw [cnt_pup he.1 30 (by omega), hf, if_neg (by omega)]
  have := h p hp
  by_cases hvp : v = p
  · subst hvp
    rw [if_pos rfl]
    omega
  · rw [if_neg hvp]
    omega
theorem gnN_Lh {p c : Int} {τ : St} (h : Lh τ) (n : Nat) : Lh (gnN p c τ n) := by
  have h1 := gnN_s p c τ n
  have h2 := gnN_2 p c τ n
  have h3 := gnN_3 p c τ 1 (by decide) n
  unfold Lh Wi
  rw [h1, h2, h3]
  exact h
theorem canR_is {τ : St} {e : Int} (h : canR τ e = true) : cntN (τ.2.1 3) (τ.1 1) 30 < 8 ∧ τ.2.1 3 e = -1 := by
  simp only [canR, roadC, Bool.and_eq_true, decide_eq_true_eq] at h
  exact ⟨h.1, h.2.1⟩
theorem sAt_back {τ : St} {k : Nat} {e v : Int} : sAt (sAt τ k e v) k e (τ.2.1 k e) = τ := by
  unfold sAt sA
  refine Prod.ext rfl (Prod.ext (funext fun j => ?_) rfl)
  simp only [sup]
  split
  · next h =>
    subst h
    refine funext fun i => ?_
    simp only [if_true, pup]
    split
    · next h => rw [h]
    · rfl
  · rfl
/-- the second house brings its goods -/
def plS (τ : St) (c e : Int) : St := sAt (sAt τ 2 c (τ.1 1)) 3 e (τ.1 1)
def pgS (τ : St) (c e : Int) : St := if 3 ≤ τ.1 2 then gnN (τ.1 1) c (plS τ c e) 7 else plS τ c e
def xPlS (τ : St) (c e : Int) : St := gopS (sS (lkS (pgS τ c e)) 2 (τ.1 2 + 1))
def xPlace (τ : St) (c e : Int) : XR := if ¬ ((0 ≤ c ∧ c < 24) ∧ (0 ≤ e ∧ e < 30)) then (1, 0, τ) else if ¬ (τ.1 0 = 0 ∧ freeC (τ.2.1 2) c = true ∧ isE e c = true ∧ τ.2.1 3 e = -1) then (2, 0, τ) else (0, (xPlS τ c e).1 1, xPlS τ c e)
def pgK (κ τ : St) (c e : Int) : St := if 3 ≤ τ.1 2 then gkN (τ.1 1) c (plS τ c e) κ 7 else κ
def kPlace (κ τ : St) (c e : Int) : St := if (xPlace τ c e).1 = 0 then utK ((pgS τ c e).2.1 2) ((pgS τ c e).2.1 3) (pgK κ τ c e) 3 else κ
def rdS (τ : St) (e : Int) : St := sAt (mvA τ (τ.1 1) 3 11) 3 e (τ.1 1)
def xRoad (τ : St) (e : Int) : XR := if ¬ (0 ≤ e ∧ e < 30) then (1, 0, τ) else if ¬ (τ.1 0 = 2 ∧ canR τ e = true ∧ hasG (τ.2.2 0) (τ.1 1) 11 = true) then (2, 0, τ) else (0, trT (rdS τ e) (τ.1 1), winS (lkS (rdS τ e)))
def kRoad (κ τ : St) (e : Int) : St := if (xRoad τ e).1 = 0 then gaN ((rdS τ e).2.1 2) ((rdS τ e).2.1 3) (τ.1 1) (utK ((rdS τ e).2.1 2) ((rdS τ e).2.1 3) (mvAK κ (τ.1 1) 3 11) 3) 30 else κ
def hsS (τ : St) (c : Int) : St := sAt (mvA τ (τ.1 1) 3 1111) 2 c (τ.1 1)
def xHouse (τ : St) (c : Int) : XR := if ¬ (0 ≤ c ∧ c < 24) then (1, 0, τ) else if ¬ (τ.1 0 = 2 ∧ cntN (τ.2.1 2) (τ.1 1) 24 < 4 ∧ freeC (τ.2.1 2) c = true ∧ roadAtC (τ.2.1 3) (τ.1 1) c = true ∧ hasG (τ.2.2 0) (τ.1 1) 1111 = true) then (2, 0, τ) else (0, ptsF (winS (lkS (hsS τ c))) (τ.1 1), winS (lkS (hsS τ c)))
def kHouse (κ τ : St) (c : Int) : St := if (xHouse τ c).1 = 0 then utK ((hsS τ c).2.1 2) ((hsS τ c).2.1 3) (mvAK κ (τ.1 1) 3 1111) 3 else κ
def ctS (τ : St) (c : Int) : St := sAt (mvA τ (τ.1 1) 3 32000) 2 c (3 + τ.1 1)
def xCity (τ : St) (c : Int) : XR := if ¬ (0 ≤ c ∧ c < 24) then (1, 0, τ) else if ¬ (τ.1 0 = 2 ∧ cntN (τ.2.1 2) (3 + τ.1 1) 24 < 3 ∧ τ.2.1 2 c = τ.1 1 ∧ hasG (τ.2.2 0) (τ.1 1) 32000 = true) then (2, 0, τ) else (0, ptsF (winS (lkS (ctS τ c))) (τ.1 1), winS (lkS (ctS τ c)))
def kCity (κ τ : St) (c : Int) : St := if (xCity τ c).1 = 0 then utK ((ctS τ c).2.1 2) ((ctS τ c).2.1 3) (mvAK κ (τ.1 1) 3 32000) 3 else κ
def rwS (τ : St) (a b : Int) : St := if b = -1 then sAt τ 3 a (τ.1 1) else sAt (sAt τ 3 a (τ.1 1)) 3 b (τ.1 1)
def xRoads (τ : St) (a b : Int) : XR := if ¬ ((0 ≤ a ∧ a < 30) ∧ (b = -1 ∨ (0 ≤ b ∧ b < 30))) then (1, 0, τ) else if ¬ (mayU τ 1 = true ∧ canR τ a = true ∧ (b = -1 ∨ canR (sAt τ 3 a (τ.1 1)) b = true)) then (2, 0, τ) else (0, trT (rwS τ a b) (τ.1 1), winS (lkS (usS (rwS τ a b) (τ.1 1) 1)))
def ruS (τ : St) (a b : Int) : St := usS (rwS τ a b) (τ.1 1) 1
def kRoads (κ τ : St) (a b : Int) : St := if (xRoads τ a b).1 = 0 then gaN ((ruS τ a b).2.1 2) ((ruS τ a b).2.1 3) (τ.1 1) (utK ((ruS τ a b).2.1 2) ((ruS τ a b).2.1 3) κ 3) 30 else κ
def xTrail (τ : St) (p : Int) : XR := if ¬ (0 ≤ p ∧ p < 3) then (1, 0, τ) else (0, trT τ p, τ)
def kTrail (κ τ : St) (p : Int) : St := if (xTrail τ p).1 = 0 then gaN (τ.2.1 2) (τ.2.1 3) p κ 30 else κ
theorem win_p {τ : St} (h : τ.1 0 = 0) : winS (lkS τ) = lkS τ := by
  unfold winS
  rw [if_neg (fun z => z.1 h)]
theorem plS_Lh {τ : St} (hI : Iv τ) (h0 : τ.1 0 = 0) {c e : Int} (he : 0 ≤ e ∧ e < 30) (hf : τ.2.1 3 e = -1) : Lh (plS τ c e) := by
  have ht := hI.htu
  have hp := hI.hpp h0
  have hc := (hp.2.2.1 (τ.1 1) ht).2.2
  have hl : plc (τ.1 2) (τ.1 1) ≤ 2 := by unfold plc; (repeat' split) <;> omega
  exact (hI.lh.b (by omega)).r (by omega) (cnt_put (τ := sAt τ 2 c (τ.1 1)) he hf hI.hrc (by show cntN (τ.2.1 3) (τ.1 1) 30 < 8; omega))
theorem pgS_Lh {τ : St} (hI : Iv τ) (h0 : τ.1 0 = 0) {c e : Int} (he : 0 ≤ e ∧ e < 30) (hf : τ.2.1 3 e = -1) : Lh (pgS τ c e) := by
  unfold pgS
  split
  · exact gnN_Lh (plS_Lh hI h0 he hf) 7
  · exact plS_Lh hI h0 he hf
theorem rdS_Lh {τ : St} (hI : Iv τ) {e : Int} (he : 0 ≤ e ∧ e < 30) (hc : canR τ e = true) : Lh (rdS τ e) := by
  have ht := hI.htu
  obtain ⟨h1, h2⟩ := canR_is hc
  unfold rdS
  have h3 : (mvA τ (τ.1 1) 3 11).2.1 = τ.2.1 := by rw [mvA_eq]; rfl
  refine (hI.lh.mv _ _ _).r (by omega) ?_
  rw [h3]
  exact cnt_put he h2 hI.hrc h1
theorem hsS_Lh {τ : St} (hI : Iv τ) {c : Int} : Lh (hsS τ c) := by
  have ht := hI.htu
  exact (hI.lh.mv _ _ _).b (by omega)
theorem ctS_Lh {τ : St} (hI : Iv τ) {c : Int} : Lh (ctS τ c) := by
  have ht := hI.htu
  exact (hI.lh.mv _ _ _).b (by omega)
theorem r1_Lh {τ : St} (hI : Iv τ) {a : Int} (ha : 0 ≤ a ∧ a < 30) (hc : canR τ a = true) : Lh (sAt τ 3 a (τ.1 1)) := by
  have ht := hI.htu
  obtain ⟨h1, h2⟩ := canR_is hc
  exact hI.lh.r (by omega) (cnt_put ha h2 hI.hrc h1)
theorem r2_Lh {τ : St} (hI : Iv τ) {a b : Int} (ha : 0 ≤ a ∧ a < 30) (hc : canR τ a = true) (hb : 0 ≤ b ∧ b < 30) (hd : canR (sAt τ 3 a (τ.1 1)) b = true) : Lh (sAt (sAt τ 3 a (τ.1 1)) 3 b (τ.1 1)) := by
  have ht := hI.htu
  have hl := r1_Lh hI ha hc
  obtain ⟨h1, h2⟩ := canR_is hd
  exact hl.r (by omega) (cnt_put hb h2 hl.2.2 h1)
theorem rwS_Lh {τ : St} (hI : Iv τ) {a b : Int} (ha : 0 ≤ a ∧ a < 30) (hc : canR τ a = true) (hb : b = -1 ∨ (0 ≤ b ∧ b < 30)) (hd : b = -1 ∨ canR (sAt τ 3 a (τ.1 1)) b = true) : Lh (rwS τ a b) := by
  unfold rwS
  by_cases e : b = -1
  · rw [if_pos e]; exact r1_Lh hI ha hc
  · rw [if_neg e]; exact r2_Lh hI ha hc (hb.resolve_left e) (hd.resolve_left e)
theorem us_Lh {σ : St} {t : Int} (h : Lh σ) (hf : ∀ k, 0 ≤ σ.2.1 5 k) (ht : σ.1 1 = t) (hu : canU σ t 1 = true) : Lh (usS σ t 1) := by
  subst ht
  have h3 : (usS σ (σ.1 1) 1).2.1 3 = σ.2.1 3 := usS_2 σ _ _ 3 (by decide)
  refine ⟨Wi.use h.1 hf hu, ?_, ?_⟩
  · rw [h3]; exact h.2.1
  · rw [h3]; exact h.2.2
theorem us_tr (σ : St) (t k : Int) : trT (usS σ t k) = trT σ := by
  unfold trT
  rw [usS_2 σ t k 2 (by decide), usS_2 σ t k 3 (by decide)]
theorem gn_tr (p c : Int) (τ : St) (n : Nat) : trT (gnN p c τ n) = trT τ := by
  unfold trT
  rw [gnN_2]
theorem rwS_1 (τ : St) (a b : Int) : (rwS τ a b).1 = τ.1 := by unfold rwS; split <;> rfl
theorem rwS_22 (τ : St) (a b : Int) : (rwS τ a b).2.2 = τ.2.2 := by unfold rwS; split <;> rfl
theorem rwS_5 (τ : St) (a b : Int) : (rwS τ a b).2.1 5 = τ.2.1 5 := by unfold rwS; split <;> rfl
theorem rwS_U (τ : St) (a b p k : Int) : canU (rwS τ a b) p k = canU τ p k := by
  unfold canU
  rw [rwS_1, rwS_22, rwS_5]
theorem Wi.win {τ : St} (h : Wi τ) : Wi (winS τ) := by
  refine ⟨?_, ?_, ?_, ?_, ?_, ?_⟩
  · rw [winS_2]; exact h.1
  · rw [winS_2]; exact h.2.1
  · rw [winS_1 _ _ (by decide)]; exact h.2.2.1
  · rw [winS_1 _ _ (by decide)]; exact h.2.2.2.1
  · unfold winS
    split
    · show 0 ≤ (5 : Int) ∧ (5 : Int) ≤ 5; omega
    · exact h.2.2.2.2.1
  · rw [winS_1 _ _ (by decide)]; exact h.2.2.2.2.2
theorem Lh.win {τ : St} (h : Lh τ) : Lh (winS τ) := by
  refine ⟨h.1.win, ?_, ?_⟩
  · rw [winS_2]; exact h.2.1
  · rw [winS_2]; exact h.2.2
theorem gkN_2 (p c : Int) (τ κ : St) : ∀ n : Nat, (gkN p c τ κ n).2.1 = κ.2.1
  | 0 => rfl
  | n + 1 => by
    have ih := gkN_2 p c τ κ n
    show (if gnC (gnN p c τ n) c (n : Int) = true then mvK (gkN p c τ κ n) 3 p ((gnN p c τ n).2.1 0 (n : Int)) 1 else gkN p c τ κ n).2.1 = _
    split
    · exact ih
    · exact ih
theorem pgS_1 (τ : St) (c e : Int) : (pgS τ c e).1 = τ.1 := by
  unfold pgS
  split
  · rw [gnN_s]; rfl
  · rfl
theorem pgK_2 (κ τ : St) (c e : Int) : (pgK κ τ c e).2.1 = κ.2.1 := by
  unfold pgK
  split
  · exact gkN_2 _ _ _ _ _
  · rfl
theorem ruS_1 (τ : St) (a b : Int) : (ruS τ a b).1 1 = τ.1 1 := by
  unfold ruS
  rw [usS_1 _ _ _ _ (by decide) (by decide), rwS_1]
theorem ruS_Lh {τ : St} (hI : Iv τ) {a b : Int} (ha : 0 ≤ a ∧ a < 30) (hc : canR τ a = true) (hb : b = -1 ∨ (0 ≤ b ∧ b < 30)) (hd : b = -1 ∨ canR (sAt τ 3 a (τ.1 1)) b = true) (hu : canU τ (τ.1 1) 1 = true) : Lh (ruS τ a b) := by
  refine us_Lh (rwS_Lh hI ha hc hb hd) (fun k => ?_) (by rw [rwS_1]) (by rw [rwS_U]; exact hu)
  rw [rwS_5]
  exact (hI.hfr k).1
