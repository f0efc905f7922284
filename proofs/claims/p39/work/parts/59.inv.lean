theorem gaN_22 (b r : Int → Int) (p : Int) (κ : St) : ∀ n : Nat, (gaN b r p κ n).2.2 = κ.2.2
  | 0 => rfl
  | n + 1 => by
    have ih := gaN_22 b r p κ n
    show (ga1 b r p (n : Int) (gaN b r p κ n)).2.2 = _
    unfold ga1
    split
    · exact ih
    · exact ih
/-! ===== what holds between two calls ===== -/
def Kv (τ κ : St) : Prop := (∀ i, 0 ≤ κ.2.1 0 i ∧ κ.2.1 0 i ≤ 63) ∧ (∀ i, 0 ≤ κ.2.1 1 i ∧ κ.2.1 1 i ≤ 63) ∧ (∀ p g, 0 ≤ p ∧ p < 4 → 0 ≤ g ∧ g < 5 → cbm (κ.2.2 0) p g = τ.2.2 0 p g) ∧ ∀ p, ¬ (0 ≤ p ∧ p < 3) → τ.2.1 4 p = 0
def Jv (τ κ : St) : Prop := Iv τ ∧ hoF (trT τ) (τ.1 4) = τ.1 4 ∧ Kv τ κ
theorem and63 (x : Int) : 0 ≤ iA x 63 ∧ iA x 63 < 64 := by
  unfold iA
  show 0 ≤ (Int32.ofInt x &&& Int32.ofInt 63).toBitVec.toInt ∧ (Int32.ofInt x &&& Int32.ofInt 63).toBitVec.toInt < 64
  rw [Int32.toBitVec_and]
  have h2 : (Int32.ofInt 63).toBitVec = 63#32 := by decide +kernel
  rw [h2]
  generalize (Int32.ofInt x).toBitVec = X
  have h3 : (X &&& 63#32).toNat < 64 := by
    rw [BitVec.toNat_and, BitVec.toNat_ofNat]
    exact Nat.lt_of_le_of_lt Nat.and_le_right (by decide)
  rw [BitVec.toInt_eq_toNat_of_lt (by omega)]
  omega
theorem xHandK_eq {τ κ : St} (hJ : Jv τ κ) {p g : Int} : xHandK κ τ p g = xHand τ p g := by
  unfold xHandK xHand
  by_cases h1 : 0 ≤ p ∧ p < 4
  · by_cases h2 : 0 ≤ g ∧ g < 5
    · rw [hJ.2.2.2.2.1 p g h1 h2]
    · rw [if_pos h2, if_pos h2]
  · rw [if_pos h1, if_pos h1]
theorem J_hand {τ κ : St} (hJ : Jv τ κ) (p g : Int) : Jv (xHand τ p g).2.2 κ := by unfold xHand; (repeat' split) <;> exact hJ
theorem J_handByMoves {τ κ : St} (hJ : Jv τ κ) (p g : Int) : Jv (xHand τ p g).2.2 κ := J_hand hJ p g
theorem J_due {τ κ : St} (hJ : Jv τ κ) (p : Int) : Jv (xDue τ p).2.2 κ := by unfold xDue; (repeat' split) <;> exact hJ
theorem J_points {τ κ : St} (hJ : Jv τ κ) (p : Int) : Jv (xPoints τ p).2.2 κ := by unfold xPoints; (repeat' split) <;> exact hJ
theorem J_knights {τ κ : St} (hJ : Jv τ κ) (p : Int) : Jv (xKnights τ p).2.2 κ := by unfold xKnights; (repeat' split) <;> exact hJ
theorem J_cards {τ κ : St} (hJ : Jv τ κ) (p k : Int) : Jv (xCards τ p k).2.2 κ := by unfold xCards; (repeat' split) <;> exact hJ
theorem J_buildingAt {τ κ : St} (hJ : Jv τ κ) (p : Int) : Jv (xBuilding τ p).2.2 κ := by unfold xBuilding; (repeat' split) <;> exact hJ
theorem J_roadAt {τ κ : St} (hJ : Jv τ κ) (p : Int) : Jv (xRoadAt τ p).2.2 κ := by unfold xRoadAt; (repeat' split) <;> exact hJ
theorem J_rate {τ κ : St} (hJ : Jv τ κ) (p g : Int) : Jv (xRate τ p g).2.2 κ := by unfold xRate; (repeat' split) <;> exact hJ
theorem J_wouldGet {τ κ : St} (hJ : Jv τ κ) (p g u : Int) : Jv (xWould τ p g u).2.2 κ := by unfold xWould; (repeat' split) <;> exact hJ
theorem Kv.ga {τ κ : St} (h : Kv τ κ) (b r : Int → Int) (p : Int) : Kv τ (gaN b r p κ 30) := by
  refine ⟨gaN_on b r p κ h.1 30 (by omega), gaN_ot b r p κ h.2.1 30 (by omega), ?_⟩
  rw [gaN_22]
  exact h.2.2
theorem Kv.ut {τ κ : St} (h : Kv τ κ) (b r : Int → Int) : ∀ n : Nat, Kv τ (utK b r κ n)
  | 0 => h
  | n + 1 => by
    rw [utK_succ]
    exact (Kv.ut h b r n).ga b r _
theorem J_trail {τ κ : St} (hJ : Jv τ κ) (p : Int) : Jv (xTrail τ p).2.2 (kTrail κ τ p) := by
  unfold kTrail xTrail
  by_cases h : 0 ≤ p ∧ p < 3
  · rw [if_neg (fun z => z h), if_pos rfl]
    exact ⟨hJ.1, hJ.2.1, hJ.2.2.ga _ _ _⟩
  · rw [if_pos h, if_neg (show ¬ (1 : Int) = 0 by decide)]
    exact hJ
theorem J_trailBySets {τ κ : St} (hJ : Jv τ κ) (p : Int) : Jv (xTrail τ p).2.2 (kTrail κ τ p) := J_trail hJ p
/-! the code that the reference keeps -/
theorem r1_rWould (τ ρ : St) (p g u : Int) : (rWould τ ρ p g u).1 0 = (xWould τ p g u).1 := by
  unfold rWould
  split
  · next h => rw [rkF_s, h]; rfl
  · rfl
theorem r1_rRoll (τ ρ : St) (a b : Int) : (rRoll τ ρ a b).1 0 = (xRoll τ a b).1 := by
  unfold rRoll
  split
  · next h => rw [rkF_s, h.1]; rfl
  · rfl
/-! ===== it holds after each call ===== -/
theorem cbm_mvK {κ : St} {f t g m p k : Int} (hf : 0 ≤ f ∧ f < 4) (ht : 0 ≤ t ∧ t < 4) (hp : 0 ≤ p ∧ p < 4) : cbm ((mvK κ f t g m).2.2 0) p k = cbm (κ.2.2 0) p k + ((if p = t then (if k = g then m else 0) else 0) - (if p = f then (if k = g then m else 0) else 0)) := by
  have e : (mvK κ f t g m).2.2 0 = pup2 (κ.2.2 0) (f * 4 + t) g (κ.2.2 0 (f * 4 + t) g + m) := by simp [mvK, sHt, sH, sup]
  rw [e]
  unfold cbm
  simp only [pup2_at]
  by_cases hk : k = g
  · subst hk
    rcases (show p = 0 ∨ p = 1 ∨ p = 2 ∨ p = 3 from by omega) with rfl | rfl | rfl | rfl <;> rcases (show f = 0 ∨ f = 1 ∨ f = 2 ∨ f = 3 from by omega) with rfl | rfl | rfl | rfl <;> rcases (show t = 0 ∨ t = 1 ∨ t = 2 ∨ t = 3 from by omega) with rfl | rfl | rfl | rfl <;> simp <;> omega
  · simp [hk]
theorem Kv.of {τ σ κ : St} (h : Kv τ κ) (e : σ.2.2 0 = τ.2.2 0) (ed : σ.2.1 4 = τ.2.1 4) : Kv σ κ := by
  unfold Kv
  rw [e, ed]
  exact h
theorem Kv.mv {τ κ : St} (h : Kv τ κ) {f t : Int} (hf : 0 ≤ f ∧ f < 4) (ht : 0 ≤ t ∧ t < 4) (g m : Int) : Kv (mvS τ f t g m) (mvK κ f t g m) := by
  refine ⟨h.1, h.2.1, fun p k hp hk => ?_, ?_⟩
  · rw [cbm_mvK hf ht hp, h.2.2.1 p k hp hk, mvS_eq, sH_at]
    rfl
  · rw [mvS_eq]
    exact h.2.2.2
theorem Kv.mvA {τ κ : St} (h : Kv τ κ) {f t : Int} (hf : 0 ≤ f ∧ f < 4) (ht : 0 ≤ t ∧ t < 4) (n : Int) : Kv (mvA τ f t n) (mvAK κ f t n) := ((((h.mv hf ht _ _).mv hf ht _ _).mv hf ht _ _).mv hf ht _ _).mv hf ht _ _
def Hv (τ : St) : Prop := hoF (trT τ) (τ.1 4) = τ.1 4
theorem Hv.of {τ σ : St} (h : Hv τ) (e2 : σ.2.1 2 = τ.2.1 2) (e3 : σ.2.1 3 = τ.2.1 3) (e4 : σ.1 4 = τ.1 4) : Hv σ := by
  unfold Hv trT at *
  rw [e2, e3, e4]
  exact h
theorem hoP_idem {a b c h : Int} (hh : -1 ≤ h ∧ h < 3) : hoP a b c (hoP a b c h) = hoP a b c h := by
  by_cases h1 : hoP a b c h = h
  · rw [h1, h1]
  · have h2 : hoP a b c h = -1 ∨ hoP a b c h = 0 ∨ hoP a b c h = 1 ∨ hoP a b c h = 2 := by
      have := hoP_r a b c hh
      omega
    have key : ∀ z, hoP a b c h = z → z ≠ h → (z = 0 → 5 ≤ a ∧ b < a ∧ c < a) ∧ (z = 1 → 5 ≤ b ∧ a < b ∧ c < b) ∧ (z = 2 → 5 ≤ c ∧ a < c ∧ b < c) ∧ (z = -1 → (a < 5 ∧ b < 5 ∧ c < 5) ∨ (a = b ∧ c ≤ a) ∨ (a = c ∧ b ≤ a) ∨ (b = c ∧ a ≤ b)) := by
      intro z hz hne
      unfold hoP at hz
      (repeat' split at hz) <;> omega
    obtain ⟨k0, k1, k2, k3⟩ := key _ rfl h1
    rcases h2 with e | e | e | e
    · have := k3 e
      rw [e]
      by_cases low : a < 5 ∧ b < 5 ∧ c < 5
      · exact hoP_low low
      · exact hoP_n (by omega)
    · rw [e]; exact hoP_u0 (k0 e)
    · rw [e]; exact hoP_u1 (k1 e)
    · rw [e]; exact hoP_u2 (k2 e)
theorem Hv.lk {τ : St} (h : Lh τ) : Hv (lkS τ) := by
  have l := trT_r h
  have hh := h.1.2.2.2.1
  have e := hoP_idem (a := trT τ 0) (b := trT τ 1) (c := trT τ 2) hh
  have r := hoP_r (trT τ 0) (trT τ 1) (trT τ 2) hh
  have e1 := (ho_P l hh).1
  have e2 := (ho_P l r).1
  have e3 : trT (lkS τ) = trT τ := by
    unfold trT
    rw [show (lkS τ).2 = τ.2 from rfl]
  have e4 : (lkS τ).1 4 = hoF (trT τ) (τ.1 4) := by
    unfold lkS
    generalize hoF (trT τ) (τ.1 4) = z
    rfl
  unfold Hv
  rw [e3, e4, e1, e2, e]
theorem win_4 (τ : St) : (winS τ).1 4 = τ.1 4 := winS_1 τ 4 (by decide)
theorem Hv.win {τ : St} (h : Hv τ) : Hv (winS τ) := h.of (by rw [winS_2]) (by rw [winS_2]) (win_4 τ)
theorem Jv.mk {τ κ : St} (h1 : Iv τ) (h2 : Hv τ) (h3 : Kv τ κ) : Jv τ κ := ⟨h1, h2, h3⟩
/-! parts of the state, one by one -/
theorem Iv.h {τ : St} (h : Iv τ) {k : Int → Int → Int} (hH : HH k) : Iv (sH τ 0 k) := Iv.mk h.hb h.hr h.hg h.hn h.h7 (by rw [sH_at]; exact hH.1) (by rw [sH_at]; exact hH.2) h.hcd h.hfr h.hkn h.hbo h.hus h.hro h.har h.hth h.hph h.htu h.hrb h.hpl h.hdu h.hdp h.hof h.how h.hga h.hwa h.hck h.hkz h.hcb h.hfb h.hnr h.hpp h.hpq h.hrc h.hbc h.hcc h.hac
theorem Iv.mvS {τ : St} (h : Iv τ) {f t g m : Int} (hf : 0 ≤ f ∧ f < 4) (ht : 0 ≤ t ∧ t < 4) (hg : 0 ≤ g ∧ g < 5) (hm : 0 ≤ m ∧ m ≤ τ.2.2 0 f g) : Iv (mvS τ f t g m) := by
  have hH := HH_mvS h.hH hf ht hg hm
  rw [mvS_eq, sH_at] at hH
  rw [mvS_eq]
  exact h.h hH
theorem Iv.mvA {τ : St} (h : Iv τ) {f t n : Int} (hf : 0 ≤ f ∧ f < 4) (ht : 0 ≤ t ∧ t < 4) (hg : hasG (τ.2.2 0) f n = true) : Iv (mvA τ f t n) := by
  have hH := HH_mvA h.hH hf ht hg
  rw [mvA_eq, sH_at] at hH
  rw [mvA_eq]
  exact h.h hH
theorem Hv.h {τ : St} (h : Hv τ) (k : Int → Int → Int) : Hv (sH τ 0 k) := h
theorem Hv.mvS {τ : St} (h : Hv τ) (f t g m : Int) : Hv (mvS τ f t g m) := by rw [mvS_eq]; exact h
theorem Hv.mvA {τ : St} (h : Hv τ) (f t n : Int) : Hv (mvA τ f t n) := by rw [mvA_eq]; exact h
theorem Iv.rb {τ : St} (h : Iv τ) {v : Int} (hv : 0 ≤ v ∧ v < 7) : Iv (sS τ 5 v) := Iv.mk h.hb h.hr h.hg h.hn h.h7 h.hh h.hsm h.hcd h.hfr h.hkn h.hbo h.hus h.hro h.har h.hth h.hph h.htu (hv) h.hpl h.hdu h.hdp h.hof h.how h.hga h.hwa h.hck h.hkz h.hcb h.hfb h.hnr h.hpp h.hpq h.hrc h.hbc h.hcc h.hac
/-- the course goes on: phase 2 -/
theorem Iv.ph2 {τ : St} (h : Iv τ) (h2 : 2 ≤ τ.1 0) (hd : τ.1 0 = 4 ∨ τ.1 0 = 2 ∨ τ.1 0 = 5) : Iv (sS τ 0 2) := Iv.mk h.hb h.hr h.hg h.hn h.h7 h.hh h.hsm h.hcd h.hfr h.hkn h.hbo h.hus h.hro h.har h.hth (by show 0 ≤ (2 : Int) ∧ (2 : Int) ≤ 5; omega) h.htu h.hrb h.hpl h.hdu (fun _ => h.hdp (by omega)) h.hof h.how h.hga h.hwa h.hck h.hkz h.hcb h.hfb (fun e => absurd (h.hnr e).1 (by omega)) (fun e => absurd (show (2 : Int) = 0 from e) (by decide)) (fun _ => h.hpq (by omega)) h.hrc h.hbc h.hcc h.hac
theorem Iv.win {τ : St} (h : Iv τ) (h3 : τ.1 3 ≠ 0) (hd : τ.1 0 ≠ 3) : Iv (winS τ) := by
  unfold winS
  split
  · next hw =>
    exact Iv.mk h.hb h.hr h.hg h.hn h.h7 h.hh h.hsm h.hcd h.hfr h.hkn h.hbo h.hus h.hro h.har h.hth (by show 0 ≤ (5 : Int) ∧ (5 : Int) ≤ 5; omega) h.htu h.hrb h.hpl h.hdu (fun _ => h.hdp hd) h.hof h.how h.hga h.hwa h.hck h.hkz h.hcb h.hfb (fun e => absurd e h3) (fun e => absurd (show (5 : Int) = 0 from e) (by decide)) (fun _ => h.hpq hw.1) h.hrc h.hbc h.hcc h.hac
  · exact h
theorem Iv.win0 {τ : St} (h : Iv τ) (h3 : τ.1 0 = 0) : Iv (winS τ) := by
  unfold winS
  rw [if_neg (fun z => z.1 h3)]
  exact h
theorem Iv.offer {τ : St} (h : Iv τ) {a b : Int} (ha : 0 ≤ a ∧ a ≤ 99999) (hb : 0 ≤ b ∧ b ≤ 99999) : Iv (ofS τ a b) := Iv.mk h.hb h.hr h.hg h.hn h.h7 h.hh h.hsm h.hcd h.hfr h.hkn h.hbo h.hus h.hro h.har h.hth h.hph h.htu h.hrb h.hpl h.hdu h.hdp (ha) (hb) (pup_b (pup_b (pup_b h.hga (by omega)) (by omega)) (by omega)) (pup_b (pup_b (pup_b h.hwa (by omega)) (by omega)) (by omega)) h.hck h.hkz h.hcb h.hfb h.hnr h.hpp h.hpq h.hrc h.hbc h.hcc h.hac
theorem Hv.offer {τ : St} (h : Hv τ) (a b : Int) : Hv (ofS τ a b) := h
theorem Kv.offer {τ κ : St} (h : Kv τ κ) (a b : Int) : Kv (ofS τ a b) κ := h
theorem J_layHex {τ κ : St} (hJ : Jv τ κ) (h g n : Int) : Jv (xLay τ h g n).2.2 κ := by
  unfold xLay
  split
  · exact hJ
  · split
    · exact hJ
    · split
      · exact hJ
      · next a b c =>
        have hI := hJ.1
        refine Jv.mk (Iv.mk hI.hb hI.hr (pup_b (f := τ.2.1 0) hI.hg (by omega)) (pup_b (f := τ.2.1 1) hI.hn (by omega)) (fun j => by show (if j = h then n else τ.2.1 1 j) = 7 ↔ (if j = h then g else τ.2.1 0 j) = 5; have := hI.h7 j; split <;> omega) hI.hh hI.hsm hI.hcd hI.hfr hI.hkn hI.hbo hI.hus hI.hro hI.har hI.hth hI.hph hI.htu hI.hrb hI.hpl hI.hdu hI.hdp hI.hof hI.how hI.hga hI.hwa hI.hck hI.hkz hI.hcb hI.hfb hI.hnr hI.hpp hI.hpq hI.hrc hI.hbc hI.hcc hI.hac) (Hv.of hJ.2.1 rfl rfl rfl) (Kv.of hJ.2.2 rfl rfl)
theorem kc {x : XR} {a b : St} (h : x.1 = 0) : (if x.1 = 0 then a else b) = a := if_pos h
theorem J_deal {τ κ : St} (hJ : Jv τ κ) (p n : Int) : Jv (xDeal τ p n).2.2 (kDeal κ τ p n) := by
  unfold kDeal
  unfold xDeal
  split
  · exact hJ
  · next a =>
    split
    · exact hJ
    · next b =>
      split
      · exact hJ
      · next c =>
        have hc := Classical.not_not.mp c
        exact Jv.mk (hJ.1.mvA (by omega) (by omega) hc.2) (Hv.mvA hJ.2.1 _ _ _) (hJ.2.2.mvA (by omega) (by omega) _)
theorem J_plainS {τ κ : St} (hJ : Jv τ κ) {f t g m : Int} (hf : 0 ≤ f ∧ f < 4) (ht : 0 ≤ t ∧ t < 4) (hg : 0 ≤ g ∧ g < 5) (hm : 0 ≤ m ∧ m ≤ τ.2.2 0 f g) : Jv (mvS τ f t g m) (mvK κ f t g m) := Jv.mk (hJ.1.mvS hf ht hg hm) (Hv.mvS hJ.2.1 _ _ _ _) (hJ.2.2.mv hf ht _ _)
theorem J_plainA {τ κ : St} (hJ : Jv τ κ) {f t n : Int} (hf : 0 ≤ f ∧ f < 4) (ht : 0 ≤ t ∧ t < 4) (hg : hasG (τ.2.2 0) f n = true) : Jv (mvA τ f t n) (mvAK κ f t n) := Jv.mk (hJ.1.mvA hf ht hg) (Hv.mvA hJ.2.1 _ _ _) (hJ.2.2.mvA hf ht _)
theorem J_offer {τ κ : St} (hJ : Jv τ κ) (a b : Int) : Jv (xOffer τ a b).2.2 κ := by
  unfold xOffer
  split
  · exact hJ
  · split
    · exact hJ
    · exact Jv.mk (hJ.1.offer (by omega) (by omega)) hJ.2.1 hJ.2.2
theorem J_counter {τ κ : St} (hJ : Jv τ κ) (p a b : Int) : Jv (xCounter τ p a b).2.2 κ := by
  unfold xCounter
  split
  · exact hJ
  · split
    · exact hJ
    · next ha =>
      split
      · exact hJ
      · have hI := hJ.1
        exact Jv.mk (Iv.mk hI.hb hI.hr hI.hg hI.hn hI.h7 hI.hh hI.hsm hI.hcd hI.hfr hI.hkn hI.hbo hI.hus hI.hro hI.har hI.hth hI.hph hI.htu hI.hrb hI.hpl hI.hdu hI.hdp hI.hof hI.how (pup_b (f := τ.2.1 7) hI.hga (by omega)) (pup_b (f := τ.2.1 8) hI.hwa (by omega)) hI.hck hI.hkz hI.hcb hI.hfb hI.hnr hI.hpp hI.hpq hI.hrc hI.hbc hI.hcc hI.hac) hJ.2.1 hJ.2.2
theorem J_exc {τ κ : St} (hJ : Jv τ κ) {p g w : Int} (hp : 0 ≤ p ∧ p < 3) (h1 : hasG (τ.2.2 0) p g = true) (h2 : hasG (τ.2.2 0) (τ.1 1) w = true) : Jv (excS τ p g w) (excK τ κ p g w) := by
  have ht := hJ.1.htu
  have j1 := J_plainA hJ (f := p) (t := τ.1 1) (n := g) (by omega) (by omega) h1
  have h3 : hasG ((mvA τ p (τ.1 1) g).2.2 0) (τ.1 1) w = true := hasG_mvA h2
  have j2 := J_plainA j1 (f := τ.1 1) (t := p) (n := w) (by omega) (by omega) h3
  exact Jv.mk (j2.1.offer (by omega) (by omega)) j2.2.1 j2.2.2
theorem J_accept {τ κ : St} (hJ : Jv τ κ) (p : Int) : Jv (xAccept τ p).2.2 (kAccept κ τ p) := by
  unfold kAccept
  unfold xAccept
  split
  · exact hJ
  · next a =>
    split
    · exact hJ
    · next c =>
      have hc := Classical.not_not.mp c
      exact J_exc hJ (by omega) hc.2.2.2.1 hc.2.2.2.2
theorem J_agree {τ κ : St} (hJ : Jv τ κ) (p : Int) : Jv (xAgree τ p).2.2 (kAgree κ τ p) := by
  unfold kAgree
  unfold xAgree
  split
  · exact hJ
  · next a =>
    split
    · exact hJ
    · next c =>
      have hc := Classical.not_not.mp c
      exact J_exc hJ (by omega) hc.2.2.1 hc.2.2.2
theorem J_swap {τ κ : St} (hJ : Jv τ κ) (a b : Int) : Jv (xSwap τ a b).2.2 (kSwap κ τ a b) := by
  unfold kSwap
  unfold xSwap
  split
  · exact hJ
  · next x =>
    split
    · exact hJ
    · next c =>
      have hx := Classical.not_not.mp x
      have hc := Classical.not_not.mp c
      have ht := hJ.1.htu
      have hr := rtN_r (τ.2.1 2) (τ.1 1) a 24
      have j1 := J_plainS hJ (f := τ.1 1) (t := 3) (g := a) (m := rtN (τ.2.1 2) (τ.1 1) a 24) (by omega) (by omega) hx.1 (by omega)
      refine J_plainS j1 (by omega) (by omega) hx.2.1 ⟨by omega, ?_⟩
      rw [mvS_far _ (by omega)]
      exact hc.2.2
theorem Iv.dem {τ : St} (h : Iv τ) (h1 : τ.1 0 = 1) (h3 : τ.1 3 ≠ 0) : Iv (demS τ) := by
  have q0 := half_r (tot_r h.hh 0)
  have q1 := half_r (tot_r h.hh 1)
  have q2 := half_r (tot_r h.hh 2)
  have hd0 := h.hdp (by omega)
  unfold demS
  generalize half (tot (τ.2.2 0) 0) = d0 at *
  generalize half (tot (τ.2.2 0) 1) = d1 at *
  generalize half (tot (τ.2.2 0) 2) = d2 at *
  have hX : ∀ p, (sAt (sAt (sAt τ 4 0 d0) 4 1 d1) 4 2 d2).2.1 4 p = if p = 2 then d2 else if p = 1 then d1 else if p = 0 then d0 else τ.2.1 4 p := fun p => rfl
  have hA : anyDue ((sAt (sAt (sAt τ 4 0 d0) 4 1 d1) 4 2 d2).2.1 4) = (decide (0 < d0) || decide (0 < d1) || decide (0 < d2)) := by
    unfold anyDue
    rw [hX, hX, hX]
    simp
  rw [hA]
  by_cases ha : (decide (0 < d0) || decide (0 < d1) || decide (0 < d2)) = true
  · rw [if_pos ha]
    exact Iv.mk h.hb h.hr h.hg h.hn h.h7 h.hh h.hsm h.hcd h.hfr h.hkn h.hbo h.hus h.hro h.har h.hth (by show 0 ≤ (3 : Int) ∧ (3 : Int) ≤ 5; omega) h.htu h.hrb h.hpl (pup_b (pup_b (pup_b (f := τ.2.1 4) h.hdu (by omega)) (by omega)) (by omega)) (fun e => absurd (show (3 : Int) = 3 from rfl) e) h.hof h.how h.hga h.hwa h.hck h.hkz h.hcb h.hfb (fun e => absurd e h3) (fun e => absurd (show (3 : Int) = 0 from e) (by decide)) (fun _ => h.hpq (by omega)) h.hrc h.hbc h.hcc h.hac
  · rw [if_neg ha]
    have hz : d0 = 0 ∧ d1 = 0 ∧ d2 = 0 := by
      simp only [Bool.or_eq_true, decide_eq_true_eq] at ha
      omega
    obtain ⟨z0, z1, z2⟩ := hz
    subst z0 z1 z2
    exact Iv.mk h.hb h.hr h.hg h.hn h.h7 h.hh h.hsm h.hcd h.hfr h.hkn h.hbo h.hus h.hro h.har h.hth (by show 0 ≤ (4 : Int) ∧ (4 : Int) ≤ 5; omega) h.htu h.hrb h.hpl (pup_b (pup_b (pup_b (f := τ.2.1 4) h.hdu (by omega)) (by omega)) (by omega)) (fun _ p => by show (if p = 2 then (0 : Int) else if p = 1 then 0 else if p = 0 then 0 else τ.2.1 4 p) = 0; rw [hd0 p]; (repeat' split) <;> rfl) h.hof h.how h.hga h.hwa h.hck h.hkz h.hcb h.hfb (fun e => absurd e h3) (fun e => absurd (show (4 : Int) = 0 from e) (by decide)) (fun _ => h.hpq (by omega)) h.hrc h.hbc h.hcc h.hac
theorem Hv.dem {τ : St} (h : Hv τ) : Hv (demS τ) := h.of rfl rfl rfl
theorem Kv.dem {τ κ : St} (h : Kv τ κ) : Kv (demS τ) κ := by
  refine ⟨h.1, h.2.1, h.2.2.1, fun p hp => ?_⟩
  show (if p = 2 then half (tot (τ.2.2 0) 2) else if p = 1 then half (tot (τ.2.2 0) 1) else if p = 0 then half (tot (τ.2.2 0) 0) else τ.2.1 4 p) = 0
  rw [if_neg (by omega), if_neg (by omega), if_neg (by omega)]
  exact h.2.2.2 p hp
theorem Kv.at2 {τ κ : St} (h : Kv τ κ) (i v : Int) : Kv τ (sAt κ 2 i v) := h
theorem Kv.yg {τ κ : St} (h : Kv τ κ) (u : Int) : ∀ n : Nat, Kv (ygN τ u n) (ykN τ κ u n)
  | 0 => h
  | n + 1 => by
    have ih := Kv.yg h u n
    exact (((((ih.at2 _ _).at2 _ _).at2 _ _).mv (by omega) (by omega) _ _).mv (by omega) (by omega) _ _).mv (by omega) (by omega) _ _
theorem J_roll {τ κ : St} (hJ : Jv τ κ) (a b : Int) : Jv (xRoll τ a b).2.2 (kRoll κ τ a b) := by
  have hI := hJ.1
  by_cases g : (1 ≤ a ∧ a ≤ 6) ∧ (1 ≤ b ∧ b ≤ 6)
  · by_cases h1 : τ.1 0 = 1
    · by_cases h7 : a + b = 7
      · have hx : xRoll τ a b = (0, (demS (sS τ 3 1)).1 0, demS (sS τ 3 1)) := by unfold xRoll; rw [if_neg (fun z => z g), if_neg (fun z => z h1), if_pos h7]
        have hk : kRoll κ τ a b = κ := by unfold kRoll; rw [if_neg (fun z => z.2 h7)]
        rw [hx, hk]
        exact Jv.mk ((hI.roll h1).dem h1 (by show (1 : Int) ≠ 0; decide)) (Hv.dem (Hv.of hJ.2.1 rfl rfl rfl)) (Kv.dem (Kv.of hJ.2.2 rfl rfl))
      · have hx : xRoll τ a b = (0, 2, sS (yaS (sS τ 3 1) (a + b)) 0 2) := by unfold xRoll; rw [if_neg (fun z => z g), if_neg (fun z => z h1), if_neg h7]
        have hk : kRoll κ τ a b = yaK (sS τ 3 1) κ (a + b) := by unfold kRoll; rw [hx, if_pos ⟨rfl, h7⟩]
        rw [hx, hk]
        have hH : HH (yaF (sS τ 3 1) (a + b)) := yaF_HH (hI.roll h1)
        refine Jv.mk ((hI.roll2 h1).h hH) (Hv.of hJ.2.1 rfl rfl rfl) ?_
        have hy := Kv.yg (τ := sS τ 3 1) (κ := κ) (Kv.of hJ.2.2 rfl rfl) (a + b) 5
        rw [yg_all] at hy
        exact Kv.of hy rfl rfl
    · have hx : xRoll τ a b = (2, 0, τ) := by unfold xRoll; rw [if_neg (fun z => z g), if_pos h1]
      have hk : kRoll κ τ a b = κ := by unfold kRoll; rw [hx]; exact if_neg (fun z => absurd z.1 (show ¬ (2 : Int) = 0 by decide))
      rw [hx, hk]
      exact hJ
  · have hx : xRoll τ a b = (1, 0, τ) := by unfold xRoll; rw [if_pos g]
    have hk : kRoll κ τ a b = κ := by unfold kRoll; rw [hx]; exact if_neg (fun z => absurd z.1 (show ¬ (1 : Int) = 0 by decide))
    rw [hx, hk]
    exact hJ
theorem Iv.disc {τ : St} (h : Iv τ) {p : Int} (hp : 0 ≤ p ∧ p < 3) (hd : ∀ q, ¬ (0 ≤ q ∧ q < 3) → τ.2.1 4 q = 0) (h3 : τ.1 0 = 3) : Iv (sS (sAt τ 4 p 0) 0 (phD (sAt τ 4 p 0))) := by
  have hX : ∀ q, (sAt τ 4 p 0).2.1 4 q = if q = p then 0 else τ.2.1 4 q := fun q => rfl
  have g0 := h.hdu 0
  have g1 := h.hdu 1
  have g2 := h.hdu 2
  unfold phD
  by_cases ha : anyDue ((sAt τ 4 p 0).2.1 4) = true
  · rw [if_pos ha]
    exact Iv.mk h.hb h.hr h.hg h.hn h.h7 h.hh h.hsm h.hcd h.hfr h.hkn h.hbo h.hus h.hro h.har h.hth (by show 0 ≤ (3 : Int) ∧ (3 : Int) ≤ 5; omega) h.htu h.hrb h.hpl (pup_b (f := τ.2.1 4) h.hdu (by omega)) (fun e => absurd (show (3 : Int) = 3 from rfl) e) h.hof h.how h.hga h.hwa h.hck h.hkz h.hcb h.hfb (fun e => absurd (h.hnr e).1 (by omega)) (fun e => absurd (show (3 : Int) = 0 from e) (by decide)) (fun _ => h.hpq (by omega)) h.hrc h.hbc h.hcc h.hac
  · rw [if_neg ha]
    have hz : ∀ q, (sAt τ 4 p 0).2.1 4 q = 0 := by
      intro q
      unfold anyDue at ha
      simp only [Bool.or_eq_true, decide_eq_true_eq, hX] at ha
      rw [hX]
      by_cases hq : 0 ≤ q ∧ q < 3
      · rcases (show q = 0 ∨ q = 1 ∨ q = 2 from by omega) with rfl | rfl | rfl <;> (repeat' split at ha) <;> (repeat' split) <;> omega
      · split
        · rfl
        · exact hd q hq
    exact Iv.mk h.hb h.hr h.hg h.hn h.h7 h.hh h.hsm h.hcd h.hfr h.hkn h.hbo h.hus h.hro h.har h.hth (by show 0 ≤ (4 : Int) ∧ (4 : Int) ≤ 5; omega) h.htu h.hrb h.hpl (pup_b (f := τ.2.1 4) h.hdu (by omega)) (fun _ => hz) h.hof h.how h.hga h.hwa h.hck h.hkz h.hcb h.hfb (fun e => absurd (h.hnr e).1 (by omega)) (fun e => absurd (show (4 : Int) = 0 from e) (by decide)) (fun _ => h.hpq (by omega)) h.hrc h.hbc h.hcc h.hac
theorem J_discard {τ κ : St} (hJ : Jv τ κ) (p n : Int) : Jv (xDisc τ p n).2.2 (kDisc κ τ p n) := by
  unfold kDisc
  unfold xDisc
  split
  · exact hJ
  · next a =>
    split
    · exact hJ
    · next b =>
      split
      · exact hJ
      · next c =>
        have hc := Classical.not_not.mp c
        have h3 : τ.1 0 = 3 := by
          refine Classical.byContradiction fun z => ?_
          have := hJ.1.hdp z p
          omega
        have j1 := J_plainA hJ (f := p) (t := 3) (n := n) (by omega) (by omega) hc.2.2
        have e1 : (mvA τ p 3 n).1 0 = τ.1 0 := rfl
        refine Jv.mk (j1.1.disc (by omega) j1.2.2.2.2.2 (by rw [e1]; exact h3)) (Hv.of j1.2.1 rfl rfl rfl) ?_
        refine ⟨j1.2.2.1, j1.2.2.2.1, j1.2.2.2.2.1, fun q hq => ?_⟩
        show (if q = p then 0 else (mvA τ p 3 n).2.1 4 q) = 0
        split
        · rfl
        · exact j1.2.2.2.2.2 q hq
theorem drw_has {h : Int → Int → Int} {v d : Int} (hh : ∀ g, 0 ≤ h v g) (hd : drw h v d ≠ -1) : v ≠ -1 ∧ (0 ≤ drw h v d ∧ drw h v d < 5) ∧ 1 ≤ h v (drw h v d) := by
  have a0 := hh 0
  have a1 := hh 1
  have a2 := hh 2
  have a3 := hh 3
  have a4 := hh 4
  unfold drw at hd ⊢
  by_cases c : v = -1 ∨ tot h v ≤ 0
  · rw [if_pos c] at hd
    exact absurd rfl hd
  · rw [if_neg c] at hd ⊢
    have t0 : 0 < tot h v := by omega
    have m0 := Int.emod_nonneg d (show tot h v ≠ 0 by omega)
    have m1 := Int.emod_lt_of_pos d t0
    have et : tot h v = h v 0 + h v 1 + h v 2 + h v 3 + h v 4 := rfl
    refine ⟨by omega, ?_⟩
    generalize d % tot h v = r at *
    (repeat' split) <;> omega
theorem J_robS {τ κ : St} (hJ : Jv τ κ) {h v d : Int} (hh : 0 ≤ h ∧ h < 7) (hv : v = -1 ∨ (0 ≤ v ∧ v < 3)) : Jv (robS τ h v d) (robK τ κ v d) := by
  have ht := hJ.1.htu
  have j0 : Jv (sS τ 5 h) κ := Jv.mk (hJ.1.rb hh) (Hv.of hJ.2.1 rfl rfl rfl) (Kv.of hJ.2.2 rfl rfl)
  unfold robS robK
  by_cases c : drw (τ.2.2 0) v d = -1
  · rw [if_pos c, if_pos c]
    exact j0
  · rw [if_neg c, if_neg c]
    obtain ⟨q1, q2, q3⟩ := drw_has (fun g => (hJ.1.hh v g).1) c
    exact J_plainS j0 (by omega) (by omega) q2 ⟨by omega, q3⟩
theorem J_rob {τ κ : St} (hJ : Jv τ κ) (h v d : Int) : Jv (xRob τ h v d).2.2 (kRob κ τ h v d) := by
  by_cases a : arC h v d = 0
  · have a2 := arC_0 a
    by_cases c : τ.1 0 = 4 ∧ mayR τ h v = true
    · have hx : xRob τ h v d = (0, drw (τ.2.2 0) v d, robS (sS τ 0 2) h v d) := by unfold xRob; rw [if_neg (fun z => z a), if_neg (fun z => z c)]
      have hk : kRob κ τ h v d = robK (sS τ 0 2) κ v d := by unfold kRob; rw [hx]; exact if_pos rfl
      rw [hx, hk]
      exact J_robS (Jv.mk (hJ.1.ph2 (by omega) (by omega)) (Hv.of hJ.2.1 rfl rfl rfl) (Kv.of hJ.2.2 rfl rfl)) a2.1.1 a2.1.2
    · have hx : xRob τ h v d = (3, 0, τ) := by unfold xRob; rw [if_neg (fun z => z a), if_pos c]
      have hk : kRob κ τ h v d = κ := by unfold kRob; rw [hx]; exact if_neg (show ¬ (3 : Int) = 0 by decide)
      rw [hx, hk]
      exact hJ
  · have hx : xRob τ h v d = (arC h v d, 0, τ) := by unfold xRob; rw [if_pos a]
    have hk : kRob κ τ h v d = κ := by unfold kRob; rw [hx]; exact if_neg a
    rw [hx, hk]
    exact hJ
theorem Iv.rolled {τ : St} (h : Iv τ) (h2 : 2 ≤ τ.1 0) : τ.1 3 ≠ 0 := fun z => by
  have := (h.hnr z).1
  omega
theorem J_win {τ κ : St} (hJ : Jv τ κ) (h3 : τ.1 3 ≠ 0) (hd : τ.1 0 ≠ 3) : Jv (winS τ) κ := Jv.mk (hJ.1.win h3 hd) (Hv.win hJ.2.1) (Kv.of hJ.2.2 (by rw [winS_2]) (by rw [winS_2]))
theorem Iv.gv {τ : St} (h : Iv τ) (h1 : τ.1 6 < 15) (h2 : 2 ≤ τ.1 0) : Iv (gvS τ (τ.1 1)) := by
  have ho := ordF_r (τ.1 6)
  have ht := h.htu
  have a := h.hcd (τ.1 1) (ordF (τ.1 6))
  have b := h.hcb (τ.1 1) (ordF (τ.1 6))
  have f := h.hfr (ordF (τ.1 6))
  have g := h.hfb (ordF (τ.1 6))
  have hbo := h.hbo
  have hck := h.hck
  unfold gvS
  generalize ordF (τ.1 6) = kd at *
  exact Iv.mk h.hb h.hr h.hg h.hn h.h7 h.hh h.hsm (pup2_b (f := τ.2.2 1) h.hcd (by omega)) (pup_b (f := τ.2.1 5) h.hfr (by omega)) h.hkn (by show 0 ≤ τ.1 6 + 1 ∧ τ.1 6 + 1 ≤ 15; omega) h.hus h.hro h.har h.hth h.hph h.htu h.hrb h.hpl h.hdu h.hdp h.hof h.how h.hga h.hwa (by show pup2 (τ.2.2 1) (τ.1 1) kd (τ.2.2 1 (τ.1 1) kd + 1) 0 0 + τ.2.1 6 0 + (pup2 (τ.2.2 1) (τ.1 1) kd (τ.2.2 1 (τ.1 1) kd + 1) 1 0 + τ.2.1 6 1) + (pup2 (τ.2.2 1) (τ.1 1) kd (τ.2.2 1 (τ.1 1) kd + 1) 2 0 + τ.2.1 6 2) ≤ τ.1 6 + 1; simp only [pup2_at]; rcases (show τ.1 1 = 0 ∨ τ.1 1 = 1 ∨ τ.1 1 = 2 from by omega) with e | e | e <;> rw [e] <;> (by_cases ek : kd = 0) <;> simp [ek] <;> (try subst ek) <;> omega) h.hkz (fun p k => by show pup2 (τ.2.2 1) (τ.1 1) kd (τ.2.2 1 (τ.1 1) kd + 1) p k ≤ τ.1 6 + 1; rw [pup2_at]; have := h.hcb p k; split <;> omega) (fun k => by show (if k = kd then τ.2.1 5 kd + 1 else τ.2.1 5 k) ≤ τ.1 6 + 1; have := h.hfb k; split <;> omega) (fun e => absurd (h.hnr e).1 (by omega)) h.hpp h.hpq h.hrc h.hbc h.hcc h.hac
theorem Hv.gv {τ : St} (h : Hv τ) (p : Int) : Hv (gvS τ p) := h.of rfl rfl rfl
theorem Kv.gv {τ κ : St} (h : Kv τ κ) (p : Int) : Kv (gvS τ p) κ := h.of rfl rfl
theorem J_buy {τ κ : St} (hJ : Jv τ κ) : Jv (xBuy τ).2.2 (kBuy κ τ) := by
  unfold kBuy
  unfold xBuy
  split
  · exact hJ
  · next c =>
    have hc := Classical.not_not.mp c
    have ht := hJ.1.htu
    have j1 := J_plainA hJ (f := τ.1 1) (t := 3) (n := 11100) (by omega) (by omega) hc.2.2
    have e0 : (mvA τ (τ.1 1) 3 11100).1 = τ.1 := rfl
    have j2 : Jv (gvS (mvA τ (τ.1 1) 3 11100) (τ.1 1)) (mvAK κ (τ.1 1) 3 11100) := Jv.mk (j1.1.gv (by rw [e0]; exact hc.2.1) (by rw [e0]; omega)) (Hv.gv j1.2.1 _) (Kv.gv j1.2.2 _)
    exact J_win j2 (hJ.1.rolled (by omega)) (by show τ.1 0 ≠ 3; omega)
theorem Iv.nd {τ : St} (h : Iv τ) (h2 : τ.1 0 = 2) : Iv (sS (sS (strt (ofS τ 0 0)) 1 (nxtT (τ.1 1))) 0 1) := by
  have hn := nxtT_r h.htu
  have ho := h.offer (a := 0) (b := 0) (by omega) (by omega)
  have hb := h.hbo
  exact Iv.mk ho.hb ho.hr ho.hg ho.hn ho.h7 ho.hh ho.hsm ho.hcd (pup_b (pup_b (pup_b (pup_b (pup_b (f := τ.2.1 5) h.hfr (by omega)) (by omega)) (by omega)) (by omega)) (by omega)) ho.hkn ho.hbo (by show 0 ≤ (0 : Int) ∧ (0 : Int) ≤ 1; omega) ho.hro ho.har ho.hth (by show 0 ≤ (1 : Int) ∧ (1 : Int) ≤ 5; omega) (hn) ho.hrb ho.hpl ho.hdu (fun _ => h.hdp (by omega)) ho.hof ho.how ho.hga ho.hwa ho.hck ho.hkz ho.hcb (fun k => by show (if k = 4 then 0 else if k = 3 then 0 else if k = 2 then 0 else if k = 1 then 0 else if k = 0 then 0 else τ.2.1 5 k) ≤ τ.1 6; have := h.hfb k; (repeat' split) <;> omega) (fun e => absurd (h.hnr e).1 (by omega)) (fun e => absurd (show (1 : Int) = 0 from e) (by decide)) (fun _ => h.hpq (by omega)) ho.hrc ho.hbc ho.hcc ho.hac
theorem J_endTurn {τ κ : St} (hJ : Jv τ κ) : Jv (xEnd τ).2.2 κ := by
  unfold xEnd
  split
  · exact hJ
  · next c =>
    have hc := Classical.not_not.mp c
    exact J_win (Jv.mk (hJ.1.nd hc) (Hv.of hJ.2.1 rfl rfl rfl) (Kv.of hJ.2.2 rfl rfl)) (hJ.1.rolled (by omega)) (by show (1 : Int) ≠ 3; decide)
theorem Iv.us {τ : St} (h : Iv τ) {k : Int} (hk : 0 ≤ k ∧ k < 5) (hu : canU τ (τ.1 1) k = true) : Iv (usS τ (τ.1 1) k) := by
  have ht := h.htu
  have q := canU_le hu
  have f := (h.hfr k).1
  have cd := h.hcd (τ.1 1) k
  have hck := h.hck
  have h8 := usS_8 τ (τ.1 1) k ht h.har
  have hkn : k = 0 → ∀ p, 0 ≤ τ.2.1 6 p ∧ τ.2.1 6 p ≤ 14 := fun e => h.kn14 (by rw [← e]; exact hu)
  have e1 : ∀ j : Nat, j ≠ 7 → j ≠ 8 → (usS τ (τ.1 1) k).1 j = τ.1 j := fun j a b => usS_1 τ _ _ j a b
  have e2 : ∀ j : Nat, j ≠ 6 → (usS τ (τ.1 1) k).2.1 j = τ.2.1 j := fun j a => usS_2 τ _ _ j a
  have e3 : (usS τ (τ.1 1) k).2.2 0 = τ.2.2 0 := usS_3 τ _ _
  have e4 : (usS τ (τ.1 1) k).2.2 1 = pup2 (τ.2.2 1) (τ.1 1) k (τ.2.2 1 (τ.1 1) k - 1) := usS_h τ _ _
  have e6 : (usS τ (τ.1 1) k).2.1 6 = if k = 0 then pup (τ.2.1 6) (τ.1 1) (τ.2.1 6 (τ.1 1) + 1) else τ.2.1 6 := by
    unfold usS armS
    by_cases e : k = 0
    · rw [if_pos e, if_pos e]
      (repeat' split) <;> rfl
    · rw [if_neg e, if_neg e]
      rfl
  have e7 : (usS τ (τ.1 1) k).1 7 = 1 := by
    unfold usS armS
    (repeat' split) <;> rfl
  have hac8 : (usS τ (τ.1 1) k).1 8 ≠ -1 → 3 ≤ (usS τ (τ.1 1) k).2.1 6 ((usS τ (τ.1 1) k).1 8) := by
    intro hne
    rw [e6]
    by_cases e : k = 0
    · rw [if_pos e]
      unfold usS armS at hne ⊢
      rw [if_pos e] at hne ⊢
      have g : ∀ j, pup (τ.2.1 6) (τ.1 1) (τ.2.1 6 (τ.1 1) + 1) j = if j = τ.1 1 then τ.2.1 6 (τ.1 1) + 1 else τ.2.1 6 j := fun j => rfl
      have g2 : ∀ j, (sAt (sS (sHt τ 1 (τ.1 1) k (τ.2.2 1 (τ.1 1) k - 1)) 7 1) 6 (τ.1 1) (τ.2.1 6 (τ.1 1) + 1)).2.1 6 j = if j = τ.1 1 then τ.2.1 6 (τ.1 1) + 1 else τ.2.1 6 j := fun j => rfl
      have g3 : (sAt (sS (sHt τ 1 (τ.1 1) k (τ.2.2 1 (τ.1 1) k - 1)) 7 1) 6 (τ.1 1) (τ.2.1 6 (τ.1 1) + 1)).1 8 = τ.1 8 := rfl
      have ha := h.hac
      by_cases c : (if (sAt (sS (sHt τ 1 (τ.1 1) k (τ.2.2 1 (τ.1 1) k - 1)) 7 1) 6 (τ.1 1) (τ.2.1 6 (τ.1 1) + 1)).1 8 = -1 then 3 else (sAt (sS (sHt τ 1 (τ.1 1) k (τ.2.2 1 (τ.1 1) k - 1)) 7 1) 6 (τ.1 1) (τ.2.1 6 (τ.1 1) + 1)).2.1 6 ((sAt (sS (sHt τ 1 (τ.1 1) k (τ.2.2 1 (τ.1 1) k - 1)) 7 1) 6 (τ.1 1) (τ.2.1 6 (τ.1 1) + 1)).1 8) + 1) ≤ (sAt (sS (sHt τ 1 (τ.1 1) k (τ.2.2 1 (τ.1 1) k - 1)) 7 1) 6 (τ.1 1) (τ.2.1 6 (τ.1 1) + 1)).2.1 6 (τ.1 1)
      · rw [if_pos c]
        show 3 ≤ pup (τ.2.1 6) (τ.1 1) (τ.2.1 6 (τ.1 1) + 1) (τ.1 1)
        rw [g, if_pos rfl]
        rw [g3, g2, g2, if_pos rfl] at c
        by_cases c2 : τ.1 8 = -1
        · rw [if_pos c2] at c
          exact c
        · rw [if_neg c2] at c
          have := ha c2
          split at c <;> omega
      · rw [if_neg c] at hne ⊢
        rw [g3] at hne ⊢
        rw [g]
        have := ha hne
        split
        · next e9 => rw [e9] at this; omega
        · exact this
    · rw [if_neg e]
      unfold usS at hne ⊢
      rw [if_neg e] at hne ⊢
      exact h.hac hne
  have hck2 : (usS τ (τ.1 1) k).2.2 1 0 0 + (usS τ (τ.1 1) k).2.1 6 0 + ((usS τ (τ.1 1) k).2.2 1 1 0 + (usS τ (τ.1 1) k).2.1 6 1) + ((usS τ (τ.1 1) k).2.2 1 2 0 + (usS τ (τ.1 1) k).2.1 6 2) ≤ (usS τ (τ.1 1) k).1 6 := by
    rw [e4, e6, e1 6 (by decide) (by decide)]
    simp only [pup2_at]
    by_cases e : k = 0
    · rw [if_pos e]
      subst e
      simp only [pup]
      rcases (show τ.1 1 = 0 ∨ τ.1 1 = 1 ∨ τ.1 1 = 2 from by omega) with e9 | e9 | e9 <;> rw [e9] <;> simp <;> omega
    · rw [if_neg e]
      simp only [show ¬ (0 : Int) = k from fun z => e z.symm, and_false, if_false]
      exact hck
  exact Iv.mk (by rw [e2 2 (by decide)]; exact h.hb) (by rw [e2 3 (by decide)]; exact h.hr) (by rw [e2 0 (by decide)]; exact h.hg) (by rw [e2 1 (by decide)]; exact h.hn) (by rw [e2 0 (by decide), e2 1 (by decide)]; exact h.h7) (by rw [e3]; exact h.hh) (by rw [e3]; exact h.hsm) (by rw [e4]; exact pup2_b h.hcd (by omega)) (by rw [e2 5 (by decide)]; exact h.hfr) (by rw [e6]; (split; · next e => (have := hkn e (τ.1 1)); exact pup_b h.hkn (by omega)); exact h.hkn) (by rw [e1 6 (by decide) (by decide)]; exact h.hbo) (by rw [e7]; omega) (by rw [e1 3 (by decide) (by decide)]; exact h.hro) (h8) (by rw [e1 4 (by decide) (by decide)]; exact h.hth) (by rw [e1 0 (by decide) (by decide)]; exact h.hph) (by rw [e1 1 (by decide) (by decide)]; exact h.htu) (by rw [e1 5 (by decide) (by decide)]; exact h.hrb) (by rw [e1 2 (by decide) (by decide)]; exact h.hpl) (by rw [e2 4 (by decide)]; exact h.hdu) (by rw [e1 0 (by decide) (by decide), e2 4 (by decide)]; exact h.hdp) (by rw [e1 9 (by decide) (by decide)]; exact h.hof) (by rw [e1 10 (by decide) (by decide)]; exact h.how) (by rw [e2 7 (by decide)]; exact h.hga) (by rw [e2 8 (by decide)]; exact h.hwa) (hck2) (fun p hp => by rw [e6]; (split; · (show (if p = τ.1 1 then τ.2.1 6 (τ.1 1) + 1 else τ.2.1 6 p) = 0; rw [if_neg (by omega)]; exact h.hkz p hp)); exact h.hkz p hp) (fun p j => by rw [e4, e1 6 (by decide) (by decide), pup2_at]; have a := h.hcb p j; have b := h.hcb (τ.1 1) k; split <;> omega) (by rw [e2 5 (by decide), e1 6 (by decide) (by decide)]; exact h.hfb) (by rw [e1 3 (by decide) (by decide), e1 0 (by decide) (by decide), e1 6 (by decide) (by decide)]; exact h.hnr) (by rw [e1 0 (by decide) (by decide), e1 2 (by decide) (by decide), e1 1 (by decide) (by decide), e1 3 (by decide) (by decide), e2 2 (by decide), e2 3 (by decide)]; exact h.hpp) (by rw [e1 0 (by decide) (by decide), e1 2 (by decide) (by decide)]; exact h.hpq) (by rw [e2 3 (by decide)]; exact h.hrc) (by rw [e2 2 (by decide)]; exact h.hbc) (by rw [e2 2 (by decide)]; exact h.hcc) (hac8)
theorem Hv.us {τ : St} (h : Hv τ) (p k : Int) : Hv (usS τ p k) := h.of (usS_2 _ _ _ 2 (by decide)) (usS_2 _ _ _ 3 (by decide)) (usS_1 _ _ _ 4 (by decide) (by decide))
theorem Kv.us {τ κ : St} (h : Kv τ κ) (p k : Int) : Kv (usS τ p k) κ := h.of (usS_3 _ _ _) (usS_2 _ _ _ 4 (by decide))
theorem J_us {τ κ : St} (hJ : Jv τ κ) {k : Int} (hk : 0 ≤ k ∧ k < 5) (hu : canU τ (τ.1 1) k = true) : Jv (usS τ (τ.1 1) k) κ := Jv.mk (hJ.1.us hk hu) (Hv.us hJ.2.1 _ _) (Kv.us hJ.2.2 _ _)
theorem Iv.used {τ : St} (h : Iv τ) {k : Int} (hu : canU τ (τ.1 1) k = true) : τ.1 3 ≠ 0 := fun z => by
  have q := canU_le hu
  have f := (h.hfr k).1
  have b := h.hcb (τ.1 1) k
  have := (h.hnr z).2
  omega
theorem mayU_ph {τ : St} {k : Int} (h : mayU τ k = true) : τ.1 0 = 1 ∨ τ.1 0 = 2 := by
  simp only [mayU, Bool.and_eq_true, Bool.or_eq_true, decide_eq_true_eq] at h
  exact h.1
theorem J_knight {τ κ : St} (hJ : Jv τ κ) (h v d : Int) : Jv (xKnight τ h v d).2.2 (kKnight κ τ h v d) := by
  by_cases a : arC h v d = 0
  · have a2 := arC_0 a
    by_cases c : mayU τ 0 = true ∧ mayR τ h v = true
    · have hx : xKnight τ h v d = (0, drw ((usS τ (τ.1 1) 0).2.2 0) v d, winS (robS (usS τ (τ.1 1) 0) h v d)) := by unfold xKnight; rw [if_neg (fun z => z a), if_neg (fun z => z c)]
      have hk : kKnight κ τ h v d = robK (usS τ (τ.1 1) 0) κ v d := by unfold kKnight; rw [hx]; exact if_pos rfl
      rw [hx, hk]
      have hu := mayU_canU c.1
      have j1 := J_robS (J_us hJ (k := 0) (by omega) hu) (h := h) (v := v) (d := d) a2.1.1 a2.1.2
      have p := mayU_ph c.1
      have e0 : (robS (usS τ (τ.1 1) 0) h v d).1 0 = τ.1 0 := by rw [robS_1 _ _ _ _ _ (by decide), usS_1 _ _ _ _ (by decide) (by decide)]
      have e3 : (robS (usS τ (τ.1 1) 0) h v d).1 3 = τ.1 3 := by rw [robS_1 _ _ _ _ _ (by decide), usS_1 _ _ _ _ (by decide) (by decide)]
      exact J_win j1 (by rw [e3]; exact hJ.1.used hu) (by rw [e0]; omega)
    · have hx : xKnight τ h v d = (3, 0, τ) := by unfold xKnight; rw [if_neg (fun z => z a), if_pos c]
      have hk : kKnight κ τ h v d = κ := by unfold kKnight; rw [hx]; exact if_neg (show ¬ (3 : Int) = 0 by decide)
      rw [hx, hk]
      exact hJ
  · have hx : xKnight τ h v d = (arC h v d, 0, τ) := by unfold xKnight; rw [if_pos a]
    have hk : kKnight κ τ h v d = κ := by unfold kKnight; rw [hx]; exact if_neg a
    rw [hx, hk]
    exact hJ
theorem J_plenty {τ κ : St} (hJ : Jv τ κ) (a b : Int) : Jv (xPlenty τ a b).2.2 (kPlenty κ τ a b) := by
  unfold kPlenty
  unfold xPlenty
  split
  · exact hJ
  · next x =>
    split
    · exact hJ
    · next c =>
      have hc := Classical.not_not.mp c
      have ht := hJ.1.htu
      have j1 := J_us hJ (k := 2) (by omega) (mayU_canU hc.1)
      exact J_plainA j1 (by omega) (by omega) (by rw [usS_3]; exact hc.2)
theorem mvS_at (τ : St) (f t g m p : Int) : (mvS τ f t g m).2.2 0 p g = τ.2.2 0 p g + ((if p = t then m else 0) - (if p = f then m else 0)) := by
  rw [mvS_eq, sH_at]
  simp [mvF, one1]
theorem J_mon {τ κ : St} (hJ : Jv τ κ) {g : Int} (hg : 0 ≤ g ∧ g < 5) {t : Int} (ht : 0 ≤ t ∧ t < 3) : Jv (monS τ t g) (monK τ κ t g) := by
  have two : ∀ p q : Int, (0 ≤ p ∧ p < 3) → (0 ≤ q ∧ q < 3) → p ≠ t → q ≠ t → p ≠ q → Jv (mvS (mvS τ p t g (τ.2.2 0 p g)) q t g ((mvS τ p t g (τ.2.2 0 p g)).2.2 0 q g)) (mvK (mvK κ p t g (τ.2.2 0 p g)) q t g ((mvS τ p t g (τ.2.2 0 p g)).2.2 0 q g)) := by
    intro p q hp hq h1 h2 h3
    have a := (hJ.1.hh p g).1
    have j1 := J_plainS hJ (f := p) (t := t) (g := g) (m := τ.2.2 0 p g) (by omega) (by omega) hg ⟨a, Int.le_refl _⟩
    have b := (j1.1.hh q g).1
    exact J_plainS j1 (by omega) (by omega) hg ⟨b, Int.le_refl _⟩
  unfold monS monK
  by_cases e0 : t = 0
  · rw [if_pos e0, if_pos e0]
    exact two 1 2 (by omega) (by omega) (by omega) (by omega) (by omega)
  · rw [if_neg e0, if_neg e0]
    by_cases e1 : t = 1
    · rw [if_pos e1, if_pos e1]
      exact two 0 2 (by omega) (by omega) (by omega) (by omega) (by omega)
    · rw [if_neg e1, if_neg e1]
      exact two 0 1 (by omega) (by omega) (by omega) (by omega) (by omega)
theorem J_monopoly {τ κ : St} (hJ : Jv τ κ) (g : Int) : Jv (xMono τ g).2.2 (kMono κ τ g) := by
  unfold kMono
  unfold xMono
  split
  · exact hJ
  · next x =>
    split
    · exact hJ
    · next c =>
      have hc := Classical.not_not.mp c
      exact J_mon (J_us hJ (k := 3) (by omega) (mayU_canU hc)) (by omega) hJ.1.htu
theorem Iv.rdAt {τ : St} (h : Iv τ) (h0 : τ.1 0 ≠ 0) {e v : Int} (hv : -1 ≤ v ∧ v ≤ 2) (hc : ∀ p, 0 ≤ p ∧ p < 3 → cntN (pup (τ.2.1 3) e v) p 30 ≤ 8) : Iv (sAt τ 3 e v) := Iv.mk h.hb (pup_b (f := τ.2.1 3) h.hr hv) h.hg h.hn h.h7 h.hh h.hsm h.hcd h.hfr h.hkn h.hbo h.hus h.hro h.har h.hth h.hph h.htu h.hrb h.hpl h.hdu h.hdp h.hof h.how h.hga h.hwa h.hck h.hkz h.hcb h.hfb h.hnr (fun z => absurd z h0) h.hpq (hc) h.hbc h.hcc h.hac
theorem Iv.bdAt {τ : St} (h : Iv τ) (h0 : τ.1 0 ≠ 0) {c v : Int} (hv : -1 ≤ v ∧ v ≤ 5) (hb : ∀ p, 0 ≤ p ∧ p < 3 → cntN (pup (τ.2.1 2) c v) p 24 ≤ 4) (hd : ∀ p, 0 ≤ p ∧ p < 3 → cntN (pup (τ.2.1 2) c v) (3 + p) 24 ≤ 3) : Iv (sAt τ 2 c v) := Iv.mk (pup_b (f := τ.2.1 2) h.hb hv) h.hr h.hg h.hn h.h7 h.hh h.hsm h.hcd h.hfr h.hkn h.hbo h.hus h.hro h.har h.hth h.hph h.htu h.hrb h.hpl h.hdu h.hdp h.hof h.how h.hga h.hwa h.hck h.hkz h.hcb h.hfb h.hnr (fun z => absurd z h0) h.hpq h.hrc (hb) (hd) h.hac
theorem Iv.th {τ : St} (h : Iv τ) {z : Int} (hz : -1 ≤ z ∧ z < 3) : Iv (sS τ 4 z) := Iv.mk h.hb h.hr h.hg h.hn h.h7 h.hh h.hsm h.hcd h.hfr h.hkn h.hbo h.hus h.hro h.har (hz) h.hph h.htu h.hrb h.hpl h.hdu h.hdp h.hof h.how h.hga h.hwa h.hck h.hkz h.hcb h.hfb h.hnr h.hpp h.hpq h.hrc h.hbc h.hcc h.hac
theorem Iv.lk {τ : St} (h : Iv τ) : Iv (lkS τ) := h.th (hoF_r (trT_r h.lh) h.hth)
theorem Kv.win {τ κ : St} (h : Kv τ κ) : Kv (winS τ) κ := h.of (by rw [winS_2]) (by rw [winS_2])
theorem Kv.lk {τ κ : St} (h : Kv τ κ) : Kv (lkS τ) κ := h.of rfl rfl
/-- behind a look -/
theorem J_look {τ κ : St} (hI : Iv τ) (hK : Kv τ κ) (h3 : τ.1 3 ≠ 0) (hd : τ.1 0 ≠ 3) : Jv (winS (lkS τ)) κ := Jv.mk ((hI.lk).win h3 hd) (Hv.win (Hv.lk hI.lh)) (Kv.win (Kv.lk hK))
theorem Kv.rd {τ κ : St} (h : Kv τ κ) (k : Nat) (hk : k = 2 ∨ k = 3) (e v : Int) : Kv (sAt τ k e v) κ := by
  rcases hk with rfl | rfl
  · exact h
  · exact h
theorem J_road {τ κ : St} (hJ : Jv τ κ) (e : Int) : Jv (xRoad τ e).2.2 (kRoad κ τ e) := by
  by_cases a : 0 ≤ e ∧ e < 30
  · by_cases c : τ.1 0 = 2 ∧ canR τ e = true ∧ hasG (τ.2.2 0) (τ.1 1) 11 = true
    · have hx : xRoad τ e = (0, trT (rdS τ e) (τ.1 1), winS (lkS (rdS τ e))) := by unfold xRoad; rw [if_neg (fun z => z a), if_neg (fun z => z c)]
      have hk : kRoad κ τ e = gaN ((rdS τ e).2.1 2) ((rdS τ e).2.1 3) (τ.1 1) (utK ((rdS τ e).2.1 2) ((rdS τ e).2.1 3) (mvAK κ (τ.1 1) 3 11) 3) 30 := by unfold kRoad; rw [hx]; exact if_pos rfl
      rw [hx, hk]
      have ht := hJ.1.htu
      have j1 := J_plainA hJ (f := τ.1 1) (t := 3) (n := 11) (by omega) (by omega) c.2.2
      have hl := rdS_Lh hJ.1 a c.2.1
      have hI : Iv (rdS τ e) := j1.1.rdAt (by show τ.1 0 ≠ 0; omega) (by omega) hl.2.2
      have hK : Kv (rdS τ e) (mvAK κ (τ.1 1) 3 11) := j1.2.2.rd 3 (.inr rfl) _ _
      exact J_look hI ((hK.ut _ _ 3).ga _ _ _) (hJ.1.rolled (by omega)) (by show τ.1 0 ≠ 3; omega)
    · have hx : xRoad τ e = (2, 0, τ) := by unfold xRoad; rw [if_neg (fun z => z a), if_pos c]
      have hk : kRoad κ τ e = κ := by unfold kRoad; rw [hx]; exact if_neg (show ¬ (2 : Int) = 0 by decide)
      rw [hx, hk]
      exact hJ
  · have hx : xRoad τ e = (1, 0, τ) := by unfold xRoad; rw [if_pos a]
    have hk : kRoad κ τ e = κ := by unfold kRoad; rw [hx]; exact if_neg (show ¬ (1 : Int) = 0 by decide)
    rw [hx, hk]
    exact hJ
theorem J_house {τ κ : St} (hJ : Jv τ κ) (c : Int) : Jv (xHouse τ c).2.2 (kHouse κ τ c) := by
  by_cases a : 0 ≤ c ∧ c < 24
  · by_cases g : τ.1 0 = 2 ∧ cntN (τ.2.1 2) (τ.1 1) 24 < 4 ∧ freeC (τ.2.1 2) c = true ∧ roadAtC (τ.2.1 3) (τ.1 1) c = true ∧ hasG (τ.2.2 0) (τ.1 1) 1111 = true
    · have hx : xHouse τ c = (0, ptsF (winS (lkS (hsS τ c))) (τ.1 1), winS (lkS (hsS τ c))) := by unfold xHouse; rw [if_neg (fun z => z a), if_neg (fun z => z g)]
      have hk : kHouse κ τ c = utK ((hsS τ c).2.1 2) ((hsS τ c).2.1 3) (mvAK κ (τ.1 1) 3 1111) 3 := by unfold kHouse; rw [hx]; exact if_pos rfl
      rw [hx, hk]
      have ht := hJ.1.htu
      have hf : τ.2.1 2 c = -1 := by
        have := g.2.2.1
        simp only [freeC, Bool.and_eq_true, decide_eq_true_eq] at this
        exact this.1
      have j1 := J_plainA hJ (f := τ.1 1) (t := 3) (n := 1111) (by omega) (by omega) g.2.2.2.2
      have hI : Iv (hsS τ c) := by
        refine j1.1.bdAt (by show τ.1 0 ≠ 0; omega) (by omega) (fun p hp => ?_) (fun p hp => ?_)
        · show cntN (pup (τ.2.1 2) c (τ.1 1)) p 24 ≤ 4
          rw [cnt_pup a.1 24 (by omega), hf]
          have := hJ.1.hbc p hp
          by_cases e : τ.1 1 = p
          · rw [if_neg (by omega), if_pos e, ← e]; omega
          · rw [if_neg (by omega), if_neg e]; omega
        · show cntN (pup (τ.2.1 2) c (τ.1 1)) (3 + p) 24 ≤ 3
          rw [cnt_pup a.1 24 (by omega), hf, if_neg (by omega), if_neg (by omega)]
          have := hJ.1.hcc p hp
          omega
      have hK : Kv (hsS τ c) (mvAK κ (τ.1 1) 3 1111) := j1.2.2.rd 2 (.inl rfl) _ _
      exact J_look hI (hK.ut _ _ 3) (hJ.1.rolled (by omega)) (by show τ.1 0 ≠ 3; omega)
    · have hx : xHouse τ c = (2, 0, τ) := by unfold xHouse; rw [if_neg (fun z => z a), if_pos g]
      have hk : kHouse κ τ c = κ := by unfold kHouse; rw [hx]; exact if_neg (show ¬ (2 : Int) = 0 by decide)
      rw [hx, hk]
      exact hJ
  · have hx : xHouse τ c = (1, 0, τ) := by unfold xHouse; rw [if_pos a]
    have hk : kHouse κ τ c = κ := by unfold kHouse; rw [hx]; exact if_neg (show ¬ (1 : Int) = 0 by decide)
    rw [hx, hk]
    exact hJ
theorem J_city {τ κ : St} (hJ : Jv τ κ) (c : Int) : Jv (xCity τ c).2.2 (kCity κ τ c) := by
  by_cases a : 0 ≤ c ∧ c < 24
  · by_cases g : τ.1 0 = 2 ∧ cntN (τ.2.1 2) (3 + τ.1 1) 24 < 3 ∧ τ.2.1 2 c = τ.1 1 ∧ hasG (τ.2.2 0) (τ.1 1) 32000 = true
    · have hx : xCity τ c = (0, ptsF (winS (lkS (ctS τ c))) (τ.1 1), winS (lkS (ctS τ c))) := by unfold xCity; rw [if_neg (fun z => z a), if_neg (fun z => z g)]
      have hk : kCity κ τ c = utK ((ctS τ c).2.1 2) ((ctS τ c).2.1 3) (mvAK κ (τ.1 1) 3 32000) 3 := by unfold kCity; rw [hx]; exact if_pos rfl
      rw [hx, hk]
      have ht := hJ.1.htu
      have hf := g.2.2.1
      have j1 := J_plainA hJ (f := τ.1 1) (t := 3) (n := 32000) (by omega) (by omega) g.2.2.2
      have hI : Iv (ctS τ c) := by
        refine j1.1.bdAt (by show τ.1 0 ≠ 0; omega) (by omega) (fun p hp => ?_) (fun p hp => ?_)
        · show cntN (pup (τ.2.1 2) c (3 + τ.1 1)) p 24 ≤ 4
          rw [cnt_pup a.1 24 (by omega), hf, if_neg (show ¬ 3 + τ.1 1 = p by omega)]
          have := hJ.1.hbc p hp
          split <;> omega
        · show cntN (pup (τ.2.1 2) c (3 + τ.1 1)) (3 + p) 24 ≤ 3
          rw [cnt_pup a.1 24 (by omega), hf, if_neg (show ¬ τ.1 1 = 3 + p by omega)]
          have := hJ.1.hcc p hp
          by_cases e : 3 + τ.1 1 = 3 + p
          · rw [if_pos e, ← e]; omega
          · rw [if_neg e]; omega
      have hK : Kv (ctS τ c) (mvAK κ (τ.1 1) 3 32000) := j1.2.2.rd 2 (.inl rfl) _ _
      exact J_look hI (hK.ut _ _ 3) (hJ.1.rolled (by omega)) (by show τ.1 0 ≠ 3; omega)
    · have hx : xCity τ c = (2, 0, τ) := by unfold xCity; rw [if_neg (fun z => z a), if_pos g]
      have hk : kCity κ τ c = κ := by unfold kCity; rw [hx]; exact if_neg (show ¬ (2 : Int) = 0 by decide)
      rw [hx, hk]
      exact hJ
  · have hx : xCity τ c = (1, 0, τ) := by unfold xCity; rw [if_pos a]
    have hk : kCity κ τ c = κ := by unfold kCity; rw [hx]; exact if_neg (show ¬ (1 : Int) = 0 by decide)
    rw [hx, hk]
    exact hJ
theorem J_roads {τ κ : St} (hJ : Jv τ κ) (a b : Int) : Jv (xRoads τ a b).2.2 (kRoads κ τ a b) := by
  by_cases q : (0 ≤ a ∧ a < 30) ∧ (b = -1 ∨ (0 ≤ b ∧ b < 30))
  · by_cases g : mayU τ 1 = true ∧ canR τ a = true ∧ (b = -1 ∨ canR (sAt τ 3 a (τ.1 1)) b = true)
    · have hx : xRoads τ a b = (0, trT (rwS τ a b) (τ.1 1), winS (lkS (usS (rwS τ a b) (τ.1 1) 1))) := by unfold xRoads; rw [if_neg (fun z => z q), if_neg (fun z => z g)]
      have hk : kRoads κ τ a b = gaN ((ruS τ a b).2.1 2) ((ruS τ a b).2.1 3) (τ.1 1) (utK ((ruS τ a b).2.1 2) ((ruS τ a b).2.1 3) κ 3) 30 := by unfold kRoads; rw [hx]; exact if_pos rfl
      rw [hx, hk]
      have ht := hJ.1.htu
      have hu := mayU_canU g.1
      have p := mayU_ph g.1
      have h1 := r1_Lh hJ.1 q.1 g.2.1
      have i1 : Iv (sAt τ 3 a (τ.1 1)) := hJ.1.rdAt (by omega) (by omega) h1.2.2
      have i2 : Iv (rwS τ a b) := by
        by_cases e : b = -1
        · rw [e]; exact i1
        · have h2 := r2_Lh hJ.1 q.1 g.2.1 (q.2.resolve_left e) (g.2.2.resolve_left e)
          have e2 : rwS τ a b = sAt (sAt τ 3 a (τ.1 1)) 3 b (τ.1 1) := if_neg e
          rw [e2]
          exact i1.rdAt (by show τ.1 0 ≠ 0; omega) (by omega) h2.2.2
      have e1 := rwS_1 τ a b
      have i3 : Iv (usS (rwS τ a b) (τ.1 1) 1) := by
        have := i2.us (k := 1) (by omega) (by rw [e1, rwS_U]; exact hu)
        rw [e1] at this
        exact this
      have hK : Kv (rwS τ a b) κ := hJ.2.2.of (by rw [rwS_22]) (by unfold rwS; split <;> rfl)
      have e0 : (usS (rwS τ a b) (τ.1 1) 1).1 0 = τ.1 0 := by rw [usS_1 _ _ _ _ (by decide) (by decide), e1]
      have e3 : (usS (rwS τ a b) (τ.1 1) 1).1 3 = τ.1 3 := by rw [usS_1 _ _ _ _ (by decide) (by decide), e1]
      exact J_look i3 (((Kv.us hK _ _).ut _ _ 3).ga _ _ _) (by rw [e3]; exact hJ.1.used hu) (by rw [e0]; omega)
    · have hx : xRoads τ a b = (2, 0, τ) := by unfold xRoads; rw [if_neg (fun z => z q), if_pos g]
      have hk : kRoads κ τ a b = κ := by unfold kRoads; rw [hx]; exact if_neg (show ¬ (2 : Int) = 0 by decide)
      rw [hx, hk]
      exact hJ
  · have hx : xRoads τ a b = (1, 0, τ) := by unfold xRoads; rw [if_pos q]
    have hk : kRoads κ τ a b = κ := by unfold kRoads; rw [hx]; exact if_neg (show ¬ (1 : Int) = 0 by decide)
    rw [hx, hk]
    exact hJ
theorem gnN_sH (p c : Int) (τ : St) (n : Nat) : gnN p c τ n = sH τ 0 ((gnN p c τ n).2.2 0) := by
  refine Prod.ext (gnN_s p c τ n) (Prod.ext (gnN_2 p c τ n) (funext fun j => ?_))
  show _ = sup τ.2.2 0 ((gnN p c τ n).2.2 0) j
  unfold sup
  split
  · next e => rw [e]
  · next e => exact gnN_3 p c τ j e n
theorem pgS_sH {τ : St} (hI : Iv τ) (c e : Int) : ∃ K, HH K ∧ pgS τ c e = sH (plS τ c e) 0 K := by
  unfold pgS
  split
  · exact ⟨_, gnN_HH (τ := plS τ c e) hI.htu hI.hg hI.hH 7, gnN_sH _ _ _ _⟩
  · exact ⟨τ.2.2 0, hI.hH, (sH_self (plS τ c e) 0).symm⟩
theorem Kv.gn {τ κ : St} (h : Kv τ κ) {p : Int} (hp : 0 ≤ p ∧ p < 3) (c : Int) : ∀ n : Nat, Kv (gnN p c τ n) (gkN p c τ κ n)
  | 0 => h
  | n + 1 => by
    have ih := Kv.gn h hp c n
    show Kv (if gnC (gnN p c τ n) c (n : Int) = true then mvS (gnN p c τ n) 3 p ((gnN p c τ n).2.1 0 (n : Int)) 1 else gnN p c τ n) (if gnC (gnN p c τ n) c (n : Int) = true then mvK (gkN p c τ κ n) 3 p ((gnN p c τ n).2.1 0 (n : Int)) 1 else gkN p c τ κ n)
    split
    · exact ih.mv (by omega) (by omega) _ _
    · exact ih
theorem Kv.pg {τ κ : St} (h : Kv τ κ) (ht : 0 ≤ τ.1 1 ∧ τ.1 1 < 3) (c e : Int) : Kv (pgS τ c e) (pgK κ τ c e) := by
  have h1 : Kv (plS τ c e) κ := h
  unfold pgS pgK
  split
  · exact h1.gn ht c 7
  · exact h1
theorem Iv.placed {τ : St} (h : Iv τ) (h0 : τ.1 0 = 0) {c e z : Int} {K : Int → Int → Int} (hc : 0 ≤ c ∧ c < 24) (he : 0 ≤ e ∧ e < 30) (hb0 : τ.2.1 2 c = -1) (hr0 : τ.2.1 3 e = -1) (hH : HH K) (hz : -1 ≤ z ∧ z < 3) : Iv (gopS (sS (sS (sH (plS τ c e) 0 K) 4 z) 2 (τ.1 2 + 1))) := by
  have ht := h.htu
  have hpl := h.hpl
  have hpp := h.hpp h0
  obtain ⟨p1, p2, p3, p4⟩ := hpp
  have hbo := (h.hnr p4).2
  have cb : ∀ q, cntN (pup (τ.2.1 2) c (τ.1 1)) q 24 = cntN (τ.2.1 2) q 24 - (if τ.2.1 2 c = q then 1 else 0) + (if τ.1 1 = q then 1 else 0) := fun q => cnt_pup hc.1 24 (by omega)
  have cr : ∀ q, cntN (pup (τ.2.1 3) e (τ.1 1)) q 30 = cntN (τ.2.1 3) q 30 - (if τ.2.1 3 e = q then 1 else 0) + (if τ.1 1 = q then 1 else 0) := fun q => cnt_pup he.1 30 (by omega)
  have b1 : ∀ p, 0 ≤ p ∧ p < 3 → cntN (pup (τ.2.1 2) c (τ.1 1)) p 24 = plc (τ.1 2 + 1) p := fun p hp => by
    rw [cb, (p3 p hp).1, if_neg (by omega), p2]
    unfold plc
    (repeat' split) <;> omega
  have b2 : ∀ p, 0 ≤ p ∧ p < 3 → cntN (pup (τ.2.1 2) c (τ.1 1)) (3 + p) 24 = 0 := fun p hp => by
    rw [cb, (p3 p hp).2.1, if_neg (by omega), if_neg (by omega)]
    omega
  have b3 : ∀ p, 0 ≤ p ∧ p < 3 → cntN (pup (τ.2.1 3) e (τ.1 1)) p 30 = plc (τ.1 2 + 1) p := fun p hp => by
    rw [cr, (p3 p hp).2.2, if_neg (by omega), p2]
    unfold plc
    (repeat' split) <;> omega
  have l2 : ∀ n p, plc n p ≤ 2 := fun n p => by unfold plc; (repeat' split) <;> omega
  unfold gopS
  by_cases g : 6 ≤ (sS (sS (sH (plS τ c e) 0 K) 4 z) 2 (τ.1 2 + 1)).1 2
  · rw [if_pos g]
    have g6 : 6 ≤ τ.1 2 + 1 := g
    exact Iv.mk (pup_b (f := τ.2.1 2) h.hb (by omega)) (pup_b (f := τ.2.1 3) h.hr (by omega)) h.hg h.hn h.h7 (by show ∀ p g, 0 ≤ K p g ∧ K p g ≤ 12; exact hH.1) (by show ∀ g, 0 ≤ g ∧ g < 5 → K 0 g + K 1 g + K 2 g + K 3 g = 12; exact hH.2) h.hcd h.hfr h.hkn h.hbo h.hus h.hro h.har (hz) (by show 0 ≤ (1 : Int) ∧ (1 : Int) ≤ 5; omega) (by show 0 ≤ (0 : Int) ∧ (0 : Int) < 3; omega) h.hrb (by show 0 ≤ τ.1 2 + 1 ∧ τ.1 2 + 1 ≤ 6; omega) h.hdu (fun _ => h.hdp (by omega)) h.hof h.how h.hga h.hwa h.hck h.hkz h.hcb h.hfb (fun _ => ⟨by show (1 : Int) ≤ 1; omega, hbo⟩) (fun z => absurd (show (1 : Int) = 0 from z) (by decide)) (fun _ => by show τ.1 2 + 1 = 6; omega) (fun p hp => by show cntN (pup (τ.2.1 3) e (τ.1 1)) p 30 ≤ 8; rw [b3 p hp]; have := l2 (τ.1 2 + 1) p; omega) (fun p hp => by show cntN (pup (τ.2.1 2) c (τ.1 1)) p 24 ≤ 4; rw [b1 p hp]; have := l2 (τ.1 2 + 1) p; omega) (fun p hp => by show cntN (pup (τ.2.1 2) c (τ.1 1)) (3 + p) 24 ≤ 3; rw [b2 p hp]; omega) h.hac
  · rw [if_neg g]
    have g6 : ¬ 6 ≤ τ.1 2 + 1 := g
    exact Iv.mk (pup_b (f := τ.2.1 2) h.hb (by omega)) (pup_b (f := τ.2.1 3) h.hr (by omega)) h.hg h.hn h.h7 (by show ∀ p g, 0 ≤ K p g ∧ K p g ≤ 12; exact hH.1) (by show ∀ g, 0 ≤ g ∧ g < 5 → K 0 g + K 1 g + K 2 g + K 3 g = 12; exact hH.2) h.hcd h.hfr h.hkn h.hbo h.hus h.hro h.har (hz) h.hph (by show 0 ≤ (if τ.1 2 + 1 < 3 then τ.1 2 + 1 else 5 - (τ.1 2 + 1)) ∧ (if τ.1 2 + 1 < 3 then τ.1 2 + 1 else 5 - (τ.1 2 + 1)) < 3; split <;> omega) h.hrb (by show 0 ≤ τ.1 2 + 1 ∧ τ.1 2 + 1 ≤ 6; omega) h.hdu (fun _ => h.hdp (by omega)) h.hof h.how h.hga h.hwa h.hck h.hkz h.hcb h.hfb (fun _ => ⟨by show τ.1 0 ≤ 1; omega, hbo⟩) (fun _ => ⟨by show τ.1 2 + 1 < 6; omega, rfl, fun p hp => ⟨b1 p hp, b2 p hp, b3 p hp⟩, p4⟩) (fun z => absurd h0 z) (fun p hp => by show cntN (pup (τ.2.1 3) e (τ.1 1)) p 30 ≤ 8; rw [b3 p hp]; have := l2 (τ.1 2 + 1) p; omega) (fun p hp => by show cntN (pup (τ.2.1 2) c (τ.1 1)) p 24 ≤ 4; rw [b1 p hp]; have := l2 (τ.1 2 + 1) p; omega) (fun p hp => by show cntN (pup (τ.2.1 2) c (τ.1 1)) (3 + p) 24 ≤ 3; rw [b2 p hp]; omega) h.hac
theorem J_place {τ κ : St} (hJ : Jv τ κ) (c e : Int) : Jv (xPlace τ c e).2.2 (kPlace κ τ c e) := by
  by_cases a : (0 ≤ c ∧ c < 24) ∧ (0 ≤ e ∧ e < 30)
  · by_cases g : τ.1 0 = 0 ∧ freeC (τ.2.1 2) c = true ∧ isE e c = true ∧ τ.2.1 3 e = -1
    · have hx : xPlace τ c e = (0, (xPlS τ c e).1 1, xPlS τ c e) := by unfold xPlace; rw [if_neg (fun z => z a), if_neg (fun z => z g)]
      have hk : kPlace κ τ c e = utK ((pgS τ c e).2.1 2) ((pgS τ c e).2.1 3) (pgK κ τ c e) 3 := by unfold kPlace; rw [hx]; exact if_pos rfl
      rw [hx, hk]
      have hf : τ.2.1 2 c = -1 := by
        have := g.2.1
        simp only [freeC, Bool.and_eq_true, decide_eq_true_eq] at this
        exact this.1
      have hl := pgS_Lh hJ.1 (c := c) g.1 a.2 g.2.2.2
      have hv := Hv.lk hl
      have hK := (hJ.2.2.pg hJ.1.htu c e).ut ((pgS τ c e).2.1 2) ((pgS τ c e).2.1 3) 3
      generalize utK ((pgS τ c e).2.1 2) ((pgS τ c e).2.1 3) (pgK κ τ c e) 3 = κ2 at hK ⊢
      have hz := hl.lk.2.2.2.1
      obtain ⟨K, hH, hP⟩ := pgS_sH hJ.1 c e
      unfold xPlS
      have g4 : ∀ X : St, (gopS X).1 4 = X.1 4 := fun X => by unfold gopS; split <;> rfl
      have g2 : ∀ X : St, (gopS X).2 = X.2 := fun X => by unfold gopS; split <;> rfl
      unfold lkS at hz hv ⊢
      generalize hoF (trT (pgS τ c e)) ((pgS τ c e).1 4) = z at hz hv ⊢
      generalize pgS τ c e = W at hP hK hv ⊢
      refine Jv.mk ?_ (hv.of (by rw [g2]; rfl) (by rw [g2]; rfl) (by rw [g4]; rfl)) (hK.of (by rw [g2]; rfl) (by rw [g2]; rfl))
      rw [hP]
      exact hJ.1.placed g.1 a.1 a.2 hf g.2.2.2 hH hz
    · have hx : xPlace τ c e = (2, 0, τ) := by unfold xPlace; rw [if_neg (fun z => z a), if_pos g]
      have hk : kPlace κ τ c e = κ := by unfold kPlace; rw [hx]; exact if_neg (show ¬ (2 : Int) = 0 by decide)
      rw [hx, hk]
      exact hJ
  · have hx : xPlace τ c e = (1, 0, τ) := by unfold xPlace; rw [if_pos a]
    have hk : kPlace κ τ c e = κ := by unfold kPlace; rw [hx]; exact if_neg (show ¬ (1 : Int) = 0 by decide)
    rw [hx, hk]
    exact hJ
