/-! ===== what holds between two calls ===== -/
def plc (n p : Int) : Int := (if p < n then 1 else 0) + (if 5 - p < n then 1 else 0)
def Iv (τ : St) : Prop :=
  (∀ c, -1 ≤ τ.2.1 2 c ∧ τ.2.1 2 c ≤ 5) ∧
  (∀ e, -1 ≤ τ.2.1 3 e ∧ τ.2.1 3 e ≤ 2) ∧
  (∀ h, 0 ≤ τ.2.1 0 h ∧ τ.2.1 0 h ≤ 5) ∧
  (∀ h, 2 ≤ τ.2.1 1 h ∧ τ.2.1 1 h ≤ 12) ∧
  (∀ h, τ.2.1 1 h = 7 ↔ τ.2.1 0 h = 5) ∧
  (∀ p g, 0 ≤ τ.2.2 0 p g ∧ τ.2.2 0 p g ≤ 12) ∧
  (∀ g, 0 ≤ g ∧ g < 5 → τ.2.2 0 0 g + τ.2.2 0 1 g + τ.2.2 0 2 g + τ.2.2 0 3 g = 12) ∧
  (∀ p k, 0 ≤ τ.2.2 1 p k ∧ τ.2.2 1 p k ≤ 15) ∧
  (∀ k, 0 ≤ τ.2.1 5 k ∧ τ.2.1 5 k ≤ 15) ∧
  (∀ p, 0 ≤ τ.2.1 6 p ∧ τ.2.1 6 p ≤ 15) ∧
  (0 ≤ τ.1 6 ∧ τ.1 6 ≤ 15) ∧
  (0 ≤ τ.1 7 ∧ τ.1 7 ≤ 1) ∧
  (0 ≤ τ.1 3 ∧ τ.1 3 ≤ 1) ∧
  (-1 ≤ τ.1 8 ∧ τ.1 8 < 3) ∧
  (-1 ≤ τ.1 4 ∧ τ.1 4 < 3) ∧
  (0 ≤ τ.1 0 ∧ τ.1 0 ≤ 5) ∧
  (0 ≤ τ.1 1 ∧ τ.1 1 < 3) ∧
  (0 ≤ τ.1 5 ∧ τ.1 5 < 7) ∧
  (0 ≤ τ.1 2 ∧ τ.1 2 ≤ 6) ∧
  (∀ p, 0 ≤ τ.2.1 4 p ∧ τ.2.1 4 p ≤ 30) ∧
  (τ.1 0 ≠ 3 → ∀ p, τ.2.1 4 p = 0) ∧
  (0 ≤ τ.1 9 ∧ τ.1 9 ≤ 99999) ∧
  (0 ≤ τ.1 10 ∧ τ.1 10 ≤ 99999) ∧
  (∀ p, 0 ≤ τ.2.1 7 p ∧ τ.2.1 7 p ≤ 99999) ∧
  (∀ p, 0 ≤ τ.2.1 8 p ∧ τ.2.1 8 p ≤ 99999) ∧
  (∀ p, τ.2.2 1 p 0 + τ.2.1 6 p ≤ τ.1 6) ∧
  (∀ p k, τ.2.2 1 p k ≤ τ.1 6) ∧
  (∀ k, τ.2.1 5 k ≤ τ.1 6) ∧
  (τ.1 3 = 0 → τ.1 0 ≤ 1 ∧ τ.1 6 = 0) ∧
  (τ.1 0 = 0 → τ.1 2 < 6 ∧ τ.1 1 = (if τ.1 2 < 3 then τ.1 2 else 5 - τ.1 2) ∧ (∀ p, 0 ≤ p ∧ p < 3 → cntN (τ.2.1 2) p 24 = plc (τ.1 2) p ∧ cntN (τ.2.1 2) (3 + p) 24 = 0 ∧ cntN (τ.2.1 3) p 30 = plc (τ.1 2) p) ∧ τ.1 3 = 0) ∧
  (τ.1 0 ≠ 0 → τ.1 2 = 6) ∧
  (∀ p, 0 ≤ p ∧ p < 3 → cntN (τ.2.1 3) p 30 ≤ 8) ∧
  (∀ p, 0 ≤ p ∧ p < 3 → cntN (τ.2.1 2) p 24 ≤ 4) ∧
  (∀ p, 0 ≤ p ∧ p < 3 → cntN (τ.2.1 2) (3 + p) 24 ≤ 3) ∧
  (τ.1 8 ≠ -1 → 3 ≤ τ.2.1 6 (τ.1 8))
theorem Iv.hb {τ : St} (h : Iv τ) : ∀ c, -1 ≤ τ.2.1 2 c ∧ τ.2.1 2 c ≤ 5 := h.1
theorem Iv.hr {τ : St} (h : Iv τ) : ∀ e, -1 ≤ τ.2.1 3 e ∧ τ.2.1 3 e ≤ 2 := h.2.1
theorem Iv.hg {τ : St} (h : Iv τ) : ∀ h, 0 ≤ τ.2.1 0 h ∧ τ.2.1 0 h ≤ 5 := h.2.2.1
theorem Iv.hn {τ : St} (h : Iv τ) : ∀ h, 2 ≤ τ.2.1 1 h ∧ τ.2.1 1 h ≤ 12 := h.2.2.2.1
theorem Iv.h7 {τ : St} (h : Iv τ) : ∀ h, τ.2.1 1 h = 7 ↔ τ.2.1 0 h = 5 := h.2.2.2.2.1
theorem Iv.hh {τ : St} (h : Iv τ) : ∀ p g, 0 ≤ τ.2.2 0 p g ∧ τ.2.2 0 p g ≤ 12 := h.2.2.2.2.2.1
theorem Iv.hsm {τ : St} (h : Iv τ) : ∀ g, 0 ≤ g ∧ g < 5 → τ.2.2 0 0 g + τ.2.2 0 1 g + τ.2.2 0 2 g + τ.2.2 0 3 g = 12 := h.2.2.2.2.2.2.1
theorem Iv.hcd {τ : St} (h : Iv τ) : ∀ p k, 0 ≤ τ.2.2 1 p k ∧ τ.2.2 1 p k ≤ 15 := h.2.2.2.2.2.2.2.1
theorem Iv.hfr {τ : St} (h : Iv τ) : ∀ k, 0 ≤ τ.2.1 5 k ∧ τ.2.1 5 k ≤ 15 := h.2.2.2.2.2.2.2.2.1
theorem Iv.hkn {τ : St} (h : Iv τ) : ∀ p, 0 ≤ τ.2.1 6 p ∧ τ.2.1 6 p ≤ 15 := h.2.2.2.2.2.2.2.2.2.1
theorem Iv.hbo {τ : St} (h : Iv τ) : 0 ≤ τ.1 6 ∧ τ.1 6 ≤ 15 := h.2.2.2.2.2.2.2.2.2.2.1
theorem Iv.hus {τ : St} (h : Iv τ) : 0 ≤ τ.1 7 ∧ τ.1 7 ≤ 1 := h.2.2.2.2.2.2.2.2.2.2.2.1
theorem Iv.hro {τ : St} (h : Iv τ) : 0 ≤ τ.1 3 ∧ τ.1 3 ≤ 1 := h.2.2.2.2.2.2.2.2.2.2.2.2.1
theorem Iv.har {τ : St} (h : Iv τ) : -1 ≤ τ.1 8 ∧ τ.1 8 < 3 := h.2.2.2.2.2.2.2.2.2.2.2.2.2.1
theorem Iv.hth {τ : St} (h : Iv τ) : -1 ≤ τ.1 4 ∧ τ.1 4 < 3 := h.2.2.2.2.2.2.2.2.2.2.2.2.2.2.1
theorem Iv.hph {τ : St} (h : Iv τ) : 0 ≤ τ.1 0 ∧ τ.1 0 ≤ 5 := h.2.2.2.2.2.2.2.2.2.2.2.2.2.2.2.1
theorem Iv.htu {τ : St} (h : Iv τ) : 0 ≤ τ.1 1 ∧ τ.1 1 < 3 := h.2.2.2.2.2.2.2.2.2.2.2.2.2.2.2.2.1
theorem Iv.hrb {τ : St} (h : Iv τ) : 0 ≤ τ.1 5 ∧ τ.1 5 < 7 := h.2.2.2.2.2.2.2.2.2.2.2.2.2.2.2.2.2.1
theorem Iv.hpl {τ : St} (h : Iv τ) : 0 ≤ τ.1 2 ∧ τ.1 2 ≤ 6 := h.2.2.2.2.2.2.2.2.2.2.2.2.2.2.2.2.2.2.1
theorem Iv.hdu {τ : St} (h : Iv τ) : ∀ p, 0 ≤ τ.2.1 4 p ∧ τ.2.1 4 p ≤ 30 := h.2.2.2.2.2.2.2.2.2.2.2.2.2.2.2.2.2.2.2.1
theorem Iv.hdp {τ : St} (h : Iv τ) : τ.1 0 ≠ 3 → ∀ p, τ.2.1 4 p = 0 := h.2.2.2.2.2.2.2.2.2.2.2.2.2.2.2.2.2.2.2.2.1
theorem Iv.hof {τ : St} (h : Iv τ) : 0 ≤ τ.1 9 ∧ τ.1 9 ≤ 99999 := h.2.2.2.2.2.2.2.2.2.2.2.2.2.2.2.2.2.2.2.2.2.1
theorem Iv.how {τ : St} (h : Iv τ) : 0 ≤ τ.1 10 ∧ τ.1 10 ≤ 99999 := h.2.2.2.2.2.2.2.2.2.2.2.2.2.2.2.2.2.2.2.2.2.2.1
theorem Iv.hga {τ : St} (h : Iv τ) : ∀ p, 0 ≤ τ.2.1 7 p ∧ τ.2.1 7 p ≤ 99999 := h.2.2.2.2.2.2.2.2.2.2.2.2.2.2.2.2.2.2.2.2.2.2.2.1
theorem Iv.hwa {τ : St} (h : Iv τ) : ∀ p, 0 ≤ τ.2.1 8 p ∧ τ.2.1 8 p ≤ 99999 := h.2.2.2.2.2.2.2.2.2.2.2.2.2.2.2.2.2.2.2.2.2.2.2.2.1
theorem Iv.hck {τ : St} (h : Iv τ) : ∀ p, τ.2.2 1 p 0 + τ.2.1 6 p ≤ τ.1 6 := h.2.2.2.2.2.2.2.2.2.2.2.2.2.2.2.2.2.2.2.2.2.2.2.2.2.1
theorem Iv.hcb {τ : St} (h : Iv τ) : ∀ p k, τ.2.2 1 p k ≤ τ.1 6 := h.2.2.2.2.2.2.2.2.2.2.2.2.2.2.2.2.2.2.2.2.2.2.2.2.2.2.1
theorem Iv.hfb {τ : St} (h : Iv τ) : ∀ k, τ.2.1 5 k ≤ τ.1 6 := h.2.2.2.2.2.2.2.2.2.2.2.2.2.2.2.2.2.2.2.2.2.2.2.2.2.2.2.1
theorem Iv.hnr {τ : St} (h : Iv τ) : τ.1 3 = 0 → τ.1 0 ≤ 1 ∧ τ.1 6 = 0 := h.2.2.2.2.2.2.2.2.2.2.2.2.2.2.2.2.2.2.2.2.2.2.2.2.2.2.2.2.1
theorem Iv.hpp {τ : St} (h : Iv τ) : τ.1 0 = 0 → τ.1 2 < 6 ∧ τ.1 1 = (if τ.1 2 < 3 then τ.1 2 else 5 - τ.1 2) ∧ (∀ p, 0 ≤ p ∧ p < 3 → cntN (τ.2.1 2) p 24 = plc (τ.1 2) p ∧ cntN (τ.2.1 2) (3 + p) 24 = 0 ∧ cntN (τ.2.1 3) p 30 = plc (τ.1 2) p) ∧ τ.1 3 = 0 := h.2.2.2.2.2.2.2.2.2.2.2.2.2.2.2.2.2.2.2.2.2.2.2.2.2.2.2.2.2.1
theorem Iv.hpq {τ : St} (h : Iv τ) : τ.1 0 ≠ 0 → τ.1 2 = 6 := h.2.2.2.2.2.2.2.2.2.2.2.2.2.2.2.2.2.2.2.2.2.2.2.2.2.2.2.2.2.2.1
theorem Iv.hrc {τ : St} (h : Iv τ) : ∀ p, 0 ≤ p ∧ p < 3 → cntN (τ.2.1 3) p 30 ≤ 8 := h.2.2.2.2.2.2.2.2.2.2.2.2.2.2.2.2.2.2.2.2.2.2.2.2.2.2.2.2.2.2.2.1
theorem Iv.hbc {τ : St} (h : Iv τ) : ∀ p, 0 ≤ p ∧ p < 3 → cntN (τ.2.1 2) p 24 ≤ 4 := h.2.2.2.2.2.2.2.2.2.2.2.2.2.2.2.2.2.2.2.2.2.2.2.2.2.2.2.2.2.2.2.2.1
theorem Iv.hcc {τ : St} (h : Iv τ) : ∀ p, 0 ≤ p ∧ p < 3 → cntN (τ.2.1 2) (3 + p) 24 ≤ 3 := h.2.2.2.2.2.2.2.2.2.2.2.2.2.2.2.2.2.2.2.2.2.2.2.2.2.2.2.2.2.2.2.2.2.1
theorem Iv.hac {τ : St} (h : Iv τ) : τ.1 8 ≠ -1 → 3 ≤ τ.2.1 6 (τ.1 8) := h.2.2.2.2.2.2.2.2.2.2.2.2.2.2.2.2.2.2.2.2.2.2.2.2.2.2.2.2.2.2.2.2.2.2
theorem Iv.mk {τ : St} (hb : ∀ c, -1 ≤ τ.2.1 2 c ∧ τ.2.1 2 c ≤ 5) (hr : ∀ e, -1 ≤ τ.2.1 3 e ∧ τ.2.1 3 e ≤ 2) (hg : ∀ h, 0 ≤ τ.2.1 0 h ∧ τ.2.1 0 h ≤ 5) (hn : ∀ h, 2 ≤ τ.2.1 1 h ∧ τ.2.1 1 h ≤ 12) (h7 : ∀ h, τ.2.1 1 h = 7 ↔ τ.2.1 0 h = 5) (hh : ∀ p g, 0 ≤ τ.2.2 0 p g ∧ τ.2.2 0 p g ≤ 12) (hsm : ∀ g, 0 ≤ g ∧ g < 5 → τ.2.2 0 0 g + τ.2.2 0 1 g + τ.2.2 0 2 g + τ.2.2 0 3 g = 12) (hcd : ∀ p k, 0 ≤ τ.2.2 1 p k ∧ τ.2.2 1 p k ≤ 15) (hfr : ∀ k, 0 ≤ τ.2.1 5 k ∧ τ.2.1 5 k ≤ 15) (hkn : ∀ p, 0 ≤ τ.2.1 6 p ∧ τ.2.1 6 p ≤ 15) (hbo : 0 ≤ τ.1 6 ∧ τ.1 6 ≤ 15) (hus : 0 ≤ τ.1 7 ∧ τ.1 7 ≤ 1) (hro : 0 ≤ τ.1 3 ∧ τ.1 3 ≤ 1) (har : -1 ≤ τ.1 8 ∧ τ.1 8 < 3) (hth : -1 ≤ τ.1 4 ∧ τ.1 4 < 3) (hph : 0 ≤ τ.1 0 ∧ τ.1 0 ≤ 5) (htu : 0 ≤ τ.1 1 ∧ τ.1 1 < 3) (hrb : 0 ≤ τ.1 5 ∧ τ.1 5 < 7) (hpl : 0 ≤ τ.1 2 ∧ τ.1 2 ≤ 6) (hdu : ∀ p, 0 ≤ τ.2.1 4 p ∧ τ.2.1 4 p ≤ 30) (hdp : τ.1 0 ≠ 3 → ∀ p, τ.2.1 4 p = 0) (hof : 0 ≤ τ.1 9 ∧ τ.1 9 ≤ 99999) (how : 0 ≤ τ.1 10 ∧ τ.1 10 ≤ 99999) (hga : ∀ p, 0 ≤ τ.2.1 7 p ∧ τ.2.1 7 p ≤ 99999) (hwa : ∀ p, 0 ≤ τ.2.1 8 p ∧ τ.2.1 8 p ≤ 99999) (hck : ∀ p, τ.2.2 1 p 0 + τ.2.1 6 p ≤ τ.1 6) (hcb : ∀ p k, τ.2.2 1 p k ≤ τ.1 6) (hfb : ∀ k, τ.2.1 5 k ≤ τ.1 6) (hnr : τ.1 3 = 0 → τ.1 0 ≤ 1 ∧ τ.1 6 = 0) (hpp : τ.1 0 = 0 → τ.1 2 < 6 ∧ τ.1 1 = (if τ.1 2 < 3 then τ.1 2 else 5 - τ.1 2) ∧ (∀ p, 0 ≤ p ∧ p < 3 → cntN (τ.2.1 2) p 24 = plc (τ.1 2) p ∧ cntN (τ.2.1 2) (3 + p) 24 = 0 ∧ cntN (τ.2.1 3) p 30 = plc (τ.1 2) p) ∧ τ.1 3 = 0) (hpq : τ.1 0 ≠ 0 → τ.1 2 = 6) (hrc : ∀ p, 0 ≤ p ∧ p < 3 → cntN (τ.2.1 3) p 30 ≤ 8) (hbc : ∀ p, 0 ≤ p ∧ p < 3 → cntN (τ.2.1 2) p 24 ≤ 4) (hcc : ∀ p, 0 ≤ p ∧ p < 3 → cntN (τ.2.1 2) (3 + p) 24 ≤ 3) (hac : τ.1 8 ≠ -1 → 3 ≤ τ.2.1 6 (τ.1 8)) : Iv τ := ⟨hb, hr, hg, hn, h7, hh, hsm, hcd, hfr, hkn, hbo, hus, hro, har, hth, hph, htu, hrb, hpl, hdu, hdp, hof, how, hga, hwa, hck, hcb, hfb, hnr, hpp, hpq, hrc, hbc, hcc, hac⟩
/-- what a call answers: which of its exceptions (0: none), the value, the state -/
abbrev XR : Type := Int × Int × St
def oc (E : Int → String) (x : XR) : PO := if x.1 = 0 then .inl (some (vI x.2.1)) else .inr (E x.1)
def ocv (E : Int → String) (x : XR) : PO := if x.1 = 0 then .inl none else .inr (E x.1)
def eIAS (k : Int) : String := if k = 1 then xI else if k = 2 then xA else xS
def eIS (k : Int) : String := if k = 1 then xI else xS
def eAS (k : Int) : String := if k = 1 then xA else xS
theorem sS_sS (τ : St) (k : Nat) (a b : Int) : sS (sS τ k a) k b = sS τ k b := by
  unfold sS
  refine Prod.ext (funext fun j => ?_) rfl
  simp only [sup]
  split <;> rfl
theorem iv_asks {b : Bool} : bI b = 1 ∨ bI b = 0 := by cases b <;> simp [bI]
/-! ===== what only tells ===== -/
def xPhase (τ : St) : XR := (0, τ.1 0, τ)
def xTurn (τ : St) : XR := (0, τ.1 1, τ)
def xHand (τ : St) (p g : Int) : XR := if ¬ (0 ≤ p ∧ p < 4) then (1, 0, τ) else if ¬ (0 ≤ g ∧ g < 5) then (2, 0, τ) else (0, τ.2.2 0 p g, τ)
def xHandK (κ τ : St) (p g : Int) : XR := if ¬ (0 ≤ p ∧ p < 4) then (1, 0, τ) else if ¬ (0 ≤ g ∧ g < 5) then (2, 0, τ) else (0, cbm (κ.2.2 0) p g, τ)
def xDue (τ : St) (p : Int) : XR := if ¬ (0 ≤ p ∧ p < 3) then (1, 0, τ) else (0, τ.2.1 4 p, τ)
def xPoints (τ : St) (p : Int) : XR := if ¬ (0 ≤ p ∧ p < 3) then (1, 0, τ) else (0, ptsF τ p, τ)
def xHolder (τ : St) (b : Int) : XR := (0, if b = 0 then τ.1 4 else τ.1 8, τ)
def xKnights (τ : St) (p : Int) : XR := if ¬ (0 ≤ p ∧ p < 3) then (1, 0, τ) else (0, τ.2.1 6 p, τ)
def xCards (τ : St) (p k : Int) : XR := if ¬ (0 ≤ p ∧ p < 3) then (1, 0, τ) else if ¬ (0 ≤ k ∧ k < 5) then (2, 0, τ) else (0, τ.2.2 1 p k, τ)
def xBuilding (τ : St) (c : Int) : XR := if ¬ (0 ≤ c ∧ c < 24) then (1, 0, τ) else (0, τ.2.1 2 c, τ)
def xRoadAt (τ : St) (e : Int) : XR := if ¬ (0 ≤ e ∧ e < 30) then (1, 0, τ) else (0, τ.2.1 3 e, τ)
def xRobber (τ : St) : XR := (0, τ.1 5, τ)
def xRate (τ : St) (p g : Int) : XR := if ¬ (0 ≤ p ∧ p < 3) then (1, 0, τ) else if ¬ (0 ≤ g ∧ g < 5) then (2, 0, τ) else (0, rtN (τ.2.1 2) p g 24, τ)
def xWould (τ : St) (p g u : Int) : XR := if ¬ (0 ≤ p ∧ p < 3) then (1, 0, τ) else if ¬ ((0 ≤ g ∧ g < 5) ∧ (2 ≤ u ∧ u ≤ 12)) then (2, 0, τ) else (0, yTo τ p g u, τ)
