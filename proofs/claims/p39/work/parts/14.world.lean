/-! ===== the state of the game, and the two worlds that hold it ===== -/
abbrev St : Type := (Nat → Int) × (Nat → Int → Int) × (Nat → Int → Int → Int)
def sup {α : Type} (f : Nat → α) (k : Nat) (v : α) : Nat → α := fun j => if j = k then v else f j
def sS (τ : St) (k : Nat) (v : Int) : St := (sup τ.1 k v, τ.2)
def sA (τ : St) (k : Nat) (f : Int → Int) : St := (τ.1, sup τ.2.1 k f, τ.2.2)
def sH (τ : St) (k : Nat) (h : Int → Int → Int) : St := (τ.1, τ.2.1, sup τ.2.2 k h)
/-- one place of a row, of a table -/
def sAt (τ : St) (k : Nat) (i v : Int) : St := sA τ k (pup (τ.2.1 k) i v)
def pup2 (h : Int → Int → Int) (p g v : Int) : Int → Int → Int := pup h p (pup (h p) g v)
def sHt (τ : St) (k : Nat) (p g v : Int) : St := sH τ k (pup2 (τ.2.2 k) p g v)
def flat (h : Int → Int → Int) : Int → Int := fun i => h (i / 5) (i % 5)
def plus1 (f : Int → Int) : Int → Int := fun i => f i + 1
def ordF : Int → Int := fun i => if i = 1 ∨ i = 7 ∨ i = 14 then 4 else if i = 2 ∨ i = 9 then 1 else if i = 4 ∨ i = 10 then 2 else if i = 5 ∨ i = 12 then 3 else 0
def roC : PRO := [(99, 15, ordF)]
def cW (τ κ : St) : PW :=
  [(0, .inr (5, [vR 1, vR 10, vR 40, vR 50, vR 60, vR 70, vR 71, vI (τ.1 0), vI (τ.1 1), vI (τ.1 2), vI (τ.1 3), vI (τ.1 4)])),
   (1, .inr (2, [vR 2, vR 3, vR 4, vR 5, vI (τ.1 5)])),
   (2, .inl (7, .inl (τ.2.1 0))), (3, .inl (7, .inl (τ.2.1 1))), (4, .inl (24, .inl (τ.2.1 2))), (5, .inl (30, .inl (τ.2.1 3))),
   (10, .inr (3, [vR 11, vR 12])),
   (11, .inl (4, .inr (.inr (fun i => some (13 + i.toNat))))),
   (12, .inl (16, .inr (.inr (fun i => some (20 + i.toNat))))),
   (13, .inl (5, .inl (τ.2.2 0 0))), (14, .inl (5, .inl (τ.2.2 0 1))), (15, .inl (5, .inl (τ.2.2 0 2))), (16, .inl (5, .inl (τ.2.2 0 3))),
   (20, .inl (5, .inl (κ.2.2 0 0))), (21, .inl (5, .inl (κ.2.2 0 1))), (22, .inl (5, .inl (κ.2.2 0 2))), (23, .inl (5, .inl (κ.2.2 0 3))), (24, .inl (5, .inl (κ.2.2 0 4))), (25, .inl (5, .inl (κ.2.2 0 5))), (26, .inl (5, .inl (κ.2.2 0 6))), (27, .inl (5, .inl (κ.2.2 0 7))), (28, .inl (5, .inl (κ.2.2 0 8))), (29, .inl (5, .inl (κ.2.2 0 9))), (30, .inl (5, .inl (κ.2.2 0 10))), (31, .inl (5, .inl (κ.2.2 0 11))), (32, .inl (5, .inl (κ.2.2 0 12))), (33, .inl (5, .inl (κ.2.2 0 13))), (34, .inl (5, .inl (κ.2.2 0 14))), (35, .inl (5, .inl (κ.2.2 0 15))),
   (40, .inr (4, [vR 41, vR 42, vI (κ.1 0)])), (41, .inl (8, .inl (κ.2.1 0))), (42, .inl (8, .inl (κ.2.1 1))),
   (50, .inr (1, [vR 51, vR 52, vR 53, vI (τ.1 6), vI (τ.1 7), vI (τ.1 8)])),
   (51, .inl (3, .inr (.inr (fun i => some (54 + i.toNat))))),
   (52, .inl (5, .inl (τ.2.1 5))), (53, .inl (3, .inl (τ.2.1 6))),
   (54, .inl (5, .inl (τ.2.2 1 0))), (55, .inl (5, .inl (τ.2.2 1 1))), (56, .inl (5, .inl (τ.2.2 1 2))),
   (60, .inr (0, [vI (τ.1 9), vI (τ.1 10), vR 61, vR 62])), (61, .inl (3, .inl (τ.2.1 7))), (62, .inl (3, .inl (τ.2.1 8))),
   (70, .inl (3, .inl (τ.2.1 4))), (71, .inl (3, .inl (κ.2.1 2)))]
theorem cW_keys (τ κ τ2 κ2 : St) : (cW τ2 κ2).map Prod.fst = (cW τ κ).map Prod.fst := rfl
theorem pup_plus1 (f : Int → Int) (i v : Int) : pup (plus1 f) i (v + 1) = plus1 (pup f i v) := by
  funext j
  simp only [pup, plus1]
  split <;> rfl
theorem pup_flat (h : Int → Int → Int) {p g : Int} (v : Int) (hg : 0 ≤ g ∧ g < 5) : pup (flat h) (5 * p + g) v = flat (pup2 h p g v) := by
  funext j
  simp only [pup, flat, pup2]
  by_cases h1 : j / 5 = p
  · rw [if_pos h1]
    show _ = if j % 5 = g then v else h p (j % 5)
    by_cases h2 : j % 5 = g
    · rw [if_pos h2, if_pos (by omega)]
    · rw [if_neg h2, if_neg (by omega), h1]
  · rw [if_neg h1, if_neg (by omega)]
theorem flat_at (h : Int → Int → Int) {p g : Int} (hg : 0 ≤ g ∧ g < 5) : flat h (5 * p + g) = h p g := by
  simp only [flat]
  rw [show (5 * p + g) / 5 = p by omega, show (5 * p + g) % 5 = g by omega]
theorem cW_s0 (τ κ : St) (v : Int) : pset (cW τ κ) 0 (.inr (5, [vR 1, vR 10, vR 40, vR 50, vR 60, vR 70, vR 71, vI v, vI (τ.1 1), vI (τ.1 2), vI (τ.1 3), vI (τ.1 4)])) = cW (sS τ 0 v) κ := rfl
theorem cW_s1 (τ κ : St) (v : Int) : pset (cW τ κ) 0 (.inr (5, [vR 1, vR 10, vR 40, vR 50, vR 60, vR 70, vR 71, vI (τ.1 0), vI v, vI (τ.1 2), vI (τ.1 3), vI (τ.1 4)])) = cW (sS τ 1 v) κ := rfl
theorem cW_s2 (τ κ : St) (v : Int) : pset (cW τ κ) 0 (.inr (5, [vR 1, vR 10, vR 40, vR 50, vR 60, vR 70, vR 71, vI (τ.1 0), vI (τ.1 1), vI v, vI (τ.1 3), vI (τ.1 4)])) = cW (sS τ 2 v) κ := rfl
theorem cW_s3 (τ κ : St) (v : Int) : pset (cW τ κ) 0 (.inr (5, [vR 1, vR 10, vR 40, vR 50, vR 60, vR 70, vR 71, vI (τ.1 0), vI (τ.1 1), vI (τ.1 2), vI v, vI (τ.1 4)])) = cW (sS τ 3 v) κ := rfl
theorem cW_s4 (τ κ : St) (v : Int) : pset (cW τ κ) 0 (.inr (5, [vR 1, vR 10, vR 40, vR 50, vR 60, vR 70, vR 71, vI (τ.1 0), vI (τ.1 1), vI (τ.1 2), vI (τ.1 3), vI v])) = cW (sS τ 4 v) κ := rfl
theorem cW_s5 (τ κ : St) (v : Int) : pset (cW τ κ) 1 (.inr (2, [vR 2, vR 3, vR 4, vR 5, vI v])) = cW (sS τ 5 v) κ := rfl
theorem cW_x0 (τ κ : St) (v : Int) : pset (cW τ κ) 40 (.inr (4, [vR 41, vR 42, vI v])) = cW τ (sS κ 0 v) := rfl
theorem cW_s6 (τ κ : St) (v : Int) : pset (cW τ κ) 50 (.inr (1, [vR 51, vR 52, vR 53, vI v, vI (τ.1 7), vI (τ.1 8)])) = cW (sS τ 6 v) κ := rfl
theorem cW_s7 (τ κ : St) (v : Int) : pset (cW τ κ) 50 (.inr (1, [vR 51, vR 52, vR 53, vI (τ.1 6), vI v, vI (τ.1 8)])) = cW (sS τ 7 v) κ := rfl
theorem cW_s8 (τ κ : St) (v : Int) : pset (cW τ κ) 50 (.inr (1, [vR 51, vR 52, vR 53, vI (τ.1 6), vI (τ.1 7), vI v])) = cW (sS τ 8 v) κ := rfl
theorem cW_s9 (τ κ : St) (v : Int) : pset (cW τ κ) 60 (.inr (0, [vI v, vI (τ.1 10), vR 61, vR 62])) = cW (sS τ 9 v) κ := rfl
theorem cW_s10 (τ κ : St) (v : Int) : pset (cW τ κ) 60 (.inr (0, [vI (τ.1 9), vI v, vR 61, vR 62])) = cW (sS τ 10 v) κ := rfl
theorem cW_a0 (τ κ : St) (i v : Int) : pset (cW τ κ) 2 (.inl (7, .inl (pup (τ.2.1 0) i v))) = cW (sAt τ 0 i v) κ := rfl
theorem cW_a1 (τ κ : St) (i v : Int) : pset (cW τ κ) 3 (.inl (7, .inl (pup (τ.2.1 1) i v))) = cW (sAt τ 1 i v) κ := rfl
theorem cW_a2 (τ κ : St) (i v : Int) : pset (cW τ κ) 4 (.inl (24, .inl (pup (τ.2.1 2) i v))) = cW (sAt τ 2 i v) κ := rfl
theorem cW_a3 (τ κ : St) (i v : Int) : pset (cW τ κ) 5 (.inl (30, .inl (pup (τ.2.1 3) i v))) = cW (sAt τ 3 i v) κ := rfl
theorem cW_a5 (τ κ : St) (i v : Int) : pset (cW τ κ) 52 (.inl (5, .inl (pup (τ.2.1 5) i v))) = cW (sAt τ 5 i v) κ := rfl
theorem cW_a6 (τ κ : St) (i v : Int) : pset (cW τ κ) 53 (.inl (3, .inl (pup (τ.2.1 6) i v))) = cW (sAt τ 6 i v) κ := rfl
theorem cW_a7 (τ κ : St) (i v : Int) : pset (cW τ κ) 61 (.inl (3, .inl (pup (τ.2.1 7) i v))) = cW (sAt τ 7 i v) κ := rfl
theorem cW_a8 (τ κ : St) (i v : Int) : pset (cW τ κ) 62 (.inl (3, .inl (pup (τ.2.1 8) i v))) = cW (sAt τ 8 i v) κ := rfl
theorem cW_a4 (τ κ : St) (i v : Int) : pset (cW τ κ) 70 (.inl (3, .inl (pup (τ.2.1 4) i v))) = cW (sAt τ 4 i v) κ := rfl
theorem cW_y0 (τ κ : St) (i v : Int) : pset (cW τ κ) 41 (.inl (8, .inl (pup (κ.2.1 0) i v))) = cW τ (sAt κ 0 i v) := rfl
theorem cW_y1 (τ κ : St) (i v : Int) : pset (cW τ κ) 42 (.inl (8, .inl (pup (κ.2.1 1) i v))) = cW τ (sAt κ 1 i v) := rfl
theorem cW_y2 (τ κ : St) (i v : Int) : pset (cW τ κ) 71 (.inl (3, .inl (pup (κ.2.1 2) i v))) = cW τ (sAt κ 2 i v) := rfl
theorem cW_h0 (τ κ : St) (g v : Int) : pset (cW τ κ) 13 (.inl (5, .inl (pup (τ.2.2 0 0) g v))) = cW (sHt τ 0 0 g v) κ := rfl
theorem cW_h1 (τ κ : St) (g v : Int) : pset (cW τ κ) 14 (.inl (5, .inl (pup (τ.2.2 0 1) g v))) = cW (sHt τ 0 1 g v) κ := rfl
theorem cW_h2 (τ κ : St) (g v : Int) : pset (cW τ κ) 15 (.inl (5, .inl (pup (τ.2.2 0 2) g v))) = cW (sHt τ 0 2 g v) κ := rfl
theorem cW_h3 (τ κ : St) (g v : Int) : pset (cW τ κ) 16 (.inl (5, .inl (pup (τ.2.2 0 3) g v))) = cW (sHt τ 0 3 g v) κ := rfl
theorem cW_c0 (τ κ : St) (g v : Int) : pset (cW τ κ) 54 (.inl (5, .inl (pup (τ.2.2 1 0) g v))) = cW (sHt τ 1 0 g v) κ := rfl
theorem cW_c1 (τ κ : St) (g v : Int) : pset (cW τ κ) 55 (.inl (5, .inl (pup (τ.2.2 1 1) g v))) = cW (sHt τ 1 1 g v) κ := rfl
theorem cW_c2 (τ κ : St) (g v : Int) : pset (cW τ κ) 56 (.inl (5, .inl (pup (τ.2.2 1 2) g v))) = cW (sHt τ 1 2 g v) κ := rfl
theorem cW_m0 (τ κ : St) (g v : Int) : pset (cW τ κ) 20 (.inl (5, .inl (pup (κ.2.2 0 0) g v))) = cW τ (sHt κ 0 0 g v) := rfl
theorem cW_m1 (τ κ : St) (g v : Int) : pset (cW τ κ) 21 (.inl (5, .inl (pup (κ.2.2 0 1) g v))) = cW τ (sHt κ 0 1 g v) := rfl
theorem cW_m2 (τ κ : St) (g v : Int) : pset (cW τ κ) 22 (.inl (5, .inl (pup (κ.2.2 0 2) g v))) = cW τ (sHt κ 0 2 g v) := rfl
theorem cW_m3 (τ κ : St) (g v : Int) : pset (cW τ κ) 23 (.inl (5, .inl (pup (κ.2.2 0 3) g v))) = cW τ (sHt κ 0 3 g v) := rfl
theorem cW_m4 (τ κ : St) (g v : Int) : pset (cW τ κ) 24 (.inl (5, .inl (pup (κ.2.2 0 4) g v))) = cW τ (sHt κ 0 4 g v) := rfl
theorem cW_m5 (τ κ : St) (g v : Int) : pset (cW τ κ) 25 (.inl (5, .inl (pup (κ.2.2 0 5) g v))) = cW τ (sHt κ 0 5 g v) := rfl
theorem cW_m6 (τ κ : St) (g v : Int) : pset (cW τ κ) 26 (.inl (5, .inl (pup (κ.2.2 0 6) g v))) = cW τ (sHt κ 0 6 g v) := rfl
theorem cW_m7 (τ κ : St) (g v : Int) : pset (cW τ κ) 27 (.inl (5, .inl (pup (κ.2.2 0 7) g v))) = cW τ (sHt κ 0 7 g v) := rfl
theorem cW_m8 (τ κ : St) (g v : Int) : pset (cW τ κ) 28 (.inl (5, .inl (pup (κ.2.2 0 8) g v))) = cW τ (sHt κ 0 8 g v) := rfl
theorem cW_m9 (τ κ : St) (g v : Int) : pset (cW τ κ) 29 (.inl (5, .inl (pup (κ.2.2 0 9) g v))) = cW τ (sHt κ 0 9 g v) := rfl
theorem cW_m10 (τ κ : St) (g v : Int) : pset (cW τ κ) 30 (.inl (5, .inl (pup (κ.2.2 0 10) g v))) = cW τ (sHt κ 0 10 g v) := rfl
theorem cW_m11 (τ κ : St) (g v : Int) : pset (cW τ κ) 31 (.inl (5, .inl (pup (κ.2.2 0 11) g v))) = cW τ (sHt κ 0 11 g v) := rfl
theorem cW_m12 (τ κ : St) (g v : Int) : pset (cW τ κ) 32 (.inl (5, .inl (pup (κ.2.2 0 12) g v))) = cW τ (sHt κ 0 12 g v) := rfl
theorem cW_m13 (τ κ : St) (g v : Int) : pset (cW τ κ) 33 (.inl (5, .inl (pup (κ.2.2 0 13) g v))) = cW τ (sHt κ 0 13 g v) := rfl
theorem cW_m14 (τ κ : St) (g v : Int) : pset (cW τ κ) 34 (.inl (5, .inl (pup (κ.2.2 0 14) g v))) = cW τ (sHt κ 0 14 g v) := rfl
theorem cW_m15 (τ κ : St) (g v : Int) : pset (cW τ κ) 35 (.inl (5, .inl (pup (κ.2.2 0 15) g v))) = cW τ (sHt κ 0 15 g v) := rfl
