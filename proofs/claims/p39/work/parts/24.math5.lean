/-! ===== trails, by search ===== -/
def edF (b : Int → Int) (p c d : Int) : Int := if ownB (b c) = -1 ∨ ownB (b c) = p then c else d
def ga1 (b r : Int → Int) (p e : Int) (κ : St) : St := if κ.1 0 < 8 ∧ r e = p then sS (sAt (sAt κ 0 (κ.1 0) (edF b p (cA e) (24 + 2 * κ.1 0))) 1 (κ.1 0) (edF b p (cB e) (24 + 2 * κ.1 0 + 1))) 0 (κ.1 0 + 1) else κ
def gaN (b r : Int → Int) (p : Int) (κ : St) : Nat → St
  | 0 => sS κ 0 0
  | n + 1 => ga1 b r p (n : Int) (gaN b r p κ n)
theorem gaN_cnt (b r : Int → Int) (p : Int) (κ : St) : ∀ n : Nat, 0 ≤ (gaN b r p κ n).1 0 ∧ (gaN b r p κ n).1 0 ≤ 8
  | 0 => by
    have h : (gaN b r p κ 0).1 0 = 0 := rfl
    omega
  | n + 1 => by
    have := gaN_cnt b r p κ n
    show 0 ≤ (ga1 b r p (n : Int) (gaN b r p κ n)).1 0 ∧ (ga1 b r p (n : Int) (gaN b r p κ n)).1 0 ≤ 8
    unfold ga1
    split
    · next h =>
      show 0 ≤ (gaN b r p κ n).1 0 + 1 ∧ (gaN b r p κ n).1 0 + 1 ≤ 8
      omega
    · exact this
theorem gaN_stop (b r : Int → Int) (p : Int) (κ : St) {n : Nat} (h : 8 ≤ (gaN b r p κ n).1 0) : ∀ k : Nat, gaN b r p κ (n + k) = gaN b r p κ n
  | 0 => rfl
  | k + 1 => by
    have := gaN_stop b r p κ h k
    show ga1 b r p ((n + k : Nat) : Int) (gaN b r p κ (n + k)) = _
    rw [this]
    unfold ga1
    rw [if_neg (by omega)]
theorem gaN_stop30 (b r : Int → Int) (p : Int) (κ : St) {n : Nat} (hn : n ≤ 30) (h : 8 ≤ (gaN b r p κ n).1 0) : gaN b r p κ 30 = gaN b r p κ n := by
  have := gaN_stop b r p κ h (30 - n)
  rw [show n + (30 - n) = 30 by omega] at this
  exact this
def mxN (f : Int → Int) : Nat → Int
  | 0 => 0
  | n + 1 => if mxN f n < f (n : Int) then f (n : Int) else mxN f n
theorem mxN_r {f : Int → Int} {b : Int} (hb : 0 ≤ b) (hf : ∀ i, f i ≤ b) : ∀ n : Nat, 0 ≤ mxN f n ∧ mxN f n ≤ b
  | 0 => ⟨Int.le_refl _, hb⟩
  | n + 1 => by
    have := mxN_r hb hf n
    have := hf (n : Int)
    simp only [mxN]
    split <;> omega
theorem mxN_0 {f : Int → Int} {n : Nat} (h0 : 0 ≤ mxN f n) (h : f (n : Int) = 0) : mxN f (n + 1) = mxN f n := by
  simp only [mxN]
  rw [h, if_neg (by omega)]
theorem mxN_1 {f : Int → Int} {n : Nat} {v : Int} (h : f (n : Int) = v) : mxN f (n + 1) = if mxN f n < v then v else mxN f n := by
  simp only [mxN]
  rw [h]
def goS (on ot : Int → Int) (g e : Int) (q : Int → Int → Int) (r : Int) : Int := if iA (iSr g r) 1 = 0 ∧ (on r = e ∨ ot r = e) then 1 + q (if on r = e then ot r else on r) (iO g (iSl 1 r)) else 0
def goF (on ot : Int → Int) (c : Nat) : Nat → Int → Int → Int
  | 0, _, _ => 0
  | k + 1, e, g => mxN (goS on ot g e (goF on ot c k)) c
theorem goF_r (on ot : Int → Int) (c : Nat) : ∀ (k : Nat) (e g : Int), 0 ≤ goF on ot c k e g ∧ goF on ot c k e g ≤ k
  | 0, _, _ => by simp [goF]
  | k + 1, e, g => by
    refine mxN_r (by omega) (fun i => ?_) c
    unfold goS
    split
    · have := (goF_r on ot c k (if on i = e then ot i else on i) (iO g (iSl 1 i))).2
      omega
    · omega
theorem i32_r (x : Int32) : -2147483648 ≤ x.toInt ∧ x.toInt ≤ 2147483647 := by
  have h1 := x.le_toInt
  have h2 := x.toInt_lt
  omega
theorem iA_r (x y : Int) : -2147483648 ≤ iA x y ∧ iA x y ≤ 2147483647 := i32_r _
theorem iO_r (x y : Int) : -2147483648 ≤ iO x y ∧ iO x y ≤ 2147483647 := i32_r _
theorem iSl_r (x y : Int) : -2147483648 ≤ iSl x y ∧ iSl x y ≤ 2147483647 := i32_r _
theorem iSr_r (x y : Int) : -2147483648 ≤ iSr x y ∧ iSr x y ≤ 2147483647 := i32_r _
theorem edF_r {b : Int → Int} {p c d : Int} (hc : 0 ≤ c ∧ c < 24) (hd : 0 ≤ d ∧ d ≤ 63) : 0 ≤ edF b p c d ∧ edF b p c d ≤ 63 := by unfold edF; split <;> omega
theorem gaN_on (b r : Int → Int) (p : Int) (κ : St) (h0 : ∀ i, 0 ≤ κ.2.1 0 i ∧ κ.2.1 0 i ≤ 63) : ∀ n : Nat, n ≤ 30 → ∀ i, 0 ≤ (gaN b r p κ n).2.1 0 i ∧ (gaN b r p κ n).2.1 0 i ≤ 63
  | 0, _ => h0
  | n + 1, hn => by
    have ih := gaN_on b r p κ h0 n (by omega)
    have hc := gaN_cnt b r p κ n
    have h1 := cA_r (e := (n : Int)) (by omega)
    intro i
    show 0 ≤ (ga1 b r p (n : Int) (gaN b r p κ n)).2.1 0 i ∧ (ga1 b r p (n : Int) (gaN b r p κ n)).2.1 0 i ≤ 63
    unfold ga1
    split
    · exact pup_b (f := (gaN b r p κ n).2.1 0) ih (edF_r h1 (by omega)) i
    · exact ih i
theorem gaN_ot (b r : Int → Int) (p : Int) (κ : St) (h0 : ∀ i, 0 ≤ κ.2.1 1 i ∧ κ.2.1 1 i ≤ 63) : ∀ n : Nat, n ≤ 30 → ∀ i, 0 ≤ (gaN b r p κ n).2.1 1 i ∧ (gaN b r p κ n).2.1 1 i ≤ 63
  | 0, _ => h0
  | n + 1, hn => by
    have ih := gaN_ot b r p κ h0 n (by omega)
    have hc := gaN_cnt b r p κ n
    have h1 := cB_r (e := (n : Int)) (by omega)
    intro i
    show 0 ≤ (ga1 b r p (n : Int) (gaN b r p κ n)).2.1 1 i ∧ (ga1 b r p (n : Int) (gaN b r p κ n)).2.1 1 i ≤ 63
    unfold ga1
    split
    · exact pup_b (f := (gaN b r p κ n).2.1 1) ih (edF_r h1 (by omega)) i
    · exact ih i
/-- the longest trail by search, from what was gathered -/
def bsS (κ : St) (c : Nat) (r : Int) : Int := if 1 + goF (κ.2.1 0) (κ.2.1 1) c 7 (κ.2.1 0 r) (iSl 1 r) < 1 + goF (κ.2.1 0) (κ.2.1 1) c 7 (κ.2.1 1 r) (iSl 1 r) then 1 + goF (κ.2.1 0) (κ.2.1 1) c 7 (κ.2.1 1 r) (iSl 1 r) else 1 + goF (κ.2.1 0) (κ.2.1 1) c 7 (κ.2.1 0 r) (iSl 1 r)
def bsF (κ : St) : Int := mxN (bsS κ (κ.1 0).toNat) (κ.1 0).toNat
