/-! ===== the land, in numbers ===== -/
def bI (b : Bool) : Int := match b with
  | true => 1
  | false => 0
theorem bI_01 (b : Bool) : bI b = 0 ∨ bI b = 1 := by cases b <;> simp [bI]
theorem bI0 {b : Bool} (h : bI b = 0) : b = false := by cases b <;> simp_all [bI]
theorem bI1 {b : Bool} (h : ¬ bI b = 0) : b = true := by cases b <;> simp_all [bI]
def cA (e : Int) : Int := if e < 6 then e else e - 6
def cB (e : Int) : Int := if e < 6 then (e + 1) % 6 else if e < 12 then 6 + 3 * (e - 6) else 6 + (e - 12 + 1) % 18
theorem cA_r {e : Int} (h : 0 ≤ e ∧ e < 30) : 0 ≤ cA e ∧ cA e < 24 := by unfold cA; split <;> omega
theorem cB_r {e : Int} (h : 0 ≤ e ∧ e < 30) : 0 ≤ cB e ∧ cB e < 24 := by unfold cB; (repeat' split) <;> omega
def isE (e c : Int) : Bool := decide (cA e = c) || decide (cB e = c)
def hexC (h i : Int) : Int := if h = 0 then i else if i < 2 then (h - 1 + i) % 6 else 6 + (3 * (h - 1) + i - 2) % 18
theorem hexC_r {h i : Int} (hh : 0 ≤ h ∧ h < 7) (hi : 0 ≤ i ∧ i < 6) : 0 ≤ hexC h i ∧ hexC h i < 24 := by unfold hexC; (repeat' split) <;> omega
def cntN (f : Int → Int) (b : Int) : Nat → Int
  | 0 => 0
  | n + 1 => cntN f b n + if f (n : Int) = b then 1 else 0
theorem cntN_r (f : Int → Int) (b : Int) : ∀ n : Nat, 0 ≤ cntN f b n ∧ cntN f b n ≤ n
  | 0 => by simp [cntN]
  | n + 1 => by
    have := cntN_r f b n
    simp only [cntN]
    split <;> omega
def anyN (p : Int → Bool) : Nat → Bool
  | 0 => false
  | n + 1 => anyN p n || p (n : Int)
def allN (p : Int → Bool) : Nat → Bool
  | 0 => true
  | n + 1 => allN p n && p (n : Int)
theorem anyN_of {p : Int → Bool} : ∀ {N i : Nat}, i < N → p (i : Int) = true → anyN p N = true
  | 0, _, h, _ => by omega
  | N + 1, i, h, hp => by
    simp only [anyN, Bool.or_eq_true]
    by_cases e : i = N
    · subst e; exact Or.inr hp
    · exact Or.inl (anyN_of (by omega) hp)
theorem allN_of {p : Int → Bool} : ∀ {N i : Nat}, i < N → p (i : Int) = false → allN p N = false
  | 0, _, h, _ => by omega
  | N + 1, i, h, hp => by
    simp only [allN, Bool.and_eq_false_iff]
    by_cases e : i = N
    · subst e; exact Or.inr hp
    · exact Or.inl (allN_of (by omega) hp)
def ownB (b : Int) : Int := if 3 ≤ b then b - 3 else b
def freeC (b : Int → Int) (c : Int) : Bool := decide (b c = -1) && allN (fun e => !(isE e c && (decide (b (cA e) ≠ -1) || decide (b (cB e) ≠ -1)))) 30
def roadAtC (r : Int → Int) (p c : Int) : Bool := anyN (fun e => decide (r e = p) && isE e c) 30
def startC (b r : Int → Int) (c p : Int) : Bool := decide (ownB (b c) = p) || (decide (ownB (b c) = -1) && roadAtC r p c)
def roadC (b r : Int → Int) (e p : Int) : Bool := decide (r e = -1) && (startC b r (cA e) p || startC b r (cB e) p)
def wtN (b : Int → Int) (p h : Int) : Nat → Int
  | 0 => 0
  | n + 1 => wtN b p h n + if b (hexC h n) = p then 1 else if b (hexC h n) = 3 + p then 2 else 0
def wt (b : Int → Int) (p h : Int) : Int := wtN b p h 6
def yldN (hg hn b : Int → Int) (rob p g sum : Int) : Nat → Int
  | 0 => 0
  | n + 1 => yldN hg hn b rob p g sum n + if hn n = sum ∧ hg n = g ∧ (n : Int) ≠ rob then wt b p n else 0
theorem bIf {b : Bool} (h : ¬ b = true) : bI b = 0 := by cases b <;> simp_all [bI]
theorem bIt {b : Bool} (h : b = true) : bI b = 1 := by rw [h]; rfl
theorem bI_r (b : Bool) : -2147483648 ≤ bI b ∧ bI b ≤ 2147483647 := by cases b <;> simp [bI]
theorem ownB_r {b : Int} (h : -1 ≤ b ∧ b ≤ 5) : -1 ≤ ownB b ∧ ownB b ≤ 2 := by unfold ownB; split <;> omega
