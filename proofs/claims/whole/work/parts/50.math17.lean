/-! ===== the reference's rows of roads ===== -/
theorem enR_r (w : Int → Int) (s c : Int) : ∀ n : Nat, 0 ≤ enR w s c n ∧ enR w s c n ≤ n
  | 0 => by simp [enR]
  | n + 1 => by
    have := enR_r w s c n
    simp only [enR]
    split <;> omega
theorem enN_r (b w : Int → Int) (p s : Int) {m : Nat} (hm : m ≤ 8) : ∀ n : Nat, 0 ≤ enN b w p s m n ∧ enN b w p s m n ≤ 8 * n
  | 0 => by simp [enN]
  | n + 1 => by
    have := enN_r b w p s hm n
    have h := enR_r w s (n : Int) m
    simp only [enN]
    split <;> omega
theorem bar_t {b : Int → Int} {p c : Int} (h1 : ownB (b c) ≠ -1) (h2 : ownB (b c) ≠ p) : bar b p c = true := by simp [bar, h1, h2]
theorem bar_f {b : Int → Int} {p c : Int} (h1 : ownB (b c) = -1 ∨ ownB (b c) = p) : ¬ bar b p c = true := by
  rcases h1 with h1 | h1 <;> simp [bar, h1]
theorem onN_r {s : Nat} (hs : s < 256) : 0 ≤ onN (s : Int) 8 ∧ onN (s : Int) 8 ≤ 8 := by
  have h1 := onN_fin ⟨s, hs⟩
  simp only at h1
  rw [h1]
  have h2 : (el 8 s).length ≤ 8 := by
    have := List.length_filter_le (fun r => s.testBit r) (List.range 8)
    simp at this
    exact this
  omega
def owK (r : Int → Int) (p : Int) (ρ : St) : Nat → St
  | 0 => ρ
  | n + 1 => if r (n : Int) = p then sAt (owK r p ρ n) 0 ((owL r p n).length : Int) (n : Int) else owK r p ρ n
theorem owL_le (r : Int → Int) (p : Int) {n : Nat} (hn : n ≤ 30) : (owL r p n).length ≤ (owL r p 30).length := by
  obtain ⟨M, hM⟩ := owL_pre r p n (30 - n)
  rw [show n + (30 - n) = 30 by omega] at hM
  rw [hM, List.length_append]
  omega
theorem owL_lt {r : Int → Int} {p : Int} {n : Nat} (hn : n < 30) (h : r (n : Int) = p) : (owL r p n).length + 1 ≤ (owL r p 30).length := by
  have h1 := owL_le r p (show n + 1 ≤ 30 by omega)
  rw [owL_succ, if_pos h, List.length_append, List.length_singleton] at h1
  exact h1
theorem owK_at {r : Int → Int} {p : Int} (ρ : St) : ∀ n : Nat, n ≤ 30 → ∀ k : Nat, k < (owL r p n).length → (owK r p ρ n).2.1 0 (k : Int) = (own r p k : Int)
  | 0, _, k, hk => by simp [owL] at hk
  | n + 1, hn, k, hk => by
    have ih := owK_at (r := r) (p := p) ρ n (by omega)
    simp only [owK]
    rw [owL_succ] at hk
    by_cases h : r (n : Int) = p
    · rw [if_pos h] at hk ⊢
      rw [List.length_append, List.length_singleton] at hk
      rw [sAt_at]
      by_cases e : k = (owL r p n).length
      · subst e
        rw [if_pos rfl, own_at (by omega) h]
      · rw [if_neg (by omega)]
        exact ih k (by omega)
    · rw [if_neg h] at hk ⊢
      rw [List.append_nil] at hk
      exact ih k hk
theorem owK_s (r : Int → Int) (p : Int) (ρ : St) : ∀ n : Nat, (owK r p ρ n).1 = ρ.1
  | 0 => rfl
  | n + 1 => by
    have ih := owK_s r p ρ n
    simp only [owK]
    split
    · exact ih
    · exact ih
theorem owK_r {r : Int → Int} {p : Int} (ρ : St) (a : Int) (h0 : 0 ≤ a) (h1 : a < ((owL r p 30).length : Int)) : 0 ≤ (owK r p ρ 30).2.1 0 a ∧ (owK r p ρ 30).2.1 0 a < 30 := by
  obtain ⟨k, rfl⟩ := Int.eq_ofNat_of_zero_le h0
  have hk : k < (owL r p 30).length := by omega
  rw [owK_at ρ 30 (Nat.le_refl _) k hk]
  have := own_mem hk
  omega
theorem owK_tr {b r : Int → Int} {p : Int} (ρ : St) (h8 : (owL r p 30).length ≤ 8) : bestR b ((owK r p ρ 30).2.1 0) p (owL r p 30).length (2 ^ (owL r p 30).length - 1) = trF b r p := bestR_is h8 (fun k hk => owK_at ρ 30 (Nat.le_refl _) k hk)
def otK (r : Int → Int) (ρ : St) : Nat → St
  | 0 => ρ
  | n + 1 => owK r (n : Int) (otK r ρ n) 30
theorem otK_succ (r : Int → Int) (ρ : St) (n : Nat) : otK r ρ (n + 1) = owK r (n : Int) (otK r ρ n) 30 := rfl
def rlK (r : Int → Int) (ρ : St) : St := otK r (otK r ρ 3) 3
theorem lkS_R {τ : St} (h : Lh τ) : lkS τ = sS τ 4 (hoR (trT τ) (τ.1 4)) := by
  have h1 := ho_P (trT_r h) h.1.2.2.2.1
  unfold lkS
  rw [h1.1, h1.2]
theorem dv_r {k m : Nat} (h : k < m * m) : (0 ≤ (k : Int) / (m : Int) ∧ (k : Int) / (m : Int) < (m : Int)) ∧ (0 ≤ (k : Int) % (m : Int) ∧ (k : Int) % (m : Int) < (m : Int)) ∧ 0 < m := by
  have hm0 : 0 < m := by
    rcases Nat.eq_zero_or_pos m with h2 | h2
    · subst h2; simp at h
    · exact h2
  have ha : k / m < m := Nat.div_lt_of_lt_mul h
  have hb : k % m < m := Nat.mod_lt _ hm0
  rw [← Int.natCast_ediv, ← Int.natCast_emod]
  exact ⟨⟨Int.natCast_nonneg _, Int.ofNat_lt.mpr ha⟩, ⟨Int.natCast_nonneg _, Int.ofNat_lt.mpr hb⟩, hm0⟩
theorem mm_r {m : Nat} (hm : m ≤ 8) : ((m * m : Nat) : Int) = (m : Int) * (m : Int) ∧ m * m ≤ 64 := by
  refine ⟨by simp, ?_⟩
  have := Nat.mul_le_mul hm hm
  omega
theorem sprF_r {b w : Int → Int} {p : Int} {s m : Nat} (hm : m ≤ 8) (hs : s < 256) (hs0 : s ≠ 0) : ∃ j : Nat, sprF b w p (s : Int) m = (j : Int) ∧ j < 256 := by
  obtain ⟨i, hi1, _⟩ := low_fin ⟨s, hs⟩ hs0
  simp only at hi1
  have hlt : 2 ^ i.val < 256 := (mb_sl i.isLt).2
  have key : ∀ (f j : Nat), j < 256 → ∃ j' : Nat, spL (spP b w p (s : Int) m) f (j : Int) = (j' : Int) ∧ j' < 256 := by
    intro f
    induction f with
    | zero => exact fun j hj => ⟨j, rfl, hj⟩
    | succ f ih =>
      intro j hj
      obtain ⟨j2, h1, h2, _⟩ := spP_is (b := b) (w := w) (p := p) hs hm hj
      simp only [spL]
      rw [h1]
      split
      · exact ⟨j, rfl, hj⟩
      · exact ih j2 h2
  unfold sprF
  rw [hi1]
  exact key 256 _ hlt
theorem bestP_succ (f : Int → Int) (g : Int → Bool) (n : Nat) : bestP f g (n + 1) = if bestP f g n < f ((n + 1 : Nat) : Int) ∧ g ((n + 1 : Nat) : Int) = true then f ((n + 1 : Nat) : Int) else bestP f g n := rfl
theorem best_rr {b w : Int → Int} {p : Int} {m : Nat} : ∀ n : Nat, n ≤ 255 → 0 ≤ bestP (fun s => onN s 8) (gdR b w p m) n ∧ bestP (fun s => onN s 8) (gdR b w p m) n ≤ 8
  | 0, _ => by simp [bestP]
  | n + 1, hn => by
    have ih := best_rr (b := b) (w := w) (p := p) (m := m) n (by omega)
    have h := onN_r (s := n + 1) (by omega)
    simp only [bestP]
    split
    · exact h
    · exact ih
