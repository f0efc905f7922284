/-! ===== ways along roads ===== -/
def jn (A B : Nat → Int) (e : Nat) (x y : Int) : Prop := (A e = x ∧ B e = y) ∨ (B e = x ∧ A e = y)
def Wy (A B : Nat → Int) : Int → List Nat → Int → Prop
  | a, [], b => a = b
  | a, e :: T, b => ∃ x, jn A B e a x ∧ Wy A B x T b
theorem Wy_app {A B : Nat → Int} : ∀ {T U : List Nat} {a c : Int}, Wy A B a (T ++ U) c ↔ ∃ b, Wy A B a T b ∧ Wy A B b U c
  | [], U, a, c => ⟨fun h => ⟨a, rfl, h⟩, fun ⟨b, h1, h2⟩ => by cases h1; exact h2⟩
  | e :: T, U, a, c => by
    show (∃ x, jn A B e a x ∧ Wy A B x (T ++ U) c) ↔ ∃ b, (∃ x, jn A B e a x ∧ Wy A B x T b) ∧ Wy A B b U c
    constructor
    · rintro ⟨x, hj, h⟩
      obtain ⟨b, h1, h2⟩ := Wy_app.mp h
      exact ⟨b, ⟨x, hj, h1⟩, h2⟩
    · rintro ⟨b, ⟨x, hj, h1⟩, h2⟩
      exact ⟨x, hj, Wy_app.mpr ⟨b, h1, h2⟩⟩
def tch (A B : Nat → Int) (v : Int) (e : Nat) : Bool := decide (A e = v) || decide (B e = v)
def pr (A B : Nat → Int) (v : Int) : List Nat → Bool
  | [] => false
  | e :: S => xor (xor (decide (A e = v)) (decide (B e = v))) (pr A B v S)
theorem pr_perm {A B : Nat → Int} {v : Int} {S T : List Nat} (h : S.Perm T) : pr A B v S = pr A B v T := by
  induction h with
  | nil => rfl
  | cons x _ ih => simp [pr, ih]
  | swap x y l => simp only [pr]; cases (decide (A x = v)) <;> cases (decide (B x = v)) <;> cases (decide (A y = v)) <;> cases (decide (B y = v)) <;> cases (pr A B v l) <;> rfl
  | trans _ _ h1 h2 => rw [h1, h2]
theorem pr_app {A B : Nat → Int} {v : Int} : ∀ S T : List Nat, pr A B v (S ++ T) = xor (pr A B v S) (pr A B v T)
  | [], T => by simp [pr]
  | e :: S, T => by
    have := pr_app (A := A) (B := B) (v := v) S T
    simp only [List.cons_append, pr, this]
    cases (decide (A e = v)) <;> cases (decide (B e = v)) <;> cases (pr A B v S) <;> cases (pr A B v T) <;> rfl
theorem pr_has {A B : Nat → Int} {v : Int} : ∀ S : List Nat, pr A B v S = true → ∃ e ∈ S, ∃ x, jn A B e v x
  | [], h => by cases h
  | e :: S, h => by
    by_cases h1 : A e = v
    · exact ⟨e, List.mem_cons_self, B e, .inl ⟨h1, rfl⟩⟩
    · by_cases h2 : B e = v
      · exact ⟨e, List.mem_cons_self, A e, .inr ⟨h2, rfl⟩⟩
      · simp [pr, h1, h2] at h
        obtain ⟨f, hf, x, hx⟩ := pr_has S h
        exact ⟨f, List.mem_cons_of_mem _ hf, x, hx⟩
theorem dec_sw (x v : Int) : decide (v = x) = decide (x = v) := decide_eq_decide.mpr ⟨Eq.symm, Eq.symm⟩
theorem jn_pr {A B : Nat → Int} {e : Nat} {a x : Int} (h : jn A B e a x) (v : Int) : xor (decide (A e = v)) (decide (B e = v)) = xor (decide (v = a)) (decide (v = x)) := by
  rw [dec_sw a v, dec_sw x v]
  rcases h with ⟨rfl, rfl⟩ | ⟨rfl, rfl⟩
  · rfl
  · exact Bool.xor_comm _ _
theorem Wy_pr {A B : Nat → Int} {v : Int} : ∀ {T : List Nat} {a b : Int}, Wy A B a T b → pr A B v T = xor (decide (v = a)) (decide (v = b))
  | [], a, b, h => by cases h; simp [pr]
  | e :: T, a, b, ⟨x, hj, h⟩ => by
    have := Wy_pr (v := v) h
    simp only [pr, this, jn_pr hj v]
    cases (decide (v = a)) <;> cases (decide (v = x)) <;> cases (decide (v = b)) <;> rfl
theorem eu_go {A B : Nat → Int} : ∀ (n : Nat) (S : List Nat) (a b : Int), S.length = n → (∀ v, pr A B v S = xor (decide (v = a)) (decide (v = b))) → ∃ T R, S.Perm (T ++ R) ∧ Wy A B a T b ∧ ∀ v, pr A B v R = false
  | n, S, a, b, hn, h => by
    by_cases hab : a = b
    · subst hab
      exact ⟨[], S, List.Perm.refl _, rfl, fun v => by rw [h]; simp⟩
    · have h1 : pr A B a S = true := by rw [h]; simp [hab]
      obtain ⟨e, he, x, hj⟩ := pr_has S h1
      have hp := List.perm_cons_erase he
      have hl : (S.erase e).length + 1 = n := by rw [← hn, hp.length_eq]; rfl
      obtain ⟨T, R, h2, h3, h4⟩ := eu_go (n - 1) (S.erase e) x b (by omega) (fun v => by
        have h5 := h v
        rw [pr_perm hp] at h5
        simp only [pr, jn_pr hj v] at h5
        revert h5
        cases (decide (v = a)) <;> cases (decide (v = x)) <;> cases (decide (v = b)) <;> cases (pr A B v (S.erase e)) <;> simp)
      exact ⟨e :: T, R, hp.trans (h2.cons e), ⟨x, hj, h3⟩, h4⟩
  termination_by n => n
  decreasing_by omega
/-- a set of roads that hangs together -/
def Cn (A B : Nat → Int) (S : List Nat) : Prop := ∀ X Y, S.Perm (X ++ Y) → X ≠ [] → Y ≠ [] → ∃ e ∈ X, ∃ f ∈ Y, ∃ v, (A e = v ∨ B e = v) ∧ (A f = v ∨ B f = v)
theorem Cn_perm {A B : Nat → Int} {S T : List Nat} (h : S.Perm T) (hc : Cn A B S) : Cn A B T := fun X Y hp => hc X Y (h.trans hp)
theorem tch_jn {A B : Nat → Int} {e : Nat} {v : Int} (h : A e = v ∨ B e = v) : ∃ x, jn A B e v x := by
  rcases h with h | h
  · exact ⟨B e, .inl ⟨h, rfl⟩⟩
  · exact ⟨A e, .inr ⟨h, rfl⟩⟩
theorem Wy_cut {A B : Nat → Int} {e : Nat} {v : Int} (hv : A e = v ∨ B e = v) : ∀ {T : List Nat} {a b : Int}, Wy A B a T b → e ∈ T → ∃ T1 T2, T = T1 ++ T2 ∧ Wy A B a T1 v ∧ Wy A B v T2 b
  | [], _, _, _, h => by cases h
  | f :: T, a, b, ⟨x, hj, h⟩, he => by
    by_cases ha : a = v
    · subst ha
      exact ⟨[], f :: T, rfl, rfl, x, hj, h⟩
    · rcases List.mem_cons.mp he with rfl | he
      · have hx : x = v := by
          rcases hj with ⟨h1, h2⟩ | ⟨h1, h2⟩ <;> rcases hv with h3 | h3
          · exact absurd (h1.symm.trans h3) ha
          · exact h2.symm.trans h3
          · exact h2.symm.trans h3
          · exact absurd (h1.symm.trans h3) ha
        subst hx
        exact ⟨[e], T, rfl, ⟨x, hj, rfl⟩, h⟩
      · obtain ⟨T1, T2, h1, h2, h3⟩ := Wy_cut hv h he
        exact ⟨f :: T1, T2, by rw [h1]; rfl, ⟨x, hj, h2⟩, h3⟩
theorem eu_main {A B : Nat → Int} : ∀ (n : Nat) (T R : List Nat) (a b : Int), R.length ≤ n → Wy A B a T b → T ≠ [] → (∀ v, pr A B v R = false) → Cn A B (T ++ R) → ∃ T', Wy A B a T' b ∧ T'.Perm (T ++ R)
  | n, T, [], a, b, _, hw, _, _, _ => ⟨T, hw, by rw [List.append_nil]⟩
  | 0, T, f :: R, a, b, hn, _, _, _, _ => by simp at hn
  | n + 1, T, r :: R', a, b, hn, hw, ht, hr, hc => by
    generalize hR : r :: R' = R at *
    obtain ⟨e, he, f, hf, v, hv1, hv2⟩ := hc T R (List.Perm.refl _) ht (by rw [← hR]; exact List.cons_ne_nil _ _)
    obtain ⟨T1, T2, h1, h2, h3⟩ := Wy_cut hv1 hw he
    obtain ⟨x, hj⟩ := tch_jn hv2
    have hp := List.perm_cons_erase hf
    obtain ⟨C, R2, h4, h5, h6⟩ := eu_go _ (R.erase f) x v rfl (fun w => by
      have h7 := hr w
      rw [pr_perm hp] at h7
      simp only [pr, jn_pr hj w] at h7
      revert h7
      cases (decide (w = v)) <;> cases (decide (w = x)) <;> cases (pr A B w (R.erase f)) <;> simp)
    have hpr : R.Perm (f :: (C ++ R2)) := hp.trans (h4.cons f)
    have hl : R2.length ≤ n := by
      have := hpr.length_eq
      simp at this
      omega
    have hperm : (T1 ++ (f :: C ++ T2) ++ R2).Perm (T ++ R) := by
      rw [h1]
      have q1 : (f :: C ++ T2 ++ R2).Perm (T2 ++ R) := by
        refine (List.Perm.append_right R2 List.perm_append_comm).trans ?_
        rw [List.append_assoc]
        exact List.Perm.append_left T2 hpr.symm
      rw [List.append_assoc, List.append_assoc T1]
      exact List.Perm.append_left T1 q1
    obtain ⟨T', g1, g2⟩ := eu_main n (T1 ++ (f :: C ++ T2)) R2 a b hl (Wy_app.mpr ⟨v, h2, Wy_app.mpr ⟨v, ⟨x, hj, h5⟩, h3⟩⟩) (by simp) h6 (Cn_perm hperm.symm hc)
    exact ⟨T', g1, g2.trans hperm⟩
theorem euler {A B : Nat → Int} {S : List Nat} (hs : S ≠ []) (hc : Cn A B S) (ho : ∃ a b, ∀ v, pr A B v S = xor (decide (v = a)) (decide (v = b))) : ∃ a b T, Wy A B a T b ∧ T.Perm S := by
  obtain ⟨a, b, ho⟩ := ho
  by_cases hab : a = b
  · subst hab
    obtain ⟨e, S1, rfl⟩ : ∃ e S1, S = e :: S1 := by
      cases S with
      | nil => exact absurd rfl hs
      | cons e S1 => exact ⟨e, S1, rfl⟩
    obtain ⟨C, R, h1, h2, h3⟩ := eu_go _ S1 (B e) (A e) rfl (fun w => by
      have h7 := ho w
      have hj := jn_pr (A := A) (B := B) (e := e) (a := A e) (x := B e) (.inl ⟨rfl, rfl⟩) w
      simp only [pr, hj] at h7
      revert h7
      cases (decide (w = a)) <;> cases (decide (w = A e)) <;> cases (decide (w = B e)) <;> cases (pr A B w S1) <;> simp)
    have hp : (e :: C ++ R).Perm (e :: S1) := (h1.symm.cons e)
    obtain ⟨T', g1, g2⟩ := eu_main _ (e :: C) R (A e) (A e) (Nat.le_refl _) ⟨B e, .inl ⟨rfl, rfl⟩, h2⟩ (by simp) h3 (Cn_perm hp.symm hc)
    exact ⟨A e, A e, T', g1, g2.trans hp⟩
  · obtain ⟨T, R, h1, h2, h3⟩ := eu_go _ S a b rfl ho
    obtain ⟨T', g1, g2⟩ := eu_main _ T R a b (Nat.le_refl _) h2 (fun h => by subst h; exact hab h2) h3 (Cn_perm h1 hc)
    exact ⟨a, b, T', g1, g2.trans h1.symm⟩
theorem Wy_side {A B : Nat → Int} {X Y : List Nat} (hno : ∀ e ∈ X, ∀ f ∈ Y, ∀ v, (A e = v ∨ B e = v) → ¬ (A f = v ∨ B f = v)) : ∀ {T : List Nat} {a b : Int}, Wy A B a T b → (∀ e ∈ T, e ∈ X ∨ e ∈ Y) → (∃ e ∈ X, A e = a ∨ B e = a) → ∀ e ∈ T, e ∈ X
  | [], _, _, _, _, _ => by intro e he; cases he
  | f :: T, a, b, ⟨x, hj, h⟩, hm, ⟨g, hg, hga⟩ => by
    have hfa : A f = a ∨ B f = a := by rcases hj with ⟨h1, _⟩ | ⟨h1, _⟩; exact .inl h1; exact .inr h1
    have hfx : A f = x ∨ B f = x := by rcases hj with ⟨_, h1⟩ | ⟨_, h1⟩; exact .inr h1; exact .inl h1
    have hf : f ∈ X := by
      rcases hm f List.mem_cons_self with h1 | h1
      · exact h1
      · exact absurd hfa (hno g hg f h1 a hga)
    intro e he
    rcases List.mem_cons.mp he with rfl | he
    · exact hf
    · exact Wy_side hno h (fun e he => hm e (List.mem_cons_of_mem _ he)) ⟨f, hf, hfx⟩ e he
theorem Wy_Cn {A B : Nat → Int} {T : List Nat} {a b : Int} (h : Wy A B a T b) : Cn A B T := by
  intro X Y hp hX hY
  refine Classical.byContradiction fun hcon => ?_
  have hno : ∀ e ∈ X, ∀ f ∈ Y, ∀ v, (A e = v ∨ B e = v) → ¬ (A f = v ∨ B f = v) := fun e he f hf v h1 h2 => hcon ⟨e, he, f, hf, v, h1, h2⟩
  have hm : ∀ e ∈ T, e ∈ X ∨ e ∈ Y := fun e he => List.mem_append.mp (hp.mem_iff.mp he)
  cases T with
  | nil =>
    have := hp.length_eq
    cases X with
    | nil => exact hX rfl
    | cons _ _ => simp at this
  | cons f T =>
    have hfa : A f = a ∨ B f = a := by
      obtain ⟨x, hj, _⟩ := h
      rcases hj with ⟨h1, _⟩ | ⟨h1, _⟩
      exact .inl h1
      exact .inr h1
    rcases hm f List.mem_cons_self with h1 | h1
    · have hall := Wy_side hno h hm ⟨f, h1, hfa⟩
      obtain ⟨y, hy⟩ := List.exists_mem_of_ne_nil Y hY
      have hyT : y ∈ f :: T := hp.mem_iff.mpr (List.mem_append.mpr (.inr hy))
      exact hno y (hall y hyT) y hy (A y) (.inl rfl) (.inl rfl)
    · have hall := Wy_side (X := Y) (Y := X) (fun e he f hf v h1 h2 => hno f hf e he v h2 h1) h (fun e he => (hm e he).symm) ⟨f, h1, hfa⟩
      obtain ⟨y, hy⟩ := List.exists_mem_of_ne_nil X hX
      have hyT : y ∈ f :: T := hp.mem_iff.mpr (List.mem_append.mpr (.inl hy))
      exact hno y hy y (hall y hyT) (A y) (.inl rfl) (.inl rfl)
/-! ===== the search finds the longest way ===== -/
theorem mb_fin : ∀ (s : Fin 256) (r : Fin 8), iA (iSr (s.val : Int) (r.val : Int)) 1 = (if s.val.testBit r.val then 1 else 0) ∧ iO (s.val : Int) (iSl 1 (r.val : Int)) = ((s.val ||| 2 ^ r.val : Nat) : Int) ∧ s.val ||| 2 ^ r.val < 256 := by decide +kernel
theorem mb_bit {s r : Nat} (hs : s < 256) (hr : r < 8) : iA (iSr (s : Int) (r : Int)) 1 = if s.testBit r then 1 else 0 := (mb_fin ⟨s, hs⟩ ⟨r, hr⟩).1
theorem mb_or {s r : Nat} (hs : s < 256) (hr : r < 8) : iO (s : Int) (iSl 1 (r : Int)) = ((s ||| 2 ^ r : Nat) : Int) ∧ s ||| 2 ^ r < 256 := (mb_fin ⟨s, hs⟩ ⟨r, hr⟩).2
theorem mb_sl {r : Nat} (hr : r < 8) : iSl 1 (r : Int) = ((2 ^ r : Nat) : Int) ∧ 2 ^ r < 256 := by
  have h : ∀ r : Fin 8, iSl 1 (r.val : Int) = ((2 ^ r.val : Nat) : Int) ∧ 2 ^ r.val < 256 := by decide +kernel
  exact h ⟨r, hr⟩
theorem mb_tb {s r j : Nat} : (s ||| 2 ^ r).testBit j = (s.testBit j || decide (r = j)) := by
  rw [Nat.testBit_or, Nat.testBit_two_pow]
theorem mxN_ge {f : Int → Int} : ∀ {n i : Nat}, i < n → f (i : Int) ≤ mxN f n
  | 0, _, h => by omega
  | n + 1, i, h => by
    simp only [mxN]
    by_cases e : i = n
    · subst e
      split <;> omega
    · have := mxN_ge (f := f) (show i < n by omega)
      split <;> omega
theorem mxN_is (f : Int → Int) : ∀ n : Nat, mxN f n = 0 ∨ ∃ i : Nat, i < n ∧ mxN f n = f (i : Int)
  | 0 => .inl rfl
  | n + 1 => by
    simp only [mxN]
    split
    · exact .inr ⟨n, by omega, rfl⟩
    · rcases mxN_is f n with h | ⟨i, h1, h2⟩
      · exact .inl h
      · exact .inr ⟨i, by omega, h2⟩
def AK (f : Int → Int) : Nat → Int := fun k => f (k : Int)
theorem goF_lo {on ot : Int → Int} {c : Nat} (hc : c ≤ 8) : ∀ (k : Nat) (e : Int) (s : Nat), s < 256 → ∃ (T : List Nat) (b : Int), Wy (AK on) (AK ot) e T b ∧ T.Nodup ∧ (∀ r ∈ T, r < c ∧ s.testBit r = false) ∧ (T.length : Int) = goF on ot c k e (s : Int)
  | 0, e, s, _ => ⟨[], e, rfl, List.nodup_nil, (fun r h => by cases h), rfl⟩
  | k + 1, e, s, hs => by
    rcases mxN_is (goS on ot (s : Int) e (goF on ot c k)) c with h | ⟨i, hi, h⟩
    · exact ⟨[], e, rfl, List.nodup_nil, (fun r h => by cases h), h.symm⟩
    · show ∃ (T : List Nat) (b : Int), Wy (AK on) (AK ot) e T b ∧ T.Nodup ∧ (∀ r ∈ T, r < c ∧ s.testBit r = false) ∧ (T.length : Int) = mxN (goS on ot (s : Int) e (goF on ot c k)) c
      rw [h]
      unfold goS
      split
      · next hq =>
        obtain ⟨h1, h2⟩ := hq
        rw [mb_bit hs (by omega)] at h1
        have hb : s.testBit i = false := by
          cases hz : s.testBit i
          · rfl
          · rw [hz] at h1; simp at h1
        obtain ⟨h3, h4⟩ := mb_or hs (show i < 8 by omega)
        rw [h3]
        obtain ⟨T, b, g1, g2, g3, g4⟩ := goF_lo (on := on) (ot := ot) hc k (if on (i : Int) = e then ot (i : Int) else on (i : Int)) (s ||| 2 ^ i) h4
        refine ⟨i :: T, b, ⟨_, ?_, g1⟩, ?_, ?_, ?_⟩
        · by_cases h5 : on (i : Int) = e
          · rw [if_pos h5]; exact .inl ⟨h5, rfl⟩
          · rw [if_neg h5]; exact .inr ⟨h2.resolve_left h5, rfl⟩
        · refine List.nodup_cons.mpr ⟨fun hm => ?_, g2⟩
          have := (g3 i hm).2
          rw [mb_tb] at this
          simp at this
        · intro r hr
          rcases List.mem_cons.mp hr with rfl | hr
          · exact ⟨hi, hb⟩
          · have := g3 r hr
            rw [mb_tb] at this
            simp at this
            exact ⟨this.1, this.2.1⟩
        · rw [← g4]
          simp only [List.length_cons]
          omega
      · exact ⟨[], e, rfl, List.nodup_nil, (fun r h => by cases h), rfl⟩
theorem goF_hi {on ot : Int → Int} {c : Nat} (hc : c ≤ 8) : ∀ (k : Nat) (T : List Nat) (e b : Int) (s : Nat), s < 256 → Wy (AK on) (AK ot) e T b → T.Nodup → (∀ r ∈ T, r < c ∧ s.testBit r = false) → T.length ≤ k → (T.length : Int) ≤ goF on ot c k e (s : Int)
  | k, [], e, b, s, _, _, _, _, _ => (goF_r on ot c k e (s : Int)).1
  | 0, i :: T, e, b, s, _, _, _, _, hl => by simp at hl
  | k + 1, i :: T, e, b, s, hs, ⟨x, hj, hw⟩, hn, hm, hl => by
    have hi := hm i List.mem_cons_self
    refine Int.le_trans ?_ (mxN_ge (f := goS on ot (s : Int) e (goF on ot c k)) hi.1)
    have h8 : i < 8 := by omega
    obtain ⟨h3, h4⟩ := mb_or hs h8
    have hcond : iA (iSr (s : Int) (i : Int)) 1 = 0 ∧ (on (i : Int) = e ∨ ot (i : Int) = e) := by
      refine ⟨by rw [mb_bit hs h8, hi.2]; rfl, ?_⟩
      rcases hj with ⟨h1, _⟩ | ⟨h1, _⟩
      · exact .inl h1
      · exact .inr h1
    unfold goS
    rw [if_pos hcond, h3]
    have hx : (if on (i : Int) = e then ot (i : Int) else on (i : Int)) = x := by
      rcases hj with ⟨h1, h2⟩ | ⟨h1, h2⟩
      · rw [if_pos (show on (i : Int) = e from h1)]; exact h2
      · by_cases h5 : on (i : Int) = e
        · rw [if_pos h5]
          exact h1.trans (h5.symm.trans h2)
        · rw [if_neg h5]; exact h2
    rw [hx]
    obtain ⟨hn1, hn2⟩ := List.nodup_cons.mp hn
    have := goF_hi (on := on) (ot := ot) hc k T x b (s ||| 2 ^ i) h4 hw hn2 (fun r hr => by
      have h6 := hm r (List.mem_cons_of_mem _ hr)
      refine ⟨h6.1, ?_⟩
      rw [mb_tb, h6.2]
      simp
      intro h7
      subst h7
      exact hn1 hr) (by simp at hl; omega)
    simp only [List.length_cons]
    omega
/-- the greatest length of a way without a road twice -/
def Lg (A B : Nat → Int) (P : Nat → Prop) (n : Int) : Prop := (∃ (T : List Nat) (a b : Int), Wy A B a T b ∧ T.Nodup ∧ (∀ r ∈ T, P r) ∧ (T.length : Int) = n) ∧ ∀ (T : List Nat) (a b : Int), Wy A B a T b → T.Nodup → (∀ r ∈ T, P r) → (T.length : Int) ≤ n
theorem Lg.uniq {A B : Nat → Int} {P : Nat → Prop} {n m : Int} (h : Lg A B P n) (g : Lg A B P m) : n = m := by
  obtain ⟨⟨T, a, b, h1, h2, h3, h4⟩, h5⟩ := h
  obtain ⟨⟨U, c, d, g1, g2, g3, g4⟩, g5⟩ := g
  have := h5 U c d g1 g2 g3
  have := g5 T a b h1 h2 h3
  omega
theorem Lg.mono {A B : Nat → Int} {P Q : Nat → Prop} {n m : Int} (h : Lg A B P n) (g : Lg A B Q m) (hpq : ∀ r, P r → Q r) : n ≤ m := by
  obtain ⟨⟨T, a, b, h1, h2, h3, h4⟩, h5⟩ := h
  have := g.2 T a b h1 h2 (fun r hr => hpq r (h3 r hr))
  omega
theorem nodup_len : ∀ {c : Nat} {T : List Nat}, T.Nodup → (∀ r ∈ T, r < c) → T.length ≤ c
  | 0, [], _, _ => Nat.le_refl _
  | 0, r :: T, _, h => absurd (h r List.mem_cons_self) (Nat.not_lt_zero _)
  | c + 1, T, hn, h => by
    have h1 := nodup_len (c := c) (hn.erase c) (fun r hr => by
      have h2 := h r (List.mem_of_mem_erase hr)
      have h3 : r ≠ c := fun e => by
        subst e
        exact (List.Nodup.not_mem_erase hn) hr
      omega)
    have h4 := List.length_erase (a := c) (l := T)
    split at h4 <;> omega
theorem bsF_Lg {κ : St} {c : Nat} (hk : κ.1 0 = (c : Int)) (hc : c ≤ 8) : Lg (AK (κ.2.1 0)) (AK (κ.2.1 1)) (fun r => r < c) (bsF κ) := by
  have hcn : (κ.1 0).toNat = c := by omega
  unfold bsF
  rw [hcn]
  constructor
  · rcases mxN_is (bsS κ c) c with h | ⟨i, hi, h⟩
    · exact ⟨[], 0, 0, rfl, List.nodup_nil, (fun r h => by cases h), h.symm⟩
    · rw [h]
      have h8 : i < 8 := by omega
      obtain ⟨h3, h4⟩ := mb_sl h8
      have key : ∀ x y : Int, jn (AK (κ.2.1 0)) (AK (κ.2.1 1)) i x y → ∃ (T : List Nat) (a b : Int), Wy (AK (κ.2.1 0)) (AK (κ.2.1 1)) a T b ∧ T.Nodup ∧ (∀ r ∈ T, r < c) ∧ (T.length : Int) = 1 + goF (κ.2.1 0) (κ.2.1 1) c 7 y (iSl 1 (i : Int)) := by
        intro x y hj
        rw [h3]
        obtain ⟨T, b, g1, g2, g3, g4⟩ := goF_lo (on := κ.2.1 0) (ot := κ.2.1 1) hc 7 y (2 ^ i) h4
        refine ⟨i :: T, x, b, ⟨y, hj, g1⟩, List.nodup_cons.mpr ⟨fun hm => ?_, g2⟩, ?_, ?_⟩
        · have := (g3 i hm).2
          rw [Nat.testBit_two_pow] at this
          simp at this
        · intro r hr
          rcases List.mem_cons.mp hr with rfl | hr
          · exact hi
          · exact (g3 r hr).1
        · rw [← g4]
          simp only [List.length_cons]
          omega
      unfold bsS
      split
      · exact key _ _ (.inl ⟨rfl, rfl⟩)
      · exact key _ _ (.inr ⟨rfl, rfl⟩)
  · intro T a b hw hn hm
    cases T with
    | nil => exact (mxN_r (b := 9) (by omega) (fun i => by
        have h0 := goF_r (κ.2.1 0) (κ.2.1 1) c 7 (κ.2.1 0 i) (iSl 1 i)
        have h1 := goF_r (κ.2.1 0) (κ.2.1 1) c 7 (κ.2.1 1 i) (iSl 1 i)
        unfold bsS
        split <;> omega) c).1
    | cons i T =>
      obtain ⟨x, hj, hw⟩ := hw
      have hi := hm i List.mem_cons_self
      have h8 : i < 8 := by omega
      obtain ⟨h3, h4⟩ := mb_sl h8
      obtain ⟨hn1, hn2⟩ := List.nodup_cons.mp hn
      have hl : T.length ≤ 7 := by
        have := nodup_len hn hm
        simp at this
        omega
      have hh := goF_hi (on := κ.2.1 0) (ot := κ.2.1 1) hc 7 T x b (2 ^ i) h4 hw hn2 (fun r hr => by
        refine ⟨hm r (List.mem_cons_of_mem _ hr), ?_⟩
        rw [Nat.testBit_two_pow]
        simp
        intro h7
        subst h7
        exact hn1 hr) hl
      refine Int.le_trans ?_ (mxN_ge (f := bsS κ c) hi)
      rw [← h3] at hh
      simp only [List.length_cons]
      unfold bsS
      rcases hj with ⟨_, h2⟩ | ⟨_, h2⟩
      · rw [show x = κ.2.1 1 (i : Int) from h2.symm] at hh
        split <;> omega
      · rw [show x = κ.2.1 0 (i : Int) from h2.symm] at hh
        split <;> omega
/-! ===== sets of roads ===== -/
def el (c s : Nat) : List Nat := (List.range c).filter (fun r => s.testBit r)
theorem el_mem {c s r : Nat} : r ∈ el c s ↔ r < c ∧ s.testBit r = true := by simp [el, List.mem_filter, List.mem_range]
theorem el_nd (c s : Nat) : (el c s).Nodup := List.Pairwise.filter _ List.nodup_range
theorem nd_perm {S T : List Nat} (hs : S.Nodup) (ht : T.Nodup) (h : ∀ r, r ∈ S ↔ r ∈ T) : S.Perm T := (List.perm_ext_iff_of_nodup hs ht).mpr h
/-- one step of the search for what hangs together: what is reached, what is joined -/
def beF (on ot : Int → Int) (r : Int) : Int := lO (lSl 1 (on r)) (lSl 1 (ot r))
def hg1 (on ot : Int → Int) (s r : Int) (q : Int × Int) : Int × Int := if iA (iSr s r) 1 ≠ 0 ∧ (q.2 = 0 ∨ lA (beF on ot r) q.1 ≠ 0) then (lO q.1 (beF on ot r), iO q.2 (iSl 1 r)) else q
def hgI (on ot : Int → Int) (s : Int) (q : Int × Int) : Nat → Int × Int
  | 0 => q
  | n + 1 => hg1 on ot s (n : Int) (hgI on ot s q n)
def hgO (on ot : Int → Int) (c : Nat) (s : Int) : Nat → Int × Int
  | 0 => (0, 0)
  | n + 1 => hgI on ot s (hgO on ot c s n) c
def lb (x : Int) (v : Nat) : Bool := (BitVec.ofInt 64 x).getLsbD v
theorem i64b (z : Int64) : BitVec.ofInt 64 z.toInt = z.toBitVec := by
  show BitVec.ofInt 64 z.toBitVec.toInt = _
  exact BitVec.ofInt_toInt
theorem lb_O (x y : Int) (v : Nat) : lb (lO x y) v = (lb x v || lb y v) := by
  unfold lb lO
  rw [i64b, Int64.toBitVec_or, Int64.toBitVec_ofInt, Int64.toBitVec_ofInt, BitVec.getLsbD_or]
theorem lb_A (x y : Int) (v : Nat) : lb (lA x y) v = (lb x v && lb y v) := by
  unfold lb lA
  rw [i64b, Int64.toBitVec_and, Int64.toBitVec_ofInt, Int64.toBitVec_ofInt, BitVec.getLsbD_and]
theorem lb_X (x y : Int) (v : Nat) : lb (lX x y) v = (xor (lb x v) (lb y v)) := by
  unfold lb lX
  rw [i64b, Int64.toBitVec_xor, Int64.toBitVec_ofInt, Int64.toBitVec_ofInt, BitVec.getLsbD_xor]
theorem lb_0 (v : Nat) : lb 0 v = false := by simp [lb]
theorem lSl_fin : ∀ k : Fin 64, BitVec.ofInt 64 (lSl 1 (k.val : Int)) = 1#64 <<< k.val := by decide +kernel
theorem lb_Sl {k : Int} (hk : 0 ≤ k ∧ k ≤ 63) {v : Nat} (hv : v < 64) : lb (lSl 1 k) v = decide ((v : Int) = k) := by
  obtain ⟨n, rfl⟩ := Int.eq_ofNat_of_zero_le hk.1
  unfold lb
  have := lSl_fin ⟨n, by omega⟩
  simp only at this
  rw [this, BitVec.getLsbD_shiftLeft, BitVec.getLsbD_one]
  by_cases h : v = n
  · subst h; simp [hv]
  · have h2 : ¬ (v : Int) = (n : Int) := by omega
    have h3 : v < n ∨ ¬ v - n = 0 := by omega
    rw [decide_eq_false h2]
    rcases h3 with h3 | h3 <;> simp [h3]
theorem lA_ne (x y : Int) : lA x y ≠ 0 ↔ ∃ v, v < 64 ∧ lb x v = true ∧ lb y v = true := by
  have h0 : lA x y = 0 ↔ BitVec.ofInt 64 (lA x y) = 0#64 := by
    constructor
    · intro h; rw [h]; rfl
    · intro h
      unfold lA at *
      rw [i64b] at h
      show (Int64.ofInt x &&& Int64.ofInt y).toBitVec.toInt = 0
      rw [h]
      rfl
  constructor
  · intro h
    refine Classical.byContradiction fun hc => h (h0.mpr ?_)
    refine BitVec.eq_of_getLsbD_eq fun v hv => ?_
    have := lb_A x y v
    unfold lb at this hc
    rw [this]
    simp
    cases h1 : (BitVec.ofInt 64 x).getLsbD v
    · exact fun h => by cases h
    · cases h2 : (BitVec.ofInt 64 y).getLsbD v
      · intro _; rfl
      · exact absurd ⟨v, hv, h1, h2⟩ hc
  · rintro ⟨v, hv, h1, h2⟩ h
    have := lb_A x y v
    rw [h, lb_0, h1, h2] at this
    cases this
theorem be_lb {on ot : Int → Int} (hon : ∀ i, 0 ≤ on i ∧ on i ≤ 63) (hot : ∀ i, 0 ≤ ot i ∧ ot i ≤ 63) (r : Nat) {v : Nat} (hv : v < 64) : lb (beF on ot (r : Int)) v = tch (AK on) (AK ot) (v : Int) r := by
  unfold beF tch AK
  rw [lb_O, lb_Sl (hon _) hv, lb_Sl (hot _) hv]
  congr 1 <;> exact decide_eq_decide.mpr ⟨Eq.symm, Eq.symm⟩
theorem tch_iff {A B : Nat → Int} {v : Int} {e : Nat} : tch A B v e = true ↔ (A e = v ∨ B e = v) := by simp [tch]
/-- what holds all along -/
def HgI (on ot : Int → Int) (c s : Nat) (q : Int × Int) : Prop := ∃ j : Nat, q.2 = (j : Int) ∧ j < 256 ∧ (∀ r, j.testBit r = true → r < c ∧ s.testBit r = true) ∧ ∀ v, v < 64 → lb q.1 v = (el c j).any (tch (AK on) (AK ot) (v : Int))
theorem any_or {c j r v : Nat} {f : Nat → Bool} (hr : r < c) : (el c (j ||| 2 ^ r)).any f = ((el c j).any f || f r) := by
  have _ := v
  rw [Bool.eq_iff_iff]
  simp only [Bool.or_eq_true, List.any_eq_true, el_mem, mb_tb, Bool.or_eq_true, decide_eq_true_eq]
  constructor
  · rintro ⟨x, ⟨h1, h2 | h2⟩, h3⟩
    · exact .inl ⟨x, ⟨h1, h2⟩, h3⟩
    · subst h2; exact .inr h3
  · rintro (⟨x, ⟨h1, h2⟩, h3⟩ | h)
    · exact ⟨x, ⟨h1, .inl h2⟩, h3⟩
    · exact ⟨r, ⟨hr, .inr rfl⟩, h⟩
/-- when a road is joined -/
def jnd (A B : Nat → Int) (c s j r : Nat) : Prop := s.testBit r = true ∧ (j = 0 ∨ ∃ e ∈ el c j, ∃ v, (A e = v ∨ B e = v) ∧ (A r = v ∨ B r = v))
theorem hg1_is {on ot : Int → Int} (hon : ∀ i, 0 ≤ on i ∧ on i ≤ 63) (hot : ∀ i, 0 ≤ ot i ∧ ot i ≤ 63) {c s : Nat} (hc : c ≤ 8) (hs : s < 256) {r : Nat} (hr : r < c) {q : Int × Int} {j : Nat} (h1 : q.2 = (j : Int)) (h2 : j < 256) (h4 : ∀ v, v < 64 → lb q.1 v = (el c j).any (tch (AK on) (AK ot) (v : Int))) : ∃ j' : Nat, (hg1 on ot (s : Int) (r : Int) q).2 = (j' : Int) ∧ j' < 256 ∧ (∀ v, v < 64 → lb (hg1 on ot (s : Int) (r : Int) q).1 v = (el c j').any (tch (AK on) (AK ot) (v : Int))) ∧ ((jnd (AK on) (AK ot) c s j r ∧ j' = j ||| 2 ^ r) ∨ (¬ jnd (AK on) (AK ot) c s j r ∧ j' = j)) := by
  have hcond : (iA (iSr (s : Int) (r : Int)) 1 ≠ 0 ∧ (q.2 = 0 ∨ lA (beF on ot (r : Int)) q.1 ≠ 0)) ↔ jnd (AK on) (AK ot) c s j r := by
    unfold jnd
    rw [mb_bit hs (by omega), lA_ne, h1]
    refine and_congr ?_ (or_congr (by omega) ?_)
    · cases s.testBit r <;> simp
    · constructor
      · rintro ⟨v, hv, g1, g2⟩
        rw [h4 v hv, List.any_eq_true] at g2
        obtain ⟨e, he, g3⟩ := g2
        rw [be_lb hon hot r hv] at g1
        exact ⟨e, he, v, tch_iff.mp g3, tch_iff.mp g1⟩
      · rintro ⟨e, he, v, g1, g2⟩
        have hv0 : 0 ≤ v ∧ v ≤ 63 := by
          rcases g1 with g | g
          · rw [← g]; exact hon _
          · rw [← g]; exact hot _
        obtain ⟨n, rfl⟩ := Int.eq_ofNat_of_zero_le hv0.1
        have hn : n < 64 := by omega
        exact ⟨n, hn, by rw [be_lb hon hot r hn]; exact tch_iff.mpr g2, by rw [h4 n hn]; exact List.any_eq_true.mpr ⟨e, he, tch_iff.mpr g1⟩⟩
  unfold hg1
  by_cases hq : jnd (AK on) (AK ot) c s j r
  · rw [if_pos (hcond.mpr hq)]
    obtain ⟨h5, h6⟩ := mb_or h2 (show r < 8 by omega)
    refine ⟨j ||| 2 ^ r, ?_, h6, ?_, .inl ⟨hq, rfl⟩⟩
    · show iO q.2 (iSl 1 (r : Int)) = _
      rw [h1, h5]
    · intro v hv
      show lb (lO q.1 (beF on ot (r : Int))) v = _
      rw [lb_O, h4 v hv, be_lb hon hot r hv, any_or (v := v) hr]
  · rw [if_neg (fun h => hq (hcond.mp h))]
    exact ⟨j, h1, h2, h4, .inr ⟨hq, rfl⟩⟩
/-- a pass over the roads, joined sets alone -/
def jpN (A B : Nat → Int) (c s : Nat) (j : Nat) (n : Nat) (j' : Nat) : Prop := match n with
  | 0 => j' = j
  | n + 1 => ∃ i, jpN A B c s j n i ∧ ((jnd A B c s i n ∧ j' = i ||| 2 ^ n) ∨ (¬ jnd A B c s i n ∧ j' = i))
theorem hgI_is {on ot : Int → Int} (hon : ∀ i, 0 ≤ on i ∧ on i ≤ 63) (hot : ∀ i, 0 ≤ ot i ∧ ot i ≤ 63) {c s : Nat} (hc : c ≤ 8) (hs : s < 256) {q : Int × Int} {j : Nat} (h1 : q.2 = (j : Int)) (h2 : j < 256) (h4 : ∀ v, v < 64 → lb q.1 v = (el c j).any (tch (AK on) (AK ot) (v : Int))) : ∀ n : Nat, n ≤ c → ∃ j' : Nat, (hgI on ot (s : Int) q n).2 = (j' : Int) ∧ j' < 256 ∧ (∀ v, v < 64 → lb (hgI on ot (s : Int) q n).1 v = (el c j').any (tch (AK on) (AK ot) (v : Int))) ∧ jpN (AK on) (AK ot) c s j n j'
  | 0, _ => ⟨j, h1, h2, h4, rfl⟩
  | n + 1, hn => by
    obtain ⟨i, g1, g2, g3, g4⟩ := hgI_is hon hot hc hs h1 h2 h4 n (by omega)
    obtain ⟨j', f1, f2, f3, f4⟩ := hg1_is hon hot hc hs (show n < c by omega) g1 g2 g3
    exact ⟨j', f1, f2, f3, i, g4, f4⟩
theorem jpN_mono {A B : Nat → Int} {c s j : Nat} : ∀ {n j' : Nat}, jpN A B c s j n j' → ∀ r, j.testBit r = true → j'.testBit r = true
  | 0, j', h, r, hr => by cases h; exact hr
  | n + 1, j', ⟨i, h1, h2⟩, r, hr => by
    have := jpN_mono h1 r hr
    rcases h2 with ⟨_, h2⟩ | ⟨_, h2⟩
    · subst h2; rw [mb_tb, this]; rfl
    · subst h2; exact this
theorem jpN_sub {A B : Nat → Int} {c s j : Nat} (hj : ∀ r, j.testBit r = true → r < c ∧ s.testBit r = true) : ∀ {n j' : Nat}, n ≤ c → jpN A B c s j n j' → ∀ r, j'.testBit r = true → r < c ∧ s.testBit r = true
  | 0, j', _, h => by cases h; exact hj
  | n + 1, j', hn, ⟨i, h1, h2⟩ => by
    have ih := jpN_sub hj (show n ≤ c by omega) h1
    rcases h2 with ⟨h3, h2⟩ | ⟨_, h2⟩
    · subst h2
      intro r hr
      rw [mb_tb] at hr
      rcases Bool.or_eq_true _ _ ▸ hr with h5 | h5
      · exact ih r h5
      · have : n = r := of_decide_eq_true h5
        subst this
        exact ⟨by omega, h3.1⟩
    · subst h2; exact ih
/-- no way out of a part that shares nothing with the rest -/
theorem jpN_part {A B : Nat → Int} {c s j : Nat} {X Y : List Nat} (hno : ∀ e ∈ X, ∀ f ∈ Y, ∀ v, (A e = v ∨ B e = v) → ¬ (A f = v ∨ B f = v)) (hxy : ∀ r, r < c → s.testBit r = true → r ∈ X ∨ r ∈ Y) (hj : (∀ r, j.testBit r = true → r ∈ X) ∨ ∀ r, j.testBit r = true → r ∈ Y) : ∀ {n j' : Nat}, n ≤ c → jpN A B c s j n j' → (∀ r, j'.testBit r = true → r ∈ X) ∨ ∀ r, j'.testBit r = true → r ∈ Y
  | 0, j', _, h => by cases h; exact hj
  | n + 1, j', hn, ⟨i, h1, h2⟩ => by
    have ih := jpN_part hno hxy hj (show n ≤ c by omega) h1
    rcases h2 with ⟨⟨h3, h4⟩, h2⟩ | ⟨_, h2⟩
    · subst h2
      have hn2 := hxy n (by omega) h3
      rcases h4 with h4 | ⟨e, he, v, g1, g2⟩
      · subst h4
        have : ∀ r, (0 ||| 2 ^ n).testBit r = true → r = n := fun r hr => by
          rw [mb_tb] at hr
          simp at hr
          exact hr.symm
        rcases hn2 with h | h
        · exact .inl (fun r hr => by rw [this r hr]; exact h)
        · exact .inr (fun r hr => by rw [this r hr]; exact h)
      · have he2 := (el_mem.mp he).2
        rcases ih with ih | ih
        · have hX : n ∈ X := hn2.resolve_right (fun h => hno e (ih e he2) n h v g1 g2)
          refine .inl (fun r hr => ?_)
          rw [mb_tb] at hr
          rcases Bool.or_eq_true _ _ ▸ hr with h5 | h5
          · exact ih r h5
          · have : n = r := of_decide_eq_true h5
            subst this; exact hX
        · have hY : n ∈ Y := hn2.resolve_left (fun h => hno n h e (ih e he2) v g2 g1)
          refine .inr (fun r hr => ?_)
          rw [mb_tb] at hr
          rcases Bool.or_eq_true _ _ ▸ hr with h5 | h5
          · exact ih r h5
          · have : n = r := of_decide_eq_true h5
            subst this; exact hY
    · subst h2; exact ih
/-- a pass that joins nothing finds all joined -/
theorem jpN_stay {A B : Nat → Int} {c s j : Nat} : ∀ {n j' : Nat}, jpN A B c s j n j' → (∀ r, j'.testBit r = true → j.testBit r = true) → j' = j ∧ ∀ r, r < n → j.testBit r = false → ¬ jnd A B c s j r
  | 0, j', h, _ => ⟨h, fun r hr => by omega⟩
  | n + 1, j', ⟨i, h1, h2⟩, hs => by
    have hi : ∀ r, i.testBit r = true → j.testBit r = true := fun r hr => hs r (by
      rcases h2 with ⟨_, h2⟩ | ⟨_, h2⟩
      · subst h2; rw [mb_tb, hr]; rfl
      · subst h2; exact hr)
    obtain ⟨h3, h4⟩ := jpN_stay h1 hi
    subst h3
    rcases h2 with ⟨g, h2⟩ | ⟨g, h2⟩
    · have hn : i.testBit n = true := hs n (by subst h2; rw [mb_tb]; simp)
      refine ⟨?_, fun r hr hz => ?_⟩
      · subst h2
        refine Nat.eq_of_testBit_eq fun k => ?_
        rw [mb_tb]
        by_cases h : n = k
        · subst h; simp [hn]
        · simp [h]
      · by_cases h : r = n
        · subst h; rw [hn] at hz; cases hz
        · exact h4 r (by omega) hz
    · refine ⟨h2, fun r hr hz => ?_⟩
      by_cases h : r = n
      · subst h; exact g
      · exact h4 r (by omega) hz
theorem filt_lt {p q : Nat → Bool} (hpq : ∀ r, q r = true → p r = true) : ∀ {L : List Nat}, (∃ r ∈ L, p r = true ∧ q r = false) → (L.filter q).length < (L.filter p).length
  | [], ⟨r, h, _⟩ => by cases h
  | x :: L, ⟨r, h, h1, h2⟩ => by
    have hle : (L.filter q).length ≤ (L.filter p).length := by
      rw [← List.countP_eq_length_filter, ← List.countP_eq_length_filter]
      exact List.countP_mono_left (fun a _ h => hpq a h)
    rcases List.mem_cons.mp h with rfl | h
    · simp [List.filter_cons, h1, h2]
      omega
    · have ih := filt_lt hpq ⟨r, h, h1, h2⟩
      cases hq : q x
      · cases hp : p x <;> simp [List.filter_cons, hq, hp] <;> omega
      · have hp := hpq x hq
        simp [List.filter_cons, hq, hp]
        omega
/-- rounds -/
theorem hgO_is {on ot : Int → Int} (hon : ∀ i, 0 ≤ on i ∧ on i ≤ 63) (hot : ∀ i, 0 ≤ ot i ∧ ot i ≤ 63) {c s : Nat} (hc : c ≤ 8) (hs : s < 256) (hsc : ∀ r, s.testBit r = true → r < c) : ∀ n : Nat, ∃ j : Nat, (hgO on ot c (s : Int) n).2 = (j : Int) ∧ j < 256 ∧ (∀ v, v < 64 → lb (hgO on ot c (s : Int) n).1 v = (el c j).any (tch (AK on) (AK ot) (v : Int))) ∧ (∀ r, j.testBit r = true → r < c ∧ s.testBit r = true) ∧ (∀ X Y : List Nat, (∀ e ∈ X, ∀ f ∈ Y, ∀ v, (AK on e = v ∨ AK ot e = v) → ¬ (AK on f = v ∨ AK ot f = v)) → (∀ r, r < c → s.testBit r = true → r ∈ X ∨ r ∈ Y) → (∀ r, j.testBit r = true → r ∈ X) ∨ ∀ r, j.testBit r = true → r ∈ Y) ∧ (Cn (AK on) (AK ot) (el c s) → j = s ∨ ((List.range c).filter (fun r => s.testBit r && !j.testBit r)).length + n ≤ c)
  | 0 => ⟨0, rfl, by omega, fun v _ => by
      show lb 0 v = _
      rw [lb_0]
      symm
      rw [List.any_eq_false]
      intro r hr
      have := (el_mem.mp hr).2
      simp at this, fun r hr => by simp at hr, fun X Y _ _ => .inl (fun r hr => by simp at hr), fun _ => .inr (by
      have := List.length_filter_le (fun r => s.testBit r && !(0 : Nat).testBit r) (List.range c)
      simp at this
      simp
      exact this)⟩
  | n + 1 => by
    obtain ⟨j, h1, h2, h3, h4, h5, h6⟩ := hgO_is hon hot hc hs hsc n
    obtain ⟨j', g1, g2, g3, g4⟩ := hgI_is hon hot hc hs h1 h2 h3 c (Nat.le_refl _)
    refine ⟨j', g1, g2, g3, jpN_sub h4 (Nat.le_refl _) g4, fun X Y hno hxy => jpN_part hno hxy (h5 X Y hno hxy) (Nat.le_refl _) g4, fun hcn => ?_⟩
    have hsub := jpN_sub h4 (Nat.le_refl _) g4
    by_cases hst : ∀ r, j'.testBit r = true → j.testBit r = true
    · obtain ⟨e1, e2⟩ := jpN_stay g4 hst
      refine .inl ?_
      rw [e1]
      refine Nat.eq_of_testBit_eq fun k => ?_
      cases hk : s.testBit k
      · cases hj : j.testBit k
        · rfl
        · rw [(h4 k hj).2] at hk; cases hk
      · refine Classical.byContradiction fun hj => ?_
        have hj : j.testBit k = false := by simpa using hj
        have hkc := hsc k hk
        have hj0 : j ≠ 0 := fun h => e2 k hkc hj ⟨hk, .inl h⟩
        obtain ⟨i, hi⟩ := Nat.exists_testBit_of_ne_zero hj0
        obtain ⟨e, he, f, hf, v, q1, q2⟩ := hcn (el c j) (el c (s ^^^ j)) (nd_perm (el_nd c s) (by
            refine List.nodup_append.mpr ⟨el_nd _ _, el_nd _ _, fun a ha b hb hab => ?_⟩
            subst hab
            have p1 := (el_mem.mp ha).2
            have p2 := (el_mem.mp hb).2
            rw [Nat.testBit_xor, p1, (h4 a p1).2] at p2
            cases p2) (fun r => by
            rw [List.mem_append, el_mem, el_mem, el_mem, Nat.testBit_xor]
            have := h4 r
            cases hz : s.testBit r <;> cases hy : j.testBit r <;> simp_all)) (List.ne_nil_of_mem (el_mem.mpr ⟨(h4 i hi).1, hi⟩)) (List.ne_nil_of_mem (el_mem.mpr ⟨hkc, by rw [Nat.testBit_xor, hk, hj]; rfl⟩))
        have hf2 := el_mem.mp hf
        have hfj : j.testBit f = false ∧ s.testBit f = true := by
          have := hf2.2
          rw [Nat.testBit_xor] at this
          cases hz : s.testBit f <;> cases hy : j.testBit f <;> simp_all
        exact e2 f hf2.1 hfj.1 ⟨hfj.2, .inr ⟨e, he, v, q1, q2⟩⟩
    · have hst : ∃ r, j'.testBit r = true ∧ j.testBit r = false := by
        refine Classical.byContradiction fun h => hst (fun r hr => ?_)
        cases hz : j.testBit r
        · exact absurd ⟨r, hr, hz⟩ h
        · rfl
      obtain ⟨r, r1, r2⟩ := hst
      have hrs := hsub r r1
      refine .inr ?_
      have hlt := filt_lt (p := fun r => s.testBit r && !j.testBit r) (q := fun r => s.testBit r && !j'.testBit r) (fun x hx => by
        simp at hx ⊢
        refine ⟨hx.1, ?_⟩
        cases hz : j.testBit x
        · rfl
        · have := jpN_mono g4 x hz
          rw [this] at hx; exact absurd hx.2 (by decide)) (L := List.range c) ⟨r, List.mem_range.mpr hrs.1, by simp [hrs.2, r2], by simp [r1]⟩
      rcases h6 hcn with h7 | h7
      · subst h7
        rw [hrs.2] at r2; cases r2
      · omega
theorem hgO_Cn {on ot : Int → Int} (hon : ∀ i, 0 ≤ on i ∧ on i ≤ 63) (hot : ∀ i, 0 ≤ ot i ∧ ot i ≤ 63) {c s : Nat} (hc : c ≤ 8) (hs : s < 256) (hsc : ∀ r, s.testBit r = true → r < c) : (hgO on ot c (s : Int) c).2 = (s : Int) ↔ Cn (AK on) (AK ot) (el c s) := by
  obtain ⟨j, h1, h2, h3, h4, h5, h6⟩ := hgO_is hon hot hc hs hsc c
  rw [h1]
  constructor
  · intro hj
    have hj : j = s := by omega
    subst hj
    intro X Y hp hX hY
    refine Classical.byContradiction fun hcon => ?_
    have hm : ∀ r, r ∈ el c j ↔ r ∈ X ∨ r ∈ Y := fun r => (hp.mem_iff).trans List.mem_append
    have hno : ∀ e ∈ X, ∀ f ∈ Y, ∀ v, (AK on e = v ∨ AK ot e = v) → ¬ (AK on f = v ∨ AK ot f = v) := fun e he f hf v g1 g2 => hcon ⟨e, he, f, hf, v, g1, g2⟩
    obtain ⟨x, hx⟩ := List.exists_mem_of_ne_nil X hX
    obtain ⟨y, hy⟩ := List.exists_mem_of_ne_nil Y hY
    rcases h5 X Y hno (fun r hr hb => (hm r).mp (el_mem.mpr ⟨hr, hb⟩)) with h | h
    · exact hno y (h y (el_mem.mp ((hm y).mpr (.inr hy))).2) y hy _ (.inl rfl) (.inl rfl)
    · exact hno x hx x (h x (el_mem.mp ((hm x).mpr (.inl hx))).2) _ (.inl rfl) (.inl rfl)
  · intro hcn
    rcases h6 hcn with h | h
    · rw [h]
    · have hz : ((List.range c).filter (fun r => s.testBit r && !j.testBit r)) = [] := List.eq_nil_of_length_eq_zero (by omega)
      have : j = s := by
        refine Nat.eq_of_testBit_eq fun k => ?_
        cases hk : s.testBit k
        · cases hj : j.testBit k
          · rfl
          · rw [(h4 k hj).2] at hk; cases hk
        · cases hj : j.testBit k
          · have : k ∈ (List.range c).filter (fun r => s.testBit r && !j.testBit r) := by
              rw [List.mem_filter]
              exact ⟨List.mem_range.mpr (hsc k hk), by simp [hk, hj]⟩
            rw [hz] at this
            cases this
          · rfl
      rw [this]
/-! ===== ends with an odd number of roads ===== -/
def oddN (on ot : Int → Int) (s : Int) : Nat → Int
  | 0 => 0
  | n + 1 => if iA (iSr s (n : Int)) 1 ≠ 0 then lX (oddN on ot s n) (beF on ot (n : Int)) else oddN on ot s n
theorem el_succ (n s : Nat) : el (n + 1) s = el n s ++ (if s.testBit n then [n] else []) := by
  unfold el
  rw [List.range_succ, List.filter_append]
  cases h : s.testBit n <;> simp [List.filter_cons, h]
theorem oddN_lb {on ot : Int → Int} (hon : ∀ i, 0 ≤ on i ∧ on i ≤ 63) (hot : ∀ i, 0 ≤ ot i ∧ ot i ≤ 63) {s : Nat} (hs : s < 256) {v : Nat} (hv : v < 64) : ∀ n : Nat, n ≤ 8 → (∀ i : Nat, i < n → on (i : Int) ≠ ot (i : Int)) → lb (oddN on ot (s : Int) n) v = pr (AK on) (AK ot) (v : Int) (el n s)
  | 0, _, _ => lb_0 v
  | n + 1, hn, hne => by
    have ih := oddN_lb hon hot hs hv n (by omega) (fun i hi => hne i (by omega))
    rw [el_succ, pr_app, ← ih]
    simp only [oddN]
    rw [mb_bit hs (by omega)]
    cases h : s.testBit n
    · simp [pr]
    · simp only [if_true]
      rw [if_pos (by decide), lb_X, be_lb hon hot n hv]
      congr 1
      have := hne n (by omega)
      simp only [pr, tch, AK, Bool.xor_false]
      by_cases h1 : on (n : Int) = (v : Int)
      · have h2 : ¬ ot (n : Int) = (v : Int) := fun h2 => this (h1.trans h2.symm)
        simp [h1, h2]
      · simp [h1]
/-- how many of the first ones hold -/
def pcN (f : Nat → Bool) : Nat → Nat
  | 0 => 0
  | n + 1 => pcN f n + (f n).toNat
theorem pcN_congr {f g : Nat → Bool} : ∀ {n : Nat}, (∀ v, v < n → f v = g v) → pcN f n = pcN g n
  | 0, _ => rfl
  | n + 1, h => by
    simp only [pcN]
    rw [pcN_congr (fun v hv => h v (by omega)), h n (by omega)]
theorem pcN_xor (f g : Nat → Bool) : ∀ n : Nat, pcN (fun v => xor (f v) (g v)) n % 2 = (pcN f n + pcN g n) % 2
  | 0 => rfl
  | n + 1 => by
    have := pcN_xor f g n
    simp only [pcN]
    cases f n <;> cases g n <;> simp <;> omega
theorem pcN_one (x : Int) : ∀ n : Nat, pcN (fun v => decide (x = (v : Int))) n = if 0 ≤ x ∧ x < n then 1 else 0
  | 0 => by rw [if_neg (by omega)]; rfl
  | n + 1 => by
    simp only [pcN, pcN_one x n]
    by_cases h1 : x = (n : Int)
    · rw [if_neg (by omega), if_pos (by omega), decide_eq_true h1]; rfl
    · simp [h1]
      by_cases h2 : 0 ≤ x ∧ x < (n : Int)
      · rw [if_pos h2, if_pos (by omega)]
      · rw [if_neg h2, if_neg (by omega)]
theorem pcN_false {f : Nat → Bool} : ∀ {n : Nat}, (∀ v, v < n → f v = false) → pcN f n = 0
  | 0, _ => rfl
  | n + 1, h => by
    have h1 := pcN_false (f := f) (n := n) (fun v hv => h v (by omega))
    have h2 := h n (by omega)
    simp [pcN, h1, h2]
theorem pcN_pos {f : Nat → Bool} : ∀ {n : Nat}, 0 < pcN f n → ∃ v, v < n ∧ f v = true
  | 0, h => by simp [pcN] at h
  | n + 1, h => by
    by_cases hf : f n = true
    · exact ⟨n, by omega, hf⟩
    · simp [pcN, hf] at h
      obtain ⟨v, h1, h2⟩ := pcN_pos h
      exact ⟨v, by omega, h2⟩
theorem pcN_del {f : Nat → Bool} {a : Nat} (ha : f a = true) : ∀ {n : Nat}, a < n → pcN (fun v => f v && !decide (v = a)) n + 1 = pcN f n
  | 0, h => by omega
  | n + 1, h => by
    simp only [pcN]
    by_cases e : n = a
    · subst e
      have : pcN (fun v => f v && !decide (v = n)) n = pcN f n := pcN_congr (fun v hv => by
        have : v ≠ n := by omega
        simp [this])
      rw [this]
      simp [ha]
    · have := pcN_del ha (show a < n by omega)
      simp [e] at this ⊢
      omega
theorem pcN_two {f : Nat → Bool} {n : Nat} (h : pcN f n ≤ 2) (he : pcN f n % 2 = 0) : ∃ a b : Int, ∀ v : Nat, v < n → f v = xor (decide ((v : Int) = a)) (decide ((v : Int) = b)) := by
  by_cases h0 : pcN f n = 0
  · refine ⟨0, 0, fun v hv => ?_⟩
    simp
    cases hf : f v
    · rfl
    · have := pcN_del hf hv
      omega
  · obtain ⟨a, ha, fa⟩ := pcN_pos (show 0 < pcN f n by omega)
    have h1 := pcN_del fa ha
    obtain ⟨b, hb, fb⟩ := pcN_pos (show 0 < pcN (fun v => f v && !decide (v = a)) n by omega)
    have h2 := pcN_del (f := fun v => f v && !decide (v = a)) fb hb
    simp at fb
    refine ⟨(a : Int), (b : Int), fun v hv => ?_⟩
    by_cases e1 : v = a
    · subst e1
      have : ¬ (v : Int) = (b : Int) := by omega
      simp [fa, this]
    · have e1' : ¬ (v : Int) = (a : Int) := by omega
      by_cases e2 : v = b
      · subst e2; simp [fb.1, e1']
      · have e2' : ¬ (v : Int) = (b : Int) := by omega
        simp only [e1', e2', decide_false, Bool.xor_false]
        cases hf : f v
        · rfl
        · have h3 : (fun v => (f v && !decide (v = a)) && !decide (v = b)) v = true := by simp [hf, e1, e2]
          have h4 := pcN_del (f := fun v => (f v && !decide (v = a)) && !decide (v = b)) h3 hv
          omega
theorem pcN_ab (a b : Int) (n : Nat) : pcN (fun v => xor (decide ((v : Int) = a)) (decide ((v : Int) = b))) n ≤ 2 := by
  have h : ∀ (f g : Nat → Bool) (n : Nat), pcN (fun v => xor (f v) (g v)) n ≤ pcN f n + pcN g n := by
    intro f g n
    induction n with
    | zero => exact Nat.le_refl _
    | succ n ih => simp only [pcN]; cases f n <;> cases g n <;> simp <;> omega
  have h1 := h (fun v => decide ((v : Int) = a)) (fun v => decide ((v : Int) = b)) n
  have h2 : pcN (fun v => decide ((v : Int) = a)) n ≤ 1 := by
    rw [pcN_congr (g := fun v => decide (a = (v : Int))) (fun v _ => decide_eq_decide.mpr ⟨Eq.symm, Eq.symm⟩), pcN_one]
    split <;> omega
  have h3 : pcN (fun v => decide ((v : Int) = b)) n ≤ 1 := by
    rw [pcN_congr (g := fun v => decide (b = (v : Int))) (fun v _ => decide_eq_decide.mpr ⟨Eq.symm, Eq.symm⟩), pcN_one]
    split <;> omega
  omega
def Od (A B : Nat → Int) (S : List Nat) : Prop := ∃ a b : Int, ∀ v, pr A B v S = xor (decide (v = a)) (decide (v = b))
theorem pr_even {A B : Nat → Int} {n : Nat} (hA : ∀ k, 0 ≤ A k ∧ A k < n) (hB : ∀ k, 0 ≤ B k ∧ B k < n) : ∀ S : List Nat, pcN (fun v => pr A B (v : Int) S) n % 2 = 0
  | [] => by rw [pcN_false (f := fun v => pr A B (v : Int) []) (fun v _ => rfl)]
  | e :: S => by
    have ih := pr_even hA hB S
    have h1 := pcN_xor (fun v => xor (decide (A e = (v : Int))) (decide (B e = (v : Int)))) (fun v => pr A B (v : Int) S) n
    have h2 := pcN_xor (fun v => decide (A e = (v : Int))) (fun v => decide (B e = (v : Int))) n
    rw [pcN_one, pcN_one, if_pos (hA e), if_pos (hB e)] at h2
    show pcN (fun v => xor (xor (decide (A e = (v : Int))) (decide (B e = (v : Int)))) (pr A B (v : Int) S)) n % 2 = 0
    omega
theorem pr_out {A B : Nat → Int} {v : Int} : ∀ {S : List Nat}, (∀ k, A k ≠ v ∧ B k ≠ v) → pr A B v S = false
  | [], _ => rfl
  | e :: S, h => by simp [pr, (h e).1, (h e).2, pr_out (S := S) h]
theorem Od_pc {A B : Nat → Int} {n : Nat} (hA : ∀ k, 0 ≤ A k ∧ A k < n) (hB : ∀ k, 0 ≤ B k ∧ B k < n) (S : List Nat) : pcN (fun v => pr A B (v : Int) S) n ≤ 2 ↔ Od A B S := by
  constructor
  · intro h
    have he := pr_even hA hB S
    obtain ⟨a, b, hab⟩ := pcN_two h he
    by_cases h0 : pcN (fun v => pr A B (v : Int) S) n = 0
    · refine ⟨0, 0, fun v => ?_⟩
      rw [Bool.xor_self]
      by_cases hv : 0 ≤ v ∧ v < n
      · obtain ⟨k, rfl⟩ := Int.eq_ofNat_of_zero_le hv.1
        cases hf : pr A B (k : Int) S
        · rfl
        · have := pcN_del (f := fun v => pr A B (v : Int) S) hf (show k < n by omega)
          omega
      · exact pr_out (fun k => by
          have := hA k
          have := hB k
          constructor <;> omega)
    · obtain ⟨v0, hv0, hf0⟩ := pcN_pos (show 0 < pcN (fun v => pr A B (v : Int) S) n by omega)
      have h1 : pcN (fun v => pr A B (v : Int) S && !decide (v = v0)) n + 1 = pcN (fun v => pr A B (v : Int) S) n := pcN_del (f := fun v => pr A B (v : Int) S) hf0 hv0
      obtain ⟨v1, hv1, hf1⟩ := pcN_pos (show 0 < pcN (fun v => pr A B (v : Int) S && !decide (v = v0)) n by omega)
      simp at hf1
      have g0 := hab v0 hv0
      have g1 := hab v1 hv1
      simp only [hf0, hf1.1] at g0 g1
      have hne : v0 ≠ v1 := fun e => hf1.2 e.symm
      have hab2 : (a = (v0 : Int) ∧ b = (v1 : Int)) ∨ (a = (v1 : Int) ∧ b = (v0 : Int)) := by
        have g0' : (decide ((v0 : Int) = a) ^^ decide ((v0 : Int) = b)) = true := g0.symm
        have g1' : (decide ((v1 : Int) = a) ^^ decide ((v1 : Int) = b)) = true := g1.symm
        by_cases p0 : (v0 : Int) = a
        · by_cases q1 : (v1 : Int) = b
          · exact .inl ⟨p0.symm, q1.symm⟩
          · by_cases q0 : (v1 : Int) = a
            · omega
            · rw [decide_eq_false q0, decide_eq_false q1] at g1'
              cases g1'
        · by_cases p1 : (v0 : Int) = b
          · by_cases q0 : (v1 : Int) = a
            · exact .inr ⟨q0.symm, p1.symm⟩
            · by_cases q1 : (v1 : Int) = b
              · omega
              · rw [decide_eq_false q0, decide_eq_false q1] at g1'
                cases g1'
          · rw [decide_eq_false p0, decide_eq_false p1] at g0'
            cases g0' 
      refine ⟨a, b, fun v => ?_⟩
      by_cases hv : 0 ≤ v ∧ v < n
      · obtain ⟨k, rfl⟩ := Int.eq_ofNat_of_zero_le hv.1
        exact hab k (by omega)
      · rw [pr_out (fun k => by
          have := hA k
          have := hB k
          constructor <;> omega)]
        have p0 : ¬ v = a := by omega
        have p1 : ¬ v = b := by omega
        simp [p0, p1]
  · rintro ⟨a, b, h⟩
    rw [pcN_congr (g := fun v => xor (decide ((v : Int) = a)) (decide ((v : Int) = b))) (fun v _ => h v)]
    exact pcN_ab a b n
/-! ===== counting bits ===== -/
def bcI (x : Int) : Int :=
  let x1 := x - iA (iUs x 1) 1431655765
  let x2 := iA x1 858993459 + iA (iUs x1 2) 858993459
  let x3 := iA (x2 + iUs x2 4) 252645135
  let x4 := x3 + iUs x3 8
  let x5 := x4 + iUs x4 16
  iA x5 63
def bcL (x : Int) : Int :=
  let x1 := x - lA (lUs x 1) 6148914691236517205
  let x2 := lA x1 3689348814741910323 + lA (lUs x1 2) 3689348814741910323
  let x3 := lA (x2 + lUs x2 4) 1085102592571150095
  let x4 := x3 + lUs x3 8
  let x5 := x4 + lUs x4 16
  let x6 := x5 + lUs x5 32
  iA (lI x6) 127
theorem bcI_fin : ∀ s : Fin 256, bcI (s.val : Int) = ((el 8 s.val).length : Int) := by decide +kernel
def uN (x : Int) : Nat := (BitVec.ofInt 64 x).toNat
theorem uN_lt (x : Int) : uN x < 18446744073709551616 := (BitVec.ofInt 64 x).isLt
theorem uN_A (x y : Int) : uN (lA x y) = uN x &&& uN y := by
  unfold uN lA
  rw [i64b, Int64.toBitVec_and, Int64.toBitVec_ofInt, Int64.toBitVec_ofInt, BitVec.toNat_and]
theorem uN_add (x y : Int) : uN (x + y) = (uN x + uN y) % 18446744073709551616 := by
  unfold uN
  rw [BitVec.ofInt_add, BitVec.toNat_add]
theorem uN_sub {x y : Int} (h : uN y ≤ uN x) : uN (x - y) = uN x - uN y := by
  have h1 := uN_add (x - y) y
  rw [show x - y + y = x by omega] at h1
  have := uN_lt x
  have := uN_lt y
  have := uN_lt (x - y)
  omega
theorem uN_Us {x : Int} {k : Nat} (hk : k = 1 ∨ k = 2 ∨ k = 4 ∨ k = 8 ∨ k = 16 ∨ k = 32) : uN (lUs x (k : Int)) = uN x / 2 ^ k := by
  have h : ∀ z : UInt64, BitVec.ofInt 64 (z.toInt64.toInt) = z.toBitVec := fun z => i64b _
  unfold uN lUs
  rw [h]
  rw [UInt64.toBitVec_shiftRight]
  have h2 : ((Int32.ofInt (k : Int)).toInt64.toUInt64 &&& Int64.toUInt64 63).toBitVec % 64 = BitVec.ofNat 64 k := by
    rcases hk with rfl | rfl | rfl | rfl | rfl | rfl <;> decide +kernel
  rw [h2]
  rw [BitVec.ushiftRight_eq', BitVec.toNat_ushiftRight, BitVec.toNat_ofNat]
  rw [show k % 2 ^ 64 = k from Nat.mod_eq_of_lt (by rcases hk with rfl | rfl | rfl | rfl | rfl | rfl <;> decide)]
  rw [Nat.shiftRight_eq_div_pow]
  rfl
theorem uN_Us1 (x : Int) : uN (lUs x 1) = uN x / 2 := uN_Us (k := 1) (by omega)
theorem uN_Us2 (x : Int) : uN (lUs x 2) = uN x / 4 := uN_Us (k := 2) (by omega)
theorem uN_Us4 (x : Int) : uN (lUs x 4) = uN x / 16 := uN_Us (k := 4) (by omega)
theorem uN_Us8 (x : Int) : uN (lUs x 8) = uN x / 256 := uN_Us (k := 8) (by omega)
theorem uN_Us16 (x : Int) : uN (lUs x 16) = uN x / 65536 := uN_Us (k := 16) (by omega)
theorem uN_Us32 (x : Int) : uN (lUs x 32) = uN x / 4294967296 := uN_Us (k := 32) (by omega)
theorem uN_lit (n : Nat) : uN (n : Int) = n % 18446744073709551616 := by
  unfold uN
  rw [BitVec.ofInt_natCast, BitVec.toNat_ofNat]
theorem iA_low (x : Int) : iA (lI x) 127 = ((uN x % 128 : Nat) : Int) := by
  unfold iA lI uN
  show (Int32.ofInt (Int64.ofInt x).toInt32.toInt &&& Int32.ofInt 127).toBitVec.toInt = _
  rw [Int32.toBitVec_and, Int32.ofInt_toInt]
  have h1 : ((Int64.ofInt x).toInt32).toBitVec = (BitVec.ofInt 64 x).setWidth 32 := by
    rw [Int64.toBitVec_toInt32, BitVec.signExtend_eq_setWidth_of_le _ (by omega), Int64.toBitVec_ofInt]
  rw [h1]
  have h2 : (Int32.ofInt 127).toBitVec = 127#32 := by decide +kernel
  rw [h2]
  generalize BitVec.ofInt 64 x = X
  have h3 : (BitVec.setWidth 32 X &&& 127#32).toNat = X.toNat % 128 := by
    rw [BitVec.toNat_and, BitVec.toNat_setWidth, BitVec.toNat_ofNat]
    rw [show (127 % 2 ^ 32 : Nat) = 2 ^ 7 - 1 by decide, Nat.and_two_pow_sub_one_eq_mod]
    omega
  rw [BitVec.toInt_eq_toNat_of_lt (by rw [h3]; omega), h3]
/-- masks of k bytes, each c -/
def mkB (c : Nat) : Nat → Nat
  | 0 => 0
  | k + 1 => c + 256 * mkB c k
theorem and_split {a b c d : Nat} (hb : b < 256) (hd : d < 256) : (b + 256 * a) &&& (d + 256 * c) = (b &&& d) + 256 * (a &&& c) := by
  have hbd : b &&& d < 256 := Nat.lt_of_le_of_lt Nat.and_le_left hb
  refine Nat.eq_of_testBit_eq fun i => ?_
  have e : ∀ x y : Nat, x < 256 → (x + 256 * y).testBit i = if i < 8 then x.testBit i else y.testBit (i - 8) := by
    intro x y hx
    have := Nat.testBit_two_pow_mul_add (i := 8) y (show x < 2 ^ 8 from hx) i
    rw [show x + 256 * y = 2 ^ 8 * y + x by omega, this]
  rw [Nat.testBit_and, e b a hb, e d c hd, e _ _ hbd, Nat.testBit_and, Nat.testBit_and]
  split <;> rfl
def s1 (n m5 : Nat) : Nat := n - ((n / 2) &&& m5)
def s2 (n m3 : Nat) : Nat := (n &&& m3) + ((n / 4) &&& m3)
def s3 (n mf : Nat) : Nat := (n + n / 16) &&& mf
def sB (k n : Nat) : Nat := s3 (s2 (s1 n (mkB 85 k)) (mkB 51 k)) (mkB 15 k)
def dgB : Nat → Nat → Nat
  | 0, _ => 0
  | k + 1, n => pcN (fun v => (n % 256).testBit v) 8 + 256 * dgB k (n / 256)
theorem by1 : ∀ (b : Fin 256) (t : Fin 2), (b.val / 2 + 128 * t.val) &&& 85 = (b.val / 2) &&& 85 ∧ (b.val / 2) &&& 85 ≤ b.val := by decide +kernel
theorem by2 : ∀ (b : Fin 256) (t : Fin 4), (b.val / 4 + 64 * t.val) &&& 51 = (b.val / 4) &&& 51 := by decide +kernel
theorem by3 : ∀ (b : Fin 256) (t : Fin 5), s2 (s1 b.val 85) 51 ≤ 68 ∧ s2 (s1 b.val 85) 51 % 16 ≤ 4 ∧ (s2 (s1 b.val 85) 51 + s2 (s1 b.val 85) 51 / 16 + 16 * t.val) &&& 15 = pcN (fun v => b.val.testBit v) 8 := by decide +kernel
theorem s1_split {b m k : Nat} (hb : b < 256) : s1 (b + 256 * m) (mkB 85 (k + 1)) = s1 b 85 + 256 * s1 m (mkB 85 k) := by
  have h1 := by1 ⟨b, hb⟩ ⟨m % 2, by omega⟩
  simp only at h1
  unfold s1
  rw [show (b + 256 * m) / 2 = (b / 2 + 128 * (m % 2)) + 256 * (m / 2) by omega]
  show _ - (_ &&& (85 + 256 * mkB 85 k)) = _
  rw [and_split (by omega) (by omega), h1.1]
  have h2 : (m / 2) &&& mkB 85 k ≤ m := Nat.le_trans Nat.and_le_left (by omega)
  omega
theorem s1_lt {b c : Nat} (hb : b < 256) : s1 b c < 256 := by unfold s1; omega
theorem s2_split {b m k : Nat} (hb : b < 256) : s2 (b + 256 * m) (mkB 51 (k + 1)) = s2 b 51 + 256 * s2 m (mkB 51 k) := by
  have h1 := by2 ⟨b, hb⟩ ⟨m % 4, by omega⟩
  simp only at h1
  unfold s2
  rw [show (b + 256 * m) / 4 = (b / 4 + 64 * (m % 4)) + 256 * (m / 4) by omega]
  show (_ &&& (51 + 256 * mkB 51 k)) + (_ &&& (51 + 256 * mkB 51 k)) = _
  rw [and_split (by omega) (by omega), and_split (by omega) (by omega), h1]
  omega
theorem sB_is : ∀ (k n : Nat), n < 256 ^ k → sB k n = dgB k n ∧ s2 (s1 n (mkB 85 k)) (mkB 51 k) % 16 ≤ 4
  | 0, n, h => by
    have : n = 0 := by omega
    subst this
    decide
  | k + 1, n, h => by
    have hm : n / 256 < 256 ^ k := by
      rw [Nat.pow_succ] at h
      omega
    obtain ⟨ih1, ih2⟩ := sB_is k (n / 256) hm
    have hn : n = n % 256 + 256 * (n / 256) := by omega
    have hb : n % 256 < 256 := by omega
    have key : s2 (s1 n (mkB 85 (k + 1))) (mkB 51 (k + 1)) = s2 (s1 (n % 256) 85) 51 + 256 * s2 (s1 (n / 256) (mkB 85 k)) (mkB 51 k) := by
      rw [show s1 n (mkB 85 (k + 1)) = s1 (n % 256) 85 + 256 * s1 (n / 256) (mkB 85 k) from by
        rw [← s1_split hb, ← hn]]
      exact s2_split (s1_lt hb)
    have h3 := by3 ⟨n % 256, hb⟩ ⟨s2 (s1 (n / 256) (mkB 85 k)) (mkB 51 k) % 16, by omega⟩
    simp only at h3
    refine ⟨?_, by rw [key]; omega⟩
    unfold sB
    rw [key]
    unfold sB at ih1
    generalize s2 (s1 (n / 256) (mkB 85 k)) (mkB 51 k) = M at *
    generalize s2 (s1 (n % 256) 85) 51 = L at *
    unfold s3 at *
    rw [show L + 256 * M + (L + 256 * M) / 16 = (L + L / 16 + 16 * (M % 16)) + 256 * (M + M / 16) by omega]
    rw [show mkB 15 (k + 1) = 15 + 256 * mkB 15 k from rfl]
    rw [and_split (by omega) (by omega), h3.2.2, ih1]
    rfl
theorem pcN_bytes : ∀ (k n : Nat), pcN (fun v => n.testBit v) (8 * (k + 1)) = pcN (fun v => (n % 256).testBit v) 8 + pcN (fun v => (n / 256).testBit v) (8 * k) := by
  have h : ∀ (f : Nat → Bool) (a b : Nat), pcN f (a + b) = pcN f a + pcN (fun v => f (a + v)) b := by
    intro f a b
    induction b with
    | zero => rfl
    | succ b ih =>
      show pcN f (a + b) + (f (a + b)).toNat = pcN f a + (pcN (fun v => f (a + v)) b + (f (a + b)).toNat)
      rw [ih]
      omega
  intro k n
  rw [show 8 * (k + 1) = 8 + 8 * k by omega, h]
  congr 1
  · refine pcN_congr fun v hv => ?_
    rw [show (256 : Nat) = 2 ^ 8 by rfl, Nat.testBit_mod_two_pow]
    simp [hv]
  · refine pcN_congr fun v hv => ?_
    rw [show (256 : Nat) = 2 ^ 8 by rfl, Nat.testBit_div_two_pow]
    congr 1
    omega
theorem pc8_le (f : Nat → Bool) : pcN f 8 ≤ 8 := by
  have : ∀ n, pcN f n ≤ n := by
    intro n
    induction n with
    | zero => exact Nat.le_refl _
    | succ n ih => simp only [pcN]; have : (f n).toNat ≤ 1 := Bool.toNat_le _; omega
  exact this 8
theorem bcL_is (x : Int) : bcL x = ((pcN (fun v => lb x v) 64 : Nat) : Int) := by
  have hlb : pcN (fun v => lb x v) 64 = pcN (fun v => (uN x).testBit v) 64 := pcN_congr fun v hv => rfl
  rw [hlb]
  have hx := uN_lt x
  unfold bcL
  simp only
  rw [iA_low]
  generalize hx1 : x - lA (lUs x 1) 6148914691236517205 = x1
  generalize hx2 : lA x1 3689348814741910323 + lA (lUs x1 2) 3689348814741910323 = x2
  generalize hx3 : lA (x2 + lUs x2 4) 1085102592571150095 = x3
  have l5 : uN 6148914691236517205 = mkB 85 8 := by decide +kernel
  have l3 : uN 3689348814741910323 = mkB 51 8 := by decide +kernel
  have lf : uN 1085102592571150095 = mkB 15 8 := by decide +kernel
  have u1 : uN x1 = s1 (uN x) (mkB 85 8) := by
    have e : uN (lA (lUs x 1) 6148914691236517205) = (uN x / 2) &&& mkB 85 8 := by
      rw [uN_A, l5, uN_Us1]
    rw [← hx1, uN_sub (by rw [e]; exact Nat.le_trans Nat.and_le_left (by omega)), e]
    rfl
  have m3 : mkB 51 8 = 3689348814741910323 := by decide +kernel
  have mf : mkB 15 8 = 1085102592571150095 := by decide +kernel
  have u2 : uN x2 = s2 (uN x1) (mkB 51 8) := by
    rw [← hx2, uN_add, uN_A, uN_A, l3, uN_Us2]
    have a1 : uN x1 &&& mkB 51 8 ≤ mkB 51 8 := Nat.and_le_right
    have a2 : (uN x1 / 4) &&& mkB 51 8 ≤ mkB 51 8 := Nat.and_le_right
    unfold s2
    rw [Nat.mod_eq_of_lt (by omega)]
  have b2 : uN x2 ≤ 7378697629483820646 := by
    rw [u2]
    have a1 : uN x1 &&& mkB 51 8 ≤ mkB 51 8 := Nat.and_le_right
    have a2 : (uN x1 / 4) &&& mkB 51 8 ≤ mkB 51 8 := Nat.and_le_right
    unfold s2
    omega
  have u3 : uN x3 = s3 (uN x2) (mkB 15 8) := by
    rw [← hx3, uN_A, uN_add, lf, uN_Us4]
    unfold s3
    rw [Nat.mod_eq_of_lt (by omega)]
  have u3' : uN x3 = dgB 8 (uN x) := by
    rw [u3, u2, u1]
    exact (sB_is 8 (uN x) hx).1
  have hsum : pcN (fun v => (uN x).testBit v) 64 = 0 + pcN (fun v => (uN x).testBit v) (8 * (7 + 1)) := by simp
  rw [hsum]
  rw [pcN_bytes 7 (uN x), pcN_bytes 6 (uN x / 256), pcN_bytes 5 (uN x / 256 / 256), pcN_bytes 4 (uN x / 256 / 256 / 256), pcN_bytes 3 (uN x / 256 / 256 / 256 / 256), pcN_bytes 2 (uN x / 256 / 256 / 256 / 256 / 256), pcN_bytes 1 (uN x / 256 / 256 / 256 / 256 / 256 / 256), pcN_bytes 0 (uN x / 256 / 256 / 256 / 256 / 256 / 256 / 256)]
  simp only [dgB] at u3'
  have c1 := pc8_le (fun v => (uN x % 256).testBit v)
  have c2 := pc8_le (fun v => (uN x / 256 % 256).testBit v)
  have c3 := pc8_le (fun v => (uN x / 256 / 256 % 256).testBit v)
  have c4 := pc8_le (fun v => (uN x / 256 / 256 / 256 % 256).testBit v)
  have c5 := pc8_le (fun v => (uN x / 256 / 256 / 256 / 256 % 256).testBit v)
  have c6 := pc8_le (fun v => (uN x / 256 / 256 / 256 / 256 / 256 % 256).testBit v)
  have c7 := pc8_le (fun v => (uN x / 256 / 256 / 256 / 256 / 256 / 256 % 256).testBit v)
  have c8 := pc8_le (fun v => (uN x / 256 / 256 / 256 / 256 / 256 / 256 / 256 % 256).testBit v)
  generalize pcN (fun v => (uN x % 256).testBit v) 8 = d1 at *
  generalize pcN (fun v => (uN x / 256 % 256).testBit v) 8 = d2 at *
  generalize pcN (fun v => (uN x / 256 / 256 % 256).testBit v) 8 = d3 at *
  generalize pcN (fun v => (uN x / 256 / 256 / 256 % 256).testBit v) 8 = d4 at *
  generalize pcN (fun v => (uN x / 256 / 256 / 256 / 256 % 256).testBit v) 8 = d5 at *
  generalize pcN (fun v => (uN x / 256 / 256 / 256 / 256 / 256 % 256).testBit v) 8 = d6 at *
  generalize pcN (fun v => (uN x / 256 / 256 / 256 / 256 / 256 / 256 % 256).testBit v) 8 = d7 at *
  generalize pcN (fun v => (uN x / 256 / 256 / 256 / 256 / 256 / 256 / 256 % 256).testBit v) 8 = d8 at *
  have z : pcN (fun v => (uN x / 256 / 256 / 256 / 256 / 256 / 256 / 256 / 256).testBit v) (8 * 0) = 0 := rfl
  rw [z]
  clear z hsum hlb u3 u2 u1 hx1 hx2 hx3 l5 l3 lf m3 mf b2 hx
  have q1 : uN x3 / 256 = d2 + 256 * (d3 + 256 * (d4 + 256 * (d5 + 256 * (d6 + 256 * (d7 + 256 * (d8)))))) := by omega
  have w4 : uN (x3 + lUs x3 8) = (d1 + d2) + 256 * ((d2 + d3) + 256 * ((d3 + d4) + 256 * ((d4 + d5) + 256 * ((d5 + d6) + 256 * ((d6 + d7) + 256 * ((d7 + d8) + 256 * ((d8)))))))) := by
    rw [uN_add, uN_Us8]
    omega
  clear q1 u3'
  generalize x3 + lUs x3 8 = x4 at *
  have q2 : uN x4 / 65536 = (d3 + d4) + 256 * ((d4 + d5) + 256 * ((d5 + d6) + 256 * ((d6 + d7) + 256 * ((d7 + d8) + 256 * ((d8)))))) := by omega
  have w5 : uN (x4 + lUs x4 16) = (d1 + d2 + d3 + d4) + 256 * ((d2 + d3 + d4 + d5) + 256 * ((d3 + d4 + d5 + d6) + 256 * ((d4 + d5 + d6 + d7) + 256 * ((d5 + d6 + d7 + d8) + 256 * ((d6 + d7 + d8) + 256 * ((d7 + d8) + 256 * ((d8)))))))) := by
    rw [uN_add, uN_Us16]
    omega
  clear q2 w4
  generalize x4 + lUs x4 16 = x5 at *
  have q3 : uN x5 / 4294967296 = (d5 + d6 + d7 + d8) + 256 * ((d6 + d7 + d8) + 256 * ((d7 + d8) + 256 * ((d8)))) := by omega
  have w6 : uN (x5 + lUs x5 32) = uN x5 + uN x5 / 4294967296 := by
    rw [uN_add, uN_Us32]
    omega
  rw [w6, q3, w5]
  omega
