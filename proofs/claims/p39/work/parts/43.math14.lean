/-! ===== the largest set ===== -/
def bestP (f : Int → Int) (g : Int → Bool) : Nat → Int
  | 0 => 0
  | n + 1 => if bestP f g n < f ((n : Int) + 1) ∧ g ((n : Int) + 1) = true then f ((n : Int) + 1) else bestP f g n
theorem bestP_ge {f : Int → Int} {g : Int → Bool} : ∀ {n s : Nat}, 1 ≤ s → s ≤ n → g (s : Int) = true → f (s : Int) ≤ bestP f g n
  | 0, s, h1, h2, _ => by omega
  | n + 1, s, h1, h2, hg => by
    simp only [bestP]
    by_cases e : s = n + 1
    · subst e
      rw [show ((n + 1 : Nat) : Int) = (n : Int) + 1 from by omega] at hg ⊢
      by_cases h : bestP f g n < f ((n : Int) + 1)
      · rw [if_pos ⟨h, hg⟩]; omega
      · rw [if_neg (fun z => h z.1)]; omega
    · have := bestP_ge (f := f) h1 (show s ≤ n by omega) hg
      split <;> omega
theorem bestP_is (f : Int → Int) (g : Int → Bool) : ∀ n : Nat, bestP f g n = 0 ∨ ∃ s : Nat, 1 ≤ s ∧ s ≤ n ∧ g (s : Int) = true ∧ bestP f g n = f (s : Int)
  | 0 => .inl rfl
  | n + 1 => by
    simp only [bestP]
    split
    · next h => exact .inr ⟨n + 1, by omega, Nat.le_refl _, by rw [show ((n + 1 : Nat) : Int) = (n : Int) + 1 from by omega]; exact h.2, by rw [show ((n + 1 : Nat) : Int) = (n : Int) + 1 from by omega]⟩
    · rcases bestP_is f g n with h | ⟨s, h1, h2, h3, h4⟩
      · exact .inl h
      · exact .inr ⟨s, h1, by omega, h3, h4⟩
theorem bestP_0 {f : Int → Int} {g : Int → Bool} : ∀ n : Nat, 0 ≤ bestP f g n
  | 0 => Int.le_refl _
  | n + 1 => by
    have := bestP_0 (f := f) (g := g) n
    simp only [bestP]
    split <;> omega
theorem bestP_congr {f f' : Int → Int} {g g' : Int → Bool} : ∀ {n : Nat}, (∀ s : Nat, 1 ≤ s → s ≤ n → f (s : Int) = f' (s : Int) ∧ g (s : Int) = g' (s : Int)) → bestP f g n = bestP f' g' n
  | 0, _ => rfl
  | n + 1, h => by
    have h1 := h (n + 1) (by omega) (Nat.le_refl _)
    rw [show ((n + 1 : Nat) : Int) = (n : Int) + 1 from by omega] at h1
    simp only [bestP]
    rw [bestP_congr (f := f) (f' := f') (g := g) (g' := g') (fun s a b => h s a (by omega)), h1.1, h1.2]
def mskL : List Nat → Nat
  | [] => 0
  | r :: T => mskL T ||| 2 ^ r
theorem mskL_tb : ∀ {T : List Nat} {r : Nat}, (mskL T).testBit r = true ↔ r ∈ T
  | [], r => by simp [mskL]
  | x :: T, r => by
    have := mskL_tb (T := T) (r := r)
    simp only [mskL, mb_tb, Bool.or_eq_true, this, decide_eq_true_eq, List.mem_cons]
    constructor
    · rintro (h | h)
      · exact .inr h
      · exact .inl h.symm
    · rintro (h | h)
      · exact .inr h.symm
      · exact .inl h
theorem bits_lt {c s : Nat} (h : s < 2 ^ c) {r : Nat} (hr : s.testBit r = true) : r < c := by
  refine Classical.byContradiction fun hc => ?_
  have h2 : 2 ^ c ≤ 2 ^ r := Nat.pow_le_pow_right (by omega) (by omega)
  have := Nat.testBit_lt_two_pow (show s < 2 ^ r by omega)
  rw [this] at hr
  cases hr
theorem el_8 {c s : Nat} (hc : c ≤ 8) (h : s < 2 ^ c) : (el 8 s).length = (el c s).length := by
  refine (nd_perm (el_nd _ _) (el_nd _ _) fun r => ?_).length_eq
  rw [el_mem, el_mem]
  constructor
  · rintro ⟨_, h2⟩; exact ⟨bits_lt h h2, h2⟩
  · rintro ⟨h1, h2⟩; exact ⟨by omega, h2⟩
theorem bestP_Lg {A B : Nat → Int} {c : Nat} (hc : c ≤ 8) {f : Int → Int} {g : Int → Bool} (hf : ∀ s : Nat, 1 ≤ s → s < 2 ^ c → f (s : Int) = ((el 8 s).length : Int)) (hg : ∀ s : Nat, 1 ≤ s → s < 2 ^ c → (g (s : Int) = true ↔ (Od A B (el c s) ∧ Cn A B (el c s)))) : Lg A B (fun r => r < c) (bestP f g (2 ^ c - 1)) := by
  have h2 : 1 ≤ 2 ^ c := Nat.one_le_two_pow
  constructor
  · rcases bestP_is f g (2 ^ c - 1) with h | ⟨s, h1, h2, h3, h4⟩
    · exact ⟨[], 0, 0, rfl, List.nodup_nil, (fun r h => by cases h), h.symm⟩
    · rw [h4, hf s h1 (by omega)]
      obtain ⟨g1, g2⟩ := (hg s h1 (by omega)).mp h3
      have hne : el c s ≠ [] := by
        obtain ⟨i, hi⟩ := Nat.exists_testBit_of_ne_zero (show s ≠ 0 by omega)
        exact List.ne_nil_of_mem (el_mem.mpr ⟨bits_lt (by omega) hi, hi⟩)
      obtain ⟨a, b, T, t1, t2⟩ := euler hne g2 g1
      refine ⟨T, a, b, t1, t2.nodup_iff.mpr (el_nd c s), fun r hr => (el_mem.mp (t2.mem_iff.mp hr)).1, ?_⟩
      rw [t2.length_eq, el_8 hc (by omega)]
  · intro T a b hw hn hm
    cases T with
    | nil => exact bestP_0 _
    | cons x T =>
      have hlt : mskL (x :: T) < 2 ^ c := by
        refine Nat.lt_pow_two_of_testBit _ fun i hi => ?_
        cases hz : (mskL (x :: T)).testBit i
        · rfl
        · have := hm i (mskL_tb.mp hz)
          omega
      have hpos : 1 ≤ mskL (x :: T) := by
        have hx : (mskL (x :: T)).testBit x = true := mskL_tb.mpr List.mem_cons_self
        refine Nat.pos_of_ne_zero fun h => ?_
        rw [h] at hx
        simp at hx
      have hp : (x :: T).Perm (el c (mskL (x :: T))) := nd_perm hn (el_nd _ _) fun r => by
        rw [el_mem, mskL_tb]
        exact ⟨fun h => ⟨hm r h, h⟩, fun h => h.2⟩
      have := bestP_ge (f := f) (n := 2 ^ c - 1) hpos (by omega) ((hg _ hpos hlt).mpr ⟨⟨a, b, fun v => by rw [← pr_perm hp]; exact Wy_pr hw⟩, Cn_perm hp (Wy_Cn hw)⟩)
      rw [hf _ hpos hlt, el_8 hc hlt, ← hp.length_eq] at this
      exact this
/-- what the class asks of a set -/
def gdS (on ot : Int → Int) (c : Nat) (s : Int) : Bool := decide (bcL (oddN on ot s c) ≤ 2) && decide ((hgO on ot c s c).2 = s)
theorem gdS_iff {on ot : Int → Int} (hon : ∀ i, 0 ≤ on i ∧ on i ≤ 63) (hot : ∀ i, 0 ≤ ot i ∧ ot i ≤ 63) {c s : Nat} (hne : ∀ i : Nat, i < c → on (i : Int) ≠ ot (i : Int)) (hc : c ≤ 8) (hs : s < 2 ^ c) : gdS on ot c (s : Int) = true ↔ (Od (AK on) (AK ot) (el c s) ∧ Cn (AK on) (AK ot) (el c s)) := by
  have h256 : s < 256 := Nat.lt_of_lt_of_le hs (Nat.pow_le_pow_right (n := 2) (by omega) hc)
  have h1 := hgO_Cn hon hot hc h256 (fun r hr => bits_lt hs hr)
  have h2 : pcN (fun v => lb (oddN on ot (s : Int) c) v) 64 = pcN (fun v => pr (AK on) (AK ot) (v : Int) (el c s)) 64 := pcN_congr fun v hv => oddN_lb hon hot h256 hv c hc hne
  have h3 := Od_pc (A := AK on) (B := AK ot) (n := 64) (fun k => by have := hon (k : Int); unfold AK; omega) (fun k => by have := hot (k : Int); unfold AK; omega) (el c s)
  unfold gdS
  rw [Bool.and_eq_true, decide_eq_true_eq, decide_eq_true_eq, bcL_is, h2, h1, ← h3]
  exact and_congr (by omega) Iff.rfl
theorem bcI_is {s : Nat} (hs : s < 256) : bcI (s : Int) = ((el 8 s).length : Int) := bcI_fin ⟨s, hs⟩
/-- the longest trail by all sets -/
def bySF (on ot : Int → Int) (c : Nat) : Int := bestP bcI (gdS on ot c) (2 ^ c - 1)
theorem bySF_Lg {on ot : Int → Int} (hon : ∀ i, 0 ≤ on i ∧ on i ≤ 63) (hot : ∀ i, 0 ≤ ot i ∧ ot i ≤ 63) {c : Nat} (hne : ∀ i : Nat, i < c → on (i : Int) ≠ ot (i : Int)) (hc : c ≤ 8) : Lg (AK on) (AK ot) (fun r => r < c) (bySF on ot c) := by
  have h256 : 2 ^ c ≤ 256 := Nat.pow_le_pow_right (n := 2) (by omega) hc
  exact bestP_Lg hc (fun s _ hs => bcI_is (by omega)) (fun s _ hs => gdS_iff hon hot hne hc hs)
/-! ===== the roads of a player, in their order ===== -/
def owL (r : Int → Int) (p : Int) (n : Nat) : List Nat := (List.range n).filter (fun e => decide (r (e : Int) = p))
theorem owL_mem {r : Int → Int} {p : Int} {n e : Nat} : e ∈ owL r p n ↔ e < n ∧ r (e : Int) = p := by simp [owL, List.mem_filter, List.mem_range]
theorem owL_nd (r : Int → Int) (p : Int) (n : Nat) : (owL r p n).Nodup := List.Pairwise.filter _ List.nodup_range
theorem owL_succ (r : Int → Int) (p : Int) (n : Nat) : owL r p (n + 1) = owL r p n ++ (if r (n : Int) = p then [n] else []) := by
  unfold owL
  rw [List.range_succ, List.filter_append]
  by_cases h : r (n : Int) = p <;> simp [List.filter_cons, h]
theorem owL_len (r : Int → Int) (p : Int) : ∀ n : Nat, ((owL r p n).length : Int) = cntN r p n
  | 0 => rfl
  | n + 1 => by
    have := owL_len r p n
    rw [owL_succ, List.length_append]
    simp only [cntN]
    by_cases h : r (n : Int) = p
    · simp [h]; omega
    · simp [h]; omega
/-- the k-th road -/
def own (r : Int → Int) (p : Int) (k : Nat) : Nat := (owL r p 30).getD k 0
theorem owL_pre (r : Int → Int) (p : Int) (n : Nat) : ∀ m : Nat, ∃ M, owL r p (n + m) = owL r p n ++ M
  | 0 => ⟨[], by simp⟩
  | m + 1 => by
    obtain ⟨M, h⟩ := owL_pre r p n m
    exact ⟨M ++ (if r ((n + m : Nat) : Int) = p then [n + m] else []), by rw [← Nat.add_assoc, owL_succ, h, List.append_assoc]⟩
theorem own_at {r : Int → Int} {p : Int} {n : Nat} (hn : n < 30) (h : r (n : Int) = p) : own r p (owL r p n).length = n := by
  obtain ⟨M, hM⟩ := owL_pre r p (n + 1) (30 - (n + 1))
  rw [show n + 1 + (30 - (n + 1)) = 30 by omega, owL_succ r p n, if_pos h] at hM
  unfold own
  rw [hM]
  simp
theorem own_mem {r : Int → Int} {p : Int} {k : Nat} (hk : k < (owL r p 30).length) : own r p k < 30 ∧ r (own r p k : Int) = p := by
  have : own r p k ∈ owL r p 30 := by
    unfold own
    rw [← List.getElem_eq_getD (h := hk)]
    exact List.getElem_mem hk
  exact owL_mem.mp this
theorem own_inj {r : Int → Int} {p : Int} {j k : Nat} (hj : j < (owL r p 30).length) (hk : k < (owL r p 30).length) (h : own r p j = own r p k) : j = k := by
  unfold own at h
  rw [← List.getElem_eq_getD (h := hj), ← List.getElem_eq_getD (h := hk)] at h
  exact (List.getElem_inj (owL_nd r p 30)).mp h
theorem gaN_own (b r : Int → Int) (p : Int) (κ : St) (h8 : (owL r p 30).length ≤ 8) : ∀ n : Nat, n ≤ 30 → (gaN b r p κ n).1 0 = ((owL r p n).length : Int) ∧ ∀ k : Nat, k < (owL r p n).length → (gaN b r p κ n).2.1 0 (k : Int) = edF b p (cA (own r p k : Int)) (24 + 2 * (k : Int)) ∧ (gaN b r p κ n).2.1 1 (k : Int) = edF b p (cB (own r p k : Int)) (24 + 2 * (k : Int) + 1)
  | 0, _ => ⟨rfl, fun k hk => by simp [owL] at hk⟩
  | n + 1, hn => by
    obtain ⟨ih1, ih2⟩ := gaN_own b r p κ h8 n (by omega)
    have hle : (owL r p (n + 1)).length ≤ 8 := by
      obtain ⟨M, hM⟩ := owL_pre r p (n + 1) (30 - (n + 1))
      rw [show n + 1 + (30 - (n + 1)) = 30 by omega] at hM
      rw [hM, List.length_append] at h8
      omega
    show (ga1 b r p (n : Int) (gaN b r p κ n)).1 0 = _ ∧ ∀ k : Nat, k < (owL r p (n + 1)).length → (ga1 b r p (n : Int) (gaN b r p κ n)).2.1 0 (k : Int) = _ ∧ (ga1 b r p (n : Int) (gaN b r p κ n)).2.1 1 (k : Int) = _
    rw [owL_succ] at hle ⊢
    unfold ga1
    by_cases h : r (n : Int) = p
    · rw [if_pos h, List.length_append, List.length_singleton] at hle ⊢
      rw [if_pos ⟨by rw [ih1]; omega, h⟩]
      refine ⟨by show (gaN b r p κ n).1 0 + 1 = _; rw [ih1]; omega, fun k hk => ?_⟩
      have hown := own_at (show n < 30 by omega) h
      have e0 : (sS (sAt (sAt (gaN b r p κ n) 0 ((gaN b r p κ n).1 0) (edF b p (cA (n : Int)) (24 + 2 * (gaN b r p κ n).1 0))) 1 ((gaN b r p κ n).1 0) (edF b p (cB (n : Int)) (24 + 2 * (gaN b r p κ n).1 0 + 1))) 0 ((gaN b r p κ n).1 0 + 1)).2.1 0 (k : Int) = if (k : Int) = (gaN b r p κ n).1 0 then edF b p (cA (n : Int)) (24 + 2 * (gaN b r p κ n).1 0) else (gaN b r p κ n).2.1 0 (k : Int) := rfl
      have e1 : (sS (sAt (sAt (gaN b r p κ n) 0 ((gaN b r p κ n).1 0) (edF b p (cA (n : Int)) (24 + 2 * (gaN b r p κ n).1 0))) 1 ((gaN b r p κ n).1 0) (edF b p (cB (n : Int)) (24 + 2 * (gaN b r p κ n).1 0 + 1))) 0 ((gaN b r p κ n).1 0 + 1)).2.1 1 (k : Int) = if (k : Int) = (gaN b r p κ n).1 0 then edF b p (cB (n : Int)) (24 + 2 * (gaN b r p κ n).1 0 + 1) else (gaN b r p κ n).2.1 1 (k : Int) := rfl
      rw [e0, e1, ih1]
      by_cases hkn : k = (owL r p n).length
      · subst hkn
        rw [if_pos rfl, if_pos rfl, hown]
        exact ⟨rfl, rfl⟩
      · rw [if_neg (by omega), if_neg (by omega)]
        exact ih2 k (by omega)
    · rw [if_neg h, List.append_nil] at hle ⊢
      rw [if_neg (fun z => h z.2)]
      exact ⟨ih1, ih2⟩
/-! ===== the trails of a board ===== -/
def LA (b : Int → Int) (p : Int) (e : Nat) : Int := edF b p (cA (e : Int)) (24 + 2 * (e : Int))
def LB (b : Int → Int) (p : Int) (e : Nat) : Int := edF b p (cB (e : Int)) (24 + 2 * (e : Int) + 1)
theorem Wy_map {A B A' B' : Nat → Int} {φ : Int → Int} {f : Nat → Nat} : ∀ {T : List Nat} {a b : Int}, (∀ k ∈ T, A' (f k) = φ (A k) ∧ B' (f k) = φ (B k)) → Wy A B a T b → Wy A' B' (φ a) (T.map f) (φ b)
  | [], _, _, _, h => by cases h; rfl
  | e :: T, a, b, hm, ⟨x, hj, h⟩ => by
    have h1 := hm e List.mem_cons_self
    refine ⟨φ x, ?_, Wy_map (fun k hk => hm k (List.mem_cons_of_mem _ hk)) h⟩
    rcases hj with ⟨rfl, rfl⟩ | ⟨rfl, rfl⟩
    · exact .inl h1
    · exact .inr ⟨h1.2, h1.1⟩
theorem nodup_map {f : Nat → Nat} : ∀ {T : List Nat}, (∀ x ∈ T, ∀ y ∈ T, f x = f y → x = y) → T.Nodup → (T.map f).Nodup
  | [], _, _ => List.nodup_nil
  | x :: T, hi, hn => by
    obtain ⟨h1, h2⟩ := List.nodup_cons.mp hn
    refine List.nodup_cons.mpr ⟨fun hm => ?_, nodup_map (fun x hx y hy => hi x (List.mem_cons_of_mem _ hx) y (List.mem_cons_of_mem _ hy)) h2⟩
    obtain ⟨y, hy, he⟩ := List.mem_map.mp hm
    have := hi y (List.mem_cons_of_mem _ hy) x List.mem_cons_self he
    subst this
    exact h1 hy
def lab2 (f : Nat → Nat) (x : Int) : Int := if x < 24 then x else 24 + 2 * (f ((x - 24) / 2).toNat : Int) + (x - 24) % 2
theorem lab2_ed {b : Int → Int} {p c : Int} {f : Nat → Nat} (hc : c < 24) (k : Nat) : lab2 f (edF b p c (24 + 2 * (k : Int))) = edF b p c (24 + 2 * (f k : Int)) ∧ lab2 f (edF b p c (24 + 2 * (k : Int) + 1)) = edF b p c (24 + 2 * (f k : Int) + 1) := by
  unfold edF lab2
  have e1 : (((24 + 2 * (k : Int)) - 24) / 2).toNat = k := by omega
  have e2 : (((24 + 2 * (k : Int) + 1) - 24) / 2).toNat = k := by omega
  by_cases h : ownB (b c) = -1 ∨ ownB (b c) = p
  · rw [if_pos h, if_pos h, if_pos h, if_pos h, if_pos hc]; exact ⟨rfl, rfl⟩
  · simp only [if_neg h]
    rw [if_neg (by omega), if_neg (by omega), e1, e2]
    constructor <;> omega
def ixF (r : Int → Int) (p : Int) (e : Nat) : Nat := (owL r p 30).idxOf e
theorem own_ix {r : Int → Int} {p : Int} {e : Nat} (h : e < 30 ∧ r (e : Int) = p) : ixF r p e < (owL r p 30).length ∧ own r p (ixF r p e) = e := by
  have hm : e ∈ owL r p 30 := owL_mem.mpr h
  have hl : ixF r p e < (owL r p 30).length := List.idxOf_lt_length_of_mem hm
  refine ⟨hl, ?_⟩
  unfold own
  rw [← List.getElem_eq_getD (h := hl)]
  exact List.getElem_idxOf hl
theorem Lg_e {b r : Int → Int} {p : Int} {on ot : Int → Int} (h : ∀ k : Nat, k < (owL r p 30).length → on (k : Int) = edF b p (cA (own r p k : Int)) (24 + 2 * (k : Int)) ∧ ot (k : Int) = edF b p (cB (own r p k : Int)) (24 + 2 * (k : Int) + 1)) {n : Int} (hL : Lg (AK on) (AK ot) (fun k => k < (owL r p 30).length) n) : Lg (LA b p) (LB b p) (fun e => e < 30 ∧ r (e : Int) = p) n := by
  obtain ⟨⟨T, a, c, t1, t2, t3, t4⟩, hu⟩ := hL
  constructor
  · refine ⟨T.map (own r p), lab2 (own r p) a, lab2 (own r p) c, Wy_map (fun k hk => ?_) t1, nodup_map (fun x hx y hy he => own_inj (t3 x hx) (t3 y hy) he) t2, fun e he => ?_, by rw [List.length_map]; exact t4⟩
    · have hk2 := t3 k hk
      have hm := own_mem hk2
      have h1 := h k hk2
      have c1 := cA_r (e := (own r p k : Int)) (by omega)
      have c2 := cB_r (e := (own r p k : Int)) (by omega)
      unfold AK
      rw [h1.1, h1.2, (lab2_ed c1.2 k).1, (lab2_ed c2.2 k).2]
      exact ⟨rfl, rfl⟩
    · obtain ⟨k, hk, rfl⟩ := List.mem_map.mp he
      exact own_mem (t3 k hk)
  · intro U a' c' u1 u2 u3
    have := hu (U.map (ixF r p)) (lab2 (ixF r p) a') (lab2 (ixF r p) c') (Wy_map (fun e he => ?_) u1) (nodup_map (fun x hx y hy he => ?_) u2) (fun k hk => ?_)
    · rw [List.length_map] at this; exact this
    · have he2 := u3 e he
      obtain ⟨i1, i2⟩ := own_ix he2
      have h1 := h _ i1
      rw [i2] at h1
      have c1 := cA_r (e := (e : Int)) (by omega)
      have c2 := cB_r (e := (e : Int)) (by omega)
      unfold AK LA LB
      rw [h1.1, h1.2, (lab2_ed c1.2 e).1, (lab2_ed c2.2 e).2]
      exact ⟨rfl, rfl⟩
    · have hx2 := own_ix (u3 x hx)
      have hy2 := own_ix (u3 y hy)
      rw [← hx2.2, ← hy2.2, he]
    · obtain ⟨e, he, rfl⟩ := List.mem_map.mp hk
      exact (own_ix (u3 e he)).1
theorem cAB {e : Nat} (h : e < 30) : cA (e : Int) ≠ cB (e : Int) := by
  unfold cA cB
  (repeat' split) <;> omega
theorem lab_ne {b r : Int → Int} {p : Int} {k : Nat} (hk : k < (owL r p 30).length) : edF b p (cA (own r p k : Int)) (24 + 2 * (k : Int)) ≠ edF b p (cB (own r p k : Int)) (24 + 2 * (k : Int) + 1) := by
  have hm := own_mem hk
  have c0 := cAB hm.1
  have c1 := cA_r (e := (own r p k : Int)) (by omega)
  have c2 := cB_r (e := (own r p k : Int)) (by omega)
  unfold edF
  split <;> split <;> omega
def st0 : St := (fun _ => 0, fun _ _ => 0, fun _ _ _ => 0)
/-- the longest trail of a player -/
def trF (b r : Int → Int) (p : Int) : Int := bsF (gaN b r p st0 30)
theorem tr_Lg {b r : Int → Int} {p : Int} (κ : St) (h8 : (owL r p 30).length ≤ 8) : Lg (LA b p) (LB b p) (fun e => e < 30 ∧ r (e : Int) = p) (bsF (gaN b r p κ 30)) := by
  obtain ⟨h1, h2⟩ := gaN_own b r p κ h8 30 (Nat.le_refl _)
  exact Lg_e h2 (bsF_Lg h1 h8)
theorem tr_bs {b r : Int → Int} {p : Int} (κ : St) (h8 : (owL r p 30).length ≤ 8) : bsF (gaN b r p κ 30) = trF b r p := (tr_Lg κ h8).uniq (tr_Lg st0 h8)
theorem tr_sets {b r : Int → Int} {p : Int} {κ : St} (h8 : (owL r p 30).length ≤ 8) (h0 : ∀ i, 0 ≤ κ.2.1 0 i ∧ κ.2.1 0 i ≤ 63) (h1 : ∀ i, 0 ≤ κ.2.1 1 i ∧ κ.2.1 1 i ≤ 63) : bySF ((gaN b r p κ 30).2.1 0) ((gaN b r p κ 30).2.1 1) (owL r p 30).length = trF b r p := by
  obtain ⟨g1, g2⟩ := gaN_own b r p κ h8 30 (Nat.le_refl _)
  refine (Lg_e g2 (bySF_Lg (gaN_on b r p κ h0 30 (Nat.le_refl _)) (gaN_ot b r p κ h1 30 (Nat.le_refl _)) (fun i hi => ?_) h8)).uniq (tr_Lg st0 h8)
  rw [(g2 i hi).1, (g2 i hi).2]
  exact lab_ne hi
theorem tr_mono {b r r' : Int → Int} {p : Int} (h8 : (owL r p 30).length ≤ 8) (h8' : (owL r' p 30).length ≤ 8) (h : ∀ e : Nat, e < 30 → r (e : Int) = p → r' (e : Int) = p) : trF b r p ≤ trF b r' p := (tr_Lg st0 h8).mono (tr_Lg st0 h8') (fun e he => ⟨he.1, h e he.1 he.2⟩)
theorem tr_r {b r : Int → Int} {p : Int} (h8 : (owL r p 30).length ≤ 8) : 0 ≤ trF b r p ∧ trF b r p ≤ 8 := by
  obtain ⟨g1, g2⟩ := gaN_own b r p st0 h8 30 (Nat.le_refl _)
  obtain ⟨⟨T, a, c, t1, t2, t3, t4⟩, hu⟩ := bsF_Lg g1 h8
  have := nodup_len t2 t3
  show 0 ≤ bsF (gaN b r p st0 30) ∧ bsF (gaN b r p st0 30) ≤ 8
  omega
/-! ===== the reference's sets ===== -/
def meC (e f : Int) : Int := if isE f (cA e) = true then cA e else if isE f (cB e) = true then cB e else -1
def meF (b : Int → Int) (p e f : Int) : Bool := decide (meC e f ≠ -1) && (decide (ownB (b (meC e f)) = -1) || decide (ownB (b (meC e f)) = p))
def sp1 (b w : Int → Int) (p s m k R : Int) : Int := iO R (if iA (iSr R (k / m)) 1 = 1 ∧ iA (iSr s (k % m)) 1 = 1 ∧ meF b p (w (k / m)) (w (k % m)) = true then iSl 1 (k % m) else 0)
def spN (b w : Int → Int) (p s m R : Int) : Nat → Int
  | 0 => R
  | n + 1 => sp1 b w p s m (n : Int) (spN b w p s m R n)
def spP (b w : Int → Int) (p s : Int) (m : Nat) (R : Int) : Int := spN b w p s (m : Int) R (m * m)
def spL (P : Int → Int) : Nat → Int → Int
  | 0, R => R
  | f + 1, R => if P R = R then R else spL P f (P R)
/-- the roads that can be come to -/
def sprF (b w : Int → Int) (p s : Int) (m : Nat) : Int := spL (spP b w p s m) 256 (iA s (-s))
theorem iO_fin : ∀ s : Fin 256, iO (s.val : Int) 0 = (s.val : Int) := by decide +kernel
theorem low_fin : ∀ s : Fin 256, s.val ≠ 0 → ∃ i : Fin 8, iA (s.val : Int) (-(s.val : Int)) = ((2 ^ i.val : Nat) : Int) ∧ s.val.testBit i.val = true := by decide +kernel
def me1 (b w : Int → Int) (p : Int) (s m k j : Nat) : Prop := j.testBit (k / m) = true ∧ s.testBit (k % m) = true ∧ meF b p (w ((k / m : Nat) : Int)) (w ((k % m : Nat) : Int)) = true
theorem sp1_is {b w : Int → Int} {p : Int} {s m : Nat} (hs : s < 256) (hm : m ≤ 8) {k : Nat} (hk : k < m * m) {j : Nat} (hj : j < 256) : (me1 b w p s m k j ∧ sp1 b w p (s : Int) (m : Int) (k : Int) (j : Int) = ((j ||| 2 ^ (k % m) : Nat) : Int) ∧ j ||| 2 ^ (k % m) < 256) ∨ (¬ me1 b w p s m k j ∧ sp1 b w p (s : Int) (m : Int) (k : Int) (j : Int) = (j : Int)) := by
  have hm0 : 0 < m := by
    rcases Nat.eq_zero_or_pos m with h | h
    · subst h; simp at hk
    · exact h
  have ha : k / m < m := Nat.div_lt_of_lt_mul hk
  have hb : k % m < m := Nat.mod_lt _ hm0
  unfold sp1 me1
  have q : ∀ x : Bool, ((if x = true then (1 : Int) else 0) = 1) ↔ x = true := by intro x; cases x <;> simp
  have hiff : (iA (iSr (j : Int) ((k : Int) / (m : Int))) 1 = 1 ∧ iA (iSr (s : Int) ((k : Int) % (m : Int))) 1 = 1 ∧ meF b p (w ((k : Int) / (m : Int))) (w ((k : Int) % (m : Int))) = true) ↔ (j.testBit (k / m) = true ∧ s.testBit (k % m) = true ∧ meF b p (w ((k / m : Nat) : Int)) (w ((k % m : Nat) : Int)) = true) := by
    rw [← Int.natCast_ediv, ← Int.natCast_emod, mb_bit hj (show k / m < 8 by omega), mb_bit hs (show k % m < 8 by omega), q, q]
  by_cases h : j.testBit (k / m) = true ∧ s.testBit (k % m) = true ∧ meF b p (w ((k / m : Nat) : Int)) (w ((k % m : Nat) : Int)) = true
  · rw [if_pos (hiff.mpr h), ← Int.natCast_emod]
    exact .inl ⟨h, mb_or hj (by omega)⟩
  · rw [if_neg (fun z => h (hiff.mp z))]
    exact .inr ⟨h, iO_fin ⟨j, hj⟩⟩
theorem el_xor {m s j : Nat} (h : ∀ r, j.testBit r = true → r < m ∧ s.testBit r = true) : (el m s).Perm (el m j ++ el m (s ^^^ j)) := by
  refine nd_perm (el_nd m s) (List.nodup_append.mpr ⟨el_nd _ _, el_nd _ _, fun a ha b hb hab => ?_⟩) fun r => ?_
  · subst hab
    have p1 := (el_mem.mp ha).2
    have p2 := (el_mem.mp hb).2
    rw [Nat.testBit_xor, p1, (h a p1).2] at p2
    cases p2
  · rw [List.mem_append, el_mem, el_mem, el_mem, Nat.testBit_xor]
    have := h r
    cases hz : s.testBit r <;> cases hy : j.testBit r <;> simp_all
theorem xor_mem {m s j f : Nat} (h : ∀ r, j.testBit r = true → r < m ∧ s.testBit r = true) (hf : f ∈ el m (s ^^^ j)) : j.testBit f = false ∧ s.testBit f = true := by
  have h1 := (el_mem.mp hf).2
  have h2 := h f
  rw [Nat.testBit_xor] at h1
  cases hz : s.testBit f <;> cases hy : j.testBit f <;> simp_all
theorem spN_is {b w : Int → Int} {p : Int} {s m : Nat} (hs : s < 256) (hm : m ≤ 8) {j : Nat} (hj : j < 256) : ∀ n : Nat, n ≤ m * m → ∃ j' : Nat, spN b w p (s : Int) (m : Int) (j : Int) n = (j' : Int) ∧ j' < 256 ∧ (∀ r, j.testBit r = true → j'.testBit r = true) ∧ ((∀ r, j.testBit r = true → r < m ∧ s.testBit r = true) → ∀ r, j'.testBit r = true → r < m ∧ s.testBit r = true) ∧ (j' = j → ∀ k, k < n → me1 b w p s m k j → j.testBit (k % m) = true) ∧ (∀ X Y : List Nat, (∀ e ∈ X, ∀ f ∈ Y, e < m → f < m → meF b p (w (e : Int)) (w (f : Int)) = true → False) → (∀ e ∈ Y, ∀ f ∈ X, e < m → f < m → meF b p (w (e : Int)) (w (f : Int)) = true → False) → (∀ r, r < m → s.testBit r = true → r ∈ X ∨ r ∈ Y) → ((∀ r, j.testBit r = true → r ∈ X) ∨ ∀ r, j.testBit r = true → r ∈ Y) → (∀ r, j'.testBit r = true → r ∈ X) ∨ ∀ r, j'.testBit r = true → r ∈ Y)
  | 0, _ => ⟨j, rfl, hj, fun r h => h, fun h => h, fun _ k hk => by omega, fun X Y _ _ _ h => h⟩
  | n + 1, hn => by
    have hm0 : 0 < m := by
      rcases Nat.eq_zero_or_pos m with h | h
      · subst h; simp at hn
      · exact h
    have hnm : n < m * m := by omega
    have ha : n / m < m := Nat.div_lt_of_lt_mul hnm
    have hb : n % m < m := Nat.mod_lt _ hm0
    obtain ⟨i, h1, h2, h3, h4, h5, h6⟩ := spN_is (b := b) (w := w) (p := p) hs hm hj n (by omega)
    simp only [spN]
    rw [h1]
    rcases sp1_is (b := b) (w := w) (p := p) hs hm hnm h2 with ⟨g1, g2, g3⟩ | ⟨g1, g2⟩
    · rw [g2]
      refine ⟨i ||| 2 ^ (n % m), rfl, g3, fun r hr => ?_, fun hsub r hr => ?_, fun he k hk hme => ?_, fun X Y hx hy hxy hpart => ?_⟩
      · rw [mb_tb, h3 r hr]; rfl
      · rw [mb_tb] at hr
        rcases Bool.or_eq_true _ _ ▸ hr with h | h
        · exact h4 hsub r h
        · have : n % m = r := of_decide_eq_true h
          subst this
          exact ⟨hb, g1.2.1⟩
      · have hij : i = j := by
          refine Nat.eq_of_testBit_eq fun r => ?_
          cases hr : j.testBit r
          · cases hz : i.testBit r
            · rfl
            · have : (i ||| 2 ^ (n % m)).testBit r = true := by rw [mb_tb, hz]; rfl
              rw [he, hr] at this
              cases this
          · exact h3 r hr
        subst hij
        by_cases e : k = n
        · subst e
          rw [← he, mb_tb]
          simp
        · exact h5 rfl k (by omega) hme
      · have ih := h6 X Y hx hy hxy hpart
        have hn2 := hxy (n % m) hb g1.2.1
        rcases ih with ih | ih
        · have hX : n % m ∈ X := hn2.resolve_right (fun h => hx _ (ih _ g1.1) _ h ha hb g1.2.2)
          refine .inl (fun r hr => ?_)
          rw [mb_tb] at hr
          rcases Bool.or_eq_true _ _ ▸ hr with h | h
          · exact ih r h
          · have : n % m = r := of_decide_eq_true h
            subst this; exact hX
        · have hY : n % m ∈ Y := hn2.resolve_left (fun h => hy _ (ih _ g1.1) _ h ha hb g1.2.2)
          refine .inr (fun r hr => ?_)
          rw [mb_tb] at hr
          rcases Bool.or_eq_true _ _ ▸ hr with h | h
          · exact ih r h
          · have : n % m = r := of_decide_eq_true h
            subst this; exact hY
    · rw [g2]
      refine ⟨i, rfl, h2, h3, h4, fun he k hk hme => ?_, h6⟩
      by_cases e : k = n
      · subst e
        subst he
        exact absurd hme g1
      · exact h5 he k (by omega) hme
theorem mask_le {j j' : Nat} (h : ∀ r, j.testBit r = true → j'.testBit r = true) : j ≤ j' := by
  have : j ||| j' = j' := by
    refine Nat.eq_of_testBit_eq fun r => ?_
    rw [Nat.testBit_or]
    cases hr : j.testBit r
    · simp
    · rw [h r hr]; rfl
  rw [← this]
  exact Nat.left_le_or
theorem spP_is {b w : Int → Int} {p : Int} {s m : Nat} (hs : s < 256) (hm : m ≤ 8) {j : Nat} (hj : j < 256) : ∃ j' : Nat, spP b w p (s : Int) m (j : Int) = (j' : Int) ∧ j' < 256 ∧ j ≤ j' := by
  obtain ⟨j', h1, h2, h3, _⟩ := spN_is (b := b) (w := w) (p := p) hs hm hj (m * m) (Nat.le_refl _)
  exact ⟨j', h1, h2, mask_le h3⟩
theorem spL_is {b w : Int → Int} {p : Int} {s m : Nat} (hs : s < 256) (hm : m ≤ 8) : ∀ (f : Nat) {j : Nat}, j < 256 → 256 - j ≤ f → j ≠ 0 → (∀ r, j.testBit r = true → r < m ∧ s.testBit r = true) → ∃ j' : Nat, spL (spP b w p (s : Int) m) f (j : Int) = (j' : Int) ∧ j' ≠ 0 ∧ (∀ r, j'.testBit r = true → r < m ∧ s.testBit r = true) ∧ (∀ k, k < m * m → me1 b w p s m k j' → j'.testBit (k % m) = true) ∧ (∀ X Y : List Nat, (∀ e ∈ X, ∀ f ∈ Y, e < m → f < m → meF b p (w (e : Int)) (w (f : Int)) = true → False) → (∀ e ∈ Y, ∀ f ∈ X, e < m → f < m → meF b p (w (e : Int)) (w (f : Int)) = true → False) → (∀ r, r < m → s.testBit r = true → r ∈ X ∨ r ∈ Y) → ((∀ r, j.testBit r = true → r ∈ X) ∨ ∀ r, j.testBit r = true → r ∈ Y) → (∀ r, j'.testBit r = true → r ∈ X) ∨ ∀ r, j'.testBit r = true → r ∈ Y)
  | 0, j, hj, hf, _, _ => by omega
  | f + 1, j, hj, hf, h0, hsub => by
    obtain ⟨i, h1, h2, h3, h4, h5, h6⟩ := spN_is (b := b) (w := w) (p := p) hs hm hj (m * m) (Nat.le_refl _)
    have hP : spP b w p (s : Int) m (j : Int) = (i : Int) := h1
    have hle := mask_le h3
    simp only [spL]
    rw [hP]
    by_cases e : i = j
    · rw [if_pos (by omega)]
      exact ⟨j, rfl, h0, hsub, h5 e, fun X Y _ _ _ h => h⟩
    · rw [if_neg (by omega)]
      obtain ⟨j', g1, g2, g3, g4, g5⟩ := spL_is hs hm f h2 (by omega) (by omega) (h4 hsub)
      exact ⟨j', g1, g2, g3, g4, fun X Y hx hy hxy hp => g5 X Y hx hy hxy (h6 X Y hx hy hxy hp)⟩
theorem sprF_Cn {b w : Int → Int} {p : Int} {A B : Nat → Int} {s m : Nat} (hm : m ≤ 8) (hs : s < 2 ^ m) (hs0 : s ≠ 0) (hme : ∀ e f : Nat, e < m → f < m → e ≠ f → (meF b p (w (e : Int)) (w (f : Int)) = true ↔ ∃ v, (A e = v ∨ B e = v) ∧ (A f = v ∨ B f = v))) : sprF b w p (s : Int) m = (s : Int) ↔ Cn A B (el m s) := by
  have h256 : s < 256 := Nat.lt_of_lt_of_le hs (Nat.pow_le_pow_right (n := 2) (by omega) hm)
  obtain ⟨i, hi1, hi2⟩ := low_fin ⟨s, h256⟩ hs0
  simp only at hi1 hi2
  have him : i.val < m := bits_lt hs hi2
  have hlt : 2 ^ i.val < 256 := (mb_sl i.isLt).2
  have hone : ∀ r, (2 ^ i.val).testBit r = true → r = i.val := fun r hr => by
    rw [Nat.testBit_two_pow] at hr
    exact (of_decide_eq_true hr).symm
  unfold sprF
  rw [hi1]
  obtain ⟨j, h1, h2, h3, h4, h5⟩ := spL_is (b := b) (w := w) (p := p) h256 hm 256 hlt (Nat.sub_le _ _) (Nat.ne_of_gt (Nat.two_pow_pos _)) (fun r hr => by rw [hone r hr]; exact ⟨him, hi2⟩)
  rw [h1]
  constructor
  · intro hj
    have hj : j = s := by omega
    subst hj
    intro X Y hp hX hY
    refine Classical.byContradiction fun hcon => ?_
    have hmm : ∀ r, r ∈ el m j ↔ r ∈ X ∨ r ∈ Y := fun r => (hp.mem_iff).trans List.mem_append
    have hdis : ∀ e ∈ X, e ∈ Y → False := fun e he hf => hcon ⟨e, he, e, hf, A e, .inl rfl, .inl rfl⟩
    have hx : ∀ e ∈ X, ∀ f ∈ Y, e < m → f < m → meF b p (w (e : Int)) (w (f : Int)) = true → False := fun e he f hf h1 h2 h => by
      have hne : e ≠ f := fun z => hdis e he (by rw [z]; exact hf)
      obtain ⟨v, q1, q2⟩ := (hme e f h1 h2 hne).mp h
      exact hcon ⟨e, he, f, hf, v, q1, q2⟩
    have hy : ∀ e ∈ Y, ∀ f ∈ X, e < m → f < m → meF b p (w (e : Int)) (w (f : Int)) = true → False := fun e he f hf h1 h2 h => by
      have hne : e ≠ f := fun z => hdis f hf (by rw [← z]; exact he)
      obtain ⟨v, q1, q2⟩ := (hme e f h1 h2 hne).mp h
      exact hcon ⟨f, hf, e, he, v, q2, q1⟩
    obtain ⟨x, hx2⟩ := List.exists_mem_of_ne_nil X hX
    obtain ⟨y, hy2⟩ := List.exists_mem_of_ne_nil Y hY
    have hi := (hmm i.val).mp (el_mem.mpr ⟨him, hi2⟩)
    rcases h5 X Y hx hy (fun r hr hb => (hmm r).mp (el_mem.mpr ⟨hr, hb⟩)) (hi.imp (fun h r hr => by rw [hone r hr]; exact h) (fun h r hr => by rw [hone r hr]; exact h)) with h | h
    · exact hdis y (h y (el_mem.mp ((hmm y).mpr (.inr hy2))).2) hy2
    · exact hdis x hx2 (h x (el_mem.mp ((hmm x).mpr (.inl hx2))).2)
  · intro hcn
    have : j = s := by
      refine Nat.eq_of_testBit_eq fun k => ?_
      cases hk : s.testBit k
      · cases hj : j.testBit k
        · rfl
        · rw [(h3 k hj).2] at hk; cases hk
      · refine Classical.byContradiction fun hj => ?_
        have hj : j.testBit k = false := by simpa using hj
        have hkc := bits_lt hs hk
        obtain ⟨i2, hi2⟩ := Nat.exists_testBit_of_ne_zero h2
        obtain ⟨e, he, f, hf, v, q1, q2⟩ := hcn (el m j) (el m (s ^^^ j)) (el_xor h3) (List.ne_nil_of_mem (el_mem.mpr ⟨(h3 i2 hi2).1, hi2⟩)) (List.ne_nil_of_mem (el_mem.mpr ⟨hkc, by rw [Nat.testBit_xor, hk, hj]; rfl⟩))
        have he2 := el_mem.mp he
        have hf2 := el_mem.mp hf
        have hfj := xor_mem h3 hf
        have hne : e ≠ f := fun z => by
          subst z
          rw [he2.2] at hfj
          cases hfj.1
        have hmf := (hme e f he2.1 hf2.1 hne).mpr ⟨v, q1, q2⟩
        have hdm : (e * m + f) / m = e ∧ (e * m + f) % m = f := by
          have hm0 : 0 < m := by omega
          constructor
          · rw [Nat.add_comm, Nat.add_mul_div_right _ _ hm0, Nat.div_eq_of_lt hf2.1]; omega
          · rw [Nat.add_comm, Nat.add_mul_mod_self_right, Nat.mod_eq_of_lt hf2.1]
        have hlt2 : e * m + f < m * m := by
          have : e * m + m ≤ m * m := by
            rw [← Nat.succ_mul]
            exact Nat.mul_le_mul_right m he2.1
          omega
        have := h4 (e * m + f) hlt2 (by
          unfold me1
          rw [hdm.1, hdm.2]
          exact ⟨he2.2, hfj.2, hmf⟩)
        rw [hdm.2, hfj.1] at this
        cases this
    rw [this]
/-! ===== the reference's ends ===== -/
def lsum (f : Nat → Nat) : List Nat → Nat
  | [] => 0
  | k :: S => f k + lsum f S
def sm (f : Nat → Nat) : Nat → Nat
  | 0 => 0
  | n + 1 => sm f n + f n
theorem lsum_app (f : Nat → Nat) : ∀ S T : List Nat, lsum f (S ++ T) = lsum f S + lsum f T
  | [], T => by simp [lsum]
  | k :: S, T => by
    have := lsum_app f S T
    simp only [List.cons_append, lsum, this]
    omega
theorem lsum_congr {f g : Nat → Nat} : ∀ {S : List Nat}, (∀ k ∈ S, f k = g k) → lsum f S = lsum g S
  | [], _ => rfl
  | k :: S, h => by
    simp only [lsum]
    rw [h k List.mem_cons_self, lsum_congr (fun x hx => h x (List.mem_cons_of_mem _ hx))]
theorem lsum_0 {f : Nat → Nat} : ∀ {S : List Nat}, (∀ k ∈ S, f k = 0) → lsum f S = 0
  | [], _ => rfl
  | k :: S, h => by
    simp only [lsum]
    rw [h k List.mem_cons_self, lsum_0 (fun x hx => h x (List.mem_cons_of_mem _ hx))]
theorem lsum_one {f : Nat → Nat} {k0 : Nat} (h0 : f k0 ≤ 1) : ∀ {S : List Nat}, S.Nodup → (∀ k ∈ S, k ≠ k0 → f k = 0) → lsum f S ≤ 1
  | [], _, _ => by simp [lsum]
  | k :: S, hn, h => by
    obtain ⟨h1, h2⟩ := List.nodup_cons.mp hn
    simp only [lsum]
    by_cases e : k = k0
    · subst e
      rw [lsum_0 (f := f) (fun x hx => h x (List.mem_cons_of_mem _ hx) (fun z => by subst z; exact h1 hx))]
      omega
    · rw [h k List.mem_cons_self e]
      have := lsum_one h0 h2 (fun x hx => h x (List.mem_cons_of_mem _ hx))
      omega
theorem sm_congr {f g : Nat → Nat} : ∀ {n : Nat}, (∀ v, v < n → f v = g v) → sm f n = sm g n
  | 0, _ => rfl
  | n + 1, h => by
    simp only [sm]
    rw [sm_congr (fun v hv => h v (by omega)), h n (by omega)]
theorem sm_add (f g : Nat → Nat) : ∀ n : Nat, sm (fun v => f v + g v) n = sm f n + sm g n
  | 0 => rfl
  | n + 1 => by
    simp only [sm, sm_add f g n]
    omega
theorem sm_split (f : Nat → Nat) (a : Nat) : ∀ b : Nat, sm f (a + b) = sm f a + sm (fun v => f (a + v)) b
  | 0 => rfl
  | b + 1 => by
    show sm f (a + b) + f (a + b) = sm f a + (sm (fun v => f (a + v)) b + f (a + b))
    rw [sm_split f a b]
    omega
theorem sm_swap (f : Nat → Nat → Nat) (n : Nat) : ∀ S : List Nat, sm (fun v => lsum (f v) S) n = lsum (fun k => sm (fun v => f v k) n) S
  | [] => by
    have : ∀ n, sm (fun _ => 0) n = 0 := fun n => by induction n with
      | zero => rfl
      | succ n ih => simp only [sm, ih]
    exact this n
  | k :: S => by
    simp only [lsum]
    rw [sm_add, sm_swap f n S]
theorem sm_pc (f : Nat → Bool) : ∀ n : Nat, pcN f n = sm (fun v => (f v).toNat) n
  | 0 => rfl
  | n + 1 => by simp only [pcN, sm, sm_pc f n]
def dg1 (A B : Nat → Int) (v : Int) (k : Nat) : Nat := (decide (A k = v)).toNat + (decide (B k = v)).toNat
theorem pr_dg (A B : Nat → Int) (v : Int) : ∀ S : List Nat, (pr A B v S).toNat = lsum (dg1 A B v) S % 2
  | [] => rfl
  | k :: S => by
    have := pr_dg A B v S
    simp only [pr, lsum, dg1]
    cases decide (A k = v) <;> cases decide (B k = v) <;> cases h : pr A B v S <;> rw [h] at this <;> simp at this ⊢ <;> omega
/-- an end that is another player's -/
def bar (b : Int → Int) (p c : Int) : Bool := decide (ownB (b c) ≠ -1) && decide (ownB (b c) ≠ p)
def enR (w : Int → Int) (s c : Int) : Nat → Int
  | 0 => 0
  | n + 1 => enR w s c n + if iA (iSr s (n : Int)) 1 = 1 ∧ isE (w (n : Int)) c = true then 1 else 0
def enN (b w : Int → Int) (p s : Int) (m : Nat) : Nat → Int
  | 0 => 0
  | n + 1 => enN b w p s m n + if bar b p (n : Int) = true then enR w s (n : Int) m else enR w s (n : Int) m % 2
theorem enR_is {w : Int → Int} {s : Nat} (hs : s < 256) (c : Int) : ∀ n : Nat, n ≤ 8 → enR w (s : Int) c n = (lsum (fun k => (isE (w (k : Int)) c).toNat) (el n s) : Nat)
  | 0, _ => rfl
  | n + 1, hn => by
    have ih := enR_is (w := w) hs c n (by omega)
    simp only [enR]
    rw [ih, el_succ, lsum_app, mb_bit hs (by omega)]
    cases h1 : s.testBit n
    · simp [lsum]
    · cases h2 : isE (w (n : Int)) c <;> simp [lsum, h2]
theorem one_at (x : Int) (n : Nat) : sm (fun v => (decide (x = (v : Int))).toNat) n = if 0 ≤ x ∧ x < n then 1 else 0 := by
  rw [← pcN_one x n, sm_pc]
theorem en_is {b w : Int → Int} {p : Int} {on ot : Int → Int} {m s : Nat} (hm : m ≤ 8) (hs : s < 2 ^ m) (hw : ∀ k : Nat, k < m → 0 ≤ w (k : Int) ∧ w (k : Int) < 30) (hl : ∀ k : Nat, k < m → on (k : Int) = edF b p (cA (w (k : Int))) (24 + 2 * (k : Int)) ∧ ot (k : Int) = edF b p (cB (w (k : Int))) (24 + 2 * (k : Int) + 1)) : enN b w p (s : Int) m 24 = ((pcN (fun v => pr (AK on) (AK ot) (v : Int) (el m s)) 64 : Nat) : Int) := by
  have h256 : s < 256 := Nat.lt_of_lt_of_le hs (Nat.pow_le_pow_right (n := 2) (by omega) hm)
  have hbar : ∀ c, bar b p c = true ↔ ¬ (ownB (b c) = -1 ∨ ownB (b c) = p) := by
    intro c
    simp [bar]
  have hc : ∀ k : Nat, k < m → (0 ≤ cA (w (k : Int)) ∧ cA (w (k : Int)) < 24) ∧ (0 ≤ cB (w (k : Int)) ∧ cB (w (k : Int)) < 24) ∧ cA (w (k : Int)) ≠ cB (w (k : Int)) := by
    intro k hk
    have h1 := hw k hk
    refine ⟨cA_r h1, cB_r h1, ?_⟩
    obtain ⟨n, hn⟩ := Int.eq_ofNat_of_zero_le h1.1
    rw [hn] at h1 ⊢
    exact cAB (by omega)
  -- the labels below 24
  have hlow : ∀ v : Nat, v < 24 → lsum (dg1 (AK on) (AK ot) (v : Int)) (el m s) = if bar b p (v : Int) = true then 0 else lsum (fun k => (isE (w (k : Int)) (v : Int)).toNat) (el m s) := by
    intro v hv
    by_cases hb : bar b p (v : Int) = true
    · rw [if_pos hb]
      refine lsum_0 fun k hk => ?_
      have hk2 := (el_mem.mp hk).1
      have hck := hc k hk2
      have hb2 := (hbar _).mp hb
      unfold dg1 AK
      rw [(hl k hk2).1, (hl k hk2).2]
      have n1 : ¬ edF b p (cA (w (k : Int))) (24 + 2 * (k : Int)) = (v : Int) := by
        unfold edF
        split
        · next h => exact fun z => hb2 (by rw [← z]; exact h)
        · omega
      have n2 : ¬ edF b p (cB (w (k : Int))) (24 + 2 * (k : Int) + 1) = (v : Int) := by
        unfold edF
        split
        · next h => exact fun z => hb2 (by rw [← z]; exact h)
        · omega
      rw [decide_eq_false n1, decide_eq_false n2]
      rfl
    · rw [if_neg hb]
      refine lsum_congr fun k hk => ?_
      have hk2 := (el_mem.mp hk).1
      have hck := hc k hk2
      have hb2 : ownB (b (v : Int)) = -1 ∨ ownB (b (v : Int)) = p := Classical.not_not.mp fun z => hb ((hbar _).mpr z)
      unfold dg1 AK isE
      rw [(hl k hk2).1, (hl k hk2).2]
      have e1 : edF b p (cA (w (k : Int))) (24 + 2 * (k : Int)) = (v : Int) ↔ cA (w (k : Int)) = (v : Int) := by
        unfold edF
        split
        · rfl
        · next h => exact ⟨fun z => by omega, fun z => absurd (by rw [z]; exact hb2) h⟩
      have e2 : edF b p (cB (w (k : Int))) (24 + 2 * (k : Int) + 1) = (v : Int) ↔ cB (w (k : Int)) = (v : Int) := by
        unfold edF
        split
        · rfl
        · next h => exact ⟨fun z => by omega, fun z => absurd (by rw [z]; exact hb2) h⟩
      have d1 : decide (edF b p (cA (w (k : Int))) (24 + 2 * (k : Int)) = (v : Int)) = decide (cA (w (k : Int)) = (v : Int)) := decide_eq_decide.mpr e1
      have d2 : decide (edF b p (cB (w (k : Int))) (24 + 2 * (k : Int) + 1) = (v : Int)) = decide (cB (w (k : Int)) = (v : Int)) := decide_eq_decide.mpr e2
      rw [d1, d2]
      by_cases z1 : cA (w (k : Int)) = (v : Int)
      · have z2 : ¬ cB (w (k : Int)) = (v : Int) := fun z => hck.2.2 (z1.trans z.symm)
        simp [z1, z2]
      · simp [z1]
  -- the labels from 24 on
  have hhigh : ∀ j : Nat, j < 40 → lsum (dg1 (AK on) (AK ot) ((24 + j : Nat) : Int)) (el m s) % 2 = lsum (dg1 (AK on) (AK ot) ((24 + j : Nat) : Int)) (el m s) := by
    intro j hj
    have hx : lsum (dg1 (AK on) (AK ot) ((24 + j : Nat) : Int)) (el m s) ≤ 1 := by
      by_cases hjm : j / 2 < m
      · refine lsum_one (k0 := j / 2) ?_ (el_nd m s) fun k hk hne => ?_
        · have hck := hc (j / 2) hjm
          unfold dg1 AK
          rw [(hl _ hjm).1, (hl _ hjm).2]
          unfold edF
          split <;> split
          · have n1 : ¬ cA (w ((j / 2 : Nat) : Int)) = ((24 + j : Nat) : Int) := by omega
            rw [decide_eq_false n1]
            have := Bool.toNat_le (decide (cB (w ((j / 2 : Nat) : Int)) = ((24 + j : Nat) : Int)))
            simp; exact this
          · have n1 : ¬ cA (w ((j / 2 : Nat) : Int)) = ((24 + j : Nat) : Int) := by omega
            rw [decide_eq_false n1]
            have := Bool.toNat_le (decide (24 + 2 * ((j / 2 : Nat) : Int) + 1 = ((24 + j : Nat) : Int)))
            simp only [Bool.toNat_false, Nat.zero_add]; exact this
          · have n1 : ¬ cB (w ((j / 2 : Nat) : Int)) = ((24 + j : Nat) : Int) := by omega
            rw [decide_eq_false n1]
            have := Bool.toNat_le (decide (24 + 2 * ((j / 2 : Nat) : Int) = ((24 + j : Nat) : Int)))
            simp only [Bool.toNat_false, Nat.add_zero]; exact this
          · by_cases ev : 24 + 2 * ((j / 2 : Nat) : Int) = ((24 + j : Nat) : Int)
            · have n1 : ¬ 24 + 2 * ((j / 2 : Nat) : Int) + 1 = ((24 + j : Nat) : Int) := by omega
              rw [decide_eq_true ev, decide_eq_false n1]
              exact Nat.le_refl _
            · rw [decide_eq_false ev]
              have := Bool.toNat_le (decide (24 + 2 * ((j / 2 : Nat) : Int) + 1 = ((24 + j : Nat) : Int)))
              simp only [Bool.toNat_false, Nat.zero_add]; exact this
        · have hk2 := (el_mem.mp hk).1
          have hck := hc k hk2
          unfold dg1 AK
          rw [(hl k hk2).1, (hl k hk2).2]
          have n1 : ¬ edF b p (cA (w (k : Int))) (24 + 2 * (k : Int)) = ((24 + j : Nat) : Int) := by unfold edF; split <;> omega
          have n2 : ¬ edF b p (cB (w (k : Int))) (24 + 2 * (k : Int) + 1) = ((24 + j : Nat) : Int) := by unfold edF; split <;> omega
          rw [decide_eq_false n1, decide_eq_false n2]
          rfl
      · rw [lsum_0]
        · omega
        · intro k hk
          have hk2 := (el_mem.mp hk).1
          have hck := hc k hk2
          unfold dg1 AK
          rw [(hl k hk2).1, (hl k hk2).2]
          have n1 : ¬ edF b p (cA (w (k : Int))) (24 + 2 * (k : Int)) = ((24 + j : Nat) : Int) := by unfold edF; split <;> omega
          have n2 : ¬ edF b p (cB (w (k : Int))) (24 + 2 * (k : Int) + 1) = ((24 + j : Nat) : Int) := by unfold edF; split <;> omega
          rw [decide_eq_false n1, decide_eq_false n2]
          rfl
    omega
  have hR : pcN (fun v => pr (AK on) (AK ot) (v : Int) (el m s)) 64 = sm (fun v => (if bar b p (v : Int) = true then 0 else lsum (fun k => (isE (w (k : Int)) (v : Int)).toNat) (el m s)) % 2) 24 + sm (fun j => lsum (dg1 (AK on) (AK ot) ((24 + j : Nat) : Int)) (el m s)) 40 := by
    rw [sm_pc, sm_split _ 24 40]
    congr 1
    · refine sm_congr fun v hv => ?_
      rw [pr_dg, hlow v hv]
    · refine sm_congr fun j hj => ?_
      rw [pr_dg, hhigh j hj]
  have hE : ∀ n : Nat, n ≤ 24 → enN b w p (s : Int) m n = ((sm (fun v => (if bar b p (v : Int) = true then 0 else lsum (fun k => (isE (w (k : Int)) (v : Int)).toNat) (el m s)) % 2) n + sm (fun v => lsum (fun k => if bar b p (v : Int) = true then (isE (w (k : Int)) (v : Int)).toNat else 0) (el m s)) n : Nat) : Int) := by
    intro n
    induction n with
    | zero => intro _; rfl
    | succ n ih =>
      intro hn
      simp only [enN, sm]
      rw [ih (by omega), enR_is h256 _ m hm]
      by_cases hb : bar b p (n : Int) = true
      · simp only [if_pos hb]
        omega
      · simp only [if_neg hb]
        rw [lsum_0 (f := fun k => 0) (fun _ _ => rfl)]
        omega
  rw [hE 24 (Nat.le_refl _), hR]
  congr 2
  rw [sm_swap, sm_swap]
  refine lsum_congr fun k hk => ?_
  have hk2 := (el_mem.mp hk).1
  have hck := hc k hk2
  have hLs : sm (fun v => if bar b p (v : Int) = true then (isE (w (k : Int)) (v : Int)).toNat else 0) 24 = (bar b p (cA (w (k : Int)))).toNat + (bar b p (cB (w (k : Int)))).toNat := by
    rw [sm_congr (g := fun v => (decide ((if bar b p (cA (w (k : Int))) = true then cA (w (k : Int)) else -1) = (v : Int))).toNat + (decide ((if bar b p (cB (w (k : Int))) = true then cB (w (k : Int)) else -1) = (v : Int))).toNat) (fun v hv => ?_), sm_add, one_at, one_at]
    · cases bar b p (cA (w (k : Int))) <;> cases bar b p (cB (w (k : Int))) <;> (try simp) <;> (try (repeat' split)) <;> (try omega)
    · unfold isE
      by_cases z1 : cA (w (k : Int)) = (v : Int)
      · have z2 : ¬ cB (w (k : Int)) = (v : Int) := fun z => hck.2.2 (z1.trans z.symm)
        have z3 : ¬ (if bar b p (cB (w (k : Int))) = true then cB (w (k : Int)) else -1) = (v : Int) := by split <;> omega
        rw [decide_eq_false z3, z1]
        cases hb : bar b p (v : Int) <;> simp <;> omega
      · by_cases z2 : cB (w (k : Int)) = (v : Int)
        · have z3 : ¬ (if bar b p (cA (w (k : Int))) = true then cA (w (k : Int)) else -1) = (v : Int) := by split <;> omega
          rw [decide_eq_false z3, z2]
          cases hb : bar b p (v : Int) <;> simp <;> omega
        · have z3 : ¬ (if bar b p (cA (w (k : Int))) = true then cA (w (k : Int)) else -1) = (v : Int) := by split <;> omega
          have z4 : ¬ (if bar b p (cB (w (k : Int))) = true then cB (w (k : Int)) else -1) = (v : Int) := by split <;> omega
          rw [decide_eq_false z3, decide_eq_false z4, decide_eq_false z1, decide_eq_false z2]
          simp
  rw [hLs]
  unfold dg1 AK
  rw [(hl k hk2).1, (hl k hk2).2, sm_add]
  have hsh : ∀ x : Int, sm (fun v => (decide (x = ((24 + v : Nat) : Int))).toNat) 40 = if 24 ≤ x ∧ x < 64 then 1 else 0 := by
    intro x
    rw [sm_congr (g := fun v => (decide (x - 24 = (v : Int))).toNat) (fun v _ => by rw [decide_eq_decide.mpr (show x = ((24 + v : Nat) : Int) ↔ x - 24 = (v : Int) by omega)]), one_at]
    by_cases h : 24 ≤ x ∧ x < 64
    · rw [if_pos h, if_pos (by omega)]
    · rw [if_neg h, if_neg (by omega)]
  rw [hsh, hsh]
  have hb1 := hbar (cA (w (k : Int)))
  have hb2 := hbar (cB (w (k : Int)))
  unfold edF
  congr 1
  · by_cases h : ownB (b (cA (w (k : Int)))) = -1 ∨ ownB (b (cA (w (k : Int)))) = p
    · rw [if_pos h, if_neg (by omega)]
      cases hb : bar b p (cA (w (k : Int)))
      · rfl
      · exact absurd h (hb1.mp hb)
    · rw [if_neg h, if_pos (by omega), hb1.mpr h]
      rfl
  · by_cases h : ownB (b (cB (w (k : Int)))) = -1 ∨ ownB (b (cB (w (k : Int)))) = p
    · rw [if_pos h, if_neg (by omega)]
      cases hb : bar b p (cB (w (k : Int)))
      · rfl
      · exact absurd h (hb2.mp hb)
    · rw [if_neg h, if_pos (by omega), hb2.mpr h]
      rfl
/-! ===== two roads meet ===== -/
theorem two_c : ∀ e f : Fin 30, e.val ≠ f.val → ¬ (isE (f.val : Int) (cA (e.val : Int)) = true ∧ isE (f.val : Int) (cB (e.val : Int)) = true) := by decide +kernel
theorem me_is {b w : Int → Int} {p : Int} {on ot : Int → Int} {m : Nat} (hw : ∀ k : Nat, k < m → 0 ≤ w (k : Int) ∧ w (k : Int) < 30) (hinj : ∀ j k : Nat, j < m → k < m → w (j : Int) = w (k : Int) → j = k) (hl : ∀ k : Nat, k < m → on (k : Int) = edF b p (cA (w (k : Int))) (24 + 2 * (k : Int)) ∧ ot (k : Int) = edF b p (cB (w (k : Int))) (24 + 2 * (k : Int) + 1)) (e f : Nat) (he : e < m) (hf : f < m) (hne : e ≠ f) : meF b p (w (e : Int)) (w (f : Int)) = true ↔ ∃ v, (AK on e = v ∨ AK ot e = v) ∧ (AK on f = v ∨ AK ot f = v) := by
  have he1 := hw e he
  have hf1 := hw f hf
  have hle := hl e he
  have hlf := hl f hf
  have hwne : w (e : Int) ≠ w (f : Int) := fun z => hne (hinj e f he hf z)
  have c1 := cA_r he1
  have c2 := cB_r he1
  have c3 := cA_r hf1
  have c4 := cB_r hf1
  have htwo : ¬ (isE (w (f : Int)) (cA (w (e : Int))) = true ∧ isE (w (f : Int)) (cB (w (e : Int))) = true) := by
    obtain ⟨x, hx⟩ := Int.eq_ofNat_of_zero_le he1.1
    obtain ⟨y, hy⟩ := Int.eq_ofNat_of_zero_le hf1.1
    have := two_c ⟨x, by omega⟩ ⟨y, by omega⟩ (by simp only; omega)
    simp only at this
    rw [hx, hy]
    exact this
  have hE : ∀ c, isE (w (f : Int)) c = true ↔ (cA (w (f : Int)) = c ∨ cB (w (f : Int)) = c) := by
    intro c
    simp [isE]
  unfold AK
  rw [hle.1, hle.2, hlf.1, hlf.2]
  unfold meF meC
  rw [Bool.and_eq_true, Bool.or_eq_true, decide_eq_true_eq, decide_eq_true_eq, decide_eq_true_eq]
  have open1 : ∀ c d : Int, (ownB (b c) = -1 ∨ ownB (b c) = p) → edF b p c d = c := fun c d h => if_pos h
  constructor
  · intro h
    by_cases h1 : isE (w (f : Int)) (cA (w (e : Int))) = true
    · rw [if_pos h1] at h
      refine ⟨cA (w (e : Int)), .inl (open1 _ _ h.2), ?_⟩
      rcases (hE _).mp h1 with z | z
      · exact .inl (by rw [z]; exact open1 _ _ h.2)
      · exact .inr (by rw [z]; exact open1 _ _ h.2)
    · rw [if_neg h1] at h
      by_cases h2 : isE (w (f : Int)) (cB (w (e : Int))) = true
      · rw [if_pos h2] at h
        refine ⟨cB (w (e : Int)), .inr (open1 _ _ h.2), ?_⟩
        rcases (hE _).mp h2 with z | z
        · exact .inl (by rw [z]; exact open1 _ _ h.2)
        · exact .inr (by rw [z]; exact open1 _ _ h.2)
      · rw [if_neg h2] at h
        exact absurd rfl h.1
  · rintro ⟨v, h1, h2⟩
    have key : ∃ c, v = c ∧ (ownB (b c) = -1 ∨ ownB (b c) = p) ∧ (cA (w (e : Int)) = c ∨ cB (w (e : Int)) = c) ∧ (cA (w (f : Int)) = c ∨ cB (w (f : Int)) = c) := by
      by_cases hv : v < 24
      · refine ⟨v, rfl, ?_⟩
        unfold edF at h1 h2
        rcases h1 with h1 | h1 <;> rcases h2 with h2 | h2 <;> split at h1 <;> (try omega) <;> split at h2 <;> (try omega)
        · next q1 q2 => exact ⟨by rw [← h1]; exact q1, .inl h1, .inl h2⟩
        · next q1 q2 => exact ⟨by rw [← h1]; exact q1, .inl h1, .inr h2⟩
        · next q1 q2 => exact ⟨by rw [← h1]; exact q1, .inr h1, .inl h2⟩
        · next q1 q2 => exact ⟨by rw [← h1]; exact q1, .inr h1, .inr h2⟩
      · exfalso
        unfold edF at h1 h2
        rcases h1 with h1 | h1 <;> rcases h2 with h2 | h2 <;> split at h1 <;> (try omega) <;> split at h2 <;> omega
    obtain ⟨c, _, hopen, hec, hfc⟩ := key
    have hc0 : c ≠ -1 := by
      rcases hec with z | z <;> omega
    have hfe : isE (w (f : Int)) c = true := (hE c).mpr hfc
    rcases hec with z | z
    · rw [z, if_pos hfe]
      exact ⟨hc0, hopen⟩
    · have hn1 : ¬ isE (w (f : Int)) (cA (w (e : Int))) = true := fun q => htwo ⟨q, by rw [z]; exact hfe⟩
      rw [if_neg hn1, z, if_pos hfe]
      exact ⟨hc0, hopen⟩
/-! ===== the reference's longest trail ===== -/
def onN (s : Int) : Nat → Int
  | 0 => 0
  | n + 1 => onN s n + iA (iSr s (n : Int)) 1
theorem onN_fin : ∀ s : Fin 256, onN (s.val : Int) 8 = ((el 8 s.val).length : Int) := by decide +kernel
def gdR (b w : Int → Int) (p : Int) (m : Nat) (s : Int) : Bool := decide (enN b w p s m 24 ≤ 2) && decide (sprF b w p s m = s)
def bestR (b w : Int → Int) (p : Int) (m : Nat) (n : Nat) : Int := bestP (fun s => onN s 8) (gdR b w p m) n
theorem bestR_is {b r w : Int → Int} {p : Int} (h8 : (owL r p 30).length ≤ 8) (hw : ∀ k : Nat, k < (owL r p 30).length → w (k : Int) = (own r p k : Int)) : bestR b w p (owL r p 30).length (2 ^ (owL r p 30).length - 1) = trF b r p := by
  obtain ⟨g1, g2⟩ := gaN_own b r p st0 h8 30 (Nat.le_refl _)
  have hwr : ∀ k : Nat, k < (owL r p 30).length → 0 ≤ w (k : Int) ∧ w (k : Int) < 30 := fun k hk => by
    rw [hw k hk]
    have := own_mem hk
    omega
  have hl : ∀ k : Nat, k < (owL r p 30).length → (gaN b r p st0 30).2.1 0 (k : Int) = edF b p (cA (w (k : Int))) (24 + 2 * (k : Int)) ∧ (gaN b r p st0 30).2.1 1 (k : Int) = edF b p (cB (w (k : Int))) (24 + 2 * (k : Int) + 1) := fun k hk => by
    rw [hw k hk]
    exact g2 k hk
  have hinj : ∀ j k : Nat, j < (owL r p 30).length → k < (owL r p 30).length → w (j : Int) = w (k : Int) → j = k := fun j k hj hk h => by
    rw [hw j hj, hw k hk] at h
    exact own_inj hj hk (by omega)
  have z0 : ∀ i : Int, 0 ≤ st0.2.1 0 i ∧ st0.2.1 0 i ≤ 63 := fun i => ⟨Int.le_refl _, by show (0 : Int) ≤ 63; omega⟩
  have z1 : ∀ i : Int, 0 ≤ st0.2.1 1 i ∧ st0.2.1 1 i ≤ 63 := fun i => ⟨Int.le_refl _, by show (0 : Int) ≤ 63; omega⟩
  have k0 := gaN_on b r p st0 z0 30 (Nat.le_refl _)
  have k1 := gaN_ot b r p st0 z1 30 (Nat.le_refl _)
  have h256 : 2 ^ (owL r p 30).length ≤ 256 := Nat.pow_le_pow_right (n := 2) (by omega) h8
  have hL : Lg (AK ((gaN b r p st0 30).2.1 0)) (AK ((gaN b r p st0 30).2.1 1)) (fun k => k < (owL r p 30).length) (bestR b w p (owL r p 30).length (2 ^ (owL r p 30).length - 1)) := by
    refine bestP_Lg h8 (fun s _ hs => onN_fin ⟨s, by omega⟩) fun s hs0 hs => ?_
    have h3 := Od_pc (A := AK ((gaN b r p st0 30).2.1 0)) (B := AK ((gaN b r p st0 30).2.1 1)) (n := 64) (fun k => by have := k0 (k : Int); unfold AK; omega) (fun k => by have := k1 (k : Int); unfold AK; omega) (el (owL r p 30).length s)
    unfold gdR
    rw [Bool.and_eq_true, decide_eq_true_eq, decide_eq_true_eq, en_is h8 hs hwr hl, sprF_Cn (A := AK ((gaN b r p st0 30).2.1 0)) (B := AK ((gaN b r p st0 30).2.1 1)) h8 hs (by omega) (me_is hwr hinj hl), ← h3]
    exact and_congr (by omega) Iff.rfl
  exact (Lg_e g2 hL).uniq (tr_Lg st0 h8)
