/-! ===== the steps are the machine's ===== -/
theorem i_of {x : Int} (h : -2147483648 ≤ x ∧ x ≤ 2147483647) : (Int32.ofInt x).toInt = x := Int32.toInt_ofInt_of_le (by omega) (by omega)
theorem l_of {x : Int} (h : -9223372036854775808 ≤ x ∧ x ≤ 9223372036854775807) : (Int64.ofInt x).toInt = x := Int64.toInt_ofInt_of_le (by omega) (by omega)
theorem i_eq {x y : Int} (hx : -2147483648 ≤ x ∧ x ≤ 2147483647) (hy : -2147483648 ≤ y ∧ y ≤ 2147483647) : Int32.ofInt x = Int32.ofInt y ↔ x = y := by
  rw [← Int32.toInt_inj, i_of hx, i_of hy]
theorem i_lt {x y : Int} (hx : -2147483648 ≤ x ∧ x ≤ 2147483647) (hy : -2147483648 ≤ y ∧ y ≤ 2147483647) : Int32.ofInt x < Int32.ofInt y ↔ x < y := by
  rw [Int32.lt_iff_toInt_lt, i_of hx, i_of hy]
theorem i_le {x y : Int} (hx : -2147483648 ≤ x ∧ x ≤ 2147483647) (hy : -2147483648 ≤ y ∧ y ≤ 2147483647) : Int32.ofInt x ≤ Int32.ofInt y ↔ x ≤ y := by
  rw [Int32.le_iff_toInt_le, i_of hx, i_of hy]
theorem i_in {i : Int} {N : Nat} (hN : N ≤ 1000000) (h : 0 ≤ i ∧ i < (N : Int)) : vp_in (Int32.ofInt i) N ∧ (Int32.ofInt i).toNatClampNeg = i.toNat := by
  have hi : (Int32.ofInt i).toInt = i := i_of (by omega)
  exact ⟨vp_in_iff.mpr (by rw [hi]; exact h), by rw [← Int32.toNat_toInt, hi]⟩
theorem i_cl {i : Int} (h : 0 ≤ i) : ((i.toNat : Nat) : Int) = i := Int.toNat_of_nonneg h
theorem i_div {x y : Int} (hx : 0 ≤ x ∧ x ≤ 2147483647) (hy : 0 < y ∧ y ≤ 2147483647) : Int32.ofInt (x / y) = Int32.ofInt x / Int32.ofInt y := by
  apply Int32.toInt_inj.mp
  have h1 : 0 ≤ x / y := Int.ediv_nonneg hx.1 (by omega)
  have h2 : x / y ≤ x := Int.ediv_le_self _ hx.1
  rw [i_of (by omega), Int32.toInt_div_of_ne_right _ _ (by
    intro h
    have := congrArg Int32.toInt h
    rw [i_of (by omega)] at this
    have h3 : (-1 : Int32).toInt = -1 := rfl
    omega), i_of (by omega), i_of (by omega)]
  exact (Int.tdiv_eq_ediv_of_nonneg hx.1).symm
theorem i_rem {x y : Int} (hx : 0 ≤ x ∧ x ≤ 2147483647) (hy : 0 < y ∧ y ≤ 2147483647) : Int32.ofInt (x % y) = Int32.ofInt x - Int32.ofInt x / Int32.ofInt y * Int32.ofInt y := by
  rw [← i_div hx hy, ← Int32.ofInt_mul, ← Int32.ofInt_sub]
  congr 1
  have := Int.emod_add_mul_ediv x y
  rw [Int.mul_comm] at this
  omega
theorem i_b8 {c : Int} (h : -128 ≤ c ∧ c ≤ 127) : (Int8.ofInt c).toInt32 = Int32.ofInt c := by
  apply Int32.toInt_inj.mp
  rw [i_of (by omega), Int8.toInt_toInt32]
  exact Int8.toInt_ofInt_of_le (by omega) (by omega)
theorem i_b16 {c : Int} (h : -32768 ≤ c ∧ c ≤ 32767) : (Int16.ofInt c).toInt32 = Int32.ofInt c := by
  apply Int32.toInt_inj.mp
  rw [i_of (by omega), Int16.toInt_toInt32]
  exact Int16.toInt_ofInt_of_le (by omega) (by omega)
section SND
variable {p : Program} {l : Launch} {e : Env} {R : Room} {s : State} {m : MethodId} {args : Array Value} {below : List Frame} {meth : Method} {c : Code} {cl sl : Nat} {Q : State → Prop}
variable {cc : ByteArray} {nL : Nat} {own : String} {D : va_G} {cy : Nat → ClassId} {ad : Nat → Nat} {A : Nat → Prop} {ro : PRO} {dd : Nat}
def Cx (p : Program) (l : Launch) (R : Room) (s : State) (m : MethodId) (args : Array Value) (meth : Method) (c : Code) (cl sl : Nat) (cc : ByteArray) (nL : Nat) (own : String) (D : va_G) (cy : Nat → ClassId) (ad : Nat → Nat) (A : Nat → Prop) (ro : PRO) (dd : Nat) : Prop :=
  p.tables.exec = Jvm.exec ∧ c.code = cc ∧ c.maxLocals = nL ∧ s.vm.findClass own = some m.cls ∧ (∀ w ∈ gT, w.before args s = true) ∧ va_K D vwCl (ptys cy) s ∧ pEnv ad A ro s s.heap ∧ (∀ q, s.heap.size ≤ q → A q) ∧ meth.locks = false ∧ l.stackTraces = false ∧ (dd + 8 ≤ R.frames ∧ 40 * dd + 200 ≤ R.locals) ∧ cl ≤ R.cells ∧ sl ≤ R.slots
def Gd (p : Program) (l : Launch) (e : Env) (R : Room) (s : State) (m : MethodId) (args : Array Value) (below : List Frame) (meth : Method) (c : Code) (cl sl : Nat) (Q : State → Prop) (nL : Nat) (D : va_G) (cy : Nat → ClassId) (ad : Nat → Nat) (A : Nat → Prop) (S : PS) : Prop :=
  ∀ (H : Heap) (locs : List Loc) (ls : Array Slot), ph ad ls nL S.2.1 → va_P D vwCl (cw ad cy S.2.2.2) H → va_D A (cw ad cy S.2.2.2) → va_S A s.heap H locs → W p l e R s m args below meth c H locs cl sl Q (F0 m S.1 ls (S.2.2.1.map (pv ad)))
theorem g_push {pc k : Nat} {L : List (Option PV)} {st : List PV} {w : PW} {v : PV} (row : ∀ (H : Heap) (locs : List Loc) (ls : Array Slot), W p l e R s m args below meth c H locs cl sl Q (F0 m (pc + k) ls (pv ad v :: st.map (pv ad))) → W p l e R s m args below meth c H locs cl sl Q (F0 m pc ls (st.map (pv ad))))
    (hG : Gd p l e R s m args below meth c cl sl Q nL D cy ad A (pc + k, L, v :: st, w)) : Gd p l e R s m args below meth c cl sl Q nL D cy ad A (pc, L, st, w) :=
  fun H locs ls hl hP hD hS => row H locs ls (hG H locs ls hl hP hD hS)
theorem g_ii {f : Int → Int → Int} {g : Int32 → Int32 → Int32} {n pc : Nat} {L : List (Option PV)} {st : List PV} {w : PW} {S' : PS} {P : Option Prop} (h : s_ii f n pc L st w = some (S', P)) (hf : ∀ x y, Int32.ofInt (f x y) = g (Int32.ofInt x) (Int32.ofInt y))
    (row : n = 1 → ∀ (H : Heap) (locs : List Loc) (ls : Array Slot) (rest : List Value) (x y : Int32), W p l e R s m args below meth c H locs cl sl Q (F0 m (pc + 1) ls (.int (g x y) :: rest)) → W p l e R s m args below meth c H locs cl sl Q (F0 m pc ls (.int y :: .int x :: rest)))
    (hG : Gd p l e R s m args below meth c cl sl Q nL D cy ad A S') : Gd p l e R s m args below meth c cl sl Q nL D cy ad A (pc, L, st, w) := by
  unfold s_ii at h
  split at h
  · next y x r =>
    obtain ⟨h1, rfl, -⟩ := nxt_of h
    intro H locs ls hl hP hD hS
    refine row h1 H locs ls _ _ _ ?_
    have := hG H locs ls hl hP hD hS
    rw [← hf]
    exact this
  · cases h
theorem g_iq {f : Int → Int → Int} {g : Int32 → Int32 → Int32} {n pc : Nat} {L : List (Option PV)} {st : List PV} {w : PW} {S' : PS} {P : Option Prop} (h : s_iq f n pc L st w = some (S', P)) (hP0 : ∀ q, P = some q → q) (hf : ∀ x y, (0 ≤ x ∧ x ≤ 2147483647) → (0 < y ∧ y ≤ 2147483647) → Int32.ofInt (f x y) = g (Int32.ofInt x) (Int32.ofInt y))
    (row : n = 1 → ∀ (H : Heap) (locs : List Loc) (ls : Array Slot) (rest : List Value) (x y : Int32), ¬ y = 0 → W p l e R s m args below meth c H locs cl sl Q (F0 m (pc + 1) ls (.int (g x y) :: rest)) → W p l e R s m args below meth c H locs cl sl Q (F0 m pc ls (.int y :: .int x :: rest)))
    (hG : Gd p l e R s m args below meth c cl sl Q nL D cy ad A S') : Gd p l e R s m args below meth c cl sl Q nL D cy ad A (pc, L, st, w) := by
  unfold s_iq at h
  split at h
  · next y x r =>
    obtain ⟨h1, rfl, rfl⟩ := nxt_of h
    obtain ⟨hx, hy⟩ := hP0 _ rfl
    intro H locs ls hl hP hD hS
    refine row h1 H locs ls _ _ _ (fun h0 => ?_) ?_
    · have := (i_eq (x := y) (y := 0) (by omega) (by omega)).mp h0
      omega
    · have := hG H locs ls hl hP hD hS
      rw [← hf _ _ hx hy]
      exact this
  · cases h
theorem g_ll {f : Int → Int → Int} {g : Int64 → Int64 → Int64} {n pc : Nat} {L : List (Option PV)} {st : List PV} {w : PW} {S' : PS} {P : Option Prop} (h : s_ll f n pc L st w = some (S', P)) (hf : ∀ x y, Int64.ofInt (f x y) = g (Int64.ofInt x) (Int64.ofInt y))
    (row : n = 1 → ∀ (H : Heap) (locs : List Loc) (ls : Array Slot) (rest : List Value) (x y : Int64), W p l e R s m args below meth c H locs cl sl Q (F0 m (pc + 1) ls (.long (g x y) :: rest)) → W p l e R s m args below meth c H locs cl sl Q (F0 m pc ls (.long y :: .long x :: rest)))
    (hG : Gd p l e R s m args below meth c cl sl Q nL D cy ad A S') : Gd p l e R s m args below meth c cl sl Q nL D cy ad A (pc, L, st, w) := by
  unfold s_ll at h
  split at h
  · next y x r =>
    obtain ⟨h1, rfl, -⟩ := nxt_of h
    intro H locs ls hl hP hD hS
    refine row h1 H locs ls _ _ _ ?_
    have := hG H locs ls hl hP hD hS
    rw [← hf]
    exact this
  · cases h
theorem g_load {L : List (Option PV)} {k wd n pc : Nat} {st : List PV} {w : PW} {ty : Nat} {S' : PS} {P : Option Prop} (h : s_load L k wd n pc st w ty = some (S', P))
    (r0 : n = wd → ty = 0 → ∀ (H : Heap) (locs : List Loc) (ls : Array Slot) (rest : List Value) (x : Int32), ls[k]? = some (.val (.int x)) → W p l e R s m args below meth c H locs cl sl Q (F0 m (pc + wd) ls (.int x :: rest)) → W p l e R s m args below meth c H locs cl sl Q (F0 m pc ls rest))
    (r1 : n = wd → ty = 1 → ∀ (H : Heap) (locs : List Loc) (ls : Array Slot) (rest : List Value) (x : Int64), ls[k]? = some (.val (.long x)) → W p l e R s m args below meth c H locs cl sl Q (F0 m (pc + wd) ls (.long x :: rest)) → W p l e R s m args below meth c H locs cl sl Q (F0 m pc ls rest))
    (r2 : n = wd → ty = 2 → ∀ (H : Heap) (locs : List Loc) (ls : Array Slot) (rest : List Value) (x : Nat), ls[k]? = some (.val (.ref x)) → W p l e R s m args below meth c H locs cl sl Q (F0 m (pc + wd) ls (.ref x :: rest)) → W p l e R s m args below meth c H locs cl sl Q (F0 m pc ls rest))
    (hG : Gd p l e R s m args below meth c cl sl Q nL D cy ad A S') : Gd p l e R s m args below meth c cl sl Q nL D cy ad A (pc, L, st, w) := by
  unfold s_load at h
  split at h
  · next i hg =>
    obtain ⟨h1, rfl, -⟩ := nxt_of h
    exact fun H locs ls hl hP hD hS => r0 h1 rfl H locs ls _ _ (ph_at hl hg) (hG H locs ls hl hP hD hS)
  · next i hg =>
    obtain ⟨h1, rfl, -⟩ := nxt_of h
    exact fun H locs ls hl hP hD hS => r1 h1 rfl H locs ls _ _ (ph_at hl hg) (hG H locs ls hl hP hD hS)
  · next i hg =>
    obtain ⟨h1, rfl, -⟩ := nxt_of h
    exact fun H locs ls hl hP hD hS => r2 h1 rfl H locs ls _ _ (ph_at hl hg) (hG H locs ls hl hP hD hS)
  · cases h
theorem g_store {L : List (Option PV)} {k wd n pc : Nat} {st : List PV} {w : PW} {ty : Nat} {S' : PS} {P : Option Prop} (h : s_store L k wd n pc st w ty = some (S', P))
    (r0 : n = wd → ty = 0 → ∀ (H : Heap) (locs : List Loc) (ls : Array Slot) (rest : List Value) (x : Int32) (lv : List (Nat × Value)), lv_has ls nL lv → k < nL → (∀ ls' : Array Slot, lv_has ls' nL ((k, Value.int x) :: lv.filter (fun q => !(q.1 == k) && !(q.1 + 1 == k && q.2.category == 2))) → W p l e R s m args below meth c H locs cl sl Q (F0 m (pc + wd) ls' rest)) → W p l e R s m args below meth c H locs cl sl Q (F0 m pc ls (.int x :: rest)))
    (r1 : n = wd → ty = 1 → ∀ (H : Heap) (locs : List Loc) (ls : Array Slot) (rest : List Value) (x : Int64) (lv : List (Nat × Value)), lv_has ls nL lv → k + 1 < nL → (∀ ls' : Array Slot, lv_has ls' nL ((k, Value.long x) :: lv.filter (fun q => !(q.1 == k) && (!(q.1 == k + 1) && !(q.1 + 1 == k && q.2.category == 2)))) → W p l e R s m args below meth c H locs cl sl Q (F0 m (pc + wd) ls' rest)) → W p l e R s m args below meth c H locs cl sl Q (F0 m pc ls (.long x :: rest)))
    (hG : Gd p l e R s m args below meth c cl sl Q nL D cy ad A S') : Gd p l e R s m args below meth c cl sl Q nL D cy ad A (pc, L, st, w) := by
  unfold s_store at h
  split at h
  · next i r =>
    split at h
    · next hb =>
      obtain ⟨h1, rfl, -⟩ := nxt_of h
      intro H locs ls hl hP hD hS
      have hk : k < nL := by rw [← hl.2]; exact Nat.lt_of_lt_of_eq (Nat.le_of_ble_eq_true hb) rfl
      exact r0 h1 rfl H locs ls _ _ _ hl.1 hk (fun ls' h' => hG H locs ls' (ph_put1 (v := .inl i) hk hl.2 h') hP hD hS)
    · cases h
  · next i r =>
    split at h
    · next hb =>
      obtain ⟨h1, rfl, -⟩ := nxt_of h
      intro H locs ls hl hP hD hS
      have hk : k + 1 < nL := by rw [← hl.2]; exact Nat.lt_of_lt_of_eq (Nat.le_of_ble_eq_true hb) rfl
      exact r1 h1 rfl H locs ls _ _ _ hl.1 hk (fun ls' h' => hG H locs ls' (ph_put2 (v := .inr (.inl i)) hk hl.2 h') hP hD hS)
    · cases h
  · cases h
theorem g_astr {L : List (Option PV)} {k wd n pc : Nat} {st : List PV} {w : PW} {S' : PS} {P : Option Prop} (h : s_astore L k wd n pc st w = some (S', P))
    (r0 : n = wd → ∀ (H : Heap) (locs : List Loc) (ls : Array Slot) (rest : List Value) (a : Nat) (lv : List (Nat × Value)), lv_has ls nL lv → k < nL → (∀ ls' : Array Slot, lv_has ls' nL ((k, Value.ref a) :: lv.filter (fun q => !(q.1 == k) && !(q.1 + 1 == k && q.2.category == 2))) → W p l e R s m args below meth c H locs cl sl Q (F0 m (pc + wd) ls' rest)) → W p l e R s m args below meth c H locs cl sl Q (F0 m pc ls (.ref a :: rest)))
    (hG : Gd p l e R s m args below meth c cl sl Q nL D cy ad A S') : Gd p l e R s m args below meth c cl sl Q nL D cy ad A (pc, L, st, w) := by
  unfold s_astore at h
  split at h
  · next a r =>
    split at h
    · next hb =>
      obtain ⟨h1, rfl, -⟩ := nxt_of h
      intro H locs ls hl hP hD hS
      have hk : k < nL := by rw [← hl.2]; exact Nat.lt_of_lt_of_eq (Nat.le_of_ble_eq_true hb) rfl
      exact r0 h1 H locs ls _ _ _ hl.1 hk (fun ls' h' => hG H locs ls' (ph_put1 (v := vR a) hk hl.2 h') hP hD hS)
    · cases h
  · cases h
theorem g_get {lk : PL} {idx n pc : Nat} {L : List (Option PV)} {st : List PV} {w : PW} {S' : PS} {P : Option Prop} (X : Cx p l R s m args meth c cl sl cc nL own D cy ad A ro dd) (hlk : lkOk own lk) (hd : decode cc pc = .ok (.getfield idx, n)) (h : s_get lk idx n pc L st w = some (S', P))
    (hG : Gd p l e R s m args below meth c cl sl Q nL D cy ad A S') : Gd p l e R s m args below meth c cl sl Q nL D cy ad A (pc, L, st, w) := by
  obtain ⟨hx, hb, -, hown, hts, hK, -⟩ := X
  unfold s_get at h
  split at h
  · next a r ci k ty hf =>
    split at h
    · next cj fs hc =>
      split at h
      · next v hbq hv =>
        obtain ⟨rfl, rfl, -⟩ := nxt_of h
        have hcj := Nat.eq_of_beq_eq_true hbq
        subst hcj
        obtain ⟨rr, g1, g2, g3, g4, -⟩ := hlk.1 _ (alk_mem hf)
        intro H locs ls hl hP hD hS
        obtain ⟨q0, e1, -⟩ := cw_look (ad := ad) (cy := cy) hc
        exact va_get hx hb (C := rr.1) (T := rr.2.1) (N := rr.2.2) (Ts := gT) hts g2.1 hown hK hP q0 e1 g1 k g3 (hts _ g4) (fun _ h => h) (fget_map hv) hd (hG H locs ls hl hP hD hS)
      · cases h
    · cases h
  · cases h
theorem g_put {lk : PL} {idx n pc : Nat} {L : List (Option PV)} {st : List PV} {w : PW} {S' : PS} {P : Option Prop} (X : Cx p l R s m args meth c cl sl cc nL own D cy ad A ro dd) (hlk : lkOk own lk) (hd : decode cc pc = .ok (.putfield idx, n)) (h : s_put lk idx n pc L st w = some (S', P)) (hP0 : ∀ q, P = some q → q)
    (hG : Gd p l e R s m args below meth c cl sl Q nL D cy ad A S') : Gd p l e R s m args below meth c cl sl Q nL D cy ad A (pc, L, st, w) := by
  obtain ⟨hx, hb, -, hown, hts, hK, -⟩ := X
  unfold s_put at h
  split at h
  · next v a r ci k ty hf =>
    split at h
    · next cj fs hc =>
      split at h
      · next v0 hbq hv =>
        obtain ⟨rfl, rfl, -⟩ := nxt_of h
        have hcj := Nat.eq_of_beq_eq_true hbq
        subst hcj
        obtain ⟨rr, g1, ⟨g2, ⟨ty0, g5⟩, g6⟩, g3, g4, g7, -⟩ := hlk.1 _ (alk_mem hf)
        obtain ⟨g8, g9⟩ := g7 rfl
        intro H locs ls hl hP hD hS
        obtain ⟨q0, e1, e2⟩ := cw_look (ad := ad) (cy := cy) hc
        have hlen : k < (fs.map (pv ad)).length := (List.getElem?_eq_some_iff.mp (fget_map (ad := ad) hv)).1
        refine va_put hx hb (C := rr.1) (T := rr.2.1) (N := rr.2.2) (Ts := gT) hts g2 ty0 g5 g6 hown hK hP hD hS q0 e1 g1 k g3 (hts _ g4) (fun _ h => h) g8 g9 rfl rfl hlen hd (fun H1 locs1 hP1 hD1 hS1 => ?_)
        have e3 := e2 (.inr (cj, fset fs k (.inl v)))
        have e4 : pe ad cy (.inr (cj, fset fs k (.inl v))) = .inr (cj, (fs.map (pv ad)).set k (.int (Int32.ofInt v))) := by
          show (Sum.inr (cj, (fset fs k (.inl v)).map (pv ad)) : va_E) = _
          rw [fset_map]
          rfl
        rw [e4] at e3
        exact hG H1 locs1 ls hl (by rw [e3]; exact hP1) (by rw [e3]; exact hD1) hS1
      · next v0 hbq hv =>
        obtain ⟨rfl, rfl, rfl⟩ := nxt_of h
        have hcj := Nat.eq_of_beq_eq_true hbq
        subst hcj
        obtain ⟨rr, g1, ⟨g2, ⟨ty0, g5⟩, g6⟩, g3, g4, -, g7⟩ := hlk.1 _ (alk_mem hf)
        obtain ⟨g8, g9⟩ := g7 rfl
        intro H locs ls hl hP hD hS
        obtain ⟨q0, e1, e2⟩ := cw_look (ad := ad) (cy := cy) hc
        have hlen : k < (fs.map (pv ad)).length := (List.getElem?_eq_some_iff.mp (fget_map (ad := ad) hv)).1
        have h01 := hP0 _ rfl
        refine va_put hx hb (C := rr.1) (T := rr.2.1) (N := rr.2.2) (Ts := gT) hts g2 ty0 g5 g6 hown hK hP hD hS q0 e1 g1 k g3 (hts _ g4) (fun _ h => h) g8 g9 (by rcases h01 with rfl | rfl <;> rfl) (by rcases h01 with rfl | rfl <;> rfl) hlen hd (fun H1 locs1 hP1 hD1 hS1 => ?_)
        have e3 := e2 (.inr (cj, fset fs k (.inl v)))
        have e4 : pe ad cy (.inr (cj, fset fs k (.inl v))) = .inr (cj, (fs.map (pv ad)).set k (.int (Int32.ofInt v))) := by
          show (Sum.inr (cj, (fset fs k (.inl v)).map (pv ad)) : va_E) = _
          rw [fset_map]
          rfl
        rw [e4] at e3
        exact hG H1 locs1 ls hl (by rw [e3]; exact hP1) (by rw [e3]; exact hD1) hS1
      · cases h
    · cases h
  · cases h
end SND
