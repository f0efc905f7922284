/-! ===== the law's own methods, and what they catch ===== -/
abbrev PHH : Type := List (Nat × Nat × Nat × Nat)
def wsH (M : PM) (hh : PHH) : List Cond := .codeWith M.1 M.2.1 M.2.2.1 M.2.2.2 hh :: gT
def prmW (d : Nat) : Room := { frames := d + 8, cells := 1, slots := 6, locals := 40 * d + 200 }
def Sw (M : PM) (hh : PHH) (ro : PRO) (d : Nat) (as : List PV) (w : PW) (v : PV) (w' : PW) : Prop :=
  w'.map Prod.fst = w.map Prod.fst ∧ ∀ l : Launch, l.stackTraces = false → ∀ (D : va_G) (cy : Nat → ClassId) (ad : Nat → Nat) (sz : Nat), vx_Met l M.1 (wsH M hh) (prmW d) (va_Pc (as.map (pv ad)) (pPre D cy ad ro w sz)) (pQ D cy ad (.inl (some v)) w w' sz) (fun _ _ _ => False) 1 6 (va_A (cw ad cy w) sz)
def ctN : List (Nat × String) := [(13, "java/lang/IndexOutOfBoundsException"), (15, "java/lang/IllegalArgumentException"), (17, "java/lang/IllegalStateException")]
theorem ctN_at {k : Nat} {nm : String} (h : (k, nm) ∈ ctN) : Cond.classLink RL k nm ∈ gT ∧ k ≠ 0 ∧ (nm, nm) ∈ cT := by
  simp only [ctN, List.mem_cons, List.not_mem_nil, or_false, Prod.mk.injEq] at h
  rcases h with ⟨rfl, rfl⟩ | ⟨rfl, rfl⟩ | ⟨rfl, rfl⟩
  · exact ⟨gT_at 188 (by decide +kernel) (by decide +kernel), by decide, by decide +kernel⟩
  · exact ⟨gT_at 189 (by decide +kernel) (by decide +kernel), by decide, by decide +kernel⟩
  · exact ⟨gT_at 190 (by decide +kernel) (by decide +kernel), by decide, by decide +kernel⟩
/-- where a thrown class is caught -/
def hfind (E : String) (pc : Nat) : PHH → Option Nat
  | [] => none
  | (a, b, h, ct) :: t => match decide (a ≤ pc) && decide (pc < b), alk ctN ct with
    | true, some nm => match decide (nm = E), decide ((E, nm) ∈ nT) with
      | true, _ => some h
      | false, true => hfind E pc t
      | false, false => none
    | _, _ => none
theorem hfind_is {E : String} {pc h : Nat} : ∀ {hh : PHH}, hfind E pc hh = some h → ∃ (pre : List ExceptionTableEntry) (x : ExceptionTableEntry) (suf : List ExceptionTableEntry), tableOf hh = pre ++ x :: suf ∧ (∀ z ∈ pre, ∃ nm, (z.catchType, nm) ∈ ctN ∧ (E, nm) ∈ nT) ∧ covers x pc = true ∧ (x.catchType, E) ∈ ctN ∧ x.handlerPc = h
  | [], hq => by cases hq
  | (a, b, h0, ct) :: t, hq => by
    unfold hfind at hq
    split at hq
    · next nm hc hk =>
      split at hq
      · next h1 =>
        cases hq
        have h1 := of_decide_eq_true h1
        subst h1
        exact ⟨[], ⟨a, b, h, ct⟩, tableOf t, rfl, (fun z hz => by cases hz), hc, alk_mem hk, rfl⟩
      · next h1 h2 =>
        obtain ⟨pre, x, suf, e1, e2, e3, e4, e5⟩ := hfind_is hq
        refine ⟨⟨a, b, h0, ct⟩ :: pre, x, suf, ?_, fun z hz => ?_, e3, e4, e5⟩
        · show _ :: tableOf t = _
          rw [e1]
          rfl
        · rcases List.mem_cons.mp hz with rfl | hz
          · exact ⟨nm, alk_mem hk, of_decide_eq_true h2⟩
          · exact e2 z hz
      · cases hq
    · cases hq
/-- a handler: the thrown object is put away, a number is answered -/
def ptail (tb : PT) (h nL : Nat) : Option Int := match alk tb h with
  | some (.astore k, 2) => match decide (k < nL), alk tb (h + 2), alk tb (h + 3) with
    | true, some (.iconst j, 1), some (.ireturn, 1) => some j
    | _, _, _ => none
  | some (.astore_n k, 1) => match decide (k.val < nL), alk tb (h + 1), alk tb (h + 2) with
    | true, some (.iconst j, 1), some (.ireturn, 1) => some j
    | _, _, _ => none
  | _ => none
/-- an int, as the machine has it -/
def nmI (v : Int) : Int := (Int32.ofInt v).toInt
theorem nmI_r (v : Int) : -2147483648 ≤ nmI v ∧ nmI v ≤ 2147483647 := i32_r _
theorem nmI_pv (ad : Nat → Nat) (v : Int) : pv ad (vI (nmI v)) = pv ad (vI v) := by
  show Value.int (Int32.ofInt (Int32.ofInt v).toInt) = Value.int (Int32.ofInt v)
  rw [Int32.ofInt_toInt]
def Rw (own : String) (lk : PL) (ro : PRO) (tb : PT) (hh : PHH) (nL d : Nat) (v : Int) (w' : PW) (G : PS → Prop) : Prop :=
  (∀ (n : Nat) (S S' : PS) (P : Option Prop), prun lk ro tb n S = some (S', P) → (∀ q, P = some q → q) → G S' → G S) ∧
  (∀ (idx : Nat) (M : PM) (d1 : Nat) (as : List PV) (k ci : Nat) (fs : List PV) (rr : vw_C) (rest : List PV) (L : List (Option PV)) (pc : Nat) (w w2 : PW) (v : Option PV), alk tb pc = some (.invokevirtual idx, 3) → vLink own idx M as.length → alk w k = some (.inr (ci, fs)) → vwCl[ci]? = some rr → rr.1 = M.1.cls → d1 + 1 ≤ d → M.2.2.1 ≤ 20 → pcat rest ≤ 8 → Sp M ro d1 (vR k :: as) w (.inl v) w2 → G (pc + 3, L, v.toList ++ rest, w2) → G (pc, L, as.reverse ++ vR k :: rest, w)) ∧
  (∀ (idx : Nat) (M : PM) (d1 : Nat) (as : List PV) (k ci : Nat) (fs : List PV) (rr : vw_C) (rest : List PV) (L : List (Option PV)) (pc : Nat) (w : PW) (E : String) (h : Nat), alk tb pc = some (.invokevirtual idx, 3) → vLink own idx M as.length → alk w k = some (.inr (ci, fs)) → vwCl[ci]? = some rr → rr.1 = M.1.cls → d1 + 1 ≤ d → M.2.2.1 ≤ 20 → pcat rest ≤ 8 → Sp M ro d1 (vR k :: as) w (.inr E) w' → hfind E pc hh = some h → ptail tb h nL = some v → G (pc, L, as.reverse ++ vR k :: rest, w)) ∧
  (∀ (pc : Nat) (L : List (Option PV)), alk tb pc = some (.ireturn, 1) → G (pc, L, [vI v], w')) ∧
  (∀ (pc : Nat) (L : List (Option PV)) (u : Int) (rest : List PV) (w : PW), G (pc, L, vI (nmI u) :: rest, w) → G (pc, L, vI u :: rest, w))
section WRAP
variable {p : Program} {l : Launch} {e : Env} {R : Room} {s : State} {m : MethodId} {args : Array Value} {below : List Frame} {meth : Method} {c : Code}
variable {cc : ByteArray} {nL : Nat} {D : va_G} {cy : Nat → ClassId} {ad : Nat → Nat} {ro : PRO} {dd : Nat}
theorem tail_W {tb : PT} {hh : PHH} {H : Heap} {locs : List Loc} {cl sl hpc : Nat} {ls : Array Slot} {L : List (Option PV)} {q : Addr} {v : Int} {w0 w' : PW} (X : Cx p l R s m args meth c 0 0 cc nL RL D cy ad (va_A (cw ad cy w0) s.heap.size) ro dd) (htb : ∀ {a : Nat} {i : Instr} {n : Nat}, alk tb a = some (i, n) → decode cc a = .ok (i, n)) (hr : meth.sig.returnType = some .int) (ht : ptail tb hpc nL = some v) (hl : ph ad ls nL L) (hP : va_P D vwCl (cw ad cy w') H) (hS : va_S (va_A (cw ad cy w0) s.heap.size) s.heap H locs) (hc : cl ≤ 1) (hs : sl ≤ 6) :
    W p l e R s m args below meth c H locs cl sl (vx_MQ below (pQ D cy ad (.inl (some (vI v))) w0 w' s.heap.size) (fun _ _ _ => False) args s 1 6 (va_A (cw ad cy w0) s.heap.size)) (F0 m hpc ls [.ref q]) := by
  have _ := hh
  obtain ⟨hx, hb, -, -, -, -, -, -, hlocks, -⟩ := X
  have fin : ∀ (pc2 : Nat) (ls2 : Array Slot), alk tb pc2 = some (.ireturn, 1) → W p l e R s m args below meth c H locs cl sl (vx_MQ below (pQ D cy ad (.inl (some (vI v))) w0 w' s.heap.size) (fun _ _ _ => False) args s 1 6 (va_A (cw ad cy w0) s.heap.size)) (F0 m pc2 ls2 [.int (Int32.ofInt v)]) := by
    intro pc2 ls2 h2
    refine W.widen hc hs (vx_ret ?_)
    exact W.iret hx hb hr (fun t ht _ => ⟨_, rfl, rfl, by rw [ht]; exact hP, hS.F ht⟩) hS.2.2 (htb h2) hlocks
  unfold ptail at ht
  split at ht
  · next k h1 =>
    split at ht
    · next j hk h2 h3 =>
      cases ht
      refine lv_astore hx hb (htb h1) hl.1 (of_decide_eq_true hk) rfl (fun ls' _ => ?_)
      exact lv_iconst hx hb (htb h2) rfl (fin _ _ h3)
    · cases ht
  · next k h1 =>
    split at ht
    · next j hk h2 h3 =>
      cases ht
      refine lv_astore_n hx hb (htb h1) rfl hl.1 (of_decide_eq_true hk) rfl (fun ls' _ => ?_)
      exact lv_iconst hx hb (htb h2) rfl (fin _ _ h3)
    · cases ht
  · cases ht
theorem Rw_of {lk : PL} {tb : PT} {hh : PHH} {v : Int} {w0 w' : PW} (X : Cx p l R s m args meth c 0 0 cc nL RL D cy ad (va_A (cw ad cy w0) s.heap.size) ro dd) (hlk : lkOk RL lk) (htb : ∀ q ∈ tb, decode cc q.1 = .ok (q.2.1, q.2.2)) (hr : meth.sig.returnType = some .int) (het : c.exceptionTable.toList = tableOf hh) (hRc : 1 ≤ R.cells) (hRs : 6 ≤ R.slots) :
    Rw RL lk ro tb hh nL dd v w' (Gd p l e R s m args below meth c 0 0 (vx_MQ below (pQ D cy ad (.inl (some (vI v))) w0 w' s.heap.size) (fun _ _ _ => False) args s 1 6 (va_A (cw ad cy w0) s.heap.size)) nL D cy ad (va_A (cw ad cy w0) s.heap.size)) := by
  have htb2 : ∀ {a : Nat} {i : Instr} {n : Nat}, alk tb a = some (i, n) → decode cc a = .ok (i, n) := fun {a i n} h => htb (a, (i, n)) (alk_mem h)
  have hA : ∀ q, s.heap.size ≤ q → va_A (cw ad cy w0) s.heap.size q := fun q h => Or.inr h
  have hc0 : ∀ v : Option PV, 0 + pmc (.inl v) ≤ R.cells := fun v => Nat.zero_le _
  have hs0 : ∀ v : Option PV, 0 + pms (.inl v) ≤ R.slots := fun v => Nat.zero_le _
  refine ⟨?_, ?_, ?_, ?_, ?_⟩
  · exact fun n S S' P h1 h2 h3 => prun_sound X hlk htb h1 h2 h3
  · intro idx M2 d1 as2 k ci fs rr rest L pc w1 w2 v2 h0 h1 h2 h3 h4 h5 h6 h7 h8 h9 H locs ls hl hP1 hD1 hS1
    refine g_back (o := .inl v2) rfl rfl rfl hA hD1 hS1 (g_runV X (htb2 h0) h1 h8 h2 h3 h4 h5 h6 h7 (hc0 v2) (hs0 v2) hl hP1 hD1 hS1) (fun H1 locs1 hP2 hS2 => ?_)
    rw [← cat0]
    exact h9 H1 locs1 ls hl hP2 (cw_keys h8.1 hD1) hS2
  · intro idx M2 d1 as2 k ci fs rr rest L pc w1 E h h0 h1 h2 h3 h4 h5 h6 h7 h8 hf ht H locs ls hl hP1 hD1 hS1
    have X0 := X
    obtain ⟨-, -, -, hown, hts, -, ⟨-, -, -, -, -, h16, -, h18⟩, -⟩ := X0
    refine g_backX (o := .inr E) rfl rfl rfl hA hD1 hS1 (g_runV X (htb2 h0) h1 h8 h2 h3 h4 h5 h6 h7 hRc hRs hl hP1 hD1 hS1) (fun H1 locs1 q ce hP2 hS2 hc hv hcl => ?_)
    obtain ⟨pre, x, suf, e1, e2, e3, e4, e5⟩ := hfind_is hf
    obtain ⟨c1, c2, c3⟩ := ctN_at e4
    refine vx_catch (own := RL) (name := E) (E := E) (ce := ce) (q := q) hown pre x suf (het.trans e1) (fun z hz => ?_) e3 c2 (hts _ c1) ?_ hc hv hcl ?_
    · obtain ⟨nm, n1, n2⟩ := e2 z hz
      obtain ⟨d1, d2, -⟩ := ctN_at n1
      exact Or.inr ⟨d2, nm, hts _ d1, h18 _ n2⟩
    · exact va_Nw.use rfl (h16 _ c3)
    · rw [e5]
      exact tail_W (hh := hh) X htb2 hr ht hl hP2 hS2 (Nat.le_refl _) (Nat.le_refl _)
  · intro pc L h0 H locs ls hl hP hD hS
    obtain ⟨hx, hb, -, -, -, -, -, -, hlocks, -⟩ := X
    refine W.widen (k := 1) (n := 6) (Nat.zero_le _) (Nat.zero_le _) (vx_ret ?_)
    exact W.iret hx hb hr (fun t ht _ => ⟨_, rfl, rfl, by rw [ht]; exact hP, hS.F ht⟩) hS.2.2 (htb2 h0) hlocks
  · intro pc L u rest w2 h H locs ls hl hP hD hS
    have h2 := h H locs ls hl hP hD hS
    rw [List.map_cons, nmI_pv] at h2
    exact h2
end WRAP
theorem Sw.of {M : PM} {hh : PHH} {lk : PL} {tb : PT} {ro : PRO} {d : Nat} {as : List PV} {w w' : PW} {v : Int} (hy : plainName M.1.cls = true) (hL : M.1.cls = RL) (hret : M.2.2.2 = some .int) (hlk : lkOk RL lk) (htb : ∀ q ∈ tb, decode M.2.1 q.1 = .ok (q.2.1, q.2.2)) (hkeys : w'.map Prod.fst = w.map Prod.fst) (hnl : (lay as).length ≤ M.2.2.1)
    (body : ∀ G : PS → Prop, Rw RL lk ro tb hh M.2.2.1 d v w' G → G (0, lent M.2.2.1 as, [], w)) : Sw M hh ro d as w (vI v) w' := by
  refine ⟨hkeys, fun l hlt D cy ad sz => ?_⟩
  refine vx_ofWH (cc := M.2.1) (maxL := M.2.2.1) (ret := M.2.2.2) (hh := hh) hy rfl ?_
  intro p e s m args below meth c s₁ B hml hpre
  obtain ⟨rfl, hsz, hP, hK, hD0, hE⟩ := hpre
  subst hsz
  have hall := atoms_spec (ws := wsH M hh) B.pre
  have het := vx_table (x := M.1) B (hall _ List.mem_cons_self)
  have hroom : ∃ R : Room, R = (headSpec (wsH M hh) (prmW d)).room ∧ d + 8 ≤ R.frames ∧ 40 * d + 200 ≤ R.locals ∧ 1 ≤ R.cells ∧ 6 ≤ R.slots := ⟨prmW d, rfl, Nat.le_refl _, Nat.le_refl _, Nat.le_refl _, Nat.le_refl _⟩
  obtain ⟨R, hR, r1, r2, r3, r4⟩ := hroom
  rw [← hR]
  have X : Cx p l R s m (as.map (pv ad)).toArray meth c 0 0 M.2.1 M.2.2.1 RL D cy ad (va_A (cw ad cy w) s.heap.size) ro d :=
    ⟨B.exec, B.bytes, hml, by rw [← hL]; exact findClass_of_methodNamed B.named, fun x h => hall x (List.mem_cons_of_mem _ h), hK, hE, fun q h => Or.inr h, B.notSynchronized, hlt, ⟨r1, r2⟩, Nat.zero_le _, Nat.zero_le _⟩
  have hG := body _ (Rw_of (e := e) (below := below) (w' := w') X hlk htb (by rw [← hret]; exact B.returns) het r3 r4)
  rw [lg_entry_eq]
  have hlen : (lg_sl (as.map (pv ad))).length ≤ M.2.2.1 := by rw [lay_len]; exact hnl
  have hl := lv_entry (as.map (pv ad)) hlen
  refine hG s.heap [] _ ⟨?_, ?_⟩ hP hD0.self va_S.rf
  · unfold lent
    rw [lay_args]
    exact hl
  · unfold lent
    rw [List.length_append, List.length_replicate]
    omega
