/-! ===== a second object of the class: the same contracts, under other keys ===== -/
def sh (k : Nat) : Nat := match Nat.beq k 99 with
  | true => 99
  | false => k + 200
def rPV : PV → PV
  | .inl i => .inl i
  | .inr (.inl i) => .inr (.inl i)
  | .inr (.inr o) => .inr (.inr (o.map sh))
def rPE : PE → PE
  | .inl (n, .inl f) => .inl (n, .inl f)
  | .inl (n, .inr (.inl f)) => .inl (n, .inr (.inl f))
  | .inl (n, .inr (.inr f)) => .inl (n, .inr (.inr (fun i => (f i).map sh)))
  | .inr (c, fs) => .inr (c, fs.map rPV)
def rW (w : PW) : PW := w.map (fun q => (sh q.1, rPE q.2))
def rO : PO → PO
  | .inl v => .inl (v.map rPV)
  | .inr E => .inr E
theorem rPV_pv {ad : Nat → Nat} (v : PV) : pv ad (rPV v) = pv (fun k => ad (sh k)) v := by
  rcases v with i | (i | (_ | k)) <;> rfl
theorem rPV_map {ad : Nat → Nat} (l : List PV) : (l.map rPV).map (pv ad) = l.map (pv (fun k => ad (sh k))) := by
  rw [List.map_map]
  exact congrArg (fun f => l.map f) (funext fun v => rPV_pv v)
theorem rPE_pe {ad : Nat → Nat} {cy : Nat → ClassId} (e : PE) : pe ad cy (rPE e) = pe (fun k => ad (sh k)) cy e := by
  rcases e with ⟨n, f | (f | f)⟩ | ⟨c, fs⟩
  · rfl
  · rfl
  · show (.inl (cy 2, n, .inr (.inr (.inr (.inr (fun j : Nat => ((f (j : Int)).map sh).map ad))))) : va_E) = .inl (cy 2, n, .inr (.inr (.inr (.inr (fun j : Nat => (f (j : Int)).map (fun k => ad (sh k)))))))
    have h : (fun j : Nat => ((f (j : Int)).map sh).map ad) = (fun j : Nat => (f (j : Int)).map (fun k => ad (sh k))) := by
      funext j
      rw [Option.map_map]
      rfl
    rw [h]
  · show (.inr (c, (fs.map rPV).map (pv ad)) : va_E) = .inr (c, fs.map (pv (fun k => ad (sh k))))
    rw [rPV_map]
theorem rW_cw {ad : Nat → Nat} {cy : Nat → ClassId} (w : PW) : cw ad cy (rW w) = cw (fun k => ad (sh k)) cy w := by
  unfold cw rW
  rw [List.map_map]
  exact congrArg (fun f => w.map f) (funext fun q => Prod.ext rfl (rPE_pe q.2))
theorem pEnv.ren {ad : Nat → Nat} {A : Nat → Prop} {U : State} {H : Heap} (h : pEnv ad A roC U H) : pEnv (fun k => ad (sh k)) A roC U H := by
  obtain ⟨h1, h2, h3, h4, h5, h6⟩ := h
  refine ⟨h1, h2, h3, h4, fun q hq => ?_, h6⟩
  have e : q = (99, 15, ordF) := by simpa [roC] using hq
  subst e
  exact h5 _ hq
theorem Sp.ren {M : PM} {d : Nat} {as : List PV} {w w' : PW} {o : PO} (h : Sp M roC d as w o w') : Sp M roC d (as.map rPV) (rW w) (rO o) (rW w') := by
  refine ⟨?_, fun l hlt D cy ad sz => ?_⟩
  · have h1 := congrArg (List.map sh) h.1
    rw [List.map_map, List.map_map] at h1
    unfold rW
    rw [List.map_map, List.map_map]
    exact h1
  have hm := h.2 l hlt D cy (fun k => ad (sh k)) sz
  have e1 : cw ad cy (rW w) = cw (fun k => ad (sh k)) cy w := rW_cw w
  have e2 : cw ad cy (rW w') = cw (fun k => ad (sh k)) cy w' := rW_cw w'
  rw [e1, rPV_map]
  rcases o with v | E
  · refine Jvm.Free.MetFree.mono hm ?_ (fun _ _ _ _ _ k => k) ?_
    · intro a s hp
      obtain ⟨h0, hsz, hP, hK, hD, hE⟩ := hp
      rw [e1] at hP hD hE
      exact ⟨h0, hsz, hP, hK, hD, hE.ren⟩
    · intro a s oc t hp hq
      rcases hq with ⟨⟨v', q1, q2, q3, q4⟩, L, q5, q6⟩ | ⟨x, q1, E, ce, L, ⟨q2, q3, q4⟩, q5⟩
      · cases q1
        refine .inl ⟨⟨v.map rPV, rfl, ?_, ?_, ?_⟩, L, q5, q6⟩
        · rw [q2]
          cases v with
          | none => rfl
          | some v =>
            show Outcome.returned (some (pv (fun k => ad (sh k)) v)) = Outcome.returned (some (pv ad (rPV v)))
            rw [rPV_pv]
        · rw [e2]; exact q3
        · rw [e1]; exact q4
      · cases q2
  · refine Jvm.Free.MetFree.mono hm ?_ (fun _ _ _ _ _ k => k) ?_
    · intro a s hp
      obtain ⟨h0, hsz, hP, hK, hD, hE⟩ := hp
      rw [e1] at hP hD hE
      exact ⟨h0, hsz, hP, hK, hD, hE.ren⟩
    · intro a s oc t hp hq
      rcases hq with ⟨⟨v', q1, q2, q3, q4⟩, L, q5, q6⟩ | ⟨x, q1, E', ce, L, ⟨q2, q3, q4⟩, q5⟩
      · cases q1
      · cases q2
        refine .inr ⟨x, q1, E, ce, L, ⟨rfl, ?_, ?_⟩, q5⟩
        · rw [e2]; exact q3
        · rw [e1]; exact q4
/-- both games, and what else lies there -/
def T2 (τ κ κ2 : St) (X : PW) : PW := X ++ cW τ κ ++ rW (cW τ κ2)
theorem T2_keys {τ κ κ2 τ' κ' κ2' : St} {X X' : PW} (h : X'.map Prod.fst = X.map Prod.fst) : (T2 τ' κ' κ2' X').map Prod.fst = (T2 τ κ κ2 X).map Prod.fst := by
  unfold T2
  rw [List.map_append, List.map_append, List.map_append, List.map_append, h]
  rfl
theorem Sp.to1 {M : PM} {ro : PRO} {d : Nat} {as : List PV} {τ κ τ' κ' κ2 : St} {o : PO} {X : PW} (hro : ∀ q ∈ roC, q ∈ ro) (h : Sp M roC d as (cW τ κ) o (cW τ' κ')) : Sp M ro d as (X ++ cW τ κ ++ rW (cW τ κ2)) o (X ++ cW τ' κ' ++ rW (cW τ κ2)) := Sp.frame X (rW (cW τ κ2)) hro h
/-- an int, as the machine has it; a long -/
def nmI (v : Int) : Int := (Int32.ofInt v).toInt
theorem nmI_r (v : Int) : -2147483648 ≤ nmI v ∧ nmI v ≤ 2147483647 := i32_r _
theorem nmI_pv (ad : Nat → Nat) (v : Int) : pv ad (vI (nmI v)) = pv ad (vI v) := by
  show Value.int (Int32.ofInt (Int32.ofInt v).toInt) = Value.int (Int32.ofInt v)
  rw [Int32.ofInt_toInt]
def nmL (v : Int) : Int := (Int64.ofInt v).toInt
theorem nmL_r (v : Int) : -9223372036854775808 ≤ nmL v ∧ nmL v ≤ 9223372036854775807 := ⟨Int64.le_toInt _, by have := Int64.toInt_lt (Int64.ofInt v); show (Int64.ofInt v).toInt ≤ _; omega⟩
theorem nmL_pv (ad : Nat → Nat) (v : Int) : pv ad (vL (nmL v)) = pv ad (vL v) := by
  show Value.long (Int64.ofInt (Int64.ofInt v).toInt) = Value.long (Int64.ofInt v)
  rw [Int64.ofInt_toInt]
theorem Sp.asPv {M : PM} {ro : PRO} {d : Nat} {as : List PV} {w w' : PW} {v v' : PV} (hv : ∀ ad, pv ad v' = pv ad v) (h : Sp M ro d as w (.inl (some v)) w') : Sp M ro d as w (.inl (some v')) w' := by
  refine ⟨h.1, fun l hlt D cy ad sz => ?_⟩
  refine Jvm.Free.MetFree.mono (h.2 l hlt D cy ad sz) (fun _ _ k => k) (fun _ _ _ _ _ k => k) ?_
  intro a s oc t hp hq
  rcases hq with ⟨⟨v0, q1, q2, q3, q4⟩, L, q5, q6⟩ | ⟨x, q1, E, ce, L, ⟨q2, q3, q4⟩, q5⟩
  · cases q1
    refine .inl ⟨⟨some v', rfl, ?_, q3, q4⟩, L, q5, q6⟩
    rw [q2]
    show Outcome.returned (some (pv ad v)) = Outcome.returned (some (pv ad v'))
    rw [hv]
  · cases q2
/-! ===== the law's own call, and what it catches ===== -/
abbrev PHH : Type := List (Nat × Nat × Nat × Nat)
def wsH (M : PM) (hh : PHH) : List Cond := .codeWith M.1 M.2.1 M.2.2.1 M.2.2.2 hh :: gT
def prmW (d : Nat) : Room := { frames := d + 8, cells := 1, slots := 6, locals := 40 * d + 200 }
def Sw (M : PM) (hh : PHH) (ro : PRO) (d : Nat) (as : List PV) (w : PW) (v : PV) (w' : PW) : Prop :=
  w'.map Prod.fst = w.map Prod.fst ∧ ∀ l : Launch, l.stackTraces = false → ∀ (D : va_G) (cy : Nat → ClassId) (ad : Nat → Nat) (sz : Nat), vx_Met l M.1 (wsH M hh) (prmW d) (va_Pc (as.map (pv ad)) (pPre D cy ad ro w sz)) (pQ D cy ad (.inl (some v)) w w' sz) (fun _ _ _ => False) 1 6 (va_A (cw ad cy w) sz)
def ctN : List (Nat × String) := [(15, "java/lang/IndexOutOfBoundsException"), (17, "java/lang/IllegalArgumentException"), (19, "java/lang/IllegalStateException")]
theorem ctN_at {k : Nat} {nm : String} (h : (k, nm) ∈ ctN) : Cond.classLink RL k nm ∈ gT ∧ k ≠ 0 ∧ (nm, nm) ∈ cT := by
  simp only [ctN, List.mem_cons, List.not_mem_nil, or_false, Prod.mk.injEq] at h
  rcases h with ⟨rfl, rfl⟩ | ⟨rfl, rfl⟩ | ⟨rfl, rfl⟩
  · exact ⟨gT_at 397 (by decide +kernel) (by decide +kernel), by decide, by decide +kernel⟩
  · exact ⟨gT_at 398 (by decide +kernel) (by decide +kernel), by decide, by decide +kernel⟩
  · exact ⟨gT_at 399 (by decide +kernel) (by decide +kernel), by decide, by decide +kernel⟩
/-- where a thrown class is caught -/
def hfind (E : String) (pc : Nat) : PHH → Option Nat
  | [] => none
  | (a, b, h, ct) :: t => match decide (a ≤ pc) && decide (pc < b), alk ctN ct with
    | true, some nm => match decide (nm = E), decide ((E, nm) ∈ nT) with
      | true, _ => some h
      | false, true => hfind E pc t
      | false, false => none
    | _, _ => none
theorem hfind_is {E : String} {pc h : Nat} : ∀ {hh : PHH}, hfind E pc hh = some h → ∃ (pre : List ExceptionTableEntry) (x : ExceptionTableEntry) (suf : List ExceptionTableEntry), tableOf hh = pre ++ x :: suf ∧ (∀ z ∈ pre, ∃ nm, (z.catchType, nm) ∈ ctN ∧ (E, nm) ∈ nT) ∧ covers x pc = true ∧ (x.catchType, E) ∈ ctN ∧ x.handlerPc = h
  | [], hq => by cases hq
  | (a, b, h0, ct) :: t, hq => by
    unfold hfind at hq
    split at hq
    · next nm hc hk =>
      split at hq
      · next h1 =>
        cases hq
        have h1 := of_decide_eq_true h1
        subst h1
        exact ⟨[], ⟨a, b, h, ct⟩, tableOf t, rfl, (fun z hz => by cases hz), hc, alk_mem hk, rfl⟩
      · next h1 h2 =>
        obtain ⟨pre, x, suf, e1, e2, e3, e4, e5⟩ := hfind_is hq
        refine ⟨⟨a, b, h0, ct⟩ :: pre, x, suf, ?_, fun z hz => ?_, e3, e4, e5⟩
        · show _ :: tableOf t = _
          rw [e1]
          rfl
        · rcases List.mem_cons.mp hz with rfl | hz
          · exact ⟨nm, alk_mem hk, of_decide_eq_true h2⟩
          · exact e2 z hz
      · cases hq
    · cases hq
/-- a handler: the thrown object is put away, a number is answered -/
def ptail (tb : PT) (h nL : Nat) : Option Int := match alk tb h with
  | some (.astore k, 2) => match decide (k < nL), alk tb (h + 2), alk tb (h + 5) with
    | true, some (.sipush j, 3), some (.ireturn, 1) => match decide (-32768 ≤ j ∧ j ≤ 32767) with
      | true => some j
      | false => none
    | _, _, _ => none
  | _ => none
def Rw (own : String) (lk : PL) (ro : PRO) (tb : PT) (hh : PHH) (nL d : Nat) (v : Int) (w' : PW) (G : PS → Prop) : Prop :=
  (∀ (n : Nat) (S S' : PS) (P : Option Prop), prun lk ro tb n S = some (S', P) → (∀ q, P = some q → q) → G S' → G S) ∧
  (∀ (idx : Nat) (M : PM) (d1 : Nat) (as : List PV) (rest : List PV) (L : List (Option PV)) (pc : Nat) (w w2 : PW) (v : Option PV), alk tb pc = some (.invokestatic idx, 3) → sLink own idx M as.length → d1 + 1 ≤ d → M.2.2.1 ≤ 20 → pcat rest ≤ 8 → Sp M ro d1 as w (.inl v) w2 → G (pc + 3, L, v.toList ++ rest, w2) → G (pc, L, as.reverse ++ rest, w)) ∧
  (∀ (idx : Nat) (M : PM) (d1 : Nat) (as : List PV) (rest : List PV) (L : List (Option PV)) (pc : Nat) (w : PW) (E : String) (h : Nat), alk tb pc = some (.invokestatic idx, 3) → sLink own idx M as.length → d1 + 1 ≤ d → M.2.2.1 ≤ 20 → pcat rest ≤ 8 → Sp M ro d1 as w (.inr E) w' → hfind E pc hh = some h → ptail tb h nL = some v → G (pc, L, as.reverse ++ rest, w)) ∧
  (∀ (pc : Nat) (L : List (Option PV)), alk tb pc = some (.ireturn, 1) → G (pc, L, [vI v], w'))
section WRAP
variable {p : Program} {l : Launch} {e : Env} {R : Room} {s : State} {m : MethodId} {args : Array Value} {below : List Frame} {meth : Method} {c : Code}
variable {cc : ByteArray} {nL : Nat} {D : va_G} {cy : Nat → ClassId} {ad : Nat → Nat} {ro : PRO} {dd : Nat}
theorem tail_W {tb : PT} {H : Heap} {locs : List Loc} {cl sl hpc : Nat} {ls : Array Slot} {L : List (Option PV)} {q : Addr} {v : Int} {w0 w' : PW} (X : Cx p l R s m args meth c 0 0 cc nL RL D cy ad (va_A (cw ad cy w0) s.heap.size) ro dd) (htb : ∀ {a : Nat} {i : Instr} {n : Nat}, alk tb a = some (i, n) → decode cc a = .ok (i, n)) (hr : meth.sig.returnType = some .int) (ht : ptail tb hpc nL = some v) (hl : ph ad ls nL L) (hP : va_P D vwCl (cw ad cy w') H) (hS : va_S (va_A (cw ad cy w0) s.heap.size) s.heap H locs) (hc : cl ≤ 1) (hs : sl ≤ 6) :
    W p l e R s m args below meth c H locs cl sl (vx_MQ below (pQ D cy ad (.inl (some (vI v))) w0 w' s.heap.size) (fun _ _ _ => False) args s 1 6 (va_A (cw ad cy w0) s.heap.size)) (F0 m hpc ls [.ref q]) := by
  obtain ⟨hx, hb, -, -, -, -, -, -, hlocks, -⟩ := X
  have fin : ∀ (pc2 : Nat) (ls2 : Array Slot), alk tb pc2 = some (.ireturn, 1) → W p l e R s m args below meth c H locs cl sl (vx_MQ below (pQ D cy ad (.inl (some (vI v))) w0 w' s.heap.size) (fun _ _ _ => False) args s 1 6 (va_A (cw ad cy w0) s.heap.size)) (F0 m pc2 ls2 [.int (Int32.ofInt v)]) := by
    intro pc2 ls2 h2
    refine W.widen hc hs (vx_ret ?_)
    exact W.iret hx hb hr (fun t ht _ => ⟨_, rfl, rfl, by rw [ht]; exact hP, hS.F ht⟩) hS.2.2 (htb h2) hlocks
  unfold ptail at ht
  split at ht
  · next k h1 =>
    split at ht
    · next j hk h2 h3 =>
      split at ht
      · next hj =>
        cases ht
        refine lv_astore hx hb (htb h1) hl.1 (of_decide_eq_true hk) rfl (fun ls' _ => ?_)
        exact lv_sipush hx hb (htb h2) (i_b16 (of_decide_eq_true hj)) (fin _ _ h3)
      · cases ht
    · cases ht
  · cases ht
theorem Rw_of {lk : PL} {tb : PT} {hh : PHH} {v : Int} {w0 w' : PW} (X : Cx p l R s m args meth c 0 0 cc nL RL D cy ad (va_A (cw ad cy w0) s.heap.size) ro dd) (hlk : lkOk RL lk) (htb : ∀ q ∈ tb, decode cc q.1 = .ok (q.2.1, q.2.2)) (hr : meth.sig.returnType = some .int) (het : c.exceptionTable.toList = tableOf hh) (hRc : 1 ≤ R.cells) (hRs : 6 ≤ R.slots) :
    Rw RL lk ro tb hh nL dd v w' (Gd p l e R s m args below meth c 0 0 (vx_MQ below (pQ D cy ad (.inl (some (vI v))) w0 w' s.heap.size) (fun _ _ _ => False) args s 1 6 (va_A (cw ad cy w0) s.heap.size)) nL D cy ad (va_A (cw ad cy w0) s.heap.size)) := by
  have htb2 : ∀ {a : Nat} {i : Instr} {n : Nat}, alk tb a = some (i, n) → decode cc a = .ok (i, n) := fun {a i n} h => htb (a, (i, n)) (alk_mem h)
  have hA : ∀ q, s.heap.size ≤ q → va_A (cw ad cy w0) s.heap.size q := fun q h => Or.inr h
  have hc0 : ∀ v : Option PV, 0 + pmc (.inl v) ≤ R.cells := fun v => Nat.zero_le _
  have hs0 : ∀ v : Option PV, 0 + pms (.inl v) ≤ R.slots := fun v => Nat.zero_le _
  refine ⟨?_, ?_, ?_, ?_⟩
  · exact fun n S S' P h1 h2 h3 => prun_sound X hlk htb h1 h2 h3
  · intro idx M2 d1 as2 rest L pc w1 w2 v2 h0 h1 h5 h6 h7 h8 h9 H locs ls hl hP1 hD1 hS1
    refine g_back (o := .inl v2) rfl rfl rfl hA hD1 hS1 (g_runS X (htb2 h0) h1 h8 h5 h6 h7 (hc0 v2) (hs0 v2) hl hP1 hD1 hS1) (fun H1 locs1 hP2 hS2 => ?_)
    rw [← cat0]
    exact h9 H1 locs1 ls hl hP2 (cw_keys h8.1 hD1) hS2
  · intro idx M2 d1 as2 rest L pc w1 E h h0 h1 h5 h6 h7 h8 hf ht H locs ls hl hP1 hD1 hS1
    have X0 := X
    obtain ⟨-, -, -, hown, hts, -, ⟨-, -, -, -, -, h16, -, h18⟩, -⟩ := X0
    refine g_backX (o := .inr E) rfl rfl rfl hA hD1 hS1 (g_runS X (htb2 h0) h1 h8 h5 h6 h7 hRc hRs hl hP1 hD1 hS1) (fun H1 locs1 q ce hP2 hS2 hc hv hcl => ?_)
    obtain ⟨pre, x, suf, e1, e2, e3, e4, e5⟩ := hfind_is hf
    obtain ⟨c1, c2, c3⟩ := ctN_at e4
    refine vx_catch (own := RL) (name := E) (E := E) (ce := ce) (q := q) hown pre x suf (het.trans e1) (fun z hz => ?_) e3 c2 (hts _ c1) ?_ hc hv hcl ?_
    · obtain ⟨nm, n1, n2⟩ := e2 z hz
      obtain ⟨d1, d2, -⟩ := ctN_at n1
      exact Or.inr ⟨d2, nm, hts _ d1, h18 _ n2⟩
    · exact va_Nw.use rfl (h16 _ c3)
    · rw [e5]
      exact tail_W X htb2 hr ht hl hP2 hS2 (Nat.le_refl _) (Nat.le_refl _)
  · intro pc L h0 H locs ls hl hP hD hS
    obtain ⟨hx, hb, -, -, -, -, -, -, hlocks, -⟩ := X
    refine W.widen (k := 1) (n := 6) (Nat.zero_le _) (Nat.zero_le _) (vx_ret ?_)
    exact W.iret hx hb hr (fun t ht _ => ⟨_, rfl, rfl, by rw [ht]; exact hP, hS.F ht⟩) hS.2.2 (htb2 h0) hlocks
end WRAP
theorem Sw.of {M : PM} {hh : PHH} {lk : PL} {tb : PT} {ro : PRO} {d : Nat} {as : List PV} {w w' : PW} {v : Int} (hy : plainName M.1.cls = true) (hL : M.1.cls = RL) (hret : M.2.2.2 = some .int) (hlk : lkOk RL lk) (htb : ∀ q ∈ tb, decode M.2.1 q.1 = .ok (q.2.1, q.2.2)) (hkeys : w'.map Prod.fst = w.map Prod.fst) (hnl : (lay as).length ≤ M.2.2.1)
    (body : ∀ G : PS → Prop, Rw RL lk ro tb hh M.2.2.1 d v w' G → G (0, lent M.2.2.1 as, [], w)) : Sw M hh ro d as w (vI v) w' := by
  refine ⟨hkeys, fun l hlt D cy ad sz => ?_⟩
  refine vx_ofWH (cc := M.2.1) (maxL := M.2.2.1) (ret := M.2.2.2) (hh := hh) hy rfl ?_
  intro p e s m args below meth c s₁ B hml hpre
  obtain ⟨rfl, hsz, hP, hK, hD0, hE⟩ := hpre
  subst hsz
  have hall := atoms_spec (ws := wsH M hh) B.pre
  have het := vx_table (x := M.1) B (hall _ List.mem_cons_self)
  have hroom : ∃ R : Room, R = (headSpec (wsH M hh) (prmW d)).room ∧ d + 8 ≤ R.frames ∧ 40 * d + 200 ≤ R.locals ∧ 1 ≤ R.cells ∧ 6 ≤ R.slots := ⟨prmW d, rfl, Nat.le_refl _, Nat.le_refl _, Nat.le_refl _, Nat.le_refl _⟩
  obtain ⟨R, hR, r1, r2, r3, r4⟩ := hroom
  rw [← hR]
  have X : Cx p l R s m (as.map (pv ad)).toArray meth c 0 0 M.2.1 M.2.2.1 RL D cy ad (va_A (cw ad cy w) s.heap.size) ro d :=
    ⟨B.exec, B.bytes, hml, by rw [← hL]; exact findClass_of_methodNamed B.named, fun x h => hall x (List.mem_cons_of_mem _ h), hK, hE, fun q h => Or.inr h, B.notSynchronized, hlt, ⟨r1, r2⟩, Nat.zero_le _, Nat.zero_le _⟩
  have hG := body _ (Rw_of (e := e) (below := below) (w' := w') X hlk htb (by rw [← hret]; exact B.returns) het r3 r4)
  rw [lg_entry_eq]
  have hlen : (lg_sl (as.map (pv ad))).length ≤ M.2.2.1 := by rw [lay_len]; exact hnl
  have hl := lv_entry (as.map (pv ad)) hlen
  refine hG s.heap [] _ ⟨?_, ?_⟩ hP hD0.self va_S.rf
  · unfold lent
    rw [lay_args]
    exact hl
  · unfold lent
    rw [List.length_append, List.length_replicate]
    omega
/-- what is told of an answer, and of a thrown class -/
def cdE (E : String) : Int := if E = xI then -1121 else if E = xA then -1122 else -1123
def tlO : PO → Int
  | .inl (some (.inl v)) => v
  | .inl _ => 0
  | .inr E => cdE E
theorem Sw_call {ro : PRO} {d k : Nat} {n a b c : Int} {w w' : PW} {o : PO} (ho : (∃ v : Int, o = .inl (some (vI v))) ∨ ∃ E : String, o = .inr E ∧ (E = xI ∨ E = xA ∨ E = xS)) (h : Sp mL_does ro d [vR k, vI n, vI a, vI b, vI c] w o w') :
    Sw mL_call hhL_call ro (d + 1) [vR k, vI n, vI a, vI b, vI c] w (vI (tlO o)) w' := by
  refine Sw.of (lk := lkL) (tb := bL_call) (by decide) rfl rfl lkL_ok tL_call h.1 (Nat.le_of_ble_eq_true rfl) (fun G hR => ?_)
  refine hR.1 5 _ (6, [some (vR k), some (vI n), some (vI a), some (vI b), some (vI c), none], [vI c, vI b, vI a, vI n, vR k], w) none rfl (fun q h => nomatch h) ?_
  rcases ho with ⟨v, rfl⟩ | ⟨E, rfl, hE⟩
  · exact hR.2.1 9 mL_does d [vR k, vI n, vI a, vI b, vI c] [] _ 6 w w' (some (vI v)) rfl kL_9 (Nat.le_refl _) (by decide) (by decide) h (hR.2.2.2 _ _ rfl)
  · rcases hE with rfl | rfl | rfl
    · exact hR.2.2.1 9 mL_does d [vR k, vI n, vI a, vI b, vI c] [] _ 6 w xI 10 rfl kL_9 (Nat.le_refl _) (by decide) (by decide) h (by decide +kernel) (by decide +kernel)
    · exact hR.2.2.1 9 mL_does d [vR k, vI n, vI a, vI b, vI c] [] _ 6 w xA 16 rfl kL_9 (Nat.le_refl _) (by decide) (by decide) h (by decide +kernel) (by decide +kernel)
    · exact hR.2.2.1 9 mL_does d [vR k, vI n, vI a, vI b, vI c] [] _ 6 w xS 22 rfl kL_9 (Nat.le_refl _) (by decide) (by decide) h (by decide +kernel) (by decide +kernel)
