/-! ===== a whole method, in pure words ===== -/
def xT : List (Nat × Nat × String) := [(293, 297, "java/lang/IndexOutOfBoundsException"), (72, 76, "java/lang/IllegalArgumentException"), (206, 210, "java/lang/IllegalStateException")]
def pthrS (tb : PT) (pc ik is a b : Nat) : Option String := match alk tb a, alk tb b, alk xT ik, alk strs is with
  | some (.invokespecial ic, 3), some (.athrow, 1), some (ic2, E), some _ => match Nat.beq ic ic2 with
    | true => some E
    | false => none
  | _, _, _, _ => none
def pthr (tb : PT) (pc : Nat) : Option String := match alk tb pc, alk tb (pc + 3), alk tb (pc + 4) with
  | some (.new ik, 3), some (.dup, 1), some (.ldc is, 2) => pthrS tb pc ik is (pc + 6) (pc + 9)
  | some (.new ik, 3), some (.dup, 1), some (.ldc_w is, 3) => pthrS tb pc ik is (pc + 7) (pc + 10)
  | _, _, _ => none
theorem pthrS_of {tb : PT} {pc ik is a b : Nat} {E : String} (h : pthrS tb pc ik is a b = some E) : ∃ ic tx, alk tb a = some (.invokespecial ic, 3) ∧ alk tb b = some (.athrow, 1) ∧ (ik, ic, E) ∈ xT ∧ (is, tx) ∈ strs := by
  unfold pthrS at h
  split at h
  · next ic ic2 E2 tx h1 h2 h3 h4 =>
    split at h
    · next hb =>
      cases h
      have := Nat.eq_of_beq_eq_true hb
      subst this
      exact ⟨_, _, h1, h2, alk_mem h3, alk_mem h4⟩
    · cases h
  · cases h
def pret (ret : Option FieldType) (i : Instr) (n : Nat) (st : List PV) : Option (Option PV × Prop) := match i, n, st with
  | .ireturn, 1, [.inl v] => match ret with
    | some .int => some (some (.inl v), True)
    | some .boolean => some (some (.inl v), v = 0 ∨ v = 1)
    | _ => none
  | .lreturn, 1, [.inr (.inl v)] => match ret with
    | some .long => some (some (.inr (.inl v)), True)
    | _ => none
  | .return_, 1, [] => match ret with
    | none => some (none, True)
    | _ => none
  | _, _, _ => none
def Ru (own : String) (lk : PL) (ro : PRO) (tb : PT) (ret : Option FieldType) (d : Nat) (o : PO) (w' : PW) (G : PS → Prop) : Prop :=
  (∀ (n : Nat) (S S' : PS) (P : Option Prop), prun lk ro tb n S = some (S', P) → (∀ q, P = some q → q) → G S' → G S) ∧
  (∀ (S : PS) (i : Instr) (n : Nat) (P C : Prop) (S1 S2 : PS), alk tb S.1 = some (i, n) → pbr i n S = some (P, C, S1, S2) → P → (C → G S1) → (¬ C → G S2) → G S) ∧
  (∀ (idx : Nat) (M : PM) (d1 : Nat) (as : List PV) (k ci : Nat) (fs : List PV) (rr : vw_C) (rest : List PV) (L : List (Option PV)) (pc : Nat) (w w2 : PW) (v : Option PV), alk tb pc = some (.invokevirtual idx, 3) → vLink own idx M as.length → alk w k = some (.inr (ci, fs)) → vwCl[ci]? = some rr → rr.1 = M.1.cls → d1 + 1 ≤ d → M.2.2.1 ≤ 20 → pcat rest ≤ 8 → Sp M ro d1 (vR k :: as) w (.inl v) w2 → G (pc + 3, L, v.toList ++ rest, w2) → G (pc, L, as.reverse ++ vR k :: rest, w)) ∧
  (∀ (idx : Nat) (M : PM) (d1 : Nat) (as : List PV) (k ci : Nat) (fs : List PV) (rr : vw_C) (rest : List PV) (L : List (Option PV)) (pc : Nat) (w : PW) (E : String), alk tb pc = some (.invokevirtual idx, 3) → vLink own idx M as.length → alk w k = some (.inr (ci, fs)) → vwCl[ci]? = some rr → rr.1 = M.1.cls → d1 + 1 ≤ d → M.2.2.1 ≤ 20 → pcat rest ≤ 8 → Sp M ro d1 (vR k :: as) w (.inr E) w' → o = .inr E → G (pc, L, as.reverse ++ vR k :: rest, w)) ∧
  (∀ (idx : Nat) (M : PM) (d1 : Nat) (as : List PV) (rest : List PV) (L : List (Option PV)) (pc : Nat) (w w2 : PW) (v : Option PV), alk tb pc = some (.invokestatic idx, 3) → sLink own idx M as.length → d1 + 1 ≤ d → M.2.2.1 ≤ 20 → pcat rest ≤ 8 → Sp M ro d1 as w (.inl v) w2 → G (pc + 3, L, v.toList ++ rest, w2) → G (pc, L, as.reverse ++ rest, w)) ∧
  (∀ (idx : Nat) (M : PM) (d1 : Nat) (as : List PV) (rest : List PV) (L : List (Option PV)) (pc : Nat) (w : PW) (E : String), alk tb pc = some (.invokestatic idx, 3) → sLink own idx M as.length → d1 + 1 ≤ d → M.2.2.1 ≤ 20 → pcat rest ≤ 8 → Sp M ro d1 as w (.inr E) w' → o = .inr E → G (pc, L, as.reverse ++ rest, w)) ∧
  (∀ (i : Instr) (n pc : Nat) (L : List (Option PV)) (st : List PV) (v : Option PV) (P : Prop), alk tb pc = some (i, n) → pret ret i n st = some (v, P) → P → o = .inl v → G (pc, L, st, w')) ∧
  (∀ (pc : Nat) (L : List (Option PV)) (st : List PV) (E : String), own = RX5 → pthr tb pc = some E → pcat st ≤ 8 → o = .inr E → G (pc, L, st, w')) ∧
  (∀ (k pc : Nat) (L : List (Option PV)) (st : List PV) (w : PW), G (pc, lset L k none, st, w) → G (pc, L, st, w))
def lay : List PV → List (Option PV)
  | [] => []
  | .inr (.inl x) :: t => some (.inr (.inl x)) :: none :: lay t
  | .inl x :: t => some (.inl x) :: lay t
  | .inr (.inr x) :: t => some (.inr (.inr x)) :: lay t
def lent (nL : Nat) (as : List PV) : List (Option PV) := lay as ++ List.replicate (nL - (lay as).length) none
theorem lpairs_none {ad : Nat → Nat} : ∀ (n k : Nat), lpairs ad k (List.replicate n none) = []
  | 0, _ => rfl
  | n + 1, k => by
    rw [List.replicate_succ]
    exact lpairs_none n (k + 1)
theorem lay_args {ad : Nat → Nat} {n : Nat} : ∀ (as : List PV) (k : Nat), lpairs ad k (lay as ++ List.replicate n none) = lv_args k (as.map (pv ad))
  | [], k => lpairs_none n k
  | .inl x :: t, k => by
    show (k, _) :: lpairs ad (k + 1) (lay t ++ List.replicate n none) = (k, _) :: lv_args (k + 1) (t.map (pv ad))
    rw [lay_args t]
  | .inr (.inl x) :: t, k => by
    show (k, _) :: lpairs ad (k + 1 + 1) (lay t ++ List.replicate n none) = (k, _) :: lv_args (k + 2) (t.map (pv ad))
    rw [lay_args t]
  | .inr (.inr none) :: t, k => by
    show (k, _) :: lpairs ad (k + 1) (lay t ++ List.replicate n none) = (k, _) :: lv_args (k + 1) (t.map (pv ad))
    rw [lay_args t]
  | .inr (.inr (some x)) :: t, k => by
    show (k, _) :: lpairs ad (k + 1) (lay t ++ List.replicate n none) = (k, _) :: lv_args (k + 1) (t.map (pv ad))
    rw [lay_args t]
theorem lay_len {ad : Nat → Nat} : ∀ (as : List PV), (lg_sl (as.map (pv ad))).length = (lay as).length
  | [] => rfl
  | .inl x :: t => by
    have := lay_len (ad := ad) t
    simp only [lg_sl, List.map_cons, List.flatMap_cons, List.length_append] at this ⊢
    rw [this]
    show 1 + (lay t).length = _
    rw [Nat.add_comm]
    rfl
  | .inr (.inl x) :: t => by
    have := lay_len (ad := ad) t
    simp only [lg_sl, List.map_cons, List.flatMap_cons, List.length_append] at this ⊢
    rw [this]
    show 2 + (lay t).length = _
    rw [Nat.add_comm]
    rfl
  | .inr (.inr none) :: t => by
    have := lay_len (ad := ad) t
    simp only [lg_sl, List.map_cons, List.flatMap_cons, List.length_append] at this ⊢
    rw [this]
    show 1 + (lay t).length = _
    rw [Nat.add_comm]
    rfl
  | .inr (.inr (some x)) :: t => by
    have := lay_len (ad := ad) t
    simp only [lg_sl, List.map_cons, List.flatMap_cons, List.length_append] at this ⊢
    rw [this]
    show 1 + (lay t).length = _
    rw [Nat.add_comm]
    rfl
theorem ph_less {ad : Nat → Nat} {ls : Array Slot} {nL k : Nat} {L : List (Option PV)} (h : ph ad ls nL L) : ph ad ls nL (lset L k none) := by
  refine ⟨⟨h.1.1, h.1.2.1, fun q hq => ?_⟩, by rw [lset_len]; exact h.2⟩
  obtain ⟨i, x⟩ := q
  obtain ⟨j, v, h1, h2, h3⟩ := lpairs_mem hq
  rw [lget_lset] at h2
  by_cases hj : j = k
  · rw [if_pos hj] at h2
    split at h2 <;> cases h2
  · rw [if_neg hj] at h2
    have := ph_at h h2
    rw [h1, h3, Nat.zero_add]
    exact this
section RULES
variable {p : Program} {l : Launch} {e : Env} {R : Room} {s : State} {m : MethodId} {args : Array Value} {below : List Frame} {meth : Method} {c : Code}
variable {cc : ByteArray} {nL : Nat} {own : String} {D : va_G} {cy : Nat → ClassId} {ad : Nat → Nat} {ro : PRO} {dd : Nat}
theorem g_ret {ret : Option FieldType} {i : Instr} {n pc : Nat} {L : List (Option PV)} {st : List PV} {v : Option PV} {P : Prop} {o : PO} {w0 w' : PW} (X : Cx p l R s m args meth c 0 0 cc nL own D cy ad (va_A (cw ad cy w0) s.heap.size) ro dd) (hr : meth.sig.returnType = ret) (hd : decode cc pc = .ok (i, n)) (h : pret ret i n st = some (v, P)) (hP0 : P) (ho : o = .inl v) :
    Gd p l e R s m args below meth c 0 0 (vx_MQ below (pQ D cy ad o w0 w' s.heap.size) (pX D cy ad o w0 w' s.heap.size) args s (pmc o) (pms o) (va_A (cw ad cy w0) s.heap.size)) nL D cy ad (va_A (cw ad cy w0) s.heap.size) (pc, L, st, w') := by
  obtain ⟨hx, hb, -, -, -, -, -, -, hlocks, -⟩ := X
  subst ho
  intro H locs ls hl hP hD hS
  refine vx_ret ?_
  unfold pret at h
  split at h
  · next v0 =>
    split at h
    · cases h
      exact W.iret hx hb hr (fun t ht _ => ⟨_, rfl, rfl, by rw [ht]; exact hP, hS.F ht⟩) hS.2.2 hd hlocks
    · cases h
      exact W.zret hx hb hr (by rcases hP0 with rfl | rfl <;> rfl) (fun t ht _ => ⟨_, rfl, rfl, by rw [ht]; exact hP, hS.F ht⟩) hS.2.2 hd hlocks
    · cases h
  · next v0 =>
    split at h
    · cases h
      exact W.lret hx hb hr (fun t ht _ => ⟨_, rfl, rfl, by rw [ht]; exact hP, hS.F ht⟩) hS.2.2 hd hlocks
    · cases h
  · split at h
    · cases h
      exact W.vret hx hb hr (fun t ht _ => ⟨_, rfl, rfl, by rw [ht]; exact hP, hS.F ht⟩) hS.2.2 hd hlocks
    · cases h
  · cases h
theorem xT_at {ik ic : Nat} {E : String} (h : (ik, ic, E) ∈ xT) : Cond.classLink RX5 ik E ∈ gT ∧ Cond.initialized E ∈ gT ∧ atOk RX5 ic E ∧ Bundle.fit E = true := by
  simp only [xT, List.mem_cons, List.not_mem_nil, or_false, Prod.mk.injEq] at h
  rcases h with ⟨rfl, rfl, rfl⟩ | ⟨rfl, rfl, rfl⟩ | ⟨rfl, rfl, rfl⟩
  · exact ⟨gT_at 178 (by decide +kernel) (by decide +kernel), gT_at 10 (by decide +kernel) (by decide +kernel), at_297, by decide +kernel⟩
  · exact ⟨gT_at 302 (by decide +kernel) (by decide +kernel), gT_at 11 (by decide +kernel) (by decide +kernel), at_76, by decide +kernel⟩
  · exact ⟨gT_at 415 (by decide +kernel) (by decide +kernel), gT_at 12 (by decide +kernel) (by decide +kernel), at_210, by decide +kernel⟩
theorem at_words {A : Nat → Prop} {cl sl : Nat} {ic : Nat} {E : String} (X : Cx p l R s m args meth c cl sl cc nL own D cy ad A ro dd) (h : atOk RX5 ic E) : ∀ w ∈ vx_atS RX5 ic E ["java/lang/RuntimeException", "java/lang/Exception"], w.before args s = true := by
  obtain ⟨-, -, -, -, hts, -, ⟨-, -, -, -, -, h6, h7, -⟩, -⟩ := X
  intro w hw
  rcases (h w hw).1 with ⟨h1, h2⟩ | h1 | h1
  · exact hts _ (List.mem_filter.mpr ⟨h2, h1⟩)
  · obtain ⟨q, hq, rfl⟩ := List.mem_map.mp h1
    exact va_Nw.use rfl (h6 q hq)
  · obtain ⟨q, hq, rfl⟩ := List.mem_map.mp h1
    exact va_Nw.use rfl (h7 q hq)
set_option maxHeartbeats 1000000 in
theorem g_throw {tb : PT} {pc : Nat} {L : List (Option PV)} {st : List PV} {E : String} {o : PO} {w0 w' : PW} (X : Cx p l R s m args meth c 0 0 cc nL RX5 D cy ad (va_A (cw ad cy w0) s.heap.size) ro dd) (htb : ∀ {a : Nat} {i : Instr} {n : Nat}, alk tb a = some (i, n) → decode cc a = .ok (i, n)) (hne : ∀ x ∈ c.exceptionTable.toList, False) (h : pthr tb pc = some E) (hst : pcat st ≤ 8) (ho : o = .inr E) (hRc : 1 ≤ R.cells) (hRs : 6 ≤ R.slots) :
    Gd p l e R s m args below meth c 0 0 (vx_MQ below (pQ D cy ad o w0 w' s.heap.size) (pX D cy ad o w0 w' s.heap.size) args s (pmc o) (pms o) (va_A (cw ad cy w0) s.heap.size)) nL D cy ad (va_A (cw ad cy w0) s.heap.size) (pc, L, st, w') := by
  have X0 := X
  obtain ⟨hx, hb, hml, hown, hts, hK, hE, hA, hlocks, hlt, ⟨hfr, hlo⟩, -, -⟩ := X0
  subst ho
  intro H locs ls hl hP hD hS
  have hX : ∀ t : State, s.vm.Alike t.vm → H.size ≤ t.heap.size → (∀ q : Nat, q < H.size → t.heap[q]? = H[q]?) → pX D cy ad (.inr E) w0 w' s.heap.size E s t := fun t _ h1 h2 =>
    ⟨rfl, hP.kept (fun k q hk => h2 q.1 (hP k q hk).lt), ⟨Nat.le_trans hS.1 h1, fun q hq hn => (h2 q (Nat.lt_of_lt_of_le hq hS.1)).trans (hS.2.1 q hq hn)⟩⟩
  have hnm : ∀ n ∈ ["java/lang/RuntimeException", "java/lang/Exception"], Bundle.fit n = true := by decide +kernel
  have hsum : ((st.map (pv ad)).map fun v => v.category).sum ≤ 8 := by rw [pcat_eq]; exact hst
  unfold pthr at h
  split at h
  · next ik is a1 a2 a3 =>
    obtain ⟨ic, tx, a4, a5, a6, a7⟩ := pthrS_of h
    obtain ⟨b1, b2, b3, b4⟩ := xT_at a6
    obtain ⟨sa, hsa⟩ := hE.2.2.1 _ a7
    refine vx_throwS hx hb hlt (names := ["java/lang/RuntimeException", "java/lang/Exception"]) hown b4 hnm (hts _ b1) (hts _ b2) hsa (at_words X b3) ?_ hE.1 hE.2.1 hS (by rw [hml]; exact hl.1.1) (htb a1) (htb a2) (htb a3) (htb a4) (htb a5) (fun x hx => (hne x hx).elim) (by show 2 + 3 < R.frames; omega) (by show ((st.map (pv ad)).map fun v => v.category).sum + (13 * (2 + 1) + 43) ≤ R.locals; omega) (by omega) (by omega) hlocks hX hS.2.2 (Nat.le_refl 1) (Nat.le_refl 6)
    intro w hw
    rcases List.mem_cons.mp hw with rfl | hw
    · simp only [vx_ot, Bool.or_eq_true]; exact Or.inr (List.mem_filter.mp b1).2
    · rcases List.mem_cons.mp hw with rfl | hw
      · simp only [vx_ot, Bool.or_eq_true]; exact Or.inr (List.mem_filter.mp b2).2
      · exact (b3 w hw).2
  · next ik is a1 a2 a3 =>
    obtain ⟨ic, tx, a4, a5, a6, a7⟩ := pthrS_of h
    obtain ⟨b1, b2, b3, b4⟩ := xT_at a6
    obtain ⟨sa, hsa⟩ := hE.2.2.1 _ a7
    refine vx_throwSW hx hb hlt (names := ["java/lang/RuntimeException", "java/lang/Exception"]) hown b4 hnm (hts _ b1) (hts _ b2) hsa (at_words X b3) ?_ hE.1 hE.2.1 hS (by rw [hml]; exact hl.1.1) (htb a1) (htb a2) (htb a3) (htb a4) (htb a5) (fun x hx => (hne x hx).elim) (by show 2 + 3 < R.frames; omega) (by show ((st.map (pv ad)).map fun v => v.category).sum + (13 * (2 + 1) + 43) ≤ R.locals; omega) (by omega) (by omega) hlocks hX hS.2.2 (Nat.le_refl 1) (Nat.le_refl 6)
    intro w hw
    rcases List.mem_cons.mp hw with rfl | hw
    · simp only [vx_ot, Bool.or_eq_true]; exact Or.inr (List.mem_filter.mp b1).2
    · rcases List.mem_cons.mp hw with rfl | hw
      · simp only [vx_ot, Bool.or_eq_true]; exact Or.inr (List.mem_filter.mp b2).2
      · exact (b3 w hw).2
  · cases h
theorem g_outX {H : Heap} {locs : List Loc} {pc : Nat} {ls : Array Slot} {rest : List Value} {E : String} {o : PO} {w0 w' : PW} {q : Addr} {ce : Cell} (hlocks : meth.locks = false) (hne : ∀ x ∈ c.exceptionTable.toList, False) (ho : o = .inr E) (hP : va_P D vwCl (cw ad cy w') H) (hS : va_S (va_A (cw ad cy w0) s.heap.size) s.heap H locs) (hc : H[q]? = some ce) (hv : ce.vm = .none) (hcl : s.vm.findClass E = some ce.cls) :
    vx_W p l e R s m args below meth c H locs (0 + 1) (0 + 6) (vx_MQ below (pQ D cy ad o w0 w' s.heap.size) (pX D cy ad o w0 w' s.heap.size) args s (pmc o) (pms o) (va_A (cw ad cy w0) s.heap.size)) (F0 m pc ls rest) q := by
  subst ho
  exact vx_out (fun x hx => (hne x hx).elim) hlocks hc hv hcl (fun t ht _ => ⟨rfl, by rw [ht]; exact hP, hS.F ht⟩) hS.2.2 (Nat.le_refl _) (Nat.le_refl _)
theorem cat0 {v : Option PV} (rest : List PV) : ((v.toList ++ rest).map (pv ad)) = v.toList.map (pv ad) ++ rest.map (pv ad) := List.map_append
theorem Ru_of {lk : PL} {tb : PT} {ret : Option FieldType} {o : PO} {w0 w' : PW} (X : Cx p l R s m args meth c 0 0 cc nL own D cy ad (va_A (cw ad cy w0) s.heap.size) ro dd) (hlk : lkOk own lk) (htb : ∀ q ∈ tb, decode cc q.1 = .ok (q.2.1, q.2.2)) (hr : meth.sig.returnType = ret) (hne : ∀ x ∈ c.exceptionTable.toList, False) (hRc : 0 + pmc o ≤ R.cells) (hRs : 0 + pms o ≤ R.slots) :
    Ru own lk ro tb ret dd o w' (Gd p l e R s m args below meth c 0 0 (vx_MQ below (pQ D cy ad o w0 w' s.heap.size) (pX D cy ad o w0 w' s.heap.size) args s (pmc o) (pms o) (va_A (cw ad cy w0) s.heap.size)) nL D cy ad (va_A (cw ad cy w0) s.heap.size)) := by
  have htb2 : ∀ {a : Nat} {i : Instr} {n : Nat}, alk tb a = some (i, n) → decode cc a = .ok (i, n) := fun {a i n} h => htb (a, (i, n)) (alk_mem h)
  have hA : ∀ q, s.heap.size ≤ q → va_A (cw ad cy w0) s.heap.size q := fun q h => Or.inr h
  have hlocks : meth.locks = false := X.2.2.2.2.2.2.2.2.1
  have hc0 : ∀ v : Option PV, 0 + pmc (.inl v) ≤ R.cells := fun v => Nat.zero_le _
  have hs0 : ∀ v : Option PV, 0 + pms (.inl v) ≤ R.slots := fun v => Nat.zero_le _
  refine ⟨?_, ?_, ?_, ?_, ?_, ?_, ?_, ?_, ?_⟩
  · exact fun n S S' P h1 h2 h3 => prun_sound X hlk htb h1 h2 h3
  · exact fun S i n P C S1 S2 h0 h1 h2 h3 h4 => pbr_sound X (htb2 h0) h1 h2 h3 h4
  · intro idx M2 d1 as2 k ci fs rr rest L pc w1 w2 v h0 h1 h2 h3 h4 h5 h6 h7 h8 h9 H locs ls hl hP1 hD1 hS1
    refine g_back (o := .inl v) rfl rfl rfl hA hD1 hS1 (g_runV X (htb2 h0) h1 h8 h2 h3 h4 h5 h6 h7 (hc0 v) (hs0 v) hl hP1 hD1 hS1) (fun H1 locs1 hP2 hS2 => ?_)
    rw [← cat0]
    exact h9 H1 locs1 ls hl hP2 (cw_keys h8.1 hD1) hS2
  · intro idx M2 d1 as2 k ci fs rr rest L pc w1 E h0 h1 h2 h3 h4 h5 h6 h7 h8 ho H locs ls hl hP1 hD1 hS1
    subst ho
    exact g_backX (o := .inr E) rfl rfl rfl hA hD1 hS1 (g_runV X (htb2 h0) h1 h8 h2 h3 h4 h5 h6 h7 hRc hRs hl hP1 hD1 hS1) (fun H1 locs1 q ce hP2 hS2 hc hv hcl => g_outX hlocks hne rfl hP2 hS2 hc hv hcl)
  · intro idx M2 d1 as2 rest L pc w1 w2 v h0 h1 h5 h6 h7 h8 h9 H locs ls hl hP1 hD1 hS1
    refine g_back (o := .inl v) rfl rfl rfl hA hD1 hS1 (g_runS X (htb2 h0) h1 h8 h5 h6 h7 (hc0 v) (hs0 v) hl hP1 hD1 hS1) (fun H1 locs1 hP2 hS2 => ?_)
    rw [← cat0]
    exact h9 H1 locs1 ls hl hP2 (cw_keys h8.1 hD1) hS2
  · intro idx M2 d1 as2 rest L pc w1 E h0 h1 h5 h6 h7 h8 ho H locs ls hl hP1 hD1 hS1
    subst ho
    exact g_backX (o := .inr E) rfl rfl rfl hA hD1 hS1 (g_runS X (htb2 h0) h1 h8 h5 h6 h7 hRc hRs hl hP1 hD1 hS1) (fun H1 locs1 q ce hP2 hS2 hc hv hcl => g_outX hlocks hne rfl hP2 hS2 hc hv hcl)
  · exact fun i n pc L st v P h0 h1 h2 ho => g_ret X hr (htb2 h0) h1 h2 ho
  · intro pc L st E hown5 h0 h1 ho
    subst ho
    have X5 := X
    rw [hown5] at X5
    have h1c : 0 + 1 ≤ R.cells := hRc
    have h6s : 0 + 6 ≤ R.slots := hRs
    exact g_throw X5 htb2 hne h0 h1 rfl (by omega) (by omega)
  · exact fun k pc L st w h H locs ls hl hP hD hS => h H locs ls (ph_less hl) hP hD hS
end RULES
theorem Sp.of {M : PM} {lk : PL} {tb : PT} {ro : PRO} {d : Nat} {as : List PV} {w w' : PW} {o : PO} (hy : plainName M.1.cls = true) (hlk : lkOk M.1.cls lk) (htb : ∀ q ∈ tb, decode M.2.1 q.1 = .ok (q.2.1, q.2.2)) (hkeys : w'.map Prod.fst = w.map Prod.fst) (hnl : (lay as).length ≤ M.2.2.1)
    (body : ∀ G : PS → Prop, Ru M.1.cls lk ro tb M.2.2.2 d o w' G → G (0, lent M.2.2.1 as, [], w)) : Sp M ro d as w o w' := by
  refine ⟨hkeys, fun l hlt D cy ad sz => ?_⟩
  refine vx_ofW (cc := M.2.1) (maxL := M.2.2.1) (ret := M.2.2.2) hy rfl ?_
  intro p e s m args below meth c s₁ B hml hne hpre
  obtain ⟨rfl, hsz, hP, hK, hD0, hE⟩ := hpre
  subst hsz
  have hall := atoms_spec (ws := wsM M) B.pre
  have hroom : ∃ R : Room, R = (headSpec (wsM M) (prm d o)).room ∧ d + 8 ≤ R.frames ∧ 40 * d + 200 ≤ R.locals ∧ 0 + pmc o ≤ R.cells ∧ 0 + pms o ≤ R.slots := ⟨prm d o, rfl, Nat.le_refl _, Nat.le_refl _, by rw [Nat.zero_add]; exact Nat.le_refl _, by rw [Nat.zero_add]; exact Nat.le_refl _⟩
  obtain ⟨R, hR, r1, r2, r3, r4⟩ := hroom
  rw [← hR]
  have X : Cx p l R s m (as.map (pv ad)).toArray meth c 0 0 M.2.1 M.2.2.1 M.1.cls D cy ad (va_A (cw ad cy w) s.heap.size) ro d :=
    ⟨B.exec, B.bytes, hml, findClass_of_methodNamed B.named, fun x h => hall x (List.mem_cons_of_mem _ h), hK, hE, fun q h => Or.inr h, B.notSynchronized, hlt, ⟨r1, r2⟩, Nat.zero_le _, Nat.zero_le _⟩
  have hG := body _ (Ru_of (e := e) (below := below) (w' := w') X hlk htb B.returns hne r3 r4)
  rw [lg_entry_eq]
  have hlen : (lg_sl (as.map (pv ad))).length ≤ M.2.2.1 := by rw [lay_len]; exact hnl
  have hl := lv_entry (as.map (pv ad)) hlen
  refine hG s.heap [] _ ⟨?_, ?_⟩ hP hD0.self va_S.rf
  · unfold lent
    rw [lay_args]
    exact hl
  · unfold lent
    rw [List.length_append, List.length_replicate]
    omega
