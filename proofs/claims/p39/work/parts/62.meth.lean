/-! ===== the law's methods: what they answer, and how the world may lie behind them ===== -/
abbrev PPr : Type := Option PV → PW → Prop
def prmU (d U : Nat) : Room := { frames := d + 8, cells := U, slots := 16 * U, locals := 40 * d + 200 }
def pQm (D : va_G) (cy : Nat → ClassId) (ad : Nat → Nat) (Pr : PPr) (w : PW) (sz : Nat) : Array Value → State → Outcome → State → Prop := fun _ st oc t => ∃ (v : Option PV) (w' : PW), Pr v w' ∧ w'.map Prod.fst = w.map Prod.fst ∧ oc = .returned (v.map (pv ad)) ∧ va_P D vwCl (cw ad cy w') t.heap ∧ va_F (va_A (cw ad cy w) sz) st t
def Sm (M : PM) (ro : PRO) (d : Nat) (as : List PV) (w : PW) (Pr : PPr) (U : Nat) : Prop :=
  ∀ l : Launch, l.stackTraces = false → ∀ (D : va_G) (cy : Nat → ClassId) (ad : Nat → Nat) (sz : Nat), vx_Met l M.1 (wsM M) (prmU d U) (va_Pc (as.map (pv ad)) (pPre D cy ad ro w sz)) (pQm D cy ad Pr w sz) (fun _ _ _ => False) U (16 * U) (va_A (cw ad cy w) sz)
def SmK (KN : Nat) (M : PM) (ro : PRO) (d : Nat) (as : List PV) (w : PW) (Pr : PPr) (U : Nat) : Prop :=
  ∀ l : Launch, l.stackTraces = false → ∀ (D : va_G) (cy : Nat → ClassId) (ad : Nat → Nat) (sz : Nat), ad KN = sz → vx_Met l M.1 (wsM M) (prmU d U) (va_Pc (as.map (pv ad)) (pPre D cy ad ro w sz)) (pQm D cy ad Pr w sz) (fun _ _ _ => False) U (16 * U) (va_A (cw ad cy w) sz)
theorem Sm.mono {M : PM} {ro : PRO} {d U : Nat} {as : List PV} {w : PW} {Pr Pr2 : PPr} (h : Sm M ro d as w Pr U) (hp : ∀ v w', Pr v w' → Pr2 v w') : Sm M ro d as w Pr2 U := by
  intro l hlt D cy ad sz
  refine Jvm.Free.MetFree.mono (h l hlt D cy ad sz) (fun _ _ k => k) (fun _ _ _ _ _ k => k) ?_
  intro a s oc t _ hq
  rcases hq with ⟨⟨v, w', q1, q2⟩, q3⟩ | ⟨x, q1, E, ce, L, q2, q5⟩
  · exact .inl ⟨⟨v, w', hp _ _ q1, q2⟩, q3⟩
  · exact q2.elim
def sLinkW (own : String) (idx : Nat) (M : PM) (hh : PHH) (n : Nat) : Prop := Cond.methodLink own idx M.1 ∈ gT ∧ Cond.static M.1 ∈ gT ∧ Cond.initialized M.1.cls ∈ gT ∧ Cond.codeWith M.1 M.2.1 M.2.2.1 M.2.2.2 hh ∈ gT ∧ mNm M n
/-- the rules of such a method's body; by what is made -/
def Rm (own : String) (lk : PL) (ro : PRO) (tb : PT) (ret : Option FieldType) (d U : Nat) (Pr : PPr) (ks : List Nat) (G : Nat → PS → Prop) : Prop :=
  (∀ (u n : Nat) (S S' : PS) (P : Option Prop), prun lk ro tb n S = some (S', P) → (∀ q, P = some q → q) → G u S' → G u S) ∧
  (∀ (u : Nat) (S : PS) (i : Instr) (n : Nat) (P C : Prop) (S1 S2 : PS), alk tb S.1 = some (i, n) → pbr i n S = some (P, C, S1, S2) → P → (C → G u S1) → (¬ C → G u S2) → G u S) ∧
  (∀ (u idx : Nat) (M : PM) (d1 : Nat) (as : List PV) (k ci : Nat) (fs : List PV) (rr : vw_C) (rest : List PV) (L : List (Option PV)) (pc : Nat) (w w2 : PW) (v : Option PV), alk tb pc = some (.invokevirtual idx, 3) → vLink own idx M as.length → alk w k = some (.inr (ci, fs)) → vwCl[ci]? = some rr → rr.1 = M.1.cls → d1 + 1 ≤ d → M.2.2.1 ≤ 20 → pcat rest ≤ 8 → Sp M ro d1 (vR k :: as) w (.inl v) w2 → G u (pc + 3, L, v.toList ++ rest, w2) → G u (pc, L, as.reverse ++ vR k :: rest, w)) ∧
  (∀ (u idx : Nat) (M : PM) (d1 : Nat) (as : List PV) (rest : List PV) (L : List (Option PV)) (pc : Nat) (w w2 : PW) (v : Option PV), alk tb pc = some (.invokestatic idx, 3) → sLink own idx M as.length → d1 + 1 ≤ d → M.2.2.1 ≤ 20 → pcat rest ≤ 8 → Sp M ro d1 as w (.inl v) w2 → G u (pc + 3, L, v.toList ++ rest, w2) → G u (pc, L, as.reverse ++ rest, w)) ∧
  (∀ (u idx : Nat) (M : PM) (hh : PHH) (d1 : Nat) (as : List PV) (rest : List PV) (L : List (Option PV)) (pc : Nat) (w w2 : PW) (v : PV), alk tb pc = some (.invokestatic idx, 3) → sLinkW own idx M hh as.length → d1 + 1 ≤ d → M.2.2.1 ≤ 20 → pcat rest ≤ 8 → u + 1 ≤ U → Sw M hh ro d1 as w v w2 → G (u + 1) (pc + 3, L, v :: rest, w2) → G u (pc, L, as.reverse ++ rest, w)) ∧
  (∀ (u idx : Nat) (M : PM) (d1 k : Nat) (Pr2 : PPr) (as : List PV) (rest : List PV) (L : List (Option PV)) (pc : Nat) (w : PW), alk tb pc = some (.invokestatic idx, 3) → sLink own idx M as.length → d1 + 1 ≤ d → M.2.2.1 ≤ 20 → pcat rest ≤ 8 → u + k ≤ U → Sm M ro d1 as w Pr2 k → (∀ (v : Option PV) (w2 : PW), Pr2 v w2 → w2.map Prod.fst = w.map Prod.fst → G (u + k) (pc + 3, L, v.toList ++ rest, w2)) → G u (pc, L, as.reverse ++ rest, w)) ∧
  (∀ (u : Nat) (i : Instr) (n pc : Nat) (L : List (Option PV)) (st : List PV) (v : Option PV) (P : Prop) (w : PW), alk tb pc = some (i, n) → pret ret i n st = some (v, P) → P → Pr v w → w.map Prod.fst = ks → G u (pc, L, st, w)) ∧
  (∀ (u k pc : Nat) (L : List (Option PV)) (st : List PV) (w : PW), G u (pc, lset L k none, st, w) → G u (pc, L, st, w))
def GU (p : Program) (l : Launch) (e : Env) (R : Room) (s : State) (m : MethodId) (args : Array Value) (below : List Frame) (meth : Method) (c : Code) (Q : State → Prop) (nL : Nat) (D : va_G) (cy : Nat → ClassId) (ad : Nat → Nat) (A : Nat → Prop) (c0 s0 U u : Nat) (S : PS) : Prop :=
  u ≤ U → Gd p l e R s m args below meth c (c0 + u) (s0 + 16 * u) Q nL D cy ad A S
section METH
variable {p : Program} {l : Launch} {e : Env} {R : Room} {s : State} {m : MethodId} {args : Array Value} {below : List Frame} {meth : Method} {c : Code} {cl sl : Nat} {Q : State → Prop}
variable {cc : ByteArray} {nL : Nat} {own : String} {D : va_G} {cy : Nat → ClassId} {ad : Nat → Nat} {A : Nat → Prop} {ro : PRO} {dd : Nat}
theorem g_backS {H : Heap} {locs : List Loc} {pc : Nat} {ls : Array Slot} {st0 rest : List Value} {w w' : PW} {v : PV} {a : Array Value} (hA : ∀ q, s.heap.size ≤ q → A q) (hD : va_D A (cw ad cy w)) (hS : va_S A s.heap H locs)
    (hr : vx_Run p l e R s m args below meth c H locs cl sl 1 6 (F0 m pc ls st0) rest (pQ D cy ad (.inl (some v)) w w' H.size a) (fun _ _ _ => False) (va_A (cw ad cy w) H.size))
    (kk : ∀ (H1 : Heap) (locs1 : List Loc), va_P D vwCl (cw ad cy w') H1 → va_S A s.heap H1 locs1 → W p l e R s m args below meth c H1 locs1 (cl + 1) (sl + 6) Q (F0 m (pc + 3) ls (pv ad v :: rest))) : W p l e R s m args below meth c H locs cl sl Q (F0 m pc ls st0) := by
  have hf := va_A_in hA hD hS
  intro T hT X
  rcases hr T hT X with ⟨v', st₀, t, T', L, h0, X', hL, e1, e2, ⟨v2, q1, q2, q3, hF⟩, st⟩ | ⟨q, st₀, t, T', L, E, ce, h0, X', hL, e1, e2, hbad, -⟩
  · cases q1
    cases q2
    obtain ⟨-, -, k3⟩ := vx_keep h0 e1 hS (fun q _ h => hf q h) hf hL hF
    obtain ⟨t2, a1, b1⟩ := kk T'.heap (locs ++ L) (by rw [e1]; exact q3) k3 T' rfl X'
    exact ⟨t2, st t2 a1, b1⟩
  · exact hbad.elim
theorem g_backM {H : Heap} {locs : List Loc} {pc mc ms : Nat} {ls : Array Slot} {st0 rest : List Value} {w : PW} {Pr : PPr} {a : Array Value} (hA : ∀ q, s.heap.size ≤ q → A q) (hD : va_D A (cw ad cy w)) (hS : va_S A s.heap H locs)
    (hr : vx_Run p l e R s m args below meth c H locs cl sl mc ms (F0 m pc ls st0) rest (pQm D cy ad Pr w H.size a) (fun _ _ _ => False) (va_A (cw ad cy w) H.size))
    (kk : ∀ (v : Option PV) (w' : PW) (H1 : Heap) (locs1 : List Loc), Pr v w' → w'.map Prod.fst = w.map Prod.fst → va_P D vwCl (cw ad cy w') H1 → va_S A s.heap H1 locs1 → W p l e R s m args below meth c H1 locs1 (cl + mc) (sl + ms) Q (F0 m (pc + 3) ls (v.toList.map (pv ad) ++ rest))) : W p l e R s m args below meth c H locs cl sl Q (F0 m pc ls st0) := by
  have hf := va_A_in hA hD hS
  intro T hT X
  rcases hr T hT X with ⟨v', st₀, t, T', L, h0, X', hL, e1, e2, ⟨v2, w2, q0, q1, q2, q3, hF⟩, st⟩ | ⟨q, st₀, t, T', L, E, ce, h0, X', hL, e1, e2, hbad, -⟩
  · cases q2
    obtain ⟨-, -, k3⟩ := vx_keep h0 e1 hS (fun q _ h => hf q h) hf hL hF
    obtain ⟨t2, a1, b1⟩ := kk v2 w2 T'.heap (locs ++ L) q0 q1 (by rw [e1]; exact q3) k3 T' rfl X'
    refine ⟨t2, st t2 ?_, b1⟩
    have e4 : (Option.map (pv ad) v2).toList = v2.toList.map (pv ad) := by cases v2 <;> rfl
    rw [e4]
    exact a1
  · exact hbad.elim
theorem g_runSW {H : Heap} {locs : List Loc} {pc idx d : Nat} {L : List (Option PV)} {ls : Array Slot} {as rest : List PV} {v : PV} {w w' : PW} {M : PM} {hh : PHH} (X : Cx p l R s m args meth c cl sl cc nL own D cy ad A ro dd) (hd : decode cc pc = .ok (.invokestatic idx, 3)) (hk : sLinkW own idx M hh as.length) (hM : Sw M hh ro d as w v w')
    (hdd : d + 1 ≤ dd) (hnl : M.2.2.1 ≤ 20) (hrest : pcat rest ≤ 8) (hcc : cl + 1 ≤ R.cells) (hss : sl + 6 ≤ R.slots) (hl : ph ad ls nL L) (hP : va_P D vwCl (cw ad cy w) H) (hD : va_D A (cw ad cy w)) (hS : va_S A s.heap H locs) :
    vx_Run p l e R s m args below meth c H locs cl sl 1 6 (F0 m pc ls ((as.reverse ++ rest).map (pv ad))) (rest.map (pv ad)) (pQ D cy ad (.inl (some v)) w w' H.size (as.map (pv ad)).toArray) (fun _ _ _ => False) (va_A (cw ad cy w) H.size) := by
  have X0 := X
  obtain ⟨hx, hb, hml, hown, hts, hK, hE, hA, -, hlt, ⟨hfr, hlo⟩, -, -⟩ := X0
  obtain ⟨k1, k2, k4, k5, k6, k7, k8⟩ := hk
  have hMet := hM.2 l hlt D cy ad H.size
  have hG0 : GoodIn gT (wsH M hh) := by
    intro w hw
    rcases List.mem_cons.mp hw with rfl | hw
    · exact gT_good _ k5
    · exact gT_good _ hw
  have hG : GoodIn gT (va_wsS own idx M.1 (wsH M hh)) := by
    intro w hw
    unfold va_wsS at hw
    rcases List.mem_append.mp hw with hw | hw
    · simp only [List.mem_cons, List.not_mem_nil, or_false] at hw
      rcases hw with rfl | rfl | rfl
      · exact gT_good _ k1
      · exact gT_good _ k2
      · exact gT_good _ k4
    · exact hG0 w hw
  refine vx_runSX (hh := hh) (cc := cc) (nL := nL) (Ts := gT) (own := own) (As := as.map (pv ad)) (bytes := M.2.1) (maxL := M.2.2.1) (ret := M.2.2.2) (n := as.length) ⟨hx, hb, hml, hown, hts⟩ hMet (vx_cwSW as.length hts hG rfl rfl rfl ⟨k6, k7, k8⟩ ⟨?_, ?_⟩) ⟨pPre_blind, fun U hU hW => ⟨rfl, pPre_of X hP hD hS hU hW⟩⟩ rfl (by rw [List.length_map]) hl.1.1 (by rw [pv_rev]) ?_ hd ⟨hcc, hss⟩
  · show d + 8 + 1 ≤ R.frames
    omega
  · show 8 + (M.2.2.1 + 11) + (40 * d + 200) ≤ R.locals
    omega
  · exact lv_room (by rw [pcat_eq]; exact hrest)
theorem g_runM {H : Heap} {locs : List Loc} {pc idx d U : Nat} {L : List (Option PV)} {ls : Array Slot} {as rest : List PV} {w : PW} {Pr : PPr} {M : PM} (X : Cx p l R s m args meth c cl sl cc nL own D cy ad A ro dd) (hd : decode cc pc = .ok (.invokestatic idx, 3)) (hk : sLink own idx M as.length) (hM : Sm M ro d as w Pr U)
    (hdd : d + 1 ≤ dd) (hnl : M.2.2.1 ≤ 20) (hrest : pcat rest ≤ 8) (hcc : cl + U ≤ R.cells) (hss : sl + 16 * U ≤ R.slots) (hl : ph ad ls nL L) (hP : va_P D vwCl (cw ad cy w) H) (hD : va_D A (cw ad cy w)) (hS : va_S A s.heap H locs) :
    vx_Run p l e R s m args below meth c H locs cl sl U (16 * U) (F0 m pc ls ((as.reverse ++ rest).map (pv ad))) (rest.map (pv ad)) (pQm D cy ad Pr w H.size (as.map (pv ad)).toArray) (fun _ _ _ => False) (va_A (cw ad cy w) H.size) := by
  have X0 := X
  obtain ⟨hx, hb, hml, hown, hts, hK, hE, hA, -, hlt, ⟨hfr, hlo⟩, -, -⟩ := X0
  obtain ⟨k1, k2, k4, k5, k6, k7, k8⟩ := hk
  have hMet := hM l hlt D cy ad H.size
  have hG : GoodIn gT (va_wsS own idx M.1 (wsM M)) := gT_inL k5 (by
    intro w hw
    simp only [List.mem_cons, List.not_mem_nil, or_false] at hw
    rcases hw with rfl | rfl | rfl
    · exact k1
    · exact k2
    · exact k4)
  refine vx_runS (cc := cc) (nL := nL) (Ts := gT) (own := own) (As := as.map (pv ad)) (bytes := M.2.1) (maxL := M.2.2.1) (ret := M.2.2.2) (n := as.length) ⟨hx, hb, hml, hown, hts⟩ hMet (va_cwS as.length hts hG rfl rfl rfl ⟨k6, k7, k8⟩ ⟨?_, ?_⟩) ⟨pPre_blind, fun U hU hW => ⟨rfl, pPre_of X hP hD hS hU hW⟩⟩ rfl (by rw [List.length_map]) hl.1.1 (by rw [pv_rev]) ?_ hd ⟨hcc, hss⟩
  · show d + 8 + 1 ≤ R.frames
    omega
  · show 8 + (M.2.2.1 + 11) + (40 * d + 200) ≤ R.locals
    omega
  · exact lv_room (by rw [pcat_eq]; exact hrest)
theorem Rm_of {lk : PL} {tb : PT} {ret : Option FieldType} {c0 s0 U : Nat} {Pr : PPr} {ks : List Nat} (X : ∀ u, u ≤ U → Cx p l R s m args meth c (c0 + u) (s0 + 16 * u) cc nL own D cy ad A ro dd) (hA : ∀ q, s.heap.size ≤ q → A q) (hlk : lkOk own lk) (htb : ∀ q ∈ tb, decode cc q.1 = .ok (q.2.1, q.2.2)) (hRc : c0 + U ≤ R.cells) (hRs : s0 + 16 * U ≤ R.slots)
    (hret : ∀ (u : Nat) (i : Instr) (n pc : Nat) (L : List (Option PV)) (st : List PV) (v : Option PV) (P : Prop) (w : PW), u ≤ U → decode cc pc = .ok (i, n) → pret ret i n st = some (v, P) → P → Pr v w → w.map Prod.fst = ks → Gd p l e R s m args below meth c (c0 + u) (s0 + 16 * u) Q nL D cy ad A (pc, L, st, w)) :
    Rm own lk ro tb ret dd U Pr ks (GU p l e R s m args below meth c Q nL D cy ad A c0 s0 U) := by
  have htb2 : ∀ {a : Nat} {i : Instr} {n : Nat}, alk tb a = some (i, n) → decode cc a = .ok (i, n) := fun {a i n} h => htb (a, (i, n)) (alk_mem h)
  refine ⟨?_, ?_, ?_, ?_, ?_, ?_, ?_, ?_⟩
  · exact fun u n S S' P h1 h2 h3 hu => prun_sound (X u hu) hlk htb h1 h2 (h3 hu)
  · exact fun u S i n P C S1 S2 h0 h1 h2 h3 h4 hu => pbr_sound (X u hu) (htb2 h0) h1 h2 (fun z => h3 z hu) (fun z => h4 z hu)
  · intro u idx M2 d1 as2 k ci fs rr rest L pc w1 w2 v h0 h1 h2 h3 h4 h5 h6 h7 h8 h9 hu H locs ls hl hP1 hD1 hS1
    refine g_back (o := .inl v) rfl rfl rfl hA hD1 hS1 (g_runV (X u hu) (htb2 h0) h1 h8 h2 h3 h4 h5 h6 h7 (by show c0 + u + 0 ≤ R.cells; omega) (by show s0 + 16 * u + 0 ≤ R.slots; omega) hl hP1 hD1 hS1) (fun H1 locs1 hP2 hS2 => ?_)
    rw [← cat0]
    exact h9 hu H1 locs1 ls hl hP2 (cw_keys h8.1 hD1) hS2
  · intro u idx M2 d1 as2 rest L pc w1 w2 v h0 h1 h5 h6 h7 h8 h9 hu H locs ls hl hP1 hD1 hS1
    refine g_back (o := .inl v) rfl rfl rfl hA hD1 hS1 (g_runS (X u hu) (htb2 h0) h1 h8 h5 h6 h7 (by show c0 + u + 0 ≤ R.cells; omega) (by show s0 + 16 * u + 0 ≤ R.slots; omega) hl hP1 hD1 hS1) (fun H1 locs1 hP2 hS2 => ?_)
    rw [← cat0]
    exact h9 hu H1 locs1 ls hl hP2 (cw_keys h8.1 hD1) hS2
  · intro u idx M2 hh d1 as2 rest L pc w1 w2 v h0 h1 h5 h6 h7 hU h8 h9 hu H locs ls hl hP1 hD1 hS1
    refine g_backS hA hD1 hS1 (g_runSW (X u hu) (htb2 h0) h1 h8 h5 h6 h7 (by omega) (by omega) hl hP1 hD1 hS1) (fun H1 locs1 hP2 hS2 => ?_)
    have h10 := h9 hU H1 locs1 ls hl hP2 (cw_keys h8.1 hD1) hS2
    refine W.widen (k := c0 + (u + 1)) (n := s0 + 16 * (u + 1)) (by omega) (by omega) ?_
    exact h10
  · intro u idx M2 d1 k Pr2 as2 rest L pc w1 h0 h1 h5 h6 h7 hU h8 h9 hu H locs ls hl hP1 hD1 hS1
    refine g_backM hA hD1 hS1 (g_runM (X u hu) (htb2 h0) h1 h8 h5 h6 h7 (by omega) (by omega) hl hP1 hD1 hS1) (fun v w2 H1 locs1 hp hk hP2 hS2 => ?_)
    have h10 := h9 v w2 hp hk hU H1 locs1 ls hl hP2 (cw_keys hk hD1) hS2
    refine W.widen (k := c0 + (u + k)) (n := s0 + 16 * (u + k)) (by omega) (by omega) ?_
    rw [← cat0]
    exact h10
  · exact fun u i n pc L st v P w h0 h1 h2 h3 h4 hu => hret u i n pc L st v P w hu (htb2 h0) h1 h2 h3 h4
  · exact fun u k pc L st w h hu H locs ls hl hP hD hS => h hu H locs ls (ph_less hl) hP hD hS
theorem g_retM {ret : Option FieldType} {i : Instr} {n pc u U : Nat} {L : List (Option PV)} {st : List PV} {v : Option PV} {P : Prop} {Pr : PPr} {w0 w w' : PW} (X : Cx p l R s m args meth c 0 0 cc nL own D cy ad (va_A (cw ad cy w0) s.heap.size) ro dd) (hr : meth.sig.returnType = ret) (hu : u ≤ U) (hd : decode cc pc = .ok (i, n)) (h : pret ret i n st = some (v, P)) (hP0 : P) (hp : Pr v w') (hk : w'.map Prod.fst = w0.map Prod.fst) (hsub : ∀ q ∈ w', q ∈ w) :
    Gd p l e R s m args below meth c (0 + u) (0 + 16 * u) (vx_MQ below (pQm D cy ad Pr w0 s.heap.size) (fun _ _ _ => False) args s U (16 * U) (va_A (cw ad cy w0) s.heap.size)) nL D cy ad (va_A (cw ad cy w0) s.heap.size) (pc, L, st, w) := by
  obtain ⟨hx, hb, -, -, -, -, -, -, hlocks, -⟩ := X
  intro H locs ls hl hP0' hD hS
  have hP : va_P D vwCl (cw ad cy w') H := by
    refine vaP_mem.mpr fun q hq => vaP_mem.mp hP0' q ?_
    obtain ⟨x, hx1, hx2⟩ := List.mem_map.mp hq
    exact List.mem_map.mpr ⟨x, hsub x hx1, hx2⟩
  refine W.widen (k := U) (n := 16 * U) (by omega) (by omega) (vx_ret ?_)
  unfold pret at h
  split at h
  · next v0 =>
    split at h
    · cases h
      exact W.iret hx hb hr (fun t ht _ => ⟨_, _, hp, hk, rfl, by rw [ht]; exact hP, hS.F ht⟩) hS.2.2 hd hlocks
    · cases h
      exact W.zret hx hb hr (by rcases hP0 with rfl | rfl <;> rfl) (fun t ht _ => ⟨_, _, hp, hk, rfl, by rw [ht]; exact hP, hS.F ht⟩) hS.2.2 hd hlocks
    · cases h
  · next v0 =>
    split at h
    · cases h
      exact W.lret hx hb hr (fun t ht _ => ⟨_, _, hp, hk, rfl, by rw [ht]; exact hP, hS.F ht⟩) hS.2.2 hd hlocks
    · cases h
  · split at h
    · cases h
      exact W.vret hx hb hr (fun t ht _ => ⟨_, _, hp, hk, rfl, by rw [ht]; exact hP, hS.F ht⟩) hS.2.2 hd hlocks
    · cases h
  · cases h
theorem swap_end {x : Nat × va_E} {w : va_W} (h : va_D A (w ++ [x])) : va_D A (x :: w) := by
  have key : ∀ (i : Nat) (q : Nat × va_E), (x :: w)[i]? = some q → (w ++ [x])[if i = 0 then w.length else i - 1]? = some q := by
    intro i q hi
    cases i with
    | zero =>
      rw [if_pos rfl, List.getElem?_append_right (Nat.le_refl _), Nat.sub_self]
      exact hi
    | succ i =>
      rw [List.getElem?_cons_succ] at hi
      have hl := (List.getElem?_eq_some_iff.mp hi).1
      rw [if_neg (by omega), Nat.add_sub_cancel, List.getElem?_append_left hl]
      exact hi
  refine ⟨fun i j a b hi hj hab => ?_, fun i q hi => h.2 _ q (key i q hi)⟩
  have h1 := h.1 _ _ a b (key i a hi) (key j b hj) hab
  have hi2 := (List.getElem?_eq_some_iff.mp hi).1
  have hj2 := (List.getElem?_eq_some_iff.mp hj).1
  rw [List.length_cons] at hi2 hj2
  split at h1 <;> split at h1 <;> omega
end METH
theorem Sm.of {M : PM} {lk : PL} {tb : PT} {ro : PRO} {d U : Nat} {as : List PV} {w : PW} {Pr : PPr} (hy : plainName M.1.cls = true) (hlk : lkOk M.1.cls lk) (htb : ∀ q ∈ tb, decode M.2.1 q.1 = .ok (q.2.1, q.2.2)) (hnl : (lay as).length ≤ M.2.2.1)
    (body : ∀ G : Nat → PS → Prop, Rm M.1.cls lk ro tb M.2.2.2 d U Pr (w.map Prod.fst) G → G 0 (0, lent M.2.2.1 as, [], w)) : Sm M ro d as w Pr U := by
  intro l hlt D cy ad sz
  refine vx_ofW (cc := M.2.1) (maxL := M.2.2.1) (ret := M.2.2.2) hy rfl ?_
  intro p e s m args below meth c s₁ B hml hne hpre
  obtain ⟨rfl, hsz, hP, hK, hD0, hE⟩ := hpre
  subst hsz
  have hall := atoms_spec (ws := wsM M) B.pre
  have hroom : ∃ R : Room, R = (headSpec (wsM M) (prmU d U)).room ∧ d + 8 ≤ R.frames ∧ 40 * d + 200 ≤ R.locals ∧ 0 + U ≤ R.cells ∧ 0 + 16 * U ≤ R.slots := ⟨prmU d U, rfl, Nat.le_refl _, Nat.le_refl _, by rw [Nat.zero_add]; exact Nat.le_refl _, by rw [Nat.zero_add]; exact Nat.le_refl _⟩
  obtain ⟨R, hR, r1, r2, r3, r4⟩ := hroom
  rw [← hR]
  have X : Cx p l R s m (as.map (pv ad)).toArray meth c 0 0 M.2.1 M.2.2.1 M.1.cls D cy ad (va_A (cw ad cy w) s.heap.size) ro d :=
    ⟨B.exec, B.bytes, hml, findClass_of_methodNamed B.named, fun x h => hall x (List.mem_cons_of_mem _ h), hK, hE, fun q h => Or.inr h, B.notSynchronized, hlt, ⟨r1, r2⟩, Nat.zero_le _, Nat.zero_le _⟩
  have hG := body _ (Rm_of (e := e) (below := below) (Q := vx_MQ below (pQm D cy ad Pr w s.heap.size) (fun _ _ _ => False) (as.map (pv ad)).toArray s U (16 * U) (va_A (cw ad cy w) s.heap.size)) (c0 := 0) (s0 := 0) (fun u hu => X.at (by omega) (by omega)) (fun q h => Or.inr h) hlk htb r3 r4 (fun u i n pc L st v P w' hu hd h h0 hp hk => g_retM X B.returns hu hd h h0 hp hk (fun _ k => k)))
  have hG := hG (Nat.zero_le _)
  rw [lg_entry_eq]
  have hlen : (lg_sl (as.map (pv ad))).length ≤ M.2.2.1 := by rw [lay_len]; exact hnl
  have hl := lv_entry (as.map (pv ad)) hlen
  refine hG s.heap [] _ ⟨?_, ?_⟩ hP hD0.self va_S.rf
  · unfold lent
    rw [lay_args]
    exact hl
  · unfold lent
    rw [List.length_append, List.length_replicate]
    omega
/-- a method that makes a row first of all: the row's key is KN -/
theorem SmK.of {KN : Nat} {M : PM} {lk : PL} {tb : PT} {ro : PRO} {d U : Nat} {as : List PV} {w : PW} {Pr : PPr} (hy : plainName M.1.cls = true) (hlk : lkOk M.1.cls lk) (htb : ∀ q ∈ tb, decode M.2.1 q.1 = .ok (q.2.1, q.2.2)) (hnl : (lay as).length ≤ M.2.2.1) (hU : 1 ≤ U)
    (body : ∀ G : Nat → PS → Prop, Rm M.1.cls lk ro tb M.2.2.2 d U Pr (w.map Prod.fst) G →
      Rm M.1.cls lk ro tb M.2.2.2 d U (fun v w2 => ∃ e w', w2 = (KN, e) :: w' ∧ w'.map Prod.fst = w.map Prod.fst ∧ Pr v w') (KN :: w.map Prod.fst) G →
      (∀ (pc : Nat) (L : List (Option PV)) (st : List PV) (w : PW) (N : Nat), alk tb pc = some (.newarray .int, 2) → N ≤ 16 → G 1 (pc + 2, L, vR KN :: st, (KN, .inl (N, .inl (fun _ => 0))) :: w) → G 0 (pc, L, vI (N : Int) :: st, w)) →
      G 0 (0, lent M.2.2.1 as, [], w)) : SmK KN M ro d as w Pr U := by
  intro l hlt D cy ad sz had
  refine vx_ofW (cc := M.2.1) (maxL := M.2.2.1) (ret := M.2.2.2) hy rfl ?_
  intro p e s m args below meth c s₁ B hml hne hpre
  obtain ⟨rfl, hsz, hP, hK, hD0, hE⟩ := hpre
  subst hsz
  have hall := atoms_spec (ws := wsM M) B.pre
  have hroom : ∃ R : Room, R = (headSpec (wsM M) (prmU d U)).room ∧ d + 8 ≤ R.frames ∧ 40 * d + 200 ≤ R.locals ∧ 0 + U ≤ R.cells ∧ 0 + 16 * U ≤ R.slots := ⟨prmU d U, rfl, Nat.le_refl _, Nat.le_refl _, by rw [Nat.zero_add]; exact Nat.le_refl _, by rw [Nat.zero_add]; exact Nat.le_refl _⟩
  obtain ⟨R, hR, r1, r2, r3, r4⟩ := hroom
  rw [← hR]
  have X : Cx p l R s m (as.map (pv ad)).toArray meth c 0 0 M.2.1 M.2.2.1 M.1.cls D cy ad (va_A (cw ad cy w) s.heap.size) ro d :=
    ⟨B.exec, B.bytes, hml, findClass_of_methodNamed B.named, fun x h => hall x (List.mem_cons_of_mem _ h), hK, hE, fun q h => Or.inr h, B.notSynchronized, hlt, ⟨r1, r2⟩, Nat.zero_le _, Nat.zero_le _⟩
  have hKS : ∀ i k : Nat, [KN][i]? = some k → ad k = s.heap.size + i := by
    intro i k hi
    have h0 : i < 1 := (List.getElem?_eq_some_iff.mp hi).1
    rw [show i = 0 by omega] at hi ⊢
    cases hi
    exact had
  have hG := body _ (Rm_of (e := e) (below := below) (Q := vx_MQ below (pQm D cy ad Pr w s.heap.size) (fun _ _ _ => False) (as.map (pv ad)).toArray s U (16 * U) (va_A (cw ad cy w) s.heap.size)) (c0 := 0) (s0 := 0) (fun u hu => X.at (by omega) (by omega)) (fun q h => Or.inr h) hlk htb r3 r4 (fun u i n pc L st v P w' hu hd h h0 hp hk => g_retM X B.returns hu hd h h0 hp hk (fun _ k => k)))
    (Rm_of (e := e) (below := below) (Q := vx_MQ below (pQm D cy ad Pr w s.heap.size) (fun _ _ _ => False) (as.map (pv ad)).toArray s U (16 * U) (va_A (cw ad cy w) s.heap.size)) (c0 := 0) (s0 := 0) (fun u hu => X.at (by omega) (by omega)) (fun q h => Or.inr h) hlk htb r3 r4 (fun u i n pc L st v P w' hu hd h h0 hp hk => by
      obtain ⟨e2, w3, rfl, hk3, hp3⟩ := hp
      exact g_retM X B.returns hu hd h h0 hp3 hk3 (fun _ k => List.mem_cons_of_mem _ k)))
    (fun pc L st w2 N h0 hN hG2 _ => by
      have htb2 : decode M.2.1 pc = .ok (.newarray .int, 2) := htb (pc, (.newarray .int, 2)) (alk_mem h0)
      refine g_newa (KS := [KN]) (k := KN) (cl := 0) (sl := 0) X hKS htb2 arr_words.1 (by omega) rfl rfl (by omega) (by omega) ?_
      have h3 := hG2 hU
      intro H locs ls hl hP2 hD2 hS2
      rw [cw_apF] at hP2 hD2
      have h4 := h3 H locs ls hl (vaP_mem.mpr fun q hq => vaP_mem.mp hP2 q (by
        rcases List.mem_cons.mp hq with rfl | hq
        · exact List.mem_append_right _ List.mem_cons_self
        · exact List.mem_append_left _ hq)) (swap_end hD2) hS2
      refine W.widen (k := 0 + 1) (n := 0 + 16 * 1) (by omega) (by omega) h4)
  have hG := hG (Nat.zero_le _)
  rw [lg_entry_eq]
  have hlen : (lg_sl (as.map (pv ad))).length ≤ M.2.2.1 := by rw [lay_len]; exact hnl
  have hl := lv_entry (as.map (pv ad)) hlen
  refine hG s.heap [] _ ⟨?_, ?_⟩ hP hD0.self va_S.rf
  · unfold lent
    rw [lay_args]
    exact hl
  · unfold lent
    rw [List.length_append, List.length_replicate]
    omega
/-- a key that nothing names -/
def noV (KN : Nat) : PV → Prop
  | .inr (.inr (some k)) => k ≠ KN
  | _ => True
def noE (KN : Nat) : PE → Prop
  | .inl (_, .inr (.inr f)) => ∀ j, f j ≠ some KN
  | .inl _ => True
  | .inr (_, fs) => ∀ v ∈ fs, noV KN v
def noK (KN : Nat) (w : PW) : Prop := ∀ q ∈ w, q.1 ≠ KN ∧ noE KN q.2
theorem noV_pv {KN sz : Nat} {ad : Nat → Nat} {v : PV} (h : noV KN v) : pv (fun k => if k = KN then sz else ad k) v = pv ad v := by
  rcases v with i | (i | (_ | k))
  · rfl
  · rfl
  · rfl
  · show Value.ref (if k = KN then sz else ad k) = Value.ref (ad k)
    rw [if_neg h]
theorem noE_pe {KN sz : Nat} {ad : Nat → Nat} {cy : Nat → ClassId} {e : PE} (h : noE KN e) : pe (fun k => if k = KN then sz else ad k) cy e = pe ad cy e := by
  rcases e with ⟨n, f | (f | f)⟩ | ⟨c, fs⟩
  · rfl
  · rfl
  · show (.inl (cy 2, n, .inr (.inr (.inr (.inr (fun j : Nat => (f (j : Int)).map (fun k => if k = KN then sz else ad k)))))) : va_E) = .inl (cy 2, n, .inr (.inr (.inr (.inr (fun j : Nat => (f (j : Int)).map ad)))))
    have h2 : (fun j : Nat => (f (j : Int)).map (fun k => if k = KN then sz else ad k)) = (fun j : Nat => (f (j : Int)).map ad) := by
      funext j
      have h3 := h (j : Int)
      cases hf : f (j : Int) with
      | none => rfl
      | some k =>
        rw [hf] at h3
        show some (if k = KN then sz else ad k) = some (ad k)
        rw [if_neg (fun hk => h3 (by rw [hk]))]
    rw [h2]
  · show (.inr (c, fs.map (pv (fun k => if k = KN then sz else ad k))) : va_E) = .inr (c, fs.map (pv ad))
    rw [List.map_congr_left (fun v hv => noV_pv (h v hv))]
theorem noK_cw {KN sz : Nat} {ad : Nat → Nat} {cy : Nat → ClassId} {w : PW} (h : noK KN w) : cw (fun k => if k = KN then sz else ad k) cy w = cw ad cy w := by
  unfold cw
  refine List.map_congr_left (fun q hq => ?_)
  obtain ⟨h1, h2⟩ := h q hq
  exact Prod.ext (if_neg h1) (noE_pe h2)
theorem noK_as {KN sz : Nat} {ad : Nat → Nat} {as : List PV} (h : ∀ v ∈ as, noV KN v) : as.map (pv (fun k => if k = KN then sz else ad k)) = as.map (pv ad) := List.map_congr_left (fun v hv => noV_pv (h v hv))
theorem Sm.ofK {KN : Nat} {M : PM} {ro : PRO} {d U : Nat} {as : List PV} {w : PW} {Pr : PPr} (h : SmK KN M ro d as w Pr U) (hw : noK KN w) (ha : ∀ v ∈ as, noV KN v) (hro : ∀ q ∈ ro, q.1 ≠ KN) (h99 : KN ≠ 99) (hp : ∀ v w', Pr v w' → noK KN w' ∧ ∀ x ∈ v, noV KN x) : Sm M ro d as w Pr U := by
  intro l hlt D cy ad sz
  have hm := h l hlt D cy (fun k => if k = KN then sz else ad k) sz (if_pos rfl)
  rw [noK_as ha, noK_cw hw] at hm
  refine Jvm.Free.MetFree.mono hm ?_ (fun _ _ _ _ _ k => k) ?_
  · intro a s hpre
    obtain ⟨h0, hsz, hP, hK, hD, h1, h2, h3, h4, h5, h6⟩ := hpre
    refine ⟨h0, hsz, by rw [noK_cw hw]; exact hP, hK, by rw [noK_cw hw]; exact hD, by rw [noK_cw hw]; exact h1, by rw [noK_cw hw]; exact h2, h3, ?_, ?_, h6⟩
    · rw [noK_cw hw]
      show va_Z RX1 "ORDER" "[I" (.ref (if 99 = KN then sz else ad 99)) _ s s.heap
      rw [if_neg (fun q => h99 q.symm)]
      exact h4
    · rw [noK_cw hw]
      intro q hq
      show va_T .int (if q.1 = KN then sz else ad q.1) _ _ _ s s.heap
      rw [if_neg (hro q hq)]
      exact h5 q hq
  · intro a s oc t _ hq
    rcases hq with ⟨⟨v, w', q1, q2, q3, q4, q5⟩, L, q6⟩ | ⟨x, q1, E, ce, L, q2, q5⟩
    · obtain ⟨n1, n2⟩ := hp _ _ q1
      refine .inl ⟨⟨v, w', q1, q2, ?_, ?_, ?_⟩, L, q6⟩
      · rw [q3]
        cases v with
        | none => rfl
        | some x =>
          show Outcome.returned (some (pv _ x)) = Outcome.returned (some (pv ad x))
          rw [noV_pv (n2 x rfl)]
      · rw [noK_cw n1] at q4
        exact q4
      · rw [noK_cw hw] at q5
        exact q5
    · exact q2.elim
