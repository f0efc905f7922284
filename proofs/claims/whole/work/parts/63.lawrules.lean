/-! ===== the rules for the law itself ===== -/
def sLinkW (own : String) (idx : Nat) (M : PM) (hh : PHH) (n : Nat) : Prop := Cond.methodLink own idx M.1 ∈ gT ∧ Cond.static M.1 ∈ gT ∧ Cond.initialized M.1.cls ∈ gT ∧ Cond.codeWith M.1 M.2.1 M.2.2.1 M.2.2.2 hh ∈ gT ∧ mNm M n
def lawZ (below : List Frame) (s : State) : State → Prop := fun t => ∃ o, t.status = .running ∧ Ended t below o ∧ o = .returned (some (.int 1)) ∧ Framed s o t [] 661068 7112900
/-- the law's frame, by the number of wrapped calls that lie behind -/
def GL (p : Program) (l : Launch) (e : Env) (s : State) (m : MethodId) (args : Array Value) (below : List Frame) (meth : Method) (c : Code) (c0 s0 : Nat) (D : va_G) (cy : Nat → ClassId) (ad : Nat → Nat) (k : Nat) (S : PS) : Prop :=
  Gd p l e room_1 s m args below meth c (c0 + k) (s0 + 6 * k) (lawZ below s) 7 D cy ad (fun q => s.heap.size ≤ q) S
def Rl (lk : PL) (ro : PRO) (tb : PT) (d : Nat) (G : Nat → PS → Prop) : Prop :=
  (∀ (k n : Nat) (S S' : PS) (P : Option Prop), k ≤ 600 → prun lk ro tb n S = some (S', P) → (∀ q, P = some q → q) → G k S' → G k S) ∧
  (∀ (k : Nat) (S : PS) (i : Instr) (n : Nat) (P C : Prop) (S1 S2 : PS), k ≤ 600 → alk tb S.1 = some (i, n) → pbr i n S = some (P, C, S1, S2) → P → (C → G k S1) → (¬ C → G k S2) → G k S) ∧
  (∀ (kk idx : Nat) (M : PM) (d1 : Nat) (as : List PV) (k ci : Nat) (fs : List PV) (rr : vw_C) (rest : List PV) (L : List (Option PV)) (pc : Nat) (w w2 : PW) (v : Option PV), kk ≤ 600 → alk tb pc = some (.invokevirtual idx, 3) → vLink RL idx M as.length → alk w k = some (.inr (ci, fs)) → vwCl[ci]? = some rr → rr.1 = M.1.cls → d1 + 1 ≤ d → M.2.2.1 ≤ 20 → pcat rest ≤ 8 → Sp M ro d1 (vR k :: as) w (.inl v) w2 → G kk (pc + 3, L, v.toList ++ rest, w2) → G kk (pc, L, as.reverse ++ vR k :: rest, w)) ∧
  (∀ (kk idx : Nat) (M : PM) (hh : PHH) (d1 : Nat) (as : List PV) (rest : List PV) (L : List (Option PV)) (pc : Nat) (w w2 : PW) (v : PV), kk < 600 → alk tb pc = some (.invokestatic idx, 3) → sLinkW RL idx M hh as.length → d1 + 1 ≤ d → M.2.2.1 ≤ 20 → pcat rest ≤ 8 → Sw M hh ro d1 as w v w2 → G (kk + 1) (pc + 3, L, v :: rest, w2) → G kk (pc, L, as.reverse ++ rest, w)) ∧
  (∀ (k pc : Nat) (L : List (Option PV)) (w : PW), k ≤ 600 → alk tb pc = some (.ireturn, 1) → G k (pc, L, [vI 1], w)) ∧
  (∀ (k pc : Nat) (L : List (Option PV)) (u : Int) (rest : List PV) (w : PW), G k (pc, L, vI (nmI u) :: rest, w) → G k (pc, L, vI u :: rest, w)) ∧
  (∀ (kk k pc : Nat) (L : List (Option PV)) (st : List PV) (w : PW), G kk (pc, lset L k none, st, w) → G kk (pc, L, st, w))
section LAWR
variable {p : Program} {l : Launch} {e : Env} {s : State} {m : MethodId} {args : Array Value} {below : List Frame} {meth : Method} {c : Code} {cl sl : Nat} {Q : State → Prop}
variable {cc : ByteArray} {nL : Nat} {own : String} {D : va_G} {cy : Nat → ClassId} {ad : Nat → Nat} {A : Nat → Prop} {ro : PRO} {dd : Nat} {R : Room}
theorem g_backS {H : Heap} {locs : List Loc} {pc : Nat} {ls : Array Slot} {st0 rest : List Value} {w w' : PW} {v : PV} {a : Array Value} (hA : ∀ q, s.heap.size ≤ q → A q) (hD : va_D A (cw ad cy w)) (hS : va_S A s.heap H locs)
    (hr : vx_Run p l e R s m args below meth c H locs cl sl 1 6 (F0 m pc ls st0) rest (pQ D cy ad (.inl (some v)) w w' H.size a) (fun _ _ _ => False) (va_A (cw ad cy w) H.size))
    (kk : ∀ (H1 : Heap) (locs1 : List Loc), va_P D vwCl (cw ad cy w') H1 → va_S A s.heap H1 locs1 → W p l e R s m args below meth c H1 locs1 (cl + 1) (sl + 6) Q (F0 m (pc + 3) ls (pv ad v :: rest))) : W p l e R s m args below meth c H locs cl sl Q (F0 m pc ls st0) := by
  have hf := va_A_in hA hD hS
  intro T hT X
  rcases hr T hT X with ⟨v', st₀, t, T', L, h0, X', hL, e1, e2, ⟨v2, q1, q2, q3, hF⟩, st⟩ | ⟨q, st₀, t, T', L, E, ce, h0, X', hL, e1, e2, hbad, -⟩
  · cases q1
    cases q2
    obtain ⟨-, -, k3⟩ := vx_keep h0 e1 hS (fun q _ h => hf q h) hf hL hF
    obtain ⟨t2, a1, b1⟩ := kk T'.heap (locs ++ L) (by rw [e1]; exact q3) k3 T' rfl X'
    exact ⟨t2, st t2 a1, b1⟩
  · exact hbad.elim
theorem g_runSW {H : Heap} {locs : List Loc} {pc idx d : Nat} {L : List (Option PV)} {ls : Array Slot} {as rest : List PV} {v : PV} {w w' : PW} {M : PM} {hh : PHH} (X : Cx p l R s m args meth c cl sl cc nL own D cy ad A ro dd) (hd : decode cc pc = .ok (.invokestatic idx, 3)) (hk : sLinkW own idx M hh as.length) (hM : Sw M hh ro d as w v w')
    (hdd : d + 1 ≤ dd) (hnl : M.2.2.1 ≤ 20) (hrest : pcat rest ≤ 8) (hcc : cl + 1 ≤ R.cells) (hss : sl + 6 ≤ R.slots) (hl : ph ad ls nL L) (hP : va_P D vwCl (cw ad cy w) H) (hD : va_D A (cw ad cy w)) (hS : va_S A s.heap H locs) :
    vx_Run p l e R s m args below meth c H locs cl sl 1 6 (F0 m pc ls ((as.reverse ++ rest).map (pv ad))) (rest.map (pv ad)) (pQ D cy ad (.inl (some v)) w w' H.size (as.map (pv ad)).toArray) (fun _ _ _ => False) (va_A (cw ad cy w) H.size) := by
  have X0 := X
  obtain ⟨hx, hb, hml, hown, hts, hK, hE, hA, -, hlt, ⟨hfr, hlo⟩, -, -⟩ := X0
  obtain ⟨k1, k2, k4, k5, k6, k7, k8⟩ := hk
  have hMet := hM.2 l hlt D cy ad H.size
  have hG0 : GoodIn gT (wsH M hh) := by
    intro w hw
    rcases List.mem_cons.mp hw with rfl | hw
    · exact gT_good _ k5
    · exact gT_good _ hw
  have hG : GoodIn gT (va_wsS own idx M.1 (wsH M hh)) := by
    intro w hw
    unfold va_wsS at hw
    rcases List.mem_append.mp hw with hw | hw
    · simp only [List.mem_cons, List.not_mem_nil, or_false] at hw
      rcases hw with rfl | rfl | rfl
      · exact gT_good _ k1
      · exact gT_good _ k2
      · exact gT_good _ k4
    · exact hG0 w hw
  refine vx_runSX (hh := hh) (cc := cc) (nL := nL) (Ts := gT) (own := own) (As := as.map (pv ad)) (bytes := M.2.1) (maxL := M.2.2.1) (ret := M.2.2.2) (n := as.length) ⟨hx, hb, hml, hown, hts⟩ hMet (vx_cwSW as.length hts hG rfl rfl rfl ⟨k6, k7, k8⟩ ⟨?_, ?_⟩) ⟨pPre_blind, fun U hU hW => ⟨rfl, pPre_of X hP hD hS hU hW⟩⟩ rfl (by rw [List.length_map]) hl.1.1 (by rw [pv_rev]) ?_ hd ⟨hcc, hss⟩
  · show d + 8 + 1 ≤ R.frames
    omega
  · show 8 + (M.2.2.1 + 11) + (40 * d + 200) ≤ R.locals
    omega
  · exact lv_room (by rw [pcat_eq]; exact hrest)
theorem Rl_of {lk : PL} {tb : PT} {c0 s0 : Nat} (hc0 : c0 ≤ 1000) (hs0 : s0 ≤ 10000) (X : ∀ k, k ≤ 600 → Cx p l room_1 s m args meth c (c0 + k) (s0 + 6 * k) code 7 RL D cy ad (fun q => s.heap.size ≤ q) ro dd) (hlk : lkOk RL lk) (htb : ∀ q ∈ tb, decode code q.1 = .ok (q.2.1, q.2.2)) (hfin : ∀ {pc : Nat} {H : Heap} {ls : Array Slot}, decode code pc = .ok (.ireturn, 1) → W p l e room_1 s m args below meth c H [] 661068 7112900 (lawZ below s) (F0 m pc ls [.int 1])) : Rl lk ro tb dd (GL p l e s m args below meth c c0 s0 D cy ad) := by
  have htb2 : ∀ {a : Nat} {i : Instr} {n : Nat}, alk tb a = some (i, n) → decode code a = .ok (i, n) := fun {a i n} h => htb (a, (i, n)) (alk_mem h)
  have hA : ∀ q, s.heap.size ≤ q → (fun q => s.heap.size ≤ q) q := fun q h => h
  have r1 : ∀ k, k ≤ 600 → c0 + k ≤ room_1.cells ∧ s0 + 6 * k ≤ room_1.slots := fun k hk => ⟨by show c0 + k ≤ 661068; omega, by show s0 + 6 * k ≤ 7112900; omega⟩
  refine ⟨?_, ?_, ?_, ?_, ?_, ?_, ?_⟩
  · exact fun k n S S' P hk h1 h2 h3 => prun_sound (X k hk) hlk htb h1 h2 h3
  · exact fun k S i n P C S1 S2 hk h0 h1 h2 h3 h4 => pbr_sound (X k hk) (htb2 h0) h1 h2 h3 h4
  · intro kk idx M2 d1 as2 k ci fs rr rest L pc w1 w2 v hk h0 h1 h2 h3 h4 h5 h6 h7 h8 h9 H locs ls hl hP1 hD1 hS1
    refine g_back (o := .inl v) rfl rfl rfl hA hD1 hS1 (g_runV (X kk hk) (htb2 h0) h1 h8 h2 h3 h4 h5 h6 h7 (r1 kk hk).1 (r1 kk hk).2 hl hP1 hD1 hS1) (fun H1 locs1 hP2 hS2 => ?_)
    rw [← cat0]
    exact h9 H1 locs1 ls hl hP2 (cw_keys h8.1 hD1) hS2
  · intro kk idx M2 hh d1 as2 rest L pc w1 w2 v hk h0 h1 h5 h6 h7 h8 h9 H locs ls hl hP1 hD1 hS1
    have q1 := r1 (kk + 1) (by omega)
    refine g_backS hA hD1 hS1 (g_runSW (X kk (by omega)) (htb2 h0) h1 h8 h5 h6 h7 (by have := q1.1; omega) (by have := q1.2; omega) hl hP1 hD1 hS1) (fun H1 locs1 hP2 hS2 => ?_)
    have h10 := h9 H1 locs1 ls hl hP2 (cw_keys h8.1 hD1) hS2
    rw [show c0 + (kk + 1) = c0 + kk + 1 by omega, show s0 + 6 * (kk + 1) = s0 + 6 * kk + 6 by omega] at h10
    exact h10
  · intro k pc L w hk h0 H locs ls hl hP hD hS
    refine va_forget (fun q hq => hS.2.2 q hq) ?_
    exact W.widen (r1 k hk).1 (r1 k hk).2 (hfin (htb2 h0))
  · intro k pc L u rest w2 h H locs ls hl hP hD hS
    have h2 := h H locs ls hl hP hD hS
    rw [List.map_cons, nmI_pv] at h2
    exact h2
  · exact fun kk k pc L st w h H locs ls hl hP hD hS => h H locs ls (ph_less hl) hP hD hS
end LAWR
