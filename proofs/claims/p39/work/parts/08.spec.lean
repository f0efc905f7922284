/-! ===== a method's contract, in pure words ===== -/
abbrev PM : Type := MethodName × ByteArray × Nat × Option FieldType
def pmc (o : PO) : Nat := match o with
  | .inl _ => 0
  | .inr _ => 1
def pms (o : PO) : Nat := match o with
  | .inl _ => 0
  | .inr _ => 6
def prm (d : Nat) (o : PO) : Room := { frames := d + 8, cells := pmc o, slots := pms o, locals := 40 * d + 200 }
def wsM (M : PM) : List Cond := .code M.1 M.2.1 M.2.2.1 M.2.2.2 :: gT
def pPre (D : va_G) (cy : Nat → ClassId) (ad : Nat → Nat) (ro : PRO) (w : PW) (sz : Nat) (U : State) : Prop := U.heap.size = sz ∧ va_P D vwCl (cw ad cy w) U.heap ∧ va_K D vwCl (ptys cy) U ∧ va_D (fun _ => True) (cw ad cy w) ∧ pEnv ad (va_A (cw ad cy w) sz) ro U U.heap
def pQ (D : va_G) (cy : Nat → ClassId) (ad : Nat → Nat) (o : PO) (w w' : PW) (sz : Nat) : Array Value → State → Outcome → State → Prop := fun _ st oc t => ∃ v : Option PV, o = .inl v ∧ oc = .returned (v.map (pv ad)) ∧ va_P D vwCl (cw ad cy w') t.heap ∧ va_F (va_A (cw ad cy w) sz) st t
def pX (D : va_G) (cy : Nat → ClassId) (ad : Nat → Nat) (o : PO) (w w' : PW) (sz : Nat) : String → State → State → Prop := fun E st t => o = .inr E ∧ va_P D vwCl (cw ad cy w') t.heap ∧ va_F (va_A (cw ad cy w) sz) st t
def Sp (M : PM) (ro : PRO) (d : Nat) (as : List PV) (w : PW) (o : PO) (w' : PW) : Prop :=
  w'.map Prod.fst = w.map Prod.fst ∧ ∀ l : Launch, l.stackTraces = false → ∀ (D : va_G) (cy : Nat → ClassId) (ad : Nat → Nat) (sz : Nat), vx_Met l M.1 (wsM M) (prm d o) (va_Pc (as.map (pv ad)) (pPre D cy ad ro w sz)) (pQ D cy ad o w w' sz) (pX D cy ad o w w' sz) (pmc o) (pms o) (va_A (cw ad cy w) sz)
theorem pPre_blind {D : va_G} {cy : Nat → ClassId} {ad : Nat → Nat} {ro : PRO} {w : PW} {sz : Nat} {as : List Value} : FrameBlind (va_Pc as (pPre D cy ad ro w sz)) := by
  intro a U g mk h
  obtain ⟨h0, h1, h2, h3, h4, h5⟩ := h
  exact ⟨h0, h1, h2, va_K.moved (u := U) (U := U.calling g mk a) (Vm.Alike.refl U.vm) h3, h4, pEnv.to (U := U.calling g mk a) h5 (State.WarmedH.refl U) (fun _ _ _ => rfl) (fun _ h => h)⟩
theorem cw_keys {ad : Nat → Nat} {cy : Nat → ClassId} {A : Nat → Prop} {w w' : PW} (hk : w'.map Prod.fst = w.map Prod.fst) (h : va_D A (cw ad cy w)) : va_D A (cw ad cy w') := by
  have key : ∀ (k : Nat) (q : Nat × va_E), (cw ad cy w')[k]? = some q → ∃ q0, (cw ad cy w)[k]? = some q0 ∧ q0.1 = q.1 := by
    intro k q hq
    unfold cw at hq ⊢
    rw [List.getElem?_map] at hq ⊢
    have h1 : (w'.map Prod.fst)[k]? = (w.map Prod.fst)[k]? := by rw [hk]
    rw [List.getElem?_map, List.getElem?_map] at h1
    cases hw : w'[k]? with
    | none => rw [hw] at hq; cases hq
    | some x =>
      rw [hw] at hq h1
      cases hv : w[k]? with
      | none => rw [hv] at h1; cases h1
      | some y =>
        rw [hv] at h1
        cases hq
        exact ⟨_, rfl, congrArg ad (Option.some.inj h1).symm⟩
  refine ⟨fun i j x y hi hj hxy => ?_, fun k q hq => ?_⟩
  · obtain ⟨x0, h1, h2⟩ := key i x hi
    obtain ⟨y0, h3, h4⟩ := key j y hj
    exact h.1 i j x0 y0 h1 h3 (h2.trans (hxy.trans h4.symm))
  · obtain ⟨q0, h1, h2⟩ := key k q hq
    rw [← h2]
    exact h.2 k q0 h1
def pcat : List PV → Nat
  | [] => 0
  | .inr (.inl _) :: t => 2 + pcat t
  | _ :: t => 1 + pcat t
theorem pcat_eq {ad : Nat → Nat} : ∀ (r : List PV), ((r.map (pv ad)).map fun v => v.category).sum = pcat r
  | [] => rfl
  | .inl x :: t => by
    simp only [List.map_cons, List.sum_cons, pcat_eq t]
    rfl
  | .inr (.inl x) :: t => by
    simp only [List.map_cons, List.sum_cons, pcat_eq t]
    rfl
  | .inr (.inr none) :: t => by
    simp only [List.map_cons, List.sum_cons, pcat_eq t]
    rfl
  | .inr (.inr (some x)) :: t => by
    simp only [List.map_cons, List.sum_cons, pcat_eq t]
    rfl
def mNm (M : PM) (n : Nat) : Prop := M.1.cls ≠ "java/lang/invoke/MethodHandle" ∧ M.1.cls ≠ "java/lang/invoke/VarHandle" ∧ (parseMethodDescriptor M.1.desc).map (fun d => d.parameters.length) = some n
def vLink (own : String) (idx : Nat) (M : PM) (n : Nat) : Prop := Cond.methodLink own idx M.1 ∈ gT ∧ Cond.instanceMethod M.1 ∈ gT ∧ Cond.selects M.1.cls M.1 M.1 ∈ gT ∧ Cond.initialized M.1.cls ∈ gT ∧ Cond.code M.1 M.2.1 M.2.2.1 M.2.2.2 ∈ gT ∧ mNm M n
def sLink (own : String) (idx : Nat) (M : PM) (n : Nat) : Prop := Cond.methodLink own idx M.1 ∈ gT ∧ Cond.static M.1 ∈ gT ∧ Cond.initialized M.1.cls ∈ gT ∧ Cond.code M.1 M.2.1 M.2.2.1 M.2.2.2 ∈ gT ∧ mNm M n
theorem gT_in {M : PM} (h : Cond.code M.1 M.2.1 M.2.2.1 M.2.2.2 ∈ gT) : GoodIn gT (wsM M) := by
  intro w hw
  rcases List.mem_cons.mp hw with rfl | hw
  · exact gT_good _ h
  · exact gT_good _ hw
theorem gT_inL {M : PM} {L : List Cond} (h : Cond.code M.1 M.2.1 M.2.2.1 M.2.2.2 ∈ gT) (hL : ∀ w ∈ L, w ∈ gT) : GoodIn gT (L ++ wsM M) := by
  intro w hw
  rcases List.mem_append.mp hw with hw | hw
  · exact gT_good _ (hL _ hw)
  · exact gT_in h _ hw
section CALLS
variable {p : Program} {l : Launch} {e : Env} {R : Room} {s : State} {m : MethodId} {args : Array Value} {below : List Frame} {meth : Method} {c : Code} {cl sl : Nat} {Q : State → Prop}
variable {cc : ByteArray} {nL : Nat} {own : String} {D : va_G} {cy : Nat → ClassId} {ad : Nat → Nat} {A : Nat → Prop} {ro : PRO} {dd : Nat}
theorem va_A_in {H : Heap} {locs : List Loc} {w : PW} (hA : ∀ q, s.heap.size ≤ q → A q) (hD : va_D A (cw ad cy w)) (hS : va_S A s.heap H locs) : ∀ q, va_A (cw ad cy w) H.size q → A q := by
  intro q h
  rcases h with ⟨k, x, h⟩ | h
  · exact hD.2 k (q, x) h
  · exact hA q (Nat.le_trans hS.1 h)
theorem pPre_of {H : Heap} {locs : List Loc} {w : PW} (X : Cx p l R s m args meth c cl sl cc nL own D cy ad A ro dd) (hP : va_P D vwCl (cw ad cy w) H) (hD : va_D A (cw ad cy w)) (hS : va_S A s.heap H locs) {U : State} (hU : U.heap = H) (hW : s.WarmedH U.vm) : pPre D cy ad ro w H.size U := by
  obtain ⟨-, -, -, -, -, hK, hE, hA, -⟩ := X
  exact ⟨by rw [hU], by rw [hU]; exact hP, va_K.moved hW.alike hK, hD.weaken (fun _ _ _ _ => trivial), pEnv.to hE hW (fun a ha hna => by rw [hU]; exact hS.2.1 a ha hna) (va_A_in hA hD hS)⟩
/-- behind a call that returns -/
theorem g_back {H : Heap} {locs : List Loc} {pc mc ms : Nat} {ls : Array Slot} {st0 rest : List Value} {o : PO} {w w' : PW} {v : Option PV} {a : Array Value} (ho : o = .inl v) (hmc : mc = pmc o) (hms : ms = pms o) (hA : ∀ q, s.heap.size ≤ q → A q) (hD : va_D A (cw ad cy w)) (hS : va_S A s.heap H locs)
    (hr : vx_Run p l e R s m args below meth c H locs cl sl mc ms (F0 m pc ls st0) rest (pQ D cy ad o w w' H.size a) (pX D cy ad o w w' H.size) (va_A (cw ad cy w) H.size))
    (kk : ∀ (H1 : Heap) (locs1 : List Loc), va_P D vwCl (cw ad cy w') H1 → va_S A s.heap H1 locs1 → W p l e R s m args below meth c H1 locs1 cl sl Q (F0 m (pc + 3) ls (v.toList.map (pv ad) ++ rest))) : W p l e R s m args below meth c H locs cl sl Q (F0 m pc ls st0) := by
  subst ho
  have hmc : mc = 0 := hmc
  have hms : ms = 0 := hms
  subst hmc
  subst hms
  have hf := va_A_in hA hD hS
  intro T hT X
  rcases hr T hT X with ⟨v', st₀, t, T', L, h0, X', hL, e1, e2, ⟨v2, q1, q2, q3, hF⟩, st⟩ | ⟨q, st₀, t, T', L, E, ce, h0, X', hL, e1, e2, ⟨q1, -⟩, -⟩
  · cases q1
    cases q2
    obtain ⟨-, -, k3⟩ := vx_keep h0 e1 hS (fun q _ h => hf q h) hf hL hF
    obtain ⟨t2, a1, b1⟩ := kk T'.heap (locs ++ L) (by rw [e1]; exact q3) k3 T' rfl X'
    refine ⟨t2, st t2 ?_, b1⟩
    have e4 : (Option.map (pv ad) v).toList = v.toList.map (pv ad) := by cases v <;> rfl
    rw [e4]
    exact a1
  · cases q1
/-- behind a call that throws -/
theorem g_backX {H : Heap} {locs : List Loc} {pc mc ms : Nat} {ls : Array Slot} {st0 rest : List Value} {o : PO} {w w' : PW} {E : String} {a : Array Value} (ho : o = .inr E) (hmc : mc = pmc o) (hms : ms = pms o) (hA : ∀ q, s.heap.size ≤ q → A q) (hD : va_D A (cw ad cy w)) (hS : va_S A s.heap H locs)
    (hr : vx_Run p l e R s m args below meth c H locs cl sl mc ms (F0 m pc ls st0) rest (pQ D cy ad o w w' H.size a) (pX D cy ad o w w' H.size) (va_A (cw ad cy w) H.size))
    (kk : ∀ (H1 : Heap) (locs1 : List Loc) (q : Addr) (ce : Cell), va_P D vwCl (cw ad cy w') H1 → va_S A s.heap H1 locs1 → H1[q]? = some ce → ce.vm = .none → s.vm.findClass E = some ce.cls → vx_W p l e R s m args below meth c H1 locs1 (cl + 1) (sl + 6) Q (F0 m pc ls rest) q) : W p l e R s m args below meth c H locs cl sl Q (F0 m pc ls st0) := by
  subst ho
  have hmc : mc = 1 := hmc
  have hms : ms = 6 := hms
  subst hmc
  subst hms
  have hf := va_A_in hA hD hS
  intro T hT X
  rcases hr T hT X with ⟨v', st₀, t, T', L, h0, X', hL, e1, e2, ⟨v2, q1, -⟩, -⟩ | ⟨q, st₀, t, T', L, E', ce, h0, X', hL, e1, e2, ⟨q1, q3, hF⟩, hce, hcv, hcl, st⟩
  · cases q1
  · cases q1
    obtain ⟨-, -, k3⟩ := vx_keep h0 e1 hS (fun q _ h => hf q h) hf hL hF
    obtain ⟨t2, a1, b1⟩ := kk T'.heap (locs ++ L) q ce (by rw [e1]; exact q3) k3 (by rw [e1]; exact hce) hcv hcl T' rfl X'
    exact ⟨t2, st.trans a1, b1⟩
theorem pv_rev {as rest : List PV} : ((as.reverse ++ rest).map (pv ad)) = (as.map (pv ad)).reverse ++ rest.map (pv ad) := by
  rw [List.map_append, List.map_reverse]
/-- the run of a virtual call -/
theorem g_runV {H : Heap} {locs : List Loc} {pc idx d k ci : Nat} {L : List (Option PV)} {ls : Array Slot} {as rest : List PV} {fs : List PV} {rr : vw_C} {o : PO} {w w' : PW} {M : PM} (X : Cx p l R s m args meth c cl sl cc nL own D cy ad A ro dd) (hd : decode cc pc = .ok (.invokevirtual idx, 3)) (hk : vLink own idx M as.length) (hM : Sp M ro d (vR k :: as) w o w') (hc : alk w k = some (.inr (ci, fs))) (hr1 : vwCl[ci]? = some rr) (hr2 : rr.1 = M.1.cls)
    (hdd : d + 1 ≤ dd) (hnl : M.2.2.1 ≤ 20) (hrest : pcat rest ≤ 8) (hcc : cl + pmc o ≤ R.cells) (hss : sl + pms o ≤ R.slots) (hl : ph ad ls nL L) (hP : va_P D vwCl (cw ad cy w) H) (hD : va_D A (cw ad cy w)) (hS : va_S A s.heap H locs) :
    vx_Run p l e R s m args below meth c H locs cl sl (pmc o) (pms o) (F0 m pc ls ((as.reverse ++ vR k :: rest).map (pv ad))) (rest.map (pv ad)) (pQ D cy ad o w w' H.size (Value.ref (ad k) :: as.map (pv ad)).toArray) (pX D cy ad o w w' H.size) (va_A (cw ad cy w) H.size) := by
  have X0 := X
  obtain ⟨hx, hb, hml, hown, hts, hK, hE, hA, -, hlt, ⟨hfr, hlo⟩, -, -⟩ := X0
  obtain ⟨k1, k2, k3, k4, k5, k6, k7, k8⟩ := hk
  have hMet := hM.2 l hlt D cy ad H.size
  have hG : GoodIn gT (wsV own idx M.1.cls M.1 (wsM M)) := gT_inL k5 (by
    intro w hw
    simp only [List.mem_cons, List.not_mem_nil, or_false] at hw
    rcases hw with rfl | rfl | rfl | rfl
    · exact k1
    · exact k2
    · exact k3
    · exact k4)
  obtain ⟨q0, e1, -⟩ := cw_look (ad := ad) (cy := cy) hc
  refine vx_runV (cc := cc) (nL := nL) (Ts := gT) (own := own) (C := M.1.cls) (As := as.map (pv ad)) (b := ad k) (bytes := M.2.1) (maxL := M.2.2.1) (ret := M.2.2.2) (n := as.length) ⟨hx, hb, hml, hown, hts⟩ hMet (cwV as.length hts hG rfl rfl rfl ⟨rfl, k6, k7, k8⟩ ⟨?_, ?_⟩) ⟨pPre_blind, ?_, fun U hU hW => ⟨rfl, pPre_of X hP hD hS hU hW⟩⟩ rfl (by rw [List.length_map]) hl.1.1 (by rw [pv_rev]; rfl) ?_ hd ⟨hcc, hss⟩
  · show d + 8 + 1 ≤ R.frames
    omega
  · show 8 + (M.2.2.1 + 11) + (40 * d + 200) ≤ R.locals
    omega
  · have := va_recv hK hP hr1 (q0 := q0) (a := ad k) (ci := ci) (fs := fs.map (pv ad)) e1
    rw [hr2] at this
    exact this
  · exact lv_room (by rw [pcat_eq]; exact hrest)
theorem g_runS {H : Heap} {locs : List Loc} {pc idx d : Nat} {L : List (Option PV)} {ls : Array Slot} {as rest : List PV} {o : PO} {w w' : PW} {M : PM} (X : Cx p l R s m args meth c cl sl cc nL own D cy ad A ro dd) (hd : decode cc pc = .ok (.invokestatic idx, 3)) (hk : sLink own idx M as.length) (hM : Sp M ro d as w o w')
    (hdd : d + 1 ≤ dd) (hnl : M.2.2.1 ≤ 20) (hrest : pcat rest ≤ 8) (hcc : cl + pmc o ≤ R.cells) (hss : sl + pms o ≤ R.slots) (hl : ph ad ls nL L) (hP : va_P D vwCl (cw ad cy w) H) (hD : va_D A (cw ad cy w)) (hS : va_S A s.heap H locs) :
    vx_Run p l e R s m args below meth c H locs cl sl (pmc o) (pms o) (F0 m pc ls ((as.reverse ++ rest).map (pv ad))) (rest.map (pv ad)) (pQ D cy ad o w w' H.size (as.map (pv ad)).toArray) (pX D cy ad o w w' H.size) (va_A (cw ad cy w) H.size) := by
  have X0 := X
  obtain ⟨hx, hb, hml, hown, hts, hK, hE, hA, -, hlt, ⟨hfr, hlo⟩, -, -⟩ := X0
  obtain ⟨k1, k2, k4, k5, k6, k7, k8⟩ := hk
  have hMet := hM.2 l hlt D cy ad H.size
  have hG : GoodIn gT (va_wsS own idx M.1 (wsM M)) := gT_inL k5 (by
    intro w hw
    simp only [List.mem_cons, List.not_mem_nil, or_false] at hw
    rcases hw with rfl | rfl | rfl
    · exact k1
    · exact k2
    · exact k4)
  refine vx_runS (cc := cc) (nL := nL) (Ts := gT) (own := own) (As := as.map (pv ad)) (bytes := M.2.1) (maxL := M.2.2.1) (ret := M.2.2.2) (n := as.length) ⟨hx, hb, hml, hown, hts⟩ hMet (va_cwS as.length hts hG rfl rfl rfl ⟨k6, k7, k8⟩ ⟨?_, ?_⟩) ⟨pPre_blind, fun U hU hW => ⟨rfl, pPre_of X hP hD hS hU hW⟩⟩ rfl (by rw [List.length_map]) hl.1.1 (by rw [pv_rev]) ?_ hd ⟨hcc, hss⟩
  · show d + 8 + 1 ≤ R.frames
    omega
  · show 8 + (M.2.2.1 + 11) + (40 * d + 200) ≤ R.locals
    omega
  · exact lv_room (by rw [pcat_eq]; exact hrest)
end CALLS
