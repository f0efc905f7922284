/-! ===== making cells: a new cell has the next address ===== -/
def dK (A : Nat → Prop) (ad : Nat → Nat) (ks : List Nat) : Prop := (∀ i j a b : Nat, ks[i]? = some a → ks[j]? = some b → ad a = ad b → i = j) ∧ ∀ a ∈ ks, A (ad a)
theorem cw_at {ad : Nat → Nat} {cy : Nat → ClassId} {w : PW} {k : Nat} : (cw ad cy w)[k]? = (w[k]?).map (fun q => (ad q.1, pe ad cy q.2)) := by
  unfold cw
  rw [List.getElem?_map]
theorem cw_key {ad : Nat → Nat} {cy : Nat → ClassId} {w : PW} {i a : Nat} (hi : (w.map Prod.fst)[i]? = some a) : ∃ x, (cw ad cy w)[i]? = some x ∧ x.1 = ad a := by
  rw [List.getElem?_map] at hi
  rw [cw_at]
  cases hw : w[i]? with
  | none => rw [hw] at hi; cases hi
  | some x => rw [hw] at hi; cases hi; exact ⟨_, rfl, rfl⟩
theorem cw_yek {ad : Nat → Nat} {cy : Nat → ClassId} {w : PW} {i : Nat} {x : Nat × va_E} (hi : (cw ad cy w)[i]? = some x) : ∃ a, (w.map Prod.fst)[i]? = some a ∧ x.1 = ad a := by
  rw [cw_at] at hi
  rw [List.getElem?_map]
  cases hw : w[i]? with
  | none => rw [hw] at hi; cases hi
  | some y => rw [hw] at hi; cases hi; exact ⟨_, rfl, rfl⟩
theorem dK_of {A : Nat → Prop} {ad : Nat → Nat} {cy : Nat → ClassId} {w : PW} (h : va_D A (cw ad cy w)) : dK A ad (w.map Prod.fst) := by
  refine ⟨fun i j a b hi hj hab => ?_, fun a ha => ?_⟩
  · obtain ⟨x, h1, h2⟩ := cw_key (ad := ad) (cy := cy) hi
    obtain ⟨y, h3, h4⟩ := cw_key (ad := ad) (cy := cy) hj
    exact h.1 i j x y h1 h3 (by rw [h2, h4, hab])
  · obtain ⟨i, hi⟩ := List.getElem?_of_mem ha
    obtain ⟨x, h1, h2⟩ := cw_key (ad := ad) (cy := cy) hi
    rw [← h2]
    exact h.2 i x h1
theorem dK_to {A : Nat → Prop} {ad : Nat → Nat} {cy : Nat → ClassId} {w : PW} (h : dK A ad (w.map Prod.fst)) : va_D A (cw ad cy w) := by
  refine ⟨fun i j x y hi hj hxy => ?_, fun i x hi => ?_⟩
  · obtain ⟨a, h1, h2⟩ := cw_yek hi
    obtain ⟨b, h3, h4⟩ := cw_yek hj
    exact h.1 i j a b h1 h3 (by rw [← h2, ← h4, hxy])
  · obtain ⟨a, h1, h2⟩ := cw_yek hi
    rw [h2]
    exact h.2 a (List.mem_of_getElem? h1)
theorem dK_push {A : Nat → Prop} {ad : Nat → Nat} {ks ks2 : List Nat} {h : Nat} (h1 : dK A ad ks) (h2 : ∀ a ∈ ks, ad a < h) (h3 : ∀ i a : Nat, ks2[i]? = some a → ad a = h + i) (h4 : ∀ q, h ≤ q → A q) : dK A ad (ks ++ ks2) := by
  have key : ∀ i a : Nat, (ks ++ ks2)[i]? = some a → (ks[i]? = some a ∧ ad a < h) ∨ (ks.length ≤ i ∧ ad a = h + (i - ks.length)) := by
    intro i a hi
    by_cases hl : i < ks.length
    · rw [List.getElem?_append_left hl] at hi
      exact Or.inl ⟨hi, h2 a (List.mem_of_getElem? hi)⟩
    · rw [List.getElem?_append_right (by omega)] at hi
      exact Or.inr ⟨by omega, h3 _ _ hi⟩
  refine ⟨fun i j a b hi hj hab => ?_, fun a ha => ?_⟩
  · rcases key i a hi with ⟨a1, a2⟩ | ⟨a1, a2⟩ <;> rcases key j b hj with ⟨b1, b2⟩ | ⟨b1, b2⟩
    · exact h1.1 i j a b a1 b1 hab
    · omega
    · omega
    · omega
  · obtain ⟨i, hi⟩ := List.getElem?_of_mem ha
    rcases key i a hi with ⟨a1, a2⟩ | ⟨a1, a2⟩
    · exact h1.2 a (List.mem_of_getElem? a1)
    · exact h4 _ (by omega)
theorem dK_sub {A : Nat → Prop} {ad : Nat → Nat} {ks ks2 : List Nat} (h : dK A ad ks) (hn : va_nd ks2 = true) (hs : ∀ a ∈ ks2, a ∈ ks) : dK A ad ks2 := by
  refine ⟨fun i j a b hi hj hab => ?_, fun a ha => h.2 a (hs a ha)⟩
  obtain ⟨x, hx⟩ := List.getElem?_of_mem (hs a (List.mem_of_getElem? hi))
  obtain ⟨y, hy⟩ := List.getElem?_of_mem (hs b (List.mem_of_getElem? hj))
  have hxy := h.1 x y a b hx hy hab
  subst hxy
  have hab2 : a = b := Option.some.inj (hx.symm.trans hy)
  subst hab2
  exact va_nd_inj ks2 hn i j a hi hj
def lowB (KS : List Nat) (cl : Nat) (w : PW) : Bool := match cl with
  | 0 => true
  | j + 1 => match KS[j]? with
    | some k => (alk w k).isSome
    | none => false
/-- what the other words of the tables are asked for -/
def wT : List Cond := [.arrayOver (.array .int), .methodLinkNest RX5 25 yX4_init RX5, .methodLinkNest RX5 32 yX1_init RX5, .methodLinkNest RX5 39 yX0_init RX5]
def xEnv (U : State) : Prop := ∀ w ∈ wT, va_Nw w U
theorem ao_tabs {ty : FieldType} {a b : Array Value} {u U : State} (h : u.vm = U.vm) (hb : (Cond.arrayOver ty).before a u = true) : (Cond.arrayOver ty).before b U = true := by
  simp only [Cond.before, Cond.holds, Cond.value] at hb ⊢
  rw [← h]
  exact hb
theorem xEnv.to {s U : State} (h : xEnv s) (hW : s.WarmedH U.vm) : xEnv U := by
  intro w hw
  have h1 := h w hw
  simp only [wT, List.mem_cons, List.not_mem_nil, or_false] at hw
  rcases hw with rfl | rfl | rfl | rfl
  · have h2 : (Cond.arrayOver (.array .int)).before #[] (s.setVm U.vm) = true := by rw [Cond.arrayOver_setVmC hW.alike]; exact h1
    exact ao_tabs (rfl : (s.setVm U.vm).vm = U.vm) h2
  · exact va_Nw.warmM hW h1
  · exact va_Nw.warmM hW h1
  · exact va_Nw.warmM hW h1
def prmN (d n ms : Nat) : Room := { frames := d + 8, cells := n, slots := ms, locals := 40 * d + 200 }
def pPreN (D : va_G) (cy : Nat → ClassId) (ad : Nat → Nat) (ro : PRO) (w : PW) (sz : Nat) (U : State) : Prop := pPre D cy ad ro w sz U ∧ xEnv U
/-- a constructor's contract: the keys ks are the new cells', in the order of their making -/
def Sn (M : PM) (ro : PRO) (d : Nat) (as : List PV) (w w' : PW) (ks : List Nat) (ms : Nat) : Prop :=
  w'.map Prod.fst = w.map Prod.fst ++ ks ∧ ∀ l : Launch, l.stackTraces = false → ∀ (D : va_G) (cy : Nat → ClassId) (ad : Nat → Nat) (sz : Nat), (∀ i k : Nat, ks[i]? = some k → ad k = sz + i) → Met l M.1 (wsM M) (prmN d ks.length ms) (va_Pc (as.map (pv ad)) (pPreN D cy ad ro w sz)) (fun _ st oc t => oc = .returned none ∧ va_P D vwCl (cw ad cy w') t.heap ∧ va_F (va_A (cw ad cy w) sz) st t) ks.length ms (va_A (cw ad cy w) sz)
theorem pPreN_blind {D : va_G} {cy : Nat → ClassId} {ad : Nat → Nat} {ro : PRO} {w : PW} {sz : Nat} {as : List Value} : FrameBlind (va_Pc as (pPreN D cy ad ro w sz)) := by
  intro a U g mk h
  obtain ⟨h0, h1, h2⟩ := h
  have h3 := pPre_blind (D := D) (cy := cy) (ad := ad) (ro := ro) (w := w) (sz := sz) (as := as) a U g mk ⟨h0, h1⟩
  exact ⟨h3.1, h3.2, h2.to (U := U.calling g mk a) (State.WarmedH.refl U)⟩
def cLink (own : String) (idx : Nat) (M : PM) : Prop := (Cond.methodLink own idx M.1 ∈ gT ∨ ∃ host, Cond.methodLinkNest own idx M.1 host ∈ wT) ∧ Cond.instanceMethod M.1 ∈ gT ∧ Cond.initialized M.1.cls ∈ gT ∧ Cond.code M.1 M.2.1 M.2.2.1 M.2.2.2 ∈ gT ∧ mNm M 0 ∧ M.1.name = "<init>" ∧ M.2.2.2 = none
def nOk (own : String) (index ci : Nat) (fs : List PV) : Prop := ∃ (rr : vw_C) (ty : Nat → FieldType), vwCl[ci]? = some rr ∧ kOk rr ∧ (∀ k, k < rr.2.2 → parseFieldDescriptor (rr.2.1 k).2.2.1 = some (ty k)) ∧ (∀ (ad : Nat → Nat) (j : Nat), j < rr.2.2 → defaultValue (ty j) = vp_V (fs.map (pv ad)) j) ∧ fs.length = rr.2.2 ∧ Cond.classLink own index rr.1 ∈ gT ∧ Cond.instantiable rr.1 rr.2.2 ∈ gT ∧ Cond.initialized rr.1 ∈ gT
def pOk (own : String) (idx ci k : Nat) : Prop := ∃ (rr : vw_C) (ty : FieldType), vwCl[ci]? = some rr ∧ kOk rr ∧ k < rr.2.2 ∧ Cond.fieldLink own idx (rr.2.1 k).1 (rr.2.1 k).2.1 (rr.2.1 k).2.2.1 ∈ gT ∧ (rr.2.1 k).2.2.2 = true ∧ (rr.2.1 k).1 = own ∧ parseFieldDescriptor (rr.2.1 k).2.2.1 = some ty ∧ ty.isReference = true
theorem ref_narrow {ty : FieldType} (h : ty.isReference = true) (a : Nat) : narrow ty (.ref a) = .ref a := by
  cases ty <;> first | rfl | cases h
theorem ref_fits {ty : FieldType} (h : ty.isReference = true) (a : Nat) : fits ty (.ref a) = true := by
  cases ty <;> first | rfl | cases h
section MAKE
variable {p : Program} {l : Launch} {e : Env} {R : Room} {s : State} {m : MethodId} {args : Array Value} {below : List Frame} {meth : Method} {c : Code} {cl sl : Nat} {Q : State → Prop}
variable {cc : ByteArray} {nL : Nat} {own : String} {D : va_G} {cy : Nat → ClassId} {ad : Nat → Nat} {A : Nat → Prop} {ro : PRO} {dd : Nat} {KS : List Nat}
theorem Cx.at {cl0 sl0 : Nat} (X : Cx p l R s m args meth c cl0 sl0 cc nL own D cy ad A ro dd) (h1 : cl ≤ R.cells) (h2 : sl ≤ R.slots) : Cx p l R s m args meth c cl sl cc nL own D cy ad A ro dd := by
  obtain ⟨a1, a2, a3, a4, a5, a6, a7, a8, a9, a10, a11, -, -⟩ := X
  exact ⟨a1, a2, a3, a4, a5, a6, a7, a8, a9, a10, a11, h1, h2⟩
theorem cw_app {w w2 : PW} : cw ad cy (w ++ w2) = cw ad cy w ++ cw ad cy w2 := List.map_append
theorem grow {w w2 : PW} {H H1 : Heap} {locs : List Loc} {h : Nat} (hP : va_P D vwCl (cw ad cy w) H) (hD : va_D A (cw ad cy w)) (hS : va_S A s.heap H locs) (hA : ∀ q, s.heap.size ≤ q → A q) (hz : H.size = h) (hz1 : h ≤ H1.size) (ho : ∀ q, q < h → H1[q]? = H[q]?) (hks : ∀ i a : Nat, (w2.map Prod.fst)[i]? = some a → ad a = h + i) (hP2 : va_P D vwCl (cw ad cy w2) H1) : va_P D vwCl (cw ad cy (w ++ w2)) H1 ∧ va_D A (cw ad cy (w ++ w2)) ∧ va_S A s.heap H1 locs := by
  subst hz
  refine ⟨?_, ?_, ?_⟩
  · rw [cw_app]
    exact (hP.kept (fun k x hx => ho x.1 ((hP k x hx).lt))).app hP2
  · refine dK_to ?_
    rw [List.map_append]
    refine dK_push (dK_of hD) (fun a ha => ?_) hks (fun q hq => hA q (Nat.le_trans hS.1 hq))
    obtain ⟨i, hi⟩ := List.getElem?_of_mem ha
    obtain ⟨x, h1, h2⟩ := cw_key (ad := ad) (cy := cy) hi
    rw [← h2]
    exact (hP i x h1).lt
  · exact ⟨Nat.le_trans hS.1 hz1, fun x h1 h2 => (ho x (Nat.lt_of_lt_of_le h1 hS.1)).trans (hS.2.1 x h1 h2), hS.2.2⟩
theorem H_size {w : PW} {H : Heap} {locs : List Loc} {T : State} (had : ∀ i k : Nat, KS[i]? = some k → ad k = s.heap.size + i) (hlow : lowB KS cl w = true) (hP : va_P D vwCl (cw ad cy w) H) (hS : va_S A s.heap H locs) (hT : T.heap = H) (X : Stand p l e R s m args below meth c T locs cl sl) : H.size = s.heap.size + cl := by
  have h1 := X.heapSize
  rw [hT] at h1
  have h2 := hS.1
  cases cl with
  | zero => omega
  | succ j =>
    have hlow : (match KS[j]? with
      | some k => (alk w k).isSome
      | none => false) = true := hlow
    cases hk : KS[j]? with
    | none => rw [hk] at hlow; cases hlow
    | some k =>
      rw [hk] at hlow
      obtain ⟨x, hx⟩ := Option.isSome_iff_exists.mp hlow
      obtain ⟨q0, e1, -⟩ := cw_look (ad := ad) (cy := cy) hx
      have h3 := (hP _ _ e1).lt
      have h4 := had j k hk
      have h5 : ad k < H.size := h3
      omega
theorem one_key {w2 : Nat × PE} {h : Nat} (hk : ad w2.1 = h) : ∀ i a : Nat, ([w2].map Prod.fst)[i]? = some a → ad a = h + i := by
  intro i a hi
  have h0 : i < 1 := (List.getElem?_eq_some_iff.mp hi).1
  rw [show i = 0 by omega] at hi ⊢
  cases hi
  exact hk
theorem one_P {x : Nat × PE} {H : Heap} (h : va_at D vwCl (ad x.1, pe ad cy x.2) H) : va_P D vwCl (cw ad cy [x]) H := by
  intro k q hq
  have h0 : k < 1 := (List.getElem?_eq_some_iff.mp hq).1
  rw [show k = 0 by omega] at hq
  cases hq
  exact h
theorem g_new {index pc ci k : Nat} {L : List (Option PV)} {st : List PV} {w : PW} {fs : List PV} (X : Cx p l R s m args meth c cl sl cc nL own D cy ad A ro dd) (had : ∀ i k : Nat, KS[i]? = some k → ad k = s.heap.size + i) (hd : decode cc pc = .ok (.new index, 3)) (hn : nOk own index ci fs) (hk : KS[cl]? = some k) (hlow : lowB KS cl w = true) (h1 : cl + 1 ≤ R.cells) (h2 : sl + fs.length ≤ R.slots)
    (hG : Gd p l e R s m args below meth c (cl + 1) (sl + fs.length) Q nL D cy ad A (pc + 3, L, vR k :: st, w ++ [(k, .inr (ci, fs))])) : Gd p l e R s m args below meth c cl sl Q nL D cy ad A (pc, L, st, w) := by
  obtain ⟨hx, hb, -, hown, hts, hK, -, hA, -⟩ := X
  obtain ⟨rr, ty, n1, ⟨n2, -⟩, n3, n4, n5, n6, n7, n8⟩ := hn
  intro H locs ls hl hP hD hS T hT Xs
  have hz := H_size had hlow hP hS hT Xs
  have hKn := hK.1 ci _ n1
  have hak : ad k = H.size := by rw [hz]; exact had _ _ hk
  rw [n5] at h2 hG
  refine W.newcK (n := rr.2.2) (Q := Q) (g := F0 m pc ls (st.map (pv ad))) hx hb hown (hts _ n6) (hts _ n7) (hts _ n8) rfl hd h1 h2 hKn.2.1 rfl (fun H1 kC hkC e1 z1 o1 => ?_) T hT Xs
  obtain ⟨g1, g2, g3⟩ := grow (w2 := [(k, .inr (ci, fs))]) hP hD hS hA rfl (by omega) o1 (one_key hak) (one_P ⟨rr, n1, by
    have := (u_born ty hts n2 hKn hkC e1 n3).to (n4 ad)
    show t_OB (ad k) _ _ _ H1 _
    rw [hak]
    exact this⟩)
  have := hG H1 locs ls hl g1 g2 g3
  rw [← hak]
  exact this
theorem g_newa {pc k N : Nat} {L : List (Option PV)} {st : List PV} {w : PW} (X : Cx p l R s m args meth c cl sl cc nL own D cy ad A ro dd) (had : ∀ i k : Nat, KS[i]? = some k → ad k = s.heap.size + i) (hd : decode cc pc = .ok (.newarray .int, 2)) (hw : Cond.arrayClass .int ∈ gT) (hN : N ≤ 1000) (hk : KS[cl]? = some k) (hlow : lowB KS cl w = true) (h1 : cl + 1 ≤ R.cells) (h2 : sl + N ≤ R.slots)
    (hG : Gd p l e R s m args below meth c (cl + 1) (sl + N) Q nL D cy ad A (pc + 2, L, vR k :: st, w ++ [(k, .inl (N, .inl (fun _ => 0)))])) : Gd p l e R s m args below meth c cl sl Q nL D cy ad A (pc, L, vI (N : Int) :: st, w) := by
  obtain ⟨hx, hb, -, hown, hts, hK, -, hA, -⟩ := X
  intro H locs ls hl hP hD hS T hT Xs
  have hz := H_size had hlow hP hS hT Xs
  have hak : ad k = H.size := by rw [hz]; exact had _ _ hk
  have hni : (Int32.ofInt (N : Int)).toInt = (N : Int) := i_of (by omega)
  have hnn : (Int32.ofInt (N : Int)).toNatClampNeg = N := by rw [← Int32.toNat_toInt, hni]; rfl
  refine va_newaK (Q := Q) (atype := .int) (N := N) (n := Int32.ofInt (N : Int)) (g := F0 m pc ls (.int (Int32.ofInt (N : Int)) :: st.map (pv ad))) hx hb (hts _ hw) rfl hd rfl (fun q => ?_) hnn (by show N * 4 ≤ 536870912; omega) h1 h2 rfl (fun H1 cA e1 z1 o1 hAr hNm => ?_) T hT Xs
  · rw [Int32.lt_iff_toInt_lt, hni] at q
    have h0 : (0 : Int32).toInt = 0 := rfl
    omega
  · have hcA : cA = cy 0 := by
      have h3 : s.vm.findClass ("[" ++ FieldType.int.toString) = some (cy 0) := (hK.2 0 (cy 0, .int) rfl).2
      exact Option.some.inj (hNm.symm.trans h3)
    subst hcA
    obtain ⟨g1, g2, g3⟩ := grow (w2 := [(k, .inl (N, .inl (fun _ => 0)))]) hP hD hS hA rfl (by omega) o1 (one_key hak) (one_P (by
      show H1[ad k]? = some (vp_cell (cy 0) (N, .inl (fun _ => Int32.ofInt 0)))
      rw [hak]
      exact e1))
    have := hG H1 locs ls hl g1 g2 g3
    rw [← hak]
    exact this
theorem g_putF {idx pc ci k a b : Nat} {L : List (Option PV)} {st : List PV} {w : PW} {fs : List PV} {v0 : PV} (X : Cx p l R s m args meth c cl sl cc nL own D cy ad A ro dd) (hin : meth.name = "<init>") (hd : decode cc pc = .ok (.putfield idx, 3)) (hk : pOk own idx ci k) (hc : alk w a = some (.inr (ci, fs))) (hv : fget fs k = some v0)
    (hG : Gd p l e R s m args below meth c cl sl Q nL D cy ad A (pc + 3, L, st, pset w a (.inr (ci, fset fs k (vR b))))) : Gd p l e R s m args below meth c cl sl Q nL D cy ad A (pc, L, vR b :: vR a :: st, w) := by
  obtain ⟨hx, hb, -, hown, hts, hK, -⟩ := X
  obtain ⟨rr, ty, g1, ⟨g2, ⟨ty0, g5⟩, g6⟩, g3, g4, g7, g8, g9, g10⟩ := hk
  intro H locs ls hl hP hD hS
  obtain ⟨q0, e1, e2⟩ := cw_look (ad := ad) (cy := cy) hc
  have hlen : k < (fs.map (pv ad)).length := (List.getElem?_eq_some_iff.mp (fget_map (ad := ad) hv)).1
  refine va_putF hx hb (C := rr.1) (T := rr.2.1) (N := rr.2.2) (Ts := gT) (v := .ref (ad b)) hts g2 ty0 g5 g6 hown hK hP hD hS q0 e1 g1 k g3 (hts _ g4) (fun _ h => h) g7 hin g8 g9 (ref_narrow g10 _) (ref_fits g10 _) hlen hd (fun H1 locs1 hP1 hD1 hS1 => ?_)
  have e3 := e2 (.inr (ci, fset fs k (vR b)))
  have e4 : pe ad cy (.inr (ci, fset fs k (vR b))) = .inr (ci, (fs.map (pv ad)).set k (.ref (ad b))) := by
    show (Sum.inr (ci, (fset fs k (vR b)).map (pv ad)) : va_E) = _
    rw [fset_map]
    rfl
  rw [e4] at e3
  exact hG H1 locs1 ls hl (by rw [e3]; exact hP1) (by rw [e3]; exact hD1) hS1
def rowsW (ki N : Nat) (K : Nat) : PW := (List.range N).map (fun i => (ki + i, .inl (K, .inl (fun _ => 0))))
def outF (ki N : Nat) : Int → Option Nat := fun i => if i < (N : Int) then some (ki + i.toNat) else none
theorem outer_is (c : ClassId) (N h0 : Nat) : ∀ i : Nat, Jvm.Free.Multi.outerC c N h0 i = arrV c N (fun j => va_rf (if j < i then some (h0 + 1 + j) else none))
  | 0 => by
    show ({ cls := c, slots := Array.replicate N .null, vm := .none } : Cell) = _
    rw [arrV_new]
    refine congrArg (arrV c N) (funext fun j => ?_)
    simp [va_rf]
  | i + 1 => by
    show (Jvm.Free.Multi.outerC c N h0 i).setSlot i (.ref (h0 + 1 + i)) = _
    rw [outer_is c N h0 i, arrV_store]
    refine congrArg (arrV c N) (funext fun j => ?_)
    by_cases e : j = i
    · subst e
      simp [updV, va_rf]
    · by_cases h : j < i
      · simp [updV, e, h, Nat.lt_succ_of_lt h]
      · simp [updV, e, h, show ¬ j < i + 1 by omega]
theorem g_mna {idx pc ko ki N K : Nat} {L : List (Option PV)} {st : List PV} {w : PW} (X : Cx p l R s m args meth c cl sl cc nL own D cy ad A ro dd) (hx : xEnv s) (had : ∀ i k : Nat, KS[i]? = some k → ad k = s.heap.size + i) (hd : decode cc pc = .ok (.multianewarray idx 2, 4)) (hw : Cond.arrayClass .int ∈ gT) (hcl : Cond.classLink own idx "[[I" ∈ gT) (hN : N ≤ 1000) (hK0 : K ≤ 1000) (hk : KS[cl]? = some ko) (hks : ∀ i, i < N → KS[cl + 1 + i]? = some (ki + i)) (hlow : lowB KS cl w = true) (h1 : cl + (1 + N) ≤ R.cells) (h2 : sl + (N + N * K) ≤ R.slots)
    (hG : Gd p l e R s m args below meth c (cl + 1 + N) (sl + N + N * K) Q nL D cy ad A (pc + 4, L, vR ko :: st, w ++ ((ko, .inl (N, .inr (.inr (outF ki N)))) :: rowsW ki N K))) : Gd p l e R s m args below meth c cl sl Q nL D cy ad A (pc, L, vI (K : Int) :: vI (N : Int) :: st, w) := by
  have hover : (Cond.arrayOver (.array .int)).before args s = true := ao_tabs rfl (hx _ List.mem_cons_self)
  obtain ⟨hx, hb, -, hown, hts, hK, -, hA, -⟩ := X
  intro H locs ls hl hP hD hS T hT Xs
  have hz := H_size had hlow hP hS hT Xs
  have hak : ad ko = H.size := by rw [hz]; exact had _ _ hk
  have hni : (Int32.ofInt (N : Int)).toInt = (N : Int) := i_of (by omega)
  have hnn : (Int32.ofInt (N : Int)).toNatClampNeg = N := by rw [← Int32.toNat_toInt, hni]; rfl
  have hki : (Int32.ofInt (K : Int)).toInt = (K : Int) := i_of (by omega)
  have hkn : (Int32.ofInt (K : Int)).toNatClampNeg = K := by rw [← Int32.toNat_toInt, hki]; rfl
  have h0 : (0 : Int32).toInt = 0 := rfl
  obtain ⟨vm₁, cA, comp, -, fA, fC, hO, -, X', step⟩ := Xs.multianewarray2F hx (ty := .int) hown (hts _ hcl) hover (hts _ hw) (g := F0 m pc ls (.int (Int32.ofInt (K : Int)) :: .int (Int32.ofInt (N : Int)) :: st.map (pv ad))) rfl (by rw [hb]; exact hd) (n := Int32.ofInt (N : Int)) (k := Int32.ofInt (K : Int)) (rest := st.map (pv ad)) rfl (by rw [Int32.lt_iff_toInt_lt, hni]; omega) (by rw [Int32.lt_iff_toInt_lt, hki]; omega) (by rw [hnn]; omega) (by rw [hkn]; show K * 4 ≤ _; omega) (by rw [hkn]; omega) rfl rfl (by rw [hnn]; exact h1) (by rw [hnn, hkn]; exact h2)
  rw [hnn, hkn] at X' step
  have hcA : cA = cy 2 := by
    have h3 : s.vm.findClass ("[" ++ (FieldType.array .int).toString) = some (cy 2) := (hK.2 2 (cy 2, .array .int) rfl).2
    exact Option.some.inj (fA.symm.trans h3)
  have hcC : comp = cy 0 := by
    have h3 : s.vm.findClass ("[" ++ FieldType.int.toString) = some (cy 0) := (hK.2 0 (cy 0, .int) rfl).2
    exact Option.some.inj (fC.symm.trans h3)
  subst hcA
  subst hcC
  generalize hF : Jvm.Free.Multi.fill (T.setVm vm₁) (cy 2) (cy 0) N K (defaultValue .int) N = F at X' step
  have hTh : (T.setVm vm₁).heap = H := hT
  obtain ⟨f1, f2, -, -⟩ := Jvm.Free.Multi.fill_facts (T.setVm vm₁) (cy 2) (cy 0) N K (defaultValue .int) N
  rw [hF, hTh] at f1 f2
  have hold : ∀ x : Nat, x < H.size → F.heap[x]? = H[x]? := fun x hx => by
    have := Jvm.Free.Multi.fill_old (T.setVm vm₁) (cy 2) (cy 0) N K (defaultValue .int) (a := x) (by rw [hTh]; exact hx) N
    rw [hF, hTh] at this
    exact this
  have hrow : ∀ j : Nat, j < N → F.heap[H.size + 1 + j]? = some (vp_cell (cy 0) (K, .inl (fun _ => Int32.ofInt 0))) := fun j hj => by
    have := Jvm.Free.Multi.fill_inner (T.setVm vm₁) (cy 2) (cy 0) N K (defaultValue .int) N j hj
    rw [hF, hTh] at this
    rw [this]
    refine congrArg some ?_
    show ({ cls := cy 0, slots := Array.replicate K (defaultValue .int), vm := .none } : Cell) = _
    rw [arrV_new]
    rfl
  have hadi : ∀ i, i < N → ad (ki + i) = H.size + 1 + i := fun i hi => by
    have := had _ _ (hks i hi)
    omega
  have hout : Jvm.Free.Multi.outerC (cy 2) N H.size N = vp_cell (cy 2) (N, .inr (.inr (.inr (.inr (fun j : Nat => (outF ki N (j : Int)).map ad))))) := by
    rw [vp_cell_q, outer_is]
    refine congrArg (arrV (cy 2) N) (funext fun j => ?_)
    unfold outF
    by_cases hj : j < N
    · rw [if_pos hj, if_pos (by omega)]
      show _ = va_rf (some (ad (ki + j)))
      rw [hadi j hj]
    · rw [if_neg hj, if_neg (by omega)]
      rfl
  rw [hout] at f2
  obtain ⟨g1, g2, g3⟩ := grow (H1 := F.heap) (w2 := (ko, .inl (N, .inr (.inr (outF ki N)))) :: rowsW ki N K) hP hD hS hA rfl (by omega) hold (by
    intro i a hi
    cases i with
    | zero =>
      cases hi
      exact hak
    | succ i =>
      rw [List.map_cons, List.getElem?_cons_succ] at hi
      unfold rowsW at hi
      rw [List.getElem?_map, List.getElem?_map] at hi
      by_cases hiN : i < N
      · rw [List.getElem?_range hiN] at hi
        cases hi
        have h9 := hadi i hiN
        show ad (ki + i) = H.size + (i + 1)
        omega
      · rw [List.getElem?_eq_none (by rw [List.length_range]; omega)] at hi
        cases hi) (by
    intro i q hq
    cases i with
    | zero =>
      cases hq
      show F.heap[ad ko]? = _
      rw [hak]
      exact f2
    | succ i =>
      rw [cw_at, List.getElem?_cons_succ] at hq
      unfold rowsW at hq
      rw [List.getElem?_map] at hq
      by_cases hiN : i < N
      · rw [List.getElem?_range hiN] at hq
        cases hq
        show F.heap[ad (ki + i)]? = _
        rw [hadi i hiN]
        exact hrow i hiN
      · rw [List.getElem?_eq_none (by rw [List.length_range]; omega)] at hq
        cases hq)
  obtain ⟨t, a1, b1⟩ := hG F.heap locs ls hl g1 g2 g3 F rfl X'
  refine ⟨t, step t ?_, b1⟩
  have e : T.heap.size = H.size := by rw [hT]
  rw [e, ← hak]
  exact a1
theorem g_obj {idx pc a : Nat} {L : List (Option PV)} {st : List PV} {w : PW} (X : Cx p l R s m args meth c cl sl cc nL own D cy ad A ro dd) (hd : decode cc pc = .ok (.invokespecial idx, 3)) (h1 : Cond.methodLink own idx Lib.objectInit ∈ gT) (h2 : Cond.instanceMethod Lib.objectInit ∈ gT) (h3 : Cond.code Lib.objectInit ⟨#[0xb1]⟩ 1 none ∈ gT) (hst : pcat st ≤ 8)
    (hG : Gd p l e R s m args below meth c cl sl Q nL D cy ad A (pc + 3, L, st, w)) : Gd p l e R s m args below meth c cl sl Q nL D cy ad A (pc, L, vR a :: st, w) := by
  obtain ⟨hx, hb, hml, hown, hts, -, -, -, -, -, ⟨hfr, hlo⟩, -⟩ := X
  intro H locs ls hl hP hD hS
  have hr : 2 * (F0 m pc ls ((vR a :: st).map (pv ad))).monitorRoom + ((st.map (pv ad)).map fun v => v.category).sum ≤ 8 := lv_room (by rw [pcat_eq]; exact hst)
  have hk := W.objInit (g := F0 m pc ls ((vR a :: st).map (pv ad))) hx hb hown (hts _ h1) (hts _ h2) (hts _ h3) rfl (by rw [hml]; exact hl.1.1) (a := ad a) (rest := st.map (pv ad)) rfl hd (by omega) (by omega) (hG H locs ls hl hP hD hS)
  exact hk
theorem g_ctor {idx pc d a ms : Nat} {L : List (Option PV)} {st : List PV} {w w2 : PW} {M : PM} {ks : List Nat} (X : Cx p l R s m args meth c cl sl cc nL own D cy ad A ro dd) (hxe : xEnv s) (had : ∀ i k : Nat, KS[i]? = some k → ad k = s.heap.size + i) (hd : decode cc pc = .ok (.invokespecial idx, 3)) (hk : cLink own idx M) (hM : Sn M ro d [vR a] w w2 ks ms)
    (hdd : d + 1 ≤ dd) (hnl : M.2.2.1 ≤ 20) (hst : pcat st ≤ 8) (hlow : lowB KS cl w = true) (hks : ks = (KS.drop cl).take ks.length) (h1 : cl + ks.length ≤ R.cells) (h2 : sl + ms ≤ R.slots)
    (hG : Gd p l e R s m args below meth c (cl + ks.length) (sl + ms) Q nL D cy ad A (pc + 3, L, st, w2)) : Gd p l e R s m args below meth c cl sl Q nL D cy ad A (pc, L, vR a :: st, w) := by
  have X0 := X
  obtain ⟨hx, hb, hml, hown, hts, hK, hE, hA, -, hlt, ⟨hfr, hlo⟩, -, -⟩ := X0
  obtain ⟨k1, k2, k3, k4, ⟨k5, k6, k7⟩, k8, k9⟩ := hk
  intro H locs ls hl hP hD hS T hT Xs
  have hz := H_size had hlow hP hS hT Xs
  have hksa : ∀ i k : Nat, ks[i]? = some k → ad k = H.size + i := by
    intro i k hi
    rw [hks] at hi
    have hil : i < ks.length := by
      have := (List.getElem?_eq_some_iff.mp hi).1
      rw [List.length_take] at this
      omega
    rw [List.getElem?_take_of_lt hil, List.getElem?_drop] at hi
    have := had _ _ hi
    omega
  have hMet := hM.2 l hlt D cy ad H.size hksa
  have hG0 : GoodIn gT (wsM M) := gT_in k4
  have hroom : (prmN d ks.length ms).frames + 1 ≤ R.frames ∧ 8 + (M.2.2.1 + 11) + (prmN d ks.length ms).locals ≤ R.locals := by
    refine ⟨?_, ?_⟩
    · show d + 8 + 1 ≤ R.frames
      omega
    · show 8 + (M.2.2.1 + 11) + (40 * d + 200) ≤ R.locals
      omega
  have hpre : PreS s H (va_Pc ([vR a].map (pv ad)) (pPreN D cy ad ro w H.size)) (.ref (ad a) :: []) := ⟨pPreN_blind, fun U hU hW => ⟨rfl, pPre_of X hP hD hS hU hW, hxe.to hW⟩⟩
  have hr8 : 2 * (F0 m pc ls ((vR a :: st).map (pv ad))).monitorRoom + ((st.map (pv ad)).map fun v => v.category).sum ≤ 8 := lv_room (by rw [pcat_eq]; exact hst)
  have hrun : va_Run p l e R s m args below meth c H locs cl sl ks.length ms (F0 m pc ls ((vR a :: st).map (pv ad))) (st.map (pv ad)) (fun st0 oc t => oc = .returned none ∧ va_P D vwCl (cw ad cy w2) t.heap ∧ va_F (va_A (cw ad cy w) H.size) st0 t) (va_A (cw ad cy w) H.size) := by
    rcases k1 with k1 | ⟨host, k1⟩
    · exact va_runI (cc := cc) (nL := nL) (Ts := gT) (own := own) (As := []) (b := ad a) (bytes := M.2.1) (maxL := M.2.2.1) (n := 0) ⟨hx, hb, hml, hown, hts⟩ hMet (cwI 0 hts hG0 (by rw [← k9]; rfl) rfl rfl (hts _ k3) (hts _ k1) (hts _ k2) k8 ⟨k5, k6, k7⟩ hroom) hpre rfl rfl hl.1.1 rfl hr8 hd ⟨h1, h2⟩
    · exact va_runIN (cc := cc) (nL := nL) (Ts := gT) (own := own) (host := host) (As := []) (b := ad a) (bytes := M.2.1) (maxL := M.2.2.1) (n := 0) ⟨hx, hb, hml, hown, hts⟩ hMet ⟨va_cnB 0 hts hG0 (by rw [← k9]; rfl) rfl rfl (hxe _ k1) (hts _ k3) ⟨k5, k6, k7⟩ hroom, k8, hts _ k2⟩ hpre rfl rfl hl.1.1 rfl hr8 hd ⟨h1, h2⟩
  have hf := va_A_in hA hD hS
  obtain ⟨v', st₀, t, T', L', h0, X', hL, e1, e2, ⟨q2, q3, hF⟩, st5⟩ := hrun T hT Xs
  cases q2
  obtain ⟨-, -, k3⟩ := vx_keep h0 e1 hS (fun q _ h => hf q h) hf hL hF
  have hD2 : va_D A (cw ad cy w2) := by
    refine dK_to ?_
    rw [hM.1]
    refine dK_push (dK_of hD) (fun b hb => ?_) hksa (fun q hq => hA q (Nat.le_trans hS.1 hq))
    obtain ⟨i, hi⟩ := List.getElem?_of_mem hb
    obtain ⟨x, x1, x2⟩ := cw_key (ad := ad) (cy := cy) hi
    rw [← x2]
    exact (hP i x x1).lt
  obtain ⟨t2, a1, b1⟩ := hG T'.heap (locs ++ L') ls hl (by rw [e1]; exact q3) hD2 k3 T' rfl X'
  exact ⟨t2, st5 t2 a1, b1⟩
theorem g_astore {pc k a : Nat} {k4 : Fin 4} {L : List (Option PV)} {st : List PV} {w : PW} (X : Cx p l R s m args meth c cl sl cc nL own D cy ad A ro dd) (hd : decode cc pc = .ok (.astore_n k4, 1)) (hk4 : k4.val = k) (hkL : k < L.length)
    (hG : Gd p l e R s m args below meth c cl sl Q nL D cy ad A (pc + 1, lput1 L k (vR a), st, w)) : Gd p l e R s m args below meth c cl sl Q nL D cy ad A (pc, L, vR a :: st, w) := by
  obtain ⟨hx, hb, -⟩ := X
  intro H locs ls hl hP hD hS
  have hk : k < nL := by rw [← hl.2]; exact hkL
  exact lv_astore_n hx hb hd hk4 hl.1 hk rfl (fun ls' h' => hG H locs ls' (ph_put1 (v := vR a) hk hl.2 h') hP hD hS)
/-- a row's values outside its bounds are of no account -/
theorem g_cg {pc k N : Nat} {L : List (Option PV)} {st : List PV} {w : PW} {f : Int → Int} (g : Int → Int) (hc : alk w k = some (.inl (N, .inl f))) (hfg : ∀ j : Int, 0 ≤ j → j < (N : Int) → f j = g j)
    (hG : Gd p l e R s m args below meth c cl sl Q nL D cy ad A (pc, L, st, pset w k (.inl (N, .inl g)))) : Gd p l e R s m args below meth c cl sl Q nL D cy ad A (pc, L, st, w) := by
  intro H locs ls hl hP hD hS
  obtain ⟨q0, e1, e2⟩ := cw_look (ad := ad) (cy := cy) hc
  have e3 := e2 (.inl (N, .inl g))
  refine hG H locs ls hl ?_ ?_ hS
  · rw [e3]
    refine hP.set hD e1 ?_ (fun _ _ => rfl)
    have h1 := hP _ _ e1
    have h2 : H[ad k]? = some (arrV (cy 0) N (fun j : Nat => .int (Int32.ofInt (f (j : Int))))) := h1
    show H[ad k]? = some (arrV (cy 0) N (fun j : Nat => .int (Int32.ofInt (g (j : Int)))))
    rw [h2]
    unfold arrV
    congr 2
    refine congrArg Array.ofFn (funext fun j => ?_)
    show Value.int (Int32.ofInt (f (j.val : Int))) = Value.int (Int32.ofInt (g (j.val : Int)))
    rw [hfg (j.val : Int) (by omega) (by have := j.isLt; omega)]
  · rw [e3]
    exact hD.set e1
theorem g_cgR {pc k N : Nat} {L : List (Option PV)} {st : List PV} {w : PW} {f : Int → Option Nat} (g : Int → Option Nat) (hc : alk w k = some (.inl (N, .inr (.inr f)))) (hfg : ∀ j : Int, 0 ≤ j → j < (N : Int) → f j = g j)
    (hG : Gd p l e R s m args below meth c cl sl Q nL D cy ad A (pc, L, st, pset w k (.inl (N, .inr (.inr g))))) : Gd p l e R s m args below meth c cl sl Q nL D cy ad A (pc, L, st, w) := by
  intro H locs ls hl hP hD hS
  obtain ⟨q0, e1, e2⟩ := cw_look (ad := ad) (cy := cy) hc
  have e3 := e2 (.inl (N, .inr (.inr g)))
  refine hG H locs ls hl ?_ ?_ hS
  · rw [e3]
    refine hP.set hD e1 ?_ (fun _ _ => rfl)
    have h1 := hP _ _ e1
    have h2 : H[ad k]? = some (arrV (cy 2) N (fun j : Nat => va_rf ((f (j : Int)).map ad))) := h1
    show H[ad k]? = some (arrV (cy 2) N (fun j : Nat => va_rf ((g (j : Int)).map ad)))
    rw [h2]
    unfold arrV
    congr 2
    refine congrArg Array.ofFn (funext fun j => ?_)
    show va_rf ((f (j.val : Int)).map ad) = va_rf ((g (j.val : Int)).map ad)
    rw [hfg (j.val : Int) (by omega) (by have := j.isLt; omega)]
  · rw [e3]
    exact hD.set e1
end MAKE
/-- the rules for a constructor's body (and for the law's head): by the number of cells made and of slots used -/
def Rn (own : String) (ro : PRO) (lk : PL) (tb : PT) (d : Nat) (KS : List Nat) (ns : Nat) (G : Nat → Nat → PS → Prop) : Prop :=
  (∀ (cl sl n : Nat) (S S' : PS) (P : Option Prop), prun lk ro tb n S = some (S', P) → (∀ q, P = some q → q) → G cl sl S' → G cl sl S) ∧
  (∀ (cl sl : Nat) (S : PS) (i : Instr) (n : Nat) (P C : Prop) (S1 S2 : PS), alk tb S.1 = some (i, n) → pbr i n S = some (P, C, S1, S2) → P → (C → G cl sl S1) → (¬ C → G cl sl S2) → G cl sl S) ∧
  (∀ (cl sl index pc ci k : Nat) (L : List (Option PV)) (st : List PV) (w : PW) (fs : List PV), alk tb pc = some (.new index, 3) → nOk own index ci fs → KS[cl]? = some k → lowB KS cl w = true → sl + fs.length ≤ ns → G (cl + 1) (sl + fs.length) (pc + 3, L, vR k :: st, w ++ [(k, .inr (ci, fs))]) → G cl sl (pc, L, st, w)) ∧
  (∀ (cl sl pc k N : Nat) (L : List (Option PV)) (st : List PV) (w : PW), alk tb pc = some (.newarray .int, 2) → N ≤ 1000 → KS[cl]? = some k → lowB KS cl w = true → sl + N ≤ ns → G (cl + 1) (sl + N) (pc + 2, L, vR k :: st, w ++ [(k, .inl (N, .inl (fun _ => 0)))]) → G cl sl (pc, L, vI (N : Int) :: st, w)) ∧
  (∀ (cl sl pc k N : Nat) (L : List (Option PV)) (st : List PV) (w : PW), alk tb pc = some (.newarray .long, 2) → False → N ≤ 1000 → KS[cl]? = some k → lowB KS cl w = true → sl + N ≤ ns → G (cl + 1) (sl + N) (pc + 2, L, vR k :: st, w ++ [(k, .inl (N, .inr (.inl (fun _ => 0))))]) → G cl sl (pc, L, vI (N : Int) :: st, w)) ∧
  (∀ (cl sl idx pc ko ki N K : Nat) (L : List (Option PV)) (st : List PV) (w : PW), alk tb pc = some (.multianewarray idx 2, 4) → Cond.classLink own idx "[[I" ∈ gT → N ≤ 1000 → K ≤ 1000 → KS[cl]? = some ko → (∀ i, i < N → KS[cl + 1 + i]? = some (ki + i)) → lowB KS cl w = true → cl + (1 + N) ≤ KS.length → sl + (N + N * K) ≤ ns → G (cl + 1 + N) (sl + N + N * K) (pc + 4, L, vR ko :: st, w ++ ((ko, .inl (N, .inr (.inr (outF ki N)))) :: rowsW ki N K)) → G cl sl (pc, L, vI (K : Int) :: vI (N : Int) :: st, w)) ∧
  (∀ (cl sl idx pc a : Nat) (L : List (Option PV)) (st : List PV) (w : PW), alk tb pc = some (.invokespecial idx, 3) → Cond.methodLink own idx Lib.objectInit ∈ gT → pcat st ≤ 8 → G cl sl (pc + 3, L, st, w) → G cl sl (pc, L, vR a :: st, w)) ∧
  (∀ (cl sl idx pc d1 a ms : Nat) (L : List (Option PV)) (st : List PV) (w w2 : PW) (M : PM) (ks : List Nat), alk tb pc = some (.invokespecial idx, 3) → cLink own idx M → Sn M ro d1 [vR a] w w2 ks ms → d1 + 1 ≤ d → M.2.2.1 ≤ 20 → pcat st ≤ 8 → lowB KS cl w = true → ks = (KS.drop cl).take ks.length → sl + ms ≤ ns → G (cl + ks.length) (sl + ms) (pc + 3, L, st, w2) → G cl sl (pc, L, vR a :: st, w)) ∧
  (∀ (cl sl k pc : Nat) (L : List (Option PV)) (st : List PV) (w : PW), G cl sl (pc, lset L k none, st, w) → G cl sl (pc, L, st, w)) ∧
  (∀ (cl sl pc k N : Nat) (L : List (Option PV)) (st : List PV) (w : PW) (f g : Int → Int), alk w k = some (.inl (N, .inl f)) → (∀ j : Int, 0 ≤ j → j < (N : Int) → f j = g j) → G cl sl (pc, L, st, pset w k (.inl (N, .inl g))) → G cl sl (pc, L, st, w)) ∧
  (∀ (cl sl pc k N : Nat) (L : List (Option PV)) (st : List PV) (w : PW) (f g : Int → Option Nat), alk w k = some (.inl (N, .inr (.inr f))) → (∀ j : Int, 0 ≤ j → j < (N : Int) → f j = g j) → G cl sl (pc, L, st, pset w k (.inl (N, .inr (.inr g)))) → G cl sl (pc, L, st, w)) ∧
  (∀ (cl sl pc k a : Nat) (k4 : Fin 4) (L : List (Option PV)) (st : List PV) (w : PW), alk tb pc = some (.astore_n k4, 1) → k4.val = k → k < L.length → G cl sl (pc + 1, lput1 L k (vR a), st, w) → G cl sl (pc, L, vR a :: st, w))
/-- and the two that only a constructor has -/
def Rc (own : String) (tb : PT) (KS : List Nat) (ns : Nat) (w' : PW) (G : Nat → Nat → PS → Prop) : Prop :=
  (∀ (cl sl idx pc ci k a b : Nat) (L : List (Option PV)) (st : List PV) (w : PW) (fs : List PV) (v0 : PV), alk tb pc = some (.putfield idx, 3) → pOk own idx ci k → alk w a = some (.inr (ci, fs)) → fget fs k = some v0 → G cl sl (pc + 3, L, st, pset w a (.inr (ci, fset fs k (vR b)))) → G cl sl (pc, L, vR b :: vR a :: st, w)) ∧
  (∀ (pc : Nat) (L : List (Option PV)), alk tb pc = some (.return_, 1) → G KS.length ns (pc, L, [], w'))
theorem obj_words : Cond.instanceMethod Lib.objectInit ∈ gT ∧ Cond.code Lib.objectInit ⟨#[0xb1]⟩ 1 none ∈ gT := ⟨gT_at 22 (by decide +kernel) (by decide +kernel), gT_at 23 (by decide +kernel) (by decide +kernel)⟩
theorem arr_words : Cond.arrayClass .int ∈ gT ∧ True := ⟨gT_at 46 (by decide +kernel) (by decide +kernel), trivial⟩
section MAKE2
variable {p : Program} {l : Launch} {e : Env} {R : Room} {s : State} {m : MethodId} {args : Array Value} {below : List Frame} {meth : Method} {c : Code} {Q : State → Prop}
variable {cc : ByteArray} {nL : Nat} {own : String} {D : va_G} {cy : Nat → ClassId} {ad : Nat → Nat} {A : Nat → Prop} {ro : PRO} {dd : Nat} {KS : List Nat} {ns : Nat}
def GN (p : Program) (l : Launch) (e : Env) (R : Room) (s : State) (m : MethodId) (args : Array Value) (below : List Frame) (meth : Method) (c : Code) (Q : State → Prop) (nL : Nat) (D : va_G) (cy : Nat → ClassId) (ad : Nat → Nat) (A : Nat → Prop) (KS : List Nat) (ns : Nat) (cl sl : Nat) (S : PS) : Prop :=
  cl ≤ KS.length → sl ≤ ns → Gd p l e R s m args below meth c cl sl Q nL D cy ad A S
theorem Rn_of {lk : PL} {tb : PT} (X : Cx p l R s m args meth c 0 0 cc nL own D cy ad A ro dd) (hxe : xEnv s) (had : ∀ i k : Nat, KS[i]? = some k → ad k = s.heap.size + i) (hlk : lkOk own lk) (htb : ∀ q ∈ tb, decode cc q.1 = .ok (q.2.1, q.2.2)) (hRc : KS.length ≤ R.cells) (hRs : ns ≤ R.slots) : Rn own ro lk tb dd KS ns (GN p l e R s m args below meth c Q nL D cy ad A KS ns) := by
  have htb2 : ∀ {a : Nat} {i : Instr} {n : Nat}, alk tb a = some (i, n) → decode cc a = .ok (i, n) := fun {a i n} h => htb (a, (i, n)) (alk_mem h)
  have hX : ∀ {cl sl : Nat}, cl ≤ KS.length → sl ≤ ns → Cx p l R s m args meth c cl sl cc nL own D cy ad A ro dd := fun h1 h2 => X.at (Nat.le_trans h1 hRc) (Nat.le_trans h2 hRs)
  have hlt : ∀ {cl k : Nat}, KS[cl]? = some k → cl + 1 ≤ KS.length := fun {cl k} h => (List.getElem?_eq_some_iff.mp h).1
  refine ⟨?_, ?_, ?_, ?_, ?_, ?_, ?_, ?_, ?_, ?_, ?_, ?_⟩
  · exact fun cl sl n S S' P h1 h2 h3 b1 b2 => prun_sound (hX b1 b2) hlk htb h1 h2 (h3 b1 b2)
  · exact fun cl sl S i n P C S1 S2 h0 h1 h2 h3 h4 b1 b2 => pbr_sound (hX b1 b2) (htb2 h0) h1 h2 (fun z => h3 z b1 b2) (fun z => h4 z b1 b2)
  · exact fun cl sl index pc ci k L st w fs h0 h1 h2 h3 h4 h5 b1 b2 => g_new (hX b1 b2) had (htb2 h0) h1 h2 h3 (Nat.le_trans (hlt h2) hRc) (Nat.le_trans h4 hRs) (h5 (hlt h2) h4)
  · exact fun cl sl pc k N L st w h0 h1 h2 h3 h4 h5 b1 b2 => g_newa (hX b1 b2) had (htb2 h0) arr_words.1 h1 h2 h3 (Nat.le_trans (hlt h2) hRc) (Nat.le_trans h4 hRs) (h5 (hlt h2) h4)
  · exact fun cl sl pc k N L st w h0 hF => hF.elim
  · exact fun cl sl idx pc ko ki N K L st w h0 h1 h2 h3 h4 h5 h6 h7 h8 h9 b1 b2 => g_mna (hX b1 b2) hxe had (htb2 h0) arr_words.1 h1 h2 h3 h4 h5 h6 (Nat.le_trans h7 hRc) (Nat.le_trans h8 hRs) (h9 (by omega) (by omega))
  · exact fun cl sl idx pc a L st w h0 h1 h2 h3 b1 b2 => g_obj (hX b1 b2) (htb2 h0) h1 obj_words.1 obj_words.2 h2 (h3 b1 b2)
  · intro cl sl idx pc d1 a ms L st w w2 M ks h0 h1 h2 h3 h4 h5 h6 h7 h8 h9 b1 b2
    have b3 : cl + ks.length ≤ KS.length := by
      have := congrArg List.length h7
      rw [List.length_take, List.length_drop] at this
      omega
    exact g_ctor (hX b1 b2) hxe had (htb2 h0) h1 h2 h3 h4 h5 h6 h7 (Nat.le_trans b3 hRc) (Nat.le_trans h8 hRs) (h9 b3 h8)
  · exact fun cl sl k pc L st w h b1 b2 H locs ls hl hP hD hS => h b1 b2 H locs ls (ph_less hl) hP hD hS
  · exact fun cl sl pc k N L st w f g h1 h2 h3 b1 b2 => g_cg g h1 h2 (h3 b1 b2)
  · exact fun cl sl pc k N L st w f g h1 h2 h3 b1 b2 => g_cgR g h1 h2 (h3 b1 b2)
  · exact fun cl sl pc k a k4 L st w h0 h1 h2 h3 b1 b2 => g_astore (hX b1 b2) (htb2 h0) h1 h2 (h3 b1 b2)
end MAKE2
theorem g_vret {p : Program} {l : Launch} {e : Env} {R : Room} {s : State} {m : MethodId} {args : Array Value} {below : List Frame} {meth : Method} {c : Code} {cc : ByteArray} {nL : Nat} {own : String} {D : va_G} {cy : Nat → ClassId} {ad : Nat → Nat} {A0 : Nat → Prop} {ro : PRO} {dd cl0 sl0 mc ms pc : Nat} {L : List (Option PV)} {w0 w' : PW} (X : Cx p l R s m args meth c cl0 sl0 cc nL own D cy ad A0 ro dd) (hr : meth.sig.returnType = none) (hd : decode cc pc = .ok (.return_, 1)) :
    Gd p l e R s m args below meth c mc ms (MQ below (fun _ st oc t => oc = .returned none ∧ va_P D vwCl (cw ad cy w') t.heap ∧ va_F (va_A (cw ad cy w0) s.heap.size) st t) args s mc ms (va_A (cw ad cy w0) s.heap.size)) nL D cy ad (va_A (cw ad cy w0) s.heap.size) (pc, L, [], w') := by
  obtain ⟨hx, hb, -, -, -, -, -, -, hlocks, -⟩ := X
  intro H locs ls hl hP hD hS
  exact W.vret (Qc := fun _ st oc t => oc = .returned none ∧ va_P D vwCl (cw ad cy w') t.heap ∧ va_F (va_A (cw ad cy w0) s.heap.size) st t) hx hb hr (fun t ht _ => ⟨rfl, by rw [ht]; exact hP, hS.F ht⟩) hS.2.2 hd hlocks
theorem Sn.of {M : PM} {lk : PL} {tb : PT} {ro : PRO} {d : Nat} {as : List PV} {w w' : PW} {ks : List Nat} {ms : Nat} (hy : plainName M.1.cls = true) (hi : M.1.name = "<init>") (hret : M.2.2.2 = none) (hlk : lkOk M.1.cls lk) (htb : ∀ q ∈ tb, decode M.2.1 q.1 = .ok (q.2.1, q.2.2)) (hkeys : w'.map Prod.fst = w.map Prod.fst ++ ks) (hnl : (lay as).length ≤ M.2.2.1)
    (body : ∀ G : Nat → Nat → PS → Prop, Rn M.1.cls ro lk tb d ks ms G → Rc M.1.cls tb ks ms w' G → G 0 0 (0, lent M.2.2.1 as, [], w)) : Sn M ro d as w w' ks ms := by
  refine ⟨hkeys, fun l hlt D cy ad sz had => ?_⟩
  refine Met.ofW (cc := M.2.1) (maxL := M.2.2.1) (ret := M.2.2.2) hy rfl ?_
  intro p e s m args below meth c s₁ B hml hpre
  obtain ⟨rfl, ⟨hsz, hP, hK, hD0, hE⟩, hxe⟩ := hpre
  subst hsz
  have hall := atoms_spec (ws := wsM M) B.pre
  have hroom : ∃ R : Room, R = (headSpec (wsM M) (prmN d ks.length ms)).room ∧ d + 8 ≤ R.frames ∧ 40 * d + 200 ≤ R.locals ∧ ks.length ≤ R.cells ∧ ms ≤ R.slots := ⟨prmN d ks.length ms, rfl, Nat.le_refl _, Nat.le_refl _, Nat.le_refl _, Nat.le_refl _⟩
  obtain ⟨R, hR, r1, r2, r3, r4⟩ := hroom
  rw [← hR]
  have X : Cx p l R s m (as.map (pv ad)).toArray meth c 0 0 M.2.1 M.2.2.1 M.1.cls D cy ad (va_A (cw ad cy w) s.heap.size) ro d :=
    ⟨B.exec, B.bytes, hml, findClass_of_methodNamed B.named, fun x h => hall x (List.mem_cons_of_mem _ h), hK, hE, fun q h => Or.inr h, B.notSynchronized, hlt, ⟨r1, r2⟩, Nat.zero_le _, Nat.zero_le _⟩
  have htb2 : ∀ {a : Nat} {i : Instr} {n : Nat}, alk tb a = some (i, n) → decode M.2.1 a = .ok (i, n) := fun {a i n} h => htb (a, (i, n)) (alk_mem h)
  have hin : meth.name = "<init>" := (name_of_methodNamed B.named B.method).1.trans hi
  have hrt : meth.sig.returnType = none := B.returns.trans hret
  have hrn := Rn_of (e := e) (below := below) (Q := MQ below (fun _ st oc t => oc = .returned none ∧ va_P D vwCl (cw ad cy w') t.heap ∧ va_F (va_A (cw ad cy w) s.heap.size) st t) (as.map (pv ad)).toArray s ks.length ms (va_A (cw ad cy w) s.heap.size)) (KS := ks) (ns := ms) X hxe had hlk htb r3 r4
  have hG := body _ hrn ⟨?_, ?_⟩
  · have hG := hG (Nat.zero_le _) (Nat.zero_le _)
    rw [lg_entry_eq]
    have hlen : (lg_sl (as.map (pv ad))).length ≤ M.2.2.1 := by rw [lay_len]; exact hnl
    have hl := lv_entry (as.map (pv ad)) hlen
    refine hG s.heap [] _ ⟨?_, ?_⟩ hP hD0.self va_S.rf
    · unfold lent
      rw [lay_args]
      exact hl
    · unfold lent
      rw [List.length_append, List.length_replicate]
      omega
  · intro cl sl idx pc ci k a b L st w fs v0 h0 h1 h2 h3 h4 b1 b2
    exact g_putF (X.at (Nat.le_trans b1 r3) (Nat.le_trans b2 r4)) hin (htb2 h0) h1 h2 h3 (h4 b1 b2)
  · exact fun pc L h0 b1 b2 => g_vret X hrt (htb2 h0)
/-! the rules by name -/
section MAKE3
variable {own : String} {ro : PRO} {lk : PL} {tb : PT} {d : Nat} {KS : List Nat} {ns : Nat} {G : Nat → Nat → PS → Prop} {w' : PW}
theorem Rn.run0 (hR : Rn own ro lk tb d KS ns G) (n : Nat) {cl sl : Nat} {S S' : PS} (h : prun lk ro tb n S = some (S', none)) (k : G cl sl S') : G cl sl S := hR.1 cl sl n S S' none h (fun _ q => by cases q) k
theorem Rn.run1 (hR : Rn own ro lk tb d KS ns G) (n : Nat) {cl sl : Nat} {S S' : PS} {P : Prop} (h : prun lk ro tb n S = some (S', some P)) (hP : P) (k : G cl sl S') : G cl sl S := hR.1 cl sl n S S' (some P) h (fun _ q => by cases q; exact hP) k
theorem Rn.br (hR : Rn own ro lk tb d KS ns G) {cl sl : Nat} {S S1 S2 : PS} {P C : Prop} (h : pbrT tb S = some (P, C, S1, S2)) (hP : P) (k1 : C → G cl sl S1) (k2 : ¬ C → G cl sl S2) : G cl sl S := by
  unfold pbrT at h
  split at h
  · next i n h0 => exact hR.2.1 cl sl S i n P C S1 S2 h0 h hP k1 k2
  · cases h
theorem Rn.nw (hR : Rn own ro lk tb d KS ns G) {cl sl index pc ci k : Nat} {L : List (Option PV)} {st : List PV} {w : PW} {fs : List PV} (hn : nOk own index ci fs) (h0 : alk tb pc = some (.new index, 3)) (hk : KS[cl]? = some k) (hlow : lowB KS cl w = true) (hs : sl + fs.length ≤ ns) (kk : G (cl + 1) (sl + fs.length) (pc + 3, L, vR k :: st, w ++ [(k, .inr (ci, fs))])) : G cl sl (pc, L, st, w) := hR.2.2.1 cl sl index pc ci k L st w fs h0 hn hk hlow hs kk
theorem Rn.na (hR : Rn own ro lk tb d KS ns G) (N : Nat) {cl sl pc k : Nat} {L : List (Option PV)} {st st0 : List PV} {w : PW} (h0 : alk tb pc = some (.newarray .int, 2)) (hN : N ≤ 1000) (hst : st0 = vI (N : Int) :: st) (hk : KS[cl]? = some k) (hlow : lowB KS cl w = true) (hs : sl + N ≤ ns) (kk : G (cl + 1) (sl + N) (pc + 2, L, vR k :: st, w ++ [(k, .inl (N, .inl (fun _ => 0)))])) : G cl sl (pc, L, st0, w) := by
  subst hst
  exact hR.2.2.2.1 cl sl pc k N L st w h0 hN hk hlow hs kk
theorem Rn.mn (hR : Rn own ro lk tb d KS ns G) (N K : Nat) {cl sl idx pc ko : Nat} (ki : Nat) {L : List (Option PV)} {st st0 : List PV} {w : PW} (h0 : alk tb pc = some (.multianewarray idx 2, 4)) (hc : Cond.classLink own idx "[[I" ∈ gT) (hN : N ≤ 1000) (hK : K ≤ 1000) (hst : st0 = vI (K : Int) :: vI (N : Int) :: st) (hk : KS[cl]? = some ko) (hks : ∀ i, i < N → KS[cl + 1 + i]? = some (ki + i)) (hlow : lowB KS cl w = true) (hl : cl + (1 + N) ≤ KS.length) (hs : sl + (N + N * K) ≤ ns) (kk : G (cl + 1 + N) (sl + N + N * K) (pc + 4, L, vR ko :: st, w ++ ((ko, .inl (N, .inr (.inr (outF ki N)))) :: rowsW ki N K))) : G cl sl (pc, L, st0, w) := by
  subst hst
  exact hR.2.2.2.2.2.1 cl sl idx pc ko ki N K L st w h0 hc hN hK hk hks hlow hl hs kk
theorem Rn.ob (hR : Rn own ro lk tb d KS ns G) {cl sl idx pc a : Nat} {L : List (Option PV)} {st : List PV} {w : PW} (h0 : alk tb pc = some (.invokespecial idx, 3)) (h1 : Cond.methodLink own idx Lib.objectInit ∈ gT) (h2 : pcat st ≤ 8) (kk : G cl sl (pc + 3, L, st, w)) : G cl sl (pc, L, vR a :: st, w) := hR.2.2.2.2.2.2.1 cl sl idx pc a L st w h0 h1 h2 kk
theorem Rn.ct (hR : Rn own ro lk tb d KS ns G) {cl sl idx pc d1 a ms : Nat} {L : List (Option PV)} {st : List PV} {w w2 : PW} {M : PM} {ks : List Nat} (hk : cLink own idx M) (h0 : alk tb pc = some (.invokespecial idx, 3)) (hM : Sn M ro d1 [vR a] w w2 ks ms) (hd : d1 + 1 ≤ d) (hm : M.2.2.1 ≤ 20) (hc : pcat st ≤ 8) (hlow : lowB KS cl w = true) (hks : ks = (KS.drop cl).take ks.length) (hs : sl + ms ≤ ns) (kk : G (cl + ks.length) (sl + ms) (pc + 3, L, st, w2)) : G cl sl (pc, L, vR a :: st, w) := hR.2.2.2.2.2.2.2.1 cl sl idx pc d1 a ms L st w w2 M ks h0 hk hM hd hm hc hlow hks hs kk
theorem Rn.fg (hR : Rn own ro lk tb d KS ns G) (k : Nat) {cl sl pc : Nat} {L : List (Option PV)} {st : List PV} {w : PW} (h : G cl sl (pc, lset L k none, st, w)) : G cl sl (pc, L, st, w) := hR.2.2.2.2.2.2.2.2.1 cl sl k pc L st w h
theorem Rn.cg (hR : Rn own ro lk tb d KS ns G) (k : Nat) {N cl sl pc : Nat} {L : List (Option PV)} {st : List PV} {w : PW} {f : Int → Int} (g : Int → Int) (hc : alk w k = some (.inl (N, .inl f))) (hfg : ∀ j : Int, 0 ≤ j → j < (N : Int) → f j = g j) (kk : G cl sl (pc, L, st, pset w k (.inl (N, .inl g)))) : G cl sl (pc, L, st, w) := hR.2.2.2.2.2.2.2.2.2.1 cl sl pc k N L st w f g hc hfg kk
theorem Rn.cr (hR : Rn own ro lk tb d KS ns G) (k : Nat) {N cl sl pc : Nat} {L : List (Option PV)} {st : List PV} {w : PW} {f : Int → Option Nat} (g : Int → Option Nat) (hc : alk w k = some (.inl (N, .inr (.inr f)))) (hfg : ∀ j : Int, 0 ≤ j → j < (N : Int) → f j = g j) (kk : G cl sl (pc, L, st, pset w k (.inl (N, .inr (.inr g))))) : G cl sl (pc, L, st, w) := hR.2.2.2.2.2.2.2.2.2.2.1 cl sl pc k N L st w f g hc hfg kk
theorem Rn.as (hR : Rn own ro lk tb d KS ns G) (k : Nat) {cl sl pc a : Nat} {k4 : Fin 4} {L : List (Option PV)} {st : List PV} {w : PW} (h0 : alk tb pc = some (.astore_n k4, 1)) (h1 : k4.val = k) (h2 : k < L.length) (kk : G cl sl (pc + 1, lput1 L k (vR a), st, w)) : G cl sl (pc, L, vR a :: st, w) := hR.2.2.2.2.2.2.2.2.2.2.2 cl sl pc k a k4 L st w h0 h1 h2 kk
theorem Rc.pf (hC : Rc own tb KS ns w' G) {cl sl idx pc ci k a b : Nat} {L : List (Option PV)} {st : List PV} {w : PW} {fs : List PV} {v0 : PV} (hk : pOk own idx ci k) (h0 : alk tb pc = some (.putfield idx, 3)) (hc : alk w a = some (.inr (ci, fs))) (hv : fget fs k = some v0) (kk : G cl sl (pc + 3, L, st, pset w a (.inr (ci, fset fs k (vR b))))) : G cl sl (pc, L, vR b :: vR a :: st, w) := hC.1 cl sl idx pc ci k a b L st w fs v0 h0 hk hc hv kk
theorem Rc.rt (hC : Rc own tb KS ns w' G) {cl sl pc : Nat} {L : List (Option PV)} {w : PW} (h0 : alk tb pc = some (.return_, 1)) (h1 : cl = KS.length) (h2 : sl = ns) (hw : w' = w) : G cl sl (pc, L, [], w) := by
  subst h1
  subst h2
  subst hw
  exact hC.2 pc L h0
end MAKE3
