/-! ===== what else lies there stays as it is ===== -/
theorem vaP_mem {D : va_G} {cl : List vw_C} {ws : va_W} {H : Heap} : va_P D cl ws H ↔ ∀ q ∈ ws, va_at D cl q H := by
  constructor
  · intro h q hq
    obtain ⟨k, hk⟩ := List.mem_iff_getElem?.mp hq
    exact h k q hk
  · intro h k q hk
    exact h q (List.mem_of_getElem? hk)
theorem mid_at {α : Type} {f1 w f2 : List α} {k : Nat} {q : α} (h : w[k]? = some q) : (f1 ++ w ++ f2)[f1.length + k]? = some q := by
  have hk : k < w.length := by
    refine Classical.byContradiction fun hc => ?_
    rw [List.getElem?_eq_none (by omega)] at h
    cases h
  rw [List.append_assoc, List.getElem?_append_right (by omega), show f1.length + k - f1.length = k by omega, List.getElem?_append_left hk]
  exact h
theorem vaD_mid {A : Nat → Prop} {f1 w f2 : va_W} (h : va_D A (f1 ++ w ++ f2)) : va_D A w := by
  refine ⟨fun i j p q hi hj hpq => ?_, fun k q hk => h.2 _ q (mid_at hk)⟩
  have := h.1 _ _ p q (mid_at (f1 := f1) (f2 := f2) hi) (mid_at (f1 := f1) (f2 := f2) hj) hpq
  omega
theorem vaA_mid {f1 w f2 : va_W} {sz q : Nat} (h : va_A w sz q) : va_A (f1 ++ w ++ f2) sz q := by
  rcases h with ⟨k, e, h⟩ | h
  · exact .inl ⟨_, e, mid_at h⟩
  · exact .inr h
theorem mid_apart {A : Nat → Prop} {f1 w f2 : va_W} (h : va_D A (f1 ++ w ++ f2)) {q : Nat × va_E} (hq : q ∈ f1 ∨ q ∈ f2) {k : Nat} {e : va_E} (hk : w[k]? = some (q.1, e)) : False := by
  have hkl : k < w.length := by
    refine Classical.byContradiction fun hc => ?_
    rw [List.getElem?_eq_none (by omega)] at hk
    cases hk
  rcases hq with hq | hq
  · obtain ⟨i, hi⟩ := List.mem_iff_getElem?.mp hq
    have hil : i < f1.length := by
      refine Classical.byContradiction fun hc => ?_
      rw [List.getElem?_eq_none (by omega)] at hi
      cases hi
    have h1 : (f1 ++ w ++ f2)[i]? = some q := by
      rw [List.append_assoc, List.getElem?_append_left hil]
      exact hi
    have := h.1 _ _ _ _ h1 (mid_at (f1 := f1) (f2 := f2) hk) rfl
    omega
  · obtain ⟨i, hi⟩ := List.mem_iff_getElem?.mp hq
    have h1 : (f1 ++ w ++ f2)[f1.length + w.length + i]? = some q := by
      rw [List.getElem?_append_right (by rw [List.length_append]; omega), List.length_append, show f1.length + w.length + i - (f1.length + w.length) = i by omega]
      exact hi
    have := h.1 _ _ _ _ h1 (mid_at (f1 := f1) (f2 := f2) hk) rfl
    omega
theorem pEnv.less {ad : Nat → Nat} {A B : Nat → Prop} {ro ro2 : PRO} {U : State} {H : Heap} (h : pEnv ad A ro2 U H) (hAB : ∀ q, B q → A q) (hro : ∀ q ∈ ro, q ∈ ro2) : pEnv ad B ro U H := by
  have h0 := pEnv.to (U := U) (H1 := H) h (State.WarmedH.refl U) (fun _ _ _ => rfl) hAB
  obtain ⟨h1, h2, h3, h4, h5, h6⟩ := h0
  exact ⟨h1, h2, h3, h4, fun q hq => h5 q (hro q hq), h6⟩
theorem cw_apF {ad : Nat → Nat} {cy : Nat → ClassId} (u v : PW) : cw ad cy (u ++ v) = cw ad cy u ++ cw ad cy v := List.map_append
theorem frame_back {D : va_G} {cl : List vw_C} {f1 w w' f2 : va_W} {st t : State} (hP : va_P D cl (f1 ++ w ++ f2) st.heap) (hD : va_D (fun _ => True) (f1 ++ w ++ f2)) (h1 : va_P D cl w' t.heap) (h2 : va_F (va_A w st.heap.size) st t) : va_P D cl (f1 ++ w' ++ f2) t.heap ∧ va_F (va_A (f1 ++ w ++ f2) st.heap.size) st t := by
  have hPm := vaP_mem.mp hP
  have keep : ∀ q : Nat × va_E, (q ∈ f1 ∨ q ∈ f2) → va_at D cl q t.heap := by
    intro q hq
    have hm : q ∈ f1 ++ w ++ f2 := by
      rw [List.mem_append, List.mem_append]
      rcases hq with hq | hq
      · exact .inl (.inl hq)
      · exact .inr hq
    have hat := hPm q hm
    refine hat.kept (h2.2 q.1 hat.lt fun ha => ?_)
    rcases ha with ⟨k, e, hk⟩ | hs
    · exact mid_apart hD hq hk
    · exact absurd hat.lt (by omega)
  refine ⟨vaP_mem.mpr fun q hq => ?_, h2.1, fun q h3 h4 => h2.2 q h3 fun h5 => h4 (vaA_mid h5)⟩
  rw [List.mem_append, List.mem_append] at hq
  rcases hq with (hq | hq) | hq
  · exact keep q (.inl hq)
  · exact vaP_mem.mp h1 q hq
  · exact keep q (.inr hq)
theorem Sp.frame {M : PM} {ro ro2 : PRO} {d : Nat} {as : List PV} {w w' : PW} {o : PO} (f1 f2 : PW) (hro : ∀ q ∈ ro, q ∈ ro2) (h : Sp M ro d as w o w') : Sp M ro2 d as (f1 ++ w ++ f2) o (f1 ++ w' ++ f2) := by
  refine ⟨by rw [List.map_append, List.map_append, List.map_append, List.map_append, h.1], fun l hlt D cy ad sz => ?_⟩
  have hm := h.2 l hlt D cy ad sz
  have e1 : cw ad cy (f1 ++ w ++ f2) = cw ad cy f1 ++ cw ad cy w ++ cw ad cy f2 := by rw [cw_apF, cw_apF]
  have e2 : cw ad cy (f1 ++ w' ++ f2) = cw ad cy f1 ++ cw ad cy w' ++ cw ad cy f2 := by rw [cw_apF, cw_apF]
  refine Jvm.Free.MetFree.mono hm ?_ (fun _ _ _ _ _ k => k) ?_
  · intro a s hp
    obtain ⟨h0, hsz, hP, hK, hD, hE⟩ := hp
    rw [e1] at hP hD hE
    exact ⟨h0, hsz, vaP_mem.mpr fun q hq => vaP_mem.mp hP q (List.mem_append_left _ (List.mem_append_right _ hq)), hK, vaD_mid hD, hE.less (fun q hq => vaA_mid hq) hro⟩
  · intro a s oc t hp hq
    obtain ⟨h0, hsz, hP, hK, hD, hE⟩ := hp
    rw [e1] at hP hD hE
    subst hsz
    rcases hq with ⟨⟨v, q1, q2, q3, q4⟩, L, q5, q6⟩ | ⟨x, q1, E, ce, L, ⟨q2, q3, q4⟩, q5, q6, q7, q8, q9, q10⟩
    · obtain ⟨r1, r2⟩ := frame_back hP hD q3 q4
      refine .inl ⟨⟨v, q1, q2, ?_, ?_⟩, L, q5, fun q hq => ?_⟩
      · rw [e2]; exact r1
      · rw [e1]; exact r2
      · rw [e1]; exact vaA_mid (q6 q hq)
    · obtain ⟨r1, r2⟩ := frame_back hP hD q3 q4
      refine .inr ⟨x, q1, E, ce, L, ⟨q2, ?_, ?_⟩, q5, q6, q7, q8, q9, fun q hq => ?_⟩
      · rw [e2]; exact r1
      · rw [e1]; exact r2
      · rw [e1]; exact vaA_mid (q10 q hq)
