/-! ===== the law's entry: what holds there ===== -/
theorem ao_arr {args : Array Value} {s : State} (h : (Cond.arrayOver (.array .int)).before args s = true) : ∃ (cA comp : ClassId) (k : Class), s.vm.findClass ("[" ++ (FieldType.array .int).toString) = some cA ∧ s.vm.classes[cA]? = some k ∧ k.kind = .array comp (.array .int) := by
  simp only [Cond.before, Cond.holds, Cond.value, beq_iff_eq] at h
  cases hc : s.vm.findClass (FieldType.array .int).toString with
  | none => simp [hc] at h
  | some comp =>
    simp only [hc, Option.bind_some, Option.bind_eq_some_iff, Option.map_eq_some_iff] at h
    obtain ⟨c, hi, k, hk, hb⟩ := h
    cases hkind : k.kind with
    | array component ty =>
      rw [hkind] at hb
      simp at hb
      exact ⟨c, component, k, hb.2, hk, by rw [hkind, hb.1]⟩
    | _ => rw [hkind] at hb; simp at hb
theorem at_T {w : Cond} (i : Nat) (h : tables_1[i]? = some w) : w ∈ lw_tbl := List.mem_append_right _ (List.mem_of_getElem? h)
theorem K_start {args : Array Value} {s : State} (hts : ∀ w ∈ lw_tbl, w.before args s = true) : ∃ (D : va_G) (cy : Nat → ClassId), va_K D vwCl (ptys cy) s := by
  have hg := gT_ts hts
  obtain ⟨c0, i0, h0⟩ := u_known (C := RX0) (T := TX0) (N := 4) (n := 4) hg kkX0.1 (hts _ (at_T 105 (by decide +kernel)))
  obtain ⟨c1, i1, h1⟩ := u_known (C := RX1) (T := TX1) (N := 6) (n := 6) hg kkX1.1 (hts _ (at_T 79 (by decide +kernel)))
  obtain ⟨c2, i2, h2⟩ := u_known (C := RX2) (T := TX2) (N := 5) (n := 5) hg kkX2.1 (hts _ (at_T 25 (by decide +kernel)))
  obtain ⟨c3, i3, h3⟩ := u_known (C := RX3) (T := TX3) (N := 2) (n := 2) hg kkX3.1 (hts _ (at_T 48 (by decide +kernel)))
  obtain ⟨c4, i4, h4⟩ := u_known (C := RX4) (T := TX4) (N := 3) (n := 3) hg kkX4.1 (hts _ (at_T 63 (by decide +kernel)))
  obtain ⟨c5, i5, h5⟩ := u_known (C := RX5) (T := TX5) (N := 12) (n := 12) hg kkX5.1 (hts _ (at_T 17 (by decide +kernel)))
  obtain ⟨a0, k0, m0, f0, g0, e0⟩ := Cond.arrayClass_spec (hts (.arrayClass .int) (at_T 46 (by decide +kernel)))
  obtain ⟨a1, k1, m1, f1, g1, e1⟩ := Cond.arrayClass_spec (hts (.arrayClass .byte) (at_T 245 (by decide +kernel)))
  obtain ⟨a2, m2, k2, f2, g2, e2⟩ := ao_arr (hts (.arrayOver (.array .int)) (at_T 54 (by decide +kernel)))
  refine ⟨(fun k => match k with
    | 0 => c0
    | 1 => c1
    | 2 => c2
    | 3 => c3
    | 4 => c4
    | _ => c5, fun k => match k with
    | 0 => i0
    | 1 => i1
    | 2 => i2
    | 3 => i3
    | 4 => i4
    | _ => i5), fun k => match k with
    | 0 => a0
    | 1 => a1
    | _ => a2, fun c q hq => ?_, fun k q hq => ?_⟩
  · match c, hq with
    | 0, hq => cases hq; exact h0
    | 1, hq => cases hq; exact h1
    | 2, hq => cases hq; exact h2
    | 3, hq => cases hq; exact h3
    | 4, hq => cases hq; exact h4
    | 5, hq => cases hq; exact h5
    | c + 6, hq => cases hq
  · match k, hq with
    | 0, hq => cases hq; exact ⟨fun n z => ⟨fun k h => (by cases h), k0, g0, m0, e0⟩, f0⟩
    | 1, hq => cases hq; exact ⟨fun n z => ⟨fun k h => (by cases h), k1, g1, m1, e1⟩, f1⟩
    | 2, hq => cases hq; exact ⟨fun n z => ⟨fun k h => (by cases h), k2, g2, m2, e2⟩, f2⟩
    | k + 3, hq => cases hq
theorem X_start {args : Array Value} {s : State} (hts : ∀ w ∈ lw_tbl, w.before args s = true) : xEnv s := by
  intro w hw
  simp only [wT, List.mem_cons, List.not_mem_nil, or_false] at hw
  rcases hw with rfl | rfl | rfl | rfl
  · exact ao_tabs rfl (hts _ (at_T 54 (by decide +kernel)))
  · exact va_Nw.of rfl (hts _ (at_T 64 (by decide +kernel)))
  · exact va_Nw.of rfl (hts _ (at_T 80 (by decide +kernel)))
  · exact va_Nw.of rfl (hts _ (at_T 106 (by decide +kernel)))
theorem ord_at {args : Array Value} {s : State} (hgv : (Jvm.Cond.and given_1 narrow_1).before args s = true) : ∀ j : Nat, j < 15 → (Term.elem (.static RX1 "ORDER" "[I") (.int (Int32.ofNat j))).eval args s none [] s = some (.int (Int32.ofInt (ordF (j : Int)))) := by
  intro j hj
  have key : ∀ j : Nat, j < 15 → Cond.eq (.elem (.static RX1 "ORDER" "[I") (.int (Int32.ofNat j))) (.int (Int32.ofInt (ordF (j : Int)))) ∈ flatC (Jvm.Cond.and given_1 narrow_1) := by decide +kernel
  exact va_eqt (flat_of_before _ hgv _ (key j hj))
theorem oa_start {args : Array Value} {s : State} (hgv : (Jvm.Cond.and given_1 narrow_1).before args s = true) : ∃ t : Nat, (Term.static RX1 "ORDER" "[I").eval args s none [] s = some (.ref t) ∧ va_T .int t 15 (fun j => .int (Int32.ofInt (ordF (j : Int)))) (fun q => s.heap.size ≤ q) s s.heap := by
  refine va_Tof (N := 15) (by decide) (flat_of_before _ hgv _ (by decide +kernel)) ?_ (ord_at hgv) (fun a h1 h2 => by omega)
  exact va_eqt (z := 15) (flat_of_before _ hgv _ (by decide +kernel))
def xsI (xs : Nat → Int32) : Int → Int := fun j => (xs j.toNat).toInt
theorem xsI_r (xs : Nat → Int32) (j : Int) : -2147483648 ≤ xsI xs j ∧ xsI xs j ≤ 2147483647 := by
  have h1 := Int32.le_toInt (xs j.toNat)
  have h2 := Int32.toInt_lt (xs j.toNat)
  unfold xsI
  omega
theorem E_start {args : Array Value} {s : State} {b N oa : Nat} {xs : Nat → Int32} {ad : Nat → Nat} (hts : ∀ w ∈ lw_tbl, w.before args s = true) (hgv : (Jvm.Cond.and given_1 narrow_1).before args s = true) (hX : va_X b N xs s s.heap) (hbl : b < s.heap.size) (h98 : ad 98 = b) (h99 : ad 99 = oa)
    (ho1 : (Term.static RX1 "ORDER" "[I").eval args s none [] s = some (.ref oa)) (ho2 : va_T .int oa 15 (fun j => .int (Int32.ofInt (ordF (j : Int)))) (fun q => s.heap.size ≤ q) s s.heap) {c5 : ClassId} (hc5 : s.vm.findClass RX5 = some c5) : pEnv ad (fun q => s.heap.size ≤ q) ((98, N, xsI xs) :: roC) s s.heap := by
  have hA : ∀ a : Nat, a < s.heap.size → ¬ (fun q : Nat => s.heap.size ≤ q) a := fun a h1 h2 => by
    have h2 : s.heap.size ≤ a := h2
    omega
  refine ⟨?_, ?_, ?_, ?_, ?_, ?_, ?_, ?_⟩
  · exact vx_Zqof (hts _ (at_T 205 (by decide +kernel))) (hts _ (at_T 7 (by decide +kernel))) (flat_of_before _ hgv _ (by decide +kernel)) hA
  · exact vx_Zqof (hts _ (at_T 207 (by decide +kernel))) (hts _ (at_T 7 (by decide +kernel))) (flat_of_before _ hgv _ (by decide +kernel)) hA
  · intro q hq
    have key : ∀ q ∈ strs, Cond.stringRef RX5 q.1 q.2 ∈ lw_tbl := by decide +kernel
    have h1 := hts _ (key q hq)
    obtain ⟨k, cf, i, a, -, -, -, -, -, hev⟩ := Cond.stringRef_spec hc5 h1
    exact ⟨a, vk_R.of h1 hev⟩
  · rw [h99]
    exact va_Zref (hts _ (at_T 670 (by decide +kernel))) (hts _ (at_T 5 (by decide +kernel))) ho1 hA
  · intro q hq
    rcases List.mem_cons.mp hq with rfl | hq
    · obtain ⟨scr, x1, x2, x3, x4, x5⟩ := hX
      show va_T .int (ad 98) N _ _ s s.heap
      rw [h98]
      refine ⟨scr, x1, x2, x3, Nat.le_of_eq x4.symm, by rw [x4], fun j hj => ?_, fun h => by omega⟩
      rw [x5 j hj]
      show some (Value.int (xs j)) = some (Value.int (Int32.ofInt (xs (j : Int).toNat).toInt))
      rw [Int32.ofInt_toInt]
      rfl
    · rcases List.mem_cons.mp hq with rfl | hq
      · show va_T .int (ad 99) 15 _ _ s s.heap
        rw [h99]
        exact ho2
      · cases hq
  · intro q hq
    have key : ∀ q ∈ cT, Cond.castable q.1 q.2 ∈ lw_tbl := by decide +kernel
    exact va_Nw.of rfl (hts _ (key q hq))
  · intro q hq
    unfold dT at hq
    obtain ⟨w, hw, e⟩ := List.mem_filterMap.mp hq
    split at e
    · cases e
      exact va_Nw.of rfl (hts _ hw)
    · cases e
  · intro q hq
    have key : ∀ q ∈ nT, Cond.not (.castable q.1 q.2) ∈ flatC (Jvm.Cond.and given_1 narrow_1) := by decide +kernel
    exact va_Nc.of (flat_of_before _ hgv _ (key q hq))
/-! ===== the order of the world's cells is of no account ===== -/
def pick (w : PW) (ks : List Nat) : PW := ks.filterMap (fun k => (alk w k).map (fun e => (k, e)))
theorem pick_mem {w : PW} {ks : List Nat} {x : Nat × PE} (h : x ∈ pick w ks) : alk w x.1 = some x.2 := by
  unfold pick at h
  obtain ⟨k, hk, e⟩ := List.mem_filterMap.mp h
  cases ha : alk w k with
  | none => rw [ha] at e; cases e
  | some y => rw [ha] at e; cases e; exact ha
theorem g_pick {p : Program} {l : Launch} {e : Env} {R : Room} {s : State} {m : MethodId} {args : Array Value} {below : List Frame} {meth : Method} {c : Code} {cl sl : Nat} {Q : State → Prop} {nL : Nat} {D : va_G} {cy : Nat → ClassId} {ad : Nat → Nat} {A : Nat → Prop} {pc : Nat} {L : List (Option PV)} {st : List PV} {w : PW} (ks : List Nat) (hn : va_nd ((pick w ks).map Prod.fst) = true)
    (hG : Gd p l e R s m args below meth c cl sl Q nL D cy ad A (pc, L, st, pick w ks)) : Gd p l e R s m args below meth c cl sl Q nL D cy ad A (pc, L, st, w) := by
  intro H locs ls hl hP hD hS
  refine hG H locs ls hl ?_ ?_ hS
  · intro k q hq
    have hq : (cw ad cy (pick w ks))[k]? = some q := hq
    rw [cw_at] at hq
    cases hx : (pick w ks)[k]? with
    | none => rw [hx] at hq; cases hq
    | some x =>
      rw [hx] at hq
      cases hq
      obtain ⟨q0, e1, -⟩ := cw_look (ad := ad) (cy := cy) (pick_mem (List.mem_of_getElem? hx))
      exact hP q0 _ e1
  · refine dK_to (dK_sub (dK_of hD) hn (fun a ha => ?_))
    obtain ⟨x, hx, rfl⟩ := List.mem_map.mp ha
    exact List.mem_map.mpr ⟨x, alk_mem (pick_mem hx), rfl⟩
