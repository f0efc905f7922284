section SND2
variable {p : Program} {l : Launch} {e : Env} {R : Room} {s : State} {m : MethodId} {args : Array Value} {below : List Frame} {meth : Method} {c : Code} {cl sl : Nat} {Q : State → Prop}
variable {cc : ByteArray} {nL : Nat} {own : String} {D : va_G} {cy : Nat → ClassId} {ad : Nat → Nat} {A : Nat → Prop} {ro : PRO} {dd : Nat}
theorem va_aldr {H : Heap} {locs : List Loc} {pc : Nat} {ls : Array Slot} {rest : List Value} {cl0 : List vw_C} {a : Nat} {tys : List (ClassId × FieldType)} {ws : va_W} (hexec : p.tables.exec = Jvm.exec) (hb : c.code = cc) (hK : va_K D cl0 tys s) (hP : va_P D cl0 ws H) (q0 t0 : Nat) {cA : ClassId} {ty : FieldType} (hty : ty.isReference = true) {n : Nat} {f : Nat → Option Nat} (ha : ws[q0]? = some (a, .inl (cA, n, .inr (.inr (.inr (.inr f)))))) (ht : tys[t0]? = some (cA, ty)) {i : Int32} (hin : vp_in i n) (hdg : decode cc pc = .ok (.aaload, 1))
    (kk : W p l e R s m args below meth c H locs cl sl Q (F0 m (pc + 1) ls (va_rf (f i.toNatClampNeg) :: rest))) : W p l e R s m args below meth c H locs cl sl Q (F0 m pc ls (.int i :: .ref a :: rest)) := by
  have hlt : i.toNatClampNeg < n := Nat.not_le.mp fun q => hin (Or.inr q)
  exact W.aald (v := va_rf (f i.toNatClampNeg)) (ty := ty) hexec hb (hP q0 _ ha) ((hK.2 t0 _ ht).1 n (fun j => va_rf (f j))) hty (fun q => by cases q) (by show ¬ (i < 0 ∨ (arrV _ _ _).slots.size ≤ _); rw [arrV_size]; exact hin) (by show (arrV _ _ _).slots[_]? = _; rw [arrV_read _ _ hlt]) rfl rfl hdg kk
theorem pup_i {f : Int → Int} {i x : Int} (hi : 0 ≤ i) : (fun j : Nat => Int32.ofInt (pup f i x (j : Int))) = upd (fun j : Nat => Int32.ofInt (f (j : Int))) i.toNat (Int32.ofInt x) := by
  funext j
  unfold pup upd
  by_cases h : j = i.toNat
  · rw [if_pos h, if_pos (by rw [h]; exact i_cl hi)]
  · rw [if_neg h, if_neg (fun q => h (by rw [← q]; rfl))]
theorem pup_l {f : Int → Int} {i x : Int} (hi : 0 ≤ i) : (fun j : Nat => Int64.ofInt (pup f i x (j : Int))) = vp_updL (fun j : Nat => Int64.ofInt (f (j : Int))) i.toNat (Int64.ofInt x) := by
  funext j
  unfold pup vp_updL
  by_cases h : j = i.toNat
  · rw [if_pos h, if_pos (by rw [h]; exact i_cl hi)]
  · rw [if_neg h, if_neg (fun q => h (by rw [← q]; rfl))]
theorem pv_rf (o : Option Nat) : pv ad (.inr (.inr o)) = va_rf (o.map ad) := by cases o <;> rfl
theorem g_iald {n pc : Nat} {L : List (Option PV)} {st : List PV} {w : PW} {S' : PS} {P : Option Prop} (X : Cx p l R s m args meth c cl sl cc nL own D cy ad A ro dd) (hd : decode cc pc = .ok (.iaload, n)) (h : s_iald ro n pc L st w = some (S', P)) (hP0 : ∀ q, P = some q → q)
    (hG : Gd p l e R s m args below meth c cl sl Q nL D cy ad A S') : Gd p l e R s m args below meth c cl sl Q nL D cy ad A (pc, L, st, w) := by
  obtain ⟨hx, hb, -, hown, hts, hK, hE, -⟩ := X
  unfold s_iald at h
  split at h
  · next i a r =>
    split at h
    · next N f hc =>
      split at h
      · next hN =>
        obtain ⟨rfl, rfl, rfl⟩ := nxt_of h
        have hi := hP0 _ rfl
        obtain ⟨h1, h2⟩ := i_in (Nat.le_of_ble_eq_true hN) hi
        intro H locs ls hl hP hD hS
        obtain ⟨q0, e1, -⟩ := cw_look (ad := ad) (cy := cy) hc
        refine va_iald hx hb hK hP q0 0 (n := N) (f := fun j => Int32.ofInt (f j)) e1 rfl h1 hd ?_
        have := hG H locs ls hl hP hD hS
        rw [h2, i_cl hi.1]
        exact this
      · cases h
    · cases h
    · split at h
      · next N f hc =>
        split at h
        · next hN =>
          obtain ⟨rfl, rfl, rfl⟩ := nxt_of h
          have hi := hP0 _ rfl
          obtain ⟨h1, h2⟩ := i_in (Nat.le_of_ble_eq_true hN) hi
          intro H locs ls hl hP hD hS
          refine va_ti hx hb (hE.2.2.2.2.1 _ (alk_mem hc)) hS h1 rfl hd ?_
          have := hG H locs ls hl hP hD hS
          rw [h2, i_cl hi.1]
          exact this
        · cases h
      · cases h
  · cases h
theorem g_aald {n pc : Nat} {L : List (Option PV)} {st : List PV} {w : PW} {S' : PS} {P : Option Prop} (X : Cx p l R s m args meth c cl sl cc nL own D cy ad A ro dd) (hd : decode cc pc = .ok (.aaload, n)) (h : s_aald n pc L st w = some (S', P)) (hP0 : ∀ q, P = some q → q)
    (hG : Gd p l e R s m args below meth c cl sl Q nL D cy ad A S') : Gd p l e R s m args below meth c cl sl Q nL D cy ad A (pc, L, st, w) := by
  obtain ⟨hx, hb, -, hown, hts, hK, hE, -⟩ := X
  unfold s_aald at h
  split at h
  · next i a r =>
    split at h
    · next N f hc =>
      split at h
      · next hN =>
        obtain ⟨rfl, rfl, rfl⟩ := nxt_of h
        have hi := hP0 _ rfl
        obtain ⟨h1, h2⟩ := i_in (Nat.le_of_ble_eq_true hN) hi
        intro H locs ls hl hP hD hS
        obtain ⟨q0, e1, -⟩ := cw_look (ad := ad) (cy := cy) hc
        refine va_aldr (cc := cc) hx hb hK hP q0 2 (ty := .array .int) rfl (n := N) (f := fun j => (f j).map ad) e1 rfl h1 hd ?_
        have := hG H locs ls hl hP hD hS
        rw [h2, i_cl hi.1, ← pv_rf]
        exact this
      · cases h
    · cases h
  · cases h
theorem g_iast {n pc : Nat} {L : List (Option PV)} {st : List PV} {w : PW} {S' : PS} {P : Option Prop} (X : Cx p l R s m args meth c cl sl cc nL own D cy ad A ro dd) (hd : decode cc pc = .ok (.iastore, n)) (h : s_iast n pc L st w = some (S', P)) (hP0 : ∀ q, P = some q → q)
    (hG : Gd p l e R s m args below meth c cl sl Q nL D cy ad A S') : Gd p l e R s m args below meth c cl sl Q nL D cy ad A (pc, L, st, w) := by
  obtain ⟨hx, hb, -, hown, hts, hK, hE, -⟩ := X
  unfold s_iast at h
  split at h
  · next x i a r =>
    split at h
    · next N f hc =>
      split at h
      · next hN =>
        obtain ⟨rfl, rfl, rfl⟩ := nxt_of h
        have hi := hP0 _ rfl
        obtain ⟨h1, h2⟩ := i_in (Nat.le_of_ble_eq_true hN) hi
        intro H locs ls hl hP hD hS
        obtain ⟨q0, e1, e2⟩ := cw_look (ad := ad) (cy := cy) hc
        refine va_iast hx hb hK hP hD hS q0 0 (n := N) (f := fun j => Int32.ofInt (f j)) e1 rfl h1 hd (fun H1 locs1 hP1 hD1 hS1 => ?_)
        have e3 := e2 (.inl (N, .inl (pup f i x)))
        have e4 : pe ad cy (.inl (N, .inl (pup f i x))) = .inl (cy 0, N, .inl (upd (fun j : Nat => Int32.ofInt (f (j : Int))) i.toNat (Int32.ofInt x))) := by
          rw [← pup_i hi.1]
          rfl
        rw [e4] at e3
        rw [h2] at hP1 hD1
        exact hG H1 locs1 ls hl (by rw [e3]; exact hP1) (by rw [e3]; exact hD1) hS1
      · cases h
    · cases h
  · cases h
theorem g_alen {n pc : Nat} {L : List (Option PV)} {st : List PV} {w : PW} {S' : PS} {P : Option Prop} (X : Cx p l R s m args meth c cl sl cc nL own D cy ad A ro dd) (hd : decode cc pc = .ok (.arraylength, n)) (h : s_alen ro n pc L st w = some (S', P))
    (hG : Gd p l e R s m args below meth c cl sl Q nL D cy ad A S') : Gd p l e R s m args below meth c cl sl Q nL D cy ad A (pc, L, st, w) := by
  obtain ⟨hx, hb, -, hown, hts, hK, hE, -⟩ := X
  unfold s_alen at h
  split at h
  · next a r =>
    split at h
    · next N f hc =>
      obtain ⟨rfl, rfl, -⟩ := nxt_of h
      intro H locs ls hl hP hD hS
      obtain ⟨q0, e1, -⟩ := cw_look (ad := ad) (cy := cy) hc
      have hv : Int32.ofNat N = Int32.ofInt (N : Int) := Int32.ofInt_eq_ofNat.symm
      rcases f with f | (f | f)
      · exact va_alen hx hb hK hP q0 0 (ty := .int) e1 rfl hv hd (hG H locs ls hl hP hD hS)
      · exact va_alen hx hb hK hP q0 1 (ty := .byte) e1 rfl hv hd (hG H locs ls hl hP hD hS)
      · exact va_alen hx hb hK hP q0 2 (ty := .array .int) e1 rfl hv hd (hG H locs ls hl hP hD hS)
    · cases h
    · split at h
      · next N f hc =>
        obtain ⟨rfl, rfl, -⟩ := nxt_of h
        intro H locs ls hl hP hD hS
        exact va_tlen hx hb (hE.2.2.2.2.1 _ (alk_mem hc)) hS (Int32.ofInt_eq_ofNat.symm) hd (hG H locs ls hl hP hD hS)
      · cases h
  · cases h
theorem g_dup {n pc : Nat} {L : List (Option PV)} {st : List PV} {w : PW} {S' : PS} {P : Option Prop} (X : Cx p l R s m args meth c cl sl cc nL own D cy ad A ro dd) (hd : decode cc pc = .ok (.dup, n)) (h : s_dup n pc L st w = some (S', P))
    (hG : Gd p l e R s m args below meth c cl sl Q nL D cy ad A S') : Gd p l e R s m args below meth c cl sl Q nL D cy ad A (pc, L, st, w) := by
  obtain ⟨hx, hb, -⟩ := X
  unfold s_dup at h
  split at h
  · obtain ⟨rfl, rfl, -⟩ := nxt_of h
    exact fun H locs ls hl hP hD hS => lv_dup hx hb hd rfl (hG H locs ls hl hP hD hS)
  · next x r =>
    obtain ⟨rfl, rfl, -⟩ := nxt_of h
    exact fun H locs ls hl hP hD hS => lv_dup hx hb hd (by cases x <;> rfl) (hG H locs ls hl hP hD hS)
  · cases h
theorem g_dup2 {n pc : Nat} {L : List (Option PV)} {st : List PV} {w : PW} {S' : PS} {P : Option Prop} (X : Cx p l R s m args meth c cl sl cc nL own D cy ad A ro dd) (hd : decode cc pc = .ok (.dup2, n)) (h : s_dup2 n pc L st w = some (S', P))
    (hG : Gd p l e R s m args below meth c cl sl Q nL D cy ad A S') : Gd p l e R s m args below meth c cl sl Q nL D cy ad A (pc, L, st, w) := by
  obtain ⟨hx, hb, -⟩ := X
  unfold s_dup2 at h
  split at h
  · next x y r =>
    obtain ⟨rfl, rfl, -⟩ := nxt_of h
    exact fun H locs ls hl hP hD hS => lv_dup2_11 hx hb hd rfl (by cases y <;> rfl) (hG H locs ls hl hP hD hS)
  · cases h
theorem g_iinc {k : Nat} {d : Int} {n pc : Nat} {L : List (Option PV)} {st : List PV} {w : PW} {S' : PS} {P : Option Prop} (X : Cx p l R s m args meth c cl sl cc nL own D cy ad A ro dd) (hd : decode cc pc = .ok (.iinc k d, n)) (h : s_iinc k d n pc L st w = some (S', P))
    (hG : Gd p l e R s m args below meth c cl sl Q nL D cy ad A S') : Gd p l e R s m args below meth c cl sl Q nL D cy ad A (pc, L, st, w) := by
  obtain ⟨hx, hb, -⟩ := X
  unfold s_iinc at h
  split at h
  · next x hg hk =>
    obtain ⟨rfl, rfl, -⟩ := nxt_of h
    intro H locs ls hl hP hD hS
    have hk : k < nL := by rw [← hl.2]; exact Nat.lt_of_lt_of_eq (Nat.le_of_ble_eq_true hk) rfl
    have hm := lpairs_of (ad := ad) (k := 0) hg
    rw [Nat.zero_add] at hm
    obtain ⟨j, hj⟩ := List.getElem?_of_mem hm
    exact lv_iinc hx hb (v := Int32.ofInt (x + d)) hd hl.1 hj (Int32.ofInt_add x d).symm hk rfl (fun ls' h' => hG H locs ls' (ph_put1 (v := .inl (x + d)) hk hl.2 h') hP hD hS)
  · cases h
theorem cat_le (v : PV) : (pv ad v).category ≤ 2 := by
  rcases v with x | (x | x)
  · show 1 ≤ 2; decide
  · show 2 ≤ 2; decide
  · cases x <;> (show 1 ≤ 2; decide)
theorem cat_sum : ∀ (r : List PV), ((r.map (pv ad)).map fun v => v.category).sum ≤ 2 * r.length
  | [] => Nat.le_refl _
  | v :: r => by
    have h1 := cat_le (ad := ad) v
    have h2 := cat_sum r
    simp only [List.map_cons, List.sum_cons, List.length_cons]
    omega
theorem g_math {lk : PL} {idx n pc : Nat} {L : List (Option PV)} {st : List PV} {w : PW} {S' : PS} {P : Option Prop} (X : Cx p l R s m args meth c cl sl cc nL own D cy ad A ro dd) (hlk : lkOk own lk) (hd : decode cc pc = .ok (.invokestatic idx, n)) (h : s_math lk idx n pc L st w = some (S', P)) (hP0 : ∀ q, P = some q → q)
    (hG : Gd p l e R s m args below meth c cl sl Q nL D cy ad A S') : Gd p l e R s m args below meth c cl sl Q nL D cy ad A (pc, L, st, w) := by
  obtain ⟨hx, hb, hml, hown, hts, hK, hE, -, -, -, ⟨hf7, hl120⟩, hcc, hss⟩ := X
  unfold s_math at h
  split at h
  · next y x r b hb2 =>
    split at h
    · next hr =>
      obtain ⟨rfl, rfl, rfl⟩ := nxt_of h
      obtain ⟨hxr, hyr⟩ := hP0 _ rfl
      have hmo := hlk.2.2.1 _ (alk_mem hb2)
      have hlen : r.length ≤ 8 := Nat.le_of_ble_eq_true hr
      intro H locs ls hl hP hD hS
      have hsum := cat_sum (ad := ad) r
      have hG' := hG H locs ls hl hP hD hS
      cases b with
      | true =>
        obtain ⟨h1, h2, h3, h4⟩ := hmo
        refine va_mmax hx hb (by rw [hml]; exact hl.1.1.symm) hown (hts _ h1) (hts _ h2) (hts _ h3) (hts _ h4) (by omega) (by omega) hcc hss hd ?_
        by_cases hlt : x < y
        · rw [if_pos ((i_lt hxr hyr).mpr hlt)]
          simp only [hlt, if_true] at hG'
          exact hG'
        · rw [if_neg (fun q => hlt ((i_lt hxr hyr).mp q))]
          simp only [hlt, if_false] at hG'
          exact hG'
      | false =>
        obtain ⟨h1, h2, h3, h4⟩ := hmo
        refine va_mmin hx hb (by rw [hml]; exact hl.1.1.symm) hown (hts _ h1) (hts _ h2) (hts _ h3) (hts _ h4) (by omega) (by omega) hcc hss hd ?_
        by_cases hlt : y < x
        · rw [if_pos ((i_lt hyr hxr).mpr hlt)]
          simp only [hlt, if_true] at hG'
          exact hG'
        · rw [if_neg (fun q => hlt ((i_lt hyr hxr).mp q))]
          simp only [hlt, if_false] at hG'
          exact hG'
    · cases h
  · cases h
end SND2
