/-! ===== the rules, by name ===== -/
section USE
variable {own : String} {lk : PL} {ro : PRO} {tb : PT} {ret : Option FieldType} {d : Nat} {o : PO} {w' : PW} {G : PS → Prop}
theorem Ru.run0 (hR : Ru own lk ro tb ret d o w' G) (n : Nat) {S S' : PS} (h : prun lk ro tb n S = some (S', none)) (k : G S') : G S := hR.1 n S S' none h (fun _ q => by cases q) k
theorem Ru.run1 (hR : Ru own lk ro tb ret d o w' G) (n : Nat) {S S' : PS} {P : Prop} (h : prun lk ro tb n S = some (S', some P)) (hP : P) (k : G S') : G S := hR.1 n S S' (some P) h (fun _ q => by cases q; exact hP) k
def pbrT (tb : PT) (S : PS) : Option (Prop × Prop × PS × PS) := match alk tb S.1 with
  | some (i, n) => pbr i n S
  | none => none
theorem Ru.br (hR : Ru own lk ro tb ret d o w' G) {S S1 S2 : PS} {P C : Prop} (h : pbrT tb S = some (P, C, S1, S2)) (hP : P) (k1 : C → G S1) (k2 : ¬ C → G S2) : G S := by
  unfold pbrT at h
  split at h
  · next i n h0 => exact hR.2.1 S i n P C S1 S2 h0 h hP k1 k2
  · cases h
/-- the callee's receiver: its kind fits -/
def rOk (w : PW) (k : Nat) (C : String) : Prop := ∃ (ci : Nat) (fs : List PV) (rr : vw_C), alk w k = some (.inr (ci, fs)) ∧ vwCl[ci]? = some rr ∧ rr.1 = C
theorem Ru.cv (hR : Ru own lk ro tb ret d o w' G) {idx : Nat} {M : PM} {d1 n : Nat} (as : List PV) {k : Nat} {rest st : List PV} {L : List (Option PV)} {pc : Nat} {w w2 : PW} {v : Option PV} (hl : vLink own idx M n) (h0 : alk tb pc = some (.invokevirtual idx, 3)) (hn : as.length = n) (hr : rOk w k M.1.cls) (hd : d1 + 1 ≤ d) (hm : M.2.2.1 ≤ 20) (hc : pcat rest ≤ 8) (hs : st = as.reverse ++ vR k :: rest) (h : Sp M ro d1 (vR k :: as) w (.inl v) w2) (kk : G (pc + 3, L, v.toList ++ rest, w2)) : G (pc, L, st, w) := by
  obtain ⟨ci, fs, rr, r1, r2, r3⟩ := hr
  subst hn
  subst hs
  exact hR.2.2.1 idx M d1 as k ci fs rr rest L pc w w2 v h0 hl r1 r2 r3 hd hm hc h kk
theorem Ru.cvx (hR : Ru own lk ro tb ret d o w' G) {idx : Nat} {M : PM} {d1 n : Nat} (as : List PV) {k : Nat} {rest st : List PV} {L : List (Option PV)} {pc : Nat} {w w2 : PW} {E : String} (hl : vLink own idx M n) (h0 : alk tb pc = some (.invokevirtual idx, 3)) (hn : as.length = n) (hr : rOk w k M.1.cls) (hd : d1 + 1 ≤ d) (hm : M.2.2.1 ≤ 20) (hc : pcat rest ≤ 8) (hs : st = as.reverse ++ vR k :: rest) (h : Sp M ro d1 (vR k :: as) w (.inr E) w2) (ho : o = .inr E) (hw : w' = w2) : G (pc, L, st, w) := by
  obtain ⟨ci, fs, rr, r1, r2, r3⟩ := hr
  subst hn
  subst hs
  subst hw
  exact hR.2.2.2.1 idx M d1 as k ci fs rr rest L pc w E h0 hl r1 r2 r3 hd hm hc h ho
theorem Ru.cs (hR : Ru own lk ro tb ret d o w' G) {idx : Nat} {M : PM} {d1 n : Nat} (as : List PV) {rest st : List PV} {L : List (Option PV)} {pc : Nat} {w w2 : PW} {v : Option PV} (hl : sLink own idx M n) (h0 : alk tb pc = some (.invokestatic idx, 3)) (hn : as.length = n) (hd : d1 + 1 ≤ d) (hm : M.2.2.1 ≤ 20) (hc : pcat rest ≤ 8) (hs : st = as.reverse ++ rest) (h : Sp M ro d1 as w (.inl v) w2) (kk : G (pc + 3, L, v.toList ++ rest, w2)) : G (pc, L, st, w) := by
  subst hn
  subst hs
  exact hR.2.2.2.2.1 idx M d1 as rest L pc w w2 v h0 hl hd hm hc h kk
theorem Ru.csx (hR : Ru own lk ro tb ret d o w' G) {idx : Nat} {M : PM} {d1 n : Nat} (as : List PV) {rest st : List PV} {L : List (Option PV)} {pc : Nat} {w w2 : PW} {E : String} (hl : sLink own idx M n) (h0 : alk tb pc = some (.invokestatic idx, 3)) (hn : as.length = n) (hd : d1 + 1 ≤ d) (hm : M.2.2.1 ≤ 20) (hc : pcat rest ≤ 8) (hs : st = as.reverse ++ rest) (h : Sp M ro d1 as w (.inr E) w2) (ho : o = .inr E) (hw : w' = w2) : G (pc, L, st, w) := by
  subst hn
  subst hs
  subst hw
  exact hR.2.2.2.2.2.1 idx M d1 as rest L pc w E h0 hl hd hm hc h ho
def pretT (tb : PT) (ret : Option FieldType) (pc : Nat) (st : List PV) : Option (Option PV × Prop) := match alk tb pc with
  | some (i, n) => pret ret i n st
  | none => none
theorem Ru.rt (hR : Ru own lk ro tb ret d o w' G) {pc : Nat} {L : List (Option PV)} {st : List PV} {w : PW} {v : Option PV} {P : Prop} (h : pretT tb ret pc st = some (v, P)) (hP : P) (ho : o = .inl v) (hw : w' = w) : G (pc, L, st, w) := by
  subst hw
  unfold pretT at h
  split at h
  · next i n h0 => exact hR.2.2.2.2.2.2.1 i n pc L st v P h0 h hP ho
  · cases h
theorem Ru.th (hR : Ru own lk ro tb ret d o w' G) {pc : Nat} {L : List (Option PV)} {st : List PV} {w : PW} {E : String} (hown : own = RX5) (h : pthr tb pc = some E) (hst : pcat st ≤ 8) (ho : o = .inr E) (hw : w' = w) : G (pc, L, st, w) := by
  subst hw
  exact hR.2.2.2.2.2.2.2.1 pc L st E hown h hst ho
theorem Ru.fg (hR : Ru own lk ro tb ret d o w' G) (k : Nat) {pc : Nat} {L : List (Option PV)} {st : List PV} {w : PW} (h : G (pc, lset L k none, st, w)) : G (pc, L, st, w) := hR.2.2.2.2.2.2.2.2 k pc L st w h
end USE
theorem back {P : Nat → Prop} {N : Nat} (hs : ∀ i, i < N → P (i + 1) → P i) (hN : P N) : ∀ i, i ≤ N → P i := by
  intro i hi
  obtain ⟨k, hk⟩ := Nat.exists_eq_add_of_le hi
  induction k generalizing i with
  | zero =>
    have : i = N := by omega
    rw [this]
    exact hN
  | succ k ih => exact hs i (by omega) (ih (i + 1) (by omega) (by omega))
