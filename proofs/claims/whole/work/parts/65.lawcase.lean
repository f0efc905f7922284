/-! ===== the law's body, call by call ===== -/
theorem Rl.run0 {lk : PL} {ro : PRO} {tb : PT} {d k : Nat} {G : Nat → PS → Prop} (hR : Rl lk ro tb d G) (hk : k ≤ 600) (n : Nat) {S S' : PS} (h : prun lk ro tb n S = some (S', none)) (kk : G k S') : G k S := hR.1 k n S S' none hk h (fun _ q => by cases q) kk
theorem Rl.run1 {lk : PL} {ro : PRO} {tb : PT} {d k : Nat} {G : Nat → PS → Prop} (hR : Rl lk ro tb d G) (hk : k ≤ 600) (n : Nat) {S S' : PS} {P : Prop} (h : prun lk ro tb n S = some (S', some P)) (hP : P) (kk : G k S') : G k S := hR.1 k n S S' (some P) hk h (fun _ q => by cases q; exact hP) kk
theorem Rl.br {lk : PL} {ro : PRO} {tb : PT} {d k : Nat} {G : Nat → PS → Prop} (hR : Rl lk ro tb d G) (hk : k ≤ 600) {S S1 S2 : PS} {P C : Prop} (h : pbrT tb S = some (P, C, S1, S2)) (hP : P) (k1 : C → G k S1) (k2 : ¬ C → G k S2) : G k S := by
  unfold pbrT at h
  split at h
  · next i n h0 => exact hR.2.1 k S i n P C S1 S2 hk h0 h hP k1 k2
  · cases h
theorem Rl.cv {lk : PL} {ro : PRO} {tb : PT} {d kk : Nat} {G : Nat → PS → Prop} (hR : Rl lk ro tb d G) (hk : kk ≤ 600) {idx : Nat} {M : PM} {d1 n : Nat} (as : List PV) {k : Nat} {rest st : List PV} {L : List (Option PV)} {pc : Nat} {w w2 : PW} {v : Option PV} (hl : vLink RL idx M n) (h0 : alk tb pc = some (.invokevirtual idx, 3)) (hn : as.length = n) (hr : rOk w k M.1.cls) (hd : d1 + 1 ≤ d) (hm : M.2.2.1 ≤ 20) (hc : pcat rest ≤ 8) (hs : st = as.reverse ++ vR k :: rest) (h : Sp M ro d1 (vR k :: as) w (.inl v) w2) (g : G kk (pc + 3, L, v.toList ++ rest, w2)) : G kk (pc, L, st, w) := by
  obtain ⟨ci, fs, rr, r1, r2, r3⟩ := hr
  subst hn
  subst hs
  exact hR.2.2.1 kk idx M d1 as k ci fs rr rest L pc w w2 v hk h0 hl r1 r2 r3 hd hm hc h g
theorem Rl.cw {lk : PL} {ro : PRO} {tb : PT} {d kk : Nat} {G : Nat → PS → Prop} (hR : Rl lk ro tb d G) (hk : kk < 600) {idx : Nat} {M : PM} {hh : PHH} {d1 n : Nat} (as : List PV) {rest st : List PV} {L : List (Option PV)} {pc : Nat} {w w2 : PW} {v : PV} (hl : sLinkW RL idx M hh n) (h0 : alk tb pc = some (.invokestatic idx, 3)) (hn : as.length = n) (hd : d1 + 1 ≤ d) (hm : M.2.2.1 ≤ 20) (hc : pcat rest ≤ 8) (hs : st = as.reverse ++ rest) (h : Sw M hh ro d1 as w v w2) (g : G (kk + 1) (pc + 3, L, v :: rest, w2)) : G kk (pc, L, st, w) := by
  subst hn
  subst hs
  exact hR.2.2.2.1 kk idx M hh d1 as rest L pc w w2 v hk h0 hl hd hm hc h g
theorem frM {M : PM} {ro : PRO} {d : Nat} {as : List PV} {τ ρ τ' ρ' σ κ : St} {out : Int → Int} {o : PO} (hro : ∀ q ∈ roC, q ∈ ro) (h : Sp M roC d as (mW τ ρ) o (mW τ' ρ')) : Sp M ro d as (LW σ κ τ ρ out) o (LW σ κ τ' ρ' out) := by
  have h1 := Sp.frame [] (cW σ κ ++ [(120, .inl (1, .inr (.inl out)))]) hro h
  rw [List.nil_append, List.nil_append, ← List.append_assoc, ← List.append_assoc] at h1
  exact h1
theorem frC {M : PM} {ro : PRO} {d : Nat} {as : List PV} {τ κ τ' κ' σ ρ : St} {out : Int → Int} {o : PO} (hro : ∀ q ∈ roC, q ∈ ro) (h : Sp M roC d as (cW τ κ) o (cW τ' κ')) : Sp M ro d as (LW τ κ σ ρ out) o (LW τ' κ' σ ρ out) := Sp.frame (mW σ ρ) [(120, .inl (1, .inr (.inl out)))] hro h
def Lh_ (i : Int) : List (Option PV) := [some (vR 98), some (vR 0), some (vR 100), some (vR 120), some (vI i), none, none]
theorem oP_0 {x : XR} {out : Int → Int} (h : x.1 = 0) : oP x out 0 = nmI x.2.1 := by
  unfold oP
  rw [if_pos h]
  rfl
/-- the law's row of numbers -/
def Sc (xs : Int → Int) (N : Nat) (ro : PRO) : Prop := ro = (98, N, xs) :: roC ∧ N ≤ 2048 ∧ ∀ j, -2147483648 ≤ xs j ∧ xs j ≤ 2147483647
theorem Sc.ro {xs : Int → Int} {N : Nat} {ro : PRO} (h : Sc xs N ro) : ∀ q ∈ roC, q ∈ ro := by
  intro q hq
  rw [h.1]
  exact List.mem_cons_of_mem _ hq
theorem Rl.rd {lk : PL} {tb : PT} {d k N : Nat} {xs : Int → Int} {G : Nat → PS → Prop} (hR : Rl lk ((98, N, xs) :: roC) tb d G) (hk : k ≤ 600) (hN : N ≤ 2048) {i : Int} {L : List (Option PV)} {st : List PV} {pc : Nat} {w : PW} (h0 : alk tb pc = some (.iaload, 1)) (hw : alk w 98 = none) (hi : 0 ≤ i ∧ i < N) (kk : G k (pc + 1, L, vI (xs i) :: st, w)) : G k (pc, L, vI i :: vR 98 :: st, w) := by
  have hb : Nat.ble N 1000000 = true := Nat.ble_eq_true_of_le (by omega)
  refine hR.1 k 1 _ (pc + 1, L, vI (xs i) :: st, w) (some (0 ≤ i ∧ i < (N : Int))) hk ?_ (fun q h => by cases h; exact hi) kk
  have h2 : alk (((98, N, xs) :: roC) : PRO) 98 = some (N, xs) := rfl
  have h1 : pst lk ((98, N, xs) :: roC) .iaload 1 (pc, L, vI i :: vR 98 :: st, w) = some ((pc + 1, L, vI (xs i) :: st, w), some (0 ≤ i ∧ i < (N : Int))) := by
    show s_iald ((98, N, xs) :: roC) 1 pc L (vI i :: vR 98 :: st) w = _
    unfold s_iald
    simp only [hw, h2, hb]
    rfl
  unfold prun
  simp only [h0, h1]
  rfl
theorem Rl.ln {lk : PL} {tb : PT} {d k N : Nat} {xs : Int → Int} {G : Nat → PS → Prop} (hR : Rl lk ((98, N, xs) :: roC) tb d G) (hk : k ≤ 600) (hN : N ≤ 2048) {L : List (Option PV)} {st : List PV} {pc : Nat} {w : PW} (h0 : alk tb pc = some (.arraylength, 1)) (hw : alk w 98 = none) (kk : G k (pc + 1, L, vI (N : Int) :: st, w)) : G k (pc, L, vR 98 :: st, w) := by
  have hb : Nat.ble N 1000000 = true := Nat.ble_eq_true_of_le (by omega)
  refine hR.1 k 1 _ (pc + 1, L, vI (N : Int) :: st, w) none hk ?_ (fun q h => by cases h) kk
  have h2 : alk (((98, N, xs) :: roC) : PRO) 98 = some (N, xs) := rfl
  have h1 : pst lk ((98, N, xs) :: roC) .arraylength 1 (pc, L, vR 98 :: st, w) = some ((pc + 1, L, vI (N : Int) :: st, w), none) := by
    show s_alen ((98, N, xs) :: roC) 1 pc L (vR 98 :: st) w = _
    unfold s_alen
    simp only [hw, h2, hb]
    rfl
  unfold prun
  simp only [h0, h1]
  rfl
theorem sS_at0 (ρ : St) (v : Int) : (sS ρ 0 v).1 0 = v := rfl

