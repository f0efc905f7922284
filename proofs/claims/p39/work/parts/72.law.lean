/-! ===== a constructor's contract under other keys, and beside what else lies there ===== -/
theorem Sn.ren {M : PM} {d ms : Nat} {as : List PV} {w w' : PW} {ks : List Nat} (h : Sn M roC d as w w' ks ms) : Sn M roC d (as.map rPV) (rW w) (rW w') (ks.map sh) ms := by
  refine ⟨?_, fun l hlt D cy ad sz had => ?_⟩
  · have h1 := congrArg (List.map sh) h.1
    rw [List.map_append, List.map_map, List.map_map] at h1
    unfold rW
    rw [List.map_map, List.map_map]
    exact h1
  have hm := h.2 l hlt D cy (fun k => ad (sh k)) sz (fun i k hk => had i (sh k) (by rw [List.getElem?_map, hk]; rfl))
  have e1 : cw ad cy (rW w) = cw (fun k => ad (sh k)) cy w := rW_cw w
  have e2 : cw ad cy (rW w') = cw (fun k => ad (sh k)) cy w' := rW_cw w'
  rw [e1, e2, rPV_map, List.length_map]
  refine Jvm.Free.MetFree.mono hm ?_ (fun _ _ _ _ _ k => k) (fun _ _ _ _ _ q => q)
  intro a s hp
  obtain ⟨h0, ⟨hsz, hP, hK, hD, hE⟩, hx⟩ := hp
  rw [e1] at hP hD hE
  exact ⟨h0, ⟨hsz, hP, hK, hD, hE.ren⟩, hx⟩
theorem Sn.frame {M : PM} {ro ro2 : PRO} {d ms : Nat} {as : List PV} {w w' : PW} {ks : List Nat} (f1 : PW) (hro : ∀ q ∈ ro, q ∈ ro2) (h : Sn M ro d as w w' ks ms) : Sn M ro2 d as (f1 ++ w) (f1 ++ w') ks ms := by
  refine ⟨by rw [List.map_append, List.map_append, h.1, List.append_assoc], fun l hlt D cy ad sz had => ?_⟩
  have hm := h.2 l hlt D cy ad sz had
  have e1 : cw ad cy (f1 ++ w) = cw ad cy f1 ++ cw ad cy w ++ [] := by rw [cw_apF, List.append_nil]
  have e2 : cw ad cy (f1 ++ w') = cw ad cy f1 ++ cw ad cy w' ++ [] := by rw [cw_apF, List.append_nil]
  refine Jvm.Free.MetFree.mono hm ?_ (fun _ _ _ _ _ k => k) ?_
  · intro a s hp
    obtain ⟨h0, ⟨hsz, hP, hK, hD, hE⟩, hx⟩ := hp
    rw [e1] at hP hD hE
    exact ⟨h0, ⟨hsz, vaP_mem.mpr fun q hq => vaP_mem.mp hP q (List.mem_append_left _ (List.mem_append_right _ hq)), hK, vaD_mid hD, hE.less (fun q hq => vaA_mid hq) hro⟩, hx⟩
  · intro a s oc t hp hq
    obtain ⟨h0, ⟨hsz, hP, hK, hD, hE⟩, hx⟩ := hp
    rw [e1] at hP hD hE
    subst hsz
    obtain ⟨⟨q1, q2, q3⟩, L, q4, q5⟩ := hq
    obtain ⟨r1, r2⟩ := frame_back hP hD q2 q3
    refine ⟨⟨q1, ?_, ?_⟩, L, q4, fun q hq => ?_⟩
    · rw [e2]; exact r1
    · rw [e1]; exact r2
    · rw [e1]; exact vaA_mid (q5 q hq)
/-! ===== the law's head ===== -/
def W5 : PW := [(0, .inr (5, [vR 1, vR 10, vR 40, vR 50, vR 60, vR 70, vR 71, vI 0, vI 0, vI 0, vI 0, vI (-1)])), (1, .inr (2, [vR 2, vR 3, vR 4, vR 5, vI 0])), (2, .inl (7, .inl hg0)), (3, .inl (7, .inl hn0)), (4, .inl (24, .inl (fun _ => -1))), (5, .inl (30, .inl (fun _ => -1))), (10, .inr (3, [vR 11, vR 12])), (11, .inl (4, .inr (.inr (fun i => some (13 + i.toNat))))), (13, .inl (5, .inl (fun _ => 0))), (14, .inl (5, .inl (fun _ => 0))), (15, .inl (5, .inl (fun _ => 0))), (16, .inl (5, .inl (fun _ => 12))), (12, .inl (16, .inr (.inr (fun i => some (20 + i.toNat))))), (20, .inl (5, .inl (fun _ => 0))), (21, .inl (5, .inl (fun _ => 0))), (22, .inl (5, .inl (fun _ => 0))), (23, .inl (5, .inl (fun _ => 0))), (24, .inl (5, .inl (fun _ => 0))), (25, .inl (5, .inl (fun _ => 0))), (26, .inl (5, .inl (fun _ => 0))), (27, .inl (5, .inl (fun _ => 0))), (28, .inl (5, .inl (fun _ => 0))), (29, .inl (5, .inl (fun _ => 0))), (30, .inl (5, .inl (fun _ => 0))), (31, .inl (5, .inl (fun _ => 0))), (32, .inl (5, .inl (fun _ => 0))), (33, .inl (5, .inl (fun _ => 0))), (34, .inl (5, .inl (fun _ => 0))), (35, .inl (5, .inl (fun _ => 0))), (40, .inr (4, [vR 41, vR 42, vI 0])), (41, .inl (8, .inl (fun _ => 0))), (42, .inl (8, .inl (fun _ => 0))), (50, .inr (1, [vR 51, vR 52, vR 53, vI 0, vI 0, vI (-1)])), (51, .inl (3, .inr (.inr (fun i => some (54 + i.toNat))))), (54, .inl (5, .inl (fun _ => 0))), (55, .inl (5, .inl (fun _ => 0))), (56, .inl (5, .inl (fun _ => 0))), (52, .inl (5, .inl (fun _ => 0))), (53, .inl (3, .inl (fun _ => 0))), (60, .inr (0, [vI 0, vI 0, vR 61, vR 62])), (61, .inl (3, .inl (fun _ => 0))), (62, .inl (3, .inl (fun _ => 0))), (70, .inl (3, .inl (fun _ => 0))), (71, .inl (3, .inl (fun _ => 0)))]
def kS5 : List Nat := [1, 2, 3, 4, 5, 10, 11, 13, 14, 15, 16, 12, 20, 21, 22, 23, 24, 25, 26, 27, 28, 29, 30, 31, 32, 33, 34, 35, 40, 41, 42, 50, 51, 54, 55, 56, 52, 53, 60, 61, 62, 70, 71]
def kS5r : List Nat := [201, 202, 203, 204, 205, 210, 211, 213, 214, 215, 216, 212, 220, 221, 222, 223, 224, 225, 226, 227, 228, 229, 230, 231, 232, 233, 234, 235, 240, 241, 242, 250, 251, 254, 255, 256, 252, 253, 260, 261, 262, 270, 271]
def KSL : List Nat := [0, 1, 2, 3, 4, 5, 10, 11, 13, 14, 15, 16, 12, 20, 21, 22, 23, 24, 25, 26, 27, 28, 29, 30, 31, 32, 33, 34, 35, 40, 41, 42, 50, 51, 54, 55, 56, 52, 53, 60, 61, 62, 70, 71, 200, 201, 202, 203, 204, 205, 210, 211, 213, 214, 215, 216, 212, 220, 221, 222, 223, 224, 225, 226, 227, 228, 229, 230, 231, 232, 233, 234, 235, 240, 241, 242, 250, 251, 254, 255, 256, 252, 253, 260, 261, 262, 270, 271, 150]
def keysL : List Nat := [150, 0, 1, 2, 3, 4, 5, 10, 11, 12, 13, 14, 15, 16, 20, 21, 22, 23, 24, 25, 26, 27, 28, 29, 30, 31, 32, 33, 34, 35, 40, 41, 42, 50, 51, 52, 53, 54, 55, 56, 60, 61, 62, 70, 71, 200, 201, 202, 203, 204, 205, 210, 211, 212, 213, 214, 215, 216, 220, 221, 222, 223, 224, 225, 226, 227, 228, 229, 230, 231, 232, 233, 234, 235, 240, 241, 242, 250, 251, 252, 253, 254, 255, 256, 260, 261, 262, 270, 271]
def bc_start : PT := bL_law.take 11
theorem tc_start : ∀ q ∈ bc_start, decode code q.1 = .ok (q.2.1, q.2.2) := fun q hq => tL_law q (List.mem_of_mem_take hq)
theorem ctor1 (ro : PRO) : Sn mX5_init ro 20 [vR 0] [(0, .inr (5, [vN, vN, vN, vN, vN, vN, vN, vI 0, vI 0, vI 0, vI 0, vI 0]))] W5 kS5 262 := iX5 ro
theorem ctor2 {ro : PRO} (hro : ∀ q ∈ roC, q ∈ ro) : Sn mX5_init ro 20 [vR 200] (W5 ++ [(200, .inr (5, [vN, vN, vN, vN, vN, vN, vN, vI 0, vI 0, vI 0, vI 0, vI 0]))]) (W5 ++ rW W5) kS5r 262 := ((iX5 roC).ren).frame W5 hro
def wEnd : PW := (W5 ++ rW W5) ++ [(150, .inl (20, .inl (fun _ => 0)))]
set_option maxRecDepth 20000 in
theorem law_head {ro : PRO} {lk : PL} {d : Nat} {G : Nat → Nat → PS → Prop} (hro : ∀ q ∈ roC, q ∈ ro) (hd : 21 ≤ d) (hR : Rn RL ro lk bc_start d KSL 568 G) (hend : G 89 568 (21, [some (vR 98), some (vR 0), some (vR 200), some (vR 150), none, none, none, none, none, none, none, none, none, none], [], wEnd)) : G 0 0 (0, lent 14 [vR 98], [], []) := by
  have hd2 : 20 + 1 ≤ d := hd
  refine (show G 0 0 (0, [some (vR 98), none, none, none, none, none, none, none, none, none, none, none, none, none], [], []) from ?_)
  refine hR.nw nL_22 rfl rfl rfl (by decide) ?_
  refine hR.run0 1 (S' := (4, [some (vR 98), none, none, none, none, none, none, none, none, none, none, none, none, none], [vR 0, vR 0], [(0, .inr (5, [vN, vN, vN, vN, vN, vN, vN, vI 0, vI 0, vI 0, vI 0, vI 0]))])) rfl ?_
  refine hR.ct cL_178 rfl (ctor1 ro) hd2 (by decide) (by decide) rfl rfl (by decide) ?_
  refine (show G 44 274 (7, [some (vR 98), none, none, none, none, none, none, none, none, none, none, none, none, none], [vR 0], W5) from ?_)
  refine hR.as 1 rfl rfl (by decide) ?_
  refine (show G 44 274 (8, [some (vR 98), some (vR 0), none, none, none, none, none, none, none, none, none, none, none, none], [], W5) from ?_)
  refine hR.nw nL_22 rfl rfl rfl (by decide) ?_
  refine hR.run0 1 (S' := (12, [some (vR 98), some (vR 0), none, none, none, none, none, none, none, none, none, none, none, none], [vR 200, vR 200], W5 ++ [(200, .inr (5, [vN, vN, vN, vN, vN, vN, vN, vI 0, vI 0, vI 0, vI 0, vI 0]))])) rfl ?_
  refine hR.ct cL_178 rfl (ctor2 hro) hd2 (by decide) (by decide) rfl rfl (by decide) ?_
  refine (show G 88 548 (15, [some (vR 98), some (vR 0), none, none, none, none, none, none, none, none, none, none, none, none], [vR 200], W5 ++ rW W5) from ?_)
  refine hR.as 2 rfl rfl (by decide) ?_
  refine hR.run0 1 (S' := (18, [some (vR 98), some (vR 0), some (vR 200), none, none, none, none, none, none, none, none, none, none, none], [vI 20], W5 ++ rW W5)) rfl ?_
  refine hR.na 20 rfl (by decide) rfl rfl rfl (by decide) ?_
  refine (show G 89 568 (20, [some (vR 98), some (vR 0), some (vR 200), none, none, none, none, none, none, none, none, none, none, none], [vR 150], wEnd) from ?_)
  refine hR.as 3 rfl rfl (by decide) ?_
  exact hend
def τ0 : St := (fun k => match k with
  | 4 => -1
  | 8 => -1
  | _ => 0, fun k => match k with
  | 0 => hg0
  | 1 => hn0
  | 2 => fun _ => -1
  | 3 => fun _ => -1
  | _ => fun _ => 0, fun k => match k with
  | 0 => ban0
  | _ => fun _ _ => 0)
def κ0 : St := (fun _ => 0, fun _ _ => 0, fun _ _ _ => 0)
set_option maxRecDepth 20000 in
theorem wEnd_is : pick wEnd keysL = T2 τ0 κ0 κ0 [(150, .inl (20, .inl (fun _ => 0)))] := rfl
set_option maxRecDepth 20000 in
theorem wEnd_nd : va_nd ((pick wEnd keysL).map Prod.fst) = true := by
  have h : (pick wEnd keysL).map Prod.fst = keysL := rfl
  rw [h]
  decide +kernel
theorem pos_ok : ∀ i k : Nat, KSL[i]? = some k → k ≠ 98 ∧ k ≠ 99 ∧ KSL.idxOf k = i := by
  intro i k h
  have hi : i < 89 := (List.getElem?_eq_some_iff.mp h).1
  have key : ∀ i : Nat, i < 89 → ∀ k ∈ KSL[i]?, k ≠ 98 ∧ k ≠ 99 ∧ KSL.idxOf k = i := by decide +kernel
  exact key i hi k h
