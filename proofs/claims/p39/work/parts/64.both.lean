/-! ===== both games at once, whatever lies in the rows that only help ===== -/
def GX (G : Nat → PS → Prop) (u : Nat) (τ : St) (X : PW) (pc : Nat) (L : List (Option PV)) (st : List PV) : Prop := ∀ κ κ2 : St, Jv τ κ → Jv τ κ2 → G u (pc, L, st, T2 τ κ κ2 X)
def PX (Q : Int → St → Prop) (X : PW) : PPr := fun v w' => ∃ (i : Int) (τ' κ' κ2' : St), v = some (vI i) ∧ Q i τ' ∧ Jv τ' κ' ∧ Jv τ' κ2' ∧ w' = T2 τ' κ' κ2' X
def SX (M : PM) (ro : PRO) (d : Nat) (as : List PV) (τ : St) (X : PW) (Q : Int → St → Prop) (U : Nat) : Prop := ∀ κ κ2 : St, Jv τ κ → Jv τ κ2 → Sm M ro d as (T2 τ κ κ2 X) (PX Q X) U
def Jx (τ : St) : Prop := ∃ κ : St, Jv τ κ
theorem Jx.iv {τ : St} (h : Jx τ) : Iv τ := h.choose_spec.1
/-- what only tells -/
def Gt (τ : St) (M : PM) (d1 : Nat) (as : List PV) (v : PV) : Prop := ∀ κ : St, Jv τ κ → ∃ κ' : St, Jv τ κ' ∧ Sp M roC d1 (vR 0 :: as) (cW τ κ) (.inl (some v)) (cW τ κ')
def kT (X : PW) (ks : List Nat) : Prop := ∀ τ κ κ2 : St, (T2 τ κ κ2 X).map Prod.fst = ks
theorem kT_of (X : PW) (τ κ κ2 : St) : kT X ((T2 τ κ κ2 X).map Prod.fst) := fun _ _ _ => T2_keys rfl
section GXR
variable {lk : PL} {ro : PRO} {tb : PT} {ret : Option FieldType} {d U : Nat} {Pr : PPr} {ks : List Nat} {G : Nat → PS → Prop} {u : Nat} {τ : St} {X : PW} {pc : Nat} {L : List (Option PV)} {st : List PV}
theorem GX.run0 (hR : Rm RL lk ro tb ret d U Pr ks G) (n : Nat) {pc' : Nat} {L' : List (Option PV)} {st' : List PV} {X' : PW} (h : ∀ κ κ2 : St, prun lk ro tb n (pc, L, st, T2 τ κ κ2 X) = some ((pc', L', st', T2 τ κ κ2 X'), none)) (k : GX G u τ X' pc' L' st') : GX G u τ X pc L st :=
  fun κ κ2 h1 h2 => hR.1 u n _ _ none (h κ κ2) (fun _ q => by cases q) (k κ κ2 h1 h2)
theorem GX.run1 (hR : Rm RL lk ro tb ret d U Pr ks G) (n : Nat) {pc' : Nat} {L' : List (Option PV)} {st' : List PV} {X' : PW} {P : Prop} (h : ∀ κ κ2 : St, prun lk ro tb n (pc, L, st, T2 τ κ κ2 X) = some ((pc', L', st', T2 τ κ κ2 X'), some P)) (hP : P) (k : GX G u τ X' pc' L' st') : GX G u τ X pc L st :=
  fun κ κ2 h1 h2 => hR.1 u n _ _ (some P) (h κ κ2) (fun _ q => by cases q; exact hP) (k κ κ2 h1 h2)
theorem GX.br (hR : Rm RL lk ro tb ret d U Pr ks G) {pc1 pc2 : Nat} {st1 : List PV} {P C : Prop} (h : ∀ w : PW, pbrT tb (pc, L, st, w) = some (P, C, (pc1, L, st1, w), (pc2, L, st1, w))) (hP : P) (k1 : C → GX G u τ X pc1 L st1) (k2 : ¬ C → GX G u τ X pc2 L st1) : GX G u τ X pc L st := by
  intro κ κ2 h1 h2
  have h3 := h (T2 τ κ κ2 X)
  unfold pbrT at h3
  split at h3
  · next i n h0 => exact hR.2.1 u _ i n P C _ _ h0 h3 hP (fun q => k1 q κ κ2 h1 h2) (fun q => k2 q κ κ2 h1 h2)
  · cases h3
/-- a question to the first game -/
theorem GX.ask (hR : Rm RL lk ro tb ret d U Pr ks G) (hro : ∀ q ∈ roC, q ∈ ro) {idx n d1 : Nat} {M : PM} {v : PV} (as : List PV) {rest : List PV} (h : Gt τ M d1 as v) (hl : vLink RL idx M n) (h0 : alk tb pc = some (.invokevirtual idx, 3)) (hn : as.length = n) (hM : RX5 = M.1.cls) (hd : d1 + 1 ≤ d) (hm : M.2.2.1 ≤ 20) (hc : pcat rest ≤ 8) (hs : st = as.reverse ++ vR 0 :: rest) (hX : ∀ (κ κ2 : St), ∃ fs, alk (T2 τ κ κ2 X) 0 = some (.inr (5, fs))) (k : GX G u τ X (pc + 3) L (v :: rest)) : GX G u τ X pc L st := by
  intro κ κ2 h1 h2
  obtain ⟨κ', h3, h4⟩ := h κ h1
  obtain ⟨fs, h5⟩ := hX κ κ2
  subst hn
  subst hs
  exact hR.2.2.1 u idx M d1 as 0 5 fs (RX5, TX5, 12) rest L pc _ _ (some v) h0 hl h5 rfl hM hd hm hc (Sp.to1 hro h4) (k κ' κ2 h3 h2)
/-- a static method that looks at nothing -/
theorem GX.sx (hR : Rm RL lk ro tb ret d U Pr ks G) {idx n d1 : Nat} {M : PM} {v : PV} (as : List PV) {rest : List PV} (h : ∀ w : PW, Sp M ro d1 as w (.inl (some v)) w) (hl : sLink RL idx M n) (h0 : alk tb pc = some (.invokestatic idx, 3)) (hn : as.length = n) (hd : d1 + 1 ≤ d) (hm : M.2.2.1 ≤ 20) (hc : pcat rest ≤ 8) (hs : st = as.reverse ++ rest) (k : GX G u τ X (pc + 3) L (v :: rest)) : GX G u τ X pc L st := by
  intro κ κ2 h1 h2
  subst hn
  subst hs
  exact hR.2.2.2.1 u idx M d1 as rest L pc _ _ (some v) h0 hl hd hm hc (h _) (k κ κ2 h1 h2)
/-- a static method that only asks -/
theorem GX.sg (hR : Rm RL lk ro tb ret d U Pr ks G) {idx n d1 : Nat} {M : PM} {v : Option PV} {X' : PW} (as : List PV) {rest : List PV} (h : ∀ κ κ2 : St, Jv τ κ → Jv τ κ2 → Sp M ro d1 as (T2 τ κ κ2 X) (.inl v) (T2 τ κ κ2 X')) (hl : sLink RL idx M n) (h0 : alk tb pc = some (.invokestatic idx, 3)) (hn : as.length = n) (hd : d1 + 1 ≤ d) (hm : M.2.2.1 ≤ 20) (hc : pcat rest ≤ 8) (hs : st = as.reverse ++ rest) (k : GX G u τ X' (pc + 3) L (v.toList ++ rest)) : GX G u τ X pc L st := by
  intro κ κ2 h1 h2
  subst hn
  subst hs
  exact hR.2.2.2.1 u idx M d1 as rest L pc _ _ v h0 hl hd hm hc (h κ κ2 h1 h2) (k κ κ2 h1 h2)
/-- a method of the law's -/
theorem GX.sm (hR : Rm RL lk ro tb ret d U Pr ks G) {idx n d1 c : Nat} {M : PM} {Q : Int → St → Prop} (as : List PV) {rest : List PV} (h : SX M ro d1 as τ X Q c) (hl : sLink RL idx M n) (h0 : alk tb pc = some (.invokestatic idx, 3)) (hn : as.length = n) (hd : d1 + 1 ≤ d) (hm : M.2.2.1 ≤ 20) (hc : pcat rest ≤ 8) (hs : st = as.reverse ++ rest) (hu : u + c ≤ U) (k : ∀ (i : Int) (τ' : St), Q i τ' → Jx τ' → GX G (u + c) τ' X (pc + 3) L (vI i :: rest)) : GX G u τ X pc L st := by
  intro κ κ2 h1 h2
  subst hn
  subst hs
  refine hR.2.2.2.2.2.1 u idx M d1 c (PX Q X) as rest L pc _ h0 hl hd hm hc hu (h κ κ2 h1 h2) (fun v w2 hp _ => ?_)
  obtain ⟨i, τ', κ', κ2', rfl, h3, h4, h5, rfl⟩ := hp
  exact k i τ' h3 ⟨_, h4⟩ κ' κ2' h4 h5
theorem GX.rt {Q : Int → St → Prop} (hR : Rm RL lk ro tb ret d U (PX Q X) ks G) (hk : kT X ks) {i : Int} {P : Prop} (h : pretT tb ret pc st = some (some (vI i), P)) (hP : P) (hQ : Q i τ) : GX G u τ X pc L st := by
  intro κ κ2 h1 h2
  unfold pretT at h
  split at h
  · next j n h0 => exact hR.2.2.2.2.2.2.1 u j n pc L st (some (vI i)) P _ h0 h hP ⟨i, τ, κ, κ2, rfl, hQ, h1, h2, rfl⟩ (hk τ κ κ2)
  · cases h
theorem GX.fg (hR : Rm RL lk ro tb ret d U Pr ks G) (j : Nat) (k : GX G u τ X pc (lset L j none) st) : GX G u τ X pc L st := fun κ κ2 h1 h2 => hR.2.2.2.2.2.2.2 u j pc L st _ (k κ κ2 h1 h2)
end GXR
theorem SX.of {M : PM} {tb : PT} {ro : PRO} {d U : Nat} {as : List PV} {τ : St} {X : PW} {Q : Int → St → Prop} (hL : M.1.cls = RL) (htb : ∀ q ∈ tb, decode M.2.1 q.1 = .ok (q.2.1, q.2.2)) (hnl : (lay as).length ≤ M.2.2.1)
    (body : ∀ (G : Nat → PS → Prop) (ks : List Nat), kT X ks → Rm RL lkL ro tb M.2.2.2 d U (PX Q X) ks G → GX G 0 τ X 0 (lent M.2.2.1 as) []) : SX M ro d as τ X Q U := by
  intro κ κ2 h1 h2
  refine Sm.of (lk := lkL) (tb := tb) (by rw [hL]; decide) (by rw [hL]; exact lkL_ok) htb hnl (fun G hR => ?_)
  rw [hL] at hR
  exact body G _ (kT_of X τ κ κ2) hR κ κ2 h1 h2
theorem SX.mono {M : PM} {ro : PRO} {d U : Nat} {as : List PV} {τ : St} {X : PW} {Q Q2 : Int → St → Prop} (h : SX M ro d as τ X Q U) (hq : ∀ i τ', Q i τ' → Q2 i τ') : SX M ro d as τ X Q2 U := by
  intro κ κ2 h1 h2
  refine (h κ κ2 h1 h2).mono ?_
  rintro v w' ⟨i, τ', κ', κ2', e1, e2, e3⟩
  exact ⟨i, τ', κ', κ2', e1, hq _ _ e2, e3⟩
/-! the same call in both games -/
theorem Sp.to2 {M : PM} {ro : PRO} {d : Nat} {as : List PV} {τ κ2 τ' κ2' : St} {o : PO} {Y : PW} (hro : ∀ q ∈ roC, q ∈ ro) (h : Sp M roC d as (cW τ κ2) o (cW τ' κ2')) : Sp M ro d (as.map rPV) (Y ++ rW (cW τ κ2)) (rO o) (Y ++ rW (cW τ' κ2')) := by
  have h1 := Sp.frame Y [] hro h.ren
  rw [List.append_nil, List.append_nil] at h1
  exact h1
theorem okO_r {o : PO} (h : okO o) : okO (rO o) := by
  rcases h with ⟨v, rfl⟩ | ⟨E, rfl, h⟩
  · exact .inl ⟨v, rfl⟩
  · exact .inr ⟨E, rfl, h⟩
theorem tlO_r {o : PO} (h : okO o) : tlO (rO o) = tlO o := by
  rcases h with ⟨v, rfl⟩ | ⟨E, rfl, h⟩ <;> rfl
theorem kLW_155 : sLinkW RL 155 mL_call hhL_call 5 := kL_155
theorem q_both {ro : PRO} (hro : ∀ q ∈ roC, q ∈ ro) {τ τ' : St} {n a b c v : Int} (X : PW) (h : Cl τ n a b c v τ') : SX mL_both ro 14 [vR 0, vR 200, vI n, vI a, vI b, vI c] τ X (fun i σ => i = v ∧ σ = τ') 2 := by
  obtain ⟨hv, o, h1, h2, h3⟩ := h
  intro κ κ2 hJ hJ2
  obtain ⟨κ', hK, hS⟩ := h3 κ hJ
  obtain ⟨κ2', hK2, hS2⟩ := h3 κ2 hJ2
  have hw1 : Sw mL_call hhL_call ro 13 [vR 0, vI n, vI a, vI b, vI c] (T2 τ κ κ2 X) (vI v) (X ++ cW τ' κ' ++ rW (cW τ κ2)) := by
    rw [← h1]
    exact Sw_call h2 (Sp.to1 (X := X) hro hS)
  have hw2 : Sw mL_call hhL_call ro 13 [vR 200, vI n, vI a, vI b, vI c] (X ++ cW τ' κ' ++ rW (cW τ κ2)) (vI v) (T2 τ' κ' κ2' X) := by
    rw [← h1, ← tlO_r h2]
    exact Sw_call (okO_r h2) (Sp.to2 (Y := X ++ cW τ' κ') hro hS2)
  refine Sm.of (lk := lkL) (tb := bL_both) (by decide) lkL_ok tL_both (Nat.le_of_ble_eq_true rfl) (fun G hR => ?_)
  refine hR.1 0 5 _ (7, [some (vR 0), some (vR 200), some (vI n), some (vI a), some (vI b), some (vI c), none], [vI c, vI b, vI a, vI n, vR 0], T2 τ κ κ2 X) none rfl (fun q hq => nomatch hq) ?_
  refine hR.2.2.2.2.1 0 155 mL_call hhL_call 13 [vR 0, vI n, vI a, vI b, vI c] [] _ 7 _ _ (vI v) rfl kLW_155 (Nat.le_refl _) (by decide) (by decide) (by decide) hw1 ?_
  refine hR.1 1 7 _ (21, [some (vR 0), some (vR 200), some (vI n), some (vI a), some (vI b), some (vI c), some (vI v)], [vI c, vI b, vI a, vI n, vR 200, vI v], X ++ cW τ' κ' ++ rW (cW τ κ2)) none rfl (fun q hq => nomatch hq) ?_
  refine hR.2.2.2.2.1 1 155 mL_call hhL_call 13 [vR 200, vI n, vI a, vI b, vI c] [vI v] _ 21 _ _ (vI v) rfl kLW_155 (Nat.le_refl _) (by decide) (Nat.le_of_ble_eq_true rfl) (by decide) hw2 ?_
  refine hR.2.1 2 _ (.if_icmp .ne 8) 3 ((-2147483648 ≤ v ∧ v ≤ 2147483647) ∧ -2147483648 ≤ v ∧ v ≤ 2147483647) (v ≠ v) _ _ rfl rfl ⟨hv, hv⟩ (fun h => absurd rfl h) (fun _ => ?_)
  refine hR.1 2 2 _ (35, [some (vR 0), some (vR 200), some (vI n), some (vI a), some (vI b), some (vI c), some (vI v)], [vI v], T2 τ' κ' κ2' X) none rfl (fun q hq => nomatch hq) ?_
  refine hR.2.2.2.2.2.2.1 2 .ireturn 1 35 _ [vI v] (some (vI v)) True _ rfl rfl trivial ⟨v, τ', κ', κ2', rfl, ⟨rfl, rfl⟩, hK, hK2, rfl⟩ (T2_keys rfl)
theorem GX.bo {lk : PL} {ro : PRO} {tb : PT} {ret : Option FieldType} {d U : Nat} {Pr : PPr} {ks : List Nat} {G : Nat → PS → Prop} {u : Nat} {τ τ' : St} {X : PW} {pc : Nat} {L : List (Option PV)} {st rest : List PV} {n a b c v : Int} (hR : Rm RL lk ro tb ret d U Pr ks G) (hro : ∀ q ∈ roC, q ∈ ro) (h : Cl τ n a b c v τ') (h0 : alk tb pc = some (.invokestatic 161, 3)) (hd : 15 ≤ d) (hc : pcat rest ≤ 8) (hs : st = [vI c, vI b, vI a, vI n, vR 200, vR 0] ++ rest) (hu : u + 2 ≤ U) (k : Jx τ' → GX G (u + 2) τ' X (pc + 3) L (vI v :: rest)) : GX G u τ X pc L st := by
  refine GX.sm hR [vR 0, vR 200, vI n, vI a, vI b, vI c] (q_both hro X h) kL_161 h0 rfl hd (by decide) hc hs hu (fun i σ hq hI => ?_)
  obtain ⟨rfl, rfl⟩ := hq
  exact k hI
/-- a call that is refused for what it was given -/
theorem GX.no {lk : PL} {ro : PRO} {tb : PT} {ret : Option FieldType} {d U : Nat} {Pr : PPr} {ks : List Nat} {G : Nat → PS → Prop} {u : Nat} {τ : St} {X : PW} {pc : Nat} {L : List (Option PV)} {st rest : List PV} {n a b c v : Int} (hR : Rm RL lk ro tb ret d U Pr ks G) (hro : ∀ q ∈ roC, q ∈ ro) (h : Cl τ n a b c v τ) (h0 : alk tb pc = some (.invokestatic 155, 3)) (hd : 14 ≤ d) (hc : pcat rest ≤ 8) (hs : st = [vI c, vI b, vI a, vI n, vR 0] ++ rest) (hu : u + 1 ≤ U) (k : GX G (u + 1) τ X (pc + 3) L (vI v :: rest)) : GX G u τ X pc L st := by
  obtain ⟨hv, o, h1, h2, h3⟩ := h
  intro κ κ2 hJ hJ2
  obtain ⟨κ', hK, hS⟩ := h3 κ hJ
  have hw1 : Sw mL_call hhL_call ro 13 [vR 0, vI n, vI a, vI b, vI c] (T2 τ κ κ2 X) (vI v) (T2 τ κ' κ2 X) := by
    rw [← h1]
    exact Sw_call h2 (Sp.to1 (X := X) hro hS)
  subst hs
  exact hR.2.2.2.2.1 u 155 mL_call hhL_call 13 [vR 0, vI n, vI a, vI b, vI c] rest L pc _ _ (vI v) h0 kLW_155 hd (by decide) hc hu hw1 (k κ' κ2 hK hJ2)
