/-! ===== the law's own methods ===== -/
def lkL : PL := ([], [], [], [], [])
theorem lkL_ok : lkOk RL lkL := ⟨(fun _ h => nomatch h), (fun _ h => nomatch h), (fun _ h => nomatch h), (fun _ h => nomatch h), (fun _ h => nomatch h)⟩
/-- both games and the row for answers -/
def LW (τ κ σ ρ : St) (out : Int → Int) : PW := mW σ ρ ++ cW τ κ ++ [(120, .inl (1, .inr (.inl out)))]
theorem LW_keys (τ κ σ ρ τ' κ' σ' ρ' : St) (out out' : Int → Int) : (LW τ' κ' σ' ρ' out').map Prod.fst = (LW τ κ σ ρ out).map Prod.fst := rfl
def oP (x : XR) (out : Int → Int) : Int → Int := if x.1 = 0 then pup out 0 (nmI x.2.1) else out
theorem Wv {ML M : PM} {hh : PHH} {tb : PT} {ro : PRO} {d d1 idx n1 pcV pcE : Nat} {as aL : List PV} {L : List (Option PV)} {x : XR} {E : Int → String} {τ κ κ' σ ρ : St} {out : Int → Int} {Pf : Int → Prop}
    (hc : Sp M ro d1 (vR 0 :: as) (LW τ κ σ ρ out) (oc E x) (LW x.2.2 κ' σ ρ out))
    (hy : plainName ML.1.cls = true) (hL : ML.1.cls = RL) (hret : ML.2.2.2 = some .int) (htb : ∀ q ∈ tb, decode ML.2.1 q.1 = .ok (q.2.1, q.2.2)) (hnl : (lay aL).length ≤ ML.2.2.1)
    (h1 : ∀ w : PW, prun lkL ro tb n1 (0, lent ML.2.2.1 aL, [], w) = some ((pcV, L, as.reverse ++ vR 0 :: [vI 0, vR 120], w), none))
    (h2 : alk tb pcV = some (.invokevirtual idx, 3)) (hk : vLink RL idx M as.length) (hM : RX5 = M.1.cls) (hd : d1 + 1 ≤ d) (hm : M.2.2.1 ≤ 20)
    (h3 : ∀ (v : Int) (τ κ : St), prun lkL ro tb 4 (pcV + 3, L, [vI v, vI 0, vR 120], LW τ κ σ ρ out) = some ((pcE, L, [vI 0], LW τ κ σ ρ (pup out 0 v)), some (Pf v)))
    (h3P : ∀ v : Int, (-2147483648 ≤ v ∧ v ≤ 2147483647) → Pf v) (h4 : alk tb pcE = some (.ireturn, 1))
    (hcd : x.1 = 0 ∨ (x.1 ≠ 0 ∧ ∃ h, hfind (E x.1) pcV hh = some h ∧ ptail tb h ML.2.2.1 = some x.1)) :
    Sw ML hh ro d aL (LW τ κ σ ρ out) (vI x.1) (LW x.2.2 κ' σ ρ (oP x out)) := by
  refine Sw.of (lk := lkL) (tb := tb) (hh := hh) hy hL hret lkL_ok htb (LW_keys _ _ _ _ _ _ _ _ _ _) hnl (fun G hR => ?_)
  refine hR.1 n1 _ _ none (h1 _) (fun q h => nomatch h) ?_
  obtain ⟨k, v, τ2⟩ := x
  rcases hcd with h | ⟨h, hp, e1, e2⟩
  · have h : k = 0 := h
    subst h
    have ho : oP (0, v, τ2) out = pup out 0 (nmI v) := rfl
    rw [ho] at hR
    refine hR.2.1 idx M d1 as 0 5 _ (RX5, TX5, 12) [vI 0, vR 120] L pcV _ _ (some (vI v)) h2 hk rfl rfl hM hd hm (by decide) hc ?_
    refine hR.2.2.2.2 _ _ v _ _ ?_
    exact hR.1 4 _ _ _ (h3 (nmI v) τ2 κ') (fun q hq => by cases hq; exact h3P _ (nmI_r v)) (hR.2.2.2.1 _ _ h4)
  · have h : k ≠ 0 := h
    have ho : oP (k, v, τ2) out = out := if_neg h
    have hE : oc E (k, v, τ2) = .inr (E k) := if_neg h
    rw [ho] at hR
    rw [hE] at hc
    exact hR.2.2.1 idx M d1 as 0 5 _ (RX5, TX5, 12) [vI 0, vR 120] L pcV _ (E k) hp h2 hk rfl rfl hM hd hm (by decide) hc e1 e2
theorem Wd {ML M : PM} {hh : PHH} {tb : PT} {ro : PRO} {d d1 idx n1 pcV pcE : Nat} {as aL : List PV} {L : List (Option PV)} {x : XR} {E : Int → String} {τ κ κ' σ ρ : St} {out : Int → Int}
    (hc : Sp M ro d1 (vR 0 :: as) (LW τ κ σ ρ out) (ocv E x) (LW x.2.2 κ' σ ρ out))
    (hy : plainName ML.1.cls = true) (hL : ML.1.cls = RL) (hret : ML.2.2.2 = some .int) (htb : ∀ q ∈ tb, decode ML.2.1 q.1 = .ok (q.2.1, q.2.2)) (hnl : (lay aL).length ≤ ML.2.2.1)
    (h1 : ∀ w : PW, prun lkL ro tb n1 (0, lent ML.2.2.1 aL, [], w) = some ((pcV, L, as.reverse ++ vR 0 :: [], w), none))
    (h2 : alk tb pcV = some (.invokevirtual idx, 3)) (hk : vLink RL idx M as.length) (hM : RX5 = M.1.cls) (hd : d1 + 1 ≤ d) (hm : M.2.2.1 ≤ 20)
    (h3 : ∀ (w : PW), prun lkL ro tb 2 (pcV + 3, L, [], w) = some ((pcE, L, [vI 0], w), none))
    (h4 : alk tb pcE = some (.ireturn, 1))
    (hcd : x.1 = 0 ∨ (x.1 ≠ 0 ∧ ∃ h, hfind (E x.1) pcV hh = some h ∧ ptail tb h ML.2.2.1 = some x.1)) :
    Sw ML hh ro d aL (LW τ κ σ ρ out) (vI x.1) (LW x.2.2 κ' σ ρ out) := by
  refine Sw.of (lk := lkL) (tb := tb) (hh := hh) hy hL hret lkL_ok htb (LW_keys _ _ _ _ _ _ _ _ _ _) hnl (fun G hR => ?_)
  refine hR.1 n1 _ _ none (h1 _) (fun q h => nomatch h) ?_
  obtain ⟨k, v, τ2⟩ := x
  rcases hcd with h | ⟨h, hp, e1, e2⟩
  · have h : k = 0 := h
    subst h
    refine hR.2.1 idx M d1 as 0 5 _ (RX5, TX5, 12) [] L pcV _ _ none h2 hk rfl rfl hM hd hm (by decide) hc ?_
    exact hR.1 2 _ _ none (h3 _) (fun q hq => nomatch hq) (hR.2.2.2.1 _ _ h4)
  · have h : k ≠ 0 := h
    have hE : ocv E (k, v, τ2) = .inr (E k) := if_neg h
    rw [hE] at hc
    exact hR.2.2.1 idx M d1 as 0 5 _ (RX5, TX5, 12) [] L pcV _ (E k) hp h2 hk rfl rfl hM hd hm (by decide) hc e1 e2
theorem arC_c (h v d : Int) : arC h v d = 0 ∨ arC h v d = 1 ∨ arC h v d = 2 := by
  unfold arC
  (repeat' split) <;> simp
theorem cd_xLay (τ : St) (h g n : Int) : (xLay τ h g n).1 = 0 ∨ (xLay τ h g n).1 = 1 ∨ (xLay τ h g n).1 = 2 ∨ (xLay τ h g n).1 = 3 := by
  unfold xLay
  (repeat' split) <;> (dsimp only; omega)
abbrev mL_layHex : PM := (yL_layHex, cL_layHex, 5, (some .int))
def hhL_layHex : PHH := [(0, 7, 10, 13), (0, 7, 14, 15), (0, 7, 18, 17)]
def bL_layHex : PT := [(0, .aload_n 0, 1), (1, .iload_n 1, 1), (2, .iload_n 2, 1), (3, .iload_n 3, 1), (4, .invokevirtual 7, 3), (7, .goto 15, 3), (10, .astore 4, 2), (12, .iconst 1, 1), (13, .ireturn, 1), (14, .astore 4, 2), (16, .iconst 2, 1), (17, .ireturn, 1), (18, .astore 4, 2), (20, .iconst 3, 1), (21, .ireturn, 1), (22, .iconst 0, 1), (23, .ireturn, 1)]
theorem tL_layHex : ∀ q ∈ bL_layHex, decode mL_layHex.2.1 q.1 = .ok (q.2.1, q.2.2) := by decide +kernel
theorem kL_7 : vLink RL 7 mX5_layHex 3 := ⟨gT_at 191 (by decide +kernel) (by decide +kernel), wX5_layHex⟩
theorem wL_layHex (τ κ σ ρ : St) (out : Int → Int) {ro : PRO} (hro : ∀ q ∈ roC, q ∈ ro) {h g n : Int} (rh : -2147483648 ≤ h ∧ h ≤ 2147483647) (rg : -2147483648 ≤ g ∧ g ≤ 2147483647) (rn : -2147483648 ≤ n ∧ n ≤ 2147483647) (hI : Iv τ) : Sw mL_layHex hhL_layHex ro 12 [vR 0, vI h, vI g, vI n] (LW τ κ σ ρ out) (vI (xLay τ h g n).1) (LW (xLay τ h g n).2.2 κ σ ρ out) := by
  have hc := Sp.frame (mW σ ρ) [(120, .inl (1, .inr (.inl out)))] hro (pX5_layHex τ κ rh rg rn hI)
  have hcd := cd_xLay τ h g n
  generalize xLay τ h g n = x at hc hcd ⊢
  refine Wd (idx := 7) (n1 := 4) (pcV := 4) (pcE := 23) (as := [vI h, vI g, vI n]) (L := [some (vR 0), some (vI h), some (vI g), some (vI n), none]) (tb := bL_layHex) (E := eIAS) hc (by decide) rfl rfl tL_layHex (Nat.le_of_ble_eq_true rfl) (fun _ => rfl) rfl kL_7 rfl (by decide) (Nat.le_of_ble_eq_true rfl) (fun _ => rfl) rfl ?_
  rcases hcd with h | h | h | h
  · exact .inl h
  · rw [h]
    exact .inr ⟨by decide, _, (by decide +kernel : hfind (eIAS 1) 4 hhL_layHex = some 10), by decide +kernel⟩
  · rw [h]
    exact .inr ⟨by decide, _, (by decide +kernel : hfind (eIAS 2) 4 hhL_layHex = some 14), by decide +kernel⟩
  · rw [h]
    exact .inr ⟨by decide, _, (by decide +kernel : hfind (eIAS 3) 4 hhL_layHex = some 18), by decide +kernel⟩
theorem cd_xPlace (τ : St) (c e : Int) : (xPlace τ c e).1 = 0 ∨ (xPlace τ c e).1 = 1 ∨ (xPlace τ c e).1 = 2 := by
  unfold xPlace
  (repeat' split) <;> (dsimp only; omega)
abbrev mL_place : PM := (yL_place, cL_place, 5, (some .int))
def hhL_place : PHH := [(0, 10, 13, 13), (0, 10, 17, 17)]
def bL_place : PT := [(0, .aload_n 3, 1), (1, .iconst 0, 1), (2, .aload_n 0, 1), (3, .iload_n 1, 1), (4, .iload_n 2, 1), (5, .invokevirtual 19, 3), (8, .i2l, 1), (9, .lastore, 1), (10, .goto 11, 3), (13, .astore 4, 2), (15, .iconst 1, 1), (16, .ireturn, 1), (17, .astore 4, 2), (19, .iconst 2, 1), (20, .ireturn, 1), (21, .iconst 0, 1), (22, .ireturn, 1)]
theorem tL_place : ∀ q ∈ bL_place, decode mL_place.2.1 q.1 = .ok (q.2.1, q.2.2) := by decide +kernel
theorem kL_19 : vLink RL 19 mX5_place 2 := ⟨gT_at 312 (by decide +kernel) (by decide +kernel), wX5_place⟩
theorem wL_place (τ κ σ ρ : St) (out : Int → Int) {ro : PRO} (hro : ∀ q ∈ roC, q ∈ ro) {c e : Int} (rc : -2147483648 ≤ c ∧ c ≤ 2147483647) (re : -2147483648 ≤ e ∧ e ≤ 2147483647) (hk0 : ∀ i, 0 ≤ κ.2.1 0 i ∧ κ.2.1 0 i ≤ 63) (hk1 : ∀ i, 0 ≤ κ.2.1 1 i ∧ κ.2.1 1 i ≤ 63) (hI : Iv τ) : Sw mL_place hhL_place ro 12 [vR 0, vI c, vI e, vR 120] (LW τ κ σ ρ out) (vI (xPlace τ c e).1) (LW (xPlace τ c e).2.2 (kPlace κ τ c e) σ ρ (oP (xPlace τ c e) out)) := by
  have hc := Sp.frame (mW σ ρ) [(120, .inl (1, .inr (.inl out)))] hro (pX5_place τ κ rc re hk0 hk1 hI)
  have hcd := cd_xPlace τ c e
  generalize xPlace τ c e = x at hc hcd ⊢
  generalize (kPlace κ τ c e) = κ' at hc ⊢
  refine Wv (idx := 19) (n1 := 5) (pcV := 5) (pcE := 22) (as := [vI c, vI e]) (L := [some (vR 0), some (vI c), some (vI e), some (vR 120), none]) (tb := bL_place) (E := eIS) hc (by decide) rfl rfl tL_place (Nat.le_of_ble_eq_true rfl) (fun _ => rfl) rfl kL_19 rfl (by decide) (Nat.le_of_ble_eq_true rfl) (fun _ _ _ => rfl) (fun v hv => by omega) rfl ?_
  rcases hcd with h | h | h
  · exact .inl h
  · rw [h]
    exact .inr ⟨by decide, _, (by decide +kernel : hfind (eIS 1) 5 hhL_place = some 13), by decide +kernel⟩
  · rw [h]
    exact .inr ⟨by decide, _, (by decide +kernel : hfind (eIS 2) 5 hhL_place = some 17), by decide +kernel⟩
theorem cd_xDeal (τ : St) (p n : Int) : (xDeal τ p n).1 = 0 ∨ (xDeal τ p n).1 = 1 ∨ (xDeal τ p n).1 = 2 ∨ (xDeal τ p n).1 = 3 := by
  unfold xDeal
  (repeat' split) <;> (dsimp only; omega)
abbrev mL_deal : PM := (yL_deal, cL_deal, 5, (some .int))
def hhL_deal : PHH := [(0, 10, 13, 13), (0, 10, 17, 15), (0, 10, 21, 17)]
def bL_deal : PT := [(0, .aload_n 3, 1), (1, .iconst 0, 1), (2, .aload_n 0, 1), (3, .iload_n 1, 1), (4, .iload_n 2, 1), (5, .invokevirtual 23, 3), (8, .i2l, 1), (9, .lastore, 1), (10, .goto 15, 3), (13, .astore 4, 2), (15, .iconst 1, 1), (16, .ireturn, 1), (17, .astore 4, 2), (19, .iconst 2, 1), (20, .ireturn, 1), (21, .astore 4, 2), (23, .iconst 3, 1), (24, .ireturn, 1), (25, .iconst 0, 1), (26, .ireturn, 1)]
theorem tL_deal : ∀ q ∈ bL_deal, decode mL_deal.2.1 q.1 = .ok (q.2.1, q.2.2) := by decide +kernel
theorem kL_23 : vLink RL 23 mX5_deal 2 := ⟨gT_at 440 (by decide +kernel) (by decide +kernel), wX5_deal⟩
theorem wL_deal (τ κ σ ρ : St) (out : Int → Int) {ro : PRO} (hro : ∀ q ∈ roC, q ∈ ro) {p n : Int} (rp : -2147483648 ≤ p ∧ p ≤ 2147483647) (rn : -2147483648 ≤ n ∧ n ≤ 2147483647) (hI : Iv τ) : Sw mL_deal hhL_deal ro 12 [vR 0, vI p, vI n, vR 120] (LW τ κ σ ρ out) (vI (xDeal τ p n).1) (LW (xDeal τ p n).2.2 (kDeal κ τ p n) σ ρ (oP (xDeal τ p n) out)) := by
  have hc := Sp.frame (mW σ ρ) [(120, .inl (1, .inr (.inl out)))] hro (pX5_deal τ κ rp rn hI)
  have hcd := cd_xDeal τ p n
  generalize xDeal τ p n = x at hc hcd ⊢
  generalize (kDeal κ τ p n) = κ' at hc ⊢
  refine Wv (idx := 23) (n1 := 5) (pcV := 5) (pcE := 26) (as := [vI p, vI n]) (L := [some (vR 0), some (vI p), some (vI n), some (vR 120), none]) (tb := bL_deal) (E := eIAS) hc (by decide) rfl rfl tL_deal (Nat.le_of_ble_eq_true rfl) (fun _ => rfl) rfl kL_23 rfl (by decide) (Nat.le_of_ble_eq_true rfl) (fun _ _ _ => rfl) (fun v hv => by omega) rfl ?_
  rcases hcd with h | h | h | h
  · exact .inl h
  · rw [h]
    exact .inr ⟨by decide, _, (by decide +kernel : hfind (eIAS 1) 5 hhL_deal = some 13), by decide +kernel⟩
  · rw [h]
    exact .inr ⟨by decide, _, (by decide +kernel : hfind (eIAS 2) 5 hhL_deal = some 17), by decide +kernel⟩
  · rw [h]
    exact .inr ⟨by decide, _, (by decide +kernel : hfind (eIAS 3) 5 hhL_deal = some 21), by decide +kernel⟩
theorem cd_xRoll (τ : St) (a b : Int) : (xRoll τ a b).1 = 0 ∨ (xRoll τ a b).1 = 1 ∨ (xRoll τ a b).1 = 2 := by
  unfold xRoll
  (repeat' split) <;> (dsimp only; omega)
abbrev mL_roll : PM := (yL_roll, cL_roll, 5, (some .int))
def hhL_roll : PHH := [(0, 10, 13, 15), (0, 10, 17, 17)]
def bL_roll : PT := [(0, .aload_n 3, 1), (1, .iconst 0, 1), (2, .aload_n 0, 1), (3, .iload_n 1, 1), (4, .iload_n 2, 1), (5, .invokevirtual 26, 3), (8, .i2l, 1), (9, .lastore, 1), (10, .goto 11, 3), (13, .astore 4, 2), (15, .iconst 1, 1), (16, .ireturn, 1), (17, .astore 4, 2), (19, .iconst 2, 1), (20, .ireturn, 1), (21, .iconst 0, 1), (22, .ireturn, 1)]
theorem tL_roll : ∀ q ∈ bL_roll, decode mL_roll.2.1 q.1 = .ok (q.2.1, q.2.2) := by decide +kernel
theorem kL_26 : vLink RL 26 mX5_roll 2 := ⟨gT_at 477 (by decide +kernel) (by decide +kernel), wX5_roll⟩
theorem wL_roll (τ κ σ ρ : St) (out : Int → Int) {ro : PRO} (hro : ∀ q ∈ roC, q ∈ ro) {a b : Int} (ra : -2147483648 ≤ a ∧ a ≤ 2147483647) (rb : -2147483648 ≤ b ∧ b ≤ 2147483647) (hI : Iv τ) : Sw mL_roll hhL_roll ro 12 [vR 0, vI a, vI b, vR 120] (LW τ κ σ ρ out) (vI (xRoll τ a b).1) (LW (xRoll τ a b).2.2 (kRoll κ τ a b) σ ρ (oP (xRoll τ a b) out)) := by
  have hc := Sp.frame (mW σ ρ) [(120, .inl (1, .inr (.inl out)))] hro (pX5_roll τ κ ra rb hI)
  have hcd := cd_xRoll τ a b
  generalize xRoll τ a b = x at hc hcd ⊢
  generalize (kRoll κ τ a b) = κ' at hc ⊢
  refine Wv (idx := 26) (n1 := 5) (pcV := 5) (pcE := 22) (as := [vI a, vI b]) (L := [some (vR 0), some (vI a), some (vI b), some (vR 120), none]) (tb := bL_roll) (E := eAS) hc (by decide) rfl rfl tL_roll (Nat.le_of_ble_eq_true rfl) (fun _ => rfl) rfl kL_26 rfl (by decide) (Nat.le_of_ble_eq_true rfl) (fun _ _ _ => rfl) (fun v hv => by omega) rfl ?_
  rcases hcd with h | h | h
  · exact .inl h
  · rw [h]
    exact .inr ⟨by decide, _, (by decide +kernel : hfind (eAS 1) 5 hhL_roll = some 13), by decide +kernel⟩
  · rw [h]
    exact .inr ⟨by decide, _, (by decide +kernel : hfind (eAS 2) 5 hhL_roll = some 17), by decide +kernel⟩
theorem cd_xDisc (τ : St) (p n : Int) : (xDisc τ p n).1 = 0 ∨ (xDisc τ p n).1 = 1 ∨ (xDisc τ p n).1 = 2 ∨ (xDisc τ p n).1 = 3 := by
  unfold xDisc
  (repeat' split) <;> (dsimp only; omega)
abbrev mL_discard : PM := (yL_discard, cL_discard, 5, (some .int))
def hhL_discard : PHH := [(0, 10, 13, 13), (0, 10, 17, 15), (0, 10, 21, 17)]
def bL_discard : PT := [(0, .aload_n 3, 1), (1, .iconst 0, 1), (2, .aload_n 0, 1), (3, .iload_n 1, 1), (4, .iload_n 2, 1), (5, .invokevirtual 29, 3), (8, .i2l, 1), (9, .lastore, 1), (10, .goto 15, 3), (13, .astore 4, 2), (15, .iconst 1, 1), (16, .ireturn, 1), (17, .astore 4, 2), (19, .iconst 2, 1), (20, .ireturn, 1), (21, .astore 4, 2), (23, .iconst 3, 1), (24, .ireturn, 1), (25, .iconst 0, 1), (26, .ireturn, 1)]
theorem tL_discard : ∀ q ∈ bL_discard, decode mL_discard.2.1 q.1 = .ok (q.2.1, q.2.2) := by decide +kernel
theorem kL_29 : vLink RL 29 mX5_discard 2 := ⟨gT_at 513 (by decide +kernel) (by decide +kernel), wX5_discard⟩
theorem wL_discard (τ κ σ ρ : St) (out : Int → Int) {ro : PRO} (hro : ∀ q ∈ roC, q ∈ ro) {p n : Int} (rp : -2147483648 ≤ p ∧ p ≤ 2147483647) (rn : -2147483648 ≤ n ∧ n ≤ 2147483647) (hI : Iv τ) : Sw mL_discard hhL_discard ro 12 [vR 0, vI p, vI n, vR 120] (LW τ κ σ ρ out) (vI (xDisc τ p n).1) (LW (xDisc τ p n).2.2 (kDisc κ τ p n) σ ρ (oP (xDisc τ p n) out)) := by
  have hc := Sp.frame (mW σ ρ) [(120, .inl (1, .inr (.inl out)))] hro (pX5_discard τ κ rp rn hI)
  have hcd := cd_xDisc τ p n
  generalize xDisc τ p n = x at hc hcd ⊢
  generalize (kDisc κ τ p n) = κ' at hc ⊢
  refine Wv (idx := 29) (n1 := 5) (pcV := 5) (pcE := 26) (as := [vI p, vI n]) (L := [some (vR 0), some (vI p), some (vI n), some (vR 120), none]) (tb := bL_discard) (E := eIAS) hc (by decide) rfl rfl tL_discard (Nat.le_of_ble_eq_true rfl) (fun _ => rfl) rfl kL_29 rfl (by decide) (Nat.le_of_ble_eq_true rfl) (fun _ _ _ => rfl) (fun v hv => by omega) rfl ?_
  rcases hcd with h | h | h | h
  · exact .inl h
  · rw [h]
    exact .inr ⟨by decide, _, (by decide +kernel : hfind (eIAS 1) 5 hhL_discard = some 13), by decide +kernel⟩
  · rw [h]
    exact .inr ⟨by decide, _, (by decide +kernel : hfind (eIAS 2) 5 hhL_discard = some 17), by decide +kernel⟩
  · rw [h]
    exact .inr ⟨by decide, _, (by decide +kernel : hfind (eIAS 3) 5 hhL_discard = some 21), by decide +kernel⟩
theorem cd_xRob (τ : St) (h v d : Int) : (xRob τ h v d).1 = 0 ∨ (xRob τ h v d).1 = 1 ∨ (xRob τ h v d).1 = 2 ∨ (xRob τ h v d).1 = 3 := by
  have h0 := arC_c h v d
  unfold xRob
  (repeat' split) <;> (dsimp only; omega)
abbrev mL_rob : PM := (yL_rob, cL_rob, 6, (some .int))
def hhL_rob : PHH := [(0, 12, 15, 13), (0, 12, 19, 15), (0, 12, 23, 17)]
def bL_rob : PT := [(0, .aload 4, 2), (2, .iconst 0, 1), (3, .aload_n 0, 1), (4, .iload_n 1, 1), (5, .iload_n 2, 1), (6, .iload_n 3, 1), (7, .invokevirtual 32, 3), (10, .i2l, 1), (11, .lastore, 1), (12, .goto 15, 3), (15, .astore 5, 2), (17, .iconst 1, 1), (18, .ireturn, 1), (19, .astore 5, 2), (21, .iconst 2, 1), (22, .ireturn, 1), (23, .astore 5, 2), (25, .iconst 3, 1), (26, .ireturn, 1), (27, .iconst 0, 1), (28, .ireturn, 1)]
theorem tL_rob : ∀ q ∈ bL_rob, decode mL_rob.2.1 q.1 = .ok (q.2.1, q.2.2) := by decide +kernel
theorem kL_32 : vLink RL 32 mX5_rob 3 := ⟨gT_at 527 (by decide +kernel) (by decide +kernel), wX5_rob⟩
theorem wL_rob (τ κ σ ρ : St) (out : Int → Int) {ro : PRO} (hro : ∀ q ∈ roC, q ∈ ro) {h v d : Int} (rh : -2147483648 ≤ h ∧ h ≤ 2147483647) (rv : -2147483648 ≤ v ∧ v ≤ 2147483647) (rd : -2147483648 ≤ d ∧ d ≤ 2147483647) (hI : Iv τ) : Sw mL_rob hhL_rob ro 12 [vR 0, vI h, vI v, vI d, vR 120] (LW τ κ σ ρ out) (vI (xRob τ h v d).1) (LW (xRob τ h v d).2.2 (kRob κ τ h v d) σ ρ (oP (xRob τ h v d) out)) := by
  have hc := Sp.frame (mW σ ρ) [(120, .inl (1, .inr (.inl out)))] hro (pX5_rob τ κ rh rv rd hI)
  have hcd := cd_xRob τ h v d
  generalize xRob τ h v d = x at hc hcd ⊢
  generalize (kRob κ τ h v d) = κ' at hc ⊢
  refine Wv (idx := 32) (n1 := 6) (pcV := 7) (pcE := 28) (as := [vI h, vI v, vI d]) (L := [some (vR 0), some (vI h), some (vI v), some (vI d), some (vR 120), none]) (tb := bL_rob) (E := eIAS) hc (by decide) rfl rfl tL_rob (Nat.le_of_ble_eq_true rfl) (fun _ => rfl) rfl kL_32 rfl (by decide) (Nat.le_of_ble_eq_true rfl) (fun _ _ _ => rfl) (fun v hv => by omega) rfl ?_
  rcases hcd with h | h | h | h
  · exact .inl h
  · rw [h]
    exact .inr ⟨by decide, _, (by decide +kernel : hfind (eIAS 1) 7 hhL_rob = some 15), by decide +kernel⟩
  · rw [h]
    exact .inr ⟨by decide, _, (by decide +kernel : hfind (eIAS 2) 7 hhL_rob = some 19), by decide +kernel⟩
  · rw [h]
    exact .inr ⟨by decide, _, (by decide +kernel : hfind (eIAS 3) 7 hhL_rob = some 23), by decide +kernel⟩
theorem cd_xRoad (τ : St) (e : Int) : (xRoad τ e).1 = 0 ∨ (xRoad τ e).1 = 1 ∨ (xRoad τ e).1 = 2 := by
  unfold xRoad
  (repeat' split) <;> (dsimp only; omega)
abbrev mL_road : PM := (yL_road, cL_road, 4, (some .int))
def hhL_road : PHH := [(0, 9, 12, 13), (0, 9, 15, 17)]
def bL_road : PT := [(0, .aload_n 2, 1), (1, .iconst 0, 1), (2, .aload_n 0, 1), (3, .iload_n 1, 1), (4, .invokevirtual 36, 3), (7, .i2l, 1), (8, .lastore, 1), (9, .goto 9, 3), (12, .astore_n 3, 1), (13, .iconst 1, 1), (14, .ireturn, 1), (15, .astore_n 3, 1), (16, .iconst 2, 1), (17, .ireturn, 1), (18, .iconst 0, 1), (19, .ireturn, 1)]
theorem tL_road : ∀ q ∈ bL_road, decode mL_road.2.1 q.1 = .ok (q.2.1, q.2.2) := by decide +kernel
theorem kL_36 : vLink RL 36 mX5_road 1 := ⟨gT_at 560 (by decide +kernel) (by decide +kernel), wX5_road⟩
theorem wL_road (τ κ σ ρ : St) (out : Int → Int) {ro : PRO} (hro : ∀ q ∈ roC, q ∈ ro) {e : Int} (re : -2147483648 ≤ e ∧ e ≤ 2147483647) (hk0 : ∀ i, 0 ≤ κ.2.1 0 i ∧ κ.2.1 0 i ≤ 63) (hk1 : ∀ i, 0 ≤ κ.2.1 1 i ∧ κ.2.1 1 i ≤ 63) (hI : Iv τ) : Sw mL_road hhL_road ro 12 [vR 0, vI e, vR 120] (LW τ κ σ ρ out) (vI (xRoad τ e).1) (LW (xRoad τ e).2.2 (kRoad κ τ e) σ ρ (oP (xRoad τ e) out)) := by
  have hc := Sp.frame (mW σ ρ) [(120, .inl (1, .inr (.inl out)))] hro (pX5_road τ κ re hk0 hk1 hI)
  have hcd := cd_xRoad τ e
  generalize xRoad τ e = x at hc hcd ⊢
  generalize (kRoad κ τ e) = κ' at hc ⊢
  refine Wv (idx := 36) (n1 := 4) (pcV := 4) (pcE := 19) (as := [vI e]) (L := [some (vR 0), some (vI e), some (vR 120), none]) (tb := bL_road) (E := eIS) hc (by decide) rfl rfl tL_road (Nat.le_of_ble_eq_true rfl) (fun _ => rfl) rfl kL_36 rfl (by decide) (Nat.le_of_ble_eq_true rfl) (fun _ _ _ => rfl) (fun v hv => by omega) rfl ?_
  rcases hcd with h | h | h
  · exact .inl h
  · rw [h]
    exact .inr ⟨by decide, _, (by decide +kernel : hfind (eIS 1) 4 hhL_road = some 12), by decide +kernel⟩
  · rw [h]
    exact .inr ⟨by decide, _, (by decide +kernel : hfind (eIS 2) 4 hhL_road = some 15), by decide +kernel⟩
theorem cd_xHouse (τ : St) (c : Int) : (xHouse τ c).1 = 0 ∨ (xHouse τ c).1 = 1 ∨ (xHouse τ c).1 = 2 := by
  unfold xHouse
  (repeat' split) <;> (dsimp only; omega)
abbrev mL_house : PM := (yL_house, cL_house, 4, (some .int))
def hhL_house : PHH := [(0, 9, 12, 13), (0, 9, 15, 17)]
def bL_house : PT := [(0, .aload_n 2, 1), (1, .iconst 0, 1), (2, .aload_n 0, 1), (3, .iload_n 1, 1), (4, .invokevirtual 40, 3), (7, .i2l, 1), (8, .lastore, 1), (9, .goto 9, 3), (12, .astore_n 3, 1), (13, .iconst 1, 1), (14, .ireturn, 1), (15, .astore_n 3, 1), (16, .iconst 2, 1), (17, .ireturn, 1), (18, .iconst 0, 1), (19, .ireturn, 1)]
theorem tL_house : ∀ q ∈ bL_house, decode mL_house.2.1 q.1 = .ok (q.2.1, q.2.2) := by decide +kernel
theorem kL_40 : vLink RL 40 mX5_house 1 := ⟨gT_at 589 (by decide +kernel) (by decide +kernel), wX5_house⟩
theorem wL_house (τ κ σ ρ : St) (out : Int → Int) {ro : PRO} (hro : ∀ q ∈ roC, q ∈ ro) {c : Int} (rc : -2147483648 ≤ c ∧ c ≤ 2147483647) (hk0 : ∀ i, 0 ≤ κ.2.1 0 i ∧ κ.2.1 0 i ≤ 63) (hk1 : ∀ i, 0 ≤ κ.2.1 1 i ∧ κ.2.1 1 i ≤ 63) (hI : Iv τ) : Sw mL_house hhL_house ro 12 [vR 0, vI c, vR 120] (LW τ κ σ ρ out) (vI (xHouse τ c).1) (LW (xHouse τ c).2.2 (kHouse κ τ c) σ ρ (oP (xHouse τ c) out)) := by
  have hc := Sp.frame (mW σ ρ) [(120, .inl (1, .inr (.inl out)))] hro (pX5_house τ κ rc hk0 hk1 hI)
  have hcd := cd_xHouse τ c
  generalize xHouse τ c = x at hc hcd ⊢
  generalize (kHouse κ τ c) = κ' at hc ⊢
  refine Wv (idx := 40) (n1 := 4) (pcV := 4) (pcE := 19) (as := [vI c]) (L := [some (vR 0), some (vI c), some (vR 120), none]) (tb := bL_house) (E := eIS) hc (by decide) rfl rfl tL_house (Nat.le_of_ble_eq_true rfl) (fun _ => rfl) rfl kL_40 rfl (by decide) (Nat.le_of_ble_eq_true rfl) (fun _ _ _ => rfl) (fun v hv => by omega) rfl ?_
  rcases hcd with h | h | h
  · exact .inl h
  · rw [h]
    exact .inr ⟨by decide, _, (by decide +kernel : hfind (eIS 1) 4 hhL_house = some 12), by decide +kernel⟩
  · rw [h]
    exact .inr ⟨by decide, _, (by decide +kernel : hfind (eIS 2) 4 hhL_house = some 15), by decide +kernel⟩
theorem cd_xCity (τ : St) (c : Int) : (xCity τ c).1 = 0 ∨ (xCity τ c).1 = 1 ∨ (xCity τ c).1 = 2 := by
  unfold xCity
  (repeat' split) <;> (dsimp only; omega)
abbrev mL_city : PM := (yL_city, cL_city, 4, (some .int))
def hhL_city : PHH := [(0, 9, 12, 13), (0, 9, 15, 17)]
def bL_city : PT := [(0, .aload_n 2, 1), (1, .iconst 0, 1), (2, .aload_n 0, 1), (3, .iload_n 1, 1), (4, .invokevirtual 43, 3), (7, .i2l, 1), (8, .lastore, 1), (9, .goto 9, 3), (12, .astore_n 3, 1), (13, .iconst 1, 1), (14, .ireturn, 1), (15, .astore_n 3, 1), (16, .iconst 2, 1), (17, .ireturn, 1), (18, .iconst 0, 1), (19, .ireturn, 1)]
theorem tL_city : ∀ q ∈ bL_city, decode mL_city.2.1 q.1 = .ok (q.2.1, q.2.2) := by decide +kernel
theorem kL_43 : vLink RL 43 mX5_city 1 := ⟨gT_at 597 (by decide +kernel) (by decide +kernel), wX5_city⟩
theorem wL_city (τ κ σ ρ : St) (out : Int → Int) {ro : PRO} (hro : ∀ q ∈ roC, q ∈ ro) {c : Int} (rc : -2147483648 ≤ c ∧ c ≤ 2147483647) (hk0 : ∀ i, 0 ≤ κ.2.1 0 i ∧ κ.2.1 0 i ≤ 63) (hk1 : ∀ i, 0 ≤ κ.2.1 1 i ∧ κ.2.1 1 i ≤ 63) (hI : Iv τ) : Sw mL_city hhL_city ro 12 [vR 0, vI c, vR 120] (LW τ κ σ ρ out) (vI (xCity τ c).1) (LW (xCity τ c).2.2 (kCity κ τ c) σ ρ (oP (xCity τ c) out)) := by
  have hc := Sp.frame (mW σ ρ) [(120, .inl (1, .inr (.inl out)))] hro (pX5_city τ κ rc hk0 hk1 hI)
  have hcd := cd_xCity τ c
  generalize xCity τ c = x at hc hcd ⊢
  generalize (kCity κ τ c) = κ' at hc ⊢
  refine Wv (idx := 43) (n1 := 4) (pcV := 4) (pcE := 19) (as := [vI c]) (L := [some (vR 0), some (vI c), some (vR 120), none]) (tb := bL_city) (E := eIS) hc (by decide) rfl rfl tL_city (Nat.le_of_ble_eq_true rfl) (fun _ => rfl) rfl kL_43 rfl (by decide) (Nat.le_of_ble_eq_true rfl) (fun _ _ _ => rfl) (fun v hv => by omega) rfl ?_
  rcases hcd with h | h | h
  · exact .inl h
  · rw [h]
    exact .inr ⟨by decide, _, (by decide +kernel : hfind (eIS 1) 4 hhL_city = some 12), by decide +kernel⟩
  · rw [h]
    exact .inr ⟨by decide, _, (by decide +kernel : hfind (eIS 2) 4 hhL_city = some 15), by decide +kernel⟩
theorem cd_xBuy (τ : St) : (xBuy τ).1 = 0 ∨ (xBuy τ).1 = 1 := by
  unfold xBuy
  (repeat' split) <;> (dsimp only; omega)
abbrev mL_buy : PM := (yL_buy, cL_buy, 3, (some .int))
def hhL_buy : PHH := [(0, 8, 11, 17)]
def bL_buy : PT := [(0, .aload_n 1, 1), (1, .iconst 0, 1), (2, .aload_n 0, 1), (3, .invokevirtual 46, 3), (6, .i2l, 1), (7, .lastore, 1), (8, .goto 6, 3), (11, .astore_n 2, 1), (12, .iconst 1, 1), (13, .ireturn, 1), (14, .iconst 0, 1), (15, .ireturn, 1)]
theorem tL_buy : ∀ q ∈ bL_buy, decode mL_buy.2.1 q.1 = .ok (q.2.1, q.2.2) := by decide +kernel
theorem kL_46 : vLink RL 46 mX5_buy 0 := ⟨gT_at 605 (by decide +kernel) (by decide +kernel), wX5_buy⟩
theorem wL_buy (τ κ σ ρ : St) (out : Int → Int) {ro : PRO} (hro : ∀ q ∈ roC, q ∈ ro)  (hI : Iv τ) : Sw mL_buy hhL_buy ro 12 [vR 0, vR 120] (LW τ κ σ ρ out) (vI (xBuy τ).1) (LW (xBuy τ).2.2 (kBuy κ τ) σ ρ (oP (xBuy τ) out)) := by
  have hc := Sp.frame (mW σ ρ) [(120, .inl (1, .inr (.inl out)))] hro (pX5_buy τ κ hI)
  have hcd := cd_xBuy τ
  generalize xBuy τ = x at hc hcd ⊢
  generalize (kBuy κ τ) = κ' at hc ⊢
  refine Wv (idx := 46) (n1 := 3) (pcV := 3) (pcE := 15) (as := []) (L := [some (vR 0), some (vR 120), none]) (tb := bL_buy) (E := eS1) hc (by decide) rfl rfl tL_buy (Nat.le_of_ble_eq_true rfl) (fun _ => rfl) rfl kL_46 rfl (by decide) (Nat.le_of_ble_eq_true rfl) (fun _ _ _ => rfl) (fun v hv => by omega) rfl ?_
  rcases hcd with h | h
  · exact .inl h
  · rw [h]
    exact .inr ⟨by decide, _, (by decide +kernel : hfind (eS1 1) 3 hhL_buy = some 11), by decide +kernel⟩
theorem cd_xKnight (τ : St) (h v d : Int) : (xKnight τ h v d).1 = 0 ∨ (xKnight τ h v d).1 = 1 ∨ (xKnight τ h v d).1 = 2 ∨ (xKnight τ h v d).1 = 3 := by
  have h0 := arC_c h v d
  unfold xKnight
  (repeat' split) <;> (dsimp only; omega)
abbrev mL_knight : PM := (yL_knight, cL_knight, 6, (some .int))
def hhL_knight : PHH := [(0, 12, 15, 13), (0, 12, 19, 15), (0, 12, 23, 17)]
def bL_knight : PT := [(0, .aload 4, 2), (2, .iconst 0, 1), (3, .aload_n 0, 1), (4, .iload_n 1, 1), (5, .iload_n 2, 1), (6, .iload_n 3, 1), (7, .invokevirtual 50, 3), (10, .i2l, 1), (11, .lastore, 1), (12, .goto 15, 3), (15, .astore 5, 2), (17, .iconst 1, 1), (18, .ireturn, 1), (19, .astore 5, 2), (21, .iconst 2, 1), (22, .ireturn, 1), (23, .astore 5, 2), (25, .iconst 3, 1), (26, .ireturn, 1), (27, .iconst 0, 1), (28, .ireturn, 1)]
theorem tL_knight : ∀ q ∈ bL_knight, decode mL_knight.2.1 q.1 = .ok (q.2.1, q.2.2) := by decide +kernel
theorem kL_50 : vLink RL 50 mX5_knight 3 := ⟨gT_at 622 (by decide +kernel) (by decide +kernel), wX5_knight⟩
theorem wL_knight (τ κ σ ρ : St) (out : Int → Int) {ro : PRO} (hro : ∀ q ∈ roC, q ∈ ro) {h v d : Int} (rh : -2147483648 ≤ h ∧ h ≤ 2147483647) (rv : -2147483648 ≤ v ∧ v ≤ 2147483647) (rd : -2147483648 ≤ d ∧ d ≤ 2147483647) (hI : Iv τ) : Sw mL_knight hhL_knight ro 12 [vR 0, vI h, vI v, vI d, vR 120] (LW τ κ σ ρ out) (vI (xKnight τ h v d).1) (LW (xKnight τ h v d).2.2 (kKnight κ τ h v d) σ ρ (oP (xKnight τ h v d) out)) := by
  have hc := Sp.frame (mW σ ρ) [(120, .inl (1, .inr (.inl out)))] hro (pX5_knight τ κ rh rv rd hI)
  have hcd := cd_xKnight τ h v d
  generalize xKnight τ h v d = x at hc hcd ⊢
  generalize (kKnight κ τ h v d) = κ' at hc ⊢
  refine Wv (idx := 50) (n1 := 6) (pcV := 7) (pcE := 28) (as := [vI h, vI v, vI d]) (L := [some (vR 0), some (vI h), some (vI v), some (vI d), some (vR 120), none]) (tb := bL_knight) (E := eIAS) hc (by decide) rfl rfl tL_knight (Nat.le_of_ble_eq_true rfl) (fun _ => rfl) rfl kL_50 rfl (by decide) (Nat.le_of_ble_eq_true rfl) (fun _ _ _ => rfl) (fun v hv => by omega) rfl ?_
  rcases hcd with h | h | h | h
  · exact .inl h
  · rw [h]
    exact .inr ⟨by decide, _, (by decide +kernel : hfind (eIAS 1) 7 hhL_knight = some 15), by decide +kernel⟩
  · rw [h]
    exact .inr ⟨by decide, _, (by decide +kernel : hfind (eIAS 2) 7 hhL_knight = some 19), by decide +kernel⟩
  · rw [h]
    exact .inr ⟨by decide, _, (by decide +kernel : hfind (eIAS 3) 7 hhL_knight = some 23), by decide +kernel⟩
theorem cd_xRoads (τ : St) (a b : Int) : (xRoads τ a b).1 = 0 ∨ (xRoads τ a b).1 = 1 ∨ (xRoads τ a b).1 = 2 := by
  unfold xRoads
  (repeat' split) <;> (dsimp only; omega)
abbrev mL_roads : PM := (yL_roads, cL_roads, 5, (some .int))
def hhL_roads : PHH := [(0, 10, 13, 13), (0, 10, 17, 17)]
def bL_roads : PT := [(0, .aload_n 3, 1), (1, .iconst 0, 1), (2, .aload_n 0, 1), (3, .iload_n 1, 1), (4, .iload_n 2, 1), (5, .invokevirtual 53, 3), (8, .i2l, 1), (9, .lastore, 1), (10, .goto 11, 3), (13, .astore 4, 2), (15, .iconst 1, 1), (16, .ireturn, 1), (17, .astore 4, 2), (19, .iconst 2, 1), (20, .ireturn, 1), (21, .iconst 0, 1), (22, .ireturn, 1)]
theorem tL_roads : ∀ q ∈ bL_roads, decode mL_roads.2.1 q.1 = .ok (q.2.1, q.2.2) := by decide +kernel
theorem kL_53 : vLink RL 53 mX5_roads 2 := ⟨gT_at 650 (by decide +kernel) (by decide +kernel), wX5_roads⟩
theorem wL_roads (τ κ σ ρ : St) (out : Int → Int) {ro : PRO} (hro : ∀ q ∈ roC, q ∈ ro) {a b : Int} (ra : -2147483648 ≤ a ∧ a ≤ 2147483647) (rb : -2147483648 ≤ b ∧ b ≤ 2147483647) (hk0 : ∀ i, 0 ≤ κ.2.1 0 i ∧ κ.2.1 0 i ≤ 63) (hk1 : ∀ i, 0 ≤ κ.2.1 1 i ∧ κ.2.1 1 i ≤ 63) (hI : Iv τ) : Sw mL_roads hhL_roads ro 12 [vR 0, vI a, vI b, vR 120] (LW τ κ σ ρ out) (vI (xRoads τ a b).1) (LW (xRoads τ a b).2.2 (kRoads κ τ a b) σ ρ (oP (xRoads τ a b) out)) := by
  have hc := Sp.frame (mW σ ρ) [(120, .inl (1, .inr (.inl out)))] hro (pX5_roads τ κ ra rb hk0 hk1 hI)
  have hcd := cd_xRoads τ a b
  generalize xRoads τ a b = x at hc hcd ⊢
  generalize (kRoads κ τ a b) = κ' at hc ⊢
  refine Wv (idx := 53) (n1 := 5) (pcV := 5) (pcE := 22) (as := [vI a, vI b]) (L := [some (vR 0), some (vI a), some (vI b), some (vR 120), none]) (tb := bL_roads) (E := eIS) hc (by decide) rfl rfl tL_roads (Nat.le_of_ble_eq_true rfl) (fun _ => rfl) rfl kL_53 rfl (by decide) (Nat.le_of_ble_eq_true rfl) (fun _ _ _ => rfl) (fun v hv => by omega) rfl ?_
  rcases hcd with h | h | h
  · exact .inl h
  · rw [h]
    exact .inr ⟨by decide, _, (by decide +kernel : hfind (eIS 1) 5 hhL_roads = some 13), by decide +kernel⟩
  · rw [h]
    exact .inr ⟨by decide, _, (by decide +kernel : hfind (eIS 2) 5 hhL_roads = some 17), by decide +kernel⟩
theorem cd_xPlenty (τ : St) (a b : Int) : (xPlenty τ a b).1 = 0 ∨ (xPlenty τ a b).1 = 1 ∨ (xPlenty τ a b).1 = 2 := by
  unfold xPlenty
  (repeat' split) <;> (dsimp only; omega)
abbrev mL_plenty : PM := (yL_plenty, cL_plenty, 5, (some .int))
def hhL_plenty : PHH := [(0, 10, 13, 15), (0, 10, 17, 17)]
def bL_plenty : PT := [(0, .aload_n 3, 1), (1, .iconst 0, 1), (2, .aload_n 0, 1), (3, .iload_n 1, 1), (4, .iload_n 2, 1), (5, .invokevirtual 56, 3), (8, .i2l, 1), (9, .lastore, 1), (10, .goto 11, 3), (13, .astore 4, 2), (15, .iconst 1, 1), (16, .ireturn, 1), (17, .astore 4, 2), (19, .iconst 2, 1), (20, .ireturn, 1), (21, .iconst 0, 1), (22, .ireturn, 1)]
theorem tL_plenty : ∀ q ∈ bL_plenty, decode mL_plenty.2.1 q.1 = .ok (q.2.1, q.2.2) := by decide +kernel
theorem kL_56 : vLink RL 56 mX5_plenty 2 := ⟨gT_at 658 (by decide +kernel) (by decide +kernel), wX5_plenty⟩
theorem wL_plenty (τ κ σ ρ : St) (out : Int → Int) {ro : PRO} (hro : ∀ q ∈ roC, q ∈ ro) {a b : Int} (ra : -2147483648 ≤ a ∧ a ≤ 2147483647) (rb : -2147483648 ≤ b ∧ b ≤ 2147483647) (hI : Iv τ) : Sw mL_plenty hhL_plenty ro 12 [vR 0, vI a, vI b, vR 120] (LW τ κ σ ρ out) (vI (xPlenty τ a b).1) (LW (xPlenty τ a b).2.2 (kPlenty κ τ a b) σ ρ (oP (xPlenty τ a b) out)) := by
  have hc := Sp.frame (mW σ ρ) [(120, .inl (1, .inr (.inl out)))] hro (pX5_plenty τ κ ra rb hI)
  have hcd := cd_xPlenty τ a b
  generalize xPlenty τ a b = x at hc hcd ⊢
  generalize (kPlenty κ τ a b) = κ' at hc ⊢
  refine Wv (idx := 56) (n1 := 5) (pcV := 5) (pcE := 22) (as := [vI a, vI b]) (L := [some (vR 0), some (vI a), some (vI b), some (vR 120), none]) (tb := bL_plenty) (E := eAS) hc (by decide) rfl rfl tL_plenty (Nat.le_of_ble_eq_true rfl) (fun _ => rfl) rfl kL_56 rfl (by decide) (Nat.le_of_ble_eq_true rfl) (fun _ _ _ => rfl) (fun v hv => by omega) rfl ?_
  rcases hcd with h | h | h
  · exact .inl h
  · rw [h]
    exact .inr ⟨by decide, _, (by decide +kernel : hfind (eAS 1) 5 hhL_plenty = some 13), by decide +kernel⟩
  · rw [h]
    exact .inr ⟨by decide, _, (by decide +kernel : hfind (eAS 2) 5 hhL_plenty = some 17), by decide +kernel⟩
theorem cd_xMono (τ : St) (g : Int) : (xMono τ g).1 = 0 ∨ (xMono τ g).1 = 1 ∨ (xMono τ g).1 = 2 := by
  unfold xMono
  (repeat' split) <;> (dsimp only; omega)
abbrev mL_monopoly : PM := (yL_monopoly, cL_monopoly, 4, (some .int))
def hhL_monopoly : PHH := [(0, 9, 12, 15), (0, 9, 15, 17)]
def bL_monopoly : PT := [(0, .aload_n 2, 1), (1, .iconst 0, 1), (2, .aload_n 0, 1), (3, .iload_n 1, 1), (4, .invokevirtual 59, 3), (7, .i2l, 1), (8, .lastore, 1), (9, .goto 9, 3), (12, .astore_n 3, 1), (13, .iconst 1, 1), (14, .ireturn, 1), (15, .astore_n 3, 1), (16, .iconst 2, 1), (17, .ireturn, 1), (18, .iconst 0, 1), (19, .ireturn, 1)]
theorem tL_monopoly : ∀ q ∈ bL_monopoly, decode mL_monopoly.2.1 q.1 = .ok (q.2.1, q.2.2) := by decide +kernel
theorem kL_59 : vLink RL 59 mX5_monopoly 1 := ⟨gT_at 672 (by decide +kernel) (by decide +kernel), wX5_monopoly⟩
theorem wL_monopoly (τ κ σ ρ : St) (out : Int → Int) {ro : PRO} (hro : ∀ q ∈ roC, q ∈ ro) {g : Int} (rg : -2147483648 ≤ g ∧ g ≤ 2147483647) (hI : Iv τ) : Sw mL_monopoly hhL_monopoly ro 12 [vR 0, vI g, vR 120] (LW τ κ σ ρ out) (vI (xMono τ g).1) (LW (xMono τ g).2.2 (kMono κ τ g) σ ρ (oP (xMono τ g) out)) := by
  have hc := Sp.frame (mW σ ρ) [(120, .inl (1, .inr (.inl out)))] hro (pX5_monopoly τ κ rg hI)
  have hcd := cd_xMono τ g
  generalize xMono τ g = x at hc hcd ⊢
  generalize (kMono κ τ g) = κ' at hc ⊢
  refine Wv (idx := 59) (n1 := 4) (pcV := 4) (pcE := 19) (as := [vI g]) (L := [some (vR 0), some (vI g), some (vR 120), none]) (tb := bL_monopoly) (E := eAS) hc (by decide) rfl rfl tL_monopoly (Nat.le_of_ble_eq_true rfl) (fun _ => rfl) rfl kL_59 rfl (by decide) (Nat.le_of_ble_eq_true rfl) (fun _ _ _ => rfl) (fun v hv => by omega) rfl ?_
  rcases hcd with h | h | h
  · exact .inl h
  · rw [h]
    exact .inr ⟨by decide, _, (by decide +kernel : hfind (eAS 1) 4 hhL_monopoly = some 12), by decide +kernel⟩
  · rw [h]
    exact .inr ⟨by decide, _, (by decide +kernel : hfind (eAS 2) 4 hhL_monopoly = some 15), by decide +kernel⟩
theorem cd_xSwap (τ : St) (a b : Int) : (xSwap τ a b).1 = 0 ∨ (xSwap τ a b).1 = 1 ∨ (xSwap τ a b).1 = 2 := by
  unfold xSwap
  (repeat' split) <;> (dsimp only; omega)
abbrev mL_swap : PM := (yL_swap, cL_swap, 5, (some .int))
def hhL_swap : PHH := [(0, 10, 13, 15), (0, 10, 17, 17)]
def bL_swap : PT := [(0, .aload_n 3, 1), (1, .iconst 0, 1), (2, .aload_n 0, 1), (3, .iload_n 1, 1), (4, .iload_n 2, 1), (5, .invokevirtual 62, 3), (8, .i2l, 1), (9, .lastore, 1), (10, .goto 11, 3), (13, .astore 4, 2), (15, .iconst 1, 1), (16, .ireturn, 1), (17, .astore 4, 2), (19, .iconst 2, 1), (20, .ireturn, 1), (21, .iconst 0, 1), (22, .ireturn, 1)]
theorem tL_swap : ∀ q ∈ bL_swap, decode mL_swap.2.1 q.1 = .ok (q.2.1, q.2.2) := by decide +kernel
theorem kL_62 : vLink RL 62 mX5_swap 2 := ⟨gT_at 679 (by decide +kernel) (by decide +kernel), wX5_swap⟩
theorem wL_swap (τ κ σ ρ : St) (out : Int → Int) {ro : PRO} (hro : ∀ q ∈ roC, q ∈ ro) {a b : Int} (ra : -2147483648 ≤ a ∧ a ≤ 2147483647) (rb : -2147483648 ≤ b ∧ b ≤ 2147483647) (hI : Iv τ) : Sw mL_swap hhL_swap ro 12 [vR 0, vI a, vI b, vR 120] (LW τ κ σ ρ out) (vI (xSwap τ a b).1) (LW (xSwap τ a b).2.2 (kSwap κ τ a b) σ ρ (oP (xSwap τ a b) out)) := by
  have hc := Sp.frame (mW σ ρ) [(120, .inl (1, .inr (.inl out)))] hro (pX5_swap τ κ ra rb hI)
  have hcd := cd_xSwap τ a b
  generalize xSwap τ a b = x at hc hcd ⊢
  generalize (kSwap κ τ a b) = κ' at hc ⊢
  refine Wv (idx := 62) (n1 := 5) (pcV := 5) (pcE := 22) (as := [vI a, vI b]) (L := [some (vR 0), some (vI a), some (vI b), some (vR 120), none]) (tb := bL_swap) (E := eAS) hc (by decide) rfl rfl tL_swap (Nat.le_of_ble_eq_true rfl) (fun _ => rfl) rfl kL_62 rfl (by decide) (Nat.le_of_ble_eq_true rfl) (fun _ _ _ => rfl) (fun v hv => by omega) rfl ?_
  rcases hcd with h | h | h
  · exact .inl h
  · rw [h]
    exact .inr ⟨by decide, _, (by decide +kernel : hfind (eAS 1) 5 hhL_swap = some 13), by decide +kernel⟩
  · rw [h]
    exact .inr ⟨by decide, _, (by decide +kernel : hfind (eAS 2) 5 hhL_swap = some 17), by decide +kernel⟩
theorem cd_xOffer (τ : St) (a b : Int) : (xOffer τ a b).1 = 0 ∨ (xOffer τ a b).1 = 1 ∨ (xOffer τ a b).1 = 2 := by
  unfold xOffer
  (repeat' split) <;> (dsimp only; omega)
abbrev mL_offer : PM := (yL_offer, cL_offer, 4, (some .int))
def hhL_offer : PHH := [(0, 6, 9, 15), (0, 6, 12, 17)]
def bL_offer : PT := [(0, .aload_n 0, 1), (1, .iload_n 1, 1), (2, .iload_n 2, 1), (3, .invokevirtual 65, 3), (6, .goto 9, 3), (9, .astore_n 3, 1), (10, .iconst 1, 1), (11, .ireturn, 1), (12, .astore_n 3, 1), (13, .iconst 2, 1), (14, .ireturn, 1), (15, .iconst 0, 1), (16, .ireturn, 1)]
theorem tL_offer : ∀ q ∈ bL_offer, decode mL_offer.2.1 q.1 = .ok (q.2.1, q.2.2) := by decide +kernel
theorem kL_65 : vLink RL 65 mX5_offer 2 := ⟨gT_at 698 (by decide +kernel) (by decide +kernel), wX5_offer⟩
theorem wL_offer (τ κ σ ρ : St) (out : Int → Int) {ro : PRO} (hro : ∀ q ∈ roC, q ∈ ro) {a b : Int} (ra : -2147483648 ≤ a ∧ a ≤ 2147483647) (rb : -2147483648 ≤ b ∧ b ≤ 2147483647) (hI : Iv τ) : Sw mL_offer hhL_offer ro 12 [vR 0, vI a, vI b] (LW τ κ σ ρ out) (vI (xOffer τ a b).1) (LW (xOffer τ a b).2.2 κ σ ρ out) := by
  have hc := Sp.frame (mW σ ρ) [(120, .inl (1, .inr (.inl out)))] hro (pX5_offer τ κ ra rb hI)
  have hcd := cd_xOffer τ a b
  generalize xOffer τ a b = x at hc hcd ⊢
  refine Wd (idx := 65) (n1 := 3) (pcV := 3) (pcE := 16) (as := [vI a, vI b]) (L := [some (vR 0), some (vI a), some (vI b), none]) (tb := bL_offer) (E := eAS) hc (by decide) rfl rfl tL_offer (Nat.le_of_ble_eq_true rfl) (fun _ => rfl) rfl kL_65 rfl (by decide) (Nat.le_of_ble_eq_true rfl) (fun _ => rfl) rfl ?_
  rcases hcd with h | h | h
  · exact .inl h
  · rw [h]
    exact .inr ⟨by decide, _, (by decide +kernel : hfind (eAS 1) 3 hhL_offer = some 9), by decide +kernel⟩
  · rw [h]
    exact .inr ⟨by decide, _, (by decide +kernel : hfind (eAS 2) 3 hhL_offer = some 12), by decide +kernel⟩
theorem cd_xCounter (τ : St) (p a b : Int) : (xCounter τ p a b).1 = 0 ∨ (xCounter τ p a b).1 = 1 ∨ (xCounter τ p a b).1 = 2 ∨ (xCounter τ p a b).1 = 3 := by
  unfold xCounter
  (repeat' split) <;> (dsimp only; omega)
abbrev mL_counter : PM := (yL_counter, cL_counter, 5, (some .int))
def hhL_counter : PHH := [(0, 7, 10, 13), (0, 7, 14, 15), (0, 7, 18, 17)]
def bL_counter : PT := [(0, .aload_n 0, 1), (1, .iload_n 1, 1), (2, .iload_n 2, 1), (3, .iload_n 3, 1), (4, .invokevirtual 69, 3), (7, .goto 15, 3), (10, .astore 4, 2), (12, .iconst 1, 1), (13, .ireturn, 1), (14, .astore 4, 2), (16, .iconst 2, 1), (17, .ireturn, 1), (18, .astore 4, 2), (20, .iconst 3, 1), (21, .ireturn, 1), (22, .iconst 0, 1), (23, .ireturn, 1)]
theorem tL_counter : ∀ q ∈ bL_counter, decode mL_counter.2.1 q.1 = .ok (q.2.1, q.2.2) := by decide +kernel
theorem kL_69 : vLink RL 69 mX5_counter 3 := ⟨gT_at 717 (by decide +kernel) (by decide +kernel), wX5_counter⟩
theorem wL_counter (τ κ σ ρ : St) (out : Int → Int) {ro : PRO} (hro : ∀ q ∈ roC, q ∈ ro) {p a b : Int} (rp : -2147483648 ≤ p ∧ p ≤ 2147483647) (ra : -2147483648 ≤ a ∧ a ≤ 2147483647) (rb : -2147483648 ≤ b ∧ b ≤ 2147483647) (hI : Iv τ) : Sw mL_counter hhL_counter ro 12 [vR 0, vI p, vI a, vI b] (LW τ κ σ ρ out) (vI (xCounter τ p a b).1) (LW (xCounter τ p a b).2.2 κ σ ρ out) := by
  have hc := Sp.frame (mW σ ρ) [(120, .inl (1, .inr (.inl out)))] hro (pX5_counter τ κ rp ra rb hI)
  have hcd := cd_xCounter τ p a b
  generalize xCounter τ p a b = x at hc hcd ⊢
  refine Wd (idx := 69) (n1 := 4) (pcV := 4) (pcE := 23) (as := [vI p, vI a, vI b]) (L := [some (vR 0), some (vI p), some (vI a), some (vI b), none]) (tb := bL_counter) (E := eIAS) hc (by decide) rfl rfl tL_counter (Nat.le_of_ble_eq_true rfl) (fun _ => rfl) rfl kL_69 rfl (by decide) (Nat.le_of_ble_eq_true rfl) (fun _ => rfl) rfl ?_
  rcases hcd with h | h | h | h
  · exact .inl h
  · rw [h]
    exact .inr ⟨by decide, _, (by decide +kernel : hfind (eIAS 1) 4 hhL_counter = some 10), by decide +kernel⟩
  · rw [h]
    exact .inr ⟨by decide, _, (by decide +kernel : hfind (eIAS 2) 4 hhL_counter = some 14), by decide +kernel⟩
  · rw [h]
    exact .inr ⟨by decide, _, (by decide +kernel : hfind (eIAS 3) 4 hhL_counter = some 18), by decide +kernel⟩
theorem cd_xAccept (τ : St) (p : Int) : (xAccept τ p).1 = 0 ∨ (xAccept τ p).1 = 1 ∨ (xAccept τ p).1 = 2 := by
  unfold xAccept
  (repeat' split) <;> (dsimp only; omega)
abbrev mL_accept : PM := (yL_accept, cL_accept, 4, (some .int))
def hhL_accept : PHH := [(0, 9, 12, 13), (0, 9, 15, 17)]
def bL_accept : PT := [(0, .aload_n 2, 1), (1, .iconst 0, 1), (2, .aload_n 0, 1), (3, .iload_n 1, 1), (4, .invokevirtual 72, 3), (7, .i2l, 1), (8, .lastore, 1), (9, .goto 9, 3), (12, .astore_n 3, 1), (13, .iconst 1, 1), (14, .ireturn, 1), (15, .astore_n 3, 1), (16, .iconst 2, 1), (17, .ireturn, 1), (18, .iconst 0, 1), (19, .ireturn, 1)]
theorem tL_accept : ∀ q ∈ bL_accept, decode mL_accept.2.1 q.1 = .ok (q.2.1, q.2.2) := by decide +kernel
theorem kL_72 : vLink RL 72 mX5_accept 1 := ⟨gT_at 729 (by decide +kernel) (by decide +kernel), wX5_accept⟩
theorem wL_accept (τ κ σ ρ : St) (out : Int → Int) {ro : PRO} (hro : ∀ q ∈ roC, q ∈ ro) {p : Int} (rp : -2147483648 ≤ p ∧ p ≤ 2147483647) (hI : Iv τ) : Sw mL_accept hhL_accept ro 12 [vR 0, vI p, vR 120] (LW τ κ σ ρ out) (vI (xAccept τ p).1) (LW (xAccept τ p).2.2 (kAccept κ τ p) σ ρ (oP (xAccept τ p) out)) := by
  have hc := Sp.frame (mW σ ρ) [(120, .inl (1, .inr (.inl out)))] hro (pX5_accept τ κ rp hI)
  have hcd := cd_xAccept τ p
  generalize xAccept τ p = x at hc hcd ⊢
  generalize (kAccept κ τ p) = κ' at hc ⊢
  refine Wv (idx := 72) (n1 := 4) (pcV := 4) (pcE := 19) (as := [vI p]) (L := [some (vR 0), some (vI p), some (vR 120), none]) (tb := bL_accept) (E := eIS) hc (by decide) rfl rfl tL_accept (Nat.le_of_ble_eq_true rfl) (fun _ => rfl) rfl kL_72 rfl (by decide) (Nat.le_of_ble_eq_true rfl) (fun _ _ _ => rfl) (fun v hv => by omega) rfl ?_
  rcases hcd with h | h | h
  · exact .inl h
  · rw [h]
    exact .inr ⟨by decide, _, (by decide +kernel : hfind (eIS 1) 4 hhL_accept = some 12), by decide +kernel⟩
  · rw [h]
    exact .inr ⟨by decide, _, (by decide +kernel : hfind (eIS 2) 4 hhL_accept = some 15), by decide +kernel⟩
theorem cd_xAgree (τ : St) (p : Int) : (xAgree τ p).1 = 0 ∨ (xAgree τ p).1 = 1 ∨ (xAgree τ p).1 = 2 := by
  unfold xAgree
  (repeat' split) <;> (dsimp only; omega)
abbrev mL_agree : PM := (yL_agree, cL_agree, 4, (some .int))
def hhL_agree : PHH := [(0, 9, 12, 13), (0, 9, 15, 17)]
def bL_agree : PT := [(0, .aload_n 2, 1), (1, .iconst 0, 1), (2, .aload_n 0, 1), (3, .iload_n 1, 1), (4, .invokevirtual 75, 3), (7, .i2l, 1), (8, .lastore, 1), (9, .goto 9, 3), (12, .astore_n 3, 1), (13, .iconst 1, 1), (14, .ireturn, 1), (15, .astore_n 3, 1), (16, .iconst 2, 1), (17, .ireturn, 1), (18, .iconst 0, 1), (19, .ireturn, 1)]
theorem tL_agree : ∀ q ∈ bL_agree, decode mL_agree.2.1 q.1 = .ok (q.2.1, q.2.2) := by decide +kernel
theorem kL_75 : vLink RL 75 mX5_agree 1 := ⟨gT_at 753 (by decide +kernel) (by decide +kernel), wX5_agree⟩
theorem wL_agree (τ κ σ ρ : St) (out : Int → Int) {ro : PRO} (hro : ∀ q ∈ roC, q ∈ ro) {p : Int} (rp : -2147483648 ≤ p ∧ p ≤ 2147483647) (hI : Iv τ) : Sw mL_agree hhL_agree ro 12 [vR 0, vI p, vR 120] (LW τ κ σ ρ out) (vI (xAgree τ p).1) (LW (xAgree τ p).2.2 (kAgree κ τ p) σ ρ (oP (xAgree τ p) out)) := by
  have hc := Sp.frame (mW σ ρ) [(120, .inl (1, .inr (.inl out)))] hro (pX5_agree τ κ rp hI)
  have hcd := cd_xAgree τ p
  generalize xAgree τ p = x at hc hcd ⊢
  generalize (kAgree κ τ p) = κ' at hc ⊢
  refine Wv (idx := 75) (n1 := 4) (pcV := 4) (pcE := 19) (as := [vI p]) (L := [some (vR 0), some (vI p), some (vR 120), none]) (tb := bL_agree) (E := eIS) hc (by decide) rfl rfl tL_agree (Nat.le_of_ble_eq_true rfl) (fun _ => rfl) rfl kL_75 rfl (by decide) (Nat.le_of_ble_eq_true rfl) (fun _ _ _ => rfl) (fun v hv => by omega) rfl ?_
  rcases hcd with h | h | h
  · exact .inl h
  · rw [h]
    exact .inr ⟨by decide, _, (by decide +kernel : hfind (eIS 1) 4 hhL_agree = some 12), by decide +kernel⟩
  · rw [h]
    exact .inr ⟨by decide, _, (by decide +kernel : hfind (eIS 2) 4 hhL_agree = some 15), by decide +kernel⟩
theorem cd_xEnd (τ : St) : (xEnd τ).1 = 0 ∨ (xEnd τ).1 = 1 := by
  unfold xEnd
  (repeat' split) <;> (dsimp only; omega)
abbrev mL_endTurn : PM := (yL_endTurn, cL_endTurn, 3, (some .int))
def hhL_endTurn : PHH := [(0, 8, 11, 17)]
def bL_endTurn : PT := [(0, .aload_n 1, 1), (1, .iconst 0, 1), (2, .aload_n 0, 1), (3, .invokevirtual 78, 3), (6, .i2l, 1), (7, .lastore, 1), (8, .goto 6, 3), (11, .astore_n 2, 1), (12, .iconst 1, 1), (13, .ireturn, 1), (14, .iconst 0, 1), (15, .ireturn, 1)]
theorem tL_endTurn : ∀ q ∈ bL_endTurn, decode mL_endTurn.2.1 q.1 = .ok (q.2.1, q.2.2) := by decide +kernel
theorem kL_78 : vLink RL 78 mX5_endTurn 0 := ⟨gT_at 773 (by decide +kernel) (by decide +kernel), wX5_endTurn⟩
theorem wL_endTurn (τ κ σ ρ : St) (out : Int → Int) {ro : PRO} (hro : ∀ q ∈ roC, q ∈ ro)  (hI : Iv τ) : Sw mL_endTurn hhL_endTurn ro 12 [vR 0, vR 120] (LW τ κ σ ρ out) (vI (xEnd τ).1) (LW (xEnd τ).2.2 κ σ ρ (oP (xEnd τ) out)) := by
  have hc := Sp.frame (mW σ ρ) [(120, .inl (1, .inr (.inl out)))] hro (pX5_endTurn τ κ hI)
  have hcd := cd_xEnd τ
  generalize xEnd τ = x at hc hcd ⊢
  refine Wv (idx := 78) (n1 := 3) (pcV := 3) (pcE := 15) (as := []) (L := [some (vR 0), some (vR 120), none]) (tb := bL_endTurn) (E := eS1) hc (by decide) rfl rfl tL_endTurn (Nat.le_of_ble_eq_true rfl) (fun _ => rfl) rfl kL_78 rfl (by decide) (Nat.le_of_ble_eq_true rfl) (fun _ _ _ => rfl) (fun v hv => by omega) rfl ?_
  rcases hcd with h | h
  · exact .inl h
  · rw [h]
    exact .inr ⟨by decide, _, (by decide +kernel : hfind (eS1 1) 3 hhL_endTurn = some 11), by decide +kernel⟩
theorem cd_xHand (τ : St) (p g : Int) : (xHand τ p g).1 = 0 ∨ (xHand τ p g).1 = 1 ∨ (xHand τ p g).1 = 2 := by
  unfold xHand
  (repeat' split) <;> (dsimp only; omega)
abbrev mL_hand : PM := (yL_hand, cL_hand, 5, (some .int))
def hhL_hand : PHH := [(0, 10, 13, 13), (0, 10, 17, 15)]
def bL_hand : PT := [(0, .aload_n 3, 1), (1, .iconst 0, 1), (2, .aload_n 0, 1), (3, .iload_n 1, 1), (4, .iload_n 2, 1), (5, .invokevirtual 81, 3), (8, .i2l, 1), (9, .lastore, 1), (10, .goto 11, 3), (13, .astore 4, 2), (15, .iconst 1, 1), (16, .ireturn, 1), (17, .astore 4, 2), (19, .iconst 2, 1), (20, .ireturn, 1), (21, .iconst 0, 1), (22, .ireturn, 1)]
theorem tL_hand : ∀ q ∈ bL_hand, decode mL_hand.2.1 q.1 = .ok (q.2.1, q.2.2) := by decide +kernel
theorem kL_81 : vLink RL 81 mX5_hand 2 := ⟨gT_at 784 (by decide +kernel) (by decide +kernel), wX5_hand⟩
theorem wL_hand (τ κ σ ρ : St) (out : Int → Int) {ro : PRO} (hro : ∀ q ∈ roC, q ∈ ro) {p g : Int} (rp : -2147483648 ≤ p ∧ p ≤ 2147483647) (rg : -2147483648 ≤ g ∧ g ≤ 2147483647) (hI : Iv τ) : Sw mL_hand hhL_hand ro 12 [vR 0, vI p, vI g, vR 120] (LW τ κ σ ρ out) (vI (xHand τ p g).1) (LW (xHand τ p g).2.2 κ σ ρ (oP (xHand τ p g) out)) := by
  have hc := Sp.frame (mW σ ρ) [(120, .inl (1, .inr (.inl out)))] hro (pX5_hand τ κ rp rg hI)
  have hcd := cd_xHand τ p g
  generalize xHand τ p g = x at hc hcd ⊢
  refine Wv (idx := 81) (n1 := 5) (pcV := 5) (pcE := 22) (as := [vI p, vI g]) (L := [some (vR 0), some (vI p), some (vI g), some (vR 120), none]) (tb := bL_hand) (E := eIAS) hc (by decide) rfl rfl tL_hand (Nat.le_of_ble_eq_true rfl) (fun _ => rfl) rfl kL_81 rfl (by decide) (Nat.le_of_ble_eq_true rfl) (fun _ _ _ => rfl) (fun v hv => by omega) rfl ?_
  rcases hcd with h | h | h
  · exact .inl h
  · rw [h]
    exact .inr ⟨by decide, _, (by decide +kernel : hfind (eIAS 1) 5 hhL_hand = some 13), by decide +kernel⟩
  · rw [h]
    exact .inr ⟨by decide, _, (by decide +kernel : hfind (eIAS 2) 5 hhL_hand = some 17), by decide +kernel⟩
theorem cd_xHandK (κ τ : St) (p g : Int) : (xHandK κ τ p g).1 = 0 ∨ (xHandK κ τ p g).1 = 1 ∨ (xHandK κ τ p g).1 = 2 := by
  unfold xHandK
  (repeat' split) <;> (dsimp only; omega)
abbrev mL_handByMoves : PM := (yL_handByMoves, cL_handByMoves, 5, (some .int))
def hhL_handByMoves : PHH := [(0, 10, 13, 13), (0, 10, 17, 15)]
def bL_handByMoves : PT := [(0, .aload_n 3, 1), (1, .iconst 0, 1), (2, .aload_n 0, 1), (3, .iload_n 1, 1), (4, .iload_n 2, 1), (5, .invokevirtual 84, 3), (8, .i2l, 1), (9, .lastore, 1), (10, .goto 11, 3), (13, .astore 4, 2), (15, .iconst 1, 1), (16, .ireturn, 1), (17, .astore 4, 2), (19, .iconst 2, 1), (20, .ireturn, 1), (21, .iconst 0, 1), (22, .ireturn, 1)]
theorem tL_handByMoves : ∀ q ∈ bL_handByMoves, decode mL_handByMoves.2.1 q.1 = .ok (q.2.1, q.2.2) := by decide +kernel
theorem kL_84 : vLink RL 84 mX5_handByMoves 2 := ⟨gT_at 794 (by decide +kernel) (by decide +kernel), wX5_handByMoves⟩
theorem wL_handByMoves (τ κ σ ρ : St) (out : Int → Int) {ro : PRO} (hro : ∀ q ∈ roC, q ∈ ro) {p g : Int} (rp : -2147483648 ≤ p ∧ p ≤ 2147483647) (rg : -2147483648 ≤ g ∧ g ≤ 2147483647) (hI : Iv τ) : Sw mL_handByMoves hhL_handByMoves ro 12 [vR 0, vI p, vI g, vR 120] (LW τ κ σ ρ out) (vI (xHandK κ τ p g).1) (LW (xHandK κ τ p g).2.2 κ σ ρ (oP (xHandK κ τ p g) out)) := by
  have hc := Sp.frame (mW σ ρ) [(120, .inl (1, .inr (.inl out)))] hro (pX5_handByMoves τ κ rp rg hI)
  have hcd := cd_xHandK κ τ p g
  generalize xHandK κ τ p g = x at hc hcd ⊢
  refine Wv (idx := 84) (n1 := 5) (pcV := 5) (pcE := 22) (as := [vI p, vI g]) (L := [some (vR 0), some (vI p), some (vI g), some (vR 120), none]) (tb := bL_handByMoves) (E := eIAS) hc (by decide) rfl rfl tL_handByMoves (Nat.le_of_ble_eq_true rfl) (fun _ => rfl) rfl kL_84 rfl (by decide) (Nat.le_of_ble_eq_true rfl) (fun _ _ _ => rfl) (fun v hv => by omega) rfl ?_
  rcases hcd with h | h | h
  · exact .inl h
  · rw [h]
    exact .inr ⟨by decide, _, (by decide +kernel : hfind (eIAS 1) 5 hhL_handByMoves = some 13), by decide +kernel⟩
  · rw [h]
    exact .inr ⟨by decide, _, (by decide +kernel : hfind (eIAS 2) 5 hhL_handByMoves = some 17), by decide +kernel⟩
theorem cd_xDue (τ : St) (p : Int) : (xDue τ p).1 = 0 ∨ (xDue τ p).1 = 1 := by
  unfold xDue
  (repeat' split) <;> (dsimp only; omega)
abbrev mL_due : PM := (yL_due, cL_due, 4, (some .int))
def hhL_due : PHH := [(0, 9, 12, 13)]
def bL_due : PT := [(0, .aload_n 2, 1), (1, .iconst 0, 1), (2, .aload_n 0, 1), (3, .iload_n 1, 1), (4, .invokevirtual 87, 3), (7, .i2l, 1), (8, .lastore, 1), (9, .goto 6, 3), (12, .astore_n 3, 1), (13, .iconst 1, 1), (14, .ireturn, 1), (15, .iconst 0, 1), (16, .ireturn, 1)]
theorem tL_due : ∀ q ∈ bL_due, decode mL_due.2.1 q.1 = .ok (q.2.1, q.2.2) := by decide +kernel
theorem kL_87 : vLink RL 87 mX5_due 1 := ⟨gT_at 805 (by decide +kernel) (by decide +kernel), wX5_due⟩
theorem wL_due (τ κ σ ρ : St) (out : Int → Int) {ro : PRO} (hro : ∀ q ∈ roC, q ∈ ro) {p : Int} (rp : -2147483648 ≤ p ∧ p ≤ 2147483647) (hI : Iv τ) : Sw mL_due hhL_due ro 12 [vR 0, vI p, vR 120] (LW τ κ σ ρ out) (vI (xDue τ p).1) (LW (xDue τ p).2.2 κ σ ρ (oP (xDue τ p) out)) := by
  have hc := Sp.frame (mW σ ρ) [(120, .inl (1, .inr (.inl out)))] hro (pX5_due τ κ rp hI)
  have hcd := cd_xDue τ p
  generalize xDue τ p = x at hc hcd ⊢
  refine Wv (idx := 87) (n1 := 4) (pcV := 4) (pcE := 16) (as := [vI p]) (L := [some (vR 0), some (vI p), some (vR 120), none]) (tb := bL_due) (E := eIAS) hc (by decide) rfl rfl tL_due (Nat.le_of_ble_eq_true rfl) (fun _ => rfl) rfl kL_87 rfl (by decide) (Nat.le_of_ble_eq_true rfl) (fun _ _ _ => rfl) (fun v hv => by omega) rfl ?_
  rcases hcd with h | h
  · exact .inl h
  · rw [h]
    exact .inr ⟨by decide, _, (by decide +kernel : hfind (eIAS 1) 4 hhL_due = some 12), by decide +kernel⟩
theorem cd_xPoints (τ : St) (p : Int) : (xPoints τ p).1 = 0 ∨ (xPoints τ p).1 = 1 := by
  unfold xPoints
  (repeat' split) <;> (dsimp only; omega)
abbrev mL_points : PM := (yL_points, cL_points, 4, (some .int))
def hhL_points : PHH := [(0, 9, 12, 13)]
def bL_points : PT := [(0, .aload_n 2, 1), (1, .iconst 0, 1), (2, .aload_n 0, 1), (3, .iload_n 1, 1), (4, .invokevirtual 90, 3), (7, .i2l, 1), (8, .lastore, 1), (9, .goto 6, 3), (12, .astore_n 3, 1), (13, .iconst 1, 1), (14, .ireturn, 1), (15, .iconst 0, 1), (16, .ireturn, 1)]
theorem tL_points : ∀ q ∈ bL_points, decode mL_points.2.1 q.1 = .ok (q.2.1, q.2.2) := by decide +kernel
theorem kL_90 : vLink RL 90 mX5_points 1 := ⟨gT_at 812 (by decide +kernel) (by decide +kernel), wX5_points⟩
theorem wL_points (τ κ σ ρ : St) (out : Int → Int) {ro : PRO} (hro : ∀ q ∈ roC, q ∈ ro) {p : Int} (rp : -2147483648 ≤ p ∧ p ≤ 2147483647) (hI : Iv τ) : Sw mL_points hhL_points ro 12 [vR 0, vI p, vR 120] (LW τ κ σ ρ out) (vI (xPoints τ p).1) (LW (xPoints τ p).2.2 κ σ ρ (oP (xPoints τ p) out)) := by
  have hc := Sp.frame (mW σ ρ) [(120, .inl (1, .inr (.inl out)))] hro (pX5_points τ κ rp hI)
  have hcd := cd_xPoints τ p
  generalize xPoints τ p = x at hc hcd ⊢
  refine Wv (idx := 90) (n1 := 4) (pcV := 4) (pcE := 16) (as := [vI p]) (L := [some (vR 0), some (vI p), some (vR 120), none]) (tb := bL_points) (E := eIAS) hc (by decide) rfl rfl tL_points (Nat.le_of_ble_eq_true rfl) (fun _ => rfl) rfl kL_90 rfl (by decide) (Nat.le_of_ble_eq_true rfl) (fun _ _ _ => rfl) (fun v hv => by omega) rfl ?_
  rcases hcd with h | h
  · exact .inl h
  · rw [h]
    exact .inr ⟨by decide, _, (by decide +kernel : hfind (eIAS 1) 4 hhL_points = some 12), by decide +kernel⟩
theorem cd_xTrail (τ : St) (p : Int) : (xTrail τ p).1 = 0 ∨ (xTrail τ p).1 = 1 := by
  unfold xTrail
  (repeat' split) <;> (dsimp only; omega)
abbrev mL_trail : PM := (yL_trail, cL_trail, 4, (some .int))
def hhL_trail : PHH := [(0, 9, 12, 13)]
def bL_trail : PT := [(0, .aload_n 2, 1), (1, .iconst 0, 1), (2, .aload_n 0, 1), (3, .iload_n 1, 1), (4, .invokevirtual 93, 3), (7, .i2l, 1), (8, .lastore, 1), (9, .goto 6, 3), (12, .astore_n 3, 1), (13, .iconst 1, 1), (14, .ireturn, 1), (15, .iconst 0, 1), (16, .ireturn, 1)]
theorem tL_trail : ∀ q ∈ bL_trail, decode mL_trail.2.1 q.1 = .ok (q.2.1, q.2.2) := by decide +kernel
theorem kL_93 : vLink RL 93 mX5_trail 1 := ⟨gT_at 819 (by decide +kernel) (by decide +kernel), wX5_trail⟩
theorem wL_trail (τ κ σ ρ : St) (out : Int → Int) {ro : PRO} (hro : ∀ q ∈ roC, q ∈ ro) {p : Int} (rp : -2147483648 ≤ p ∧ p ≤ 2147483647) (hk0 : ∀ i, 0 ≤ κ.2.1 0 i ∧ κ.2.1 0 i ≤ 63) (hk1 : ∀ i, 0 ≤ κ.2.1 1 i ∧ κ.2.1 1 i ≤ 63) (hI : Iv τ) : Sw mL_trail hhL_trail ro 12 [vR 0, vI p, vR 120] (LW τ κ σ ρ out) (vI (xTrail τ p).1) (LW (xTrail τ p).2.2 (kTrail κ τ p) σ ρ (oP (xTrail τ p) out)) := by
  have hc := Sp.frame (mW σ ρ) [(120, .inl (1, .inr (.inl out)))] hro (pX5_trail τ κ rp hk0 hk1 hI)
  have hcd := cd_xTrail τ p
  generalize xTrail τ p = x at hc hcd ⊢
  generalize (kTrail κ τ p) = κ' at hc ⊢
  refine Wv (idx := 93) (n1 := 4) (pcV := 4) (pcE := 16) (as := [vI p]) (L := [some (vR 0), some (vI p), some (vR 120), none]) (tb := bL_trail) (E := eIS) hc (by decide) rfl rfl tL_trail (Nat.le_of_ble_eq_true rfl) (fun _ => rfl) rfl kL_93 rfl (by decide) (Nat.le_of_ble_eq_true rfl) (fun _ _ _ => rfl) (fun v hv => by omega) rfl ?_
  rcases hcd with h | h
  · exact .inl h
  · rw [h]
    exact .inr ⟨by decide, _, (by decide +kernel : hfind (eIS 1) 4 hhL_trail = some 12), by decide +kernel⟩
abbrev mL_trailBySets : PM := (yL_trailBySets, cL_trailBySets, 4, (some .int))
def hhL_trailBySets : PHH := [(0, 9, 12, 13)]
def bL_trailBySets : PT := [(0, .aload_n 2, 1), (1, .iconst 0, 1), (2, .aload_n 0, 1), (3, .iload_n 1, 1), (4, .invokevirtual 96, 3), (7, .i2l, 1), (8, .lastore, 1), (9, .goto 6, 3), (12, .astore_n 3, 1), (13, .iconst 1, 1), (14, .ireturn, 1), (15, .iconst 0, 1), (16, .ireturn, 1)]
theorem tL_trailBySets : ∀ q ∈ bL_trailBySets, decode mL_trailBySets.2.1 q.1 = .ok (q.2.1, q.2.2) := by decide +kernel
theorem kL_96 : vLink RL 96 mX5_trailBySets 1 := ⟨gT_at 826 (by decide +kernel) (by decide +kernel), wX5_trailBySets⟩
theorem wL_trailBySets (τ κ σ ρ : St) (out : Int → Int) {ro : PRO} (hro : ∀ q ∈ roC, q ∈ ro) {p : Int} (rp : -2147483648 ≤ p ∧ p ≤ 2147483647) (hk0 : ∀ i, 0 ≤ κ.2.1 0 i ∧ κ.2.1 0 i ≤ 63) (hk1 : ∀ i, 0 ≤ κ.2.1 1 i ∧ κ.2.1 1 i ≤ 63) (hI : Iv τ) : Sw mL_trailBySets hhL_trailBySets ro 12 [vR 0, vI p, vR 120] (LW τ κ σ ρ out) (vI (xTrail τ p).1) (LW (xTrail τ p).2.2 (kTrail κ τ p) σ ρ (oP (xTrail τ p) out)) := by
  have hc := Sp.frame (mW σ ρ) [(120, .inl (1, .inr (.inl out)))] hro (pX5_trailBySets τ κ rp hk0 hk1 hI)
  have hcd := cd_xTrail τ p
  generalize xTrail τ p = x at hc hcd ⊢
  generalize (kTrail κ τ p) = κ' at hc ⊢
  refine Wv (idx := 96) (n1 := 4) (pcV := 4) (pcE := 16) (as := [vI p]) (L := [some (vR 0), some (vI p), some (vR 120), none]) (tb := bL_trailBySets) (E := eIS) hc (by decide) rfl rfl tL_trailBySets (Nat.le_of_ble_eq_true rfl) (fun _ => rfl) rfl kL_96 rfl (by decide) (Nat.le_of_ble_eq_true rfl) (fun _ _ _ => rfl) (fun v hv => by omega) rfl ?_
  rcases hcd with h | h
  · exact .inl h
  · rw [h]
    exact .inr ⟨by decide, _, (by decide +kernel : hfind (eIS 1) 4 hhL_trailBySets = some 12), by decide +kernel⟩
theorem cd_xKnights (τ : St) (p : Int) : (xKnights τ p).1 = 0 ∨ (xKnights τ p).1 = 1 := by
  unfold xKnights
  (repeat' split) <;> (dsimp only; omega)
abbrev mL_knights : PM := (yL_knights, cL_knights, 4, (some .int))
def hhL_knights : PHH := [(0, 9, 12, 13)]
def bL_knights : PT := [(0, .aload_n 2, 1), (1, .iconst 0, 1), (2, .aload_n 0, 1), (3, .iload_n 1, 1), (4, .invokevirtual 99, 3), (7, .i2l, 1), (8, .lastore, 1), (9, .goto 6, 3), (12, .astore_n 3, 1), (13, .iconst 1, 1), (14, .ireturn, 1), (15, .iconst 0, 1), (16, .ireturn, 1)]
theorem tL_knights : ∀ q ∈ bL_knights, decode mL_knights.2.1 q.1 = .ok (q.2.1, q.2.2) := by decide +kernel
theorem kL_99 : vLink RL 99 mX5_knights 1 := ⟨gT_at 861 (by decide +kernel) (by decide +kernel), wX5_knights⟩
theorem wL_knights (τ κ σ ρ : St) (out : Int → Int) {ro : PRO} (hro : ∀ q ∈ roC, q ∈ ro) {p : Int} (rp : -2147483648 ≤ p ∧ p ≤ 2147483647) (hI : Iv τ) : Sw mL_knights hhL_knights ro 12 [vR 0, vI p, vR 120] (LW τ κ σ ρ out) (vI (xKnights τ p).1) (LW (xKnights τ p).2.2 κ σ ρ (oP (xKnights τ p) out)) := by
  have hc := Sp.frame (mW σ ρ) [(120, .inl (1, .inr (.inl out)))] hro (pX5_knights τ κ rp hI)
  have hcd := cd_xKnights τ p
  generalize xKnights τ p = x at hc hcd ⊢
  refine Wv (idx := 99) (n1 := 4) (pcV := 4) (pcE := 16) (as := [vI p]) (L := [some (vR 0), some (vI p), some (vR 120), none]) (tb := bL_knights) (E := eIAS) hc (by decide) rfl rfl tL_knights (Nat.le_of_ble_eq_true rfl) (fun _ => rfl) rfl kL_99 rfl (by decide) (Nat.le_of_ble_eq_true rfl) (fun _ _ _ => rfl) (fun v hv => by omega) rfl ?_
  rcases hcd with h | h
  · exact .inl h
  · rw [h]
    exact .inr ⟨by decide, _, (by decide +kernel : hfind (eIAS 1) 4 hhL_knights = some 12), by decide +kernel⟩
theorem cd_xCards (τ : St) (p k : Int) : (xCards τ p k).1 = 0 ∨ (xCards τ p k).1 = 1 ∨ (xCards τ p k).1 = 2 := by
  unfold xCards
  (repeat' split) <;> (dsimp only; omega)
abbrev mL_cards : PM := (yL_cards, cL_cards, 5, (some .int))
def hhL_cards : PHH := [(0, 10, 13, 13), (0, 10, 17, 15)]
def bL_cards : PT := [(0, .aload_n 3, 1), (1, .iconst 0, 1), (2, .aload_n 0, 1), (3, .iload_n 1, 1), (4, .iload_n 2, 1), (5, .invokevirtual 102, 3), (8, .i2l, 1), (9, .lastore, 1), (10, .goto 11, 3), (13, .astore 4, 2), (15, .iconst 1, 1), (16, .ireturn, 1), (17, .astore 4, 2), (19, .iconst 2, 1), (20, .ireturn, 1), (21, .iconst 0, 1), (22, .ireturn, 1)]
theorem tL_cards : ∀ q ∈ bL_cards, decode mL_cards.2.1 q.1 = .ok (q.2.1, q.2.2) := by decide +kernel
theorem kL_102 : vLink RL 102 mX5_cards 2 := ⟨gT_at 869 (by decide +kernel) (by decide +kernel), wX5_cards⟩
theorem wL_cards (τ κ σ ρ : St) (out : Int → Int) {ro : PRO} (hro : ∀ q ∈ roC, q ∈ ro) {p k : Int} (rp : -2147483648 ≤ p ∧ p ≤ 2147483647) (rk : -2147483648 ≤ k ∧ k ≤ 2147483647) (hI : Iv τ) : Sw mL_cards hhL_cards ro 12 [vR 0, vI p, vI k, vR 120] (LW τ κ σ ρ out) (vI (xCards τ p k).1) (LW (xCards τ p k).2.2 κ σ ρ (oP (xCards τ p k) out)) := by
  have hc := Sp.frame (mW σ ρ) [(120, .inl (1, .inr (.inl out)))] hro (pX5_cards τ κ rp rk hI)
  have hcd := cd_xCards τ p k
  generalize xCards τ p k = x at hc hcd ⊢
  refine Wv (idx := 102) (n1 := 5) (pcV := 5) (pcE := 22) (as := [vI p, vI k]) (L := [some (vR 0), some (vI p), some (vI k), some (vR 120), none]) (tb := bL_cards) (E := eIAS) hc (by decide) rfl rfl tL_cards (Nat.le_of_ble_eq_true rfl) (fun _ => rfl) rfl kL_102 rfl (by decide) (Nat.le_of_ble_eq_true rfl) (fun _ _ _ => rfl) (fun v hv => by omega) rfl ?_
  rcases hcd with h | h | h
  · exact .inl h
  · rw [h]
    exact .inr ⟨by decide, _, (by decide +kernel : hfind (eIAS 1) 5 hhL_cards = some 13), by decide +kernel⟩
  · rw [h]
    exact .inr ⟨by decide, _, (by decide +kernel : hfind (eIAS 2) 5 hhL_cards = some 17), by decide +kernel⟩
theorem cd_xBuilding (τ : St) (p : Int) : (xBuilding τ p).1 = 0 ∨ (xBuilding τ p).1 = 1 := by
  unfold xBuilding
  (repeat' split) <;> (dsimp only; omega)
abbrev mL_buildingAt : PM := (yL_buildingAt, cL_buildingAt, 4, (some .int))
def hhL_buildingAt : PHH := [(0, 9, 12, 13)]
def bL_buildingAt : PT := [(0, .aload_n 2, 1), (1, .iconst 0, 1), (2, .aload_n 0, 1), (3, .iload_n 1, 1), (4, .invokevirtual 105, 3), (7, .i2l, 1), (8, .lastore, 1), (9, .goto 6, 3), (12, .astore_n 3, 1), (13, .iconst 1, 1), (14, .ireturn, 1), (15, .iconst 0, 1), (16, .ireturn, 1)]
theorem tL_buildingAt : ∀ q ∈ bL_buildingAt, decode mL_buildingAt.2.1 q.1 = .ok (q.2.1, q.2.2) := by decide +kernel
theorem kL_105 : vLink RL 105 mX5_buildingAt 1 := ⟨gT_at 877 (by decide +kernel) (by decide +kernel), wX5_buildingAt⟩
theorem wL_buildingAt (τ κ σ ρ : St) (out : Int → Int) {ro : PRO} (hro : ∀ q ∈ roC, q ∈ ro) {p : Int} (rp : -2147483648 ≤ p ∧ p ≤ 2147483647) (hI : Iv τ) : Sw mL_buildingAt hhL_buildingAt ro 12 [vR 0, vI p, vR 120] (LW τ κ σ ρ out) (vI (xBuilding τ p).1) (LW (xBuilding τ p).2.2 κ σ ρ (oP (xBuilding τ p) out)) := by
  have hc := Sp.frame (mW σ ρ) [(120, .inl (1, .inr (.inl out)))] hro (pX5_buildingAt τ κ rp hI)
  have hcd := cd_xBuilding τ p
  generalize xBuilding τ p = x at hc hcd ⊢
  refine Wv (idx := 105) (n1 := 4) (pcV := 4) (pcE := 16) (as := [vI p]) (L := [some (vR 0), some (vI p), some (vR 120), none]) (tb := bL_buildingAt) (E := eIAS) hc (by decide) rfl rfl tL_buildingAt (Nat.le_of_ble_eq_true rfl) (fun _ => rfl) rfl kL_105 rfl (by decide) (Nat.le_of_ble_eq_true rfl) (fun _ _ _ => rfl) (fun v hv => by omega) rfl ?_
  rcases hcd with h | h
  · exact .inl h
  · rw [h]
    exact .inr ⟨by decide, _, (by decide +kernel : hfind (eIAS 1) 4 hhL_buildingAt = some 12), by decide +kernel⟩
theorem cd_xRoadAt (τ : St) (p : Int) : (xRoadAt τ p).1 = 0 ∨ (xRoadAt τ p).1 = 1 := by
  unfold xRoadAt
  (repeat' split) <;> (dsimp only; omega)
abbrev mL_roadAt : PM := (yL_roadAt, cL_roadAt, 4, (some .int))
def hhL_roadAt : PHH := [(0, 9, 12, 13)]
def bL_roadAt : PT := [(0, .aload_n 2, 1), (1, .iconst 0, 1), (2, .aload_n 0, 1), (3, .iload_n 1, 1), (4, .invokevirtual 108, 3), (7, .i2l, 1), (8, .lastore, 1), (9, .goto 6, 3), (12, .astore_n 3, 1), (13, .iconst 1, 1), (14, .ireturn, 1), (15, .iconst 0, 1), (16, .ireturn, 1)]
theorem tL_roadAt : ∀ q ∈ bL_roadAt, decode mL_roadAt.2.1 q.1 = .ok (q.2.1, q.2.2) := by decide +kernel
theorem kL_108 : vLink RL 108 mX5_roadAt 1 := ⟨gT_at 884 (by decide +kernel) (by decide +kernel), wX5_roadAt⟩
theorem wL_roadAt (τ κ σ ρ : St) (out : Int → Int) {ro : PRO} (hro : ∀ q ∈ roC, q ∈ ro) {p : Int} (rp : -2147483648 ≤ p ∧ p ≤ 2147483647) (hI : Iv τ) : Sw mL_roadAt hhL_roadAt ro 12 [vR 0, vI p, vR 120] (LW τ κ σ ρ out) (vI (xRoadAt τ p).1) (LW (xRoadAt τ p).2.2 κ σ ρ (oP (xRoadAt τ p) out)) := by
  have hc := Sp.frame (mW σ ρ) [(120, .inl (1, .inr (.inl out)))] hro (pX5_roadAt τ κ rp hI)
  have hcd := cd_xRoadAt τ p
  generalize xRoadAt τ p = x at hc hcd ⊢
  refine Wv (idx := 108) (n1 := 4) (pcV := 4) (pcE := 16) (as := [vI p]) (L := [some (vR 0), some (vI p), some (vR 120), none]) (tb := bL_roadAt) (E := eIAS) hc (by decide) rfl rfl tL_roadAt (Nat.le_of_ble_eq_true rfl) (fun _ => rfl) rfl kL_108 rfl (by decide) (Nat.le_of_ble_eq_true rfl) (fun _ _ _ => rfl) (fun v hv => by omega) rfl ?_
  rcases hcd with h | h
  · exact .inl h
  · rw [h]
    exact .inr ⟨by decide, _, (by decide +kernel : hfind (eIAS 1) 4 hhL_roadAt = some 12), by decide +kernel⟩
theorem cd_xRate (τ : St) (p g : Int) : (xRate τ p g).1 = 0 ∨ (xRate τ p g).1 = 1 ∨ (xRate τ p g).1 = 2 := by
  unfold xRate
  (repeat' split) <;> (dsimp only; omega)
abbrev mL_rate : PM := (yL_rate, cL_rate, 5, (some .int))
def hhL_rate : PHH := [(0, 10, 13, 13), (0, 10, 17, 15)]
def bL_rate : PT := [(0, .aload_n 3, 1), (1, .iconst 0, 1), (2, .aload_n 0, 1), (3, .iload_n 1, 1), (4, .iload_n 2, 1), (5, .invokevirtual 111, 3), (8, .i2l, 1), (9, .lastore, 1), (10, .goto 11, 3), (13, .astore 4, 2), (15, .iconst 1, 1), (16, .ireturn, 1), (17, .astore 4, 2), (19, .iconst 2, 1), (20, .ireturn, 1), (21, .iconst 0, 1), (22, .ireturn, 1)]
theorem tL_rate : ∀ q ∈ bL_rate, decode mL_rate.2.1 q.1 = .ok (q.2.1, q.2.2) := by decide +kernel
theorem kL_111 : vLink RL 111 mX5_rate 2 := ⟨gT_at 891 (by decide +kernel) (by decide +kernel), wX5_rate⟩
theorem wL_rate (τ κ σ ρ : St) (out : Int → Int) {ro : PRO} (hro : ∀ q ∈ roC, q ∈ ro) {p g : Int} (rp : -2147483648 ≤ p ∧ p ≤ 2147483647) (rg : -2147483648 ≤ g ∧ g ≤ 2147483647) (hI : Iv τ) : Sw mL_rate hhL_rate ro 12 [vR 0, vI p, vI g, vR 120] (LW τ κ σ ρ out) (vI (xRate τ p g).1) (LW (xRate τ p g).2.2 κ σ ρ (oP (xRate τ p g) out)) := by
  have hc := Sp.frame (mW σ ρ) [(120, .inl (1, .inr (.inl out)))] hro (pX5_rate τ κ rp rg hI)
  have hcd := cd_xRate τ p g
  generalize xRate τ p g = x at hc hcd ⊢
  refine Wv (idx := 111) (n1 := 5) (pcV := 5) (pcE := 22) (as := [vI p, vI g]) (L := [some (vR 0), some (vI p), some (vI g), some (vR 120), none]) (tb := bL_rate) (E := eIAS) hc (by decide) rfl rfl tL_rate (Nat.le_of_ble_eq_true rfl) (fun _ => rfl) rfl kL_111 rfl (by decide) (Nat.le_of_ble_eq_true rfl) (fun _ _ _ => rfl) (fun v hv => by omega) rfl ?_
  rcases hcd with h | h | h
  · exact .inl h
  · rw [h]
    exact .inr ⟨by decide, _, (by decide +kernel : hfind (eIAS 1) 5 hhL_rate = some 13), by decide +kernel⟩
  · rw [h]
    exact .inr ⟨by decide, _, (by decide +kernel : hfind (eIAS 2) 5 hhL_rate = some 17), by decide +kernel⟩
theorem cd_xWould (τ : St) (p g u : Int) : (xWould τ p g u).1 = 0 ∨ (xWould τ p g u).1 = 1 ∨ (xWould τ p g u).1 = 2 := by
  unfold xWould
  (repeat' split) <;> (dsimp only; omega)
abbrev mL_wouldGet : PM := (yL_wouldGet, cL_wouldGet, 6, (some .int))
def hhL_wouldGet : PHH := [(0, 12, 15, 13), (0, 12, 19, 15)]
def bL_wouldGet : PT := [(0, .aload 4, 2), (2, .iconst 0, 1), (3, .aload_n 0, 1), (4, .iload_n 1, 1), (5, .iload_n 2, 1), (6, .iload_n 3, 1), (7, .invokevirtual 114, 3), (10, .i2l, 1), (11, .lastore, 1), (12, .goto 11, 3), (15, .astore 5, 2), (17, .iconst 1, 1), (18, .ireturn, 1), (19, .astore 5, 2), (21, .iconst 2, 1), (22, .ireturn, 1), (23, .iconst 0, 1), (24, .ireturn, 1)]
theorem tL_wouldGet : ∀ q ∈ bL_wouldGet, decode mL_wouldGet.2.1 q.1 = .ok (q.2.1, q.2.2) := by decide +kernel
theorem kL_114 : vLink RL 114 mX5_wouldGet 3 := ⟨gT_at 898 (by decide +kernel) (by decide +kernel), wX5_wouldGet⟩
theorem wL_wouldGet (τ κ σ ρ : St) (out : Int → Int) {ro : PRO} (hro : ∀ q ∈ roC, q ∈ ro) {p g u : Int} (rp : -2147483648 ≤ p ∧ p ≤ 2147483647) (rg : -2147483648 ≤ g ∧ g ≤ 2147483647) (ru : -2147483648 ≤ u ∧ u ≤ 2147483647) (hI : Iv τ) : Sw mL_wouldGet hhL_wouldGet ro 12 [vR 0, vI p, vI g, vI u, vR 120] (LW τ κ σ ρ out) (vI (xWould τ p g u).1) (LW (xWould τ p g u).2.2 κ σ ρ (oP (xWould τ p g u) out)) := by
  have hc := Sp.frame (mW σ ρ) [(120, .inl (1, .inr (.inl out)))] hro (pX5_wouldGet τ κ rp rg ru hI)
  have hcd := cd_xWould τ p g u
  generalize xWould τ p g u = x at hc hcd ⊢
  refine Wv (idx := 114) (n1 := 6) (pcV := 7) (pcE := 24) (as := [vI p, vI g, vI u]) (L := [some (vR 0), some (vI p), some (vI g), some (vI u), some (vR 120), none]) (tb := bL_wouldGet) (E := eIAS) hc (by decide) rfl rfl tL_wouldGet (Nat.le_of_ble_eq_true rfl) (fun _ => rfl) rfl kL_114 rfl (by decide) (Nat.le_of_ble_eq_true rfl) (fun _ _ _ => rfl) (fun v hv => by omega) rfl ?_
  rcases hcd with h | h | h
  · exact .inl h
  · rw [h]
    exact .inr ⟨by decide, _, (by decide +kernel : hfind (eIAS 1) 7 hhL_wouldGet = some 15), by decide +kernel⟩
  · rw [h]
    exact .inr ⟨by decide, _, (by decide +kernel : hfind (eIAS 2) 7 hhL_wouldGet = some 19), by decide +kernel⟩
