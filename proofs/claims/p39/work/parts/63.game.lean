/-! ===== a call of the law's, told in numbers ===== -/
def told (E : Int → String) (x : XR) : Int := if x.1 = 0 then nmI x.2.1 else cdE (E x.1)
def ocN (E : Int → String) (x : XR) : PO := if x.1 = 0 then .inl (some (vI (nmI x.2.1))) else .inr (E x.1)
def okO (o : PO) : Prop := (∃ v : Int, o = .inl (some (vI v))) ∨ ∃ E : String, o = .inr E ∧ (E = xI ∨ E = xA ∨ E = xS)
theorem told_is (E : Int → String) (x : XR) : tlO (ocN E x) = told E x := by
  unfold ocN told
  split <;> rfl
theorem okO_of {E : Int → String} (hE : ∀ k, E k = xI ∨ E k = xA ∨ E k = xS) (x : XR) : okO (ocN E x) := by
  unfold ocN
  split
  · exact .inl ⟨_, rfl⟩
  · exact .inr ⟨_, rfl, hE _⟩
theorem eIAS_3 (k : Int) : eIAS k = xI ∨ eIAS k = xA ∨ eIAS k = xS := by unfold eIAS; (repeat' split) <;> simp
theorem eIS_3 (k : Int) : eIS k = xI ∨ eIS k = xA ∨ eIS k = xS := by unfold eIS; (repeat' split) <;> simp
theorem eAS_3 (k : Int) : eAS k = xI ∨ eAS k = xA ∨ eAS k = xS := by unfold eAS; (repeat' split) <;> simp
theorem eS1_3 (k : Int) : eS1 k = xI ∨ eS1 k = xA ∨ eS1 k = xS := .inr (.inr rfl)
theorem cdE_r (E : String) : -1123 ≤ cdE E ∧ cdE E ≤ -1121 := by unfold cdE; (repeat' split) <;> omega
theorem told_r (E : Int → String) (x : XR) : -2147483648 ≤ told E x ∧ told E x ≤ 2147483647 := by
  unfold told
  split
  · exact nmI_r _
  · have := cdE_r (E x.1)
    omega
/-- the call n of (a, b, c) tells v and leaves τ' -/
def Cl (τ : St) (n a b c v : Int) (τ' : St) : Prop := (-2147483648 ≤ v ∧ v ≤ 2147483647) ∧ ∃ o : PO, tlO o = v ∧ okO o ∧ ∀ κ : St, Jv τ κ → ∃ κ' : St, Jv τ' κ' ∧ Sp mL_does roC 12 [vR 0, vI n, vI a, vI b, vI c] (cW τ κ) o (cW τ' κ')
theorem does_v {M : PM} {idx d1 pcV n1 : Nat} {as : List PV} {L : List (Option PV)} {x : XR} {E : Int → String} {τ κ κ' : St} {n a b c : Int} {P : Prop} (hc : Sp M roC d1 (vR 0 :: as) (cW τ κ) (oc E x) (cW x.2.2 κ'))
    (h1 : ∀ w : PW, prun lkL roC bL_does n1 (0, lent 5 [vR 0, vI n, vI a, vI b, vI c], [], w) = some ((pcV, L, as.reverse ++ vR 0 :: [], w), some P)) (hP : P) (h2 : alk bL_does pcV = some (.invokevirtual idx, 3)) (hk : vLink RL idx M as.length) (h4 : alk bL_does (pcV + 3) = some (.ireturn, 1)) (hM : RX5 = M.1.cls) (hd : d1 + 1 ≤ 12) (hm : M.2.2.1 ≤ 20) :
    Sp mL_does roC 12 [vR 0, vI n, vI a, vI b, vI c] (cW τ κ) (ocN E x) (cW x.2.2 κ') := by
  have key : Sp mL_does roC 12 [vR 0, vI n, vI a, vI b, vI c] (cW τ κ) (oc E x) (cW x.2.2 κ') := by
    refine Sp.of (lk := lkL) (tb := bL_does) (by decide) lkL_ok tL_does hc.1 (Nat.le_of_ble_eq_true rfl) (fun G hR => ?_)
    refine hR.1 n1 _ _ _ (h1 _) (fun q hq => by cases hq; exact hP) ?_
    by_cases h0 : x.1 = 0
    · have e : oc E x = .inl (some (vI x.2.1)) := if_pos h0
      rw [e] at hR hc
      refine hR.cv as hk h2 rfl ⟨5, _, _, rfl, rfl, hM⟩ hd hm (by decide) rfl hc ?_
      refine hR.rt (v := some (vI x.2.1)) (P := True) ?_ trivial rfl rfl
      unfold pretT
      rw [h4]
      rfl
    · have e : oc E x = .inr (E x.1) := if_neg h0
      rw [e] at hR hc
      exact hR.cvx as hk h2 rfl ⟨5, _, _, rfl, rfl, hM⟩ hd hm (by decide) rfl hc rfl rfl
  by_cases h0 : x.1 = 0
  · have e : oc E x = .inl (some (vI x.2.1)) := if_pos h0
    have e2 : ocN E x = .inl (some (vI (nmI x.2.1))) := if_pos h0
    rw [e] at key
    rw [e2]
    exact key.asPv (fun ad => nmI_pv ad _)
  · have e : oc E x = .inr (E x.1) := if_neg h0
    have e2 : ocN E x = .inr (E x.1) := if_neg h0
    rw [e] at key
    rw [e2]
    exact key
theorem does_d {M : PM} {idx d1 pcV n1 : Nat} {as : List PV} {L : List (Option PV)} {x : XR} {E : Int → String} {τ κ κ' : St} {n a b c : Int} {P : Prop} (hc : Sp M roC d1 (vR 0 :: as) (cW τ κ) (ocv E x) (cW x.2.2 κ')) (hx0 : x.1 = 0 → x.2.1 = 0)
    (h1 : ∀ w : PW, prun lkL roC bL_does n1 (0, lent 5 [vR 0, vI n, vI a, vI b, vI c], [], w) = some ((pcV, L, as.reverse ++ vR 0 :: [], w), some P)) (hP : P) (h2 : alk bL_does pcV = some (.invokevirtual idx, 3)) (hk : vLink RL idx M as.length) (h3 : alk bL_does (pcV + 3) = some (.iconst 0, 1)) (h4 : alk bL_does (pcV + 4) = some (.ireturn, 1)) (hM : RX5 = M.1.cls) (hd : d1 + 1 ≤ 12) (hm : M.2.2.1 ≤ 20) :
    Sp mL_does roC 12 [vR 0, vI n, vI a, vI b, vI c] (cW τ κ) (ocN E x) (cW x.2.2 κ') := by
  by_cases h0 : x.1 = 0
  · have e : ocv E x = .inl none := if_pos h0
    have e2 : ocN E x = .inl (some (vI 0)) := by
      unfold ocN
      rw [if_pos h0, hx0 h0]
      rfl
    rw [e2]
    rw [e] at hc
    refine Sp.of (lk := lkL) (tb := bL_does) (by decide) lkL_ok tL_does hc.1 (Nat.le_of_ble_eq_true rfl) (fun G hR => ?_)
    refine hR.1 n1 _ _ _ (h1 _) (fun q hq => by cases hq; exact hP) ?_
    refine hR.cv as hk h2 rfl ⟨5, _, _, rfl, rfl, hM⟩ hd hm (by decide) rfl hc ?_
    refine hR.run0 1 (S' := (pcV + 4, L, [vI 0], cW x.2.2 κ')) ?_ ?_
    · unfold prun
      show (match alk bL_does (pcV + 3) with
        | none => none
        | some (i, len) => _) = _
      rw [h3]
      rfl
    refine hR.rt (v := some (vI 0)) (P := True) ?_ trivial rfl rfl
    unfold pretT
    rw [h4]
    rfl
  · have e : ocv E x = .inr (E x.1) := if_neg h0
    have e2 : ocN E x = .inr (E x.1) := if_neg h0
    rw [e2]
    rw [e] at hc
    refine Sp.of (lk := lkL) (tb := bL_does) (by decide) lkL_ok tL_does hc.1 (Nat.le_of_ble_eq_true rfl) (fun G hR => ?_)
    refine hR.1 n1 _ _ _ (h1 _) (fun q hq => by cases hq; exact hP) ?_
    exact hR.cvx as hk h2 rfl ⟨5, _, _, rfl, rfl, hM⟩ hd hm (by decide) rfl hc rfl rfl
theorem Cl_layHex (τ : St) (a b c : Int) (ra : -2147483648 ≤ a ∧ a ≤ 2147483647) (rb : -2147483648 ≤ b ∧ b ≤ 2147483647) (rc : -2147483648 ≤ c ∧ c ≤ 2147483647) : Cl τ 0 a b c (told eIAS (xLay τ a b c)) (xLay τ a b c).2.2 := by
  refine ⟨told_r _ _, ocN eIAS (xLay τ a b c), told_is _ _, okO_of eIAS_3 _, fun κ hJ => ⟨κ, J_layHex hJ a b c, ?_⟩⟩
  exact does_d (M := mX5_layHex) (idx := 21) (pcV := 145) (n1 := 6) (L := [some (vR 0), some (vI 0), some (vI a), some (vI b), some (vI c)]) (as := [vI a, vI b, vI c]) (pX5_layHex τ κ ra rb rc hJ.1) (fun h => by unfold xLay at h ⊢; revert h; (repeat' split) <;> intro h <;> first | rfl | (exfalso; revert h; decide)) (fun _ => rfl) (by decide) rfl kL_21 rfl rfl rfl (by decide) (Nat.le_of_ble_eq_true rfl)
theorem Cl_place (τ : St) (a b c : Int) (ra : -2147483648 ≤ a ∧ a ≤ 2147483647) (rb : -2147483648 ≤ b ∧ b ≤ 2147483647) : Cl τ 1 a b c (told eIS (xPlace τ a b)) (xPlace τ a b).2.2 := by
  refine ⟨told_r _ _, ocN eIS (xPlace τ a b), told_is _ _, okO_of eIS_3 _, fun κ hJ => ⟨(kPlace κ τ a b), J_place hJ a b, ?_⟩⟩
  exact does_v (M := mX5_place) (idx := 27) (pcV := 153) (n1 := 5) (L := [some (vR 0), some (vI 1), some (vI a), some (vI b), some (vI c)]) (as := [vI a, vI b]) (pX5_place τ κ ra rb hJ.2.2.1 hJ.2.2.2.1 hJ.1) (fun _ => rfl) (by decide) rfl kL_27 rfl rfl (by decide) (Nat.le_of_ble_eq_true rfl)
theorem Cl_deal (τ : St) (a b c : Int) (ra : -2147483648 ≤ a ∧ a ≤ 2147483647) (rb : -2147483648 ≤ b ∧ b ≤ 2147483647) : Cl τ 2 a b c (told eIAS (xDeal τ a b)) (xDeal τ a b).2.2 := by
  refine ⟨told_r _ _, ocN eIAS (xDeal τ a b), told_is _ _, okO_of eIAS_3 _, fun κ hJ => ⟨(kDeal κ τ a b), J_deal hJ a b, ?_⟩⟩
  exact does_v (M := mX5_deal) (idx := 31) (pcV := 160) (n1 := 5) (L := [some (vR 0), some (vI 2), some (vI a), some (vI b), some (vI c)]) (as := [vI a, vI b]) (pX5_deal τ κ ra rb hJ.1) (fun _ => rfl) (by decide) rfl kL_31 rfl rfl (by decide) (Nat.le_of_ble_eq_true rfl)
theorem Cl_roll (τ : St) (a b c : Int) (ra : -2147483648 ≤ a ∧ a ≤ 2147483647) (rb : -2147483648 ≤ b ∧ b ≤ 2147483647) : Cl τ 3 a b c (told eAS (xRoll τ a b)) (xRoll τ a b).2.2 := by
  refine ⟨told_r _ _, ocN eAS (xRoll τ a b), told_is _ _, okO_of eAS_3 _, fun κ hJ => ⟨(kRoll κ τ a b), J_roll hJ a b, ?_⟩⟩
  exact does_v (M := mX5_roll) (idx := 34) (pcV := 167) (n1 := 5) (L := [some (vR 0), some (vI 3), some (vI a), some (vI b), some (vI c)]) (as := [vI a, vI b]) (pX5_roll τ κ ra rb hJ.1) (fun _ => rfl) (by decide) rfl kL_34 rfl rfl (by decide) (Nat.le_of_ble_eq_true rfl)
theorem Cl_discard (τ : St) (a b c : Int) (ra : -2147483648 ≤ a ∧ a ≤ 2147483647) (rb : -2147483648 ≤ b ∧ b ≤ 2147483647) : Cl τ 4 a b c (told eIAS (xDisc τ a b)) (xDisc τ a b).2.2 := by
  refine ⟨told_r _ _, ocN eIAS (xDisc τ a b), told_is _ _, okO_of eIAS_3 _, fun κ hJ => ⟨(kDisc κ τ a b), J_discard hJ a b, ?_⟩⟩
  exact does_v (M := mX5_discard) (idx := 37) (pcV := 174) (n1 := 5) (L := [some (vR 0), some (vI 4), some (vI a), some (vI b), some (vI c)]) (as := [vI a, vI b]) (pX5_discard τ κ ra rb hJ.1) (fun _ => rfl) (by decide) rfl kL_37 rfl rfl (by decide) (Nat.le_of_ble_eq_true rfl)
theorem Cl_rob (τ : St) (a b c : Int) (ra : -2147483648 ≤ a ∧ a ≤ 2147483647) (rb : -2147483648 ≤ b ∧ b ≤ 2147483647) (rc : -2147483648 ≤ c ∧ c ≤ 2147483647) : Cl τ 5 a b c (told eIAS (xRob τ a b c)) (xRob τ a b c).2.2 := by
  refine ⟨told_r _ _, ocN eIAS (xRob τ a b c), told_is _ _, okO_of eIAS_3 _, fun κ hJ => ⟨(kRob κ τ a b c), J_rob hJ a b c, ?_⟩⟩
  exact does_v (M := mX5_rob) (idx := 40) (pcV := 183) (n1 := 6) (L := [some (vR 0), some (vI 5), some (vI a), some (vI b), some (vI c)]) (as := [vI a, vI b, vI c]) (pX5_rob τ κ ra rb rc hJ.1) (fun _ => rfl) (by decide) rfl kL_40 rfl rfl (by decide) (Nat.le_of_ble_eq_true rfl)
theorem Cl_road (τ : St) (a b c : Int) (ra : -2147483648 ≤ a ∧ a ≤ 2147483647) : Cl τ 6 a b c (told eIS (xRoad τ a)) (xRoad τ a).2.2 := by
  refine ⟨told_r _ _, ocN eIS (xRoad τ a), told_is _ _, okO_of eIS_3 _, fun κ hJ => ⟨(kRoad κ τ a), J_road hJ a, ?_⟩⟩
  exact does_v (M := mX5_road) (idx := 44) (pcV := 189) (n1 := 4) (L := [some (vR 0), some (vI 6), some (vI a), some (vI b), some (vI c)]) (as := [vI a]) (pX5_road τ κ ra hJ.2.2.1 hJ.2.2.2.1 hJ.1) (fun _ => rfl) (by decide) rfl kL_44 rfl rfl (by decide) (Nat.le_of_ble_eq_true rfl)
theorem Cl_house (τ : St) (a b c : Int) (ra : -2147483648 ≤ a ∧ a ≤ 2147483647) : Cl τ 7 a b c (told eIS (xHouse τ a)) (xHouse τ a).2.2 := by
  refine ⟨told_r _ _, ocN eIS (xHouse τ a), told_is _ _, okO_of eIS_3 _, fun κ hJ => ⟨(kHouse κ τ a), J_house hJ a, ?_⟩⟩
  exact does_v (M := mX5_house) (idx := 48) (pcV := 195) (n1 := 4) (L := [some (vR 0), some (vI 7), some (vI a), some (vI b), some (vI c)]) (as := [vI a]) (pX5_house τ κ ra hJ.2.2.1 hJ.2.2.2.1 hJ.1) (fun _ => rfl) (by decide) rfl kL_48 rfl rfl (by decide) (Nat.le_of_ble_eq_true rfl)
theorem Cl_city (τ : St) (a b c : Int) (ra : -2147483648 ≤ a ∧ a ≤ 2147483647) : Cl τ 8 a b c (told eIS (xCity τ a)) (xCity τ a).2.2 := by
  refine ⟨told_r _ _, ocN eIS (xCity τ a), told_is _ _, okO_of eIS_3 _, fun κ hJ => ⟨(kCity κ τ a), J_city hJ a, ?_⟩⟩
  exact does_v (M := mX5_city) (idx := 51) (pcV := 201) (n1 := 4) (L := [some (vR 0), some (vI 8), some (vI a), some (vI b), some (vI c)]) (as := [vI a]) (pX5_city τ κ ra hJ.2.2.1 hJ.2.2.2.1 hJ.1) (fun _ => rfl) (by decide) rfl kL_51 rfl rfl (by decide) (Nat.le_of_ble_eq_true rfl)
theorem Cl_buy (τ : St) (a b c : Int) : Cl τ 9 a b c (told eS1 (xBuy τ)) (xBuy τ).2.2 := by
  refine ⟨told_r _ _, ocN eS1 (xBuy τ), told_is _ _, okO_of eS1_3 _, fun κ hJ => ⟨(kBuy κ τ), J_buy hJ, ?_⟩⟩
  exact does_v (M := mX5_buy) (idx := 54) (pcV := 206) (n1 := 3) (L := [some (vR 0), some (vI 9), some (vI a), some (vI b), some (vI c)]) (as := []) (pX5_buy τ κ hJ.1) (fun _ => rfl) (by decide) rfl kL_54 rfl rfl (by decide) (Nat.le_of_ble_eq_true rfl)
theorem Cl_knight (τ : St) (a b c : Int) (ra : -2147483648 ≤ a ∧ a ≤ 2147483647) (rb : -2147483648 ≤ b ∧ b ≤ 2147483647) (rc : -2147483648 ≤ c ∧ c ≤ 2147483647) : Cl τ 10 a b c (told eIAS (xKnight τ a b c)) (xKnight τ a b c).2.2 := by
  refine ⟨told_r _ _, ocN eIAS (xKnight τ a b c), told_is _ _, okO_of eIAS_3 _, fun κ hJ => ⟨(kKnight κ τ a b c), J_knight hJ a b c, ?_⟩⟩
  exact does_v (M := mX5_knight) (idx := 58) (pcV := 215) (n1 := 6) (L := [some (vR 0), some (vI 10), some (vI a), some (vI b), some (vI c)]) (as := [vI a, vI b, vI c]) (pX5_knight τ κ ra rb rc hJ.1) (fun _ => rfl) (by decide) rfl kL_58 rfl rfl (by decide) (Nat.le_of_ble_eq_true rfl)
theorem Cl_roads (τ : St) (a b c : Int) (ra : -2147483648 ≤ a ∧ a ≤ 2147483647) (rb : -2147483648 ≤ b ∧ b ≤ 2147483647) : Cl τ 11 a b c (told eIS (xRoads τ a b)) (xRoads τ a b).2.2 := by
  refine ⟨told_r _ _, ocN eIS (xRoads τ a b), told_is _ _, okO_of eIS_3 _, fun κ hJ => ⟨(kRoads κ τ a b), J_roads hJ a b, ?_⟩⟩
  exact does_v (M := mX5_roads) (idx := 61) (pcV := 222) (n1 := 5) (L := [some (vR 0), some (vI 11), some (vI a), some (vI b), some (vI c)]) (as := [vI a, vI b]) (pX5_roads τ κ ra rb hJ.2.2.1 hJ.2.2.2.1 hJ.1) (fun _ => rfl) (by decide) rfl kL_61 rfl rfl (by decide) (Nat.le_of_ble_eq_true rfl)
theorem Cl_plenty (τ : St) (a b c : Int) (ra : -2147483648 ≤ a ∧ a ≤ 2147483647) (rb : -2147483648 ≤ b ∧ b ≤ 2147483647) : Cl τ 12 a b c (told eAS (xPlenty τ a b)) (xPlenty τ a b).2.2 := by
  refine ⟨told_r _ _, ocN eAS (xPlenty τ a b), told_is _ _, okO_of eAS_3 _, fun κ hJ => ⟨(kPlenty κ τ a b), J_plenty hJ a b, ?_⟩⟩
  exact does_v (M := mX5_plenty) (idx := 64) (pcV := 229) (n1 := 5) (L := [some (vR 0), some (vI 12), some (vI a), some (vI b), some (vI c)]) (as := [vI a, vI b]) (pX5_plenty τ κ ra rb hJ.1) (fun _ => rfl) (by decide) rfl kL_64 rfl rfl (by decide) (Nat.le_of_ble_eq_true rfl)
theorem Cl_monopoly (τ : St) (a b c : Int) (ra : -2147483648 ≤ a ∧ a ≤ 2147483647) : Cl τ 13 a b c (told eAS (xMono τ a)) (xMono τ a).2.2 := by
  refine ⟨told_r _ _, ocN eAS (xMono τ a), told_is _ _, okO_of eAS_3 _, fun κ hJ => ⟨(kMono κ τ a), J_monopoly hJ a, ?_⟩⟩
  exact does_v (M := mX5_monopoly) (idx := 67) (pcV := 235) (n1 := 4) (L := [some (vR 0), some (vI 13), some (vI a), some (vI b), some (vI c)]) (as := [vI a]) (pX5_monopoly τ κ ra hJ.1) (fun _ => rfl) (by decide) rfl kL_67 rfl rfl (by decide) (Nat.le_of_ble_eq_true rfl)
theorem Cl_swap (τ : St) (a b c : Int) (ra : -2147483648 ≤ a ∧ a ≤ 2147483647) (rb : -2147483648 ≤ b ∧ b ≤ 2147483647) : Cl τ 14 a b c (told eAS (xSwap τ a b)) (xSwap τ a b).2.2 := by
  refine ⟨told_r _ _, ocN eAS (xSwap τ a b), told_is _ _, okO_of eAS_3 _, fun κ hJ => ⟨(kSwap κ τ a b), J_swap hJ a b, ?_⟩⟩
  exact does_v (M := mX5_swap) (idx := 70) (pcV := 242) (n1 := 5) (L := [some (vR 0), some (vI 14), some (vI a), some (vI b), some (vI c)]) (as := [vI a, vI b]) (pX5_swap τ κ ra rb hJ.1) (fun _ => rfl) (by decide) rfl kL_70 rfl rfl (by decide) (Nat.le_of_ble_eq_true rfl)
theorem Cl_offer (τ : St) (a b c : Int) (ra : -2147483648 ≤ a ∧ a ≤ 2147483647) (rb : -2147483648 ≤ b ∧ b ≤ 2147483647) : Cl τ 15 a b c (told eAS (xOffer τ a b)) (xOffer τ a b).2.2 := by
  refine ⟨told_r _ _, ocN eAS (xOffer τ a b), told_is _ _, okO_of eAS_3 _, fun κ hJ => ⟨κ, J_offer hJ a b, ?_⟩⟩
  exact does_d (M := mX5_offer) (idx := 73) (pcV := 249) (n1 := 5) (L := [some (vR 0), some (vI 15), some (vI a), some (vI b), some (vI c)]) (as := [vI a, vI b]) (pX5_offer τ κ ra rb hJ.1) (fun h => by unfold xOffer at h ⊢; revert h; (repeat' split) <;> intro h <;> first | rfl | (exfalso; revert h; decide)) (fun _ => rfl) (by decide) rfl kL_73 rfl rfl rfl (by decide) (Nat.le_of_ble_eq_true rfl)
theorem Cl_counter (τ : St) (a b c : Int) (ra : -2147483648 ≤ a ∧ a ≤ 2147483647) (rb : -2147483648 ≤ b ∧ b ≤ 2147483647) (rc : -2147483648 ≤ c ∧ c ≤ 2147483647) : Cl τ 16 a b c (told eIAS (xCounter τ a b c)) (xCounter τ a b c).2.2 := by
  refine ⟨told_r _ _, ocN eIAS (xCounter τ a b c), told_is _ _, okO_of eIAS_3 _, fun κ hJ => ⟨κ, J_counter hJ a b c, ?_⟩⟩
  exact does_d (M := mX5_counter) (idx := 77) (pcV := 259) (n1 := 6) (L := [some (vR 0), some (vI 16), some (vI a), some (vI b), some (vI c)]) (as := [vI a, vI b, vI c]) (pX5_counter τ κ ra rb rc hJ.1) (fun h => by unfold xCounter at h ⊢; revert h; (repeat' split) <;> intro h <;> first | rfl | (exfalso; revert h; decide)) (fun _ => rfl) (by decide) rfl kL_77 rfl rfl rfl (by decide) (Nat.le_of_ble_eq_true rfl)
theorem Cl_accept (τ : St) (a b c : Int) (ra : -2147483648 ≤ a ∧ a ≤ 2147483647) : Cl τ 17 a b c (told eIS (xAccept τ a)) (xAccept τ a).2.2 := by
  refine ⟨told_r _ _, ocN eIS (xAccept τ a), told_is _ _, okO_of eIS_3 _, fun κ hJ => ⟨(kAccept κ τ a), J_accept hJ a, ?_⟩⟩
  exact does_v (M := mX5_accept) (idx := 80) (pcV := 266) (n1 := 4) (L := [some (vR 0), some (vI 17), some (vI a), some (vI b), some (vI c)]) (as := [vI a]) (pX5_accept τ κ ra hJ.1) (fun _ => rfl) (by decide) rfl kL_80 rfl rfl (by decide) (Nat.le_of_ble_eq_true rfl)
theorem Cl_agree (τ : St) (a b c : Int) (ra : -2147483648 ≤ a ∧ a ≤ 2147483647) : Cl τ 18 a b c (told eIS (xAgree τ a)) (xAgree τ a).2.2 := by
  refine ⟨told_r _ _, ocN eIS (xAgree τ a), told_is _ _, okO_of eIS_3 _, fun κ hJ => ⟨(kAgree κ τ a), J_agree hJ a, ?_⟩⟩
  exact does_v (M := mX5_agree) (idx := 83) (pcV := 272) (n1 := 4) (L := [some (vR 0), some (vI 18), some (vI a), some (vI b), some (vI c)]) (as := [vI a]) (pX5_agree τ κ ra hJ.1) (fun _ => rfl) (by decide) rfl kL_83 rfl rfl (by decide) (Nat.le_of_ble_eq_true rfl)
theorem Cl_endTurn (τ : St) (a b c : Int) : Cl τ 19 a b c (told eS1 (xEnd τ)) (xEnd τ).2.2 := by
  refine ⟨told_r _ _, ocN eS1 (xEnd τ), told_is _ _, okO_of eS1_3 _, fun κ hJ => ⟨κ, J_endTurn hJ, ?_⟩⟩
  exact does_v (M := mX5_endTurn) (idx := 86) (pcV := 277) (n1 := 3) (L := [some (vR 0), some (vI 19), some (vI a), some (vI b), some (vI c)]) (as := []) (pX5_endTurn τ κ hJ.1) (fun _ => rfl) (by decide) rfl kL_86 rfl rfl (by decide) (Nat.le_of_ble_eq_true rfl)
