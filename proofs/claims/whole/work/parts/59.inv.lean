theorem gaN_22 (b r : Int → Int) (p : Int) (κ : St) : ∀ n : Nat, (gaN b r p κ n).2.2 = κ.2.2
  | 0 => rfl
  | n + 1 => by
    have ih := gaN_22 b r p κ n
    show (ga1 b r p (n : Int) (gaN b r p κ n)).2.2 = _
    unfold ga1
    split
    · exact ih
    · exact ih
/-! ===== what holds between two calls ===== -/
def Kv (τ κ : St) : Prop := (∀ i, 0 ≤ κ.2.1 0 i ∧ κ.2.1 0 i ≤ 63) ∧ (∀ i, 0 ≤ κ.2.1 1 i ∧ κ.2.1 1 i ≤ 63) ∧ ∀ p g, 0 ≤ p ∧ p < 4 → 0 ≤ g ∧ g < 5 → cbm (κ.2.2 0) p g = τ.2.2 0 p g
def Jv (τ κ : St) : Prop := Iv τ ∧ hoF (trT τ) (τ.1 4) = τ.1 4 ∧ Kv τ κ
theorem and63 (x : Int) : 0 ≤ iA x 63 ∧ iA x 63 < 64 := by
  unfold iA
  show 0 ≤ (Int32.ofInt x &&& Int32.ofInt 63).toBitVec.toInt ∧ (Int32.ofInt x &&& Int32.ofInt 63).toBitVec.toInt < 64
  rw [Int32.toBitVec_and]
  have h2 : (Int32.ofInt 63).toBitVec = 63#32 := by decide +kernel
  rw [h2]
  generalize (Int32.ofInt x).toBitVec = X
  have h3 : (X &&& 63#32).toNat < 64 := by
    rw [BitVec.toNat_and, BitVec.toNat_ofNat]
    exact Nat.lt_of_le_of_lt Nat.and_le_right (by decide)
  rw [BitVec.toInt_eq_toNat_of_lt (by omega)]
  omega
theorem xHandK_eq {τ κ : St} (hJ : Jv τ κ) {p g : Int} : xHandK κ τ p g = xHand τ p g := by
  unfold xHandK xHand
  by_cases h1 : 0 ≤ p ∧ p < 4
  · by_cases h2 : 0 ≤ g ∧ g < 5
    · rw [hJ.2.2.2.2 p g h1 h2]
    · rw [if_pos h2, if_pos h2]
  · rw [if_pos h1, if_pos h1]
theorem J_hand {τ κ : St} (hJ : Jv τ κ) (p g : Int) : Jv (xHand τ p g).2.2 κ := by unfold xHand; (repeat' split) <;> exact hJ
theorem J_handByMoves {τ κ : St} (hJ : Jv τ κ) (p g : Int) : Jv (xHand τ p g).2.2 κ := J_hand hJ p g
theorem J_due {τ κ : St} (hJ : Jv τ κ) (p : Int) : Jv (xDue τ p).2.2 κ := by unfold xDue; (repeat' split) <;> exact hJ
theorem J_points {τ κ : St} (hJ : Jv τ κ) (p : Int) : Jv (xPoints τ p).2.2 κ := by unfold xPoints; (repeat' split) <;> exact hJ
theorem J_knights {τ κ : St} (hJ : Jv τ κ) (p : Int) : Jv (xKnights τ p).2.2 κ := by unfold xKnights; (repeat' split) <;> exact hJ
theorem J_cards {τ κ : St} (hJ : Jv τ κ) (p k : Int) : Jv (xCards τ p k).2.2 κ := by unfold xCards; (repeat' split) <;> exact hJ
theorem J_buildingAt {τ κ : St} (hJ : Jv τ κ) (p : Int) : Jv (xBuilding τ p).2.2 κ := by unfold xBuilding; (repeat' split) <;> exact hJ
theorem J_roadAt {τ κ : St} (hJ : Jv τ κ) (p : Int) : Jv (xRoadAt τ p).2.2 κ := by unfold xRoadAt; (repeat' split) <;> exact hJ
theorem J_rate {τ κ : St} (hJ : Jv τ κ) (p g : Int) : Jv (xRate τ p g).2.2 κ := by unfold xRate; (repeat' split) <;> exact hJ
theorem J_wouldGet {τ κ : St} (hJ : Jv τ κ) (p g u : Int) : Jv (xWould τ p g u).2.2 κ := by unfold xWould; (repeat' split) <;> exact hJ
theorem Kv.ga {τ κ : St} (h : Kv τ κ) (b r : Int → Int) (p : Int) : Kv τ (gaN b r p κ 30) := by
  refine ⟨gaN_on b r p κ h.1 30 (by omega), gaN_ot b r p κ h.2.1 30 (by omega), ?_⟩
  rw [gaN_22]
  exact h.2.2
theorem Kv.ut {τ κ : St} (h : Kv τ κ) (b r : Int → Int) : ∀ n : Nat, Kv τ (utK b r κ n)
  | 0 => h
  | n + 1 => by
    rw [utK_succ]
    exact (Kv.ut h b r n).ga b r _
theorem J_trail {τ κ : St} (hJ : Jv τ κ) (p : Int) : Jv (xTrail τ p).2.2 (kTrail κ τ p) := by
  unfold kTrail xTrail
  by_cases h : 0 ≤ p ∧ p < 3
  · rw [if_neg (fun z => z h), if_pos rfl]
    exact ⟨hJ.1, hJ.2.1, hJ.2.2.ga _ _ _⟩
  · rw [if_pos h, if_neg (show ¬ (1 : Int) = 0 by decide)]
    exact hJ
theorem J_trailBySets {τ κ : St} (hJ : Jv τ κ) (p : Int) : Jv (xTrail τ p).2.2 (kTrail κ τ p) := J_trail hJ p
/-! the code that the reference keeps -/
theorem r1_rWould (τ ρ : St) (p g u : Int) : (rWould τ ρ p g u).1 0 = (xWould τ p g u).1 := by
  unfold rWould
  split
  · next h => rw [rkF_s, h]; rfl
  · rfl
theorem r1_rRoll (τ ρ : St) (a b : Int) : (rRoll τ ρ a b).1 0 = (xRoll τ a b).1 := by
  unfold rRoll
  split
  · next h => rw [rkF_s, h.1]; rfl
  · rfl
theorem r1_rTrail (τ ρ : St) (p : Int) : (rTrail τ ρ p).1 0 = (xTrail τ p).1 := by
  unfold rTrail
  split
  · next h => rw [owK_s, h]; rfl
  · rfl
theorem otK_s (r : Int → Int) (ρ : St) : ∀ n : Nat, (otK r ρ n).1 = ρ.1
  | 0 => rfl
  | n + 1 => by rw [otK_succ, owK_s, otK_s r ρ n]
theorem rlK_s (r : Int → Int) (ρ : St) : (rlK r ρ).1 = ρ.1 := by unfold rlK; rw [otK_s, otK_s]
theorem r1_rRoad (τ ρ : St) (e : Int) : (rRoad τ ρ e).1 0 = (xRoad τ e).1 := by
  unfold rRoad
  split
  · next h => rw [owK_s, rlK_s, h]; rfl
  · rfl
theorem r1_rHouse (τ ρ : St) (c : Int) : (rHouse τ ρ c).1 0 = (xHouse τ c).1 := by
  unfold rHouse
  split
  · next h => rw [rlK_s, h]; rfl
  · rfl
theorem r1_rCity (τ ρ : St) (c : Int) : (rCity τ ρ c).1 0 = (xCity τ c).1 := by
  unfold rCity
  split
  · next h => rw [rlK_s, h]; rfl
  · rfl
theorem r1_rPlace (τ ρ : St) (c e : Int) : (rPlace τ ρ c e).1 0 = (xPlace τ c e).1 := by
  unfold rPlace
  split
  · next h => rw [rlK_s, h]; rfl
  · rfl
theorem r1_rRoads (τ ρ : St) (a b : Int) : (rRoads τ ρ a b).1 0 = (xRoads τ a b).1 := by
  unfold rRoads
  split
  · next h =>
    rw [owK_s, h]
    split
    · rw [rlK_s]; rfl
    · rw [rlK_s, rlK_s]; rfl
  · rfl
theorem J_layHex {τ κ : St} (hJ : Jv τ κ) (h g n : Int) : Jv (xLay τ h g n).2.2 κ := sorry
theorem J_place {τ κ : St} (hJ : Jv τ κ) (c e : Int) : Jv (xPlace τ c e).2.2 (kPlace κ τ c e) := sorry
theorem J_deal {τ κ : St} (hJ : Jv τ κ) (p n : Int) : Jv (xDeal τ p n).2.2 (kDeal κ τ p n) := sorry
theorem J_roll {τ κ : St} (hJ : Jv τ κ) (a b : Int) : Jv (xRoll τ a b).2.2 (kRoll κ τ a b) := sorry
theorem J_discard {τ κ : St} (hJ : Jv τ κ) (p n : Int) : Jv (xDisc τ p n).2.2 (kDisc κ τ p n) := sorry
theorem J_rob {τ κ : St} (hJ : Jv τ κ) (h v d : Int) : Jv (xRob τ h v d).2.2 (kRob κ τ h v d) := sorry
theorem J_road {τ κ : St} (hJ : Jv τ κ) (e : Int) : Jv (xRoad τ e).2.2 (kRoad κ τ e) := sorry
theorem J_house {τ κ : St} (hJ : Jv τ κ) (c : Int) : Jv (xHouse τ c).2.2 (kHouse κ τ c) := sorry
theorem J_city {τ κ : St} (hJ : Jv τ κ) (c : Int) : Jv (xCity τ c).2.2 (kCity κ τ c) := sorry
theorem J_buy {τ κ : St} (hJ : Jv τ κ) : Jv (xBuy τ).2.2 (kBuy κ τ) := sorry
theorem J_knight {τ κ : St} (hJ : Jv τ κ) (h v d : Int) : Jv (xKnight τ h v d).2.2 (kKnight κ τ h v d) := sorry
theorem J_roads {τ κ : St} (hJ : Jv τ κ) (a b : Int) : Jv (xRoads τ a b).2.2 (kRoads κ τ a b) := sorry
theorem J_plenty {τ κ : St} (hJ : Jv τ κ) (a b : Int) : Jv (xPlenty τ a b).2.2 (kPlenty κ τ a b) := sorry
theorem J_monopoly {τ κ : St} (hJ : Jv τ κ) (g : Int) : Jv (xMono τ g).2.2 (kMono κ τ g) := sorry
theorem J_swap {τ κ : St} (hJ : Jv τ κ) (a b : Int) : Jv (xSwap τ a b).2.2 (kSwap κ τ a b) := sorry
theorem J_offer {τ κ : St} (hJ : Jv τ κ) (a b : Int) : Jv (xOffer τ a b).2.2 κ := sorry
theorem J_counter {τ κ : St} (hJ : Jv τ κ) (p a b : Int) : Jv (xCounter τ p a b).2.2 κ := sorry
theorem J_accept {τ κ : St} (hJ : Jv τ κ) (p : Int) : Jv (xAccept τ p).2.2 (kAccept κ τ p) := sorry
theorem J_agree {τ κ : St} (hJ : Jv τ κ) (p : Int) : Jv (xAgree τ p).2.2 (kAgree κ τ p) := sorry
theorem J_endTurn {τ κ : St} (hJ : Jv τ κ) : Jv (xEnd τ).2.2 κ := sorry
