/-! ===== rolling, as the law looks at it ===== -/
theorem noK_r (w : PW) : noK 8 (rW w) := by
  have hs : ∀ k : Nat, sh k ≠ 8 := by
    intro k
    unfold sh
    split <;> omega
  intro q hq
  unfold rW at hq
  obtain ⟨x, -, rfl⟩ := List.mem_map.mp hq
  refine ⟨hs _, ?_⟩
  obtain ⟨k, e⟩ := x
  rcases e with ⟨n, f | (f | f)⟩ | ⟨c, fs⟩
  · exact trivial
  · exact trivial
  · intro j hj
    have hj : (f j).map sh = some 8 := hj
    obtain ⟨y, -, hy⟩ := Option.map_eq_some_iff.mp hj
    exact hs y hy
  · intro v hv
    obtain ⟨u, -, rfl⟩ := List.mem_map.mp hv
    rcases u with i | (i | (_ | y))
    · exact trivial
    · exact trivial
    · exact trivial
    · exact hs y
theorem noK_fs {fs : List PV} (h : fs.all (fun v => match v with
    | .inr (.inr (some k)) => !Nat.beq k 8
    | _ => true) = true) : ∀ v ∈ fs, noV 8 v := by
  intro v hv
  have h1 := List.all_eq_true.mp h v hv
  rcases v with i | (i | (_ | k))
  · exact trivial
  · exact trivial
  · exact trivial
  · intro hk
    subst hk
    exact absurd h1 (by decide)
theorem noK_c (τ κ : St) : noK 8 (cW τ κ) := by
  unfold noK cW
  dsimp only
  repeat'
    first
      | refine List.forall_mem_cons.mpr ⟨⟨Nat.ne_of_beq_eq_false rfl, ?_⟩, ?_⟩
      | exact (fun _ h => absurd h List.not_mem_nil)
  all_goals
    first
      | exact trivial
      | exact noK_fs rfl
      | (intro j hj; have hj := Option.some.inj hj; omega)
theorem noK_T {τ κ κ2 : St} {X : PW} (h : noK 8 X) : noK 8 (T2 τ κ κ2 X) := by
  intro q hq
  unfold T2 at hq
  rcases List.mem_append.mp hq with hq | hq
  · rcases List.mem_append.mp hq with hq | hq
    · exact h q hq
    · exact noK_c τ κ q hq
  · exact noK_r _ q hq
theorem noK_q (q : Int → Int) : noK 8 [(150, .inl (20, .inl q))] := by
  intro x hx
  rcases List.mem_cons.mp hx with rfl | hx
  · exact ⟨Nat.ne_of_beq_eq_false rfl, trivial⟩
  · cases hx
theorem GX.rt8 {lk : PL} {ro : PRO} {tb : PT} {ret : Option FieldType} {d U : Nat} {G : Nat → PS → Prop} {u : Nat} {τ τ0 κ0 κ1 : St} {X : PW} {pc : Nat} {L : List (Option PV)} {st : List PV} {e : PE} {Q : Int → St → Prop} (hR : Rm RL lk ro tb ret d U (fun v w2 => ∃ e w', w2 = (8, e) :: w' ∧ w'.map Prod.fst = (T2 τ0 κ0 κ1 X).map Prod.fst ∧ PX Q X v w') (8 :: (T2 τ0 κ0 κ1 X).map Prod.fst) G) {i : Int} {P : Prop} (h : pretT tb ret pc st = some (some (vI i), P)) (hP : P) (hQ : Q i τ) : GX G u τ ((8, e) :: X) pc L st := by
  intro κ κ2 h1 h2
  unfold pretT at h
  split at h
  · next j n h0 =>
    have hk : (T2 τ κ κ2 X).map Prod.fst = (T2 τ0 κ0 κ1 X).map Prod.fst := T2_keys rfl
    exact hR.2.2.2.2.2.2.1 u j n pc L st (some (vI i)) P ((8, e) :: T2 τ κ κ2 X) h0 h hP ⟨e, T2 τ κ κ2 X, rfl, hk, ⟨i, τ, κ, κ2, rfl, hQ, h1, h2, rfl⟩⟩ (congrArg (fun l => 8 :: l) hk)
  · cases h
theorem half_7 {t : Int} (h : ¬ 7 < t) : half t = 0 := if_neg h
theorem half_8 {t : Int} (h : 7 < t) : half t = t / 2 := if_pos h
set_option maxHeartbeats 4000000 in
theorem w_rolls {ro : PRO} (hro : ∀ q ∈ roC, q ∈ ro) (hr8 : ∀ q ∈ ro, q.1 ≠ 8) {τ : St} (hJ : Jx τ) {q : Int → Int} (hq : isQ (τ.2.2 0) q) (z : Int) (h1 : τ.1 0 = 1) : SX mL_rolls ro 15 [vR 0, vR 200, vR 150, vI z] τ [(150, .inl (20, .inl q))] (fun i σ => i = 1 ∧ Ov σ) 3 := by
  have hI := hJ.iv
  intro κ0 κ1 hJ0 hJ1
  refine Sm.ofK (KN := 8) ?_ (noK_T (noK_q q)) (noK_fs rfl) hr8 (by decide) ?_
  rotate_left
  · rintro v w' ⟨i, τ', κ', κ2', rfl, -, -, -, rfl⟩
    refine ⟨noK_T (noK_q q), ?_⟩
    intro x hx
    cases hx
    exact trivial
  refine SmK.of (lk := lkL) (tb := bL_rolls) (by decide) lkL_ok tL_rolls (Nat.le_of_ble_eq_true rfl) (by decide) (fun G hR0 hR hN => ?_)
  refine (show GX G 0 τ ([(150, .inl (20, .inl q))]) 0 [some (vR 0), some (vR 200), some (vR 150), some (vI z), none, none, none, none, none, none] [] from ?_) κ0 κ1 hJ0 hJ1
  refine GX.run0 hR0 3 (pc' := 4) (L' := [some (vR 0), some (vR 200), some (vR 150), some (vI z), none, none, none, none, none, none]) (st' := [vI 6, vI z, vI 1]) (X' := [(150, .inl (20, .inl q))]) (fun _ _ => rfl) ?_
  have f1 := smI_r z (n := 6) (by omega)
  refine GX.sx hR0 [vI z, vI 6] (fun w => lp_some (x := z) (n := 6) (by omega) w) kL_158 rfl rfl (by decide) (Nat.le_of_ble_eq_true rfl) (Nat.le_of_ble_eq_true rfl) rfl ?_
  refine GX.run0 hR0 7 (pc' := 16) (L' := [some (vR 0), some (vR 200), some (vR 150), some (vI z), some (vI (1 + (smI z 6))), none, none, none, none, none]) (st' := [vI 6, vI (iSr z 4), vI 1]) (X' := [(150, .inl (20, .inl q))]) (fun _ _ => rfl) ?_
  have f2 := smI_r (iSr z 4) (n := 6) (by omega)
  refine GX.sx hR0 [vI (iSr z 4), vI 6] (fun w => lp_some (x := iSr z 4) (n := 6) (by omega) w) kL_158 rfl rfl (by decide) (Nat.le_of_ble_eq_true rfl) (Nat.le_of_ble_eq_true rfl) rfl ?_
  refine GX.run0 hR0 3 (pc' := 24) (L' := [some (vR 0), some (vR 200), some (vR 150), some (vI z), some (vI (1 + (smI z 6))), some (vI (1 + (smI (iSr z 4) 6))), none, none, none, none]) (st' := [vI 15]) (X' := [(150, .inl (20, .inl q))]) (fun _ _ => rfl) ?_
  have hA : 1 ≤ 1 + smI z 6 ∧ 1 + smI z 6 ≤ 6 := by omega
  have hB : 1 ≤ 1 + smI (iSr z 4) 6 ∧ 1 + smI (iSr z 4) 6 ≤ 6 := by omega
  generalize 1 + smI z 6 = A at hA ⊢
  generalize 1 + smI (iSr z 4) 6 = B at hB ⊢
  refine (fun h κ κ2 a b => hN 24 _ _ (T2 τ κ κ2 [(150, .inl (20, .inl q))]) 15 rfl (by decide) (h κ κ2 a b) : (GX G 1 τ ([(8, .inl (15, .inl (fun _ => 0))), (150, .inl (20, .inl q))]) 26 [some (vR 0), some (vR 200), some (vR 150), some (vI z), some (vI A), some (vI B), none, none, none, none] [vR 8]) → GX G 0 τ [(150, .inl (20, .inl q))] 24 _ _) ?_
  refine GX.run0 hR 3 (pc' := 31) (L' := [some (vR 0), some (vR 200), some (vR 150), some (vI z), some (vI A), some (vI B), some (vR 8), some (vI 0), none, none]) (st' := []) (X' := [(8, .inl (15, .inl (fun _ => 0))), (150, .inl (20, .inl q))]) (fun _ _ => rfl) ?_
  have hL : ∀ k : Nat, k ≤ 15 → GX G 1 τ ([(8, .inl (15, .inl (hQ (fun p g => yTo τ p g (A + B)) (fun _ => 0) (k : Int)))), (150, .inl (20, .inl q))]) 31 [some (vR 0), some (vR 200), some (vR 150), some (vI z), some (vI A), some (vI B), some (vR 8), some (vI (k : Int)), none, none] [] := by
    refine back (P := fun k : Nat => GX G 1 τ ([(8, .inl (15, .inl (hQ (fun p g => yTo τ p g (A + B)) (fun _ => 0) (k : Int)))), (150, .inl (20, .inl q))]) 31 [some (vR 0), some (vR 200), some (vR 150), some (vI z), some (vI A), some (vI B), some (vR 8), some (vI (k : Int)), none, none] []) ?_ ?_
    · intro k hk ih
      replace ih : GX G 1 τ ([(8, .inl (15, .inl (hQ (fun p g => yTo τ p g (A + B)) (fun _ => 0) ((k : Int) + 1)))), (150, .inl (20, .inl q))]) 31 [some (vR 0), some (vR 200), some (vR 150), some (vI z), some (vI A), some (vI B), some (vR 8), some (vI ((k : Int) + 1)), none, none] [] := ih
      rw [← hQ_s _ _ (by omega)] at ih
      have hyr := yTo_r (p := (k : Int) / 5) (u := A + B) (hI.hh 3 ((k : Int) % 5))
      refine GX.run0 hR 2 (pc' := 35) (L' := [some (vR 0), some (vR 200), some (vR 150), some (vI z), some (vI A), some (vI B), some (vR 8), some (vI (k : Int)), none, none]) (st' := [vI 15, vI (k : Int)]) (X' := [(8, .inl (15, .inl (hQ (fun p g => yTo τ p g (A + B)) (fun _ => 0) (k : Int)))), (150, .inl (20, .inl q))]) (fun _ _ => rfl) ?_
      refine GX.br hR (pc1 := 66) (pc2 := 38) (st1 := []) (C := 15 ≤ (k : Int)) (fun _ => rfl) (by first | omega | (dsimp only; omega)) (fun h3 => (by exfalso; omega)) (fun h3 => ?_)
      refine GX.run1 hR 12 (pc' := 56) (L' := [some (vR 0), some (vR 200), some (vR 150), some (vI z), some (vI A), some (vI B), some (vR 8), some (vI (k : Int)), none, none]) (st' := [vI (A + B), vI ((k : Int) % 5), vI ((k : Int) / 5), vR 0, vI (k : Int), vR 8]) (X' := [(8, .inl (15, .inl (hQ (fun p g => yTo τ p g (A + B)) (fun _ => 0) (k : Int)))), (150, .inl (20, .inl q))]) (fun _ _ => rfl) (by first | omega | (dsimp only; omega)) ?_
      refine GX.ask hR hro [vI ((k : Int) / 5), vI ((k : Int) % 5), vI (A + B)] ((q_would τ (by omega) (by omega) (by omega)).gt) kL_122 rfl rfl rfl (by decide) (Nat.le_of_ble_eq_true rfl) (Nat.le_of_ble_eq_true rfl) rfl (fun _ _ => ⟨_, rfl⟩) ?_
      refine GX.run1 hR 3 (pc' := 31) (L' := [some (vR 0), some (vR 200), some (vR 150), some (vI z), some (vI A), some (vI B), some (vR 8), some (vI ((k : Int) + 1)), none, none]) (st' := []) (X' := [(8, .inl (15, .inl (pup (hQ (fun p g => yTo τ p g (A + B)) (fun _ => 0) (k : Int)) (k : Int) (yTo τ ((k : Int) / 5) ((k : Int) % 5) (A + B))))), (150, .inl (20, .inl q))]) (fun _ _ => rfl) (by first | omega | (dsimp only; omega)) ?_
      exact ih
    · show GX G 1 τ ([(8, .inl (15, .inl (hQ (fun p g => yTo τ p g (A + B)) (fun _ => 0) 15))), (150, .inl (20, .inl q))]) 31 [some (vR 0), some (vR 200), some (vR 150), some (vI z), some (vI A), some (vI B), some (vR 8), some (vI 15), none, none] []
      refine GX.run0 hR 2 (pc' := 35) (L' := [some (vR 0), some (vR 200), some (vR 150), some (vI z), some (vI A), some (vI B), some (vR 8), some (vI 15), none, none]) (st' := [vI 15, vI 15]) (X' := [(8, .inl (15, .inl (hQ (fun p g => yTo τ p g (A + B)) (fun _ => 0) 15))), (150, .inl (20, .inl q))]) (fun _ _ => rfl) ?_
      refine GX.br hR (pc1 := 66) (pc2 := 38) (st1 := []) (C := (15 : Int) ≤ 15) (fun _ => rfl) (by first | omega | (dsimp only; omega)) (fun h4 => ?_) (fun h4 => (by exfalso; omega))
      refine GX.run0 hR 6 (pc' := 74) (L' := [some (vR 0), some (vR 200), some (vR 150), some (vI z), some (vI A), some (vI B), some (vR 8), some (vI 15), none, none]) (st' := [vI 0, vI B, vI A, vI 3, vR 200, vR 0]) (X' := [(8, .inl (15, .inl (hQ (fun p g => yTo τ p g (A + B)) (fun _ => 0) 15))), (150, .inl (20, .inl q))]) (fun _ _ => rfl) ?_
      obtain ⟨v5, σ6, hcl, hc⟩ := s_roll hJ h1 hA hB 0
      refine GX.bo hR hro hcl rfl (by decide) (Nat.le_of_ble_eq_true rfl) rfl (by decide) (fun hJ2 => ?_)
      have hI2 := hJ2.iv
      obtain ⟨c0, c7, cn⟩ := hc
      have G1 : ∀ p g : Int, 0 ≤ p ∧ p < 3 → 0 ≤ g ∧ g < 5 → σ6.2.2 0 p g = τ.2.2 0 p g + yTo τ p g (A + B) := by
        intro p g hp hg
        by_cases h7 : A + B = 7
        · rw [(c7 h7).2.1, h7, yTo_7 hI hg]
          omega
        · exact (cn h7).2.1 p g hp hg
      have G2 : ∀ p : Int, 0 ≤ p ∧ p < 3 → A + B = 7 → σ6.2.1 4 p = half (tot (σ6.2.2 0) p) := by
        intro p hp h7
        rw [(c7 h7).2.1]
        exact (c7 h7).2.2.1 p hp
      have G2n : ∀ p : Int, A + B ≠ 7 → σ6.2.1 4 p = 0 := fun p h7 => (cn h7).2.2 p
      have G3 : v5 = 3 → 0 < σ6.2.1 4 0 + σ6.2.1 4 1 + σ6.2.1 4 2 := by
        intro hv
        by_cases h7 : A + B = 7
        · exact (c7 h7).2.2.2 hv
        · have := (cn h7).1
          omega
      have hvr : 2 ≤ v5 ∧ v5 ≤ 4 := by
        by_cases h7 : A + B = 7
        · have := (c7 h7).1
          omega
        · have := (cn h7).1
          omega
      have main : GX G (1 + 2) σ6 ([(8, .inl (15, .inl (hQ (fun p g => yTo τ p g (A + B)) (fun _ => 0) 15))), (150, .inl (20, .inl q))]) 122 [some (vR 0), some (vR 200), some (vR 150), some (vI z), some (vI A), some (vI B), some (vR 8), some (vI v5), some (vI 1), none] [] := by
        refine GX.run0 hR 2 (pc' := 125) (L' := [some (vR 0), some (vR 200), some (vR 150), some (vI z), some (vI A), some (vI B), some (vR 8), some (vI v5), some (vI 1), some (vI 0)]) (st' := []) (X' := [(8, .inl (15, .inl (hQ (fun p g => yTo τ p g (A + B)) (fun _ => 0) 15))), (150, .inl (20, .inl q))]) (fun _ _ => rfl) ?_
        have hM : ∀ k : Nat, k ≤ 15 → GX G (1 + 2) σ6 ([(8, .inl (15, .inl (hQ (fun p g => yTo τ p g (A + B)) (fun _ => 0) 15))), (150, .inl (20, .inl q))]) 125 [some (vR 0), some (vR 200), some (vR 150), some (vI z), some (vI A), some (vI B), some (vR 8), some (vI v5), some (vI 1), some (vI (k : Int))] [] := by
          refine back (P := fun k : Nat => GX G (1 + 2) σ6 ([(8, .inl (15, .inl (hQ (fun p g => yTo τ p g (A + B)) (fun _ => 0) 15))), (150, .inl (20, .inl q))]) 125 [some (vR 0), some (vR 200), some (vR 150), some (vI z), some (vI A), some (vI B), some (vR 8), some (vI v5), some (vI 1), some (vI (k : Int))] []) ?_ ?_
          · intro k hk ih
            replace ih : GX G (1 + 2) σ6 ([(8, .inl (15, .inl (hQ (fun p g => yTo τ p g (A + B)) (fun _ => 0) 15))), (150, .inl (20, .inl q))]) 125 [some (vR 0), some (vR 200), some (vR 150), some (vI z), some (vI A), some (vI B), some (vR 8), some (vI v5), some (vI 1), some (vI ((k : Int) + 1))] [] := ih
            have dk : hQ (fun p g => yTo τ p g (A + B)) (fun _ => 0) 15 (k : Int) = yTo τ ((k : Int) / 5) ((k : Int) % 5) (A + B) := if_pos (by omega)
            have gk := G1 ((k : Int) / 5) ((k : Int) % 5) (by omega) (by omega)
            have qk := hq (k : Int) (by omega)
            have hyr := yTo_r (p := (k : Int) / 5) (u := A + B) (hI.hh 3 ((k : Int) % 5))
            have hkr := hI.hh ((k : Int) / 5) ((k : Int) % 5)
            refine GX.run0 hR 2 (pc' := 129) (L' := [some (vR 0), some (vR 200), some (vR 150), some (vI z), some (vI A), some (vI B), some (vR 8), some (vI v5), some (vI 1), some (vI (k : Int))]) (st' := [vI 15, vI (k : Int)]) (X' := [(8, .inl (15, .inl (hQ (fun p g => yTo τ p g (A + B)) (fun _ => 0) 15))), (150, .inl (20, .inl q))]) (fun _ _ => rfl) ?_
            refine GX.br hR (pc1 := 175) (pc2 := 132) (st1 := []) (C := 15 ≤ (k : Int)) (fun _ => rfl) (by first | omega | (dsimp only; omega)) (fun h7 => (by exfalso; omega)) (fun h7 => ?_)
            refine GX.run0 hR 1 (pc' := 134) (L' := [some (vR 0), some (vR 200), some (vR 150), some (vI z), some (vI A), some (vI B), some (vR 8), some (vI v5), some (vI 1), some (vI (k : Int))]) (st' := [vI 1]) (X' := [(8, .inl (15, .inl (hQ (fun p g => yTo τ p g (A + B)) (fun _ => 0) 15))), (150, .inl (20, .inl q))]) (fun _ _ => rfl) ?_
            refine GX.br hR (pc1 := 175) (pc2 := 137) (st1 := []) (C := (1 : Int) = 0) (fun _ => rfl) (by first | omega | (dsimp only; omega)) (fun h8 => (by exfalso; omega)) (fun h8 => ?_)
            refine GX.run1 hR 7 (pc' := 146) (L' := [some (vR 0), some (vR 200), some (vR 150), some (vI z), some (vI A), some (vI B), some (vR 8), some (vI v5), some (vI 1), some (vI (k : Int))]) (st' := [vI ((k : Int) % 5), vI ((k : Int) / 5), vR 0]) (X' := [(8, .inl (15, .inl (hQ (fun p g => yTo τ p g (A + B)) (fun _ => 0) 15))), (150, .inl (20, .inl q))]) (fun _ _ => rfl) (by first | omega | (dsimp only; omega)) ?_
            have f9 := hI2.hh ((k : Int) / 5) ((k : Int) % 5)
            refine GX.ask hR hro [vI ((k : Int) / 5), vI ((k : Int) % 5)] ((q_hand σ6 (by omega) (by omega)).gt) kL_89 rfl rfl rfl (by decide) (Nat.le_of_ble_eq_true rfl) (Nat.le_of_ble_eq_true rfl) rfl (fun _ _ => ⟨_, rfl⟩) ?_
            refine GX.run1 hR 7 (pc' := 159) (L' := [some (vR 0), some (vR 200), some (vR 150), some (vI z), some (vI A), some (vI B), some (vR 8), some (vI v5), some (vI 1), some (vI (k : Int))]) (st' := [vI ((q (k : Int)) + ((hQ (fun p g => yTo τ p g (A + B)) (fun _ => 0) 15) (k : Int))), vI (σ6.2.2 0 ((k : Int) / 5) ((k : Int) % 5))]) (X' := [(8, .inl (15, .inl (hQ (fun p g => yTo τ p g (A + B)) (fun _ => 0) 15))), (150, .inl (20, .inl q))]) (fun _ _ => rfl) (by first | omega | (dsimp only; omega)) ?_
            refine GX.br hR (pc1 := 166) (pc2 := 162) (st1 := []) (C := σ6.2.2 0 ((k : Int) / 5) ((k : Int) % 5) ≠ ((q (k : Int)) + ((hQ (fun p g => yTo τ p g (A + B)) (fun _ => 0) 15) (k : Int)))) (fun _ => rfl) (by first | omega | (dsimp only; omega)) (fun h10 => (by exfalso; omega)) (fun h10 => ?_)
            refine GX.run0 hR 5 (pc' := 125) (L' := [some (vR 0), some (vR 200), some (vR 150), some (vI z), some (vI A), some (vI B), some (vR 8), some (vI v5), some (vI 1), some (vI ((k : Int) + 1))]) (st' := []) (X' := [(8, .inl (15, .inl (hQ (fun p g => yTo τ p g (A + B)) (fun _ => 0) 15))), (150, .inl (20, .inl q))]) (fun _ _ => rfl) ?_
            exact ih
          · show GX G (1 + 2) σ6 ([(8, .inl (15, .inl (hQ (fun p g => yTo τ p g (A + B)) (fun _ => 0) 15))), (150, .inl (20, .inl q))]) 125 [some (vR 0), some (vR 200), some (vR 150), some (vI z), some (vI A), some (vI B), some (vR 8), some (vI v5), some (vI 1), some (vI 15)] []
            refine GX.run0 hR 2 (pc' := 129) (L' := [some (vR 0), some (vR 200), some (vR 150), some (vI z), some (vI A), some (vI B), some (vR 8), some (vI v5), some (vI 1), some (vI 15)]) (st' := [vI 15, vI 15]) (X' := [(8, .inl (15, .inl (hQ (fun p g => yTo τ p g (A + B)) (fun _ => 0) 15))), (150, .inl (20, .inl q))]) (fun _ _ => rfl) ?_
            refine GX.br hR (pc1 := 175) (pc2 := 132) (st1 := []) (C := (15 : Int) ≤ 15) (fun _ => rfl) (by first | omega | (dsimp only; omega)) (fun h11 => ?_) (fun h11 => (by exfalso; omega))
            refine GX.run0 hR 2 (pc' := 178) (L' := [some (vR 0), some (vR 200), some (vR 150), some (vI z), some (vI A), some (vI B), some (vR 8), some (vI v5), some (vI 1), some (vI 0)]) (st' := []) (X' := [(8, .inl (15, .inl (hQ (fun p g => yTo τ p g (A + B)) (fun _ => 0) 15))), (150, .inl (20, .inl q))]) (fun _ _ => rfl) ?_
            have hP : ∀ p : Nat, p ≤ 3 → GX G (1 + 2) σ6 ([(8, .inl (15, .inl (hQ (fun p g => yTo τ p g (A + B)) (fun _ => 0) 15))), (150, .inl (20, .inl q))]) 178 [some (vR 0), some (vR 200), some (vR 150), some (vI z), some (vI A), some (vI B), some (vR 8), some (vI v5), some (vI 1), some (vI (p : Int))] [] := by
              refine back (P := fun p : Nat => GX G (1 + 2) σ6 ([(8, .inl (15, .inl (hQ (fun p g => yTo τ p g (A + B)) (fun _ => 0) 15))), (150, .inl (20, .inl q))]) 178 [some (vR 0), some (vR 200), some (vR 150), some (vI z), some (vI A), some (vI B), some (vR 8), some (vI v5), some (vI 1), some (vI (p : Int))] []) ?_ ?_
              · intro p hp ih
                replace ih : GX G (1 + 2) σ6 ([(8, .inl (15, .inl (hQ (fun p g => yTo τ p g (A + B)) (fun _ => 0) 15))), (150, .inl (20, .inl q))]) 178 [some (vR 0), some (vR 200), some (vR 150), some (vI z), some (vI A), some (vI B), some (vR 8), some (vI v5), some (vI 1), some (vI ((p : Int) + 1))] [] := ih
                have hto := tot_r (h := σ6.2.2 0) hI2.hh (p : Int)
                refine GX.run0 hR 2 (pc' := 181) (L' := [some (vR 0), some (vR 200), some (vR 150), some (vI z), some (vI A), some (vI B), some (vR 8), some (vI v5), some (vI 1), some (vI (p : Int))]) (st' := [vI 3, vI (p : Int)]) (X' := [(8, .inl (15, .inl (hQ (fun p g => yTo τ p g (A + B)) (fun _ => 0) 15))), (150, .inl (20, .inl q))]) (fun _ _ => rfl) ?_
                refine GX.br hR (pc1 := 244) (pc2 := 184) (st1 := []) (C := 3 ≤ (p : Int)) (fun _ => rfl) (by first | omega | (dsimp only; omega)) (fun h12 => (by exfalso; omega)) (fun h12 => ?_)
                refine GX.run0 hR 1 (pc' := 186) (L' := [some (vR 0), some (vR 200), some (vR 150), some (vI z), some (vI A), some (vI B), some (vR 8), some (vI v5), some (vI 1), some (vI (p : Int))]) (st' := [vI 1]) (X' := [(8, .inl (15, .inl (hQ (fun p g => yTo τ p g (A + B)) (fun _ => 0) 15))), (150, .inl (20, .inl q))]) (fun _ _ => rfl) ?_
                refine GX.br hR (pc1 := 244) (pc2 := 189) (st1 := []) (C := (1 : Int) = 0) (fun _ => rfl) (by first | omega | (dsimp only; omega)) (fun h13 => (by exfalso; omega)) (fun h13 => ?_)
                refine GX.run0 hR 2 (pc' := 192) (L' := [some (vR 0), some (vR 200), some (vR 150), some (vI z), some (vI A), some (vI B), some (vR 8), some (vI v5), some (vI 1), some (vI (p : Int))]) (st' := [vI (p : Int), vR 0]) (X' := [(8, .inl (15, .inl (hQ (fun p g => yTo τ p g (A + B)) (fun _ => 0) 15))), (150, .inl (20, .inl q))]) (fun _ _ => rfl) ?_
                have f14 := hI2.hdu (p : Int)
                refine GX.ask hR hro [vI (p : Int)] ((q_due σ6 (by omega)).gt) kL_95 rfl rfl rfl (by decide) (Nat.le_of_ble_eq_true rfl) (Nat.le_of_ble_eq_true rfl) rfl (fun _ _ => ⟨_, rfl⟩) ?_
                refine GX.run0 hR 4 (pc' := 202) (L' := [some (vR 0), some (vR 200), some (vR 150), some (vI z), some (vI A), some (vI B), some (vR 8), some (vI v5), some (vI 1), some (vI (p : Int))]) (st' := [vI 7, vI (A + B), vI (σ6.2.1 4 (p : Int))]) (X' := [(8, .inl (15, .inl (hQ (fun p g => yTo τ p g (A + B)) (fun _ => 0) 15))), (150, .inl (20, .inl q))]) (fun _ _ => rfl) ?_
                refine GX.br hR (pc1 := 227) (pc2 := 205) (st1 := [vI (σ6.2.1 4 (p : Int))]) (C := A + B ≠ 7) (fun _ => rfl) (by first | omega | (dsimp only; omega)) (fun h15 => ?_) (fun h15 => ?_)
                · skip
                  have g2 := G2n (p : Int) (by omega)
                  refine GX.run0 hR 1 (pc' := 228) (L' := [some (vR 0), some (vR 200), some (vR 150), some (vI z), some (vI A), some (vI B), some (vR 8), some (vI v5), some (vI 1), some (vI (p : Int))]) (st' := [vI 0, vI (σ6.2.1 4 (p : Int))]) (X' := [(8, .inl (15, .inl (hQ (fun p g => yTo τ p g (A + B)) (fun _ => 0) 15))), (150, .inl (20, .inl q))]) (fun _ _ => rfl) ?_
                  refine GX.br hR (pc1 := 235) (pc2 := 231) (st1 := []) (C := σ6.2.1 4 (p : Int) ≠ 0) (fun _ => rfl) (by first | omega | (dsimp only; omega)) (fun h16 => (by exfalso; omega)) (fun h16 => ?_)
                  refine GX.run0 hR 5 (pc' := 178) (L' := [some (vR 0), some (vR 200), some (vR 150), some (vI z), some (vI A), some (vI B), some (vR 8), some (vI v5), some (vI 1), some (vI ((p : Int) + 1))]) (st' := []) (X' := [(8, .inl (15, .inl (hQ (fun p g => yTo τ p g (A + B)) (fun _ => 0) 15))), (150, .inl (20, .inl q))]) (fun _ _ => rfl) ?_
                  exact ih
                · skip
                  have g2 := G2 (p : Int) (by omega) (by omega)
                  refine GX.run0 hR 2 (pc' := 208) (L' := [some (vR 0), some (vR 200), some (vR 150), some (vI z), some (vI A), some (vI B), some (vR 8), some (vI v5), some (vI 1), some (vI (p : Int))]) (st' := [vI (p : Int), vR 0, vI (σ6.2.1 4 (p : Int))]) (X' := [(8, .inl (15, .inl (hQ (fun p g => yTo τ p g (A + B)) (fun _ => 0) 15))), (150, .inl (20, .inl q))]) (fun _ _ => rfl) ?_
                  have f17 := tot_r hI2.hh (p : Int)
                  refine GX.sg hR [vR 0, vI (p : Int)] (fun κ κ2 hJ hJ2 => lp_size hro hJ κ2 ([(8, .inl (15, .inl (hQ (fun p g => yTo τ p g (A + B)) (fun _ => 0) 15))), (150, .inl (20, .inl q))]) (by omega)) kL_165 rfl rfl (by decide) (Nat.le_of_ble_eq_true rfl) (Nat.le_of_ble_eq_true rfl) rfl ?_
                  refine GX.run0 hR 1 (pc' := 213) (L' := [some (vR 0), some (vR 200), some (vR 150), some (vI z), some (vI A), some (vI B), some (vR 8), some (vI v5), some (vI 1), some (vI (p : Int))]) (st' := [vI 7, vI (tot (σ6.2.2 0) (p : Int)), vI (σ6.2.1 4 (p : Int))]) (X' := [(8, .inl (15, .inl (hQ (fun p g => yTo τ p g (A + B)) (fun _ => 0) 15))), (150, .inl (20, .inl q))]) (fun _ _ => rfl) ?_
                  refine GX.br hR (pc1 := 227) (pc2 := 216) (st1 := [vI (σ6.2.1 4 (p : Int))]) (C := tot (σ6.2.2 0) (p : Int) ≤ 7) (fun _ => rfl) (by first | omega | (dsimp only; omega)) (fun h18 => ?_) (fun h18 => ?_)
                  · skip
                    rw [half_7 (by omega)] at g2
                    refine GX.run0 hR 1 (pc' := 228) (L' := [some (vR 0), some (vR 200), some (vR 150), some (vI z), some (vI A), some (vI B), some (vR 8), some (vI v5), some (vI 1), some (vI (p : Int))]) (st' := [vI 0, vI (σ6.2.1 4 (p : Int))]) (X' := [(8, .inl (15, .inl (hQ (fun p g => yTo τ p g (A + B)) (fun _ => 0) 15))), (150, .inl (20, .inl q))]) (fun _ _ => rfl) ?_
                    refine GX.br hR (pc1 := 235) (pc2 := 231) (st1 := []) (C := σ6.2.1 4 (p : Int) ≠ 0) (fun _ => rfl) (by first | omega | (dsimp only; omega)) (fun h19 => (by exfalso; omega)) (fun h19 => ?_)
                    refine GX.run0 hR 5 (pc' := 178) (L' := [some (vR 0), some (vR 200), some (vR 150), some (vI z), some (vI A), some (vI B), some (vR 8), some (vI v5), some (vI 1), some (vI ((p : Int) + 1))]) (st' := []) (X' := [(8, .inl (15, .inl (hQ (fun p g => yTo τ p g (A + B)) (fun _ => 0) 15))), (150, .inl (20, .inl q))]) (fun _ _ => rfl) ?_
                    exact ih
                  · skip
                    rw [half_8 (by omega)] at g2
                    refine GX.run0 hR 2 (pc' := 219) (L' := [some (vR 0), some (vR 200), some (vR 150), some (vI z), some (vI A), some (vI B), some (vR 8), some (vI v5), some (vI 1), some (vI (p : Int))]) (st' := [vI (p : Int), vR 0, vI (σ6.2.1 4 (p : Int))]) (X' := [(8, .inl (15, .inl (hQ (fun p g => yTo τ p g (A + B)) (fun _ => 0) 15))), (150, .inl (20, .inl q))]) (fun _ _ => rfl) ?_
                    have f20 := tot_r hI2.hh (p : Int)
                    refine GX.sg hR [vR 0, vI (p : Int)] (fun κ κ2 hJ hJ2 => lp_size hro hJ κ2 ([(8, .inl (15, .inl (hQ (fun p g => yTo τ p g (A + B)) (fun _ => 0) 15))), (150, .inl (20, .inl q))]) (by omega)) kL_165 rfl rfl (by decide) (Nat.le_of_ble_eq_true rfl) (Nat.le_of_ble_eq_true rfl) rfl ?_
                    refine GX.run1 hR 3 (pc' := 228) (L' := [some (vR 0), some (vR 200), some (vR 150), some (vI z), some (vI A), some (vI B), some (vR 8), some (vI v5), some (vI 1), some (vI (p : Int))]) (st' := [vI ((tot (σ6.2.2 0) (p : Int)) / 2), vI (σ6.2.1 4 (p : Int))]) (X' := [(8, .inl (15, .inl (hQ (fun p g => yTo τ p g (A + B)) (fun _ => 0) 15))), (150, .inl (20, .inl q))]) (fun _ _ => rfl) (by first | omega | (dsimp only; omega)) ?_
                    refine GX.br hR (pc1 := 235) (pc2 := 231) (st1 := []) (C := σ6.2.1 4 (p : Int) ≠ (tot (σ6.2.2 0) (p : Int)) / 2) (fun _ => rfl) (by first | omega | (dsimp only; omega)) (fun h21 => (by exfalso; omega)) (fun h21 => ?_)
                    refine GX.run0 hR 5 (pc' := 178) (L' := [some (vR 0), some (vR 200), some (vR 150), some (vI z), some (vI A), some (vI B), some (vR 8), some (vI v5), some (vI 1), some (vI ((p : Int) + 1))]) (st' := []) (X' := [(8, .inl (15, .inl (hQ (fun p g => yTo τ p g (A + B)) (fun _ => 0) 15))), (150, .inl (20, .inl q))]) (fun _ _ => rfl) ?_
                    exact ih
              · show GX G (1 + 2) σ6 ([(8, .inl (15, .inl (hQ (fun p g => yTo τ p g (A + B)) (fun _ => 0) 15))), (150, .inl (20, .inl q))]) 178 [some (vR 0), some (vR 200), some (vR 150), some (vI z), some (vI A), some (vI B), some (vR 8), some (vI v5), some (vI 1), some (vI 3)] []
                refine GX.run0 hR 2 (pc' := 181) (L' := [some (vR 0), some (vR 200), some (vR 150), some (vI z), some (vI A), some (vI B), some (vR 8), some (vI v5), some (vI 1), some (vI 3)]) (st' := [vI 3, vI 3]) (X' := [(8, .inl (15, .inl (hQ (fun p g => yTo τ p g (A + B)) (fun _ => 0) 15))), (150, .inl (20, .inl q))]) (fun _ _ => rfl) ?_
                refine GX.br hR (pc1 := 244) (pc2 := 184) (st1 := []) (C := (3 : Int) ≤ 3) (fun _ => rfl) (by first | omega | (dsimp only; omega)) (fun h22 => ?_) (fun h22 => (by exfalso; omega))
                refine GX.run0 hR 1 (pc' := 246) (L' := [some (vR 0), some (vR 200), some (vR 150), some (vI z), some (vI A), some (vI B), some (vR 8), some (vI v5), some (vI 1), some (vI 3)]) (st' := [vI 1]) (X' := [(8, .inl (15, .inl (hQ (fun p g => yTo τ p g (A + B)) (fun _ => 0) 15))), (150, .inl (20, .inl q))]) (fun _ _ => rfl) ?_
                refine GX.br hR (pc1 := 288) (pc2 := 249) (st1 := []) (C := (1 : Int) = 0) (fun _ => rfl) (by first | omega | (dsimp only; omega)) (fun h23 => (by exfalso; omega)) (fun h23 => ?_)
                refine GX.run0 hR 1 (pc' := 250) (L' := [some (vR 0), some (vR 200), some (vR 150), some (vI z), some (vI A), some (vI B), some (vR 8), some (vI v5), some (vI 1), some (vI 3)]) (st' := [vR 0]) (X' := [(8, .inl (15, .inl (hQ (fun p g => yTo τ p g (A + B)) (fun _ => 0) 15))), (150, .inl (20, .inl q))]) (fun _ _ => rfl) ?_
                have f24 := hI2.hph
                refine GX.ask hR hro [] ((q_phase σ6).gt) kL_125 rfl rfl rfl (by decide) (Nat.le_of_ble_eq_true rfl) (Nat.le_of_ble_eq_true rfl) rfl (fun _ _ => ⟨_, rfl⟩) ?_
                refine GX.run0 hR 1 (pc' := 255) (L' := [some (vR 0), some (vR 200), some (vR 150), some (vI z), some (vI A), some (vI B), some (vR 8), some (vI v5), some (vI 1), some (vI 3)]) (st' := [vI v5, vI (σ6.1 0)]) (X' := [(8, .inl (15, .inl (hQ (fun p g => yTo τ p g (A + B)) (fun _ => 0) 15))), (150, .inl (20, .inl q))]) (fun _ _ => rfl) ?_
                refine GX.br hR (pc1 := 288) (pc2 := 258) (st1 := []) (C := σ6.1 0 ≠ v5) (fun _ => rfl) (by first | omega | (dsimp only; omega)) (fun h25 => (by exfalso; omega)) (fun h25 => ?_)
                refine GX.run0 hR 2 (pc' := 261) (L' := [some (vR 0), some (vR 200), some (vR 150), some (vI z), some (vI A), some (vI B), some (vR 8), some (vI v5), some (vI 1), some (vI 3)]) (st' := [vI 3, vI v5]) (X' := [(8, .inl (15, .inl (hQ (fun p g => yTo τ p g (A + B)) (fun _ => 0) 15))), (150, .inl (20, .inl q))]) (fun _ _ => rfl) ?_
                refine GX.br hR (pc1 := 284) (pc2 := 264) (st1 := []) (C := v5 ≠ 3) (fun _ => rfl) (by first | omega | (dsimp only; omega)) (fun h26 => ?_) (fun h26 => ?_)
                · skip
                  refine GX.run0 hR 2 (pc' := 289) (L' := [some (vR 0), some (vR 200), some (vR 150), some (vI z), some (vI A), some (vI B), some (vR 8), some (vI v5), some (vI 1), some (vI 3)]) (st' := [vI 1]) (X' := [(8, .inl (15, .inl (hQ (fun p g => yTo τ p g (A + B)) (fun _ => 0) 15))), (150, .inl (20, .inl q))]) (fun _ _ => rfl) ?_
                  exact GX.rt8 hR rfl (.inr rfl) ⟨rfl, Ov.of (by omega)⟩
                · skip
                  have g3 := G3 (by omega)
                  refine GX.run0 hR 2 (pc' := 266) (L' := [some (vR 0), some (vR 200), some (vR 150), some (vI z), some (vI A), some (vI B), some (vR 8), some (vI v5), some (vI 1), some (vI 3)]) (st' := [vI 0, vR 0]) (X' := [(8, .inl (15, .inl (hQ (fun p g => yTo τ p g (A + B)) (fun _ => 0) 15))), (150, .inl (20, .inl q))]) (fun _ _ => rfl) ?_
                  have f27 := hI2.hdu 0
                  refine GX.ask hR hro [vI 0] ((q_due σ6 (by omega)).gt) kL_95 rfl rfl rfl (by decide) (Nat.le_of_ble_eq_true rfl) (Nat.le_of_ble_eq_true rfl) rfl (fun _ _ => ⟨_, rfl⟩) ?_
                  refine GX.run0 hR 2 (pc' := 271) (L' := [some (vR 0), some (vR 200), some (vR 150), some (vI z), some (vI A), some (vI B), some (vR 8), some (vI v5), some (vI 1), some (vI 3)]) (st' := [vI 1, vR 0, vI (σ6.2.1 4 0)]) (X' := [(8, .inl (15, .inl (hQ (fun p g => yTo τ p g (A + B)) (fun _ => 0) 15))), (150, .inl (20, .inl q))]) (fun _ _ => rfl) ?_
                  have f28 := hI2.hdu 1
                  refine GX.ask hR hro [vI 1] ((q_due σ6 (by omega)).gt) kL_95 rfl rfl rfl (by decide) (Nat.le_of_ble_eq_true rfl) (Nat.le_of_ble_eq_true rfl) rfl (fun _ _ => ⟨_, rfl⟩) ?_
                  refine GX.run0 hR 3 (pc' := 277) (L' := [some (vR 0), some (vR 200), some (vR 150), some (vI z), some (vI A), some (vI B), some (vR 8), some (vI v5), some (vI 1), some (vI 3)]) (st' := [vI 2, vR 0, vI ((σ6.2.1 4 0) + (σ6.2.1 4 1))]) (X' := [(8, .inl (15, .inl (hQ (fun p g => yTo τ p g (A + B)) (fun _ => 0) 15))), (150, .inl (20, .inl q))]) (fun _ _ => rfl) ?_
                  have f29 := hI2.hdu 2
                  refine GX.ask hR hro [vI 2] ((q_due σ6 (by omega)).gt) kL_95 rfl rfl rfl (by decide) (Nat.le_of_ble_eq_true rfl) (Nat.le_of_ble_eq_true rfl) rfl (fun _ _ => ⟨_, rfl⟩) ?_
                  refine GX.run0 hR 1 (pc' := 281) (L' := [some (vR 0), some (vR 200), some (vR 150), some (vI z), some (vI A), some (vI B), some (vR 8), some (vI v5), some (vI 1), some (vI 3)]) (st' := [vI (((σ6.2.1 4 0) + (σ6.2.1 4 1)) + (σ6.2.1 4 2))]) (X' := [(8, .inl (15, .inl (hQ (fun p g => yTo τ p g (A + B)) (fun _ => 0) 15))), (150, .inl (20, .inl q))]) (fun _ _ => rfl) ?_
                  refine GX.br hR (pc1 := 288) (pc2 := 284) (st1 := []) (C := ((σ6.2.1 4 0) + (σ6.2.1 4 1)) + (σ6.2.1 4 2) ≤ 0) (fun _ => rfl) (by first | omega | (dsimp only; omega)) (fun h30 => (by exfalso; omega)) (fun h30 => ?_)
                  refine GX.run0 hR 2 (pc' := 289) (L' := [some (vR 0), some (vR 200), some (vR 150), some (vI z), some (vI A), some (vI B), some (vR 8), some (vI v5), some (vI 1), some (vI 3)]) (st' := [vI 1]) (X' := [(8, .inl (15, .inl (hQ (fun p g => yTo τ p g (A + B)) (fun _ => 0) 15))), (150, .inl (20, .inl q))]) (fun _ _ => rfl) ?_
                  exact GX.rt8 hR rfl (.inr rfl) ⟨rfl, Ov.of (by omega)⟩
            exact hP 0 (Nat.zero_le _)
        exact hM 0 (Nat.zero_le _)
      refine GX.run0 hR 5 (pc' := 86) (L' := [some (vR 0), some (vR 200), some (vR 150), some (vI z), some (vI A), some (vI B), some (vR 8), some (vI v5), none, none]) (st' := [vI 7, vI (A + B)]) (X' := [(8, .inl (15, .inl (hQ (fun p g => yTo τ p g (A + B)) (fun _ => 0) 15))), (150, .inl (20, .inl q))]) (fun _ _ => rfl) ?_
      refine GX.br hR (pc1 := 109) (pc2 := 89) (st1 := []) (C := A + B ≠ 7) (fun _ => rfl) (by first | omega | (dsimp only; omega)) (fun h31 => ?_) (fun h31 => ?_)
      · skip
        have cv := (cn (by omega)).1
        refine GX.run0 hR 2 (pc' := 112) (L' := [some (vR 0), some (vR 200), some (vR 150), some (vI z), some (vI A), some (vI B), some (vR 8), some (vI v5), none, none]) (st' := [vI 2, vI v5]) (X' := [(8, .inl (15, .inl (hQ (fun p g => yTo τ p g (A + B)) (fun _ => 0) 15))), (150, .inl (20, .inl q))]) (fun _ _ => rfl) ?_
        refine GX.br hR (pc1 := 119) (pc2 := 115) (st1 := []) (C := v5 ≠ 2) (fun _ => rfl) (by first | omega | (dsimp only; omega)) (fun h32 => (by exfalso; omega)) (fun h32 => ?_)
        refine GX.run0 hR 3 (pc' := 122) (L' := [some (vR 0), some (vR 200), some (vR 150), some (vI z), some (vI A), some (vI B), some (vR 8), some (vI v5), some (vI 1), none]) (st' := []) (X' := [(8, .inl (15, .inl (hQ (fun p g => yTo τ p g (A + B)) (fun _ => 0) 15))), (150, .inl (20, .inl q))]) (fun _ _ => rfl) ?_
        exact main
      · skip
        have cv := (c7 (by omega)).1
        refine GX.run0 hR 2 (pc' := 92) (L' := [some (vR 0), some (vR 200), some (vR 150), some (vI z), some (vI A), some (vI B), some (vR 8), some (vI v5), none, none]) (st' := [vI 3, vI v5]) (X' := [(8, .inl (15, .inl (hQ (fun p g => yTo τ p g (A + B)) (fun _ => 0) 15))), (150, .inl (20, .inl q))]) (fun _ _ => rfl) ?_
        refine GX.br hR (pc1 := 101) (pc2 := 95) (st1 := []) (C := v5 = 3) (fun _ => rfl) (by first | omega | (dsimp only; omega)) (fun h33 => ?_) (fun h33 => ?_)
        · skip
          refine GX.run0 hR 3 (pc' := 122) (L' := [some (vR 0), some (vR 200), some (vR 150), some (vI z), some (vI A), some (vI B), some (vR 8), some (vI v5), some (vI 1), none]) (st' := []) (X' := [(8, .inl (15, .inl (hQ (fun p g => yTo τ p g (A + B)) (fun _ => 0) 15))), (150, .inl (20, .inl q))]) (fun _ _ => rfl) ?_
          exact main
        · skip
          refine GX.run0 hR 2 (pc' := 98) (L' := [some (vR 0), some (vR 200), some (vR 150), some (vI z), some (vI A), some (vI B), some (vR 8), some (vI v5), none, none]) (st' := [vI 4, vI v5]) (X' := [(8, .inl (15, .inl (hQ (fun p g => yTo τ p g (A + B)) (fun _ => 0) 15))), (150, .inl (20, .inl q))]) (fun _ _ => rfl) ?_
          refine GX.br hR (pc1 := 105) (pc2 := 101) (st1 := []) (C := v5 ≠ 4) (fun _ => rfl) (by first | omega | (dsimp only; omega)) (fun h34 => (by exfalso; omega)) (fun h34 => ?_)
          refine GX.run0 hR 3 (pc' := 122) (L' := [some (vR 0), some (vR 200), some (vR 150), some (vI z), some (vI A), some (vI B), some (vR 8), some (vI v5), some (vI 1), none]) (st' := []) (X' := [(8, .inl (15, .inl (hQ (fun p g => yTo τ p g (A + B)) (fun _ => 0) 15))), (150, .inl (20, .inl q))]) (fun _ _ => rfl) ?_
          exact main
  have hE := hL 0 (Nat.zero_le _)
  replace hE : GX G 1 τ ([(8, .inl (15, .inl (hQ (fun p g => yTo τ p g (A + B)) (fun _ => 0) 0))), (150, .inl (20, .inl q))]) 31 [some (vR 0), some (vR 200), some (vR 150), some (vI z), some (vI A), some (vI B), some (vR 8), some (vI 0), none, none] [] := hE
  rw [hQ_0] at hE
  exact hE
