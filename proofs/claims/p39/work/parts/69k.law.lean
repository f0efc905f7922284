/-! ===== the law's own row of numbers, and its loop ===== -/
def clC (xs : Int → Int) (N : Nat) (k : Int) : Int := if k < (N : Int) then xs k else 87991 * (k + 59)
def clV (xs : Int → Int) (N : Nat) (k : Int) : Int := iX (clC xs N k) (iUs (clC xs N k) 16) * 1505984027 + 179 * k
theorem Ru.rd {lk : PL} {tb : PT} {d N : Nat} {xs : Int → Int} {o : PO} {w' : PW} {ret : Option FieldType} {G : PS → Prop} (hR : Ru RL lk ((98, N, xs) :: roC) tb ret d o w' G) (hN : N ≤ 2048) {i : Int} {L : List (Option PV)} {st : List PV} {pc : Nat} {w : PW} (h0 : alk tb pc = some (.iaload, 1)) (hw : alk w 98 = none) (hi : 0 ≤ i ∧ i < N) (kk : G (pc + 1, L, vI (xs i) :: st, w)) : G (pc, L, vI i :: vR 98 :: st, w) := by
  have hb : Nat.ble N 1000000 = true := Nat.ble_eq_true_of_le (by omega)
  refine hR.1 1 _ (pc + 1, L, vI (xs i) :: st, w) (some (0 ≤ i ∧ i < (N : Int))) ?_ (fun q h => by cases h; exact hi) kk
  have h2 : alk (((98, N, xs) :: roC) : PRO) 98 = some (N, xs) := rfl
  have h1 : pst lk ((98, N, xs) :: roC) .iaload 1 (pc, L, vI i :: vR 98 :: st, w) = some ((pc + 1, L, vI (xs i) :: st, w), some (0 ≤ i ∧ i < (N : Int))) := by
    show s_iald ((98, N, xs) :: roC) 1 pc L (vI i :: vR 98 :: st) w = _
    unfold s_iald
    simp only [hw, h2, hb]
    rfl
  unfold prun
  simp only [h0, h1]
  rfl
theorem Ru.ln {lk : PL} {tb : PT} {d N : Nat} {xs : Int → Int} {o : PO} {w' : PW} {ret : Option FieldType} {G : PS → Prop} (hR : Ru RL lk ((98, N, xs) :: roC) tb ret d o w' G) (hN : N ≤ 2048) {L : List (Option PV)} {st : List PV} {pc : Nat} {w : PW} (h0 : alk tb pc = some (.arraylength, 1)) (hw : alk w 98 = none) (kk : G (pc + 1, L, vI (N : Int) :: st, w)) : G (pc, L, vR 98 :: st, w) := by
  refine hR.1 1 _ (pc + 1, L, vI (N : Int) :: st, w) none ?_ (fun q h => by cases h) kk
  have h2 : alk (((98, N, xs) :: roC) : PRO) 98 = some (N, xs) := rfl
  have h1 : pst lk ((98, N, xs) :: roC) .arraylength 1 (pc, L, vR 98 :: st, w) = some ((pc + 1, L, vI (N : Int) :: st, w), none) := by
    show s_alen ((98, N, xs) :: roC) 1 pc L (vR 98 :: st) w = _
    unfold s_alen
    simp only [hw, h2]
    rfl
  unfold prun
  simp only [h0, h1]
  rfl
theorem lp_cell {xs : Int → Int} {N : Nat} (hN : N ≤ 260) {k : Int} (hk : 0 ≤ k ∧ k ≤ 1000) {w : PW} (hw : alk w 98 = none) : Sp mL_cell ((98, N, xs) :: roC) 0 [vR 98, vI k] w (.inl (some (vI (clV xs N k)))) w := by
  refine Sp.of (lk := lkL) (tb := bL_cell) (by decide) lkL_ok tL_cell rfl (Nat.le_of_ble_eq_true rfl) (fun G hR => ?_)
  have main : ∀ c : Int, c = clC xs N k → G (19, [some (vR 98), some (vI k), none], [vI c], w) := by
    intro c hc
    refine hR.run0 12 (S' := (35, [some (vR 98), some (vI k), some (vI c)], [vI ((iX c (iUs c 16)) * 1505984027 + 179 * k)], w)) rfl ?_
    refine hR.rt rfl trivial ?_ rfl
    rw [hc]
    rfl
  refine hR.run0 2 (S' := (2, [some (vR 98), some (vI k), none], [vR 98, vI k], w)) rfl ?_
  refine hR.ln (by omega) rfl hw ?_
  refine hR.br (C := (N : Int) ≤ k) rfl (by omega) (fun h => ?_) (fun h => ?_)
  · refine hR.run0 5 (S' := (19, [some (vR 98), some (vI k), none], [vI (87991 * (k + 59))], w)) rfl ?_
    refine main _ ?_
    unfold clC
    rw [if_neg (by omega)]
  · refine hR.run0 2 (S' := (8, [some (vR 98), some (vI k), none], [vI k, vR 98], w)) rfl ?_
    refine hR.rd (by omega) rfl hw (by omega) ?_
    refine hR.run0 1 (S' := (19, [some (vR 98), some (vI k), none], [vI (xs k)], w)) rfl ?_
    refine main _ ?_
    unfold clC
    rw [if_pos (by omega)]
theorem nxtT_eq {t : Int} (ht : 0 ≤ t ∧ t < 3) : nxtT t = (t + 1) % 3 := by
  unfold nxtT
  split <;> omega
theorem GX.fin {lk : PL} {ro : PRO} {tb : PT} {ret : Option FieldType} {d U : Nat} {ks : List Nat} {G : Nat → PS → Prop} {u : Nat} {τ : St} {X : PW} {pc : Nat} {L : List (Option PV)} {st : List PV} (hR : Rm RL lk ro tb ret d U (fun v _ => v = some (vI 1)) ks G) (hk : kT X ks) {P : Prop} (h : pretT tb ret pc st = some (some (vI 1), P)) (hP : P) : GX G u τ X pc L st := by
  intro κ κ2 h1 h2
  unfold pretT at h
  split at h
  · next j n h0 => exact hR.2.2.2.2.2.2.1 u j n pc L st (some (vI 1)) P _ h0 h hP rfl (hk τ κ κ2)
  · cases h
set_option maxRecDepth 20000 in
set_option maxHeartbeats 8000000 in
theorem law_loop {xs : Int → Int} {N : Nat} (hx : N ≤ 260 ∧ ∀ j, -2147483648 ≤ xs j ∧ xs j ≤ 2147483647) {ks : List Nat} {G : Nat → PS → Prop} (hk : ∀ q : Int → Int, kT [(150, .inl (20, .inl q))] ks) (hR : Rm RL lkL ((98, N, xs) :: roC) bL_law (some .boolean) 100 6100 (fun v _ => v = some (vI 1)) ks G) : ∀ (n u : Nat) (t : Int) (τ : St) (q : Int → Int), t + n = 150 → 0 ≤ t → u + 40 * n ≤ 6050 → Jx τ → Ov τ → GX G u τ ([(150, .inl (20, .inl q))]) 50 [some (vR 98), some (vR 0), some (vR 200), some (vR 150), some (vI 1), some (vI t), none, none, none, none, none, none, none, none] [] := by
  have hro : ∀ q ∈ roC, q ∈ ((98, N, xs) :: roC : PRO) := fun q hq => List.mem_cons_of_mem _ hq
  have hr8 : ∀ q ∈ ((98, N, xs) :: roC : PRO), q.1 ≠ 8 := by
    intro q hq
    rcases List.mem_cons.mp hq with rfl | hq
    · show 98 ≠ 8
      decide
    · have e : q = (99, 15, ordF) := by simpa [roC] using hq
      rw [e]
      show 99 ≠ 8
      decide
  intro n
  induction n with
  | zero =>
    intro u t τ q htn ht0 hu hJ hO
    have hI := hJ.iv
    refine GX.run0 hR 2 (pc' := 55) (L' := [some (vR 98), some (vR 0), some (vR 200), some (vR 150), some (vI 1), some (vI t), none, none, none, none, none, none, none, none]) (st' := [vI 150, vI t]) (X' := [(150, .inl (20, .inl q))]) (fun _ _ => rfl) ?_
    refine GX.br hR (pc1 := 684) (pc2 := 58) (st1 := []) (C := 150 ≤ t) (fun _ => rfl) (by first | omega | (dsimp only; omega)) (fun h1 => ?_) (fun h1 => (by exfalso; omega))
    refine GX.run0 hR 1 (pc' := 686) (L' := [some (vR 98), some (vR 0), some (vR 200), some (vR 150), some (vI 1), some (vI t), none, none, none, none, none, none, none, none]) (st' := [vI 1]) (X' := [(150, .inl (20, .inl q))]) (fun _ _ => rfl) ?_
    refine GX.br hR (pc1 := 705) (pc2 := 689) (st1 := []) (C := (1 : Int) = 0) (fun _ => rfl) (by first | omega | (dsimp only; omega)) (fun h2 => (by exfalso; omega)) (fun h2 => ?_)
    refine GX.run0 hR 1 (pc' := 690) (L' := [some (vR 98), some (vR 0), some (vR 200), some (vR 150), some (vI 1), some (vI t), none, none, none, none, none, none, none, none]) (st' := [vR 0]) (X' := [(150, .inl (20, .inl q))]) (fun _ _ => rfl) ?_
    refine GX.sg hR [vR 0] (fun κ κ2 hJ hJ2 => lp_all1 hro hJ κ2 _) kL_173 rfl rfl (by decide) (Nat.le_of_ble_eq_true rfl) (Nat.le_of_ble_eq_true rfl) rfl ?_
    refine GX.run0 hR 1 (pc' := 694) (L' := [some (vR 98), some (vR 0), some (vR 200), some (vR 150), some (vI 1), some (vI t), none, none, none, none, none, none, none, none]) (st' := [vR 200, vL (nmL (dgA τ))]) (X' := [(150, .inl (20, .inl q))]) (fun _ _ => rfl) ?_
    refine GX.sg hR [vR 200] (fun κ κ2 hJ hJ2 => lp_all2 hro hJ2 κ _) kL_173 rfl rfl (by decide) (Nat.le_of_ble_eq_true rfl) (Nat.le_of_ble_eq_true rfl) rfl ?_
    refine GX.run1 hR 1 (pc' := 698) (L' := [some (vR 98), some (vR 0), some (vR 200), some (vR 150), some (vI 1), some (vI t), none, none, none, none, none, none, none, none]) (st' := [vI (if nmL (dgA τ) < nmL (dgA τ) then 1 else if nmL (dgA τ) = nmL (dgA τ) then 0 else -1)]) (X' := [(150, .inl (20, .inl q))]) (fun _ _ => rfl) ⟨nmL_r _, nmL_r _⟩ ?_
    rw [lc_eq]
    refine GX.br hR (pc1 := 705) (pc2 := 701) (st1 := []) (C := (0 : Int) ≠ 0) (fun _ => rfl) (by first | omega | (dsimp only; omega)) (fun h3 => (by exfalso; omega)) (fun h3 => ?_)
    refine GX.run0 hR 2 (pc' := 706) (L' := [some (vR 98), some (vR 0), some (vR 200), some (vR 150), some (vI 1), some (vI t), none, none, none, none, none, none, none, none]) (st' := [vI 1]) (X' := [(150, .inl (20, .inl q))]) (fun _ _ => rfl) ?_
    exact GX.fin hR (hk q) rfl (.inr rfl)
  | succ n ih =>
    intro u t τ q htn ht0 hu hJ hO
    have hI := hJ.iv
    have ht := hI.htu
    have c678 : ∀ (u' : Nat) (τ' : St) (q' : Int → Int), u' ≤ u + 40 → Jx τ' → Ov τ' → GX G u' τ' ([(150, .inl (20, .inl q'))]) 678 [some (vR 98), some (vR 0), some (vR 200), some (vR 150), some (vI 1), some (vI t), none, none, none, none, none, none, none, none] [] := by
      intro u' τ' q' hu' hJ' hO'
      refine GX.run0 hR 2 (pc' := 50) (L' := [some (vR 98), some (vR 0), some (vR 200), some (vR 150), some (vI 1), some (vI (t + 1)), none, none, none, none, none, none, none, none]) (st' := []) (X' := [(150, .inl (20, .inl q'))]) (fun _ _ => rfl) ?_
      exact ih u' (t + 1) τ' q' (by omega) (by omega) (by omega) hJ' hO'
    have c656 : ∀ (u' : Nat) (τ' : St) (q' : Int → Int), u' ≤ u + 12 → Jx τ' → Ov τ' → GX G u' τ' ([(150, .inl (20, .inl q'))]) 656 [some (vR 98), some (vR 0), some (vR 200), some (vR 150), some (vI 1), some (vI t), none, none, none, none, none, none, none, none] [] := by
      intro u' τ' q' hu' hJ' hO'
      refine GX.run1 hR 3 (pc' := 661) (L' := [some (vR 98), some (vR 0), some (vR 200), some (vR 150), some (vI 1), some (vI t), none, none, none, none, none, none, none, none]) (st' := [vI (t % 25)]) (X' := [(150, .inl (20, .inl q'))]) (fun _ _ => rfl) (by first | omega | (dsimp only; omega)) ?_
      refine GX.br hR (pc1 := 671) (pc2 := 664) (st1 := []) (C := 0 < t % 25) (fun _ => rfl) (by first | omega | (dsimp only; omega)) (fun h1 => ?_) (fun h1 => ?_)
      · skip
        refine GX.run0 hR 3 (pc' := 678) (L' := [some (vR 98), some (vR 0), some (vR 200), some (vR 150), some (vI 1), some (vI t), none, none, none, none, none, none, none, none]) (st' := []) (X' := [(150, .inl (20, .inl q'))]) (fun _ _ => rfl) ?_
        exact c678 _ _ _ (by omega) hJ' hO'
      · skip
        refine GX.run0 hR 1 (pc' := 665) (L' := [some (vR 98), some (vR 0), some (vR 200), some (vR 150), some (vI 1), some (vI t), none, none, none, none, none, none, none, none]) (st' := [vR 0]) (X' := [(150, .inl (20, .inl q'))]) (fun _ _ => rfl) ?_
        refine GX.sm hR [vR 0] (w_refused hro hJ' (q := q')) kL_179 rfl rfl (by decide) (Nat.le_of_ble_eq_true rfl) (Nat.le_of_ble_eq_true rfl) rfl (by omega) (fun i σ hqq hJ3 => ?_)
        obtain ⟨i1, i2⟩ := hqq
        rw [i1]
        rw [i2]
        refine GX.br hR (pc1 := 675) (pc2 := 671) (st1 := []) (C := (1 : Int) = 0) (fun _ => rfl) (by first | omega | (dsimp only; omega)) (fun h2 => (by exfalso; omega)) (fun h2 => ?_)
        refine GX.run0 hR 3 (pc' := 678) (L' := [some (vR 98), some (vR 0), some (vR 200), some (vR 150), some (vI 1), some (vI t), none, none, none, none, none, none, none, none]) (st' := []) (X' := [(150, .inl (20, .inl q'))]) (fun _ _ => rfl) ?_
        exact c678 _ _ _ (by omega) hJ' hO'
    have main : ∀ (u' : Nat) (τ' : St) (q' : Int → Int), u' ≤ u + 12 → Jx τ' → Ov τ' → GX G u' τ' ([(150, .inl (20, .inl q'))]) 632 [some (vR 98), some (vR 0), some (vR 200), some (vR 150), some (vI 1), some (vI t), none, none, none, none, none, none, none, none] [] := by
      intro u' τ' q' hu' hJ' hO'
      refine GX.run0 hR 1 (pc' := 634) (L' := [some (vR 98), some (vR 0), some (vR 200), some (vR 150), some (vI 1), some (vI t), none, none, none, none, none, none, none, none]) (st' := [vI 1]) (X' := [(150, .inl (20, .inl q'))]) (fun _ _ => rfl) ?_
      refine GX.br hR (pc1 := 675) (pc2 := 637) (st1 := []) (C := (1 : Int) = 0) (fun _ => rfl) (by first | omega | (dsimp only; omega)) (fun h1 => (by exfalso; omega)) (fun h1 => ?_)
      refine GX.run1 hR 3 (pc' := 641) (L' := [some (vR 98), some (vR 0), some (vR 200), some (vR 150), some (vI 1), some (vI t), none, none, none, none, none, none, none, none]) (st' := [vI (t % 4)]) (X' := [(150, .inl (20, .inl q'))]) (fun _ _ => rfl) (by first | omega | (dsimp only; omega)) ?_
      refine GX.br hR (pc1 := 656) (pc2 := 644) (st1 := []) (C := 0 < t % 4) (fun _ => rfl) (by first | omega | (dsimp only; omega)) (fun h2 => ?_) (fun h2 => ?_)
      · skip
        exact c656 _ _ _ hu' hJ' hO'
      · skip
        refine GX.run0 hR 1 (pc' := 645) (L' := [some (vR 98), some (vR 0), some (vR 200), some (vR 150), some (vI 1), some (vI t), none, none, none, none, none, none, none, none]) (st' := [vR 0]) (X' := [(150, .inl (20, .inl q'))]) (fun _ _ => rfl) ?_
        refine GX.sg hR [vR 0] (fun κ κ2 hJ hJ2 => lp_all1 hro hJ κ2 _) kL_173 rfl rfl (by decide) (Nat.le_of_ble_eq_true rfl) (Nat.le_of_ble_eq_true rfl) rfl ?_
        refine GX.run0 hR 1 (pc' := 649) (L' := [some (vR 98), some (vR 0), some (vR 200), some (vR 150), some (vI 1), some (vI t), none, none, none, none, none, none, none, none]) (st' := [vR 200, vL (nmL (dgA τ'))]) (X' := [(150, .inl (20, .inl q'))]) (fun _ _ => rfl) ?_
        refine GX.sg hR [vR 200] (fun κ κ2 hJ hJ2 => lp_all2 hro hJ2 κ _) kL_173 rfl rfl (by decide) (Nat.le_of_ble_eq_true rfl) (Nat.le_of_ble_eq_true rfl) rfl ?_
        refine GX.run1 hR 1 (pc' := 653) (L' := [some (vR 98), some (vR 0), some (vR 200), some (vR 150), some (vI 1), some (vI t), none, none, none, none, none, none, none, none]) (st' := [vI (if nmL (dgA τ') < nmL (dgA τ') then 1 else if nmL (dgA τ') = nmL (dgA τ') then 0 else -1)]) (X' := [(150, .inl (20, .inl q'))]) (fun _ _ => rfl) ⟨nmL_r _, nmL_r _⟩ ?_
        rw [lc_eq]
        refine GX.br hR (pc1 := 675) (pc2 := 656) (st1 := []) (C := (0 : Int) ≠ 0) (fun _ => rfl) (by first | omega | (dsimp only; omega)) (fun h3 => (by exfalso; omega)) (fun h3 => ?_)
        exact c656 _ _ _ hu' hJ' hO'
    refine GX.run0 hR 2 (pc' := 55) (L' := [some (vR 98), some (vR 0), some (vR 200), some (vR 150), some (vI 1), some (vI t), none, none, none, none, none, none, none, none]) (st' := [vI 150, vI t]) (X' := [(150, .inl (20, .inl q))]) (fun _ _ => rfl) ?_
    refine GX.br hR (pc1 := 684) (pc2 := 58) (st1 := []) (C := 150 ≤ t) (fun _ => rfl) (by first | omega | (dsimp only; omega)) (fun h1 => (by exfalso; omega)) (fun h1 => ?_)
    refine GX.run0 hR 1 (pc' := 60) (L' := [some (vR 98), some (vR 0), some (vR 200), some (vR 150), some (vI 1), some (vI t), none, none, none, none, none, none, none, none]) (st' := [vI 1]) (X' := [(150, .inl (20, .inl q))]) (fun _ _ => rfl) ?_
    refine GX.br hR (pc1 := 684) (pc2 := 63) (st1 := []) (C := (1 : Int) = 0) (fun _ => rfl) (by first | omega | (dsimp only; omega)) (fun h2 => (by exfalso; omega)) (fun h2 => ?_)
    refine GX.run0 hR 4 (pc' := 68) (L' := [some (vR 98), some (vR 0), some (vR 200), some (vR 150), some (vI 1), some (vI t), none, none, none, none, none, none, none, none]) (st' := [vI (2 * t), vR 98]) (X' := [(150, .inl (20, .inl q))]) (fun _ _ => rfl) ?_
    refine GX.sg hR [vR 98, vI (2 * t)] (fun κ κ2 hJ hJ2 => lp_cell hx.1 (by omega) rfl) kL_183 rfl rfl (by decide) (Nat.le_of_ble_eq_true rfl) (Nat.le_of_ble_eq_true rfl) rfl ?_
    refine GX.run0 hR 7 (pc' := 80) (L' := [some (vR 98), some (vR 0), some (vR 200), some (vR 150), some (vI 1), some (vI t), some (vI (clV xs N (2 * t))), none, none, none, none, none, none, none]) (st' := [vI ((2 * t) + 1), vR 98]) (X' := [(150, .inl (20, .inl q))]) (fun _ _ => rfl) ?_
    refine GX.sg hR [vR 98, vI ((2 * t) + 1)] (fun κ κ2 hJ hJ2 => lp_cell hx.1 (by omega) rfl) kL_183 rfl rfl (by decide) (Nat.le_of_ble_eq_true rfl) (Nat.le_of_ble_eq_true rfl) rfl ?_
    refine GX.run0 hR 3 (pc' := 89) (L' := [some (vR 98), some (vR 0), some (vR 200), some (vR 150), some (vI 1), some (vI t), some (vI (clV xs N (2 * t))), some (vI (clV xs N ((2 * t) + 1))), none, none, none, none, none, none]) (st' := [vI 16, vI (clV xs N (2 * t))]) (X' := [(150, .inl (20, .inl q))]) (fun _ _ => rfl) ?_
    have f3 := smI_r (clV xs N (2 * t)) (n := 16) (by omega)
    refine GX.sx hR [vI (clV xs N (2 * t)), vI 16] (fun w => lp_some (x := clV xs N (2 * t)) (n := 16) (by omega) w) kL_158 rfl rfl (by decide) (Nat.le_of_ble_eq_true rfl) (Nat.le_of_ble_eq_true rfl) rfl ?_
    refine GX.run0 hR 2 (pc' := 95) (L' := [some (vR 98), some (vR 0), some (vR 200), some (vR 150), some (vI 1), some (vI t), some (vI (clV xs N (2 * t))), some (vI (clV xs N ((2 * t) + 1))), some (vI (smI (clV xs N (2 * t)) 16)), none, none, none, none, none]) (st' := [vR 0]) (X' := [(150, .inl (20, .inl q))]) (fun _ _ => rfl) ?_
    have f4 := hI.hph
    refine GX.ask hR hro [] ((q_phase τ).gt) kL_125 rfl rfl rfl (by decide) (Nat.le_of_ble_eq_true rfl) (Nat.le_of_ble_eq_true rfl) rfl (fun _ _ => ⟨_, rfl⟩) ?_
    refine GX.run0 hR 2 (pc' := 101) (L' := [some (vR 98), some (vR 0), some (vR 200), some (vR 150), some (vI 1), some (vI t), some (vI (clV xs N (2 * t))), some (vI (clV xs N ((2 * t) + 1))), some (vI (smI (clV xs N (2 * t)) 16)), some (vI (τ.1 0)), none, none, none, none]) (st' := [vR 0]) (X' := [(150, .inl (20, .inl q))]) (fun _ _ => rfl) ?_
    have f5 := hI.htu
    refine GX.ask hR hro [] ((q_turn τ).gt) kL_130 rfl rfl rfl (by decide) (Nat.le_of_ble_eq_true rfl) (Nat.le_of_ble_eq_true rfl) rfl (fun _ _ => ⟨_, rfl⟩) ?_
    refine GX.run0 hR 1 (pc' := 106) (L' := [some (vR 98), some (vR 0), some (vR 200), some (vR 150), some (vI 1), some (vI t), some (vI (clV xs N (2 * t))), some (vI (clV xs N ((2 * t) + 1))), some (vI (smI (clV xs N (2 * t)) 16)), some (vI (τ.1 0)), some (vI (τ.1 1)), none, none, none]) (st' := []) (X' := [(150, .inl (20, .inl q))]) (fun _ _ => rfl) ?_
    refine GX.run0 hR 2 (pc' := 108) (L' := [some (vR 98), some (vR 0), some (vR 200), some (vR 150), some (vI 1), some (vI t), some (vI (clV xs N (2 * t))), some (vI (clV xs N ((2 * t) + 1))), some (vI (smI (clV xs N (2 * t)) 16)), some (vI (τ.1 0)), some (vI (τ.1 1)), none, none, none]) (st' := [vR 150, vR 0]) (X' := [(150, .inl (20, .inl q))]) (fun _ _ => rfl) ?_
    have hq : isQ (τ.2.2 0) (hQ (τ.2.2 0) q 20) := fun k hk => hQ_at _ _ hk
    refine GX.sg hR (X' := [(150, .inl (20, .inl (hQ (τ.2.2 0) q 20)))]) [vR 0, vR 150] (fun κ κ2 hJ hJ2 => lp_hands hro hJ κ2 q) kL_187 rfl rfl (by decide) (Nat.le_of_ble_eq_true rfl) (Nat.le_of_ble_eq_true rfl) rfl ?_
    generalize hQ (τ.2.2 0) q 20 = q2 at hq ⊢
    have hqr := hq.r hI
    generalize clV xs N ((2 * t) + 1) = z
    generalize smI (clV xs N (2 * t)) 16 = how at *
    show GX G u τ ([(150, .inl (20, .inl q2))]) 111 [some (vR 98), some (vR 0), some (vR 200), some (vR 150), some (vI 1), some (vI t), some (vI (clV xs N (2 * t))), some (vI z), some (vI how), some (vI (τ.1 0)), some (vI (τ.1 1)), none, none, none] []
    refine GX.run0 hR 1 (pc' := 113) (L' := [some (vR 98), some (vR 0), some (vR 200), some (vR 150), some (vI 1), some (vI t), some (vI (clV xs N (2 * t))), some (vI z), some (vI how), some (vI (τ.1 0)), some (vI (τ.1 1)), none, none, none]) (st' := [vI (τ.1 0)]) (X' := [(150, .inl (20, .inl q2))]) (fun _ _ => rfl) ?_
    refine GX.br hR (pc1 := 168) (pc2 := 116) (st1 := []) (C := τ.1 0 ≠ 0) (fun _ => rfl) (by first | omega | (dsimp only; omega)) (fun h6 => ?_) (fun h6 => ?_)
    · skip
      refine GX.run0 hR 2 (pc' := 171) (L' := [some (vR 98), some (vR 0), some (vR 200), some (vR 150), some (vI 1), some (vI t), some (vI (clV xs N (2 * t))), some (vI z), some (vI how), some (vI (τ.1 0)), some (vI (τ.1 1)), none, none, none]) (st' := [vI 1, vI (τ.1 0)]) (X' := [(150, .inl (20, .inl q2))]) (fun _ _ => rfl) ?_
      refine GX.br hR (pc1 := 319) (pc2 := 174) (st1 := []) (C := τ.1 0 ≠ 1) (fun _ => rfl) (by first | omega | (dsimp only; omega)) (fun h7 => ?_) (fun h7 => ?_)
      · skip
        refine GX.run0 hR 2 (pc' := 322) (L' := [some (vR 98), some (vR 0), some (vR 200), some (vR 150), some (vI 1), some (vI t), some (vI (clV xs N (2 * t))), some (vI z), some (vI how), some (vI (τ.1 0)), some (vI (τ.1 1)), none, none, none]) (st' := [vI 1, vI (τ.1 0)]) (X' := [(150, .inl (20, .inl q2))]) (fun _ _ => rfl) ?_
        refine GX.br hR (pc1 := 375) (pc2 := 325) (st1 := []) (C := τ.1 0 ≠ 1) (fun _ => rfl) (by first | omega | (dsimp only; omega)) (fun h8 => ?_) (fun h8 => (by exfalso; omega))
        refine GX.run0 hR 2 (pc' := 378) (L' := [some (vR 98), some (vR 0), some (vR 200), some (vR 150), some (vI 1), some (vI t), some (vI (clV xs N (2 * t))), some (vI z), some (vI how), some (vI (τ.1 0)), some (vI (τ.1 1)), none, none, none]) (st' := [vI 3, vI (τ.1 0)]) (X' := [(150, .inl (20, .inl q2))]) (fun _ _ => rfl) ?_
        refine GX.br hR (pc1 := 394) (pc2 := 381) (st1 := []) (C := τ.1 0 ≠ 3) (fun _ => rfl) (by first | omega | (dsimp only; omega)) (fun h9 => ?_) (fun h9 => ?_)
        · skip
          refine GX.run0 hR 2 (pc' := 397) (L' := [some (vR 98), some (vR 0), some (vR 200), some (vR 150), some (vI 1), some (vI t), some (vI (clV xs N (2 * t))), some (vI z), some (vI how), some (vI (τ.1 0)), some (vI (τ.1 1)), none, none, none]) (st' := [vI 4, vI (τ.1 0)]) (X' := [(150, .inl (20, .inl q2))]) (fun _ _ => rfl) ?_
          refine GX.br hR (pc1 := 414) (pc2 := 400) (st1 := []) (C := τ.1 0 ≠ 4) (fun _ => rfl) (by first | omega | (dsimp only; omega)) (fun h10 => ?_) (fun h10 => ?_)
          · skip
            refine GX.run0 hR 2 (pc' := 417) (L' := [some (vR 98), some (vR 0), some (vR 200), some (vR 150), some (vI 1), some (vI t), some (vI (clV xs N (2 * t))), some (vI z), some (vI how), some (vI (τ.1 0)), some (vI (τ.1 1)), none, none, none]) (st' := [vI 5, vI (τ.1 0)]) (X' := [(150, .inl (20, .inl q2))]) (fun _ _ => rfl) ?_
            refine GX.br hR (pc1 := 488) (pc2 := 420) (st1 := []) (C := τ.1 0 ≠ 5) (fun _ => rfl) (by first | omega | (dsimp only; omega)) (fun h11 => ?_) (fun h11 => ?_)
            · skip
              have h2 : τ.1 0 = 2 := by omega
              refine GX.run0 hR 2 (pc' := 492) (L' := [some (vR 98), some (vR 0), some (vR 200), some (vR 150), some (vI 1), some (vI t), some (vI (clV xs N (2 * t))), some (vI z), some (vI how), some (vI (τ.1 0)), some (vI (τ.1 1)), none, none, none]) (st' := [vI 6, vI how]) (X' := [(150, .inl (20, .inl q2))]) (fun _ _ => rfl) ?_
              refine GX.br hR (pc1 := 508) (pc2 := 495) (st1 := []) (C := 6 ≤ how) (fun _ => rfl) (by first | omega | (dsimp only; omega)) (fun h12 => ?_) (fun h12 => ?_)
              · skip
                refine GX.run0 hR 2 (pc' := 512) (L' := [some (vR 98), some (vR 0), some (vR 200), some (vR 150), some (vI 1), some (vI t), some (vI (clV xs N (2 * t))), some (vI z), some (vI how), some (vI (τ.1 0)), some (vI (τ.1 1)), none, none, none]) (st' := [vI 8, vI how]) (X' := [(150, .inl (20, .inl q2))]) (fun _ _ => rfl) ?_
                refine GX.br hR (pc1 := 526) (pc2 := 515) (st1 := []) (C := 8 ≤ how) (fun _ => rfl) (by first | omega | (dsimp only; omega)) (fun h13 => ?_) (fun h13 => ?_)
                · skip
                  refine GX.run0 hR 2 (pc' := 530) (L' := [some (vR 98), some (vR 0), some (vR 200), some (vR 150), some (vI 1), some (vI t), some (vI (clV xs N (2 * t))), some (vI z), some (vI how), some (vI (τ.1 0)), some (vI (τ.1 1)), none, none, none]) (st' := [vI 10, vI how]) (X' := [(150, .inl (20, .inl q2))]) (fun _ _ => rfl) ?_
                  refine GX.br hR (pc1 := 546) (pc2 := 533) (st1 := []) (C := 10 ≤ how) (fun _ => rfl) (by first | omega | (dsimp only; omega)) (fun h14 => ?_) (fun h14 => ?_)
                  · skip
                    refine GX.run0 hR 2 (pc' := 550) (L' := [some (vR 98), some (vR 0), some (vR 200), some (vR 150), some (vI 1), some (vI t), some (vI (clV xs N (2 * t))), some (vI z), some (vI how), some (vI (τ.1 0)), some (vI (τ.1 1)), none, none, none]) (st' := [vI 13, vI how]) (X' := [(150, .inl (20, .inl q2))]) (fun _ _ => rfl) ?_
                    refine GX.br hR (pc1 := 566) (pc2 := 553) (st1 := []) (C := 13 ≤ how) (fun _ => rfl) (by first | omega | (dsimp only; omega)) (fun h15 => ?_) (fun h15 => ?_)
                    · skip
                      refine GX.run0 hR 6 (pc' := 573) (L' := [some (vR 98), some (vR 0), some (vR 200), some (vR 150), some (vI 1), some (vI t), some (vI (clV xs N (2 * t))), some (vI z), some (vI how), some (vI (τ.1 0)), some (vI (τ.1 1)), none, none, none]) (st' := [vI 0, vI 0, vI 0, vI 19, vR 200, vR 0]) (X' := [(150, .inl (20, .inl q2))]) (fun _ _ => rfl) ?_
                      obtain ⟨v16, σ17, hcl, hc⟩ := s_end h2 hI 0 0 0
                      refine GX.bo hR hro hcl rfl (by decide) (Nat.le_of_ble_eq_true rfl) rfl (by omega) (fun hJ2 => ?_)
                      have hI2 := hJ2.iv
                      obtain ⟨e1, e2, e3, e4, e5⟩ := hc
                      rw [nxtT_eq ht] at e1
                      refine GX.run1 hR 7 (pc' := 586) (L' := [some (vR 98), some (vR 0), some (vR 200), some (vR 150), some (vI 1), some (vI t), some (vI (clV xs N (2 * t))), some (vI z), some (vI how), some (vI (τ.1 0)), some (vI (τ.1 1)), some (vI v16), none, none]) (st' := [vI (((τ.1 1) + 1) % 3), vI v16]) (X' := [(150, .inl (20, .inl q2))]) (fun _ _ => rfl) (by first | omega | (dsimp only; omega)) ?_
                      refine GX.br hR (pc1 := 629) (pc2 := 589) (st1 := []) (C := v16 ≠ ((τ.1 1) + 1) % 3) (fun _ => rfl) (by first | omega | (dsimp only; omega)) (fun h18 => (by exfalso; omega)) (fun h18 => ?_)
                      refine GX.run0 hR 1 (pc' := 590) (L' := [some (vR 98), some (vR 0), some (vR 200), some (vR 150), some (vI 1), some (vI t), some (vI (clV xs N (2 * t))), some (vI z), some (vI how), some (vI (τ.1 0)), some (vI (τ.1 1)), some (vI v16), none, none]) (st' := [vR 0]) (X' := [(150, .inl (20, .inl q2))]) (fun _ _ => rfl) ?_
                      have f19 := hI2.htu
                      refine GX.ask hR hro [] ((q_turn σ17).gt) kL_130 rfl rfl rfl (by decide) (Nat.le_of_ble_eq_true rfl) (Nat.le_of_ble_eq_true rfl) rfl (fun _ _ => ⟨_, rfl⟩) ?_
                      refine GX.run0 hR 1 (pc' := 595) (L' := [some (vR 98), some (vR 0), some (vR 200), some (vR 150), some (vI 1), some (vI t), some (vI (clV xs N (2 * t))), some (vI z), some (vI how), some (vI (τ.1 0)), some (vI (τ.1 1)), some (vI v16), none, none]) (st' := [vI v16, vI (σ17.1 1)]) (X' := [(150, .inl (20, .inl q2))]) (fun _ _ => rfl) ?_
                      refine GX.br hR (pc1 := 629) (pc2 := 598) (st1 := []) (C := σ17.1 1 ≠ v16) (fun _ => rfl) (by first | omega | (dsimp only; omega)) (fun h20 => (by exfalso; omega)) (fun h20 => ?_)
                      refine GX.run0 hR 1 (pc' := 599) (L' := [some (vR 98), some (vR 0), some (vR 200), some (vR 150), some (vI 1), some (vI t), some (vI (clV xs N (2 * t))), some (vI z), some (vI how), some (vI (τ.1 0)), some (vI (τ.1 1)), some (vI v16), none, none]) (st' := [vR 0]) (X' := [(150, .inl (20, .inl q2))]) (fun _ _ => rfl) ?_
                      have f21 := hI2.hph
                      refine GX.ask hR hro [] ((q_phase σ17).gt) kL_125 rfl rfl rfl (by decide) (Nat.le_of_ble_eq_true rfl) (Nat.le_of_ble_eq_true rfl) rfl (fun _ _ => ⟨_, rfl⟩) ?_
                      refine GX.run0 hR 1 (pc' := 603) (L' := [some (vR 98), some (vR 0), some (vR 200), some (vR 150), some (vI 1), some (vI t), some (vI (clV xs N (2 * t))), some (vI z), some (vI how), some (vI (τ.1 0)), some (vI (τ.1 1)), some (vI v16), none, none]) (st' := [vI 1, vI (σ17.1 0)]) (X' := [(150, .inl (20, .inl q2))]) (fun _ _ => rfl) ?_
                      refine GX.br hR (pc1 := 614) (pc2 := 606) (st1 := []) (C := σ17.1 0 = 1) (fun _ => rfl) (by first | omega | (dsimp only; omega)) (fun h22 => ?_) (fun h22 => ?_)
                      · skip
                        refine GX.run0 hR 5 (pc' := 619) (L' := [some (vR 98), some (vR 0), some (vR 200), some (vR 150), some (vI 1), some (vI t), some (vI (clV xs N (2 * t))), some (vI z), some (vI how), some (vI (τ.1 0)), some (vI (τ.1 1)), some (vI v16), none, none]) (st' := [vI 0, vI 0, vI 0, vR 150, vR 0]) (X' := [(150, .inl (20, .inl q2))]) (fun _ _ => rfl) ?_
                        refine GX.sg hR [vR 0, vR 150, vI 0, vI 0, vI 0] (fun κ κ2 hJ hJ2 => lp_moved hro hJ κ2 (q := q2) (f := 0) (t := 0) (n := 0) (by omega) (by omega) (by omega) hqr (mvd_0 hq e4)) kL_169 rfl rfl (by decide) (Nat.le_of_ble_eq_true rfl) (Nat.le_of_ble_eq_true rfl) rfl ?_
                        refine GX.br hR (pc1 := 629) (pc2 := 625) (st1 := []) (C := (1 : Int) = 0) (fun _ => rfl) (by first | omega | (dsimp only; omega)) (fun h23 => (by exfalso; omega)) (fun h23 => ?_)
                        refine GX.run0 hR 3 (pc' := 632) (L' := [some (vR 98), some (vR 0), some (vR 200), some (vR 150), some (vI 1), some (vI t), some (vI (clV xs N (2 * t))), some (vI z), some (vI how), some (vI (τ.1 0)), some (vI (τ.1 1)), some (vI v16), none, none]) (st' := []) (X' := [(150, .inl (20, .inl q2))]) (fun _ _ => rfl) ?_
                        refine GX.fg hR 6 ?_
                        refine GX.fg hR 7 ?_
                        refine GX.fg hR 8 ?_
                        refine GX.fg hR 9 ?_
                        refine GX.fg hR 10 ?_
                        refine GX.fg hR 11 ?_
                        exact main _ _ _ (by omega) hJ2 e5
                      · skip
                        refine GX.run0 hR 1 (pc' := 607) (L' := [some (vR 98), some (vR 0), some (vR 200), some (vR 150), some (vI 1), some (vI t), some (vI (clV xs N (2 * t))), some (vI z), some (vI how), some (vI (τ.1 0)), some (vI (τ.1 1)), some (vI v16), none, none]) (st' := [vR 0]) (X' := [(150, .inl (20, .inl q2))]) (fun _ _ => rfl) ?_
                        have f24 := hI2.hph
                        refine GX.ask hR hro [] ((q_phase σ17).gt) kL_125 rfl rfl rfl (by decide) (Nat.le_of_ble_eq_true rfl) (Nat.le_of_ble_eq_true rfl) rfl (fun _ _ => ⟨_, rfl⟩) ?_
                        refine GX.run0 hR 1 (pc' := 611) (L' := [some (vR 98), some (vR 0), some (vR 200), some (vR 150), some (vI 1), some (vI t), some (vI (clV xs N (2 * t))), some (vI z), some (vI how), some (vI (τ.1 0)), some (vI (τ.1 1)), some (vI v16), none, none]) (st' := [vI 5, vI (σ17.1 0)]) (X' := [(150, .inl (20, .inl q2))]) (fun _ _ => rfl) ?_
                        refine GX.br hR (pc1 := 629) (pc2 := 614) (st1 := []) (C := σ17.1 0 ≠ 5) (fun _ => rfl) (by first | omega | (dsimp only; omega)) (fun h25 => (by exfalso; omega)) (fun h25 => ?_)
                        refine GX.run0 hR 5 (pc' := 619) (L' := [some (vR 98), some (vR 0), some (vR 200), some (vR 150), some (vI 1), some (vI t), some (vI (clV xs N (2 * t))), some (vI z), some (vI how), some (vI (τ.1 0)), some (vI (τ.1 1)), some (vI v16), none, none]) (st' := [vI 0, vI 0, vI 0, vR 150, vR 0]) (X' := [(150, .inl (20, .inl q2))]) (fun _ _ => rfl) ?_
                        refine GX.sg hR [vR 0, vR 150, vI 0, vI 0, vI 0] (fun κ κ2 hJ hJ2 => lp_moved hro hJ κ2 (q := q2) (f := 0) (t := 0) (n := 0) (by omega) (by omega) (by omega) hqr (mvd_0 hq e4)) kL_169 rfl rfl (by decide) (Nat.le_of_ble_eq_true rfl) (Nat.le_of_ble_eq_true rfl) rfl ?_
                        refine GX.br hR (pc1 := 629) (pc2 := 625) (st1 := []) (C := (1 : Int) = 0) (fun _ => rfl) (by first | omega | (dsimp only; omega)) (fun h26 => (by exfalso; omega)) (fun h26 => ?_)
                        refine GX.run0 hR 3 (pc' := 632) (L' := [some (vR 98), some (vR 0), some (vR 200), some (vR 150), some (vI 1), some (vI t), some (vI (clV xs N (2 * t))), some (vI z), some (vI how), some (vI (τ.1 0)), some (vI (τ.1 1)), some (vI v16), none, none]) (st' := []) (X' := [(150, .inl (20, .inl q2))]) (fun _ _ => rfl) ?_
                        refine GX.fg hR 6 ?_
                        refine GX.fg hR 7 ?_
                        refine GX.fg hR 8 ?_
                        refine GX.fg hR 9 ?_
                        refine GX.fg hR 10 ?_
                        refine GX.fg hR 11 ?_
                        exact main _ _ _ (by omega) hJ2 e5
                    · skip
                      refine GX.run0 hR 4 (pc' := 558) (L' := [some (vR 98), some (vR 0), some (vR 200), some (vR 150), some (vI 1), some (vI t), some (vI (clV xs N (2 * t))), some (vI z), some (vI how), some (vI (τ.1 0)), some (vI (τ.1 1)), none, none, none]) (st' := [vI z, vR 150, vR 200, vR 0]) (X' := [(150, .inl (20, .inl q2))]) (fun _ _ => rfl) ?_
                      refine GX.sm hR [vR 0, vR 200, vR 150, vI z] (w_trades hro hJ hq hO z h2) kL_216 rfl rfl (by decide) (Nat.le_of_ble_eq_true rfl) (Nat.le_of_ble_eq_true rfl) rfl (by omega) (fun i σ hqq hJ3 => ?_)
                      obtain ⟨i1, i2⟩ := hqq
                      rw [i1]
                      refine GX.run0 hR 2 (pc' := 632) (L' := [some (vR 98), some (vR 0), some (vR 200), some (vR 150), some (vI 1), some (vI t), some (vI (clV xs N (2 * t))), some (vI z), some (vI how), some (vI (τ.1 0)), some (vI (τ.1 1)), none, none, none]) (st' := []) (X' := [(150, .inl (20, .inl q2))]) (fun _ _ => rfl) ?_
                      refine GX.fg hR 6 ?_
                      refine GX.fg hR 7 ?_
                      refine GX.fg hR 8 ?_
                      refine GX.fg hR 9 ?_
                      refine GX.fg hR 10 ?_
                      exact main _ _ _ (by omega) hJ3 i2
                  · skip
                    refine GX.run0 hR 4 (pc' := 538) (L' := [some (vR 98), some (vR 0), some (vR 200), some (vR 150), some (vI 1), some (vI t), some (vI (clV xs N (2 * t))), some (vI z), some (vI how), some (vI (τ.1 0)), some (vI (τ.1 1)), none, none, none]) (st' := [vI z, vR 150, vR 200, vR 0]) (X' := [(150, .inl (20, .inl q2))]) (fun _ _ => rfl) ?_
                    refine GX.sm hR [vR 0, vR 200, vR 150, vI z] (w_plays hro hJ hq hO z) kL_199 rfl rfl (by decide) (Nat.le_of_ble_eq_true rfl) (Nat.le_of_ble_eq_true rfl) rfl (by omega) (fun i σ hqq hJ3 => ?_)
                    obtain ⟨i1, i2⟩ := hqq
                    rw [i1]
                    refine GX.run0 hR 2 (pc' := 632) (L' := [some (vR 98), some (vR 0), some (vR 200), some (vR 150), some (vI 1), some (vI t), some (vI (clV xs N (2 * t))), some (vI z), some (vI how), some (vI (τ.1 0)), some (vI (τ.1 1)), none, none, none]) (st' := []) (X' := [(150, .inl (20, .inl q2))]) (fun _ _ => rfl) ?_
                    refine GX.fg hR 6 ?_
                    refine GX.fg hR 7 ?_
                    refine GX.fg hR 8 ?_
                    refine GX.fg hR 9 ?_
                    refine GX.fg hR 10 ?_
                    exact main _ _ _ (by omega) hJ3 i2
                · skip
                  refine GX.run0 hR 3 (pc' := 518) (L' := [some (vR 98), some (vR 0), some (vR 200), some (vR 150), some (vI 1), some (vI t), some (vI (clV xs N (2 * t))), some (vI z), some (vI how), some (vI (τ.1 0)), some (vI (τ.1 1)), none, none, none]) (st' := [vR 150, vR 200, vR 0]) (X' := [(150, .inl (20, .inl q2))]) (fun _ _ => rfl) ?_
                  refine GX.sm hR [vR 0, vR 200, vR 150] (w_buys hro hJ hq hO) kL_212 rfl rfl (by decide) (Nat.le_of_ble_eq_true rfl) (Nat.le_of_ble_eq_true rfl) rfl (by omega) (fun i σ hqq hJ3 => ?_)
                  obtain ⟨i1, i2⟩ := hqq
                  rw [i1]
                  refine GX.run0 hR 2 (pc' := 632) (L' := [some (vR 98), some (vR 0), some (vR 200), some (vR 150), some (vI 1), some (vI t), some (vI (clV xs N (2 * t))), some (vI z), some (vI how), some (vI (τ.1 0)), some (vI (τ.1 1)), none, none, none]) (st' := []) (X' := [(150, .inl (20, .inl q2))]) (fun _ _ => rfl) ?_
                  refine GX.fg hR 6 ?_
                  refine GX.fg hR 7 ?_
                  refine GX.fg hR 8 ?_
                  refine GX.fg hR 9 ?_
                  refine GX.fg hR 10 ?_
                  exact main _ _ _ (by omega) hJ3 i2
              · skip
                refine GX.run0 hR 4 (pc' := 500) (L' := [some (vR 98), some (vR 0), some (vR 200), some (vR 150), some (vI 1), some (vI t), some (vI (clV xs N (2 * t))), some (vI z), some (vI how), some (vI (τ.1 0)), some (vI (τ.1 1)), none, none, none]) (st' := [vI z, vR 150, vR 200, vR 0]) (X' := [(150, .inl (20, .inl q2))]) (fun _ _ => rfl) ?_
                refine GX.sm hR [vR 0, vR 200, vR 150, vI z] (w_builds hro hJ hq hO z) kL_209 rfl rfl (by decide) (Nat.le_of_ble_eq_true rfl) (Nat.le_of_ble_eq_true rfl) rfl (by omega) (fun i σ hqq hJ3 => ?_)
                obtain ⟨i1, i2⟩ := hqq
                rw [i1]
                refine GX.run0 hR 2 (pc' := 632) (L' := [some (vR 98), some (vR 0), some (vR 200), some (vR 150), some (vI 1), some (vI t), some (vI (clV xs N (2 * t))), some (vI z), some (vI how), some (vI (τ.1 0)), some (vI (τ.1 1)), none, none, none]) (st' := []) (X' := [(150, .inl (20, .inl q2))]) (fun _ _ => rfl) ?_
                refine GX.fg hR 6 ?_
                refine GX.fg hR 7 ?_
                refine GX.fg hR 8 ?_
                refine GX.fg hR 9 ?_
                refine GX.fg hR 10 ?_
                exact main _ _ _ (by omega) hJ3 i2
            · skip
              have hov := over_no (τ := τ) (by omega)
              have hpt := hO (by omega)
              refine GX.run0 hR 6 (pc' := 427) (L' := [some (vR 98), some (vR 0), some (vR 200), some (vR 150), some (vI 1), some (vI t), some (vI (clV xs N (2 * t))), some (vI z), some (vI how), some (vI (τ.1 0)), some (vI (τ.1 1)), none, none, none]) (st' := [vI 0, vI 0, vI 0, vI 19, vR 200, vR 0]) (X' := [(150, .inl (20, .inl q2))]) (fun _ _ => rfl) ?_
              refine GX.bo hR hro hov.1 rfl (by decide) (Nat.le_of_ble_eq_true rfl) rfl (by omega) (fun _ => ?_)
              refine GX.run0 hR 1 (pc' := 433) (L' := [some (vR 98), some (vR 0), some (vR 200), some (vR 150), some (vI 1), some (vI t), some (vI (clV xs N (2 * t))), some (vI z), some (vI how), some (vI (τ.1 0)), some (vI (τ.1 1)), none, none, none]) (st' := [vI (-1123), vI (-1123)]) (X' := [(150, .inl (20, .inl q2))]) (fun _ _ => rfl) ?_
              refine GX.br hR (pc1 := 482) (pc2 := 436) (st1 := []) (C := ((-1123) : Int) ≠ (-1123)) (fun _ => rfl) (by first | omega | (dsimp only; omega)) (fun h27 => (by exfalso; omega)) (fun h27 => ?_)
              refine GX.run0 hR 6 (pc' := 442) (L' := [some (vR 98), some (vR 0), some (vR 200), some (vR 150), some (vI 1), some (vI t), some (vI (clV xs N (2 * t))), some (vI z), some (vI how), some (vI (τ.1 0)), some (vI (τ.1 1)), none, none, none]) (st' := [vI 0, vI 1, vI 1, vI 3, vR 200, vR 0]) (X' := [(150, .inl (20, .inl q2))]) (fun _ _ => rfl) ?_
              refine GX.bo hR hro hov.2.1 rfl (by decide) (Nat.le_of_ble_eq_true rfl) rfl (by omega) (fun _ => ?_)
              refine GX.run0 hR 1 (pc' := 448) (L' := [some (vR 98), some (vR 0), some (vR 200), some (vR 150), some (vI 1), some (vI t), some (vI (clV xs N (2 * t))), some (vI z), some (vI how), some (vI (τ.1 0)), some (vI (τ.1 1)), none, none, none]) (st' := [vI (-1123), vI (-1123)]) (X' := [(150, .inl (20, .inl q2))]) (fun _ _ => rfl) ?_
              refine GX.br hR (pc1 := 482) (pc2 := 451) (st1 := []) (C := ((-1123) : Int) ≠ (-1123)) (fun _ => rfl) (by first | omega | (dsimp only; omega)) (fun h28 => (by exfalso; omega)) (fun h28 => ?_)
              refine GX.run0 hR 6 (pc' := 458) (L' := [some (vR 98), some (vR 0), some (vR 200), some (vR 150), some (vI 1), some (vI t), some (vI (clV xs N (2 * t))), some (vI z), some (vI how), some (vI (τ.1 0)), some (vI (τ.1 1)), none, none, none]) (st' := [vI 0, vI 0, vI 0, vI 9, vR 200, vR 0]) (X' := [(150, .inl (20, .inl q2))]) (fun _ _ => rfl) ?_
              refine GX.bo hR hro hov.2.2 rfl (by decide) (Nat.le_of_ble_eq_true rfl) rfl (by omega) (fun _ => ?_)
              refine GX.run0 hR 1 (pc' := 464) (L' := [some (vR 98), some (vR 0), some (vR 200), some (vR 150), some (vI 1), some (vI t), some (vI (clV xs N (2 * t))), some (vI z), some (vI how), some (vI (τ.1 0)), some (vI (τ.1 1)), none, none, none]) (st' := [vI (-1123), vI (-1123)]) (X' := [(150, .inl (20, .inl q2))]) (fun _ _ => rfl) ?_
              refine GX.br hR (pc1 := 482) (pc2 := 467) (st1 := []) (C := ((-1123) : Int) ≠ (-1123)) (fun _ => rfl) (by first | omega | (dsimp only; omega)) (fun h29 => (by exfalso; omega)) (fun h29 => ?_)
              refine GX.run0 hR 2 (pc' := 470) (L' := [some (vR 98), some (vR 0), some (vR 200), some (vR 150), some (vI 1), some (vI t), some (vI (clV xs N (2 * t))), some (vI z), some (vI how), some (vI (τ.1 0)), some (vI (τ.1 1)), none, none, none]) (st' := [vI (τ.1 1), vR 0]) (X' := [(150, .inl (20, .inl q2))]) (fun _ _ => rfl) ?_
              have f30 := ptsF_r (τ.1 1) (hI.hcd (τ.1 1) 4)
              refine GX.ask hR hro [vI (τ.1 1)] ((q_points τ (by omega)).gt) kL_98 rfl rfl rfl (by decide) (Nat.le_of_ble_eq_true rfl) (Nat.le_of_ble_eq_true rfl) rfl (fun _ _ => ⟨_, rfl⟩) ?_
              refine GX.run0 hR 1 (pc' := 475) (L' := [some (vR 98), some (vR 0), some (vR 200), some (vR 150), some (vI 1), some (vI t), some (vI (clV xs N (2 * t))), some (vI z), some (vI how), some (vI (τ.1 0)), some (vI (τ.1 1)), none, none, none]) (st' := [vI 7, vI (ptsF τ (τ.1 1))]) (X' := [(150, .inl (20, .inl q2))]) (fun _ _ => rfl) ?_
              refine GX.br hR (pc1 := 482) (pc2 := 478) (st1 := []) (C := ptsF τ (τ.1 1) ≤ 7) (fun _ => rfl) (by first | omega | (dsimp only; omega)) (fun h31 => (by exfalso; omega)) (fun h31 => ?_)
              refine GX.run0 hR 4 (pc' := 632) (L' := [some (vR 98), some (vR 0), some (vR 200), some (vR 150), some (vI 1), some (vI t), some (vI (clV xs N (2 * t))), some (vI z), some (vI how), some (vI (τ.1 0)), some (vI (τ.1 1)), none, none, none]) (st' := []) (X' := [(150, .inl (20, .inl q2))]) (fun _ _ => rfl) ?_
              refine GX.fg hR 6 ?_
              refine GX.fg hR 7 ?_
              refine GX.fg hR 8 ?_
              refine GX.fg hR 9 ?_
              refine GX.fg hR 10 ?_
              exact main _ _ _ (by omega) hJ hO
          · skip
            refine GX.run0 hR 5 (pc' := 406) (L' := [some (vR 98), some (vR 0), some (vR 200), some (vR 150), some (vI 1), some (vI t), some (vI (clV xs N (2 * t))), some (vI z), some (vI how), some (vI (τ.1 0)), some (vI (τ.1 1)), none, none, none]) (st' := [vI 0, vI z, vR 150, vR 200, vR 0]) (X' := [(150, .inl (20, .inl q2))]) (fun _ _ => rfl) ?_
            refine GX.sm hR [vR 0, vR 200, vR 150, vI z, vI 0] (w_robs0 hro hJ hq hO z (by omega)) kL_195 rfl rfl (by decide) (Nat.le_of_ble_eq_true rfl) (Nat.le_of_ble_eq_true rfl) rfl (by omega) (fun i σ hqq hJ3 => ?_)
            obtain ⟨i1, i2⟩ := hqq
            rw [i1]
            refine GX.run0 hR 2 (pc' := 632) (L' := [some (vR 98), some (vR 0), some (vR 200), some (vR 150), some (vI 1), some (vI t), some (vI (clV xs N (2 * t))), some (vI z), some (vI how), some (vI (τ.1 0)), some (vI (τ.1 1)), none, none, none]) (st' := []) (X' := [(150, .inl (20, .inl q2))]) (fun _ _ => rfl) ?_
            refine GX.fg hR 6 ?_
            refine GX.fg hR 7 ?_
            refine GX.fg hR 8 ?_
            refine GX.fg hR 9 ?_
            refine GX.fg hR 10 ?_
            exact main _ _ _ (by omega) hJ3 i2
        · skip
          refine GX.run0 hR 4 (pc' := 386) (L' := [some (vR 98), some (vR 0), some (vR 200), some (vR 150), some (vI 1), some (vI t), some (vI (clV xs N (2 * t))), some (vI z), some (vI how), some (vI (τ.1 0)), some (vI (τ.1 1)), none, none, none]) (st' := [vI z, vR 150, vR 200, vR 0]) (X' := [(150, .inl (20, .inl q2))]) (fun _ _ => rfl) ?_
          refine GX.sm hR [vR 0, vR 200, vR 150, vI z] (w_discards hro hJ hq hO z) kL_206 rfl rfl (by decide) (Nat.le_of_ble_eq_true rfl) (Nat.le_of_ble_eq_true rfl) rfl (by omega) (fun i σ hqq hJ3 => ?_)
          obtain ⟨i1, i2⟩ := hqq
          rw [i1]
          refine GX.run0 hR 2 (pc' := 632) (L' := [some (vR 98), some (vR 0), some (vR 200), some (vR 150), some (vI 1), some (vI t), some (vI (clV xs N (2 * t))), some (vI z), some (vI how), some (vI (τ.1 0)), some (vI (τ.1 1)), none, none, none]) (st' := []) (X' := [(150, .inl (20, .inl q2))]) (fun _ _ => rfl) ?_
          refine GX.fg hR 6 ?_
          refine GX.fg hR 7 ?_
          refine GX.fg hR 8 ?_
          refine GX.fg hR 9 ?_
          refine GX.fg hR 10 ?_
          exact main _ _ _ (by omega) hJ3 i2
      · skip
        refine GX.run0 hR 2 (pc' := 178) (L' := [some (vR 98), some (vR 0), some (vR 200), some (vR 150), some (vI 1), some (vI t), some (vI (clV xs N (2 * t))), some (vI z), some (vI how), some (vI (τ.1 0)), some (vI (τ.1 1)), none, none, none]) (st' := [vI 6, vI how]) (X' := [(150, .inl (20, .inl q2))]) (fun _ _ => rfl) ?_
        refine GX.br hR (pc1 := 319) (pc2 := 181) (st1 := []) (C := 6 ≤ how) (fun _ => rfl) (by first | omega | (dsimp only; omega)) (fun h32 => ?_) (fun h32 => ?_)
        · skip
          refine GX.run0 hR 2 (pc' := 322) (L' := [some (vR 98), some (vR 0), some (vR 200), some (vR 150), some (vI 1), some (vI t), some (vI (clV xs N (2 * t))), some (vI z), some (vI how), some (vI (τ.1 0)), some (vI (τ.1 1)), none, none, none]) (st' := [vI 1, vI (τ.1 0)]) (X' := [(150, .inl (20, .inl q2))]) (fun _ _ => rfl) ?_
          refine GX.br hR (pc1 := 375) (pc2 := 325) (st1 := []) (C := τ.1 0 ≠ 1) (fun _ => rfl) (by first | omega | (dsimp only; omega)) (fun h33 => (by exfalso; omega)) (fun h33 => ?_)
          refine GX.run0 hR 2 (pc' := 329) (L' := [some (vR 98), some (vR 0), some (vR 200), some (vR 150), some (vI 1), some (vI t), some (vI (clV xs N (2 * t))), some (vI z), some (vI how), some (vI (τ.1 0)), some (vI (τ.1 1)), none, none, none]) (st' := [vI 9, vI how]) (X' := [(150, .inl (20, .inl q2))]) (fun _ _ => rfl) ?_
          refine GX.br hR (pc1 := 344) (pc2 := 332) (st1 := []) (C := 9 ≤ how) (fun _ => rfl) (by first | omega | (dsimp only; omega)) (fun h34 => ?_) (fun h34 => ?_)
          · skip
            refine GX.run0 hR 2 (pc' := 348) (L' := [some (vR 98), some (vR 0), some (vR 200), some (vR 150), some (vI 1), some (vI t), some (vI (clV xs N (2 * t))), some (vI z), some (vI how), some (vI (τ.1 0)), some (vI (τ.1 1)), none, none, none]) (st' := [vI 11, vI how]) (X' := [(150, .inl (20, .inl q2))]) (fun _ _ => rfl) ?_
            refine GX.br hR (pc1 := 362) (pc2 := 351) (st1 := []) (C := 11 ≤ how) (fun _ => rfl) (by first | omega | (dsimp only; omega)) (fun h35 => ?_) (fun h35 => ?_)
            · skip
              refine GX.run0 hR 4 (pc' := 367) (L' := [some (vR 98), some (vR 0), some (vR 200), some (vR 150), some (vI 1), some (vI t), some (vI (clV xs N (2 * t))), some (vI z), some (vI how), some (vI (τ.1 0)), some (vI (τ.1 1)), none, none, none]) (st' := [vI z, vR 150, vR 200, vR 0]) (X' := [(150, .inl (20, .inl q2))]) (fun _ _ => rfl) ?_
              refine GX.sm hR [vR 0, vR 200, vR 150, vI z] (w_rolls hro hr8 hJ hq z (by omega)) kL_203 rfl rfl (by decide) (Nat.le_of_ble_eq_true rfl) (Nat.le_of_ble_eq_true rfl) rfl (by omega) (fun i σ hqq hJ3 => ?_)
              obtain ⟨i1, i2⟩ := hqq
              rw [i1]
              refine GX.run0 hR 2 (pc' := 632) (L' := [some (vR 98), some (vR 0), some (vR 200), some (vR 150), some (vI 1), some (vI t), some (vI (clV xs N (2 * t))), some (vI z), some (vI how), some (vI (τ.1 0)), some (vI (τ.1 1)), none, none, none]) (st' := []) (X' := [(150, .inl (20, .inl q2))]) (fun _ _ => rfl) ?_
              refine GX.fg hR 6 ?_
              refine GX.fg hR 7 ?_
              refine GX.fg hR 8 ?_
              refine GX.fg hR 9 ?_
              refine GX.fg hR 10 ?_
              exact main _ _ _ (by omega) hJ3 i2
            · skip
              refine GX.run0 hR 4 (pc' := 356) (L' := [some (vR 98), some (vR 0), some (vR 200), some (vR 150), some (vI 1), some (vI t), some (vI (clV xs N (2 * t))), some (vI z), some (vI how), some (vI (τ.1 0)), some (vI (τ.1 1)), none, none, none]) (st' := [vI z, vR 150, vR 200, vR 0]) (X' := [(150, .inl (20, .inl q2))]) (fun _ _ => rfl) ?_
              refine GX.sm hR [vR 0, vR 200, vR 150, vI z] (w_plays hro hJ hq hO z) kL_199 rfl rfl (by decide) (Nat.le_of_ble_eq_true rfl) (Nat.le_of_ble_eq_true rfl) rfl (by omega) (fun i σ hqq hJ3 => ?_)
              obtain ⟨i1, i2⟩ := hqq
              rw [i1]
              refine GX.run0 hR 3 (pc' := 632) (L' := [some (vR 98), some (vR 0), some (vR 200), some (vR 150), some (vI 1), some (vI t), some (vI (clV xs N (2 * t))), some (vI z), some (vI how), some (vI (τ.1 0)), some (vI (τ.1 1)), none, none, none]) (st' := []) (X' := [(150, .inl (20, .inl q2))]) (fun _ _ => rfl) ?_
              refine GX.fg hR 6 ?_
              refine GX.fg hR 7 ?_
              refine GX.fg hR 8 ?_
              refine GX.fg hR 9 ?_
              refine GX.fg hR 10 ?_
              exact main _ _ _ (by omega) hJ3 i2
          · skip
            refine GX.run0 hR 5 (pc' := 338) (L' := [some (vR 98), some (vR 0), some (vR 200), some (vR 150), some (vI 1), some (vI t), some (vI (clV xs N (2 * t))), some (vI z), some (vI how), some (vI (τ.1 0)), some (vI (τ.1 1)), none, none, none]) (st' := [vI 1, vI z, vR 150, vR 200, vR 0]) (X' := [(150, .inl (20, .inl q2))]) (fun _ _ => rfl) ?_
            refine GX.sm hR [vR 0, vR 200, vR 150, vI z, vI 1] (w_robs1 hro hJ hq hO z (by omega)) kL_195 rfl rfl (by decide) (Nat.le_of_ble_eq_true rfl) (Nat.le_of_ble_eq_true rfl) rfl (by omega) (fun i σ hqq hJ3 => ?_)
            obtain ⟨i1, i2⟩ := hqq
            rw [i1]
            refine GX.run0 hR 3 (pc' := 632) (L' := [some (vR 98), some (vR 0), some (vR 200), some (vR 150), some (vI 1), some (vI t), some (vI (clV xs N (2 * t))), some (vI z), some (vI how), some (vI (τ.1 0)), some (vI (τ.1 1)), none, none, none]) (st' := []) (X' := [(150, .inl (20, .inl q2))]) (fun _ _ => rfl) ?_
            refine GX.fg hR 6 ?_
            refine GX.fg hR 7 ?_
            refine GX.fg hR 8 ?_
            refine GX.fg hR 9 ?_
            refine GX.fg hR 10 ?_
            exact main _ _ _ (by omega) hJ3 i2
        · skip
          refine GX.run0 hR 2 (pc' := 184) (L' := [some (vR 98), some (vR 0), some (vR 200), some (vR 150), some (vI 1), some (vI t), some (vI (clV xs N (2 * t))), some (vI z), some (vI how), some (vI (τ.1 0)), some (vI (τ.1 1)), none, none, none]) (st' := [vI 5, vI z]) (X' := [(150, .inl (20, .inl q2))]) (fun _ _ => rfl) ?_
          have f36 := smI_r z (n := 5) (by omega)
          refine GX.sx hR [vI z, vI 5] (fun w => lp_some (x := z) (n := 5) (by omega) w) kL_158 rfl rfl (by decide) (Nat.le_of_ble_eq_true rfl) (Nat.le_of_ble_eq_true rfl) rfl ?_
          refine GX.run0 hR 5 (pc' := 194) (L' := [some (vR 98), some (vR 0), some (vR 200), some (vR 150), some (vI 1), some (vI t), some (vI (clV xs N (2 * t))), some (vI z), some (vI how), some (vI (τ.1 0)), some (vI (τ.1 1)), none, none, none]) (st' := [vI 5, vI (iSr z 3), vI 10, vI (smI z 5)]) (X' := [(150, .inl (20, .inl q2))]) (fun _ _ => rfl) ?_
          have f37 := smI_r (iSr z 3) (n := 5) (by omega)
          refine GX.sx hR [vI (iSr z 3), vI 5] (fun w => lp_some (x := iSr z 3) (n := 5) (by omega) w) kL_158 rfl rfl (by decide) (Nat.le_of_ble_eq_true rfl) (Nat.le_of_ble_eq_true rfl) rfl ?_
          refine GX.run0 hR 7 (pc' := 207) (L' := [some (vR 98), some (vR 0), some (vR 200), some (vR 150), some (vI 1), some (vI t), some (vI (clV xs N (2 * t))), some (vI z), some (vI how), some (vI (τ.1 0)), some (vI (τ.1 1)), none, none, none]) (st' := [vI 4, vI (iSr z 6), vI 100, vI ((smI z 5) + (10 * (smI (iSr z 3) 5)))]) (X' := [(150, .inl (20, .inl q2))]) (fun _ _ => rfl) ?_
          have f38 := smI_r (iSr z 6) (n := 4) (by omega)
          refine GX.sx hR [vI (iSr z 6), vI 4] (fun w => lp_some (x := iSr z 6) (n := 4) (by omega) w) kL_158 rfl rfl (by decide) (Nat.le_of_ble_eq_true rfl) (Nat.le_of_ble_eq_true rfl) rfl ?_
          refine GX.run0 hR 7 (pc' := 221) (L' := [some (vR 98), some (vR 0), some (vR 200), some (vR 150), some (vI 1), some (vI t), some (vI (clV xs N (2 * t))), some (vI z), some (vI how), some (vI (τ.1 0)), some (vI (τ.1 1)), none, none, none]) (st' := [vI 4, vI (iSr z 9), vI 1000, vI (((smI z 5) + (10 * (smI (iSr z 3) 5))) + (100 * (smI (iSr z 6) 4)))]) (X' := [(150, .inl (20, .inl q2))]) (fun _ _ => rfl) ?_
          have f39 := smI_r (iSr z 9) (n := 4) (by omega)
          refine GX.sx hR [vI (iSr z 9), vI 4] (fun w => lp_some (x := iSr z 9) (n := 4) (by omega) w) kL_158 rfl rfl (by decide) (Nat.le_of_ble_eq_true rfl) (Nat.le_of_ble_eq_true rfl) rfl ?_
          refine GX.run0 hR 7 (pc' := 235) (L' := [some (vR 98), some (vR 0), some (vR 200), some (vR 150), some (vI 1), some (vI t), some (vI (clV xs N (2 * t))), some (vI z), some (vI how), some (vI (τ.1 0)), some (vI (τ.1 1)), none, none, none]) (st' := [vI 4, vI (iSr z 12), vI 10000, vI ((((smI z 5) + (10 * (smI (iSr z 3) 5))) + (100 * (smI (iSr z 6) 4))) + (1000 * (smI (iSr z 9) 4)))]) (X' := [(150, .inl (20, .inl q2))]) (fun _ _ => rfl) ?_
          have f40 := smI_r (iSr z 12) (n := 4) (by omega)
          refine GX.sx hR [vI (iSr z 12), vI 4] (fun w => lp_some (x := iSr z 12) (n := 4) (by omega) w) kL_158 rfl rfl (by decide) (Nat.le_of_ble_eq_true rfl) (Nat.le_of_ble_eq_true rfl) rfl ?_
          refine GX.run0 hR 7 (pc' := 248) (L' := [some (vR 98), some (vR 0), some (vR 200), some (vR 150), some (vI 1), some (vI t), some (vI (clV xs N (2 * t))), some (vI z), some (vI how), some (vI (τ.1 0)), some (vI (τ.1 1)), some (vI (((((smI z 5) + (10 * (smI (iSr z 3) 5))) + (100 * (smI (iSr z 6) 4))) + (1000 * (smI (iSr z 9) 4))) + (10000 * (smI (iSr z 12) 4)))), none, none]) (st' := [vI 3, vI (iSr z 15)]) (X' := [(150, .inl (20, .inl q2))]) (fun _ _ => rfl) ?_
          have f41 := smI_r (iSr z 15) (n := 3) (by omega)
          refine GX.sx hR [vI (iSr z 15), vI 3] (fun w => lp_some (x := iSr z 15) (n := 3) (by omega) w) kL_158 rfl rfl (by decide) (Nat.le_of_ble_eq_true rfl) (Nat.le_of_ble_eq_true rfl) rfl ?_
          refine GX.run0 hR 7 (pc' := 261) (L' := [some (vR 98), some (vR 0), some (vR 200), some (vR 150), some (vI 1), some (vI t), some (vI (clV xs N (2 * t))), some (vI z), some (vI how), some (vI (τ.1 0)), some (vI (τ.1 1)), some (vI (((((smI z 5) + (10 * (smI (iSr z 3) 5))) + (100 * (smI (iSr z 6) 4))) + (1000 * (smI (iSr z 9) 4))) + (10000 * (smI (iSr z 12) 4)))), some (vI (smI (iSr z 15) 3)), none]) (st' := [vI 0, vI (((((smI z 5) + (10 * (smI (iSr z 3) 5))) + (100 * (smI (iSr z 6) 4))) + (1000 * (smI (iSr z 9) 4))) + (10000 * (smI (iSr z 12) 4))), vI (smI (iSr z 15) 3), vI 2, vR 200, vR 0]) (X' := [(150, .inl (20, .inl q2))]) (fun _ _ => rfl) ?_
          have hgd : 0 ≤ ((((smI z 5) + (10 * (smI (iSr z 3) 5))) + (100 * (smI (iSr z 6) 4))) + (1000 * (smI (iSr z 9) 4))) + (10000 * (smI (iSr z 12) 4)) ∧ ((((smI z 5) + (10 * (smI (iSr z 3) 5))) + (100 * (smI (iSr z 6) 4))) + (1000 * (smI (iSr z 9) 4))) + (10000 * (smI (iSr z 12) 4)) ≤ 99999 := by omega
          have hpd : 0 ≤ smI (iSr z 15) 3 ∧ smI (iSr z 15) 3 < 3 := by omega
          generalize ((((smI z 5) + (10 * (smI (iSr z 3) 5))) + (100 * (smI (iSr z 6) 4))) + (1000 * (smI (iSr z 9) 4))) + (10000 * (smI (iSr z 12) 4)) = gd at hgd ⊢
          generalize smI (iSr z 15) 3 = pd at hpd ⊢
          obtain ⟨v42, σ43, hcl, hc⟩ := s_deal hJ hpd hgd 0
          refine GX.bo hR hro hcl rfl (by decide) (Nat.le_of_ble_eq_true rfl) rfl (by omega) (fun hJ2 => ?_)
          have hI2 := hJ2.iv
          rcases hc with ⟨e1, e2⟩ | ⟨e1, e2, e3⟩
          · skip
            rw [e1, e2]
            refine GX.run0 hR 3 (pc' := 271) (L' := [some (vR 98), some (vR 0), some (vR 200), some (vR 150), some (vI 1), some (vI t), some (vI (clV xs N (2 * t))), some (vI z), some (vI how), some (vI (τ.1 0)), some (vI (τ.1 1)), some (vI gd), some (vI pd), some (vI (-1123))]) (st' := [vI (-1123), vI (-1123)]) (X' := [(150, .inl (20, .inl q2))]) (fun _ _ => rfl) ?_
            refine GX.br hR (pc1 := 285) (pc2 := 274) (st1 := []) (C := ((-1123) : Int) ≠ (-1123)) (fun _ => rfl) (by first | omega | (dsimp only; omega)) (fun h44 => (by exfalso; omega)) (fun h44 => ?_)
            refine GX.run0 hR 5 (pc' := 279) (L' := [some (vR 98), some (vR 0), some (vR 200), some (vR 150), some (vI 1), some (vI t), some (vI (clV xs N (2 * t))), some (vI z), some (vI how), some (vI (τ.1 0)), some (vI (τ.1 1)), some (vI gd), some (vI pd), some (vI (-1123))]) (st' := [vI 0, vI 0, vI 0, vR 150, vR 0]) (X' := [(150, .inl (20, .inl q2))]) (fun _ _ => rfl) ?_
            refine GX.sg hR [vR 0, vR 150, vI 0, vI 0, vI 0] (fun κ κ2 hJ hJ2 => lp_moved hro hJ κ2 (q := q2) (f := 0) (t := 0) (n := 0) (by omega) (by omega) (by omega) hqr (mvd_0 hq rfl)) kL_169 rfl rfl (by decide) (Nat.le_of_ble_eq_true rfl) (Nat.le_of_ble_eq_true rfl) rfl ?_
            refine GX.run0 hR 3 (pc' := 632) (L' := [some (vR 98), some (vR 0), some (vR 200), some (vR 150), some (vI 1), some (vI t), some (vI (clV xs N (2 * t))), some (vI z), some (vI how), some (vI (τ.1 0)), some (vI (τ.1 1)), some (vI gd), some (vI pd), some (vI (-1123))]) (st' := []) (X' := [(150, .inl (20, .inl q2))]) (fun _ _ => rfl) ?_
            refine GX.fg hR 6 ?_
            refine GX.fg hR 7 ?_
            refine GX.fg hR 8 ?_
            refine GX.fg hR 9 ?_
            refine GX.fg hR 10 ?_
            refine GX.fg hR 11 ?_
            refine GX.fg hR 12 ?_
            refine GX.fg hR 13 ?_
            exact main _ _ _ (by omega) hJ hO
          · skip
            have hto := tot_r (h := σ43.2.2 0) hI2.hh pd
            refine GX.run0 hR 3 (pc' := 271) (L' := [some (vR 98), some (vR 0), some (vR 200), some (vR 150), some (vI 1), some (vI t), some (vI (clV xs N (2 * t))), some (vI z), some (vI how), some (vI (τ.1 0)), some (vI (τ.1 1)), some (vI gd), some (vI pd), some (vI v42)]) (st' := [vI (-1123), vI v42]) (X' := [(150, .inl (20, .inl q2))]) (fun _ _ => rfl) ?_
            refine GX.br hR (pc1 := 285) (pc2 := 274) (st1 := []) (C := v42 ≠ (-1123)) (fun _ => rfl) (by first | omega | (dsimp only; omega)) (fun h45 => ?_) (fun h45 => (by exfalso; omega))
            refine GX.run0 hR 5 (pc' := 292) (L' := [some (vR 98), some (vR 0), some (vR 200), some (vR 150), some (vI 1), some (vI t), some (vI (clV xs N (2 * t))), some (vI z), some (vI how), some (vI (τ.1 0)), some (vI (τ.1 1)), some (vI gd), some (vI pd), some (vI v42)]) (st' := [vI gd, vI pd, vI 3, vR 150, vR 0]) (X' := [(150, .inl (20, .inl q2))]) (fun _ _ => rfl) ?_
            refine GX.sg hR [vR 0, vR 150, vI 3, vI pd, vI gd] (fun κ κ2 hJ hJ2 => lp_moved hro hJ κ2 (q := q2) (f := 3) (t := pd) (n := gd) (by omega) (by omega) (by omega) hqr (mvd_of hq e2)) kL_169 rfl rfl (by decide) (Nat.le_of_ble_eq_true rfl) (Nat.le_of_ble_eq_true rfl) rfl ?_
            refine GX.br hR (pc1 := 313) (pc2 := 298) (st1 := []) (C := (1 : Int) = 0) (fun _ => rfl) (by first | omega | (dsimp only; omega)) (fun h46 => (by exfalso; omega)) (fun h46 => ?_)
            refine GX.run0 hR 3 (pc' := 303) (L' := [some (vR 98), some (vR 0), some (vR 200), some (vR 150), some (vI 1), some (vI t), some (vI (clV xs N (2 * t))), some (vI z), some (vI how), some (vI (τ.1 0)), some (vI (τ.1 1)), some (vI gd), some (vI pd), some (vI v42)]) (st' := [vI pd, vR 0, vI v42]) (X' := [(150, .inl (20, .inl q2))]) (fun _ _ => rfl) ?_
            have f47 := tot_r hI2.hh pd
            refine GX.sg hR [vR 0, vI pd] (fun κ κ2 hJ hJ2 => lp_size hro hJ κ2 ([(150, .inl (20, .inl q2))]) (by omega)) kL_165 rfl rfl (by decide) (Nat.le_of_ble_eq_true rfl) (Nat.le_of_ble_eq_true rfl) rfl ?_
            refine GX.br hR (pc1 := 313) (pc2 := 309) (st1 := []) (C := v42 ≠ tot (σ43.2.2 0) pd) (fun _ => rfl) (by first | omega | (dsimp only; omega)) (fun h48 => (by exfalso; omega)) (fun h48 => ?_)
            refine GX.run0 hR 4 (pc' := 632) (L' := [some (vR 98), some (vR 0), some (vR 200), some (vR 150), some (vI 1), some (vI t), some (vI (clV xs N (2 * t))), some (vI z), some (vI how), some (vI (τ.1 0)), some (vI (τ.1 1)), some (vI gd), some (vI pd), some (vI v42)]) (st' := []) (X' := [(150, .inl (20, .inl q2))]) (fun _ _ => rfl) ?_
            refine GX.fg hR 6 ?_
            refine GX.fg hR 7 ?_
            refine GX.fg hR 8 ?_
            refine GX.fg hR 9 ?_
            refine GX.fg hR 10 ?_
            refine GX.fg hR 11 ?_
            refine GX.fg hR 12 ?_
            refine GX.fg hR 13 ?_
            exact main _ _ _ (by omega) hJ2 (Ov.of (by omega))
    · skip
      refine GX.run0 hR 2 (pc' := 119) (L' := [some (vR 98), some (vR 0), some (vR 200), some (vR 150), some (vI 1), some (vI t), some (vI (clV xs N (2 * t))), some (vI z), some (vI how), some (vI (τ.1 0)), some (vI (τ.1 1)), some (vI 0), none, none]) (st' := []) (X' := [(150, .inl (20, .inl q2))]) (fun _ _ => rfl) ?_
      have p4 : ∀ (u' : Nat) (τ' : St), u' ≤ u + 8 → Jx τ' → Ov τ' → GX G u' τ' ([(150, .inl (20, .inl q2))]) 119 [some (vR 98), some (vR 0), some (vR 200), some (vR 150), some (vI 1), some (vI t), some (vI (clV xs N (2 * t))), some (vI z), some (vI how), some (vI (τ.1 0)), some (vI (τ.1 1)), some (vI 4), none, none] [] := by
        intro u' τ' hu' hJ' hO'
        have hI' := hJ'.iv
        refine GX.run0 hR 2 (pc' := 122) (L' := [some (vR 98), some (vR 0), some (vR 200), some (vR 150), some (vI 1), some (vI t), some (vI (clV xs N (2 * t))), some (vI z), some (vI how), some (vI (τ.1 0)), some (vI (τ.1 1)), some (vI 4), none, none]) (st' := [vI 4, vI 4]) (X' := [(150, .inl (20, .inl q2))]) (fun _ _ => rfl) ?_
        refine GX.br hR (pc1 := 165) (pc2 := 125) (st1 := []) (C := (4 : Int) ≤ 4) (fun _ => rfl) (by first | omega | (dsimp only; omega)) (fun h49 => ?_) (fun h49 => (by exfalso; omega))
        refine GX.run0 hR 1 (pc' := 632) (L' := [some (vR 98), some (vR 0), some (vR 200), some (vR 150), some (vI 1), some (vI t), some (vI (clV xs N (2 * t))), some (vI z), some (vI how), some (vI (τ.1 0)), some (vI (τ.1 1)), some (vI 4), none, none]) (st' := []) (X' := [(150, .inl (20, .inl q2))]) (fun _ _ => rfl) ?_
        refine GX.fg hR 6 ?_
        refine GX.fg hR 7 ?_
        refine GX.fg hR 8 ?_
        refine GX.fg hR 9 ?_
        refine GX.fg hR 10 ?_
        refine GX.fg hR 11 ?_
        exact main _ _ _ (by omega) hJ' hO'
      have p3 : ∀ (u' : Nat) (τ' : St), u' ≤ u + 6 → Jx τ' → Ov τ' → GX G u' τ' ([(150, .inl (20, .inl q2))]) 119 [some (vR 98), some (vR 0), some (vR 200), some (vR 150), some (vI 1), some (vI t), some (vI (clV xs N (2 * t))), some (vI z), some (vI how), some (vI (τ.1 0)), some (vI (τ.1 1)), some (vI 3), none, none] [] := by
        intro u' τ' hu' hJ' hO'
        have hI' := hJ'.iv
        refine GX.run0 hR 2 (pc' := 122) (L' := [some (vR 98), some (vR 0), some (vR 200), some (vR 150), some (vI 1), some (vI t), some (vI (clV xs N (2 * t))), some (vI z), some (vI how), some (vI (τ.1 0)), some (vI (τ.1 1)), some (vI 3), none, none]) (st' := [vI 4, vI 3]) (X' := [(150, .inl (20, .inl q2))]) (fun _ _ => rfl) ?_
        refine GX.br hR (pc1 := 165) (pc2 := 125) (st1 := []) (C := (4 : Int) ≤ 3) (fun _ => rfl) (by first | omega | (dsimp only; omega)) (fun h50 => (by exfalso; omega)) (fun h50 => ?_)
        refine GX.run0 hR 1 (pc' := 127) (L' := [some (vR 98), some (vR 0), some (vR 200), some (vR 150), some (vI 1), some (vI t), some (vI (clV xs N (2 * t))), some (vI z), some (vI how), some (vI (τ.1 0)), some (vI (τ.1 1)), some (vI 3), none, none]) (st' := [vI 1]) (X' := [(150, .inl (20, .inl q2))]) (fun _ _ => rfl) ?_
        refine GX.br hR (pc1 := 165) (pc2 := 130) (st1 := []) (C := (1 : Int) = 0) (fun _ => rfl) (by first | omega | (dsimp only; omega)) (fun h51 => (by exfalso; omega)) (fun h51 => ?_)
        refine GX.run0 hR 1 (pc' := 131) (L' := [some (vR 98), some (vR 0), some (vR 200), some (vR 150), some (vI 1), some (vI t), some (vI (clV xs N (2 * t))), some (vI z), some (vI how), some (vI (τ.1 0)), some (vI (τ.1 1)), some (vI 3), none, none]) (st' := [vR 0]) (X' := [(150, .inl (20, .inl q2))]) (fun _ _ => rfl) ?_
        have f52 := hI'.hph
        refine GX.ask hR hro [] ((q_phase τ').gt) kL_125 rfl rfl rfl (by decide) (Nat.le_of_ble_eq_true rfl) (Nat.le_of_ble_eq_true rfl) rfl (fun _ _ => ⟨_, rfl⟩) ?_
        refine GX.br hR (pc1 := 152) (pc2 := 137) (st1 := []) (C := 0 < τ'.1 0) (fun _ => rfl) (by first | omega | (dsimp only; omega)) (fun h53 => ?_) (fun h53 => ?_)
        · skip
          refine GX.run0 hR 5 (pc' := 119) (L' := [some (vR 98), some (vR 0), some (vR 200), some (vR 150), some (vI 1), some (vI t), some (vI (clV xs N (2 * t))), some (vI z), some (vI how), some (vI (τ.1 0)), some (vI (τ.1 1)), some (vI 4), none, none]) (st' := []) (X' := [(150, .inl (20, .inl q2))]) (fun _ _ => rfl) ?_
          exact p4 _ _ (by omega) hJ' hO'
        · skip
          refine GX.run0 hR 7 (pc' := 146) (L' := [some (vR 98), some (vR 0), some (vR 200), some (vR 150), some (vI 1), some (vI t), some (vI (clV xs N (2 * t))), some (vI z), some (vI how), some (vI (τ.1 0)), some (vI (τ.1 1)), some (vI 3), none, none]) (st' := [vI (iSr z 9), vR 200, vR 0]) (X' := [(150, .inl (20, .inl q2))]) (fun _ _ => rfl) ?_
          refine GX.sm hR [vR 0, vR 200, vI (iSr z 9)] (w_places hro hJ' (q := q2) (iSr z 9) (by omega)) kL_191 rfl rfl (by decide) (Nat.le_of_ble_eq_true rfl) (Nat.le_of_ble_eq_true rfl) rfl (by omega) (fun i σ hqq hJ3 => ?_)
          obtain ⟨i1, i2⟩ := hqq
          rw [i1]
          refine GX.br hR (pc1 := 156) (pc2 := 152) (st1 := []) (C := (1 : Int) = 0) (fun _ => rfl) (by first | omega | (dsimp only; omega)) (fun h54 => (by exfalso; omega)) (fun h54 => ?_)
          refine GX.run0 hR 5 (pc' := 119) (L' := [some (vR 98), some (vR 0), some (vR 200), some (vR 150), some (vI 1), some (vI t), some (vI (clV xs N (2 * t))), some (vI z), some (vI how), some (vI (τ.1 0)), some (vI (τ.1 1)), some (vI 4), none, none]) (st' := []) (X' := [(150, .inl (20, .inl q2))]) (fun _ _ => rfl) ?_
          exact p4 _ _ (by omega) hJ3 i2
      have p2 : ∀ (u' : Nat) (τ' : St), u' ≤ u + 4 → Jx τ' → Ov τ' → GX G u' τ' ([(150, .inl (20, .inl q2))]) 119 [some (vR 98), some (vR 0), some (vR 200), some (vR 150), some (vI 1), some (vI t), some (vI (clV xs N (2 * t))), some (vI z), some (vI how), some (vI (τ.1 0)), some (vI (τ.1 1)), some (vI 2), none, none] [] := by
        intro u' τ' hu' hJ' hO'
        have hI' := hJ'.iv
        refine GX.run0 hR 2 (pc' := 122) (L' := [some (vR 98), some (vR 0), some (vR 200), some (vR 150), some (vI 1), some (vI t), some (vI (clV xs N (2 * t))), some (vI z), some (vI how), some (vI (τ.1 0)), some (vI (τ.1 1)), some (vI 2), none, none]) (st' := [vI 4, vI 2]) (X' := [(150, .inl (20, .inl q2))]) (fun _ _ => rfl) ?_
        refine GX.br hR (pc1 := 165) (pc2 := 125) (st1 := []) (C := (4 : Int) ≤ 2) (fun _ => rfl) (by first | omega | (dsimp only; omega)) (fun h55 => (by exfalso; omega)) (fun h55 => ?_)
        refine GX.run0 hR 1 (pc' := 127) (L' := [some (vR 98), some (vR 0), some (vR 200), some (vR 150), some (vI 1), some (vI t), some (vI (clV xs N (2 * t))), some (vI z), some (vI how), some (vI (τ.1 0)), some (vI (τ.1 1)), some (vI 2), none, none]) (st' := [vI 1]) (X' := [(150, .inl (20, .inl q2))]) (fun _ _ => rfl) ?_
        refine GX.br hR (pc1 := 165) (pc2 := 130) (st1 := []) (C := (1 : Int) = 0) (fun _ => rfl) (by first | omega | (dsimp only; omega)) (fun h56 => (by exfalso; omega)) (fun h56 => ?_)
        refine GX.run0 hR 1 (pc' := 131) (L' := [some (vR 98), some (vR 0), some (vR 200), some (vR 150), some (vI 1), some (vI t), some (vI (clV xs N (2 * t))), some (vI z), some (vI how), some (vI (τ.1 0)), some (vI (τ.1 1)), some (vI 2), none, none]) (st' := [vR 0]) (X' := [(150, .inl (20, .inl q2))]) (fun _ _ => rfl) ?_
        have f57 := hI'.hph
        refine GX.ask hR hro [] ((q_phase τ').gt) kL_125 rfl rfl rfl (by decide) (Nat.le_of_ble_eq_true rfl) (Nat.le_of_ble_eq_true rfl) rfl (fun _ _ => ⟨_, rfl⟩) ?_
        refine GX.br hR (pc1 := 152) (pc2 := 137) (st1 := []) (C := 0 < τ'.1 0) (fun _ => rfl) (by first | omega | (dsimp only; omega)) (fun h58 => ?_) (fun h58 => ?_)
        · skip
          refine GX.run0 hR 5 (pc' := 119) (L' := [some (vR 98), some (vR 0), some (vR 200), some (vR 150), some (vI 1), some (vI t), some (vI (clV xs N (2 * t))), some (vI z), some (vI how), some (vI (τ.1 0)), some (vI (τ.1 1)), some (vI 3), none, none]) (st' := []) (X' := [(150, .inl (20, .inl q2))]) (fun _ _ => rfl) ?_
          exact p3 _ _ (by omega) hJ' hO'
        · skip
          refine GX.run0 hR 7 (pc' := 146) (L' := [some (vR 98), some (vR 0), some (vR 200), some (vR 150), some (vI 1), some (vI t), some (vI (clV xs N (2 * t))), some (vI z), some (vI how), some (vI (τ.1 0)), some (vI (τ.1 1)), some (vI 2), none, none]) (st' := [vI (iSr z 6), vR 200, vR 0]) (X' := [(150, .inl (20, .inl q2))]) (fun _ _ => rfl) ?_
          refine GX.sm hR [vR 0, vR 200, vI (iSr z 6)] (w_places hro hJ' (q := q2) (iSr z 6) (by omega)) kL_191 rfl rfl (by decide) (Nat.le_of_ble_eq_true rfl) (Nat.le_of_ble_eq_true rfl) rfl (by omega) (fun i σ hqq hJ3 => ?_)
          obtain ⟨i1, i2⟩ := hqq
          rw [i1]
          refine GX.br hR (pc1 := 156) (pc2 := 152) (st1 := []) (C := (1 : Int) = 0) (fun _ => rfl) (by first | omega | (dsimp only; omega)) (fun h59 => (by exfalso; omega)) (fun h59 => ?_)
          refine GX.run0 hR 5 (pc' := 119) (L' := [some (vR 98), some (vR 0), some (vR 200), some (vR 150), some (vI 1), some (vI t), some (vI (clV xs N (2 * t))), some (vI z), some (vI how), some (vI (τ.1 0)), some (vI (τ.1 1)), some (vI 3), none, none]) (st' := []) (X' := [(150, .inl (20, .inl q2))]) (fun _ _ => rfl) ?_
          exact p3 _ _ (by omega) hJ3 i2
      have p1 : ∀ (u' : Nat) (τ' : St), u' ≤ u + 2 → Jx τ' → Ov τ' → GX G u' τ' ([(150, .inl (20, .inl q2))]) 119 [some (vR 98), some (vR 0), some (vR 200), some (vR 150), some (vI 1), some (vI t), some (vI (clV xs N (2 * t))), some (vI z), some (vI how), some (vI (τ.1 0)), some (vI (τ.1 1)), some (vI 1), none, none] [] := by
        intro u' τ' hu' hJ' hO'
        have hI' := hJ'.iv
        refine GX.run0 hR 2 (pc' := 122) (L' := [some (vR 98), some (vR 0), some (vR 200), some (vR 150), some (vI 1), some (vI t), some (vI (clV xs N (2 * t))), some (vI z), some (vI how), some (vI (τ.1 0)), some (vI (τ.1 1)), some (vI 1), none, none]) (st' := [vI 4, vI 1]) (X' := [(150, .inl (20, .inl q2))]) (fun _ _ => rfl) ?_
        refine GX.br hR (pc1 := 165) (pc2 := 125) (st1 := []) (C := (4 : Int) ≤ 1) (fun _ => rfl) (by first | omega | (dsimp only; omega)) (fun h60 => (by exfalso; omega)) (fun h60 => ?_)
        refine GX.run0 hR 1 (pc' := 127) (L' := [some (vR 98), some (vR 0), some (vR 200), some (vR 150), some (vI 1), some (vI t), some (vI (clV xs N (2 * t))), some (vI z), some (vI how), some (vI (τ.1 0)), some (vI (τ.1 1)), some (vI 1), none, none]) (st' := [vI 1]) (X' := [(150, .inl (20, .inl q2))]) (fun _ _ => rfl) ?_
        refine GX.br hR (pc1 := 165) (pc2 := 130) (st1 := []) (C := (1 : Int) = 0) (fun _ => rfl) (by first | omega | (dsimp only; omega)) (fun h61 => (by exfalso; omega)) (fun h61 => ?_)
        refine GX.run0 hR 1 (pc' := 131) (L' := [some (vR 98), some (vR 0), some (vR 200), some (vR 150), some (vI 1), some (vI t), some (vI (clV xs N (2 * t))), some (vI z), some (vI how), some (vI (τ.1 0)), some (vI (τ.1 1)), some (vI 1), none, none]) (st' := [vR 0]) (X' := [(150, .inl (20, .inl q2))]) (fun _ _ => rfl) ?_
        have f62 := hI'.hph
        refine GX.ask hR hro [] ((q_phase τ').gt) kL_125 rfl rfl rfl (by decide) (Nat.le_of_ble_eq_true rfl) (Nat.le_of_ble_eq_true rfl) rfl (fun _ _ => ⟨_, rfl⟩) ?_
        refine GX.br hR (pc1 := 152) (pc2 := 137) (st1 := []) (C := 0 < τ'.1 0) (fun _ => rfl) (by first | omega | (dsimp only; omega)) (fun h63 => ?_) (fun h63 => ?_)
        · skip
          refine GX.run0 hR 5 (pc' := 119) (L' := [some (vR 98), some (vR 0), some (vR 200), some (vR 150), some (vI 1), some (vI t), some (vI (clV xs N (2 * t))), some (vI z), some (vI how), some (vI (τ.1 0)), some (vI (τ.1 1)), some (vI 2), none, none]) (st' := []) (X' := [(150, .inl (20, .inl q2))]) (fun _ _ => rfl) ?_
          exact p2 _ _ (by omega) hJ' hO'
        · skip
          refine GX.run0 hR 7 (pc' := 146) (L' := [some (vR 98), some (vR 0), some (vR 200), some (vR 150), some (vI 1), some (vI t), some (vI (clV xs N (2 * t))), some (vI z), some (vI how), some (vI (τ.1 0)), some (vI (τ.1 1)), some (vI 1), none, none]) (st' := [vI (iSr z 3), vR 200, vR 0]) (X' := [(150, .inl (20, .inl q2))]) (fun _ _ => rfl) ?_
          refine GX.sm hR [vR 0, vR 200, vI (iSr z 3)] (w_places hro hJ' (q := q2) (iSr z 3) (by omega)) kL_191 rfl rfl (by decide) (Nat.le_of_ble_eq_true rfl) (Nat.le_of_ble_eq_true rfl) rfl (by omega) (fun i σ hqq hJ3 => ?_)
          obtain ⟨i1, i2⟩ := hqq
          rw [i1]
          refine GX.br hR (pc1 := 156) (pc2 := 152) (st1 := []) (C := (1 : Int) = 0) (fun _ => rfl) (by first | omega | (dsimp only; omega)) (fun h64 => (by exfalso; omega)) (fun h64 => ?_)
          refine GX.run0 hR 5 (pc' := 119) (L' := [some (vR 98), some (vR 0), some (vR 200), some (vR 150), some (vI 1), some (vI t), some (vI (clV xs N (2 * t))), some (vI z), some (vI how), some (vI (τ.1 0)), some (vI (τ.1 1)), some (vI 2), none, none]) (st' := []) (X' := [(150, .inl (20, .inl q2))]) (fun _ _ => rfl) ?_
          exact p2 _ _ (by omega) hJ3 i2
      have p0 : ∀ (u' : Nat) (τ' : St), u' ≤ u + 0 → Jx τ' → Ov τ' → GX G u' τ' ([(150, .inl (20, .inl q2))]) 119 [some (vR 98), some (vR 0), some (vR 200), some (vR 150), some (vI 1), some (vI t), some (vI (clV xs N (2 * t))), some (vI z), some (vI how), some (vI (τ.1 0)), some (vI (τ.1 1)), some (vI 0), none, none] [] := by
        intro u' τ' hu' hJ' hO'
        have hI' := hJ'.iv
        refine GX.run0 hR 2 (pc' := 122) (L' := [some (vR 98), some (vR 0), some (vR 200), some (vR 150), some (vI 1), some (vI t), some (vI (clV xs N (2 * t))), some (vI z), some (vI how), some (vI (τ.1 0)), some (vI (τ.1 1)), some (vI 0), none, none]) (st' := [vI 4, vI 0]) (X' := [(150, .inl (20, .inl q2))]) (fun _ _ => rfl) ?_
        refine GX.br hR (pc1 := 165) (pc2 := 125) (st1 := []) (C := (4 : Int) ≤ 0) (fun _ => rfl) (by first | omega | (dsimp only; omega)) (fun h65 => (by exfalso; omega)) (fun h65 => ?_)
        refine GX.run0 hR 1 (pc' := 127) (L' := [some (vR 98), some (vR 0), some (vR 200), some (vR 150), some (vI 1), some (vI t), some (vI (clV xs N (2 * t))), some (vI z), some (vI how), some (vI (τ.1 0)), some (vI (τ.1 1)), some (vI 0), none, none]) (st' := [vI 1]) (X' := [(150, .inl (20, .inl q2))]) (fun _ _ => rfl) ?_
        refine GX.br hR (pc1 := 165) (pc2 := 130) (st1 := []) (C := (1 : Int) = 0) (fun _ => rfl) (by first | omega | (dsimp only; omega)) (fun h66 => (by exfalso; omega)) (fun h66 => ?_)
        refine GX.run0 hR 1 (pc' := 131) (L' := [some (vR 98), some (vR 0), some (vR 200), some (vR 150), some (vI 1), some (vI t), some (vI (clV xs N (2 * t))), some (vI z), some (vI how), some (vI (τ.1 0)), some (vI (τ.1 1)), some (vI 0), none, none]) (st' := [vR 0]) (X' := [(150, .inl (20, .inl q2))]) (fun _ _ => rfl) ?_
        have f67 := hI'.hph
        refine GX.ask hR hro [] ((q_phase τ').gt) kL_125 rfl rfl rfl (by decide) (Nat.le_of_ble_eq_true rfl) (Nat.le_of_ble_eq_true rfl) rfl (fun _ _ => ⟨_, rfl⟩) ?_
        refine GX.br hR (pc1 := 152) (pc2 := 137) (st1 := []) (C := 0 < τ'.1 0) (fun _ => rfl) (by first | omega | (dsimp only; omega)) (fun h68 => ?_) (fun h68 => ?_)
        · skip
          refine GX.run0 hR 5 (pc' := 119) (L' := [some (vR 98), some (vR 0), some (vR 200), some (vR 150), some (vI 1), some (vI t), some (vI (clV xs N (2 * t))), some (vI z), some (vI how), some (vI (τ.1 0)), some (vI (τ.1 1)), some (vI 1), none, none]) (st' := []) (X' := [(150, .inl (20, .inl q2))]) (fun _ _ => rfl) ?_
          exact p1 _ _ (by omega) hJ' hO'
        · skip
          refine GX.run0 hR 7 (pc' := 146) (L' := [some (vR 98), some (vR 0), some (vR 200), some (vR 150), some (vI 1), some (vI t), some (vI (clV xs N (2 * t))), some (vI z), some (vI how), some (vI (τ.1 0)), some (vI (τ.1 1)), some (vI 0), none, none]) (st' := [vI (iSr z 0), vR 200, vR 0]) (X' := [(150, .inl (20, .inl q2))]) (fun _ _ => rfl) ?_
          refine GX.sm hR [vR 0, vR 200, vI (iSr z 0)] (w_places hro hJ' (q := q2) (iSr z 0) (by omega)) kL_191 rfl rfl (by decide) (Nat.le_of_ble_eq_true rfl) (Nat.le_of_ble_eq_true rfl) rfl (by omega) (fun i σ hqq hJ3 => ?_)
          obtain ⟨i1, i2⟩ := hqq
          rw [i1]
          refine GX.br hR (pc1 := 156) (pc2 := 152) (st1 := []) (C := (1 : Int) = 0) (fun _ => rfl) (by first | omega | (dsimp only; omega)) (fun h69 => (by exfalso; omega)) (fun h69 => ?_)
          refine GX.run0 hR 5 (pc' := 119) (L' := [some (vR 98), some (vR 0), some (vR 200), some (vR 150), some (vI 1), some (vI t), some (vI (clV xs N (2 * t))), some (vI z), some (vI how), some (vI (τ.1 0)), some (vI (τ.1 1)), some (vI 1), none, none]) (st' := []) (X' := [(150, .inl (20, .inl q2))]) (fun _ _ => rfl) ?_
          exact p1 _ _ (by omega) hJ3 i2
      exact p0 _ _ (by omega) hJ hO
set_option maxRecDepth 20000 in
set_option maxHeartbeats 8000000 in
theorem law_body {xs : Int → Int} {N : Nat} (hx : N ≤ 260 ∧ ∀ j, -2147483648 ≤ xs j ∧ xs j ≤ 2147483647) {ks : List Nat} {G : Nat → PS → Prop} (hk : ∀ q : Int → Int, kT [(150, .inl (20, .inl q))] ks) (hR : Rm RL lkL ((98, N, xs) :: roC) bL_law (some .boolean) 100 6100 (fun v _ => v = some (vI 1)) ks G) {τ : St} (hJ : Jx τ) (hO : Ov τ) (q : Int → Int) : GX G 0 τ ([(150, .inl (20, .inl q))]) 21 [some (vR 98), some (vR 0), some (vR 200), some (vR 150), none, none, none, none, none, none, none, none, none, none] [] := by
  have hro : ∀ q ∈ roC, q ∈ ((98, N, xs) :: roC : PRO) := fun q hq => List.mem_cons_of_mem _ hq
  have hI := hJ.iv
  refine GX.run0 hR 1 (pc' := 22) (L' := [some (vR 98), some (vR 0), some (vR 200), some (vR 150), none, none, none, none, none, none, none, none, none, none]) (st' := [vR 0]) (X' := [(150, .inl (20, .inl q))]) (fun _ _ => rfl) ?_
  refine GX.sm hR [vR 0] (w_refused hro hJ (q := q)) kL_179 rfl rfl (by decide) (Nat.le_of_ble_eq_true rfl) (Nat.le_of_ble_eq_true rfl) rfl (by omega) (fun i σ hqq hJ3 => ?_)
  obtain ⟨i1, i2⟩ := hqq
  rw [i1]
  rw [i2]
  refine GX.br hR (pc1 := 44) (pc2 := 28) (st1 := []) (C := (1 : Int) = 0) (fun _ => rfl) (by first | omega | (dsimp only; omega)) (fun h1 => (by exfalso; omega)) (fun h1 => ?_)
  refine GX.run0 hR 1 (pc' := 29) (L' := [some (vR 98), some (vR 0), some (vR 200), some (vR 150), none, none, none, none, none, none, none, none, none, none]) (st' := [vR 0]) (X' := [(150, .inl (20, .inl q))]) (fun _ _ => rfl) ?_
  refine GX.sg hR [vR 0] (fun κ κ2 hJ hJ2 => lp_all1 hro hJ κ2 _) kL_173 rfl rfl (by decide) (Nat.le_of_ble_eq_true rfl) (Nat.le_of_ble_eq_true rfl) rfl ?_
  refine GX.run0 hR 1 (pc' := 33) (L' := [some (vR 98), some (vR 0), some (vR 200), some (vR 150), none, none, none, none, none, none, none, none, none, none]) (st' := [vR 200, vL (nmL (dgA τ))]) (X' := [(150, .inl (20, .inl q))]) (fun _ _ => rfl) ?_
  refine GX.sg hR [vR 200] (fun κ κ2 hJ hJ2 => lp_all2 hro hJ2 κ _) kL_173 rfl rfl (by decide) (Nat.le_of_ble_eq_true rfl) (Nat.le_of_ble_eq_true rfl) rfl ?_
  refine GX.run1 hR 1 (pc' := 37) (L' := [some (vR 98), some (vR 0), some (vR 200), some (vR 150), none, none, none, none, none, none, none, none, none, none]) (st' := [vI (if nmL (dgA τ) < nmL (dgA τ) then 1 else if nmL (dgA τ) = nmL (dgA τ) then 0 else -1)]) (X' := [(150, .inl (20, .inl q))]) (fun _ _ => rfl) ⟨nmL_r _, nmL_r _⟩ ?_
  rw [lc_eq]
  refine GX.br hR (pc1 := 44) (pc2 := 40) (st1 := []) (C := (0 : Int) ≠ 0) (fun _ => rfl) (by first | omega | (dsimp only; omega)) (fun h2 => (by exfalso; omega)) (fun h2 => ?_)
  refine GX.run0 hR 5 (pc' := 50) (L' := [some (vR 98), some (vR 0), some (vR 200), some (vR 150), some (vI 1), some (vI 0), none, none, none, none, none, none, none, none]) (st' := []) (X' := [(150, .inl (20, .inl q))]) (fun _ _ => rfl) ?_
  exact law_loop hx hk hR 150 _ 0 τ q (by omega) (by omega) (by omega) hJ hO
