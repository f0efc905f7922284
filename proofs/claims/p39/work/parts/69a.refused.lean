/-! ===== the walks of the law's checks ===== -/
theorem lc_eq (H : Int) : (if H < H then (1 : Int) else if H = H then 0 else -1) = 0 := by
  rw [if_neg (by omega), if_pos rfl]
set_option maxHeartbeats 4000000 in
theorem w_refused {ro : PRO} (hro : ∀ q ∈ roC, q ∈ ro) {τ : St} (hJ : Jx τ) {q : Int → Int} : SX mL_refused ro 15 [vR 0] τ [(150, .inl (20, .inl q))] (fun i σ => i = 1 ∧ σ = τ) 24 := by
  have hI := hJ.iv
  refine SX.of rfl tL_refused (Nat.le_of_ble_eq_true rfl) (fun G ks hk hR => ?_)
  show GX G 0 τ ([(150, .inl (20, .inl q))]) 0 [some (vR 0), none, none, none] []
  refine GX.run0 hR 1 (pc' := 1) (L' := [some (vR 0), none, none, none]) (st' := [vR 0]) (X' := [(150, .inl (20, .inl q))]) (fun _ _ => rfl) ?_
  refine GX.sg hR [vR 0] (fun κ κ2 hJ hJ2 => lp_all1 hro hJ κ2 _) kL_173 rfl rfl (by decide) (Nat.le_of_ble_eq_true rfl) (Nat.le_of_ble_eq_true rfl) rfl ?_
  refine GX.run0 hR 6 (pc' := 12) (L' := [some (vR 0), some (vL (nmL (dgA τ))), none, none]) (st' := [vI 6, vI 0, vI 7, vI 0, vR 0]) (X' := [(150, .inl (20, .inl q))]) (fun _ _ => rfl) ?_
  refine GX.no hR hro (rf_0 τ) rfl (by decide) (Nat.le_of_ble_eq_true rfl) rfl (by decide) ?_
  refine GX.run0 hR 1 (pc' := 18) (L' := [some (vR 0), some (vL (nmL (dgA τ))), none, none]) (st' := [vI (-1121), vI (-1121)]) (X' := [(150, .inl (20, .inl q))]) (fun _ _ => rfl) ?_
  refine GX.br hR (pc1 := 373) (pc2 := 21) (st1 := []) (C := ((-1121) : Int) ≠ (-1121)) (fun _ => rfl) (by first | omega | (dsimp only; omega)) (fun h1 => (by exfalso; omega)) (fun h1 => ?_)
  refine GX.run0 hR 5 (pc' := 28) (L' := [some (vR 0), some (vL (nmL (dgA τ))), none, none]) (st' := [vI 6, vI 6, vI 0, vI 0, vR 0]) (X' := [(150, .inl (20, .inl q))]) (fun _ _ => rfl) ?_
  refine GX.no hR hro (rf_1 τ) rfl (by decide) (Nat.le_of_ble_eq_true rfl) rfl (by decide) ?_
  refine GX.run0 hR 1 (pc' := 34) (L' := [some (vR 0), some (vL (nmL (dgA τ))), none, none]) (st' := [vI (-1122), vI (-1122)]) (X' := [(150, .inl (20, .inl q))]) (fun _ _ => rfl) ?_
  refine GX.br hR (pc1 := 373) (pc2 := 37) (st1 := []) (C := ((-1122) : Int) ≠ (-1122)) (fun _ => rfl) (by first | omega | (dsimp only; omega)) (fun h2 => (by exfalso; omega)) (fun h2 => ?_)
  refine GX.run0 hR 5 (pc' := 43) (L' := [some (vR 0), some (vL (nmL (dgA τ))), none, none]) (st' := [vI 0, vI 0, vI 24, vI 1, vR 0]) (X' := [(150, .inl (20, .inl q))]) (fun _ _ => rfl) ?_
  refine GX.no hR hro (rf_2 τ) rfl (by decide) (Nat.le_of_ble_eq_true rfl) rfl (by decide) ?_
  refine GX.run0 hR 1 (pc' := 49) (L' := [some (vR 0), some (vL (nmL (dgA τ))), none, none]) (st' := [vI (-1121), vI (-1121)]) (X' := [(150, .inl (20, .inl q))]) (fun _ _ => rfl) ?_
  refine GX.br hR (pc1 := 373) (pc2 := 52) (st1 := []) (C := ((-1121) : Int) ≠ (-1121)) (fun _ => rfl) (by first | omega | (dsimp only; omega)) (fun h3 => (by exfalso; omega)) (fun h3 => ?_)
  refine GX.run0 hR 5 (pc' := 58) (L' := [some (vR 0), some (vL (nmL (dgA τ))), none, none]) (st' := [vI 0, vI 30, vI 0, vI 1, vR 0]) (X' := [(150, .inl (20, .inl q))]) (fun _ _ => rfl) ?_
  refine GX.no hR hro (rf_3 τ) rfl (by decide) (Nat.le_of_ble_eq_true rfl) rfl (by decide) ?_
  refine GX.run0 hR 1 (pc' := 64) (L' := [some (vR 0), some (vL (nmL (dgA τ))), none, none]) (st' := [vI (-1121), vI (-1121)]) (X' := [(150, .inl (20, .inl q))]) (fun _ _ => rfl) ?_
  refine GX.br hR (pc1 := 373) (pc2 := 67) (st1 := []) (C := ((-1121) : Int) ≠ (-1121)) (fun _ => rfl) (by first | omega | (dsimp only; omega)) (fun h4 => (by exfalso; omega)) (fun h4 => ?_)
  refine GX.run0 hR 5 (pc' := 72) (L' := [some (vR 0), some (vL (nmL (dgA τ))), none, none]) (st' := [vI 0, vI 0, vI 3, vI 2, vR 0]) (X' := [(150, .inl (20, .inl q))]) (fun _ _ => rfl) ?_
  refine GX.no hR hro (rf_4 τ) rfl (by decide) (Nat.le_of_ble_eq_true rfl) rfl (by decide) ?_
  refine GX.run0 hR 1 (pc' := 78) (L' := [some (vR 0), some (vL (nmL (dgA τ))), none, none]) (st' := [vI (-1121), vI (-1121)]) (X' := [(150, .inl (20, .inl q))]) (fun _ _ => rfl) ?_
  refine GX.br hR (pc1 := 373) (pc2 := 81) (st1 := []) (C := ((-1121) : Int) ≠ (-1121)) (fun _ => rfl) (by first | omega | (dsimp only; omega)) (fun h5 => (by exfalso; omega)) (fun h5 => ?_)
  refine GX.run0 hR 5 (pc' := 86) (L' := [some (vR 0), some (vL (nmL (dgA τ))), none, none]) (st' := [vI 0, vI (-1), vI 0, vI 2, vR 0]) (X' := [(150, .inl (20, .inl q))]) (fun _ _ => rfl) ?_
  refine GX.no hR hro (rf_5 τ) rfl (by decide) (Nat.le_of_ble_eq_true rfl) rfl (by decide) ?_
  refine GX.run0 hR 1 (pc' := 92) (L' := [some (vR 0), some (vL (nmL (dgA τ))), none, none]) (st' := [vI (-1122), vI (-1122)]) (X' := [(150, .inl (20, .inl q))]) (fun _ _ => rfl) ?_
  refine GX.br hR (pc1 := 373) (pc2 := 95) (st1 := []) (C := ((-1122) : Int) ≠ (-1122)) (fun _ => rfl) (by first | omega | (dsimp only; omega)) (fun h6 => (by exfalso; omega)) (fun h6 => ?_)
  refine GX.run0 hR 5 (pc' := 100) (L' := [some (vR 0), some (vL (nmL (dgA τ))), none, none]) (st' := [vI 0, vI 1, vI 0, vI 3, vR 0]) (X' := [(150, .inl (20, .inl q))]) (fun _ _ => rfl) ?_
  refine GX.no hR hro (rf_6 τ) rfl (by decide) (Nat.le_of_ble_eq_true rfl) rfl (by decide) ?_
  refine GX.run0 hR 1 (pc' := 106) (L' := [some (vR 0), some (vL (nmL (dgA τ))), none, none]) (st' := [vI (-1122), vI (-1122)]) (X' := [(150, .inl (20, .inl q))]) (fun _ _ => rfl) ?_
  refine GX.br hR (pc1 := 373) (pc2 := 109) (st1 := []) (C := ((-1122) : Int) ≠ (-1122)) (fun _ => rfl) (by first | omega | (dsimp only; omega)) (fun h7 => (by exfalso; omega)) (fun h7 => ?_)
  refine GX.run0 hR 5 (pc' := 115) (L' := [some (vR 0), some (vL (nmL (dgA τ))), none, none]) (st' := [vI 0, vI 100000, vI 3, vI 4, vR 0]) (X' := [(150, .inl (20, .inl q))]) (fun _ _ => rfl) ?_
  refine GX.no hR hro (rf_7 τ) rfl (by decide) (Nat.le_of_ble_eq_true rfl) rfl (by decide) ?_
  refine GX.run0 hR 1 (pc' := 121) (L' := [some (vR 0), some (vL (nmL (dgA τ))), none, none]) (st' := [vI (-1121), vI (-1121)]) (X' := [(150, .inl (20, .inl q))]) (fun _ _ => rfl) ?_
  refine GX.br hR (pc1 := 373) (pc2 := 124) (st1 := []) (C := ((-1121) : Int) ≠ (-1121)) (fun _ => rfl) (by first | omega | (dsimp only; omega)) (fun h8 => (by exfalso; omega)) (fun h8 => ?_)
  refine GX.run0 hR 5 (pc' := 129) (L' := [some (vR 0), some (vL (nmL (dgA τ))), none, none]) (st' := [vI 0, vI 3, vI 0, vI 5, vR 0]) (X' := [(150, .inl (20, .inl q))]) (fun _ _ => rfl) ?_
  refine GX.no hR hro (rf_8 τ) rfl (by decide) (Nat.le_of_ble_eq_true rfl) rfl (by decide) ?_
  refine GX.run0 hR 1 (pc' := 135) (L' := [some (vR 0), some (vL (nmL (dgA τ))), none, none]) (st' := [vI (-1121), vI (-1121)]) (X' := [(150, .inl (20, .inl q))]) (fun _ _ => rfl) ?_
  refine GX.br hR (pc1 := 373) (pc2 := 138) (st1 := []) (C := ((-1121) : Int) ≠ (-1121)) (fun _ => rfl) (by first | omega | (dsimp only; omega)) (fun h9 => (by exfalso; omega)) (fun h9 => ?_)
  refine GX.run0 hR 5 (pc' := 143) (L' := [some (vR 0), some (vL (nmL (dgA τ))), none, none]) (st' := [vI (-1), vI 0, vI 0, vI 5, vR 0]) (X' := [(150, .inl (20, .inl q))]) (fun _ _ => rfl) ?_
  refine GX.no hR hro (rf_9 τ) rfl (by decide) (Nat.le_of_ble_eq_true rfl) rfl (by decide) ?_
  refine GX.run0 hR 1 (pc' := 149) (L' := [some (vR 0), some (vL (nmL (dgA τ))), none, none]) (st' := [vI (-1122), vI (-1122)]) (X' := [(150, .inl (20, .inl q))]) (fun _ _ => rfl) ?_
  refine GX.br hR (pc1 := 373) (pc2 := 152) (st1 := []) (C := ((-1122) : Int) ≠ (-1122)) (fun _ => rfl) (by first | omega | (dsimp only; omega)) (fun h10 => (by exfalso; omega)) (fun h10 => ?_)
  refine GX.run0 hR 5 (pc' := 159) (L' := [some (vR 0), some (vL (nmL (dgA τ))), none, none]) (st' := [vI 0, vI 0, vI 30, vI 6, vR 0]) (X' := [(150, .inl (20, .inl q))]) (fun _ _ => rfl) ?_
  refine GX.no hR hro (rf_10 τ) rfl (by decide) (Nat.le_of_ble_eq_true rfl) rfl (by decide) ?_
  refine GX.run0 hR 1 (pc' := 165) (L' := [some (vR 0), some (vL (nmL (dgA τ))), none, none]) (st' := [vI (-1121), vI (-1121)]) (X' := [(150, .inl (20, .inl q))]) (fun _ _ => rfl) ?_
  refine GX.br hR (pc1 := 373) (pc2 := 168) (st1 := []) (C := ((-1121) : Int) ≠ (-1121)) (fun _ => rfl) (by first | omega | (dsimp only; omega)) (fun h11 => (by exfalso; omega)) (fun h11 => ?_)
  refine GX.run0 hR 5 (pc' := 174) (L' := [some (vR 0), some (vL (nmL (dgA τ))), none, none]) (st' := [vI 0, vI 0, vI (-1), vI 7, vR 0]) (X' := [(150, .inl (20, .inl q))]) (fun _ _ => rfl) ?_
  refine GX.no hR hro (rf_11 τ) rfl (by decide) (Nat.le_of_ble_eq_true rfl) rfl (by decide) ?_
  refine GX.run0 hR 1 (pc' := 180) (L' := [some (vR 0), some (vL (nmL (dgA τ))), none, none]) (st' := [vI (-1121), vI (-1121)]) (X' := [(150, .inl (20, .inl q))]) (fun _ _ => rfl) ?_
  refine GX.br hR (pc1 := 373) (pc2 := 183) (st1 := []) (C := ((-1121) : Int) ≠ (-1121)) (fun _ => rfl) (by first | omega | (dsimp only; omega)) (fun h12 => (by exfalso; omega)) (fun h12 => ?_)
  refine GX.run0 hR 5 (pc' := 190) (L' := [some (vR 0), some (vL (nmL (dgA τ))), none, none]) (st' := [vI 0, vI 0, vI 24, vI 8, vR 0]) (X' := [(150, .inl (20, .inl q))]) (fun _ _ => rfl) ?_
  refine GX.no hR hro (rf_12 τ) rfl (by decide) (Nat.le_of_ble_eq_true rfl) rfl (by decide) ?_
  refine GX.run0 hR 1 (pc' := 196) (L' := [some (vR 0), some (vL (nmL (dgA τ))), none, none]) (st' := [vI (-1121), vI (-1121)]) (X' := [(150, .inl (20, .inl q))]) (fun _ _ => rfl) ?_
  refine GX.br hR (pc1 := 373) (pc2 := 199) (st1 := []) (C := ((-1121) : Int) ≠ (-1121)) (fun _ => rfl) (by first | omega | (dsimp only; omega)) (fun h13 => (by exfalso; omega)) (fun h13 => ?_)
  refine GX.run0 hR 5 (pc' := 206) (L' := [some (vR 0), some (vL (nmL (dgA τ))), none, none]) (st' := [vI 0, vI (-1), vI 7, vI 10, vR 0]) (X' := [(150, .inl (20, .inl q))]) (fun _ _ => rfl) ?_
  refine GX.no hR hro (rf_13 τ) rfl (by decide) (Nat.le_of_ble_eq_true rfl) rfl (by decide) ?_
  refine GX.run0 hR 1 (pc' := 212) (L' := [some (vR 0), some (vL (nmL (dgA τ))), none, none]) (st' := [vI (-1121), vI (-1121)]) (X' := [(150, .inl (20, .inl q))]) (fun _ _ => rfl) ?_
  refine GX.br hR (pc1 := 373) (pc2 := 215) (st1 := []) (C := ((-1121) : Int) ≠ (-1121)) (fun _ => rfl) (by first | omega | (dsimp only; omega)) (fun h14 => (by exfalso; omega)) (fun h14 => ?_)
  refine GX.run0 hR 5 (pc' := 224) (L' := [some (vR 0), some (vL (nmL (dgA τ))), none, none]) (st' := [vI 1000, vI (-2), vI 0, vI 10, vR 0]) (X' := [(150, .inl (20, .inl q))]) (fun _ _ => rfl) ?_
  refine GX.no hR hro (rf_14 τ) rfl (by decide) (Nat.le_of_ble_eq_true rfl) rfl (by decide) ?_
  refine GX.run0 hR 1 (pc' := 230) (L' := [some (vR 0), some (vL (nmL (dgA τ))), none, none]) (st' := [vI (-1121), vI (-1121)]) (X' := [(150, .inl (20, .inl q))]) (fun _ _ => rfl) ?_
  refine GX.br hR (pc1 := 373) (pc2 := 233) (st1 := []) (C := ((-1121) : Int) ≠ (-1121)) (fun _ => rfl) (by first | omega | (dsimp only; omega)) (fun h15 => (by exfalso; omega)) (fun h15 => ?_)
  refine GX.run0 hR 5 (pc' := 239) (L' := [some (vR 0), some (vL (nmL (dgA τ))), none, none]) (st' := [vI 0, vI 0, vI (-1), vI 11, vR 0]) (X' := [(150, .inl (20, .inl q))]) (fun _ _ => rfl) ?_
  refine GX.no hR hro (rf_15 τ) rfl (by decide) (Nat.le_of_ble_eq_true rfl) rfl (by decide) ?_
  refine GX.run0 hR 1 (pc' := 245) (L' := [some (vR 0), some (vL (nmL (dgA τ))), none, none]) (st' := [vI (-1121), vI (-1121)]) (X' := [(150, .inl (20, .inl q))]) (fun _ _ => rfl) ?_
  refine GX.br hR (pc1 := 373) (pc2 := 248) (st1 := []) (C := ((-1121) : Int) ≠ (-1121)) (fun _ => rfl) (by first | omega | (dsimp only; omega)) (fun h16 => (by exfalso; omega)) (fun h16 => ?_)
  refine GX.run0 hR 5 (pc' := 254) (L' := [some (vR 0), some (vL (nmL (dgA τ))), none, none]) (st' := [vI 0, vI (-1), vI 0, vI 12, vR 0]) (X' := [(150, .inl (20, .inl q))]) (fun _ _ => rfl) ?_
  refine GX.no hR hro (rf_16 τ) rfl (by decide) (Nat.le_of_ble_eq_true rfl) rfl (by decide) ?_
  refine GX.run0 hR 1 (pc' := 260) (L' := [some (vR 0), some (vL (nmL (dgA τ))), none, none]) (st' := [vI (-1122), vI (-1122)]) (X' := [(150, .inl (20, .inl q))]) (fun _ _ => rfl) ?_
  refine GX.br hR (pc1 := 373) (pc2 := 263) (st1 := []) (C := ((-1122) : Int) ≠ (-1122)) (fun _ => rfl) (by first | omega | (dsimp only; omega)) (fun h17 => (by exfalso; omega)) (fun h17 => ?_)
  refine GX.run0 hR 5 (pc' := 269) (L' := [some (vR 0), some (vL (nmL (dgA τ))), none, none]) (st' := [vI 0, vI 0, vI 5, vI 13, vR 0]) (X' := [(150, .inl (20, .inl q))]) (fun _ _ => rfl) ?_
  refine GX.no hR hro (rf_17 τ) rfl (by decide) (Nat.le_of_ble_eq_true rfl) rfl (by decide) ?_
  refine GX.run0 hR 1 (pc' := 275) (L' := [some (vR 0), some (vL (nmL (dgA τ))), none, none]) (st' := [vI (-1122), vI (-1122)]) (X' := [(150, .inl (20, .inl q))]) (fun _ _ => rfl) ?_
  refine GX.br hR (pc1 := 373) (pc2 := 278) (st1 := []) (C := ((-1122) : Int) ≠ (-1122)) (fun _ => rfl) (by first | omega | (dsimp only; omega)) (fun h18 => (by exfalso; omega)) (fun h18 => ?_)
  refine GX.run0 hR 5 (pc' := 284) (L' := [some (vR 0), some (vL (nmL (dgA τ))), none, none]) (st' := [vI 0, vI 2, vI 2, vI 14, vR 0]) (X' := [(150, .inl (20, .inl q))]) (fun _ _ => rfl) ?_
  refine GX.no hR hro (rf_18 τ) rfl (by decide) (Nat.le_of_ble_eq_true rfl) rfl (by decide) ?_
  refine GX.run0 hR 1 (pc' := 290) (L' := [some (vR 0), some (vL (nmL (dgA τ))), none, none]) (st' := [vI (-1122), vI (-1122)]) (X' := [(150, .inl (20, .inl q))]) (fun _ _ => rfl) ?_
  refine GX.br hR (pc1 := 373) (pc2 := 293) (st1 := []) (C := ((-1122) : Int) ≠ (-1122)) (fun _ => rfl) (by first | omega | (dsimp only; omega)) (fun h19 => (by exfalso; omega)) (fun h19 => ?_)
  refine GX.run0 hR 5 (pc' := 300) (L' := [some (vR 0), some (vL (nmL (dgA τ))), none, none]) (st' := [vI 0, vI 1, vI 100000, vI 15, vR 0]) (X' := [(150, .inl (20, .inl q))]) (fun _ _ => rfl) ?_
  refine GX.no hR hro (rf_19 τ) rfl (by decide) (Nat.le_of_ble_eq_true rfl) rfl (by decide) ?_
  refine GX.run0 hR 1 (pc' := 306) (L' := [some (vR 0), some (vL (nmL (dgA τ))), none, none]) (st' := [vI (-1122), vI (-1122)]) (X' := [(150, .inl (20, .inl q))]) (fun _ _ => rfl) ?_
  refine GX.br hR (pc1 := 373) (pc2 := 309) (st1 := []) (C := ((-1122) : Int) ≠ (-1122)) (fun _ => rfl) (by first | omega | (dsimp only; omega)) (fun h20 => (by exfalso; omega)) (fun h20 => ?_)
  refine GX.run0 hR 5 (pc' := 315) (L' := [some (vR 0), some (vL (nmL (dgA τ))), none, none]) (st' := [vI 0, vI 0, vI 3, vI 16, vR 0]) (X' := [(150, .inl (20, .inl q))]) (fun _ _ => rfl) ?_
  refine GX.no hR hro (rf_20 τ) rfl (by decide) (Nat.le_of_ble_eq_true rfl) rfl (by decide) ?_
  refine GX.run0 hR 1 (pc' := 321) (L' := [some (vR 0), some (vL (nmL (dgA τ))), none, none]) (st' := [vI (-1121), vI (-1121)]) (X' := [(150, .inl (20, .inl q))]) (fun _ _ => rfl) ?_
  refine GX.br hR (pc1 := 373) (pc2 := 324) (st1 := []) (C := ((-1121) : Int) ≠ (-1121)) (fun _ => rfl) (by first | omega | (dsimp only; omega)) (fun h21 => (by exfalso; omega)) (fun h21 => ?_)
  refine GX.run0 hR 5 (pc' := 330) (L' := [some (vR 0), some (vL (nmL (dgA τ))), none, none]) (st' := [vI 1, vI 0, vI 0, vI 16, vR 0]) (X' := [(150, .inl (20, .inl q))]) (fun _ _ => rfl) ?_
  refine GX.no hR hro (rf_21 τ) rfl (by decide) (Nat.le_of_ble_eq_true rfl) rfl (by decide) ?_
  refine GX.run0 hR 1 (pc' := 336) (L' := [some (vR 0), some (vL (nmL (dgA τ))), none, none]) (st' := [vI (-1122), vI (-1122)]) (X' := [(150, .inl (20, .inl q))]) (fun _ _ => rfl) ?_
  refine GX.br hR (pc1 := 373) (pc2 := 339) (st1 := []) (C := ((-1122) : Int) ≠ (-1122)) (fun _ => rfl) (by first | omega | (dsimp only; omega)) (fun h22 => (by exfalso; omega)) (fun h22 => ?_)
  refine GX.run0 hR 5 (pc' := 345) (L' := [some (vR 0), some (vL (nmL (dgA τ))), none, none]) (st' := [vI 0, vI 0, vI (-1), vI 17, vR 0]) (X' := [(150, .inl (20, .inl q))]) (fun _ _ => rfl) ?_
  refine GX.no hR hro (rf_22 τ) rfl (by decide) (Nat.le_of_ble_eq_true rfl) rfl (by decide) ?_
  refine GX.run0 hR 1 (pc' := 351) (L' := [some (vR 0), some (vL (nmL (dgA τ))), none, none]) (st' := [vI (-1121), vI (-1121)]) (X' := [(150, .inl (20, .inl q))]) (fun _ _ => rfl) ?_
  refine GX.br hR (pc1 := 373) (pc2 := 354) (st1 := []) (C := ((-1121) : Int) ≠ (-1121)) (fun _ => rfl) (by first | omega | (dsimp only; omega)) (fun h23 => (by exfalso; omega)) (fun h23 => ?_)
  refine GX.run0 hR 5 (pc' := 360) (L' := [some (vR 0), some (vL (nmL (dgA τ))), none, none]) (st' := [vI 0, vI 0, vI 3, vI 18, vR 0]) (X' := [(150, .inl (20, .inl q))]) (fun _ _ => rfl) ?_
  refine GX.no hR hro (rf_23 τ) rfl (by decide) (Nat.le_of_ble_eq_true rfl) rfl (by decide) ?_
  refine GX.run0 hR 1 (pc' := 366) (L' := [some (vR 0), some (vL (nmL (dgA τ))), none, none]) (st' := [vI (-1121), vI (-1121)]) (X' := [(150, .inl (20, .inl q))]) (fun _ _ => rfl) ?_
  refine GX.br hR (pc1 := 373) (pc2 := 369) (st1 := []) (C := ((-1121) : Int) ≠ (-1121)) (fun _ => rfl) (by first | omega | (dsimp only; omega)) (fun h24 => (by exfalso; omega)) (fun h24 => ?_)
  refine GX.run0 hR 4 (pc' := 376) (L' := [some (vR 0), some (vL (nmL (dgA τ))), none, some (vI 1)]) (st' := [vI 1]) (X' := [(150, .inl (20, .inl q))]) (fun _ _ => rfl) ?_
  refine GX.br hR (pc1 := 392) (pc2 := 379) (st1 := []) (C := (1 : Int) = 0) (fun _ => rfl) (by first | omega | (dsimp only; omega)) (fun h25 => (by exfalso; omega)) (fun h25 => ?_)
  refine GX.run0 hR 1 (pc' := 380) (L' := [some (vR 0), some (vL (nmL (dgA τ))), none, some (vI 1)]) (st' := [vR 0]) (X' := [(150, .inl (20, .inl q))]) (fun _ _ => rfl) ?_
  refine GX.sg hR [vR 0] (fun κ κ2 hJ hJ2 => lp_all1 hro hJ κ2 _) kL_173 rfl rfl (by decide) (Nat.le_of_ble_eq_true rfl) (Nat.le_of_ble_eq_true rfl) rfl ?_
  refine GX.run0 hR 1 (pc' := 384) (L' := [some (vR 0), some (vL (nmL (dgA τ))), none, some (vI 1)]) (st' := [vL (nmL (dgA τ)), vL (nmL (dgA τ))]) (X' := [(150, .inl (20, .inl q))]) (fun _ _ => rfl) ?_
  refine GX.run1 hR 1 (pc' := 385) (L' := [some (vR 0), some (vL (nmL (dgA τ))), none, some (vI 1)]) (st' := [vI (if nmL (dgA τ) < nmL (dgA τ) then 1 else if nmL (dgA τ) = nmL (dgA τ) then 0 else -1)]) (X' := [(150, .inl (20, .inl q))]) (fun _ _ => rfl) ⟨nmL_r _, nmL_r _⟩ ?_
  rw [lc_eq]
  refine GX.br hR (pc1 := 392) (pc2 := 388) (st1 := []) (C := (0 : Int) ≠ 0) (fun _ => rfl) (by first | omega | (dsimp only; omega)) (fun h26 => (by exfalso; omega)) (fun h26 => ?_)
  refine GX.run0 hR 2 (pc' := 393) (L' := [some (vR 0), some (vL (nmL (dgA τ))), none, some (vI 1)]) (st' := [vI 1]) (X' := [(150, .inl (20, .inl q))]) (fun _ _ => rfl) ?_
  exact GX.rt hR hk rfl (.inr rfl) ⟨rfl, rfl⟩
