/-! ===== written by program out of the listing: the pool's rows, the decoded bodies, the calls' words ===== -/
theorem gT_all {L : List Cond} (h : L.all (fun x => decide (x ∈ lw_tbl) && goodWord x) = true) : ∀ x ∈ L, x ∈ gT := by
  intro x hx
  have h1 := List.all_eq_true.mp h x hx
  simp only [Bool.and_eq_true, decide_eq_true_eq] at h1
  exact List.mem_filter.mpr h1
theorem kkX0 : kOk (RX0, TX0, 4) := ⟨gT_all (by decide +kernel), ⟨tyX0, tyX0_ok⟩, nmX0⟩
theorem kkX1 : kOk (RX1, TX1, 6) := ⟨gT_all (by decide +kernel), ⟨tyX1, tyX1_ok⟩, nmX1⟩
theorem kkX2 : kOk (RX2, TX2, 5) := ⟨gT_all (by decide +kernel), ⟨tyX2, tyX2_ok⟩, nmX2⟩
theorem kkX3 : kOk (RX3, TX3, 2) := ⟨gT_all (by decide +kernel), ⟨tyX3, tyX3_ok⟩, nmX3⟩
theorem kkX4 : kOk (RX4, TX4, 3) := ⟨gT_all (by decide +kernel), ⟨tyX4, tyX4_ok⟩, nmX4⟩
theorem kkX5 : kOk (RX5, TX5, 12) := ⟨gT_all (by decide +kernel), ⟨tyX5, tyX5_ok⟩, nmX5⟩
def lkX0 : PL := ([(9, 0, 0, 0), (15, 0, 1, 0), (18, 0, 2, 2), (22, 0, 3, 2)], [], [], [], [])
theorem fX0_9 : fOk RX0 (9, 0, 0, 0) := ⟨(RX0, TX0, 4), rfl, kkX0, by decide, gT_at 110 (by decide +kernel) (by decide +kernel), (fun _ => ⟨rfl, by decide +kernel⟩), (fun h => absurd h (by decide))⟩
theorem fX0_15 : fOk RX0 (15, 0, 1, 0) := ⟨(RX0, TX0, 4), rfl, kkX0, by decide, gT_at 111 (by decide +kernel) (by decide +kernel), (fun _ => ⟨rfl, by decide +kernel⟩), (fun h => absurd h (by decide))⟩
theorem fX0_18 : fOk RX0 (18, 0, 2, 2) := ⟨(RX0, TX0, 4), rfl, kkX0, by decide, gT_at 112 (by decide +kernel) (by decide +kernel), (fun h => absurd h (by decide)), (fun h => absurd h (by decide))⟩
theorem fX0_22 : fOk RX0 (22, 0, 3, 2) := ⟨(RX0, TX0, 4), rfl, kkX0, by decide, gT_at 113 (by decide +kernel) (by decide +kernel), (fun h => absurd h (by decide)), (fun h => absurd h (by decide))⟩
theorem lkX0_ok : lkOk RX0 lkX0 := ⟨(List.forall_mem_cons.mpr ⟨fX0_9, (List.forall_mem_cons.mpr ⟨fX0_15, (List.forall_mem_cons.mpr ⟨fX0_18, (List.forall_mem_cons.mpr ⟨fX0_22, (fun _ h => nomatch h)⟩)⟩)⟩)⟩), (fun _ h => nomatch h), (fun _ h => nomatch h), (fun _ h => nomatch h), (fun _ h => nomatch h)⟩
def lkX1 : PL := ([(11, 1, 0, 2), (16, 1, 1, 2), (20, 1, 2, 2), (23, 1, 3, 0), (27, 1, 4, 1), (31, 1, 5, 0)], [], [], [(34, 99)], [])
theorem fX1_11 : fOk RX1 (11, 1, 0, 2) := ⟨(RX1, TX1, 6), rfl, kkX1, by decide, gT_at 85 (by decide +kernel) (by decide +kernel), (fun h => absurd h (by decide)), (fun h => absurd h (by decide))⟩
theorem fX1_16 : fOk RX1 (16, 1, 1, 2) := ⟨(RX1, TX1, 6), rfl, kkX1, by decide, gT_at 86 (by decide +kernel) (by decide +kernel), (fun h => absurd h (by decide)), (fun h => absurd h (by decide))⟩
theorem fX1_20 : fOk RX1 (20, 1, 2, 2) := ⟨(RX1, TX1, 6), rfl, kkX1, by decide, gT_at 87 (by decide +kernel) (by decide +kernel), (fun h => absurd h (by decide)), (fun h => absurd h (by decide))⟩
theorem fX1_23 : fOk RX1 (23, 1, 3, 0) := ⟨(RX1, TX1, 6), rfl, kkX1, by decide, gT_at 88 (by decide +kernel) (by decide +kernel), (fun _ => ⟨rfl, by decide +kernel⟩), (fun h => absurd h (by decide))⟩
theorem fX1_27 : fOk RX1 (27, 1, 4, 1) := ⟨(RX1, TX1, 6), rfl, kkX1, by decide, gT_at 89 (by decide +kernel) (by decide +kernel), (fun h => absurd h (by decide)), (fun _ => ⟨rfl, by decide +kernel⟩)⟩
theorem fX1_31 : fOk RX1 (31, 1, 5, 0) := ⟨(RX1, TX1, 6), rfl, kkX1, by decide, gT_at 90 (by decide +kernel) (by decide +kernel), (fun _ => ⟨rfl, by decide +kernel⟩), (fun h => absurd h (by decide))⟩
theorem sX1_34 : (99 : Nat) = 99 ∧ Cond.fieldLink RX1 34 RX1 "ORDER" "[I" ∈ gT := ⟨rfl, gT_at 669 (by decide +kernel) (by decide +kernel)⟩
theorem lkX1_ok : lkOk RX1 lkX1 := ⟨(List.forall_mem_cons.mpr ⟨fX1_11, (List.forall_mem_cons.mpr ⟨fX1_16, (List.forall_mem_cons.mpr ⟨fX1_20, (List.forall_mem_cons.mpr ⟨fX1_23, (List.forall_mem_cons.mpr ⟨fX1_27, (List.forall_mem_cons.mpr ⟨fX1_31, (fun _ h => nomatch h)⟩)⟩)⟩)⟩)⟩)⟩), (fun _ h => nomatch h), (fun _ h => nomatch h), (List.forall_mem_cons.mpr ⟨sX1_34, (fun _ h => nomatch h)⟩), (fun _ h => nomatch h)⟩
def lkX2 : PL := ([(9, 2, 0, 2), (15, 2, 1, 2), (18, 2, 2, 2), (21, 2, 3, 2), (24, 2, 4, 0)], [], [], [], [])
theorem fX2_9 : fOk RX2 (9, 2, 0, 2) := ⟨(RX2, TX2, 5), rfl, kkX2, by decide, gT_at 30 (by decide +kernel) (by decide +kernel), (fun h => absurd h (by decide)), (fun h => absurd h (by decide))⟩
theorem fX2_15 : fOk RX2 (15, 2, 1, 2) := ⟨(RX2, TX2, 5), rfl, kkX2, by decide, gT_at 31 (by decide +kernel) (by decide +kernel), (fun h => absurd h (by decide)), (fun h => absurd h (by decide))⟩
theorem fX2_18 : fOk RX2 (18, 2, 2, 2) := ⟨(RX2, TX2, 5), rfl, kkX2, by decide, gT_at 32 (by decide +kernel) (by decide +kernel), (fun h => absurd h (by decide)), (fun h => absurd h (by decide))⟩
theorem fX2_21 : fOk RX2 (21, 2, 3, 2) := ⟨(RX2, TX2, 5), rfl, kkX2, by decide, gT_at 33 (by decide +kernel) (by decide +kernel), (fun h => absurd h (by decide)), (fun h => absurd h (by decide))⟩
theorem fX2_24 : fOk RX2 (24, 2, 4, 0) := ⟨(RX2, TX2, 5), rfl, kkX2, by decide, gT_at 34 (by decide +kernel) (by decide +kernel), (fun _ => ⟨rfl, by decide +kernel⟩), (fun h => absurd h (by decide))⟩
theorem lkX2_ok : lkOk RX2 lkX2 := ⟨(List.forall_mem_cons.mpr ⟨fX2_9, (List.forall_mem_cons.mpr ⟨fX2_15, (List.forall_mem_cons.mpr ⟨fX2_18, (List.forall_mem_cons.mpr ⟨fX2_21, (List.forall_mem_cons.mpr ⟨fX2_24, (fun _ h => nomatch h)⟩)⟩)⟩)⟩)⟩), (fun _ h => nomatch h), (fun _ h => nomatch h), (fun _ h => nomatch h), (fun _ h => nomatch h)⟩
def lkX3 : PL := ([(11, 3, 0, 2), (16, 3, 1, 2)], [], [], [], [])
theorem fX3_11 : fOk RX3 (11, 3, 0, 2) := ⟨(RX3, TX3, 2), rfl, kkX3, by decide, gT_at 55 (by decide +kernel) (by decide +kernel), (fun h => absurd h (by decide)), (fun h => absurd h (by decide))⟩
theorem fX3_16 : fOk RX3 (16, 3, 1, 2) := ⟨(RX3, TX3, 2), rfl, kkX3, by decide, gT_at 56 (by decide +kernel) (by decide +kernel), (fun h => absurd h (by decide)), (fun h => absurd h (by decide))⟩
theorem lkX3_ok : lkOk RX3 lkX3 := ⟨(List.forall_mem_cons.mpr ⟨fX3_11, (List.forall_mem_cons.mpr ⟨fX3_16, (fun _ h => nomatch h)⟩)⟩), (fun _ h => nomatch h), (fun _ h => nomatch h), (fun _ h => nomatch h), (fun _ h => nomatch h)⟩
def lkX4 : PL := ([(9, 4, 0, 2), (15, 4, 1, 2), (18, 4, 2, 0)], [], [(30, true)], [], [])
theorem fX4_9 : fOk RX4 (9, 4, 0, 2) := ⟨(RX4, TX4, 3), rfl, kkX4, by decide, gT_at 68 (by decide +kernel) (by decide +kernel), (fun h => absurd h (by decide)), (fun h => absurd h (by decide))⟩
theorem fX4_15 : fOk RX4 (15, 4, 1, 2) := ⟨(RX4, TX4, 3), rfl, kkX4, by decide, gT_at 69 (by decide +kernel) (by decide +kernel), (fun h => absurd h (by decide)), (fun h => absurd h (by decide))⟩
theorem fX4_18 : fOk RX4 (18, 4, 2, 0) := ⟨(RX4, TX4, 3), rfl, kkX4, by decide, gT_at 70 (by decide +kernel) (by decide +kernel), (fun _ => ⟨rfl, by decide +kernel⟩), (fun h => absurd h (by decide))⟩
theorem mX4_30 : mOk RX4 (30, true) := ⟨gT_at 514 (by decide +kernel) (by decide +kernel), gT_at 515 (by decide +kernel) (by decide +kernel), gT_at 13 (by decide +kernel) (by decide +kernel), gT_at 516 (by decide +kernel) (by decide +kernel)⟩
theorem lkX4_ok : lkOk RX4 lkX4 := ⟨(List.forall_mem_cons.mpr ⟨fX4_9, (List.forall_mem_cons.mpr ⟨fX4_15, (List.forall_mem_cons.mpr ⟨fX4_18, (fun _ h => nomatch h)⟩)⟩)⟩), (fun _ h => nomatch h), (List.forall_mem_cons.mpr ⟨mX4_30, (fun _ h => nomatch h)⟩), (fun _ h => nomatch h), (fun _ h => nomatch h)⟩
def lkX5 : PL := ([(10, 5, 0, 2), (19, 5, 1, 2), (26, 5, 2, 2), (33, 5, 3, 2), (40, 5, 4, 2), (44, 5, 5, 2), (48, 5, 6, 2), (51, 5, 7, 0), (55, 5, 8, 0), (58, 5, 9, 0), (61, 5, 10, 1), (65, 5, 11, 0)], [(303, 99999)], [(360, false)], [], [])
theorem fX5_10 : fOk RX5 (10, 5, 0, 2) := ⟨(RX5, TX5, 12), rfl, kkX5, by decide, gT_at 123 (by decide +kernel) (by decide +kernel), (fun h => absurd h (by decide)), (fun h => absurd h (by decide))⟩
theorem fX5_19 : fOk RX5 (19, 5, 1, 2) := ⟨(RX5, TX5, 12), rfl, kkX5, by decide, gT_at 124 (by decide +kernel) (by decide +kernel), (fun h => absurd h (by decide)), (fun h => absurd h (by decide))⟩
theorem fX5_26 : fOk RX5 (26, 5, 2, 2) := ⟨(RX5, TX5, 12), rfl, kkX5, by decide, gT_at 125 (by decide +kernel) (by decide +kernel), (fun h => absurd h (by decide)), (fun h => absurd h (by decide))⟩
theorem fX5_33 : fOk RX5 (33, 5, 3, 2) := ⟨(RX5, TX5, 12), rfl, kkX5, by decide, gT_at 126 (by decide +kernel) (by decide +kernel), (fun h => absurd h (by decide)), (fun h => absurd h (by decide))⟩
theorem fX5_40 : fOk RX5 (40, 5, 4, 2) := ⟨(RX5, TX5, 12), rfl, kkX5, by decide, gT_at 127 (by decide +kernel) (by decide +kernel), (fun h => absurd h (by decide)), (fun h => absurd h (by decide))⟩
theorem fX5_44 : fOk RX5 (44, 5, 5, 2) := ⟨(RX5, TX5, 12), rfl, kkX5, by decide, gT_at 128 (by decide +kernel) (by decide +kernel), (fun h => absurd h (by decide)), (fun h => absurd h (by decide))⟩
theorem fX5_48 : fOk RX5 (48, 5, 6, 2) := ⟨(RX5, TX5, 12), rfl, kkX5, by decide, gT_at 129 (by decide +kernel) (by decide +kernel), (fun h => absurd h (by decide)), (fun h => absurd h (by decide))⟩
theorem fX5_51 : fOk RX5 (51, 5, 7, 0) := ⟨(RX5, TX5, 12), rfl, kkX5, by decide, gT_at 130 (by decide +kernel) (by decide +kernel), (fun _ => ⟨rfl, by decide +kernel⟩), (fun h => absurd h (by decide))⟩
theorem fX5_55 : fOk RX5 (55, 5, 8, 0) := ⟨(RX5, TX5, 12), rfl, kkX5, by decide, gT_at 131 (by decide +kernel) (by decide +kernel), (fun _ => ⟨rfl, by decide +kernel⟩), (fun h => absurd h (by decide))⟩
theorem fX5_58 : fOk RX5 (58, 5, 9, 0) := ⟨(RX5, TX5, 12), rfl, kkX5, by decide, gT_at 132 (by decide +kernel) (by decide +kernel), (fun _ => ⟨rfl, by decide +kernel⟩), (fun h => absurd h (by decide))⟩
theorem fX5_61 : fOk RX5 (61, 5, 10, 1) := ⟨(RX5, TX5, 12), rfl, kkX5, by decide, gT_at 133 (by decide +kernel) (by decide +kernel), (fun h => absurd h (by decide)), (fun _ => ⟨rfl, by decide +kernel⟩)⟩
theorem fX5_65 : fOk RX5 (65, 5, 11, 0) := ⟨(RX5, TX5, 12), rfl, kkX5, by decide, gT_at 134 (by decide +kernel) (by decide +kernel), (fun _ => ⟨rfl, by decide +kernel⟩), (fun h => absurd h (by decide))⟩
theorem qX5_303 : Cond.constant RX5 303 (Int32.ofInt 99999) ∈ gT := gT_at 532 (by decide +kernel) (by decide +kernel)
theorem mX5_360 : mOk RX5 (360, false) := ⟨gT_at 726 (by decide +kernel) (by decide +kernel), gT_at 727 (by decide +kernel) (by decide +kernel), gT_at 13 (by decide +kernel) (by decide +kernel), gT_at 728 (by decide +kernel) (by decide +kernel)⟩
theorem lkX5_ok : lkOk RX5 lkX5 := ⟨(List.forall_mem_cons.mpr ⟨fX5_10, (List.forall_mem_cons.mpr ⟨fX5_19, (List.forall_mem_cons.mpr ⟨fX5_26, (List.forall_mem_cons.mpr ⟨fX5_33, (List.forall_mem_cons.mpr ⟨fX5_40, (List.forall_mem_cons.mpr ⟨fX5_44, (List.forall_mem_cons.mpr ⟨fX5_48, (List.forall_mem_cons.mpr ⟨fX5_51, (List.forall_mem_cons.mpr ⟨fX5_55, (List.forall_mem_cons.mpr ⟨fX5_58, (List.forall_mem_cons.mpr ⟨fX5_61, (List.forall_mem_cons.mpr ⟨fX5_65, (fun _ h => nomatch h)⟩)⟩)⟩)⟩)⟩)⟩)⟩)⟩)⟩)⟩)⟩)⟩), (List.forall_mem_cons.mpr ⟨qX5_303, (fun _ h => nomatch h)⟩), (List.forall_mem_cons.mpr ⟨mX5_360, (fun _ h => nomatch h)⟩), (fun _ h => nomatch h), (fun _ h => nomatch h)⟩
def lkJ6 : PL := ([], [(265, 1431655765), (266, 858993459), (267, 252645135)], [], [], [])
theorem qJ6_265 : Cond.constant RJ6 265 (Int32.ofInt 1431655765) ∈ gT := gT_at 815 (by decide +kernel) (by decide +kernel)
theorem qJ6_266 : Cond.constant RJ6 266 (Int32.ofInt 858993459) ∈ gT := gT_at 816 (by decide +kernel) (by decide +kernel)
theorem qJ6_267 : Cond.constant RJ6 267 (Int32.ofInt 252645135) ∈ gT := gT_at 817 (by decide +kernel) (by decide +kernel)
theorem lkJ6_ok : lkOk RJ6 lkJ6 := ⟨(fun _ h => nomatch h), (List.forall_mem_cons.mpr ⟨qJ6_265, (List.forall_mem_cons.mpr ⟨qJ6_266, (List.forall_mem_cons.mpr ⟨qJ6_267, (fun _ h => nomatch h)⟩)⟩)⟩), (fun _ h => nomatch h), (fun _ h => nomatch h), (fun _ h => nomatch h)⟩
def lkJ13 : PL := ([], [], [], [], [(314, 6148914691236517205), (316, 3689348814741910323), (318, 1085102592571150095)])
theorem qlJ13_314 : Cond.constantLong RJ13 314 (Int64.ofInt 6148914691236517205) ∈ gT := gT_at 829 (by decide +kernel) (by decide +kernel)
theorem qlJ13_316 : Cond.constantLong RJ13 316 (Int64.ofInt 3689348814741910323) ∈ gT := gT_at 830 (by decide +kernel) (by decide +kernel)
theorem qlJ13_318 : Cond.constantLong RJ13 318 (Int64.ofInt 1085102592571150095) ∈ gT := gT_at 831 (by decide +kernel) (by decide +kernel)
theorem lkJ13_ok : lkOk RJ13 lkJ13 := ⟨(fun _ h => nomatch h), (fun _ h => nomatch h), (fun _ h => nomatch h), (fun _ h => nomatch h), (List.forall_mem_cons.mpr ⟨qlJ13_314, (List.forall_mem_cons.mpr ⟨qlJ13_316, (List.forall_mem_cons.mpr ⟨qlJ13_318, (fun _ h => nomatch h)⟩)⟩)⟩)⟩
