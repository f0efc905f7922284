/-! ===== written by program out of the listing: the law's constants, its methods' bodies, the words of its calls ===== -/
def lkL : PL := ([], [(7, 87991), (8, 1505984027), (177, 100000)], [], [], [(128, 7), (133, 11), (138, 5), (144, 17), (146, 31), (148, 13), (150, 19)])
theorem qlL_128 : Cond.constantLong RL 128 (Int64.ofInt 7) ∈ gT := gT_at 276 (by decide +kernel) (by decide +kernel)
theorem qlL_133 : Cond.constantLong RL 133 (Int64.ofInt 11) ∈ gT := gT_at 277 (by decide +kernel) (by decide +kernel)
theorem qlL_138 : Cond.constantLong RL 138 (Int64.ofInt 5) ∈ gT := gT_at 286 (by decide +kernel) (by decide +kernel)
theorem qlL_144 : Cond.constantLong RL 144 (Int64.ofInt 17) ∈ gT := gT_at 291 (by decide +kernel) (by decide +kernel)
theorem qlL_146 : Cond.constantLong RL 146 (Int64.ofInt 31) ∈ gT := gT_at 347 (by decide +kernel) (by decide +kernel)
theorem qlL_148 : Cond.constantLong RL 148 (Int64.ofInt 13) ∈ gT := gT_at 356 (by decide +kernel) (by decide +kernel)
theorem qlL_150 : Cond.constantLong RL 150 (Int64.ofInt 19) ∈ gT := gT_at 365 (by decide +kernel) (by decide +kernel)
theorem qL_7 : Cond.constant RL 7 (Int32.ofInt 87991) ∈ gT := gT_at 268 (by decide +kernel) (by decide +kernel)
theorem qL_8 : Cond.constant RL 8 (Int32.ofInt 1505984027) ∈ gT := gT_at 269 (by decide +kernel) (by decide +kernel)
theorem qL_177 : Cond.constant RL 177 (Int32.ofInt 100000) ∈ gT := gT_at 872 (by decide +kernel) (by decide +kernel)
theorem lkL_ok : lkOk RL lkL := ⟨(fun _ h => nomatch h), (List.forall_mem_cons.mpr ⟨qL_7, (List.forall_mem_cons.mpr ⟨qL_8, (List.forall_mem_cons.mpr ⟨qL_177, (fun _ h => nomatch h)⟩)⟩)⟩), (fun _ h => nomatch h), (fun _ h => nomatch h), (List.forall_mem_cons.mpr ⟨qlL_128, (List.forall_mem_cons.mpr ⟨qlL_133, (List.forall_mem_cons.mpr ⟨qlL_138, (List.forall_mem_cons.mpr ⟨qlL_144, (List.forall_mem_cons.mpr ⟨qlL_146, (List.forall_mem_cons.mpr ⟨qlL_148, (List.forall_mem_cons.mpr ⟨qlL_150, (fun _ h => nomatch h)⟩)⟩)⟩)⟩)⟩)⟩)⟩)⟩
theorem all_cut {α : Type} {P : α → Prop} {l : List α} (n : Nat) (h1 : ∀ q ∈ l.take n, P q) (h2 : ∀ q ∈ l.drop n, P q) : ∀ q ∈ l, P q := by
  intro q hq
  rw [← List.take_append_drop n l] at hq
  rcases List.mem_append.mp hq with h | h
  · exact h1 q h
  · exact h2 q h
