def atOk (own : String) (ic : Nat) (E : String) : Prop := ∀ w ∈ vx_atS own ic E ["java/lang/RuntimeException", "java/lang/Exception"], ((goodWord w = true ∧ w ∈ lw_tbl) ∨ w ∈ cT.map (fun q => Cond.castable q.1 q.2) ∨ w ∈ dT.map Cond.declares) ∧ vx_ot w = true
theorem at_76 : atOk RX5 76 "java/lang/IllegalArgumentException" := by
  unfold atOk
  decide +kernel
theorem at_210 : atOk RX5 210 "java/lang/IllegalStateException" := by
  unfold atOk
  decide +kernel
theorem at_297 : atOk RX5 297 "java/lang/IndexOutOfBoundsException" := by
  unfold atOk
  decide +kernel
