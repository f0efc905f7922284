/-! ===== what holds around a method: the tables, the outside arrays, the texts ===== -/
def strs : List (Nat × String) := [(295, "there is none of this number"), (74, "no such good for a hexagon"), (79, "no such number for this good"), (310, "the game does not allow that now"), (312, "it is not the time for that"), (304, "no such number of goods"), (317, "somebody has not what is to be given"), (141, "a die shows 1 to 6"), (308, "no such draw"), (319, "it is not the time for a card"), (208, "the other road cannot be built"), (301, "no such good"), (225, "both goods are the same"), (306, "nothing is no side of an offer"), (282, "no such kind of card"), (288, "no such sum")]
def roOk (ad : Nat → Nat) (A : Nat → Prop) (ro : PRO) (U : State) (H : Heap) : Prop := ∀ q ∈ ro, va_T .int (ad q.1) q.2.1 (fun j => .int (Int32.ofInt (q.2.2 j))) A U H
/-- words that the tables alone decide, not among the good ones -/
def cT : List (String × String) := [("java/lang/IndexOutOfBoundsException", "java/lang/IndexOutOfBoundsException"), ("java/lang/IllegalArgumentException", "java/lang/IllegalArgumentException"), ("java/lang/IllegalStateException", "java/lang/IllegalStateException")]
def nT : List (String × String) := [("java/lang/IllegalArgumentException", "java/lang/IndexOutOfBoundsException"), ("java/lang/IllegalStateException", "java/lang/IndexOutOfBoundsException"), ("java/lang/IllegalStateException", "java/lang/IllegalArgumentException")]
def dT : List MethodName := (lw_tbl.filterMap fun w => match w with
  | .declares x => some x
  | _ => none)
def pEnv (ad : Nat → Nat) (A : Nat → Prop) (ro : PRO) (U : State) (H : Heap) : Prop :=
  vx_Zq Bundle.tN "UNASSIGNED_STACK" Bundle.steD A U H ∧ vx_Zq Bundle.tN "SUPPRESSED_SENTINEL" Bundle.listD A U H ∧ (∀ q ∈ strs, ∃ sa, vk_R RX5 q.1 q.2 sa U) ∧ va_Z RX1 "ORDER" "[I" (.ref (ad 99)) A U H ∧ roOk ad A ro U H ∧ (∀ q ∈ cT, va_Nw (.castable q.1 q.2) U) ∧ (∀ q ∈ dT, va_Nw (.declares q) U) ∧ ∀ q ∈ nT, va_Nc q.1 q.2 U
theorem pEnv.to {ad : Nat → Nat} {A B : Nat → Prop} {ro : PRO} {s U : State} {H H1 : Heap} (h : pEnv ad A ro s H) (hW : s.WarmedH U.vm) (hq : ∀ a : Nat, a < H.size → ¬ A a → H1[a]? = H[a]?) (hAB : ∀ q, B q → A q) : pEnv ad B ro U H1 := by
  obtain ⟨h1, h2, h3, h4, h5, h6, h7, h8⟩ := h
  refine ⟨((h1.moved hW.alike).kept hq).narrow hAB, ((h2.moved hW.alike).kept hq).narrow hAB, fun q hq => ?_, ((h4.moved hW.alike).kept hq).narrow hAB, fun q hm => (((h5 q hm).moved hW.alike).kept hq).narrow hAB, fun q hm => va_Nw.warmC hW (h6 q hm), fun q hm => va_Nw.warmD hW (h7 q hm), fun q hm => va_Nc.moved hW.alike (h8 q hm)⟩
  obtain ⟨sa, h⟩ := h3 q hq
  exact ⟨sa, vk_R.warm hW h⟩
/-- field rows: (number in the pool, kind of the object, place, 0 for an int that may be put, 1 for a boolean, 2 else) -/
abbrev PF : Type := List (Nat × Nat × Nat × Nat)
abbrev PL : Type := PF × List (Nat × Int) × List (Nat × Bool) × List (Nat × Nat) × List (Nat × Int)
def flook : PF → Nat → Option (Nat × Nat × Nat) := alk
def kOk (r : vw_C) : Prop := (∀ w ∈ u_ws r.1 r.2.1 r.2.2, w ∈ gT) ∧ (∃ ty : Nat → FieldType, ∀ k, k < r.2.2 → parseFieldDescriptor (r.2.1 k).2.2.1 = some (ty k)) ∧ ∀ a, a < r.2.2 → ∀ b, b < r.2.2 → a ≠ b → (r.2.1 a).2.1 ≠ (r.2.1 b).2.1
def fOk (own : String) (q : Nat × Nat × Nat × Nat) : Prop := ∃ r : vw_C, vwCl[q.2.1]? = some r ∧ kOk r ∧ q.2.2.1 < r.2.2 ∧ Cond.fieldLink own q.1 (r.2.1 q.2.2.1).1 (r.2.1 q.2.2.1).2.1 (r.2.1 q.2.2.1).2.2.1 ∈ gT ∧ (q.2.2.2 = 0 → (r.2.1 q.2.2.1).2.2.2 = false ∧ parseFieldDescriptor (r.2.1 q.2.2.1).2.2.1 = some .int) ∧ (q.2.2.2 = 1 → (r.2.1 q.2.2.1).2.2.2 = false ∧ parseFieldDescriptor (r.2.1 q.2.2.1).2.2.1 = some .boolean)
def mOk (own : String) (q : Nat × Bool) : Prop := match q.2 with
  | true => Cond.methodLink own q.1 Lib.Math.max.name ∈ gT ∧ Cond.static Lib.Math.max.name ∈ gT ∧ Cond.initialized "java/lang/Math" ∈ gT ∧ Cond.code Lib.Math.max.name Lib.Math.max.code 2 (some .int) ∈ gT
  | false => Cond.methodLink own q.1 Lib.Math.min.name ∈ gT ∧ Cond.static Lib.Math.min.name ∈ gT ∧ Cond.initialized "java/lang/Math" ∈ gT ∧ Cond.code Lib.Math.min.name Lib.Math.min.code 2 (some .int) ∈ gT
def lkOk (own : String) (lk : PL) : Prop := (∀ q ∈ lk.1, fOk own q) ∧ (∀ q ∈ lk.2.1, Cond.constant own q.1 (Int32.ofInt q.2) ∈ gT) ∧ (∀ q ∈ lk.2.2.1, mOk own q) ∧ (∀ q ∈ lk.2.2.2.1, q.2 = 99 ∧ Cond.fieldLink own q.1 RX1 "ORDER" "[I" ∈ gT) ∧ (∀ q ∈ lk.2.2.2.2, Cond.constantLong own q.1 (Int64.ofInt q.2) ∈ gT)
/-! ===== the steps, on pure states ===== -/
abbrev PR : Type := Option (PS × Option Prop)
def iA (x y : Int) : Int := (Int32.ofInt x &&& Int32.ofInt y).toInt
def iO (x y : Int) : Int := (Int32.ofInt x ||| Int32.ofInt y).toInt
def iSl (x y : Int) : Int := (Int32.ofInt x <<< (Int32.ofInt y &&& 31)).toInt
def iSr (x y : Int) : Int := (Int32.ofInt x >>> (Int32.ofInt y &&& 31)).toInt
def iUs (x y : Int) : Int := ((Int32.ofInt x).toUInt32 >>> ((Int32.ofInt y).toUInt32 &&& Int32.toUInt32 31)).toInt32.toInt
def lA (x y : Int) : Int := (Int64.ofInt x &&& Int64.ofInt y).toInt
def lO (x y : Int) : Int := (Int64.ofInt x ||| Int64.ofInt y).toInt
def lX (x y : Int) : Int := (Int64.ofInt x ^^^ Int64.ofInt y).toInt
def lUs (x y : Int) : Int := ((Int64.ofInt x).toUInt64 >>> ((Int32.ofInt y).toInt64.toUInt64 &&& Int64.toUInt64 63)).toInt64.toInt
def lI (x : Int) : Int := (Int64.ofInt x).toInt32.toInt
def stab (dflt lo hi : Int) (offs : Array Int) (x : Int) : Option Int := match decide (x < lo) || decide (hi < x) with
  | true => some dflt
  | false => offs[(x - lo).toNat]?
def iX (x y : Int) : Int := (Int32.ofInt x ^^^ Int32.ofInt y).toInt
def lSl (x y : Int) : Int := (Int64.ofInt x <<< ((Int32.ofInt y).toInt64 &&& 63)).toInt
def pup {α : Type} (f : Int → α) (i : Int) (v : α) : Int → α := fun j => if j = i then v else f j
def nxt (n k : Nat) (r : PS) (q : Option Prop) : PR := match Nat.beq n k with
  | true => some (r, q)
  | false => none
theorem nxt_of {n k : Nat} {r S' : PS} {q P : Option Prop} (h : nxt n k r q = some (S', P)) : n = k ∧ S' = r ∧ P = q := by
  unfold nxt at h
  cases hb : Nat.beq n k with
  | true => rw [hb] at h; cases h; exact ⟨Nat.eq_of_beq_eq_true hb, rfl, rfl⟩
  | false => rw [hb] at h; cases h
def fget : List PV → Nat → Option PV
  | [], _ => none
  | x :: _, 0 => some x
  | _ :: t, k + 1 => fget t k
def fset : List PV → Nat → PV → List PV
  | [], _, _ => []
  | _ :: t, 0, v => v :: t
  | x :: t, k + 1, v => x :: fset t k v
theorem fget_map {ad : Nat → Nat} {v : PV} : ∀ {fs : List PV} {k : Nat}, fget fs k = some v → (fs.map (pv ad))[k]? = some (pv ad v)
  | [], _, h => by cases h
  | x :: _, 0, h => by cases h; rfl
  | _ :: t, k + 1, h => by
    rw [List.map_cons, List.getElem?_cons_succ]
    exact fget_map (fs := t) h
theorem fset_map {ad : Nat → Nat} {v : PV} : ∀ {fs : List PV} {k : Nat}, (fset fs k v).map (pv ad) = (fs.map (pv ad)).set k (pv ad v)
  | [], _ => rfl
  | x :: _, 0 => rfl
  | _ :: t, k + 1 => by
    show _ :: (fset t k v).map (pv ad) = _
    rw [fset_map (fs := t)]
    rfl
def s_load (L : List (Option PV)) (k w : Nat) (n pc : Nat) (st : List PV) (W : PW) (ty : Nat) : PR := match lget L k, ty with
  | some (.inl i), 0 => nxt n w (pc + w, L, .inl i :: st, W) none
  | some (.inr (.inl i)), 1 => nxt n w (pc + w, L, .inr (.inl i) :: st, W) none
  | some (.inr (.inr (some a))), 2 => nxt n w (pc + w, L, .inr (.inr (some a)) :: st, W) none
  | _, _ => none
def s_store (L : List (Option PV)) (k w : Nat) (n pc : Nat) (st : List PV) (W : PW) (ty : Nat) : PR := match st, ty with
  | .inl i :: r, 0 => match Nat.blt k L.length with
    | true => nxt n w (pc + w, lput1 L k (.inl i), r, W) none
    | false => none
  | .inr (.inl i) :: r, 1 => match Nat.blt (k + 1) L.length with
    | true => nxt n w (pc + w, lput2 L k (.inr (.inl i)), r, W) none
    | false => none
  | _, _ => none
def s_astore (L : List (Option PV)) (k w : Nat) (n pc : Nat) (st : List PV) (W : PW) : PR := match st with
  | .inr (.inr (some a)) :: r => match Nat.blt k L.length with
    | true => nxt n w (pc + w, lput1 L k (vR a), r, W) none
    | false => none
  | _ => none
def s_ii (f : Int → Int → Int) (n pc : Nat) (L : List (Option PV)) (st : List PV) (W : PW) : PR := match st with
  | .inl y :: .inl x :: r => nxt n 1 (pc + 1, L, .inl (f x y) :: r, W) none
  | _ => none
def s_iq (f : Int → Int → Int) (n pc : Nat) (L : List (Option PV)) (st : List PV) (W : PW) : PR := match st with
  | .inl y :: .inl x :: r => nxt n 1 (pc + 1, L, .inl (f x y) :: r, W) (some ((0 ≤ x ∧ x ≤ 2147483647) ∧ 0 < y ∧ y ≤ 2147483647))
  | _ => none
def s_ll (f : Int → Int → Int) (n pc : Nat) (L : List (Option PV)) (st : List PV) (W : PW) : PR := match st with
  | .inr (.inl y) :: .inr (.inl x) :: r => nxt n 1 (pc + 1, L, .inr (.inl (f x y)) :: r, W) none
  | _ => none
def s_get (lk : PL) (idx n pc : Nat) (L : List (Option PV)) (st : List PV) (W : PW) : PR := match st, flook lk.1 idx with
  | .inr (.inr (some a)) :: r, some (ci, k, _) => match alk W a with
    | some (.inr (cj, fs)) => match Nat.beq cj ci, fget fs k with
      | true, some v => nxt n 3 (pc + 3, L, v :: r, W) none
      | _, _ => none
    | _ => none
  | _, _ => none
def s_put (lk : PL) (idx n pc : Nat) (L : List (Option PV)) (st : List PV) (W : PW) : PR := match st, flook lk.1 idx with
  | .inl v :: .inr (.inr (some a)) :: r, some (ci, k, ty) => match alk W a with
    | some (.inr (cj, fs)) => match Nat.beq cj ci, fget fs k, ty with
      | true, some _, 0 => nxt n 3 (pc + 3, L, r, pset W a (.inr (cj, fset fs k (.inl v)))) none
      | true, some _, 1 => nxt n 3 (pc + 3, L, r, pset W a (.inr (cj, fset fs k (.inl v)))) (some (v = 0 ∨ v = 1))
      | _, _, _ => none
    | _ => none
  | _, _ => none
def s_iald (ro : PRO) (n pc : Nat) (L : List (Option PV)) (st : List PV) (W : PW) : PR := match st with
  | .inl i :: .inr (.inr (some a)) :: r => match alk W a with
    | some (.inl (N, .inl f)) => match Nat.ble N 1000000 with
      | true => nxt n 1 (pc + 1, L, .inl (f i) :: r, W) (some (0 ≤ i ∧ i < (N : Int)))
      | false => none
    | some _ => none
    | none => match alk ro a with
      | some (N, f) => match Nat.ble N 1000000 with
        | true => nxt n 1 (pc + 1, L, .inl (f i) :: r, W) (some (0 ≤ i ∧ i < (N : Int)))
        | false => none
      | none => none
  | _ => none
def s_aald (n pc : Nat) (L : List (Option PV)) (st : List PV) (W : PW) : PR := match st with
  | .inl i :: .inr (.inr (some a)) :: r => match alk W a with
    | some (.inl (N, .inr (.inr f))) => match Nat.ble N 1000000 with
      | true => nxt n 1 (pc + 1, L, .inr (.inr (f i)) :: r, W) (some (0 ≤ i ∧ i < (N : Int)))
      | false => none
    | _ => none
  | _ => none
def s_iast (n pc : Nat) (L : List (Option PV)) (st : List PV) (W : PW) : PR := match st with
  | .inl x :: .inl i :: .inr (.inr (some a)) :: r => match alk W a with
    | some (.inl (N, .inl f)) => match Nat.ble N 1000000 with
      | true => nxt n 1 (pc + 1, L, r, pset W a (.inl (N, .inl (pup f i x)))) (some (0 ≤ i ∧ i < (N : Int)))
      | false => none
    | _ => none
  | _ => none
def s_alen (ro : PRO) (n pc : Nat) (L : List (Option PV)) (st : List PV) (W : PW) : PR := match st with
  | .inr (.inr (some a)) :: r => match alk W a with
    | some (.inl (N, _)) => nxt n 1 (pc + 1, L, .inl (N : Int) :: r, W) none
    | some _ => none
    | none => match alk ro a with
      | some (N, _) => nxt n 1 (pc + 1, L, .inl (N : Int) :: r, W) none
      | none => none
  | _ => none
def s_dup (n pc : Nat) (L : List (Option PV)) (st : List PV) (W : PW) : PR := match st with
  | .inl x :: r => nxt n 1 (pc + 1, L, .inl x :: .inl x :: r, W) none
  | .inr (.inr x) :: r => nxt n 1 (pc + 1, L, .inr (.inr x) :: .inr (.inr x) :: r, W) none
  | _ => none
def s_dup2 (n pc : Nat) (L : List (Option PV)) (st : List PV) (W : PW) : PR := match st with
  | .inl x :: .inr (.inr y) :: r => nxt n 1 (pc + 1, L, .inl x :: .inr (.inr y) :: .inl x :: .inr (.inr y) :: r, W) none
  | _ => none
def s_iinc (k : Nat) (d : Int) (n pc : Nat) (L : List (Option PV)) (st : List PV) (W : PW) : PR := match lget L k, Nat.blt k L.length with
  | some (.inl x), true => nxt n 3 (pc + 3, lput1 L k (.inl (x + d)), st, W) none
  | _, _ => none
def s_math (lk : PL) (idx n pc : Nat) (L : List (Option PV)) (st : List PV) (W : PW) : PR := match st, alk lk.2.2.1 idx with
  | .inl y :: .inl x :: r, some b => match Nat.ble r.length 8 with
    | true => nxt n 3 (pc + 3, L, .inl (match b with
      | true => if x < y then y else x
      | false => if y < x then y else x) :: r, W) (some ((-2147483648 ≤ x ∧ x ≤ 2147483647) ∧ -2147483648 ≤ y ∧ y ≤ 2147483647))
    | false => none
  | _, _ => none
def pst (lk : PL) (ro : PRO) (i : Instr) (n : Nat) (S : PS) : PR := match i with
  | .iconst c => nxt n 1 (S.1 + 1, S.2.1, .inl c :: S.2.2.1, S.2.2.2) none
  | .bipush c => match decide (-128 ≤ c ∧ c ≤ 127) with
    | true => nxt n 2 (S.1 + 2, S.2.1, .inl c :: S.2.2.1, S.2.2.2) none
    | false => none
  | .sipush c => match decide (-32768 ≤ c ∧ c ≤ 32767) with
    | true => nxt n 3 (S.1 + 3, S.2.1, .inl c :: S.2.2.1, S.2.2.2) none
    | false => none
  | .ldc idx => match alk lk.2.1 idx with
    | some c => nxt n 2 (S.1 + 2, S.2.1, .inl c :: S.2.2.1, S.2.2.2) none
    | none => none
  | .ldc_w idx => match alk lk.2.1 idx with
    | some c => nxt n 3 (S.1 + 3, S.2.1, .inl c :: S.2.2.1, S.2.2.2) none
    | none => none
  | .lconst c => nxt n 1 (S.1 + 1, S.2.1, .inr (.inl (c.val : Int)) :: S.2.2.1, S.2.2.2) none
  | .iload_n k => s_load S.2.1 k.val 1 n S.1 S.2.2.1 S.2.2.2 0
  | .iload k => s_load S.2.1 k 2 n S.1 S.2.2.1 S.2.2.2 0
  | .lload_n k => s_load S.2.1 k.val 1 n S.1 S.2.2.1 S.2.2.2 1
  | .lload k => s_load S.2.1 k 2 n S.1 S.2.2.1 S.2.2.2 1
  | .aload_n k => s_load S.2.1 k.val 1 n S.1 S.2.2.1 S.2.2.2 2
  | .aload k => s_load S.2.1 k 2 n S.1 S.2.2.1 S.2.2.2 2
  | .istore_n k => s_store S.2.1 k.val 1 n S.1 S.2.2.1 S.2.2.2 0
  | .istore k => s_store S.2.1 k 2 n S.1 S.2.2.1 S.2.2.2 0
  | .lstore_n k => s_store S.2.1 k.val 1 n S.1 S.2.2.1 S.2.2.2 1
  | .lstore k => s_store S.2.1 k 2 n S.1 S.2.2.1 S.2.2.2 1
  | .iinc k d => s_iinc k d n S.1 S.2.1 S.2.2.1 S.2.2.2
  | .astore_n k => s_astore S.2.1 k.val 1 n S.1 S.2.2.1 S.2.2.2
  | .astore k => s_astore S.2.1 k 2 n S.1 S.2.2.1 S.2.2.2
  | .iadd => s_ii (fun x y => x + y) n S.1 S.2.1 S.2.2.1 S.2.2.2
  | .isub => s_ii (fun x y => x - y) n S.1 S.2.1 S.2.2.1 S.2.2.2
  | .imul => s_ii (fun x y => x * y) n S.1 S.2.1 S.2.2.1 S.2.2.2
  | .iand => s_ii iA n S.1 S.2.1 S.2.2.1 S.2.2.2
  | .ior => s_ii iO n S.1 S.2.1 S.2.2.1 S.2.2.2
  | .ixor => s_ii iX n S.1 S.2.1 S.2.2.1 S.2.2.2
  | .ishl => s_ii iSl n S.1 S.2.1 S.2.2.1 S.2.2.2
  | .ishr => s_ii iSr n S.1 S.2.1 S.2.2.1 S.2.2.2
  | .iushr => s_ii iUs n S.1 S.2.1 S.2.2.1 S.2.2.2
  | .idiv => s_iq (fun x y => x / y) n S.1 S.2.1 S.2.2.1 S.2.2.2
  | .irem => s_iq (fun x y => x % y) n S.1 S.2.1 S.2.2.1 S.2.2.2
  | .land => s_ll lA n S.1 S.2.1 S.2.2.1 S.2.2.2
  | .lor => s_ll lO n S.1 S.2.1 S.2.2.1 S.2.2.2
  | .lxor => s_ll lX n S.1 S.2.1 S.2.2.1 S.2.2.2
  | .lshl => match S.2.2.1 with
    | .inl y :: .inr (.inl x) :: r => nxt n 1 (S.1 + 1, S.2.1, .inr (.inl (lSl x y)) :: r, S.2.2.2) none
    | _ => none
  | .ineg => match S.2.2.1 with
    | .inl x :: r => nxt n 1 (S.1 + 1, S.2.1, .inl (-x) :: r, S.2.2.2) none
    | _ => none
  | .i2l => match S.2.2.1 with
    | .inl x :: r => nxt n 1 (S.1 + 1, S.2.1, .inr (.inl x) :: r, S.2.2.2) (some (-2147483648 ≤ x ∧ x ≤ 2147483647))
    | _ => none
  | .lcmp => match S.2.2.1 with
    | .inr (.inl y) :: .inr (.inl x) :: r => nxt n 1 (S.1 + 1, S.2.1, .inl (if y < x then 1 else if x = y then 0 else -1) :: r, S.2.2.2) (some ((-9223372036854775808 ≤ x ∧ x ≤ 9223372036854775807) ∧ -9223372036854775808 ≤ y ∧ y ≤ 9223372036854775807))
    | _ => none
  | .dup => s_dup n S.1 S.2.1 S.2.2.1 S.2.2.2
  | .dup2 => s_dup2 n S.1 S.2.1 S.2.2.1 S.2.2.2
  | .getfield idx => s_get lk idx n S.1 S.2.1 S.2.2.1 S.2.2.2
  | .putfield idx => s_put lk idx n S.1 S.2.1 S.2.2.1 S.2.2.2
  | .getstatic idx => match alk lk.2.2.2.1 idx with
    | some a => nxt n 3 (S.1 + 3, S.2.1, .inr (.inr (some a)) :: S.2.2.1, S.2.2.2) none
    | none => none
  | .iaload => s_iald ro n S.1 S.2.1 S.2.2.1 S.2.2.2
  | .aaload => s_aald n S.1 S.2.1 S.2.2.1 S.2.2.2
  | .iastore => s_iast n S.1 S.2.1 S.2.2.1 S.2.2.2
  | .arraylength => s_alen ro n S.1 S.2.1 S.2.2.1 S.2.2.2
  | .invokestatic idx => s_math lk idx n S.1 S.2.1 S.2.2.1 S.2.2.2
  | .goto off => nxt n 3 (((S.1 : Int) + off).toNat, S.2.1, S.2.2.1, S.2.2.2) (match decide (0 ≤ (S.1 : Int) + off) with
    | true => none
    | false => some False)
  | .ldc2_w idx => match alk lk.2.2.2.2 idx with
    | some c => nxt n 3 (S.1 + 3, S.2.1, .inr (.inl c) :: S.2.2.1, S.2.2.2) none
    | none => none
  | .ladd => s_ll (fun x y => x + y) n S.1 S.2.1 S.2.2.1 S.2.2.2
  | .lmul => s_ll (fun x y => x * y) n S.1 S.2.1 S.2.2.1 S.2.2.2
  | .lsub => s_ll (fun x y => x - y) n S.1 S.2.1 S.2.2.1 S.2.2.2
  | .lushr => match S.2.2.1 with
    | .inl y :: .inr (.inl x) :: r => nxt n 1 (S.1 + 1, S.2.1, .inr (.inl (lUs x y)) :: r, S.2.2.2) none
    | _ => none
  | .l2i => match S.2.2.1 with
    | .inr (.inl x) :: r => nxt n 1 (S.1 + 1, S.2.1, .inl (lI x) :: r, S.2.2.2) none
    | _ => none
  | .tableswitch dflt lo hi offs => match S.2.2.1 with
    | .inl x :: r => match stab dflt lo hi offs x with
      | some off => match decide (0 ≤ (S.1 : Int) + off) with
        | true => some ((((S.1 : Int) + off).toNat, S.2.1, r, S.2.2.2), some (-2147483648 ≤ x ∧ x ≤ 2147483647))
        | false => none
      | none => none
    | _ => none
  | _ => none
abbrev PT : Type := List (Nat × Instr × Nat)
def prun (lk : PL) (ro : PRO) (tb : PT) : Nat → PS → Option (PS × Option Prop)
  | 0, S => some (S, none)
  | n + 1, S => match alk tb S.1 with
    | none => none
    | some (i, len) => match pst lk ro i len S with
      | none => none
      | some (S1, none) => prun lk ro tb n S1
      | some (S1, some q) => match prun lk ro tb n S1 with
        | none => none
        | some (S2, none) => some (S2, some q)
        | some (S2, some r) => some (S2, some (q ∧ r))
/-- a branch: what is asked of the numbers, the question, where to if so, where to else -/
def cmpP (op : Jvm.ClassFile.Cond) (x y : Int) : Prop := match op with
  | .eq => x = y
  | .ne => x ≠ y
  | .lt => x < y
  | .ge => y ≤ x
  | .gt => y < x
  | .le => x ≤ y
def pbr (i : Instr) (n : Nat) (S : PS) : Option (Prop × Prop × PS × PS) := match i, S.2.2.1 with
  | .if_icmp op off, .inl y :: .inl x :: r => match Nat.beq n 3, decide (0 ≤ (S.1 : Int) + off) with
    | true, true => some ((-2147483648 ≤ x ∧ x ≤ 2147483647) ∧ -2147483648 ≤ y ∧ y ≤ 2147483647, cmpP op x y, (((S.1 : Int) + off).toNat, S.2.1, r, S.2.2.2), (S.1 + 3, S.2.1, r, S.2.2.2))
    | _, _ => none
  | .ifCond op off, .inl x :: r => match Nat.beq n 3, decide (0 ≤ (S.1 : Int) + off) with
    | true, true => some (-2147483648 ≤ x ∧ x ≤ 2147483647, cmpP op x 0, (((S.1 : Int) + off).toNat, S.2.1, r, S.2.2.2), (S.1 + 3, S.2.1, r, S.2.2.2))
    | _, _ => none
  | _, _ => none
