section SND3
variable {p : Program} {l : Launch} {e : Env} {R : Room} {s : State} {m : MethodId} {args : Array Value} {below : List Frame} {meth : Method} {c : Code} {cl sl : Nat} {Q : State → Prop}
variable {cc : ByteArray} {nL : Nat} {own : String} {D : va_G} {cy : Nat → ClassId} {ad : Nat → Nat} {A : Nat → Prop} {ro : PRO} {dd : Nat}
set_option maxHeartbeats 4000000 in
theorem pst_sound {lk : PL} {i : Instr} {n : Nat} {S S' : PS} {P : Option Prop} (X : Cx p l R s m args meth c cl sl cc nL own D cy ad A ro dd) (hlk : lkOk own lk) (hd : decode cc S.1 = .ok (i, n)) (h : pst lk ro i n S = some (S', P)) (hP0 : ∀ q, P = some q → q)
    (hG : Gd p l e R s m args below meth c cl sl Q nL D cy ad A S') : Gd p l e R s m args below meth c cl sl Q nL D cy ad A S := by
  obtain ⟨pc, L, st, w⟩ := S
  have X0 := X
  obtain ⟨hx, hb, hml, hown, hts, hK, hE, -⟩ := X0
  dsimp only at hd
  unfold pst at h
  split at h
  · obtain ⟨rfl, rfl, -⟩ := nxt_of h
    exact g_push (fun H locs ls k => lv_iconst hx hb hd rfl k) hG
  · split at h
    · next hc =>
      obtain ⟨rfl, rfl, -⟩ := nxt_of h
      exact g_push (fun H locs ls k => lv_bipush hx hb hd (i_b8 (of_decide_eq_true hc)) k) hG
    · cases h
  · split at h
    · next hc =>
      obtain ⟨rfl, rfl, -⟩ := nxt_of h
      exact g_push (fun H locs ls k => lv_sipush hx hb hd (i_b16 (of_decide_eq_true hc)) k) hG
    · cases h
  · split at h
    · next v hc =>
      obtain ⟨rfl, rfl, -⟩ := nxt_of h
      exact g_push (fun H locs ls k => lv_ldc hx hb hown (hts _ (hlk.2.1 _ (alk_mem hc))) hd k) hG
    · cases h
  · split at h
    · next v hc =>
      obtain ⟨rfl, rfl, -⟩ := nxt_of h
      exact g_push (fun H locs ls k => lv_ldcw hx hb hown (hts _ (hlk.2.1 _ (alk_mem hc))) hd k) hG
    · cases h
  · next cst =>
    obtain ⟨rfl, rfl, -⟩ := nxt_of h
    exact g_push (fun H locs ls k => lv_lconst hx hb hd (by show Int64.ofNat _ = Int64.ofInt _; rw [← Int64.ofInt_eq_ofNat]) k) hG
  · refine g_load h (fun h1 _ => ?_) (fun _ q => by cases q) (fun _ q => by cases q) hG
    subst h1
    exact fun H locs ls rest x hl k => lv_iload_n hx hb hd rfl hl k
  · refine g_load h (fun h1 _ => ?_) (fun _ q => by cases q) (fun _ q => by cases q) hG
    subst h1
    exact fun H locs ls rest x hl k => lv_iload hx hb hd hl k
  · refine g_load h (fun _ q => by cases q) (fun h1 _ => ?_) (fun _ q => by cases q) hG
    subst h1
    exact fun H locs ls rest x hl k => lv_lload_n hx hb hd rfl hl k
  · refine g_load h (fun _ q => by cases q) (fun h1 _ => ?_) (fun _ q => by cases q) hG
    subst h1
    exact fun H locs ls rest x hl k => lv_lload hx hb hd hl k
  · refine g_load h (fun _ q => by cases q) (fun _ q => by cases q) (fun h1 _ => ?_) hG
    subst h1
    exact fun H locs ls rest x hl k => lv_aload_n hx hb hd rfl hl k
  · refine g_load h (fun _ q => by cases q) (fun _ q => by cases q) (fun h1 _ => ?_) hG
    subst h1
    exact fun H locs ls rest x hl k => lv_aload hx hb hd hl k
  · refine g_store h (fun h1 _ => ?_) (fun _ q => by cases q) hG
    subst h1
    exact fun H locs ls rest x lv hl hk k => lv_istore_n hx hb hd rfl hl hk rfl k
  · refine g_store h (fun h1 _ => ?_) (fun _ q => by cases q) hG
    subst h1
    exact fun H locs ls rest x lv hl hk k => lv_istore hx hb hd hl hk rfl k
  · refine g_store h (fun _ q => by cases q) (fun h1 _ => ?_) hG
    subst h1
    exact fun H locs ls rest x lv hl hk k => lv_lstore_n hx hb hd rfl hl hk rfl k
  · refine g_store h (fun _ q => by cases q) (fun h1 _ => ?_) hG
    subst h1
    exact fun H locs ls rest x lv hl hk k => lv_lstore hx hb hd hl hk rfl k
  · exact g_iinc X hd h hG
  · exact g_astr h (fun h1 H locs ls rest a lv h0 h2 k => by subst h1; exact lv_astore_n hx hb hd rfl h0 h2 rfl k) hG
  · exact g_astr h (fun h1 H locs ls rest a lv h0 h2 k => by subst h1; exact lv_astore hx hb hd h0 h2 rfl k) hG
  · exact g_ii h (fun x y => Int32.ofInt_add x y) (fun h1 H locs ls rest x y k => by subst h1; exact lv_iadd hx hb hd k) hG
  · exact g_ii h (fun x y => Int32.ofInt_sub x y) (fun h1 H locs ls rest x y k => by subst h1; exact lv_isub hx hb hd k) hG
  · exact g_ii h (fun x y => Int32.ofInt_mul x y) (fun h1 H locs ls rest x y k => by subst h1; exact lv_imul hx hb hd k) hG
  · exact g_ii (g := fun x y => x &&& y) h (fun x y => Int32.ofInt_toInt _) (fun h1 H locs ls rest x y k => by subst h1; exact lv_iand hx hb hd k) hG
  · exact g_ii (g := fun x y => x ||| y) h (fun x y => Int32.ofInt_toInt _) (fun h1 H locs ls rest x y k => by subst h1; exact lv_ior hx hb hd k) hG
  · exact g_ii (g := fun x y => x ^^^ y) h (fun x y => Int32.ofInt_toInt _) (fun h1 H locs ls rest x y k => by subst h1; exact lv_ixor hx hb hd k) hG
  · exact g_ii (g := fun x y => x <<< (y &&& 31)) h (fun x y => Int32.ofInt_toInt _) (fun h1 H locs ls rest x y k => by subst h1; exact lv_ishl hx hb hd k) hG
  · exact g_ii (g := fun x y => x >>> (y &&& 31)) h (fun x y => Int32.ofInt_toInt _) (fun h1 H locs ls rest x y k => by subst h1; exact lv_ishr hx hb hd k) hG
  · exact g_ii (g := fun x y => (x.toUInt32 >>> (y.toUInt32 &&& Int32.toUInt32 31)).toInt32) h (fun x y => Int32.ofInt_toInt _) (fun h1 H locs ls rest x y k => by subst h1; exact lv_iushr hx hb hd rfl k) hG
  · exact g_iq h hP0 (fun x y h1 h2 => i_div h1 h2) (fun h1 H locs ls rest x y h0 k => by subst h1; exact lv_idiv hx hb hd h0 k) hG
  · exact g_iq (g := fun x y => x - x / y * y) h hP0 (fun x y h1 h2 => i_rem h1 h2) (fun h1 H locs ls rest x y h0 k => by subst h1; exact lv_irem hx hb hd h0 k) hG
  · exact g_ll (g := fun x y => x &&& y) h (fun x y => Int64.ofInt_toInt _) (fun h1 H locs ls rest x y k => by subst h1; exact lv_land hx hb hd k) hG
  · exact g_ll (g := fun x y => x ||| y) h (fun x y => Int64.ofInt_toInt _) (fun h1 H locs ls rest x y k => by subst h1; exact lv_lor hx hb hd k) hG
  · exact g_ll (g := fun x y => x ^^^ y) h (fun x y => Int64.ofInt_toInt _) (fun h1 H locs ls rest x y k => by subst h1; exact lv_lxor hx hb hd k) hG
  · split at h
    · next y x r hst =>
      dsimp only at hst
      subst hst
      obtain ⟨rfl, rfl, -⟩ := nxt_of h
      exact fun H locs ls hl hP hD hS => lv_lshl hx hb hd (Int64.ofInt_toInt _).symm (hG H locs ls hl hP hD hS)
    · cases h
  · split at h
    · next x r hst =>
      dsimp only at hst
      subst hst
      obtain ⟨rfl, rfl, -⟩ := nxt_of h
      intro H locs ls hl hP hD hS
      refine lv_ineg hx hb hd ?_
      have := hG H locs ls hl hP hD hS
      rw [← Int32.ofInt_neg]
      exact this
    · cases h
  · split at h
    · next x r hst =>
      dsimp only at hst
      subst hst
      obtain ⟨rfl, rfl, rfl⟩ := nxt_of h
      have hxr := hP0 _ rfl
      refine fun H locs ls hl hP hD hS => lv_i2l hx hb hd ?_ (hG H locs ls hl hP hD hS)
      apply Int64.toInt_inj.mp
      rw [Int32.toInt_toInt64, i_of hxr, l_of (by omega)]
    · cases h
  · split at h
    · next y x r hst =>
      dsimp only at hst
      subst hst
      obtain ⟨rfl, rfl, rfl⟩ := nxt_of h
      obtain ⟨hxr, hyr⟩ := hP0 _ rfl
      intro H locs ls hl hP hD hS
      refine W.lcmp hx hb hd ?_
      have hG' := hG H locs ls hl hP hD hS
      have e1 : Int64.ofInt x > Int64.ofInt y ↔ y < x := by rw [gt_iff_lt, Int64.lt_iff_toInt_lt, l_of hxr, l_of hyr]
      have e2 : Int64.ofInt x = Int64.ofInt y ↔ x = y := by rw [← Int64.toInt_inj, l_of hxr, l_of hyr]
      have e3 : lg_cmp (Int64.ofInt x) (Int64.ofInt y) = Int32.ofInt (if y < x then 1 else if x = y then 0 else -1) := by
        unfold lg_cmp
        by_cases q1 : y < x
        · rw [if_pos (e1.mpr q1), if_pos q1]; rfl
        · rw [if_neg (fun q => q1 (e1.mp q)), if_neg q1]
          by_cases q2 : x = y
          · rw [if_pos (e2.mpr q2), if_pos q2]; rfl
          · rw [if_neg (fun q => q2 (e2.mp q)), if_neg q2]; rfl
      rw [e3]
      exact hG'
    · cases h
  · exact g_dup X hd h hG
  · exact g_dup2 X hd h hG
  · exact g_get X hlk hd h hG
  · exact g_put X hlk hd h hP0 hG
  · split at h
    · next a hc =>
      obtain ⟨rfl, rfl, -⟩ := nxt_of h
      obtain ⟨h1, h2⟩ := hlk.2.2.2.1 _ (alk_mem hc)
      dsimp only at h1 h2
      subst h1
      exact fun H locs ls hl hP hD hS => va_gets hx hb hE.2.2.2.1 hS hown (hts _ h2) (fun _ h => h) hd (hG H locs ls hl hP hD hS)
    · cases h
  · exact g_iald X hd h hP0 hG
  · exact g_aald X hd h hP0 hG
  · exact g_iast X hd h hP0 hG
  · exact g_alen X hd h hG
  · exact g_math X hlk hd h hP0 hG
  · next off =>
    obtain ⟨rfl, rfl, hq⟩ := nxt_of h
    dsimp only at hq
    by_cases h0 : 0 ≤ (pc : Int) + off
    · exact fun H locs ls hl hP hD hS => lv_goto (tgt := ((pc : Int) + off).toNat) hx hb hd (Int.toNat_of_nonneg h0).symm (hG H locs ls hl hP hD hS)
    · rw [decide_eq_false h0] at hq
      exact (hP0 _ hq).elim
  · split at h
    · next v hc =>
      obtain ⟨rfl, rfl, -⟩ := nxt_of h
      exact g_push (fun H locs ls k => lv_ldc2 hx hb hown (hts _ (hlk.2.2.2.2 _ (alk_mem hc))) hd k) hG
    · cases h
  · exact g_ll h (fun x y => Int64.ofInt_add x y) (fun h1 H locs ls rest x y k => by subst h1; exact lv_ladd hx hb hd k) hG
  · exact g_ll h (fun x y => Int64.ofInt_mul x y) (fun h1 H locs ls rest x y k => by subst h1; exact lv_lmul hx hb hd k) hG
  · exact g_ll h (fun x y => Int64.ofInt_sub x y) (fun h1 H locs ls rest x y k => by subst h1; exact lv_lsub hx hb hd k) hG
  · split at h
    · next y x r hst =>
      dsimp only at hst
      subst hst
      obtain ⟨rfl, rfl, -⟩ := nxt_of h
      exact fun H locs ls hl hP hD hS => lv_lushr hx hb hd (Int64.ofInt_toInt _).symm (hG H locs ls hl hP hD hS)
    · cases h
  · split at h
    · next x r hst =>
      dsimp only at hst
      subst hst
      obtain ⟨rfl, rfl, -⟩ := nxt_of h
      exact fun H locs ls hl hP hD hS => lv_l2i hx hb hd (Int32.ofInt_toInt _).symm (hG H locs ls hl hP hD hS)
    · cases h
  · split at h
    · next x r hst =>
      dsimp only at hst
      subst hst
      split at h
      · next off ho =>
        split at h
        · next h0 =>
          cases h
          have hxr := hP0 _ rfl
          have ht : (pc : Int) + off = ((((pc : Int) + off).toNat : Nat) : Int) := (Int.toNat_of_nonneg (of_decide_eq_true h0)).symm
          unfold stab at ho
          split at ho
          · next hc =>
            cases ho
            refine fun H locs ls hl hP hD hS => lv_tableOut hx hb hd ?_ ht (hG H locs ls hl hP hD hS)
            rw [i_of hxr]
            simpa using hc
          · next hc =>
            simp only [Bool.or_eq_false_iff, decide_eq_false_iff_not] at hc
            refine fun H locs ls hl hP hD hS => lv_tableIn hx hb hd (off := off) ?_ ?_ ?_ ht (hG H locs ls hl hP hD hS)
            · rw [i_of hxr]; exact hc.1
            · rw [i_of hxr]; exact hc.2
            · rw [i_of hxr]; exact ho
        · cases h
      · cases h
    · cases h
  · cases h
theorem prun_sound {lk : PL} {tb : PT} (X : Cx p l R s m args meth c cl sl cc nL own D cy ad A ro dd) (hlk : lkOk own lk) (htb : ∀ q ∈ tb, decode cc q.1 = .ok (q.2.1, q.2.2)) : ∀ {n : Nat} {S S' : PS} {P : Option Prop}, prun lk ro tb n S = some (S', P) → (∀ q, P = some q → q) →
    Gd p l e R s m args below meth c cl sl Q nL D cy ad A S' → Gd p l e R s m args below meth c cl sl Q nL D cy ad A S
  | 0, S, S', P, h, _, hG => by
    cases h
    exact hG
  | n + 1, S, S', P, h, hP0, hG => by
    unfold prun at h
    split at h
    · cases h
    · next i len ha =>
      have hd := htb _ (alk_mem ha)
      split at h
      · cases h
      · next S1 hp => exact pst_sound X hlk hd hp (fun q hq => by cases hq) (prun_sound X hlk htb h hP0 hG)
      · next S1 q hp =>
        split at h
        · cases h
        · next S2 hr =>
          cases h
          exact pst_sound X hlk hd hp (fun z hz => by cases hz; exact hP0 _ rfl) (prun_sound X hlk htb hr (fun z hz => by cases hz) hG)
        · next S2 r hr =>
          cases h
          obtain ⟨k1, k2⟩ := hP0 _ rfl
          exact pst_sound X hlk hd hp (fun z hz => by cases hz; exact k1) (prun_sound X hlk htb hr (fun z hz => by cases hz; exact k2) hG)
theorem pbr_sound {i : Instr} {n : Nat} {S S1 S2 : PS} {P C : Prop} (X : Cx p l R s m args meth c cl sl cc nL own D cy ad A ro dd) (hd : decode cc S.1 = .ok (i, n)) (h : pbr i n S = some (P, C, S1, S2)) (hP0 : P)
    (hT : C → Gd p l e R s m args below meth c cl sl Q nL D cy ad A S1) (hF : ¬ C → Gd p l e R s m args below meth c cl sl Q nL D cy ad A S2) : Gd p l e R s m args below meth c cl sl Q nL D cy ad A S := by
  obtain ⟨pc, L, st, w⟩ := S
  obtain ⟨hx, hb, -⟩ := X
  dsimp only at hd
  unfold pbr at h
  split at h
  · next op off y x r hst =>
    dsimp only at hst
    subst hst
    split at h
    · next hn h0 =>
      cases h
      have hn := Nat.eq_of_beq_eq_true hn
      subst hn
      have h0 := of_decide_eq_true h0
      obtain ⟨hxr, hyr⟩ := hP0
      have ht : (pc : Int) + off = ((((pc : Int) + off).toNat : Nat) : Int) := (Int.toNat_of_nonneg h0).symm
      intro H locs ls hl hP hD hS
      cases op with
      | eq => exact lv_icmp_eq hx hb hd ht (fun q => hT ((i_eq hxr hyr).mp q) H locs ls hl hP hD hS) (fun q => hF (fun z => q ((i_eq hxr hyr).mpr z)) H locs ls hl hP hD hS)
      | ne => exact lv_icmp_ne hx hb hd ht (fun q => hT (fun z => q ((i_eq hxr hyr).mpr z)) H locs ls hl hP hD hS) (fun q => hF (fun z => z ((i_eq hxr hyr).mp q)) H locs ls hl hP hD hS)
      | lt => exact lv_icmp_lt hx hb hd ht (fun q => hT ((i_lt hxr hyr).mp q) H locs ls hl hP hD hS) (fun q => hF (fun z => q ((i_lt hxr hyr).mpr z)) H locs ls hl hP hD hS)
      | ge => exact lv_icmp_ge hx hb hd ht (fun q => hT ((i_le hyr hxr).mp q) H locs ls hl hP hD hS) (fun q => hF (fun z => q ((i_le hyr hxr).mpr z)) H locs ls hl hP hD hS)
      | gt => exact lv_icmp_gt hx hb hd ht (fun q => hT ((i_lt hyr hxr).mp q) H locs ls hl hP hD hS) (fun q => hF (fun z => q ((i_lt hyr hxr).mpr z)) H locs ls hl hP hD hS)
      | le => exact lv_icmp_le hx hb hd ht (fun q => hT ((i_le hxr hyr).mp q) H locs ls hl hP hD hS) (fun q => hF (fun z => q ((i_le hxr hyr).mpr z)) H locs ls hl hP hD hS)
    · cases h
  · next op off x r hst =>
    dsimp only at hst
    subst hst
    split at h
    · next hn h0 =>
      cases h
      have hn := Nat.eq_of_beq_eq_true hn
      subst hn
      have h0 := of_decide_eq_true h0
      have hxr := hP0
      have hyr : -2147483648 ≤ (0 : Int) ∧ (0 : Int) ≤ 2147483647 := by omega
      have ht : (pc : Int) + off = ((((pc : Int) + off).toNat : Nat) : Int) := (Int.toNat_of_nonneg h0).symm
      intro H locs ls hl hP hD hS
      cases op with
      | eq => exact lv_if_eq hx hb hd ht (fun q => hT ((i_eq hxr hyr).mp q) H locs ls hl hP hD hS) (fun q => hF (fun z => q ((i_eq hxr hyr).mpr z)) H locs ls hl hP hD hS)
      | ne => exact lv_if_ne hx hb hd ht (fun q => hT (fun z => q ((i_eq hxr hyr).mpr z)) H locs ls hl hP hD hS) (fun q => hF (fun z => z ((i_eq hxr hyr).mp q)) H locs ls hl hP hD hS)
      | lt => exact lv_if_lt hx hb hd ht (fun q => hT ((i_lt hxr hyr).mp q) H locs ls hl hP hD hS) (fun q => hF (fun z => q ((i_lt hxr hyr).mpr z)) H locs ls hl hP hD hS)
      | ge => exact lv_if_ge hx hb hd ht (fun q => hT ((i_le hyr hxr).mp q) H locs ls hl hP hD hS) (fun q => hF (fun z => q ((i_le hyr hxr).mpr z)) H locs ls hl hP hD hS)
      | gt => exact lv_if_gt hx hb hd ht (fun q => hT ((i_lt hyr hxr).mp q) H locs ls hl hP hD hS) (fun q => hF (fun z => q ((i_lt hyr hxr).mpr z)) H locs ls hl hP hD hS)
      | le => exact lv_if_le hx hb hd ht (fun q => hT ((i_le hxr hyr).mp q) H locs ls hl hP hD hS) (fun q => hF (fun z => q ((i_le hxr hyr).mpr z)) H locs ls hl hP hD hS)
    · cases h
  · cases h
end SND3
