/-! ===== the reference's methods: children, the oldest leaf, the digest ===== -/
section M7
variable {g : EG} {mo : Nat} {mr : Nat → Nat} {mnd mgv mcu mck mcl msh : Int32} {mhh : Int64} {mnu mpa mfa mti mpo mle mde msr mtl mtx mcp mmk mns : Nat → Int32}
variable {S : SS} {N : Nat}
theorem par_eq (T : Tree S) {b a : Nat} (hb : b ∈ sL S) (ha : a ∈ sL S) : oI (spa S b) = nI a ↔ spa S b = some a :=
  oI_eqI (fun c hc => by have := T.lt (T.par hb hc).1; omega) (by have := T.lt ha; omega)
theorem chm_loop (T : Tree S) (hR : RM S mnd mgv mcu mck mcl msh mhh mnu mpa mfa mti mpo mle mde msr mtl mtx mcp mmk mns) {a : Nat} (ha : a ∈ sL S) : ∀ (m k n : Nat), k + m = (sL S).length → Ev g mdX2_childMany 4 [some (.ref mo), some (.int (nI (ix S a))), some (.int (nI n)), some (.int (nI k))] [] (wM g mo mr mnd mgv mcu mck mcl msh mhh mnu mpa mfa mti mpo mle mde msr mtl mtx mcp mmk mns) (fun r w => r = some (.int (nI (n + cnt (fun c => decide (spa S c = some a)) ((sL S).drop k)))) ∧ w = (wM g mo mr mnd mgv mcu mck mcl msh mhh mnu mpa mfa mti mpo mle mde msr mtl mtx mcp mmk mns)) := by
  intro m
  have hlen := T.len
  have hka := ix_lt T ha
  induction m with
  | zero =>
    intro k n hk
    refine ev_iload_n (pc' := 5) dX2_childMany_4 rfl rfl ?_
    refine ev_aload_n (pc' := 6) dX2_childMany_5 rfl rfl ?_
    refine ev_get inX2 0 0 rfl rfl (by decide) flX2_nodes rfl (pc' := 9) dX2_childMany_6 rfl ?_
    refine ev_icmp_ge (tgt := 41) (pc' := 12) dX2_childMany_9 (by decide) rfl (fun h9 => ?_) (fun h9 => ?_)
    · refine ev_iload_n (pc' := 42) dX2_childMany_41 rfl rfl ?_
      refine ev_iret rfl dX2_childMany_42 ?_
      rw [drop_end hk]
      exact ⟨rfl, rfl⟩
    · rw [hR.1] at h9
      exact absurd (nI_le (by omega) (by omega)) h9
  | succ m ih =>
    intro k n hk
    obtain ⟨b, hb, rfl⟩ := ix_at T (show k < (sL S).length by omega)
    rw [drop_ix hb]
    refine ev_iload_n (pc' := 5) dX2_childMany_4 rfl rfl ?_
    refine ev_aload_n (pc' := 6) dX2_childMany_5 rfl rfl ?_
    refine ev_get inX2 0 0 rfl rfl (by decide) flX2_nodes rfl (pc' := 9) dX2_childMany_6 rfl ?_
    refine ev_icmp_ge (tgt := 41) (pc' := 12) dX2_childMany_9 (by decide) rfl (fun h9 => ?_) (fun h9 => ?_)
    · rw [hR.1] at h9
      exact absurd h9 (nI_ge (by omega) (by omega))
    · refine ev_iload_n (pc' := 13) dX2_childMany_12 rfl rfl ?_
      refine ev_aload_n (pc' := 14) dX2_childMany_13 rfl rfl ?_
      refine ev_get inX2 0 3 rfl rfl (by decide) flX2_parent rfl (pc' := 17) dX2_childMany_14 rfl ?_
      refine ev_iload_n (pc' := 18) dX2_childMany_17 rfl rfl ?_
      refine ev_ialdN 2 rfl (by omega) (by decide) (RM.row hR hb).2.1 (pc' := 19) dX2_childMany_18 rfl ?_
      refine ev_aload_n (pc' := 20) dX2_childMany_19 rfl rfl ?_
      refine ev_get inX2 0 2 rfl rfl (by decide) flX2_number rfl (pc' := 23) dX2_childMany_20 rfl ?_
      refine ev_iload_n (pc' := 24) dX2_childMany_23 rfl rfl ?_
      refine ev_ialdN 1 rfl (by omega) (by decide) (RM.row hR ha).1 (pc' := 25) dX2_childMany_24 rfl ?_
      refine ev_icmp_ne (tgt := 32) (pc' := 28) dX2_childMany_25 (by decide) rfl (fun h25 => ?_) (fun h25 => ?_)
      · rw [par_eq T hb ha] at h25
        refine ev_iconst (pc' := 33) (v := nI 0) dX2_childMany_32 rfl (by decide) ?_
        refine ev_iadd (pc' := 34) dX2_childMany_33 rfl ?_
        rw [nI_add]
        refine ev_istore_n (pc' := 35) (lv' := [_, _, _, _]) dX2_childMany_34 rfl (by decide) (by intro w hw; first | exact Or.inl rfl | (right; have hw := Option.some.inj (Option.some.inj hw); subst hw; first | rfl | exact rf_cat _) | cases hw) rfl ?_
        refine ev_iinc (pc' := 38) (lv' := [_, _, _, _]) dX2_childMany_35 rfl rfl (nI_1 _) (by decide) (by intro w hw; first | exact Or.inl rfl | (right; have hw := Option.some.inj (Option.some.inj hw); subst hw; first | rfl | exact rf_cat _) | cases hw) rfl ?_
        refine ev_goto (pc' := 4) dX2_childMany_38 (by decide) ?_
        have h := ih (ix S b + 1) n (by omega)
        unfold cnt
        rw [decide_eq_false h25, if_neg (by decide), Nat.zero_add]
        exact h
      · rw [par_eq T hb ha] at h25
        refine ev_iconst (pc' := 29) (v := nI 1) dX2_childMany_28 rfl (by decide) ?_
        refine ev_goto (pc' := 33) dX2_childMany_29 (by decide) ?_
        refine ev_iadd (pc' := 34) dX2_childMany_33 rfl ?_
        rw [nI_add]
        refine ev_istore_n (pc' := 35) (lv' := [_, _, _, _]) dX2_childMany_34 rfl (by decide) (by intro w hw; first | exact Or.inl rfl | (right; have hw := Option.some.inj (Option.some.inj hw); subst hw; first | rfl | exact rf_cat _) | cases hw) rfl ?_
        refine ev_iinc (pc' := 38) (lv' := [_, _, _, _]) dX2_childMany_35 rfl rfl (nI_1 _) (by decide) (by intro w hw; first | exact Or.inl rfl | (right; have hw := Option.some.inj (Option.some.inj hw); subst hw; first | rfl | exact rf_cat _) | cases hw) rfl ?_
        refine ev_goto (pc' := 4) dX2_childMany_38 (by decide) ?_
        have h := ih (ix S b + 1) (n + 1) (by omega)
        unfold cnt
        rw [decide_eq_true h25, if_pos rfl, ← Nat.add_assoc]
        exact h
theorem c_childMany (T : Tree S) (hR : RM S mnd mgv mcu mck mcl msh mhh mnu mpa mfa mti mpo mle mde msr mtl mtx mcp mmk mns) {a : Nat} (ha : a ∈ sL S) : Ret g mdX2_childMany [.ref mo, .int (nI (ix S a))] (wM g mo mr mnd mgv mcu mck mcl msh mhh mnu mpa mfa mti mpo mle mde msr mtl mtx mcp mmk mns) (fun r w => r = some (.int (nI (chN S a))) ∧ w = (wM g mo mr mnd mgv mcu mck mcl msh mhh mnu mpa mfa mti mpo mle mde msr mtl mtx mcp mmk mns)) := by
  refine Ret.of [_, _, _, _] 2 (by decide) (Nat.le_of_ble_eq_true rfl) rfl ?_
  refine ev_iconst (pc' := 1) (v := nI 0) dX2_childMany_0 rfl (by decide) ?_
  refine ev_istore_n (pc' := 2) (lv' := [_, _, _, _]) dX2_childMany_1 rfl (by decide) (by intro w hw; first | exact Or.inl rfl | (right; have hw := Option.some.inj (Option.some.inj hw); subst hw; first | rfl | exact rf_cat _) | cases hw) rfl ?_
  refine ev_iconst (pc' := 3) (v := nI 0) dX2_childMany_2 rfl (by decide) ?_
  refine ev_istore_n (pc' := 4) (lv' := [_, _, _, _]) dX2_childMany_3 rfl (by decide) (by intro w hw; first | exact Or.inl rfl | (right; have hw := Option.some.inj (Option.some.inj hw); subst hw; first | rfl | exact rf_cat _) | cases hw) rfl ?_
  have h := chm_loop (g := g) (mo := mo) (mr := mr) T hR ha (sL S).length 0 0 (by omega)
  rw [Nat.zero_add] at h
  exact h
theorem chd_loop (T : Tree S) (hR : RM S mnd mgv mcu mck mcl msh mhh mnu mpa mfa mti mpo mle mde msr mtl mtx mcp mmk mns) {a : Nat} (ha : a ∈ sL S) (i : Int32) : ∀ (m k n : Nat), k + m = (sL S).length → Ev g mdX2_child 5 [some (.ref mo), some (.int (nI (ix S a))), some (.int i), some (.int (nI n)), some (.int (nI k))] [] (wM g mo mr mnd mgv mcu mck mcl msh mhh mnu mpa mfa mti mpo mle mde msr mtl mtx mcp mmk mns) (fun r w => r = some (.int (chO (spa S) a i ((sL S).drop k) n)) ∧ w = (wM g mo mr mnd mgv mcu mck mcl msh mhh mnu mpa mfa mti mpo mle mde msr mtl mtx mcp mmk mns)) := by
  intro m
  have hlen := T.len
  have hka := ix_lt T ha
  induction m with
  | zero =>
    intro k n hk
    refine ev_iload (pc' := 7) dX2_child_5 rfl rfl ?_
    refine ev_aload_n (pc' := 8) dX2_child_7 rfl rfl ?_
    refine ev_get inX2 0 0 rfl rfl (by decide) flX2_nodes rfl (pc' := 11) dX2_child_8 rfl ?_
    refine ev_icmp_ge (tgt := 52) (pc' := 14) dX2_child_11 (by decide) rfl (fun h11 => ?_) (fun h11 => ?_)
    · refine ev_bipush (pc' := 54) (v := (-7)) dX2_child_52 rfl (by decide) ?_
      refine ev_iret rfl dX2_child_54 ?_
      rw [drop_end hk]
      exact ⟨rfl, rfl⟩
    · rw [hR.1] at h11
      exact absurd (nI_le (by omega) (by omega)) h11
  | succ m ih =>
    intro k n hk
    obtain ⟨b, hb, rfl⟩ := ix_at T (show k < (sL S).length by omega)
    rw [drop_ix hb]
    refine ev_iload (pc' := 7) dX2_child_5 rfl rfl ?_
    refine ev_aload_n (pc' := 8) dX2_child_7 rfl rfl ?_
    refine ev_get inX2 0 0 rfl rfl (by decide) flX2_nodes rfl (pc' := 11) dX2_child_8 rfl ?_
    refine ev_icmp_ge (tgt := 52) (pc' := 14) dX2_child_11 (by decide) rfl (fun h11 => ?_) (fun h11 => ?_)
    · rw [hR.1] at h11
      exact absurd h11 (nI_ge (by omega) (by omega))
    · refine ev_aload_n (pc' := 15) dX2_child_14 rfl rfl ?_
      refine ev_get inX2 0 3 rfl rfl (by decide) flX2_parent rfl (pc' := 18) dX2_child_15 rfl ?_
      refine ev_iload (pc' := 20) dX2_child_18 rfl rfl ?_
      refine ev_ialdN 2 rfl (by omega) (by decide) (RM.row hR hb).2.1 (pc' := 21) dX2_child_20 rfl ?_
      refine ev_aload_n (pc' := 22) dX2_child_21 rfl rfl ?_
      refine ev_get inX2 0 2 rfl rfl (by decide) flX2_number rfl (pc' := 25) dX2_child_22 rfl ?_
      refine ev_iload_n (pc' := 26) dX2_child_25 rfl rfl ?_
      refine ev_ialdN 1 rfl (by omega) (by decide) (RM.row hR ha).1 (pc' := 27) dX2_child_26 rfl ?_
      refine ev_icmp_ne (tgt := 46) (pc' := 30) dX2_child_27 (by decide) rfl (fun h27 => ?_) (fun h27 => ?_)
      · rw [par_eq T hb ha] at h27
        refine ev_iinc (pc' := 49) (lv' := [_, _, _, _, _]) dX2_child_46 rfl rfl (nI_1 _) (by decide) (by intro w hw; first | exact Or.inl rfl | (right; have hw := Option.some.inj (Option.some.inj hw); subst hw; first | rfl | exact rf_cat _) | cases hw) rfl ?_
        refine ev_goto (pc' := 5) dX2_child_49 (by decide) ?_
        have h := ih (ix S b + 1) n (by omega)
        unfold chO
        rw [if_neg h27]
        exact h
      · rw [par_eq T hb ha] at h27
        unfold chO
        rw [if_pos h27]
        refine ev_iload_n (pc' := 31) dX2_child_30 rfl rfl ?_
        refine ev_iload_n (pc' := 32) dX2_child_31 rfl rfl ?_
        refine ev_icmp_ne (tgt := 43) (pc' := 35) dX2_child_32 (by decide) rfl (fun h32 => ?_) (fun h32 => ?_)
        · rw [if_neg h32]
          refine ev_iinc (pc' := 46) (lv' := [_, _, _, _, _]) dX2_child_43 rfl rfl (nI_1 _) (by decide) (by intro w hw; first | exact Or.inl rfl | (right; have hw := Option.some.inj (Option.some.inj hw); subst hw; first | rfl | exact rf_cat _) | cases hw) rfl ?_
          refine ev_iinc (pc' := 49) (lv' := [_, _, _, _, _]) dX2_child_46 rfl rfl (nI_1 _) (by decide) (by intro w hw; first | exact Or.inl rfl | (right; have hw := Option.some.inj (Option.some.inj hw); subst hw; first | rfl | exact rf_cat _) | cases hw) rfl ?_
          refine ev_goto (pc' := 5) dX2_child_49 (by decide) ?_
          exact ih (ix S b + 1) (n + 1) (by omega)
        · rw [if_pos h32]
          refine ev_aload_n (pc' := 36) dX2_child_35 rfl rfl ?_
          refine ev_get inX2 0 2 rfl rfl (by decide) flX2_number rfl (pc' := 39) dX2_child_36 rfl ?_
          refine ev_iload (pc' := 41) dX2_child_39 rfl rfl ?_
          refine ev_ialdN 1 rfl (by omega) (by decide) (RM.row hR hb).1 (pc' := 42) dX2_child_41 rfl ?_
          refine ev_iret rfl dX2_child_42 ?_
          exact ⟨rfl, rfl⟩
theorem c_child (T : Tree S) (hR : RM S mnd mgv mcu mck mcl msh mhh mnu mpa mfa mti mpo mle mde msr mtl mtx mcp mmk mns) {a : Nat} (ha : a ∈ sL S) (i : Int32) : Ret g mdX2_child [.ref mo, .int (nI (ix S a)), .int i] (wM g mo mr mnd mgv mcu mck mcl msh mhh mnu mpa mfa mti mpo mle mde msr mtl mtx mcp mmk mns) (fun r w => r = some (.int (chO (spa S) a i (sL S) 0)) ∧ w = (wM g mo mr mnd mgv mcu mck mcl msh mhh mnu mpa mfa mti mpo mle mde msr mtl mtx mcp mmk mns)) := by
  refine Ret.of [_, _, _, _, _] 2 (by decide) (Nat.le_of_ble_eq_true rfl) rfl ?_
  refine ev_iconst (pc' := 1) (v := nI 0) dX2_child_0 rfl (by decide) ?_
  refine ev_istore_n (pc' := 2) (lv' := [_, _, _, _, _]) dX2_child_1 rfl (by decide) (by intro w hw; first | exact Or.inl rfl | (right; have hw := Option.some.inj (Option.some.inj hw); subst hw; first | rfl | exact rf_cat _) | cases hw) rfl ?_
  refine ev_iconst (pc' := 3) (v := nI 0) dX2_child_2 rfl (by decide) ?_
  refine ev_istore (pc' := 5) (lv' := [_, _, _, _, _]) dX2_child_3 rfl (by decide) (by intro w hw; first | exact Or.inl rfl | (right; have hw := Option.some.inj (Option.some.inj hw); subst hw; first | rfl | exact rf_cat _) | cases hw) rfl ?_
  exact chd_loop T hR ha i (sL S).length 0 0 (by omega)
theorem c_mchildOf (T : Tree S) (hR : RM S mnd mgv mcu mck mcl msh mhh mnu mpa mfa mti mpo mle mde msr mtl mtx mcp mmk mns) (x i : Int32) : Ret g mdX2_childOf [.ref mo, .int x, .int i] (wM g mo mr mnd mgv mcu mck mcl msh mhh mnu mpa mfa mti mpo mle mde msr mtl mtx mcp mmk mns) (fun r w => r = some (.int (aChild S x i)) ∧ w = (wM g mo mr mnd mgv mcu mck mcl msh mhh mnu mpa mfa mti mpo mle mde msr mtl mtx mcp mmk mns)) := by
  refine Ret.of [_, _, _, _] 1 (by decide) (Nat.le_of_ble_eq_true rfl) rfl ?_
  refine ev_aload_n (pc' := 1) dX2_childOf_0 rfl rfl ?_
  refine ev_iload_n (pc' := 2) dX2_childOf_1 rfl rfl ?_
  refine ev_callV (As := [_]) coX2_at 0 rfl rfl (c_at T hR x) rfl (by decide) (by first | exact Nat.le_of_ble_eq_true rfl | simp [Value.category, rf_cat]) dX2_childOf_2 rfl (pc' := 5) rfl (fun v w hq => ?_)
  obtain ⟨rfl, rfl⟩ := hq
  dsimp only [Option.toList, List.cons_append, List.nil_append]
  refine ev_istore_n (pc' := 6) (lv' := [_, _, _, _]) dX2_childOf_5 rfl (by decide) (by intro w hw; first | exact Or.inl rfl | (right; have hw := Option.some.inj (Option.some.inj hw); subst hw; first | rfl | exact rf_cat _) | cases hw) rfl ?_
  refine ev_iload_n (pc' := 7) dX2_childOf_6 rfl rfl ?_
  refine ev_bipush (pc' := 9) (v := (-7)) dX2_childOf_7 rfl (by decide) ?_
  refine ev_icmp_ne (tgt := 17) (pc' := 12) dX2_childOf_9 (by decide) rfl (fun h9 => ?_) (fun h9 => ?_)
  · cases hl : lk S x with
    | none => exact absurd (lkI_none hl) h9
    | some a =>
      have ha := (lk_some hl).1
      rw [lkI_some hl]
      refine ev_aload_n (pc' := 18) dX2_childOf_17 rfl rfl ?_
      refine ev_iload_n (pc' := 19) dX2_childOf_18 rfl rfl ?_
      refine ev_iload_n (pc' := 20) dX2_childOf_19 rfl rfl ?_
      refine ev_callV (As := [_, _]) coX2_child 0 rfl rfl (c_child T hR ha i) rfl (by decide) (by first | exact Nat.le_of_ble_eq_true rfl | simp [Value.category, rf_cat]) dX2_childOf_20 rfl (pc' := 23) rfl (fun v w hq => ?_)
      obtain ⟨rfl, rfl⟩ := hq
      dsimp only [Option.toList, List.cons_append, List.nil_append]
      refine ev_iret rfl dX2_childOf_23 ?_
      exact ⟨by unfold aChild; rw [hl], rfl⟩
  · refine ev_bipush (pc' := 14) (v := (-2)) dX2_childOf_12 rfl (by decide) ?_
    refine ev_goto (pc' := 23) dX2_childOf_14 (by decide) ?_
    refine ev_iret rfl dX2_childOf_23 ?_
    exact ⟨by unfold aChild; rw [(lkI_m7 T).mp h9], rfl⟩
theorem nIz {n : Nat} (h : n < 2 ^ 31) : nI n = 0 ↔ n = 0 := ⟨fun e => nI_inj (b := 0) h (by omega) e, fun e => by rw [e]; rfl⟩
theorem chN_le (T : Tree S) (a : Nat) : chN S a ≤ 24 := Nat.le_trans (cnt_le _ _) T.len
theorem mkN_le (S : SS) (a : Nat) : mkN S a ≤ 5 := cnt_le _ _
theorem c_isLoose (I : Inv N S) (hR : RM S mnd mgv mcu mck mcl msh mhh mnu mpa mfa mti mpo mle mde msr mtl mtx mcp mmk mns) {a : Nat} (ha : a ∈ sL S) : Ret g mdX2_isLoose [.ref mo, .int (nI (ix S a))] (wM g mo mr mnd mgv mcu mck mcl msh mhh mnu mpa mfa mti mpo mle mde msr mtl mtx mcp mmk mns) (fun r w => r = some (.int (bI (loose S a))) ∧ w = (wM g mo mr mnd mgv mcu mck mcl msh mhh mnu mpa mfa mti mpo mle mde msr mtl mtx mcp mmk mns)) := by
  have T := I.T
  have hk := ix_lt T ha
  have hkc := ix_lt T I.cu
  have hlt := T.lt ha
  have e3 := hR.2.2.1
  subst e3
  refine Ret.of [_, _] 0 (by decide) (Nat.le_of_ble_eq_true rfl) rfl ?_
  have no : ¬ (a ≠ 0 ∧ a ≠ scu S ∧ chN S a = 0 ∧ mkN S a = 0) → Ev g mdX2_isLoose 37 [some (.ref mo), some (.int (nI (ix S a)))] [] (wM g mo mr mnd mgv (nI (ix S (scu S))) mck mcl msh mhh mnu mpa mfa mti mpo mle mde msr mtl mtx mcp mmk mns) (fun r w => r = some (.int (bI (loose S a))) ∧ w = wM g mo mr mnd mgv (nI (ix S (scu S))) mck mcl msh mhh mnu mpa mfa mti mpo mle mde msr mtl mtx mcp mmk mns) := by
    intro h
    refine ev_iconst (pc' := 38) (v := nI 0) dX2_isLoose_37 rfl (by decide) ?_
    refine ev_zret rfl (by decide) dX2_isLoose_38 ?_
    refine ⟨?_, rfl⟩
    unfold loose
    rw [bI_f h]
  refine ev_iload_n (pc' := 1) dX2_isLoose_0 rfl rfl ?_
  refine ev_if_le (tgt := 37) (pc' := 4) dX2_isLoose_1 (by decide) rfl (fun h1 => ?_) (fun h1 => ?_)
  · refine no (fun q => q.1 ?_)
    rw [show (0 : Int32) = nI 0 from rfl, nI_leI (by omega) (by omega)] at h1
    exact (ix_eq0 T ha).mp (by omega)
  · have hz : a ≠ 0 := fun q => h1 (by
      rw [show (0 : Int32) = nI 0 from rfl, nI_leI (by omega) (by omega), (ix_eq0 T ha).mpr q]; exact Nat.le_refl 0)
    refine ev_iload_n (pc' := 5) dX2_isLoose_4 rfl rfl ?_
    refine ev_aload_n (pc' := 6) dX2_isLoose_5 rfl rfl ?_
    refine ev_get inX2 0 12 rfl rfl (by decide) flX2_current rfl (pc' := 9) dX2_isLoose_6 rfl ?_
    refine ev_icmp_eq (tgt := 37) (pc' := 12) dX2_isLoose_9 (by decide) rfl (fun h9 => ?_) (fun h9 => ?_)
    · exact no (fun q => q.2.1 (ix_inj T ha I.cu (nI_inj (by omega) (by omega) h9)))
    · have hc : a ≠ scu S := fun q => h9 (by rw [q])
      have hcl := chN_le T a
      have hml := mkN_le S a
      refine ev_aload_n (pc' := 13) dX2_isLoose_12 rfl rfl ?_
      refine ev_iload_n (pc' := 14) dX2_isLoose_13 rfl rfl ?_
      refine ev_callV (As := [_]) coX2_childMany 0 rfl rfl (c_childMany T hR ha) rfl (by decide) (by first | exact Nat.le_of_ble_eq_true rfl | simp [Value.category, rf_cat]) dX2_isLoose_14 rfl (pc' := 17) rfl (fun v w hq => ?_)
      obtain ⟨rfl, rfl⟩ := hq
      dsimp only [Option.toList, List.cons_append, List.nil_append]
      refine ev_if_ne (tgt := 37) (pc' := 20) dX2_isLoose_17 (by decide) rfl (fun h17 => ?_) (fun h17 => ?_)
      · exact no (fun q => h17 (by rw [q.2.2.1]; rfl))
      · rw [nIz (by omega)] at h17
        refine ev_aload_n (pc' := 21) dX2_isLoose_20 rfl rfl ?_
        refine ev_aload_n (pc' := 22) dX2_isLoose_21 rfl rfl ?_
        refine ev_get inX2 0 2 rfl rfl (by decide) flX2_number rfl (pc' := 25) dX2_isLoose_22 rfl ?_
        refine ev_iload_n (pc' := 26) dX2_isLoose_25 rfl rfl ?_
        refine ev_ialdN 1 rfl (by omega) (by decide) (RM.row hR ha).1 (pc' := 27) dX2_isLoose_26 rfl ?_
        refine ev_callV (As := [_]) coX2_marksOn 0 rfl rfl (c_mmarksOn hR I.mkb (by omega)) rfl (by decide) (by first | exact Nat.le_of_ble_eq_true rfl | simp [Value.category, rf_cat]) dX2_isLoose_27 rfl (pc' := 30) rfl (fun v w hq => ?_)
        obtain ⟨rfl, rfl⟩ := hq
        dsimp only [Option.toList, List.cons_append, List.nil_append]
        refine ev_if_ne (tgt := 37) (pc' := 33) dX2_isLoose_30 (by decide) rfl (fun h30 => ?_) (fun h30 => ?_)
        · exact no (fun q => h30 (by rw [q.2.2.2]; rfl))
        · rw [nIz (by omega)] at h30
          refine ev_iconst (pc' := 34) (v := nI 1) dX2_isLoose_33 rfl (by decide) ?_
          refine ev_goto (pc' := 38) dX2_isLoose_34 (by decide) ?_
          refine ev_zret rfl (by decide) dX2_isLoose_38 ?_
          refine ⟨?_, rfl⟩
          unfold loose
          rw [bI_t ⟨hz, hc, h17, h30⟩]
theorem old_loop (I : Inv N S) (hR : RM S mnd mgv mcu mck mcl msh mhh mnu mpa mfa mti mpo mle mde msr mtl mtx mcp mmk mns) : ∀ (m k : Nat) (b : Option Nat), k + m = (sL S).length → (∀ e, b = some e → e ∈ sL S) → Ev g mdX2_oldest 5 [some (.ref mo), some (.int (oI (b.map (ix S)))), some (.int (nI k))] [] (wM g mo mr mnd mgv mcu mck mcl msh mhh mnu mpa mfa mti mpo mle mde msr mtl mtx mcp mmk mns) (fun r w => r = some (.int (oI (oldF S ((sL S).drop k) b))) ∧ w = (wM g mo mr mnd mgv mcu mck mcl msh mhh mnu mpa mfa mti mpo mle mde msr mtl mtx mcp mmk mns)) := by
  intro m
  have T := I.T
  have hlen := T.len
  induction m with
  | zero =>
    intro k b hk hb
    rw [drop_end hk]
    show Ev g mdX2_oldest 5 _ [] _ (fun r w => r = some (.int (oI b)) ∧ w = _)
    refine ev_iload_n (pc' := 6) dX2_oldest_5 rfl rfl ?_
    refine ev_aload_n (pc' := 7) dX2_oldest_6 rfl rfl ?_
    refine ev_get inX2 0 0 rfl rfl (by decide) flX2_nodes rfl (pc' := 10) dX2_oldest_7 rfl ?_
    refine ev_icmp_ge (tgt := 54) (pc' := 13) dX2_oldest_10 (by decide) rfl (fun h10 => ?_) (fun h10 => ?_)
    · cases b with
      | none =>
        refine ev_iload_n (pc' := 55) dX2_oldest_54 rfl rfl ?_
        refine ev_bipush (pc' := 57) (v := (-7)) dX2_oldest_55 rfl (by decide) ?_
        refine ev_icmp_ne (tgt := 65) (pc' := 60) dX2_oldest_57 (by decide) rfl (fun h57 => ?_) (fun h57 => ?_)
        · exact absurd rfl h57
        · refine ev_bipush (pc' := 62) (v := (-7)) dX2_oldest_60 rfl (by decide) ?_
          refine ev_goto (pc' := 71) dX2_oldest_62 (by decide) ?_
          refine ev_iret rfl dX2_oldest_71 ?_
          exact ⟨rfl, rfl⟩
      | some e =>
        have he := hb e rfl
        have hke := ix_lt T he
        show Ev g mdX2_oldest 54 [_, some (.int (nI (ix S e))), _] [] _ _
        refine ev_iload_n (pc' := 55) dX2_oldest_54 rfl rfl ?_
        refine ev_bipush (pc' := 57) (v := (-7)) dX2_oldest_55 rfl (by decide) ?_
        refine ev_icmp_ne (tgt := 65) (pc' := 60) dX2_oldest_57 (by decide) rfl (fun h57 => ?_) (fun h57 => ?_)
        · refine ev_aload_n (pc' := 66) dX2_oldest_65 rfl rfl ?_
          refine ev_get inX2 0 2 rfl rfl (by decide) flX2_number rfl (pc' := 69) dX2_oldest_66 rfl ?_
          refine ev_iload_n (pc' := 70) dX2_oldest_69 rfl rfl ?_
          refine ev_ialdN 1 rfl (by omega) (by decide) (RM.row hR he).1 (pc' := 71) dX2_oldest_70 rfl ?_
          refine ev_iret rfl dX2_oldest_71 ?_
          exact ⟨rfl, rfl⟩
        · exact absurd h57 (nI_m7 (by omega))
    · rw [hR.1] at h10
      exact absurd (nI_le (by omega) (by omega)) h10
  | succ m ih =>
    intro k b hk hb
    obtain ⟨c, hc, rfl⟩ := ix_at T (show k < (sL S).length by omega)
    have hkc := ix_lt T hc
    rw [drop_ix hc]
    unfold oldF
    have skip : ¬ (loose S c = true ∧ (∀ e, b = some e → nI (sti S c) < nI (sti S e))) → Ev g mdX2_oldest 46 [some (.ref mo), some (.int (oI (b.map (ix S)))), some (.int (nI (ix S c)))] [] (wM g mo mr mnd mgv mcu mck mcl msh mhh mnu mpa mfa mti mpo mle mde msr mtl mtx mcp mmk mns) (fun r w => r = some (.int (oI (oldF S ((sL S).drop (ix S c + 1)) (if loose S c = true ∧ (∀ e, b = some e → nI (sti S c) < nI (sti S e)) then some c else b)))) ∧ w = (wM g mo mr mnd mgv mcu mck mcl msh mhh mnu mpa mfa mti mpo mle mde msr mtl mtx mcp mmk mns)) := by
      intro h
      rw [if_neg h]
      refine ev_iload_n (pc' := 47) dX2_oldest_46 rfl rfl ?_
      refine ev_istore_n (pc' := 48) (lv' := [_, _, _]) dX2_oldest_47 rfl (by decide) (by intro w hw; first | exact Or.inl rfl | (right; have hw := Option.some.inj (Option.some.inj hw); subst hw; first | rfl | exact rf_cat _) | cases hw) rfl ?_
      refine ev_iinc (pc' := 51) (lv' := [_, _, _]) dX2_oldest_48 rfl rfl (nI_1 _) (by decide) (by intro w hw; first | exact Or.inl rfl | (right; have hw := Option.some.inj (Option.some.inj hw); subst hw; first | rfl | exact rf_cat _) | cases hw) rfl ?_
      refine ev_goto (pc' := 5) dX2_oldest_51 (by decide) ?_
      exact ih (ix S c + 1) b (by omega) hb
    have take : (loose S c = true ∧ (∀ e, b = some e → nI (sti S c) < nI (sti S e))) → Ev g mdX2_oldest 42 [some (.ref mo), some (.int (oI (b.map (ix S)))), some (.int (nI (ix S c)))] [] (wM g mo mr mnd mgv mcu mck mcl msh mhh mnu mpa mfa mti mpo mle mde msr mtl mtx mcp mmk mns) (fun r w => r = some (.int (oI (oldF S ((sL S).drop (ix S c + 1)) (if loose S c = true ∧ (∀ e, b = some e → nI (sti S c) < nI (sti S e)) then some c else b)))) ∧ w = (wM g mo mr mnd mgv mcu mck mcl msh mhh mnu mpa mfa mti mpo mle mde msr mtl mtx mcp mmk mns)) := by
      intro h
      rw [if_pos h]
      refine ev_iload_n (pc' := 43) dX2_oldest_42 rfl rfl ?_
      refine ev_goto (pc' := 47) dX2_oldest_43 (by decide) ?_
      refine ev_istore_n (pc' := 48) (lv' := [_, _, _]) dX2_oldest_47 rfl (by decide) (by intro w hw; first | exact Or.inl rfl | (right; have hw := Option.some.inj (Option.some.inj hw); subst hw; first | rfl | exact rf_cat _) | cases hw) rfl ?_
      refine ev_iinc (pc' := 51) (lv' := [_, _, _]) dX2_oldest_48 rfl rfl (nI_1 _) (by decide) (by intro w hw; first | exact Or.inl rfl | (right; have hw := Option.some.inj (Option.some.inj hw); subst hw; first | rfl | exact rf_cat _) | cases hw) rfl ?_
      refine ev_goto (pc' := 5) dX2_oldest_51 (by decide) ?_
      exact ih (ix S c + 1) (some c) (by omega) (fun e he => by cases he; exact hc)
    refine ev_iload_n (pc' := 6) dX2_oldest_5 rfl rfl ?_
    refine ev_aload_n (pc' := 7) dX2_oldest_6 rfl rfl ?_
    refine ev_get inX2 0 0 rfl rfl (by decide) flX2_nodes rfl (pc' := 10) dX2_oldest_7 rfl ?_
    refine ev_icmp_ge (tgt := 54) (pc' := 13) dX2_oldest_10 (by decide) rfl (fun h10 => ?_) (fun h10 => ?_)
    · rw [hR.1] at h10
      exact absurd h10 (nI_ge (by omega) (by omega))
    · refine ev_aload_n (pc' := 14) dX2_oldest_13 rfl rfl ?_
      refine ev_iload_n (pc' := 15) dX2_oldest_14 rfl rfl ?_
      refine ev_callV (As := [_]) coX2_isLoose 0 rfl rfl (c_isLoose I hR hc) rfl (by decide) (by first | exact Nat.le_of_ble_eq_true rfl | simp [Value.category, rf_cat]) dX2_oldest_15 rfl (pc' := 18) rfl (fun v w hq => ?_)
      obtain ⟨rfl, rfl⟩ := hq
      dsimp only [Option.toList, List.cons_append, List.nil_append]
      refine ev_if_eq (tgt := 46) (pc' := 21) dX2_oldest_18 (by decide) rfl (fun h18 => ?_) (fun h18 => ?_)
      · rw [bI_eq] at h18
        exact skip (fun q => by rw [h18] at q; exact absurd q.1 (by decide))
      · rw [bI_ne] at h18
        cases b with
        | none =>
          refine ev_iload_n (pc' := 22) dX2_oldest_21 rfl rfl ?_
          refine ev_bipush (pc' := 24) (v := (-7)) dX2_oldest_22 rfl (by decide) ?_
          refine ev_icmp_eq (tgt := 42) (pc' := 27) dX2_oldest_24 (by decide) rfl (fun h24 => ?_) (fun h24 => ?_)
          · exact take ⟨h18, fun e he => by cases he⟩
          · exact absurd rfl h24
        | some e =>
          have he := hb e rfl
          have hke := ix_lt T he
          show Ev g mdX2_oldest 21 [_, some (.int (nI (ix S e))), _] [] _ _
          refine ev_iload_n (pc' := 22) dX2_oldest_21 rfl rfl ?_
          refine ev_bipush (pc' := 24) (v := (-7)) dX2_oldest_22 rfl (by decide) ?_
          refine ev_icmp_eq (tgt := 42) (pc' := 27) dX2_oldest_24 (by decide) rfl (fun h24 => ?_) (fun h24 => ?_)
          · exact absurd h24 (nI_m7 (by omega))
          · refine ev_aload_n (pc' := 28) dX2_oldest_27 rfl rfl ?_
            refine ev_get inX2 0 5 rfl rfl (by decide) flX2_time rfl (pc' := 31) dX2_oldest_28 rfl ?_
            refine ev_iload_n (pc' := 32) dX2_oldest_31 rfl rfl ?_
            refine ev_ialdN 4 rfl (by omega) (by decide) (RM.row hR hc).2.2.2.1 (pc' := 33) dX2_oldest_32 rfl ?_
            refine ev_aload_n (pc' := 34) dX2_oldest_33 rfl rfl ?_
            refine ev_get inX2 0 5 rfl rfl (by decide) flX2_time rfl (pc' := 37) dX2_oldest_34 rfl ?_
            refine ev_iload_n (pc' := 38) dX2_oldest_37 rfl rfl ?_
            refine ev_ialdN 4 rfl (by omega) (by decide) (RM.row hR he).2.2.2.1 (pc' := 39) dX2_oldest_38 rfl ?_
            refine ev_icmp_ge (tgt := 46) (pc' := 42) dX2_oldest_39 (by decide) rfl (fun h39 => ?_) (fun h39 => ?_)
            · exact skip (fun q => Int32.not_lt.mpr h39 (q.2 e rfl))
            · exact take ⟨h18, fun e' he' => by cases he'; exact Int32.not_le.mp h39⟩
theorem c_oldest (I : Inv N S) (hR : RM S mnd mgv mcu mck mcl msh mhh mnu mpa mfa mti mpo mle mde msr mtl mtx mcp mmk mns) : Ret g mdX2_oldest [.ref mo] (wM g mo mr mnd mgv mcu mck mcl msh mhh mnu mpa mfa mti mpo mle mde msr mtl mtx mcp mmk mns) (fun r w => r = some (.int (aOld S)) ∧ w = (wM g mo mr mnd mgv mcu mck mcl msh mhh mnu mpa mfa mti mpo mle mde msr mtl mtx mcp mmk mns)) := by
  refine Ret.of [_, _, _] 2 (by decide) (Nat.le_of_ble_eq_true rfl) rfl ?_
  refine ev_bipush (pc' := 2) (v := (-7)) dX2_oldest_0 rfl (by decide) ?_
  refine ev_istore_n (pc' := 3) (lv' := [_, _, _]) dX2_oldest_2 rfl (by decide) (by intro w hw; first | exact Or.inl rfl | (right; have hw := Option.some.inj (Option.some.inj hw); subst hw; first | rfl | exact rf_cat _) | cases hw) rfl ?_
  refine ev_iconst (pc' := 4) (v := nI 0) dX2_oldest_3 rfl (by decide) ?_
  refine ev_istore_n (pc' := 5) (lv' := [_, _, _]) dX2_oldest_4 rfl (by decide) (by intro w hw; first | exact Or.inl rfl | (right; have hw := Option.some.inj (Option.some.inj hw); subst hw; first | rfl | exact rf_cat _) | cases hw) rfl ?_
  exact old_loop I hR (sL S).length 0 none (by omega) (fun e he => by cases he)
theorem c_moldestLeaf (I : Inv N S) (hR : RM S mnd mgv mcu mck mcl msh mhh mnu mpa mfa mti mpo mle mde msr mtl mtx mcp mmk mns) : Ret g mdX2_oldestLeaf [.ref mo] (wM g mo mr mnd mgv mcu mck mcl msh mhh mnu mpa mfa mti mpo mle mde msr mtl mtx mcp mmk mns) (fun r w => r = some (.int (aOld S)) ∧ w = (wM g mo mr mnd mgv mcu mck mcl msh mhh mnu mpa mfa mti mpo mle mde msr mtl mtx mcp mmk mns)) := by
  refine Ret.of [_] 0 (by decide) (Nat.le_of_ble_eq_true rfl) rfl ?_
  refine ev_aload_n (pc' := 1) dX2_oldestLeaf_0 rfl rfl ?_
  refine ev_callV (As := []) coX2_oldest 0 rfl rfl (c_oldest I hR) rfl (by decide) (by first | exact Nat.le_of_ble_eq_true rfl | simp [Value.category, rf_cat]) dX2_oldestLeaf_1 rfl (pc' := 4) rfl (fun v w hq => ?_)
  obtain ⟨rfl, rfl⟩ := hq
  dsimp only [Option.toList, List.cons_append, List.nil_append]
  refine ev_iret rfl dX2_oldestLeaf_4 ?_
  exact ⟨rfl, rfl⟩
theorem c_mix (v : Int64) : Ret g mdX2_mix [.ref mo, .long v] (wM g mo mr mnd mgv mcu mck mcl msh mhh mnu mpa mfa mti mpo mle mde msr mtl mtx mcp mmk mns) (fun r w => r = none ∧ w = (wM g mo mr mnd mgv mcu mck mcl msh (mx mhh v) mnu mpa mfa mti mpo mle mde msr mtl mtx mcp mmk mns)) := by
  refine Ret.of [_, _, _] 0 (by decide) (Nat.le_of_ble_eq_true rfl) rfl ?_
  refine ev_aload_n (pc' := 1) dX2_mix_0 rfl rfl ?_
  refine ev_ldc2 (pc' := 4) clX2_141 dX2_mix_1 rfl ?_
  refine ev_aload_n (pc' := 5) dX2_mix_4 rfl rfl ?_
  refine ev_get inX2 0 19 rfl rfl (by decide) flX2_h rfl (pc' := 8) dX2_mix_5 rfl ?_
  refine ev_lmul (pc' := 9) dX2_mix_8 rfl ?_
  refine ev_lload_n (pc' := 10) dX2_mix_9 rfl rfl ?_
  refine ev_ladd (pc' := 11) dX2_mix_10 rfl ?_
  refine pX2_h rfl (pc' := 14) dX2_mix_11 rfl ?_
  refine ev_vret rfl dX2_mix_14 ?_
  exact ⟨rfl, rfl⟩
end M7
