/-! ===== the reference's methods: what is read ===== -/
section M3
variable {g : EG} {mo : Nat} {mr : Nat → Nat} {mnd mgv mcu mck mcl msh : Int32} {mhh : Int64} {mnu mpa mfa mti mpo mle mde msr mtl mtx mcp mmk mns : Nat → Int32}
variable {S : SS}
theorem lkI_m7 (T : Tree S) {x : Int32} : lkI S x = (-7) ↔ lk S x = none := by
  cases h : lk S x with
  | none => exact ⟨fun _ => rfl, fun _ => lkI_none h⟩
  | some a =>
    rw [lkI_some h]
    have := ix_lt T (lk_some h).1
    exact ⟨fun q => absurd q (nI_m7 (by omega)), fun q => by cases q⟩
theorem c_mcurrent (T : Tree S) (hR : RM S mnd mgv mcu mck mcl msh mhh mnu mpa mfa mti mpo mle mde msr mtl mtx mcp mmk mns) (hc : scu S ∈ sL S) : Ret g mdX2_current [.ref mo] (wM g mo mr mnd mgv mcu mck mcl msh mhh mnu mpa mfa mti mpo mle mde msr mtl mtx mcp mmk mns) (fun r w => r = some (.int (nI (scu S))) ∧ w = (wM g mo mr mnd mgv mcu mck mcl msh mhh mnu mpa mfa mti mpo mle mde msr mtl mtx mcp mmk mns)) := by
  have hk := ix_lt T hc
  have h1 := (RM.row hR hc).1
  refine Ret.of [_] 0 (by decide) (Nat.le_of_ble_eq_true rfl) rfl ?_
  obtain rfl := hR.2.2.1
  refine ev_aload_n (pc' := 1) dX2_current_0 rfl rfl ?_
  refine ev_get inX2 0 2 rfl rfl (by decide) flX2_number rfl (pc' := 4) dX2_current_1 rfl ?_
  refine ev_aload_n (pc' := 5) dX2_current_4 rfl rfl ?_
  refine ev_get inX2 0 12 rfl rfl (by decide) flX2_current rfl (pc' := 8) dX2_current_5 rfl ?_
  refine ev_ialdN 1 rfl (by omega) (by decide) h1 (pc' := 9) dX2_current_8 rfl ?_
  refine ev_iret rfl dX2_current_9 ?_
  exact ⟨rfl, rfl⟩
theorem c_mnodeCount (hR : RM S mnd mgv mcu mck mcl msh mhh mnu mpa mfa mti mpo mle mde msr mtl mtx mcp mmk mns) : Ret g mdX2_nodeCount [.ref mo] (wM g mo mr mnd mgv mcu mck mcl msh mhh mnu mpa mfa mti mpo mle mde msr mtl mtx mcp mmk mns) (fun r w => r = some (.int (nI (sL S).length)) ∧ w = (wM g mo mr mnd mgv mcu mck mcl msh mhh mnu mpa mfa mti mpo mle mde msr mtl mtx mcp mmk mns)) := by
  refine Ret.of [_] 0 (by decide) (Nat.le_of_ble_eq_true rfl) rfl ?_
  obtain rfl := hR.1
  refine ev_aload_n (pc' := 1) dX2_nodeCount_0 rfl rfl ?_
  refine ev_get inX2 0 0 rfl rfl (by decide) flX2_nodes rfl (pc' := 4) dX2_nodeCount_1 rfl ?_
  refine ev_iret rfl dX2_nodeCount_4 ?_
  exact ⟨rfl, rfl⟩
theorem c_mlengthOf (T : Tree S) (hR : RM S mnd mgv mcu mck mcl msh mhh mnu mpa mfa mti mpo mle mde msr mtl mtx mcp mmk mns) (x : Int32) : Ret g mdX2_lengthOf [.ref mo, .int x] (wM g mo mr mnd mgv mcu mck mcl msh mhh mnu mpa mfa mti mpo mle mde msr mtl mtx mcp mmk mns) (fun r w => r = some (.int (aLen S x)) ∧ w = (wM g mo mr mnd mgv mcu mck mcl msh mhh mnu mpa mfa mti mpo mle mde msr mtl mtx mcp mmk mns)) := by
  refine Ret.of [_, _, _] 1 (by decide) (Nat.le_of_ble_eq_true rfl) rfl ?_
  refine ev_aload_n (pc' := 1) dX2_lengthOf_0 rfl rfl ?_
  refine ev_iload_n (pc' := 2) dX2_lengthOf_1 rfl rfl ?_
  refine ev_callV (As := [_]) coX2_at 0 rfl rfl (c_at T hR x) rfl (by decide) (by first | exact Nat.le_of_ble_eq_true rfl | simp [Value.category, rf_cat]) dX2_lengthOf_2 rfl (pc' := 5) rfl (fun v w hq => ?_)
  obtain ⟨rfl, rfl⟩ := hq
  dsimp only [Option.toList, List.cons_append, List.nil_append]
  refine ev_istore_n (pc' := 6) (lv' := [_, _, _]) dX2_lengthOf_5 rfl (by decide) (by intro w hw; first | exact Or.inl rfl | (right; have hw := Option.some.inj (Option.some.inj hw); subst hw; first | rfl | exact rf_cat _) | cases hw) rfl ?_
  refine ev_iload_n (pc' := 7) dX2_lengthOf_6 rfl rfl ?_
  refine ev_bipush (pc' := 9) (v := (-7)) dX2_lengthOf_7 rfl (by decide) ?_
  refine ev_icmp_ne (tgt := 17) (pc' := 12) dX2_lengthOf_9 (by decide) rfl (fun h9 => ?_) (fun h9 => ?_)
  · cases hl : lk S x with
    | none => exact absurd (lkI_none hl) h9
    | some a =>
      have ha := (lk_some hl).1
      have hk := ix_lt T ha
      rw [lkI_some hl]
      refine ev_aload_n (pc' := 18) dX2_lengthOf_17 rfl rfl ?_
      refine ev_get inX2 0 10 rfl rfl (by decide) flX2_textLength rfl (pc' := 21) dX2_lengthOf_18 rfl ?_
      refine ev_iload_n (pc' := 22) dX2_lengthOf_21 rfl rfl ?_
      refine ev_ialdN 9 rfl (by omega) (by decide) (RM.row hR ha).2.2.2.2.2.2.2.1 (pc' := 23) dX2_lengthOf_22 rfl ?_
      refine ev_iret rfl dX2_lengthOf_23 ?_
      exact ⟨by unfold aLen; rw [hl], rfl⟩
  · refine ev_bipush (pc' := 14) (v := (-2)) dX2_lengthOf_12 rfl (by decide) ?_
    refine ev_goto (pc' := 23) dX2_lengthOf_14 (by decide) ?_
    refine ev_iret rfl dX2_lengthOf_23 ?_
    exact ⟨by unfold aLen; rw [(lkI_m7 T).mp h9], rfl⟩
theorem c_mfavouriteOf (T : Tree S) (hR : RM S mnd mgv mcu mck mcl msh mhh mnu mpa mfa mti mpo mle mde msr mtl mtx mcp mmk mns) (x : Int32) : Ret g mdX2_favouriteOf [.ref mo, .int x] (wM g mo mr mnd mgv mcu mck mcl msh mhh mnu mpa mfa mti mpo mle mde msr mtl mtx mcp mmk mns) (fun r w => r = some (.int (aFav S x)) ∧ w = (wM g mo mr mnd mgv mcu mck mcl msh mhh mnu mpa mfa mti mpo mle mde msr mtl mtx mcp mmk mns)) := by
  refine Ret.of [_, _, _] 1 (by decide) (Nat.le_of_ble_eq_true rfl) rfl ?_
  refine ev_aload_n (pc' := 1) dX2_favouriteOf_0 rfl rfl ?_
  refine ev_iload_n (pc' := 2) dX2_favouriteOf_1 rfl rfl ?_
  refine ev_callV (As := [_]) coX2_at 0 rfl rfl (c_at T hR x) rfl (by decide) (by first | exact Nat.le_of_ble_eq_true rfl | simp [Value.category, rf_cat]) dX2_favouriteOf_2 rfl (pc' := 5) rfl (fun v w hq => ?_)
  obtain ⟨rfl, rfl⟩ := hq
  dsimp only [Option.toList, List.cons_append, List.nil_append]
  refine ev_istore_n (pc' := 6) (lv' := [_, _, _]) dX2_favouriteOf_5 rfl (by decide) (by intro w hw; first | exact Or.inl rfl | (right; have hw := Option.some.inj (Option.some.inj hw); subst hw; first | rfl | exact rf_cat _) | cases hw) rfl ?_
  refine ev_iload_n (pc' := 7) dX2_favouriteOf_6 rfl rfl ?_
  refine ev_bipush (pc' := 9) (v := (-7)) dX2_favouriteOf_7 rfl (by decide) ?_
  refine ev_icmp_ne (tgt := 17) (pc' := 12) dX2_favouriteOf_9 (by decide) rfl (fun h9 => ?_) (fun h9 => ?_)
  · cases hl : lk S x with
    | none => exact absurd (lkI_none hl) h9
    | some a =>
      have ha := (lk_some hl).1
      have hk := ix_lt T ha
      rw [lkI_some hl]
      refine ev_aload_n (pc' := 18) dX2_favouriteOf_17 rfl rfl ?_
      refine ev_get inX2 0 4 rfl rfl (by decide) flX2_favourite rfl (pc' := 21) dX2_favouriteOf_18 rfl ?_
      refine ev_iload_n (pc' := 22) dX2_favouriteOf_21 rfl rfl ?_
      refine ev_ialdN 3 rfl (by omega) (by decide) (RM.row hR ha).2.2.1 (pc' := 23) dX2_favouriteOf_22 rfl ?_
      refine ev_iret rfl dX2_favouriteOf_23 ?_
      exact ⟨by unfold aFav; rw [hl], rfl⟩
  · refine ev_bipush (pc' := 14) (v := (-2)) dX2_favouriteOf_12 rfl (by decide) ?_
    refine ev_goto (pc' := 23) dX2_favouriteOf_14 (by decide) ?_
    refine ev_iret rfl dX2_favouriteOf_23 ?_
    exact ⟨by unfold aFav; rw [(lkI_m7 T).mp h9], rfl⟩
theorem c_mtimeOf (T : Tree S) (hR : RM S mnd mgv mcu mck mcl msh mhh mnu mpa mfa mti mpo mle mde msr mtl mtx mcp mmk mns) (x : Int32) : Ret g mdX2_timeOf [.ref mo, .int x] (wM g mo mr mnd mgv mcu mck mcl msh mhh mnu mpa mfa mti mpo mle mde msr mtl mtx mcp mmk mns) (fun r w => r = some (.int (aTim S x)) ∧ w = (wM g mo mr mnd mgv mcu mck mcl msh mhh mnu mpa mfa mti mpo mle mde msr mtl mtx mcp mmk mns)) := by
  refine Ret.of [_, _, _] 1 (by decide) (Nat.le_of_ble_eq_true rfl) rfl ?_
  refine ev_aload_n (pc' := 1) dX2_timeOf_0 rfl rfl ?_
  refine ev_iload_n (pc' := 2) dX2_timeOf_1 rfl rfl ?_
  refine ev_callV (As := [_]) coX2_at 0 rfl rfl (c_at T hR x) rfl (by decide) (by first | exact Nat.le_of_ble_eq_true rfl | simp [Value.category, rf_cat]) dX2_timeOf_2 rfl (pc' := 5) rfl (fun v w hq => ?_)
  obtain ⟨rfl, rfl⟩ := hq
  dsimp only [Option.toList, List.cons_append, List.nil_append]
  refine ev_istore_n (pc' := 6) (lv' := [_, _, _]) dX2_timeOf_5 rfl (by decide) (by intro w hw; first | exact Or.inl rfl | (right; have hw := Option.some.inj (Option.some.inj hw); subst hw; first | rfl | exact rf_cat _) | cases hw) rfl ?_
  refine ev_iload_n (pc' := 7) dX2_timeOf_6 rfl rfl ?_
  refine ev_bipush (pc' := 9) (v := (-7)) dX2_timeOf_7 rfl (by decide) ?_
  refine ev_icmp_ne (tgt := 17) (pc' := 12) dX2_timeOf_9 (by decide) rfl (fun h9 => ?_) (fun h9 => ?_)
  · cases hl : lk S x with
    | none => exact absurd (lkI_none hl) h9
    | some a =>
      have ha := (lk_some hl).1
      have hk := ix_lt T ha
      rw [lkI_some hl]
      refine ev_aload_n (pc' := 18) dX2_timeOf_17 rfl rfl ?_
      refine ev_get inX2 0 5 rfl rfl (by decide) flX2_time rfl (pc' := 21) dX2_timeOf_18 rfl ?_
      refine ev_iload_n (pc' := 22) dX2_timeOf_21 rfl rfl ?_
      refine ev_ialdN 4 rfl (by omega) (by decide) (RM.row hR ha).2.2.2.1 (pc' := 23) dX2_timeOf_22 rfl ?_
      refine ev_iret rfl dX2_timeOf_23 ?_
      exact ⟨by unfold aTim; rw [hl], rfl⟩
  · refine ev_bipush (pc' := 14) (v := (-2)) dX2_timeOf_12 rfl (by decide) ?_
    refine ev_goto (pc' := 23) dX2_timeOf_14 (by decide) ?_
    refine ev_iret rfl dX2_timeOf_23 ?_
    exact ⟨by unfold aTim; rw [(lkI_m7 T).mp h9], rfl⟩
theorem c_edit (T : Tree S) (hR : RM S mnd mgv mcu mck mcl msh mhh mnu mpa mfa mti mpo mle mde msr mtl mtx mcp mmk mns) {a : Nat} (ha : a ∈ sL S) : Ret g mdX2_edit [.ref mo, .int (nI (ix S a))] (wM g mo mr mnd mgv mcu mck mcl msh mhh mnu mpa mfa mti mpo mle mde msr mtl mtx mcp mmk mns) (fun r w => r = some (.int (edc S a)) ∧ w = (wM g mo mr mnd mgv mcu mck mcl msh mhh mnu mpa mfa mti mpo mle mde msr mtl mtx mcp mmk mns)) := by
  have hk := ix_lt T ha
  have hr := RM.row hR ha
  refine Ret.of [_, _] 0 (by decide) (Nat.le_of_ble_eq_true rfl) rfl ?_
  refine ev_sipush (pc' := 3) (v := nI 1000) dX2_edit_0 rfl (by decide) ?_
  refine ev_aload_n (pc' := 4) dX2_edit_3 rfl rfl ?_
  refine ev_get inX2 0 6 rfl rfl (by decide) flX2_position rfl (pc' := 7) dX2_edit_4 rfl ?_
  refine ev_iload_n (pc' := 8) dX2_edit_7 rfl rfl ?_
  refine ev_ialdN 5 rfl (by omega) (by decide) hr.2.2.2.2.1 (pc' := 9) dX2_edit_8 rfl ?_
  refine ev_imul (pc' := 10) dX2_edit_9 rfl ?_
  refine ev_bipush (pc' := 12) (v := nI 10) dX2_edit_10 rfl (by decide) ?_
  refine ev_aload_n (pc' := 13) dX2_edit_12 rfl rfl ?_
  refine ev_get inX2 0 7 rfl rfl (by decide) flX2_length rfl (pc' := 16) dX2_edit_13 rfl ?_
  refine ev_iload_n (pc' := 17) dX2_edit_16 rfl rfl ?_
  refine ev_ialdN 6 rfl (by omega) (by decide) hr.2.2.2.2.2.1 (pc' := 18) dX2_edit_17 rfl ?_
  refine ev_imul (pc' := 19) dX2_edit_18 rfl ?_
  refine ev_iadd (pc' := 20) dX2_edit_19 rfl ?_
  refine ev_aload_n (pc' := 21) dX2_edit_20 rfl rfl ?_
  refine ev_get inX2 0 8 rfl rfl (by decide) flX2_deletes rfl (pc' := 24) dX2_edit_21 rfl ?_
  refine ev_iload_n (pc' := 25) dX2_edit_24 rfl rfl ?_
  refine ev_zaldN 7 rfl (by omega) (by decide) hr.2.2.2.2.2.2.1 (pc' := 26) dX2_edit_25 rfl ?_
  refine ev_if_eq (tgt := 33) (pc' := 29) dX2_edit_26 (by decide) rfl (fun h26 => ?_) (fun h26 => ?_)
  · refine ev_iconst (pc' := 34) (v := nI 0) dX2_edit_33 rfl (by decide) ?_
    refine ev_iadd (pc' := 35) dX2_edit_34 rfl ?_
    refine ev_iret rfl dX2_edit_35 ?_
    refine ⟨?_, rfl⟩
    unfold edc
    rw [bI_eq.mp h26]; rfl
  · refine ev_iconst (pc' := 30) (v := nI 1) dX2_edit_29 rfl (by decide) ?_
    refine ev_goto (pc' := 34) dX2_edit_30 (by decide) ?_
    refine ev_iadd (pc' := 35) dX2_edit_34 rfl ?_
    refine ev_iret rfl dX2_edit_35 ?_
    refine ⟨?_, rfl⟩
    unfold edc
    rw [bI_ne.mp h26]; rfl
theorem ixz (T : Tree S) {a : Nat} (ha : a ∈ sL S) : nI (ix S a) = 0 ↔ a = 0 := by
  have hk := ix_lt T ha
  rw [← ix_eq0 T ha]
  exact ⟨fun h => nI_inj (b := 0) (by omega) (by omega) h, fun h => by rw [h]; rfl⟩
theorem c_meditOf (T : Tree S) (hR : RM S mnd mgv mcu mck mcl msh mhh mnu mpa mfa mti mpo mle mde msr mtl mtx mcp mmk mns) (x : Int32) : Ret g mdX2_editOf [.ref mo, .int x] (wM g mo mr mnd mgv mcu mck mcl msh mhh mnu mpa mfa mti mpo mle mde msr mtl mtx mcp mmk mns) (fun r w => r = some (.int (aEdit S x)) ∧ w = (wM g mo mr mnd mgv mcu mck mcl msh mhh mnu mpa mfa mti mpo mle mde msr mtl mtx mcp mmk mns)) := by
  refine Ret.of [_, _, _] 1 (by decide) (Nat.le_of_ble_eq_true rfl) rfl ?_
  refine ev_aload_n (pc' := 1) dX2_editOf_0 rfl rfl ?_
  refine ev_iload_n (pc' := 2) dX2_editOf_1 rfl rfl ?_
  refine ev_callV (As := [_]) coX2_at 0 rfl rfl (c_at T hR x) rfl (by decide) (by first | exact Nat.le_of_ble_eq_true rfl | simp [Value.category, rf_cat]) dX2_editOf_2 rfl (pc' := 5) rfl (fun v w hq => ?_)
  obtain ⟨rfl, rfl⟩ := hq
  dsimp only [Option.toList, List.cons_append, List.nil_append]
  refine ev_istore_n (pc' := 6) (lv' := [_, _, _]) dX2_editOf_5 rfl (by decide) (by intro w hw; first | exact Or.inl rfl | (right; have hw := Option.some.inj (Option.some.inj hw); subst hw; first | rfl | exact rf_cat _) | cases hw) rfl ?_
  refine ev_iload_n (pc' := 7) dX2_editOf_6 rfl rfl ?_
  refine ev_bipush (pc' := 9) (v := (-7)) dX2_editOf_7 rfl (by decide) ?_
  refine ev_icmp_ne (tgt := 15) (pc' := 12) dX2_editOf_9 (by decide) rfl (fun h9 => ?_) (fun h9 => ?_)
  · cases hl : lk S x with
    | none => exact absurd (lkI_none hl) h9
    | some a =>
      have ha := (lk_some hl).1
      have hk := ix_lt T ha
      rw [lkI_some hl]
      refine ev_iload_n (pc' := 16) dX2_editOf_15 rfl rfl ?_
      refine ev_if_ne (tgt := 24) (pc' := 19) dX2_editOf_16 (by decide) rfl (fun h16 => ?_) (fun h16 => ?_)
      · rw [ixz T ha] at h16
        refine ev_aload_n (pc' := 25) dX2_editOf_24 rfl rfl ?_
        refine ev_iload_n (pc' := 26) dX2_editOf_25 rfl rfl ?_
        refine ev_callV (As := [_]) coX2_edit 0 rfl rfl (c_edit T hR ha) rfl (by decide) (by first | exact Nat.le_of_ble_eq_true rfl | simp [Value.category, rf_cat]) dX2_editOf_26 rfl (pc' := 29) rfl (fun v w hq => ?_)
        obtain ⟨rfl, rfl⟩ := hq
        dsimp only [Option.toList, List.cons_append, List.nil_append]
        refine ev_iret rfl dX2_editOf_29 ?_
        refine ⟨?_, rfl⟩
        unfold aEdit; rw [hl]
        show _ = some (Value.int (if a = 0 then (-6) else edc S a))
        rw [if_neg h16]
      · rw [ixz T ha] at h16
        refine ev_bipush (pc' := 21) (v := (-6)) dX2_editOf_19 rfl (by decide) ?_
        refine ev_goto (pc' := 29) dX2_editOf_21 (by decide) ?_
        refine ev_iret rfl dX2_editOf_29 ?_
        refine ⟨?_, rfl⟩
        unfold aEdit; rw [hl]
        show _ = some (Value.int (if a = 0 then (-6) else edc S a))
        rw [if_pos h16]
  · refine ev_bipush (pc' := 14) (v := (-2)) dX2_editOf_12 rfl (by decide) ?_
    refine ev_iret rfl dX2_editOf_14 ?_
    exact ⟨by unfold aEdit; rw [(lkI_m7 T).mp h9], rfl⟩
theorem c_mparentOf (T : Tree S) (hR : RM S mnd mgv mcu mck mcl msh mhh mnu mpa mfa mti mpo mle mde msr mtl mtx mcp mmk mns) (x : Int32) : Ret g mdX2_parentOf [.ref mo, .int x] (wM g mo mr mnd mgv mcu mck mcl msh mhh mnu mpa mfa mti mpo mle mde msr mtl mtx mcp mmk mns) (fun r w => r = some (.int (aPar S x)) ∧ w = (wM g mo mr mnd mgv mcu mck mcl msh mhh mnu mpa mfa mti mpo mle mde msr mtl mtx mcp mmk mns)) := by
  refine Ret.of [_, _, _] 1 (by decide) (Nat.le_of_ble_eq_true rfl) rfl ?_
  refine ev_aload_n (pc' := 1) dX2_parentOf_0 rfl rfl ?_
  refine ev_iload_n (pc' := 2) dX2_parentOf_1 rfl rfl ?_
  refine ev_callV (As := [_]) coX2_at 0 rfl rfl (c_at T hR x) rfl (by decide) (by first | exact Nat.le_of_ble_eq_true rfl | simp [Value.category, rf_cat]) dX2_parentOf_2 rfl (pc' := 5) rfl (fun v w hq => ?_)
  obtain ⟨rfl, rfl⟩ := hq
  dsimp only [Option.toList, List.cons_append, List.nil_append]
  refine ev_istore_n (pc' := 6) (lv' := [_, _, _]) dX2_parentOf_5 rfl (by decide) (by intro w hw; first | exact Or.inl rfl | (right; have hw := Option.some.inj (Option.some.inj hw); subst hw; first | rfl | exact rf_cat _) | cases hw) rfl ?_
  refine ev_iload_n (pc' := 7) dX2_parentOf_6 rfl rfl ?_
  refine ev_bipush (pc' := 9) (v := (-7)) dX2_parentOf_7 rfl (by decide) ?_
  refine ev_icmp_ne (tgt := 15) (pc' := 12) dX2_parentOf_9 (by decide) rfl (fun h9 => ?_) (fun h9 => ?_)
  · cases hl : lk S x with
    | none => exact absurd (lkI_none hl) h9
    | some a =>
      have ha := (lk_some hl).1
      have hk := ix_lt T ha
      rw [lkI_some hl]
      refine ev_iload_n (pc' := 16) dX2_parentOf_15 rfl rfl ?_
      refine ev_if_ne (tgt := 24) (pc' := 19) dX2_parentOf_16 (by decide) rfl (fun h16 => ?_) (fun h16 => ?_)
      · rw [ixz T ha] at h16
        refine ev_aload_n (pc' := 25) dX2_parentOf_24 rfl rfl ?_
        refine ev_get inX2 0 3 rfl rfl (by decide) flX2_parent rfl (pc' := 28) dX2_parentOf_25 rfl ?_
        refine ev_iload_n (pc' := 29) dX2_parentOf_28 rfl rfl ?_
        refine ev_ialdN 2 rfl (by omega) (by decide) (RM.row hR ha).2.1 (pc' := 30) dX2_parentOf_29 rfl ?_
        refine ev_iret rfl dX2_parentOf_30 ?_
        refine ⟨?_, rfl⟩
        unfold aPar; rw [hl]
        show _ = some (Value.int (if a = 0 then (-6) else oI (spa S a)))
        rw [if_neg h16]
      · rw [ixz T ha] at h16
        refine ev_bipush (pc' := 21) (v := (-6)) dX2_parentOf_19 rfl (by decide) ?_
        refine ev_goto (pc' := 30) dX2_parentOf_21 (by decide) ?_
        refine ev_iret rfl dX2_parentOf_30 ?_
        refine ⟨?_, rfl⟩
        unfold aPar; rw [hl]
        show _ = some (Value.int (if a = 0 then (-6) else oI (spa S a)))
        rw [if_pos h16]
  · refine ev_bipush (pc' := 14) (v := (-2)) dX2_parentOf_12 rfl (by decide) ?_
    refine ev_iret rfl dX2_parentOf_14 ?_
    exact ⟨by unfold aPar; rw [(lkI_m7 T).mp h9], rfl⟩
theorem c_mcommonAncestor (T : Tree S) (hR : RM S mnd mgv mcu mck mcl msh mhh mnu mpa mfa mti mpo mle mde msr mtl mtx mcp mmk mns) (x y : Int32) : Ret g mdX2_commonAncestor [.ref mo, .int x, .int y] (wM g mo mr mnd mgv mcu mck mcl msh mhh mnu mpa mfa mti mpo mle mde msr mtl mtx mcp mmk mns) (fun r w => r = some (.int (aLca S x y)) ∧ w = (wM g mo mr mnd mgv mcu mck mcl msh mhh mnu mpa mfa mti mpo mle mde msr mtl mtx mcp mmk mns)) := by
  refine Ret.of [_, _, _, _, _] 2 (by decide) (Nat.le_of_ble_eq_true rfl) rfl ?_
  refine ev_aload_n (pc' := 1) dX2_commonAncestor_0 rfl rfl ?_
  refine ev_iload_n (pc' := 2) dX2_commonAncestor_1 rfl rfl ?_
  refine ev_callV (As := [_]) coX2_at 0 rfl rfl (c_at T hR x) rfl (by decide) (by first | exact Nat.le_of_ble_eq_true rfl | simp [Value.category, rf_cat]) dX2_commonAncestor_2 rfl (pc' := 5) rfl (fun v w hq => ?_)
  obtain ⟨rfl, rfl⟩ := hq
  dsimp only [Option.toList, List.cons_append, List.nil_append]
  refine ev_istore_n (pc' := 6) (lv' := [_, _, _, _, _]) dX2_commonAncestor_5 rfl (by decide) (by intro w hw; first | exact Or.inl rfl | (right; have hw := Option.some.inj (Option.some.inj hw); subst hw; first | rfl | exact rf_cat _) | cases hw) rfl ?_
  refine ev_aload_n (pc' := 7) dX2_commonAncestor_6 rfl rfl ?_
  refine ev_iload_n (pc' := 8) dX2_commonAncestor_7 rfl rfl ?_
  refine ev_callV (As := [_]) coX2_at 0 rfl rfl (c_at T hR y) rfl (by decide) (by first | exact Nat.le_of_ble_eq_true rfl | simp [Value.category, rf_cat]) dX2_commonAncestor_8 rfl (pc' := 11) rfl (fun v w hq => ?_)
  obtain ⟨rfl, rfl⟩ := hq
  dsimp only [Option.toList, List.cons_append, List.nil_append]
  refine ev_istore (pc' := 13) (lv' := [_, _, _, _, _]) dX2_commonAncestor_11 rfl (by decide) (by intro w hw; first | exact Or.inl rfl | (right; have hw := Option.some.inj (Option.some.inj hw); subst hw; first | rfl | exact rf_cat _) | cases hw) rfl ?_
  refine ev_iload_n (pc' := 14) dX2_commonAncestor_13 rfl rfl ?_
  refine ev_bipush (pc' := 16) (v := (-7)) dX2_commonAncestor_14 rfl (by decide) ?_
  refine ev_icmp_eq (tgt := 26) (pc' := 19) dX2_commonAncestor_16 (by decide) rfl (fun h16 => ?_) (fun h16 => ?_)
  · refine ev_bipush (pc' := 28) (v := (-2)) dX2_commonAncestor_26 rfl (by decide) ?_
    refine ev_goto (pc' := 43) dX2_commonAncestor_28 (by decide) ?_
    refine ev_iret rfl dX2_commonAncestor_43 ?_
    exact ⟨by unfold aLca; rw [(lkI_m7 T).mp h16], rfl⟩
  · refine ev_iload (pc' := 21) dX2_commonAncestor_19 rfl rfl ?_
    refine ev_bipush (pc' := 23) (v := (-7)) dX2_commonAncestor_21 rfl (by decide) ?_
    refine ev_icmp_ne (tgt := 31) (pc' := 26) dX2_commonAncestor_23 (by decide) rfl (fun h23 => ?_) (fun h23 => ?_)
    · cases hl : lk S x with
      | none => exact absurd (lkI_none hl) h16
      | some a =>
        cases hm : lk S y with
        | none => exact absurd (lkI_none hm) h23
        | some b =>
          have ha := (lk_some hl).1
          have hb := (lk_some hm).1
          have hc := lca_mem T hb a ha
          have hk := ix_lt T hc
          rw [lkI_some hl, lkI_some hm]
          refine ev_aload_n (pc' := 32) dX2_commonAncestor_31 rfl rfl ?_
          refine ev_get inX2 0 2 rfl rfl (by decide) flX2_number rfl (pc' := 35) dX2_commonAncestor_32 rfl ?_
          refine ev_aload_n (pc' := 36) dX2_commonAncestor_35 rfl rfl ?_
          refine ev_iload_n (pc' := 37) dX2_commonAncestor_36 rfl rfl ?_
          refine ev_iload (pc' := 39) dX2_commonAncestor_37 rfl rfl ?_
          refine ev_callV (As := [_, _]) coX2_common 0 rfl rfl (c_common T hR ha hb) rfl (by decide) (by first | exact Nat.le_of_ble_eq_true rfl | simp [Value.category, rf_cat]) dX2_commonAncestor_39 rfl (pc' := 42) rfl (fun v w hq => ?_)
          obtain ⟨rfl, rfl⟩ := hq
          dsimp only [Option.toList, List.cons_append, List.nil_append]
          refine ev_ialdN 1 rfl (by omega) (by decide) (RM.row hR hc).1 (pc' := 43) dX2_commonAncestor_42 rfl ?_
          refine ev_iret rfl dX2_commonAncestor_43 ?_
          exact ⟨by unfold aLca; rw [hl, hm], rfl⟩
    · refine ev_bipush (pc' := 28) (v := (-2)) dX2_commonAncestor_26 rfl (by decide) ?_
      refine ev_goto (pc' := 43) dX2_commonAncestor_28 (by decide) ?_
      refine ev_iret rfl dX2_commonAncestor_43 ?_
      refine ⟨?_, rfl⟩
      unfold aLca; rw [(lkI_m7 T).mp h23]
      cases lk S x <;> rfl
theorem c_mdistance (T : Tree S) (hR : RM S mnd mgv mcu mck mcl msh mhh mnu mpa mfa mti mpo mle mde msr mtl mtx mcp mmk mns) (x y : Int32) : Ret g mdX2_distance [.ref mo, .int x, .int y] (wM g mo mr mnd mgv mcu mck mcl msh mhh mnu mpa mfa mti mpo mle mde msr mtl mtx mcp mmk mns) (fun r w => r = some (.int (aDis S x y)) ∧ w = (wM g mo mr mnd mgv mcu mck mcl msh mhh mnu mpa mfa mti mpo mle mde msr mtl mtx mcp mmk mns)) := by
  refine Ret.of [_, _, _, _, _] 2 (by decide) (Nat.le_of_ble_eq_true rfl) rfl ?_
  refine ev_aload_n (pc' := 1) dX2_distance_0 rfl rfl ?_
  refine ev_iload_n (pc' := 2) dX2_distance_1 rfl rfl ?_
  refine ev_callV (As := [_]) coX2_at 0 rfl rfl (c_at T hR x) rfl (by decide) (by first | exact Nat.le_of_ble_eq_true rfl | simp [Value.category, rf_cat]) dX2_distance_2 rfl (pc' := 5) rfl (fun v w hq => ?_)
  obtain ⟨rfl, rfl⟩ := hq
  dsimp only [Option.toList, List.cons_append, List.nil_append]
  refine ev_istore_n (pc' := 6) (lv' := [_, _, _, _, _]) dX2_distance_5 rfl (by decide) (by intro w hw; first | exact Or.inl rfl | (right; have hw := Option.some.inj (Option.some.inj hw); subst hw; first | rfl | exact rf_cat _) | cases hw) rfl ?_
  refine ev_aload_n (pc' := 7) dX2_distance_6 rfl rfl ?_
  refine ev_iload_n (pc' := 8) dX2_distance_7 rfl rfl ?_
  refine ev_callV (As := [_]) coX2_at 0 rfl rfl (c_at T hR y) rfl (by decide) (by first | exact Nat.le_of_ble_eq_true rfl | simp [Value.category, rf_cat]) dX2_distance_8 rfl (pc' := 11) rfl (fun v w hq => ?_)
  obtain ⟨rfl, rfl⟩ := hq
  dsimp only [Option.toList, List.cons_append, List.nil_append]
  refine ev_istore (pc' := 13) (lv' := [_, _, _, _, _]) dX2_distance_11 rfl (by decide) (by intro w hw; first | exact Or.inl rfl | (right; have hw := Option.some.inj (Option.some.inj hw); subst hw; first | rfl | exact rf_cat _) | cases hw) rfl ?_
  refine ev_iload_n (pc' := 14) dX2_distance_13 rfl rfl ?_
  refine ev_bipush (pc' := 16) (v := (-7)) dX2_distance_14 rfl (by decide) ?_
  refine ev_icmp_eq (tgt := 26) (pc' := 19) dX2_distance_16 (by decide) rfl (fun h16 => ?_) (fun h16 => ?_)
  · refine ev_bipush (pc' := 28) (v := (-2)) dX2_distance_26 rfl (by decide) ?_
    refine ev_goto (pc' := 38) dX2_distance_28 (by decide) ?_
    refine ev_iret rfl dX2_distance_38 ?_
    exact ⟨by unfold aDis; rw [(lkI_m7 T).mp h16], rfl⟩
  · refine ev_iload (pc' := 21) dX2_distance_19 rfl rfl ?_
    refine ev_bipush (pc' := 23) (v := (-7)) dX2_distance_21 rfl (by decide) ?_
    refine ev_icmp_ne (tgt := 31) (pc' := 26) dX2_distance_23 (by decide) rfl (fun h23 => ?_) (fun h23 => ?_)
    · cases hl : lk S x with
      | none => exact absurd (lkI_none hl) h16
      | some a =>
        cases hm : lk S y with
        | none => exact absurd (lkI_none hm) h23
        | some b =>
          have ha := (lk_some hl).1
          have hb := (lk_some hm).1
          rw [lkI_some hl, lkI_some hm]
          refine ev_aload_n (pc' := 32) dX2_distance_31 rfl rfl ?_
          refine ev_iload_n (pc' := 33) dX2_distance_32 rfl rfl ?_
          refine ev_iload (pc' := 35) dX2_distance_33 rfl rfl ?_
          refine ev_callV (As := [_, _]) coX2_far 0 rfl rfl (c_far T hR ha hb) rfl (by decide) (by first | exact Nat.le_of_ble_eq_true rfl | simp [Value.category, rf_cat]) dX2_distance_35 rfl (pc' := 38) rfl (fun v w hq => ?_)
          obtain ⟨rfl, rfl⟩ := hq
          dsimp only [Option.toList, List.cons_append, List.nil_append]
          refine ev_iret rfl dX2_distance_38 ?_
          exact ⟨by unfold aDis; rw [hl, hm], rfl⟩
    · refine ev_bipush (pc' := 28) (v := (-2)) dX2_distance_26 rfl (by decide) ?_
      refine ev_goto (pc' := 38) dX2_distance_28 (by decide) ?_
      refine ev_iret rfl dX2_distance_38 ?_
      refine ⟨?_, rfl⟩
      unfold aDis; rw [(lkI_m7 T).mp h23]
      cases lk S x <;> rfl
theorem c_mcharacterOf (T : Tree S) (hR : RM S mnd mgv mcu mck mcl msh mhh mnu mpa mfa mti mpo mle mde msr mtl mtx mcp mmk mns) (ht : ∀ a ∈ sL S, stl S a ≤ 40) (x i : Int32) : Ret g mdX2_characterOf [.ref mo, .int x, .int i] (wM g mo mr mnd mgv mcu mck mcl msh mhh mnu mpa mfa mti mpo mle mde msr mtl mtx mcp mmk mns) (fun r w => r = some (.int (aChr S x i)) ∧ w = (wM g mo mr mnd mgv mcu mck mcl msh mhh mnu mpa mfa mti mpo mle mde msr mtl mtx mcp mmk mns)) := by
  refine Ret.of [_, _, _, _] 1 (by decide) (Nat.le_of_ble_eq_true rfl) rfl ?_
  refine ev_aload_n (pc' := 1) dX2_characterOf_0 rfl rfl ?_
  refine ev_iload_n (pc' := 2) dX2_characterOf_1 rfl rfl ?_
  refine ev_callV (As := [_]) coX2_at 0 rfl rfl (c_at T hR x) rfl (by decide) (by first | exact Nat.le_of_ble_eq_true rfl | simp [Value.category, rf_cat]) dX2_characterOf_2 rfl (pc' := 5) rfl (fun v w hq => ?_)
  obtain ⟨rfl, rfl⟩ := hq
  dsimp only [Option.toList, List.cons_append, List.nil_append]
  refine ev_istore_n (pc' := 6) (lv' := [_, _, _, _]) dX2_characterOf_5 rfl (by decide) (by intro w hw; first | exact Or.inl rfl | (right; have hw := Option.some.inj (Option.some.inj hw); subst hw; first | rfl | exact rf_cat _) | cases hw) rfl ?_
  refine ev_iload_n (pc' := 7) dX2_characterOf_6 rfl rfl ?_
  refine ev_bipush (pc' := 9) (v := (-7)) dX2_characterOf_7 rfl (by decide) ?_
  refine ev_icmp_ne (tgt := 15) (pc' := 12) dX2_characterOf_9 (by decide) rfl (fun h9 => ?_) (fun h9 => ?_)
  · cases hl : lk S x with
    | none => exact absurd (lkI_none hl) h9
    | some a =>
      have ha := (lk_some hl).1
      have hk := ix_lt T ha
      have h40 := ht a ha
      have hr := RM.row hR ha
      rw [lkI_some hl]
      have key : (nI 0 ≤ i ∧ i ≤ nI (stl S a) - nI 1) ↔ (0 ≤ i ∧ i < nI (stl S a)) := by
        have e1 : (nI (stl S a) - nI 1).toInt = (stl S a : Int) - 1 := pk_sub_toInt (by omega) (by omega)
        have e2 : (nI (stl S a)).toInt = (stl S a : Int) := nI_toInt (by omega)
        rw [Int32.le_iff_toInt_le (x := i), Int32.lt_iff_toInt_lt, e1, e2]
        constructor
        · rintro ⟨p, q⟩; exact ⟨p, by omega⟩
        · rintro ⟨p, q⟩; exact ⟨p, by omega⟩
      refine ev_iload_n (pc' := 16) dX2_characterOf_15 rfl rfl ?_
      refine ev_iconst (pc' := 17) (v := nI 0) dX2_characterOf_16 rfl (by decide) ?_
      refine ev_aload_n (pc' := 18) dX2_characterOf_17 rfl rfl ?_
      refine ev_get inX2 0 10 rfl rfl (by decide) flX2_textLength rfl (pc' := 21) dX2_characterOf_18 rfl ?_
      refine ev_iload_n (pc' := 22) dX2_characterOf_21 rfl rfl ?_
      refine ev_ialdN 9 rfl (by omega) (by decide) hr.2.2.2.2.2.2.2.1 (pc' := 23) dX2_characterOf_22 rfl ?_
      refine ev_iconst (pc' := 24) (v := nI 1) dX2_characterOf_23 rfl (by decide) ?_
      refine ev_isub (pc' := 25) dX2_characterOf_24 rfl ?_
      refine ev_callS (As := [_, _, _]) coX2_within (c_within _ _ _ _) rfl (by decide) (by first | exact Nat.le_of_ble_eq_true rfl | simp [Value.category, rf_cat]) dX2_characterOf_25 rfl (pc' := 28) rfl (fun v w hq => ?_)
      obtain ⟨rfl, rfl⟩ := hq
      dsimp only [Option.toList, List.cons_append, List.nil_append]
      refine ev_if_eq (tgt := 45) (pc' := 31) dX2_characterOf_28 (by decide) rfl (fun h28 => ?_) (fun h28 => ?_)
      · rw [bI_eq, decide_eq_false_iff_not, key] at h28
        refine ev_iconst (pc' := 46) (v := (-1)) dX2_characterOf_45 rfl (by decide) ?_
        refine ev_iret rfl dX2_characterOf_46 ?_
        refine ⟨?_, rfl⟩
        unfold aChr; rw [hl]
        show _ = some (Value.int (if 0 ≤ i ∧ i < nI (stl S a) then stx S a i.toNatClampNeg else (-1)))
        rw [if_neg h28]
      · rw [bI_ne, decide_eq_true_eq, key] at h28
        obtain ⟨j, hj, rfl⟩ : ∃ j : Nat, j < stl S a ∧ i = nI j := by
          obtain ⟨j, hj, e⟩ := nI_of (x := i) (Int32.not_lt.mpr h28.1)
          subst e
          exact ⟨j, (nI_ltI hj (by omega)).mp h28.2, rfl⟩
        refine ev_aload_n (pc' := 32) dX2_characterOf_31 rfl rfl ?_
        refine ev_get inX2 0 11 rfl rfl (by decide) flX2_text rfl (pc' := 35) dX2_characterOf_32 rfl ?_
        refine ev_bipush (pc' := 37) (v := nI 40) dX2_characterOf_35 rfl (by decide) ?_
        refine ev_iload_n (pc' := 38) dX2_characterOf_37 rfl rfl ?_
        refine ev_imul (pc' := 39) dX2_characterOf_38 rfl ?_
        refine ev_iload_n (pc' := 40) dX2_characterOf_39 rfl rfl ?_
        refine ev_iadd (pc' := 41) dX2_characterOf_40 rfl ?_
        rw [pk_mul, nI_add]
        refine ev_ialdN 10 rfl (by omega) (by decide) (hr.2.2.2.2.2.2.2.2.2 j hj) (pc' := 42) dX2_characterOf_41 rfl ?_
        refine ev_goto (pc' := 46) dX2_characterOf_42 (by decide) ?_
        refine ev_iret rfl dX2_characterOf_46 ?_
        refine ⟨?_, rfl⟩
        unfold aChr; rw [hl]
        show _ = some (Value.int (if 0 ≤ nI j ∧ nI j < nI (stl S a) then stx S a (nI j).toNatClampNeg else (-1)))
        rw [if_pos h28, nI_clamp (by omega)]
  · refine ev_bipush (pc' := 14) (v := (-2)) dX2_characterOf_12 rfl (by decide) ?_
    refine ev_iret rfl dX2_characterOf_14 ?_
    exact ⟨by unfold aChr; rw [(lkI_m7 T).mp h9], rfl⟩
end M3
