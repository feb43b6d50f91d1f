/-! ===== the reference's methods: places, the parents' chain ===== -/
section M1
variable {g : EG} {mo : Nat} {mr : Nat → Nat} {mnd mgv mcu mck mcl msh : Int32} {mhh : Int64} {mnu mpa mfa mti mpo mle mde msr mtl mtx mcp mmk mns : Nat → Int32}
variable {S : SS}
theorem RM.row (hR : RM S mnd mgv mcu mck mcl msh mhh mnu mpa mfa mti mpo mle mde msr mtl mtx mcp mmk mns) {a : Nat} (h : a ∈ sL S) : rowM S (ix S a) a mnu mpa mfa mti mpo mle mde msr mtl mtx := hR.2.2.2.2.2.1 a h
theorem c_within (ws : va_W) (v lo hi : Int32) : Ret g mdX2_within [.int v, .int lo, .int hi] ws (fun r w => r = some (.int (bI (decide (lo ≤ v ∧ v ≤ hi)))) ∧ w = ws) := by
  refine Ret.of [_, _, _] 0 (by decide) (Nat.le_of_ble_eq_true rfl) rfl ?_
  refine ev_iload_n (pc' := 1) dX2_within_0 rfl rfl ?_
  refine ev_iload_n (pc' := 2) dX2_within_1 rfl rfl ?_
  refine ev_icmp_lt (tgt := 14) (pc' := 5) dX2_within_2 (by decide) rfl (fun h2 => ?_) (fun h2 => ?_)
  · refine ev_iconst (pc' := 15) (v := nI 0) dX2_within_14 rfl (by decide) ?_
    refine ev_zret rfl (by decide) dX2_within_15 ?_
    refine ⟨?_, rfl⟩
    rw [decide_eq_false (fun q => Int32.not_lt.mpr q.1 h2)]; rfl
  · refine ev_iload_n (pc' := 6) dX2_within_5 rfl rfl ?_
    refine ev_iload_n (pc' := 7) dX2_within_6 rfl rfl ?_
    refine ev_icmp_gt (tgt := 14) (pc' := 10) dX2_within_7 (by decide) rfl (fun h7 => ?_) (fun h7 => ?_)
    · refine ev_iconst (pc' := 15) (v := nI 0) dX2_within_14 rfl (by decide) ?_
      refine ev_zret rfl (by decide) dX2_within_15 ?_
      refine ⟨?_, rfl⟩
      rw [decide_eq_false (fun q => Int32.not_lt.mpr q.2 h7)]; rfl
    · refine ev_iconst (pc' := 11) (v := nI 1) dX2_within_10 rfl (by decide) ?_
      refine ev_goto (pc' := 15) dX2_within_11 (by decide) ?_
      refine ev_zret rfl (by decide) dX2_within_15 ?_
      refine ⟨?_, rfl⟩
      rw [decide_eq_true ⟨Int32.not_lt.mp h2, Int32.not_lt.mp h7⟩]; rfl
/-- at: the place of a number -/
theorem at_loop (T : Tree S) (hR : RM S mnd mgv mcu mck mcl msh mhh mnu mpa mfa mti mpo mle mde msr mtl mtx mcp mmk mns) {x : Int32} : ∀ (m k : Nat) (f : Int32), k + m = (sL S).length → (∀ a, lk S x = some a → f = if ix S a < k then nI (ix S a) else (-7)) → (lk S x = none → f = (-7)) → Ev g mdX2_at 5 [some (.ref mo), some (.int x), some (.int f), some (.int (nI k))] [] (wM g mo mr mnd mgv mcu mck mcl msh mhh mnu mpa mfa mti mpo mle mde msr mtl mtx mcp mmk mns) (fun r w => r = some (.int (lkI S x)) ∧ w = (wM g mo mr mnd mgv mcu mck mcl msh mhh mnu mpa mfa mti mpo mle mde msr mtl mtx mcp mmk mns)) := by
  have hlen := T.len
  intro m
  induction m with
  | zero =>
    intro k f hk h1 h2
    refine ev_iload_n (pc' := 6) dX2_at_5 rfl rfl ?_
    refine ev_aload_n (pc' := 7) dX2_at_6 rfl rfl ?_
    refine ev_get inX2 0 0 rfl rfl (by decide) flX2_nodes rfl (pc' := 10) dX2_at_7 rfl ?_
    refine ev_icmp_ge (tgt := 35) (pc' := 13) dX2_at_10 (by decide) rfl (fun h10 => ?_) (fun h10 => ?_)
    · refine ev_iload_n (pc' := 36) dX2_at_35 rfl rfl ?_
      refine ev_iret rfl dX2_at_36 ?_
      refine ⟨?_, rfl⟩
      cases hl : lk S x with
      | none => rw [lkI_none hl, h2 hl]
      | some a => rw [lkI_some hl, h1 a hl, if_pos (by have := ix_len (lk_some hl).1; omega)]
    · rw [hR.1] at h10
      exact absurd (nI_le (by omega) (by omega)) h10
  | succ m ih =>
    intro k f hk h1 h2
    refine ev_iload_n (pc' := 6) dX2_at_5 rfl rfl ?_
    refine ev_aload_n (pc' := 7) dX2_at_6 rfl rfl ?_
    refine ev_get inX2 0 0 rfl rfl (by decide) flX2_nodes rfl (pc' := 10) dX2_at_7 rfl ?_
    refine ev_icmp_ge (tgt := 35) (pc' := 13) dX2_at_10 (by decide) rfl (fun h10 => ?_) (fun h10 => ?_)
    · rw [hR.1] at h10
      exact absurd h10 (nI_ge (by omega) (by omega))
    · obtain ⟨b, hb, rfl⟩ := ix_at T (show k < (sL S).length by omega)
      have hrow := (RM.row hR hb).1
      refine ev_aload_n (pc' := 14) dX2_at_13 rfl rfl ?_
      refine ev_get inX2 0 2 rfl rfl (by decide) flX2_number rfl (pc' := 17) dX2_at_14 rfl ?_
      refine ev_iload_n (pc' := 18) dX2_at_17 rfl rfl ?_
      refine ev_ialdN 1 rfl (by omega) (by decide) hrow (pc' := 19) dX2_at_18 rfl ?_
      refine ev_iload_n (pc' := 20) dX2_at_19 rfl rfl ?_
      refine ev_icmp_ne (tgt := 27) (pc' := 23) dX2_at_20 (by decide) rfl (fun h20 => ?_) (fun h20 => ?_)
      · refine ev_iload_n (pc' := 28) dX2_at_27 rfl rfl ?_
        refine ev_istore_n (pc' := 29) (lv' := [_, _, _, _]) dX2_at_28 rfl (by decide) (by intro w hw; first | exact Or.inl rfl | (right; have hw := Option.some.inj (Option.some.inj hw); subst hw; first | rfl | exact rf_cat _) | cases hw) rfl ?_
        refine ev_iinc (pc' := 32) (lv' := [_, _, _, _]) dX2_at_29 rfl rfl (nI_1 _) (by decide) (by intro w hw; first | exact Or.inl rfl | (right; have hw := Option.some.inj (Option.some.inj hw); subst hw; first | rfl | exact rf_cat _) | cases hw) rfl ?_
        refine ev_goto (pc' := 5) dX2_at_32 (by decide) ?_
        refine ih (ix S b + 1) _ (by omega) (fun a ha => ?_) h2
        rw [h1 a ha]
        have hjk : ix S a ≠ ix S b := fun e => by
          rw [ix_inj T (lk_some ha).1 hb e] at ha
          exact h20 (lk_some ha).2
        by_cases hj2 : ix S a < ix S b
        · rw [if_pos hj2, if_pos (by omega)]
        · rw [if_neg hj2, if_neg (by omega)]
      · refine ev_iload_n (pc' := 24) dX2_at_23 rfl rfl ?_
        refine ev_goto (pc' := 28) dX2_at_24 (by decide) ?_
        refine ev_istore_n (pc' := 29) (lv' := [_, _, _, _]) dX2_at_28 rfl (by decide) (by intro w hw; first | exact Or.inl rfl | (right; have hw := Option.some.inj (Option.some.inj hw); subst hw; first | rfl | exact rf_cat _) | cases hw) rfl ?_
        refine ev_iinc (pc' := 32) (lv' := [_, _, _, _]) dX2_at_29 rfl rfl (nI_1 _) (by decide) (by intro w hw; first | exact Or.inl rfl | (right; have hw := Option.some.inj (Option.some.inj hw); subst hw; first | rfl | exact rf_cat _) | cases hw) rfl ?_
        refine ev_goto (pc' := 5) dX2_at_32 (by decide) ?_
        have hx : lk S x = some b := by rw [← h20]; exact lk_of T hb
        refine ih (ix S b + 1) _ (by omega) (fun a ha => ?_) (fun hn => by rw [hx] at hn; cases hn)
        rw [hx] at ha
        cases ha
        rw [if_pos (Nat.lt_succ_self _)]
theorem c_at (T : Tree S) (hR : RM S mnd mgv mcu mck mcl msh mhh mnu mpa mfa mti mpo mle mde msr mtl mtx mcp mmk mns) (x : Int32) : Ret g mdX2_at [.ref mo, .int x] (wM g mo mr mnd mgv mcu mck mcl msh mhh mnu mpa mfa mti mpo mle mde msr mtl mtx mcp mmk mns) (fun r w => r = some (.int (lkI S x)) ∧ w = (wM g mo mr mnd mgv mcu mck mcl msh mhh mnu mpa mfa mti mpo mle mde msr mtl mtx mcp mmk mns)) := by
  refine Ret.of [_, _, _, _] 2 (by decide) (Nat.le_of_ble_eq_true rfl) rfl ?_
  refine ev_bipush (pc' := 2) (v := (-7)) dX2_at_0 rfl (by decide) ?_
  refine ev_istore_n (pc' := 3) (lv' := [_, _, _, _]) dX2_at_2 rfl (by decide) (by intro w hw; first | exact Or.inl rfl | (right; have hw := Option.some.inj (Option.some.inj hw); subst hw; first | rfl | exact rf_cat _) | cases hw) rfl ?_
  refine ev_iconst (pc' := 4) (v := nI 0) dX2_at_3 rfl (by decide) ?_
  refine ev_istore_n (pc' := 5) (lv' := [_, _, _, _]) dX2_at_4 rfl (by decide) (by intro w hw; first | exact Or.inl rfl | (right; have hw := Option.some.inj (Option.some.inj hw); subst hw; first | rfl | exact rf_cat _) | cases hw) rfl ?_
  exact at_loop T hR (sL S).length 0 _ (by omega) (fun a _ => by rw [if_neg (Nat.not_lt_zero _)]) (fun _ => rfl)
theorem c_above (T : Tree S) (hR : RM S mnd mgv mcu mck mcl msh mhh mnu mpa mfa mti mpo mle mde msr mtl mtx mcp mmk mns) {a : Nat} (ha : a ∈ sL S) : Ret g mdX2_above [.ref mo, .int (nI (ix S a))] (wM g mo mr mnd mgv mcu mck mcl msh mhh mnu mpa mfa mti mpo mle mde msr mtl mtx mcp mmk mns) (fun r w => r = some (.int (upI S a)) ∧ w = (wM g mo mr mnd mgv mcu mck mcl msh mhh mnu mpa mfa mti mpo mle mde msr mtl mtx mcp mmk mns)) := by
  have hk := ix_lt T ha
  have hrow := (RM.row hR ha).2.1
  refine Ret.of [_, _] 0 (by decide) (Nat.le_of_ble_eq_true rfl) rfl ?_
  cases hb : spa S a with
  | none =>
    rw [hb] at hrow
    refine ev_aload_n (pc' := 1) dX2_above_0 rfl rfl ?_
    refine ev_get inX2 0 3 rfl rfl (by decide) flX2_parent rfl (pc' := 4) dX2_above_1 rfl ?_
    refine ev_iload_n (pc' := 5) dX2_above_4 rfl rfl ?_
    refine ev_ialdN 2 rfl (by omega) (by decide) hrow (pc' := 6) dX2_above_5 rfl ?_
    refine ev_bipush (pc' := 8) (v := (-7)) dX2_above_6 rfl (by decide) ?_
    refine ev_icmp_ne (tgt := 16) (pc' := 11) dX2_above_8 (by decide) rfl (fun h8 => ?_) (fun h8 => ?_)
    · exact absurd rfl h8
    · refine ev_bipush (pc' := 13) (v := (-7)) dX2_above_11 rfl (by decide) ?_
      refine ev_goto (pc' := 26) dX2_above_13 (by decide) ?_
      refine ev_iret rfl dX2_above_26 ?_
      exact ⟨by rw [upI_none hb], rfl⟩
  | some b =>
    rw [hb] at hrow
    obtain ⟨h1, h2⟩ := T.par ha hb
    have hlt := T.lt h1
    refine ev_aload_n (pc' := 1) dX2_above_0 rfl rfl ?_
    refine ev_get inX2 0 3 rfl rfl (by decide) flX2_parent rfl (pc' := 4) dX2_above_1 rfl ?_
    refine ev_iload_n (pc' := 5) dX2_above_4 rfl rfl ?_
    refine ev_ialdN 2 rfl (by omega) (by decide) hrow (pc' := 6) dX2_above_5 rfl ?_
    refine ev_bipush (pc' := 8) (v := (-7)) dX2_above_6 rfl (by decide) ?_
    refine ev_icmp_ne (tgt := 16) (pc' := 11) dX2_above_8 (by decide) rfl (fun h8 => ?_) (fun h8 => ?_)
    · refine ev_aload_n (pc' := 17) dX2_above_16 rfl rfl ?_
      refine ev_aload_n (pc' := 18) dX2_above_17 rfl rfl ?_
      refine ev_get inX2 0 3 rfl rfl (by decide) flX2_parent rfl (pc' := 21) dX2_above_18 rfl ?_
      refine ev_iload_n (pc' := 22) dX2_above_21 rfl rfl ?_
      refine ev_ialdN 2 rfl (by omega) (by decide) hrow (pc' := 23) dX2_above_22 rfl ?_
      refine ev_callV (As := [_]) coX2_at 0 rfl rfl (c_at T hR _) rfl (by decide) (by first | exact Nat.le_of_ble_eq_true rfl | simp [Value.category, rf_cat]) dX2_above_23 rfl (pc' := 26) rfl (fun v w hq => ?_)
      obtain ⟨rfl, rfl⟩ := hq
      dsimp only [Option.toList, List.cons_append, List.nil_append]
      refine ev_iret rfl dX2_above_26 ?_
      exact ⟨by rw [upI_some hb, show oI (some b) = nI b from rfl, lkI_some (lk_of T h1)], rfl⟩
    · exact absurd h8 (nI_m7 (by omega))
theorem depth_loop (T : Tree S) (hR : RM S mnd mgv mcu mck mcl msh mhh mnu mpa mfa mti mpo mle mde msr mtl mtx mcp mmk mns) (x : Int32) : ∀ (a : Nat), a ∈ sL S → ∀ m : Nat, Ev g mdX2_depth 4 [some (.ref mo), some (.int x), some (.int (nI m)), some (.int (nI (ix S a)))] [] (wM g mo mr mnd mgv mcu mck mcl msh mhh mnu mpa mfa mti mpo mle mde msr mtl mtx mcp mmk mns) (fun r w => r = some (.int (nI (m + dep S a))) ∧ w = (wM g mo mr mnd mgv mcu mck mcl msh mhh mnu mpa mfa mti mpo mle mde msr mtl mtx mcp mmk mns)) := by
  intro a
  induction a using Nat.strongRecOn with
  | ind a ih =>
    intro ha m
    have hk := ix_lt T ha
    cases hb : spa S a with
    | none =>
      refine ev_aload_n (pc' := 5) dX2_depth_4 rfl rfl ?_
      refine ev_iload_n (pc' := 6) dX2_depth_5 rfl rfl ?_
      refine ev_callV (As := [_]) coX2_above 0 rfl rfl (c_above T hR ha) rfl (by decide) (by first | exact Nat.le_of_ble_eq_true rfl | simp [Value.category, rf_cat]) dX2_depth_6 rfl (pc' := 9) rfl (fun v w hq => ?_)
      obtain ⟨rfl, rfl⟩ := hq
      dsimp only [Option.toList, List.cons_append, List.nil_append]
      refine ev_bipush (pc' := 11) (v := (-7)) dX2_depth_9 rfl (by decide) ?_
      refine ev_icmp_eq (tgt := 26) (pc' := 14) dX2_depth_11 (by decide) rfl (fun h11 => ?_) (fun h11 => ?_)
      · refine ev_iload_n (pc' := 27) dX2_depth_26 rfl rfl ?_
        refine ev_iret rfl dX2_depth_27 ?_
        exact ⟨by rw [dep_none hb]; rfl, rfl⟩
      · exact absurd (upI_none hb) h11
    | some b =>
      obtain ⟨h1, h2⟩ := T.par ha hb
      have hkb := ix_lt T h1
      refine ev_aload_n (pc' := 5) dX2_depth_4 rfl rfl ?_
      refine ev_iload_n (pc' := 6) dX2_depth_5 rfl rfl ?_
      refine ev_callV (As := [_]) coX2_above 0 rfl rfl (c_above T hR ha) rfl (by decide) (by first | exact Nat.le_of_ble_eq_true rfl | simp [Value.category, rf_cat]) dX2_depth_6 rfl (pc' := 9) rfl (fun v w hq => ?_)
      obtain ⟨rfl, rfl⟩ := hq
      dsimp only [Option.toList, List.cons_append, List.nil_append]
      refine ev_bipush (pc' := 11) (v := (-7)) dX2_depth_9 rfl (by decide) ?_
      refine ev_icmp_eq (tgt := 26) (pc' := 14) dX2_depth_11 (by decide) rfl (fun h11 => ?_) (fun h11 => ?_)
      · rw [upI_some hb] at h11
        exact absurd h11 (nI_m7 (by omega))
      · refine ev_iinc (pc' := 17) (lv' := [_, _, _, _]) dX2_depth_14 rfl rfl (nI_1 _) (by decide) (by intro w hw; first | exact Or.inl rfl | (right; have hw := Option.some.inj (Option.some.inj hw); subst hw; first | rfl | exact rf_cat _) | cases hw) rfl ?_
        refine ev_aload_n (pc' := 18) dX2_depth_17 rfl rfl ?_
        refine ev_iload_n (pc' := 19) dX2_depth_18 rfl rfl ?_
        refine ev_callV (As := [_]) coX2_above 0 rfl rfl (c_above T hR ha) rfl (by decide) (by first | exact Nat.le_of_ble_eq_true rfl | simp [Value.category, rf_cat]) dX2_depth_19 rfl (pc' := 22) rfl (fun v w hq => ?_)
        obtain ⟨rfl, rfl⟩ := hq
        dsimp only [Option.toList, List.cons_append, List.nil_append]
        rw [upI_some hb]
        refine ev_istore_n (pc' := 23) (lv' := [_, _, _, _]) dX2_depth_22 rfl (by decide) (by intro w hw; first | exact Or.inl rfl | (right; have hw := Option.some.inj (Option.some.inj hw); subst hw; first | rfl | exact rf_cat _) | cases hw) rfl ?_
        refine ev_goto (pc' := 4) dX2_depth_23 (by decide) ?_
        rw [dep_some T ha hb, show m + (dep S b + 1) = m + 1 + dep S b by omega]
        exact ih b h2 h1 (m + 1)
theorem c_depth (T : Tree S) (hR : RM S mnd mgv mcu mck mcl msh mhh mnu mpa mfa mti mpo mle mde msr mtl mtx mcp mmk mns) {a : Nat} (ha : a ∈ sL S) : Ret g mdX2_depth [.ref mo, .int (nI (ix S a))] (wM g mo mr mnd mgv mcu mck mcl msh mhh mnu mpa mfa mti mpo mle mde msr mtl mtx mcp mmk mns) (fun r w => r = some (.int (nI (dep S a))) ∧ w = (wM g mo mr mnd mgv mcu mck mcl msh mhh mnu mpa mfa mti mpo mle mde msr mtl mtx mcp mmk mns)) := by
  refine Ret.of [_, _, _, _] 2 (by decide) (Nat.le_of_ble_eq_true rfl) rfl ?_
  refine ev_iconst (pc' := 1) (v := nI 0) dX2_depth_0 rfl (by decide) ?_
  refine ev_istore_n (pc' := 2) (lv' := [_, _, _, _]) dX2_depth_1 rfl (by decide) (by intro w hw; first | exact Or.inl rfl | (right; have hw := Option.some.inj (Option.some.inj hw); subst hw; first | rfl | exact rf_cat _) | cases hw) rfl ?_
  refine ev_iload_n (pc' := 3) dX2_depth_2 rfl rfl ?_
  refine ev_istore_n (pc' := 4) (lv' := [_, _, _, _]) dX2_depth_3 rfl (by decide) (by intro w hw; first | exact Or.inl rfl | (right; have hw := Option.some.inj (Option.some.inj hw); subst hw; first | rfl | exact rf_cat _) | cases hw) rfl ?_
  have := depth_loop (g := g) (mo := mo) (mr := mr) T hR (nI (ix S a)) a ha 0
  rw [Nat.zero_add] at this
  exact this
end M1
section M2
variable {g : EG} {mo : Nat} {mr : Nat → Nat} {mnd mgv mcu mck mcl msh : Int32} {mhh : Int64} {mnu mpa mfa mti mpo mle mde msr mtl mtx mcp mmk mns : Nat → Int32}
variable {S : SS}
theorem onp_loop (T : Tree S) (hR : RM S mnd mgv mcu mck mcl msh mhh mnu mpa mfa mti mpo mle mde msr mtl mtx mcp mmk mns) {c : Nat} (hc : c ∈ sL S) (x : Int32) : ∀ (a : Nat), a ∈ sL S → Ev g mdX2_isOnPath 2 [some (.ref mo), some (.int (nI (ix S c))), some (.int x), some (.int (nI (ix S a)))] [] (wM g mo mr mnd mgv mcu mck mcl msh mhh mnu mpa mfa mti mpo mle mde msr mtl mtx mcp mmk mns) (fun r w => r = some (.int (bI (decide (c ∈ path S a)))) ∧ w = (wM g mo mr mnd mgv mcu mck mcl msh mhh mnu mpa mfa mti mpo mle mde msr mtl mtx mcp mmk mns)) := by
  intro a
  have hkc := ix_lt T hc
  induction a using Nat.strongRecOn with
  | ind a ih =>
    intro ha
    have hk := ix_lt T ha
    refine ev_iload_n (pc' := 3) dX2_isOnPath_2 rfl rfl ?_
    refine ev_bipush (pc' := 5) (v := (-7)) dX2_isOnPath_3 rfl (by decide) ?_
    refine ev_icmp_eq (tgt := 22) (pc' := 8) dX2_isOnPath_5 (by decide) rfl (fun h5 => ?_) (fun h5 => ?_)
    · exact absurd h5 (nI_m7 (by omega))
    · refine ev_iload_n (pc' := 9) dX2_isOnPath_8 rfl rfl ?_
      refine ev_iload_n (pc' := 10) dX2_isOnPath_9 rfl rfl ?_
      refine ev_icmp_eq (tgt := 22) (pc' := 13) dX2_isOnPath_10 (by decide) rfl (fun h10 => ?_) (fun h10 => ?_)
      · have e := ix_inj T ha hc (nI_inj (by omega) (by omega) h10)
        refine ev_iload_n (pc' := 23) dX2_isOnPath_22 rfl rfl ?_
        refine ev_iload_n (pc' := 24) dX2_isOnPath_23 rfl rfl ?_
        refine ev_icmp_ne (tgt := 31) (pc' := 27) dX2_isOnPath_24 (by decide) rfl (fun h24 => ?_) (fun h24 => ?_)
        · exact absurd h10 h24
        · refine ev_iconst (pc' := 28) (v := nI 1) dX2_isOnPath_27 rfl (by decide) ?_
          refine ev_goto (pc' := 32) dX2_isOnPath_28 (by decide) ?_
          refine ev_zret rfl (by decide) dX2_isOnPath_32 ?_
          refine ⟨?_, rfl⟩
          rw [decide_eq_true (by rw [e]; exact path_self S c)]; rfl
      · have e : c ≠ a := fun q => h10 (by rw [q])
        refine ev_aload_n (pc' := 14) dX2_isOnPath_13 rfl rfl ?_
        refine ev_iload_n (pc' := 15) dX2_isOnPath_14 rfl rfl ?_
        refine ev_callV (As := [_]) coX2_above 0 rfl rfl (c_above T hR ha) rfl (by decide) (by first | exact Nat.le_of_ble_eq_true rfl | simp [Value.category, rf_cat]) dX2_isOnPath_15 rfl (pc' := 18) rfl (fun v w hq => ?_)
        obtain ⟨rfl, rfl⟩ := hq
        dsimp only [Option.toList, List.cons_append, List.nil_append]
        cases hb : spa S a with
        | none =>
          rw [upI_none hb]
          refine ev_istore_n (pc' := 19) (lv' := [_, _, _, _]) dX2_isOnPath_18 rfl (by decide) (by intro w hw; first | exact Or.inl rfl | (right; have hw := Option.some.inj (Option.some.inj hw); subst hw; first | rfl | exact rf_cat _) | cases hw) rfl ?_
          refine ev_goto (pc' := 2) dX2_isOnPath_19 (by decide) ?_
          refine ev_iload_n (pc' := 3) dX2_isOnPath_2 rfl rfl ?_
          refine ev_bipush (pc' := 5) (v := (-7)) dX2_isOnPath_3 rfl (by decide) ?_
          refine ev_icmp_eq (tgt := 22) (pc' := 8) dX2_isOnPath_5 (by decide) rfl (fun h5 => ?_) (fun h5 => ?_)
          · refine ev_iload_n (pc' := 23) dX2_isOnPath_22 rfl rfl ?_
            refine ev_iload_n (pc' := 24) dX2_isOnPath_23 rfl rfl ?_
            refine ev_icmp_ne (tgt := 31) (pc' := 27) dX2_isOnPath_24 (by decide) rfl (fun h24 => ?_) (fun h24 => ?_)
            · refine ev_iconst (pc' := 32) (v := nI 0) dX2_isOnPath_31 rfl (by decide) ?_
              refine ev_zret rfl (by decide) dX2_isOnPath_32 ?_
              refine ⟨?_, rfl⟩
              rw [path_none hb, decide_eq_false (by simpa using e)]; rfl
            · exact absurd h24.symm (nI_m7 (by omega))
          · exact absurd rfl h5
        | some b =>
          obtain ⟨h1, h2⟩ := T.par ha hb
          rw [upI_some hb]
          refine ev_istore_n (pc' := 19) (lv' := [_, _, _, _]) dX2_isOnPath_18 rfl (by decide) (by intro w hw; first | exact Or.inl rfl | (right; have hw := Option.some.inj (Option.some.inj hw); subst hw; first | rfl | exact rf_cat _) | cases hw) rfl ?_
          refine ev_goto (pc' := 2) dX2_isOnPath_19 (by decide) ?_
          have h3 := ih b h2 h1
          have h4 : decide (c ∈ path S a) = decide (c ∈ path S b) := by
            rw [path_some T ha hb]
            simp [e]
          rw [h4]
          exact h3
theorem c_isOnPath (T : Tree S) (hR : RM S mnd mgv mcu mck mcl msh mhh mnu mpa mfa mti mpo mle mde msr mtl mtx mcp mmk mns) {c a : Nat} (hc : c ∈ sL S) (ha : a ∈ sL S) : Ret g mdX2_isOnPath [.ref mo, .int (nI (ix S c)), .int (nI (ix S a))] (wM g mo mr mnd mgv mcu mck mcl msh mhh mnu mpa mfa mti mpo mle mde msr mtl mtx mcp mmk mns) (fun r w => r = some (.int (bI (decide (c ∈ path S a)))) ∧ w = (wM g mo mr mnd mgv mcu mck mcl msh mhh mnu mpa mfa mti mpo mle mde msr mtl mtx mcp mmk mns)) := by
  refine Ret.of [_, _, _, _] 1 (by decide) (Nat.le_of_ble_eq_true rfl) rfl ?_
  refine ev_iload_n (pc' := 1) dX2_isOnPath_0 rfl rfl ?_
  refine ev_istore_n (pc' := 2) (lv' := [_, _, _, _]) dX2_isOnPath_1 rfl (by decide) (by intro w hw; first | exact Or.inl rfl | (right; have hw := Option.some.inj (Option.some.inj hw); subst hw; first | rfl | exact rf_cat _) | cases hw) rfl ?_
  exact onp_loop T hR hc _ a ha
theorem bI_t {p : Prop} [Decidable p] (h : p) : bI (decide p) = nI 1 := by rw [decide_eq_true h]; rfl
theorem bI_f {p : Prop} [Decidable p] (h : ¬ p) : bI (decide p) = nI 0 := by rw [decide_eq_false h]; rfl
theorem bI_ne {b : Bool} : ¬ bI b = 0 ↔ b = true := by cases b <;> decide
theorem bI_eq {b : Bool} : bI b = 0 ↔ b = false := by cases b <;> decide
theorem com_loop (T : Tree S) (hR : RM S mnd mgv mcu mck mcl msh mhh mnu mpa mfa mti mpo mle mde msr mtl mtx mcp mmk mns) {b : Nat} (hb : b ∈ sL S) (x : Int32) : ∀ (a : Nat), a ∈ sL S → Ev g mdX2_common 2 [some (.ref mo), some (.int x), some (.int (nI (ix S b))), some (.int (nI (ix S a)))] [] (wM g mo mr mnd mgv mcu mck mcl msh mhh mnu mpa mfa mti mpo mle mde msr mtl mtx mcp mmk mns) (fun r w => r = some (.int (nI (ix S (lca S a b)))) ∧ w = (wM g mo mr mnd mgv mcu mck mcl msh mhh mnu mpa mfa mti mpo mle mde msr mtl mtx mcp mmk mns)) := by
  intro a
  induction a using Nat.strongRecOn with
  | ind a ih =>
    intro ha
    refine ev_aload_n (pc' := 3) dX2_common_2 rfl rfl ?_
    refine ev_iload_n (pc' := 4) dX2_common_3 rfl rfl ?_
    refine ev_iload_n (pc' := 5) dX2_common_4 rfl rfl ?_
    refine ev_callV (As := [_, _]) coX2_isOnPath 0 rfl rfl (c_isOnPath T hR ha hb) rfl (by decide) (by first | exact Nat.le_of_ble_eq_true rfl | simp [Value.category, rf_cat]) dX2_common_5 rfl (pc' := 8) rfl (fun v w hq => ?_)
    obtain ⟨rfl, rfl⟩ := hq
    dsimp only [Option.toList, List.cons_append, List.nil_append]
    refine ev_if_ne (tgt := 20) (pc' := 11) dX2_common_8 (by decide) rfl (fun h8 => ?_) (fun h8 => ?_)
    · rw [bI_ne, decide_eq_true_eq] at h8
      refine ev_iload_n (pc' := 21) dX2_common_20 rfl rfl ?_
      refine ev_iret rfl dX2_common_21 ?_
      exact ⟨by rw [lca_in h8], rfl⟩
    · rw [bI_eq, decide_eq_false_iff_not] at h8
      cases hc : spa S a with
      | none => rw [T.none ha hc] at h8; exact absurd (path_root T b hb) h8
      | some c =>
        obtain ⟨h1, h2⟩ := T.par ha hc
        refine ev_aload_n (pc' := 12) dX2_common_11 rfl rfl ?_
        refine ev_iload_n (pc' := 13) dX2_common_12 rfl rfl ?_
        refine ev_callV (As := [_]) coX2_above 0 rfl rfl (c_above T hR ha) rfl (by decide) (by first | exact Nat.le_of_ble_eq_true rfl | simp [Value.category, rf_cat]) dX2_common_13 rfl (pc' := 16) rfl (fun v w hq => ?_)
        obtain ⟨rfl, rfl⟩ := hq
        dsimp only [Option.toList, List.cons_append, List.nil_append]
        rw [upI_some hc]
        refine ev_istore_n (pc' := 17) (lv' := [_, _, _, _]) dX2_common_16 rfl (by decide) (by intro w hw; first | exact Or.inl rfl | (right; have hw := Option.some.inj (Option.some.inj hw); subst hw; first | rfl | exact rf_cat _) | cases hw) rfl ?_
        refine ev_goto (pc' := 2) dX2_common_17 (by decide) ?_
        rw [lca_up T ha hc h8]
        exact ih c h2 h1
theorem c_common (T : Tree S) (hR : RM S mnd mgv mcu mck mcl msh mhh mnu mpa mfa mti mpo mle mde msr mtl mtx mcp mmk mns) {a b : Nat} (ha : a ∈ sL S) (hb : b ∈ sL S) : Ret g mdX2_common [.ref mo, .int (nI (ix S a)), .int (nI (ix S b))] (wM g mo mr mnd mgv mcu mck mcl msh mhh mnu mpa mfa mti mpo mle mde msr mtl mtx mcp mmk mns) (fun r w => r = some (.int (nI (ix S (lca S a b)))) ∧ w = (wM g mo mr mnd mgv mcu mck mcl msh mhh mnu mpa mfa mti mpo mle mde msr mtl mtx mcp mmk mns)) := by
  refine Ret.of [_, _, _, _] 1 (by decide) (Nat.le_of_ble_eq_true rfl) rfl ?_
  refine ev_iload_n (pc' := 1) dX2_common_0 rfl rfl ?_
  refine ev_istore_n (pc' := 2) (lv' := [_, _, _, _]) dX2_common_1 rfl (by decide) (by intro w hw; first | exact Or.inl rfl | (right; have hw := Option.some.inj (Option.some.inj hw); subst hw; first | rfl | exact rf_cat _) | cases hw) rfl ?_
  exact com_loop T hR hb _ a ha
theorem c_far (T : Tree S) (hR : RM S mnd mgv mcu mck mcl msh mhh mnu mpa mfa mti mpo mle mde msr mtl mtx mcp mmk mns) {a b : Nat} (ha : a ∈ sL S) (hb : b ∈ sL S) : Ret g mdX2_far [.ref mo, .int (nI (ix S a)), .int (nI (ix S b))] (wM g mo mr mnd mgv mcu mck mcl msh mhh mnu mpa mfa mti mpo mle mde msr mtl mtx mcp mmk mns) (fun r w => r = some (.int (farS S a b)) ∧ w = (wM g mo mr mnd mgv mcu mck mcl msh mhh mnu mpa mfa mti mpo mle mde msr mtl mtx mcp mmk mns)) := by
  refine Ret.of [_, _, _] 0 (by decide) (Nat.le_of_ble_eq_true rfl) rfl ?_
  refine ev_aload_n (pc' := 1) dX2_far_0 rfl rfl ?_
  refine ev_iload_n (pc' := 2) dX2_far_1 rfl rfl ?_
  refine ev_callV (As := [_]) coX2_depth 0 rfl rfl (c_depth T hR ha) rfl (by decide) (by first | exact Nat.le_of_ble_eq_true rfl | simp [Value.category, rf_cat]) dX2_far_2 rfl (pc' := 5) rfl (fun v w hq => ?_)
  obtain ⟨rfl, rfl⟩ := hq
  dsimp only [Option.toList, List.cons_append, List.nil_append]
  refine ev_aload_n (pc' := 6) dX2_far_5 rfl rfl ?_
  refine ev_iload_n (pc' := 7) dX2_far_6 rfl rfl ?_
  refine ev_callV (As := [_]) coX2_depth 0 rfl rfl (c_depth T hR hb) rfl (by decide) (by first | exact Nat.le_of_ble_eq_true rfl | simp [Value.category, rf_cat]) dX2_far_7 rfl (pc' := 10) rfl (fun v w hq => ?_)
  obtain ⟨rfl, rfl⟩ := hq
  dsimp only [Option.toList, List.cons_append, List.nil_append]
  refine ev_iadd (pc' := 11) dX2_far_10 rfl ?_
  refine ev_iconst (pc' := 12) (v := nI 2) dX2_far_11 rfl (by decide) ?_
  refine ev_aload_n (pc' := 13) dX2_far_12 rfl rfl ?_
  refine ev_aload_n (pc' := 14) dX2_far_13 rfl rfl ?_
  refine ev_iload_n (pc' := 15) dX2_far_14 rfl rfl ?_
  refine ev_iload_n (pc' := 16) dX2_far_15 rfl rfl ?_
  refine ev_callV (As := [_, _]) coX2_common 0 rfl rfl (c_common T hR ha hb) rfl (by decide) (by first | exact Nat.le_of_ble_eq_true rfl | simp [Value.category, rf_cat]) dX2_far_16 rfl (pc' := 19) rfl (fun v w hq => ?_)
  obtain ⟨rfl, rfl⟩ := hq
  dsimp only [Option.toList, List.cons_append, List.nil_append]
  refine ev_callV (As := [_]) coX2_depth 0 rfl rfl (c_depth T hR (lca_mem T hb a ha)) rfl (by decide) (by first | exact Nat.le_of_ble_eq_true rfl | simp [Value.category, rf_cat]) dX2_far_19 rfl (pc' := 22) rfl (fun v w hq => ?_)
  obtain ⟨rfl, rfl⟩ := hq
  dsimp only [Option.toList, List.cons_append, List.nil_append]
  refine ev_imul (pc' := 23) dX2_far_22 rfl ?_
  refine ev_isub (pc' := 24) dX2_far_23 rfl ?_
  refine ev_iret rfl dX2_far_24 ?_
  exact ⟨rfl, rfl⟩
end M2
