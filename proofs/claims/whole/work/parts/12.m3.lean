/-! ===== the reference's methods: becoming current, the clip, the marks ===== -/
def isM (g : EG) (mo : Nat) (mr : Nat → Nat) (S : SS) (w : va_W) : Prop := ∃ (mnd mgv mcu mck mcl msh : Int32) (mhh : Int64) (mnu mpa mfa mti mpo mle mde msr mtl mtx mcp mmk mns : Nat → Int32), w = (wM g mo mr mnd mgv mcu mck mcl msh mhh mnu mpa mfa mti mpo mle mde msr mtl mtx mcp mmk mns) ∧ RM S mnd mgv mcu mck mcl msh mhh mnu mpa mfa mti mpo mle mde msr mtl mtx mcp mmk mns
section M4
variable {g : EG} {mo : Nat} {mr : Nat → Nat} {mnd mgv mcu mck mcl msh : Int32} {mhh : Int64} {mnu mpa mfa mti mpo mle mde msr mtl mtx mcp mmk mns : Nat → Int32}
variable {S : SS}
theorem isM.of (hR : RM S mnd mgv mcu mck mcl msh mhh mnu mpa mfa mti mpo mle mde msr mtl mtx mcp mmk mns) : isM g mo mr S (wM g mo mr mnd mgv mcu mck mcl msh mhh mnu mpa mfa mti mpo mle mde msr mtl mtx mcp mmk mns) := ⟨mnd, mgv, mcu, mck, mcl, msh, mhh, mnu, mpa, mfa, mti, mpo, mle, mde, msr, mtl, mtx, mcp, mmk, mns, rfl, hR⟩
theorem c_mappend (hR : RM S mnd mgv mcu mck mcl msh mhh mnu mpa mfa mti mpo mle mde msr mtl mtx mcp mmk mns) (hc : scl S ≤ 6) (x : Int32) : Ret g mdX2_append [.ref mo, .int x] (wM g mo mr mnd mgv mcu mck mcl msh mhh mnu mpa mfa mti mpo mle mde msr mtl mtx mcp mmk mns) (fun r w => r = some (.int (oApp S x).1) ∧ isM g mo mr (oApp S x).2 w) := by
  refine Ret.of [_, _] 0 (by decide) (Nat.le_of_ble_eq_true rfl) rfl ?_
  have e4 := hR.2.2.2.2.1
  subst e4
  refine ev_iload_n (pc' := 1) dX2_append_0 rfl rfl ?_
  refine ev_bipush (pc' := 3) (v := nI 32) dX2_append_1 rfl (by decide) ?_
  refine ev_bipush (pc' := 5) (v := nI 126) dX2_append_3 rfl (by decide) ?_
  refine ev_callS (As := [_, _, _]) coX2_within (c_within _ _ _ _) rfl (by decide) (by first | exact Nat.le_of_ble_eq_true rfl | simp [Value.category, rf_cat]) dX2_append_5 rfl (pc' := 8) rfl (fun v w hq => ?_)
  obtain ⟨rfl, rfl⟩ := hq
  dsimp only [Option.toList, List.cons_append, List.nil_append]
  refine ev_if_ne (tgt := 13) (pc' := 11) dX2_append_8 (by decide) rfl (fun h8 => ?_) (fun h8 => ?_)
  · rw [bI_ne, decide_eq_true_eq] at h8
    have h8' : 32 ≤ x ∧ x ≤ 126 := h8
    refine ev_aload_n (pc' := 14) dX2_append_13 rfl rfl ?_
    refine ev_get inX2 0 14 rfl rfl (by decide) flX2_clipLength rfl (pc' := 17) dX2_append_14 rfl ?_
    refine ev_bipush (pc' := 19) (v := nI 6) dX2_append_17 rfl (by decide) ?_
    refine ev_icmp_ne (tgt := 25) (pc' := 22) dX2_append_19 (by decide) rfl (fun h19 => ?_) (fun h19 => ?_)
    · have hn : scl S ≠ 6 := fun e => h19 (by rw [e])
      refine ev_aload_n (pc' := 26) dX2_append_25 rfl rfl ?_
      refine ev_get inX2 0 15 rfl rfl (by decide) flX2_clip rfl (pc' := 29) dX2_append_26 rfl ?_
      refine ev_aload_n (pc' := 30) dX2_append_29 rfl rfl ?_
      refine ev_get inX2 0 14 rfl rfl (by decide) flX2_clipLength rfl (pc' := 33) dX2_append_30 rfl ?_
      refine ev_iload_n (pc' := 34) dX2_append_33 rfl rfl ?_
      refine ev_iastN 11 rfl (by omega) (by decide) (pc' := 35) dX2_append_34 rfl (ws' := wM _ _ _ _ _ _ _ _ _ _ _ _ _ _ _ _ _ _ _ _ _ _ _) rfl ?_
      refine ev_aload_n (pc' := 36) dX2_append_35 rfl rfl ?_
      refine ev_dup (pc' := 37) dX2_append_36 rfl (by first | rfl | exact rf_cat _) ?_
      refine ev_get inX2 0 14 rfl rfl (by decide) flX2_clipLength rfl (pc' := 40) dX2_append_37 rfl ?_
      refine ev_iconst (pc' := 41) (v := nI 1) dX2_append_40 rfl (by decide) ?_
      refine ev_iadd (pc' := 42) dX2_append_41 rfl ?_
      rw [nI_add]
      refine pX2_clipLength rfl (pc' := 45) dX2_append_42 rfl ?_
      refine ev_aload_n (pc' := 46) dX2_append_45 rfl rfl ?_
      refine ev_get inX2 0 14 rfl rfl (by decide) flX2_clipLength rfl (pc' := 49) dX2_append_46 rfl ?_
      refine ev_iret rfl dX2_append_49 ?_
      unfold oApp
      rw [if_pos h8', if_neg hn]
      refine ⟨rfl, isM.of ⟨hR.1, hR.2.1, hR.2.2.1, hR.2.2.2.1, rfl, hR.2.2.2.2.2.1, fun i hi => ?_, hR.2.2.2.2.2.2.2⟩⟩
      have hi : i < scl S + 1 := hi
      show upd mcp (scl S) x i = upd (scp S) (scl S) x i
      by_cases q : i = scl S
      · rw [q, pk_us, pk_us]
      · rw [pk_un q, pk_un q]; exact hR.2.2.2.2.2.2.1 i (by omega)
    · have hn : scl S = 6 := nI_inj (by omega) (by omega) h19
      refine ev_bipush (pc' := 24) (v := (-4)) dX2_append_22 rfl (by decide) ?_
      refine ev_iret rfl dX2_append_24 ?_
      unfold oApp
      rw [if_pos h8', if_pos hn]
      exact ⟨rfl, isM.of hR⟩
  · rw [bI_eq, decide_eq_false_iff_not] at h8
    have h8' : ¬ (32 ≤ x ∧ x ≤ 126) := h8
    refine ev_iconst (pc' := 12) (v := (-1)) dX2_append_11 rfl (by decide) ?_
    refine ev_iret rfl dX2_append_12 ?_
    unfold oApp
    rw [if_neg h8']
    exact ⟨rfl, isM.of hR⟩
theorem c_mclearClip (hR : RM S mnd mgv mcu mck mcl msh mhh mnu mpa mfa mti mpo mle mde msr mtl mtx mcp mmk mns) : Ret g mdX2_clearClip [.ref mo] (wM g mo mr mnd mgv mcu mck mcl msh mhh mnu mpa mfa mti mpo mle mde msr mtl mtx mcp mmk mns) (fun r w => r = some (.int (oClr S).1) ∧ isM g mo mr (oClr S).2 w) := by
  refine Ret.of [_, _] 1 (by decide) (Nat.le_of_ble_eq_true rfl) rfl ?_
  have e4 := hR.2.2.2.2.1
  subst e4
  refine ev_aload_n (pc' := 1) dX2_clearClip_0 rfl rfl ?_
  refine ev_get inX2 0 14 rfl rfl (by decide) flX2_clipLength rfl (pc' := 4) dX2_clearClip_1 rfl ?_
  refine ev_istore_n (pc' := 5) (lv' := [_, _]) dX2_clearClip_4 rfl (by decide) (by intro w hw; first | exact Or.inl rfl | (right; have hw := Option.some.inj (Option.some.inj hw); subst hw; first | rfl | exact rf_cat _) | cases hw) rfl ?_
  refine ev_aload_n (pc' := 6) dX2_clearClip_5 rfl rfl ?_
  refine ev_iconst (pc' := 7) (v := nI 0) dX2_clearClip_6 rfl (by decide) ?_
  refine pX2_clipLength rfl (pc' := 10) dX2_clearClip_7 rfl ?_
  refine ev_iload_n (pc' := 11) dX2_clearClip_10 rfl rfl ?_
  refine ev_iret rfl dX2_clearClip_11 ?_
  exact ⟨rfl, isM.of ⟨hR.1, hR.2.1, hR.2.2.1, hR.2.2.2.1, rfl, hR.2.2.2.2.2.1, fun i hi => absurd hi (Nat.not_lt_zero i), hR.2.2.2.2.2.2.2⟩⟩
theorem RM.setFav (T : Tree S) {f : Nat → Option Nat} (hR : RM (setFa S f) mnd mgv mcu mck mcl msh mhh mnu mpa mfa mti mpo mle mde msr mtl mtx mcp mmk mns) {b : Nat} (c : Nat) (hb : b ∈ sL S) : RM (setFa S (va_up f b (some c))) mnd mgv mcu mck mcl msh mhh mnu mpa (upd mfa (ix S b) (nI c)) mti mpo mle mde msr mtl mtx mcp mmk mns := by
  refine ⟨hR.1, hR.2.1, hR.2.2.1, hR.2.2.2.1, hR.2.2.2.2.1, fun x hx => ?_, hR.2.2.2.2.2.2.1, hR.2.2.2.2.2.2.2⟩
  have h := hR.2.2.2.2.2.1 x hx
  refine ⟨h.1, h.2.1, ?_, h.2.2.2⟩
  show upd mfa (ix S b) (nI c) (ix S x) = oI (va_up f b (some c) x)
  by_cases q : x = b
  · rw [q, pk_us, va_up_self]; rfl
  · rw [pk_un (fun e => q (ix_inj T hx hb e)), va_up_ne _ _ q]; exact h.2.2.1
end M4
section M5
variable {g : EG} {mo : Nat} {mr : Nat → Nat} {S : SS}
theorem become_loop (T : Tree S) {a : Nat} (ha : a ∈ sL S) : ∀ (c : Nat), c ∈ sL S → ∀ (f : Nat → Option Nat) (mnd mgv mcu mck mcl msh : Int32) (mhh : Int64) (mnu mpa mfa mti mpo mle mde msr mtl mtx mcp mmk mns : Nat → Int32), RM (setFa S f) mnd mgv mcu mck mcl msh mhh mnu mpa mfa mti mpo mle mde msr mtl mtx mcp mmk mns → Ev g mdX2_become 27 [some (.ref mo), some (.int (nI (ix S a))), some (.int (nI (ix S c)))] [] (wM g mo mr mnd mgv mcu mck mcl msh mhh mnu mpa mfa mti mpo mle mde msr mtl mtx mcp mmk mns) (fun r w => r = some (.int (nI a)) ∧ isM g mo mr (setFa S (favs (spa S) (path S c) f)) w) := by
  intro c
  have hka := ix_lt T ha
  induction c using Nat.strongRecOn with
  | ind c ih =>
    intro hc f mnd mgv mcu mck mcl msh mhh mnu mpa mfa mti mpo mle mde msr mtl mtx mcp mmk mns hR
    have hk := ix_lt T hc
    have T' : Tree (setFa S f) := T
    have ca : Ret g mdX2_above [.ref mo, .int (nI (ix S c))] (wM g mo mr mnd mgv mcu mck mcl msh mhh mnu mpa mfa mti mpo mle mde msr mtl mtx mcp mmk mns) (fun r w => r = some (.int (upI S c)) ∧ w = (wM g mo mr mnd mgv mcu mck mcl msh mhh mnu mpa mfa mti mpo mle mde msr mtl mtx mcp mmk mns)) := c_above T' hR hc
    cases hb : spa S c with
    | none =>
      refine ev_aload_n (pc' := 28) dX2_become_27 rfl rfl ?_
      refine ev_iload_n (pc' := 29) dX2_become_28 rfl rfl ?_
      refine ev_callV (As := [_]) coX2_above 0 rfl rfl (ca) rfl (by decide) (by first | exact Nat.le_of_ble_eq_true rfl | simp [Value.category, rf_cat]) dX2_become_29 rfl (pc' := 32) rfl (fun v w hq => ?_)
      obtain ⟨rfl, rfl⟩ := hq
      dsimp only [Option.toList, List.cons_append, List.nil_append]
      refine ev_bipush (pc' := 34) (v := (-7)) dX2_become_32 rfl (by decide) ?_
      refine ev_icmp_eq (tgt := 62) (pc' := 37) dX2_become_34 (by decide) rfl (fun h34 => ?_) (fun h34 => ?_)
      · refine ev_aload_n (pc' := 63) dX2_become_62 rfl rfl ?_
        refine ev_get inX2 0 2 rfl rfl (by decide) flX2_number rfl (pc' := 66) dX2_become_63 rfl ?_
        refine ev_iload_n (pc' := 67) dX2_become_66 rfl rfl ?_
        refine ev_ialdN 1 rfl (by omega) (by decide) (RM.row hR ha).1 (pc' := 68) dX2_become_67 rfl ?_
        refine ev_iret rfl dX2_become_68 ?_
        refine ⟨rfl, ?_⟩
        rw [path_none hb]
        show isM g mo mr (setFa S (match spa S c with | some b => va_up f b (some c) | none => f)) _
        rw [hb]
        exact isM.of hR
      · exact absurd (upI_none hb) h34
    | some b =>
      obtain ⟨h1, h2⟩ := T.par hc hb
      have hkb := ix_lt T h1
      refine ev_aload_n (pc' := 28) dX2_become_27 rfl rfl ?_
      refine ev_iload_n (pc' := 29) dX2_become_28 rfl rfl ?_
      refine ev_callV (As := [_]) coX2_above 0 rfl rfl (ca) rfl (by decide) (by first | exact Nat.le_of_ble_eq_true rfl | simp [Value.category, rf_cat]) dX2_become_29 rfl (pc' := 32) rfl (fun v w hq => ?_)
      obtain ⟨rfl, rfl⟩ := hq
      dsimp only [Option.toList, List.cons_append, List.nil_append]
      refine ev_bipush (pc' := 34) (v := (-7)) dX2_become_32 rfl (by decide) ?_
      refine ev_icmp_eq (tgt := 62) (pc' := 37) dX2_become_34 (by decide) rfl (fun h34 => ?_) (fun h34 => ?_)
      · rw [upI_some hb] at h34
        exact absurd h34 (nI_m7 (by omega))
      · refine ev_aload_n (pc' := 38) dX2_become_37 rfl rfl ?_
        refine ev_get inX2 0 4 rfl rfl (by decide) flX2_favourite rfl (pc' := 41) dX2_become_38 rfl ?_
        refine ev_aload_n (pc' := 42) dX2_become_41 rfl rfl ?_
        refine ev_iload_n (pc' := 43) dX2_become_42 rfl rfl ?_
        refine ev_callV (As := [_]) coX2_above 0 rfl rfl (ca) rfl (by decide) (by first | exact Nat.le_of_ble_eq_true rfl | simp [Value.category, rf_cat]) dX2_become_43 rfl (pc' := 46) rfl (fun v w hq => ?_)
        obtain ⟨rfl, rfl⟩ := hq
        dsimp only [Option.toList, List.cons_append, List.nil_append]
        rw [upI_some hb]
        refine ev_aload_n (pc' := 47) dX2_become_46 rfl rfl ?_
        refine ev_get inX2 0 2 rfl rfl (by decide) flX2_number rfl (pc' := 50) dX2_become_47 rfl ?_
        refine ev_iload_n (pc' := 51) dX2_become_50 rfl rfl ?_
        refine ev_ialdN 1 rfl (by omega) (by decide) (RM.row hR hc).1 (pc' := 52) dX2_become_51 rfl ?_
        refine ev_iastN 3 rfl (by omega) (by decide) (pc' := 53) dX2_become_52 rfl (ws' := wM _ _ _ _ _ _ _ _ _ _ _ _ _ _ _ _ _ _ _ _ _ _ _) rfl ?_
        have hR2 := RM.setFav T hR c h1
        have ca2 := c_above (g := g) (mo := mo) (mr := mr) (S := setFa S (va_up f b (some c))) T hR2 hc
        refine ev_aload_n (pc' := 54) dX2_become_53 rfl rfl ?_
        refine ev_iload_n (pc' := 55) dX2_become_54 rfl rfl ?_
        refine ev_callV (As := [_]) coX2_above 0 rfl rfl (ca2) rfl (by decide) (by first | exact Nat.le_of_ble_eq_true rfl | simp [Value.category, rf_cat]) dX2_become_55 rfl (pc' := 58) rfl (fun v w hq => ?_)
        obtain ⟨rfl, rfl⟩ := hq
        dsimp only [Option.toList, List.cons_append, List.nil_append]
        rw [show upI (setFa S (va_up f b (some c))) c = nI (ix S b) from upI_some hb]
        refine ev_istore_n (pc' := 59) (lv' := [_, _, _]) dX2_become_58 rfl (by decide) (by intro w hw; first | exact Or.inl rfl | (right; have hw := Option.some.inj (Option.some.inj hw); subst hw; first | rfl | exact rf_cat _) | cases hw) rfl ?_
        refine ev_goto (pc' := 27) dX2_become_59 (by decide) ?_
        have h3 := ih b h2 h1 (va_up f b (some c)) _ _ _ _ _ _ _ _ _ _ _ _ _ _ _ _ _ _ _ _ hR2
        rw [path_some T hc hb]
        show Ev g mdX2_become 27 _ [] _ (fun r w => r = some (.int (nI a)) ∧ isM g mo mr (setFa S (favs (spa S) (path S b) (match spa S c with | some b => va_up f b (some c) | none => f))) w)
        rw [hb]
        exact h3
theorem RM.bec0 (T : Tree S) {mnd mgv mcu mck mcl msh : Int32} {mhh : Int64} {mnu mpa mfa mti mpo mle mde msr mtl mtx mcp mmk mns : Nat → Int32} (hR : RM S mnd mgv mcu mck mcl msh mhh mnu mpa mfa mti mpo mle mde msr mtl mtx mcp mmk mns) {a : Nat} (ha : a ∈ sL S) : RM (setFa (bec0 S a) (sfa S)) mnd mgv (nI (ix S a)) (nI (sck S + 1)) mcl msh mhh mnu mpa mfa (upd mti (ix S a) (nI (sck S + 1))) mpo mle mde msr mtl mtx mcp mmk mns := by
  refine ⟨hR.1, hR.2.1, rfl, rfl, hR.2.2.2.2.1, fun x hx => ?_, hR.2.2.2.2.2.2.1, hR.2.2.2.2.2.2.2⟩
  have h := hR.2.2.2.2.2.1 x hx
  refine ⟨h.1, h.2.1, h.2.2.1, ?_, h.2.2.2.2⟩
  show upd mti (ix S a) (nI (sck S + 1)) (ix S x) = nI (va_up (sti S) a (sck S + 1) x)
  by_cases q : x = a
  · rw [q, pk_us, va_up_self]
  · rw [pk_un (fun e => q (ix_inj T hx ha e)), va_up_ne _ _ q]; exact h.2.2.2.1
theorem c_become (T : Tree S) {g : EG} {mo : Nat} {mr : Nat → Nat} {mnd mgv mcu mck mcl msh : Int32} {mhh : Int64} {mnu mpa mfa mti mpo mle mde msr mtl mtx mcp mmk mns : Nat → Int32} (hR : RM S mnd mgv mcu mck mcl msh mhh mnu mpa mfa mti mpo mle mde msr mtl mtx mcp mmk mns) {a : Nat} (ha : a ∈ sL S) : Ret g mdX2_become [.ref mo, .int (nI (ix S a))] (wM g mo mr mnd mgv mcu mck mcl msh mhh mnu mpa mfa mti mpo mle mde msr mtl mtx mcp mmk mns) (fun r w => r = some (.int (nI a)) ∧ isM g mo mr (bec S a) w) := by
  have hk := ix_lt T ha
  refine Ret.of [_, _, _] 1 (by decide) (Nat.le_of_ble_eq_true rfl) rfl ?_
  have e4 := hR.2.2.2.1
  subst e4
  refine ev_aload_n (pc' := 1) dX2_become_0 rfl rfl ?_
  refine ev_dup (pc' := 2) dX2_become_1 rfl (by first | rfl | exact rf_cat _) ?_
  refine ev_get inX2 0 13 rfl rfl (by decide) flX2_clock rfl (pc' := 5) dX2_become_2 rfl ?_
  refine ev_iconst (pc' := 6) (v := nI 1) dX2_become_5 rfl (by decide) ?_
  refine ev_iadd (pc' := 7) dX2_become_6 rfl ?_
  rw [nI_add]
  refine pX2_clock rfl (pc' := 10) dX2_become_7 rfl ?_
  refine ev_aload_n (pc' := 11) dX2_become_10 rfl rfl ?_
  refine ev_get inX2 0 5 rfl rfl (by decide) flX2_time rfl (pc' := 14) dX2_become_11 rfl ?_
  refine ev_iload_n (pc' := 15) dX2_become_14 rfl rfl ?_
  refine ev_aload_n (pc' := 16) dX2_become_15 rfl rfl ?_
  refine ev_get inX2 0 13 rfl rfl (by decide) flX2_clock rfl (pc' := 19) dX2_become_16 rfl ?_
  refine ev_iastN 4 rfl (by omega) (by decide) (pc' := 20) dX2_become_19 rfl (ws' := wM _ _ _ _ _ _ _ _ _ _ _ _ _ _ _ _ _ _ _ _ _ _ _) rfl ?_
  refine ev_aload_n (pc' := 21) dX2_become_20 rfl rfl ?_
  refine ev_iload_n (pc' := 22) dX2_become_21 rfl rfl ?_
  refine pX2_current rfl (pc' := 25) dX2_become_22 rfl ?_
  refine ev_iload_n (pc' := 26) dX2_become_25 rfl rfl ?_
  refine ev_istore_n (pc' := 27) (lv' := [_, _, _]) dX2_become_26 rfl (by decide) (by intro w hw; first | exact Or.inl rfl | (right; have hw := Option.some.inj (Option.some.inj hw); subst hw; first | rfl | exact rf_cat _) | cases hw) rfl ?_
  exact become_loop (S := bec0 S a) T ha a ha (sfa S) _ _ _ _ _ _ _ _ _ _ _ _ _ _ _ _ _ _ _ _ (RM.bec0 T hR ha)
end M5
section M6
variable {g : EG} {mo : Nat} {mr : Nat → Nat} {mnd mgv mcu mck mcl msh : Int32} {mhh : Int64} {mnu mpa mfa mti mpo mle mde msr mtl mtx mcp mmk mns : Nat → Int32}
variable {S : SS}
theorem c_mundo (T : Tree S) (hR : RM S mnd mgv mcu mck mcl msh mhh mnu mpa mfa mti mpo mle mde msr mtl mtx mcp mmk mns) (hc : scu S ∈ sL S) : Ret g mdX2_undo [.ref mo] (wM g mo mr mnd mgv mcu mck mcl msh mhh mnu mpa mfa mti mpo mle mde msr mtl mtx mcp mmk mns) (fun r w => r = some (.int (oUndo S).1) ∧ isM g mo mr (oUndo S).2 w) := by
  refine Ret.of [_, _] 1 (by decide) (Nat.le_of_ble_eq_true rfl) rfl ?_
  have e3 := hR.2.2.1
  subst e3
  refine ev_aload_n (pc' := 1) dX2_undo_0 rfl rfl ?_
  refine ev_aload_n (pc' := 2) dX2_undo_1 rfl rfl ?_
  refine ev_get inX2 0 12 rfl rfl (by decide) flX2_current rfl (pc' := 5) dX2_undo_2 rfl ?_
  refine ev_callV (As := [_]) coX2_above 0 rfl rfl (c_above T hR hc) rfl (by decide) (by first | exact Nat.le_of_ble_eq_true rfl | simp [Value.category, rf_cat]) dX2_undo_5 rfl (pc' := 8) rfl (fun v w hq => ?_)
  obtain ⟨rfl, rfl⟩ := hq
  dsimp only [Option.toList, List.cons_append, List.nil_append]
  refine ev_istore_n (pc' := 9) (lv' := [_, _]) dX2_undo_8 rfl (by decide) (by intro w hw; first | exact Or.inl rfl | (right; have hw := Option.some.inj (Option.some.inj hw); subst hw; first | rfl | exact rf_cat _) | cases hw) rfl ?_
  refine ev_iload_n (pc' := 10) dX2_undo_9 rfl rfl ?_
  refine ev_bipush (pc' := 12) (v := (-7)) dX2_undo_10 rfl (by decide) ?_
  refine ev_icmp_ne (tgt := 20) (pc' := 15) dX2_undo_12 (by decide) rfl (fun h12 => ?_) (fun h12 => ?_)
  · cases hb : spa S (scu S) with
    | none => exact absurd (upI_none hb) h12
    | some b =>
      obtain ⟨h1, h2⟩ := T.par hc hb
      rw [upI_some hb]
      refine ev_aload_n (pc' := 21) dX2_undo_20 rfl rfl ?_
      refine ev_iload_n (pc' := 22) dX2_undo_21 rfl rfl ?_
      refine ev_callV (As := [_]) coX2_become 0 rfl rfl (c_become T hR h1) rfl (by decide) (by first | exact Nat.le_of_ble_eq_true rfl | simp [Value.category, rf_cat]) dX2_undo_22 rfl (pc' := 25) rfl (fun v w hq => ?_)
      obtain ⟨rfl, hw⟩ := hq
      dsimp only [Option.toList, List.cons_append, List.nil_append]
      refine ev_iret rfl dX2_undo_25 ?_
      unfold oUndo
      rw [hb]
      exact ⟨rfl, hw⟩
  · have hb : spa S (scu S) = none := by
      cases hb : spa S (scu S) with
      | none => rfl
      | some b =>
        have hkb := ix_lt T (T.par hc hb).1
        rw [upI_some hb] at h12
        exact absurd h12 (nI_m7 (by omega))
    refine ev_bipush (pc' := 17) (v := (-7)) dX2_undo_15 rfl (by decide) ?_
    refine ev_goto (pc' := 25) dX2_undo_17 (by decide) ?_
    refine ev_iret rfl dX2_undo_25 ?_
    unfold oUndo
    rw [hb]
    exact ⟨rfl, isM.of hR⟩
theorem c_mredo (T : Tree S) (hR : RM S mnd mgv mcu mck mcl msh mhh mnu mpa mfa mti mpo mle mde msr mtl mtx mcp mmk mns) (hc : scu S ∈ sL S) (hf : ∀ a ∈ sL S, ∀ c, sfa S a = some c → c ∈ sL S) : Ret g mdX2_redo [.ref mo] (wM g mo mr mnd mgv mcu mck mcl msh mhh mnu mpa mfa mti mpo mle mde msr mtl mtx mcp mmk mns) (fun r w => r = some (.int (oRedo S).1) ∧ isM g mo mr (oRedo S).2 w) := by
  refine Ret.of [_] 0 (by decide) (Nat.le_of_ble_eq_true rfl) rfl ?_
  have e3 := hR.2.2.1
  subst e3
  have hk := ix_lt T hc
  have hrow := (RM.row hR hc).2.2.1
  cases hb : sfa S (scu S) with
  | none =>
    rw [hb] at hrow
    refine ev_aload_n (pc' := 1) dX2_redo_0 rfl rfl ?_
    refine ev_get inX2 0 4 rfl rfl (by decide) flX2_favourite rfl (pc' := 4) dX2_redo_1 rfl ?_
    refine ev_aload_n (pc' := 5) dX2_redo_4 rfl rfl ?_
    refine ev_get inX2 0 12 rfl rfl (by decide) flX2_current rfl (pc' := 8) dX2_redo_5 rfl ?_
    refine ev_ialdN 3 rfl (by omega) (by decide) hrow (pc' := 9) dX2_redo_8 rfl ?_
    refine ev_bipush (pc' := 11) (v := (-7)) dX2_redo_9 rfl (by decide) ?_
    refine ev_icmp_ne (tgt := 19) (pc' := 14) dX2_redo_11 (by decide) rfl (fun h11 => ?_) (fun h11 => ?_)
    · exact absurd rfl h11
    · refine ev_bipush (pc' := 16) (v := (-7)) dX2_redo_14 rfl (by decide) ?_
      refine ev_goto (pc' := 36) dX2_redo_16 (by decide) ?_
      refine ev_iret rfl dX2_redo_36 ?_
      unfold oRedo
      rw [hb]
      exact ⟨rfl, isM.of hR⟩
  | some b =>
    have h1 := hf _ hc b hb
    have hlt := T.lt h1
    rw [hb] at hrow
    refine ev_aload_n (pc' := 1) dX2_redo_0 rfl rfl ?_
    refine ev_get inX2 0 4 rfl rfl (by decide) flX2_favourite rfl (pc' := 4) dX2_redo_1 rfl ?_
    refine ev_aload_n (pc' := 5) dX2_redo_4 rfl rfl ?_
    refine ev_get inX2 0 12 rfl rfl (by decide) flX2_current rfl (pc' := 8) dX2_redo_5 rfl ?_
    refine ev_ialdN 3 rfl (by omega) (by decide) hrow (pc' := 9) dX2_redo_8 rfl ?_
    refine ev_bipush (pc' := 11) (v := (-7)) dX2_redo_9 rfl (by decide) ?_
    refine ev_icmp_ne (tgt := 19) (pc' := 14) dX2_redo_11 (by decide) rfl (fun h11 => ?_) (fun h11 => ?_)
    · refine ev_aload_n (pc' := 20) dX2_redo_19 rfl rfl ?_
      refine ev_aload_n (pc' := 21) dX2_redo_20 rfl rfl ?_
      refine ev_aload_n (pc' := 22) dX2_redo_21 rfl rfl ?_
      refine ev_get inX2 0 4 rfl rfl (by decide) flX2_favourite rfl (pc' := 25) dX2_redo_22 rfl ?_
      refine ev_aload_n (pc' := 26) dX2_redo_25 rfl rfl ?_
      refine ev_get inX2 0 12 rfl rfl (by decide) flX2_current rfl (pc' := 29) dX2_redo_26 rfl ?_
      refine ev_ialdN 3 rfl (by omega) (by decide) hrow (pc' := 30) dX2_redo_29 rfl ?_
      refine ev_callV (As := [_]) coX2_at 0 rfl rfl (c_at T hR _) rfl (by decide) (by first | exact Nat.le_of_ble_eq_true rfl | simp [Value.category, rf_cat]) dX2_redo_30 rfl (pc' := 33) rfl (fun v w hq => ?_)
      obtain ⟨rfl, rfl⟩ := hq
      dsimp only [Option.toList, List.cons_append, List.nil_append]
      rw [show lkI S (oI (some b)) = nI (ix S b) from lkI_some (lk_of T h1)]
      refine ev_callV (As := [_]) coX2_become 0 rfl rfl (c_become T hR h1) rfl (by decide) (by first | exact Nat.le_of_ble_eq_true rfl | simp [Value.category, rf_cat]) dX2_redo_33 rfl (pc' := 36) rfl (fun v w hq => ?_)
      obtain ⟨rfl, hw⟩ := hq
      dsimp only [Option.toList, List.cons_append, List.nil_append]
      refine ev_iret rfl dX2_redo_36 ?_
      unfold oRedo
      rw [hb]
      exact ⟨rfl, hw⟩
    · exact absurd h11 (nI_m7 (by omega))
theorem c_jumpTo (T : Tree S) (hR : RM S mnd mgv mcu mck mcl msh mhh mnu mpa mfa mti mpo mle mde msr mtl mtx mcp mmk mns) (hc : scu S ∈ sL S) {a : Nat} (ha : a ∈ sL S) : Ret g mdX2_jumpTo [.ref mo, .int (nI (ix S a))] (wM g mo mr mnd mgv mcu mck mcl msh mhh mnu mpa mfa mti mpo mle mde msr mtl mtx mcp mmk mns) (fun r w => r = some (.int (farS S (scu S) a)) ∧ isM g mo mr (bec S a) w) := by
  refine Ret.of [_, _, _, _] 2 (by decide) (Nat.le_of_ble_eq_true rfl) rfl ?_
  have e3 := hR.2.2.1
  subst e3
  have hk := ix_lt T ha
  refine ev_aload_n (pc' := 1) dX2_jumpTo_0 rfl rfl ?_
  refine ev_aload_n (pc' := 2) dX2_jumpTo_1 rfl rfl ?_
  refine ev_get inX2 0 12 rfl rfl (by decide) flX2_current rfl (pc' := 5) dX2_jumpTo_2 rfl ?_
  refine ev_iload_n (pc' := 6) dX2_jumpTo_5 rfl rfl ?_
  refine ev_callV (As := [_, _]) coX2_far 0 rfl rfl (c_far T hR hc ha) rfl (by decide) (by first | exact Nat.le_of_ble_eq_true rfl | simp [Value.category, rf_cat]) dX2_jumpTo_6 rfl (pc' := 9) rfl (fun v w hq => ?_)
  obtain ⟨rfl, rfl⟩ := hq
  dsimp only [Option.toList, List.cons_append, List.nil_append]
  refine ev_istore_n (pc' := 10) (lv' := [_, _, _, _]) dX2_jumpTo_9 rfl (by decide) (by intro w hw; first | exact Or.inl rfl | (right; have hw := Option.some.inj (Option.some.inj hw); subst hw; first | rfl | exact rf_cat _) | cases hw) rfl ?_
  refine ev_aload_n (pc' := 11) dX2_jumpTo_10 rfl rfl ?_
  refine ev_iload_n (pc' := 12) dX2_jumpTo_11 rfl rfl ?_
  refine ev_callV (As := [_]) coX2_become 0 rfl rfl (c_become T hR ha) rfl (by decide) (by first | exact Nat.le_of_ble_eq_true rfl | simp [Value.category, rf_cat]) dX2_jumpTo_12 rfl (pc' := 15) rfl (fun v w hq => ?_)
  obtain ⟨rfl, nd2, gv2, cu2, ck2, cl2, sh2, hh2, nu2, pa2, fa2, ti2, po2, le2, de2, sr2, tl2, tx2, cp2, mk2, ns2, rfl, hR2⟩ := hq
  dsimp only [Option.toList, List.cons_append, List.nil_append]
  refine ev_istore_n (pc' := 16) (lv' := [_, _, _, _]) dX2_jumpTo_15 rfl (by decide) (by intro w hw; first | exact Or.inl rfl | (right; have hw := Option.some.inj (Option.some.inj hw); subst hw; first | rfl | exact rf_cat _) | cases hw) rfl ?_
  refine ev_iload_n (pc' := 17) dX2_jumpTo_16 rfl rfl ?_
  refine ev_aload_n (pc' := 18) dX2_jumpTo_17 rfl rfl ?_
  refine ev_get inX2 0 2 rfl rfl (by decide) flX2_number rfl (pc' := 21) dX2_jumpTo_18 rfl ?_
  refine ev_iload_n (pc' := 22) dX2_jumpTo_21 rfl rfl ?_
  refine ev_ialdN 1 rfl (by omega) (by decide) (RM.row hR2 ha).1 (pc' := 23) dX2_jumpTo_22 rfl ?_
  refine ev_icmp_ne (tgt := 30) (pc' := 26) dX2_jumpTo_23 (by decide) rfl (fun h23 => ?_) (fun h23 => ?_)
  · exact absurd rfl h23
  · refine ev_iload_n (pc' := 27) dX2_jumpTo_26 rfl rfl ?_
    refine ev_goto (pc' := 32) dX2_jumpTo_27 (by decide) ?_
    refine ev_iret rfl dX2_jumpTo_32 ?_
    exact ⟨rfl, isM.of hR2⟩
theorem c_mjump (T : Tree S) (hR : RM S mnd mgv mcu mck mcl msh mhh mnu mpa mfa mti mpo mle mde msr mtl mtx mcp mmk mns) (hc : scu S ∈ sL S) (x : Int32) : Ret g mdX2_jump [.ref mo, .int x] (wM g mo mr mnd mgv mcu mck mcl msh mhh mnu mpa mfa mti mpo mle mde msr mtl mtx mcp mmk mns) (fun r w => r = some (.int (oJump S x).1) ∧ isM g mo mr (oJump S x).2 w) := by
  refine Ret.of [_, _, _] 1 (by decide) (Nat.le_of_ble_eq_true rfl) rfl ?_
  refine ev_aload_n (pc' := 1) dX2_jump_0 rfl rfl ?_
  refine ev_iload_n (pc' := 2) dX2_jump_1 rfl rfl ?_
  refine ev_callV (As := [_]) coX2_at 0 rfl rfl (c_at T hR x) rfl (by decide) (by first | exact Nat.le_of_ble_eq_true rfl | simp [Value.category, rf_cat]) dX2_jump_2 rfl (pc' := 5) rfl (fun v w hq => ?_)
  obtain ⟨rfl, rfl⟩ := hq
  dsimp only [Option.toList, List.cons_append, List.nil_append]
  refine ev_istore_n (pc' := 6) (lv' := [_, _, _]) dX2_jump_5 rfl (by decide) (by intro w hw; first | exact Or.inl rfl | (right; have hw := Option.some.inj (Option.some.inj hw); subst hw; first | rfl | exact rf_cat _) | cases hw) rfl ?_
  refine ev_iload_n (pc' := 7) dX2_jump_6 rfl rfl ?_
  refine ev_bipush (pc' := 9) (v := (-7)) dX2_jump_7 rfl (by decide) ?_
  refine ev_icmp_ne (tgt := 17) (pc' := 12) dX2_jump_9 (by decide) rfl (fun h9 => ?_) (fun h9 => ?_)
  · cases hl : lk S x with
    | none => exact absurd (lkI_none hl) h9
    | some a =>
      have ha := (lk_some hl).1
      rw [lkI_some hl]
      refine ev_aload_n (pc' := 18) dX2_jump_17 rfl rfl ?_
      refine ev_iload_n (pc' := 19) dX2_jump_18 rfl rfl ?_
      refine ev_callV (As := [_]) coX2_jumpTo 0 rfl rfl (c_jumpTo T hR hc ha) rfl (by decide) (by first | exact Nat.le_of_ble_eq_true rfl | simp [Value.category, rf_cat]) dX2_jump_19 rfl (pc' := 22) rfl (fun v w hq => ?_)
      obtain ⟨rfl, hw⟩ := hq
      dsimp only [Option.toList, List.cons_append, List.nil_append]
      refine ev_iret rfl dX2_jump_22 ?_
      unfold oJump
      rw [hl]
      exact ⟨rfl, hw⟩
  · refine ev_bipush (pc' := 14) (v := (-2)) dX2_jump_12 rfl (by decide) ?_
    refine ev_goto (pc' := 22) dX2_jump_14 (by decide) ?_
    refine ev_iret rfl dX2_jump_22 ?_
    unfold oJump
    rw [(lkI_m7 T).mp h9]
    exact ⟨rfl, isM.of hR⟩
theorem c_misMark (ws : va_W) (x : Int32) : Ret g mdX2_isMark [.int x] ws (fun r w => r = some (.int (bI (isMk x))) ∧ w = ws) := by
  refine Ret.of [_] 0 (by decide) (Nat.le_of_ble_eq_true rfl) rfl ?_
  refine ev_iload_n (pc' := 1) dX2_isMark_0 rfl rfl ?_
  refine ev_iconst (pc' := 2) (v := nI 0) dX2_isMark_1 rfl (by decide) ?_
  refine ev_iconst (pc' := 3) (v := nI 4) dX2_isMark_2 rfl (by decide) ?_
  refine ev_callS (As := [_, _, _]) coX2_within (c_within _ _ _ _) rfl (by decide) (by first | exact Nat.le_of_ble_eq_true rfl | simp [Value.category, rf_cat]) dX2_isMark_3 rfl (pc' := 6) rfl (fun v w hq => ?_)
  obtain ⟨rfl, rfl⟩ := hq
  dsimp only [Option.toList, List.cons_append, List.nil_append]
  refine ev_zret rfl (by cases decide (nI 0 ≤ x ∧ x ≤ nI 4) <;> decide) dX2_isMark_6 ?_
  exact ⟨rfl, rfl⟩
theorem oI_eqI {r : Option Nat} {a : Nat} (hr : ∀ b, r = some b → b < 2 ^ 31) (ha : a < 2 ^ 31) : oI r = nI a ↔ r = some a := by
  cases r with
  | none => exact ⟨fun h => absurd h.symm (nI_m7 ha), fun h => by cases h⟩
  | some b => exact ⟨fun h => by rw [nI_inj (hr b rfl) ha h], fun h => by cases h; rfl⟩
theorem mon_loop (hR : RM S mnd mgv mcu mck mcl msh mhh mnu mpa mfa mti mpo mle mde msr mtl mtx mcp mmk mns) (hm : ∀ i, i < 5 → ∀ b, smk S i = some b → b < 2 ^ 31) {a : Nat} (ha : a < 2 ^ 31) : ∀ (m k n : Nat), k + m = 5 → Ev g mdX2_marksOn 4 [some (.ref mo), some (.int (nI a)), some (.int (nI n)), some (.int (nI k))] [] (wM g mo mr mnd mgv mcu mck mcl msh mhh mnu mpa mfa mti mpo mle mde msr mtl mtx mcp mmk mns) (fun r w => r = some (.int (nI (n + cnt (fun i => decide (smk S i = some a)) ((List.range 5).drop k)))) ∧ w = (wM g mo mr mnd mgv mcu mck mcl msh mhh mnu mpa mfa mti mpo mle mde msr mtl mtx mcp mmk mns)) := by
  intro m
  induction m with
  | zero =>
    intro k n hk
    have : k = 5 := by omega
    subst this
    refine ev_iload_n (pc' := 5) dX2_marksOn_4 rfl rfl ?_
    refine ev_iconst (pc' := 6) (v := nI 5) dX2_marksOn_5 rfl (by decide) ?_
    refine ev_icmp_ge (tgt := 33) (pc' := 9) dX2_marksOn_6 (by decide) rfl (fun h6 => ?_) (fun h6 => ?_)
    · refine ev_iload_n (pc' := 34) dX2_marksOn_33 rfl rfl ?_
      refine ev_iret rfl dX2_marksOn_34 ?_
      exact ⟨rfl, rfl⟩
    · exact absurd (nI_le (by omega) (by omega)) h6
  | succ m ih =>
    intro k n hk
    have hd : (List.range 5).drop k = k :: (List.range 5).drop (k + 1) := by
      rw [List.drop_eq_getElem_cons (by simp; omega)]; simp
    rw [hd]
    refine ev_iload_n (pc' := 5) dX2_marksOn_4 rfl rfl ?_
    refine ev_iconst (pc' := 6) (v := nI 5) dX2_marksOn_5 rfl (by decide) ?_
    refine ev_icmp_ge (tgt := 33) (pc' := 9) dX2_marksOn_6 (by decide) rfl (fun h6 => ?_) (fun h6 => ?_)
    · exact absurd h6 (nI_ge (by omega) (by omega))
    · refine ev_iload_n (pc' := 10) dX2_marksOn_9 rfl rfl ?_
      refine ev_aload_n (pc' := 11) dX2_marksOn_10 rfl rfl ?_
      refine ev_get inX2 0 16 rfl rfl (by decide) flX2_mark rfl (pc' := 14) dX2_marksOn_11 rfl ?_
      refine ev_iload_n (pc' := 15) dX2_marksOn_14 rfl rfl ?_
      refine ev_ialdN 12 rfl (by omega) (by decide) (hR.2.2.2.2.2.2.2 k (by omega)) (pc' := 16) dX2_marksOn_15 rfl ?_
      refine ev_iload_n (pc' := 17) dX2_marksOn_16 rfl rfl ?_
      refine ev_icmp_ne (tgt := 24) (pc' := 20) dX2_marksOn_17 (by decide) rfl (fun h17 => ?_) (fun h17 => ?_)
      · have e : ¬ smk S k = some a := fun q => h17 (by rw [q]; rfl)
        refine ev_iconst (pc' := 25) (v := nI 0) dX2_marksOn_24 rfl (by decide) ?_
        refine ev_iadd (pc' := 26) dX2_marksOn_25 rfl ?_
        rw [nI_add]
        refine ev_istore_n (pc' := 27) (lv' := [_, _, _, _]) dX2_marksOn_26 rfl (by decide) (by intro w hw; first | exact Or.inl rfl | (right; have hw := Option.some.inj (Option.some.inj hw); subst hw; first | rfl | exact rf_cat _) | cases hw) rfl ?_
        refine ev_iinc (pc' := 30) (lv' := [_, _, _, _]) dX2_marksOn_27 rfl rfl (nI_1 _) (by decide) (by intro w hw; first | exact Or.inl rfl | (right; have hw := Option.some.inj (Option.some.inj hw); subst hw; first | rfl | exact rf_cat _) | cases hw) rfl ?_
        refine ev_goto (pc' := 4) dX2_marksOn_30 (by decide) ?_
        have h := ih (k + 1) n (by omega)
        unfold cnt
        rw [decide_eq_false e, if_neg (by decide), Nat.zero_add]
        exact h
      · have e : smk S k = some a := (oI_eqI (hm k (by omega)) ha).mp h17
        refine ev_iconst (pc' := 21) (v := nI 1) dX2_marksOn_20 rfl (by decide) ?_
        refine ev_goto (pc' := 25) dX2_marksOn_21 (by decide) ?_
        refine ev_iadd (pc' := 26) dX2_marksOn_25 rfl ?_
        rw [nI_add]
        refine ev_istore_n (pc' := 27) (lv' := [_, _, _, _]) dX2_marksOn_26 rfl (by decide) (by intro w hw; first | exact Or.inl rfl | (right; have hw := Option.some.inj (Option.some.inj hw); subst hw; first | rfl | exact rf_cat _) | cases hw) rfl ?_
        refine ev_iinc (pc' := 30) (lv' := [_, _, _, _]) dX2_marksOn_27 rfl rfl (nI_1 _) (by decide) (by intro w hw; first | exact Or.inl rfl | (right; have hw := Option.some.inj (Option.some.inj hw); subst hw; first | rfl | exact rf_cat _) | cases hw) rfl ?_
        refine ev_goto (pc' := 4) dX2_marksOn_30 (by decide) ?_
        have h := ih (k + 1) (n + 1) (by omega)
        unfold cnt
        rw [decide_eq_true e, if_pos rfl, ← Nat.add_assoc]
        exact h
theorem c_mmarksOn (hR : RM S mnd mgv mcu mck mcl msh mhh mnu mpa mfa mti mpo mle mde msr mtl mtx mcp mmk mns) (hm : ∀ i, i < 5 → ∀ b, smk S i = some b → b < 2 ^ 31) {a : Nat} (ha : a < 2 ^ 31) : Ret g mdX2_marksOn [.ref mo, .int (nI a)] (wM g mo mr mnd mgv mcu mck mcl msh mhh mnu mpa mfa mti mpo mle mde msr mtl mtx mcp mmk mns) (fun r w => r = some (.int (nI (mkN S a))) ∧ w = (wM g mo mr mnd mgv mcu mck mcl msh mhh mnu mpa mfa mti mpo mle mde msr mtl mtx mcp mmk mns)) := by
  refine Ret.of [_, _, _, _] 2 (by decide) (Nat.le_of_ble_eq_true rfl) rfl ?_
  refine ev_iconst (pc' := 1) (v := nI 0) dX2_marksOn_0 rfl (by decide) ?_
  refine ev_istore_n (pc' := 2) (lv' := [_, _, _, _]) dX2_marksOn_1 rfl (by decide) (by intro w hw; first | exact Or.inl rfl | (right; have hw := Option.some.inj (Option.some.inj hw); subst hw; first | rfl | exact rf_cat _) | cases hw) rfl ?_
  refine ev_iconst (pc' := 3) (v := nI 0) dX2_marksOn_2 rfl (by decide) ?_
  refine ev_istore_n (pc' := 4) (lv' := [_, _, _, _]) dX2_marksOn_3 rfl (by decide) (by intro w hw; first | exact Or.inl rfl | (right; have hw := Option.some.inj (Option.some.inj hw); subst hw; first | rfl | exact rf_cat _) | cases hw) rfl ?_
  have h := mon_loop (g := g) (mo := mo) (mr := mr) hR hm ha 5 0 0 rfl
  rw [Nat.zero_add] at h
  exact h
theorem RM.setMk (hR : RM S mnd mgv mcu mck mcl msh mhh mnu mpa mfa mti mpo mle mde msr mtl mtx mcp mmk mns) {j : Nat} (v : Option Nat) : RM (setMk S (va_up (smk S) j v)) mnd mgv mcu mck mcl msh mhh mnu mpa mfa mti mpo mle mde msr mtl mtx mcp (upd mmk j (oI v)) mns := by
  refine ⟨hR.1, hR.2.1, hR.2.2.1, hR.2.2.2.1, hR.2.2.2.2.1, hR.2.2.2.2.2.1, hR.2.2.2.2.2.2.1, fun i hi => ?_⟩
  show upd mmk j (oI v) i = oI (va_up (smk S) j v i)
  by_cases q : i = j
  · rw [q, pk_us, va_up_self]
  · rw [pk_un q, va_up_ne _ _ q]; exact hR.2.2.2.2.2.2.2 i hi
theorem c_msetMark (T : Tree S) (hR : RM S mnd mgv mcu mck mcl msh mhh mnu mpa mfa mti mpo mle mde msr mtl mtx mcp mmk mns) (hm : ∀ i, i < 5 → ∀ b, smk S i = some b → b < 2 ^ 31) (m x : Int32) : Ret g mdX2_setMark [.ref mo, .int m, .int x] (wM g mo mr mnd mgv mcu mck mcl msh mhh mnu mpa mfa mti mpo mle mde msr mtl mtx mcp mmk mns) (fun r w => r = some (.int (oSetM S m x).1) ∧ isM g mo mr (oSetM S m x).2 w) := by
  refine Ret.of [_, _, _] 0 (by decide) (Nat.le_of_ble_eq_true rfl) rfl ?_
  refine ev_iload_n (pc' := 1) dX2_setMark_0 rfl rfl ?_
  refine ev_callS (As := [_]) coX2_isMark (c_misMark _ _) rfl (by decide) (by first | exact Nat.le_of_ble_eq_true rfl | simp [Value.category, rf_cat]) dX2_setMark_1 rfl (pc' := 4) rfl (fun v w hq => ?_)
  obtain ⟨rfl, rfl⟩ := hq
  dsimp only [Option.toList, List.cons_append, List.nil_append]
  refine ev_if_ne (tgt := 9) (pc' := 7) dX2_setMark_4 (by decide) rfl (fun h4 => ?_) (fun h4 => ?_)
  · rw [bI_ne] at h4
    unfold oSetM
    rw [if_pos h4]
    obtain ⟨j, hj, rfl⟩ := isMk_of h4
    rw [nI_clamp (by omega)]
    refine ev_aload_n (pc' := 10) dX2_setMark_9 rfl rfl ?_
    refine ev_iload_n (pc' := 11) dX2_setMark_10 rfl rfl ?_
    refine ev_callV (As := [_]) coX2_at 0 rfl rfl (c_at T hR x) rfl (by decide) (by first | exact Nat.le_of_ble_eq_true rfl | simp [Value.category, rf_cat]) dX2_setMark_11 rfl (pc' := 14) rfl (fun v w hq => ?_)
    obtain ⟨rfl, rfl⟩ := hq
    dsimp only [Option.toList, List.cons_append, List.nil_append]
    refine ev_bipush (pc' := 16) (v := (-7)) dX2_setMark_14 rfl (by decide) ?_
    refine ev_icmp_ne (tgt := 22) (pc' := 19) dX2_setMark_16 (by decide) rfl (fun h16 => ?_) (fun h16 => ?_)
    · cases hl : lk S x with
      | none => exact absurd (lkI_none hl) h16
      | some a =>
        obtain ⟨ha, rfl⟩ := lk_some hl
        have hlt := T.lt ha
        have hR2 := RM.setMk hR (j := j) (some a)
        have hm2 : ∀ i, i < 5 → ∀ b, smk (setMk S (va_up (smk S) j (some a))) i = some b → b < 2 ^ 31 := fun i hi b hb => by
          by_cases q : i = j
          · rw [q] at hb
            rw [show smk (setMk S (va_up (smk S) j (some a))) j = some a from va_up_self _ _ _] at hb
            cases hb; omega
          · rw [show smk (setMk S (va_up (smk S) j (some a))) i = smk S i from va_up_ne _ _ q] at hb
            exact hm i hi b hb
        refine ev_aload_n (pc' := 23) dX2_setMark_22 rfl rfl ?_
        refine ev_get inX2 0 16 rfl rfl (by decide) flX2_mark rfl (pc' := 26) dX2_setMark_23 rfl ?_
        refine ev_iload_n (pc' := 27) dX2_setMark_26 rfl rfl ?_
        refine ev_iload_n (pc' := 28) dX2_setMark_27 rfl rfl ?_
        refine ev_iastN 12 rfl (by omega) (by decide) (pc' := 29) dX2_setMark_28 rfl (ws' := wM _ _ _ _ _ _ _ _ _ _ _ _ _ _ _ _ _ _ _ _ _ _ _) rfl ?_
        refine ev_aload_n (pc' := 30) dX2_setMark_29 rfl rfl ?_
        refine ev_iload_n (pc' := 31) dX2_setMark_30 rfl rfl ?_
        refine ev_callV (As := [_]) coX2_marksOn 0 rfl rfl (c_mmarksOn hR2 hm2 (by omega)) rfl (by decide) (by first | exact Nat.le_of_ble_eq_true rfl | simp [Value.category, rf_cat]) dX2_setMark_31 rfl (pc' := 34) rfl (fun v w hq => ?_)
        obtain ⟨rfl, rfl⟩ := hq
        dsimp only [Option.toList, List.cons_append, List.nil_append]
        refine ev_iret rfl dX2_setMark_34 ?_
        exact ⟨rfl, isM.of hR2⟩
    · refine ev_bipush (pc' := 21) (v := (-2)) dX2_setMark_19 rfl (by decide) ?_
      refine ev_iret rfl dX2_setMark_21 ?_
      rw [(lkI_m7 T).mp h16]
      exact ⟨rfl, isM.of hR⟩
  · rw [bI_eq] at h4
    refine ev_iconst (pc' := 8) (v := (-1)) dX2_setMark_7 rfl (by decide) ?_
    refine ev_iret rfl dX2_setMark_8 ?_
    unfold oSetM
    rw [h4]
    exact ⟨rfl, isM.of hR⟩
theorem c_mclearMark (hR : RM S mnd mgv mcu mck mcl msh mhh mnu mpa mfa mti mpo mle mde msr mtl mtx mcp mmk mns) (m : Int32) : Ret g mdX2_clearMark [.ref mo, .int m] (wM g mo mr mnd mgv mcu mck mcl msh mhh mnu mpa mfa mti mpo mle mde msr mtl mtx mcp mmk mns) (fun r w => r = some (.int (oClrM S m).1) ∧ isM g mo mr (oClrM S m).2 w) := by
  refine Ret.of [_, _, _] 1 (by decide) (Nat.le_of_ble_eq_true rfl) rfl ?_
  refine ev_iload_n (pc' := 1) dX2_clearMark_0 rfl rfl ?_
  refine ev_callS (As := [_]) coX2_isMark (c_misMark _ _) rfl (by decide) (by first | exact Nat.le_of_ble_eq_true rfl | simp [Value.category, rf_cat]) dX2_clearMark_1 rfl (pc' := 4) rfl (fun v w hq => ?_)
  obtain ⟨rfl, rfl⟩ := hq
  dsimp only [Option.toList, List.cons_append, List.nil_append]
  refine ev_if_ne (tgt := 9) (pc' := 7) dX2_clearMark_4 (by decide) rfl (fun h4 => ?_) (fun h4 => ?_)
  · rw [bI_ne] at h4
    unfold oClrM
    rw [if_pos h4]
    obtain ⟨j, hj, rfl⟩ := isMk_of h4
    rw [nI_clamp (by omega)]
    refine ev_aload_n (pc' := 10) dX2_clearMark_9 rfl rfl ?_
    refine ev_get inX2 0 16 rfl rfl (by decide) flX2_mark rfl (pc' := 13) dX2_clearMark_10 rfl ?_
    refine ev_iload_n (pc' := 14) dX2_clearMark_13 rfl rfl ?_
    refine ev_ialdN 12 rfl (by omega) (by decide) (hR.2.2.2.2.2.2.2 j hj) (pc' := 15) dX2_clearMark_14 rfl ?_
    refine ev_istore_n (pc' := 16) (lv' := [_, _, _]) dX2_clearMark_15 rfl (by decide) (by intro w hw; first | exact Or.inl rfl | (right; have hw := Option.some.inj (Option.some.inj hw); subst hw; first | rfl | exact rf_cat _) | cases hw) rfl ?_
    refine ev_aload_n (pc' := 17) dX2_clearMark_16 rfl rfl ?_
    refine ev_get inX2 0 16 rfl rfl (by decide) flX2_mark rfl (pc' := 20) dX2_clearMark_17 rfl ?_
    refine ev_iload_n (pc' := 21) dX2_clearMark_20 rfl rfl ?_
    refine ev_bipush (pc' := 23) (v := (-7)) dX2_clearMark_21 rfl (by decide) ?_
    refine ev_iastN 12 rfl (by omega) (by decide) (pc' := 24) dX2_clearMark_23 rfl (ws' := wM _ _ _ _ _ _ _ _ _ _ _ _ _ _ _ _ _ _ _ _ _ _ _) rfl ?_
    refine ev_iload_n (pc' := 25) dX2_clearMark_24 rfl rfl ?_
    refine ev_iret rfl dX2_clearMark_25 ?_
    exact ⟨rfl, isM.of (RM.setMk hR (j := j) none)⟩
  · rw [bI_eq] at h4
    refine ev_iconst (pc' := 8) (v := (-1)) dX2_clearMark_7 rfl (by decide) ?_
    refine ev_iret rfl dX2_clearMark_8 ?_
    unfold oClrM
    rw [h4]
    exact ⟨rfl, isM.of hR⟩
theorem c_mgoToMark (T : Tree S) (hR : RM S mnd mgv mcu mck mcl msh mhh mnu mpa mfa mti mpo mle mde msr mtl mtx mcp mmk mns) (hm : ∀ i, i < 5 → ∀ b, smk S i = some b → b ∈ sL S) (m : Int32) : Ret g mdX2_goToMark [.ref mo, .int m] (wM g mo mr mnd mgv mcu mck mcl msh mhh mnu mpa mfa mti mpo mle mde msr mtl mtx mcp mmk mns) (fun r w => r = some (.int (oGoM S m).1) ∧ isM g mo mr (oGoM S m).2 w) := by
  refine Ret.of [_, _] 0 (by decide) (Nat.le_of_ble_eq_true rfl) rfl ?_
  refine ev_iload_n (pc' := 1) dX2_goToMark_0 rfl rfl ?_
  refine ev_callS (As := [_]) coX2_isMark (c_misMark _ _) rfl (by decide) (by first | exact Nat.le_of_ble_eq_true rfl | simp [Value.category, rf_cat]) dX2_goToMark_1 rfl (pc' := 4) rfl (fun v w hq => ?_)
  obtain ⟨rfl, rfl⟩ := hq
  dsimp only [Option.toList, List.cons_append, List.nil_append]
  refine ev_if_ne (tgt := 9) (pc' := 7) dX2_goToMark_4 (by decide) rfl (fun h4 => ?_) (fun h4 => ?_)
  · rw [bI_ne] at h4
    unfold oGoM
    rw [if_pos h4]
    obtain ⟨j, hj, rfl⟩ := isMk_of h4
    rw [nI_clamp (by omega)]
    have hrow := hR.2.2.2.2.2.2.2 j hj
    cases hb : smk S j with
    | none =>
      rw [hb] at hrow
      refine ev_aload_n (pc' := 10) dX2_goToMark_9 rfl rfl ?_
      refine ev_get inX2 0 16 rfl rfl (by decide) flX2_mark rfl (pc' := 13) dX2_goToMark_10 rfl ?_
      refine ev_iload_n (pc' := 14) dX2_goToMark_13 rfl rfl ?_
      refine ev_ialdN 12 rfl (by omega) (by decide) hrow (pc' := 15) dX2_goToMark_14 rfl ?_
      refine ev_bipush (pc' := 17) (v := (-7)) dX2_goToMark_15 rfl (by decide) ?_
      refine ev_icmp_ne (tgt := 25) (pc' := 20) dX2_goToMark_17 (by decide) rfl (fun h17 => ?_) (fun h17 => ?_)
      · exact absurd rfl h17
      · refine ev_bipush (pc' := 22) (v := (-7)) dX2_goToMark_20 rfl (by decide) ?_
        refine ev_goto (pc' := 39) dX2_goToMark_22 (by decide) ?_
        refine ev_iret rfl dX2_goToMark_39 ?_
        exact ⟨rfl, isM.of hR⟩
    | some b =>
      rw [hb] at hrow
      have h1 := hm j hj b hb
      have hlt := T.lt h1
      refine ev_aload_n (pc' := 10) dX2_goToMark_9 rfl rfl ?_
      refine ev_get inX2 0 16 rfl rfl (by decide) flX2_mark rfl (pc' := 13) dX2_goToMark_10 rfl ?_
      refine ev_iload_n (pc' := 14) dX2_goToMark_13 rfl rfl ?_
      refine ev_ialdN 12 rfl (by omega) (by decide) hrow (pc' := 15) dX2_goToMark_14 rfl ?_
      refine ev_bipush (pc' := 17) (v := (-7)) dX2_goToMark_15 rfl (by decide) ?_
      refine ev_icmp_ne (tgt := 25) (pc' := 20) dX2_goToMark_17 (by decide) rfl (fun h17 => ?_) (fun h17 => ?_)
      · refine ev_aload_n (pc' := 26) dX2_goToMark_25 rfl rfl ?_
        refine ev_aload_n (pc' := 27) dX2_goToMark_26 rfl rfl ?_
        refine ev_aload_n (pc' := 28) dX2_goToMark_27 rfl rfl ?_
        refine ev_get inX2 0 16 rfl rfl (by decide) flX2_mark rfl (pc' := 31) dX2_goToMark_28 rfl ?_
        refine ev_iload_n (pc' := 32) dX2_goToMark_31 rfl rfl ?_
        refine ev_ialdN 12 rfl (by omega) (by decide) hrow (pc' := 33) dX2_goToMark_32 rfl ?_
        refine ev_callV (As := [_]) coX2_at 0 rfl rfl (c_at T hR _) rfl (by decide) (by first | exact Nat.le_of_ble_eq_true rfl | simp [Value.category, rf_cat]) dX2_goToMark_33 rfl (pc' := 36) rfl (fun v w hq => ?_)
        obtain ⟨rfl, rfl⟩ := hq
        dsimp only [Option.toList, List.cons_append, List.nil_append]
        rw [show lkI S (oI (some b)) = nI (ix S b) from lkI_some (lk_of T h1)]
        refine ev_callV (As := [_]) coX2_become 0 rfl rfl (c_become T hR h1) rfl (by decide) (by first | exact Nat.le_of_ble_eq_true rfl | simp [Value.category, rf_cat]) dX2_goToMark_36 rfl (pc' := 39) rfl (fun v w hq => ?_)
        obtain ⟨rfl, hw⟩ := hq
        dsimp only [Option.toList, List.cons_append, List.nil_append]
        refine ev_iret rfl dX2_goToMark_39 ?_
        exact ⟨rfl, hw⟩
      · exact absurd h17 (nI_m7 (by omega))
  · rw [bI_eq] at h4
    refine ev_iconst (pc' := 8) (v := (-1)) dX2_goToMark_7 rfl (by decide) ?_
    refine ev_iret rfl dX2_goToMark_8 ?_
    unfold oGoM
    rw [h4]
    exact ⟨rfl, isM.of hR⟩
end M6
