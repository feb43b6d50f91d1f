/-! ===== the landed class: the calls that read ===== -/
section X2
variable {g : EG} {xo an ac am : Nat} {LN LT : List Nat} {xt : Nat → Nat} {xar : Nat → Option Nat} {xnt xln : Int32} {xcu : Nat} {xck : Int32} {xcp : Nat → Int32} {xcl : Int32} {xmk : Nat → Option Nat} {xtl xnu xti : Nat → Int32} {xpa xfa : Nat → Option Nat} {xep xel xde : Nat → Int32} {xtc : Nat → Nat → Int32}
variable {S : SS} {hd : Nat → Nat} {N : Nat} {Ph : Option Value → va_W → Prop}
theorem c_xcurrent (hR : RX S hd LN LT xt xar xnt xln xcu xck xcp xcl xmk xtl xnu xti xpa xfa xep xel xde xtc) (hc : scu S ∈ sL S) : Ret g mdX1_current [.ref xo] (wX g xo an ac am LN LT xt xar xnt xln xcu xck xcp xcl xmk xtl xnu xti xpa xfa xep xel xde xtc) (fun r w => r = some (.int (nI (scu S))) ∧ w = (wX g xo an ac am LN LT xt xar xnt xln xcu xck xcp xcl xmk xtl xnu xti xpa xfa xep xel xde xtc)) := by
  refine Ret.of [_] 0 (by decide) (Nat.le_of_ble_eq_true rfl) rfl ?_
  have hr := RX.row hR hc
  have e3 := hR.2.2.1
  subst e3
  refine ev_aload_nE (pc' := 1) dX1_current_0 rfl rfl (by first | exact rf_some _ | exact rfl) ?_
  refine gX1_currentNode rfl (pc' := 4) dX1_current_1 rfl ?_
  refine gX0_number rfl hr.1 hr.2.2.2.1 (pc' := 7) dX1_current_4 rfl ?_
  refine ev_iret rfl dX1_current_7 ?_
  exact ⟨rfl, rfl⟩
theorem c_xnodeCount (hR : RX S hd LN LT xt xar xnt xln xcu xck xcp xcl xmk xtl xnu xti xpa xfa xep xel xde xtc) : Ret g mdX1_nodeCount [.ref xo] (wX g xo an ac am LN LT xt xar xnt xln xcu xck xcp xcl xmk xtl xnu xti xpa xfa xep xel xde xtc) (fun r w => r = some (.int (nI (sL S).length)) ∧ w = (wX g xo an ac am LN LT xt xar xnt xln xcu xck xcp xcl xmk xtl xnu xti xpa xfa xep xel xde xtc)) := by
  refine Ret.of [_] 0 (by decide) (Nat.le_of_ble_eq_true rfl) rfl ?_
  obtain rfl := hR.1
  refine ev_aload_nE (pc' := 1) dX1_nodeCount_0 rfl rfl (by first | exact rf_some _ | exact rfl) ?_
  refine gX1_nodeTotal rfl (pc' := 4) dX1_nodeCount_1 rfl ?_
  refine ev_iret rfl dX1_nodeCount_4 ?_
  exact ⟨rfl, rfl⟩
theorem c_xlengthOf (T : Tree S) (hR : RX S hd LN LT xt xar xnt xln xcu xck xcp xcl xmk xtl xnu xti xpa xfa xep xel xde xtc) (x : Int32) : Ret g mdX1_lengthOf [.ref xo, .int x] (wX g xo an ac am LN LT xt xar xnt xln xcu xck xcp xcl xmk xtl xnu xti xpa xfa xep xel xde xtc) (fun r w => r = some (.int (aLen S x)) ∧ w = (wX g xo an ac am LN LT xt xar xnt xln xcu xck xcp xcl xmk xtl xnu xti xpa xfa xep xel xde xtc)) := by
  refine Ret.of [_, _, _] 1 (by decide) (Nat.le_of_ble_eq_true rfl) rfl ?_
  unfold aLen
  refine ev_aload_nE (pc' := 1) dX1_lengthOf_0 rfl rfl (by first | exact rf_some _ | exact rfl) ?_
  refine ev_iload_n (pc' := 2) dX1_lengthOf_1 rfl rfl ?_
  refine x_callV (As := [_]) coX1_find rfl (c_find T hR x) rfl (by decide) (by first | exact Nat.le_of_ble_eq_true rfl | simp [Value.category, rf_cat]) dX1_lengthOf_2 rfl (pc' := 5) rfl (fun v w hq => ?_)
  obtain ⟨rfl, rfl⟩ := hq
  dsimp only [Option.toList, List.cons_append, List.nil_append]
  cases hl : lk S x with
  | none =>
    show Ev g mdX1_lengthOf 5 _ [va_rf none] _ _
    refine ev_astore_nE (by first | exact rf_some _ | exact rfl) (pc' := 6) (lv' := [_, _, _]) dX1_lengthOf_5 rfl (by decide) (by intro w hw; first | exact Or.inl rfl | (right; have hw := Option.some.inj (Option.some.inj hw); subst hw; first | rfl | exact rf_cat _) | cases hw) rfl ?_
    refine ev_aload_nE (pc' := 7) dX1_lengthOf_6 rfl rfl (by first | exact rf_some _ | exact rfl) ?_
    refine ev_ifnonnullZ (pc' := 10) dX1_lengthOf_7 rfl ?_
    refine ev_bipush (pc' := 12) (v := (-2)) dX1_lengthOf_10 rfl (by decide) ?_
    refine ev_goto (pc' := 19) dX1_lengthOf_12 (by decide) ?_
    refine ev_iret rfl dX1_lengthOf_19 ?_
    exact ⟨rfl, rfl⟩
  | some a =>
    have hr := RX.row hR (lk_some hl).1
    show Ev g mdX1_lengthOf 5 _ [.ref (hd a)] _ _
    refine ev_astore_nE (by first | exact rf_some _ | exact rfl) (pc' := 6) (lv' := [_, _, _]) dX1_lengthOf_5 rfl (by decide) (by intro w hw; first | exact Or.inl rfl | (right; have hw := Option.some.inj (Option.some.inj hw); subst hw; first | rfl | exact rf_cat _) | cases hw) rfl ?_
    refine ev_aload_nE (pc' := 7) dX1_lengthOf_6 rfl rfl (by first | exact rf_some _ | exact rfl) ?_
    refine ev_ifnonnullR (tgt := 15) dX1_lengthOf_7 (by decide) ?_
    refine ev_aload_nE (pc' := 16) dX1_lengthOf_15 rfl rfl (by first | exact rf_some _ | exact rfl) ?_
    refine gX0_textLength rfl hr.1 hr.2.2.1 (pc' := 19) dX1_lengthOf_16 rfl ?_
    refine ev_iret rfl dX1_lengthOf_19 ?_
    exact ⟨rfl, rfl⟩
theorem c_xtimeOf (T : Tree S) (hR : RX S hd LN LT xt xar xnt xln xcu xck xcp xcl xmk xtl xnu xti xpa xfa xep xel xde xtc) (x : Int32) : Ret g mdX1_timeOf [.ref xo, .int x] (wX g xo an ac am LN LT xt xar xnt xln xcu xck xcp xcl xmk xtl xnu xti xpa xfa xep xel xde xtc) (fun r w => r = some (.int (aTim S x)) ∧ w = (wX g xo an ac am LN LT xt xar xnt xln xcu xck xcp xcl xmk xtl xnu xti xpa xfa xep xel xde xtc)) := by
  refine Ret.of [_, _, _] 1 (by decide) (Nat.le_of_ble_eq_true rfl) rfl ?_
  unfold aTim
  refine ev_aload_nE (pc' := 1) dX1_timeOf_0 rfl rfl (by first | exact rf_some _ | exact rfl) ?_
  refine ev_iload_n (pc' := 2) dX1_timeOf_1 rfl rfl ?_
  refine x_callV (As := [_]) coX1_find rfl (c_find T hR x) rfl (by decide) (by first | exact Nat.le_of_ble_eq_true rfl | simp [Value.category, rf_cat]) dX1_timeOf_2 rfl (pc' := 5) rfl (fun v w hq => ?_)
  obtain ⟨rfl, rfl⟩ := hq
  dsimp only [Option.toList, List.cons_append, List.nil_append]
  cases hl : lk S x with
  | none =>
    show Ev g mdX1_timeOf 5 _ [va_rf none] _ _
    refine ev_astore_nE (by first | exact rf_some _ | exact rfl) (pc' := 6) (lv' := [_, _, _]) dX1_timeOf_5 rfl (by decide) (by intro w hw; first | exact Or.inl rfl | (right; have hw := Option.some.inj (Option.some.inj hw); subst hw; first | rfl | exact rf_cat _) | cases hw) rfl ?_
    refine ev_aload_nE (pc' := 7) dX1_timeOf_6 rfl rfl (by first | exact rf_some _ | exact rfl) ?_
    refine ev_ifnonnullZ (pc' := 10) dX1_timeOf_7 rfl ?_
    refine ev_bipush (pc' := 12) (v := (-2)) dX1_timeOf_10 rfl (by decide) ?_
    refine ev_goto (pc' := 19) dX1_timeOf_12 (by decide) ?_
    refine ev_iret rfl dX1_timeOf_19 ?_
    exact ⟨rfl, rfl⟩
  | some a =>
    have hr := RX.row hR (lk_some hl).1
    show Ev g mdX1_timeOf 5 _ [.ref (hd a)] _ _
    refine ev_astore_nE (by first | exact rf_some _ | exact rfl) (pc' := 6) (lv' := [_, _, _]) dX1_timeOf_5 rfl (by decide) (by intro w hw; first | exact Or.inl rfl | (right; have hw := Option.some.inj (Option.some.inj hw); subst hw; first | rfl | exact rf_cat _) | cases hw) rfl ?_
    refine ev_aload_nE (pc' := 7) dX1_timeOf_6 rfl rfl (by first | exact rf_some _ | exact rfl) ?_
    refine ev_ifnonnullR (tgt := 15) dX1_timeOf_7 (by decide) ?_
    refine ev_aload_nE (pc' := 16) dX1_timeOf_15 rfl rfl (by first | exact rf_some _ | exact rfl) ?_
    refine gX0_time rfl hr.1 hr.2.2.2.2.1 (pc' := 19) dX1_timeOf_16 rfl ?_
    refine ev_iret rfl dX1_timeOf_19 ?_
    exact ⟨rfl, rfl⟩
theorem c_xfavouriteOf (I : Inv N S) (hR : RX S hd LN LT xt xar xnt xln xcu xck xcp xcl xmk xtl xnu xti xpa xfa xep xel xde xtc) (x : Int32) : Ret g mdX1_favouriteOf [.ref xo, .int x] (wX g xo an ac am LN LT xt xar xnt xln xcu xck xcp xcl xmk xtl xnu xti xpa xfa xep xel xde xtc) (fun r w => r = some (.int (aFav S x)) ∧ w = (wX g xo an ac am LN LT xt xar xnt xln xcu xck xcp xcl xmk xtl xnu xti xpa xfa xep xel xde xtc)) := by
  refine Ret.of [_, _, _] 1 (by decide) (Nat.le_of_ble_eq_true rfl) rfl ?_
  unfold aFav
  refine ev_aload_nE (pc' := 1) dX1_favouriteOf_0 rfl rfl (by first | exact rf_some _ | exact rfl) ?_
  refine ev_iload_n (pc' := 2) dX1_favouriteOf_1 rfl rfl ?_
  refine x_callV (As := [_]) coX1_find rfl (c_find I.T hR x) rfl (by decide) (by first | exact Nat.le_of_ble_eq_true rfl | simp [Value.category, rf_cat]) dX1_favouriteOf_2 rfl (pc' := 5) rfl (fun v w hq => ?_)
  obtain ⟨rfl, rfl⟩ := hq
  dsimp only [Option.toList, List.cons_append, List.nil_append]
  cases hl : lk S x with
  | none =>
    show Ev g mdX1_favouriteOf 5 _ [va_rf none] _ _
    refine ev_astore_nE (by first | exact rf_some _ | exact rfl) (pc' := 6) (lv' := [_, _, _]) dX1_favouriteOf_5 rfl (by decide) (by intro w hw; first | exact Or.inl rfl | (right; have hw := Option.some.inj (Option.some.inj hw); subst hw; first | rfl | exact rf_cat _) | cases hw) rfl ?_
    refine ev_aload_nE (pc' := 7) dX1_favouriteOf_6 rfl rfl (by first | exact rf_some _ | exact rfl) ?_
    refine ev_ifnonnullZ (pc' := 10) dX1_favouriteOf_7 rfl ?_
    refine ev_bipush (pc' := 12) (v := (-2)) dX1_favouriteOf_10 rfl (by decide) ?_
    refine ev_goto (pc' := 22) dX1_favouriteOf_12 (by decide) ?_
    refine ev_iret rfl dX1_favouriteOf_22 ?_
    exact ⟨rfl, rfl⟩
  | some a =>
    have ha := (lk_some hl).1
    have hr := RX.row hR ha
    show Ev g mdX1_favouriteOf 5 _ [.ref (hd a)] _ _
    refine ev_astore_nE (by first | exact rf_some _ | exact rfl) (pc' := 6) (lv' := [_, _, _]) dX1_favouriteOf_5 rfl (by decide) (by intro w hw; first | exact Or.inl rfl | (right; have hw := Option.some.inj (Option.some.inj hw); subst hw; first | rfl | exact rf_cat _) | cases hw) rfl ?_
    refine ev_aload_nE (pc' := 7) dX1_favouriteOf_6 rfl rfl (by first | exact rf_some _ | exact rfl) ?_
    refine ev_ifnonnullR (tgt := 15) dX1_favouriteOf_7 (by decide) ?_
    refine ev_aload_nE (pc' := 16) dX1_favouriteOf_15 rfl rfl (by first | exact rf_some _ | exact rfl) ?_
    refine gX0_favourite rfl hr.1 hr.2.2.2.2.2.2.1 (pc' := 19) dX1_favouriteOf_16 rfl ?_
    refine ev_callS (As := [_]) coX1_numberOrNone (c_non hR (sfa S a) (fun c hc => (I.fa ha hc).1)) rfl (by decide) (by first | exact Nat.le_of_ble_eq_true rfl | simp [Value.category, rf_cat]) dX1_favouriteOf_19 rfl (pc' := 22) rfl (fun v w hq => ?_)
    obtain ⟨rfl, rfl⟩ := hq
    dsimp only [Option.toList, List.cons_append, List.nil_append]
    refine ev_iret rfl dX1_favouriteOf_22 ?_
    exact ⟨rfl, rfl⟩
theorem a0_none (T : Tree S) {a : Nat} (ha : a ∈ sL S) : a = 0 ↔ spa S a = none := ⟨fun q => by rw [q]; exact T.pa0, fun q => T.none ha q⟩
theorem c_xeditOf (T : Tree S) (hR : RX S hd LN LT xt xar xnt xln xcu xck xcp xcl xmk xtl xnu xti xpa xfa xep xel xde xtc) (x : Int32) : Ret g mdX1_editOf [.ref xo, .int x] (wX g xo an ac am LN LT xt xar xnt xln xcu xck xcp xcl xmk xtl xnu xti xpa xfa xep xel xde xtc) (fun r w => r = some (.int (aEdit S x)) ∧ w = (wX g xo an ac am LN LT xt xar xnt xln xcu xck xcp xcl xmk xtl xnu xti xpa xfa xep xel xde xtc)) := by
  refine Ret.of [_, _, _] 1 (by decide) (Nat.le_of_ble_eq_true rfl) rfl ?_
  unfold aEdit
  refine ev_aload_nE (pc' := 1) dX1_editOf_0 rfl rfl (by first | exact rf_some _ | exact rfl) ?_
  refine ev_iload_n (pc' := 2) dX1_editOf_1 rfl rfl ?_
  refine x_callV (As := [_]) coX1_find rfl (c_find T hR x) rfl (by decide) (by first | exact Nat.le_of_ble_eq_true rfl | simp [Value.category, rf_cat]) dX1_editOf_2 rfl (pc' := 5) rfl (fun v w hq => ?_)
  obtain ⟨rfl, rfl⟩ := hq
  dsimp only [Option.toList, List.cons_append, List.nil_append]
  cases hl : lk S x with
  | none =>
    show Ev g mdX1_editOf 5 _ [va_rf none] _ _
    refine ev_astore_nE (by first | exact rf_some _ | exact rfl) (pc' := 6) (lv' := [_, _, _]) dX1_editOf_5 rfl (by decide) (by intro w hw; first | exact Or.inl rfl | (right; have hw := Option.some.inj (Option.some.inj hw); subst hw; first | rfl | exact rf_cat _) | cases hw) rfl ?_
    refine ev_aload_nE (pc' := 7) dX1_editOf_6 rfl rfl (by first | exact rf_some _ | exact rfl) ?_
    refine ev_ifnonnullZ (pc' := 10) dX1_editOf_7 rfl ?_
    refine ev_bipush (pc' := 12) (v := (-2)) dX1_editOf_10 rfl (by decide) ?_
    refine ev_iret rfl dX1_editOf_12 ?_
    exact ⟨rfl, rfl⟩
  | some a =>
    have ha := (lk_some hl).1
    have hr := RX.row hR ha
    have hpa := hr.2.2.2.2.2.1
    show Ev g mdX1_editOf 5 _ [.ref (hd a)] _ (fun r w => r = some (.int (if a = 0 then (-6) else edc S a)) ∧ w = _)
    refine ev_astore_nE (by first | exact rf_some _ | exact rfl) (pc' := 6) (lv' := [_, _, _]) dX1_editOf_5 rfl (by decide) (by intro w hw; first | exact Or.inl rfl | (right; have hw := Option.some.inj (Option.some.inj hw); subst hw; first | rfl | exact rf_cat _) | cases hw) rfl ?_
    refine ev_aload_nE (pc' := 7) dX1_editOf_6 rfl rfl (by first | exact rf_some _ | exact rfl) ?_
    refine ev_ifnonnullR (tgt := 13) dX1_editOf_7 (by decide) ?_
    cases hb : spa S a with
    | none =>
      rw [if_pos ((a0_none T ha).mpr hb)]
      rw [hb] at hpa
      refine ev_aload_nE (pc' := 14) dX1_editOf_13 rfl rfl (by first | exact rf_some _ | exact rfl) ?_
      refine gX0_parent rfl hr.1 hpa (pc' := 17) dX1_editOf_14 rfl ?_
      show Ev g mdX1_editOf 17 _ [va_rf none] _ _
      refine ev_ifnonnullZ (pc' := 20) dX1_editOf_17 rfl ?_
      refine ev_bipush (pc' := 22) (v := (-6)) dX1_editOf_20 rfl (by decide) ?_
      refine ev_goto (pc' := 29) dX1_editOf_22 (by decide) ?_
      refine ev_iret rfl dX1_editOf_29 ?_
      exact ⟨rfl, rfl⟩
    | some b =>
      rw [if_neg (fun q => by rw [(a0_none T ha).mp q] at hb; cases hb)]
      rw [hb] at hpa
      refine ev_aload_nE (pc' := 14) dX1_editOf_13 rfl rfl (by first | exact rf_some _ | exact rfl) ?_
      refine gX0_parent rfl hr.1 hpa (pc' := 17) dX1_editOf_14 rfl ?_
      refine ev_ifnonnullR (tgt := 25) dX1_editOf_17 (by decide) ?_
      refine ev_aload_nE (pc' := 26) dX1_editOf_25 rfl rfl (by first | exact rf_some _ | exact rfl) ?_
      refine ev_callS (As := [_]) coX1_editCode (c_editCode hR ha) rfl (by decide) (by first | exact Nat.le_of_ble_eq_true rfl | simp [Value.category, rf_cat]) dX1_editOf_26 rfl (pc' := 29) rfl (fun v w hq => ?_)
      obtain ⟨rfl, rfl⟩ := hq
      dsimp only [Option.toList, List.cons_append, List.nil_append]
      refine ev_iret rfl dX1_editOf_29 ?_
      exact ⟨rfl, rfl⟩
theorem c_xparentOf (T : Tree S) (hR : RX S hd LN LT xt xar xnt xln xcu xck xcp xcl xmk xtl xnu xti xpa xfa xep xel xde xtc) (x : Int32) : Ret g mdX1_parentOf [.ref xo, .int x] (wX g xo an ac am LN LT xt xar xnt xln xcu xck xcp xcl xmk xtl xnu xti xpa xfa xep xel xde xtc) (fun r w => r = some (.int (aPar S x)) ∧ w = (wX g xo an ac am LN LT xt xar xnt xln xcu xck xcp xcl xmk xtl xnu xti xpa xfa xep xel xde xtc)) := by
  refine Ret.of [_, _, _, _] 2 (by decide) (Nat.le_of_ble_eq_true rfl) rfl ?_
  unfold aPar
  refine ev_aload_nE (pc' := 1) dX1_parentOf_0 rfl rfl (by first | exact rf_some _ | exact rfl) ?_
  refine ev_iload_n (pc' := 2) dX1_parentOf_1 rfl rfl ?_
  refine x_callV (As := [_]) coX1_find rfl (c_find T hR x) rfl (by decide) (by first | exact Nat.le_of_ble_eq_true rfl | simp [Value.category, rf_cat]) dX1_parentOf_2 rfl (pc' := 5) rfl (fun v w hq => ?_)
  obtain ⟨rfl, rfl⟩ := hq
  dsimp only [Option.toList, List.cons_append, List.nil_append]
  cases hl : lk S x with
  | none =>
    show Ev g mdX1_parentOf 5 _ [va_rf none] _ _
    refine ev_astore_nE (by first | exact rf_some _ | exact rfl) (pc' := 6) (lv' := [_, _, _, _]) dX1_parentOf_5 rfl (by decide) (by intro w hw; first | exact Or.inl rfl | (right; have hw := Option.some.inj (Option.some.inj hw); subst hw; first | rfl | exact rf_cat _) | cases hw) rfl ?_
    refine ev_aload_nE (pc' := 7) dX1_parentOf_6 rfl rfl (by first | exact rf_some _ | exact rfl) ?_
    refine ev_ifnonnullZ (pc' := 10) dX1_parentOf_7 rfl ?_
    refine ev_bipush (pc' := 12) (v := (-2)) dX1_parentOf_10 rfl (by decide) ?_
    refine ev_iret rfl dX1_parentOf_12 ?_
    exact ⟨rfl, rfl⟩
  | some a =>
    have ha := (lk_some hl).1
    have hr := RX.row hR ha
    have hpa := hr.2.2.2.2.2.1
    show Ev g mdX1_parentOf 5 _ [.ref (hd a)] _ (fun r w => r = some (.int (if a = 0 then (-6) else oI (spa S a))) ∧ w = _)
    refine ev_astore_nE (by first | exact rf_some _ | exact rfl) (pc' := 6) (lv' := [_, _, _, _]) dX1_parentOf_5 rfl (by decide) (by intro w hw; first | exact Or.inl rfl | (right; have hw := Option.some.inj (Option.some.inj hw); subst hw; first | rfl | exact rf_cat _) | cases hw) rfl ?_
    refine ev_aload_nE (pc' := 7) dX1_parentOf_6 rfl rfl (by first | exact rf_some _ | exact rfl) ?_
    refine ev_ifnonnullR (tgt := 13) dX1_parentOf_7 (by decide) ?_
    cases hb : spa S a with
    | none =>
      rw [if_pos ((a0_none T ha).mpr hb)]
      rw [hb] at hpa
      refine ev_aload_nE (pc' := 14) dX1_parentOf_13 rfl rfl (by first | exact rf_some _ | exact rfl) ?_
      refine gX0_parent rfl hr.1 hpa (pc' := 17) dX1_parentOf_14 rfl ?_
      show Ev g mdX1_parentOf 17 _ [va_rf none] _ _
      refine ev_astore_nE (by first | exact rf_some _ | exact rfl) (pc' := 18) (lv' := [_, _, _, _]) dX1_parentOf_17 rfl (by decide) (by intro w hw; first | exact Or.inl rfl | (right; have hw := Option.some.inj (Option.some.inj hw); subst hw; first | rfl | exact rf_cat _) | cases hw) rfl ?_
      refine ev_aload_nE (pc' := 19) dX1_parentOf_18 rfl rfl (by first | exact rf_some _ | exact rfl) ?_
      refine ev_ifnonnullZ (pc' := 22) dX1_parentOf_19 rfl ?_
      refine ev_bipush (pc' := 24) (v := (-6)) dX1_parentOf_22 rfl (by decide) ?_
      refine ev_goto (pc' := 31) dX1_parentOf_24 (by decide) ?_
      refine ev_iret rfl dX1_parentOf_31 ?_
      exact ⟨rfl, rfl⟩
    | some b =>
      have hrb := RX.row hR (T.par ha hb).1
      rw [if_neg (fun q => by rw [(a0_none T ha).mp q] at hb; cases hb)]
      rw [hb] at hpa
      refine ev_aload_nE (pc' := 14) dX1_parentOf_13 rfl rfl (by first | exact rf_some _ | exact rfl) ?_
      refine gX0_parent rfl hr.1 hpa (pc' := 17) dX1_parentOf_14 rfl ?_
      show Ev g mdX1_parentOf 17 _ [.ref (hd b)] _ _
      refine ev_astore_nE (by first | exact rf_some _ | exact rfl) (pc' := 18) (lv' := [_, _, _, _]) dX1_parentOf_17 rfl (by decide) (by intro w hw; first | exact Or.inl rfl | (right; have hw := Option.some.inj (Option.some.inj hw); subst hw; first | rfl | exact rf_cat _) | cases hw) rfl ?_
      refine ev_aload_nE (pc' := 19) dX1_parentOf_18 rfl rfl (by first | exact rf_some _ | exact rfl) ?_
      refine ev_ifnonnullR (tgt := 27) dX1_parentOf_19 (by decide) ?_
      refine ev_aload_nE (pc' := 28) dX1_parentOf_27 rfl rfl (by first | exact rf_some _ | exact rfl) ?_
      refine gX0_number rfl hrb.1 hrb.2.2.2.1 (pc' := 31) dX1_parentOf_28 rfl ?_
      refine ev_iret rfl dX1_parentOf_31 ?_
      exact ⟨rfl, rfl⟩
theorem c_xcharacterOf (I : Inv N S) (hR : RX S hd LN LT xt xar xnt xln xcu xck xcp xcl xmk xtl xnu xti xpa xfa xep xel xde xtc) (x i : Int32) : Ret g mdX1_characterOf [.ref xo, .int x, .int i] (wX g xo an ac am LN LT xt xar xnt xln xcu xck xcp xcl xmk xtl xnu xti xpa xfa xep xel xde xtc) (fun r w => r = some (.int (aChr S x i)) ∧ w = (wX g xo an ac am LN LT xt xar xnt xln xcu xck xcp xcl xmk xtl xnu xti xpa xfa xep xel xde xtc)) := by
  refine Ret.of [_, _, _, _] 1 (by decide) (Nat.le_of_ble_eq_true rfl) rfl ?_
  unfold aChr
  refine ev_aload_nE (pc' := 1) dX1_characterOf_0 rfl rfl (by first | exact rf_some _ | exact rfl) ?_
  refine ev_iload_n (pc' := 2) dX1_characterOf_1 rfl rfl ?_
  refine x_callV (As := [_]) coX1_find rfl (c_find I.T hR x) rfl (by decide) (by first | exact Nat.le_of_ble_eq_true rfl | simp [Value.category, rf_cat]) dX1_characterOf_2 rfl (pc' := 5) rfl (fun v w hq => ?_)
  obtain ⟨rfl, rfl⟩ := hq
  dsimp only [Option.toList, List.cons_append, List.nil_append]
  cases hl : lk S x with
  | none =>
    show Ev g mdX1_characterOf 5 _ [va_rf none] _ _
    refine ev_astore_nE (by first | exact rf_some _ | exact rfl) (pc' := 6) (lv' := [_, _, _, _]) dX1_characterOf_5 rfl (by decide) (by intro w hw; first | exact Or.inl rfl | (right; have hw := Option.some.inj (Option.some.inj hw); subst hw; first | rfl | exact rf_cat _) | cases hw) rfl ?_
    refine ev_aload_nE (pc' := 7) dX1_characterOf_6 rfl rfl (by first | exact rf_some _ | exact rfl) ?_
    refine ev_ifnonnullZ (pc' := 10) dX1_characterOf_7 rfl ?_
    refine ev_bipush (pc' := 12) (v := (-2)) dX1_characterOf_10 rfl (by decide) ?_
    refine ev_iret rfl dX1_characterOf_12 ?_
    exact ⟨rfl, rfl⟩
  | some a =>
    have ha := (lk_some hl).1
    have hr := RX.row hR ha
    have h40 := I.tl ha
    show Ev g mdX1_characterOf 5 _ [.ref (hd a)] _ (fun r w => r = some (.int (if 0 ≤ i ∧ i < nI (stl S a) then stx S a i.toNatClampNeg else (-1))) ∧ w = _)
    refine ev_astore_nE (by first | exact rf_some _ | exact rfl) (pc' := 6) (lv' := [_, _, _, _]) dX1_characterOf_5 rfl (by decide) (by intro w hw; first | exact Or.inl rfl | (right; have hw := Option.some.inj (Option.some.inj hw); subst hw; first | rfl | exact rf_cat _) | cases hw) rfl ?_
    refine ev_aload_nE (pc' := 7) dX1_characterOf_6 rfl rfl (by first | exact rf_some _ | exact rfl) ?_
    refine ev_ifnonnullR (tgt := 13) dX1_characterOf_7 (by decide) ?_
    refine ev_iload_n (pc' := 14) dX1_characterOf_13 rfl rfl ?_
    refine ev_if_lt (tgt := 25) (pc' := 17) dX1_characterOf_14 (by decide) rfl (fun h14 => ?_) (fun h14 => ?_)
    · rw [if_neg (fun q => Int32.not_lt.mpr q.1 h14)]
      refine ev_iconst (pc' := 26) (v := (-1)) dX1_characterOf_25 rfl (by decide) ?_
      refine ev_iret rfl dX1_characterOf_26 ?_
      exact ⟨rfl, rfl⟩
    · refine ev_iload_n (pc' := 18) dX1_characterOf_17 rfl rfl ?_
      refine ev_aload_nE (pc' := 19) dX1_characterOf_18 rfl rfl (by first | exact rf_some _ | exact rfl) ?_
      refine gX0_textLength rfl hr.1 hr.2.2.1 (pc' := 22) dX1_characterOf_19 rfl ?_
      refine ev_icmp_lt (tgt := 27) (pc' := 25) dX1_characterOf_22 (by decide) rfl (fun h22 => ?_) (fun h22 => ?_)
      · rw [if_pos ⟨Int32.not_lt.mp h14, h22⟩]
        obtain ⟨j, hj, rfl⟩ := nI_of h14
        rw [nI_ltI hj (by omega)] at h22
        rw [nI_clamp hj]
        have hT := RX.tin hR hr.1
        have hX := hr.2.2.2.2.2.2.2.2.2.2 j h22
        refine ev_aload_nE (pc' := 28) dX1_characterOf_27 rfl rfl (by first | exact rf_some _ | exact rfl) ?_
        refine gX0_text rfl hr.1 (pc' := 31) dX1_characterOf_28 rfl ?_
        refine ev_iload_n (pc' := 32) dX1_characterOf_31 rfl rfl ?_
        refine xt_cald hT (by omega) hX (pc' := 33) dX1_characterOf_32 rfl ?_
        refine ev_iret rfl dX1_characterOf_33 ?_
        exact ⟨rfl, rfl⟩
      · rw [if_neg (fun q => h22 q.2)]
        refine ev_iconst (pc' := 26) (v := (-1)) dX1_characterOf_25 rfl (by decide) ?_
        refine ev_iret rfl dX1_characterOf_26 ?_
        exact ⟨rfl, rfl⟩
theorem c_xcommonAncestor (T : Tree S) (hR : RX S hd LN LT xt xar xnt xln xcu xck xcp xcl xmk xtl xnu xti xpa xfa xep xel xde xtc) (x y : Int32) : Ret g mdX1_commonAncestor [.ref xo, .int x, .int y] (wX g xo an ac am LN LT xt xar xnt xln xcu xck xcp xcl xmk xtl xnu xti xpa xfa xep xel xde xtc) (fun r w => r = some (.int (aLca S x y)) ∧ w = (wX g xo an ac am LN LT xt xar xnt xln xcu xck xcp xcl xmk xtl xnu xti xpa xfa xep xel xde xtc)) := by
  refine Ret.of [_, _, _, _, _] 2 (by decide) (Nat.le_of_ble_eq_true rfl) rfl ?_
  unfold aLca
  refine ev_aload_nE (pc' := 1) dX1_commonAncestor_0 rfl rfl (by first | exact rf_some _ | exact rfl) ?_
  refine ev_iload_n (pc' := 2) dX1_commonAncestor_1 rfl rfl ?_
  refine x_callV (As := [_]) coX1_find rfl (c_find T hR x) rfl (by decide) (by first | exact Nat.le_of_ble_eq_true rfl | simp [Value.category, rf_cat]) dX1_commonAncestor_2 rfl (pc' := 5) rfl (fun v w hq => ?_)
  obtain ⟨rfl, rfl⟩ := hq
  dsimp only [Option.toList, List.cons_append, List.nil_append]
  cases hl : lk S x with
  | none =>
    show Ev g mdX1_commonAncestor 5 _ [va_rf none] _ (fun r w => r = some (.int (-2)) ∧ w = _)
    refine ev_astore_nE (by first | exact rf_some _ | exact rfl) (pc' := 6) (lv' := [_, _, _, _, _]) dX1_commonAncestor_5 rfl (by decide) (by intro w hw; first | exact Or.inl rfl | (right; have hw := Option.some.inj (Option.some.inj hw); subst hw; first | rfl | exact rf_cat _) | cases hw) rfl ?_
    refine ev_aload_nE (pc' := 7) dX1_commonAncestor_6 rfl rfl (by first | exact rf_some _ | exact rfl) ?_
    refine ev_iload_n (pc' := 8) dX1_commonAncestor_7 rfl rfl ?_
    refine x_callV (As := [_]) coX1_find rfl (c_find T hR y) rfl (by decide) (by first | exact Nat.le_of_ble_eq_true rfl | simp [Value.category, rf_cat]) dX1_commonAncestor_8 rfl (pc' := 11) rfl (fun v w hq => ?_)
    obtain ⟨rfl, rfl⟩ := hq
    dsimp only [Option.toList, List.cons_append, List.nil_append]
    refine ev_astoreE (by first | exact rf_some _ | exact rfl) (pc' := 13) (lv' := [_, _, _, _, _]) dX1_commonAncestor_11 rfl (by decide) (by intro w hw; first | exact Or.inl rfl | (right; have hw := Option.some.inj (Option.some.inj hw); subst hw; first | rfl | exact rf_cat _) | cases hw) rfl ?_
    refine ev_aload_nE (pc' := 14) dX1_commonAncestor_13 rfl rfl (by first | exact rf_some _ | exact rfl) ?_
    refine ev_ifnullZ (tgt := 22) dX1_commonAncestor_14 (by decide) ?_
    refine ev_bipush (pc' := 24) (v := (-2)) dX1_commonAncestor_22 rfl (by decide) ?_
    refine ev_iret rfl dX1_commonAncestor_24 ?_
    exact ⟨rfl, rfl⟩
  | some a =>
    have ha := (lk_some hl).1
    show Ev g mdX1_commonAncestor 5 _ [.ref (hd a)] _ _
    refine ev_astore_nE (by first | exact rf_some _ | exact rfl) (pc' := 6) (lv' := [_, _, _, _, _]) dX1_commonAncestor_5 rfl (by decide) (by intro w hw; first | exact Or.inl rfl | (right; have hw := Option.some.inj (Option.some.inj hw); subst hw; first | rfl | exact rf_cat _) | cases hw) rfl ?_
    refine ev_aload_nE (pc' := 7) dX1_commonAncestor_6 rfl rfl (by first | exact rf_some _ | exact rfl) ?_
    refine ev_iload_n (pc' := 8) dX1_commonAncestor_7 rfl rfl ?_
    refine x_callV (As := [_]) coX1_find rfl (c_find T hR y) rfl (by decide) (by first | exact Nat.le_of_ble_eq_true rfl | simp [Value.category, rf_cat]) dX1_commonAncestor_8 rfl (pc' := 11) rfl (fun v w hq => ?_)
    obtain ⟨rfl, rfl⟩ := hq
    dsimp only [Option.toList, List.cons_append, List.nil_append]
    cases hm : lk S y with
    | none =>
      show Ev g mdX1_commonAncestor 11 _ [va_rf none] _ (fun r w => r = some (.int (-2)) ∧ w = _)
      refine ev_astoreE (by first | exact rf_some _ | exact rfl) (pc' := 13) (lv' := [_, _, _, _, _]) dX1_commonAncestor_11 rfl (by decide) (by intro w hw; first | exact Or.inl rfl | (right; have hw := Option.some.inj (Option.some.inj hw); subst hw; first | rfl | exact rf_cat _) | cases hw) rfl ?_
      refine ev_aload_nE (pc' := 14) dX1_commonAncestor_13 rfl rfl (by first | exact rf_some _ | exact rfl) ?_
      refine ev_ifnullR (pc' := 17) dX1_commonAncestor_14 rfl ?_
      refine ev_aloadE (pc' := 19) dX1_commonAncestor_17 rfl rfl (by first | exact rf_some _ | exact rfl) ?_
      refine ev_ifnonnullZ (pc' := 22) dX1_commonAncestor_19 rfl ?_
      refine ev_bipush (pc' := 24) (v := (-2)) dX1_commonAncestor_22 rfl (by decide) ?_
      refine ev_iret rfl dX1_commonAncestor_24 ?_
      exact ⟨rfl, rfl⟩
    | some b =>
      have hb := (lk_some hm).1
      have hr := RX.row hR (lca_mem T hb a ha)
      show Ev g mdX1_commonAncestor 11 _ [.ref (hd b)] _ (fun r w => r = some (.int (nI (lca S a b))) ∧ w = _)
      refine ev_astoreE (by first | exact rf_some _ | exact rfl) (pc' := 13) (lv' := [_, _, _, _, _]) dX1_commonAncestor_11 rfl (by decide) (by intro w hw; first | exact Or.inl rfl | (right; have hw := Option.some.inj (Option.some.inj hw); subst hw; first | rfl | exact rf_cat _) | cases hw) rfl ?_
      refine ev_aload_nE (pc' := 14) dX1_commonAncestor_13 rfl rfl (by first | exact rf_some _ | exact rfl) ?_
      refine ev_ifnullR (pc' := 17) dX1_commonAncestor_14 rfl ?_
      refine ev_aloadE (pc' := 19) dX1_commonAncestor_17 rfl rfl (by first | exact rf_some _ | exact rfl) ?_
      refine ev_ifnonnullR (tgt := 25) dX1_commonAncestor_19 (by decide) ?_
      refine ev_aload_nE (pc' := 26) dX1_commonAncestor_25 rfl rfl (by first | exact rf_some _ | exact rfl) ?_
      refine ev_aloadE (pc' := 28) dX1_commonAncestor_26 rfl rfl (by first | exact rf_some _ | exact rfl) ?_
      refine ev_callS (As := [_, _]) coX1_lowestCommon (c_lowestCommon T hR ha hb) rfl (by decide) (by first | exact Nat.le_of_ble_eq_true rfl | simp [Value.category, rf_cat]) dX1_commonAncestor_28 rfl (pc' := 31) rfl (fun v w hq => ?_)
      obtain ⟨rfl, rfl⟩ := hq
      dsimp only [Option.toList, List.cons_append, List.nil_append]
      refine gX0_number rfl hr.1 hr.2.2.2.1 (pc' := 34) dX1_commonAncestor_31 rfl ?_
      refine ev_iret rfl dX1_commonAncestor_34 ?_
      exact ⟨rfl, rfl⟩
theorem c_xdistance (T : Tree S) (hR : RX S hd LN LT xt xar xnt xln xcu xck xcp xcl xmk xtl xnu xti xpa xfa xep xel xde xtc) (x y : Int32) : Ret g mdX1_distance [.ref xo, .int x, .int y] (wX g xo an ac am LN LT xt xar xnt xln xcu xck xcp xcl xmk xtl xnu xti xpa xfa xep xel xde xtc) (fun r w => r = some (.int (aDis S x y)) ∧ w = (wX g xo an ac am LN LT xt xar xnt xln xcu xck xcp xcl xmk xtl xnu xti xpa xfa xep xel xde xtc)) := by
  refine Ret.of [_, _, _, _, _] 2 (by decide) (Nat.le_of_ble_eq_true rfl) rfl ?_
  unfold aDis
  refine ev_aload_nE (pc' := 1) dX1_distance_0 rfl rfl (by first | exact rf_some _ | exact rfl) ?_
  refine ev_iload_n (pc' := 2) dX1_distance_1 rfl rfl ?_
  refine x_callV (As := [_]) coX1_find rfl (c_find T hR x) rfl (by decide) (by first | exact Nat.le_of_ble_eq_true rfl | simp [Value.category, rf_cat]) dX1_distance_2 rfl (pc' := 5) rfl (fun v w hq => ?_)
  obtain ⟨rfl, rfl⟩ := hq
  dsimp only [Option.toList, List.cons_append, List.nil_append]
  cases hl : lk S x with
  | none =>
    show Ev g mdX1_distance 5 _ [va_rf none] _ (fun r w => r = some (.int (-2)) ∧ w = _)
    refine ev_astore_nE (by first | exact rf_some _ | exact rfl) (pc' := 6) (lv' := [_, _, _, _, _]) dX1_distance_5 rfl (by decide) (by intro w hw; first | exact Or.inl rfl | (right; have hw := Option.some.inj (Option.some.inj hw); subst hw; first | rfl | exact rf_cat _) | cases hw) rfl ?_
    refine ev_aload_nE (pc' := 7) dX1_distance_6 rfl rfl (by first | exact rf_some _ | exact rfl) ?_
    refine ev_iload_n (pc' := 8) dX1_distance_7 rfl rfl ?_
    refine x_callV (As := [_]) coX1_find rfl (c_find T hR y) rfl (by decide) (by first | exact Nat.le_of_ble_eq_true rfl | simp [Value.category, rf_cat]) dX1_distance_8 rfl (pc' := 11) rfl (fun v w hq => ?_)
    obtain ⟨rfl, rfl⟩ := hq
    dsimp only [Option.toList, List.cons_append, List.nil_append]
    refine ev_astoreE (by first | exact rf_some _ | exact rfl) (pc' := 13) (lv' := [_, _, _, _, _]) dX1_distance_11 rfl (by decide) (by intro w hw; first | exact Or.inl rfl | (right; have hw := Option.some.inj (Option.some.inj hw); subst hw; first | rfl | exact rf_cat _) | cases hw) rfl ?_
    refine ev_aload_nE (pc' := 14) dX1_distance_13 rfl rfl (by first | exact rf_some _ | exact rfl) ?_
    refine ev_ifnullZ (tgt := 22) dX1_distance_14 (by decide) ?_
    refine ev_bipush (pc' := 24) (v := (-2)) dX1_distance_22 rfl (by decide) ?_
    refine ev_iret rfl dX1_distance_24 ?_
    exact ⟨rfl, rfl⟩
  | some a =>
    have ha := (lk_some hl).1
    show Ev g mdX1_distance 5 _ [.ref (hd a)] _ _
    refine ev_astore_nE (by first | exact rf_some _ | exact rfl) (pc' := 6) (lv' := [_, _, _, _, _]) dX1_distance_5 rfl (by decide) (by intro w hw; first | exact Or.inl rfl | (right; have hw := Option.some.inj (Option.some.inj hw); subst hw; first | rfl | exact rf_cat _) | cases hw) rfl ?_
    refine ev_aload_nE (pc' := 7) dX1_distance_6 rfl rfl (by first | exact rf_some _ | exact rfl) ?_
    refine ev_iload_n (pc' := 8) dX1_distance_7 rfl rfl ?_
    refine x_callV (As := [_]) coX1_find rfl (c_find T hR y) rfl (by decide) (by first | exact Nat.le_of_ble_eq_true rfl | simp [Value.category, rf_cat]) dX1_distance_8 rfl (pc' := 11) rfl (fun v w hq => ?_)
    obtain ⟨rfl, rfl⟩ := hq
    dsimp only [Option.toList, List.cons_append, List.nil_append]
    cases hm : lk S y with
    | none =>
      show Ev g mdX1_distance 11 _ [va_rf none] _ (fun r w => r = some (.int (-2)) ∧ w = _)
      refine ev_astoreE (by first | exact rf_some _ | exact rfl) (pc' := 13) (lv' := [_, _, _, _, _]) dX1_distance_11 rfl (by decide) (by intro w hw; first | exact Or.inl rfl | (right; have hw := Option.some.inj (Option.some.inj hw); subst hw; first | rfl | exact rf_cat _) | cases hw) rfl ?_
      refine ev_aload_nE (pc' := 14) dX1_distance_13 rfl rfl (by first | exact rf_some _ | exact rfl) ?_
      refine ev_ifnullR (pc' := 17) dX1_distance_14 rfl ?_
      refine ev_aloadE (pc' := 19) dX1_distance_17 rfl rfl (by first | exact rf_some _ | exact rfl) ?_
      refine ev_ifnonnullZ (pc' := 22) dX1_distance_19 rfl ?_
      refine ev_bipush (pc' := 24) (v := (-2)) dX1_distance_22 rfl (by decide) ?_
      refine ev_iret rfl dX1_distance_24 ?_
      exact ⟨rfl, rfl⟩
    | some b =>
      have hb := (lk_some hm).1
      show Ev g mdX1_distance 11 _ [.ref (hd b)] _ (fun r w => r = some (.int (farS S a b)) ∧ w = _)
      refine ev_astoreE (by first | exact rf_some _ | exact rfl) (pc' := 13) (lv' := [_, _, _, _, _]) dX1_distance_11 rfl (by decide) (by intro w hw; first | exact Or.inl rfl | (right; have hw := Option.some.inj (Option.some.inj hw); subst hw; first | rfl | exact rf_cat _) | cases hw) rfl ?_
      refine ev_aload_nE (pc' := 14) dX1_distance_13 rfl rfl (by first | exact rf_some _ | exact rfl) ?_
      refine ev_ifnullR (pc' := 17) dX1_distance_14 rfl ?_
      refine ev_aloadE (pc' := 19) dX1_distance_17 rfl rfl (by first | exact rf_some _ | exact rfl) ?_
      refine ev_ifnonnullR (tgt := 25) dX1_distance_19 (by decide) ?_
      refine ev_aload_nE (pc' := 26) dX1_distance_25 rfl rfl (by first | exact rf_some _ | exact rfl) ?_
      refine ev_aloadE (pc' := 28) dX1_distance_26 rfl rfl (by first | exact rf_some _ | exact rfl) ?_
      refine ev_callS (As := [_, _]) coX1_stepsBetween (c_steps T hR ha hb) rfl (by decide) (by first | exact Nat.le_of_ble_eq_true rfl | simp [Value.category, rf_cat]) dX1_distance_28 rfl (pc' := 31) rfl (fun v w hq => ?_)
      obtain ⟨rfl, rfl⟩ := hq
      dsimp only [Option.toList, List.cons_append, List.nil_append]
      refine ev_iret rfl dX1_distance_31 ?_
      exact ⟨rfl, rfl⟩
theorem pa_eq (T : Tree S) (hR : RX S hd LN LT xt xar xnt xln xcu xck xcp xcl xmk xtl xnu xti xpa xfa xep xel xde xtc) {b a : Nat} (hb : b ∈ sL S) (ha : a ∈ sL S) : (spa S b).map hd = some (hd a) ↔ spa S b = some a := by
  cases h : spa S b with
  | none => exact ⟨fun q => absurd q (by simp), fun q => absurd q (by simp)⟩
  | some c => exact ⟨fun q => by rw [RX.inj hR (T.par hb h).1 ha (Option.some.inj q)], fun q => by cases q; rfl⟩
theorem chd_x (T : Tree S) (hR : RX S hd LN LT xt xar xnt xln xcu xck xcp xcl xmk xtl xnu xti xpa xfa xep xel xde xtc) {a : Nat} (ha : a ∈ sL S) (x i : Int32) : ∀ (m k n : Nat), k + m = (sL S).length → Ev g mdX1_childOf 19 [some (.ref xo), some (.int x), some (.int i), some (.ref (hd a)), some (.int (nI n)), some (.int (nI k))] [] (wX g xo an ac am LN LT xt xar xnt xln xcu xck xcp xcl xmk xtl xnu xti xpa xfa xep xel xde xtc) (fun r w => r = some (.int (chO (spa S) a i ((sL S).drop k) n)) ∧ w = (wX g xo an ac am LN LT xt xar xnt xln xcu xck xcp xcl xmk xtl xnu xti xpa xfa xep xel xde xtc)) := by
  intro m
  have hlen := T.len
  induction m with
  | zero =>
    intro k n hk
    refine ev_iload (pc' := 21) dX1_childOf_19 rfl rfl ?_
    refine ev_aload_nE (pc' := 22) dX1_childOf_21 rfl rfl (by first | exact rf_some _ | exact rfl) ?_
    refine gX1_nodeTotal rfl (pc' := 25) dX1_childOf_22 rfl ?_
    refine ev_icmp_ge (tgt := 68) (pc' := 28) dX1_childOf_25 (by decide) rfl (fun h25 => ?_) (fun h25 => ?_)
    · refine ev_bipush (pc' := 70) (v := (-7)) dX1_childOf_68 rfl (by decide) ?_
      refine ev_iret rfl dX1_childOf_70 ?_
      rw [drop_end hk]
      exact ⟨rfl, rfl⟩
    · rw [hR.1] at h25
      exact absurd (nI_le (by omega) (by omega)) h25
  | succ m ih =>
    intro k n hk
    obtain ⟨b, hb, rfl⟩ := ix_at T (show k < (sL S).length by omega)
    have hr := RX.row hR hb
    rw [drop_ix hb]
    unfold chO
    refine ev_iload (pc' := 21) dX1_childOf_19 rfl rfl ?_
    refine ev_aload_nE (pc' := 22) dX1_childOf_21 rfl rfl (by first | exact rf_some _ | exact rfl) ?_
    refine gX1_nodeTotal rfl (pc' := 25) dX1_childOf_22 rfl ?_
    refine ev_icmp_ge (tgt := 68) (pc' := 28) dX1_childOf_25 (by decide) rfl (fun h25 => ?_) (fun h25 => ?_)
    · rw [hR.1] at h25
      exact absurd h25 (nI_ge (by omega) (by omega))
    · refine ev_aload_nE (pc' := 29) dX1_childOf_28 rfl rfl (by first | exact rf_some _ | exact rfl) ?_
      refine gX1_nodes rfl (pc' := 32) dX1_childOf_29 rfl ?_
      refine ev_iload (pc' := 34) dX1_childOf_32 rfl rfl ?_
      refine x_nodes_get (by omega) hr.2.1 (pc' := 35) dX1_childOf_34 rfl ?_
      refine gX0_parent rfl hr.1 hr.2.2.2.2.2.1 (pc' := 38) dX1_childOf_35 rfl ?_
      refine ev_aload_nE (pc' := 39) dX1_childOf_38 rfl rfl (by first | exact rf_some _ | exact rfl) ?_
      refine ev_acmp_neE (by first | exact rf_some _ | exact rfl) (by first | exact rf_some _ | exact rfl) (tgt := 62) (pc' := 42) dX1_childOf_39 (by decide) rfl (fun h39 => ?_) (fun h39 => ?_)
      · rw [pa_eq T hR hb ha] at h39
        rw [if_neg h39]
        refine ev_iinc (pc' := 65) (lv' := [_, _, _, _, _, _]) dX1_childOf_62 rfl rfl (nI_1 _) (by decide) (by intro w hw; first | exact Or.inl rfl | (right; have hw := Option.some.inj (Option.some.inj hw); subst hw; first | rfl | exact rf_cat _) | cases hw) rfl ?_
        refine ev_goto (pc' := 19) dX1_childOf_65 (by decide) ?_
        exact ih (ix S b + 1) n (by omega)
      · rw [pa_eq T hR hb ha] at h39
        rw [if_pos h39]
        refine ev_iload (pc' := 44) dX1_childOf_42 rfl rfl ?_
        refine ev_iload_n (pc' := 45) dX1_childOf_44 rfl rfl ?_
        refine ev_icmp_ne (tgt := 59) (pc' := 48) dX1_childOf_45 (by decide) rfl (fun h45 => ?_) (fun h45 => ?_)
        · rw [if_neg h45]
          refine ev_iinc (pc' := 62) (lv' := [_, _, _, _, _, _]) dX1_childOf_59 rfl rfl (nI_1 _) (by decide) (by intro w hw; first | exact Or.inl rfl | (right; have hw := Option.some.inj (Option.some.inj hw); subst hw; first | rfl | exact rf_cat _) | cases hw) rfl ?_
          refine ev_iinc (pc' := 65) (lv' := [_, _, _, _, _, _]) dX1_childOf_62 rfl rfl (nI_1 _) (by decide) (by intro w hw; first | exact Or.inl rfl | (right; have hw := Option.some.inj (Option.some.inj hw); subst hw; first | rfl | exact rf_cat _) | cases hw) rfl ?_
          refine ev_goto (pc' := 19) dX1_childOf_65 (by decide) ?_
          exact ih (ix S b + 1) (n + 1) (by omega)
        · rw [if_pos h45]
          refine ev_aload_nE (pc' := 49) dX1_childOf_48 rfl rfl (by first | exact rf_some _ | exact rfl) ?_
          refine gX1_nodes rfl (pc' := 52) dX1_childOf_49 rfl ?_
          refine ev_iload (pc' := 54) dX1_childOf_52 rfl rfl ?_
          refine x_nodes_get (by omega) hr.2.1 (pc' := 55) dX1_childOf_54 rfl ?_
          refine gX0_number rfl hr.1 hr.2.2.2.1 (pc' := 58) dX1_childOf_55 rfl ?_
          refine ev_iret rfl dX1_childOf_58 ?_
          exact ⟨rfl, rfl⟩
theorem c_xchildOf (T : Tree S) (hR : RX S hd LN LT xt xar xnt xln xcu xck xcp xcl xmk xtl xnu xti xpa xfa xep xel xde xtc) (x i : Int32) : Ret g mdX1_childOf [.ref xo, .int x, .int i] (wX g xo an ac am LN LT xt xar xnt xln xcu xck xcp xcl xmk xtl xnu xti xpa xfa xep xel xde xtc) (fun r w => r = some (.int (aChild S x i)) ∧ w = (wX g xo an ac am LN LT xt xar xnt xln xcu xck xcp xcl xmk xtl xnu xti xpa xfa xep xel xde xtc)) := by
  refine Ret.of [_, _, _, _, _, _] 3 (by decide) (Nat.le_of_ble_eq_true rfl) rfl ?_
  unfold aChild
  refine ev_aload_nE (pc' := 1) dX1_childOf_0 rfl rfl (by first | exact rf_some _ | exact rfl) ?_
  refine ev_iload_n (pc' := 2) dX1_childOf_1 rfl rfl ?_
  refine x_callV (As := [_]) coX1_find rfl (c_find T hR x) rfl (by decide) (by first | exact Nat.le_of_ble_eq_true rfl | simp [Value.category, rf_cat]) dX1_childOf_2 rfl (pc' := 5) rfl (fun v w hq => ?_)
  obtain ⟨rfl, rfl⟩ := hq
  dsimp only [Option.toList, List.cons_append, List.nil_append]
  cases hl : lk S x with
  | none =>
    show Ev g mdX1_childOf 5 _ [va_rf none] _ _
    refine ev_astore_nE (by first | exact rf_some _ | exact rfl) (pc' := 6) (lv' := [_, _, _, _, _, _]) dX1_childOf_5 rfl (by decide) (by intro w hw; first | exact Or.inl rfl | (right; have hw := Option.some.inj (Option.some.inj hw); subst hw; first | rfl | exact rf_cat _) | cases hw) rfl ?_
    refine ev_aload_nE (pc' := 7) dX1_childOf_6 rfl rfl (by first | exact rf_some _ | exact rfl) ?_
    refine ev_ifnonnullZ (pc' := 10) dX1_childOf_7 rfl ?_
    refine ev_bipush (pc' := 12) (v := (-2)) dX1_childOf_10 rfl (by decide) ?_
    refine ev_iret rfl dX1_childOf_12 ?_
    exact ⟨rfl, rfl⟩
  | some a =>
    show Ev g mdX1_childOf 5 _ [.ref (hd a)] _ _
    refine ev_astore_nE (by first | exact rf_some _ | exact rfl) (pc' := 6) (lv' := [_, _, _, _, _, _]) dX1_childOf_5 rfl (by decide) (by intro w hw; first | exact Or.inl rfl | (right; have hw := Option.some.inj (Option.some.inj hw); subst hw; first | rfl | exact rf_cat _) | cases hw) rfl ?_
    refine ev_aload_nE (pc' := 7) dX1_childOf_6 rfl rfl (by first | exact rf_some _ | exact rfl) ?_
    refine ev_ifnonnullR (tgt := 13) dX1_childOf_7 (by decide) ?_
    refine ev_iconst (pc' := 14) (v := nI 0) dX1_childOf_13 rfl (by decide) ?_
    refine ev_istore (pc' := 16) (lv' := [_, _, _, _, _, _]) dX1_childOf_14 rfl (by decide) (by intro w hw; first | exact Or.inl rfl | (right; have hw := Option.some.inj (Option.some.inj hw); subst hw; first | rfl | exact rf_cat _) | cases hw) rfl ?_
    refine ev_iconst (pc' := 17) (v := nI 0) dX1_childOf_16 rfl (by decide) ?_
    refine ev_istore (pc' := 19) (lv' := [_, _, _, _, _, _]) dX1_childOf_17 rfl (by decide) (by intro w hw; first | exact Or.inl rfl | (right; have hw := Option.some.inj (Option.some.inj hw); subst hw; first | rfl | exact rf_cat _) | cases hw) rfl ?_
    exact chd_x T hR (lk_some hl).1 x i (sL S).length 0 0 (by omega)
theorem old_x (I : Inv N S) (hR : RX S hd LN LT xt xar xnt xln xcu xck xcp xcl xmk xtl xnu xti xpa xfa xep xel xde xtc) : ∀ (m k : Nat) (b : Option Nat), k + m = (sL S).length → (∀ e, b = some e → e ∈ sL S) → Ev g mdX1_oldestLeaf 4 [some (.ref xo), some (va_rf (b.map hd)), some (.int (nI k)), none] [] (wX g xo an ac am LN LT xt xar xnt xln xcu xck xcp xcl xmk xtl xnu xti xpa xfa xep xel xde xtc) (fun r w => r = some (.int (oI (oldF S ((sL S).drop k) b))) ∧ w = (wX g xo an ac am LN LT xt xar xnt xln xcu xck xcp xcl xmk xtl xnu xti xpa xfa xep xel xde xtc)) := by
  intro m
  have T := I.T
  have hlen := T.len
  induction m with
  | zero =>
    intro k b hk hb
    rw [drop_end hk]
    show Ev g mdX1_oldestLeaf 4 _ [] _ (fun r w => r = some (.int (oI b)) ∧ w = _)
    refine ev_iload_n (pc' := 5) dX1_oldestLeaf_4 rfl rfl ?_
    refine ev_aload_nE (pc' := 6) dX1_oldestLeaf_5 rfl rfl (by first | exact rf_some _ | exact rfl) ?_
    refine gX1_nodeTotal rfl (pc' := 9) dX1_oldestLeaf_6 rfl ?_
    refine ev_icmp_ge (tgt := 50) (pc' := 12) dX1_oldestLeaf_9 (by decide) rfl (fun h9 => ?_) (fun h9 => ?_)
    · refine ev_aload_nE (pc' := 51) dX1_oldestLeaf_50 rfl rfl (by first | exact rf_some _ | exact rfl) ?_
      refine ev_callS (As := [_]) coX1_numberOrNone (c_non hR b hb) rfl (by decide) (by first | exact Nat.le_of_ble_eq_true rfl | simp [Value.category, rf_cat]) dX1_oldestLeaf_51 rfl (pc' := 54) rfl (fun v w hq => ?_)
      obtain ⟨rfl, rfl⟩ := hq
      dsimp only [Option.toList, List.cons_append, List.nil_append]
      refine ev_iret rfl dX1_oldestLeaf_54 ?_
      exact ⟨rfl, rfl⟩
    · rw [hR.1] at h9
      exact absurd (nI_le (by omega) (by omega)) h9
  | succ m ih =>
    intro k b hk hb
    obtain ⟨c, hc, rfl⟩ := ix_at T (show k < (sL S).length by omega)
    have hr := RX.row hR hc
    rw [drop_ix hc]
    unfold oldF
    have skip : ¬ (loose S c = true ∧ (∀ e, b = some e → nI (sti S c) < nI (sti S e))) → Ev g mdX1_oldestLeaf 44 [some (.ref xo), some (va_rf (b.map hd)), some (.int (nI (ix S c))), some (.ref (hd c))] [] (wX g xo an ac am LN LT xt xar xnt xln xcu xck xcp xcl xmk xtl xnu xti xpa xfa xep xel xde xtc) (fun r w => r = some (.int (oI (oldF S ((sL S).drop (ix S c + 1)) (if loose S c = true ∧ (∀ e, b = some e → nI (sti S c) < nI (sti S e)) then some c else b)))) ∧ w = (wX g xo an ac am LN LT xt xar xnt xln xcu xck xcp xcl xmk xtl xnu xti xpa xfa xep xel xde xtc)) := by
      intro h
      rw [if_neg h]
      refine ev_iinc (pc' := 47) (lv' := [_, _, _, _]) dX1_oldestLeaf_44 rfl rfl (nI_1 _) (by decide) (by intro w hw; first | exact Or.inl rfl | (right; have hw := Option.some.inj (Option.some.inj hw); subst hw; first | rfl | exact rf_cat _) | cases hw) rfl ?_
      refine ev_goto (pc' := 4) dX1_oldestLeaf_47 (by decide) ?_
      refine Ev.weak [some (.ref xo), some (va_rf (b.map hd)), some (.int (nI (ix S c + 1))), none] (lw_le_get _ _ (by simp [lw_le])) ?_
      exact ih (ix S c + 1) b (by omega) hb
    have take : (loose S c = true ∧ (∀ e, b = some e → nI (sti S c) < nI (sti S e))) → Ev g mdX1_oldestLeaf 42 [some (.ref xo), some (va_rf (b.map hd)), some (.int (nI (ix S c))), some (.ref (hd c))] [] (wX g xo an ac am LN LT xt xar xnt xln xcu xck xcp xcl xmk xtl xnu xti xpa xfa xep xel xde xtc) (fun r w => r = some (.int (oI (oldF S ((sL S).drop (ix S c + 1)) (if loose S c = true ∧ (∀ e, b = some e → nI (sti S c) < nI (sti S e)) then some c else b)))) ∧ w = (wX g xo an ac am LN LT xt xar xnt xln xcu xck xcp xcl xmk xtl xnu xti xpa xfa xep xel xde xtc)) := by
      intro h
      rw [if_pos h]
      refine ev_aload_nE (pc' := 43) dX1_oldestLeaf_42 rfl rfl (by first | exact rf_some _ | exact rfl) ?_
      refine ev_astore_nE (by first | exact rf_some _ | exact rfl) (pc' := 44) (lv' := [_, _, _, _]) dX1_oldestLeaf_43 rfl (by decide) (by intro w hw; first | exact Or.inl rfl | (right; have hw := Option.some.inj (Option.some.inj hw); subst hw; first | rfl | exact rf_cat _) | cases hw) rfl ?_
      refine ev_iinc (pc' := 47) (lv' := [_, _, _, _]) dX1_oldestLeaf_44 rfl rfl (nI_1 _) (by decide) (by intro w hw; first | exact Or.inl rfl | (right; have hw := Option.some.inj (Option.some.inj hw); subst hw; first | rfl | exact rf_cat _) | cases hw) rfl ?_
      refine ev_goto (pc' := 4) dX1_oldestLeaf_47 (by decide) ?_
      refine Ev.weak [some (.ref xo), some (va_rf ((some c).map hd)), some (.int (nI (ix S c + 1))), none] (lw_le_get _ _ ⟨rfl, rfl, rfl, trivial⟩) ?_
      exact ih (ix S c + 1) (some c) (by omega) (fun e he => by cases he; exact hc)
    refine ev_iload_n (pc' := 5) dX1_oldestLeaf_4 rfl rfl ?_
    refine ev_aload_nE (pc' := 6) dX1_oldestLeaf_5 rfl rfl (by first | exact rf_some _ | exact rfl) ?_
    refine gX1_nodeTotal rfl (pc' := 9) dX1_oldestLeaf_6 rfl ?_
    refine ev_icmp_ge (tgt := 50) (pc' := 12) dX1_oldestLeaf_9 (by decide) rfl (fun h9 => ?_) (fun h9 => ?_)
    · rw [hR.1] at h9
      exact absurd h9 (nI_ge (by omega) (by omega))
    · refine ev_aload_nE (pc' := 13) dX1_oldestLeaf_12 rfl rfl (by first | exact rf_some _ | exact rfl) ?_
      refine gX1_nodes rfl (pc' := 16) dX1_oldestLeaf_13 rfl ?_
      refine ev_iload_n (pc' := 17) dX1_oldestLeaf_16 rfl rfl ?_
      refine x_nodes_get (by omega) hr.2.1 (pc' := 18) dX1_oldestLeaf_17 rfl ?_
      show Ev g mdX1_oldestLeaf 18 _ [.ref (hd c)] _ _
      refine ev_astore_nE (by first | exact rf_some _ | exact rfl) (pc' := 19) (lv' := [_, _, _, _]) dX1_oldestLeaf_18 rfl (by decide) (by intro w hw; first | exact Or.inl rfl | (right; have hw := Option.some.inj (Option.some.inj hw); subst hw; first | rfl | exact rf_cat _) | cases hw) rfl ?_
      refine ev_aload_nE (pc' := 20) dX1_oldestLeaf_19 rfl rfl (by first | exact rf_some _ | exact rfl) ?_
      refine ev_aload_nE (pc' := 21) dX1_oldestLeaf_20 rfl rfl (by first | exact rf_some _ | exact rfl) ?_
      refine x_callV (As := [_]) coX1_isForgettable rfl (c_isForgettable I hR hc) rfl (by decide) (by first | exact Nat.le_of_ble_eq_true rfl | simp [Value.category, rf_cat]) dX1_oldestLeaf_21 rfl (pc' := 24) rfl (fun v w hq => ?_)
      obtain ⟨rfl, rfl⟩ := hq
      dsimp only [Option.toList, List.cons_append, List.nil_append]
      refine ev_if_eq (tgt := 44) (pc' := 27) dX1_oldestLeaf_24 (by decide) rfl (fun h24 => ?_) (fun h24 => ?_)
      · rw [bI_eq] at h24
        exact skip (fun q => by rw [h24] at q; exact absurd q.1 (by decide))
      · rw [bI_ne] at h24
        cases b with
        | none =>
          show Ev g mdX1_oldestLeaf 27 [_, some (va_rf none), _, _] [] _ _
          refine ev_aload_nE (pc' := 28) dX1_oldestLeaf_27 rfl rfl (by first | exact rf_some _ | exact rfl) ?_
          refine ev_ifnullZ (tgt := 42) dX1_oldestLeaf_28 (by decide) ?_
          exact take ⟨h24, fun e he => by cases he⟩
        | some e =>
          have he := hb e rfl
          have hre := RX.row hR he
          show Ev g mdX1_oldestLeaf 27 [_, some (.ref (hd e)), _, _] [] _ _
          refine ev_aload_nE (pc' := 28) dX1_oldestLeaf_27 rfl rfl (by first | exact rf_some _ | exact rfl) ?_
          refine ev_ifnullR (pc' := 31) dX1_oldestLeaf_28 rfl ?_
          refine ev_aload_nE (pc' := 32) dX1_oldestLeaf_31 rfl rfl (by first | exact rf_some _ | exact rfl) ?_
          refine gX0_time rfl hr.1 hr.2.2.2.2.1 (pc' := 35) dX1_oldestLeaf_32 rfl ?_
          refine ev_aload_nE (pc' := 36) dX1_oldestLeaf_35 rfl rfl (by first | exact rf_some _ | exact rfl) ?_
          refine gX0_time rfl hre.1 hre.2.2.2.2.1 (pc' := 39) dX1_oldestLeaf_36 rfl ?_
          refine ev_icmp_ge (tgt := 44) (pc' := 42) dX1_oldestLeaf_39 (by decide) rfl (fun h39 => ?_) (fun h39 => ?_)
          · exact skip (fun q => Int32.not_lt.mpr h39 (q.2 e rfl))
          · exact take ⟨h24, fun e' he' => by cases he'; exact Int32.not_le.mp h39⟩
theorem c_xoldestLeaf (I : Inv N S) (hR : RX S hd LN LT xt xar xnt xln xcu xck xcp xcl xmk xtl xnu xti xpa xfa xep xel xde xtc) : Ret g mdX1_oldestLeaf [.ref xo] (wX g xo an ac am LN LT xt xar xnt xln xcu xck xcp xcl xmk xtl xnu xti xpa xfa xep xel xde xtc) (fun r w => r = some (.int (aOld S)) ∧ w = (wX g xo an ac am LN LT xt xar xnt xln xcu xck xcp xcl xmk xtl xnu xti xpa xfa xep xel xde xtc)) := by
  refine Ret.of [_, _, _, _] 3 (by decide) (Nat.le_of_ble_eq_true rfl) rfl ?_
  refine ev_null (pc' := 1) dX1_oldestLeaf_0 rfl ?_
  refine ev_astore_nE (by first | exact rf_some _ | exact rfl) (pc' := 2) (lv' := [_, _, _, _]) dX1_oldestLeaf_1 rfl (by decide) (by intro w hw; first | exact Or.inl rfl | (right; have hw := Option.some.inj (Option.some.inj hw); subst hw; first | rfl | exact rf_cat _) | cases hw) rfl ?_
  refine ev_iconst (pc' := 3) (v := nI 0) dX1_oldestLeaf_2 rfl (by decide) ?_
  refine ev_istore_n (pc' := 4) (lv' := [_, _, _, _]) dX1_oldestLeaf_3 rfl (by decide) (by intro w hw; first | exact Or.inl rfl | (right; have hw := Option.some.inj (Option.some.inj hw); subst hw; first | rfl | exact rf_cat _) | cases hw) rfl ?_
  exact old_x I hR (sL S).length 0 none (by omega) (fun e he => by cases he)
end X2
