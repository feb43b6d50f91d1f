/-! ===== the landed class: what is read ===== -/
section X1
variable {g : EG} {xo an ac am : Nat} {LN LT : List Nat} {xt : Nat → Nat} {xar : Nat → Option Nat} {xnt xln : Int32} {xcu : Nat} {xck : Int32} {xcp : Nat → Int32} {xcl : Int32} {xmk : Nat → Option Nat} {xtl xnu xti : Nat → Int32} {xpa xfa : Nat → Option Nat} {xep xel xde : Nat → Int32} {xtc : Nat → Nat → Int32}
variable {S : SS} {hd : Nat → Nat} {N : Nat} {Ph : Option Value → va_W → Prop}
theorem find_loop (T : Tree S) (hR : RX S hd LN LT xt xar xnt xln xcu xck xcp xcl xmk xtl xnu xti xpa xfa xep xel xde xtc) {x : Int32} : ∀ (m k : Nat), k + m = (sL S).length → Ev g mdX1_find 2 [some (.ref xo), some (.int x), some (.int (nI k))] [] (wX g xo an ac am LN LT xt xar xnt xln xcu xck xcp xcl xmk xtl xnu xti xpa xfa xep xel xde xtc) (fun r w => r = some (va_rf ((((sL S).drop k).find? (fun a => decide (nI a = x))).map hd)) ∧ w = (wX g xo an ac am LN LT xt xar xnt xln xcu xck xcp xcl xmk xtl xnu xti xpa xfa xep xel xde xtc)) := by
  have hlen := T.len
  intro m
  induction m with
  | zero =>
    intro k hk
    rw [drop_end hk]
    refine ev_iload_n (pc' := 3) dX1_find_2 rfl rfl ?_
    refine ev_aload_nE (pc' := 4) dX1_find_3 rfl rfl (by first | exact rf_some _ | exact rfl) ?_
    refine gX1_nodeTotal rfl (pc' := 7) dX1_find_4 rfl ?_
    refine ev_icmp_ge (tgt := 36) (pc' := 10) dX1_find_7 (by decide) rfl (fun h7 => ?_) (fun h7 => ?_)
    · refine ev_null (pc' := 37) dX1_find_36 rfl ?_
      refine ev_aretE (nm := "EditTree$Node") (by first | exact rf_some _ | exact rfl) rfl dX1_find_37 ?_
      exact ⟨rfl, rfl⟩
    · rw [hR.1] at h7
      exact absurd (nI_le (by omega) (by omega)) h7
  | succ m ih =>
    intro k hk
    refine ev_iload_n (pc' := 3) dX1_find_2 rfl rfl ?_
    refine ev_aload_nE (pc' := 4) dX1_find_3 rfl rfl (by first | exact rf_some _ | exact rfl) ?_
    refine gX1_nodeTotal rfl (pc' := 7) dX1_find_4 rfl ?_
    refine ev_icmp_ge (tgt := 36) (pc' := 10) dX1_find_7 (by decide) rfl (fun h7 => ?_) (fun h7 => ?_)
    · rw [hR.1] at h7
      exact absurd h7 (nI_ge (by omega) (by omega))
    · obtain ⟨b, hb, rfl⟩ := ix_at T (show k < (sL S).length by omega)
      have hr := RX.row hR hb
      have hbL := hr.1
      rw [drop_ix hb]
      refine ev_aload_nE (pc' := 11) dX1_find_10 rfl rfl (by first | exact rf_some _ | exact rfl) ?_
      refine gX1_nodes rfl (pc' := 14) dX1_find_11 rfl ?_
      refine ev_iload_n (pc' := 15) dX1_find_14 rfl rfl ?_
      refine x_nodes_get (by omega) hr.2.1 (pc' := 16) dX1_find_15 rfl ?_
      refine gX0_number rfl hbL hr.2.2.2.1 (pc' := 19) dX1_find_16 rfl ?_
      refine ev_iload_n (pc' := 20) dX1_find_19 rfl rfl ?_
      refine ev_icmp_ne (tgt := 30) (pc' := 23) dX1_find_20 (by decide) rfl (fun h20 => ?_) (fun h20 => ?_)
      · refine ev_iinc (pc' := 33) (lv' := [_, _, _]) dX1_find_30 rfl rfl (nI_1 _) (by decide) (by intro w hw; first | exact Or.inl rfl | (right; have hw := Option.some.inj (Option.some.inj hw); subst hw; first | rfl | exact rf_cat _) | cases hw) rfl ?_
        refine ev_goto (pc' := 2) dX1_find_33 (by decide) ?_
        rw [List.find?_cons_of_neg (by simpa using h20)]
        exact ih (ix S b + 1) (by omega)
      · refine ev_aload_nE (pc' := 24) dX1_find_23 rfl rfl (by first | exact rf_some _ | exact rfl) ?_
        refine gX1_nodes rfl (pc' := 27) dX1_find_24 rfl ?_
        refine ev_iload_n (pc' := 28) dX1_find_27 rfl rfl ?_
        refine x_nodes_get (by omega) hr.2.1 (pc' := 29) dX1_find_28 rfl ?_
        refine ev_aretE (nm := "EditTree$Node") (by first | exact rf_some _ | exact rfl) rfl dX1_find_29 ?_
        rw [List.find?_cons_of_pos (by simpa using h20)]
        exact ⟨rfl, rfl⟩
theorem c_find (T : Tree S) (hR : RX S hd LN LT xt xar xnt xln xcu xck xcp xcl xmk xtl xnu xti xpa xfa xep xel xde xtc) (x : Int32) : Ret g mdX1_find [.ref xo, .int x] (wX g xo an ac am LN LT xt xar xnt xln xcu xck xcp xcl xmk xtl xnu xti xpa xfa xep xel xde xtc) (fun r w => r = some (va_rf ((lk S x).map hd)) ∧ w = (wX g xo an ac am LN LT xt xar xnt xln xcu xck xcp xcl xmk xtl xnu xti xpa xfa xep xel xde xtc)) := by
  refine Ret.of [_, _, _] 1 (by decide) (Nat.le_of_ble_eq_true rfl) rfl ?_
  refine ev_iconst (pc' := 1) (v := nI 0) dX1_find_0 rfl (by decide) ?_
  refine ev_istore_n (pc' := 2) (lv' := [_, _, _]) dX1_find_1 rfl (by decide) (by intro w hw; first | exact Or.inl rfl | (right; have hw := Option.some.inj (Option.some.inj hw); subst hw; first | rfl | exact rf_cat _) | cases hw) rfl ?_
  exact find_loop T hR (sL S).length 0 (by omega)
theorem c_non (hR : RX S hd LN LT xt xar xnt xln xcu xck xcp xcl xmk xtl xnu xti xpa xfa xep xel xde xtc) (o : Option Nat) (ho : ∀ a, o = some a → a ∈ sL S) : Ret g mdX1_numberOrNone [va_rf (o.map hd)] (wX g xo an ac am LN LT xt xar xnt xln xcu xck xcp xcl xmk xtl xnu xti xpa xfa xep xel xde xtc) (fun r w => r = some (.int (oI o)) ∧ w = (wX g xo an ac am LN LT xt xar xnt xln xcu xck xcp xcl xmk xtl xnu xti xpa xfa xep xel xde xtc)) := by
  refine Ret.of [some (va_rf (o.map hd))] 0 (by decide) (by cases o <;> exact Nat.le_of_ble_eq_true rfl) (by cases o <;> rfl) ?_
  cases o with
  | none =>
    show Ev g mdX1_numberOrNone 0 [some (va_rf none)] [] _ _
    refine ev_aload_nE (pc' := 1) dX1_numberOrNone_0 rfl rfl (by first | exact rf_some _ | exact rfl) ?_
    refine ev_ifnonnullZ (pc' := 4) dX1_numberOrNone_1 rfl ?_
    refine ev_bipush (pc' := 6) (v := (-7)) dX1_numberOrNone_4 rfl (by decide) ?_
    refine ev_goto (pc' := 13) dX1_numberOrNone_6 (by decide) ?_
    refine ev_iret rfl dX1_numberOrNone_13 ?_
    exact ⟨rfl, rfl⟩
  | some a =>
    have hr := RX.row hR (ho a rfl)
    show Ev g mdX1_numberOrNone 0 [some (.ref (hd a))] [] _ _
    refine ev_aload_nE (pc' := 1) dX1_numberOrNone_0 rfl rfl (by first | exact rf_some _ | exact rfl) ?_
    refine ev_ifnonnullR (tgt := 9) dX1_numberOrNone_1 (by decide) ?_
    refine ev_aload_nE (pc' := 10) dX1_numberOrNone_9 rfl rfl (by first | exact rf_some _ | exact rfl) ?_
    refine gX0_number rfl hr.1 hr.2.2.2.1 (pc' := 13) dX1_numberOrNone_10 rfl ?_
    refine ev_iret rfl dX1_numberOrNone_13 ?_
    exact ⟨rfl, rfl⟩
theorem anc_x (T : Tree S) (hR : RX S hd LN LT xt xar xnt xln xcu xck xcp xcl xmk xtl xnu xti xpa xfa xep xel xde xtc) {c : Nat} (hc : c ∈ sL S) (z : Nat) : ∀ (a : Nat), a ∈ sL S → Ev g mdX1_isAncestor 2 [some (.ref (hd c)), some (.ref z), some (.ref (hd a))] [] (wX g xo an ac am LN LT xt xar xnt xln xcu xck xcp xcl xmk xtl xnu xti xpa xfa xep xel xde xtc) (fun r w => r = some (.int (bI (decide (c ∈ path S a)))) ∧ w = (wX g xo an ac am LN LT xt xar xnt xln xcu xck xcp xcl xmk xtl xnu xti xpa xfa xep xel xde xtc)) := by
  intro a
  induction a using Nat.strongRecOn with
  | ind a ih =>
    intro ha
    have hr := RX.row hR ha
    refine ev_aload_nE (pc' := 3) dX1_isAncestor_2 rfl rfl (by first | exact rf_some _ | exact rfl) ?_
    refine ev_ifnullR (pc' := 6) dX1_isAncestor_3 rfl ?_
    refine ev_aload_nE (pc' := 7) dX1_isAncestor_6 rfl rfl (by first | exact rf_some _ | exact rfl) ?_
    refine ev_aload_nE (pc' := 8) dX1_isAncestor_7 rfl rfl (by first | exact rf_some _ | exact rfl) ?_
    refine ev_acmp_neE (by first | exact rf_some _ | exact rfl) (by first | exact rf_some _ | exact rfl) (tgt := 13) (pc' := 11) dX1_isAncestor_8 (by decide) rfl (fun h8 => ?_) (fun h8 => ?_)
    · have e : c ≠ a := fun q => h8 (by rw [q])
      cases hb : spa S a with
      | none =>
        have hpa := hr.2.2.2.2.2.1
        rw [hb] at hpa
        refine ev_aload_nE (pc' := 14) dX1_isAncestor_13 rfl rfl (by first | exact rf_some _ | exact rfl) ?_
        refine gX0_parent rfl hr.1 hpa (pc' := 17) dX1_isAncestor_14 rfl ?_
        refine ev_astore_nE (by first | exact rf_some _ | exact rfl) (pc' := 18) (lv' := [_, _, _]) dX1_isAncestor_17 rfl (by decide) (by intro w hw; first | exact Or.inl rfl | (right; have hw := Option.some.inj (Option.some.inj hw); subst hw; first | rfl | exact rf_cat _) | cases hw) rfl ?_
        refine ev_goto (pc' := 2) dX1_isAncestor_18 (by decide) ?_
        show Ev g mdX1_isAncestor 2 [_, _, some (va_rf none)] [] _ _
        refine ev_aload_nE (pc' := 3) dX1_isAncestor_2 rfl rfl (by first | exact rf_some _ | exact rfl) ?_
        refine ev_ifnullZ (tgt := 21) dX1_isAncestor_3 (by decide) ?_
        refine ev_iconst (pc' := 22) (v := nI 0) dX1_isAncestor_21 rfl (by decide) ?_
        refine ev_zret rfl (by decide) dX1_isAncestor_22 ?_
        refine ⟨?_, rfl⟩
        rw [path_none hb, bI_f (by simpa using e)]
      | some b =>
        obtain ⟨h1, h2⟩ := T.par ha hb
        have hpa := hr.2.2.2.2.2.1
        rw [hb] at hpa
        refine ev_aload_nE (pc' := 14) dX1_isAncestor_13 rfl rfl (by first | exact rf_some _ | exact rfl) ?_
        refine gX0_parent rfl hr.1 hpa (pc' := 17) dX1_isAncestor_14 rfl ?_
        refine ev_astore_nE (by first | exact rf_some _ | exact rfl) (pc' := 18) (lv' := [_, _, _]) dX1_isAncestor_17 rfl (by decide) (by intro w hw; first | exact Or.inl rfl | (right; have hw := Option.some.inj (Option.some.inj hw); subst hw; first | rfl | exact rf_cat _) | cases hw) rfl ?_
        refine ev_goto (pc' := 2) dX1_isAncestor_18 (by decide) ?_
        have h3 := ih b h2 h1
        have h4 : decide (c ∈ path S a) = decide (c ∈ path S b) := by
          rw [path_some T ha hb]
          simp [e]
        rw [h4]
        exact h3
    · have e : a = c := RX.inj hR ha hc (Option.some.inj h8)
      refine ev_iconst (pc' := 12) (v := nI 1) dX1_isAncestor_11 rfl (by decide) ?_
      refine ev_zret rfl (by decide) dX1_isAncestor_12 ?_
      refine ⟨?_, rfl⟩
      rw [bI_t (by rw [e]; exact path_self S c)]
theorem c_isAncestor (T : Tree S) (hR : RX S hd LN LT xt xar xnt xln xcu xck xcp xcl xmk xtl xnu xti xpa xfa xep xel xde xtc) {c a : Nat} (hc : c ∈ sL S) (ha : a ∈ sL S) : Ret g mdX1_isAncestor [.ref (hd c), .ref (hd a)] (wX g xo an ac am LN LT xt xar xnt xln xcu xck xcp xcl xmk xtl xnu xti xpa xfa xep xel xde xtc) (fun r w => r = some (.int (bI (decide (c ∈ path S a)))) ∧ w = (wX g xo an ac am LN LT xt xar xnt xln xcu xck xcp xcl xmk xtl xnu xti xpa xfa xep xel xde xtc)) := by
  refine Ret.of [_, _, _] 1 (by decide) (Nat.le_of_ble_eq_true rfl) rfl ?_
  refine ev_aload_nE (pc' := 1) dX1_isAncestor_0 rfl rfl (by first | exact rf_some _ | exact rfl) ?_
  refine ev_astore_nE (by first | exact rf_some _ | exact rfl) (pc' := 2) (lv' := [_, _, _]) dX1_isAncestor_1 rfl (by decide) (by intro w hw; first | exact Or.inl rfl | (right; have hw := Option.some.inj (Option.some.inj hw); subst hw; first | rfl | exact rf_cat _) | cases hw) rfl ?_
  exact anc_x T hR hc _ a ha
theorem lc_x (T : Tree S) (hR : RX S hd LN LT xt xar xnt xln xcu xck xcp xcl xmk xtl xnu xti xpa xfa xep xel xde xtc) {b : Nat} (hb : b ∈ sL S) (z : Nat) : ∀ (a : Nat), a ∈ sL S → Ev g mdX1_lowestCommon 2 [some (.ref z), some (.ref (hd b)), some (.ref (hd a))] [] (wX g xo an ac am LN LT xt xar xnt xln xcu xck xcp xcl xmk xtl xnu xti xpa xfa xep xel xde xtc) (fun r w => r = some (.ref (hd (lca S a b))) ∧ w = (wX g xo an ac am LN LT xt xar xnt xln xcu xck xcp xcl xmk xtl xnu xti xpa xfa xep xel xde xtc)) := by
  intro a
  induction a using Nat.strongRecOn with
  | ind a ih =>
    intro ha
    have hr := RX.row hR ha
    have hpa := hr.2.2.2.2.2.1
    cases hc : spa S a with
    | none =>
      rw [hc] at hpa
      refine ev_aload_nE (pc' := 3) dX1_lowestCommon_2 rfl rfl (by first | exact rf_some _ | exact rfl) ?_
      refine gX0_parent rfl hr.1 hpa (pc' := 6) dX1_lowestCommon_3 rfl ?_
      show Ev g mdX1_lowestCommon 6 _ [va_rf none] _ _
      refine ev_ifnullZ (tgt := 25) dX1_lowestCommon_6 (by decide) ?_
      refine ev_aload_nE (pc' := 26) dX1_lowestCommon_25 rfl rfl (by first | exact rf_some _ | exact rfl) ?_
      refine ev_aretE (nm := "EditTree$Node") (by first | exact rf_some _ | exact rfl) rfl dX1_lowestCommon_26 ?_
      refine ⟨?_, rfl⟩
      rw [lca_in (show a ∈ path S b by rw [T.none ha hc]; exact path_root T b hb)]
    | some c =>
      obtain ⟨h1, h2⟩ := T.par ha hc
      rw [hc] at hpa
      refine ev_aload_nE (pc' := 3) dX1_lowestCommon_2 rfl rfl (by first | exact rf_some _ | exact rfl) ?_
      refine gX0_parent rfl hr.1 hpa (pc' := 6) dX1_lowestCommon_3 rfl ?_
      refine ev_ifnullR (pc' := 9) dX1_lowestCommon_6 rfl ?_
      refine ev_aload_nE (pc' := 10) dX1_lowestCommon_9 rfl rfl (by first | exact rf_some _ | exact rfl) ?_
      refine ev_aload_nE (pc' := 11) dX1_lowestCommon_10 rfl rfl (by first | exact rf_some _ | exact rfl) ?_
      refine ev_callS (As := [_, _]) coX1_isAncestor (c_isAncestor T hR ha hb) rfl (by decide) (by first | exact Nat.le_of_ble_eq_true rfl | simp [Value.category, rf_cat]) dX1_lowestCommon_11 rfl (pc' := 14) rfl (fun v w hq => ?_)
      obtain ⟨rfl, rfl⟩ := hq
      dsimp only [Option.toList, List.cons_append, List.nil_append]
      refine ev_if_ne (tgt := 25) (pc' := 17) dX1_lowestCommon_14 (by decide) rfl (fun h14 => ?_) (fun h14 => ?_)
      · rw [bI_ne, decide_eq_true_eq] at h14
        refine ev_aload_nE (pc' := 26) dX1_lowestCommon_25 rfl rfl (by first | exact rf_some _ | exact rfl) ?_
        refine ev_aretE (nm := "EditTree$Node") (by first | exact rf_some _ | exact rfl) rfl dX1_lowestCommon_26 ?_
        refine ⟨?_, rfl⟩
        rw [lca_in h14]
      · rw [bI_eq, decide_eq_false_iff_not] at h14
        refine ev_aload_nE (pc' := 18) dX1_lowestCommon_17 rfl rfl (by first | exact rf_some _ | exact rfl) ?_
        refine gX0_parent rfl hr.1 hpa (pc' := 21) dX1_lowestCommon_18 rfl ?_
        refine ev_astore_nE (by first | exact rf_some _ | exact rfl) (pc' := 22) (lv' := [_, _, _]) dX1_lowestCommon_21 rfl (by decide) (by intro w hw; first | exact Or.inl rfl | (right; have hw := Option.some.inj (Option.some.inj hw); subst hw; first | rfl | exact rf_cat _) | cases hw) rfl ?_
        refine ev_goto (pc' := 2) dX1_lowestCommon_22 (by decide) ?_
        rw [lca_up T ha hc h14]
        exact ih c h2 h1
theorem c_lowestCommon (T : Tree S) (hR : RX S hd LN LT xt xar xnt xln xcu xck xcp xcl xmk xtl xnu xti xpa xfa xep xel xde xtc) {a b : Nat} (ha : a ∈ sL S) (hb : b ∈ sL S) : Ret g mdX1_lowestCommon [.ref (hd a), .ref (hd b)] (wX g xo an ac am LN LT xt xar xnt xln xcu xck xcp xcl xmk xtl xnu xti xpa xfa xep xel xde xtc) (fun r w => r = some (.ref (hd (lca S a b))) ∧ w = (wX g xo an ac am LN LT xt xar xnt xln xcu xck xcp xcl xmk xtl xnu xti xpa xfa xep xel xde xtc)) := by
  refine Ret.of [_, _, _] 1 (by decide) (Nat.le_of_ble_eq_true rfl) rfl ?_
  refine ev_aload_nE (pc' := 1) dX1_lowestCommon_0 rfl rfl (by first | exact rf_some _ | exact rfl) ?_
  refine ev_astore_nE (by first | exact rf_some _ | exact rfl) (pc' := 2) (lv' := [_, _, _]) dX1_lowestCommon_1 rfl (by decide) (by intro w hw; first | exact Or.inl rfl | (right; have hw := Option.some.inj (Option.some.inj hw); subst hw; first | rfl | exact rf_cat _) | cases hw) rfl ?_
  exact lc_x T hR hb _ a ha
theorem dp_x (T : Tree S) (hR : RX S hd LN LT xt xar xnt xln xcu xck xcp xcl xmk xtl xnu xti xpa xfa xep xel xde xtc) (z : Nat) : ∀ (a : Nat), a ∈ sL S → ∀ m : Nat, Ev g mdX1_depthOf 7 [some (.ref z), some (.int (nI m)), some (va_rf ((spa S a).map hd))] [] (wX g xo an ac am LN LT xt xar xnt xln xcu xck xcp xcl xmk xtl xnu xti xpa xfa xep xel xde xtc) (fun r w => r = some (.int (nI (m + dep S a))) ∧ w = (wX g xo an ac am LN LT xt xar xnt xln xcu xck xcp xcl xmk xtl xnu xti xpa xfa xep xel xde xtc)) := by
  intro a
  induction a using Nat.strongRecOn with
  | ind a ih =>
    intro ha m
    cases hb : spa S a with
    | none =>
      show Ev g mdX1_depthOf 7 [_, _, some (va_rf none)] [] _ _
      refine ev_aload_nE (pc' := 8) dX1_depthOf_7 rfl rfl (by first | exact rf_some _ | exact rfl) ?_
      refine ev_ifnullZ (tgt := 22) dX1_depthOf_8 (by decide) ?_
      refine ev_iload_n (pc' := 23) dX1_depthOf_22 rfl rfl ?_
      refine ev_iret rfl dX1_depthOf_23 ?_
      exact ⟨by rw [dep_none hb]; rfl, rfl⟩
    | some b =>
      obtain ⟨h1, h2⟩ := T.par ha hb
      have hr := RX.row hR h1
      show Ev g mdX1_depthOf 7 [_, _, some (.ref (hd b))] [] _ _
      refine ev_aload_nE (pc' := 8) dX1_depthOf_7 rfl rfl (by first | exact rf_some _ | exact rfl) ?_
      refine ev_ifnullR (pc' := 11) dX1_depthOf_8 rfl ?_
      refine ev_iinc (pc' := 14) (lv' := [_, _, _]) dX1_depthOf_11 rfl rfl (nI_1 _) (by decide) (by intro w hw; first | exact Or.inl rfl | (right; have hw := Option.some.inj (Option.some.inj hw); subst hw; first | rfl | exact rf_cat _) | cases hw) rfl ?_
      refine ev_aload_nE (pc' := 15) dX1_depthOf_14 rfl rfl (by first | exact rf_some _ | exact rfl) ?_
      refine gX0_parent rfl hr.1 hr.2.2.2.2.2.1 (pc' := 18) dX1_depthOf_15 rfl ?_
      refine ev_astore_nE (by first | exact rf_some _ | exact rfl) (pc' := 19) (lv' := [_, _, _]) dX1_depthOf_18 rfl (by decide) (by intro w hw; first | exact Or.inl rfl | (right; have hw := Option.some.inj (Option.some.inj hw); subst hw; first | rfl | exact rf_cat _) | cases hw) rfl ?_
      refine ev_goto (pc' := 7) dX1_depthOf_19 (by decide) ?_
      rw [dep_some T ha hb, show m + (dep S b + 1) = m + 1 + dep S b by omega]
      exact ih b h2 h1 (m + 1)
theorem c_depthOf (T : Tree S) (hR : RX S hd LN LT xt xar xnt xln xcu xck xcp xcl xmk xtl xnu xti xpa xfa xep xel xde xtc) {a : Nat} (ha : a ∈ sL S) : Ret g mdX1_depthOf [.ref (hd a)] (wX g xo an ac am LN LT xt xar xnt xln xcu xck xcp xcl xmk xtl xnu xti xpa xfa xep xel xde xtc) (fun r w => r = some (.int (nI (dep S a))) ∧ w = (wX g xo an ac am LN LT xt xar xnt xln xcu xck xcp xcl xmk xtl xnu xti xpa xfa xep xel xde xtc)) := by
  refine Ret.of [_, _, _] 2 (by decide) (Nat.le_of_ble_eq_true rfl) rfl ?_
  have hr := RX.row hR ha
  refine ev_iconst (pc' := 1) (v := nI 0) dX1_depthOf_0 rfl (by decide) ?_
  refine ev_istore_n (pc' := 2) (lv' := [_, _, _]) dX1_depthOf_1 rfl (by decide) (by intro w hw; first | exact Or.inl rfl | (right; have hw := Option.some.inj (Option.some.inj hw); subst hw; first | rfl | exact rf_cat _) | cases hw) rfl ?_
  refine ev_aload_nE (pc' := 3) dX1_depthOf_2 rfl rfl (by first | exact rf_some _ | exact rfl) ?_
  refine gX0_parent rfl hr.1 hr.2.2.2.2.2.1 (pc' := 6) dX1_depthOf_3 rfl ?_
  refine ev_astore_nE (by first | exact rf_some _ | exact rfl) (pc' := 7) (lv' := [_, _, _]) dX1_depthOf_6 rfl (by decide) (by intro w hw; first | exact Or.inl rfl | (right; have hw := Option.some.inj (Option.some.inj hw); subst hw; first | rfl | exact rf_cat _) | cases hw) rfl ?_
  have := dp_x (g := g) (xo := xo) (an := an) (ac := ac) (am := am) T hR (hd a) a ha 0
  rw [Nat.zero_add] at this
  exact this
theorem c_steps (T : Tree S) (hR : RX S hd LN LT xt xar xnt xln xcu xck xcp xcl xmk xtl xnu xti xpa xfa xep xel xde xtc) {a b : Nat} (ha : a ∈ sL S) (hb : b ∈ sL S) : Ret g mdX1_stepsBetween [.ref (hd a), .ref (hd b)] (wX g xo an ac am LN LT xt xar xnt xln xcu xck xcp xcl xmk xtl xnu xti xpa xfa xep xel xde xtc) (fun r w => r = some (.int (farS S a b)) ∧ w = (wX g xo an ac am LN LT xt xar xnt xln xcu xck xcp xcl xmk xtl xnu xti xpa xfa xep xel xde xtc)) := by
  refine Ret.of [_, _, _] 1 (by decide) (Nat.le_of_ble_eq_true rfl) rfl ?_
  refine ev_aload_nE (pc' := 1) dX1_stepsBetween_0 rfl rfl (by first | exact rf_some _ | exact rfl) ?_
  refine ev_aload_nE (pc' := 2) dX1_stepsBetween_1 rfl rfl (by first | exact rf_some _ | exact rfl) ?_
  refine ev_callS (As := [_, _]) coX1_lowestCommon (c_lowestCommon T hR ha hb) rfl (by decide) (by first | exact Nat.le_of_ble_eq_true rfl | simp [Value.category, rf_cat]) dX1_stepsBetween_2 rfl (pc' := 5) rfl (fun v w hq => ?_)
  obtain ⟨rfl, rfl⟩ := hq
  dsimp only [Option.toList, List.cons_append, List.nil_append]
  refine ev_astore_nE (by first | exact rf_some _ | exact rfl) (pc' := 6) (lv' := [_, _, _]) dX1_stepsBetween_5 rfl (by decide) (by intro w hw; first | exact Or.inl rfl | (right; have hw := Option.some.inj (Option.some.inj hw); subst hw; first | rfl | exact rf_cat _) | cases hw) rfl ?_
  refine ev_aload_nE (pc' := 7) dX1_stepsBetween_6 rfl rfl (by first | exact rf_some _ | exact rfl) ?_
  refine ev_callS (As := [_]) coX1_depthOf (c_depthOf T hR ha) rfl (by decide) (by first | exact Nat.le_of_ble_eq_true rfl | simp [Value.category, rf_cat]) dX1_stepsBetween_7 rfl (pc' := 10) rfl (fun v w hq => ?_)
  obtain ⟨rfl, rfl⟩ := hq
  dsimp only [Option.toList, List.cons_append, List.nil_append]
  refine ev_aload_nE (pc' := 11) dX1_stepsBetween_10 rfl rfl (by first | exact rf_some _ | exact rfl) ?_
  refine ev_callS (As := [_]) coX1_depthOf (c_depthOf T hR hb) rfl (by decide) (by first | exact Nat.le_of_ble_eq_true rfl | simp [Value.category, rf_cat]) dX1_stepsBetween_11 rfl (pc' := 14) rfl (fun v w hq => ?_)
  obtain ⟨rfl, rfl⟩ := hq
  dsimp only [Option.toList, List.cons_append, List.nil_append]
  refine ev_iadd (pc' := 15) dX1_stepsBetween_14 rfl ?_
  refine ev_iconst (pc' := 16) (v := nI 2) dX1_stepsBetween_15 rfl (by decide) ?_
  refine ev_aload_nE (pc' := 17) dX1_stepsBetween_16 rfl rfl (by first | exact rf_some _ | exact rfl) ?_
  refine ev_callS (As := [_]) coX1_depthOf (c_depthOf T hR (lca_mem T hb a ha)) rfl (by decide) (by first | exact Nat.le_of_ble_eq_true rfl | simp [Value.category, rf_cat]) dX1_stepsBetween_17 rfl (pc' := 20) rfl (fun v w hq => ?_)
  obtain ⟨rfl, rfl⟩ := hq
  dsimp only [Option.toList, List.cons_append, List.nil_append]
  refine ev_imul (pc' := 21) dX1_stepsBetween_20 rfl ?_
  refine ev_isub (pc' := 22) dX1_stepsBetween_21 rfl ?_
  refine ev_iret rfl dX1_stepsBetween_22 ?_
  exact ⟨rfl, rfl⟩
theorem c_editCode (hR : RX S hd LN LT xt xar xnt xln xcu xck xcp xcl xmk xtl xnu xti xpa xfa xep xel xde xtc) {a : Nat} (ha : a ∈ sL S) : Ret g mdX1_editCode [.ref (hd a)] (wX g xo an ac am LN LT xt xar xnt xln xcu xck xcp xcl xmk xtl xnu xti xpa xfa xep xel xde xtc) (fun r w => r = some (.int (edc S a)) ∧ w = (wX g xo an ac am LN LT xt xar xnt xln xcu xck xcp xcl xmk xtl xnu xti xpa xfa xep xel xde xtc)) := by
  refine Ret.of [_] 0 (by decide) (Nat.le_of_ble_eq_true rfl) rfl ?_
  have hr := RX.row hR ha
  refine ev_sipush (pc' := 3) (v := nI 1000) dX1_editCode_0 rfl (by decide) ?_
  refine ev_aload_nE (pc' := 4) dX1_editCode_3 rfl rfl (by first | exact rf_some _ | exact rfl) ?_
  refine gX0_editPosition rfl hr.1 hr.2.2.2.2.2.2.2.1 (pc' := 7) dX1_editCode_4 rfl ?_
  refine ev_imul (pc' := 8) dX1_editCode_7 rfl ?_
  refine ev_bipush (pc' := 10) (v := nI 10) dX1_editCode_8 rfl (by decide) ?_
  refine ev_aload_nE (pc' := 11) dX1_editCode_10 rfl rfl (by first | exact rf_some _ | exact rfl) ?_
  refine gX0_editLength rfl hr.1 hr.2.2.2.2.2.2.2.2.1 (pc' := 14) dX1_editCode_11 rfl ?_
  refine ev_imul (pc' := 15) dX1_editCode_14 rfl ?_
  refine ev_iadd (pc' := 16) dX1_editCode_15 rfl ?_
  refine ev_aload_nE (pc' := 17) dX1_editCode_16 rfl rfl (by first | exact rf_some _ | exact rfl) ?_
  refine gX0_deletion rfl hr.1 hr.2.2.2.2.2.2.2.2.2.1 (pc' := 20) dX1_editCode_17 rfl ?_
  refine ev_if_eq (tgt := 27) (pc' := 23) dX1_editCode_20 (by decide) rfl (fun h20 => ?_) (fun h20 => ?_)
  · refine ev_iconst (pc' := 28) (v := nI 0) dX1_editCode_27 rfl (by decide) ?_
    refine ev_iadd (pc' := 29) dX1_editCode_28 rfl ?_
    refine ev_iret rfl dX1_editCode_29 ?_
    refine ⟨?_, rfl⟩
    unfold edc
    rw [bI_eq.mp h20]; rfl
  · refine ev_iconst (pc' := 24) (v := nI 1) dX1_editCode_23 rfl (by decide) ?_
    refine ev_goto (pc' := 28) dX1_editCode_24 (by decide) ?_
    refine ev_iadd (pc' := 29) dX1_editCode_28 rfl ?_
    refine ev_iret rfl dX1_editCode_29 ?_
    refine ⟨?_, rfl⟩
    unfold edc
    rw [bI_ne.mp h20]; rfl
theorem c_isTreeFull (T : Tree S) (hR : RX S hd LN LT xt xar xnt xln xcu xck xcp xcl xmk xtl xnu xti xpa xfa xep xel xde xtc) : Ret g mdX1_isTreeFull [.ref xo] (wX g xo an ac am LN LT xt xar xnt xln xcu xck xcp xcl xmk xtl xnu xti xpa xfa xep xel xde xtc) (fun r w => r = some (.int (bI (decide ((sL S).length = 24)))) ∧ w = (wX g xo an ac am LN LT xt xar xnt xln xcu xck xcp xcl xmk xtl xnu xti xpa xfa xep xel xde xtc)) := by
  refine Ret.of [_] 0 (by decide) (Nat.le_of_ble_eq_true rfl) rfl ?_
  have hlen := T.len
  have e1 := hR.1
  subst e1
  refine ev_aload_nE (pc' := 1) dX1_isTreeFull_0 rfl rfl (by first | exact rf_some _ | exact rfl) ?_
  refine gX1_nodeTotal rfl (pc' := 4) dX1_isTreeFull_1 rfl ?_
  refine ev_bipush (pc' := 6) (v := nI 24) dX1_isTreeFull_4 rfl (by decide) ?_
  refine ev_icmp_lt (tgt := 13) (pc' := 9) dX1_isTreeFull_6 (by decide) rfl (fun h6 => ?_) (fun h6 => ?_)
  · rw [nI_ltI (by omega) (by omega)] at h6
    refine ev_iconst (pc' := 14) (v := nI 0) dX1_isTreeFull_13 rfl (by decide) ?_
    refine ev_zret rfl (by decide) dX1_isTreeFull_14 ?_
    exact ⟨by rw [bI_f (by omega)], rfl⟩
  · rw [nI_ltI (by omega) (by omega)] at h6
    refine ev_iconst (pc' := 10) (v := nI 1) dX1_isTreeFull_9 rfl (by decide) ?_
    refine ev_goto (pc' := 14) dX1_isTreeFull_10 (by decide) ?_
    refine ev_zret rfl (by decide) dX1_isTreeFull_14 ?_
    exact ⟨by rw [bI_t (by omega)], rfl⟩
theorem c_hasRoomFor (hR : RX S hd LN LT xt xar xnt xln xcu xck xcp xcl xmk xtl xnu xti xpa xfa xep xel xde xtc) (hc : scu S ∈ sL S) (h40 : stl S (scu S) ≤ 40) {n : Nat} (hn : n ≤ 6) : Ret g mdX1_hasRoomFor [.ref xo, .int (nI n)] (wX g xo an ac am LN LT xt xar xnt xln xcu xck xcp xcl xmk xtl xnu xti xpa xfa xep xel xde xtc) (fun r w => r = some (.int (bI (decide (stl S (scu S) + n ≤ 40)))) ∧ w = (wX g xo an ac am LN LT xt xar xnt xln xcu xck xcp xcl xmk xtl xnu xti xpa xfa xep xel xde xtc)) := by
  refine Ret.of [_, _] 0 (by decide) (Nat.le_of_ble_eq_true rfl) rfl ?_
  have hr := RX.row hR hc
  have e3 := hR.2.2.1
  subst e3
  refine ev_iload_n (pc' := 1) dX1_hasRoomFor_0 rfl rfl ?_
  refine ev_bipush (pc' := 3) (v := nI 40) dX1_hasRoomFor_1 rfl (by decide) ?_
  refine ev_aload_nE (pc' := 4) dX1_hasRoomFor_3 rfl rfl (by first | exact rf_some _ | exact rfl) ?_
  refine gX1_currentNode rfl (pc' := 7) dX1_hasRoomFor_4 rfl ?_
  refine gX0_textLength rfl hr.1 hr.2.2.1 (pc' := 10) dX1_hasRoomFor_7 rfl ?_
  refine ev_isubN (by omega) (pc' := 11) dX1_hasRoomFor_10 rfl ?_
  refine ev_icmp_gt (tgt := 18) (pc' := 14) dX1_hasRoomFor_11 (by decide) rfl (fun h11 => ?_) (fun h11 => ?_)
  · rw [nI_ltI (by omega) (by omega)] at h11
    refine ev_iconst (pc' := 19) (v := nI 0) dX1_hasRoomFor_18 rfl (by decide) ?_
    refine ev_zret rfl (by decide) dX1_hasRoomFor_19 ?_
    exact ⟨by rw [bI_f (by omega)], rfl⟩
  · rw [nI_ltI (by omega) (by omega)] at h11
    refine ev_iconst (pc' := 15) (v := nI 1) dX1_hasRoomFor_14 rfl (by decide) ?_
    refine ev_goto (pc' := 19) dX1_hasRoomFor_15 (by decide) ?_
    refine ev_zret rfl (by decide) dX1_hasRoomFor_19 ?_
    exact ⟨by rw [bI_t (by omega)], rfl⟩
theorem c_xisMark (ws : va_W) (x : Int32) : Ret g mdX1_isMark [.int x] ws (fun r w => r = some (.int (bI (isMk x))) ∧ w = ws) := by
  refine Ret.of [_] 0 (by decide) (Nat.le_of_ble_eq_true rfl) rfl ?_
  have key : isMk x = decide (¬ x < 0 ∧ ¬ nI 5 ≤ x) := by
    unfold isMk
    congr 1
    rw [Int32.le_iff_toInt_le, Int32.le_iff_toInt_le, Int32.lt_iff_toInt_lt, Int32.le_iff_toInt_le]
    have e4 : (4 : Int32).toInt = 4 := by decide
    have e5 : (nI 5).toInt = 5 := by decide
    have e0 : (0 : Int32).toInt = 0 := by decide
    rw [e4, e5, e0]
    apply propext
    omega
  rw [key]
  refine ev_iload_n (pc' := 1) dX1_isMark_0 rfl rfl ?_
  refine ev_if_lt (tgt := 13) (pc' := 4) dX1_isMark_1 (by decide) rfl (fun h1 => ?_) (fun h1 => ?_)
  · refine ev_iconst (pc' := 14) (v := nI 0) dX1_isMark_13 rfl (by decide) ?_
    refine ev_zret rfl (by decide) dX1_isMark_14 ?_
    exact ⟨by rw [bI_f (fun q => q.1 h1)], rfl⟩
  · refine ev_iload_n (pc' := 5) dX1_isMark_4 rfl rfl ?_
    refine ev_iconst (pc' := 6) (v := nI 5) dX1_isMark_5 rfl (by decide) ?_
    refine ev_icmp_ge (tgt := 13) (pc' := 9) dX1_isMark_6 (by decide) rfl (fun h6 => ?_) (fun h6 => ?_)
    · refine ev_iconst (pc' := 14) (v := nI 0) dX1_isMark_13 rfl (by decide) ?_
      refine ev_zret rfl (by decide) dX1_isMark_14 ?_
      exact ⟨by rw [bI_f (fun q => q.2 h6)], rfl⟩
    · refine ev_iconst (pc' := 10) (v := nI 1) dX1_isMark_9 rfl (by decide) ?_
      refine ev_goto (pc' := 14) dX1_isMark_10 (by decide) ?_
      refine ev_zret rfl (by decide) dX1_isMark_14 ?_
      exact ⟨by rw [bI_t ⟨h1, h6⟩], rfl⟩
theorem mk_eq (hR : RX S hd LN LT xt xar xnt xln xcu xck xcp xcl xmk xtl xnu xti xpa xfa xep xel xde xtc) {a i : Nat} (ha : a ∈ sL S) (hm : ∀ b, smk S i = some b → b ∈ sL S) : (smk S i).map hd = some (hd a) ↔ smk S i = some a := by
  cases h : smk S i with
  | none => exact ⟨fun q => absurd q (by simp), fun q => absurd q (by simp)⟩
  | some b => exact ⟨fun q => by rw [RX.inj hR (hm b h) ha (Option.some.inj q)], fun q => by cases q; rfl⟩
theorem mon_x (hR : RX S hd LN LT xt xar xnt xln xcu xck xcp xcl xmk xtl xnu xti xpa xfa xep xel xde xtc) (hm : ∀ i, i < 5 → ∀ b, smk S i = some b → b ∈ sL S) {a : Nat} (ha : a ∈ sL S) : ∀ (m k n : Nat), k + m = 5 → Ev g mdX1_marksOn 4 [some (.ref xo), some (.ref (hd a)), some (.int (nI n)), some (.int (nI k))] [] (wX g xo an ac am LN LT xt xar xnt xln xcu xck xcp xcl xmk xtl xnu xti xpa xfa xep xel xde xtc) (fun r w => r = some (.int (nI (n + cnt (fun i => decide (smk S i = some a)) ((List.range 5).drop k)))) ∧ w = (wX g xo an ac am LN LT xt xar xnt xln xcu xck xcp xcl xmk xtl xnu xti xpa xfa xep xel xde xtc)) := by
  intro m
  induction m with
  | zero =>
    intro k n hk
    have : k = 5 := by omega
    subst this
    refine ev_iload_n (pc' := 5) dX1_marksOn_4 rfl rfl ?_
    refine ev_iconst (pc' := 6) (v := nI 5) dX1_marksOn_5 rfl (by decide) ?_
    refine ev_icmp_ge (tgt := 28) (pc' := 9) dX1_marksOn_6 (by decide) rfl (fun h6 => ?_) (fun h6 => ?_)
    · refine ev_iload_n (pc' := 29) dX1_marksOn_28 rfl rfl ?_
      refine ev_iret rfl dX1_marksOn_29 ?_
      exact ⟨rfl, rfl⟩
    · exact absurd (nI_le (by omega) (by omega)) h6
  | succ m ih =>
    intro k n hk
    have hdr : (List.range 5).drop k = k :: (List.range 5).drop (k + 1) := by
      rw [List.drop_eq_getElem_cons (by simp; omega)]; simp
    rw [hdr]
    refine ev_iload_n (pc' := 5) dX1_marksOn_4 rfl rfl ?_
    refine ev_iconst (pc' := 6) (v := nI 5) dX1_marksOn_5 rfl (by decide) ?_
    refine ev_icmp_ge (tgt := 28) (pc' := 9) dX1_marksOn_6 (by decide) rfl (fun h6 => ?_) (fun h6 => ?_)
    · exact absurd h6 (nI_ge (by omega) (by omega))
    · refine ev_aload_nE (pc' := 10) dX1_marksOn_9 rfl rfl (by first | exact rf_some _ | exact rfl) ?_
      refine gX1_marks rfl (pc' := 13) dX1_marksOn_10 rfl ?_
      refine ev_iload_n (pc' := 14) dX1_marksOn_13 rfl rfl ?_
      refine x_marks_get (by omega) (RX.mk hR (by omega)) (pc' := 15) dX1_marksOn_14 rfl ?_
      refine ev_aload_nE (pc' := 16) dX1_marksOn_15 rfl rfl (by first | exact rf_some _ | exact rfl) ?_
      refine ev_acmp_neE (by first | exact rf_some _ | exact rfl) (by first | exact rf_some _ | exact rfl) (tgt := 22) (pc' := 19) dX1_marksOn_16 (by decide) rfl (fun h16 => ?_) (fun h16 => ?_)
      · rw [mk_eq hR ha (hm k (by omega))] at h16
        refine ev_iinc (pc' := 25) (lv' := [_, _, _, _]) dX1_marksOn_22 rfl rfl (nI_1 _) (by decide) (by intro w hw; first | exact Or.inl rfl | (right; have hw := Option.some.inj (Option.some.inj hw); subst hw; first | rfl | exact rf_cat _) | cases hw) rfl ?_
        refine ev_goto (pc' := 4) dX1_marksOn_25 (by decide) ?_
        have h := ih (k + 1) n (by omega)
        unfold cnt
        rw [decide_eq_false h16, if_neg (by decide), Nat.zero_add]
        exact h
      · rw [mk_eq hR ha (hm k (by omega))] at h16
        refine ev_iinc (pc' := 22) (lv' := [_, _, _, _]) dX1_marksOn_19 rfl rfl (nI_1 _) (by decide) (by intro w hw; first | exact Or.inl rfl | (right; have hw := Option.some.inj (Option.some.inj hw); subst hw; first | rfl | exact rf_cat _) | cases hw) rfl ?_
        refine ev_iinc (pc' := 25) (lv' := [_, _, _, _]) dX1_marksOn_22 rfl rfl (nI_1 _) (by decide) (by intro w hw; first | exact Or.inl rfl | (right; have hw := Option.some.inj (Option.some.inj hw); subst hw; first | rfl | exact rf_cat _) | cases hw) rfl ?_
        refine ev_goto (pc' := 4) dX1_marksOn_25 (by decide) ?_
        have h := ih (k + 1) (n + 1) (by omega)
        unfold cnt
        rw [decide_eq_true h16, if_pos rfl, ← Nat.add_assoc]
        exact h
theorem c_xmarksOn (hR : RX S hd LN LT xt xar xnt xln xcu xck xcp xcl xmk xtl xnu xti xpa xfa xep xel xde xtc) (hm : ∀ i, i < 5 → ∀ b, smk S i = some b → b ∈ sL S) {a : Nat} (ha : a ∈ sL S) : Ret g mdX1_marksOn [.ref xo, .ref (hd a)] (wX g xo an ac am LN LT xt xar xnt xln xcu xck xcp xcl xmk xtl xnu xti xpa xfa xep xel xde xtc) (fun r w => r = some (.int (nI (mkN S a))) ∧ w = (wX g xo an ac am LN LT xt xar xnt xln xcu xck xcp xcl xmk xtl xnu xti xpa xfa xep xel xde xtc)) := by
  refine Ret.of [_, _, _, _] 2 (by decide) (Nat.le_of_ble_eq_true rfl) rfl ?_
  refine ev_iconst (pc' := 1) (v := nI 0) dX1_marksOn_0 rfl (by decide) ?_
  refine ev_istore_n (pc' := 2) (lv' := [_, _, _, _]) dX1_marksOn_1 rfl (by decide) (by intro w hw; first | exact Or.inl rfl | (right; have hw := Option.some.inj (Option.some.inj hw); subst hw; first | rfl | exact rf_cat _) | cases hw) rfl ?_
  refine ev_iconst (pc' := 3) (v := nI 0) dX1_marksOn_2 rfl (by decide) ?_
  refine ev_istore_n (pc' := 4) (lv' := [_, _, _, _]) dX1_marksOn_3 rfl (by decide) (by intro w hw; first | exact Or.inl rfl | (right; have hw := Option.some.inj (Option.some.inj hw); subst hw; first | rfl | exact rf_cat _) | cases hw) rfl ?_
  have h := mon_x (g := g) (xo := xo) (an := an) (ac := ac) (am := am) hR hm ha 5 0 0 rfl
  rw [Nat.zero_add] at h
  exact h
theorem c_isForgettable (I : Inv N S) (hR : RX S hd LN LT xt xar xnt xln xcu xck xcp xcl xmk xtl xnu xti xpa xfa xep xel xde xtc) {a : Nat} (ha : a ∈ sL S) : Ret g mdX1_isForgettable [.ref xo, .ref (hd a)] (wX g xo an ac am LN LT xt xar xnt xln xcu xck xcp xcl xmk xtl xnu xti xpa xfa xep xel xde xtc) (fun r w => r = some (.int (bI (loose S a))) ∧ w = (wX g xo an ac am LN LT xt xar xnt xln xcu xck xcp xcl xmk xtl xnu xti xpa xfa xep xel xde xtc)) := by
  refine Ret.of [_, _] 0 (by decide) (Nat.le_of_ble_eq_true rfl) rfl ?_
  have T := I.T
  have hr := RX.row hR ha
  have e3 := hR.2.2.1
  subst e3
  have no : ¬ (a ≠ 0 ∧ a ≠ scu S ∧ chN S a = 0 ∧ mkN S a = 0) → Ev g mdX1_isForgettable 34 [some (.ref xo), some (.ref (hd a))] [] (wX g xo an ac am LN LT xt xar xnt xln (hd (scu S)) xck xcp xcl xmk xtl xnu xti xpa xfa xep xel xde xtc) (fun r w => r = some (.int (bI (loose S a))) ∧ w = (wX g xo an ac am LN LT xt xar xnt xln (hd (scu S)) xck xcp xcl xmk xtl xnu xti xpa xfa xep xel xde xtc)) := by
    intro h
    refine ev_iconst (pc' := 35) (v := nI 0) dX1_isForgettable_34 rfl (by decide) ?_
    refine ev_zret rfl (by decide) dX1_isForgettable_35 ?_
    refine ⟨?_, rfl⟩
    unfold loose
    rw [bI_f h]
  have hpa := hr.2.2.2.2.2.1
  cases hb : spa S a with
  | none =>
    rw [hb] at hpa
    refine ev_aload_nE (pc' := 1) dX1_isForgettable_0 rfl rfl (by first | exact rf_some _ | exact rfl) ?_
    refine gX0_parent rfl hr.1 hpa (pc' := 4) dX1_isForgettable_1 rfl ?_
    show Ev g mdX1_isForgettable 4 _ [va_rf none] _ _
    refine ev_ifnullZ (tgt := 34) dX1_isForgettable_4 (by decide) ?_
    exact no (fun q => q.1 (T.none ha hb))
  | some b =>
    have hz : a ≠ 0 := fun q => by rw [q, T.pa0] at hb; cases hb
    rw [hb] at hpa
    refine ev_aload_nE (pc' := 1) dX1_isForgettable_0 rfl rfl (by first | exact rf_some _ | exact rfl) ?_
    refine gX0_parent rfl hr.1 hpa (pc' := 4) dX1_isForgettable_1 rfl ?_
    refine ev_ifnullR (pc' := 7) dX1_isForgettable_4 rfl ?_
    refine ev_aload_nE (pc' := 8) dX1_isForgettable_7 rfl rfl (by first | exact rf_some _ | exact rfl) ?_
    refine ev_aload_nE (pc' := 9) dX1_isForgettable_8 rfl rfl (by first | exact rf_some _ | exact rfl) ?_
    refine gX1_currentNode rfl (pc' := 12) dX1_isForgettable_9 rfl ?_
    refine ev_acmp_eqE (by first | exact rf_some _ | exact rfl) (by first | exact rf_some _ | exact rfl) (tgt := 34) (pc' := 15) dX1_isForgettable_12 (by decide) rfl (fun h12 => ?_) (fun h12 => ?_)
    · exact no (fun q => q.2.1 (RX.inj hR ha I.cu (Option.some.inj h12)))
    · have hc : a ≠ scu S := fun q => h12 (by rw [q])
      have hfa := hr.2.2.2.2.2.2.1
      cases hf : sfa S a with
      | some c =>
        rw [hf] at hfa
        refine ev_aload_nE (pc' := 16) dX1_isForgettable_15 rfl rfl (by first | exact rf_some _ | exact rfl) ?_
        refine gX0_favourite rfl hr.1 hfa (pc' := 19) dX1_isForgettable_16 rfl ?_
        refine ev_ifnonnullR (tgt := 34) dX1_isForgettable_19 (by decide) ?_
        refine no (fun q => ?_)
        obtain ⟨h1, h2⟩ := I.fa ha hf
        have := cnt_0.mp q.2.2.1 c h1
        simp [h2] at this
      | none =>
        rw [hf] at hfa
        have hch : chN S a = 0 := cnt_0.mpr (fun c hc => by simpa using I.fn ha hf hc)
        have hml := mkN_le S a
        refine ev_aload_nE (pc' := 16) dX1_isForgettable_15 rfl rfl (by first | exact rf_some _ | exact rfl) ?_
        refine gX0_favourite rfl hr.1 hfa (pc' := 19) dX1_isForgettable_16 rfl ?_
        show Ev g mdX1_isForgettable 19 _ [va_rf none] _ _
        refine ev_ifnonnullZ (pc' := 22) dX1_isForgettable_19 rfl ?_
        refine ev_aload_nE (pc' := 23) dX1_isForgettable_22 rfl rfl (by first | exact rf_some _ | exact rfl) ?_
        refine ev_aload_nE (pc' := 24) dX1_isForgettable_23 rfl rfl (by first | exact rf_some _ | exact rfl) ?_
        refine x_callV (As := [_]) coX1_marksOn rfl (c_xmarksOn hR (fun i hi b hb => I.mk hi hb) ha) rfl (by decide) (by first | exact Nat.le_of_ble_eq_true rfl | simp [Value.category, rf_cat]) dX1_isForgettable_24 rfl (pc' := 27) rfl (fun v w hq => ?_)
        obtain ⟨rfl, rfl⟩ := hq
        dsimp only [Option.toList, List.cons_append, List.nil_append]
        refine ev_if_ne (tgt := 34) (pc' := 30) dX1_isForgettable_27 (by decide) rfl (fun h27 => ?_) (fun h27 => ?_)
        · exact no (fun q => h27 (by rw [q.2.2.2]; rfl))
        · rw [nIz (by omega)] at h27
          refine ev_iconst (pc' := 31) (v := nI 1) dX1_isForgettable_30 rfl (by decide) ?_
          refine ev_goto (pc' := 35) dX1_isForgettable_31 (by decide) ?_
          refine ev_zret rfl (by decide) dX1_isForgettable_35 ?_
          refine ⟨?_, rfl⟩
          unfold loose
          rw [bI_t ⟨hz, hc, hch, h27⟩]
end X1
