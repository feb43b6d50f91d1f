/-! ===== the landed class: forget, digest ===== -/
theorem dec_eq (x : Int32) : x + Int32.ofInt (-1) = x - nI 1 := by rw [Int32.sub_eq_add_neg]; rfl
section X9
variable {g : EG} {xo an ac am : Nat} {LN LT : List Nat} {xt : Nat → Nat} {xar : Nat → Option Nat} {xnt xln : Int32} {xcu : Nat} {xck : Int32} {xcp : Nat → Int32} {xcl : Int32} {xmk : Nat → Option Nat} {xtl xnu xti : Nat → Int32} {xpa xfa : Nat → Option Nat} {xep xel xde : Nat → Int32} {xtc : Nat → Nat → Int32}
variable {S : SS} {hd : Nat → Nat} {N : Nat} {Ph : Option Value → va_W → Prop}
theorem take_ix {b : Nat} (hb : b ∈ sL S) : (sL S).take (ix S b + 1) = (sL S).take (ix S b) ++ [b] := by
  have h := ix_len hb
  rw [List.take_succ_eq_append_getElem h]
  have h2 := ix_get hb
  rw [List.getElem?_eq_getElem h] at h2
  rw [Option.some.inj h2]
theorem nwc_loop (T : Tree S) (hR : RX S hd LN LT xt xar xnt xln xcu xck xcp xcl xmk xtl xnu xti xpa xfa xep xel xde xtc) {p : Nat} (hp : p ∈ sL S) : ∀ (k : Nat), k ≤ (sL S).length → Ev g mdX1_newestChild 7 [some (.ref xo), some (.ref (hd p)), some (.int (nI k - nI 1))] [] (wX g xo an ac am LN LT xt xar xnt xln xcu xck xcp xcl xmk xtl xnu xti xpa xfa xep xel xde xtc) (fun r w => r = some (va_rf ((nch (spa S) p ((sL S).take k)).map hd)) ∧ w = (wX g xo an ac am LN LT xt xar xnt xln xcu xck xcp xcl xmk xtl xnu xti xpa xfa xep xel xde xtc)) := by
  have hlen := T.len
  intro k
  induction k with
  | zero =>
    intro hk
    refine ev_iload_n (pc' := 8) dX1_newestChild_7 rfl rfl ?_
    refine ev_if_lt (tgt := 37) (pc' := 11) dX1_newestChild_8 (by decide) rfl (fun h8 => ?_) (fun h8 => ?_)
    · refine ev_null (pc' := 38) dX1_newestChild_37 rfl ?_
      refine ev_aretE (nm := "EditTree$Node") (by first | exact rf_some _ | exact rfl) rfl dX1_newestChild_38 ?_
      exact ⟨rfl, rfl⟩
    · exact absurd (show nI 0 - nI 1 < 0 by decide) h8
  | succ k ih =>
    intro hk
    obtain ⟨b, hb, rfl⟩ := ix_at T (show k < (sL S).length by omega)
    have hr := RX.row hR hb
    rw [pk_sub (by omega), Nat.add_sub_cancel, take_ix hb]
    refine ev_iload_n (pc' := 8) dX1_newestChild_7 rfl rfl ?_
    refine ev_if_lt (tgt := 37) (pc' := 11) dX1_newestChild_8 (by decide) rfl (fun h8 => ?_) (fun h8 => ?_)
    · exact absurd h8 (nI_pos (by omega))
    · refine ev_aload_nE (pc' := 12) dX1_newestChild_11 rfl rfl (by first | exact rf_some _ | exact rfl) ?_
      refine gX1_nodes rfl (pc' := 15) dX1_newestChild_12 rfl ?_
      refine ev_iload_n (pc' := 16) dX1_newestChild_15 rfl rfl ?_
      refine x_nodes_get (by omega) hr.2.1 (pc' := 17) dX1_newestChild_16 rfl ?_
      refine gX0_parent rfl hr.1 hr.2.2.2.2.2.1 (pc' := 20) dX1_newestChild_17 rfl ?_
      refine ev_aload_nE (pc' := 21) dX1_newestChild_20 rfl rfl (by first | exact rf_some _ | exact rfl) ?_
      refine ev_acmp_neE (by first | exact rf_some _ | exact rfl) (by first | exact rf_some _ | exact rfl) (tgt := 31) (pc' := 24) dX1_newestChild_21 (by decide) rfl (fun h21 => ?_) (fun h21 => ?_)
      · rw [pa_eq T hR hb hp] at h21
        refine ev_iinc (pc' := 34) (lv' := [_, _, _]) dX1_newestChild_31 rfl rfl (dec_eq _) (by decide) (by intro w hw; first | exact Or.inl rfl | (right; have hw := Option.some.inj (Option.some.inj hw); subst hw; first | rfl | exact rf_cat _) | cases hw) rfl ?_
        refine ev_goto (pc' := 7) dX1_newestChild_34 (by decide) ?_
        have e : nch (spa S) p ((sL S).take (ix S b) ++ [b]) = nch (spa S) p ((sL S).take (ix S b)) := by
          unfold nch
          rw [List.filter_append, List.filter_cons_of_neg (by simpa using h21), List.filter_nil, List.append_nil]
        rw [e]
        exact ih (by omega)
      · rw [pa_eq T hR hb hp] at h21
        refine ev_aload_nE (pc' := 25) dX1_newestChild_24 rfl rfl (by first | exact rf_some _ | exact rfl) ?_
        refine gX1_nodes rfl (pc' := 28) dX1_newestChild_25 rfl ?_
        refine ev_iload_n (pc' := 29) dX1_newestChild_28 rfl rfl ?_
        refine x_nodes_get (by omega) hr.2.1 (pc' := 30) dX1_newestChild_29 rfl ?_
        refine ev_aretE (nm := "EditTree$Node") (by first | exact rf_some _ | exact rfl) rfl dX1_newestChild_30 ?_
        refine ⟨?_, rfl⟩
        have e : nch (spa S) p ((sL S).take (ix S b) ++ [b]) = some b := by
          unfold nch
          rw [List.filter_append, List.filter_cons_of_pos (by simpa using h21), List.filter_nil, List.getLast?_append]
          rfl
        rw [e]; rfl
theorem c_newestChild (T : Tree S) (hR : RX S hd LN LT xt xar xnt xln xcu xck xcp xcl xmk xtl xnu xti xpa xfa xep xel xde xtc) {p : Nat} (hp : p ∈ sL S) : Ret g mdX1_newestChild [.ref xo, .ref (hd p)] (wX g xo an ac am LN LT xt xar xnt xln xcu xck xcp xcl xmk xtl xnu xti xpa xfa xep xel xde xtc) (fun r w => r = some (va_rf ((nch (spa S) p (sL S)).map hd)) ∧ w = (wX g xo an ac am LN LT xt xar xnt xln xcu xck xcp xcl xmk xtl xnu xti xpa xfa xep xel xde xtc)) := by
  refine Ret.of [_, _, _] 1 (by decide) (Nat.le_of_ble_eq_true rfl) rfl ?_
  have e1 := hR.1
  subst e1
  refine ev_aload_nE (pc' := 1) dX1_newestChild_0 rfl rfl (by first | exact rf_some _ | exact rfl) ?_
  refine gX1_nodeTotal rfl (pc' := 4) dX1_newestChild_1 rfl ?_
  refine ev_iconst (pc' := 5) (v := nI 1) dX1_newestChild_4 rfl (by decide) ?_
  refine ev_isub (pc' := 6) dX1_newestChild_5 rfl ?_
  refine ev_istore_n (pc' := 7) (lv' := [_, _, _]) dX1_newestChild_6 rfl (by decide) (by intro w hw; first | exact Or.inl rfl | (right; have hw := Option.some.inj (Option.some.inj hw); subst hw; first | rfl | exact rf_cat _) | cases hw) rfl ?_
  have h := nwc_loop (g := g) (xo := xo) (an := an) (ac := ac) (am := am) T hR hp (sL S).length (Nat.le_refl _)
  rw [List.take_length] at h
  exact h
def sfq (f : Nat → Option Nat) (G i : Nat) : Nat → Option Nat := fun j => if G ≤ j ∧ j + 1 < i then f (j + 1) else f j
theorem tko_loop (T : Tree S) (hR : RX S hd LN LT xt xar xnt xln xcu xck xcp xcl xmk xtl xnu xti xpa xfa xep xel xde xtc) {e : Nat} (he : e ∈ sL S) (K : Ev g mdX1_takeOut 43 [some (.ref xo), some (.ref (hd e)), none, none, none] [] (wX g xo an ac am LN LT xt (sfq xar (ix S e) (sL S).length) xnt xln xcu xck xcp xcl xmk xtl xnu xti xpa xfa xep xel xde xtc) Ph) : ∀ (m i : Nat), i + m = (sL S).length → Ev g mdX1_takeOut 4 [some (.ref xo), some (.ref (hd e)), some (.int (nI (if i ≤ ix S e then i else i - 1))), some (.int (nI i)), none] [] (wX g xo an ac am LN LT xt (sfq xar (ix S e) i) xnt xln xcu xck xcp xcl xmk xtl xnu xti xpa xfa xep xel xde xtc) Ph := by
  have hlen := T.len
  have e1 := hR.1
  intro m
  induction m with
  | zero =>
    intro i hi
    have : i = (sL S).length := by omega
    subst this
    refine ev_iload_n (pc' := 5) dX1_takeOut_4 rfl rfl ?_
    refine ev_aload_nE (pc' := 6) dX1_takeOut_5 rfl rfl (by first | exact rf_some _ | exact rfl) ?_
    refine gX1_nodeTotal rfl (pc' := 9) dX1_takeOut_6 rfl ?_
    refine ev_icmp_ge (tgt := 43) (pc' := 12) dX1_takeOut_9 (by decide) rfl (fun h9 => ?_) (fun h9 => ?_)
    · exact Ev.weak [some (.ref xo), some (.ref (hd e)), none, none, none] (lw_le_get _ _ (by simp [lw_le])) K
    · rw [e1] at h9
      exact absurd (nI_le (by omega) (by omega)) h9
  | succ m ih =>
    intro i hi
    obtain ⟨b, hb, rfl⟩ := ix_at T (show i < (sL S).length by omega)
    have hr := RX.row hR hb
    have hx : sfq xar (ix S e) (ix S b) (ix S b) = some (hd b) := by unfold sfq; rw [if_neg (by omega)]; exact hr.2.1
    refine ev_iload_n (pc' := 5) dX1_takeOut_4 rfl rfl ?_
    refine ev_aload_nE (pc' := 6) dX1_takeOut_5 rfl rfl (by first | exact rf_some _ | exact rfl) ?_
    refine gX1_nodeTotal rfl (pc' := 9) dX1_takeOut_6 rfl ?_
    refine ev_icmp_ge (tgt := 43) (pc' := 12) dX1_takeOut_9 (by decide) rfl (fun h9 => ?_) (fun h9 => ?_)
    · rw [e1] at h9
      exact absurd h9 (nI_ge (by omega) (by omega))
    · refine ev_aload_nE (pc' := 13) dX1_takeOut_12 rfl rfl (by first | exact rf_some _ | exact rfl) ?_
      refine gX1_nodes rfl (pc' := 16) dX1_takeOut_13 rfl ?_
      refine ev_iload_n (pc' := 17) dX1_takeOut_16 rfl rfl ?_
      refine x_nodes_get (by omega) hx (pc' := 18) dX1_takeOut_17 rfl ?_
      show Ev g mdX1_takeOut 18 _ [.ref (hd b)] _ _
      refine ev_astoreE (by first | exact rf_some _ | exact rfl) (pc' := 20) (lv' := [_, _, _, _, _]) dX1_takeOut_18 rfl (by decide) (by intro w hw; first | exact Or.inl rfl | (right; have hw := Option.some.inj (Option.some.inj hw); subst hw; first | rfl | exact rf_cat _) | cases hw) rfl ?_
      refine ev_aloadE (pc' := 22) dX1_takeOut_20 rfl rfl (by first | exact rf_some _ | exact rfl) ?_
      refine ev_aload_nE (pc' := 23) dX1_takeOut_22 rfl rfl (by first | exact rf_some _ | exact rfl) ?_
      refine ev_acmp_eqE (by first | exact rf_some _ | exact rfl) (by first | exact rf_some _ | exact rfl) (tgt := 37) (pc' := 26) dX1_takeOut_23 (by decide) rfl (fun h23 => ?_) (fun h23 => ?_)
      · have hbe : b = e := RX.inj hR hb he (Option.some.inj h23)
        subst hbe
        refine ev_iinc (pc' := 40) (lv' := [_, _, _, _, _]) dX1_takeOut_37 rfl rfl (nI_1 _) (by decide) (by intro w hw; first | exact Or.inl rfl | (right; have hw := Option.some.inj (Option.some.inj hw); subst hw; first | rfl | exact rf_cat _) | cases hw) rfl ?_
        refine ev_goto (pc' := 4) dX1_takeOut_40 (by decide) ?_
        have h := ih (ix S b + 1) (by omega)
        rw [if_neg (by omega), Nat.add_sub_cancel] at h
        rw [if_pos (Nat.le_refl _)]
        refine Ev.weak [some (.ref xo), some (.ref (hd b)), some (.int (nI (ix S b))), some (.int (nI (ix S b + 1))), none] (lw_le_get _ _ (by simp [lw_le])) ?_
        refine Ev.eq rfl rfl rfl ?_ h
        have e5 : sfq xar (ix S b) (ix S b) = sfq xar (ix S b) (ix S b + 1) := by
          funext j; unfold sfq; rw [if_neg (by omega), if_neg (by omega)]
        rw [e5]
      · have hne : ix S b ≠ ix S e := fun q => h23 (by rw [ix_inj T hb he q])
        have hk24 := ix_lt T hb
        refine ev_aload_nE (pc' := 27) dX1_takeOut_26 rfl rfl (by first | exact rf_some _ | exact rfl) ?_
        refine gX1_nodes rfl (pc' := 30) dX1_takeOut_27 rfl ?_
        refine ev_iload_n (pc' := 31) dX1_takeOut_30 rfl rfl ?_
        refine ev_aloadE (pc' := 33) dX1_takeOut_31 rfl rfl (by first | exact rf_some _ | exact rfl) ?_
        refine x_nodes_put (by split <;> omega) hr.1 (pc' := 34) dX1_takeOut_33 rfl ?_
        refine ev_iinc (pc' := 37) (lv' := [_, _, _, _, _]) dX1_takeOut_34 rfl rfl (nI_1 _) (by decide) (by intro w hw; first | exact Or.inl rfl | (right; have hw := Option.some.inj (Option.some.inj hw); subst hw; first | rfl | exact rf_cat _) | cases hw) rfl ?_
        refine ev_iinc (pc' := 40) (lv' := [_, _, _, _, _]) dX1_takeOut_37 rfl rfl (nI_1 _) (by decide) (by intro w hw; first | exact Or.inl rfl | (right; have hw := Option.some.inj (Option.some.inj hw); subst hw; first | rfl | exact rf_cat _) | cases hw) rfl ?_
        refine ev_goto (pc' := 4) dX1_takeOut_40 (by decide) ?_
        have h := ih (ix S b + 1) (by omega)
        refine Ev.weak [some (.ref xo), some (.ref (hd e)), some (.int (nI ((if ix S b ≤ ix S e then ix S b else ix S b - 1) + 1))), some (.int (nI (ix S b + 1))), none] (lw_le_get _ _ (by simp [lw_le])) ?_
        have e4 : (if ix S b ≤ ix S e then ix S b else ix S b - 1) + 1 = if ix S b + 1 ≤ ix S e then ix S b + 1 else ix S b + 1 - 1 := by
          split <;> split <;> omega
        rw [e4]
        refine Ev.eq rfl rfl rfl ?_ h
        have e5 : va_up (sfq xar (ix S e) (ix S b)) (if ix S b ≤ ix S e then ix S b else ix S b - 1) (some (hd b)) = sfq xar (ix S e) (ix S b + 1) := by
          funext j
          by_cases q : j = (if ix S b ≤ ix S e then ix S b else ix S b - 1)
          · rw [q, va_up_self]
            by_cases r : ix S b ≤ ix S e
            · rw [if_pos r]; unfold sfq; rw [if_neg (by omega)]; exact hr.2.1.symm
            · rw [if_neg r]; unfold sfq; rw [if_pos (by omega), show ix S b - 1 + 1 = ix S b by omega]; exact hr.2.1.symm
          · rw [va_up_ne _ _ q]
            unfold sfq
            by_cases r : ix S b ≤ ix S e
            · rw [if_pos r] at q; rw [if_neg (by omega), if_neg (by omega)]
            · rw [if_neg r] at q
              by_cases r2 : ix S e ≤ j ∧ j + 1 < ix S b
              · rw [if_pos r2, if_pos (by omega)]
              · rw [if_neg r2, if_neg (by omega)]
        rw [e5]
theorem RX_rmv (T : Tree S) (hR : RX S hd LN LT xt xar xnt xln xcu xck xcp xcl xmk xtl xnu xti xpa xfa xep xel xde xtc) {e n : Nat} (he : e ∈ sL S) (hT : Tree (rmv S e)) (hn : n + 1 = (sL S).length) (hc : scu S ∈ sL S) : RX (rmv S e) hd LN LT xt (va_up (sfq xar (ix S e) (sL S).length) n (some (hd e))) (nI n) xln xcu xck xcp xcl xmk xtl xnu xti xpa xfa xep xel xde xtc := by
  have hk := ix_len he
  have hre := RX.row hR he
  refine ⟨?_, hR.2.1, hR.2.2.1, hR.2.2.2.1, hR.2.2.2.2.1, fun a ha => ?_, hR.2.2.2.2.2.2.1, hR.2.2.2.2.2.2.2.1, fun a ha b hb h => RX.inj hR ((rmv_mem T he).mp ha).1 ((rmv_mem T he).mp hb).1 h, fun k h1 h2 => ?_, fun j k h1 h2 h3 => ?_, hR.2.2.2.2.2.2.2.2.2.2.2⟩
  · rw [rmv_len he, ← hn, Nat.add_sub_cancel]
  · obtain ⟨h1, h2⟩ := (rmv_mem T he).mp ha
    have hr := RX.row hR h1
    have hka := ix_len h1
    refine ⟨hr.1, ?_, hr.2.2⟩
    rcases rmv_ix T he hT h1 h2 with ⟨q1, q2⟩ | ⟨q1, q2⟩
    · rw [q2, va_up_ne _ _ (by omega)]; unfold sfq; rw [if_neg (by omega)]; exact hr.2.1
    · rw [va_up_ne _ _ (by omega)]; unfold sfq; rw [if_pos (by omega), q2]; exact hr.2.1
  · rw [rmv_len he] at h1
    by_cases q : k = n
    · exact ⟨hd e, by rw [q, va_up_self], hre.1, fun a ha h => ((rmv_mem T he).mp ha).2 (RX.inj hR ((rmv_mem T he).mp ha).1 he h)⟩
    · obtain ⟨q', e1, e2, e3⟩ := hR.2.2.2.2.2.2.2.2.2.1 k (by omega) h2
      exact ⟨q', by rw [va_up_ne _ _ q]; unfold sfq; rw [if_neg (by omega)]; exact e1, e2, fun a ha => e3 a ((rmv_mem T he).mp ha).1⟩
  · rw [rmv_len he] at h1
    have hk' : va_up (sfq xar (ix S e) (sL S).length) n (some (hd e)) k = xar k := by
      rw [va_up_ne _ _ (by omega)]; unfold sfq; rw [if_neg (by omega)]
    rw [hk']
    by_cases q : j = n
    · rw [q, va_up_self]
      obtain ⟨q', e1, e2, e3⟩ := hR.2.2.2.2.2.2.2.2.2.1 k (by omega) h3
      rw [e1]
      exact fun z => e3 e he (Option.some.inj z)
    · rw [va_up_ne _ _ q, show sfq xar (ix S e) (sL S).length j = xar j by unfold sfq; rw [if_neg (by omega)]]
      exact hR.2.2.2.2.2.2.2.2.2.2.1 j k (by omega) h2 h3
theorem c_takeOut (T : Tree S) (hR : RX S hd LN LT xt xar xnt xln xcu xck xcp xcl xmk xtl xnu xti xpa xfa xep xel xde xtc) {e n : Nat} (he : e ∈ sL S) (hn : n + 1 = (sL S).length) : Ret g mdX1_takeOut [.ref xo, .ref (hd e)] (wX g xo an ac am LN LT xt xar xnt xln xcu xck xcp xcl xmk xtl xnu xti xpa xfa xep xel xde xtc) (fun r w => r = none ∧ w = (wX g xo an ac am LN LT xt (va_up (sfq xar (ix S e) (sL S).length) n (some (hd e))) (nI n) xln xcu xck xcp xcl xmk xtl xnu xti xpa xfa xep xel xde xtc)) := by
  refine Ret.of [_, _, _, _, _] 3 (by decide) (Nat.le_of_ble_eq_true rfl) rfl ?_
  have hlen := T.len
  have hre := RX.row hR he
  refine ev_iconst (pc' := 1) (v := nI 0) dX1_takeOut_0 rfl (by decide) ?_
  refine ev_istore_n (pc' := 2) (lv' := [_, _, _, _, _]) dX1_takeOut_1 rfl (by decide) (by intro w hw; first | exact Or.inl rfl | (right; have hw := Option.some.inj (Option.some.inj hw); subst hw; first | rfl | exact rf_cat _) | cases hw) rfl ?_
  refine ev_iconst (pc' := 3) (v := nI 0) dX1_takeOut_2 rfl (by decide) ?_
  refine ev_istore_n (pc' := 4) (lv' := [_, _, _, _, _]) dX1_takeOut_3 rfl (by decide) (by intro w hw; first | exact Or.inl rfl | (right; have hw := Option.some.inj (Option.some.inj hw); subst hw; first | rfl | exact rf_cat _) | cases hw) rfl ?_
  have h := tko_loop (g := g) (xo := xo) (an := an) (ac := ac) (am := am) (Ph := fun r w => r = none ∧ w = (wX g xo an ac am LN LT xt (va_up (sfq xar (ix S e) (sL S).length) n (some (hd e))) (nI n) xln xcu xck xcp xcl xmk xtl xnu xti xpa xfa xep xel xde xtc)) T hR he ?_ (sL S).length 0 (by omega)
  · rw [if_pos (Nat.zero_le _)] at h
    refine Ev.eq rfl rfl rfl ?_ h
    have e5 : xar = sfq xar (ix S e) 0 := by
      funext j; unfold sfq; rw [if_neg (by omega)]
    rw [← e5]
  · have e1 := hR.1
    rw [← hn] at e1
    subst e1
    refine ev_aload_nE (pc' := 44) dX1_takeOut_43 rfl rfl (by first | exact rf_some _ | exact rfl) ?_
    refine ev_dup (pc' := 45) dX1_takeOut_44 rfl (by first | rfl | exact rf_cat _) ?_
    refine gX1_nodeTotal rfl (pc' := 48) dX1_takeOut_45 rfl ?_
    refine ev_iconst (pc' := 49) (v := nI 1) dX1_takeOut_48 rfl (by decide) ?_
    refine ev_isubN (by omega) (pc' := 50) dX1_takeOut_49 rfl ?_
    refine pX1_nodeTotal rfl (pc' := 53) dX1_takeOut_50 rfl ?_
    refine ev_aload_nE (pc' := 54) dX1_takeOut_53 rfl rfl (by first | exact rf_some _ | exact rfl) ?_
    refine gX1_nodes rfl (pc' := 57) dX1_takeOut_54 rfl ?_
    refine ev_aload_nE (pc' := 58) dX1_takeOut_57 rfl rfl (by first | exact rf_some _ | exact rfl) ?_
    refine gX1_nodeTotal rfl (pc' := 61) dX1_takeOut_58 rfl ?_
    refine ev_aload_nE (pc' := 62) dX1_takeOut_61 rfl rfl (by first | exact rf_some _ | exact rfl) ?_
    refine x_nodes_put (by omega) hre.1 (pc' := 63) dX1_takeOut_62 rfl ?_
    refine ev_vret rfl dX1_takeOut_63 ?_
    exact ⟨rfl, rfl⟩
theorem fa_eq' (I : Inv N S) (hR : RX S hd LN LT xt xar xnt xln xcu xck xcp xcl xmk xtl xnu xti xpa xfa xep xel xde xtc) {p e : Nat} (hp : p ∈ sL S) (he : e ∈ sL S) : (sfa S p).map hd = some (hd e) ↔ sfa S p = some e := by
  cases h : sfa S p with
  | none => exact ⟨fun q => absurd q (by simp), fun q => absurd q (by simp)⟩
  | some c => exact ⟨fun q => by rw [RX.inj hR (I.fa hp h).1 he (Option.some.inj q)], fun q => by cases q; rfl⟩
theorem RX.setFav2 (hR : RX S hd LN LT xt xar xnt xln xcu xck xcp xcl xmk xtl xnu xti xpa xfa xep xel xde xtc) {b : Nat} (o : Option Nat) (hb : b ∈ sL S) : RX (setFa S (va_up (sfa S) b o)) hd LN LT xt xar xnt xln xcu xck xcp xcl xmk xtl xnu xti xpa (va_up xfa (hd b) (o.map hd)) xep xel xde xtc := by
  refine ⟨hR.1, hR.2.1, hR.2.2.1, hR.2.2.2.1, hR.2.2.2.2.1, fun x hx => ?_, hR.2.2.2.2.2.2⟩
  have h := hR.2.2.2.2.2.1 x hx
  refine ⟨h.1, h.2.1, h.2.2.1, h.2.2.2.1, h.2.2.2.2.1, h.2.2.2.2.2.1, ?_, h.2.2.2.2.2.2.2⟩
  show va_up xfa (hd b) (o.map hd) (hd x) = (va_up (sfa S) b o x).map hd
  by_cases q : x = b
  · rw [q, va_up_self, va_up_self]
  · rw [va_up_ne _ _ (fun e => q (RX.inj hR hx hb e)), va_up_ne _ _ q]; exact h.2.2.2.2.2.2.1
theorem c_xforget (I : Inv N S) (hR : RX S hd LN LT xt xar xnt xln xcu xck xcp xcl xmk xtl xnu xti xpa xfa xep xel xde xtc) (x : Int32) : Ret g mdX1_forget [.ref xo, .int x] (wX g xo an ac am LN LT xt xar xnt xln xcu xck xcp xcl xmk xtl xnu xti xpa xfa xep xel xde xtc) (fun r w => r = some (.int (oFgt S x).1) ∧ isX g xo an ac am LN LT xt (oFgt S x).2 w) := by
  refine Ret.of [_, _, _, _] 2 (by decide) (Nat.le_of_ble_eq_true rfl) rfl ?_
  have T := I.T
  refine ev_aload_nE (pc' := 1) dX1_forget_0 rfl rfl (by first | exact rf_some _ | exact rfl) ?_
  refine ev_iload_n (pc' := 2) dX1_forget_1 rfl rfl ?_
  refine x_callV (As := [_]) coX1_find rfl (c_find T hR x) rfl (by decide) (by first | exact Nat.le_of_ble_eq_true rfl | simp [Value.category, rf_cat]) dX1_forget_2 rfl (pc' := 5) rfl (fun v w hq => ?_)
  obtain ⟨rfl, rfl⟩ := hq
  dsimp only [Option.toList, List.cons_append, List.nil_append]
  cases hl : lk S x with
  | none =>
    show Ev g mdX1_forget 5 _ [va_rf none] _ _
    refine ev_astore_nE (by first | exact rf_some _ | exact rfl) (pc' := 6) (lv' := [_, _, _, _]) dX1_forget_5 rfl (by decide) (by intro w hw; first | exact Or.inl rfl | (right; have hw := Option.some.inj (Option.some.inj hw); subst hw; first | rfl | exact rf_cat _) | cases hw) rfl ?_
    refine ev_aload_nE (pc' := 7) dX1_forget_6 rfl rfl (by first | exact rf_some _ | exact rfl) ?_
    refine ev_ifnonnullZ (pc' := 10) dX1_forget_7 rfl ?_
    refine ev_bipush (pc' := 12) (v := (-2)) dX1_forget_10 rfl (by decide) ?_
    refine ev_iret rfl dX1_forget_12 ?_
    rw [oFgt_0 hl]
    exact ⟨rfl, isX.of hR⟩
  | some e =>
    have he := (lk_some hl).1
    have hr := RX.row hR he
    have hpa := hr.2.2.2.2.2.1
    show Ev g mdX1_forget 5 _ [.ref (hd e)] _ _
    refine ev_astore_nE (by first | exact rf_some _ | exact rfl) (pc' := 6) (lv' := [_, _, _, _]) dX1_forget_5 rfl (by decide) (by intro w hw; first | exact Or.inl rfl | (right; have hw := Option.some.inj (Option.some.inj hw); subst hw; first | rfl | exact rf_cat _) | cases hw) rfl ?_
    refine ev_aload_nE (pc' := 7) dX1_forget_6 rfl rfl (by first | exact rf_some _ | exact rfl) ?_
    refine ev_ifnonnullR (tgt := 13) dX1_forget_7 (by decide) ?_
    refine ev_aload_nE (pc' := 14) dX1_forget_13 rfl rfl (by first | exact rf_some _ | exact rfl) ?_
    refine ev_aload_nE (pc' := 15) dX1_forget_14 rfl rfl (by first | exact rf_some _ | exact rfl) ?_
    refine x_callV (As := [_]) coX1_isForgettable rfl (c_isForgettable I hR he) rfl (by decide) (by first | exact Nat.le_of_ble_eq_true rfl | simp [Value.category, rf_cat]) dX1_forget_15 rfl (pc' := 18) rfl (fun v w hq => ?_)
    obtain ⟨rfl, rfl⟩ := hq
    dsimp only [Option.toList, List.cons_append, List.nil_append]
    refine ev_if_ne (tgt := 24) (pc' := 21) dX1_forget_18 (by decide) rfl (fun h18 => ?_) (fun h18 => ?_)
    · rw [bI_ne] at h18
      obtain ⟨hz, hce, -, -⟩ := loose_of h18
      obtain ⟨p, hp, hpL, hpe⟩ := T.2.2.2.2.2.2 e he hz
      have hT := rmv_T T he hz (loose_ch h18)
      have hp1 : p ∈ sL (rmv S e) := (rmv_mem T he).mpr ⟨hpL, by omega⟩
      have hk := ix_len he
      obtain ⟨n, hn⟩ : ∃ n, n + 1 = (sL S).length := ⟨(sL S).length - 1, by omega⟩
      have hR2 := RX_rmv T hR he hT hn I.cu
      have hrp := RX.row hR2 hp1
      rw [hp] at hpa
      rw [oFgt_y hl h18 hp, ← hn, Nat.add_sub_cancel]
      refine ev_aload_nE (pc' := 25) dX1_forget_24 rfl rfl (by first | exact rf_some _ | exact rfl) ?_
      refine gX0_parent rfl hr.1 hpa (pc' := 28) dX1_forget_25 rfl ?_
      show Ev g mdX1_forget 28 _ [.ref (hd p)] _ _
      refine ev_astore_nE (by first | exact rf_some _ | exact rfl) (pc' := 29) (lv' := [_, _, _, _]) dX1_forget_28 rfl (by decide) (by intro w hw; first | exact Or.inl rfl | (right; have hw := Option.some.inj (Option.some.inj hw); subst hw; first | rfl | exact rf_cat _) | cases hw) rfl ?_
      refine ev_aload_nE (pc' := 30) dX1_forget_29 rfl rfl (by first | exact rf_some _ | exact rfl) ?_
      refine ev_aload_nE (pc' := 31) dX1_forget_30 rfl rfl (by first | exact rf_some _ | exact rfl) ?_
      refine x_callV (As := [_]) coX1_takeOut rfl (c_takeOut T hR he hn) rfl (by decide) (by first | exact Nat.le_of_ble_eq_true rfl | simp [Value.category, rf_cat]) dX1_forget_31 rfl (pc' := 34) rfl (fun v w hq => ?_)
      obtain ⟨rfl, rfl⟩ := hq
      dsimp only [Option.toList, List.cons_append, List.nil_append]
      show Ev g mdX1_forget 34 _ _ _ (fun r w => r = some (.int (nI n)) ∧ isX g xo an ac am LN LT xt (fgS S e p) w)
      unfold fgS
      refine ev_aload_nE (pc' := 35) dX1_forget_34 rfl rfl (by first | exact rf_some _ | exact rfl) ?_
      refine ev_ifnullR (pc' := 38) dX1_forget_35 rfl ?_
      refine ev_aload_nE (pc' := 39) dX1_forget_38 rfl rfl (by first | exact rf_some _ | exact rfl) ?_
      refine gX0_favourite rfl hrp.1 hrp.2.2.2.2.2.2.1 (pc' := 42) dX1_forget_39 rfl ?_
      refine ev_aload_nE (pc' := 43) dX1_forget_42 rfl rfl (by first | exact rf_some _ | exact rfl) ?_
      refine ev_acmp_neE (by first | exact rf_some _ | exact rfl) (by first | exact rf_some _ | exact rfl) (tgt := 55) (pc' := 46) dX1_forget_43 (by decide) rfl (fun h43 => ?_) (fun h43 => ?_)
      · rw [show sfa (rmv S e) p = sfa S p from rfl, fa_eq' I hR hpL he] at h43
        rw [if_neg h43]
        refine ev_aload_nE (pc' := 56) dX1_forget_55 rfl rfl (by first | exact rf_some _ | exact rfl) ?_
        refine gX1_nodeTotal rfl (pc' := 59) dX1_forget_56 rfl ?_
        refine ev_iret rfl dX1_forget_59 ?_
        exact ⟨rfl, isX.of hR2⟩
      · rw [show sfa (rmv S e) p = sfa S p from rfl, fa_eq' I hR hpL he] at h43
        rw [if_pos h43]
        refine ev_aload_nE (pc' := 47) dX1_forget_46 rfl rfl (by first | exact rf_some _ | exact rfl) ?_
        refine ev_aload_nE (pc' := 48) dX1_forget_47 rfl rfl (by first | exact rf_some _ | exact rfl) ?_
        refine ev_aload_nE (pc' := 49) dX1_forget_48 rfl rfl (by first | exact rf_some _ | exact rfl) ?_
        refine x_callV (As := [_]) coX1_newestChild rfl (c_newestChild hT hR2 hp1) rfl (by decide) (by first | exact Nat.le_of_ble_eq_true rfl | simp [Value.category, rf_cat]) dX1_forget_49 rfl (pc' := 52) rfl (fun v w hq => ?_)
        obtain ⟨rfl, rfl⟩ := hq
        dsimp only [Option.toList, List.cons_append, List.nil_append]
        refine pX0_favouriteE (by first | exact rf_some _ | exact rfl) rfl hrp.1 (pc' := 55) dX1_forget_52 rfl ?_
        refine ev_aload_nE (pc' := 56) dX1_forget_55 rfl rfl (by first | exact rf_some _ | exact rfl) ?_
        refine gX1_nodeTotal rfl (pc' := 59) dX1_forget_56 rfl ?_
        refine ev_iret rfl dX1_forget_59 ?_
        exact ⟨rfl, isX.of (RX.setFav2 hR2 (nch (spa S) p (sL (rmv S e))) hp1)⟩
    · rw [bI_eq] at h18
      refine ev_bipush (pc' := 23) (v := (-6)) dX1_forget_21 rfl (by decide) ?_
      refine ev_iret rfl dX1_forget_23 ?_
      rw [oFgt_n hl h18]
      exact ⟨rfl, isX.of hR⟩
/-! the digest -/
theorem c_mixed (ws : va_W) (h v : Int64) : Ret g mdX1_mixed [.long h, .long v] ws (fun r w => r = some (.long (mx h v)) ∧ w = ws) := by
  refine Ret.of [_, _, _, _] 0 (by decide) (Nat.le_of_ble_eq_true rfl) rfl ?_
  refine ev_ldc2 (pc' := 3) clX1_177 dX1_mixed_0 rfl ?_
  refine ev_lload_n (pc' := 4) dX1_mixed_3 rfl rfl ?_
  refine ev_lmul (pc' := 5) dX1_mixed_4 rfl ?_
  refine ev_lload_n (pc' := 6) dX1_mixed_5 rfl rfl ?_
  refine ev_ladd (pc' := 7) dX1_mixed_6 rfl ?_
  refine ev_lret rfl dX1_mixed_7 ?_
  exact ⟨rfl, rfl⟩
theorem mxt_loop (ws : va_W) {q0 t n0 n : Nat} {f : Nat → Int32} (ha : ws[q0]? = some (t, .inl (g.2.2.1, n0, .inl f))) (hn : n ≤ n0) (hn0 : n0 < 1000) (h0 : Int64) : ∀ (m i : Nat) (h : Int64), i + m = n → Ev g mdX1_mixedText 11 [some (.long h0), none, some (.ref t), some (.int (nI n)), some (.long h), none, some (.int (nI i))] [] ws (fun r w => r = some (.long (mxT f m i h)) ∧ w = ws) := by
  intro m
  induction m with
  | zero =>
    intro i h hi
    refine ev_iload (pc' := 13) dX1_mixedText_11 rfl rfl ?_
    refine ev_iload_n (pc' := 14) dX1_mixedText_13 rfl rfl ?_
    refine ev_icmp_ge (tgt := 42) (pc' := 17) dX1_mixedText_14 (by decide) rfl (fun h14 => ?_) (fun h14 => ?_)
    · refine ev_lload (pc' := 44) dX1_mixedText_42 rfl rfl ?_
      refine ev_lret rfl dX1_mixedText_44 ?_
      exact ⟨rfl, rfl⟩
    · exact absurd (nI_le (by omega) (by omega)) h14
  | succ m ih =>
    intro i h hi
    refine ev_iload (pc' := 13) dX1_mixedText_11 rfl rfl ?_
    refine ev_iload_n (pc' := 14) dX1_mixedText_13 rfl rfl ?_
    refine ev_icmp_ge (tgt := 42) (pc' := 17) dX1_mixedText_14 (by decide) rfl (fun h14 => ?_) (fun h14 => ?_)
    · exact absurd h14 (nI_ge (by omega) (by omega))
    · refine ev_iload (pc' := 19) dX1_mixedText_17 rfl rfl ?_
      refine ev_aload_nE (pc' := 20) dX1_mixedText_19 rfl rfl (by first | exact rf_some _ | exact rfl) ?_
      refine ev_alenC (v := nI n0) q0 ha rfl (pc' := 21) dX1_mixedText_20 rfl ?_
      refine ev_icmp_ge (tgt := 42) (pc' := 24) dX1_mixedText_21 (by decide) rfl (fun h21 => ?_) (fun h21 => ?_)
      · exact absurd h21 (nI_ge (by omega) (by omega))
      · refine ev_lload (pc' := 26) dX1_mixedText_24 rfl rfl ?_
        refine ev_aload_nE (pc' := 27) dX1_mixedText_26 rfl rfl (by first | exact rf_some _ | exact rfl) ?_
        refine ev_iload (pc' := 29) dX1_mixedText_27 rfl rfl ?_
        refine ev_caldN q0 ha (by omega) (by omega) rfl (pc' := 30) dX1_mixedText_29 rfl ?_
        refine ev_i2l (pc' := 31) dX1_mixedText_30 rfl ?_
        refine ev_callS (As := [_, _]) coX1_mixed (c_mixed _ _ _) rfl (by decide) (by first | exact Nat.le_of_ble_eq_true rfl | simp [Value.category, rf_cat]) dX1_mixedText_31 rfl (pc' := 34) rfl (fun v w hq => ?_)
        obtain ⟨rfl, rfl⟩ := hq
        dsimp only [Option.toList, List.cons_append, List.nil_append]
        refine ev_lstore (pc' := 36) (lv' := [_, _, _, _, _, _, _]) dX1_mixedText_34 rfl (by decide) (by intro w hw; first | exact Or.inl rfl | (right; have hw := Option.some.inj (Option.some.inj hw); subst hw; first | rfl | exact rf_cat _) | cases hw) rfl ?_
        refine ev_iinc (pc' := 39) (lv' := [_, _, _, _, _, _, _]) dX1_mixedText_36 rfl rfl (nI_1 _) (by decide) (by intro w hw; first | exact Or.inl rfl | (right; have hw := Option.some.inj (Option.some.inj hw); subst hw; first | rfl | exact rf_cat _) | cases hw) rfl ?_
        refine ev_goto (pc' := 11) dX1_mixedText_39 (by decide) ?_
        exact ih (i + 1) _ (by omega)
theorem c_mixedText (ws : va_W) {q0 t n0 n : Nat} {f : Nat → Int32} (ha : ws[q0]? = some (t, .inl (g.2.2.1, n0, .inl f))) (hn : n ≤ n0) (hn0 : n0 < 1000) (h : Int64) : Ret g mdX1_mixedText [.long h, .ref t, .int (nI n)] ws (fun r w => r = some (.long (mxT f n 0 (mx h (nI n).toInt64))) ∧ w = ws) := by
  refine Ret.of [_, _, _, _, _, _, _] 3 (by decide) (Nat.le_of_ble_eq_true rfl) rfl ?_
  refine ev_lload_n (pc' := 1) dX1_mixedText_0 rfl rfl ?_
  refine ev_iload_n (pc' := 2) dX1_mixedText_1 rfl rfl ?_
  refine ev_i2l (pc' := 3) dX1_mixedText_2 rfl ?_
  refine ev_callS (As := [_, _]) coX1_mixed (c_mixed _ _ _) rfl (by decide) (by first | exact Nat.le_of_ble_eq_true rfl | simp [Value.category, rf_cat]) dX1_mixedText_3 rfl (pc' := 6) rfl (fun v w hq => ?_)
  obtain ⟨rfl, rfl⟩ := hq
  dsimp only [Option.toList, List.cons_append, List.nil_append]
  refine ev_lstore (pc' := 8) (lv' := [_, _, _, _, _, _, _]) dX1_mixedText_6 rfl (by decide) (by intro w hw; first | exact Or.inl rfl | (right; have hw := Option.some.inj (Option.some.inj hw); subst hw; first | rfl | exact rf_cat _) | cases hw) rfl ?_
  refine ev_iconst (pc' := 9) (v := nI 0) dX1_mixedText_8 rfl (by decide) ?_
  refine ev_istore (pc' := 11) (lv' := [_, _, _, _, _, _, _]) dX1_mixedText_9 rfl (by decide) (by intro w hw; first | exact Or.inl rfl | (right; have hw := Option.some.inj (Option.some.inj hw); subst hw; first | rfl | exact rf_cat _) | cases hw) rfl ?_
  exact mxt_loop _ ha hn hn0 h n 0 _ (by omega)
theorem c_mixedNode (I : Inv N S) (hR : RX S hd LN LT xt xar xnt xln xcu xck xcp xcl xmk xtl xnu xti xpa xfa xep xel xde xtc) {a : Nat} (ha : a ∈ sL S) (h : Int64) : Ret g mdX1_mixedNode [.long h, .ref (hd a)] (wX g xo an ac am LN LT xt xar xnt xln xcu xck xcp xcl xmk xtl xnu xti xpa xfa xep xel xde xtc) (fun r w => r = some (.long (dgN S h a)) ∧ w = (wX g xo an ac am LN LT xt xar xnt xln xcu xck xcp xcl xmk xtl xnu xti xpa xfa xep xel xde xtc)) := by
  refine Ret.of [_, _, _, _, _, _] 3 (by decide) (Nat.le_of_ble_eq_true rfl) rfl ?_
  have T := I.T
  have hr := RX.row hR ha
  have hpa := hr.2.2.2.2.2.1
  have h40 := I.tl ha
  have hT := RX.tin hR hr.1
  obtain ⟨q0, -, hq0⟩ := wX_text (g := g) (xo := xo) (an := an) (ac := ac) (am := am) (LN := LN) (LT := LT) (xt := xt) (xar := xar) (xnt := xnt) (xln := xln) (xcu := xcu) (xck := xck) (xcp := xcp) (xcl := xcl) (xmk := xmk) (xtl := xtl) (xnu := xnu) (xti := xti) (xpa := xpa) (xfa := xfa) (xep := xep) (xel := xel) (xde := xde) (xtc := xtc) hT
  have em : ∀ h2, mxT (xtc (xt (hd a))) (stl S a) 0 h2 = mxT (stx S a) (stl S a) 0 h2 := fun h2 => mxT_cong _ _ _ (fun j _ hj => hr.2.2.2.2.2.2.2.2.2.2 j (by omega))
  have tail : ∀ (h2 : Int64) (v3 : Option Nat), Ev g mdX1_mixedNode 56 [some (.long h), none, some (.ref (hd a)), some (va_rf v3), some (.long h2), none] [] (wX g xo an ac am LN LT xt xar xnt xln xcu xck xcp xcl xmk xtl xnu xti xpa xfa xep xel xde xtc) (fun r w => r = some (.long (mx (mx (mxT (stx S a) (stl S a) 0 (mx h2 (nI (stl S a)).toInt64)) (oI (sfa S a)).toInt64) (nI (sti S a)).toInt64)) ∧ w = (wX g xo an ac am LN LT xt xar xnt xln xcu xck xcp xcl xmk xtl xnu xti xpa xfa xep xel xde xtc)) := by
    intro h2 v3
    refine ev_lload (pc' := 58) dX1_mixedNode_56 rfl rfl ?_
    refine ev_aload_nE (pc' := 59) dX1_mixedNode_58 rfl rfl (by first | exact rf_some _ | exact rfl) ?_
    refine gX0_text rfl hr.1 (pc' := 62) dX1_mixedNode_59 rfl ?_
    refine ev_aload_nE (pc' := 63) dX1_mixedNode_62 rfl rfl (by first | exact rf_some _ | exact rfl) ?_
    refine gX0_textLength rfl hr.1 hr.2.2.1 (pc' := 66) dX1_mixedNode_63 rfl ?_
    refine ev_callS (As := [_, _, _]) coX1_mixedText (c_mixedText _ hq0 (by omega) (by omega) _) rfl (by decide) (by first | exact Nat.le_of_ble_eq_true rfl | simp [Value.category, rf_cat]) dX1_mixedNode_66 rfl (pc' := 69) rfl (fun v w hq => ?_)
    obtain ⟨rfl, rfl⟩ := hq
    dsimp only [Option.toList, List.cons_append, List.nil_append]
    refine ev_lstore (pc' := 71) (lv' := [_, _, _, _, _, _]) dX1_mixedNode_69 rfl (by decide) (by intro w hw; first | exact Or.inl rfl | (right; have hw := Option.some.inj (Option.some.inj hw); subst hw; first | rfl | exact rf_cat _) | cases hw) rfl ?_
    refine ev_lload (pc' := 73) dX1_mixedNode_71 rfl rfl ?_
    refine ev_aload_nE (pc' := 74) dX1_mixedNode_73 rfl rfl (by first | exact rf_some _ | exact rfl) ?_
    refine gX0_favourite rfl hr.1 hr.2.2.2.2.2.2.1 (pc' := 77) dX1_mixedNode_74 rfl ?_
    refine ev_callS (As := [_]) coX1_numberOrNone (c_non hR (sfa S a) (fun c hc => (I.fa ha hc).1)) rfl (by decide) (by first | exact Nat.le_of_ble_eq_true rfl | simp [Value.category, rf_cat]) dX1_mixedNode_77 rfl (pc' := 80) rfl (fun v w hq => ?_)
    obtain ⟨rfl, rfl⟩ := hq
    dsimp only [Option.toList, List.cons_append, List.nil_append]
    refine ev_i2l (pc' := 81) dX1_mixedNode_80 rfl ?_
    refine ev_callS (As := [_, _]) coX1_mixed (c_mixed _ _ _) rfl (by decide) (by first | exact Nat.le_of_ble_eq_true rfl | simp [Value.category, rf_cat]) dX1_mixedNode_81 rfl (pc' := 84) rfl (fun v w hq => ?_)
    obtain ⟨rfl, rfl⟩ := hq
    dsimp only [Option.toList, List.cons_append, List.nil_append]
    refine ev_lstore (pc' := 86) (lv' := [_, _, _, _, _, _]) dX1_mixedNode_84 rfl (by decide) (by intro w hw; first | exact Or.inl rfl | (right; have hw := Option.some.inj (Option.some.inj hw); subst hw; first | rfl | exact rf_cat _) | cases hw) rfl ?_
    refine ev_lload (pc' := 88) dX1_mixedNode_86 rfl rfl ?_
    refine ev_aload_nE (pc' := 89) dX1_mixedNode_88 rfl rfl (by first | exact rf_some _ | exact rfl) ?_
    refine gX0_time rfl hr.1 hr.2.2.2.2.1 (pc' := 92) dX1_mixedNode_89 rfl ?_
    refine ev_i2l (pc' := 93) dX1_mixedNode_92 rfl ?_
    refine ev_callS (As := [_, _]) coX1_mixed (c_mixed _ _ _) rfl (by decide) (by first | exact Nat.le_of_ble_eq_true rfl | simp [Value.category, rf_cat]) dX1_mixedNode_93 rfl (pc' := 96) rfl (fun v w hq => ?_)
    obtain ⟨rfl, rfl⟩ := hq
    dsimp only [Option.toList, List.cons_append, List.nil_append]
    refine ev_lret rfl dX1_mixedNode_96 ?_
    refine ⟨?_, rfl⟩
    rw [em]
  unfold dgN
  cases hb : spa S a with
  | none =>
    have hz := (a0_none T ha).mpr hb
    rw [hb] at hpa
    rw [if_pos hz, if_pos hz]
    refine ev_aload_nE (pc' := 1) dX1_mixedNode_0 rfl rfl (by first | exact rf_some _ | exact rfl) ?_
    refine gX0_parent rfl hr.1 hpa (pc' := 4) dX1_mixedNode_1 rfl ?_
    show Ev g mdX1_mixedNode 4 _ [va_rf none] _ _
    refine ev_astore_nE (by first | exact rf_some _ | exact rfl) (pc' := 5) (lv' := [_, _, _, _, _, _]) dX1_mixedNode_4 rfl (by decide) (by intro w hw; first | exact Or.inl rfl | (right; have hw := Option.some.inj (Option.some.inj hw); subst hw; first | rfl | exact rf_cat _) | cases hw) rfl ?_
    refine ev_lload_n (pc' := 6) dX1_mixedNode_5 rfl rfl ?_
    refine ev_aload_nE (pc' := 7) dX1_mixedNode_6 rfl rfl (by first | exact rf_some _ | exact rfl) ?_
    refine gX0_number rfl hr.1 hr.2.2.2.1 (pc' := 10) dX1_mixedNode_7 rfl ?_
    refine ev_i2l (pc' := 11) dX1_mixedNode_10 rfl ?_
    refine ev_callS (As := [_, _]) coX1_mixed (c_mixed _ _ _) rfl (by decide) (by first | exact Nat.le_of_ble_eq_true rfl | simp [Value.category, rf_cat]) dX1_mixedNode_11 rfl (pc' := 14) rfl (fun v w hq => ?_)
    obtain ⟨rfl, rfl⟩ := hq
    dsimp only [Option.toList, List.cons_append, List.nil_append]
    refine ev_lstore (pc' := 16) (lv' := [_, _, _, _, _, _]) dX1_mixedNode_14 rfl (by decide) (by intro w hw; first | exact Or.inl rfl | (right; have hw := Option.some.inj (Option.some.inj hw); subst hw; first | rfl | exact rf_cat _) | cases hw) rfl ?_
    refine ev_lload (pc' := 18) dX1_mixedNode_16 rfl rfl ?_
    refine ev_aload_nE (pc' := 19) dX1_mixedNode_18 rfl rfl (by first | exact rf_some _ | exact rfl) ?_
    refine ev_ifnonnullZ (pc' := 22) dX1_mixedNode_19 rfl ?_
    refine ev_lconst (pc' := 23) (v := 0) dX1_mixedNode_22 rfl (by decide) ?_
    refine ev_goto (pc' := 31) dX1_mixedNode_23 (by decide) ?_
    refine ev_callS (As := [_, _]) coX1_mixed (c_mixed _ _ _) rfl (by decide) (by first | exact Nat.le_of_ble_eq_true rfl | simp [Value.category, rf_cat]) dX1_mixedNode_31 rfl (pc' := 34) rfl (fun v w hq => ?_)
    obtain ⟨rfl, rfl⟩ := hq
    dsimp only [Option.toList, List.cons_append, List.nil_append]
    refine ev_lstore (pc' := 36) (lv' := [_, _, _, _, _, _]) dX1_mixedNode_34 rfl (by decide) (by intro w hw; first | exact Or.inl rfl | (right; have hw := Option.some.inj (Option.some.inj hw); subst hw; first | rfl | exact rf_cat _) | cases hw) rfl ?_
    refine ev_lload (pc' := 38) dX1_mixedNode_36 rfl rfl ?_
    refine ev_aload_nE (pc' := 39) dX1_mixedNode_38 rfl rfl (by first | exact rf_some _ | exact rfl) ?_
    refine ev_ifnonnullZ (pc' := 42) dX1_mixedNode_39 rfl ?_
    refine ev_lconst (pc' := 43) (v := 0) dX1_mixedNode_42 rfl (by decide) ?_
    refine ev_goto (pc' := 51) dX1_mixedNode_43 (by decide) ?_
    refine ev_callS (As := [_, _]) coX1_mixed (c_mixed _ _ _) rfl (by decide) (by first | exact Nat.le_of_ble_eq_true rfl | simp [Value.category, rf_cat]) dX1_mixedNode_51 rfl (pc' := 54) rfl (fun v w hq => ?_)
    obtain ⟨rfl, rfl⟩ := hq
    dsimp only [Option.toList, List.cons_append, List.nil_append]
    refine ev_lstore (pc' := 56) (lv' := [_, _, _, _, _, _]) dX1_mixedNode_54 rfl (by decide) (by intro w hw; first | exact Or.inl rfl | (right; have hw := Option.some.inj (Option.some.inj hw); subst hw; first | rfl | exact rf_cat _) | cases hw) rfl ?_
    exact tail _ none
  | some b =>
    have hz : ¬ a = 0 := fun q => by rw [(a0_none T ha).mp q] at hb; cases hb
    have hrb := RX.row hR (T.par ha hb).1
    rw [hb] at hpa
    rw [if_neg hz, if_neg hz]
    refine ev_aload_nE (pc' := 1) dX1_mixedNode_0 rfl rfl (by first | exact rf_some _ | exact rfl) ?_
    refine gX0_parent rfl hr.1 hpa (pc' := 4) dX1_mixedNode_1 rfl ?_
    show Ev g mdX1_mixedNode 4 _ [.ref (hd b)] _ _
    refine ev_astore_nE (by first | exact rf_some _ | exact rfl) (pc' := 5) (lv' := [_, _, _, _, _, _]) dX1_mixedNode_4 rfl (by decide) (by intro w hw; first | exact Or.inl rfl | (right; have hw := Option.some.inj (Option.some.inj hw); subst hw; first | rfl | exact rf_cat _) | cases hw) rfl ?_
    refine ev_lload_n (pc' := 6) dX1_mixedNode_5 rfl rfl ?_
    refine ev_aload_nE (pc' := 7) dX1_mixedNode_6 rfl rfl (by first | exact rf_some _ | exact rfl) ?_
    refine gX0_number rfl hr.1 hr.2.2.2.1 (pc' := 10) dX1_mixedNode_7 rfl ?_
    refine ev_i2l (pc' := 11) dX1_mixedNode_10 rfl ?_
    refine ev_callS (As := [_, _]) coX1_mixed (c_mixed _ _ _) rfl (by decide) (by first | exact Nat.le_of_ble_eq_true rfl | simp [Value.category, rf_cat]) dX1_mixedNode_11 rfl (pc' := 14) rfl (fun v w hq => ?_)
    obtain ⟨rfl, rfl⟩ := hq
    dsimp only [Option.toList, List.cons_append, List.nil_append]
    refine ev_lstore (pc' := 16) (lv' := [_, _, _, _, _, _]) dX1_mixedNode_14 rfl (by decide) (by intro w hw; first | exact Or.inl rfl | (right; have hw := Option.some.inj (Option.some.inj hw); subst hw; first | rfl | exact rf_cat _) | cases hw) rfl ?_
    refine ev_lload (pc' := 18) dX1_mixedNode_16 rfl rfl ?_
    refine ev_aload_nE (pc' := 19) dX1_mixedNode_18 rfl rfl (by first | exact rf_some _ | exact rfl) ?_
    refine ev_ifnonnullR (tgt := 26) dX1_mixedNode_19 (by decide) ?_
    refine ev_aload_nE (pc' := 27) dX1_mixedNode_26 rfl rfl (by first | exact rf_some _ | exact rfl) ?_
    refine gX0_number rfl hrb.1 hrb.2.2.2.1 (pc' := 30) dX1_mixedNode_27 rfl ?_
    refine ev_i2l (pc' := 31) dX1_mixedNode_30 rfl ?_
    refine ev_callS (As := [_, _]) coX1_mixed (c_mixed _ _ _) rfl (by decide) (by first | exact Nat.le_of_ble_eq_true rfl | simp [Value.category, rf_cat]) dX1_mixedNode_31 rfl (pc' := 34) rfl (fun v w hq => ?_)
    obtain ⟨rfl, rfl⟩ := hq
    dsimp only [Option.toList, List.cons_append, List.nil_append]
    refine ev_lstore (pc' := 36) (lv' := [_, _, _, _, _, _]) dX1_mixedNode_34 rfl (by decide) (by intro w hw; first | exact Or.inl rfl | (right; have hw := Option.some.inj (Option.some.inj hw); subst hw; first | rfl | exact rf_cat _) | cases hw) rfl ?_
    refine ev_lload (pc' := 38) dX1_mixedNode_36 rfl rfl ?_
    refine ev_aload_nE (pc' := 39) dX1_mixedNode_38 rfl rfl (by first | exact rf_some _ | exact rfl) ?_
    refine ev_ifnonnullR (tgt := 46) dX1_mixedNode_39 (by decide) ?_
    refine ev_aload_nE (pc' := 47) dX1_mixedNode_46 rfl rfl (by first | exact rf_some _ | exact rfl) ?_
    refine ev_callS (As := [_]) coX1_editCode (c_editCode hR ha) rfl (by decide) (by first | exact Nat.le_of_ble_eq_true rfl | simp [Value.category, rf_cat]) dX1_mixedNode_47 rfl (pc' := 50) rfl (fun v w hq => ?_)
    obtain ⟨rfl, rfl⟩ := hq
    dsimp only [Option.toList, List.cons_append, List.nil_append]
    refine ev_i2l (pc' := 51) dX1_mixedNode_50 rfl ?_
    refine ev_callS (As := [_, _]) coX1_mixed (c_mixed _ _ _) rfl (by decide) (by first | exact Nat.le_of_ble_eq_true rfl | simp [Value.category, rf_cat]) dX1_mixedNode_51 rfl (pc' := 54) rfl (fun v w hq => ?_)
    obtain ⟨rfl, rfl⟩ := hq
    dsimp only [Option.toList, List.cons_append, List.nil_append]
    refine ev_lstore (pc' := 56) (lv' := [_, _, _, _, _, _]) dX1_mixedNode_54 rfl (by decide) (by intro w hw; first | exact Or.inl rfl | (right; have hw := Option.some.inj (Option.some.inj hw); subst hw; first | rfl | exact rf_cat _) | cases hw) rfl ?_
    exact tail _ (some (hd b))
theorem dgx_loop (I : Inv N S) (hR : RX S hd LN LT xt xar xnt xln xcu xck xcp xcl xmk xtl xnu xti xpa xfa xep xel xde xtc) : ∀ (m k : Nat) (h : Int64), k + m = (sL S).length → (∀ j, Ev g mdX1_digest 39 [some (.ref xo), some (.long (dgL S ((sL S).drop k) h)), none, some (.int (nI j))] [] (wX g xo an ac am LN LT xt xar xnt xln xcu xck xcp xcl xmk xtl xnu xti xpa xfa xep xel xde xtc) Ph) → Ev g mdX1_digest 14 [some (.ref xo), some (.long h), none, some (.int (nI k))] [] (wX g xo an ac am LN LT xt xar xnt xln xcu xck xcp xcl xmk xtl xnu xti xpa xfa xep xel xde xtc) Ph := by
  have T := I.T
  have hlen := T.len
  have e1 := hR.1
  intro m
  induction m with
  | zero =>
    intro k h hk K
    rw [drop_end hk] at K
    refine ev_iload_n (pc' := 15) dX1_digest_14 rfl rfl ?_
    refine ev_aload_nE (pc' := 16) dX1_digest_15 rfl rfl (by first | exact rf_some _ | exact rfl) ?_
    refine gX1_nodeTotal rfl (pc' := 19) dX1_digest_16 rfl ?_
    refine ev_icmp_ge (tgt := 39) (pc' := 22) dX1_digest_19 (by decide) rfl (fun h19 => ?_) (fun h19 => ?_)
    · exact K k
    · rw [e1] at h19
      exact absurd (nI_le (by omega) (by omega)) h19
  | succ m ih =>
    intro k h hk K
    obtain ⟨a, ha, rfl⟩ := ix_at T (show k < (sL S).length by omega)
    have hr := RX.row hR ha
    rw [drop_ix ha] at K
    refine ev_iload_n (pc' := 15) dX1_digest_14 rfl rfl ?_
    refine ev_aload_nE (pc' := 16) dX1_digest_15 rfl rfl (by first | exact rf_some _ | exact rfl) ?_
    refine gX1_nodeTotal rfl (pc' := 19) dX1_digest_16 rfl ?_
    refine ev_icmp_ge (tgt := 39) (pc' := 22) dX1_digest_19 (by decide) rfl (fun h19 => ?_) (fun h19 => ?_)
    · rw [e1] at h19
      exact absurd h19 (nI_ge (by omega) (by omega))
    · refine ev_lload_n (pc' := 23) dX1_digest_22 rfl rfl ?_
      refine ev_aload_nE (pc' := 24) dX1_digest_23 rfl rfl (by first | exact rf_some _ | exact rfl) ?_
      refine gX1_nodes rfl (pc' := 27) dX1_digest_24 rfl ?_
      refine ev_iload_n (pc' := 28) dX1_digest_27 rfl rfl ?_
      refine x_nodes_get (by omega) hr.2.1 (pc' := 29) dX1_digest_28 rfl ?_
      show Ev g mdX1_digest 29 _ (.ref (hd a) :: _) _ _
      refine ev_callS (As := [_, _]) coX1_mixedNode (c_mixedNode I hR ha _) rfl (by decide) (by first | exact Nat.le_of_ble_eq_true rfl | simp [Value.category, rf_cat]) dX1_digest_29 rfl (pc' := 32) rfl (fun v w hq => ?_)
      obtain ⟨rfl, rfl⟩ := hq
      dsimp only [Option.toList, List.cons_append, List.nil_append]
      refine ev_lstore_n (pc' := 33) (lv' := [_, _, _, _]) dX1_digest_32 rfl (by decide) (by intro w hw; first | exact Or.inl rfl | (right; have hw := Option.some.inj (Option.some.inj hw); subst hw; first | rfl | exact rf_cat _) | cases hw) rfl ?_
      refine ev_iinc (pc' := 36) (lv' := [_, _, _, _]) dX1_digest_33 rfl rfl (nI_1 _) (by decide) (by intro w hw; first | exact Or.inl rfl | (right; have hw := Option.some.inj (Option.some.inj hw); subst hw; first | rfl | exact rf_cat _) | cases hw) rfl ?_
      refine ev_goto (pc' := 14) dX1_digest_36 (by decide) ?_
      exact ih (ix S a + 1) _ (by omega) K
theorem dgy_loop (I : Inv N S) (hR : RX S hd LN LT xt xar xnt xln xcu xck xcp xcl xmk xtl xnu xti xpa xfa xep xel xde xtc) : ∀ (m k : Nat) (h : Int64), k + m = 5 → (∀ j, Ev g mdX1_digest 90 [some (.ref xo), some (.long (mxT (fun i => oI (smk S i)) m k h)), none, some (.int (nI j))] [] (wX g xo an ac am LN LT xt xar xnt xln xcu xck xcp xcl xmk xtl xnu xti xpa xfa xep xel xde xtc) Ph) → Ev g mdX1_digest 64 [some (.ref xo), some (.long h), none, some (.int (nI k))] [] (wX g xo an ac am LN LT xt xar xnt xln xcu xck xcp xcl xmk xtl xnu xti xpa xfa xep xel xde xtc) Ph := by
  intro m
  induction m with
  | zero =>
    intro k h hk K
    refine ev_iload_n (pc' := 65) dX1_digest_64 rfl rfl ?_
    refine ev_iconst (pc' := 66) (v := nI 5) dX1_digest_65 rfl (by decide) ?_
    refine ev_icmp_ge (tgt := 90) (pc' := 69) dX1_digest_66 (by decide) rfl (fun h66 => ?_) (fun h66 => ?_)
    · exact K k
    · exact absurd (nI_le (by omega) (by omega)) h66
  | succ m ih =>
    intro k h hk K
    refine ev_iload_n (pc' := 65) dX1_digest_64 rfl rfl ?_
    refine ev_iconst (pc' := 66) (v := nI 5) dX1_digest_65 rfl (by decide) ?_
    refine ev_icmp_ge (tgt := 90) (pc' := 69) dX1_digest_66 (by decide) rfl (fun h66 => ?_) (fun h66 => ?_)
    · exact absurd h66 (nI_ge (by omega) (by omega))
    · refine ev_lload_n (pc' := 70) dX1_digest_69 rfl rfl ?_
      refine ev_aload_nE (pc' := 71) dX1_digest_70 rfl rfl (by first | exact rf_some _ | exact rfl) ?_
      refine gX1_marks rfl (pc' := 74) dX1_digest_71 rfl ?_
      refine ev_iload_n (pc' := 75) dX1_digest_74 rfl rfl ?_
      refine x_marks_get (by omega) (RX.mk hR (by omega)) (pc' := 76) dX1_digest_75 rfl ?_
      refine ev_callS (As := [_]) coX1_numberOrNone (c_non hR (smk S k) (fun b hb => I.mk (by omega) hb)) rfl (by decide) (by first | exact Nat.le_of_ble_eq_true rfl | simp [Value.category, rf_cat]) dX1_digest_76 rfl (pc' := 79) rfl (fun v w hq => ?_)
      obtain ⟨rfl, rfl⟩ := hq
      dsimp only [Option.toList, List.cons_append, List.nil_append]
      refine ev_i2l (pc' := 80) dX1_digest_79 rfl ?_
      refine ev_callS (As := [_, _]) coX1_mixed (c_mixed _ _ _) rfl (by decide) (by first | exact Nat.le_of_ble_eq_true rfl | simp [Value.category, rf_cat]) dX1_digest_80 rfl (pc' := 83) rfl (fun v w hq => ?_)
      obtain ⟨rfl, rfl⟩ := hq
      dsimp only [Option.toList, List.cons_append, List.nil_append]
      refine ev_lstore_n (pc' := 84) (lv' := [_, _, _, _]) dX1_digest_83 rfl (by decide) (by intro w hw; first | exact Or.inl rfl | (right; have hw := Option.some.inj (Option.some.inj hw); subst hw; first | rfl | exact rf_cat _) | cases hw) rfl ?_
      refine ev_iinc (pc' := 87) (lv' := [_, _, _, _]) dX1_digest_84 rfl rfl (nI_1 _) (by decide) (by intro w hw; first | exact Or.inl rfl | (right; have hw := Option.some.inj (Option.some.inj hw); subst hw; first | rfl | exact rf_cat _) | cases hw) rfl ?_
      refine ev_goto (pc' := 64) dX1_digest_87 (by decide) ?_
      exact ih (k + 1) _ (by omega) K
theorem c_xdigest (I : Inv N S) (hR : RX S hd LN LT xt xar xnt xln xcu xck xcp xcl xmk xtl xnu xti xpa xfa xep xel xde xtc) : Ret g mdX1_digest [.ref xo] (wX g xo an ac am LN LT xt xar xnt xln xcu xck xcp xcl xmk xtl xnu xti xpa xfa xep xel xde xtc) (fun r w => r = some (.long (dig S)) ∧ w = (wX g xo an ac am LN LT xt xar xnt xln xcu xck xcp xcl xmk xtl xnu xti xpa xfa xep xel xde xtc)) := by
  refine Ret.of [_, _, _, _] 3 (by decide) (Nat.le_of_ble_eq_true rfl) rfl ?_
  have hr := RX.row hR I.cu
  have hcl := I.cl
  obtain ⟨rfl, -, rfl, rfl, rfl, -⟩ := id hR
  refine ev_ldc2 (pc' := 3) clX1_134 dX1_digest_0 rfl ?_
  refine ev_aload_nE (pc' := 4) dX1_digest_3 rfl rfl (by first | exact rf_some _ | exact rfl) ?_
  refine gX1_nodeTotal rfl (pc' := 7) dX1_digest_4 rfl ?_
  refine ev_i2l (pc' := 8) dX1_digest_7 rfl ?_
  refine ev_callS (As := [_, _]) coX1_mixed (c_mixed _ _ _) rfl (by decide) (by first | exact Nat.le_of_ble_eq_true rfl | simp [Value.category, rf_cat]) dX1_digest_8 rfl (pc' := 11) rfl (fun v w hq => ?_)
  obtain ⟨rfl, rfl⟩ := hq
  dsimp only [Option.toList, List.cons_append, List.nil_append]
  refine ev_lstore_n (pc' := 12) (lv' := [_, _, _, _]) dX1_digest_11 rfl (by decide) (by intro w hw; first | exact Or.inl rfl | (right; have hw := Option.some.inj (Option.some.inj hw); subst hw; first | rfl | exact rf_cat _) | cases hw) rfl ?_
  refine ev_iconst (pc' := 13) (v := nI 0) dX1_digest_12 rfl (by decide) ?_
  refine ev_istore_n (pc' := 14) (lv' := [_, _, _, _]) dX1_digest_13 rfl (by decide) (by intro w hw; first | exact Or.inl rfl | (right; have hw := Option.some.inj (Option.some.inj hw); subst hw; first | rfl | exact rf_cat _) | cases hw) rfl ?_
  refine dgx_loop I hR (sL S).length 0 _ (by omega) (fun j => ?_)
  refine ev_lload_n (pc' := 40) dX1_digest_39 rfl rfl ?_
  refine ev_aload_nE (pc' := 41) dX1_digest_40 rfl rfl (by first | exact rf_some _ | exact rfl) ?_
  refine gX1_currentNode rfl (pc' := 44) dX1_digest_41 rfl ?_
  refine gX0_number rfl hr.1 hr.2.2.2.1 (pc' := 47) dX1_digest_44 rfl ?_
  refine ev_i2l (pc' := 48) dX1_digest_47 rfl ?_
  refine ev_callS (As := [_, _]) coX1_mixed (c_mixed _ _ _) rfl (by decide) (by first | exact Nat.le_of_ble_eq_true rfl | simp [Value.category, rf_cat]) dX1_digest_48 rfl (pc' := 51) rfl (fun v w hq => ?_)
  obtain ⟨rfl, rfl⟩ := hq
  dsimp only [Option.toList, List.cons_append, List.nil_append]
  refine ev_lstore_n (pc' := 52) (lv' := [_, _, _, _]) dX1_digest_51 rfl (by decide) (by intro w hw; first | exact Or.inl rfl | (right; have hw := Option.some.inj (Option.some.inj hw); subst hw; first | rfl | exact rf_cat _) | cases hw) rfl ?_
  refine ev_lload_n (pc' := 53) dX1_digest_52 rfl rfl ?_
  refine ev_aload_nE (pc' := 54) dX1_digest_53 rfl rfl (by first | exact rf_some _ | exact rfl) ?_
  refine x_callV (As := []) coX1_oldestLeaf rfl (c_xoldestLeaf I hR) rfl (by decide) (by first | exact Nat.le_of_ble_eq_true rfl | simp [Value.category, rf_cat]) dX1_digest_54 rfl (pc' := 57) rfl (fun v w hq => ?_)
  obtain ⟨rfl, rfl⟩ := hq
  dsimp only [Option.toList, List.cons_append, List.nil_append]
  refine ev_i2l (pc' := 58) dX1_digest_57 rfl ?_
  refine ev_callS (As := [_, _]) coX1_mixed (c_mixed _ _ _) rfl (by decide) (by first | exact Nat.le_of_ble_eq_true rfl | simp [Value.category, rf_cat]) dX1_digest_58 rfl (pc' := 61) rfl (fun v w hq => ?_)
  obtain ⟨rfl, rfl⟩ := hq
  dsimp only [Option.toList, List.cons_append, List.nil_append]
  refine ev_lstore_n (pc' := 62) (lv' := [_, _, _, _]) dX1_digest_61 rfl (by decide) (by intro w hw; first | exact Or.inl rfl | (right; have hw := Option.some.inj (Option.some.inj hw); subst hw; first | rfl | exact rf_cat _) | cases hw) rfl ?_
  refine ev_iconst (pc' := 63) (v := nI 0) dX1_digest_62 rfl (by decide) ?_
  refine ev_istore_n (pc' := 64) (lv' := [_, _, _, _]) dX1_digest_63 rfl (by decide) (by intro w hw; first | exact Or.inl rfl | (right; have hw := Option.some.inj (Option.some.inj hw); subst hw; first | rfl | exact rf_cat _) | cases hw) rfl ?_
  refine dgy_loop I hR 5 0 _ (by omega) (fun j => ?_)
  have ct := fun h => c_mixedText (g := g) (wX g xo an ac am LN LT xt xar (nI (sL S).length) xln (hd (scu S)) (nI (sck S)) xcp (nI (scl S)) xmk xtl xnu xti xpa xfa xep xel xde xtc) (q0 := 2) (t := ac) (n0 := 6) (n := scl S) (f := xcp) rfl hcl (by decide) h
  refine ev_lload_n (pc' := 91) dX1_digest_90 rfl rfl ?_
  refine ev_aload_nE (pc' := 92) dX1_digest_91 rfl rfl (by first | exact rf_some _ | exact rfl) ?_
  refine gX1_clock rfl (pc' := 95) dX1_digest_92 rfl ?_
  refine ev_i2l (pc' := 96) dX1_digest_95 rfl ?_
  refine ev_callS (As := [_, _]) coX1_mixed (c_mixed _ _ _) rfl (by decide) (by first | exact Nat.le_of_ble_eq_true rfl | simp [Value.category, rf_cat]) dX1_digest_96 rfl (pc' := 99) rfl (fun v w hq => ?_)
  obtain ⟨rfl, rfl⟩ := hq
  dsimp only [Option.toList, List.cons_append, List.nil_append]
  refine ev_lstore_n (pc' := 100) (lv' := [_, _, _, _]) dX1_digest_99 rfl (by decide) (by intro w hw; first | exact Or.inl rfl | (right; have hw := Option.some.inj (Option.some.inj hw); subst hw; first | rfl | exact rf_cat _) | cases hw) rfl ?_
  refine ev_lload_n (pc' := 101) dX1_digest_100 rfl rfl ?_
  refine ev_aload_nE (pc' := 102) dX1_digest_101 rfl rfl (by first | exact rf_some _ | exact rfl) ?_
  refine gX1_clip rfl (pc' := 105) dX1_digest_102 rfl ?_
  refine ev_aload_nE (pc' := 106) dX1_digest_105 rfl rfl (by first | exact rf_some _ | exact rfl) ?_
  refine gX1_clipLength rfl (pc' := 109) dX1_digest_106 rfl ?_
  refine ev_callS (As := [_, _, _]) coX1_mixedText (ct _) rfl (by decide) (by first | exact Nat.le_of_ble_eq_true rfl | simp [Value.category, rf_cat]) dX1_digest_109 rfl (pc' := 112) rfl (fun v w hq => ?_)
  obtain ⟨rfl, rfl⟩ := hq
  dsimp only [Option.toList, List.cons_append, List.nil_append]
  refine ev_lret rfl dX1_digest_112 ?_
  refine ⟨?_, rfl⟩
  rw [mxT_cong (f := xcp) (f' := scp S) _ _ _ (fun j _ hj => RX.cp hR (by omega))]
  rfl
end X9
