/-! ===== the landed class: selective undo ===== -/
def pnR : Nat ⊕ Nat → Int32
  | .inl a => nI a
  | .inr _ => (-5)
def fcR (hd : Nat → Nat) : Nat ⊕ Nat → Option Nat
  | .inl _ => none
  | .inr c => some (hd c)
section X8
variable {g : EG} {xo an ac am : Nat} {LN LT : List Nat} {xt : Nat → Nat} {xar : Nat → Option Nat} {xnt xln : Int32} {xcu : Nat} {xck : Int32} {xcp : Nat → Int32} {xcl : Int32} {xmk : Nat → Option Nat} {xtl xnu xti : Nat → Int32} {xpa xfa : Nat → Option Nat} {xep xel xde : Nat → Int32} {xtc : Nat → Nat → Int32}
variable {S : SS} {hd : Nat → Nat} {N : Nat} {Ph : Option Value → va_W → Prop}
/-- the next one on the way to the current node -/
theorem dwn_next (I : Inv N S) {d x : Nat} (hd1 : d < dep S (scu S)) (hx : (dwn S (scu S))[d]? = some x) : ∃ c, (dwn S (scu S))[d + 1]? = some c ∧ c ∈ sL S ∧ spa S c = some x ∧ sfa S x = some c ∧ x ≠ scu S ∧ x ∈ sL S ∧ spo S c ≤ 40 ∧ 1 ≤ sle S c ∧ (dwn S (scu S)).drop (d + 1) = c :: (dwn S (scu S)).drop (d + 1 + 1) := by
  have T := I.T
  have hlen := dwn_len S (scu S)
  obtain ⟨c, hc⟩ : ∃ c, (dwn S (scu S))[d + 1]? = some c := ⟨_, List.getElem?_eq_getElem (by omega)⟩
  obtain ⟨h1, h2⟩ := dwn_in T I.cu hc
  obtain ⟨h3, -⟩ := dwn_in T I.cu hx
  have h4 := dwn_par T _ I.cu d x c hx hc
  have ed := I.ed h1 h4
  have h40 := I.tl h3
  refine ⟨c, hc, h1, h4, I.fp h2 h4, fun e => ?_, h3, ?_, ed.1, ?_⟩
  · have := dwn_dep T _ I.cu d x hx
    rw [e] at this
    omega
  · obtain ⟨-, -, d1, d2⟩ := ed
    cases hC : sde S c with
    | false => have := (d2 hC).1; omega
    | true => have := (d1 hC).1; omega
  · have h5 : d + 1 < (dwn S (scu S)).length := by omega
    rw [List.drop_eq_getElem_cons h5]
    rw [List.getElem?_eq_getElem h5] at hc
    rw [Option.some.inj hc]
theorem shG_40 (I : Inv N S) {e x a : Nat} (hx : x ∈ sL S) (hG : shG S e x a) : a ≤ 40 := by
  have := I.tl hx
  cases hE : sde S e with
  | false => have := (hG.1 hE).1; omega
  | true => have := hG.2 hE; omega
theorem pn_loop (I : Inv N S) (hR : RX S hd LN LT xt xar xnt xln xcu xck xcp xcl xmk xtl xnu xti xpa xfa xep xel xde xtc) {e : Nat} (he : e ∈ sL S) (hn : 1 ≤ sle S e) : ∀ (m d a x : Nat), d + m = dep S (scu S) → (dwn S (scu S))[d]? = some x → shG S e x a → Ev g mdX1_placeNow 7 [some (.ref xo), some (.ref (hd e)), some (.int (nI a)), some (.ref (hd x))] [] (wX g xo an ac am LN LT xt xar xnt xln xcu xck xcp xcl xmk xtl xnu xti xpa xfa xep xel xde xtc) (fun r w => r = some (.int (pnR (shs S e ((dwn S (scu S)).drop (d + 1)) a))) ∧ (∀ a', shs S e ((dwn S (scu S)).drop (d + 1)) a = .inl a' → shG S e (scu S) a') ∧ w = (wX g xo an ac am LN LT xt xar xnt xln xcu xck xcp xcl xmk xtl xnu xti xpa xfa xep xel xde xtc)) := by
  have T := I.T
  have e3 := hR.2.2.1
  have hlen := dwn_len S (scu S)
  intro m
  induction m with
  | zero =>
    intro d a x hdd hx hG
    rw [show d = dep S (scu S) by omega, dwn_last T I.cu] at hx
    cases hx
    rw [List.drop_eq_nil_of_le (by omega)]
    refine ev_aload_nE (pc' := 8) dX1_placeNow_7 rfl rfl (by first | exact rf_some _ | exact rfl) ?_
    refine ev_aload_nE (pc' := 9) dX1_placeNow_8 rfl rfl (by first | exact rf_some _ | exact rfl) ?_
    refine gX1_currentNode rfl (pc' := 12) dX1_placeNow_9 rfl ?_
    refine ev_acmp_eqE (by first | exact rf_some _ | exact rfl) (by first | exact rf_some _ | exact rfl) (tgt := 47) (pc' := 15) dX1_placeNow_12 (by decide) rfl (fun h12 => ?_) (fun h12 => ?_)
    · refine ev_iload_n (pc' := 48) dX1_placeNow_47 rfl rfl ?_
      refine ev_iret rfl dX1_placeNow_48 ?_
      exact ⟨rfl, fun a' h => by cases h; exact hG, rfl⟩
    · exact absurd (by rw [e3]) h12
  | succ m ih =>
    intro d a x hdd hx hG
    obtain ⟨c, hc, hcL, hpar, hfa, hxc, hxL, hq40, hc1, hdr⟩ := dwn_next I (by omega) hx
    have ha40 := shG_40 I hxL hG
    have hr := RX.row hR hxL
    have hf := hr.2.2.2.2.2.2.1
    rw [hfa] at hf
    rw [hdr]
    refine ev_aload_nE (pc' := 8) dX1_placeNow_7 rfl rfl (by first | exact rf_some _ | exact rfl) ?_
    refine ev_aload_nE (pc' := 9) dX1_placeNow_8 rfl rfl (by first | exact rf_some _ | exact rfl) ?_
    refine gX1_currentNode rfl (pc' := 12) dX1_placeNow_9 rfl ?_
    refine ev_acmp_eqE (by first | exact rf_some _ | exact rfl) (by first | exact rf_some _ | exact rfl) (tgt := 47) (pc' := 15) dX1_placeNow_12 (by decide) rfl (fun h12 => ?_) (fun h12 => ?_)
    · exact absurd (RX.inj hR hxL I.cu ((Option.some.inj h12).trans e3)) hxc
    · refine ev_aload_nE (pc' := 16) dX1_placeNow_15 rfl rfl (by first | exact rf_some _ | exact rfl) ?_
      refine gX0_favourite rfl hr.1 hf (pc' := 19) dX1_placeNow_16 rfl ?_
      refine ev_ifnullR (pc' := 22) dX1_placeNow_19 rfl ?_
      refine ev_aload_nE (pc' := 23) dX1_placeNow_22 rfl rfl (by first | exact rf_some _ | exact rfl) ?_
      refine ev_iload_n (pc' := 24) dX1_placeNow_23 rfl rfl ?_
      refine ev_aload_nE (pc' := 25) dX1_placeNow_24 rfl rfl (by first | exact rf_some _ | exact rfl) ?_
      refine gX0_favourite rfl hr.1 hf (pc' := 28) dX1_placeNow_25 rfl ?_
      show Ev g mdX1_placeNow 28 _ (.ref (hd c) :: _) _ _
      refine ev_callS (As := [_, _, _]) coX1_shifted (c_shifted hR he hcL ha40 hq40 hn (I.le he) hc1 (I.le hcL)) rfl (by decide) (by first | exact Nat.le_of_ble_eq_true rfl | simp [Value.category, rf_cat]) dX1_placeNow_28 rfl (pc' := 31) rfl (fun v w hq => ?_)
      obtain ⟨rfl, rfl⟩ := hq
      dsimp only [Option.toList, List.cons_append, List.nil_append]
      refine ev_istore_n (pc' := 32) (lv' := [_, _, _, _]) dX1_placeNow_31 rfl (by decide) (by intro w hw; first | exact Or.inl rfl | (right; have hw := Option.some.inj (Option.some.inj hw); subst hw; first | rfl | exact rf_cat _) | cases hw) rfl ?_
      unfold shs shI
      by_cases hfr : fre (sde S e) (sde S c) (sle S e) a (spo S c) (sle S c) = true
      · rw [if_pos hfr]
        have hG2 := shG_1 I hcL hpar hn hG hfr
        have ha2 := shG_40 I hcL hG2
        rw [if_pos hfr]
        refine ev_iload_n (pc' := 33) dX1_placeNow_32 rfl rfl ?_
        refine ev_if_ge (tgt := 39) (pc' := 36) dX1_placeNow_33 (by decide) rfl (fun h33 => ?_) (fun h33 => ?_)
        · refine ev_aload_nE (pc' := 40) dX1_placeNow_39 rfl rfl (by first | exact rf_some _ | exact rfl) ?_
          refine gX0_favourite rfl hr.1 hf (pc' := 43) dX1_placeNow_40 rfl ?_
          refine ev_astore_nE (by first | exact rf_some _ | exact rfl) (pc' := 44) (lv' := [_, _, _, _]) dX1_placeNow_43 rfl (by decide) (by intro w hw; first | exact Or.inl rfl | (right; have hw := Option.some.inj (Option.some.inj hw); subst hw; first | rfl | exact rf_cat _) | cases hw) rfl ?_
          refine ev_goto (pc' := 7) dX1_placeNow_44 (by decide) ?_
          exact ih (d + 1) _ c (by omega) hc hG2
        · exact absurd (nI_pos' (by omega)) h33
      · rw [if_neg hfr, if_neg hfr]
        refine ev_iload_n (pc' := 33) dX1_placeNow_32 rfl rfl ?_
        refine ev_if_ge (tgt := 39) (pc' := 36) dX1_placeNow_33 (by decide) rfl (fun h33 => ?_) (fun h33 => ?_)
        · exact absurd h33 (by decide)
        · refine ev_bipush (pc' := 38) (v := (-5)) dX1_placeNow_36 rfl (by decide) ?_
          refine ev_iret rfl dX1_placeNow_38 ?_
          exact ⟨rfl, (fun a' h => by cases h), rfl⟩
theorem c_placeNow (I : Inv N S) (hR : RX S hd LN LT xt xar xnt xln xcu xck xcp xcl xmk xtl xnu xti xpa xfa xep xel xde xtc) {e : Nat} (he : e ∈ sL S) (hz : e ≠ 0) (hp : e ∈ path S (scu S)) : Ret g mdX1_placeNow [.ref xo, .ref (hd e)] (wX g xo an ac am LN LT xt xar xnt xln xcu xck xcp xcl xmk xtl xnu xti xpa xfa xep xel xde xtc) (fun r w => r = some (.int (pnR (shf S e))) ∧ (∀ a', shf S e = .inl a' → shG S e (scu S) a') ∧ w = (wX g xo an ac am LN LT xt xar xnt xln xcu xck xcp xcl xmk xtl xnu xti xpa xfa xep xel xde xtc)) := by
  refine Ret.of [_, _, _, _] 2 (by decide) (Nat.le_of_ble_eq_true rfl) rfl ?_
  have T := I.T
  have hr := RX.row hR he
  obtain ⟨b, hb, -⟩ := T.2.2.2.2.2.2 e he hz
  have hd1 := dwn_at T _ I.cu e hp
  have hdl := (List.getElem?_eq_some_iff.mp hd1).1
  rw [dwn_len] at hdl
  refine ev_aload_nE (pc' := 1) dX1_placeNow_0 rfl rfl (by first | exact rf_some _ | exact rfl) ?_
  refine gX0_editPosition rfl hr.1 hr.2.2.2.2.2.2.2.1 (pc' := 4) dX1_placeNow_1 rfl ?_
  refine ev_istore_n (pc' := 5) (lv' := [_, _, _, _]) dX1_placeNow_4 rfl (by decide) (by intro w hw; first | exact Or.inl rfl | (right; have hw := Option.some.inj (Option.some.inj hw); subst hw; first | rfl | exact rf_cat _) | cases hw) rfl ?_
  refine ev_aload_nE (pc' := 6) dX1_placeNow_5 rfl rfl (by first | exact rf_some _ | exact rfl) ?_
  refine ev_astore_nE (by first | exact rf_some _ | exact rfl) (pc' := 7) (lv' := [_, _, _, _]) dX1_placeNow_6 rfl (by decide) (by intro w hw; first | exact Or.inl rfl | (right; have hw := Option.some.inj (Option.some.inj hw); subst hw; first | rfl | exact rf_cat _) | cases hw) rfl ?_
  exact pn_loop I hR he (I.ed he hb).1 (dep S (scu S) - dep S e) (dep S e) (spo S e) e (by omega) hd1 (shG_0 I he hb)
theorem fc_loop (I : Inv N S) (hR : RX S hd LN LT xt xar xnt xln xcu xck xcp xcl xmk xtl xnu xti xpa xfa xep xel xde xtc) {e : Nat} (he : e ∈ sL S) (hn : 1 ≤ sle S e) : ∀ (m d a x : Nat), d + m = dep S (scu S) → (dwn S (scu S))[d]? = some x → shG S e x a → Ev g mdX1_firstConflict 7 [some (.ref xo), some (.ref (hd e)), some (.int (nI a)), some (.ref (hd x))] [] (wX g xo an ac am LN LT xt xar xnt xln xcu xck xcp xcl xmk xtl xnu xti xpa xfa xep xel xde xtc) (fun r w => r = some (va_rf (fcR hd (shs S e ((dwn S (scu S)).drop (d + 1)) a))) ∧ (∀ c, shs S e ((dwn S (scu S)).drop (d + 1)) a = .inr c → c ∈ sL S) ∧ w = (wX g xo an ac am LN LT xt xar xnt xln xcu xck xcp xcl xmk xtl xnu xti xpa xfa xep xel xde xtc)) := by
  have T := I.T
  have e3 := hR.2.2.1
  have hlen := dwn_len S (scu S)
  intro m
  induction m with
  | zero =>
    intro d a x hdd hx hG
    rw [show d = dep S (scu S) by omega, dwn_last T I.cu] at hx
    cases hx
    rw [List.drop_eq_nil_of_le (by omega)]
    refine ev_aload_nE (pc' := 8) dX1_firstConflict_7 rfl rfl (by first | exact rf_some _ | exact rfl) ?_
    refine ev_aload_nE (pc' := 9) dX1_firstConflict_8 rfl rfl (by first | exact rf_some _ | exact rfl) ?_
    refine gX1_currentNode rfl (pc' := 12) dX1_firstConflict_9 rfl ?_
    refine ev_acmp_eqE (by first | exact rf_some _ | exact rfl) (by first | exact rf_some _ | exact rfl) (tgt := 49) (pc' := 15) dX1_firstConflict_12 (by decide) rfl (fun h12 => ?_) (fun h12 => ?_)
    · refine ev_null (pc' := 50) dX1_firstConflict_49 rfl ?_
      refine ev_aretE (nm := "EditTree$Node") (by first | exact rf_some _ | exact rfl) rfl dX1_firstConflict_50 ?_
      exact ⟨rfl, (fun a' h => by cases h), rfl⟩
    · exact absurd (by rw [e3]) h12
  | succ m ih =>
    intro d a x hdd hx hG
    obtain ⟨c, hc, hcL, hpar, hfa, hxc, hxL, hq40, hc1, hdr⟩ := dwn_next I (by omega) hx
    have ha40 := shG_40 I hxL hG
    have hr := RX.row hR hxL
    have hf := hr.2.2.2.2.2.2.1
    rw [hfa] at hf
    rw [hdr]
    refine ev_aload_nE (pc' := 8) dX1_firstConflict_7 rfl rfl (by first | exact rf_some _ | exact rfl) ?_
    refine ev_aload_nE (pc' := 9) dX1_firstConflict_8 rfl rfl (by first | exact rf_some _ | exact rfl) ?_
    refine gX1_currentNode rfl (pc' := 12) dX1_firstConflict_9 rfl ?_
    refine ev_acmp_eqE (by first | exact rf_some _ | exact rfl) (by first | exact rf_some _ | exact rfl) (tgt := 49) (pc' := 15) dX1_firstConflict_12 (by decide) rfl (fun h12 => ?_) (fun h12 => ?_)
    · exact absurd (RX.inj hR hxL I.cu ((Option.some.inj h12).trans e3)) hxc
    · refine ev_aload_nE (pc' := 16) dX1_firstConflict_15 rfl rfl (by first | exact rf_some _ | exact rfl) ?_
      refine gX0_favourite rfl hr.1 hf (pc' := 19) dX1_firstConflict_16 rfl ?_
      refine ev_ifnullR (pc' := 22) dX1_firstConflict_19 rfl ?_
      refine ev_aload_nE (pc' := 23) dX1_firstConflict_22 rfl rfl (by first | exact rf_some _ | exact rfl) ?_
      refine ev_iload_n (pc' := 24) dX1_firstConflict_23 rfl rfl ?_
      refine ev_aload_nE (pc' := 25) dX1_firstConflict_24 rfl rfl (by first | exact rf_some _ | exact rfl) ?_
      refine gX0_favourite rfl hr.1 hf (pc' := 28) dX1_firstConflict_25 rfl ?_
      show Ev g mdX1_firstConflict 28 _ (.ref (hd c) :: _) _ _
      refine ev_callS (As := [_, _, _]) coX1_shifted (c_shifted hR he hcL ha40 hq40 hn (I.le he) hc1 (I.le hcL)) rfl (by decide) (by first | exact Nat.le_of_ble_eq_true rfl | simp [Value.category, rf_cat]) dX1_firstConflict_28 rfl (pc' := 31) rfl (fun v w hq => ?_)
      obtain ⟨rfl, rfl⟩ := hq
      dsimp only [Option.toList, List.cons_append, List.nil_append]
      refine ev_istore_n (pc' := 32) (lv' := [_, _, _, _]) dX1_firstConflict_31 rfl (by decide) (by intro w hw; first | exact Or.inl rfl | (right; have hw := Option.some.inj (Option.some.inj hw); subst hw; first | rfl | exact rf_cat _) | cases hw) rfl ?_
      unfold shs shI
      by_cases hfr : fre (sde S e) (sde S c) (sle S e) a (spo S c) (sle S c) = true
      · rw [if_pos hfr]
        have hG2 := shG_1 I hcL hpar hn hG hfr
        have ha2 := shG_40 I hcL hG2
        rw [if_pos hfr]
        refine ev_iload_n (pc' := 33) dX1_firstConflict_32 rfl rfl ?_
        refine ev_if_ge (tgt := 41) (pc' := 36) dX1_firstConflict_33 (by decide) rfl (fun h33 => ?_) (fun h33 => ?_)
        · refine ev_aload_nE (pc' := 42) dX1_firstConflict_41 rfl rfl (by first | exact rf_some _ | exact rfl) ?_
          refine gX0_favourite rfl hr.1 hf (pc' := 45) dX1_firstConflict_42 rfl ?_
          refine ev_astore_nE (by first | exact rf_some _ | exact rfl) (pc' := 46) (lv' := [_, _, _, _]) dX1_firstConflict_45 rfl (by decide) (by intro w hw; first | exact Or.inl rfl | (right; have hw := Option.some.inj (Option.some.inj hw); subst hw; first | rfl | exact rf_cat _) | cases hw) rfl ?_
          refine ev_goto (pc' := 7) dX1_firstConflict_46 (by decide) ?_
          exact ih (d + 1) _ c (by omega) hc hG2
        · exact absurd (nI_pos' (by omega)) h33
      · rw [if_neg hfr, if_neg hfr]
        refine ev_iload_n (pc' := 33) dX1_firstConflict_32 rfl rfl ?_
        refine ev_if_ge (tgt := 41) (pc' := 36) dX1_firstConflict_33 (by decide) rfl (fun h33 => ?_) (fun h33 => ?_)
        · exact absurd h33 (by decide)
        · refine ev_aload_nE (pc' := 37) dX1_firstConflict_36 rfl rfl (by first | exact rf_some _ | exact rfl) ?_
          refine gX0_favourite rfl hr.1 hf (pc' := 40) dX1_firstConflict_37 rfl ?_
          refine ev_aretE (nm := "EditTree$Node") (by first | exact rf_some _ | exact rfl) rfl dX1_firstConflict_40 ?_
          exact ⟨rfl, fun a' h => by cases h; exact hcL, rfl⟩
theorem c_firstConflict (I : Inv N S) (hR : RX S hd LN LT xt xar xnt xln xcu xck xcp xcl xmk xtl xnu xti xpa xfa xep xel xde xtc) {e : Nat} (he : e ∈ sL S) (hz : e ≠ 0) (hp : e ∈ path S (scu S)) : Ret g mdX1_firstConflict [.ref xo, .ref (hd e)] (wX g xo an ac am LN LT xt xar xnt xln xcu xck xcp xcl xmk xtl xnu xti xpa xfa xep xel xde xtc) (fun r w => r = some (va_rf (fcR hd (shf S e))) ∧ (∀ c, shf S e = .inr c → c ∈ sL S) ∧ w = (wX g xo an ac am LN LT xt xar xnt xln xcu xck xcp xcl xmk xtl xnu xti xpa xfa xep xel xde xtc)) := by
  refine Ret.of [_, _, _, _] 2 (by decide) (Nat.le_of_ble_eq_true rfl) rfl ?_
  have T := I.T
  have hr := RX.row hR he
  obtain ⟨b, hb, -⟩ := T.2.2.2.2.2.2 e he hz
  have hd1 := dwn_at T _ I.cu e hp
  have hdl := (List.getElem?_eq_some_iff.mp hd1).1
  rw [dwn_len] at hdl
  refine ev_aload_nE (pc' := 1) dX1_firstConflict_0 rfl rfl (by first | exact rf_some _ | exact rfl) ?_
  refine gX0_editPosition rfl hr.1 hr.2.2.2.2.2.2.2.1 (pc' := 4) dX1_firstConflict_1 rfl ?_
  refine ev_istore_n (pc' := 5) (lv' := [_, _, _, _]) dX1_firstConflict_4 rfl (by decide) (by intro w hw; first | exact Or.inl rfl | (right; have hw := Option.some.inj (Option.some.inj hw); subst hw; first | rfl | exact rf_cat _) | cases hw) rfl ?_
  refine ev_aload_nE (pc' := 6) dX1_firstConflict_5 rfl rfl (by first | exact rf_some _ | exact rfl) ?_
  refine ev_astore_nE (by first | exact rf_some _ | exact rfl) (pc' := 7) (lv' := [_, _, _, _]) dX1_firstConflict_6 rfl (by decide) (by intro w hw; first | exact Or.inl rfl | (right; have hw := Option.some.inj (Option.some.inj hw); subst hw; first | rfl | exact rf_cat _) | cases hw) rfl ?_
  exact fc_loop I hR he (I.ed he hb).1 (dep S (scu S) - dep S e) (dep S e) (spo S e) e (by omega) hd1 (shG_0 I he hb)
theorem oUE_w {x : Int32} {e : Nat} (h : lk S x = some e) (hq : e = 0 ∨ e ∉ path S (scu S)) : oUE S x = ((-6), S) := by
  unfold oUE; rw [h]; show (if _ then _ else _) = _; rw [if_pos hq]
theorem aCW_w {x : Int32} {e : Nat} (h : lk S x = some e) (hq : e = 0 ∨ e ∉ path S (scu S)) : aCW S x = (-6) := by
  unfold aCW; rw [h]; show (if _ then _ else _) = _; rw [if_pos hq]
theorem c_xconflictWith (I : Inv N S) (hR : RX S hd LN LT xt xar xnt xln xcu xck xcp xcl xmk xtl xnu xti xpa xfa xep xel xde xtc) (x : Int32) : Ret g mdX1_conflictWith [.ref xo, .int x] (wX g xo an ac am LN LT xt xar xnt xln xcu xck xcp xcl xmk xtl xnu xti xpa xfa xep xel xde xtc) (fun r w => r = some (.int (aCW S x)) ∧ w = (wX g xo an ac am LN LT xt xar xnt xln xcu xck xcp xcl xmk xtl xnu xti xpa xfa xep xel xde xtc)) := by
  refine Ret.of [_, _, _] 1 (by decide) (Nat.le_of_ble_eq_true rfl) rfl ?_
  have T := I.T
  have e3 := hR.2.2.1
  subst e3
  refine ev_aload_nE (pc' := 1) dX1_conflictWith_0 rfl rfl (by first | exact rf_some _ | exact rfl) ?_
  refine ev_iload_n (pc' := 2) dX1_conflictWith_1 rfl rfl ?_
  refine x_callV (As := [_]) coX1_find rfl (c_find T hR x) rfl (by decide) (by first | exact Nat.le_of_ble_eq_true rfl | simp [Value.category, rf_cat]) dX1_conflictWith_2 rfl (pc' := 5) rfl (fun v w hq => ?_)
  obtain ⟨rfl, rfl⟩ := hq
  dsimp only [Option.toList, List.cons_append, List.nil_append]
  cases hl : lk S x with
  | none =>
    show Ev g mdX1_conflictWith 5 _ [va_rf none] _ _
    refine ev_astore_nE (by first | exact rf_some _ | exact rfl) (pc' := 6) (lv' := [_, _, _]) dX1_conflictWith_5 rfl (by decide) (by intro w hw; first | exact Or.inl rfl | (right; have hw := Option.some.inj (Option.some.inj hw); subst hw; first | rfl | exact rf_cat _) | cases hw) rfl ?_
    refine ev_aload_nE (pc' := 7) dX1_conflictWith_6 rfl rfl (by first | exact rf_some _ | exact rfl) ?_
    refine ev_ifnonnullZ (pc' := 10) dX1_conflictWith_7 rfl ?_
    refine ev_bipush (pc' := 12) (v := (-2)) dX1_conflictWith_10 rfl (by decide) ?_
    refine ev_iret rfl dX1_conflictWith_12 ?_
    exact ⟨by unfold aCW; rw [hl], rfl⟩
  | some e =>
    have he := (lk_some hl).1
    have hr := RX.row hR he
    have hpa := hr.2.2.2.2.2.1
    show Ev g mdX1_conflictWith 5 _ [.ref (hd e)] _ _
    refine ev_astore_nE (by first | exact rf_some _ | exact rfl) (pc' := 6) (lv' := [_, _, _]) dX1_conflictWith_5 rfl (by decide) (by intro w hw; first | exact Or.inl rfl | (right; have hw := Option.some.inj (Option.some.inj hw); subst hw; first | rfl | exact rf_cat _) | cases hw) rfl ?_
    refine ev_aload_nE (pc' := 7) dX1_conflictWith_6 rfl rfl (by first | exact rf_some _ | exact rfl) ?_
    refine ev_ifnonnullR (tgt := 13) dX1_conflictWith_7 (by decide) ?_
    cases hb : spa S e with
    | none =>
      rw [hb] at hpa
      refine ev_aload_nE (pc' := 14) dX1_conflictWith_13 rfl rfl (by first | exact rf_some _ | exact rfl) ?_
      refine gX0_parent rfl hr.1 hpa (pc' := 17) dX1_conflictWith_14 rfl ?_
      show Ev g mdX1_conflictWith 17 _ [va_rf none] _ _
      refine ev_ifnullZ (tgt := 31) dX1_conflictWith_17 (by decide) ?_
      refine ev_bipush (pc' := 33) (v := (-6)) dX1_conflictWith_31 rfl (by decide) ?_
      refine ev_iret rfl dX1_conflictWith_33 ?_
      exact ⟨by rw [aCW_w hl (Or.inl (T.none he hb))], rfl⟩
    | some b =>
      have hz : e ≠ 0 := fun q => by rw [q, T.pa0] at hb; cases hb
      rw [hb] at hpa
      refine ev_aload_nE (pc' := 14) dX1_conflictWith_13 rfl rfl (by first | exact rf_some _ | exact rfl) ?_
      refine gX0_parent rfl hr.1 hpa (pc' := 17) dX1_conflictWith_14 rfl ?_
      refine ev_ifnullR (pc' := 20) dX1_conflictWith_17 rfl ?_
      refine ev_aload_nE (pc' := 21) dX1_conflictWith_20 rfl rfl (by first | exact rf_some _ | exact rfl) ?_
      refine ev_aload_nE (pc' := 22) dX1_conflictWith_21 rfl rfl (by first | exact rf_some _ | exact rfl) ?_
      refine gX1_currentNode rfl (pc' := 25) dX1_conflictWith_22 rfl ?_
      refine ev_callS (As := [_, _]) coX1_isAncestor (c_isAncestor T hR he I.cu) rfl (by decide) (by first | exact Nat.le_of_ble_eq_true rfl | simp [Value.category, rf_cat]) dX1_conflictWith_25 rfl (pc' := 28) rfl (fun v w hq => ?_)
      obtain ⟨rfl, rfl⟩ := hq
      dsimp only [Option.toList, List.cons_append, List.nil_append]
      refine ev_if_ne (tgt := 34) (pc' := 31) dX1_conflictWith_28 (by decide) rfl (fun h28 => ?_) (fun h28 => ?_)
      · rw [bI_ne, decide_eq_true_eq] at h28
        rw [aCW_at hl (fun q => q.elim hz (fun z => z h28))]
        refine ev_aload_nE (pc' := 35) dX1_conflictWith_34 rfl rfl (by first | exact rf_some _ | exact rfl) ?_
        refine ev_aload_nE (pc' := 36) dX1_conflictWith_35 rfl rfl (by first | exact rf_some _ | exact rfl) ?_
        refine x_callV (As := [_]) coX1_firstConflict rfl (c_firstConflict I hR he hz h28) rfl (by decide) (by first | exact Nat.le_of_ble_eq_true rfl | simp [Value.category, rf_cat]) dX1_conflictWith_36 rfl (pc' := 39) rfl (fun v w hq => ?_)
        obtain ⟨rfl, hcL, rfl⟩ := hq
        dsimp only [Option.toList, List.cons_append, List.nil_append]
        cases hs : shf S e with
        | inl a =>
          have cn := c_non (g := g) (xo := xo) (an := an) (ac := ac) (am := am) hR none (fun a h => by cases h)
          refine ev_callS (As := [_]) coX1_numberOrNone (cn) rfl (by decide) (by first | exact Nat.le_of_ble_eq_true rfl | simp [Value.category, rf_cat]) dX1_conflictWith_39 rfl (pc' := 42) rfl (fun v w hq => ?_)
          obtain ⟨rfl, rfl⟩ := hq
          dsimp only [Option.toList, List.cons_append, List.nil_append]
          refine ev_iret rfl dX1_conflictWith_42 ?_
          exact ⟨rfl, rfl⟩
        | inr c =>
          have cn := c_non (g := g) (xo := xo) (an := an) (ac := ac) (am := am) hR (some c) (fun a h => by cases h; exact hcL c hs)
          refine ev_callS (As := [_]) coX1_numberOrNone (cn) rfl (by decide) (by first | exact Nat.le_of_ble_eq_true rfl | simp [Value.category, rf_cat]) dX1_conflictWith_39 rfl (pc' := 42) rfl (fun v w hq => ?_)
          obtain ⟨rfl, rfl⟩ := hq
          dsimp only [Option.toList, List.cons_append, List.nil_append]
          refine ev_iret rfl dX1_conflictWith_42 ?_
          exact ⟨rfl, rfl⟩
      · rw [bI_eq, decide_eq_false_iff_not] at h28
        refine ev_bipush (pc' := 33) (v := (-6)) dX1_conflictWith_31 rfl (by decide) ?_
        refine ev_iret rfl dX1_conflictWith_33 ?_
        exact ⟨by rw [aCW_w hl (Or.inr h28)], rfl⟩
theorem c_xundoEdit (I : Inv N S) (hN : N ≤ 512) (hR : RX S hd LN LT xt xar xnt xln xcu xck xcp xcl xmk xtl xnu xti xpa xfa xep xel xde xtc) (x : Int32) : Ret g mdX1_undoEdit [.ref xo, .int x] (wX g xo an ac am LN LT xt xar xnt xln xcu xck xcp xcl xmk xtl xnu xti xpa xfa xep xel xde xtc) (fun r w => r = some (.int (oUE S x).1) ∧ isX g xo an ac am LN LT xt (oUE S x).2 w) := by
  refine Ret.of [_, _, _, _, _] 3 (by decide) (Nat.le_of_ble_eq_true rfl) rfl ?_
  have T := I.T
  have e3 := hR.2.2.1
  subst e3
  have hlen := T.len
  have hgv := I.gv
  have h40 := I.tl I.cu
  refine ev_aload_nE (pc' := 1) dX1_undoEdit_0 rfl rfl (by first | exact rf_some _ | exact rfl) ?_
  refine ev_iload_n (pc' := 2) dX1_undoEdit_1 rfl rfl ?_
  refine x_callV (As := [_]) coX1_find rfl (c_find T hR x) rfl (by decide) (by first | exact Nat.le_of_ble_eq_true rfl | simp [Value.category, rf_cat]) dX1_undoEdit_2 rfl (pc' := 5) rfl (fun v w hq => ?_)
  obtain ⟨rfl, rfl⟩ := hq
  dsimp only [Option.toList, List.cons_append, List.nil_append]
  cases hl : lk S x with
  | none =>
    show Ev g mdX1_undoEdit 5 _ [va_rf none] _ _
    refine ev_astore_nE (by first | exact rf_some _ | exact rfl) (pc' := 6) (lv' := [_, _, _, _, _]) dX1_undoEdit_5 rfl (by decide) (by intro w hw; first | exact Or.inl rfl | (right; have hw := Option.some.inj (Option.some.inj hw); subst hw; first | rfl | exact rf_cat _) | cases hw) rfl ?_
    refine ev_aload_nE (pc' := 7) dX1_undoEdit_6 rfl rfl (by first | exact rf_some _ | exact rfl) ?_
    refine ev_ifnonnullZ (pc' := 10) dX1_undoEdit_7 rfl ?_
    refine ev_bipush (pc' := 12) (v := (-2)) dX1_undoEdit_10 rfl (by decide) ?_
    refine ev_iret rfl dX1_undoEdit_12 ?_
    have e0 : oUE S x = ((-2), S) := by unfold oUE; rw [hl]
    rw [e0]
    exact ⟨rfl, isX.of hR⟩
  | some e =>
    have he := (lk_some hl).1
    have hr := RX.row hR he
    have hpa := hr.2.2.2.2.2.1
    have hle := I.le he
    show Ev g mdX1_undoEdit 5 _ [.ref (hd e)] _ _
    refine ev_astore_nE (by first | exact rf_some _ | exact rfl) (pc' := 6) (lv' := [_, _, _, _, _]) dX1_undoEdit_5 rfl (by decide) (by intro w hw; first | exact Or.inl rfl | (right; have hw := Option.some.inj (Option.some.inj hw); subst hw; first | rfl | exact rf_cat _) | cases hw) rfl ?_
    refine ev_aload_nE (pc' := 7) dX1_undoEdit_6 rfl rfl (by first | exact rf_some _ | exact rfl) ?_
    refine ev_ifnonnullR (tgt := 13) dX1_undoEdit_7 (by decide) ?_
    cases hb : spa S e with
    | none =>
      rw [hb] at hpa
      refine ev_aload_nE (pc' := 14) dX1_undoEdit_13 rfl rfl (by first | exact rf_some _ | exact rfl) ?_
      refine gX0_parent rfl hr.1 hpa (pc' := 17) dX1_undoEdit_14 rfl ?_
      show Ev g mdX1_undoEdit 17 _ [va_rf none] _ _
      refine ev_astore_nE (by first | exact rf_some _ | exact rfl) (pc' := 18) (lv' := [_, _, _, _, _]) dX1_undoEdit_17 rfl (by decide) (by intro w hw; first | exact Or.inl rfl | (right; have hw := Option.some.inj (Option.some.inj hw); subst hw; first | rfl | exact rf_cat _) | cases hw) rfl ?_
      refine ev_aload_nE (pc' := 19) dX1_undoEdit_18 rfl rfl (by first | exact rf_some _ | exact rfl) ?_
      refine ev_ifnullZ (tgt := 33) dX1_undoEdit_19 (by decide) ?_
      refine ev_bipush (pc' := 35) (v := (-6)) dX1_undoEdit_33 rfl (by decide) ?_
      refine ev_iret rfl dX1_undoEdit_35 ?_
      rw [oUE_w hl (Or.inl (T.none he hb))]
      exact ⟨rfl, isX.of hR⟩
    | some b =>
      have hz : e ≠ 0 := fun q => by rw [q, T.pa0] at hb; cases hb
      have hbL := (T.par he hb).1
      have hrb := RX.row hR hbL
      have ed := I.ed he hb
      have h40b := I.tl hbL
      rw [hb] at hpa
      refine ev_aload_nE (pc' := 14) dX1_undoEdit_13 rfl rfl (by first | exact rf_some _ | exact rfl) ?_
      refine gX0_parent rfl hr.1 hpa (pc' := 17) dX1_undoEdit_14 rfl ?_
      show Ev g mdX1_undoEdit 17 _ [.ref (hd b)] _ _
      refine ev_astore_nE (by first | exact rf_some _ | exact rfl) (pc' := 18) (lv' := [_, _, _, _, _]) dX1_undoEdit_17 rfl (by decide) (by intro w hw; first | exact Or.inl rfl | (right; have hw := Option.some.inj (Option.some.inj hw); subst hw; first | rfl | exact rf_cat _) | cases hw) rfl ?_
      refine ev_aload_nE (pc' := 19) dX1_undoEdit_18 rfl rfl (by first | exact rf_some _ | exact rfl) ?_
      refine ev_ifnullR (pc' := 22) dX1_undoEdit_19 rfl ?_
      refine ev_aload_nE (pc' := 23) dX1_undoEdit_22 rfl rfl (by first | exact rf_some _ | exact rfl) ?_
      refine ev_aload_nE (pc' := 24) dX1_undoEdit_23 rfl rfl (by first | exact rf_some _ | exact rfl) ?_
      refine gX1_currentNode rfl (pc' := 27) dX1_undoEdit_24 rfl ?_
      refine ev_callS (As := [_, _]) coX1_isAncestor (c_isAncestor T hR he I.cu) rfl (by decide) (by first | exact Nat.le_of_ble_eq_true rfl | simp [Value.category, rf_cat]) dX1_undoEdit_27 rfl (pc' := 30) rfl (fun v w hq => ?_)
      obtain ⟨rfl, rfl⟩ := hq
      dsimp only [Option.toList, List.cons_append, List.nil_append]
      refine ev_if_ne (tgt := 36) (pc' := 33) dX1_undoEdit_30 (by decide) rfl (fun h30 => ?_) (fun h30 => ?_)
      · rw [bI_ne, decide_eq_true_eq] at h30
        rw [oUE_at hl (fun q => q.elim hz (fun z => z h30))]
        refine ev_aload_nE (pc' := 37) dX1_undoEdit_36 rfl rfl (by first | exact rf_some _ | exact rfl) ?_
        refine ev_aload_nE (pc' := 38) dX1_undoEdit_37 rfl rfl (by first | exact rf_some _ | exact rfl) ?_
        refine x_callV (As := [_]) coX1_placeNow rfl (c_placeNow I hR he hz h30) rfl (by decide) (by first | exact Nat.le_of_ble_eq_true rfl | simp [Value.category, rf_cat]) dX1_undoEdit_38 rfl (pc' := 41) rfl (fun v w hq => ?_)
        obtain ⟨rfl, hGa, rfl⟩ := hq
        dsimp only [Option.toList, List.cons_append, List.nil_append]
        cases hs : shf S e with
        | inr c =>
          show Ev g mdX1_undoEdit 41 _ [.int (-5)] _ _
          refine ev_istore (pc' := 43) (lv' := [_, _, _, _, _]) dX1_undoEdit_41 rfl (by decide) (by intro w hw; first | exact Or.inl rfl | (right; have hw := Option.some.inj (Option.some.inj hw); subst hw; first | rfl | exact rf_cat _) | cases hw) rfl ?_
          refine ev_iload (pc' := 45) dX1_undoEdit_43 rfl rfl ?_
          refine ev_if_ge (tgt := 51) (pc' := 48) dX1_undoEdit_45 (by decide) rfl (fun h45 => ?_) (fun h45 => ?_)
          · exact absurd h45 (by decide)
          · refine ev_bipush (pc' := 50) (v := (-5)) dX1_undoEdit_48 rfl (by decide) ?_
            refine ev_iret rfl dX1_undoEdit_50 ?_
            exact ⟨rfl, isX.of hR⟩
        | inl a =>
          have hG := hGa a hs
          have ha40 := shG_40 I I.cu hG
          show Ev g mdX1_undoEdit 41 _ [.int (nI a)] _ _
          have ends : ∀ w, isX g xo an ac am LN LT xt (grw S a (sle S e) (!sde S e) (ssr S e)) w → Ev g mdX1_undoEdit 120 [some (.ref xo), some (.int x), some (.ref (hd e)), some (.ref (hd b)), some (.int (nI a))] [] w (fun r w => r = some (.int (nI (sgv S))) ∧ isX g xo an ac am LN LT xt (grw S a (sle S e) (!sde S e) (ssr S e)) w) := by
            rintro w ⟨hd2, ar2, nt2, ln2, cu2, ck2, cp2, cl2, mk2, tl2, nu2, ti2, pa2, fa2, ep2, el2, de2, tc2, rfl, hR2⟩
            have hr2 := RX.row hR2 (grw_in S a (sle S e) (!sde S e) (ssr S e))
            have e3' := hR2.2.2.1
            rw [grw_cu] at e3'
            subst e3'
            refine ev_aload_nE (pc' := 121) dX1_undoEdit_120 rfl rfl (by first | exact rf_some _ | exact rfl) ?_
            refine gX1_currentNode rfl (pc' := 124) dX1_undoEdit_121 rfl ?_
            refine gX0_number rfl hr2.1 hr2.2.2.2.1 (pc' := 127) dX1_undoEdit_124 rfl ?_
            refine ev_iret rfl dX1_undoEdit_127 ?_
            exact ⟨rfl, isX.of hR2⟩
          have rest : ¬ (sde S e = true ∧ 40 < stl S (scu S) + sle S e) → Ev g mdX1_undoEdit 72 [some (.ref xo), some (.int x), some (.ref (hd e)), some (.ref (hd b)), some (.int (nI a))] [] (wX g xo an ac am LN LT xt xar xnt xln (hd (scu S)) xck xcp xcl xmk xtl xnu xti xpa xfa xep xel xde xtc) (fun r w => r = some (.int (ueR S e (.inl a)).1) ∧ isX g xo an ac am LN LT xt (ueR S e (.inl a)).2 w) := by
            intro hno
            rw [show ueR S e (.inl a) = if sde S e = true ∧ 40 < stl S (scu S) + sle S e then ((-4), S) else if (sL S).length = 24 then ((-3), S) else (nI (sgv S), grw S a (sle S e) (!sde S e) (ssr S e)) from rfl, if_neg hno]
            refine ev_aload_nE (pc' := 73) dX1_undoEdit_72 rfl rfl (by first | exact rf_some _ | exact rfl) ?_
            refine x_callV (As := []) coX1_isTreeFull rfl (c_isTreeFull T hR) rfl (by decide) (by first | exact Nat.le_of_ble_eq_true rfl | simp [Value.category, rf_cat]) dX1_undoEdit_73 rfl (pc' := 76) rfl (fun v w hq => ?_)
            obtain ⟨rfl, rfl⟩ := hq
            dsimp only [Option.toList, List.cons_append, List.nil_append]
            refine ev_if_eq (tgt := 82) (pc' := 79) dX1_undoEdit_76 (by decide) rfl (fun h76 => ?_) (fun h76 => ?_)
            · rw [bI_eq, decide_eq_false_iff_not] at h76
              rw [if_neg h76]
              refine ev_aload_nE (pc' := 83) dX1_undoEdit_82 rfl rfl (by first | exact rf_some _ | exact rfl) ?_
              refine gX0_deletion rfl hr.1 hr.2.2.2.2.2.2.2.2.2.1 (pc' := 86) dX1_undoEdit_83 rfl ?_
              refine ev_if_eq (tgt := 110) (pc' := 89) dX1_undoEdit_86 (by decide) rfl (fun h86 => ?_) (fun h86 => ?_)
              · rw [bI_eq] at h86
                have hg1 := (hG.1 h86).1
                refine ev_aload_nE (pc' := 111) dX1_undoEdit_110 rfl rfl (by first | exact rf_some _ | exact rfl) ?_
                refine ev_iload (pc' := 113) dX1_undoEdit_111 rfl rfl ?_
                refine ev_aload_nE (pc' := 114) dX1_undoEdit_113 rfl rfl (by first | exact rf_some _ | exact rfl) ?_
                refine gX0_editLength rfl hr.1 hr.2.2.2.2.2.2.2.2.1 (pc' := 117) dX1_undoEdit_114 rfl ?_
                refine x_callV (As := [_, _]) coX1_addDeletion rfl (c_addDeletion (s := ssr S e) I (by omega) (by omega) hR ed.1 hle hg1) rfl (by decide) (by first | exact Nat.le_of_ble_eq_true rfl | simp [Value.category, rf_cat]) dX1_undoEdit_117 rfl (pc' := 120) rfl (fun v w hq => ?_)
                obtain ⟨rfl, hw⟩ := hq
                dsimp only [Option.toList, List.cons_append, List.nil_append]
                rw [show true = !sde S e by rw [h86]; rfl] at hw
                exact ends w hw
              · rw [bI_ne] at h86
                have hg1 := hG.2 h86
                have h41 : ¬ 40 < stl S (scu S) + sle S e := fun q => hno ⟨h86, q⟩
                obtain ⟨p1, p2, p3, -⟩ := ed.2.2.1 h86
                have hst : ∀ i, i < sle S e → xtc (xt (hd b)) (spo S e + i) = ssr S e i := fun i hi => by
                  rw [hrb.2.2.2.2.2.2.2.2.2.2 _ (by omega)]; exact (p3 i hi).symm
                have htb := RX.tin hR hrb.1
                have ci := c_addInsertion (g := g) (xo := xo) (an := an) (ac := ac) (am := am) (src := xt (hd b)) (p := a) (n := sle S e) (s := ssr S e) (n0 := 40) (fr := spo S e) (f := xtc (xt (hd b))) I (by omega) (by omega) hR ed.1 hle hg1 (by omega) (by omega) (by omega) hst (fun i hi => by rw [hrb.2.2.2.2.2.2.2.2.2.2 _ (by omega)]; exact I.tx hbL (by omega)) (fun q hqa hqn hqL nt' ln' nu' pa' fa' ep' el' tc' hx => by
                  obtain ⟨q0, -, hq0⟩ := wX_text (g := g) (xo := xo) (an := an) (ac := ac) (am := am) (LN := LN) (LT := LT) (xt := xt) (xar := xar) (xnt := nt') (xln := ln') (xcu := hd (scu S)) (xck := xck) (xcp := xcp) (xcl := xcl) (xmk := xmk) (xtl := xtl) (xnu := nu') (xti := xti) (xpa := pa') (xfa := fa') (xep := ep') (xel := el') (xde := xde) (xtc := tc') htb
                  refine ⟨q0, ?_⟩
                  rw [hq0]
                  show some (xt (hd b), Sum.inl (g.2.2.1, 40, Sum.inl (tc' (xt (hd b))))) = _
                  rw [hx _ (fun z => hqn b hbL (RX.tinj hR hrb.1 hqL z))])
                refine ev_aload_nE (pc' := 90) dX1_undoEdit_89 rfl rfl (by first | exact rf_some _ | exact rfl) ?_
                refine ev_iload (pc' := 92) dX1_undoEdit_90 rfl rfl ?_
                refine ev_aload_nE (pc' := 93) dX1_undoEdit_92 rfl rfl (by first | exact rf_some _ | exact rfl) ?_
                refine gX0_text rfl hrb.1 (pc' := 96) dX1_undoEdit_93 rfl ?_
                refine ev_aload_nE (pc' := 97) dX1_undoEdit_96 rfl rfl (by first | exact rf_some _ | exact rfl) ?_
                refine gX0_editPosition rfl hr.1 hr.2.2.2.2.2.2.2.1 (pc' := 100) dX1_undoEdit_97 rfl ?_
                refine ev_aload_nE (pc' := 101) dX1_undoEdit_100 rfl rfl (by first | exact rf_some _ | exact rfl) ?_
                refine gX0_editLength rfl hr.1 hr.2.2.2.2.2.2.2.2.1 (pc' := 104) dX1_undoEdit_101 rfl ?_
                refine x_callV (As := [_, _, _, _]) coX1_addInsertion rfl (ci) rfl (by decide) (by first | exact Nat.le_of_ble_eq_true rfl | simp [Value.category, rf_cat]) dX1_undoEdit_104 rfl (pc' := 107) rfl (fun v w hq => ?_)
                obtain ⟨rfl, hw⟩ := hq
                dsimp only [Option.toList, List.cons_append, List.nil_append]
                rw [show false = !sde S e by rw [h86]; rfl] at hw
                refine ev_goto (pc' := 120) dX1_undoEdit_107 (by decide) ?_
                exact ends w hw
            · rw [bI_ne, decide_eq_true_eq] at h76
              rw [if_pos h76]
              refine ev_bipush (pc' := 81) (v := (-3)) dX1_undoEdit_79 rfl (by decide) ?_
              refine ev_iret rfl dX1_undoEdit_81 ?_
              exact ⟨rfl, isX.of hR⟩
          refine ev_istore (pc' := 43) (lv' := [_, _, _, _, _]) dX1_undoEdit_41 rfl (by decide) (by intro w hw; first | exact Or.inl rfl | (right; have hw := Option.some.inj (Option.some.inj hw); subst hw; first | rfl | exact rf_cat _) | cases hw) rfl ?_
          refine ev_iload (pc' := 45) dX1_undoEdit_43 rfl rfl ?_
          refine ev_if_ge (tgt := 51) (pc' := 48) dX1_undoEdit_45 (by decide) rfl (fun h45 => ?_) (fun h45 => ?_)
          · refine ev_aload_nE (pc' := 52) dX1_undoEdit_51 rfl rfl (by first | exact rf_some _ | exact rfl) ?_
            refine gX0_deletion rfl hr.1 hr.2.2.2.2.2.2.2.2.2.1 (pc' := 55) dX1_undoEdit_52 rfl ?_
            refine ev_if_eq (tgt := 72) (pc' := 58) dX1_undoEdit_55 (by decide) rfl (fun h55 => ?_) (fun h55 => ?_)
            · rw [bI_eq] at h55
              exact rest (fun q => by rw [h55] at q; exact absurd q.1 (by decide))
            · rw [bI_ne] at h55
              refine ev_aload_nE (pc' := 59) dX1_undoEdit_58 rfl rfl (by first | exact rf_some _ | exact rfl) ?_
              refine ev_aload_nE (pc' := 60) dX1_undoEdit_59 rfl rfl (by first | exact rf_some _ | exact rfl) ?_
              refine gX0_editLength rfl hr.1 hr.2.2.2.2.2.2.2.2.1 (pc' := 63) dX1_undoEdit_60 rfl ?_
              refine x_callV (As := [_]) coX1_hasRoomFor rfl (c_hasRoomFor hR I.cu h40 hle) rfl (by decide) (by first | exact Nat.le_of_ble_eq_true rfl | simp [Value.category, rf_cat]) dX1_undoEdit_63 rfl (pc' := 66) rfl (fun v w hq => ?_)
              obtain ⟨rfl, rfl⟩ := hq
              dsimp only [Option.toList, List.cons_append, List.nil_append]
              refine ev_if_ne (tgt := 72) (pc' := 69) dX1_undoEdit_66 (by decide) rfl (fun h66 => ?_) (fun h66 => ?_)
              · rw [bI_ne, decide_eq_true_eq] at h66
                exact rest (fun q => by omega)
              · rw [bI_eq, decide_eq_false_iff_not] at h66
                refine ev_bipush (pc' := 71) (v := (-4)) dX1_undoEdit_69 rfl (by decide) ?_
                refine ev_iret rfl dX1_undoEdit_71 ?_
                rw [show ueR S e (.inl a) = if sde S e = true ∧ 40 < stl S (scu S) + sle S e then ((-4), S) else if (sL S).length = 24 then ((-3), S) else (nI (sgv S), grw S a (sle S e) (!sde S e) (ssr S e)) from rfl, if_pos ⟨h55, by omega⟩]
                exact ⟨rfl, isX.of hR⟩
          · exact absurd (nI_pos' (by omega)) h45
      · rw [bI_eq, decide_eq_false_iff_not] at h30
        refine ev_bipush (pc' := 35) (v := (-6)) dX1_undoEdit_33 rfl (by decide) ?_
        refine ev_iret rfl dX1_undoEdit_35 ?_
        rw [oUE_w hl (Or.inr h30)]
        exact ⟨rfl, isX.of hR⟩
end X8
