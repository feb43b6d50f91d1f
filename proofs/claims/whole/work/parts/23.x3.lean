/-! ===== the landed class: becoming current, the clip, the marks ===== -/
section X3
variable {g : EG} {xo an ac am : Nat} {LN LT : List Nat} {xt : Nat → Nat} {xar : Nat → Option Nat} {xnt xln : Int32} {xcu : Nat} {xck : Int32} {xcp : Nat → Int32} {xcl : Int32} {xmk : Nat → Option Nat} {xtl xnu xti : Nat → Int32} {xpa xfa : Nat → Option Nat} {xep xel xde : Nat → Int32} {xtc : Nat → Nat → Int32}
variable {S : SS} {hd : Nat → Nat} {N : Nat} {Ph : Option Value → va_W → Prop}
theorem RX.setFav {f : Nat → Option Nat} (hR : RX (setFa S f) hd LN LT xt xar xnt xln xcu xck xcp xcl xmk xtl xnu xti xpa xfa xep xel xde xtc) {b c : Nat} (hb : b ∈ sL S) : RX (setFa S (va_up f b (some c))) hd LN LT xt xar xnt xln xcu xck xcp xcl xmk xtl xnu xti xpa (va_up xfa (hd b) (some (hd c))) xep xel xde xtc := by
  refine ⟨hR.1, hR.2.1, hR.2.2.1, hR.2.2.2.1, hR.2.2.2.2.1, fun x hx => ?_, hR.2.2.2.2.2.2⟩
  have h := hR.2.2.2.2.2.1 x hx
  refine ⟨h.1, h.2.1, h.2.2.1, h.2.2.2.1, h.2.2.2.2.1, h.2.2.2.2.2.1, ?_, h.2.2.2.2.2.2.2⟩
  show va_up xfa (hd b) (some (hd c)) (hd x) = (va_up f b (some c) x).map hd
  by_cases q : x = b
  · rw [q, va_up_self, va_up_self]; rfl
  · rw [va_up_ne _ _ (fun e => q (RX.inj hR hx hb e)), va_up_ne _ _ q]; exact h.2.2.2.2.2.2.1
end X3
section X4
variable {g : EG} {xo an ac am : Nat} {LN LT : List Nat} {xt : Nat → Nat} {S : SS} {hd : Nat → Nat}
theorem mkc_loop (T : Tree S) {z : Nat} : ∀ (c : Nat), c ∈ sL S → ∀ (f : Nat → Option Nat) (xar : Nat → Option Nat) (xnt xln : Int32) (xcu : Nat) (xck : Int32) (xcp : Nat → Int32) (xcl : Int32) (xmk : Nat → Option Nat) (xtl xnu xti : Nat → Int32) (xpa xfa : Nat → Option Nat) (xep xel xde : Nat → Int32) (xtc : Nat → Nat → Int32), RX (setFa S f) hd LN LT xt xar xnt xln xcu xck xcp xcl xmk xtl xnu xti xpa xfa xep xel xde xtc → Ev g mdX1_makeCurrent 25 [some (.ref xo), some (.ref z), some (.ref (hd c))] [] (wX g xo an ac am LN LT xt xar xnt xln xcu xck xcp xcl xmk xtl xnu xti xpa xfa xep xel xde xtc) (fun r w => r = none ∧ ∃ xfa' : Nat → Option Nat, w = (wX g xo an ac am LN LT xt xar xnt xln xcu xck xcp xcl xmk xtl xnu xti xpa (xfa') xep xel xde xtc) ∧ RX (setFa S (favs (spa S) (path S c) f)) hd LN LT xt xar xnt xln xcu xck xcp xcl xmk xtl xnu xti xpa (xfa') xep xel xde xtc) := by
  intro c
  induction c using Nat.strongRecOn with
  | ind c ih =>
    intro hc f xar xnt xln xcu xck xcp xcl xmk xtl xnu xti xpa xfa xep xel xde xtc hR
    have hr := RX.row hR hc
    have hpa : xpa (hd c) = (spa S c).map hd := hr.2.2.2.2.2.1
    cases hb : spa S c with
    | none =>
      rw [hb] at hpa
      refine ev_aload_nE (pc' := 26) dX1_makeCurrent_25 rfl rfl (by first | exact rf_some _ | exact rfl) ?_
      refine gX0_parent rfl hr.1 hpa (pc' := 29) dX1_makeCurrent_26 rfl ?_
      show Ev g mdX1_makeCurrent 29 _ [va_rf none] _ _
      refine ev_ifnullZ (tgt := 48) dX1_makeCurrent_29 (by decide) ?_
      refine ev_vret rfl dX1_makeCurrent_48 ?_
      refine ⟨rfl, xfa, rfl, ?_⟩
      rw [path_none hb]
      show RX (setFa S (match spa S c with | some b => va_up f b (some c) | none => f)) hd LN LT xt xar xnt xln xcu xck xcp xcl xmk xtl xnu xti xpa xfa xep xel xde xtc
      rw [hb]
      exact hR
    | some b =>
      obtain ⟨h1, h2⟩ := T.par hc hb
      have hrb := RX.row hR h1
      rw [hb] at hpa
      refine ev_aload_nE (pc' := 26) dX1_makeCurrent_25 rfl rfl (by first | exact rf_some _ | exact rfl) ?_
      refine gX0_parent rfl hr.1 hpa (pc' := 29) dX1_makeCurrent_26 rfl ?_
      refine ev_ifnullR (pc' := 32) dX1_makeCurrent_29 rfl ?_
      refine ev_aload_nE (pc' := 33) dX1_makeCurrent_32 rfl rfl (by first | exact rf_some _ | exact rfl) ?_
      refine gX0_parent rfl hr.1 hpa (pc' := 36) dX1_makeCurrent_33 rfl ?_
      show Ev g mdX1_makeCurrent 36 _ [.ref (hd b)] _ _
      refine ev_aload_nE (pc' := 37) dX1_makeCurrent_36 rfl rfl (by first | exact rf_some _ | exact rfl) ?_
      refine pX0_favouriteE (by first | exact rf_some _ | exact rfl) rfl hrb.1 (pc' := 40) dX1_makeCurrent_37 rfl ?_
      refine ev_aload_nE (pc' := 41) dX1_makeCurrent_40 rfl rfl (by first | exact rf_some _ | exact rfl) ?_
      refine gX0_parent rfl hr.1 hpa (pc' := 44) dX1_makeCurrent_41 rfl ?_
      refine ev_astore_nE (by first | exact rf_some _ | exact rfl) (pc' := 45) (lv' := [_, _, _]) dX1_makeCurrent_44 rfl (by decide) (by intro w hw; first | exact Or.inl rfl | (right; have hw := Option.some.inj (Option.some.inj hw); subst hw; first | rfl | exact rf_cat _) | cases hw) rfl ?_
      refine ev_goto (pc' := 25) dX1_makeCurrent_45 (by decide) ?_
      have hR2 := RX.setFav hR (b := b) (c := c) h1
      have h3 := ih b h2 h1 (va_up f b (some c)) _ _ _ _ _ _ _ _ _ _ _ _ _ _ _ _ _ hR2
      rw [path_some T hc hb]
      show Ev g mdX1_makeCurrent 25 _ [] _ (fun r w => r = none ∧ ∃ xfa' : Nat → Option Nat, w = (wX g xo an ac am LN LT xt xar xnt xln xcu xck xcp xcl xmk xtl xnu xti xpa (xfa') xep xel xde xtc) ∧ RX (setFa S (favs (spa S) (path S b) (match spa S c with | some b => va_up f b (some c) | none => f))) hd LN LT xt xar xnt xln xcu xck xcp xcl xmk xtl xnu xti xpa (xfa') xep xel xde xtc)
      rw [hb]
      exact h3
theorem RX.bec0 {xar : Nat → Option Nat} {xnt xln : Int32} {xcu : Nat} {xck : Int32} {xcp : Nat → Int32} {xcl : Int32} {xmk : Nat → Option Nat} {xtl xnu xti : Nat → Int32} {xpa xfa : Nat → Option Nat} {xep xel xde : Nat → Int32} {xtc : Nat → Nat → Int32} (hR : RX S hd LN LT xt xar xnt xln xcu xck xcp xcl xmk xtl xnu xti xpa xfa xep xel xde xtc) {a : Nat} (ha : a ∈ sL S) : RX (setFa (bec0 S a) (sfa S)) hd LN LT xt xar xnt xln (hd a) (nI (sck S + 1)) xcp xcl xmk xtl xnu (va_up xti (hd a) (nI (sck S + 1))) xpa xfa xep xel xde xtc := by
  refine ⟨hR.1, hR.2.1, rfl, rfl, hR.2.2.2.2.1, fun x hx => ?_, hR.2.2.2.2.2.2⟩
  have h := hR.2.2.2.2.2.1 x hx
  refine ⟨h.1, h.2.1, h.2.2.1, h.2.2.2.1, ?_, h.2.2.2.2.2⟩
  show va_up xti (hd a) (nI (sck S + 1)) (hd x) = nI (va_up (sti S) a (sck S + 1) x)
  by_cases q : x = a
  · rw [q, va_up_self, va_up_self]
  · rw [va_up_ne _ _ (fun e => q (RX.inj hR hx ha e)), va_up_ne _ _ q]; exact h.2.2.2.2.1
theorem c_makeCurrent (T : Tree S) {xar : Nat → Option Nat} {xnt xln : Int32} {xcu : Nat} {xck : Int32} {xcp : Nat → Int32} {xcl : Int32} {xmk : Nat → Option Nat} {xtl xnu xti : Nat → Int32} {xpa xfa : Nat → Option Nat} {xep xel xde : Nat → Int32} {xtc : Nat → Nat → Int32} (hR : RX S hd LN LT xt xar xnt xln xcu xck xcp xcl xmk xtl xnu xti xpa xfa xep xel xde xtc) {a : Nat} (ha : a ∈ sL S) : Ret g mdX1_makeCurrent [.ref xo, .ref (hd a)] (wX g xo an ac am LN LT xt xar xnt xln xcu xck xcp xcl xmk xtl xnu xti xpa xfa xep xel xde xtc) (fun r w => r = none ∧ ∃ (xti' : Nat → Int32) (xfa' : Nat → Option Nat), w = (wX g xo an ac am LN LT xt xar xnt xln (hd a) (nI (sck S + 1)) xcp xcl xmk xtl xnu (xti') xpa (xfa') xep xel xde xtc) ∧ RX (bec S a) hd LN LT xt xar xnt xln (hd a) (nI (sck S + 1)) xcp xcl xmk xtl xnu (xti') xpa (xfa') xep xel xde xtc) := by
  refine Ret.of [_, _, _] 1 (by decide) (Nat.le_of_ble_eq_true rfl) rfl ?_
  have hr := RX.row hR ha
  have e4 := hR.2.2.2.1
  subst e4
  refine ev_aload_nE (pc' := 1) dX1_makeCurrent_0 rfl rfl (by first | exact rf_some _ | exact rfl) ?_
  refine ev_dup (pc' := 2) dX1_makeCurrent_1 rfl (by first | rfl | exact rf_cat _) ?_
  refine gX1_clock rfl (pc' := 5) dX1_makeCurrent_2 rfl ?_
  refine ev_iconst (pc' := 6) (v := nI 1) dX1_makeCurrent_5 rfl (by decide) ?_
  refine ev_iaddN  (pc' := 7) dX1_makeCurrent_6 rfl ?_
  refine pX1_clock rfl (pc' := 10) dX1_makeCurrent_7 rfl ?_
  refine ev_aload_nE (pc' := 11) dX1_makeCurrent_10 rfl rfl (by first | exact rf_some _ | exact rfl) ?_
  refine ev_aload_nE (pc' := 12) dX1_makeCurrent_11 rfl rfl (by first | exact rf_some _ | exact rfl) ?_
  refine gX1_clock rfl (pc' := 15) dX1_makeCurrent_12 rfl ?_
  refine pX0_time rfl hr.1 (pc' := 18) dX1_makeCurrent_15 rfl ?_
  refine ev_aload_nE (pc' := 19) dX1_makeCurrent_18 rfl rfl (by first | exact rf_some _ | exact rfl) ?_
  refine ev_aload_nE (pc' := 20) dX1_makeCurrent_19 rfl rfl (by first | exact rf_some _ | exact rfl) ?_
  refine pX1_currentNode rfl (pc' := 23) dX1_makeCurrent_20 rfl ?_
  refine ev_aload_nE (pc' := 24) dX1_makeCurrent_23 rfl rfl (by first | exact rf_some _ | exact rfl) ?_
  refine ev_astore_nE (by first | exact rf_some _ | exact rfl) (pc' := 25) (lv' := [_, _, _]) dX1_makeCurrent_24 rfl (by decide) (by intro w hw; first | exact Or.inl rfl | (right; have hw := Option.some.inj (Option.some.inj hw); subst hw; first | rfl | exact rf_cat _) | cases hw) rfl ?_
  have h := mkc_loop (g := g) (xo := xo) (an := an) (ac := ac) (am := am) (z := hd a) (S := bec0 S a) T a ha (sfa S) _ _ _ _ _ _ _ _ _ _ _ _ _ _ _ _ _ (RX.bec0 hR ha)
  refine Ev.mono h (fun r w hq => ?_)
  obtain ⟨h1, xfa', h2, h3⟩ := hq
  exact ⟨h1, _, xfa', h2, h3⟩
end X4
section X5
variable {g : EG} {xo an ac am : Nat} {LN LT : List Nat} {xt : Nat → Nat} {xar : Nat → Option Nat} {xnt xln : Int32} {xcu : Nat} {xck : Int32} {xcp : Nat → Int32} {xcl : Int32} {xmk : Nat → Option Nat} {xtl xnu xti : Nat → Int32} {xpa xfa : Nat → Option Nat} {xep xel xde : Nat → Int32} {xtc : Nat → Nat → Int32}
variable {S : SS} {hd : Nat → Nat} {N : Nat} {Ph : Option Value → va_W → Prop}
theorem ch_nar {j : Nat} (hj : j < 65536) : vp_nar .char (nI j) = nI j := by unfold vp_nar; rw [(pk_charN hj).1]
theorem ch_i2c {j : Nat} (hj : j < 65536) : ((nI j).toUInt32 % 65536).toInt32 = nI j := by rw [pk_char, pk_tn (by omega), Nat.mod_eq_of_lt hj]
theorem c_xappend (hR : RX S hd LN LT xt xar xnt xln xcu xck xcp xcl xmk xtl xnu xti xpa xfa xep xel xde xtc) (hc : scl S ≤ 6) (x : Int32) : Ret g mdX1_append [.ref xo, .int x] (wX g xo an ac am LN LT xt xar xnt xln xcu xck xcp xcl xmk xtl xnu xti xpa xfa xep xel xde xtc) (fun r w => r = some (.int (oApp S x).1) ∧ isX g xo an ac am LN LT xt (oApp S x).2 w) := by
  refine Ret.of [_, _] 0 (by decide) (Nat.le_of_ble_eq_true rfl) rfl ?_
  have e5 := hR.2.2.2.2.1
  subst e5
  have no : ¬ (32 ≤ x ∧ x ≤ 126) → Ev g mdX1_append 12 [some (.ref xo), some (.int x)] [] (wX g xo an ac am LN LT xt xar xnt xln xcu xck xcp (nI (scl S)) xmk xtl xnu xti xpa xfa xep xel xde xtc) (fun r w => r = some (.int (oApp S x).1) ∧ isX g xo an ac am LN LT xt (oApp S x).2 w) := by
    intro h
    refine ev_iconst (pc' := 13) (v := (-1)) dX1_append_12 rfl (by decide) ?_
    refine ev_iret rfl dX1_append_13 ?_
    unfold oApp
    rw [if_neg h]
    exact ⟨rfl, isX.of hR⟩
  refine ev_iload_n (pc' := 1) dX1_append_0 rfl rfl ?_
  refine ev_bipush (pc' := 3) (v := nI 32) dX1_append_1 rfl (by decide) ?_
  refine ev_icmp_lt (tgt := 12) (pc' := 6) dX1_append_3 (by decide) rfl (fun h3 => ?_) (fun h3 => ?_)
  · exact no (fun q => Int32.not_lt.mpr q.1 h3)
  · refine ev_iload_n (pc' := 7) dX1_append_6 rfl rfl ?_
    refine ev_bipush (pc' := 9) (v := nI 126) dX1_append_7 rfl (by decide) ?_
    refine ev_icmp_le (tgt := 14) (pc' := 12) dX1_append_9 (by decide) rfl (fun h9 => ?_) (fun h9 => ?_)
    · have hx : 32 ≤ x ∧ x ≤ 126 := ⟨Int32.not_lt.mp h3, h9⟩
      obtain ⟨j, hj, rfl⟩ := nI_of2 (M := 126) (n := 126) (by decide) (Int32.not_lt.mpr (Int32.le_trans (by decide) hx.1)) hx.2
      refine ev_aload_nE (pc' := 15) dX1_append_14 rfl rfl (by first | exact rf_some _ | exact rfl) ?_
      refine gX1_clipLength rfl (pc' := 18) dX1_append_15 rfl ?_
      refine ev_bipush (pc' := 20) (v := nI 6) dX1_append_18 rfl (by decide) ?_
      refine ev_icmp_lt (tgt := 26) (pc' := 23) dX1_append_20 (by decide) rfl (fun h20 => ?_) (fun h20 => ?_)
      · rw [nI_ltI (by omega) (by omega)] at h20
        refine ev_aload_nE (pc' := 27) dX1_append_26 rfl rfl (by first | exact rf_some _ | exact rfl) ?_
        refine gX1_clip rfl (pc' := 30) dX1_append_27 rfl ?_
        refine ev_aload_nE (pc' := 31) dX1_append_30 rfl rfl (by first | exact rf_some _ | exact rfl) ?_
        refine gX1_clipLength rfl (pc' := 34) dX1_append_31 rfl ?_
        refine ev_iload_n (pc' := 35) dX1_append_34 rfl rfl ?_
        refine ev_i2c (pc' := 36) dX1_append_35 rfl (ch_i2c (by omega)) ?_
        refine x_clip_put (by omega) (ch_nar (by omega)) (pc' := 37) dX1_append_36 rfl ?_
        refine ev_aload_nE (pc' := 38) dX1_append_37 rfl rfl (by first | exact rf_some _ | exact rfl) ?_
        refine ev_dup (pc' := 39) dX1_append_38 rfl (by first | rfl | exact rf_cat _) ?_
        refine gX1_clipLength rfl (pc' := 42) dX1_append_39 rfl ?_
        refine ev_iconst (pc' := 43) (v := nI 1) dX1_append_42 rfl (by decide) ?_
        refine ev_iaddN  (pc' := 44) dX1_append_43 rfl ?_
        refine pX1_clipLength rfl (pc' := 47) dX1_append_44 rfl ?_
        refine ev_aload_nE (pc' := 48) dX1_append_47 rfl rfl (by first | exact rf_some _ | exact rfl) ?_
        refine gX1_clipLength rfl (pc' := 51) dX1_append_48 rfl ?_
        refine ev_iret rfl dX1_append_51 ?_
        unfold oApp
        rw [if_pos hx, if_neg (by omega)]
        refine ⟨rfl, isX.of (hd := hd) ⟨hR.1, hR.2.1, hR.2.2.1, hR.2.2.2.1, rfl, hR.2.2.2.2.2.1, fun i hi => ?_, hR.2.2.2.2.2.2.2⟩⟩
        have hi : i < scl S + 1 := hi
        show upd xcp (scl S) (nI j) i = upd (scp S) (scl S) (nI j) i
        by_cases q : i = scl S
        · rw [q, pk_us, pk_us]
        · rw [pk_un q, pk_un q]; exact RX.cp hR (by omega)
      · rw [nI_ltI (by omega) (by omega)] at h20
        refine ev_bipush (pc' := 25) (v := (-4)) dX1_append_23 rfl (by decide) ?_
        refine ev_iret rfl dX1_append_25 ?_
        unfold oApp
        rw [if_pos hx, if_pos (by omega)]
        exact ⟨rfl, isX.of hR⟩
    · exact no (fun q => h9 q.2)
theorem c_xclearClip (hR : RX S hd LN LT xt xar xnt xln xcu xck xcp xcl xmk xtl xnu xti xpa xfa xep xel xde xtc) : Ret g mdX1_clearClip [.ref xo] (wX g xo an ac am LN LT xt xar xnt xln xcu xck xcp xcl xmk xtl xnu xti xpa xfa xep xel xde xtc) (fun r w => r = some (.int (oClr S).1) ∧ isX g xo an ac am LN LT xt (oClr S).2 w) := by
  refine Ret.of [_, _] 1 (by decide) (Nat.le_of_ble_eq_true rfl) rfl ?_
  have e5 := hR.2.2.2.2.1
  subst e5
  refine ev_aload_nE (pc' := 1) dX1_clearClip_0 rfl rfl (by first | exact rf_some _ | exact rfl) ?_
  refine gX1_clipLength rfl (pc' := 4) dX1_clearClip_1 rfl ?_
  refine ev_istore_n (pc' := 5) (lv' := [_, _]) dX1_clearClip_4 rfl (by decide) (by intro w hw; first | exact Or.inl rfl | (right; have hw := Option.some.inj (Option.some.inj hw); subst hw; first | rfl | exact rf_cat _) | cases hw) rfl ?_
  refine ev_aload_nE (pc' := 6) dX1_clearClip_5 rfl rfl (by first | exact rf_some _ | exact rfl) ?_
  refine ev_iconst (pc' := 7) (v := nI 0) dX1_clearClip_6 rfl (by decide) ?_
  refine pX1_clipLength rfl (pc' := 10) dX1_clearClip_7 rfl ?_
  refine ev_iload_n (pc' := 11) dX1_clearClip_10 rfl rfl ?_
  refine ev_iret rfl dX1_clearClip_11 ?_
  exact ⟨rfl, isX.of (hd := hd) ⟨hR.1, hR.2.1, hR.2.2.1, hR.2.2.2.1, rfl, hR.2.2.2.2.2.1, fun i hi => absurd hi (Nat.not_lt_zero i), hR.2.2.2.2.2.2.2⟩⟩
theorem c_xundo (T : Tree S) (hR : RX S hd LN LT xt xar xnt xln xcu xck xcp xcl xmk xtl xnu xti xpa xfa xep xel xde xtc) (hc : scu S ∈ sL S) : Ret g mdX1_undo [.ref xo] (wX g xo an ac am LN LT xt xar xnt xln xcu xck xcp xcl xmk xtl xnu xti xpa xfa xep xel xde xtc) (fun r w => r = some (.int (oUndo S).1) ∧ isX g xo an ac am LN LT xt (oUndo S).2 w) := by
  refine Ret.of [_, _] 1 (by decide) (Nat.le_of_ble_eq_true rfl) rfl ?_
  have hr := RX.row hR hc
  have e3 := hR.2.2.1
  subst e3
  have hpa := hr.2.2.2.2.2.1
  unfold oUndo
  cases hb : spa S (scu S) with
  | none =>
    rw [hb] at hpa
    refine ev_aload_nE (pc' := 1) dX1_undo_0 rfl rfl (by first | exact rf_some _ | exact rfl) ?_
    refine gX1_currentNode rfl (pc' := 4) dX1_undo_1 rfl ?_
    refine gX0_parent rfl hr.1 hpa (pc' := 7) dX1_undo_4 rfl ?_
    show Ev g mdX1_undo 7 _ [va_rf none] _ _
    refine ev_astore_nE (by first | exact rf_some _ | exact rfl) (pc' := 8) (lv' := [_, _]) dX1_undo_7 rfl (by decide) (by intro w hw; first | exact Or.inl rfl | (right; have hw := Option.some.inj (Option.some.inj hw); subst hw; first | rfl | exact rf_cat _) | cases hw) rfl ?_
    refine ev_aload_nE (pc' := 9) dX1_undo_8 rfl rfl (by first | exact rf_some _ | exact rfl) ?_
    refine ev_ifnonnullZ (pc' := 12) dX1_undo_9 rfl ?_
    refine ev_bipush (pc' := 14) (v := (-7)) dX1_undo_12 rfl (by decide) ?_
    refine ev_iret rfl dX1_undo_14 ?_
    exact ⟨rfl, isX.of hR⟩
  | some b =>
    have h1 := (T.par hc hb).1
    rw [hb] at hpa
    refine ev_aload_nE (pc' := 1) dX1_undo_0 rfl rfl (by first | exact rf_some _ | exact rfl) ?_
    refine gX1_currentNode rfl (pc' := 4) dX1_undo_1 rfl ?_
    refine gX0_parent rfl hr.1 hpa (pc' := 7) dX1_undo_4 rfl ?_
    show Ev g mdX1_undo 7 _ [.ref (hd b)] _ _
    refine ev_astore_nE (by first | exact rf_some _ | exact rfl) (pc' := 8) (lv' := [_, _]) dX1_undo_7 rfl (by decide) (by intro w hw; first | exact Or.inl rfl | (right; have hw := Option.some.inj (Option.some.inj hw); subst hw; first | rfl | exact rf_cat _) | cases hw) rfl ?_
    refine ev_aload_nE (pc' := 9) dX1_undo_8 rfl rfl (by first | exact rf_some _ | exact rfl) ?_
    refine ev_ifnonnullR (tgt := 15) dX1_undo_9 (by decide) ?_
    refine ev_aload_nE (pc' := 16) dX1_undo_15 rfl rfl (by first | exact rf_some _ | exact rfl) ?_
    refine ev_aload_nE (pc' := 17) dX1_undo_16 rfl rfl (by first | exact rf_some _ | exact rfl) ?_
    refine x_callV (As := [_]) coX1_makeCurrent rfl (c_makeCurrent T hR h1) rfl (by decide) (by first | exact Nat.le_of_ble_eq_true rfl | simp [Value.category, rf_cat]) dX1_undo_17 rfl (pc' := 20) rfl (fun v w hq => ?_)
    obtain ⟨rfl, xti', xfa', rfl, hR2⟩ := hq
    dsimp only [Option.toList, List.cons_append, List.nil_append]
    have hr2 := RX.row hR2 h1
    refine ev_aload_nE (pc' := 21) dX1_undo_20 rfl rfl (by first | exact rf_some _ | exact rfl) ?_
    refine gX0_number rfl hr2.1 hr2.2.2.2.1 (pc' := 24) dX1_undo_21 rfl ?_
    refine ev_iret rfl dX1_undo_24 ?_
    exact ⟨rfl, isX.of hR2⟩
theorem c_xredo (T : Tree S) (hR : RX S hd LN LT xt xar xnt xln xcu xck xcp xcl xmk xtl xnu xti xpa xfa xep xel xde xtc) (hc : scu S ∈ sL S) (hf : ∀ a ∈ sL S, ∀ c, sfa S a = some c → c ∈ sL S) : Ret g mdX1_redo [.ref xo] (wX g xo an ac am LN LT xt xar xnt xln xcu xck xcp xcl xmk xtl xnu xti xpa xfa xep xel xde xtc) (fun r w => r = some (.int (oRedo S).1) ∧ isX g xo an ac am LN LT xt (oRedo S).2 w) := by
  refine Ret.of [_, _] 1 (by decide) (Nat.le_of_ble_eq_true rfl) rfl ?_
  have hr := RX.row hR hc
  have e3 := hR.2.2.1
  subst e3
  have hpa := hr.2.2.2.2.2.2.1
  unfold oRedo
  cases hb : sfa S (scu S) with
  | none =>
    rw [hb] at hpa
    refine ev_aload_nE (pc' := 1) dX1_redo_0 rfl rfl (by first | exact rf_some _ | exact rfl) ?_
    refine gX1_currentNode rfl (pc' := 4) dX1_redo_1 rfl ?_
    refine gX0_favourite rfl hr.1 hpa (pc' := 7) dX1_redo_4 rfl ?_
    show Ev g mdX1_redo 7 _ [va_rf none] _ _
    refine ev_astore_nE (by first | exact rf_some _ | exact rfl) (pc' := 8) (lv' := [_, _]) dX1_redo_7 rfl (by decide) (by intro w hw; first | exact Or.inl rfl | (right; have hw := Option.some.inj (Option.some.inj hw); subst hw; first | rfl | exact rf_cat _) | cases hw) rfl ?_
    refine ev_aload_nE (pc' := 9) dX1_redo_8 rfl rfl (by first | exact rf_some _ | exact rfl) ?_
    refine ev_ifnonnullZ (pc' := 12) dX1_redo_9 rfl ?_
    refine ev_bipush (pc' := 14) (v := (-7)) dX1_redo_12 rfl (by decide) ?_
    refine ev_iret rfl dX1_redo_14 ?_
    exact ⟨rfl, isX.of hR⟩
  | some b =>
    have h1 := hf _ hc b hb
    rw [hb] at hpa
    refine ev_aload_nE (pc' := 1) dX1_redo_0 rfl rfl (by first | exact rf_some _ | exact rfl) ?_
    refine gX1_currentNode rfl (pc' := 4) dX1_redo_1 rfl ?_
    refine gX0_favourite rfl hr.1 hpa (pc' := 7) dX1_redo_4 rfl ?_
    show Ev g mdX1_redo 7 _ [.ref (hd b)] _ _
    refine ev_astore_nE (by first | exact rf_some _ | exact rfl) (pc' := 8) (lv' := [_, _]) dX1_redo_7 rfl (by decide) (by intro w hw; first | exact Or.inl rfl | (right; have hw := Option.some.inj (Option.some.inj hw); subst hw; first | rfl | exact rf_cat _) | cases hw) rfl ?_
    refine ev_aload_nE (pc' := 9) dX1_redo_8 rfl rfl (by first | exact rf_some _ | exact rfl) ?_
    refine ev_ifnonnullR (tgt := 15) dX1_redo_9 (by decide) ?_
    refine ev_aload_nE (pc' := 16) dX1_redo_15 rfl rfl (by first | exact rf_some _ | exact rfl) ?_
    refine ev_aload_nE (pc' := 17) dX1_redo_16 rfl rfl (by first | exact rf_some _ | exact rfl) ?_
    refine x_callV (As := [_]) coX1_makeCurrent rfl (c_makeCurrent T hR h1) rfl (by decide) (by first | exact Nat.le_of_ble_eq_true rfl | simp [Value.category, rf_cat]) dX1_redo_17 rfl (pc' := 20) rfl (fun v w hq => ?_)
    obtain ⟨rfl, xti', xfa', rfl, hR2⟩ := hq
    dsimp only [Option.toList, List.cons_append, List.nil_append]
    have hr2 := RX.row hR2 h1
    refine ev_aload_nE (pc' := 21) dX1_redo_20 rfl rfl (by first | exact rf_some _ | exact rfl) ?_
    refine gX0_number rfl hr2.1 hr2.2.2.2.1 (pc' := 24) dX1_redo_21 rfl ?_
    refine ev_iret rfl dX1_redo_24 ?_
    exact ⟨rfl, isX.of hR2⟩
theorem c_xjump (T : Tree S) (hR : RX S hd LN LT xt xar xnt xln xcu xck xcp xcl xmk xtl xnu xti xpa xfa xep xel xde xtc) (hc : scu S ∈ sL S) (x : Int32) : Ret g mdX1_jump [.ref xo, .int x] (wX g xo an ac am LN LT xt xar xnt xln xcu xck xcp xcl xmk xtl xnu xti xpa xfa xep xel xde xtc) (fun r w => r = some (.int (oJump S x).1) ∧ isX g xo an ac am LN LT xt (oJump S x).2 w) := by
  refine Ret.of [_, _, _, _] 2 (by decide) (Nat.le_of_ble_eq_true rfl) rfl ?_
  have e3 := hR.2.2.1
  subst e3
  unfold oJump
  refine ev_aload_nE (pc' := 1) dX1_jump_0 rfl rfl (by first | exact rf_some _ | exact rfl) ?_
  refine ev_iload_n (pc' := 2) dX1_jump_1 rfl rfl ?_
  refine x_callV (As := [_]) coX1_find rfl (c_find T hR x) rfl (by decide) (by first | exact Nat.le_of_ble_eq_true rfl | simp [Value.category, rf_cat]) dX1_jump_2 rfl (pc' := 5) rfl (fun v w hq => ?_)
  obtain ⟨rfl, rfl⟩ := hq
  dsimp only [Option.toList, List.cons_append, List.nil_append]
  cases hl : lk S x with
  | none =>
    show Ev g mdX1_jump 5 _ [va_rf none] _ _
    refine ev_astore_nE (by first | exact rf_some _ | exact rfl) (pc' := 6) (lv' := [_, _, _, _]) dX1_jump_5 rfl (by decide) (by intro w hw; first | exact Or.inl rfl | (right; have hw := Option.some.inj (Option.some.inj hw); subst hw; first | rfl | exact rf_cat _) | cases hw) rfl ?_
    refine ev_aload_nE (pc' := 7) dX1_jump_6 rfl rfl (by first | exact rf_some _ | exact rfl) ?_
    refine ev_ifnonnullZ (pc' := 10) dX1_jump_7 rfl ?_
    refine ev_bipush (pc' := 12) (v := (-2)) dX1_jump_10 rfl (by decide) ?_
    refine ev_iret rfl dX1_jump_12 ?_
    exact ⟨rfl, isX.of hR⟩
  | some a =>
    have ha := (lk_some hl).1
    show Ev g mdX1_jump 5 _ [.ref (hd a)] _ _
    refine ev_astore_nE (by first | exact rf_some _ | exact rfl) (pc' := 6) (lv' := [_, _, _, _]) dX1_jump_5 rfl (by decide) (by intro w hw; first | exact Or.inl rfl | (right; have hw := Option.some.inj (Option.some.inj hw); subst hw; first | rfl | exact rf_cat _) | cases hw) rfl ?_
    refine ev_aload_nE (pc' := 7) dX1_jump_6 rfl rfl (by first | exact rf_some _ | exact rfl) ?_
    refine ev_ifnonnullR (tgt := 13) dX1_jump_7 (by decide) ?_
    refine ev_aload_nE (pc' := 14) dX1_jump_13 rfl rfl (by first | exact rf_some _ | exact rfl) ?_
    refine gX1_currentNode rfl (pc' := 17) dX1_jump_14 rfl ?_
    refine ev_aload_nE (pc' := 18) dX1_jump_17 rfl rfl (by first | exact rf_some _ | exact rfl) ?_
    refine ev_callS (As := [_, _]) coX1_stepsBetween (c_steps T hR hc ha) rfl (by decide) (by first | exact Nat.le_of_ble_eq_true rfl | simp [Value.category, rf_cat]) dX1_jump_18 rfl (pc' := 21) rfl (fun v w hq => ?_)
    obtain ⟨rfl, rfl⟩ := hq
    dsimp only [Option.toList, List.cons_append, List.nil_append]
    refine ev_istore_n (pc' := 22) (lv' := [_, _, _, _]) dX1_jump_21 rfl (by decide) (by intro w hw; first | exact Or.inl rfl | (right; have hw := Option.some.inj (Option.some.inj hw); subst hw; first | rfl | exact rf_cat _) | cases hw) rfl ?_
    refine ev_aload_nE (pc' := 23) dX1_jump_22 rfl rfl (by first | exact rf_some _ | exact rfl) ?_
    refine ev_aload_nE (pc' := 24) dX1_jump_23 rfl rfl (by first | exact rf_some _ | exact rfl) ?_
    refine x_callV (As := [_]) coX1_makeCurrent rfl (c_makeCurrent T hR ha) rfl (by decide) (by first | exact Nat.le_of_ble_eq_true rfl | simp [Value.category, rf_cat]) dX1_jump_24 rfl (pc' := 27) rfl (fun v w hq => ?_)
    obtain ⟨rfl, xti', xfa', rfl, hR2⟩ := hq
    dsimp only [Option.toList, List.cons_append, List.nil_append]
    refine ev_iload_n (pc' := 28) dX1_jump_27 rfl rfl ?_
    refine ev_iret rfl dX1_jump_28 ?_
    exact ⟨rfl, isX.of hR2⟩
theorem RX.setMk (hR : RX S hd LN LT xt xar xnt xln xcu xck xcp xcl xmk xtl xnu xti xpa xfa xep xel xde xtc) {j : Nat} (v : Option Nat) : RX (setMk S (va_up (smk S) j v)) hd LN LT xt xar xnt xln xcu xck xcp xcl (va_up xmk j (v.map hd)) xtl xnu xti xpa xfa xep xel xde xtc := by
  refine ⟨hR.1, hR.2.1, hR.2.2.1, hR.2.2.2.1, hR.2.2.2.2.1, hR.2.2.2.2.2.1, hR.2.2.2.2.2.2.1, fun i hi => ?_, hR.2.2.2.2.2.2.2.2⟩
  show va_up xmk j (v.map hd) i = (va_up (smk S) j v i).map hd
  by_cases q : i = j
  · rw [q, va_up_self, va_up_self]
  · rw [va_up_ne _ _ q, va_up_ne _ _ q]; exact RX.mk hR hi
theorem c_xsetMark (T : Tree S) (hR : RX S hd LN LT xt xar xnt xln xcu xck xcp xcl xmk xtl xnu xti xpa xfa xep xel xde xtc) (hm : ∀ i, i < 5 → ∀ b, smk S i = some b → b ∈ sL S) (m x : Int32) : Ret g mdX1_setMark [.ref xo, .int m, .int x] (wX g xo an ac am LN LT xt xar xnt xln xcu xck xcp xcl xmk xtl xnu xti xpa xfa xep xel xde xtc) (fun r w => r = some (.int (oSetM S m x).1) ∧ isX g xo an ac am LN LT xt (oSetM S m x).2 w) := by
  refine Ret.of [_, _, _, _] 1 (by decide) (Nat.le_of_ble_eq_true rfl) rfl ?_
  refine ev_iload_n (pc' := 1) dX1_setMark_0 rfl rfl ?_
  refine ev_callS (As := [_]) coX1_isMark (c_xisMark _ _) rfl (by decide) (by first | exact Nat.le_of_ble_eq_true rfl | simp [Value.category, rf_cat]) dX1_setMark_1 rfl (pc' := 4) rfl (fun v w hq => ?_)
  obtain ⟨rfl, rfl⟩ := hq
  dsimp only [Option.toList, List.cons_append, List.nil_append]
  refine ev_if_ne (tgt := 9) (pc' := 7) dX1_setMark_4 (by decide) rfl (fun h4 => ?_) (fun h4 => ?_)
  · rw [bI_ne] at h4
    unfold oSetM
    rw [if_pos h4]
    obtain ⟨j, hj, rfl⟩ := isMk_of h4
    rw [nI_clamp (by omega)]
    refine ev_aload_nE (pc' := 10) dX1_setMark_9 rfl rfl (by first | exact rf_some _ | exact rfl) ?_
    refine ev_iload_n (pc' := 11) dX1_setMark_10 rfl rfl ?_
    refine x_callV (As := [_]) coX1_find rfl (c_find T hR x) rfl (by decide) (by first | exact Nat.le_of_ble_eq_true rfl | simp [Value.category, rf_cat]) dX1_setMark_11 rfl (pc' := 14) rfl (fun v w hq => ?_)
    obtain ⟨rfl, rfl⟩ := hq
    dsimp only [Option.toList, List.cons_append, List.nil_append]
    cases hl : lk S x with
    | none =>
      show Ev g mdX1_setMark 14 _ [va_rf none] _ _
      refine ev_astore_nE (by first | exact rf_some _ | exact rfl) (pc' := 15) (lv' := [_, _, _, _]) dX1_setMark_14 rfl (by decide) (by intro w hw; first | exact Or.inl rfl | (right; have hw := Option.some.inj (Option.some.inj hw); subst hw; first | rfl | exact rf_cat _) | cases hw) rfl ?_
      refine ev_aload_nE (pc' := 16) dX1_setMark_15 rfl rfl (by first | exact rf_some _ | exact rfl) ?_
      refine ev_ifnonnullZ (pc' := 19) dX1_setMark_16 rfl ?_
      refine ev_bipush (pc' := 21) (v := (-2)) dX1_setMark_19 rfl (by decide) ?_
      refine ev_iret rfl dX1_setMark_21 ?_
      exact ⟨rfl, isX.of hR⟩
    | some a =>
      have ha := (lk_some hl).1
      have hr := RX.row hR ha
      have hR2 := RX.setMk hR (j := j) (some a)
      have hm2 : ∀ i, i < 5 → ∀ b, smk (setMk S (va_up (smk S) j (some a))) i = some b → b ∈ sL S := fun i hi b hb => by
        by_cases q : i = j
        · rw [q] at hb
          rw [show smk (setMk S (va_up (smk S) j (some a))) j = some a from va_up_self _ _ _] at hb
          cases hb; exact ha
        · rw [show smk (setMk S (va_up (smk S) j (some a))) i = smk S i from va_up_ne _ _ q] at hb
          exact hm i hi b hb
      show Ev g mdX1_setMark 14 _ [.ref (hd a)] _ _
      refine ev_astore_nE (by first | exact rf_some _ | exact rfl) (pc' := 15) (lv' := [_, _, _, _]) dX1_setMark_14 rfl (by decide) (by intro w hw; first | exact Or.inl rfl | (right; have hw := Option.some.inj (Option.some.inj hw); subst hw; first | rfl | exact rf_cat _) | cases hw) rfl ?_
      refine ev_aload_nE (pc' := 16) dX1_setMark_15 rfl rfl (by first | exact rf_some _ | exact rfl) ?_
      refine ev_ifnonnullR (tgt := 22) dX1_setMark_16 (by decide) ?_
      refine ev_aload_nE (pc' := 23) dX1_setMark_22 rfl rfl (by first | exact rf_some _ | exact rfl) ?_
      refine gX1_marks rfl (pc' := 26) dX1_setMark_23 rfl ?_
      refine ev_iload_n (pc' := 27) dX1_setMark_26 rfl rfl ?_
      refine ev_aload_nE (pc' := 28) dX1_setMark_27 rfl rfl (by first | exact rf_some _ | exact rfl) ?_
      refine x_marks_put (by omega) hr.1 (pc' := 29) dX1_setMark_28 rfl ?_
      refine ev_aload_nE (pc' := 30) dX1_setMark_29 rfl rfl (by first | exact rf_some _ | exact rfl) ?_
      refine ev_aload_nE (pc' := 31) dX1_setMark_30 rfl rfl (by first | exact rf_some _ | exact rfl) ?_
      refine x_callV (As := [_]) coX1_marksOn rfl (c_xmarksOn hR2 hm2 ha) rfl (by decide) (by first | exact Nat.le_of_ble_eq_true rfl | simp [Value.category, rf_cat]) dX1_setMark_31 rfl (pc' := 34) rfl (fun v w hq => ?_)
      obtain ⟨rfl, rfl⟩ := hq
      dsimp only [Option.toList, List.cons_append, List.nil_append]
      refine ev_iret rfl dX1_setMark_34 ?_
      exact ⟨rfl, isX.of hR2⟩
  · rw [bI_eq] at h4
    refine ev_iconst (pc' := 8) (v := (-1)) dX1_setMark_7 rfl (by decide) ?_
    refine ev_iret rfl dX1_setMark_8 ?_
    unfold oSetM
    rw [h4]
    exact ⟨rfl, isX.of hR⟩
theorem c_xclearMark (hR : RX S hd LN LT xt xar xnt xln xcu xck xcp xcl xmk xtl xnu xti xpa xfa xep xel xde xtc) (hm : ∀ i, i < 5 → ∀ b, smk S i = some b → b ∈ sL S) (m : Int32) : Ret g mdX1_clearMark [.ref xo, .int m] (wX g xo an ac am LN LT xt xar xnt xln xcu xck xcp xcl xmk xtl xnu xti xpa xfa xep xel xde xtc) (fun r w => r = some (.int (oClrM S m).1) ∧ isX g xo an ac am LN LT xt (oClrM S m).2 w) := by
  refine Ret.of [_, _, _] 1 (by decide) (Nat.le_of_ble_eq_true rfl) rfl ?_
  refine ev_iload_n (pc' := 1) dX1_clearMark_0 rfl rfl ?_
  refine ev_callS (As := [_]) coX1_isMark (c_xisMark _ _) rfl (by decide) (by first | exact Nat.le_of_ble_eq_true rfl | simp [Value.category, rf_cat]) dX1_clearMark_1 rfl (pc' := 4) rfl (fun v w hq => ?_)
  obtain ⟨rfl, rfl⟩ := hq
  dsimp only [Option.toList, List.cons_append, List.nil_append]
  refine ev_if_ne (tgt := 9) (pc' := 7) dX1_clearMark_4 (by decide) rfl (fun h4 => ?_) (fun h4 => ?_)
  · rw [bI_ne] at h4
    unfold oClrM
    rw [if_pos h4]
    obtain ⟨j, hj, rfl⟩ := isMk_of h4
    rw [nI_clamp (by omega)]
    refine ev_aload_nE (pc' := 10) dX1_clearMark_9 rfl rfl (by first | exact rf_some _ | exact rfl) ?_
    refine gX1_marks rfl (pc' := 13) dX1_clearMark_10 rfl ?_
    refine ev_iload_n (pc' := 14) dX1_clearMark_13 rfl rfl ?_
    refine x_marks_get (by omega) (RX.mk hR hj) (pc' := 15) dX1_clearMark_14 rfl ?_
    refine ev_callS (As := [_]) coX1_numberOrNone (c_non hR (smk S j) (hm j hj)) rfl (by decide) (by first | exact Nat.le_of_ble_eq_true rfl | simp [Value.category, rf_cat]) dX1_clearMark_15 rfl (pc' := 18) rfl (fun v w hq => ?_)
    obtain ⟨rfl, rfl⟩ := hq
    dsimp only [Option.toList, List.cons_append, List.nil_append]
    refine ev_istore_n (pc' := 19) (lv' := [_, _, _]) dX1_clearMark_18 rfl (by decide) (by intro w hw; first | exact Or.inl rfl | (right; have hw := Option.some.inj (Option.some.inj hw); subst hw; first | rfl | exact rf_cat _) | cases hw) rfl ?_
    refine ev_aload_nE (pc' := 20) dX1_clearMark_19 rfl rfl (by first | exact rf_some _ | exact rfl) ?_
    refine gX1_marks rfl (pc' := 23) dX1_clearMark_20 rfl ?_
    refine ev_iload_n (pc' := 24) dX1_clearMark_23 rfl rfl ?_
    refine ev_null (pc' := 25) dX1_clearMark_24 rfl ?_
    refine x_marks_nul (by omega) (pc' := 26) dX1_clearMark_25 rfl ?_
    refine ev_iload_n (pc' := 27) dX1_clearMark_26 rfl rfl ?_
    refine ev_iret rfl dX1_clearMark_27 ?_
    exact ⟨rfl, isX.of (RX.setMk hR (j := j) none)⟩
  · rw [bI_eq] at h4
    refine ev_iconst (pc' := 8) (v := (-1)) dX1_clearMark_7 rfl (by decide) ?_
    refine ev_iret rfl dX1_clearMark_8 ?_
    unfold oClrM
    rw [h4]
    exact ⟨rfl, isX.of hR⟩
theorem c_xgoToMark (T : Tree S) (hR : RX S hd LN LT xt xar xnt xln xcu xck xcp xcl xmk xtl xnu xti xpa xfa xep xel xde xtc) (hm : ∀ i, i < 5 → ∀ b, smk S i = some b → b ∈ sL S) (m : Int32) : Ret g mdX1_goToMark [.ref xo, .int m] (wX g xo an ac am LN LT xt xar xnt xln xcu xck xcp xcl xmk xtl xnu xti xpa xfa xep xel xde xtc) (fun r w => r = some (.int (oGoM S m).1) ∧ isX g xo an ac am LN LT xt (oGoM S m).2 w) := by
  refine Ret.of [_, _, _] 1 (by decide) (Nat.le_of_ble_eq_true rfl) rfl ?_
  refine ev_iload_n (pc' := 1) dX1_goToMark_0 rfl rfl ?_
  refine ev_callS (As := [_]) coX1_isMark (c_xisMark _ _) rfl (by decide) (by first | exact Nat.le_of_ble_eq_true rfl | simp [Value.category, rf_cat]) dX1_goToMark_1 rfl (pc' := 4) rfl (fun v w hq => ?_)
  obtain ⟨rfl, rfl⟩ := hq
  dsimp only [Option.toList, List.cons_append, List.nil_append]
  refine ev_if_ne (tgt := 9) (pc' := 7) dX1_goToMark_4 (by decide) rfl (fun h4 => ?_) (fun h4 => ?_)
  · rw [bI_ne] at h4
    unfold oGoM
    rw [if_pos h4]
    obtain ⟨j, hj, rfl⟩ := isMk_of h4
    rw [nI_clamp (by omega)]
    have hrow := RX.mk hR hj
    cases hb : smk S j with
    | none =>
      rw [hb] at hrow
      refine ev_aload_nE (pc' := 10) dX1_goToMark_9 rfl rfl (by first | exact rf_some _ | exact rfl) ?_
      refine gX1_marks rfl (pc' := 13) dX1_goToMark_10 rfl ?_
      refine ev_iload_n (pc' := 14) dX1_goToMark_13 rfl rfl ?_
      refine x_marks_get (by omega) hrow (pc' := 15) dX1_goToMark_14 rfl ?_
      show Ev g mdX1_goToMark 15 _ [va_rf none] _ _
      refine ev_astore_nE (by first | exact rf_some _ | exact rfl) (pc' := 16) (lv' := [_, _, _]) dX1_goToMark_15 rfl (by decide) (by intro w hw; first | exact Or.inl rfl | (right; have hw := Option.some.inj (Option.some.inj hw); subst hw; first | rfl | exact rf_cat _) | cases hw) rfl ?_
      refine ev_aload_nE (pc' := 17) dX1_goToMark_16 rfl rfl (by first | exact rf_some _ | exact rfl) ?_
      refine ev_ifnonnullZ (pc' := 20) dX1_goToMark_17 rfl ?_
      refine ev_bipush (pc' := 22) (v := (-7)) dX1_goToMark_20 rfl (by decide) ?_
      refine ev_iret rfl dX1_goToMark_22 ?_
      exact ⟨rfl, isX.of hR⟩
    | some b =>
      rw [hb] at hrow
      have h1 := hm j hj b hb
      refine ev_aload_nE (pc' := 10) dX1_goToMark_9 rfl rfl (by first | exact rf_some _ | exact rfl) ?_
      refine gX1_marks rfl (pc' := 13) dX1_goToMark_10 rfl ?_
      refine ev_iload_n (pc' := 14) dX1_goToMark_13 rfl rfl ?_
      refine x_marks_get (by omega) hrow (pc' := 15) dX1_goToMark_14 rfl ?_
      show Ev g mdX1_goToMark 15 _ [.ref (hd b)] _ _
      refine ev_astore_nE (by first | exact rf_some _ | exact rfl) (pc' := 16) (lv' := [_, _, _]) dX1_goToMark_15 rfl (by decide) (by intro w hw; first | exact Or.inl rfl | (right; have hw := Option.some.inj (Option.some.inj hw); subst hw; first | rfl | exact rf_cat _) | cases hw) rfl ?_
      refine ev_aload_nE (pc' := 17) dX1_goToMark_16 rfl rfl (by first | exact rf_some _ | exact rfl) ?_
      refine ev_ifnonnullR (tgt := 23) dX1_goToMark_17 (by decide) ?_
      refine ev_aload_nE (pc' := 24) dX1_goToMark_23 rfl rfl (by first | exact rf_some _ | exact rfl) ?_
      refine ev_aload_nE (pc' := 25) dX1_goToMark_24 rfl rfl (by first | exact rf_some _ | exact rfl) ?_
      refine x_callV (As := [_]) coX1_makeCurrent rfl (c_makeCurrent T hR h1) rfl (by decide) (by first | exact Nat.le_of_ble_eq_true rfl | simp [Value.category, rf_cat]) dX1_goToMark_25 rfl (pc' := 28) rfl (fun v w hq => ?_)
      obtain ⟨rfl, xti', xfa', rfl, hR2⟩ := hq
      dsimp only [Option.toList, List.cons_append, List.nil_append]
      have hr2 := RX.row hR2 h1
      refine ev_aload_nE (pc' := 29) dX1_goToMark_28 rfl rfl (by first | exact rf_some _ | exact rfl) ?_
      refine gX0_number rfl hr2.1 hr2.2.2.2.1 (pc' := 32) dX1_goToMark_29 rfl ?_
      refine ev_iret rfl dX1_goToMark_32 ?_
      exact ⟨rfl, isX.of hR2⟩
  · rw [bI_eq] at h4
    refine ev_iconst (pc' := 8) (v := (-1)) dX1_goToMark_7 rfl (by decide) ?_
    refine ev_iret rfl dX1_goToMark_8 ?_
    unfold oGoM
    rw [h4]
    exact ⟨rfl, isX.of hR⟩
end X5
