/-! ===== the landed class: the edits ===== -/
section X7
variable {g : EG} {xo an ac am : Nat} {LN LT : List Nat} {xt : Nat → Nat} {xar : Nat → Option Nat} {xnt xln : Int32} {xcu : Nat} {xck : Int32} {xcp : Nat → Int32} {xcl : Int32} {xmk : Nat → Option Nat} {xtl xnu xti : Nat → Int32} {xpa xfa : Nat → Option Nat} {xep xel xde : Nat → Int32} {xtc : Nat → Nat → Int32}
variable {S : SS} {hd : Nat → Nat} {N : Nat} {Ph : Option Value → va_W → Prop}
theorem RX.clr (hR : RX S hd LN LT xt xar xnt xln xcu xck xcp xcl xmk xtl xnu xti xpa xfa xep xel xde xtc) (f : Nat → Int32) : RX (setCl S 0 f) hd LN LT xt xar xnt xln xcu xck xcp (nI 0) xmk xtl xnu xti xpa xfa xep xel xde xtc := ⟨hR.1, hR.2.1, hR.2.2.1, hR.2.2.2.1, rfl, hR.2.2.2.2.2.1, fun i hi => absurd hi (Nat.not_lt_zero i), hR.2.2.2.2.2.2.2⟩
theorem bec_cl (S : SS) (a n : Nat) (f : Nat → Int32) : bec (setCl S n f) a = setCl (bec S a) n f := rfl
theorem addN_cl (S : SS) (p n k t : Nat) (d : Bool) (s f : Nat → Int32) : addN (setCl S k f) p n d s t = setCl (addN S p n d s t) k f := rfl
theorem grw_cl (S : SS) (p n k : Nat) (d : Bool) (s f : Nat → Int32) : grw (setCl S k f) p n d s = setCl (grw S p n d s) k f := by
  unfold grw
  rw [addN_cl, bec_cl]
  rfl
theorem grw_in (S : SS) (p n : Nat) (d : Bool) (s : Nat → Int32) : sgv S ∈ sL (grw S p n d s) := List.mem_append_right _ (List.mem_singleton.mpr rfl)
theorem grw_cu (S : SS) (p n : Nat) (d : Bool) (s : Nat → Int32) : scu (grw S p n d s) = sgv S := rfl
theorem c_xinsert (I : Inv N S) (hN : N ≤ 512) (hR : RX S hd LN LT xt xar xnt xln xcu xck xcp xcl xmk xtl xnu xti xpa xfa xep xel xde xtc) (x : Int32) : Ret g mdX1_insert [.ref xo, .int x] (wX g xo an ac am LN LT xt xar xnt xln xcu xck xcp xcl xmk xtl xnu xti xpa xfa xep xel xde xtc) (fun r w => r = some (.int (oIns S x).1) ∧ isX g xo an ac am LN LT xt (oIns S x).2 w) := by
  refine Ret.of [_, _] 0 (by decide) (Nat.le_of_ble_eq_true rfl) rfl ?_
  have T := I.T
  have hr := RX.row hR I.cu
  have h40 := I.tl I.cu
  have hcl := I.cl
  have hlen := T.len
  have hgv := I.gv
  have hcp : ∀ i, i < scl S → xcp (0 + i) = scp S i := fun i hi => by rw [Nat.zero_add]; exact RX.cp hR hi
  have e3 := hR.2.2.1
  have e5 := hR.2.2.2.2.1
  subst e3; subst e5
  unfold oIns
  refine ev_aload_nE (pc' := 1) dX1_insert_0 rfl rfl (by first | exact rf_some _ | exact rfl) ?_
  refine gX1_clipLength rfl (pc' := 4) dX1_insert_1 rfl ?_
  refine ev_if_ne (tgt := 10) (pc' := 7) dX1_insert_4 (by decide) rfl (fun h4 => ?_) (fun h4 => ?_)
  · have hz : ¬ scl S = 0 := fun e => h4 (by rw [e]; rfl)
    rw [if_neg hz]
    have no : ¬ (0 ≤ x ∧ x ≤ nI (stl S (scu S))) → Ev g mdX1_insert 25 [some (.ref xo), some (.int x)] [] (wX g xo an ac am LN LT xt xar xnt xln (hd (scu S)) xck xcp (nI (scl S)) xmk xtl xnu xti xpa xfa xep xel xde xtc) (fun r w => r = some (.int (if 0 ≤ x ∧ x ≤ nI (stl S (scu S)) then (if 40 < stl S (scu S) + scl S then ((-4 : Int32), S) else if (sL S).length = 24 then ((-3), S) else (nI (sgv S), grw (setCl S 0 (scp S)) x.toNatClampNeg (scl S) false (scp S))) else ((-1), S)).1) ∧ isX g xo an ac am LN LT xt (if 0 ≤ x ∧ x ≤ nI (stl S (scu S)) then (if 40 < stl S (scu S) + scl S then ((-4 : Int32), S) else if (sL S).length = 24 then ((-3), S) else (nI (sgv S), grw (setCl S 0 (scp S)) x.toNatClampNeg (scl S) false (scp S))) else ((-1), S)).2 w) := by
      intro h
      rw [if_neg h]
      refine ev_iconst (pc' := 26) (v := (-1)) dX1_insert_25 rfl (by decide) ?_
      refine ev_iret rfl dX1_insert_26 ?_
      exact ⟨rfl, isX.of hR⟩
    refine ev_iload_n (pc' := 11) dX1_insert_10 rfl rfl ?_
    refine ev_if_lt (tgt := 25) (pc' := 14) dX1_insert_11 (by decide) rfl (fun h11 => ?_) (fun h11 => ?_)
    · exact no (fun q => Int32.not_lt.mpr q.1 h11)
    · refine ev_iload_n (pc' := 15) dX1_insert_14 rfl rfl ?_
      refine ev_aload_nE (pc' := 16) dX1_insert_15 rfl rfl (by first | exact rf_some _ | exact rfl) ?_
      refine gX1_currentNode rfl (pc' := 19) dX1_insert_16 rfl ?_
      refine gX0_textLength rfl hr.1 hr.2.2.1 (pc' := 22) dX1_insert_19 rfl ?_
      refine ev_icmp_le (tgt := 27) (pc' := 25) dX1_insert_22 (by decide) rfl (fun h22 => ?_) (fun h22 => ?_)
      · have hok : 0 ≤ x ∧ x ≤ nI (stl S (scu S)) := ⟨Int32.not_lt.mp h11, h22⟩
        rw [if_pos hok]
        obtain ⟨p, hp, rfl⟩ := nI_of h11
        have hps : p ≤ stl S (scu S) := (nI_leI hp (by omega)).mp h22
        refine ev_aload_nE (pc' := 28) dX1_insert_27 rfl rfl (by first | exact rf_some _ | exact rfl) ?_
        refine ev_aload_nE (pc' := 29) dX1_insert_28 rfl rfl (by first | exact rf_some _ | exact rfl) ?_
        refine gX1_clipLength rfl (pc' := 32) dX1_insert_29 rfl ?_
        refine x_callV (As := [_]) coX1_hasRoomFor rfl (c_hasRoomFor hR I.cu h40 hcl) rfl (by decide) (by first | exact Nat.le_of_ble_eq_true rfl | simp [Value.category, rf_cat]) dX1_insert_32 rfl (pc' := 35) rfl (fun v w hq => ?_)
        obtain ⟨rfl, rfl⟩ := hq
        dsimp only [Option.toList, List.cons_append, List.nil_append]
        refine ev_if_ne (tgt := 41) (pc' := 38) dX1_insert_35 (by decide) rfl (fun h35 => ?_) (fun h35 => ?_)
        · rw [bI_ne, decide_eq_true_eq] at h35
          rw [if_neg (show ¬ 40 < stl S (scu S) + scl S by omega)]
          refine ev_aload_nE (pc' := 42) dX1_insert_41 rfl rfl (by first | exact rf_some _ | exact rfl) ?_
          refine x_callV (As := []) coX1_isTreeFull rfl (c_isTreeFull T hR) rfl (by decide) (by first | exact Nat.le_of_ble_eq_true rfl | simp [Value.category, rf_cat]) dX1_insert_42 rfl (pc' := 45) rfl (fun v w hq => ?_)
          obtain ⟨rfl, rfl⟩ := hq
          dsimp only [Option.toList, List.cons_append, List.nil_append]
          refine ev_if_eq (tgt := 51) (pc' := 48) dX1_insert_45 (by decide) rfl (fun h45 => ?_) (fun h45 => ?_)
          · rw [bI_eq, decide_eq_false_iff_not] at h45
            rw [if_neg h45, nI_clamp hp]
            refine ev_aload_nE (pc' := 52) dX1_insert_51 rfl rfl (by first | exact rf_some _ | exact rfl) ?_
            refine ev_iload_n (pc' := 53) dX1_insert_52 rfl rfl ?_
            refine ev_aload_nE (pc' := 54) dX1_insert_53 rfl rfl (by first | exact rf_some _ | exact rfl) ?_
            refine gX1_clip rfl (pc' := 57) dX1_insert_54 rfl ?_
            refine ev_iconst (pc' := 58) (v := nI 0) dX1_insert_57 rfl (by decide) ?_
            refine ev_aload_nE (pc' := 59) dX1_insert_58 rfl rfl (by first | exact rf_some _ | exact rfl) ?_
            refine gX1_clipLength rfl (pc' := 62) dX1_insert_59 rfl ?_
            refine x_callV (As := [_, _, _, _]) coX1_addInsertion rfl (c_addInsertion (s := scp S) (n0 := 6) (fr := 0) (f := xcp) I (by omega) (by omega) hR (by omega) hcl hps h35 (by omega) (by omega) hcp (fun i hi => by rw [hcp i hi]; exact I.cp hi) (fun q _ _ _ _ _ _ _ _ _ _ _ _ => ⟨2, rfl⟩)) rfl (by decide) (by first | exact Nat.le_of_ble_eq_true rfl | simp [Value.category, rf_cat]) dX1_insert_62 rfl (pc' := 65) rfl (fun v w hq => ?_)
            obtain ⟨rfl, hd2, ar2, nt2, ln2, cu2, ck2, cp2, cl2, mk2, tl2, nu2, ti2, pa2, fa2, ep2, el2, de2, tc2, rfl, hR2⟩ := hq
            dsimp only [Option.toList, List.cons_append, List.nil_append]
            have hr2 := RX.row hR2 (grw_in S p (scl S) false (scp S))
            have e3' := hR2.2.2.1
            rw [grw_cu] at e3'
            subst e3'
            refine ev_aload_nE (pc' := 66) dX1_insert_65 rfl rfl (by first | exact rf_some _ | exact rfl) ?_
            refine ev_iconst (pc' := 67) (v := nI 0) dX1_insert_66 rfl (by decide) ?_
            refine pX1_clipLength rfl (pc' := 70) dX1_insert_67 rfl ?_
            refine ev_aload_nE (pc' := 71) dX1_insert_70 rfl rfl (by first | exact rf_some _ | exact rfl) ?_
            refine gX1_currentNode rfl (pc' := 74) dX1_insert_71 rfl ?_
            refine gX0_number rfl hr2.1 hr2.2.2.2.1 (pc' := 77) dX1_insert_74 rfl ?_
            refine ev_iret rfl dX1_insert_77 ?_
            refine ⟨rfl, ?_⟩
            rw [grw_cl]
            exact isX.of (RX.clr hR2 (scp S))
          · rw [bI_ne, decide_eq_true_eq] at h45
            rw [if_pos h45]
            refine ev_bipush (pc' := 50) (v := (-3)) dX1_insert_48 rfl (by decide) ?_
            refine ev_iret rfl dX1_insert_50 ?_
            exact ⟨rfl, isX.of hR⟩
        · rw [bI_eq, decide_eq_false_iff_not] at h35
          rw [if_pos (show 40 < stl S (scu S) + scl S by omega)]
          refine ev_bipush (pc' := 40) (v := (-4)) dX1_insert_38 rfl (by decide) ?_
          refine ev_iret rfl dX1_insert_40 ?_
          exact ⟨rfl, isX.of hR⟩
      · exact no (fun q => h22 q.2)
  · rw [nIz (by omega)] at h4
    rw [if_pos h4]
    refine ev_bipush (pc' := 9) (v := (-7)) dX1_insert_7 rfl (by decide) ?_
    refine ev_iret rfl dX1_insert_9 ?_
    exact ⟨rfl, isX.of hR⟩
theorem c_xdelete (I : Inv N S) (hN : N ≤ 512) (hR : RX S hd LN LT xt xar xnt xln xcu xck xcp xcl xmk xtl xnu xti xpa xfa xep xel xde xtc) (x y : Int32) : Ret g mdX1_delete [.ref xo, .int x, .int y] (wX g xo an ac am LN LT xt xar xnt xln xcu xck xcp xcl xmk xtl xnu xti xpa xfa xep xel xde xtc) (fun r w => r = some (.int (oDel S x y).1) ∧ isX g xo an ac am LN LT xt (oDel S x y).2 w) := by
  refine Ret.of [_, _, _] 0 (by decide) (Nat.le_of_ble_eq_true rfl) rfl ?_
  have T := I.T
  have hr := RX.row hR I.cu
  have h40 := I.tl I.cu
  have hlen := T.len
  have hgv := I.gv
  have e3 := hR.2.2.1
  subst e3
  have no : ¬ (0 ≤ x ∧ (1 ≤ y ∧ y ≤ 6) ∧ x ≤ nI (stl S (scu S)) - y) → oDel S x y = ((-1), S) := fun h => by unfold oDel; rw [if_neg h]
  have n15 : ¬ (0 ≤ x ∧ (1 ≤ y ∧ y ≤ 6) ∧ x ≤ nI (stl S (scu S)) - y) → Ev g mdX1_delete 15 [some (.ref xo), some (.int x), some (.int y)] [] (wX g xo an ac am LN LT xt xar xnt xln (hd (scu S)) xck xcp xcl xmk xtl xnu xti xpa xfa xep xel xde xtc) (fun r w => r = some (.int (oDel S x y).1) ∧ isX g xo an ac am LN LT xt (oDel S x y).2 w) := by
    intro h
    rw [no h]
    refine ev_iconst (pc' := 16) (v := (-1)) dX1_delete_15 rfl (by decide) ?_
    refine ev_iret rfl dX1_delete_16 ?_
    exact ⟨rfl, isX.of hR⟩
  refine ev_iload_n (pc' := 1) dX1_delete_0 rfl rfl ?_
  refine ev_if_lt (tgt := 15) (pc' := 4) dX1_delete_1 (by decide) rfl (fun h1 => ?_) (fun h1 => ?_)
  · exact n15 (fun q => Int32.not_lt.mpr q.1 h1)
  · refine ev_iload_n (pc' := 5) dX1_delete_4 rfl rfl ?_
    refine ev_iconst (pc' := 6) (v := nI 1) dX1_delete_5 rfl (by decide) ?_
    refine ev_icmp_lt (tgt := 15) (pc' := 9) dX1_delete_6 (by decide) rfl (fun h6 => ?_) (fun h6 => ?_)
    · exact n15 (fun q => Int32.not_lt.mpr q.2.1.1 h6)
    · refine ev_iload_n (pc' := 10) dX1_delete_9 rfl rfl ?_
      refine ev_bipush (pc' := 12) (v := nI 6) dX1_delete_10 rfl (by decide) ?_
      refine ev_icmp_le (tgt := 17) (pc' := 15) dX1_delete_12 (by decide) rfl (fun h12 => ?_) (fun h12 => ?_)
      · have hy : 1 ≤ y ∧ y ≤ 6 := ⟨Int32.not_lt.mp h6, h12⟩
        refine ev_iload_n (pc' := 18) dX1_delete_17 rfl rfl ?_
        refine ev_aload_nE (pc' := 19) dX1_delete_18 rfl rfl (by first | exact rf_some _ | exact rfl) ?_
        refine gX1_currentNode rfl (pc' := 22) dX1_delete_19 rfl ?_
        refine gX0_textLength rfl hr.1 hr.2.2.1 (pc' := 25) dX1_delete_22 rfl ?_
        refine ev_iload_n (pc' := 26) dX1_delete_25 rfl rfl ?_
        refine ev_isub (pc' := 27) dX1_delete_26 rfl ?_
        refine ev_icmp_le (tgt := 32) (pc' := 30) dX1_delete_27 (by decide) rfl (fun h27 => ?_) (fun h27 => ?_)
        · have hok : 0 ≤ x ∧ (1 ≤ y ∧ y ≤ 6) ∧ x ≤ nI (stl S (scu S)) - y := ⟨Int32.not_lt.mp h1, hy, h27⟩
          obtain ⟨n, hn6, rfl⟩ := nI_of2 (M := 6) (n := 6) (by decide) (Int32.not_lt.mpr (Int32.le_trans (by decide) hy.1)) hy.2
          have hn1 : 1 ≤ n := by
            have := hy.1
            rw [show (1 : Int32) = nI 1 from rfl, nI_leI (by omega) (by omega)] at this
            exact this
          obtain ⟨p, hp, rfl⟩ := nI_of h1
          have hpn : p + n ≤ stl S (scu S) := by
            have e2 : (nI (stl S (scu S)) - nI n).toInt = (stl S (scu S) : Int) - n := pk_sub_toInt (by omega) (by omega)
            rw [Int32.le_iff_toInt_le, e2, nI_toInt hp] at h27
            omega
          unfold oDel
          rw [if_pos hok]
          refine ev_aload_nE (pc' := 33) dX1_delete_32 rfl rfl (by first | exact rf_some _ | exact rfl) ?_
          refine x_callV (As := []) coX1_isTreeFull rfl (c_isTreeFull T hR) rfl (by decide) (by first | exact Nat.le_of_ble_eq_true rfl | simp [Value.category, rf_cat]) dX1_delete_33 rfl (pc' := 36) rfl (fun v w hq => ?_)
          obtain ⟨rfl, rfl⟩ := hq
          dsimp only [Option.toList, List.cons_append, List.nil_append]
          refine ev_if_eq (tgt := 42) (pc' := 39) dX1_delete_36 (by decide) rfl (fun h36 => ?_) (fun h36 => ?_)
          · rw [bI_eq, decide_eq_false_iff_not] at h36
            rw [if_neg h36, nI_clamp hp, nI_clamp (by omega)]
            refine ev_aload_nE (pc' := 43) dX1_delete_42 rfl rfl (by first | exact rf_some _ | exact rfl) ?_
            refine ev_iload_n (pc' := 44) dX1_delete_43 rfl rfl ?_
            refine ev_iload_n (pc' := 45) dX1_delete_44 rfl rfl ?_
            refine x_callV (As := [_, _]) coX1_addDeletion rfl (c_addDeletion (s := fun i => stx S (scu S) (p + i)) I (by omega) (by omega) hR hn1 hn6 hpn) rfl (by decide) (by first | exact Nat.le_of_ble_eq_true rfl | simp [Value.category, rf_cat]) dX1_delete_45 rfl (pc' := 48) rfl (fun v w hq => ?_)
            obtain ⟨rfl, hd2, ar2, nt2, ln2, cu2, ck2, cp2, cl2, mk2, tl2, nu2, ti2, pa2, fa2, ep2, el2, de2, tc2, rfl, hR2⟩ := hq
            dsimp only [Option.toList, List.cons_append, List.nil_append]
            have hr2 := RX.row hR2 (grw_in S p n true (fun i => stx S (scu S) (p + i)))
            have e3' := hR2.2.2.1
            rw [grw_cu] at e3'
            subst e3'
            refine ev_aload_nE (pc' := 49) dX1_delete_48 rfl rfl (by first | exact rf_some _ | exact rfl) ?_
            refine gX1_currentNode rfl (pc' := 52) dX1_delete_49 rfl ?_
            refine gX0_number rfl hr2.1 hr2.2.2.2.1 (pc' := 55) dX1_delete_52 rfl ?_
            refine ev_iret rfl dX1_delete_55 ?_
            exact ⟨rfl, isX.of hR2⟩
          · rw [bI_ne, decide_eq_true_eq] at h36
            rw [if_pos h36]
            refine ev_bipush (pc' := 41) (v := (-3)) dX1_delete_39 rfl (by decide) ?_
            refine ev_iret rfl dX1_delete_41 ?_
            exact ⟨rfl, isX.of hR⟩
        · rw [no (fun q => h27 q.2.2)]
          refine ev_iconst (pc' := 31) (v := (-1)) dX1_delete_30 rfl (by decide) ?_
          refine ev_iret rfl dX1_delete_31 ?_
          exact ⟨rfl, isX.of hR⟩
      · exact n15 (fun q => h12 q.2.1.2)
/-- where a string or a gap stands after one later edit, or CONFLICT -/
def shI (S : SS) (e c a : Nat) : Int32 := if fre (sde S e) (sde S c) (sle S e) a (spo S c) (sle S c) = true then nI (shn (sde S c) (ahd (sde S e) (sde S c) a (spo S c) (sle S c)) a (sle S c)) else (-5)
theorem c_shiftedString (hR : RX S hd LN LT xt xar xnt xln xcu xck xcp xcl xmk xtl xnu xti xpa xfa xep xel xde xtc) {e c a : Nat} (hc : c ∈ sL S) (hE : sde S e = false) (ha : a ≤ 40) (hq : spo S c ≤ 40) (he1 : 1 ≤ sle S e) (he6 : sle S e ≤ 6) (hc1 : 1 ≤ sle S c) (hc6 : sle S c ≤ 6) : Ret g mdX1_shiftedString [.int (nI a), .int (nI (sle S e)), .ref (hd c)] (wX g xo an ac am LN LT xt xar xnt xln xcu xck xcp xcl xmk xtl xnu xti xpa xfa xep xel xde xtc) (fun r w => r = some (.int (shI S e c a)) ∧ w = (wX g xo an ac am LN LT xt xar xnt xln xcu xck xcp xcl xmk xtl xnu xti xpa xfa xep xel xde xtc)) := by
  refine Ret.of [_, _, _, _] 1 (by decide) (Nat.le_of_ble_eq_true rfl) rfl ?_
  have hr := RX.row hR hc
  have hep := hr.2.2.2.2.2.2.2.1
  have hel := hr.2.2.2.2.2.2.2.2.1
  have hde := hr.2.2.2.2.2.2.2.2.2.1
  unfold shI
  rw [hE]
  refine ev_aload_nE (pc' := 1) dX1_shiftedString_0 rfl rfl (by first | exact rf_some _ | exact rfl) ?_
  refine gX0_editPosition rfl hr.1 hep (pc' := 4) dX1_shiftedString_1 rfl ?_
  refine ev_iload_n (pc' := 5) dX1_shiftedString_4 rfl rfl ?_
  refine ev_iload_n (pc' := 6) dX1_shiftedString_5 rfl rfl ?_
  refine ev_iaddN  (pc' := 7) dX1_shiftedString_6 rfl ?_
  refine ev_icmp_lt (tgt := 12) (pc' := 10) dX1_shiftedString_7 (by decide) rfl (fun h7 => ?_) (fun h7 => ?_)
  · rw [nI_ltI (by omega) (by omega)] at h7
    refine ev_aload_nE (pc' := 13) dX1_shiftedString_12 rfl rfl (by first | exact rf_some _ | exact rfl) ?_
    refine gX0_deletion rfl hr.1 hde (pc' := 16) dX1_shiftedString_13 rfl ?_
    refine ev_if_eq (tgt := 54) (pc' := 19) dX1_shiftedString_16 (by decide) rfl (fun h16 => ?_) (fun h16 => ?_)
    · rw [bI_eq] at h16
      rw [h16]
      refine ev_aload_nE (pc' := 55) dX1_shiftedString_54 rfl rfl (by first | exact rf_some _ | exact rfl) ?_
      refine gX0_editPosition rfl hr.1 hep (pc' := 58) dX1_shiftedString_55 rfl ?_
      refine ev_iload_n (pc' := 59) dX1_shiftedString_58 rfl rfl ?_
      refine ev_icmp_gt (tgt := 71) (pc' := 62) dX1_shiftedString_59 (by decide) rfl (fun h59 => ?_) (fun h59 => ?_)
      · rw [nI_ltI (by omega) (by omega)] at h59
        refine ev_bipush (pc' := 73) (v := (-5)) dX1_shiftedString_71 rfl (by decide) ?_
        refine ev_iret rfl dX1_shiftedString_73 ?_
        refine ⟨?_, rfl⟩
        rw [if_neg (by simp [fre, ahd]; omega)]
      · rw [nI_ltI (by omega) (by omega)] at h59
        refine ev_iload_n (pc' := 63) dX1_shiftedString_62 rfl rfl ?_
        refine ev_aload_nE (pc' := 64) dX1_shiftedString_63 rfl rfl (by first | exact rf_some _ | exact rfl) ?_
        refine gX0_editLength rfl hr.1 hel (pc' := 67) dX1_shiftedString_64 rfl ?_
        refine ev_iaddN  (pc' := 68) dX1_shiftedString_67 rfl ?_
        refine ev_goto (pc' := 73) dX1_shiftedString_68 (by decide) ?_
        refine ev_iret rfl dX1_shiftedString_73 ?_
        refine ⟨?_, rfl⟩
        have ea : ahd false false a (spo S c) (sle S c) = true := by simp [ahd]; omega
        rw [if_pos (by unfold fre; rw [ea]; rfl), ea]; rfl
    · rw [bI_ne] at h16
      rw [h16]
      refine ev_aload_nE (pc' := 20) dX1_shiftedString_19 rfl rfl (by first | exact rf_some _ | exact rfl) ?_
      refine gX0_editPosition rfl hr.1 hep (pc' := 23) dX1_shiftedString_20 rfl ?_
      refine ev_aload_nE (pc' := 24) dX1_shiftedString_23 rfl rfl (by first | exact rf_some _ | exact rfl) ?_
      refine gX0_editLength rfl hr.1 hel (pc' := 27) dX1_shiftedString_24 rfl ?_
      refine ev_iaddN  (pc' := 28) dX1_shiftedString_27 rfl ?_
      refine ev_iload_n (pc' := 29) dX1_shiftedString_28 rfl rfl ?_
      refine ev_icmp_gt (tgt := 36) (pc' := 32) dX1_shiftedString_29 (by decide) rfl (fun h29 => ?_) (fun h29 => ?_)
      · rw [nI_ltI (by omega) (by omega)] at h29
        refine ev_iconst (pc' := 37) (v := nI 0) dX1_shiftedString_36 rfl (by decide) ?_
        refine ev_istore_n (pc' := 38) (lv' := [_, _, _, _]) dX1_shiftedString_37 rfl (by decide) (by intro w hw; first | exact Or.inl rfl | (right; have hw := Option.some.inj (Option.some.inj hw); subst hw; first | rfl | exact rf_cat _) | cases hw) rfl ?_
        refine ev_iload_n (pc' := 39) dX1_shiftedString_38 rfl rfl ?_
        refine ev_if_eq (tgt := 51) (pc' := 42) dX1_shiftedString_39 (by decide) rfl (fun h39 => ?_) (fun h39 => ?_)
        · refine ev_bipush (pc' := 53) (v := (-5)) dX1_shiftedString_51 rfl (by decide) ?_
          refine ev_iret rfl dX1_shiftedString_53 ?_
          refine ⟨?_, rfl⟩
          rw [if_neg (by simp [fre, ahd]; omega)]
        · exact absurd rfl h39
      · rw [nI_ltI (by omega) (by omega)] at h29
        refine ev_iconst (pc' := 33) (v := nI 1) dX1_shiftedString_32 rfl (by decide) ?_
        refine ev_goto (pc' := 37) dX1_shiftedString_33 (by decide) ?_
        refine ev_istore_n (pc' := 38) (lv' := [_, _, _, _]) dX1_shiftedString_37 rfl (by decide) (by intro w hw; first | exact Or.inl rfl | (right; have hw := Option.some.inj (Option.some.inj hw); subst hw; first | rfl | exact rf_cat _) | cases hw) rfl ?_
        refine ev_iload_n (pc' := 39) dX1_shiftedString_38 rfl rfl ?_
        refine ev_if_eq (tgt := 51) (pc' := 42) dX1_shiftedString_39 (by decide) rfl (fun h39 => ?_) (fun h39 => ?_)
        · exact absurd h39 (by decide)
        · refine ev_iload_n (pc' := 43) dX1_shiftedString_42 rfl rfl ?_
          refine ev_aload_nE (pc' := 44) dX1_shiftedString_43 rfl rfl (by first | exact rf_some _ | exact rfl) ?_
          refine gX0_editLength rfl hr.1 hel (pc' := 47) dX1_shiftedString_44 rfl ?_
          refine ev_isubN (by omega) (pc' := 48) dX1_shiftedString_47 rfl ?_
          refine ev_goto (pc' := 53) dX1_shiftedString_48 (by decide) ?_
          refine ev_iret rfl dX1_shiftedString_53 ?_
          refine ⟨?_, rfl⟩
          have ea : ahd false true a (spo S c) (sle S c) = true := by simp [ahd]; omega
          rw [if_pos (by unfold fre; rw [ea]; rfl), ea]; rfl
  · rw [nI_ltI (by omega) (by omega)] at h7
    refine ev_iload_n (pc' := 11) dX1_shiftedString_10 rfl rfl ?_
    refine ev_iret rfl dX1_shiftedString_11 ?_
    refine ⟨?_, rfl⟩
    cases hC : sde S c with
    | false =>
      have ea : ahd false false a (spo S c) (sle S c) = false := by simp [ahd]; omega
      rw [if_pos (by unfold fre; rw [ea]; simp; omega), ea]; rfl
    | true =>
      have ea : ahd false true a (spo S c) (sle S c) = false := by simp [ahd]; omega
      rw [if_pos (by unfold fre; rw [ea]; simp; omega), ea]; rfl
theorem c_shiftedGap (hR : RX S hd LN LT xt xar xnt xln xcu xck xcp xcl xmk xtl xnu xti xpa xfa xep xel xde xtc) {e c a : Nat} (hc : c ∈ sL S) (hE : sde S e = true) (ha : a ≤ 40) (hq : spo S c ≤ 40) (hc1 : 1 ≤ sle S c) (hc6 : sle S c ≤ 6) : Ret g mdX1_shiftedGap [.int (nI a), .ref (hd c)] (wX g xo an ac am LN LT xt xar xnt xln xcu xck xcp xcl xmk xtl xnu xti xpa xfa xep xel xde xtc) (fun r w => r = some (.int (shI S e c a)) ∧ w = (wX g xo an ac am LN LT xt xar xnt xln xcu xck xcp xcl xmk xtl xnu xti xpa xfa xep xel xde xtc)) := by
  refine Ret.of [_, _, _] 1 (by decide) (Nat.le_of_ble_eq_true rfl) rfl ?_
  have hr := RX.row hR hc
  have hep := hr.2.2.2.2.2.2.2.1
  have hel := hr.2.2.2.2.2.2.2.2.1
  have hde := hr.2.2.2.2.2.2.2.2.2.1
  unfold shI
  rw [hE]
  refine ev_aload_nE (pc' := 1) dX1_shiftedGap_0 rfl rfl (by first | exact rf_some _ | exact rfl) ?_
  refine gX0_editPosition rfl hr.1 hep (pc' := 4) dX1_shiftedGap_1 rfl ?_
  refine ev_iload_n (pc' := 5) dX1_shiftedGap_4 rfl rfl ?_
  refine ev_icmp_lt (tgt := 10) (pc' := 8) dX1_shiftedGap_5 (by decide) rfl (fun h5 => ?_) (fun h5 => ?_)
  · rw [nI_ltI (by omega) (by omega)] at h5
    refine ev_aload_nE (pc' := 11) dX1_shiftedGap_10 rfl rfl (by first | exact rf_some _ | exact rfl) ?_
    refine gX0_deletion rfl hr.1 hde (pc' := 14) dX1_shiftedGap_11 rfl ?_
    refine ev_if_eq (tgt := 52) (pc' := 17) dX1_shiftedGap_14 (by decide) rfl (fun h14 => ?_) (fun h14 => ?_)
    · rw [bI_eq] at h14
      rw [h14]
      refine ev_iload_n (pc' := 53) dX1_shiftedGap_52 rfl rfl ?_
      refine ev_aload_nE (pc' := 54) dX1_shiftedGap_53 rfl rfl (by first | exact rf_some _ | exact rfl) ?_
      refine gX0_editLength rfl hr.1 hel (pc' := 57) dX1_shiftedGap_54 rfl ?_
      refine ev_iaddN  (pc' := 58) dX1_shiftedGap_57 rfl ?_
      refine ev_iret rfl dX1_shiftedGap_58 ?_
      refine ⟨?_, rfl⟩
      have ea : ahd true false a (spo S c) (sle S c) = true := by simp [ahd]; omega
      rw [if_pos (by unfold fre; rw [ea]; rfl), ea]; rfl
    · rw [bI_ne] at h14
      rw [h14]
      refine ev_aload_nE (pc' := 18) dX1_shiftedGap_17 rfl rfl (by first | exact rf_some _ | exact rfl) ?_
      refine gX0_editPosition rfl hr.1 hep (pc' := 21) dX1_shiftedGap_18 rfl ?_
      refine ev_aload_nE (pc' := 22) dX1_shiftedGap_21 rfl rfl (by first | exact rf_some _ | exact rfl) ?_
      refine gX0_editLength rfl hr.1 hel (pc' := 25) dX1_shiftedGap_22 rfl ?_
      refine ev_iaddN  (pc' := 26) dX1_shiftedGap_25 rfl ?_
      refine ev_iload_n (pc' := 27) dX1_shiftedGap_26 rfl rfl ?_
      refine ev_icmp_gt (tgt := 34) (pc' := 30) dX1_shiftedGap_27 (by decide) rfl (fun h27 => ?_) (fun h27 => ?_)
      · rw [nI_ltI (by omega) (by omega)] at h27
        refine ev_iconst (pc' := 35) (v := nI 0) dX1_shiftedGap_34 rfl (by decide) ?_
        refine ev_istore_n (pc' := 36) (lv' := [_, _, _]) dX1_shiftedGap_35 rfl (by decide) (by intro w hw; first | exact Or.inl rfl | (right; have hw := Option.some.inj (Option.some.inj hw); subst hw; first | rfl | exact rf_cat _) | cases hw) rfl ?_
        refine ev_iload_n (pc' := 37) dX1_shiftedGap_36 rfl rfl ?_
        refine ev_if_eq (tgt := 49) (pc' := 40) dX1_shiftedGap_37 (by decide) rfl (fun h37 => ?_) (fun h37 => ?_)
        · refine ev_bipush (pc' := 51) (v := (-5)) dX1_shiftedGap_49 rfl (by decide) ?_
          refine ev_iret rfl dX1_shiftedGap_51 ?_
          refine ⟨?_, rfl⟩
          rw [if_neg (by simp [fre, ahd]; omega)]
        · exact absurd rfl h37
      · rw [nI_ltI (by omega) (by omega)] at h27
        refine ev_iconst (pc' := 31) (v := nI 1) dX1_shiftedGap_30 rfl (by decide) ?_
        refine ev_goto (pc' := 35) dX1_shiftedGap_31 (by decide) ?_
        refine ev_istore_n (pc' := 36) (lv' := [_, _, _]) dX1_shiftedGap_35 rfl (by decide) (by intro w hw; first | exact Or.inl rfl | (right; have hw := Option.some.inj (Option.some.inj hw); subst hw; first | rfl | exact rf_cat _) | cases hw) rfl ?_
        refine ev_iload_n (pc' := 37) dX1_shiftedGap_36 rfl rfl ?_
        refine ev_if_eq (tgt := 49) (pc' := 40) dX1_shiftedGap_37 (by decide) rfl (fun h37 => ?_) (fun h37 => ?_)
        · exact absurd h37 (by decide)
        · refine ev_iload_n (pc' := 41) dX1_shiftedGap_40 rfl rfl ?_
          refine ev_aload_nE (pc' := 42) dX1_shiftedGap_41 rfl rfl (by first | exact rf_some _ | exact rfl) ?_
          refine gX0_editLength rfl hr.1 hel (pc' := 45) dX1_shiftedGap_42 rfl ?_
          refine ev_isubN (by omega) (pc' := 46) dX1_shiftedGap_45 rfl ?_
          refine ev_goto (pc' := 51) dX1_shiftedGap_46 (by decide) ?_
          refine ev_iret rfl dX1_shiftedGap_51 ?_
          refine ⟨?_, rfl⟩
          have ea : ahd true true a (spo S c) (sle S c) = true := by simp [ahd]; omega
          rw [if_pos (by unfold fre; rw [ea]; rfl), ea]; rfl
  · rw [nI_ltI (by omega) (by omega)] at h5
    refine ev_iload_n (pc' := 9) dX1_shiftedGap_8 rfl rfl ?_
    refine ev_iret rfl dX1_shiftedGap_9 ?_
    refine ⟨?_, rfl⟩
    cases hC : sde S c with
    | false =>
      have ea : ahd true false a (spo S c) (sle S c) = false := by simp [ahd]; omega
      rw [if_pos (by unfold fre; rw [ea]; simp), ea]; rfl
    | true =>
      have ea : ahd true true a (spo S c) (sle S c) = false := by simp [ahd]; omega
      rw [if_pos (by unfold fre; rw [ea]; simp; omega), ea]; rfl
theorem c_shifted (hR : RX S hd LN LT xt xar xnt xln xcu xck xcp xcl xmk xtl xnu xti xpa xfa xep xel xde xtc) {e c a : Nat} (he : e ∈ sL S) (hc : c ∈ sL S) (ha : a ≤ 40) (hq : spo S c ≤ 40) (he1 : 1 ≤ sle S e) (he6 : sle S e ≤ 6) (hc1 : 1 ≤ sle S c) (hc6 : sle S c ≤ 6) : Ret g mdX1_shifted [.ref (hd e), .int (nI a), .ref (hd c)] (wX g xo an ac am LN LT xt xar xnt xln xcu xck xcp xcl xmk xtl xnu xti xpa xfa xep xel xde xtc) (fun r w => r = some (.int (shI S e c a)) ∧ w = (wX g xo an ac am LN LT xt xar xnt xln xcu xck xcp xcl xmk xtl xnu xti xpa xfa xep xel xde xtc)) := by
  refine Ret.of [_, _, _] 0 (by decide) (Nat.le_of_ble_eq_true rfl) rfl ?_
  have hr := RX.row hR he
  refine ev_aload_nE (pc' := 1) dX1_shifted_0 rfl rfl (by first | exact rf_some _ | exact rfl) ?_
  refine gX0_deletion rfl hr.1 hr.2.2.2.2.2.2.2.2.2.1 (pc' := 4) dX1_shifted_1 rfl ?_
  refine ev_if_eq (tgt := 15) (pc' := 7) dX1_shifted_4 (by decide) rfl (fun h4 => ?_) (fun h4 => ?_)
  · rw [bI_eq] at h4
    refine ev_iload_n (pc' := 16) dX1_shifted_15 rfl rfl ?_
    refine ev_aload_nE (pc' := 17) dX1_shifted_16 rfl rfl (by first | exact rf_some _ | exact rfl) ?_
    refine gX0_editLength rfl hr.1 hr.2.2.2.2.2.2.2.2.1 (pc' := 20) dX1_shifted_17 rfl ?_
    refine ev_aload_nE (pc' := 21) dX1_shifted_20 rfl rfl (by first | exact rf_some _ | exact rfl) ?_
    refine ev_callS (As := [_, _, _]) coX1_shiftedString (c_shiftedString hR hc h4 ha hq he1 he6 hc1 hc6) rfl (by decide) (by first | exact Nat.le_of_ble_eq_true rfl | simp [Value.category, rf_cat]) dX1_shifted_21 rfl (pc' := 24) rfl (fun v w hq => ?_)
    obtain ⟨rfl, rfl⟩ := hq
    dsimp only [Option.toList, List.cons_append, List.nil_append]
    refine ev_iret rfl dX1_shifted_24 ?_
    exact ⟨rfl, rfl⟩
  · rw [bI_ne] at h4
    refine ev_iload_n (pc' := 8) dX1_shifted_7 rfl rfl ?_
    refine ev_aload_nE (pc' := 9) dX1_shifted_8 rfl rfl (by first | exact rf_some _ | exact rfl) ?_
    refine ev_callS (As := [_, _]) coX1_shiftedGap (c_shiftedGap hR hc h4 ha hq hc1 hc6) rfl (by decide) (by first | exact Nat.le_of_ble_eq_true rfl | simp [Value.category, rf_cat]) dX1_shifted_9 rfl (pc' := 12) rfl (fun v w hq => ?_)
    obtain ⟨rfl, rfl⟩ := hq
    dsimp only [Option.toList, List.cons_append, List.nil_append]
    refine ev_goto (pc' := 24) dX1_shifted_12 (by decide) ?_
    refine ev_iret rfl dX1_shifted_24 ?_
    exact ⟨rfl, rfl⟩
end X7
