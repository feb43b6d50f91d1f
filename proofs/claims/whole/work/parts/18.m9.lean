/-! ===== the reference's methods: selective undo, whole ===== -/
section M13
variable {g : EG} {mo : Nat} {mr : Nat → Nat} {mnd mgv mcu mck mcl msh : Int32} {mhh : Int64} {mnu mpa mfa mti mpo mle mde msr mtl mtx mcp mmk mns : Nat → Int32}
variable {S : SS} {N : Nat} {Ph : Option Value → va_W → Prop}
theorem sh_loop (I : Inv N S) (hR : RM S mnd mgv mcu mck mcl msh mhh mnu mpa mfa mti mpo mle mde msr mtl mtx mcp mmk mns) {e : Nat} (he : e ∈ sL S) (hn : 1 ≤ sle S e) {K4 : Int32} : ∀ (m d a x : Nat), d + 1 + m = dep S (scu S) + 1 → (dwn S (scu S))[d]? = some x → shG S e x a → Ev g mdX2_shift 37 [some (.ref mo), some (.int (nI (ix S e))), some (.int (nI a)), some (.int (nI (sle S e))), some (.int K4), some (.int (nI (dep S (scu S)))), some (.int (nI (d + 1))), none, none, none, none, none] [] (wM g mo mr mnd mgv mcu mck mcl msh mhh mnu mpa mfa mti mpo mle mde msr mtl mtx mcp mmk mns) (fun r w => (∀ c, shs S e ((dwn S (scu S)).drop (d + 1)) a = .inr c → c ∈ sL S ∧ r = some (.int (nI (ix S c))) ∧ w = (wM g mo mr mnd mgv mcu mck mcl msh mhh mnu mpa mfa mti mpo mle mde msr mtl mtx mcp mmk mns)) ∧ (∀ a', shs S e ((dwn S (scu S)).drop (d + 1)) a = .inl a' → shG S e (scu S) a' ∧ r = some (.int (-7)) ∧ w = (wM g mo mr mnd mgv mcu mck mcl (nI a') mhh mnu mpa mfa mti mpo mle mde msr mtl mtx mcp mmk mns))) := by
  have T := I.T
  have hc := I.cu
  have e3 := hR.2.2.1
  have hdl := dep_le T _ hc
  have hcl := T.lt hc
  have hlen := dwn_len S (scu S)
  intro m
  induction m with
  | zero =>
    intro d a x hd hx hG
    have hdd : d = dep S (scu S) := by omega
    rw [hdd, dwn_last T hc] at hx
    cases hx
    rw [List.drop_eq_nil_of_le (by omega)]
    refine ev_iload (pc' := 39) dX2_shift_37 rfl rfl ?_
    refine ev_iload (pc' := 41) dX2_shift_39 rfl rfl ?_
    refine ev_icmp_gt (tgt := 259) (pc' := 44) dX2_shift_41 (by decide) rfl (fun h41 => ?_) (fun h41 => ?_)
    · refine ev_aload_n (pc' := 260) dX2_shift_259 rfl rfl ?_
      refine ev_iload_n (pc' := 261) dX2_shift_260 rfl rfl ?_
      refine pX2_shifted rfl (pc' := 264) dX2_shift_261 rfl ?_
      refine ev_bipush (pc' := 266) (v := (-7)) dX2_shift_264 rfl (by decide) ?_
      refine ev_iret rfl dX2_shift_266 ?_
      refine ⟨fun c h => ?_, fun a' h => ?_⟩
      · cases h
      · cases h
        exact ⟨hG, rfl, rfl⟩
    · rw [nI_ltI (by omega) (by omega)] at h41
      omega
  | succ m ih =>
    intro d a x hd hx hG
    obtain ⟨c, hcd⟩ : ∃ c, (dwn S (scu S))[d + 1]? = some c := ⟨_, List.getElem?_eq_getElem (by omega)⟩
    have hcL := (dwn_in T hc hcd).1
    have hxL := (dwn_in T hc hx).1
    have hpar := dwn_par T _ hc d x c hx hcd
    have hdrop : (dwn S (scu S)).drop (d + 1) = c :: (dwn S (scu S)).drop (d + 1 + 1) := by
      have h1 : d + 1 < (dwn S (scu S)).length := by omega
      rw [List.drop_eq_getElem_cons h1]
      rw [List.getElem?_eq_getElem h1] at hcd
      rw [Option.some.inj hcd]
    rw [hdrop]
    have ha40 : a ≤ 40 := by
      have := I.tl hxL
      cases hE : sde S e with
      | false => have := (hG.1 hE).1; omega
      | true => have := hG.2 hE; omega
    have hq40 : spo S c ≤ 40 := by
      have := I.tl hxL
      obtain ⟨-, -, d1, d2⟩ := I.ed hcL hpar
      cases hC : sde S c with
      | false => have := (d2 hC).1; omega
      | true => have := (d1 hC).1; omega
    have hkc := ix_lt T hcL
    rw [show mcu = nI (ix S (scu S)) from e3]
    rw [show mcu = nI (ix S (scu S)) from e3] at ih hR
    refine ev_iload (pc' := 39) dX2_shift_37 rfl rfl ?_
    refine ev_iload (pc' := 41) dX2_shift_39 rfl rfl ?_
    refine ev_icmp_gt (tgt := 259) (pc' := 44) dX2_shift_41 (by decide) rfl (fun h41 => ?_) (fun h41 => ?_)
    · rw [nI_ltI (by omega) (by omega)] at h41
      omega
    · refine ev_aload_n (pc' := 45) dX2_shift_44 rfl rfl ?_
      refine ev_get inX2 0 12 rfl rfl (by decide) flX2_current rfl (pc' := 48) dX2_shift_45 rfl ?_
      refine ev_istore (pc' := 50) (lv' := [_, _, _, _, _, _, _, _, _, _, _, _]) dX2_shift_48 rfl (by decide) (by intro w hw; first | exact Or.inl rfl | (right; have hw := Option.some.inj (Option.some.inj hw); subst hw; first | rfl | exact rf_cat _) | cases hw) rfl ?_
      refine anc_loop T hR (by omega) ?_ (scu S) hc hcd
      refine sh_step I hR he hcL ha40 hq40 ?_
      unfold shs
      refine ev_iload (pc' := 247) dX2_shift_245 rfl rfl ?_
      refine ev_if_ne (tgt := 253) (pc' := 250) dX2_shift_247 (by decide) rfl (fun h247 => ?_) (fun h247 => ?_)
      · rw [bI_ne] at h247
        rw [if_pos h247]
        refine ev_iinc (pc' := 256) (lv' := [_, _, _, _, _, _, _, _, _, _, _, _]) dX2_shift_253 rfl rfl (nI_1 _) (by decide) (by intro w hw; first | exact Or.inl rfl | (right; have hw := Option.some.inj (Option.some.inj hw); subst hw; first | rfl | exact rf_cat _) | cases hw) rfl ?_
        refine ev_goto (pc' := 37) dX2_shift_256 (by decide) ?_
        refine Ev.weak [some (.ref mo), some (.int (nI (ix S e))), some (.int _), some (.int (nI (sle S e))), some (.int K4), some (.int (nI (dep S (scu S)))), some (.int (nI (d + 1 + 1))), none, none, none, none, none] (lw_le_get _ _ (by simp [lw_le]; rfl)) ?_
        exact ih (d + 1) _ c (by omega) hcd (shG_1 I hcL hpar hn hG h247)
      · rw [bI_eq] at h247
        rw [if_neg (by rw [h247]; decide)]
        refine ev_iload (pc' := 252) dX2_shift_250 rfl rfl ?_
        refine ev_iret rfl dX2_shift_252 ?_
        refine ⟨fun c' h => ?_, fun a' h => ?_⟩
        · cases h
          exact ⟨hcL, rfl, rfl⟩
        · cases h
theorem c_shift (I : Inv N S) (hR : RM S mnd mgv mcu mck mcl msh mhh mnu mpa mfa mti mpo mle mde msr mtl mtx mcp mmk mns) {e : Nat} (he : e ∈ sL S) (hz : e ≠ 0) (hp : e ∈ path S (scu S)) : Ret g mdX2_shift [.ref mo, .int (nI (ix S e))] (wM g mo mr mnd mgv mcu mck mcl msh mhh mnu mpa mfa mti mpo mle mde msr mtl mtx mcp mmk mns) (fun r w => (∀ c, shf S e = .inr c → c ∈ sL S ∧ r = some (.int (nI (ix S c))) ∧ w = (wM g mo mr mnd mgv mcu mck mcl msh mhh mnu mpa mfa mti mpo mle mde msr mtl mtx mcp mmk mns)) ∧ (∀ a', shf S e = .inl a' → shG S e (scu S) a' ∧ r = some (.int (-7)) ∧ w = (wM g mo mr mnd mgv mcu mck mcl (nI a') mhh mnu mpa mfa mti mpo mle mde msr mtl mtx mcp mmk mns))) := by
  refine Ret.of [_, _, _, _, _, _, _, _, _, _, _, _] 10 (by decide) (Nat.le_of_ble_eq_true rfl) rfl ?_
  have T := I.T
  have hk := ix_lt T he
  have hr := RM.row hR he
  have hc := I.cu
  have e3 := hR.2.2.1
  subst e3
  obtain ⟨b, hb, -⟩ := T.2.2.2.2.2.2 e he hz
  have hd := dwn_at T _ hc e hp
  have hdl := (List.getElem?_eq_some_iff.mp hd).1
  rw [dwn_len] at hdl
  refine ev_aload_n (pc' := 1) dX2_shift_0 rfl rfl ?_
  refine ev_get inX2 0 6 rfl rfl (by decide) flX2_position rfl (pc' := 4) dX2_shift_1 rfl ?_
  refine ev_iload_n (pc' := 5) dX2_shift_4 rfl rfl ?_
  refine ev_ialdN 5 rfl (by omega) (by decide) hr.2.2.2.2.1 (pc' := 6) dX2_shift_5 rfl ?_
  refine ev_istore_n (pc' := 7) (lv' := [_, _, _, _, _, _, _, _, _, _, _, _]) dX2_shift_6 rfl (by decide) (by intro w hw; first | exact Or.inl rfl | (right; have hw := Option.some.inj (Option.some.inj hw); subst hw; first | rfl | exact rf_cat _) | cases hw) rfl ?_
  refine ev_aload_n (pc' := 8) dX2_shift_7 rfl rfl ?_
  refine ev_get inX2 0 7 rfl rfl (by decide) flX2_length rfl (pc' := 11) dX2_shift_8 rfl ?_
  refine ev_iload_n (pc' := 12) dX2_shift_11 rfl rfl ?_
  refine ev_ialdN 6 rfl (by omega) (by decide) hr.2.2.2.2.2.1 (pc' := 13) dX2_shift_12 rfl ?_
  refine ev_istore_n (pc' := 14) (lv' := [_, _, _, _, _, _, _, _, _, _, _, _]) dX2_shift_13 rfl (by decide) (by intro w hw; first | exact Or.inl rfl | (right; have hw := Option.some.inj (Option.some.inj hw); subst hw; first | rfl | exact rf_cat _) | cases hw) rfl ?_
  refine ev_aload_n (pc' := 15) dX2_shift_14 rfl rfl ?_
  refine ev_iload_n (pc' := 16) dX2_shift_15 rfl rfl ?_
  refine ev_callV (As := [_]) coX2_depth 0 rfl rfl (c_depth T hR he) rfl (by decide) (by first | exact Nat.le_of_ble_eq_true rfl | simp [Value.category, rf_cat]) dX2_shift_16 rfl (pc' := 19) rfl (fun v w hq => ?_)
  obtain ⟨rfl, rfl⟩ := hq
  dsimp only [Option.toList, List.cons_append, List.nil_append]
  refine ev_iconst (pc' := 20) (v := nI 1) dX2_shift_19 rfl (by decide) ?_
  refine ev_iadd (pc' := 21) dX2_shift_20 rfl ?_
  rw [nI_add]
  refine ev_istore (pc' := 23) (lv' := [_, _, _, _, _, _, _, _, _, _, _, _]) dX2_shift_21 rfl (by decide) (by intro w hw; first | exact Or.inl rfl | (right; have hw := Option.some.inj (Option.some.inj hw); subst hw; first | rfl | exact rf_cat _) | cases hw) rfl ?_
  refine ev_aload_n (pc' := 24) dX2_shift_23 rfl rfl ?_
  refine ev_aload_n (pc' := 25) dX2_shift_24 rfl rfl ?_
  refine ev_get inX2 0 12 rfl rfl (by decide) flX2_current rfl (pc' := 28) dX2_shift_25 rfl ?_
  refine ev_callV (As := [_]) coX2_depth 0 rfl rfl (c_depth T hR hc) rfl (by decide) (by first | exact Nat.le_of_ble_eq_true rfl | simp [Value.category, rf_cat]) dX2_shift_28 rfl (pc' := 31) rfl (fun v w hq => ?_)
  obtain ⟨rfl, rfl⟩ := hq
  dsimp only [Option.toList, List.cons_append, List.nil_append]
  refine ev_istore (pc' := 33) (lv' := [_, _, _, _, _, _, _, _, _, _, _, _]) dX2_shift_31 rfl (by decide) (by intro w hw; first | exact Or.inl rfl | (right; have hw := Option.some.inj (Option.some.inj hw); subst hw; first | rfl | exact rf_cat _) | cases hw) rfl ?_
  refine ev_iload (pc' := 35) dX2_shift_33 rfl rfl ?_
  refine ev_istore (pc' := 37) (lv' := [_, _, _, _, _, _, _, _, _, _, _, _]) dX2_shift_35 rfl (by decide) (by intro w hw; first | exact Or.inl rfl | (right; have hw := Option.some.inj (Option.some.inj hw); subst hw; first | rfl | exact rf_cat _) | cases hw) rfl ?_
  exact sh_loop I hR he (I.ed he hb).1 (dep S (scu S) - dep S e) (dep S e) (spo S e) e (by omega) hd (shG_0 I he hb)
theorem c_mconflictWith (I : Inv N S) (hR : RM S mnd mgv mcu mck mcl msh mhh mnu mpa mfa mti mpo mle mde msr mtl mtx mcp mmk mns) (x : Int32) : Ret g mdX2_conflictWith [.ref mo, .int x] (wM g mo mr mnd mgv mcu mck mcl msh mhh mnu mpa mfa mti mpo mle mde msr mtl mtx mcp mmk mns) (fun r w => r = some (.int (aCW S x)) ∧ isM g mo mr S w) := by
  refine Ret.of [_, _, _, _, _] 3 (by decide) (Nat.le_of_ble_eq_true rfl) rfl ?_
  have T := I.T
  refine ev_aload_n (pc' := 1) dX2_conflictWith_0 rfl rfl ?_
  refine ev_iload_n (pc' := 2) dX2_conflictWith_1 rfl rfl ?_
  refine ev_callV (As := [_]) coX2_at 0 rfl rfl (c_at T hR x) rfl (by decide) (by first | exact Nat.le_of_ble_eq_true rfl | simp [Value.category, rf_cat]) dX2_conflictWith_2 rfl (pc' := 5) rfl (fun v w hq => ?_)
  obtain ⟨rfl, rfl⟩ := hq
  dsimp only [Option.toList, List.cons_append, List.nil_append]
  refine ev_istore_n (pc' := 6) (lv' := [_, _, _, _, _]) dX2_conflictWith_5 rfl (by decide) (by intro w hw; first | exact Or.inl rfl | (right; have hw := Option.some.inj (Option.some.inj hw); subst hw; first | rfl | exact rf_cat _) | cases hw) rfl ?_
  refine ev_aload_n (pc' := 7) dX2_conflictWith_6 rfl rfl ?_
  refine ev_iload_n (pc' := 8) dX2_conflictWith_7 rfl rfl ?_
  refine ev_callV (As := [_]) coX2_refusal 0 rfl rfl (c_refusal T hR I.cu x) rfl (by decide) (by first | exact Nat.le_of_ble_eq_true rfl | simp [Value.category, rf_cat]) dX2_conflictWith_8 rfl (pc' := 11) rfl (fun v w hq => ?_)
  obtain ⟨rfl, rfl⟩ := hq
  dsimp only [Option.toList, List.cons_append, List.nil_append]
  refine ev_istore_n (pc' := 12) (lv' := [_, _, _, _, _]) dX2_conflictWith_11 rfl (by decide) (by intro w hw; first | exact Or.inl rfl | (right; have hw := Option.some.inj (Option.some.inj hw); subst hw; first | rfl | exact rf_cat _) | cases hw) rfl ?_
  refine ev_iload_n (pc' := 13) dX2_conflictWith_12 rfl rfl ?_
  refine ev_if_eq (tgt := 18) (pc' := 16) dX2_conflictWith_13 (by decide) rfl (fun h13 => ?_) (fun h13 => ?_)
  · unfold refS at h13
    cases hl : lk S x with
    | none => rw [hl] at h13; exact absurd (show (-2 : Int32) = 0 from h13) (by decide)
    | some e =>
      have he := (lk_some hl).1
      rw [hl] at h13
      have h13' : (if e = 0 ∨ e ∉ path S (scu S) then (-6 : Int32) else 0) = 0 := h13
      by_cases hq : e = 0 ∨ e ∉ path S (scu S)
      · rw [if_pos hq] at h13'
        exact absurd h13' (by decide)
      · have hz : e ≠ 0 := fun q => hq (Or.inl q)
        have hp : e ∈ path S (scu S) := Decidable.byContradiction fun q => hq (Or.inr q)
        rw [aCW_at hl hq, lkI_some hl]
        refine ev_aload_n (pc' := 19) dX2_conflictWith_18 rfl rfl ?_
        refine ev_iload_n (pc' := 20) dX2_conflictWith_19 rfl rfl ?_
        refine ev_callV (As := [_]) coX2_shift 0 rfl rfl (c_shift I hR he hz hp) rfl (by decide) (by first | exact Nat.le_of_ble_eq_true rfl | simp [Value.category, rf_cat]) dX2_conflictWith_20 rfl (pc' := 23) rfl (fun v w hq => ?_)
        cases hs : shf S e with
        | inr c =>
          obtain ⟨hcL, rfl, rfl⟩ := hq.1 c hs
          have hkc := ix_lt T hcL
          dsimp only [Option.toList, List.cons_append, List.nil_append]
          refine ev_istore (pc' := 25) (lv' := [_, _, _, _, _]) dX2_conflictWith_23 rfl (by decide) (by intro w hw; first | exact Or.inl rfl | (right; have hw := Option.some.inj (Option.some.inj hw); subst hw; first | rfl | exact rf_cat _) | cases hw) rfl ?_
          refine ev_iload (pc' := 27) dX2_conflictWith_25 rfl rfl ?_
          refine ev_bipush (pc' := 29) (v := (-7)) dX2_conflictWith_27 rfl (by decide) ?_
          refine ev_icmp_ne (tgt := 37) (pc' := 32) dX2_conflictWith_29 (by decide) rfl (fun h29 => ?_) (fun h29 => ?_)
          · refine ev_aload_n (pc' := 38) dX2_conflictWith_37 rfl rfl ?_
            refine ev_get inX2 0 2 rfl rfl (by decide) flX2_number rfl (pc' := 41) dX2_conflictWith_38 rfl ?_
            refine ev_iload (pc' := 43) dX2_conflictWith_41 rfl rfl ?_
            refine ev_ialdN 1 rfl (by omega) (by decide) (RM.row hR hcL).1 (pc' := 44) dX2_conflictWith_43 rfl ?_
            refine ev_iret rfl dX2_conflictWith_44 ?_
            exact ⟨rfl, isM.of hR⟩
          · exact absurd h29 (nI_m7 (by omega))
        | inl a' =>
          obtain ⟨-, rfl, rfl⟩ := hq.2 a' hs
          dsimp only [Option.toList, List.cons_append, List.nil_append]
          refine ev_istore (pc' := 25) (lv' := [_, _, _, _, _]) dX2_conflictWith_23 rfl (by decide) (by intro w hw; first | exact Or.inl rfl | (right; have hw := Option.some.inj (Option.some.inj hw); subst hw; first | rfl | exact rf_cat _) | cases hw) rfl ?_
          refine ev_iload (pc' := 27) dX2_conflictWith_25 rfl rfl ?_
          refine ev_bipush (pc' := 29) (v := (-7)) dX2_conflictWith_27 rfl (by decide) ?_
          refine ev_icmp_ne (tgt := 37) (pc' := 32) dX2_conflictWith_29 (by decide) rfl (fun h29 => ?_) (fun h29 => ?_)
          · exact absurd rfl h29
          · refine ev_bipush (pc' := 34) (v := (-7)) dX2_conflictWith_32 rfl (by decide) ?_
            refine ev_goto (pc' := 44) dX2_conflictWith_34 (by decide) ?_
            refine ev_iret rfl dX2_conflictWith_44 ?_
            exact ⟨rfl, isM.of hR⟩
  · refine ev_iload_n (pc' := 17) dX2_conflictWith_16 rfl rfl ?_
    refine ev_iret rfl dX2_conflictWith_17 ?_
    refine ⟨?_, isM.of hR⟩
    unfold refS at h13 ⊢
    unfold aCW
    cases hl : lk S x with
    | none => rfl
    | some e =>
      rw [hl] at h13
      have h13' : ¬ (if e = 0 ∨ e ∉ path S (scu S) then (-6 : Int32) else 0) = 0 := h13
      by_cases hq : e = 0 ∨ e ∉ path S (scu S)
      · show some (Value.int (if _ then _ else _)) = some (Value.int (if _ then _ else _))
        rw [if_pos hq, if_pos hq]
      · rw [if_neg hq] at h13'
        exact absurd rfl h13'
theorem ue_loop (T : Tree S) (hR : RM S mnd mgv mcu mck mcl msh mhh mnu mpa mfa mti mpo mle mde msr mtl mtx mcp mmk mns) {e : Nat} (he : e ∈ sL S) (hle : sle S e ≤ 6) (K1 K3 : Int32) : ∀ (m i : Nat) (mns : Nat → Int32), i + m = sle S e → (∀ j, j < i → mns j = ssr S e j) → (∀ mns : Nat → Int32, (∀ j, j < sle S e → mns j = ssr S e j) → Ev g mdX2_undoEdit 115 [some (.ref mo), some (.int K1), some (.int (nI (ix S e))), some (.int K3), none] [] (wM g mo mr mnd mgv mcu mck mcl msh mhh mnu mpa mfa mti mpo mle mde msr mtl mtx mcp mmk mns) Ph) → Ev g mdX2_undoEdit 79 [some (.ref mo), some (.int K1), some (.int (nI (ix S e))), some (.int K3), some (.int (nI i))] [] (wM g mo mr mnd mgv mcu mck mcl msh mhh mnu mpa mfa mti mpo mle mde msr mtl mtx mcp mmk mns) Ph := by
  have hk := ix_lt T he
  have hr := RM.row hR he
  intro m
  induction m with
  | zero =>
    intro i mns hi h1 K
    refine ev_iload (pc' := 81) dX2_undoEdit_79 rfl rfl ?_
    refine ev_aload_n (pc' := 82) dX2_undoEdit_81 rfl rfl ?_
    refine ev_get inX2 0 7 rfl rfl (by decide) flX2_length rfl (pc' := 85) dX2_undoEdit_82 rfl ?_
    refine ev_iload_n (pc' := 86) dX2_undoEdit_85 rfl rfl ?_
    refine ev_ialdN 6 rfl (by omega) (by decide) hr.2.2.2.2.2.1 (pc' := 87) dX2_undoEdit_86 rfl ?_
    refine ev_icmp_ge (tgt := 115) (pc' := 90) dX2_undoEdit_87 (by decide) rfl (fun h87 => ?_) (fun h87 => ?_)
    · exact Ev.weak [some (.ref mo), some (.int K1), some (.int (nI (ix S e))), some (.int K3), none] (lw_le_get _ _ (by simp [lw_le])) (K mns (fun j hj => h1 j (by omega)))
    · exact absurd (nI_le (by omega) (by omega)) h87
  | succ m ih =>
    intro i mns hi h1 K
    refine ev_iload (pc' := 81) dX2_undoEdit_79 rfl rfl ?_
    refine ev_aload_n (pc' := 82) dX2_undoEdit_81 rfl rfl ?_
    refine ev_get inX2 0 7 rfl rfl (by decide) flX2_length rfl (pc' := 85) dX2_undoEdit_82 rfl ?_
    refine ev_iload_n (pc' := 86) dX2_undoEdit_85 rfl rfl ?_
    refine ev_ialdN 6 rfl (by omega) (by decide) hr.2.2.2.2.2.1 (pc' := 87) dX2_undoEdit_86 rfl ?_
    refine ev_icmp_ge (tgt := 115) (pc' := 90) dX2_undoEdit_87 (by decide) rfl (fun h87 => ?_) (fun h87 => ?_)
    · exact absurd h87 (nI_ge (by omega) (by omega))
    · refine ev_aload_n (pc' := 91) dX2_undoEdit_90 rfl rfl ?_
      refine ev_get inX2 0 17 rfl rfl (by decide) flX2_newString rfl (pc' := 94) dX2_undoEdit_91 rfl ?_
      refine ev_iload (pc' := 96) dX2_undoEdit_94 rfl rfl ?_
      refine ev_aload_n (pc' := 97) dX2_undoEdit_96 rfl rfl ?_
      refine ev_get inX2 0 9 rfl rfl (by decide) flX2_string rfl (pc' := 100) dX2_undoEdit_97 rfl ?_
      refine ev_bipush (pc' := 102) (v := nI 6) dX2_undoEdit_100 rfl (by decide) ?_
      refine ev_iload_n (pc' := 103) dX2_undoEdit_102 rfl rfl ?_
      refine ev_imul (pc' := 104) dX2_undoEdit_103 rfl ?_
      refine ev_iload (pc' := 106) dX2_undoEdit_104 rfl rfl ?_
      refine ev_iadd (pc' := 107) dX2_undoEdit_106 rfl ?_
      rw [pk_mul, nI_add]
      refine ev_ialdN 8 rfl (by omega) (by decide) (hr.2.2.2.2.2.2.2.2.1 i (by omega)) (pc' := 108) dX2_undoEdit_107 rfl ?_
      refine ev_iastN 13 rfl (by omega) (by decide) (pc' := 109) dX2_undoEdit_108 rfl (ws' := wM _ _ _ _ _ _ _ _ _ _ _ _ _ _ _ _ _ _ _ _ _ _ _) rfl ?_
      refine ev_iinc (pc' := 112) (lv' := [_, _, _, _, _]) dX2_undoEdit_109 rfl rfl (nI_1 _) (by decide) (by intro w hw; first | exact Or.inl rfl | (right; have hw := Option.some.inj (Option.some.inj hw); subst hw; first | rfl | exact rf_cat _) | cases hw) rfl ?_
      refine ev_goto (pc' := 79) dX2_undoEdit_112 (by decide) ?_
      refine ih (i + 1) _ (by omega) (fun j hj => ?_) K
      by_cases q : j = i
      · rw [q, pk_us]
      · rw [pk_un q]; exact h1 j (by omega)
theorem c_mundoEdit (I : Inv N S) (hN : N ≤ 512) (hR : RM S mnd mgv mcu mck mcl msh mhh mnu mpa mfa mti mpo mle mde msr mtl mtx mcp mmk mns) (x : Int32) : Ret g mdX2_undoEdit [.ref mo, .int x] (wM g mo mr mnd mgv mcu mck mcl msh mhh mnu mpa mfa mti mpo mle mde msr mtl mtx mcp mmk mns) (fun r w => r = some (.int (oUE S x).1) ∧ isM g mo mr (oUE S x).2 w) := by
  refine Ret.of [_, _, _, _, _] 3 (by decide) (Nat.le_of_ble_eq_true rfl) rfl ?_
  have T := I.T
  refine ev_aload_n (pc' := 1) dX2_undoEdit_0 rfl rfl ?_
  refine ev_iload_n (pc' := 2) dX2_undoEdit_1 rfl rfl ?_
  refine ev_callV (As := [_]) coX2_at 0 rfl rfl (c_at T hR x) rfl (by decide) (by first | exact Nat.le_of_ble_eq_true rfl | simp [Value.category, rf_cat]) dX2_undoEdit_2 rfl (pc' := 5) rfl (fun v w hq => ?_)
  obtain ⟨rfl, rfl⟩ := hq
  dsimp only [Option.toList, List.cons_append, List.nil_append]
  refine ev_istore_n (pc' := 6) (lv' := [_, _, _, _, _]) dX2_undoEdit_5 rfl (by decide) (by intro w hw; first | exact Or.inl rfl | (right; have hw := Option.some.inj (Option.some.inj hw); subst hw; first | rfl | exact rf_cat _) | cases hw) rfl ?_
  refine ev_aload_n (pc' := 7) dX2_undoEdit_6 rfl rfl ?_
  refine ev_iload_n (pc' := 8) dX2_undoEdit_7 rfl rfl ?_
  refine ev_callV (As := [_]) coX2_refusal 0 rfl rfl (c_refusal T hR I.cu x) rfl (by decide) (by first | exact Nat.le_of_ble_eq_true rfl | simp [Value.category, rf_cat]) dX2_undoEdit_8 rfl (pc' := 11) rfl (fun v w hq => ?_)
  obtain ⟨rfl, rfl⟩ := hq
  dsimp only [Option.toList, List.cons_append, List.nil_append]
  refine ev_istore_n (pc' := 12) (lv' := [_, _, _, _, _]) dX2_undoEdit_11 rfl (by decide) (by intro w hw; first | exact Or.inl rfl | (right; have hw := Option.some.inj (Option.some.inj hw); subst hw; first | rfl | exact rf_cat _) | cases hw) rfl ?_
  refine ev_iload_n (pc' := 13) dX2_undoEdit_12 rfl rfl ?_
  refine ev_if_eq (tgt := 18) (pc' := 16) dX2_undoEdit_13 (by decide) rfl (fun h13 => ?_) (fun h13 => ?_)
  · unfold refS at h13
    cases hl : lk S x with
    | none => rw [hl] at h13; exact absurd (show (-2 : Int32) = 0 from h13) (by decide)
    | some e =>
      have he := (lk_some hl).1
      rw [hl] at h13
      have h13' : (if e = 0 ∨ e ∉ path S (scu S) then (-6 : Int32) else 0) = 0 := h13
      by_cases hq : e = 0 ∨ e ∉ path S (scu S)
      · rw [if_pos hq] at h13'
        exact absurd h13' (by decide)
      · have hz : e ≠ 0 := fun q => hq (Or.inl q)
        have hp : e ∈ path S (scu S) := Decidable.byContradiction fun q => hq (Or.inr q)
        rw [oUE_at hl hq, lkI_some hl]
        have hk := ix_lt T he
        have hkc := ix_lt T I.cu
        have hr := RM.row hR he
        have hrc := RM.row hR I.cu
        have hle := I.le he
        have h40 := I.tl I.cu
        have hlen := T.len
        have hgv := I.gv
        obtain ⟨b, hb, -⟩ := T.2.2.2.2.2.2 e he hz
        have hn1 := (I.ed he hb).1
        refine ev_aload_n (pc' := 19) dX2_undoEdit_18 rfl rfl ?_
        refine ev_iload_n (pc' := 20) dX2_undoEdit_19 rfl rfl ?_
        refine ev_callV (As := [_]) coX2_shift 0 rfl rfl (c_shift I hR he hz hp) rfl (by decide) (by first | exact Nat.le_of_ble_eq_true rfl | simp [Value.category, rf_cat]) dX2_undoEdit_20 rfl (pc' := 23) rfl (fun v w hq => ?_)
        cases hs : shf S e with
        | inr c =>
          obtain ⟨hcL, rfl, rfl⟩ := hq.1 c hs
          have hkcc := ix_lt T hcL
          dsimp only [Option.toList, List.cons_append, List.nil_append]
          refine ev_bipush (pc' := 25) (v := (-7)) dX2_undoEdit_23 rfl (by decide) ?_
          refine ev_icmp_eq (tgt := 31) (pc' := 28) dX2_undoEdit_25 (by decide) rfl (fun h25 => ?_) (fun h25 => ?_)
          · exact absurd h25 (nI_m7 (by omega))
          · refine ev_bipush (pc' := 30) (v := (-5)) dX2_undoEdit_28 rfl (by decide) ?_
            refine ev_iret rfl dX2_undoEdit_30 ?_
            exact ⟨rfl, isM.of hR⟩
        | inl a' =>
          obtain ⟨hG, rfl, rfl⟩ := hq.2 a' hs
          dsimp only [Option.toList, List.cons_append, List.nil_append]
          have rest : ¬ (sde S e = true ∧ 40 < stl S (scu S) + sle S e) → Ev g mdX2_undoEdit 64 [some (.ref mo), some (.int x), some (.int (nI (ix S e))), some (.int (refS S x)), none] [] (wM g mo mr mnd mgv mcu mck mcl (nI a') mhh mnu mpa mfa mti mpo mle mde msr mtl mtx mcp mmk mns) (fun r w => r = some (.int (if sde S e = true ∧ 40 < stl S (scu S) + sle S e then ((-4 : Int32), S) else if (sL S).length = 24 then ((-3), S) else (nI (sgv S), grw S a' (sle S e) (!sde S e) (ssr S e))).1) ∧ isM g mo mr (if sde S e = true ∧ 40 < stl S (scu S) + sle S e then ((-4 : Int32), S) else if (sL S).length = 24 then ((-3), S) else (nI (sgv S), grw S a' (sle S e) (!sde S e) (ssr S e))).2 w) := by
            intro hno
            rw [if_neg hno]
            have e1 := hR.1
            refine ev_aload_n (pc' := 65) dX2_undoEdit_64 rfl rfl ?_
            refine ev_get inX2 0 0 rfl rfl (by decide) flX2_nodes rfl (pc' := 68) dX2_undoEdit_65 rfl ?_
            refine ev_bipush (pc' := 70) (v := nI 24) dX2_undoEdit_68 rfl (by decide) ?_
            refine ev_icmp_ne (tgt := 76) (pc' := 73) dX2_undoEdit_70 (by decide) rfl (fun h70 => ?_) (fun h70 => ?_)
            · have hl24 : (sL S).length ≠ 24 := fun q => h70 (by rw [e1, q])
              rw [if_neg hl24]
              refine ev_iconst (pc' := 77) (v := nI 0) dX2_undoEdit_76 rfl (by decide) ?_
              refine ev_istore (pc' := 79) (lv' := [_, _, _, _, _]) dX2_undoEdit_77 rfl (by decide) (by intro w hw; first | exact Or.inl rfl | (right; have hw := Option.some.inj (Option.some.inj hw); subst hw; first | rfl | exact rf_cat _) | cases hw) rfl ?_
              refine ue_loop (msh := nI a') (mns := mns) T hR he hle _ _ (sle S e) 0 _ (by omega) (fun j hj => absurd hj (Nat.not_lt_zero j)) (fun mns hns => ?_)
              have cg := c_grow (g := g) (mo := mo) (mr := mr) (msh := nI a') (mhh := mhh) (mns := mns) (p := a') (n := sle S e) (d := !sde S e) (s := ssr S e) T hR (fun a ha => I.tl ha) (fun a ha => I.le ha) I.cu (by omega) (by omega) hn1 hle
                (by
                  cases hE : sde S e with
                  | false => have := (hG.1 hE).1; omega
                  | true => exact hG.2 hE)
                (fun h => by
                  have hE : sde S e = false := by simpa using h
                  exact (hG.1 hE).1)
                (fun h => by
                  have hE : sde S e = true := by simpa using h
                  have : ¬ 40 < stl S (scu S) + sle S e := fun q => hno ⟨hE, q⟩
                  omega) hns
              refine ev_aload_n (pc' := 116) dX2_undoEdit_115 rfl rfl ?_
              refine ev_aload_n (pc' := 117) dX2_undoEdit_116 rfl rfl ?_
              refine ev_get inX2 0 18 rfl rfl (by decide) flX2_shifted rfl (pc' := 120) dX2_undoEdit_117 rfl ?_
              refine ev_aload_n (pc' := 121) dX2_undoEdit_120 rfl rfl ?_
              refine ev_get inX2 0 7 rfl rfl (by decide) flX2_length rfl (pc' := 124) dX2_undoEdit_121 rfl ?_
              refine ev_iload_n (pc' := 125) dX2_undoEdit_124 rfl rfl ?_
              refine ev_ialdN 6 rfl (by omega) (by decide) hr.2.2.2.2.2.1 (pc' := 126) dX2_undoEdit_125 rfl ?_
              refine ev_aload_n (pc' := 127) dX2_undoEdit_126 rfl rfl ?_
              refine ev_get inX2 0 8 rfl rfl (by decide) flX2_deletes rfl (pc' := 130) dX2_undoEdit_127 rfl ?_
              refine ev_iload_n (pc' := 131) dX2_undoEdit_130 rfl rfl ?_
              refine ev_zaldN 7 rfl (by omega) (by decide) hr.2.2.2.2.2.2.1 (pc' := 132) dX2_undoEdit_131 rfl ?_
              refine ev_if_ne (tgt := 139) (pc' := 135) dX2_undoEdit_132 (by decide) rfl (fun h132 => ?_) (fun h132 => ?_)
              · rw [bI_ne] at h132
                rw [h132] at cg ⊢
                refine ev_iconst (pc' := 140) (v := nI 0) dX2_undoEdit_139 rfl (by decide) ?_
                refine ev_callV (As := [_, _, _]) coX2_grow 0 rfl rfl (cg) rfl (by decide) (by first | exact Nat.le_of_ble_eq_true rfl | simp [Value.category, rf_cat]) dX2_undoEdit_140 rfl (pc' := 143) rfl (fun v w hq => ?_)
                obtain ⟨rfl, hw⟩ := hq
                dsimp only [Option.toList, List.cons_append, List.nil_append]
                refine ev_iret rfl dX2_undoEdit_143 ?_
                exact ⟨rfl, hw⟩
              · rw [bI_eq] at h132
                rw [h132] at cg ⊢
                refine ev_iconst (pc' := 136) (v := nI 1) dX2_undoEdit_135 rfl (by decide) ?_
                refine ev_goto (pc' := 140) dX2_undoEdit_136 (by decide) ?_
                refine ev_callV (As := [_, _, _]) coX2_grow 0 rfl rfl (cg) rfl (by decide) (by first | exact Nat.le_of_ble_eq_true rfl | simp [Value.category, rf_cat]) dX2_undoEdit_140 rfl (pc' := 143) rfl (fun v w hq => ?_)
                obtain ⟨rfl, hw⟩ := hq
                dsimp only [Option.toList, List.cons_append, List.nil_append]
                refine ev_iret rfl dX2_undoEdit_143 ?_
                exact ⟨rfl, hw⟩
            · have hl24 : (sL S).length = 24 := nI_inj (by omega) (by omega) (e1.symm.trans h70)
              rw [if_pos hl24]
              refine ev_bipush (pc' := 75) (v := (-3)) dX2_undoEdit_73 rfl (by decide) ?_
              refine ev_iret rfl dX2_undoEdit_75 ?_
              exact ⟨rfl, isM.of hR⟩
          refine ev_bipush (pc' := 25) (v := (-7)) dX2_undoEdit_23 rfl (by decide) ?_
          refine ev_icmp_eq (tgt := 31) (pc' := 28) dX2_undoEdit_25 (by decide) rfl (fun h25 => ?_) (fun h25 => ?_)
          · refine ev_aload_n (pc' := 32) dX2_undoEdit_31 rfl rfl ?_
            refine ev_get inX2 0 8 rfl rfl (by decide) flX2_deletes rfl (pc' := 35) dX2_undoEdit_32 rfl ?_
            refine ev_iload_n (pc' := 36) dX2_undoEdit_35 rfl rfl ?_
            refine ev_zaldN 7 rfl (by omega) (by decide) hr.2.2.2.2.2.2.1 (pc' := 37) dX2_undoEdit_36 rfl ?_
            refine ev_if_eq (tgt := 64) (pc' := 40) dX2_undoEdit_37 (by decide) rfl (fun h37 => ?_) (fun h37 => ?_)
            · rw [bI_eq] at h37
              exact rest (fun q => by rw [h37] at q; exact absurd q.1 (by decide))
            · rw [bI_ne] at h37
              have e3 := hR.2.2.1
              subst e3
              refine ev_aload_n (pc' := 41) dX2_undoEdit_40 rfl rfl ?_
              refine ev_get inX2 0 10 rfl rfl (by decide) flX2_textLength rfl (pc' := 44) dX2_undoEdit_41 rfl ?_
              refine ev_aload_n (pc' := 45) dX2_undoEdit_44 rfl rfl ?_
              refine ev_get inX2 0 12 rfl rfl (by decide) flX2_current rfl (pc' := 48) dX2_undoEdit_45 rfl ?_
              refine ev_ialdN 9 rfl (by omega) (by decide) hrc.2.2.2.2.2.2.2.1 (pc' := 49) dX2_undoEdit_48 rfl ?_
              refine ev_aload_n (pc' := 50) dX2_undoEdit_49 rfl rfl ?_
              refine ev_get inX2 0 7 rfl rfl (by decide) flX2_length rfl (pc' := 53) dX2_undoEdit_50 rfl ?_
              refine ev_iload_n (pc' := 54) dX2_undoEdit_53 rfl rfl ?_
              refine ev_ialdN 6 rfl (by omega) (by decide) hr.2.2.2.2.2.1 (pc' := 55) dX2_undoEdit_54 rfl ?_
              refine ev_iadd (pc' := 56) dX2_undoEdit_55 rfl ?_
              rw [nI_add]
              refine ev_bipush (pc' := 58) (v := nI 40) dX2_undoEdit_56 rfl (by decide) ?_
              refine ev_icmp_le (tgt := 64) (pc' := 61) dX2_undoEdit_58 (by decide) rfl (fun h58 => ?_) (fun h58 => ?_)
              · rw [nI_leI (by omega) (by omega)] at h58
                exact rest (fun q => by omega)
              · rw [nI_leI (by omega) (by omega)] at h58
                refine ev_bipush (pc' := 63) (v := (-4)) dX2_undoEdit_61 rfl (by decide) ?_
                refine ev_iret rfl dX2_undoEdit_63 ?_
                rw [show ueR S e (.inl a') = if sde S e = true ∧ 40 < stl S (scu S) + sle S e then ((-4), S) else if (sL S).length = 24 then ((-3), S) else (nI (sgv S), grw S a' (sle S e) (!sde S e) (ssr S e)) from rfl, if_pos (show sde S e = true ∧ 40 < stl S (scu S) + sle S e from ⟨h37, by omega⟩)]
                exact ⟨rfl, isM.of hR⟩
          · exact absurd rfl h25
  · refine ev_iload_n (pc' := 17) dX2_undoEdit_16 rfl rfl ?_
    refine ev_iret rfl dX2_undoEdit_17 ?_
    unfold refS at h13 ⊢
    unfold oUE
    cases hl : lk S x with
    | none => exact ⟨rfl, isM.of hR⟩
    | some e =>
      rw [hl] at h13
      have h13' : ¬ (if e = 0 ∨ e ∉ path S (scu S) then (-6 : Int32) else 0) = 0 := h13
      by_cases hq : e = 0 ∨ e ∉ path S (scu S)
      · show some (Value.int (if _ then _ else _)) = some (Value.int (if e = 0 ∨ e ∉ path S (scu S) then ((-6), S) else _).1) ∧ isM g mo mr (if e = 0 ∨ e ∉ path S (scu S) then ((-6 : Int32), S) else _).2 _
        rw [if_pos hq, if_pos hq]
        exact ⟨rfl, isM.of hR⟩
      · rw [if_neg hq] at h13'
        exact absurd rfl h13'
end M13
