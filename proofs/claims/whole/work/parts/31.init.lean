theorem flX0_deletion : Cond.fieldLink RX0 38 "EditTree$Node" "deletion" "Z" ∈ lw_good := lw_in (by decide +kernel) rfl
theorem flX0_editLength : Cond.fieldLink RX0 35 "EditTree$Node" "editLength" "I" ∈ lw_good := lw_in (by decide +kernel) rfl
theorem flX0_editPosition : Cond.fieldLink RX0 32 "EditTree$Node" "editPosition" "I" ∈ lw_good := lw_in (by decide +kernel) rfl
theorem flX0_favourite : Cond.fieldLink RX0 29 "EditTree$Node" "favourite" "LEditTree$Node;" ∈ lw_good := lw_in (by decide +kernel) rfl
theorem flX0_number : Cond.fieldLink RX0 19 "EditTree$Node" "number" "I" ∈ lw_good := lw_in (by decide +kernel) rfl
theorem flX0_parent : Cond.fieldLink RX0 25 "EditTree$Node" "parent" "LEditTree$Node;" ∈ lw_good := lw_in (by decide +kernel) rfl
theorem flX0_text : Cond.fieldLink RX0 9 "EditTree$Node" "text" "[C" ∈ lw_good := lw_in (by decide +kernel) rfl
theorem flX0_textLength : Cond.fieldLink RX0 15 "EditTree$Node" "textLength" "I" ∈ lw_good := lw_in (by decide +kernel) rfl
theorem flX0_time : Cond.fieldLink RX0 22 "EditTree$Node" "time" "I" ∈ lw_good := lw_in (by decide +kernel) rfl
theorem wd_oi : Cond.instanceMethod objectInit ∈ lw_good := lw_in (by decide +kernel) rfl
theorem wd_oc : Cond.code objectInit ⟨#[0xb1]⟩ 1 none ∈ lw_good := lw_in (by decide +kernel) rfl
theorem wd_oX0 : Cond.methodLink RX0 3 objectInit ∈ lw_good := lw_in (by decide +kernel) rfl
theorem wd_oX1 : Cond.methodLink RX1 1 objectInit ∈ lw_good := lw_in (by decide +kernel) rfl
theorem wd_oX2 : Cond.methodLink RX2 1 objectInit ∈ lw_good := lw_in (by decide +kernel) rfl
theorem wd_aint : Cond.arrayClass .int ∈ lw_good := lw_in (by decide +kernel) rfl
theorem wd_aboolean : Cond.arrayClass .boolean ∈ lw_good := lw_in (by decide +kernel) rfl
theorem wd_achar : Cond.arrayClass .char ∈ lw_good := lw_in (by decide +kernel) rfl
theorem wd_iX0 : Cond.initialized RX0 ∈ lw_good := lw_in (by decide +kernel) rfl
theorem wd_iX1 : Cond.initialized RX1 ∈ lw_good := lw_in (by decide +kernel) rfl
theorem wd_iX2 : Cond.initialized RX2 ∈ lw_good := lw_in (by decide +kernel) rfl
theorem wd_nX0 : Cond.instantiable RX0 9 ∈ lw_good := lw_in (by decide +kernel) rfl
theorem wd_lX0 : Cond.classLink RX1 9 "EditTree$Node" ∈ lw_good := lw_in (by decide +kernel) rfl
theorem wd_mX0 : Cond.instanceMethod yX0_init ∈ lw_good := lw_in (by decide +kernel) rfl
theorem wd_cX0 : Cond.code yX0_init cX0_init 1 none ∈ lw_good := lw_in (by decide +kernel) rfl
theorem wd_mX1 : Cond.instanceMethod yX1_init ∈ lw_good := lw_in (by decide +kernel) rfl
theorem wd_cX1 : Cond.code yX1_init cX1_init 3 none ∈ lw_good := lw_in (by decide +kernel) rfl
theorem wd_mX2 : Cond.instanceMethod yX2_init ∈ lw_good := lw_in (by decide +kernel) rfl
theorem wd_cX2 : Cond.code yX2_init cX2_init 2 none ∈ lw_good := lw_in (by decide +kernel) rfl
abbrev mdX0_init : MD := (yX0_init, cX0_init, 1, none, 1)
abbrev mdX1_init : MD := (yX1_init, cX1_init, 3, none, 2)
abbrev mdX2_init : MD := (yX2_init, cX2_init, 2, none, 1)
abbrev nodeN : va_E := .inr (0, [.null, .int 0, .int 0, .int 0, .null, .null, .int 0, .int 0, .int 0])
abbrev nodeE (t : Nat) : va_E := .inr (0, [.ref t, .int (nI 0), .int (nI 0), .int (nI 0), va_rf none, va_rf none, .int (nI 0), .int (nI 0), .int (nI 0)])
abbrev textE (g : EG) : va_E := .inl (g.2.2.1, 40, .inl (fun _ => 0))
theorem c_x0init {g : EG} (h0 : Nat) : RetA g mdX0_init [.ref h0] [(h0, nodeN)] 1 40 (fun v w => v = none ∧ ∃ t, w = [(h0, nodeE t), (t, textE g)]) := by
  refine RetA.of [some (.ref h0)] 0 (by decide) rfl (Nat.le_of_ble_eq_true rfl) rfl (fun p e s m args below meth c A F hmn hA => ?_)
  refine b_aload_n F (pc' := 1) dX0_init_0 rfl rfl ?_
  refine b_objInit F (pc' := 4) wd_oX0 wd_oi wd_oc ⟨by decide, by decide⟩ (Nat.le_of_ble_eq_true rfl) dX0_init_1 rfl ?_
  refine b_aload_n F (pc' := 5) dX0_init_4 rfl rfl ?_
  refine b_bipush F (pc' := 7) (v := nI 40) dX0_init_5 rfl (by decide) ?_
  refine b_newC F (pc' := 9) hA wd_achar (by decide) (N' := 40) (by decide) (by decide) (by decide) (by decide) dX0_init_7 rfl (fun t => ?_)
  refine Bx.eq (ws2 := [(h0, .inr (0, [.null, .int 0, .int 0, .int 0, .null, .null, .int 0, .int 0, .int 0])), (t, .inl (g.2.2.1, 40, .inl (fun _ => 0)))]) (kc2 := 1) (ks2 := 40) rfl rfl rfl rfl rfl ?_
  refine b_putF F (pc' := 12) hmn inX0 tyX0_ok nmX0 0 0 rfl rfl (by decide) flX0_text rfl rfl rfl rfl (show 0 < 9 by decide) dX0_init_9 rfl (ws' := [(h0, .inr (0, [.ref t, .int 0, .int 0, .int 0, .null, .null, .int 0, .int 0, .int 0])), (t, .inl (g.2.2.1, 40, .inl (fun _ => 0)))]) rfl ?_
  refine b_aload_n F (pc' := 13) dX0_init_12 rfl rfl ?_
  refine b_iconst F (pc' := 14) (v := nI 0) dX0_init_13 rfl (by decide) ?_
  refine b_put F (pc' := 17) inX0 tyX0_ok nmX0 0 1 rfl rfl (by decide) flX0_textLength rfl rfl rfl (show 1 < 9 by decide) dX0_init_14 rfl (ws' := [(h0, .inr (0, [.ref t, .int (nI 0), .int 0, .int 0, .null, .null, .int 0, .int 0, .int 0])), (t, .inl (g.2.2.1, 40, .inl (fun _ => 0)))]) rfl ?_
  refine b_aload_n F (pc' := 18) dX0_init_17 rfl rfl ?_
  refine b_iconst F (pc' := 19) (v := nI 0) dX0_init_18 rfl (by decide) ?_
  refine b_put F (pc' := 22) inX0 tyX0_ok nmX0 0 2 rfl rfl (by decide) flX0_number rfl rfl rfl (show 2 < 9 by decide) dX0_init_19 rfl (ws' := [(h0, .inr (0, [.ref t, .int (nI 0), .int (nI 0), .int 0, .null, .null, .int 0, .int 0, .int 0])), (t, .inl (g.2.2.1, 40, .inl (fun _ => 0)))]) rfl ?_
  refine b_aload_n F (pc' := 23) dX0_init_22 rfl rfl ?_
  refine b_iconst F (pc' := 24) (v := nI 0) dX0_init_23 rfl (by decide) ?_
  refine b_put F (pc' := 27) inX0 tyX0_ok nmX0 0 3 rfl rfl (by decide) flX0_time rfl rfl rfl (show 3 < 9 by decide) dX0_init_24 rfl (ws' := [(h0, .inr (0, [.ref t, .int (nI 0), .int (nI 0), .int (nI 0), .null, .null, .int 0, .int 0, .int 0])), (t, .inl (g.2.2.1, 40, .inl (fun _ => 0)))]) rfl ?_
  refine b_aload_n F (pc' := 28) dX0_init_27 rfl rfl ?_
  refine b_null F (pc' := 29) dX0_init_28 rfl ?_
  refine b_put F (pc' := 32) inX0 tyX0_ok nmX0 0 4 rfl rfl (by decide) flX0_parent rfl rfl rfl (show 4 < 9 by decide) dX0_init_29 rfl (ws' := [(h0, .inr (0, [.ref t, .int (nI 0), .int (nI 0), .int (nI 0), va_rf none, .null, .int 0, .int 0, .int 0])), (t, .inl (g.2.2.1, 40, .inl (fun _ => 0)))]) rfl ?_
  refine b_aload_n F (pc' := 33) dX0_init_32 rfl rfl ?_
  refine b_null F (pc' := 34) dX0_init_33 rfl ?_
  refine b_put F (pc' := 37) inX0 tyX0_ok nmX0 0 5 rfl rfl (by decide) flX0_favourite rfl rfl rfl (show 5 < 9 by decide) dX0_init_34 rfl (ws' := [(h0, .inr (0, [.ref t, .int (nI 0), .int (nI 0), .int (nI 0), va_rf none, va_rf none, .int 0, .int 0, .int 0])), (t, .inl (g.2.2.1, 40, .inl (fun _ => 0)))]) rfl ?_
  refine b_aload_n F (pc' := 38) dX0_init_37 rfl rfl ?_
  refine b_iconst F (pc' := 39) (v := nI 0) dX0_init_38 rfl (by decide) ?_
  refine b_put F (pc' := 42) inX0 tyX0_ok nmX0 0 6 rfl rfl (by decide) flX0_editPosition rfl rfl rfl (show 6 < 9 by decide) dX0_init_39 rfl (ws' := [(h0, .inr (0, [.ref t, .int (nI 0), .int (nI 0), .int (nI 0), va_rf none, va_rf none, .int (nI 0), .int 0, .int 0])), (t, .inl (g.2.2.1, 40, .inl (fun _ => 0)))]) rfl ?_
  refine b_aload_n F (pc' := 43) dX0_init_42 rfl rfl ?_
  refine b_iconst F (pc' := 44) (v := nI 0) dX0_init_43 rfl (by decide) ?_
  refine b_put F (pc' := 47) inX0 tyX0_ok nmX0 0 7 rfl rfl (by decide) flX0_editLength rfl rfl rfl (show 7 < 9 by decide) dX0_init_44 rfl (ws' := [(h0, .inr (0, [.ref t, .int (nI 0), .int (nI 0), .int (nI 0), va_rf none, va_rf none, .int (nI 0), .int (nI 0), .int 0])), (t, .inl (g.2.2.1, 40, .inl (fun _ => 0)))]) rfl ?_
  refine b_aload_n F (pc' := 48) dX0_init_47 rfl rfl ?_
  refine b_iconst F (pc' := 49) (v := nI 0) dX0_init_48 rfl (by decide) ?_
  refine b_put F (pc' := 52) inX0 tyX0_ok nmX0 0 8 rfl rfl (by decide) flX0_deletion rfl rfl rfl (show 8 < 9 by decide) dX0_init_49 rfl (ws' := [(h0, .inr (0, [.ref t, .int (nI 0), .int (nI 0), .int (nI 0), va_rf none, va_rf none, .int (nI 0), .int (nI 0), .int (nI 0)])), (t, .inl (g.2.2.1, 40, .inl (fun _ => 0)))]) rfl ?_
  refine b_vret F rfl dX0_init_52 (fun _ => ⟨_, List.Perm.refl _, rfl, t, rfl⟩)
theorem m_init_loop {g : EG} {p : Program} {e : Env} {s : State} {m : MethodId} {args : Array Value} {below : List Frame} {meth : Method} {c : Code} {R : Room} {A : Nat → Prop} {Q : State → Prop} (F : FB g mdX2_init p s m args meth c) {mo : Nat} {mr : Nat → Nat} {mnd mgv mcu mck mcl msh : Int32} {mhh : Int64} {mnu mpa mfa mti mpo mle mde msr mtl mtx mcp mns : Nat → Int32} {kc ks : Nat}
    (kend : ∀ f : Nat → Int32, (∀ j, j < 5 → f j = (-7)) → Bx g mdX2_init p e s m args below meth c R A Q kc ks 156 [some (.ref mo), some (.int (nI 5))] [] (wM g mo mr mnd mgv mcu mck mcl msh mhh mnu mpa mfa mti mpo mle mde msr mtl mtx mcp f mns)) :
    ∀ (n k : Nat) (f : Nat → Int32), k + n = 5 → (∀ j, j < k → f j = (-7)) → Bx g mdX2_init p e s m args below meth c R A Q kc ks 137 [some (.ref mo), some (.int (nI k))] [] (wM g mo mr mnd mgv mcu mck mcl msh mhh mnu mpa mfa mti mpo mle mde msr mtl mtx mcp f mns) := by
  intro n
  induction n with
  | zero =>
    intro k f hk hf
    have hk5 : k = 5 := by omega
    subst hk5
    refine b_iload_n F (pc' := 138) dX2_init_137 rfl rfl ?_
    refine b_iconst F (pc' := 139) (v := nI 5) dX2_init_138 rfl (by decide) ?_
    refine b_icmp_ge F (tgt := 156) (pc' := 142) dX2_init_139 (by decide) rfl (fun _ => kend f hf) (fun h => absurd (by decide) h)
  | succ n ih =>
    intro k f hk hf
    refine b_iload_n F (pc' := 138) dX2_init_137 rfl rfl ?_
    refine b_iconst F (pc' := 139) (v := nI 5) dX2_init_138 rfl (by decide) ?_
    refine b_icmp_ge F (tgt := 156) (pc' := 142) dX2_init_139 (by decide) rfl (fun h => absurd h (nI_ge (by omega) (by decide))) (fun _ => ?_)
    refine b_aload_n F (pc' := 143) dX2_init_142 rfl rfl ?_
    refine b_get F (pc' := 146) inX2 0 16 rfl rfl (by decide) flX2_mark rfl dX2_init_143 rfl ?_
    refine b_iload_n F (pc' := 147) dX2_init_146 rfl rfl ?_
    refine b_bipush F (pc' := 149) (v := (-7)) dX2_init_147 rfl (by decide) ?_
    refine b_iast F (pc' := 150) 12 rfl (show k < 5 by omega) (by decide) dX2_init_149 rfl (ws' := wM g mo mr mnd mgv mcu mck mcl msh mhh mnu mpa mfa mti mpo mle mde msr mtl mtx mcp (upd f k (-7)) mns) rfl ?_
    refine b_iinc F (pc' := 153) (lv' := [_, _]) dX2_init_150 rfl rfl (nI_1 k) (by decide) (by intro w hw; right; have hw := Option.some.inj (Option.some.inj hw); subst hw; rfl) rfl ?_
    refine b_goto F (pc' := 137) dX2_init_153 (by decide) ?_
    refine ih (k + 1) _ (by omega) (fun j hj => ?_)
    unfold upd
    by_cases h : j = k
    · rw [if_pos h]
    · rw [if_neg h]; exact hf j (by omega)
abbrev refN (mo : Nat) : va_W := [(mo, .inr (2, [.int 0, .int 0, .null, .null, .null, .null, .null, .null, .null, .null, .null, .null, .int 0, .int 0, .int 0, .null, .null, .null, .int 0, .long 0]))]
set_option maxHeartbeats 4000000 in
theorem c_minit {g : EG} (mo : Nat) : RetA g mdX2_init [.ref mo] (refN mo) 13 1313 (fun v w => v = none ∧ ∃ mr, isM g mo mr S00 w) := by
  refine RetA.of [some (.ref mo), none] 1 (by decide) rfl (Nat.le_of_ble_eq_true rfl) rfl (fun p e s m args below meth c A F hmn hA => ?_)
  refine b_aload_n F (pc' := 1) dX2_init_0 rfl rfl ?_
  refine b_objInit F (pc' := 4) wd_oX2 wd_oi wd_oc ⟨by decide, by decide⟩ (Nat.le_of_ble_eq_true rfl) dX2_init_1 rfl ?_
  refine b_aload_n F (pc' := 5) dX2_init_4 rfl rfl ?_
  refine b_iconst F (pc' := 6) (v := nI 1) dX2_init_5 rfl (by decide) ?_
  refine b_put F (pc' := 9) inX2 tyX2_ok nmX2 0 0 rfl rfl (by decide) flX2_nodes rfl rfl rfl (show 0 < 20 by decide) dX2_init_6 rfl (ws' := [(mo, .inr (2, [.int (nI 1), .int 0, .null, .null, .null, .null, .null, .null, .null, .null, .null, .null, .int 0, .int 0, .int 0, .null, .null, .null, .int 0, .long 0]))]) rfl ?_
  refine b_aload_n F (pc' := 10) dX2_init_9 rfl rfl ?_
  refine b_iconst F (pc' := 11) (v := nI 1) dX2_init_10 rfl (by decide) ?_
  refine b_put F (pc' := 14) inX2 tyX2_ok nmX2 0 1 rfl rfl (by decide) flX2_given rfl rfl rfl (show 1 < 20 by decide) dX2_init_11 rfl (ws' := [(mo, .inr (2, [.int (nI 1), .int (nI 1), .null, .null, .null, .null, .null, .null, .null, .null, .null, .null, .int 0, .int 0, .int 0, .null, .null, .null, .int 0, .long 0]))]) rfl ?_
  refine b_aload_n F (pc' := 15) dX2_init_14 rfl rfl ?_
  refine b_bipush F (pc' := 17) (v := nI 24) dX2_init_15 rfl (by decide) ?_
  refine b_newI F (pc' := 19) hA wd_aint (by decide) (N' := 24) (by decide) (by decide) (by decide) (by decide) dX2_init_17 rfl (fun a0 => ?_)
  refine Bx.eq (ws2 := [(mo, .inr (2, [.int (nI 1), .int (nI 1), .null, .null, .null, .null, .null, .null, .null, .null, .null, .null, .int 0, .int 0, .int 0, .null, .null, .null, .int 0, .long 0])), (a0, .inl (g.2.2.2.1, 24, .inl (fun _ => 0)))]) (kc2 := 1) (ks2 := 24) rfl rfl rfl rfl rfl ?_
  refine b_putF F (pc' := 22) hmn inX2 tyX2_ok nmX2 0 2 rfl rfl (by decide) flX2_number rfl rfl rfl rfl (show 2 < 20 by decide) dX2_init_19 rfl (ws' := [(mo, .inr (2, [.int (nI 1), .int (nI 1), .ref a0, .null, .null, .null, .null, .null, .null, .null, .null, .null, .int 0, .int 0, .int 0, .null, .null, .null, .int 0, .long 0])), (a0, .inl (g.2.2.2.1, 24, .inl (fun _ => 0)))]) rfl ?_
  refine b_aload_n F (pc' := 23) dX2_init_22 rfl rfl ?_
  refine b_bipush F (pc' := 25) (v := nI 24) dX2_init_23 rfl (by decide) ?_
  refine b_newI F (pc' := 27) hA wd_aint (by decide) (N' := 24) (by decide) (by decide) (by decide) (by decide) dX2_init_25 rfl (fun a1 => ?_)
  refine Bx.eq (ws2 := [(mo, .inr (2, [.int (nI 1), .int (nI 1), .ref a0, .null, .null, .null, .null, .null, .null, .null, .null, .null, .int 0, .int 0, .int 0, .null, .null, .null, .int 0, .long 0])), (a0, .inl (g.2.2.2.1, 24, .inl (fun _ => 0))), (a1, .inl (g.2.2.2.1, 24, .inl (fun _ => 0)))]) (kc2 := 2) (ks2 := 48) rfl rfl rfl rfl rfl ?_
  refine b_putF F (pc' := 30) hmn inX2 tyX2_ok nmX2 0 3 rfl rfl (by decide) flX2_parent rfl rfl rfl rfl (show 3 < 20 by decide) dX2_init_27 rfl (ws' := [(mo, .inr (2, [.int (nI 1), .int (nI 1), .ref a0, .ref a1, .null, .null, .null, .null, .null, .null, .null, .null, .int 0, .int 0, .int 0, .null, .null, .null, .int 0, .long 0])), (a0, .inl (g.2.2.2.1, 24, .inl (fun _ => 0))), (a1, .inl (g.2.2.2.1, 24, .inl (fun _ => 0)))]) rfl ?_
  refine b_aload_n F (pc' := 31) dX2_init_30 rfl rfl ?_
  refine b_bipush F (pc' := 33) (v := nI 24) dX2_init_31 rfl (by decide) ?_
  refine b_newI F (pc' := 35) hA wd_aint (by decide) (N' := 24) (by decide) (by decide) (by decide) (by decide) dX2_init_33 rfl (fun a2 => ?_)
  refine Bx.eq (ws2 := [(mo, .inr (2, [.int (nI 1), .int (nI 1), .ref a0, .ref a1, .null, .null, .null, .null, .null, .null, .null, .null, .int 0, .int 0, .int 0, .null, .null, .null, .int 0, .long 0])), (a0, .inl (g.2.2.2.1, 24, .inl (fun _ => 0))), (a1, .inl (g.2.2.2.1, 24, .inl (fun _ => 0))), (a2, .inl (g.2.2.2.1, 24, .inl (fun _ => 0)))]) (kc2 := 3) (ks2 := 72) rfl rfl rfl rfl rfl ?_
  refine b_putF F (pc' := 38) hmn inX2 tyX2_ok nmX2 0 4 rfl rfl (by decide) flX2_favourite rfl rfl rfl rfl (show 4 < 20 by decide) dX2_init_35 rfl (ws' := [(mo, .inr (2, [.int (nI 1), .int (nI 1), .ref a0, .ref a1, .ref a2, .null, .null, .null, .null, .null, .null, .null, .int 0, .int 0, .int 0, .null, .null, .null, .int 0, .long 0])), (a0, .inl (g.2.2.2.1, 24, .inl (fun _ => 0))), (a1, .inl (g.2.2.2.1, 24, .inl (fun _ => 0))), (a2, .inl (g.2.2.2.1, 24, .inl (fun _ => 0)))]) rfl ?_
  refine b_aload_n F (pc' := 39) dX2_init_38 rfl rfl ?_
  refine b_bipush F (pc' := 41) (v := nI 24) dX2_init_39 rfl (by decide) ?_
  refine b_newI F (pc' := 43) hA wd_aint (by decide) (N' := 24) (by decide) (by decide) (by decide) (by decide) dX2_init_41 rfl (fun a3 => ?_)
  refine Bx.eq (ws2 := [(mo, .inr (2, [.int (nI 1), .int (nI 1), .ref a0, .ref a1, .ref a2, .null, .null, .null, .null, .null, .null, .null, .int 0, .int 0, .int 0, .null, .null, .null, .int 0, .long 0])), (a0, .inl (g.2.2.2.1, 24, .inl (fun _ => 0))), (a1, .inl (g.2.2.2.1, 24, .inl (fun _ => 0))), (a2, .inl (g.2.2.2.1, 24, .inl (fun _ => 0))), (a3, .inl (g.2.2.2.1, 24, .inl (fun _ => 0)))]) (kc2 := 4) (ks2 := 96) rfl rfl rfl rfl rfl ?_
  refine b_putF F (pc' := 46) hmn inX2 tyX2_ok nmX2 0 5 rfl rfl (by decide) flX2_time rfl rfl rfl rfl (show 5 < 20 by decide) dX2_init_43 rfl (ws' := [(mo, .inr (2, [.int (nI 1), .int (nI 1), .ref a0, .ref a1, .ref a2, .ref a3, .null, .null, .null, .null, .null, .null, .int 0, .int 0, .int 0, .null, .null, .null, .int 0, .long 0])), (a0, .inl (g.2.2.2.1, 24, .inl (fun _ => 0))), (a1, .inl (g.2.2.2.1, 24, .inl (fun _ => 0))), (a2, .inl (g.2.2.2.1, 24, .inl (fun _ => 0))), (a3, .inl (g.2.2.2.1, 24, .inl (fun _ => 0)))]) rfl ?_
  refine b_aload_n F (pc' := 47) dX2_init_46 rfl rfl ?_
  refine b_bipush F (pc' := 49) (v := nI 24) dX2_init_47 rfl (by decide) ?_
  refine b_newI F (pc' := 51) hA wd_aint (by decide) (N' := 24) (by decide) (by decide) (by decide) (by decide) dX2_init_49 rfl (fun a4 => ?_)
  refine Bx.eq (ws2 := [(mo, .inr (2, [.int (nI 1), .int (nI 1), .ref a0, .ref a1, .ref a2, .ref a3, .null, .null, .null, .null, .null, .null, .int 0, .int 0, .int 0, .null, .null, .null, .int 0, .long 0])), (a0, .inl (g.2.2.2.1, 24, .inl (fun _ => 0))), (a1, .inl (g.2.2.2.1, 24, .inl (fun _ => 0))), (a2, .inl (g.2.2.2.1, 24, .inl (fun _ => 0))), (a3, .inl (g.2.2.2.1, 24, .inl (fun _ => 0))), (a4, .inl (g.2.2.2.1, 24, .inl (fun _ => 0)))]) (kc2 := 5) (ks2 := 120) rfl rfl rfl rfl rfl ?_
  refine b_putF F (pc' := 54) hmn inX2 tyX2_ok nmX2 0 6 rfl rfl (by decide) flX2_position rfl rfl rfl rfl (show 6 < 20 by decide) dX2_init_51 rfl (ws' := [(mo, .inr (2, [.int (nI 1), .int (nI 1), .ref a0, .ref a1, .ref a2, .ref a3, .ref a4, .null, .null, .null, .null, .null, .int 0, .int 0, .int 0, .null, .null, .null, .int 0, .long 0])), (a0, .inl (g.2.2.2.1, 24, .inl (fun _ => 0))), (a1, .inl (g.2.2.2.1, 24, .inl (fun _ => 0))), (a2, .inl (g.2.2.2.1, 24, .inl (fun _ => 0))), (a3, .inl (g.2.2.2.1, 24, .inl (fun _ => 0))), (a4, .inl (g.2.2.2.1, 24, .inl (fun _ => 0)))]) rfl ?_
  refine b_aload_n F (pc' := 55) dX2_init_54 rfl rfl ?_
  refine b_bipush F (pc' := 57) (v := nI 24) dX2_init_55 rfl (by decide) ?_
  refine b_newI F (pc' := 59) hA wd_aint (by decide) (N' := 24) (by decide) (by decide) (by decide) (by decide) dX2_init_57 rfl (fun a5 => ?_)
  refine Bx.eq (ws2 := [(mo, .inr (2, [.int (nI 1), .int (nI 1), .ref a0, .ref a1, .ref a2, .ref a3, .ref a4, .null, .null, .null, .null, .null, .int 0, .int 0, .int 0, .null, .null, .null, .int 0, .long 0])), (a0, .inl (g.2.2.2.1, 24, .inl (fun _ => 0))), (a1, .inl (g.2.2.2.1, 24, .inl (fun _ => 0))), (a2, .inl (g.2.2.2.1, 24, .inl (fun _ => 0))), (a3, .inl (g.2.2.2.1, 24, .inl (fun _ => 0))), (a4, .inl (g.2.2.2.1, 24, .inl (fun _ => 0))), (a5, .inl (g.2.2.2.1, 24, .inl (fun _ => 0)))]) (kc2 := 6) (ks2 := 144) rfl rfl rfl rfl rfl ?_
  refine b_putF F (pc' := 62) hmn inX2 tyX2_ok nmX2 0 7 rfl rfl (by decide) flX2_length rfl rfl rfl rfl (show 7 < 20 by decide) dX2_init_59 rfl (ws' := [(mo, .inr (2, [.int (nI 1), .int (nI 1), .ref a0, .ref a1, .ref a2, .ref a3, .ref a4, .ref a5, .null, .null, .null, .null, .int 0, .int 0, .int 0, .null, .null, .null, .int 0, .long 0])), (a0, .inl (g.2.2.2.1, 24, .inl (fun _ => 0))), (a1, .inl (g.2.2.2.1, 24, .inl (fun _ => 0))), (a2, .inl (g.2.2.2.1, 24, .inl (fun _ => 0))), (a3, .inl (g.2.2.2.1, 24, .inl (fun _ => 0))), (a4, .inl (g.2.2.2.1, 24, .inl (fun _ => 0))), (a5, .inl (g.2.2.2.1, 24, .inl (fun _ => 0)))]) rfl ?_
  refine b_aload_n F (pc' := 63) dX2_init_62 rfl rfl ?_
  refine b_bipush F (pc' := 65) (v := nI 24) dX2_init_63 rfl (by decide) ?_
  refine b_newZ F (pc' := 67) hA wd_aboolean (by decide) (N' := 24) (by decide) (by decide) (by decide) (by decide) dX2_init_65 rfl (fun a6 => ?_)
  refine Bx.eq (ws2 := [(mo, .inr (2, [.int (nI 1), .int (nI 1), .ref a0, .ref a1, .ref a2, .ref a3, .ref a4, .ref a5, .null, .null, .null, .null, .int 0, .int 0, .int 0, .null, .null, .null, .int 0, .long 0])), (a0, .inl (g.2.2.2.1, 24, .inl (fun _ => 0))), (a1, .inl (g.2.2.2.1, 24, .inl (fun _ => 0))), (a2, .inl (g.2.2.2.1, 24, .inl (fun _ => 0))), (a3, .inl (g.2.2.2.1, 24, .inl (fun _ => 0))), (a4, .inl (g.2.2.2.1, 24, .inl (fun _ => 0))), (a5, .inl (g.2.2.2.1, 24, .inl (fun _ => 0))), (a6, .inl (g.2.2.2.2.1, 24, .inl (fun _ => 0)))]) (kc2 := 7) (ks2 := 168) rfl rfl rfl rfl rfl ?_
  refine b_putF F (pc' := 70) hmn inX2 tyX2_ok nmX2 0 8 rfl rfl (by decide) flX2_deletes rfl rfl rfl rfl (show 8 < 20 by decide) dX2_init_67 rfl (ws' := [(mo, .inr (2, [.int (nI 1), .int (nI 1), .ref a0, .ref a1, .ref a2, .ref a3, .ref a4, .ref a5, .ref a6, .null, .null, .null, .int 0, .int 0, .int 0, .null, .null, .null, .int 0, .long 0])), (a0, .inl (g.2.2.2.1, 24, .inl (fun _ => 0))), (a1, .inl (g.2.2.2.1, 24, .inl (fun _ => 0))), (a2, .inl (g.2.2.2.1, 24, .inl (fun _ => 0))), (a3, .inl (g.2.2.2.1, 24, .inl (fun _ => 0))), (a4, .inl (g.2.2.2.1, 24, .inl (fun _ => 0))), (a5, .inl (g.2.2.2.1, 24, .inl (fun _ => 0))), (a6, .inl (g.2.2.2.2.1, 24, .inl (fun _ => 0)))]) rfl ?_
  refine b_aload_n F (pc' := 71) dX2_init_70 rfl rfl ?_
  refine b_sipush F (pc' := 74) (v := nI 144) dX2_init_71 rfl (by decide) ?_
  refine b_newI F (pc' := 76) hA wd_aint (by decide) (N' := 144) (by decide) (by decide) (by decide) (by decide) dX2_init_74 rfl (fun a7 => ?_)
  refine Bx.eq (ws2 := [(mo, .inr (2, [.int (nI 1), .int (nI 1), .ref a0, .ref a1, .ref a2, .ref a3, .ref a4, .ref a5, .ref a6, .null, .null, .null, .int 0, .int 0, .int 0, .null, .null, .null, .int 0, .long 0])), (a0, .inl (g.2.2.2.1, 24, .inl (fun _ => 0))), (a1, .inl (g.2.2.2.1, 24, .inl (fun _ => 0))), (a2, .inl (g.2.2.2.1, 24, .inl (fun _ => 0))), (a3, .inl (g.2.2.2.1, 24, .inl (fun _ => 0))), (a4, .inl (g.2.2.2.1, 24, .inl (fun _ => 0))), (a5, .inl (g.2.2.2.1, 24, .inl (fun _ => 0))), (a6, .inl (g.2.2.2.2.1, 24, .inl (fun _ => 0))), (a7, .inl (g.2.2.2.1, 144, .inl (fun _ => 0)))]) (kc2 := 8) (ks2 := 312) rfl rfl rfl rfl rfl ?_
  refine b_putF F (pc' := 79) hmn inX2 tyX2_ok nmX2 0 9 rfl rfl (by decide) flX2_string rfl rfl rfl rfl (show 9 < 20 by decide) dX2_init_76 rfl (ws' := [(mo, .inr (2, [.int (nI 1), .int (nI 1), .ref a0, .ref a1, .ref a2, .ref a3, .ref a4, .ref a5, .ref a6, .ref a7, .null, .null, .int 0, .int 0, .int 0, .null, .null, .null, .int 0, .long 0])), (a0, .inl (g.2.2.2.1, 24, .inl (fun _ => 0))), (a1, .inl (g.2.2.2.1, 24, .inl (fun _ => 0))), (a2, .inl (g.2.2.2.1, 24, .inl (fun _ => 0))), (a3, .inl (g.2.2.2.1, 24, .inl (fun _ => 0))), (a4, .inl (g.2.2.2.1, 24, .inl (fun _ => 0))), (a5, .inl (g.2.2.2.1, 24, .inl (fun _ => 0))), (a6, .inl (g.2.2.2.2.1, 24, .inl (fun _ => 0))), (a7, .inl (g.2.2.2.1, 144, .inl (fun _ => 0)))]) rfl ?_
  refine b_aload_n F (pc' := 80) dX2_init_79 rfl rfl ?_
  refine b_bipush F (pc' := 82) (v := nI 24) dX2_init_80 rfl (by decide) ?_
  refine b_newI F (pc' := 84) hA wd_aint (by decide) (N' := 24) (by decide) (by decide) (by decide) (by decide) dX2_init_82 rfl (fun a8 => ?_)
  refine Bx.eq (ws2 := [(mo, .inr (2, [.int (nI 1), .int (nI 1), .ref a0, .ref a1, .ref a2, .ref a3, .ref a4, .ref a5, .ref a6, .ref a7, .null, .null, .int 0, .int 0, .int 0, .null, .null, .null, .int 0, .long 0])), (a0, .inl (g.2.2.2.1, 24, .inl (fun _ => 0))), (a1, .inl (g.2.2.2.1, 24, .inl (fun _ => 0))), (a2, .inl (g.2.2.2.1, 24, .inl (fun _ => 0))), (a3, .inl (g.2.2.2.1, 24, .inl (fun _ => 0))), (a4, .inl (g.2.2.2.1, 24, .inl (fun _ => 0))), (a5, .inl (g.2.2.2.1, 24, .inl (fun _ => 0))), (a6, .inl (g.2.2.2.2.1, 24, .inl (fun _ => 0))), (a7, .inl (g.2.2.2.1, 144, .inl (fun _ => 0))), (a8, .inl (g.2.2.2.1, 24, .inl (fun _ => 0)))]) (kc2 := 9) (ks2 := 336) rfl rfl rfl rfl rfl ?_
  refine b_putF F (pc' := 87) hmn inX2 tyX2_ok nmX2 0 10 rfl rfl (by decide) flX2_textLength rfl rfl rfl rfl (show 10 < 20 by decide) dX2_init_84 rfl (ws' := [(mo, .inr (2, [.int (nI 1), .int (nI 1), .ref a0, .ref a1, .ref a2, .ref a3, .ref a4, .ref a5, .ref a6, .ref a7, .ref a8, .null, .int 0, .int 0, .int 0, .null, .null, .null, .int 0, .long 0])), (a0, .inl (g.2.2.2.1, 24, .inl (fun _ => 0))), (a1, .inl (g.2.2.2.1, 24, .inl (fun _ => 0))), (a2, .inl (g.2.2.2.1, 24, .inl (fun _ => 0))), (a3, .inl (g.2.2.2.1, 24, .inl (fun _ => 0))), (a4, .inl (g.2.2.2.1, 24, .inl (fun _ => 0))), (a5, .inl (g.2.2.2.1, 24, .inl (fun _ => 0))), (a6, .inl (g.2.2.2.2.1, 24, .inl (fun _ => 0))), (a7, .inl (g.2.2.2.1, 144, .inl (fun _ => 0))), (a8, .inl (g.2.2.2.1, 24, .inl (fun _ => 0)))]) rfl ?_
  refine b_aload_n F (pc' := 88) dX2_init_87 rfl rfl ?_
  refine b_sipush F (pc' := 91) (v := nI 960) dX2_init_88 rfl (by decide) ?_
  refine b_newI F (pc' := 93) hA wd_aint (by decide) (N' := 960) (by decide) (by decide) (by decide) (by decide) dX2_init_91 rfl (fun a9 => ?_)
  refine Bx.eq (ws2 := [(mo, .inr (2, [.int (nI 1), .int (nI 1), .ref a0, .ref a1, .ref a2, .ref a3, .ref a4, .ref a5, .ref a6, .ref a7, .ref a8, .null, .int 0, .int 0, .int 0, .null, .null, .null, .int 0, .long 0])), (a0, .inl (g.2.2.2.1, 24, .inl (fun _ => 0))), (a1, .inl (g.2.2.2.1, 24, .inl (fun _ => 0))), (a2, .inl (g.2.2.2.1, 24, .inl (fun _ => 0))), (a3, .inl (g.2.2.2.1, 24, .inl (fun _ => 0))), (a4, .inl (g.2.2.2.1, 24, .inl (fun _ => 0))), (a5, .inl (g.2.2.2.1, 24, .inl (fun _ => 0))), (a6, .inl (g.2.2.2.2.1, 24, .inl (fun _ => 0))), (a7, .inl (g.2.2.2.1, 144, .inl (fun _ => 0))), (a8, .inl (g.2.2.2.1, 24, .inl (fun _ => 0))), (a9, .inl (g.2.2.2.1, 960, .inl (fun _ => 0)))]) (kc2 := 10) (ks2 := 1296) rfl rfl rfl rfl rfl ?_
  refine b_putF F (pc' := 96) hmn inX2 tyX2_ok nmX2 0 11 rfl rfl (by decide) flX2_text rfl rfl rfl rfl (show 11 < 20 by decide) dX2_init_93 rfl (ws' := [(mo, .inr (2, [.int (nI 1), .int (nI 1), .ref a0, .ref a1, .ref a2, .ref a3, .ref a4, .ref a5, .ref a6, .ref a7, .ref a8, .ref a9, .int 0, .int 0, .int 0, .null, .null, .null, .int 0, .long 0])), (a0, .inl (g.2.2.2.1, 24, .inl (fun _ => 0))), (a1, .inl (g.2.2.2.1, 24, .inl (fun _ => 0))), (a2, .inl (g.2.2.2.1, 24, .inl (fun _ => 0))), (a3, .inl (g.2.2.2.1, 24, .inl (fun _ => 0))), (a4, .inl (g.2.2.2.1, 24, .inl (fun _ => 0))), (a5, .inl (g.2.2.2.1, 24, .inl (fun _ => 0))), (a6, .inl (g.2.2.2.2.1, 24, .inl (fun _ => 0))), (a7, .inl (g.2.2.2.1, 144, .inl (fun _ => 0))), (a8, .inl (g.2.2.2.1, 24, .inl (fun _ => 0))), (a9, .inl (g.2.2.2.1, 960, .inl (fun _ => 0)))]) rfl ?_
  refine b_aload_n F (pc' := 97) dX2_init_96 rfl rfl ?_
  refine b_bipush F (pc' := 99) (v := nI 6) dX2_init_97 rfl (by decide) ?_
  refine b_newI F (pc' := 101) hA wd_aint (by decide) (N' := 6) (by decide) (by decide) (by decide) (by decide) dX2_init_99 rfl (fun a10 => ?_)
  refine Bx.eq (ws2 := [(mo, .inr (2, [.int (nI 1), .int (nI 1), .ref a0, .ref a1, .ref a2, .ref a3, .ref a4, .ref a5, .ref a6, .ref a7, .ref a8, .ref a9, .int 0, .int 0, .int 0, .null, .null, .null, .int 0, .long 0])), (a0, .inl (g.2.2.2.1, 24, .inl (fun _ => 0))), (a1, .inl (g.2.2.2.1, 24, .inl (fun _ => 0))), (a2, .inl (g.2.2.2.1, 24, .inl (fun _ => 0))), (a3, .inl (g.2.2.2.1, 24, .inl (fun _ => 0))), (a4, .inl (g.2.2.2.1, 24, .inl (fun _ => 0))), (a5, .inl (g.2.2.2.1, 24, .inl (fun _ => 0))), (a6, .inl (g.2.2.2.2.1, 24, .inl (fun _ => 0))), (a7, .inl (g.2.2.2.1, 144, .inl (fun _ => 0))), (a8, .inl (g.2.2.2.1, 24, .inl (fun _ => 0))), (a9, .inl (g.2.2.2.1, 960, .inl (fun _ => 0))), (a10, .inl (g.2.2.2.1, 6, .inl (fun _ => 0)))]) (kc2 := 11) (ks2 := 1302) rfl rfl rfl rfl rfl ?_
  refine b_putF F (pc' := 104) hmn inX2 tyX2_ok nmX2 0 15 rfl rfl (by decide) flX2_clip rfl rfl rfl rfl (show 15 < 20 by decide) dX2_init_101 rfl (ws' := [(mo, .inr (2, [.int (nI 1), .int (nI 1), .ref a0, .ref a1, .ref a2, .ref a3, .ref a4, .ref a5, .ref a6, .ref a7, .ref a8, .ref a9, .int 0, .int 0, .int 0, .ref a10, .null, .null, .int 0, .long 0])), (a0, .inl (g.2.2.2.1, 24, .inl (fun _ => 0))), (a1, .inl (g.2.2.2.1, 24, .inl (fun _ => 0))), (a2, .inl (g.2.2.2.1, 24, .inl (fun _ => 0))), (a3, .inl (g.2.2.2.1, 24, .inl (fun _ => 0))), (a4, .inl (g.2.2.2.1, 24, .inl (fun _ => 0))), (a5, .inl (g.2.2.2.1, 24, .inl (fun _ => 0))), (a6, .inl (g.2.2.2.2.1, 24, .inl (fun _ => 0))), (a7, .inl (g.2.2.2.1, 144, .inl (fun _ => 0))), (a8, .inl (g.2.2.2.1, 24, .inl (fun _ => 0))), (a9, .inl (g.2.2.2.1, 960, .inl (fun _ => 0))), (a10, .inl (g.2.2.2.1, 6, .inl (fun _ => 0)))]) rfl ?_
  refine b_aload_n F (pc' := 105) dX2_init_104 rfl rfl ?_
  refine b_iconst F (pc' := 106) (v := nI 5) dX2_init_105 rfl (by decide) ?_
  refine b_newI F (pc' := 108) hA wd_aint (by decide) (N' := 5) (by decide) (by decide) (by decide) (by decide) dX2_init_106 rfl (fun a11 => ?_)
  refine Bx.eq (ws2 := [(mo, .inr (2, [.int (nI 1), .int (nI 1), .ref a0, .ref a1, .ref a2, .ref a3, .ref a4, .ref a5, .ref a6, .ref a7, .ref a8, .ref a9, .int 0, .int 0, .int 0, .ref a10, .null, .null, .int 0, .long 0])), (a0, .inl (g.2.2.2.1, 24, .inl (fun _ => 0))), (a1, .inl (g.2.2.2.1, 24, .inl (fun _ => 0))), (a2, .inl (g.2.2.2.1, 24, .inl (fun _ => 0))), (a3, .inl (g.2.2.2.1, 24, .inl (fun _ => 0))), (a4, .inl (g.2.2.2.1, 24, .inl (fun _ => 0))), (a5, .inl (g.2.2.2.1, 24, .inl (fun _ => 0))), (a6, .inl (g.2.2.2.2.1, 24, .inl (fun _ => 0))), (a7, .inl (g.2.2.2.1, 144, .inl (fun _ => 0))), (a8, .inl (g.2.2.2.1, 24, .inl (fun _ => 0))), (a9, .inl (g.2.2.2.1, 960, .inl (fun _ => 0))), (a10, .inl (g.2.2.2.1, 6, .inl (fun _ => 0))), (a11, .inl (g.2.2.2.1, 5, .inl (fun _ => 0)))]) (kc2 := 12) (ks2 := 1307) rfl rfl rfl rfl rfl ?_
  refine b_putF F (pc' := 111) hmn inX2 tyX2_ok nmX2 0 16 rfl rfl (by decide) flX2_mark rfl rfl rfl rfl (show 16 < 20 by decide) dX2_init_108 rfl (ws' := [(mo, .inr (2, [.int (nI 1), .int (nI 1), .ref a0, .ref a1, .ref a2, .ref a3, .ref a4, .ref a5, .ref a6, .ref a7, .ref a8, .ref a9, .int 0, .int 0, .int 0, .ref a10, .ref a11, .null, .int 0, .long 0])), (a0, .inl (g.2.2.2.1, 24, .inl (fun _ => 0))), (a1, .inl (g.2.2.2.1, 24, .inl (fun _ => 0))), (a2, .inl (g.2.2.2.1, 24, .inl (fun _ => 0))), (a3, .inl (g.2.2.2.1, 24, .inl (fun _ => 0))), (a4, .inl (g.2.2.2.1, 24, .inl (fun _ => 0))), (a5, .inl (g.2.2.2.1, 24, .inl (fun _ => 0))), (a6, .inl (g.2.2.2.2.1, 24, .inl (fun _ => 0))), (a7, .inl (g.2.2.2.1, 144, .inl (fun _ => 0))), (a8, .inl (g.2.2.2.1, 24, .inl (fun _ => 0))), (a9, .inl (g.2.2.2.1, 960, .inl (fun _ => 0))), (a10, .inl (g.2.2.2.1, 6, .inl (fun _ => 0))), (a11, .inl (g.2.2.2.1, 5, .inl (fun _ => 0)))]) rfl ?_
  refine b_aload_n F (pc' := 112) dX2_init_111 rfl rfl ?_
  refine b_bipush F (pc' := 114) (v := nI 6) dX2_init_112 rfl (by decide) ?_
  refine b_newI F (pc' := 116) hA wd_aint (by decide) (N' := 6) (by decide) (by decide) (by decide) (by decide) dX2_init_114 rfl (fun a12 => ?_)
  refine Bx.eq (ws2 := [(mo, .inr (2, [.int (nI 1), .int (nI 1), .ref a0, .ref a1, .ref a2, .ref a3, .ref a4, .ref a5, .ref a6, .ref a7, .ref a8, .ref a9, .int 0, .int 0, .int 0, .ref a10, .ref a11, .null, .int 0, .long 0])), (a0, .inl (g.2.2.2.1, 24, .inl (fun _ => 0))), (a1, .inl (g.2.2.2.1, 24, .inl (fun _ => 0))), (a2, .inl (g.2.2.2.1, 24, .inl (fun _ => 0))), (a3, .inl (g.2.2.2.1, 24, .inl (fun _ => 0))), (a4, .inl (g.2.2.2.1, 24, .inl (fun _ => 0))), (a5, .inl (g.2.2.2.1, 24, .inl (fun _ => 0))), (a6, .inl (g.2.2.2.2.1, 24, .inl (fun _ => 0))), (a7, .inl (g.2.2.2.1, 144, .inl (fun _ => 0))), (a8, .inl (g.2.2.2.1, 24, .inl (fun _ => 0))), (a9, .inl (g.2.2.2.1, 960, .inl (fun _ => 0))), (a10, .inl (g.2.2.2.1, 6, .inl (fun _ => 0))), (a11, .inl (g.2.2.2.1, 5, .inl (fun _ => 0))), (a12, .inl (g.2.2.2.1, 6, .inl (fun _ => 0)))]) (kc2 := 13) (ks2 := 1313) rfl rfl rfl rfl rfl ?_
  refine b_putF F (pc' := 119) hmn inX2 tyX2_ok nmX2 0 17 rfl rfl (by decide) flX2_newString rfl rfl rfl rfl (show 17 < 20 by decide) dX2_init_116 rfl (ws' := [(mo, .inr (2, [.int (nI 1), .int (nI 1), .ref a0, .ref a1, .ref a2, .ref a3, .ref a4, .ref a5, .ref a6, .ref a7, .ref a8, .ref a9, .int 0, .int 0, .int 0, .ref a10, .ref a11, .ref a12, .int 0, .long 0])), (a0, .inl (g.2.2.2.1, 24, .inl (fun _ => 0))), (a1, .inl (g.2.2.2.1, 24, .inl (fun _ => 0))), (a2, .inl (g.2.2.2.1, 24, .inl (fun _ => 0))), (a3, .inl (g.2.2.2.1, 24, .inl (fun _ => 0))), (a4, .inl (g.2.2.2.1, 24, .inl (fun _ => 0))), (a5, .inl (g.2.2.2.1, 24, .inl (fun _ => 0))), (a6, .inl (g.2.2.2.2.1, 24, .inl (fun _ => 0))), (a7, .inl (g.2.2.2.1, 144, .inl (fun _ => 0))), (a8, .inl (g.2.2.2.1, 24, .inl (fun _ => 0))), (a9, .inl (g.2.2.2.1, 960, .inl (fun _ => 0))), (a10, .inl (g.2.2.2.1, 6, .inl (fun _ => 0))), (a11, .inl (g.2.2.2.1, 5, .inl (fun _ => 0))), (a12, .inl (g.2.2.2.1, 6, .inl (fun _ => 0)))]) rfl ?_
  refine Bx.eq (ws2 := (wM g mo (fun k => [a0, a1, a2, a3, a4, a5, a6, a7, a8, a9, a10, a11, a12].getD k 0) (nI 1) (nI 1) 0 0 0 0 0 (fun _ => 0) (fun _ => 0) (fun _ => 0) (fun _ => 0) (fun _ => 0) (fun _ => 0) (fun _ => 0) (fun _ => 0) (fun _ => 0) (fun _ => 0) (fun _ => 0) (fun _ => 0) (fun _ => 0))) rfl rfl rfl rfl rfl ?_
  refine b_aload_n F (pc' := 120) dX2_init_119 rfl rfl ?_
  refine b_get F (pc' := 123) inX2 0 3 rfl rfl (by decide) flX2_parent rfl dX2_init_120 rfl ?_
  refine b_iconst F (pc' := 124) (v := nI 0) dX2_init_123 rfl (by decide) ?_
  refine b_bipush F (pc' := 126) (v := (-7)) dX2_init_124 rfl (by decide) ?_
  refine b_iast F (pc' := 127) 2 rfl (show 0 < 24 by decide) (by decide) dX2_init_126 rfl (ws' := (wM g mo (fun k => [a0, a1, a2, a3, a4, a5, a6, a7, a8, a9, a10, a11, a12].getD k 0) (nI 1) (nI 1) 0 0 0 0 0 (fun _ => 0) (upd (fun _ => 0) 0 (-7)) (fun _ => 0) (fun _ => 0) (fun _ => 0) (fun _ => 0) (fun _ => 0) (fun _ => 0) (fun _ => 0) (fun _ => 0) (fun _ => 0) (fun _ => 0) (fun _ => 0))) rfl ?_
  refine b_aload_n F (pc' := 128) dX2_init_127 rfl rfl ?_
  refine b_get F (pc' := 131) inX2 0 4 rfl rfl (by decide) flX2_favourite rfl dX2_init_128 rfl ?_
  refine b_iconst F (pc' := 132) (v := nI 0) dX2_init_131 rfl (by decide) ?_
  refine b_bipush F (pc' := 134) (v := (-7)) dX2_init_132 rfl (by decide) ?_
  refine b_iast F (pc' := 135) 3 rfl (show 0 < 24 by decide) (by decide) dX2_init_134 rfl (ws' := (wM g mo (fun k => [a0, a1, a2, a3, a4, a5, a6, a7, a8, a9, a10, a11, a12].getD k 0) (nI 1) (nI 1) 0 0 0 0 0 (fun _ => 0) (upd (fun _ => 0) 0 (-7)) (upd (fun _ => 0) 0 (-7)) (fun _ => 0) (fun _ => 0) (fun _ => 0) (fun _ => 0) (fun _ => 0) (fun _ => 0) (fun _ => 0) (fun _ => 0) (fun _ => 0) (fun _ => 0))) rfl ?_
  refine b_iconst F (pc' := 136) (v := nI 0) dX2_init_135 rfl (by decide) ?_
  refine b_istore_n F (pc' := 137) (lv' := [_, _]) dX2_init_136 rfl (by decide) (by intro w hw; right; have hw := Option.some.inj (Option.some.inj hw); subst hw; rfl) rfl ?_
  refine m_init_loop F (fun f hf => ?_) 5 0 _ rfl (fun j hj => absurd hj (Nat.not_lt_zero j))
  refine b_vret F rfl dX2_init_156 (fun _ => ⟨_, List.Perm.refl _, rfl, _, isM.of ?_⟩)
  refine ⟨rfl, rfl, rfl, rfl, rfl, fun a ha => ?_, fun i hi => absurd hi (Nat.not_lt_zero i), fun i hi => hf i hi⟩
  have ha0 : a = 0 := by simpa [S00, sL] using ha
  subst ha0
  exact ⟨rfl, rfl, rfl, rfl, rfl, rfl, rfl, rfl, fun i hi => absurd hi (Nat.not_lt_zero i), fun i hi => absurd hi (Nat.not_lt_zero i)⟩
