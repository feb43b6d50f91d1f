/-! ===== the reference's methods: selective undo ===== -/
section M12
variable {g : EG} {mo : Nat} {mr : Nat → Nat} {mnd mgv mcu mck mcl msh : Int32} {mhh : Int64} {mnu mpa mfa mti mpo mle mde msr mtl mtx mcp mmk mns : Nat → Int32}
variable {S : SS} {N : Nat} {Ph : Option Value → va_W → Prop}
theorem c_refusal (T : Tree S) (hR : RM S mnd mgv mcu mck mcl msh mhh mnu mpa mfa mti mpo mle mde msr mtl mtx mcp mmk mns) (hc : scu S ∈ sL S) (x : Int32) : Ret g mdX2_refusal [.ref mo, .int (lkI S x)] (wM g mo mr mnd mgv mcu mck mcl msh mhh mnu mpa mfa mti mpo mle mde msr mtl mtx mcp mmk mns) (fun r w => r = some (.int (refS S x)) ∧ w = (wM g mo mr mnd mgv mcu mck mcl msh mhh mnu mpa mfa mti mpo mle mde msr mtl mtx mcp mmk mns)) := by
  refine Ret.of [_, _] 0 (by decide) (Nat.le_of_ble_eq_true rfl) rfl ?_
  have e3 := hR.2.2.1
  subst e3
  unfold refS
  refine ev_iload_n (pc' := 1) dX2_refusal_0 rfl rfl ?_
  refine ev_bipush (pc' := 3) (v := (-7)) dX2_refusal_1 rfl (by decide) ?_
  refine ev_icmp_ne (tgt := 9) (pc' := 6) dX2_refusal_3 (by decide) rfl (fun h3 => ?_) (fun h3 => ?_)
  · cases hl : lk S x with
    | none => exact absurd (lkI_none hl) h3
    | some e =>
      have he := (lk_some hl).1
      have hk := ix_lt T he
      rw [lkI_some hl]
      show Ev g mdX2_refusal 9 _ _ _ (fun r w => r = some (.int (if e = 0 ∨ e ∉ path S (scu S) then (-6) else 0)) ∧ w = _)
      refine ev_iload_n (pc' := 10) dX2_refusal_9 rfl rfl ?_
      refine ev_if_eq (tgt := 25) (pc' := 13) dX2_refusal_10 (by decide) rfl (fun h10 => ?_) (fun h10 => ?_)
      · rw [ixz T he] at h10
        rw [if_pos (Or.inl h10)]
        refine ev_bipush (pc' := 27) (v := (-6)) dX2_refusal_25 rfl (by decide) ?_
        refine ev_goto (pc' := 31) dX2_refusal_27 (by decide) ?_
        refine ev_iret rfl dX2_refusal_31 ?_
        exact ⟨rfl, rfl⟩
      · rw [ixz T he] at h10
        refine ev_aload_n (pc' := 14) dX2_refusal_13 rfl rfl ?_
        refine ev_iload_n (pc' := 15) dX2_refusal_14 rfl rfl ?_
        refine ev_aload_n (pc' := 16) dX2_refusal_15 rfl rfl ?_
        refine ev_get inX2 0 12 rfl rfl (by decide) flX2_current rfl (pc' := 19) dX2_refusal_16 rfl ?_
        refine ev_callV (As := [_, _]) coX2_isOnPath 0 rfl rfl (c_isOnPath T hR he hc) rfl (by decide) (by first | exact Nat.le_of_ble_eq_true rfl | simp [Value.category, rf_cat]) dX2_refusal_19 rfl (pc' := 22) rfl (fun v w hq => ?_)
        obtain ⟨rfl, rfl⟩ := hq
        dsimp only [Option.toList, List.cons_append, List.nil_append]
        refine ev_if_ne (tgt := 30) (pc' := 25) dX2_refusal_22 (by decide) rfl (fun h22 => ?_) (fun h22 => ?_)
        · rw [bI_ne, decide_eq_true_eq] at h22
          rw [if_neg (fun q => q.elim h10 (fun z => z h22))]
          refine ev_iconst (pc' := 31) (v := nI 0) dX2_refusal_30 rfl (by decide) ?_
          refine ev_iret rfl dX2_refusal_31 ?_
          exact ⟨rfl, rfl⟩
        · rw [bI_eq, decide_eq_false_iff_not] at h22
          rw [if_pos (Or.inr h22)]
          refine ev_bipush (pc' := 27) (v := (-6)) dX2_refusal_25 rfl (by decide) ?_
          refine ev_goto (pc' := 31) dX2_refusal_27 (by decide) ?_
          refine ev_iret rfl dX2_refusal_31 ?_
          exact ⟨rfl, rfl⟩
  · rw [(lkI_m7 T).mp h3]
    refine ev_bipush (pc' := 8) (v := (-2)) dX2_refusal_6 rfl (by decide) ?_
    refine ev_iret rfl dX2_refusal_8 ?_
    exact ⟨rfl, rfl⟩
theorem anc_loop (T : Tree S) (hR : RM S mnd mgv mcu mck mcl msh mhh mnu mpa mfa mti mpo mle mde msr mtl mtx mcp mmk mns) {d x : Nat} (hd31 : d < 2 ^ 31) {K1 K2 K3 K4 K5 : Int32} (K : Ev g mdX2_shift 72 [some (.ref mo), some (.int K1), some (.int K2), some (.int K3), some (.int K4), some (.int K5), some (.int (nI d)), some (.int (nI (ix S x))), none, none, none, none] [] (wM g mo mr mnd mgv mcu mck mcl msh mhh mnu mpa mfa mti mpo mle mde msr mtl mtx mcp mmk mns) Ph) : ∀ (c : Nat), c ∈ sL S → (dwn S c)[d]? = some x → Ev g mdX2_shift 50 [some (.ref mo), some (.int K1), some (.int K2), some (.int K3), some (.int K4), some (.int K5), some (.int (nI d)), some (.int (nI (ix S c))), none, none, none, none] [] (wM g mo mr mnd mgv mcu mck mcl msh mhh mnu mpa mfa mti mpo mle mde msr mtl mtx mcp mmk mns) Ph := by
  intro c
  induction c using Nat.strongRecOn with
  | ind c ih =>
    intro hc hd
    have hdl := (List.getElem?_eq_some_iff.mp hd).1
    rw [dwn_len] at hdl
    have h1 := dep_le T c hc
    have h2 := T.lt hc
    refine ev_aload_n (pc' := 51) dX2_shift_50 rfl rfl ?_
    refine ev_iload (pc' := 53) dX2_shift_51 rfl rfl ?_
    refine ev_callV (As := [_]) coX2_depth 0 rfl rfl (c_depth T hR hc) rfl (by decide) (by first | exact Nat.le_of_ble_eq_true rfl | simp [Value.category, rf_cat]) dX2_shift_53 rfl (pc' := 56) rfl (fun v w hq => ?_)
    obtain ⟨rfl, rfl⟩ := hq
    dsimp only [Option.toList, List.cons_append, List.nil_append]
    refine ev_iload (pc' := 58) dX2_shift_56 rfl rfl ?_
    refine ev_icmp_le (tgt := 72) (pc' := 61) dX2_shift_58 (by decide) rfl (fun h58 => ?_) (fun h58 => ?_)
    · rw [nI_leI (by omega) (by omega)] at h58
      have e : d = dep S c := by omega
      rw [e, dwn_last T hc] at hd
      cases hd
      exact K
    · rw [nI_leI (by omega) (by omega)] at h58
      cases hb : spa S c with
      | none => rw [dep_none hb] at h58; omega
      | some b =>
        obtain ⟨h3, h4⟩ := T.par hc hb
        refine ev_aload_n (pc' := 62) dX2_shift_61 rfl rfl ?_
        refine ev_iload (pc' := 64) dX2_shift_62 rfl rfl ?_
        refine ev_callV (As := [_]) coX2_above 0 rfl rfl (c_above T hR hc) rfl (by decide) (by first | exact Nat.le_of_ble_eq_true rfl | simp [Value.category, rf_cat]) dX2_shift_64 rfl (pc' := 67) rfl (fun v w hq => ?_)
        obtain ⟨rfl, rfl⟩ := hq
        dsimp only [Option.toList, List.cons_append, List.nil_append]
        rw [upI_some hb]
        refine ev_istore (pc' := 69) (lv' := [_, _, _, _, _, _, _, _, _, _, _, _]) dX2_shift_67 rfl (by decide) (by intro w hw; first | exact Or.inl rfl | (right; have hw := Option.some.inj (Option.some.inj hw); subst hw; first | rfl | exact rf_cat _) | cases hw) rfl ?_
        refine ev_goto (pc' := 50) dX2_shift_69 (by decide) ?_
        rw [dwn_up T hc hb (by omega)] at hd
        exact ih b h4 h3 hd
theorem sh_step (I : Inv N S) (hR : RM S mnd mgv mcu mck mcl msh mhh mnu mpa mfa mti mpo mle mde msr mtl mtx mcp mmk mns) {e c a : Nat} (he : e ∈ sL S) (hc : c ∈ sL S) (ha : a ≤ 40) (hq : spo S c ≤ 40) {K4 K5 K6 : Int32} (K : Ev g mdX2_shift 245 [some (.ref mo), some (.int (nI (ix S e))), some (.int (nI (shn (sde S c) (ahd (sde S e) (sde S c) a (spo S c) (sle S c)) a (sle S c)))), some (.int (nI (sle S e))), some (.int K4), some (.int K5), some (.int K6), some (.int (nI (ix S c))), none, none, some (.int (bI (fre (sde S e) (sde S c) (sle S e) a (spo S c) (sle S c)))), none] [] (wM g mo mr mnd mgv mcu mck mcl msh mhh mnu mpa mfa mti mpo mle mde msr mtl mtx mcp mmk mns) Ph) : Ev g mdX2_shift 72 [some (.ref mo), some (.int (nI (ix S e))), some (.int (nI a)), some (.int (nI (sle S e))), some (.int K4), some (.int K5), some (.int K6), some (.int (nI (ix S c))), none, none, none, none] [] (wM g mo mr mnd mgv mcu mck mcl msh mhh mnu mpa mfa mti mpo mle mde msr mtl mtx mcp mmk mns) Ph := by
  have T := I.T
  have hke := ix_lt T he
  have hkc := ix_lt T hc
  have hre := RM.row hR he
  have hrc := RM.row hR hc
  have hle := I.le he
  have hlc := I.le hc
  have fin : ∀ (a' : Nat) (fr : Int32) (x8 x9 x11 : Value), a' = shn (sde S c) (ahd (sde S e) (sde S c) a (spo S c) (sle S c)) a (sle S c) → fr = bI (fre (sde S e) (sde S c) (sle S e) a (spo S c) (sle S c)) → Ev g mdX2_shift 245 [some (.ref mo), some (.int (nI (ix S e))), some (.int (nI a')), some (.int (nI (sle S e))), some (.int K4), some (.int K5), some (.int K6), some (.int (nI (ix S c))), some x8, some x9, some (.int fr), some x11] [] (wM g mo mr mnd mgv mcu mck mcl msh mhh mnu mpa mfa mti mpo mle mde msr mtl mtx mcp mmk mns) Ph := by
    intro a' fr x8 x9 x11 h1 h2
    subst h1; subst h2
    exact Ev.weak _ (lw_le_get _ _ (by simp [lw_le])) K
  cases hC : sde S c with
  | true =>
    have hdc := hrc.2.2.2.2.2.2.1
    rw [hC] at hdc
    refine ev_aload_n (pc' := 73) dX2_shift_72 rfl rfl ?_
    refine ev_get inX2 0 6 rfl rfl (by decide) flX2_position rfl (pc' := 76) dX2_shift_73 rfl ?_
    refine ev_iload (pc' := 78) dX2_shift_76 rfl rfl ?_
    refine ev_ialdN 5 rfl (by omega) (by decide) hrc.2.2.2.2.1 (pc' := 79) dX2_shift_78 rfl ?_
    refine ev_istore (pc' := 81) (lv' := [_, _, _, _, _, _, _, _, _, _, _, _]) dX2_shift_79 rfl (by decide) (by intro w hw; first | exact Or.inl rfl | (right; have hw := Option.some.inj (Option.some.inj hw); subst hw; first | rfl | exact rf_cat _) | cases hw) rfl ?_
    refine ev_aload_n (pc' := 82) dX2_shift_81 rfl rfl ?_
    refine ev_get inX2 0 7 rfl rfl (by decide) flX2_length rfl (pc' := 85) dX2_shift_82 rfl ?_
    refine ev_iload (pc' := 87) dX2_shift_85 rfl rfl ?_
    refine ev_ialdN 6 rfl (by omega) (by decide) hrc.2.2.2.2.2.1 (pc' := 88) dX2_shift_87 rfl ?_
    refine ev_istore (pc' := 90) (lv' := [_, _, _, _, _, _, _, _, _, _, _, _]) dX2_shift_88 rfl (by decide) (by intro w hw; first | exact Or.inl rfl | (right; have hw := Option.some.inj (Option.some.inj hw); subst hw; first | rfl | exact rf_cat _) | cases hw) rfl ?_
    refine ev_aload_n (pc' := 91) dX2_shift_90 rfl rfl ?_
    refine ev_get inX2 0 8 rfl rfl (by decide) flX2_deletes rfl (pc' := 94) dX2_shift_91 rfl ?_
    refine ev_iload (pc' := 96) dX2_shift_94 rfl rfl ?_
    refine ev_zaldN 7 rfl (by omega) (by decide) hdc (pc' := 97) dX2_shift_96 rfl ?_
    refine ev_if_eq (tgt := 166) (pc' := 100) dX2_shift_97 (by decide) rfl (fun h97 => ?_) (fun h97 => ?_)
    · exact absurd h97 (by decide)
    · refine ev_iload (pc' := 102) dX2_shift_100 rfl rfl ?_
      refine ev_iload (pc' := 104) dX2_shift_102 rfl rfl ?_
      refine ev_iadd (pc' := 105) dX2_shift_104 rfl ?_
      rw [nI_add]
      refine ev_iload_n (pc' := 106) dX2_shift_105 rfl rfl ?_
      refine ev_icmp_gt (tgt := 113) (pc' := 109) dX2_shift_106 (by decide) rfl (fun h106 => ?_) (fun h106 => ?_)
      · rw [nI_ltI (by omega) (by omega)] at h106
        have ea : ahd (sde S e) true a (spo S c) (sle S c) = false := by simp [ahd]; omega
        cases hE : sde S e with
        | true =>
          have hde := hre.2.2.2.2.2.2.1
          rw [hE] at hde ea
          refine ev_iconst (pc' := 114) (v := nI 0) dX2_shift_113 rfl (by decide) ?_
          refine ev_istore (pc' := 116) (lv' := [_, _, _, _, _, _, _, _, _, _, _, _]) dX2_shift_114 rfl (by decide) (by intro w hw; first | exact Or.inl rfl | (right; have hw := Option.some.inj (Option.some.inj hw); subst hw; first | rfl | exact rf_cat _) | cases hw) rfl ?_
          refine ev_iload (pc' := 118) dX2_shift_116 rfl rfl ?_
          refine ev_if_ne (tgt := 142) (pc' := 121) dX2_shift_118 (by decide) rfl (fun h118 => ?_) (fun h118 => ?_)
          · exact absurd rfl h118
          · refine ev_iload (pc' := 123) dX2_shift_121 rfl rfl ?_
            refine ev_iload_n (pc' := 124) dX2_shift_123 rfl rfl ?_
            refine ev_aload_n (pc' := 125) dX2_shift_124 rfl rfl ?_
            refine ev_get inX2 0 8 rfl rfl (by decide) flX2_deletes rfl (pc' := 128) dX2_shift_125 rfl ?_
            refine ev_iload_n (pc' := 129) dX2_shift_128 rfl rfl ?_
            refine ev_zaldN 7 rfl (by omega) (by decide) hde (pc' := 130) dX2_shift_129 rfl ?_
            refine ev_if_eq (tgt := 137) (pc' := 133) dX2_shift_130 (by decide) rfl (fun h130 => ?_) (fun h130 => ?_)
            · exact absurd h130 (by decide)
            · refine ev_iconst (pc' := 134) (v := nI 0) dX2_shift_133 rfl (by decide) ?_
              refine ev_goto (pc' := 138) dX2_shift_134 (by decide) ?_
              refine ev_iadd (pc' := 139) dX2_shift_138 rfl ?_
              rw [nI_add, Nat.add_zero]
              refine ev_icmp_lt (tgt := 146) (pc' := 142) dX2_shift_139 (by decide) rfl (fun h139 => ?_) (fun h139 => ?_)
              · rw [nI_ltI (by omega) (by omega)] at h139
                refine ev_iconst (pc' := 147) (v := nI 0) dX2_shift_146 rfl (by decide) ?_
                refine ev_istore (pc' := 149) (lv' := [_, _, _, _, _, _, _, _, _, _, _, _]) dX2_shift_147 rfl (by decide) (by intro w hw; first | exact Or.inl rfl | (right; have hw := Option.some.inj (Option.some.inj hw); subst hw; first | rfl | exact rf_cat _) | cases hw) rfl ?_
                refine ev_iload_n (pc' := 150) dX2_shift_149 rfl rfl ?_
                refine ev_iload (pc' := 152) dX2_shift_150 rfl rfl ?_
                refine ev_if_eq (tgt := 160) (pc' := 155) dX2_shift_152 (by decide) rfl (fun h152 => ?_) (fun h152 => ?_)
                · refine ev_iconst (pc' := 161) (v := nI 0) dX2_shift_160 rfl (by decide) ?_
                  refine ev_isub (pc' := 162) dX2_shift_161 rfl ?_
                  rw [pk_sub (Nat.zero_le _), Nat.sub_zero]
                  refine ev_istore_n (pc' := 163) (lv' := [_, _, _, _, _, _, _, _, _, _, _, _]) dX2_shift_162 rfl (by decide) (by intro w hw; first | exact Or.inl rfl | (right; have hw := Option.some.inj (Option.some.inj hw); subst hw; first | rfl | exact rf_cat _) | cases hw) rfl ?_
                  refine ev_goto (pc' := 245) dX2_shift_163 (by decide) ?_
                  refine fin a _ _ _ _ (by rw [hC, hE, ea]; rfl) (by rw [hC, hE]; unfold fre; rw [ea]; simp; rw [bI_f (by omega)])
                · exact absurd rfl h152
              · rw [nI_ltI (by omega) (by omega)] at h139
                refine ev_iconst (pc' := 143) (v := nI 1) dX2_shift_142 rfl (by decide) ?_
                refine ev_goto (pc' := 147) dX2_shift_143 (by decide) ?_
                refine ev_istore (pc' := 149) (lv' := [_, _, _, _, _, _, _, _, _, _, _, _]) dX2_shift_147 rfl (by decide) (by intro w hw; first | exact Or.inl rfl | (right; have hw := Option.some.inj (Option.some.inj hw); subst hw; first | rfl | exact rf_cat _) | cases hw) rfl ?_
                refine ev_iload_n (pc' := 150) dX2_shift_149 rfl rfl ?_
                refine ev_iload (pc' := 152) dX2_shift_150 rfl rfl ?_
                refine ev_if_eq (tgt := 160) (pc' := 155) dX2_shift_152 (by decide) rfl (fun h152 => ?_) (fun h152 => ?_)
                · refine ev_iconst (pc' := 161) (v := nI 0) dX2_shift_160 rfl (by decide) ?_
                  refine ev_isub (pc' := 162) dX2_shift_161 rfl ?_
                  rw [pk_sub (Nat.zero_le _), Nat.sub_zero]
                  refine ev_istore_n (pc' := 163) (lv' := [_, _, _, _, _, _, _, _, _, _, _, _]) dX2_shift_162 rfl (by decide) (by intro w hw; first | exact Or.inl rfl | (right; have hw := Option.some.inj (Option.some.inj hw); subst hw; first | rfl | exact rf_cat _) | cases hw) rfl ?_
                  refine ev_goto (pc' := 245) dX2_shift_163 (by decide) ?_
                  refine fin a _ _ _ _ (by rw [hC, hE, ea]; rfl) (by rw [hC, hE]; unfold fre; rw [ea]; simp; rw [bI_t (by omega)])
                · exact absurd rfl h152
        | false =>
          have hde := hre.2.2.2.2.2.2.1
          rw [hE] at hde ea
          refine ev_iconst (pc' := 114) (v := nI 0) dX2_shift_113 rfl (by decide) ?_
          refine ev_istore (pc' := 116) (lv' := [_, _, _, _, _, _, _, _, _, _, _, _]) dX2_shift_114 rfl (by decide) (by intro w hw; first | exact Or.inl rfl | (right; have hw := Option.some.inj (Option.some.inj hw); subst hw; first | rfl | exact rf_cat _) | cases hw) rfl ?_
          refine ev_iload (pc' := 118) dX2_shift_116 rfl rfl ?_
          refine ev_if_ne (tgt := 142) (pc' := 121) dX2_shift_118 (by decide) rfl (fun h118 => ?_) (fun h118 => ?_)
          · exact absurd rfl h118
          · refine ev_iload (pc' := 123) dX2_shift_121 rfl rfl ?_
            refine ev_iload_n (pc' := 124) dX2_shift_123 rfl rfl ?_
            refine ev_aload_n (pc' := 125) dX2_shift_124 rfl rfl ?_
            refine ev_get inX2 0 8 rfl rfl (by decide) flX2_deletes rfl (pc' := 128) dX2_shift_125 rfl ?_
            refine ev_iload_n (pc' := 129) dX2_shift_128 rfl rfl ?_
            refine ev_zaldN 7 rfl (by omega) (by decide) hde (pc' := 130) dX2_shift_129 rfl ?_
            refine ev_if_eq (tgt := 137) (pc' := 133) dX2_shift_130 (by decide) rfl (fun h130 => ?_) (fun h130 => ?_)
            · refine ev_iload_n (pc' := 138) dX2_shift_137 rfl rfl ?_
              refine ev_iadd (pc' := 139) dX2_shift_138 rfl ?_
              rw [nI_add]
              refine ev_icmp_lt (tgt := 146) (pc' := 142) dX2_shift_139 (by decide) rfl (fun h139 => ?_) (fun h139 => ?_)
              · rw [nI_ltI (by omega) (by omega)] at h139
                refine ev_iconst (pc' := 147) (v := nI 0) dX2_shift_146 rfl (by decide) ?_
                refine ev_istore (pc' := 149) (lv' := [_, _, _, _, _, _, _, _, _, _, _, _]) dX2_shift_147 rfl (by decide) (by intro w hw; first | exact Or.inl rfl | (right; have hw := Option.some.inj (Option.some.inj hw); subst hw; first | rfl | exact rf_cat _) | cases hw) rfl ?_
                refine ev_iload_n (pc' := 150) dX2_shift_149 rfl rfl ?_
                refine ev_iload (pc' := 152) dX2_shift_150 rfl rfl ?_
                refine ev_if_eq (tgt := 160) (pc' := 155) dX2_shift_152 (by decide) rfl (fun h152 => ?_) (fun h152 => ?_)
                · refine ev_iconst (pc' := 161) (v := nI 0) dX2_shift_160 rfl (by decide) ?_
                  refine ev_isub (pc' := 162) dX2_shift_161 rfl ?_
                  rw [pk_sub (Nat.zero_le _), Nat.sub_zero]
                  refine ev_istore_n (pc' := 163) (lv' := [_, _, _, _, _, _, _, _, _, _, _, _]) dX2_shift_162 rfl (by decide) (by intro w hw; first | exact Or.inl rfl | (right; have hw := Option.some.inj (Option.some.inj hw); subst hw; first | rfl | exact rf_cat _) | cases hw) rfl ?_
                  refine ev_goto (pc' := 245) dX2_shift_163 (by decide) ?_
                  refine fin a _ _ _ _ (by rw [hC, hE, ea]; rfl) (by rw [hC, hE]; unfold fre; rw [ea]; simp; rw [bI_f (by omega)])
                · exact absurd rfl h152
              · rw [nI_ltI (by omega) (by omega)] at h139
                refine ev_iconst (pc' := 143) (v := nI 1) dX2_shift_142 rfl (by decide) ?_
                refine ev_goto (pc' := 147) dX2_shift_143 (by decide) ?_
                refine ev_istore (pc' := 149) (lv' := [_, _, _, _, _, _, _, _, _, _, _, _]) dX2_shift_147 rfl (by decide) (by intro w hw; first | exact Or.inl rfl | (right; have hw := Option.some.inj (Option.some.inj hw); subst hw; first | rfl | exact rf_cat _) | cases hw) rfl ?_
                refine ev_iload_n (pc' := 150) dX2_shift_149 rfl rfl ?_
                refine ev_iload (pc' := 152) dX2_shift_150 rfl rfl ?_
                refine ev_if_eq (tgt := 160) (pc' := 155) dX2_shift_152 (by decide) rfl (fun h152 => ?_) (fun h152 => ?_)
                · refine ev_iconst (pc' := 161) (v := nI 0) dX2_shift_160 rfl (by decide) ?_
                  refine ev_isub (pc' := 162) dX2_shift_161 rfl ?_
                  rw [pk_sub (Nat.zero_le _), Nat.sub_zero]
                  refine ev_istore_n (pc' := 163) (lv' := [_, _, _, _, _, _, _, _, _, _, _, _]) dX2_shift_162 rfl (by decide) (by intro w hw; first | exact Or.inl rfl | (right; have hw := Option.some.inj (Option.some.inj hw); subst hw; first | rfl | exact rf_cat _) | cases hw) rfl ?_
                  refine ev_goto (pc' := 245) dX2_shift_163 (by decide) ?_
                  refine fin a _ _ _ _ (by rw [hC, hE, ea]; rfl) (by rw [hC, hE]; unfold fre; rw [ea]; simp; rw [bI_t (by omega)])
                · exact absurd rfl h152
            · exact absurd rfl h130
      · rw [nI_ltI (by omega) (by omega)] at h106
        have ea : ahd (sde S e) true a (spo S c) (sle S c) = true := by simp [ahd]; omega
        refine ev_iconst (pc' := 110) (v := nI 1) dX2_shift_109 rfl (by decide) ?_
        refine ev_goto (pc' := 114) dX2_shift_110 (by decide) ?_
        refine ev_istore (pc' := 116) (lv' := [_, _, _, _, _, _, _, _, _, _, _, _]) dX2_shift_114 rfl (by decide) (by intro w hw; first | exact Or.inl rfl | (right; have hw := Option.some.inj (Option.some.inj hw); subst hw; first | rfl | exact rf_cat _) | cases hw) rfl ?_
        refine ev_iload (pc' := 118) dX2_shift_116 rfl rfl ?_
        refine ev_if_ne (tgt := 142) (pc' := 121) dX2_shift_118 (by decide) rfl (fun h118 => ?_) (fun h118 => ?_)
        · refine ev_iconst (pc' := 143) (v := nI 1) dX2_shift_142 rfl (by decide) ?_
          refine ev_goto (pc' := 147) dX2_shift_143 (by decide) ?_
          refine ev_istore (pc' := 149) (lv' := [_, _, _, _, _, _, _, _, _, _, _, _]) dX2_shift_147 rfl (by decide) (by intro w hw; first | exact Or.inl rfl | (right; have hw := Option.some.inj (Option.some.inj hw); subst hw; first | rfl | exact rf_cat _) | cases hw) rfl ?_
          refine ev_iload_n (pc' := 150) dX2_shift_149 rfl rfl ?_
          refine ev_iload (pc' := 152) dX2_shift_150 rfl rfl ?_
          refine ev_if_eq (tgt := 160) (pc' := 155) dX2_shift_152 (by decide) rfl (fun h152 => ?_) (fun h152 => ?_)
          · exact absurd h152 (by decide)
          · refine ev_iload (pc' := 157) dX2_shift_155 rfl rfl ?_
            refine ev_goto (pc' := 161) dX2_shift_157 (by decide) ?_
            refine ev_isub (pc' := 162) dX2_shift_161 rfl ?_
            rw [pk_sub (by omega)]
            refine ev_istore_n (pc' := 163) (lv' := [_, _, _, _, _, _, _, _, _, _, _, _]) dX2_shift_162 rfl (by decide) (by intro w hw; first | exact Or.inl rfl | (right; have hw := Option.some.inj (Option.some.inj hw); subst hw; first | rfl | exact rf_cat _) | cases hw) rfl ?_
            refine ev_goto (pc' := 245) dX2_shift_163 (by decide) ?_
            refine fin (a - sle S c) _ _ _ _ (by rw [hC, ea]; rfl) (by rw [hC]; unfold fre; rw [ea]; rfl)
        · exact absurd h118 (by decide)
  | false =>
    have hdc := hrc.2.2.2.2.2.2.1
    rw [hC] at hdc
    have tl1 : ∀ (h : Bool) (f : Bool) (x8 x9 : Int32), x9 = nI (sle S c) → h = ahd (sde S e) false a (spo S c) (sle S c) → f = fre (sde S e) false (sle S e) a (spo S c) (sle S c) → Ev g mdX2_shift 229 [some (.ref mo), some (.int (nI (ix S e))), some (.int (nI a)), some (.int (nI (sle S e))), some (.int K4), some (.int K5), some (.int K6), some (.int (nI (ix S c))), some (.int x8), some (.int x9), none, some (.int (bI h))] [.int (bI f)] (wM g mo mr mnd mgv mcu mck mcl msh mhh mnu mpa mfa mti mpo mle mde msr mtl mtx mcp mmk mns) Ph := by
      intro h f x8 x9 h9 hh hf
      subst h9
      refine ev_istore (pc' := 231) (lv' := [_, _, _, _, _, _, _, _, _, _, _, _]) dX2_shift_229 rfl (by decide) (by intro w hw; first | exact Or.inl rfl | (right; have hw := Option.some.inj (Option.some.inj hw); subst hw; first | rfl | exact rf_cat _) | cases hw) rfl ?_
      refine ev_iload_n (pc' := 232) dX2_shift_231 rfl rfl ?_
      refine ev_iload (pc' := 234) dX2_shift_232 rfl rfl ?_
      refine ev_if_eq (tgt := 242) (pc' := 237) dX2_shift_234 (by decide) rfl (fun h234 => ?_) (fun h234 => ?_)
      · rw [bI_eq] at h234
        refine ev_iconst (pc' := 243) (v := nI 0) dX2_shift_242 rfl (by decide) ?_
        refine ev_iadd (pc' := 244) dX2_shift_243 rfl ?_
        rw [nI_add, Nat.add_zero]
        refine ev_istore_n (pc' := 245) (lv' := [_, _, _, _, _, _, _, _, _, _, _, _]) dX2_shift_244 rfl (by decide) (by intro w hw; first | exact Or.inl rfl | (right; have hw := Option.some.inj (Option.some.inj hw); subst hw; first | rfl | exact rf_cat _) | cases hw) rfl ?_
        refine fin a _ _ _ _ (by rw [hC, ← hh, h234]; rfl) (by rw [hC, ← hf])
      · rw [bI_ne] at h234
        refine ev_iload (pc' := 239) dX2_shift_237 rfl rfl ?_
        refine ev_goto (pc' := 243) dX2_shift_239 (by decide) ?_
        refine ev_iadd (pc' := 244) dX2_shift_243 rfl ?_
        rw [nI_add]
        refine ev_istore_n (pc' := 245) (lv' := [_, _, _, _, _, _, _, _, _, _, _, _]) dX2_shift_244 rfl (by decide) (by intro w hw; first | exact Or.inl rfl | (right; have hw := Option.some.inj (Option.some.inj hw); subst hw; first | rfl | exact rf_cat _) | cases hw) rfl ?_
        refine fin (a + sle S c) _ _ _ _ (by rw [hC, ← hh, h234]; rfl) (by rw [hC, ← hf])
    refine ev_aload_n (pc' := 73) dX2_shift_72 rfl rfl ?_
    refine ev_get inX2 0 6 rfl rfl (by decide) flX2_position rfl (pc' := 76) dX2_shift_73 rfl ?_
    refine ev_iload (pc' := 78) dX2_shift_76 rfl rfl ?_
    refine ev_ialdN 5 rfl (by omega) (by decide) hrc.2.2.2.2.1 (pc' := 79) dX2_shift_78 rfl ?_
    refine ev_istore (pc' := 81) (lv' := [_, _, _, _, _, _, _, _, _, _, _, _]) dX2_shift_79 rfl (by decide) (by intro w hw; first | exact Or.inl rfl | (right; have hw := Option.some.inj (Option.some.inj hw); subst hw; first | rfl | exact rf_cat _) | cases hw) rfl ?_
    refine ev_aload_n (pc' := 82) dX2_shift_81 rfl rfl ?_
    refine ev_get inX2 0 7 rfl rfl (by decide) flX2_length rfl (pc' := 85) dX2_shift_82 rfl ?_
    refine ev_iload (pc' := 87) dX2_shift_85 rfl rfl ?_
    refine ev_ialdN 6 rfl (by omega) (by decide) hrc.2.2.2.2.2.1 (pc' := 88) dX2_shift_87 rfl ?_
    refine ev_istore (pc' := 90) (lv' := [_, _, _, _, _, _, _, _, _, _, _, _]) dX2_shift_88 rfl (by decide) (by intro w hw; first | exact Or.inl rfl | (right; have hw := Option.some.inj (Option.some.inj hw); subst hw; first | rfl | exact rf_cat _) | cases hw) rfl ?_
    refine ev_aload_n (pc' := 91) dX2_shift_90 rfl rfl ?_
    refine ev_get inX2 0 8 rfl rfl (by decide) flX2_deletes rfl (pc' := 94) dX2_shift_91 rfl ?_
    refine ev_iload (pc' := 96) dX2_shift_94 rfl rfl ?_
    refine ev_zaldN 7 rfl (by omega) (by decide) hdc (pc' := 97) dX2_shift_96 rfl ?_
    refine ev_if_eq (tgt := 166) (pc' := 100) dX2_shift_97 (by decide) rfl (fun h97 => ?_) (fun h97 => ?_)
    · cases hE : sde S e with
      | true =>
        have hde := hre.2.2.2.2.2.2.1
        rw [hE] at hde
        have mid : ∀ h : Bool, h = ahd true false a (spo S c) (sle S c) → Ev g mdX2_shift 200 [some (.ref mo), some (.int (nI (ix S e))), some (.int (nI a)), some (.int (nI (sle S e))), some (.int K4), some (.int K5), some (.int K6), some (.int (nI (ix S c))), some (.int (nI (spo S c))), some (.int (nI (sle S c))), none, none] [.int (bI h)] (wM g mo mr mnd mgv mcu mck mcl msh mhh mnu mpa mfa mti mpo mle mde msr mtl mtx mcp mmk mns) Ph := by
          intro h hh
          refine ev_istore (pc' := 202) (lv' := [_, _, _, _, _, _, _, _, _, _, _, _]) dX2_shift_200 rfl (by decide) (by intro w hw; first | exact Or.inl rfl | (right; have hw := Option.some.inj (Option.some.inj hw); subst hw; first | rfl | exact rf_cat _) | cases hw) rfl ?_
          refine ev_iload (pc' := 204) dX2_shift_202 rfl rfl ?_
          refine ev_if_ne (tgt := 224) (pc' := 207) dX2_shift_204 (by decide) rfl (fun h204 => ?_) (fun h204 => ?_)
          · refine ev_iconst (pc' := 225) (v := nI 1) dX2_shift_224 rfl (by decide) ?_
            refine ev_goto (pc' := 229) dX2_shift_225 (by decide) ?_
            exact tl1 h true _ _ rfl (by rw [hE]; exact hh) (by rw [hE]; unfold fre; rw [← hh, bI_ne.mp h204]; rfl)
          · refine ev_aload_n (pc' := 208) dX2_shift_207 rfl rfl ?_
            refine ev_get inX2 0 8 rfl rfl (by decide) flX2_deletes rfl (pc' := 211) dX2_shift_208 rfl ?_
            refine ev_iload_n (pc' := 212) dX2_shift_211 rfl rfl ?_
            refine ev_zaldN 7 rfl (by omega) (by decide) hde (pc' := 213) dX2_shift_212 rfl ?_
            refine ev_if_ne (tgt := 224) (pc' := 216) dX2_shift_213 (by decide) rfl (fun h213 => ?_) (fun h213 => ?_)
            · refine ev_iconst (pc' := 225) (v := nI 1) dX2_shift_224 rfl (by decide) ?_
              refine ev_goto (pc' := 229) dX2_shift_225 (by decide) ?_
              exact tl1 h true _ _ rfl (by rw [hE]; exact hh) (by rw [hE]; simp [fre])
            · exact absurd h213 (by decide)
        refine ev_aload_n (pc' := 167) dX2_shift_166 rfl rfl ?_
        refine ev_get inX2 0 8 rfl rfl (by decide) flX2_deletes rfl (pc' := 170) dX2_shift_167 rfl ?_
        refine ev_iload_n (pc' := 171) dX2_shift_170 rfl rfl ?_
        refine ev_zaldN 7 rfl (by omega) (by decide) hde (pc' := 172) dX2_shift_171 rfl ?_
        refine ev_if_eq (tgt := 189) (pc' := 175) dX2_shift_172 (by decide) rfl (fun h172 => ?_) (fun h172 => ?_)
        · exact absurd h172 (by decide)
        · refine ev_iload (pc' := 177) dX2_shift_175 rfl rfl ?_
          refine ev_iload_n (pc' := 178) dX2_shift_177 rfl rfl ?_
          refine ev_icmp_ge (tgt := 185) (pc' := 181) dX2_shift_178 (by decide) rfl (fun h178 => ?_) (fun h178 => ?_)
          · rw [nI_leI (by omega) (by omega)] at h178
            refine ev_iconst (pc' := 186) (v := nI 0) dX2_shift_185 rfl (by decide) ?_
            refine ev_goto (pc' := 200) dX2_shift_186 (by decide) ?_
            exact mid false (by simp [ahd]; omega)
          · rw [nI_leI (by omega) (by omega)] at h178
            refine ev_iconst (pc' := 182) (v := nI 1) dX2_shift_181 rfl (by decide) ?_
            refine ev_goto (pc' := 200) dX2_shift_182 (by decide) ?_
            exact mid true (by simp [ahd]; omega)
      | false =>
        have hde := hre.2.2.2.2.2.2.1
        rw [hE] at hde
        have mid : ∀ h : Bool, h = ahd false false a (spo S c) (sle S c) → Ev g mdX2_shift 200 [some (.ref mo), some (.int (nI (ix S e))), some (.int (nI a)), some (.int (nI (sle S e))), some (.int K4), some (.int K5), some (.int K6), some (.int (nI (ix S c))), some (.int (nI (spo S c))), some (.int (nI (sle S c))), none, none] [.int (bI h)] (wM g mo mr mnd mgv mcu mck mcl msh mhh mnu mpa mfa mti mpo mle mde msr mtl mtx mcp mmk mns) Ph := by
          intro h hh
          refine ev_istore (pc' := 202) (lv' := [_, _, _, _, _, _, _, _, _, _, _, _]) dX2_shift_200 rfl (by decide) (by intro w hw; first | exact Or.inl rfl | (right; have hw := Option.some.inj (Option.some.inj hw); subst hw; first | rfl | exact rf_cat _) | cases hw) rfl ?_
          refine ev_iload (pc' := 204) dX2_shift_202 rfl rfl ?_
          refine ev_if_ne (tgt := 224) (pc' := 207) dX2_shift_204 (by decide) rfl (fun h204 => ?_) (fun h204 => ?_)
          · refine ev_iconst (pc' := 225) (v := nI 1) dX2_shift_224 rfl (by decide) ?_
            refine ev_goto (pc' := 229) dX2_shift_225 (by decide) ?_
            exact tl1 h true _ _ rfl (by rw [hE]; exact hh) (by rw [hE]; unfold fre; rw [← hh, bI_ne.mp h204]; rfl)
          · rw [bI_eq] at h204
            refine ev_aload_n (pc' := 208) dX2_shift_207 rfl rfl ?_
            refine ev_get inX2 0 8 rfl rfl (by decide) flX2_deletes rfl (pc' := 211) dX2_shift_208 rfl ?_
            refine ev_iload_n (pc' := 212) dX2_shift_211 rfl rfl ?_
            refine ev_zaldN 7 rfl (by omega) (by decide) hde (pc' := 213) dX2_shift_212 rfl ?_
            refine ev_if_ne (tgt := 224) (pc' := 216) dX2_shift_213 (by decide) rfl (fun h213 => ?_) (fun h213 => ?_)
            · exact absurd rfl h213
            · refine ev_iload (pc' := 218) dX2_shift_216 rfl rfl ?_
              refine ev_iload_n (pc' := 219) dX2_shift_218 rfl rfl ?_
              refine ev_iload_n (pc' := 220) dX2_shift_219 rfl rfl ?_
              refine ev_iadd (pc' := 221) dX2_shift_220 rfl ?_
              rw [nI_add]
              refine ev_icmp_lt (tgt := 228) (pc' := 224) dX2_shift_221 (by decide) rfl (fun h221 => ?_) (fun h221 => ?_)
              · rw [nI_ltI (by omega) (by omega)] at h221
                refine ev_iconst (pc' := 229) (v := nI 0) dX2_shift_228 rfl (by decide) ?_
                exact tl1 h false _ _ rfl (by rw [hE]; exact hh) (by rw [hE]; unfold fre; rw [← hh, h204]; simp; omega)
              · rw [nI_ltI (by omega) (by omega)] at h221
                refine ev_iconst (pc' := 225) (v := nI 1) dX2_shift_224 rfl (by decide) ?_
                refine ev_goto (pc' := 229) dX2_shift_225 (by decide) ?_
                exact tl1 h true _ _ rfl (by rw [hE]; exact hh) (by rw [hE]; unfold fre; rw [← hh, h204]; simp; omega)
        refine ev_aload_n (pc' := 167) dX2_shift_166 rfl rfl ?_
        refine ev_get inX2 0 8 rfl rfl (by decide) flX2_deletes rfl (pc' := 170) dX2_shift_167 rfl ?_
        refine ev_iload_n (pc' := 171) dX2_shift_170 rfl rfl ?_
        refine ev_zaldN 7 rfl (by omega) (by decide) hde (pc' := 172) dX2_shift_171 rfl ?_
        refine ev_if_eq (tgt := 189) (pc' := 175) dX2_shift_172 (by decide) rfl (fun h172 => ?_) (fun h172 => ?_)
        · refine ev_iload (pc' := 191) dX2_shift_189 rfl rfl ?_
          refine ev_iload_n (pc' := 192) dX2_shift_191 rfl rfl ?_
          refine ev_icmp_gt (tgt := 199) (pc' := 195) dX2_shift_192 (by decide) rfl (fun h192 => ?_) (fun h192 => ?_)
          · rw [nI_ltI (by omega) (by omega)] at h192
            refine ev_iconst (pc' := 200) (v := nI 0) dX2_shift_199 rfl (by decide) ?_
            exact mid false (by simp [ahd]; omega)
          · rw [nI_ltI (by omega) (by omega)] at h192
            refine ev_iconst (pc' := 196) (v := nI 1) dX2_shift_195 rfl (by decide) ?_
            refine ev_goto (pc' := 200) dX2_shift_196 (by decide) ?_
            exact mid true (by simp [ahd]; omega)
        · exact absurd rfl h172
    · exact absurd rfl h97
end M12
