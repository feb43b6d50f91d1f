/-! ===== the reference's methods: forget ===== -/
section M14
variable {g : EG} {mo : Nat} {mr : Nat → Nat} {mnd mgv mcu mck mcl msh : Int32} {mhh : Int64} {mnu mpa mfa mti mpo mle mde msr mtl mtx mcp mmk mns : Nat → Int32}
variable {S : SS} {N : Nat} {Ph : Option Value → va_W → Prop}
theorem cl1_loop {G n : Nat} (hG : G ≤ n) (hn : n < 24) (hbo : ∀ j, j ≤ n → mde j = 0 ∨ mde j = 1) (K : Ev g mdX2_close 138 [some (.ref mo), some (.int (nI G)), none] [] (wM g mo mr (nI n) mgv mcu mck mcl msh mhh (sf 1 mnu G n) (sf 1 mpa G n) (sf 1 mfa G n) (sf 1 mti G n) (sf 1 mpo G n) (sf 1 mle G n) (sf 1 mde G n) msr (sf 1 mtl G n) mtx mcp mmk mns) Ph) : ∀ (m k : Nat), k + m = n → G ≤ k → Ev g mdX2_close 12 [some (.ref mo), some (.int (nI G)), some (.int (nI k))] [] (wM g mo mr (nI n) mgv mcu mck mcl msh mhh (sf 1 mnu G k) (sf 1 mpa G k) (sf 1 mfa G k) (sf 1 mti G k) (sf 1 mpo G k) (sf 1 mle G k) (sf 1 mde G k) msr (sf 1 mtl G k) mtx mcp mmk mns) Ph := by
  intro m
  induction m with
  | zero =>
    intro k hk hGk
    have : k = n := by omega
    subst this
    refine ev_iload_n (pc' := 13) dX2_close_12 rfl rfl ?_
    refine ev_aload_n (pc' := 14) dX2_close_13 rfl rfl ?_
    refine ev_get inX2 0 0 rfl rfl (by decide) flX2_nodes rfl (pc' := 17) dX2_close_14 rfl ?_
    refine ev_icmp_ge (tgt := 138) (pc' := 20) dX2_close_17 (by decide) rfl (fun h17 => ?_) (fun h17 => ?_)
    · exact Ev.weak [some (.ref mo), some (.int (nI G)), none] (lw_le_get _ _ (by simp [lw_le])) K
    · exact absurd (nI_le (by omega) (by omega)) h17
  | succ m ih =>
    intro k hk hGk
    refine ev_iload_n (pc' := 13) dX2_close_12 rfl rfl ?_
    refine ev_aload_n (pc' := 14) dX2_close_13 rfl rfl ?_
    refine ev_get inX2 0 0 rfl rfl (by decide) flX2_nodes rfl (pc' := 17) dX2_close_14 rfl ?_
    refine ev_icmp_ge (tgt := 138) (pc' := 20) dX2_close_17 (by decide) rfl (fun h17 => ?_) (fun h17 => ?_)
    · exact absurd h17 (nI_ge (by omega) (by omega))
    · refine ev_aload_n (pc' := 21) dX2_close_20 rfl rfl ?_
      refine ev_get inX2 0 2 rfl rfl (by decide) flX2_number rfl (pc' := 24) dX2_close_21 rfl ?_
      refine ev_iload_n (pc' := 25) dX2_close_24 rfl rfl ?_
      refine ev_aload_n (pc' := 26) dX2_close_25 rfl rfl ?_
      refine ev_get inX2 0 2 rfl rfl (by decide) flX2_number rfl (pc' := 29) dX2_close_26 rfl ?_
      refine ev_iload_n (pc' := 30) dX2_close_29 rfl rfl ?_
      refine ev_iconst (pc' := 31) (v := nI 1) dX2_close_30 rfl (by decide) ?_
      refine ev_iaddN  (pc' := 32) dX2_close_31 rfl ?_
      refine ev_ialdN 1 rfl (by omega) (by decide) (sf_far (by omega)) (pc' := 33) dX2_close_32 rfl ?_
      refine ev_iastN 1 rfl (by omega) (by decide) (pc' := 34) dX2_close_33 rfl (ws' := wM _ _ _ _ _ _ _ _ _ _ _ _ _ _ _ _ _ _ _ _ _ _ _) rfl ?_
      refine ev_aload_n (pc' := 35) dX2_close_34 rfl rfl ?_
      refine ev_get inX2 0 3 rfl rfl (by decide) flX2_parent rfl (pc' := 38) dX2_close_35 rfl ?_
      refine ev_iload_n (pc' := 39) dX2_close_38 rfl rfl ?_
      refine ev_aload_n (pc' := 40) dX2_close_39 rfl rfl ?_
      refine ev_get inX2 0 3 rfl rfl (by decide) flX2_parent rfl (pc' := 43) dX2_close_40 rfl ?_
      refine ev_iload_n (pc' := 44) dX2_close_43 rfl rfl ?_
      refine ev_iconst (pc' := 45) (v := nI 1) dX2_close_44 rfl (by decide) ?_
      refine ev_iaddN  (pc' := 46) dX2_close_45 rfl ?_
      refine ev_ialdN 2 rfl (by omega) (by decide) (sf_far (by omega)) (pc' := 47) dX2_close_46 rfl ?_
      refine ev_iastN 2 rfl (by omega) (by decide) (pc' := 48) dX2_close_47 rfl (ws' := wM _ _ _ _ _ _ _ _ _ _ _ _ _ _ _ _ _ _ _ _ _ _ _) rfl ?_
      refine ev_aload_n (pc' := 49) dX2_close_48 rfl rfl ?_
      refine ev_get inX2 0 4 rfl rfl (by decide) flX2_favourite rfl (pc' := 52) dX2_close_49 rfl ?_
      refine ev_iload_n (pc' := 53) dX2_close_52 rfl rfl ?_
      refine ev_aload_n (pc' := 54) dX2_close_53 rfl rfl ?_
      refine ev_get inX2 0 4 rfl rfl (by decide) flX2_favourite rfl (pc' := 57) dX2_close_54 rfl ?_
      refine ev_iload_n (pc' := 58) dX2_close_57 rfl rfl ?_
      refine ev_iconst (pc' := 59) (v := nI 1) dX2_close_58 rfl (by decide) ?_
      refine ev_iaddN  (pc' := 60) dX2_close_59 rfl ?_
      refine ev_ialdN 3 rfl (by omega) (by decide) (sf_far (by omega)) (pc' := 61) dX2_close_60 rfl ?_
      refine ev_iastN 3 rfl (by omega) (by decide) (pc' := 62) dX2_close_61 rfl (ws' := wM _ _ _ _ _ _ _ _ _ _ _ _ _ _ _ _ _ _ _ _ _ _ _) rfl ?_
      refine ev_aload_n (pc' := 63) dX2_close_62 rfl rfl ?_
      refine ev_get inX2 0 5 rfl rfl (by decide) flX2_time rfl (pc' := 66) dX2_close_63 rfl ?_
      refine ev_iload_n (pc' := 67) dX2_close_66 rfl rfl ?_
      refine ev_aload_n (pc' := 68) dX2_close_67 rfl rfl ?_
      refine ev_get inX2 0 5 rfl rfl (by decide) flX2_time rfl (pc' := 71) dX2_close_68 rfl ?_
      refine ev_iload_n (pc' := 72) dX2_close_71 rfl rfl ?_
      refine ev_iconst (pc' := 73) (v := nI 1) dX2_close_72 rfl (by decide) ?_
      refine ev_iaddN  (pc' := 74) dX2_close_73 rfl ?_
      refine ev_ialdN 4 rfl (by omega) (by decide) (sf_far (by omega)) (pc' := 75) dX2_close_74 rfl ?_
      refine ev_iastN 4 rfl (by omega) (by decide) (pc' := 76) dX2_close_75 rfl (ws' := wM _ _ _ _ _ _ _ _ _ _ _ _ _ _ _ _ _ _ _ _ _ _ _) rfl ?_
      refine ev_aload_n (pc' := 77) dX2_close_76 rfl rfl ?_
      refine ev_get inX2 0 6 rfl rfl (by decide) flX2_position rfl (pc' := 80) dX2_close_77 rfl ?_
      refine ev_iload_n (pc' := 81) dX2_close_80 rfl rfl ?_
      refine ev_aload_n (pc' := 82) dX2_close_81 rfl rfl ?_
      refine ev_get inX2 0 6 rfl rfl (by decide) flX2_position rfl (pc' := 85) dX2_close_82 rfl ?_
      refine ev_iload_n (pc' := 86) dX2_close_85 rfl rfl ?_
      refine ev_iconst (pc' := 87) (v := nI 1) dX2_close_86 rfl (by decide) ?_
      refine ev_iaddN  (pc' := 88) dX2_close_87 rfl ?_
      refine ev_ialdN 5 rfl (by omega) (by decide) (sf_far (by omega)) (pc' := 89) dX2_close_88 rfl ?_
      refine ev_iastN 5 rfl (by omega) (by decide) (pc' := 90) dX2_close_89 rfl (ws' := wM _ _ _ _ _ _ _ _ _ _ _ _ _ _ _ _ _ _ _ _ _ _ _) rfl ?_
      refine ev_aload_n (pc' := 91) dX2_close_90 rfl rfl ?_
      refine ev_get inX2 0 7 rfl rfl (by decide) flX2_length rfl (pc' := 94) dX2_close_91 rfl ?_
      refine ev_iload_n (pc' := 95) dX2_close_94 rfl rfl ?_
      refine ev_aload_n (pc' := 96) dX2_close_95 rfl rfl ?_
      refine ev_get inX2 0 7 rfl rfl (by decide) flX2_length rfl (pc' := 99) dX2_close_96 rfl ?_
      refine ev_iload_n (pc' := 100) dX2_close_99 rfl rfl ?_
      refine ev_iconst (pc' := 101) (v := nI 1) dX2_close_100 rfl (by decide) ?_
      refine ev_iaddN  (pc' := 102) dX2_close_101 rfl ?_
      refine ev_ialdN 6 rfl (by omega) (by decide) (sf_far (by omega)) (pc' := 103) dX2_close_102 rfl ?_
      refine ev_iastN 6 rfl (by omega) (by decide) (pc' := 104) dX2_close_103 rfl (ws' := wM _ _ _ _ _ _ _ _ _ _ _ _ _ _ _ _ _ _ _ _ _ _ _) rfl ?_
      refine ev_aload_n (pc' := 105) dX2_close_104 rfl rfl ?_
      refine ev_get inX2 0 8 rfl rfl (by decide) flX2_deletes rfl (pc' := 108) dX2_close_105 rfl ?_
      refine ev_iload_n (pc' := 109) dX2_close_108 rfl rfl ?_
      refine ev_aload_n (pc' := 110) dX2_close_109 rfl rfl ?_
      refine ev_get inX2 0 8 rfl rfl (by decide) flX2_deletes rfl (pc' := 113) dX2_close_110 rfl ?_
      refine ev_iload_n (pc' := 114) dX2_close_113 rfl rfl ?_
      refine ev_iconst (pc' := 115) (v := nI 1) dX2_close_114 rfl (by decide) ?_
      refine ev_iaddN  (pc' := 116) dX2_close_115 rfl ?_
      refine ev_zaldN 7 rfl (by omega) (by decide) (sf_far (by omega)) (pc' := 117) dX2_close_116 rfl ?_
      refine ev_zastN 7 rfl (by omega) (by decide) (hbo _ (by omega)) (pc' := 118) dX2_close_117 rfl (ws' := wM _ _ _ _ _ _ _ _ _ _ _ _ _ _ _ _ _ _ _ _ _ _ _) rfl ?_
      refine ev_aload_n (pc' := 119) dX2_close_118 rfl rfl ?_
      refine ev_get inX2 0 10 rfl rfl (by decide) flX2_textLength rfl (pc' := 122) dX2_close_119 rfl ?_
      refine ev_iload_n (pc' := 123) dX2_close_122 rfl rfl ?_
      refine ev_aload_n (pc' := 124) dX2_close_123 rfl rfl ?_
      refine ev_get inX2 0 10 rfl rfl (by decide) flX2_textLength rfl (pc' := 127) dX2_close_124 rfl ?_
      refine ev_iload_n (pc' := 128) dX2_close_127 rfl rfl ?_
      refine ev_iconst (pc' := 129) (v := nI 1) dX2_close_128 rfl (by decide) ?_
      refine ev_iaddN  (pc' := 130) dX2_close_129 rfl ?_
      refine ev_ialdN 9 rfl (by omega) (by decide) (sf_far (by omega)) (pc' := 131) dX2_close_130 rfl ?_
      refine ev_iastN 9 rfl (by omega) (by decide) (pc' := 132) dX2_close_131 rfl (ws' := wM _ _ _ _ _ _ _ _ _ _ _ _ _ _ _ _ _ _ _ _ _ _ _) rfl ?_
      refine ev_iinc (pc' := 135) (lv' := [_, _, _]) dX2_close_132 rfl rfl (nI_1 _) (by decide) (by intro w hw; first | exact Or.inl rfl | (right; have hw := Option.some.inj (Option.some.inj hw); subst hw; first | rfl | exact rf_cat _) | cases hw) rfl ?_
      refine ev_goto (pc' := 12) dX2_close_135 (by decide) ?_
      rw [sf_s hGk, sf_s hGk, sf_s hGk, sf_s hGk, sf_s hGk, sf_s hGk, sf_s hGk, sf_s hGk]
      exact ih (k + 1) (by omega) (by omega)
theorem cl2_loop {G n : Nat} (hG : G ≤ n) (hn : n < 24) (K : Ev g mdX2_close 175 [some (.ref mo), some (.int (nI G)), none] [] (wM g mo mr (nI n) mgv mcu mck mcl msh mhh mnu mpa mfa mti mpo mle mde (sf 6 msr (6 * G) (6 * n)) mtl mtx mcp mmk mns) Ph) : ∀ (m k : Nat), k + m = 6 * n → 6 * G ≤ k → Ev g mdX2_close 143 [some (.ref mo), some (.int (nI G)), some (.int (nI k))] [] (wM g mo mr (nI n) mgv mcu mck mcl msh mhh mnu mpa mfa mti mpo mle mde (sf 6 msr (6 * G) k) mtl mtx mcp mmk mns) Ph := by
  intro m
  induction m with
  | zero =>
    intro k hk hGk
    have : k = 6 * n := by omega
    subst this
    refine ev_iload_n (pc' := 144) dX2_close_143 rfl rfl ?_
    refine ev_bipush (pc' := 146) (v := nI 6) dX2_close_144 rfl (by decide) ?_
    refine ev_aload_n (pc' := 147) dX2_close_146 rfl rfl ?_
    refine ev_get inX2 0 0 rfl rfl (by decide) flX2_nodes rfl (pc' := 150) dX2_close_147 rfl ?_
    refine ev_imulN  (pc' := 151) dX2_close_150 rfl ?_
    refine ev_icmp_ge (tgt := 175) (pc' := 154) dX2_close_151 (by decide) rfl (fun h151 => ?_) (fun h151 => ?_)
    · exact Ev.weak [some (.ref mo), some (.int (nI G)), none] (lw_le_get _ _ (by simp [lw_le])) K
    · exact absurd (nI_le (by omega) (by omega)) h151
  | succ m ih =>
    intro k hk hGk
    refine ev_iload_n (pc' := 144) dX2_close_143 rfl rfl ?_
    refine ev_bipush (pc' := 146) (v := nI 6) dX2_close_144 rfl (by decide) ?_
    refine ev_aload_n (pc' := 147) dX2_close_146 rfl rfl ?_
    refine ev_get inX2 0 0 rfl rfl (by decide) flX2_nodes rfl (pc' := 150) dX2_close_147 rfl ?_
    refine ev_imulN  (pc' := 151) dX2_close_150 rfl ?_
    refine ev_icmp_ge (tgt := 175) (pc' := 154) dX2_close_151 (by decide) rfl (fun h151 => ?_) (fun h151 => ?_)
    · exact absurd h151 (nI_ge (by omega) (by omega))
    · refine ev_aload_n (pc' := 155) dX2_close_154 rfl rfl ?_
      refine ev_get inX2 0 9 rfl rfl (by decide) flX2_string rfl (pc' := 158) dX2_close_155 rfl ?_
      refine ev_iload_n (pc' := 159) dX2_close_158 rfl rfl ?_
      refine ev_aload_n (pc' := 160) dX2_close_159 rfl rfl ?_
      refine ev_get inX2 0 9 rfl rfl (by decide) flX2_string rfl (pc' := 163) dX2_close_160 rfl ?_
      refine ev_iload_n (pc' := 164) dX2_close_163 rfl rfl ?_
      refine ev_bipush (pc' := 166) (v := nI 6) dX2_close_164 rfl (by decide) ?_
      refine ev_iaddN  (pc' := 167) dX2_close_166 rfl ?_
      refine ev_ialdN 8 rfl (by omega) (by decide) (sf_far (by omega)) (pc' := 168) dX2_close_167 rfl ?_
      refine ev_iastN 8 rfl (by omega) (by decide) (pc' := 169) dX2_close_168 rfl (ws' := wM _ _ _ _ _ _ _ _ _ _ _ _ _ _ _ _ _ _ _ _ _ _ _) rfl ?_
      refine ev_iinc (pc' := 172) (lv' := [_, _, _]) dX2_close_169 rfl rfl (nI_1 _) (by decide) (by intro w hw; first | exact Or.inl rfl | (right; have hw := Option.some.inj (Option.some.inj hw); subst hw; first | rfl | exact rf_cat _) | cases hw) rfl ?_
      refine ev_goto (pc' := 143) dX2_close_172 (by decide) ?_
      rw [sf_s hGk]
      exact ih (k + 1) (by omega) (by omega)
theorem cl3_loop {G n : Nat} (hG : G ≤ n) (hn : n < 24) (K : Ev g mdX2_close 212 [some (.ref mo), some (.int (nI G)), none] [] (wM g mo mr (nI n) mgv mcu mck mcl msh mhh mnu mpa mfa mti mpo mle mde msr mtl (sf 40 mtx (40 * G) (40 * n)) mcp mmk mns) Ph) : ∀ (m k : Nat), k + m = 40 * n → 40 * G ≤ k → Ev g mdX2_close 180 [some (.ref mo), some (.int (nI G)), some (.int (nI k))] [] (wM g mo mr (nI n) mgv mcu mck mcl msh mhh mnu mpa mfa mti mpo mle mde msr mtl (sf 40 mtx (40 * G) k) mcp mmk mns) Ph := by
  intro m
  induction m with
  | zero =>
    intro k hk hGk
    have : k = 40 * n := by omega
    subst this
    refine ev_iload_n (pc' := 181) dX2_close_180 rfl rfl ?_
    refine ev_bipush (pc' := 183) (v := nI 40) dX2_close_181 rfl (by decide) ?_
    refine ev_aload_n (pc' := 184) dX2_close_183 rfl rfl ?_
    refine ev_get inX2 0 0 rfl rfl (by decide) flX2_nodes rfl (pc' := 187) dX2_close_184 rfl ?_
    refine ev_imulN  (pc' := 188) dX2_close_187 rfl ?_
    refine ev_icmp_ge (tgt := 212) (pc' := 191) dX2_close_188 (by decide) rfl (fun h188 => ?_) (fun h188 => ?_)
    · exact Ev.weak [some (.ref mo), some (.int (nI G)), none] (lw_le_get _ _ (by simp [lw_le])) K
    · exact absurd (nI_le (by omega) (by omega)) h188
  | succ m ih =>
    intro k hk hGk
    refine ev_iload_n (pc' := 181) dX2_close_180 rfl rfl ?_
    refine ev_bipush (pc' := 183) (v := nI 40) dX2_close_181 rfl (by decide) ?_
    refine ev_aload_n (pc' := 184) dX2_close_183 rfl rfl ?_
    refine ev_get inX2 0 0 rfl rfl (by decide) flX2_nodes rfl (pc' := 187) dX2_close_184 rfl ?_
    refine ev_imulN  (pc' := 188) dX2_close_187 rfl ?_
    refine ev_icmp_ge (tgt := 212) (pc' := 191) dX2_close_188 (by decide) rfl (fun h188 => ?_) (fun h188 => ?_)
    · exact absurd h188 (nI_ge (by omega) (by omega))
    · refine ev_aload_n (pc' := 192) dX2_close_191 rfl rfl ?_
      refine ev_get inX2 0 11 rfl rfl (by decide) flX2_text rfl (pc' := 195) dX2_close_192 rfl ?_
      refine ev_iload_n (pc' := 196) dX2_close_195 rfl rfl ?_
      refine ev_aload_n (pc' := 197) dX2_close_196 rfl rfl ?_
      refine ev_get inX2 0 11 rfl rfl (by decide) flX2_text rfl (pc' := 200) dX2_close_197 rfl ?_
      refine ev_iload_n (pc' := 201) dX2_close_200 rfl rfl ?_
      refine ev_bipush (pc' := 203) (v := nI 40) dX2_close_201 rfl (by decide) ?_
      refine ev_iaddN  (pc' := 204) dX2_close_203 rfl ?_
      refine ev_ialdN 10 rfl (by omega) (by decide) (sf_far (by omega)) (pc' := 205) dX2_close_204 rfl ?_
      refine ev_iastN 10 rfl (by omega) (by decide) (pc' := 206) dX2_close_205 rfl (ws' := wM _ _ _ _ _ _ _ _ _ _ _ _ _ _ _ _ _ _ _ _ _ _ _) rfl ?_
      refine ev_iinc (pc' := 209) (lv' := [_, _, _]) dX2_close_206 rfl rfl (nI_1 _) (by decide) (by intro w hw; first | exact Or.inl rfl | (right; have hw := Option.some.inj (Option.some.inj hw); subst hw; first | rfl | exact rf_cat _) | cases hw) rfl ?_
      refine ev_goto (pc' := 180) dX2_close_209 (by decide) ?_
      rw [sf_s hGk]
      exact ih (k + 1) (by omega) (by omega)
theorem RM_rmv (T : Tree S) (hR : RM S mnd mgv mcu mck mcl msh mhh mnu mpa mfa mti mpo mle mde msr mtl mtx mcp mmk mns) (ht : ∀ a ∈ sL S, stl S a ≤ 40) (hle : ∀ a ∈ sL S, sle S a ≤ 6) {e n : Nat} (he : e ∈ sL S) (hT : Tree (rmv S e)) (hc : scu S ∈ sL S) (hce : scu S ≠ e) (hn : n + 1 = (sL S).length) : RM (rmv S e) (nI n) mgv (nI (ix (rmv S e) (scu S))) mck mcl msh mhh (sf 1 mnu (ix S e) n) (sf 1 mpa (ix S e) n) (sf 1 mfa (ix S e) n) (sf 1 mti (ix S e) n) (sf 1 mpo (ix S e) n) (sf 1 mle (ix S e) n) (sf 1 mde (ix S e) n) (sf 6 msr (6 * ix S e) (6 * n)) (sf 1 mtl (ix S e) n) (sf 40 mtx (40 * ix S e) (40 * n)) mcp mmk mns := by
  refine ⟨?_, hR.2.1, rfl, hR.2.2.2.1, hR.2.2.2.2.1, fun a ha => ?_, hR.2.2.2.2.2.2.1, hR.2.2.2.2.2.2.2⟩
  · rw [rmv_len he, ← hn, Nat.add_sub_cancel]
  · obtain ⟨h1, h2⟩ := (rmv_mem T he).mp ha
    have hr := RM.row hR h1
    have hk := ix_len h1
    have h40 := ht a h1
    have h6 := hle a h1
    have key : ∀ f : Nat → Int32, sf 1 f (ix S e) n (ix (rmv S e) a) = f (ix S a) := by
      intro f
      rcases rmv_ix T he hT h1 h2 with ⟨q1, q2⟩ | ⟨q1, q2⟩
      · rw [q2, sf_lo q1]
      · rw [sf_in (by omega) (by omega), q2]
    refine ⟨(key _).trans hr.1, (key _).trans hr.2.1, (key _).trans hr.2.2.1, (key _).trans hr.2.2.2.1, (key _).trans hr.2.2.2.2.1, (key _).trans hr.2.2.2.2.2.1, (key _).trans hr.2.2.2.2.2.2.1, (key _).trans hr.2.2.2.2.2.2.2.1, fun i hi => ?_, fun i hi => ?_⟩
    · have hi : i < sle S a := hi
      have h9 := hr.2.2.2.2.2.2.2.2.1 i hi
      rcases rmv_ix T he hT h1 h2 with ⟨q1, q2⟩ | ⟨q1, q2⟩
      · rw [q2, sf_lo (by omega)]; exact h9
      · rw [sf_in (by omega) (by omega), show 6 * ix (rmv S e) a + i + 6 = 6 * ix S a + i by omega]; exact h9
    · have hi : i < stl S a := hi
      have h9 := hr.2.2.2.2.2.2.2.2.2 i hi
      rcases rmv_ix T he hT h1 h2 with ⟨q1, q2⟩ | ⟨q1, q2⟩
      · rw [q2, sf_lo (by omega)]; exact h9
      · rw [sf_in (by omega) (by omega), show 40 * ix (rmv S e) a + i + 40 = 40 * ix S a + i by omega]; exact h9
theorem c_close (T : Tree S) (hR : RM S mnd mgv mcu mck mcl msh mhh mnu mpa mfa mti mpo mle mde msr mtl mtx mcp mmk mns) (ht : ∀ a ∈ sL S, stl S a ≤ 40) (hle : ∀ a ∈ sL S, sle S a ≤ 6) {e : Nat} (he : e ∈ sL S) (hT : Tree (rmv S e)) (hc : scu S ∈ sL S) (hce : scu S ≠ e) : Ret g mdX2_close [.ref mo, .int (nI (ix S e))] (wM g mo mr mnd mgv mcu mck mcl msh mhh mnu mpa mfa mti mpo mle mde msr mtl mtx mcp mmk mns) (fun r w => r = none ∧ isM g mo mr (rmv S e) w) := by
  refine Ret.of [_, _, _] 1 (by decide) (Nat.le_of_ble_eq_true rfl) rfl ?_
  have hk := ix_len he
  have hlen := T.len
  obtain ⟨n, hn⟩ : ∃ n, n + 1 = (sL S).length := ⟨(sL S).length - 1, by omega⟩
  have hR2 := RM_rmv T hR ht hle he hT hc hce hn
  obtain ⟨rfl, e2, rfl, e4⟩ := id hR
  rw [← hn]
  refine ev_aload_n (pc' := 1) dX2_close_0 rfl rfl ?_
  refine ev_dup (pc' := 2) dX2_close_1 rfl (by first | rfl | exact rf_cat _) ?_
  refine ev_get inX2 0 0 rfl rfl (by decide) flX2_nodes rfl (pc' := 5) dX2_close_2 rfl ?_
  refine ev_iconst (pc' := 6) (v := nI 1) dX2_close_5 rfl (by decide) ?_
  refine ev_isubN (by omega) (pc' := 7) dX2_close_6 rfl ?_
  refine pX2_nodes rfl (pc' := 10) dX2_close_7 rfl ?_
  refine ev_iload_n (pc' := 11) dX2_close_10 rfl rfl ?_
  refine ev_istore_n (pc' := 12) (lv' := [_, _, _]) dX2_close_11 rfl (by decide) (by intro w hw; first | exact Or.inl rfl | (right; have hw := Option.some.inj (Option.some.inj hw); subst hw; first | rfl | exact rf_cat _) | cases hw) rfl ?_
  have e0 : ∀ f : Nat → Int32, f = sf 1 f (ix S e) (ix S e) := fun f => (sf_0 1 f _).symm
  refine Ev.eq rfl rfl rfl (ws2 := (wM g mo mr (nI n) mgv (nI (ix S (scu S))) mck mcl msh mhh (sf 1 mnu (ix S e) (ix S e)) (sf 1 mpa (ix S e) (ix S e)) (sf 1 mfa (ix S e) (ix S e)) (sf 1 mti (ix S e) (ix S e)) (sf 1 mpo (ix S e) (ix S e)) (sf 1 mle (ix S e) (ix S e)) (sf 1 mde (ix S e) (ix S e)) msr (sf 1 mtl (ix S e) (ix S e)) mtx mcp mmk mns)) (by rw [← e0, ← e0, ← e0, ← e0, ← e0, ← e0, ← e0, ← e0]; rfl) ?_
  have hbo : ∀ j, j ≤ n → mde j = 0 ∨ mde j = 1 := fun j hj => by
    obtain ⟨b, hb, rfl⟩ := ix_at T (show j < (sL S).length by omega)
    rw [(RM.row hR hb).2.2.2.2.2.2.1]
    cases sde S b <;> simp [bI] <;> decide
  refine cl1_loop (by omega) (by omega) hbo ?_ (n - ix S e) (ix S e) (by omega) (Nat.le_refl _)
  refine ev_bipush (pc' := 140) (v := nI 6) dX2_close_138 rfl (by decide) ?_
  refine ev_iload_n (pc' := 141) dX2_close_140 rfl rfl ?_
  refine ev_imulN  (pc' := 142) dX2_close_141 rfl ?_
  refine ev_istore_n (pc' := 143) (lv' := [_, _, _]) dX2_close_142 rfl (by decide) (by intro w hw; first | exact Or.inl rfl | (right; have hw := Option.some.inj (Option.some.inj hw); subst hw; first | rfl | exact rf_cat _) | cases hw) rfl ?_
  refine Ev.eq rfl rfl rfl (ws2 := (wM g mo mr (nI n) mgv (nI (ix S (scu S))) mck mcl msh mhh (sf 1 mnu (ix S e) n) (sf 1 mpa (ix S e) n) (sf 1 mfa (ix S e) n) (sf 1 mti (ix S e) n) (sf 1 mpo (ix S e) n) (sf 1 mle (ix S e) n) (sf 1 mde (ix S e) n) (sf 6 msr (6 * ix S e) (6 * ix S e)) (sf 1 mtl (ix S e) n) mtx mcp mmk mns)) (by rw [sf_0]) ?_
  refine cl2_loop (by omega) (by omega) ?_ (6 * n - 6 * ix S e) (6 * ix S e) (by omega) (Nat.le_refl _)
  refine ev_bipush (pc' := 177) (v := nI 40) dX2_close_175 rfl (by decide) ?_
  refine ev_iload_n (pc' := 178) dX2_close_177 rfl rfl ?_
  refine ev_imulN  (pc' := 179) dX2_close_178 rfl ?_
  refine ev_istore_n (pc' := 180) (lv' := [_, _, _]) dX2_close_179 rfl (by decide) (by intro w hw; first | exact Or.inl rfl | (right; have hw := Option.some.inj (Option.some.inj hw); subst hw; first | rfl | exact rf_cat _) | cases hw) rfl ?_
  refine Ev.eq rfl rfl rfl (ws2 := (wM g mo mr (nI n) mgv (nI (ix S (scu S))) mck mcl msh mhh (sf 1 mnu (ix S e) n) (sf 1 mpa (ix S e) n) (sf 1 mfa (ix S e) n) (sf 1 mti (ix S e) n) (sf 1 mpo (ix S e) n) (sf 1 mle (ix S e) n) (sf 1 mde (ix S e) n) (sf 6 msr (6 * ix S e) (6 * n)) (sf 1 mtl (ix S e) n) (sf 40 mtx (40 * ix S e) (40 * ix S e)) mcp mmk mns)) (by rw [sf_0]) ?_
  refine cl3_loop (by omega) (by omega) ?_ (40 * n - 40 * ix S e) (40 * ix S e) (by omega) (Nat.le_refl _)
  have hkc := ix_lt T hc
  refine ev_aload_n (pc' := 213) dX2_close_212 rfl rfl ?_
  refine ev_dup (pc' := 214) dX2_close_213 rfl (by first | rfl | exact rf_cat _) ?_
  refine ev_get inX2 0 12 rfl rfl (by decide) flX2_current rfl (pc' := 217) dX2_close_214 rfl ?_
  refine ev_aload_n (pc' := 218) dX2_close_217 rfl rfl ?_
  refine ev_get inX2 0 12 rfl rfl (by decide) flX2_current rfl (pc' := 221) dX2_close_218 rfl ?_
  refine ev_iload_n (pc' := 222) dX2_close_221 rfl rfl ?_
  refine ev_icmp_le (tgt := 229) (pc' := 225) dX2_close_222 (by decide) rfl (fun h222 => ?_) (fun h222 => ?_)
  · rw [nI_leI (by omega) (by omega)] at h222
    refine ev_iconst (pc' := 230) (v := nI 0) dX2_close_229 rfl (by decide) ?_
    refine ev_isubN (by omega) (pc' := 231) dX2_close_230 rfl ?_
    refine pX2_current rfl (pc' := 234) dX2_close_231 rfl ?_
    refine ev_vret rfl dX2_close_234 ?_
    refine ⟨rfl, ?_⟩
    rcases rmv_ix T he hT hc hce with ⟨q1, q2⟩ | ⟨q1, q2⟩
    · rw [Nat.sub_zero, ← q2]; exact isM.of hR2
    · omega
  · rw [nI_leI (by omega) (by omega)] at h222
    refine ev_iconst (pc' := 226) (v := nI 1) dX2_close_225 rfl (by decide) ?_
    refine ev_goto (pc' := 230) dX2_close_226 (by decide) ?_
    refine ev_isubN (by omega) (pc' := 231) dX2_close_230 rfl ?_
    refine pX2_current rfl (pc' := 234) dX2_close_231 rfl ?_
    refine ev_vret rfl dX2_close_234 ?_
    refine ⟨rfl, ?_⟩
    rcases rmv_ix T he hT hc hce with ⟨q1, q2⟩ | ⟨q1, q2⟩
    · omega
    · rw [← q2, Nat.add_sub_cancel]; exact isM.of hR2
theorem c_mforget (I : Inv N S) (hR : RM S mnd mgv mcu mck mcl msh mhh mnu mpa mfa mti mpo mle mde msr mtl mtx mcp mmk mns) (x : Int32) : Ret g mdX2_forget [.ref mo, .int x] (wM g mo mr mnd mgv mcu mck mcl msh mhh mnu mpa mfa mti mpo mle mde msr mtl mtx mcp mmk mns) (fun r w => r = some (.int (oFgt S x).1) ∧ isM g mo mr (oFgt S x).2 w) := by
  refine Ret.of [_, _, _, _, _] 3 (by decide) (Nat.le_of_ble_eq_true rfl) rfl ?_
  have T := I.T
  refine ev_aload_n (pc' := 1) dX2_forget_0 rfl rfl ?_
  refine ev_iload_n (pc' := 2) dX2_forget_1 rfl rfl ?_
  refine ev_callV (As := [_]) coX2_at 0 rfl rfl (c_at T hR x) rfl (by decide) (by first | exact Nat.le_of_ble_eq_true rfl | simp [Value.category, rf_cat]) dX2_forget_2 rfl (pc' := 5) rfl (fun v w hq => ?_)
  obtain ⟨rfl, rfl⟩ := hq
  dsimp only [Option.toList, List.cons_append, List.nil_append]
  refine ev_istore_n (pc' := 6) (lv' := [_, _, _, _, _]) dX2_forget_5 rfl (by decide) (by intro w hw; first | exact Or.inl rfl | (right; have hw := Option.some.inj (Option.some.inj hw); subst hw; first | rfl | exact rf_cat _) | cases hw) rfl ?_
  refine ev_iload_n (pc' := 7) dX2_forget_6 rfl rfl ?_
  refine ev_bipush (pc' := 9) (v := (-7)) dX2_forget_7 rfl (by decide) ?_
  refine ev_icmp_ne (tgt := 15) (pc' := 12) dX2_forget_9 (by decide) rfl (fun h9 => ?_) (fun h9 => ?_)
  · cases hl : lk S x with
    | none => exact absurd (lkI_none hl) h9
    | some e =>
      obtain ⟨he, rfl⟩ := lk_some hl
      have hk := ix_lt T he
      rw [lkI_some hl]
      refine ev_aload_n (pc' := 16) dX2_forget_15 rfl rfl ?_
      refine ev_iload_n (pc' := 17) dX2_forget_16 rfl rfl ?_
      refine ev_callV (As := [_]) coX2_isLoose 0 rfl rfl (c_isLoose I hR he) rfl (by decide) (by first | exact Nat.le_of_ble_eq_true rfl | simp [Value.category, rf_cat]) dX2_forget_17 rfl (pc' := 20) rfl (fun v w hq => ?_)
      obtain ⟨rfl, rfl⟩ := hq
      dsimp only [Option.toList, List.cons_append, List.nil_append]
      refine ev_if_ne (tgt := 26) (pc' := 23) dX2_forget_20 (by decide) rfl (fun h20 => ?_) (fun h20 => ?_)
      · rw [bI_ne] at h20
        obtain ⟨hz, hce, -, -⟩ := loose_of h20
        obtain ⟨p, hp, hpL, hpe⟩ := T.2.2.2.2.2.2 e he hz
        have hT := rmv_T T he hz (loose_ch h20)
        have hp1 : p ∈ sL (rmv S e) := (rmv_mem T he).mpr ⟨hpL, by omega⟩
        have hkp := ix_lt hT hp1
        have hplt := T.lt hpL
        have helt := T.lt he
        have hlen1 := hT.len
        have e2 := (RM.row hR he).2.1
        rw [hp] at e2
        rw [oFgt_y hl h20 hp]
        show Ev g mdX2_forget 26 _ [] _ (fun r w => r = some (.int (nI ((sL S).length - 1))) ∧ isM g mo mr (fgS S e p) w)
        unfold fgS
        refine ev_aload_n (pc' := 27) dX2_forget_26 rfl rfl ?_
        refine ev_get inX2 0 3 rfl rfl (by decide) flX2_parent rfl (pc' := 30) dX2_forget_27 rfl ?_
        refine ev_iload_n (pc' := 31) dX2_forget_30 rfl rfl ?_
        refine ev_ialdN 2 rfl (by omega) (by decide) e2 (pc' := 32) dX2_forget_31 rfl ?_
        refine ev_istore_n (pc' := 33) (lv' := [_, _, _, _, _]) dX2_forget_32 rfl (by decide) (by intro w hw; first | exact Or.inl rfl | (right; have hw := Option.some.inj (Option.some.inj hw); subst hw; first | rfl | exact rf_cat _) | cases hw) rfl ?_
        refine ev_aload_n (pc' := 34) dX2_forget_33 rfl rfl ?_
        refine ev_iload_n (pc' := 35) dX2_forget_34 rfl rfl ?_
        refine ev_callV (As := [_]) coX2_close 0 rfl rfl (c_close T hR (fun a ha => I.tl ha) (fun a ha => I.le ha) he hT I.cu (fun q => hce q.symm)) rfl (by decide) (by first | exact Nat.le_of_ble_eq_true rfl | simp [Value.category, rf_cat]) dX2_forget_35 rfl (pc' := 38) rfl (fun v w hq => ?_)
        obtain ⟨rfl, nd2, gv2, cu2, ck2, cl2, sh2, hh2, nu2, pa2, fa2, ti2, po2, le2, de2, sr2, tl2, tx2, cp2, mk2, ns2, rfl, hR2⟩ := hq
        dsimp only [Option.toList, List.cons_append, List.nil_append]
        have e5 : lkI (rmv S e) (oI (some p)) = nI (ix (rmv S e) p) := lkI_some (lk_of hT hp1)
        refine ev_aload_n (pc' := 39) dX2_forget_38 rfl rfl ?_
        refine ev_iload_n (pc' := 40) dX2_forget_39 rfl rfl ?_
        refine ev_callV (As := [_]) coX2_at 0 rfl rfl (c_at hT hR2 _) rfl (by decide) (by first | exact Nat.le_of_ble_eq_true rfl | simp [Value.category, rf_cat]) dX2_forget_40 rfl (pc' := 43) rfl (fun v w hq => ?_)
        obtain ⟨rfl, rfl⟩ := hq
        dsimp only [Option.toList, List.cons_append, List.nil_append]
        rw [e5]
        have e6 := hR2.1
        rw [rmv_len he] at e6
        subst e6
        have hfr : fa2 (ix (rmv S e) p) = oI (sfa S p) := (RM.row hR2 hp1).2.2.1
        have feq : oI (sfa S p) = nI e ↔ sfa S p = some e := oI_eqI (fun c hc => by have := T.lt (I.fa hpL hc).1; omega) (by omega)
        refine ev_istore (pc' := 45) (lv' := [_, _, _, _, _]) dX2_forget_43 rfl (by decide) (by intro w hw; first | exact Or.inl rfl | (right; have hw := Option.some.inj (Option.some.inj hw); subst hw; first | rfl | exact rf_cat _) | cases hw) rfl ?_
        refine ev_aload_n (pc' := 46) dX2_forget_45 rfl rfl ?_
        refine ev_get inX2 0 4 rfl rfl (by decide) flX2_favourite rfl (pc' := 49) dX2_forget_46 rfl ?_
        refine ev_iload (pc' := 51) dX2_forget_49 rfl rfl ?_
        refine ev_ialdN 3 rfl (by omega) (by decide) hfr (pc' := 52) dX2_forget_51 rfl ?_
        refine ev_iload_n (pc' := 53) dX2_forget_52 rfl rfl ?_
        refine ev_icmp_ne (tgt := 77) (pc' := 56) dX2_forget_53 (by decide) rfl (fun h53 => ?_) (fun h53 => ?_)
        · rw [feq] at h53
          rw [if_neg h53]
          refine ev_aload_n (pc' := 78) dX2_forget_77 rfl rfl ?_
          refine ev_get inX2 0 0 rfl rfl (by decide) flX2_nodes rfl (pc' := 81) dX2_forget_78 rfl ?_
          refine ev_iret rfl dX2_forget_81 ?_
          exact ⟨rfl, isM.of hR2⟩
        · rw [feq] at h53
          rw [if_pos h53]
          refine ev_aload_n (pc' := 57) dX2_forget_56 rfl rfl ?_
          refine ev_get inX2 0 4 rfl rfl (by decide) flX2_favourite rfl (pc' := 60) dX2_forget_57 rfl ?_
          refine ev_iload (pc' := 62) dX2_forget_60 rfl rfl ?_
          refine ev_aload_n (pc' := 63) dX2_forget_62 rfl rfl ?_
          refine ev_iload (pc' := 65) dX2_forget_63 rfl rfl ?_
          refine ev_aload_n (pc' := 66) dX2_forget_65 rfl rfl ?_
          refine ev_iload (pc' := 68) dX2_forget_66 rfl rfl ?_
          refine ev_callV (As := [_]) coX2_childMany 0 rfl rfl (c_childMany hT hR2 hp1) rfl (by decide) (by first | exact Nat.le_of_ble_eq_true rfl | simp [Value.category, rf_cat]) dX2_forget_68 rfl (pc' := 71) rfl (fun v w hq => ?_)
          obtain ⟨rfl, rfl⟩ := hq
          dsimp only [Option.toList, List.cons_append, List.nil_append]
          refine ev_iconst (pc' := 72) (v := nI 1) dX2_forget_71 rfl (by decide) ?_
          refine ev_isub (pc' := 73) dX2_forget_72 rfl ?_
          refine ev_callV (As := [_, _]) coX2_child 0 rfl rfl (c_child hT hR2 hp1 _) rfl (by decide) (by first | exact Nat.le_of_ble_eq_true rfl | simp [Value.category, rf_cat]) dX2_forget_73 rfl (pc' := 76) rfl (fun v w hq => ?_)
          obtain ⟨rfl, rfl⟩ := hq
          dsimp only [Option.toList, List.cons_append, List.nil_append]
          rw [show chO (spa (rmv S e)) p (nI (chN (rmv S e) p) - nI 1) (sL (rmv S e)) 0 = oI (nch (spa S) p (sL (rmv S e))) from chO_last _ _ _ (by omega)]
          refine ev_iastN 3 rfl (by omega) (by decide) (pc' := 77) dX2_forget_76 rfl (ws' := wM _ _ _ _ _ _ _ _ _ _ _ _ _ _ _ _ _ _ _ _ _ _ _) rfl ?_
          refine ev_aload_n (pc' := 78) dX2_forget_77 rfl rfl ?_
          refine ev_get inX2 0 0 rfl rfl (by decide) flX2_nodes rfl (pc' := 81) dX2_forget_78 rfl ?_
          refine ev_iret rfl dX2_forget_81 ?_
          refine ⟨rfl, isM.of ⟨hR2.1, hR2.2.1, hR2.2.2.1, hR2.2.2.2.1, hR2.2.2.2.2.1, fun a ha => ?_, hR2.2.2.2.2.2.2.1, hR2.2.2.2.2.2.2.2⟩⟩
          have h := hR2.2.2.2.2.2.1 a ha
          refine ⟨h.1, h.2.1, ?_, h.2.2.2⟩
          show upd fa2 (ix (rmv S e) p) (oI (nch (spa S) p (sL (rmv S e)))) (ix (rmv S e) a) = oI (va_up (sfa S) p (nch (spa S) p (sL (rmv S e))) a)
          by_cases q : a = p
          · rw [q, pk_us, va_up_self]
          · rw [pk_un (fun z => q (ix_inj hT ha hp1 z)), va_up_ne _ _ q]; exact h.2.2.1
      · rw [bI_eq] at h20
        rw [oFgt_n hl h20]
        refine ev_bipush (pc' := 25) (v := (-6)) dX2_forget_23 rfl (by decide) ?_
        refine ev_iret rfl dX2_forget_25 ?_
        exact ⟨rfl, isM.of hR⟩
  · refine ev_bipush (pc' := 14) (v := (-2)) dX2_forget_12 rfl (by decide) ?_
    refine ev_iret rfl dX2_forget_14 ?_
    rw [oFgt_0 ((lkI_m7 T).mp h9)]
    exact ⟨rfl, isM.of hR⟩
end M14
