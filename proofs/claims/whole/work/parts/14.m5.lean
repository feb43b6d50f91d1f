/-! ===== the reference's digest ===== -/
section M8
variable {g : EG} {mo : Nat} {mr : Nat → Nat} {mnd mgv mcu mck mcl msh : Int32} {mhh : Int64} {mnu mpa mfa mti mpo mle mde msr mtl mtx mcp mmk mns : Nat → Int32}
variable {S : SS} {N : Nat} {Ph : Option Value → va_W → Prop}
theorem dgt_loop (T : Tree S) (hR : RM S mnd mgv mcu mck mcl msh mhh mnu mpa mfa mti mpo mle mde msr mtl mtx mcp mmk mns) (ht : ∀ a ∈ sL S, stl S a ≤ 40) {a : Nat} (ha : a ∈ sL S) : ∀ (m i : Nat) (h : Int64), i + m = stl S a → Ev g mdX2_digest 119 [some (.ref mo), some (.int (nI (ix S a))), none] [] (wM g mo mr mnd mgv mcu mck mcl msh (mxT (stx S a) m i h) mnu mpa mfa mti mpo mle mde msr mtl mtx mcp mmk mns) Ph → Ev g mdX2_digest 87 [some (.ref mo), some (.int (nI (ix S a))), some (.int (nI i))] [] (wM g mo mr mnd mgv mcu mck mcl msh (h) mnu mpa mfa mti mpo mle mde msr mtl mtx mcp mmk mns) Ph := by
  intro m
  have hk := ix_lt T ha
  have h40 := ht a ha
  have hr := RM.row hR ha
  induction m with
  | zero =>
    intro i h hi K
    refine ev_iload_n (pc' := 88) dX2_digest_87 rfl rfl ?_
    refine ev_aload_n (pc' := 89) dX2_digest_88 rfl rfl ?_
    refine ev_get inX2 0 10 rfl rfl (by decide) flX2_textLength rfl (pc' := 92) dX2_digest_89 rfl ?_
    refine ev_iload_n (pc' := 93) dX2_digest_92 rfl rfl ?_
    refine ev_ialdN 9 rfl (by omega) (by decide) hr.2.2.2.2.2.2.2.1 (pc' := 94) dX2_digest_93 rfl ?_
    refine ev_icmp_ge (tgt := 119) (pc' := 97) dX2_digest_94 (by decide) rfl (fun h94 => ?_) (fun h94 => ?_)
    · exact Ev.weak [some (.ref mo), some (.int (nI (ix S a))), none] (lw_le_get _ _ (by simp [lw_le])) K
    · exact absurd (nI_le (by omega) (by omega)) h94
  | succ m ih =>
    intro i h hi K
    refine ev_iload_n (pc' := 88) dX2_digest_87 rfl rfl ?_
    refine ev_aload_n (pc' := 89) dX2_digest_88 rfl rfl ?_
    refine ev_get inX2 0 10 rfl rfl (by decide) flX2_textLength rfl (pc' := 92) dX2_digest_89 rfl ?_
    refine ev_iload_n (pc' := 93) dX2_digest_92 rfl rfl ?_
    refine ev_ialdN 9 rfl (by omega) (by decide) hr.2.2.2.2.2.2.2.1 (pc' := 94) dX2_digest_93 rfl ?_
    refine ev_icmp_ge (tgt := 119) (pc' := 97) dX2_digest_94 (by decide) rfl (fun h94 => ?_) (fun h94 => ?_)
    · exact absurd h94 (nI_ge (by omega) (by omega))
    · refine ev_aload_n (pc' := 98) dX2_digest_97 rfl rfl ?_
      refine ev_aload_n (pc' := 99) dX2_digest_98 rfl rfl ?_
      refine ev_get inX2 0 11 rfl rfl (by decide) flX2_text rfl (pc' := 102) dX2_digest_99 rfl ?_
      refine ev_bipush (pc' := 104) (v := nI 40) dX2_digest_102 rfl (by decide) ?_
      refine ev_iload_n (pc' := 105) dX2_digest_104 rfl rfl ?_
      refine ev_imul (pc' := 106) dX2_digest_105 rfl ?_
      refine ev_iload_n (pc' := 107) dX2_digest_106 rfl rfl ?_
      refine ev_iadd (pc' := 108) dX2_digest_107 rfl ?_
      rw [pk_mul, nI_add]
      refine ev_ialdN 10 rfl (by omega) (by decide) (hr.2.2.2.2.2.2.2.2.2 i (by omega)) (pc' := 109) dX2_digest_108 rfl ?_
      refine ev_i2l (pc' := 110) dX2_digest_109 rfl ?_
      refine ev_callV (As := [_]) coX2_mix 0 rfl rfl (c_mix _) rfl (by decide) (by first | exact Nat.le_of_ble_eq_true rfl | simp [Value.category, rf_cat]) dX2_digest_110 rfl (pc' := 113) rfl (fun v w hq => ?_)
      obtain ⟨rfl, rfl⟩ := hq
      dsimp only [Option.toList, List.cons_append, List.nil_append]
      refine ev_iinc (pc' := 116) (lv' := [_, _, _]) dX2_digest_113 rfl rfl (nI_1 _) (by decide) (by intro w hw; first | exact Or.inl rfl | (right; have hw := Option.some.inj (Option.some.inj hw); subst hw; first | rfl | exact rf_cat _) | cases hw) rfl ?_
      refine ev_goto (pc' := 87) dX2_digest_116 (by decide) ?_
      exact ih (i + 1) _ (by omega) K
theorem dgn_loop (I : Inv N S) (hR : RM S mnd mgv mcu mck mcl msh mhh mnu mpa mfa mti mpo mle mde msr mtl mtx mcp mmk mns) : ∀ (m k : Nat) (h : Int64), k + m = (sL S).length → (∀ j, Ev g mdX2_digest 147 [some (.ref mo), some (.int (nI j)), none] [] (wM g mo mr mnd mgv mcu mck mcl msh (dgL S ((sL S).drop k) h) mnu mpa mfa mti mpo mle mde msr mtl mtx mcp mmk mns) Ph) → Ev g mdX2_digest 18 [some (.ref mo), some (.int (nI k)), none] [] (wM g mo mr mnd mgv mcu mck mcl msh (h) mnu mpa mfa mti mpo mle mde msr mtl mtx mcp mmk mns) Ph := by
  intro m
  have T := I.T
  have hlen := T.len
  induction m with
  | zero =>
    intro k h hk K
    rw [drop_end hk] at K
    refine ev_iload_n (pc' := 19) dX2_digest_18 rfl rfl ?_
    refine ev_aload_n (pc' := 20) dX2_digest_19 rfl rfl ?_
    refine ev_get inX2 0 0 rfl rfl (by decide) flX2_nodes rfl (pc' := 23) dX2_digest_20 rfl ?_
    refine ev_icmp_ge (tgt := 147) (pc' := 26) dX2_digest_23 (by decide) rfl (fun h23 => ?_) (fun h23 => ?_)
    · exact K k
    · rw [hR.1] at h23
      exact absurd (nI_le (by omega) (by omega)) h23
  | succ m ih =>
    intro k h hk K
    obtain ⟨a, ha, rfl⟩ := ix_at T (show k < (sL S).length by omega)
    have hka := ix_lt T ha
    have hr := RM.row hR ha
    rw [drop_ix ha] at K
    have tail : ∀ h2 : Int64, (∀ j, Ev g mdX2_digest 147 [some (.ref mo), some (.int (nI j)), none] [] (wM g mo mr mnd mgv mcu mck mcl msh (dgL S ((sL S).drop (ix S a + 1)) (mx (mx (mxT (stx S a) (stl S a) 0 (mx h2 (nI (stl S a)).toInt64)) (oI (sfa S a)).toInt64) (nI (sti S a)).toInt64)) mnu mpa mfa mti mpo mle mde msr mtl mtx mcp mmk mns) Ph) → Ev g mdX2_digest 74 [some (.ref mo), some (.int (nI (ix S a))), none] [] (wM g mo mr mnd mgv mcu mck mcl msh (h2) mnu mpa mfa mti mpo mle mde msr mtl mtx mcp mmk mns) Ph := by
      intro h2 K
      refine ev_aload_n (pc' := 75) dX2_digest_74 rfl rfl ?_
      refine ev_aload_n (pc' := 76) dX2_digest_75 rfl rfl ?_
      refine ev_get inX2 0 10 rfl rfl (by decide) flX2_textLength rfl (pc' := 79) dX2_digest_76 rfl ?_
      refine ev_iload_n (pc' := 80) dX2_digest_79 rfl rfl ?_
      refine ev_ialdN 9 rfl (by omega) (by decide) hr.2.2.2.2.2.2.2.1 (pc' := 81) dX2_digest_80 rfl ?_
      refine ev_i2l (pc' := 82) dX2_digest_81 rfl ?_
      refine ev_callV (As := [_]) coX2_mix 0 rfl rfl (c_mix _) rfl (by decide) (by first | exact Nat.le_of_ble_eq_true rfl | simp [Value.category, rf_cat]) dX2_digest_82 rfl (pc' := 85) rfl (fun v w hq => ?_)
      obtain ⟨rfl, rfl⟩ := hq
      dsimp only [Option.toList, List.cons_append, List.nil_append]
      refine ev_iconst (pc' := 86) (v := nI 0) dX2_digest_85 rfl (by decide) ?_
      refine ev_istore_n (pc' := 87) (lv' := [_, _, _]) dX2_digest_86 rfl (by decide) (by intro w hw; first | exact Or.inl rfl | (right; have hw := Option.some.inj (Option.some.inj hw); subst hw; first | rfl | exact rf_cat _) | cases hw) rfl ?_
      refine dgt_loop T hR (fun a ha => I.tl ha) ha (stl S a) 0 _ (by omega) ?_
      refine ev_aload_n (pc' := 120) dX2_digest_119 rfl rfl ?_
      refine ev_aload_n (pc' := 121) dX2_digest_120 rfl rfl ?_
      refine ev_get inX2 0 4 rfl rfl (by decide) flX2_favourite rfl (pc' := 124) dX2_digest_121 rfl ?_
      refine ev_iload_n (pc' := 125) dX2_digest_124 rfl rfl ?_
      refine ev_ialdN 3 rfl (by omega) (by decide) hr.2.2.1 (pc' := 126) dX2_digest_125 rfl ?_
      refine ev_i2l (pc' := 127) dX2_digest_126 rfl ?_
      refine ev_callV (As := [_]) coX2_mix 0 rfl rfl (c_mix _) rfl (by decide) (by first | exact Nat.le_of_ble_eq_true rfl | simp [Value.category, rf_cat]) dX2_digest_127 rfl (pc' := 130) rfl (fun v w hq => ?_)
      obtain ⟨rfl, rfl⟩ := hq
      dsimp only [Option.toList, List.cons_append, List.nil_append]
      refine ev_aload_n (pc' := 131) dX2_digest_130 rfl rfl ?_
      refine ev_aload_n (pc' := 132) dX2_digest_131 rfl rfl ?_
      refine ev_get inX2 0 5 rfl rfl (by decide) flX2_time rfl (pc' := 135) dX2_digest_132 rfl ?_
      refine ev_iload_n (pc' := 136) dX2_digest_135 rfl rfl ?_
      refine ev_ialdN 4 rfl (by omega) (by decide) hr.2.2.2.1 (pc' := 137) dX2_digest_136 rfl ?_
      refine ev_i2l (pc' := 138) dX2_digest_137 rfl ?_
      refine ev_callV (As := [_]) coX2_mix 0 rfl rfl (c_mix _) rfl (by decide) (by first | exact Nat.le_of_ble_eq_true rfl | simp [Value.category, rf_cat]) dX2_digest_138 rfl (pc' := 141) rfl (fun v w hq => ?_)
      obtain ⟨rfl, rfl⟩ := hq
      dsimp only [Option.toList, List.cons_append, List.nil_append]
      refine ev_iinc (pc' := 144) (lv' := [_, _, _]) dX2_digest_141 rfl rfl (nI_1 _) (by decide) (by intro w hw; first | exact Or.inl rfl | (right; have hw := Option.some.inj (Option.some.inj hw); subst hw; first | rfl | exact rf_cat _) | cases hw) rfl ?_
      refine ev_goto (pc' := 18) dX2_digest_144 (by decide) ?_
      exact ih (ix S a + 1) _ (by omega) K
    refine ev_iload_n (pc' := 19) dX2_digest_18 rfl rfl ?_
    refine ev_aload_n (pc' := 20) dX2_digest_19 rfl rfl ?_
    refine ev_get inX2 0 0 rfl rfl (by decide) flX2_nodes rfl (pc' := 23) dX2_digest_20 rfl ?_
    refine ev_icmp_ge (tgt := 147) (pc' := 26) dX2_digest_23 (by decide) rfl (fun h23 => ?_) (fun h23 => ?_)
    · rw [hR.1] at h23
      exact absurd h23 (nI_ge (by omega) (by omega))
    · by_cases hz : a = 0
      · have hz' := (ixz T ha).mpr hz
        refine ev_aload_n (pc' := 27) dX2_digest_26 rfl rfl ?_
        refine ev_aload_n (pc' := 28) dX2_digest_27 rfl rfl ?_
        refine ev_get inX2 0 2 rfl rfl (by decide) flX2_number rfl (pc' := 31) dX2_digest_28 rfl ?_
        refine ev_iload_n (pc' := 32) dX2_digest_31 rfl rfl ?_
        refine ev_ialdN 1 rfl (by omega) (by decide) hr.1 (pc' := 33) dX2_digest_32 rfl ?_
        refine ev_i2l (pc' := 34) dX2_digest_33 rfl ?_
        refine ev_callV (As := [_]) coX2_mix 0 rfl rfl (c_mix _) rfl (by decide) (by first | exact Nat.le_of_ble_eq_true rfl | simp [Value.category, rf_cat]) dX2_digest_34 rfl (pc' := 37) rfl (fun v w hq => ?_)
        obtain ⟨rfl, rfl⟩ := hq
        dsimp only [Option.toList, List.cons_append, List.nil_append]
        refine ev_aload_n (pc' := 38) dX2_digest_37 rfl rfl ?_
        refine ev_iload_n (pc' := 39) dX2_digest_38 rfl rfl ?_
        refine ev_if_ne (tgt := 46) (pc' := 42) dX2_digest_39 (by decide) rfl (fun h39 => ?_) (fun h39 => ?_)
        · exact absurd hz' h39
        · refine ev_lconst (pc' := 43) (v := 0) dX2_digest_42 rfl (by decide) ?_
          refine ev_goto (pc' := 53) dX2_digest_43 (by decide) ?_
          refine ev_callV (As := [_]) coX2_mix 0 rfl rfl (c_mix _) rfl (by decide) (by first | exact Nat.le_of_ble_eq_true rfl | simp [Value.category, rf_cat]) dX2_digest_53 rfl (pc' := 56) rfl (fun v w hq => ?_)
          obtain ⟨rfl, rfl⟩ := hq
          dsimp only [Option.toList, List.cons_append, List.nil_append]
          refine ev_aload_n (pc' := 57) dX2_digest_56 rfl rfl ?_
          refine ev_iload_n (pc' := 58) dX2_digest_57 rfl rfl ?_
          refine ev_if_ne (tgt := 65) (pc' := 61) dX2_digest_58 (by decide) rfl (fun h58 => ?_) (fun h58 => ?_)
          · exact absurd hz' h58
          · refine ev_lconst (pc' := 62) (v := 0) dX2_digest_61 rfl (by decide) ?_
            refine ev_goto (pc' := 71) dX2_digest_62 (by decide) ?_
            refine ev_callV (As := [_]) coX2_mix 0 rfl rfl (c_mix _) rfl (by decide) (by first | exact Nat.le_of_ble_eq_true rfl | simp [Value.category, rf_cat]) dX2_digest_71 rfl (pc' := 74) rfl (fun v w hq => ?_)
            obtain ⟨rfl, rfl⟩ := hq
            dsimp only [Option.toList, List.cons_append, List.nil_append]
            refine tail _ (fun j => ?_)
            have K := K j
            unfold dgL dgN at K
            rw [if_pos hz, if_pos hz] at K
            exact K
      · have hz' : ¬ nI (ix S a) = 0 := fun q => hz ((ixz T ha).mp q)
        refine ev_aload_n (pc' := 27) dX2_digest_26 rfl rfl ?_
        refine ev_aload_n (pc' := 28) dX2_digest_27 rfl rfl ?_
        refine ev_get inX2 0 2 rfl rfl (by decide) flX2_number rfl (pc' := 31) dX2_digest_28 rfl ?_
        refine ev_iload_n (pc' := 32) dX2_digest_31 rfl rfl ?_
        refine ev_ialdN 1 rfl (by omega) (by decide) hr.1 (pc' := 33) dX2_digest_32 rfl ?_
        refine ev_i2l (pc' := 34) dX2_digest_33 rfl ?_
        refine ev_callV (As := [_]) coX2_mix 0 rfl rfl (c_mix _) rfl (by decide) (by first | exact Nat.le_of_ble_eq_true rfl | simp [Value.category, rf_cat]) dX2_digest_34 rfl (pc' := 37) rfl (fun v w hq => ?_)
        obtain ⟨rfl, rfl⟩ := hq
        dsimp only [Option.toList, List.cons_append, List.nil_append]
        refine ev_aload_n (pc' := 38) dX2_digest_37 rfl rfl ?_
        refine ev_iload_n (pc' := 39) dX2_digest_38 rfl rfl ?_
        refine ev_if_ne (tgt := 46) (pc' := 42) dX2_digest_39 (by decide) rfl (fun h39 => ?_) (fun h39 => ?_)
        · refine ev_aload_n (pc' := 47) dX2_digest_46 rfl rfl ?_
          refine ev_get inX2 0 3 rfl rfl (by decide) flX2_parent rfl (pc' := 50) dX2_digest_47 rfl ?_
          refine ev_iload_n (pc' := 51) dX2_digest_50 rfl rfl ?_
          refine ev_ialdN 2 rfl (by omega) (by decide) hr.2.1 (pc' := 52) dX2_digest_51 rfl ?_
          refine ev_i2l (pc' := 53) dX2_digest_52 rfl ?_
          refine ev_callV (As := [_]) coX2_mix 0 rfl rfl (c_mix _) rfl (by decide) (by first | exact Nat.le_of_ble_eq_true rfl | simp [Value.category, rf_cat]) dX2_digest_53 rfl (pc' := 56) rfl (fun v w hq => ?_)
          obtain ⟨rfl, rfl⟩ := hq
          dsimp only [Option.toList, List.cons_append, List.nil_append]
          refine ev_aload_n (pc' := 57) dX2_digest_56 rfl rfl ?_
          refine ev_iload_n (pc' := 58) dX2_digest_57 rfl rfl ?_
          refine ev_if_ne (tgt := 65) (pc' := 61) dX2_digest_58 (by decide) rfl (fun h58 => ?_) (fun h58 => ?_)
          · have ce := c_edit (g := g) (mo := mo) (mr := mr) (msh := msh) (mns := mns) (mhh := mx (mx h (nI a).toInt64) (oI (spa S a)).toInt64) T hR ha
            refine ev_aload_n (pc' := 66) dX2_digest_65 rfl rfl ?_
            refine ev_iload_n (pc' := 67) dX2_digest_66 rfl rfl ?_
            refine ev_callV (As := [_]) coX2_edit 0 rfl rfl (ce) rfl (by decide) (by first | exact Nat.le_of_ble_eq_true rfl | simp [Value.category, rf_cat]) dX2_digest_67 rfl (pc' := 70) rfl (fun v w hq => ?_)
            obtain ⟨rfl, rfl⟩ := hq
            dsimp only [Option.toList, List.cons_append, List.nil_append]
            refine ev_i2l (pc' := 71) dX2_digest_70 rfl ?_
            refine ev_callV (As := [_]) coX2_mix 0 rfl rfl (c_mix _) rfl (by decide) (by first | exact Nat.le_of_ble_eq_true rfl | simp [Value.category, rf_cat]) dX2_digest_71 rfl (pc' := 74) rfl (fun v w hq => ?_)
            obtain ⟨rfl, rfl⟩ := hq
            dsimp only [Option.toList, List.cons_append, List.nil_append]
            refine tail _ (fun j => ?_)
            have K := K j
            unfold dgL dgN at K
            rw [if_neg hz, if_neg hz] at K
            exact K
          · exact absurd h58 hz'
        · exact absurd h39 hz'
theorem dgm_loop (hR : RM S mnd mgv mcu mck mcl msh mhh mnu mpa mfa mti mpo mle mde msr mtl mtx mcp mmk mns) : ∀ (m k : Nat) (h : Int64), k + m = 5 → (∀ j, Ev g mdX2_digest 194 [some (.ref mo), some (.int (nI j)), none] [] (wM g mo mr mnd mgv mcu mck mcl msh (mxT (fun i => oI (smk S i)) m k h) mnu mpa mfa mti mpo mle mde msr mtl mtx mcp mmk mns) Ph) → Ev g mdX2_digest 172 [some (.ref mo), some (.int (nI k)), none] [] (wM g mo mr mnd mgv mcu mck mcl msh (h) mnu mpa mfa mti mpo mle mde msr mtl mtx mcp mmk mns) Ph := by
  intro m
  induction m with
  | zero =>
    intro k h hk K
    refine ev_iload_n (pc' := 173) dX2_digest_172 rfl rfl ?_
    refine ev_iconst (pc' := 174) (v := nI 5) dX2_digest_173 rfl (by decide) ?_
    refine ev_icmp_ge (tgt := 194) (pc' := 177) dX2_digest_174 (by decide) rfl (fun h174 => ?_) (fun h174 => ?_)
    · exact K k
    · exact absurd (nI_le (by omega) (by omega)) h174
  | succ m ih =>
    intro k h hk K
    refine ev_iload_n (pc' := 173) dX2_digest_172 rfl rfl ?_
    refine ev_iconst (pc' := 174) (v := nI 5) dX2_digest_173 rfl (by decide) ?_
    refine ev_icmp_ge (tgt := 194) (pc' := 177) dX2_digest_174 (by decide) rfl (fun h174 => ?_) (fun h174 => ?_)
    · exact absurd h174 (nI_ge (by omega) (by omega))
    · refine ev_aload_n (pc' := 178) dX2_digest_177 rfl rfl ?_
      refine ev_aload_n (pc' := 179) dX2_digest_178 rfl rfl ?_
      refine ev_get inX2 0 16 rfl rfl (by decide) flX2_mark rfl (pc' := 182) dX2_digest_179 rfl ?_
      refine ev_iload_n (pc' := 183) dX2_digest_182 rfl rfl ?_
      refine ev_ialdN 12 rfl (by omega) (by decide) (hR.2.2.2.2.2.2.2 k (by omega)) (pc' := 184) dX2_digest_183 rfl ?_
      refine ev_i2l (pc' := 185) dX2_digest_184 rfl ?_
      refine ev_callV (As := [_]) coX2_mix 0 rfl rfl (c_mix _) rfl (by decide) (by first | exact Nat.le_of_ble_eq_true rfl | simp [Value.category, rf_cat]) dX2_digest_185 rfl (pc' := 188) rfl (fun v w hq => ?_)
      obtain ⟨rfl, rfl⟩ := hq
      dsimp only [Option.toList, List.cons_append, List.nil_append]
      refine ev_iinc (pc' := 191) (lv' := [_, _, _]) dX2_digest_188 rfl rfl (nI_1 _) (by decide) (by intro w hw; first | exact Or.inl rfl | (right; have hw := Option.some.inj (Option.some.inj hw); subst hw; first | rfl | exact rf_cat _) | cases hw) rfl ?_
      refine ev_goto (pc' := 172) dX2_digest_191 (by decide) ?_
      exact ih (k + 1) _ (by omega) K
theorem dgc_loop (hR : RM S mnd mgv mcu mck mcl msh mhh mnu mpa mfa mti mpo mle mde msr mtl mtx mcp mmk mns) (hc : scl S ≤ 6) : ∀ (m k : Nat) (h : Int64), k + m = scl S → (∀ j, Ev g mdX2_digest 239 [some (.ref mo), some (.int (nI j)), none] [] (wM g mo mr mnd mgv mcu mck mcl msh (mxT (scp S) m k h) mnu mpa mfa mti mpo mle mde msr mtl mtx mcp mmk mns) Ph) → Ev g mdX2_digest 214 [some (.ref mo), some (.int (nI k)), none] [] (wM g mo mr mnd mgv mcu mck mcl msh (h) mnu mpa mfa mti mpo mle mde msr mtl mtx mcp mmk mns) Ph := by
  intro m
  have e4 := hR.2.2.2.2.1
  induction m with
  | zero =>
    intro k h hk K
    refine ev_iload_n (pc' := 215) dX2_digest_214 rfl rfl ?_
    refine ev_aload_n (pc' := 216) dX2_digest_215 rfl rfl ?_
    refine ev_get inX2 0 14 rfl rfl (by decide) flX2_clipLength rfl (pc' := 219) dX2_digest_216 rfl ?_
    refine ev_icmp_ge (tgt := 239) (pc' := 222) dX2_digest_219 (by decide) rfl (fun h219 => ?_) (fun h219 => ?_)
    · exact K k
    · rw [e4] at h219
      exact absurd (nI_le (by omega) (by omega)) h219
  | succ m ih =>
    intro k h hk K
    refine ev_iload_n (pc' := 215) dX2_digest_214 rfl rfl ?_
    refine ev_aload_n (pc' := 216) dX2_digest_215 rfl rfl ?_
    refine ev_get inX2 0 14 rfl rfl (by decide) flX2_clipLength rfl (pc' := 219) dX2_digest_216 rfl ?_
    refine ev_icmp_ge (tgt := 239) (pc' := 222) dX2_digest_219 (by decide) rfl (fun h219 => ?_) (fun h219 => ?_)
    · rw [e4] at h219
      exact absurd h219 (nI_ge (by omega) (by omega))
    · refine ev_aload_n (pc' := 223) dX2_digest_222 rfl rfl ?_
      refine ev_aload_n (pc' := 224) dX2_digest_223 rfl rfl ?_
      refine ev_get inX2 0 15 rfl rfl (by decide) flX2_clip rfl (pc' := 227) dX2_digest_224 rfl ?_
      refine ev_iload_n (pc' := 228) dX2_digest_227 rfl rfl ?_
      refine ev_ialdN 11 rfl (by omega) (by decide) (hR.2.2.2.2.2.2.1 k (by omega)) (pc' := 229) dX2_digest_228 rfl ?_
      refine ev_i2l (pc' := 230) dX2_digest_229 rfl ?_
      refine ev_callV (As := [_]) coX2_mix 0 rfl rfl (c_mix _) rfl (by decide) (by first | exact Nat.le_of_ble_eq_true rfl | simp [Value.category, rf_cat]) dX2_digest_230 rfl (pc' := 233) rfl (fun v w hq => ?_)
      obtain ⟨rfl, rfl⟩ := hq
      dsimp only [Option.toList, List.cons_append, List.nil_append]
      refine ev_iinc (pc' := 236) (lv' := [_, _, _]) dX2_digest_233 rfl rfl (nI_1 _) (by decide) (by intro w hw; first | exact Or.inl rfl | (right; have hw := Option.some.inj (Option.some.inj hw); subst hw; first | rfl | exact rf_cat _) | cases hw) rfl ?_
      refine ev_goto (pc' := 214) dX2_digest_236 (by decide) ?_
      exact ih (k + 1) _ (by omega) K
theorem c_mdigest (I : Inv N S) (hR : RM S mnd mgv mcu mck mcl msh mhh mnu mpa mfa mti mpo mle mde msr mtl mtx mcp mmk mns) : Ret g mdX2_digest [.ref mo] (wM g mo mr mnd mgv mcu mck mcl msh mhh mnu mpa mfa mti mpo mle mde msr mtl mtx mcp mmk mns) (fun r w => r = some (.long (dig S)) ∧ isM g mo mr S w) := by
  refine Ret.of [_, _, _] 2 (by decide) (Nat.le_of_ble_eq_true rfl) rfl ?_
  have T := I.T
  have hkc := ix_lt T I.cu
  obtain ⟨rfl, e2, rfl, rfl, rfl, hR'⟩ := id hR
  refine ev_aload_n (pc' := 1) dX2_digest_0 rfl rfl ?_
  refine ev_ldc2 (pc' := 4) clX2_147 dX2_digest_1 rfl ?_
  refine pX2_h rfl (pc' := 7) dX2_digest_4 rfl ?_
  refine ev_aload_n (pc' := 8) dX2_digest_7 rfl rfl ?_
  refine ev_aload_n (pc' := 9) dX2_digest_8 rfl rfl ?_
  refine ev_get inX2 0 0 rfl rfl (by decide) flX2_nodes rfl (pc' := 12) dX2_digest_9 rfl ?_
  refine ev_i2l (pc' := 13) dX2_digest_12 rfl ?_
  refine ev_callV (As := [_]) coX2_mix 0 rfl rfl (c_mix _) rfl (by decide) (by first | exact Nat.le_of_ble_eq_true rfl | simp [Value.category, rf_cat]) dX2_digest_13 rfl (pc' := 16) rfl (fun v w hq => ?_)
  obtain ⟨rfl, rfl⟩ := hq
  dsimp only [Option.toList, List.cons_append, List.nil_append]
  refine ev_iconst (pc' := 17) (v := nI 0) dX2_digest_16 rfl (by decide) ?_
  refine ev_istore_n (pc' := 18) (lv' := [_, _, _]) dX2_digest_17 rfl (by decide) (by intro w hw; first | exact Or.inl rfl | (right; have hw := Option.some.inj (Option.some.inj hw); subst hw; first | rfl | exact rf_cat _) | cases hw) rfl ?_
  refine dgn_loop I hR (sL S).length 0 _ (by omega) (fun j => ?_)
  have co := fun x => c_oldest (g := g) (mo := mo) (mr := mr) (msh := msh) (mns := mns) (mhh := x) I hR
  refine ev_aload_n (pc' := 148) dX2_digest_147 rfl rfl ?_
  refine ev_aload_n (pc' := 149) dX2_digest_148 rfl rfl ?_
  refine ev_get inX2 0 2 rfl rfl (by decide) flX2_number rfl (pc' := 152) dX2_digest_149 rfl ?_
  refine ev_aload_n (pc' := 153) dX2_digest_152 rfl rfl ?_
  refine ev_get inX2 0 12 rfl rfl (by decide) flX2_current rfl (pc' := 156) dX2_digest_153 rfl ?_
  refine ev_ialdN 1 rfl (by omega) (by decide) (RM.row hR I.cu).1 (pc' := 157) dX2_digest_156 rfl ?_
  refine ev_i2l (pc' := 158) dX2_digest_157 rfl ?_
  refine ev_callV (As := [_]) coX2_mix 0 rfl rfl (c_mix _) rfl (by decide) (by first | exact Nat.le_of_ble_eq_true rfl | simp [Value.category, rf_cat]) dX2_digest_158 rfl (pc' := 161) rfl (fun v w hq => ?_)
  obtain ⟨rfl, rfl⟩ := hq
  dsimp only [Option.toList, List.cons_append, List.nil_append]
  refine ev_aload_n (pc' := 162) dX2_digest_161 rfl rfl ?_
  refine ev_aload_n (pc' := 163) dX2_digest_162 rfl rfl ?_
  refine ev_callV (As := []) coX2_oldest 0 rfl rfl (co _) rfl (by decide) (by first | exact Nat.le_of_ble_eq_true rfl | simp [Value.category, rf_cat]) dX2_digest_163 rfl (pc' := 166) rfl (fun v w hq => ?_)
  obtain ⟨rfl, rfl⟩ := hq
  dsimp only [Option.toList, List.cons_append, List.nil_append]
  refine ev_i2l (pc' := 167) dX2_digest_166 rfl ?_
  refine ev_callV (As := [_]) coX2_mix 0 rfl rfl (c_mix _) rfl (by decide) (by first | exact Nat.le_of_ble_eq_true rfl | simp [Value.category, rf_cat]) dX2_digest_167 rfl (pc' := 170) rfl (fun v w hq => ?_)
  obtain ⟨rfl, rfl⟩ := hq
  dsimp only [Option.toList, List.cons_append, List.nil_append]
  refine ev_iconst (pc' := 171) (v := nI 0) dX2_digest_170 rfl (by decide) ?_
  refine ev_istore_n (pc' := 172) (lv' := [_, _, _]) dX2_digest_171 rfl (by decide) (by intro w hw; first | exact Or.inl rfl | (right; have hw := Option.some.inj (Option.some.inj hw); subst hw; first | rfl | exact rf_cat _) | cases hw) rfl ?_
  refine dgm_loop hR 5 0 _ (by omega) (fun j => ?_)
  refine ev_aload_n (pc' := 195) dX2_digest_194 rfl rfl ?_
  refine ev_aload_n (pc' := 196) dX2_digest_195 rfl rfl ?_
  refine ev_get inX2 0 13 rfl rfl (by decide) flX2_clock rfl (pc' := 199) dX2_digest_196 rfl ?_
  refine ev_i2l (pc' := 200) dX2_digest_199 rfl ?_
  refine ev_callV (As := [_]) coX2_mix 0 rfl rfl (c_mix _) rfl (by decide) (by first | exact Nat.le_of_ble_eq_true rfl | simp [Value.category, rf_cat]) dX2_digest_200 rfl (pc' := 203) rfl (fun v w hq => ?_)
  obtain ⟨rfl, rfl⟩ := hq
  dsimp only [Option.toList, List.cons_append, List.nil_append]
  refine ev_aload_n (pc' := 204) dX2_digest_203 rfl rfl ?_
  refine ev_aload_n (pc' := 205) dX2_digest_204 rfl rfl ?_
  refine ev_get inX2 0 14 rfl rfl (by decide) flX2_clipLength rfl (pc' := 208) dX2_digest_205 rfl ?_
  refine ev_i2l (pc' := 209) dX2_digest_208 rfl ?_
  refine ev_callV (As := [_]) coX2_mix 0 rfl rfl (c_mix _) rfl (by decide) (by first | exact Nat.le_of_ble_eq_true rfl | simp [Value.category, rf_cat]) dX2_digest_209 rfl (pc' := 212) rfl (fun v w hq => ?_)
  obtain ⟨rfl, rfl⟩ := hq
  dsimp only [Option.toList, List.cons_append, List.nil_append]
  refine ev_iconst (pc' := 213) (v := nI 0) dX2_digest_212 rfl (by decide) ?_
  refine ev_istore_n (pc' := 214) (lv' := [_, _, _]) dX2_digest_213 rfl (by decide) (by intro w hw; first | exact Or.inl rfl | (right; have hw := Option.some.inj (Option.some.inj hw); subst hw; first | rfl | exact rf_cat _) | cases hw) rfl ?_
  refine dgc_loop hR I.cl (scl S) 0 _ (by omega) (fun j => ?_)
  refine ev_aload_n (pc' := 240) dX2_digest_239 rfl rfl ?_
  refine ev_get inX2 0 19 rfl rfl (by decide) flX2_h rfl (pc' := 243) dX2_digest_240 rfl ?_
  refine ev_lret rfl dX2_digest_243 ?_
  exact ⟨rfl, isM.of hR⟩
end M8
