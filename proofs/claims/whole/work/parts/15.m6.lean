/-! ===== the reference's methods: a new node ===== -/
section M9
variable {g : EG} {mo : Nat} {mr : Nat → Nat} {mnd mgv mcu mck mcl msh : Int32} {mhh : Int64} {mnu mpa mfa mti mpo mle mde msr mtl mtx mcp mmk mns : Nat → Int32}
variable {S : SS} {N : Nat} {Ph : Option Value → va_W → Prop}
theorem gs_loop (f0 : Nat → Int32) {L n : Nat} (hL : L < 24) (hn : n ≤ 6) (P B : Int32) : ∀ (m i : Nat) (msr : Nat → Int32), i + m = n → (∀ j, j < 6 * L → msr j = f0 j) → (∀ j, j < i → msr (6 * L + j) = mns j) → (∀ msr : Nat → Int32, (∀ j, j < 6 * L → msr j = f0 j) → (∀ j, j < n → msr (6 * L + j) = mns j) → Ev g mdX2_grow 111 [some (.ref mo), some (.int P), some (.int (nI n)), some (.int B), some (.int (nI L)), none, none, none] [] (wM g mo mr mnd mgv mcu mck mcl msh mhh mnu mpa mfa mti mpo mle mde msr mtl mtx mcp mmk mns) Ph) → Ev g mdX2_grow 79 [some (.ref mo), some (.int P), some (.int (nI n)), some (.int B), some (.int (nI L)), some (.int (nI i)), none, none] [] (wM g mo mr mnd mgv mcu mck mcl msh mhh mnu mpa mfa mti mpo mle mde msr mtl mtx mcp mmk mns) Ph := by
  intro m
  induction m with
  | zero =>
    intro i msr hi h1 h2 K
    refine ev_iload (pc' := 81) dX2_grow_79 rfl rfl ?_
    refine ev_iload_n (pc' := 82) dX2_grow_81 rfl rfl ?_
    refine ev_icmp_ge (tgt := 111) (pc' := 85) dX2_grow_82 (by decide) rfl (fun h82 => ?_) (fun h82 => ?_)
    · exact Ev.weak [some (.ref mo), some (.int P), some (.int (nI n)), some (.int B), some (.int (nI L)), none, none, none] (lw_le_get _ _ (by simp [lw_le])) (K msr h1 (fun j hj => h2 j (by omega)))
    · exact absurd (nI_le (by omega) (by omega)) h82
  | succ m ih =>
    intro i msr hi h1 h2 K
    refine ev_iload (pc' := 81) dX2_grow_79 rfl rfl ?_
    refine ev_iload_n (pc' := 82) dX2_grow_81 rfl rfl ?_
    refine ev_icmp_ge (tgt := 111) (pc' := 85) dX2_grow_82 (by decide) rfl (fun h82 => ?_) (fun h82 => ?_)
    · exact absurd h82 (nI_ge (by omega) (by omega))
    · refine ev_aload_n (pc' := 86) dX2_grow_85 rfl rfl ?_
      refine ev_get inX2 0 9 rfl rfl (by decide) flX2_string rfl (pc' := 89) dX2_grow_86 rfl ?_
      refine ev_bipush (pc' := 91) (v := nI 6) dX2_grow_89 rfl (by decide) ?_
      refine ev_iload (pc' := 93) dX2_grow_91 rfl rfl ?_
      refine ev_imul (pc' := 94) dX2_grow_93 rfl ?_
      refine ev_iload (pc' := 96) dX2_grow_94 rfl rfl ?_
      refine ev_iadd (pc' := 97) dX2_grow_96 rfl ?_
      rw [pk_mul, nI_add]
      refine ev_aload_n (pc' := 98) dX2_grow_97 rfl rfl ?_
      refine ev_get inX2 0 17 rfl rfl (by decide) flX2_newString rfl (pc' := 101) dX2_grow_98 rfl ?_
      refine ev_iload (pc' := 103) dX2_grow_101 rfl rfl ?_
      refine ev_ialdN 13 rfl (by omega) (by decide) rfl (pc' := 104) dX2_grow_103 rfl ?_
      refine ev_iastN 8 rfl (by omega) (by decide) (pc' := 105) dX2_grow_104 rfl (ws' := wM _ _ _ _ _ _ _ _ _ _ _ _ _ _ _ _ _ _ _ _ _ _ _) rfl ?_
      refine ev_iinc (pc' := 108) (lv' := [_, _, _, _, _, _, _, _]) dX2_grow_105 rfl rfl (nI_1 _) (by decide) (by intro w hw; first | exact Or.inl rfl | (right; have hw := Option.some.inj (Option.some.inj hw); subst hw; first | rfl | exact rf_cat _) | cases hw) rfl ?_
      refine ev_goto (pc' := 79) dX2_grow_108 (by decide) ?_
      refine ih (i + 1) _ (by omega) (fun j hj => ?_) (fun j hj => ?_) K
      · rw [pk_un (by omega)]; exact h1 j hj
      · by_cases q : j = i
        · rw [q, pk_us]
        · rw [pk_un (by omega)]; exact h2 j (by omega)
theorem gd_loop (f0 : Nat → Int32) {L C n p tl : Nat} (hL : L < 24) (hC : C < L) (hn : n ≤ 6) (htl : tl + n ≤ 40) (hmt : mtl L = nI tl) (O : Int32) : ∀ (m i : Nat) (mtx : Nat → Int32), i + m = tl → (∀ j, j < 40 * L → mtx j = f0 j) → (∀ j, j < i → mtx (40 * L + j) = f0 (40 * C + (if j < p then j else j + n))) → (∀ mtx : Nat → Int32, (∀ j, j < 40 * L → mtx j = f0 j) → (∀ j, j < tl → mtx (40 * L + j) = f0 (40 * C + (if j < p then j else j + n))) → Ev g mdX2_grow 284 [some (.ref mo), some (.int (nI p)), some (.int (nI n)), some (.int (nI 1)), some (.int (nI L)), none, none, none] [] (wM g mo mr mnd mgv (nI C) mck mcl msh mhh mnu mpa mfa mti mpo mle mde msr mtl mtx mcp mmk mns) Ph) → p < 2 ^ 31 → Ev g mdX2_grow 147 [some (.ref mo), some (.int (nI p)), some (.int (nI n)), some (.int (nI 1)), some (.int (nI L)), some (.int O), some (.int (nI i)), none] [] (wM g mo mr mnd mgv (nI C) mck mcl msh mhh mnu mpa mfa mti mpo mle mde msr mtl mtx mcp mmk mns) Ph := by
  intro m
  induction m with
  | zero =>
    intro i mtx hi h1 h2 K hp
    refine ev_iload (pc' := 149) dX2_grow_147 rfl rfl ?_
    refine ev_aload_n (pc' := 150) dX2_grow_149 rfl rfl ?_
    refine ev_get inX2 0 10 rfl rfl (by decide) flX2_textLength rfl (pc' := 153) dX2_grow_150 rfl ?_
    refine ev_iload (pc' := 155) dX2_grow_153 rfl rfl ?_
    refine ev_ialdN 9 rfl (by omega) (by decide) hmt (pc' := 156) dX2_grow_155 rfl ?_
    refine ev_icmp_ge (tgt := 284) (pc' := 159) dX2_grow_156 (by decide) rfl (fun h156 => ?_) (fun h156 => ?_)
    · exact Ev.weak [some (.ref mo), some (.int (nI p)), some (.int (nI n)), some (.int (nI 1)), some (.int (nI L)), none, none, none] (lw_le_get _ _ (by simp [lw_le])) (K mtx h1 (fun j hj => h2 j (by omega)))
    · exact absurd (nI_le (by omega) (by omega)) h156
  | succ m ih =>
    intro i mtx hi h1 h2 K hp
    have fin : ∀ v : Int32, v = f0 (40 * C + (if i < p then i else i + n)) → Ev g mdX2_grow 203 [some (.ref mo), some (.int (nI p)), some (.int (nI n)), some (.int (nI 1)), some (.int (nI L)), some (.int O), some (.int (nI i)), none] [.int v, .int (nI (40 * L + i)), .ref (mr 9)] (wM g mo mr mnd mgv (nI C) mck mcl msh mhh mnu mpa mfa mti mpo mle mde msr mtl mtx mcp mmk mns) Ph := by
      intro v hv
      refine ev_iastN 10 rfl (by omega) (by decide) (pc' := 204) dX2_grow_203 rfl (ws' := wM _ _ _ _ _ _ _ _ _ _ _ _ _ _ _ _ _ _ _ _ _ _ _) rfl ?_
      refine ev_goto (pc' := 278) dX2_grow_204 (by decide) ?_
      refine ev_iinc (pc' := 281) (lv' := [_, _, _, _, _, _, _, _]) dX2_grow_278 rfl rfl (nI_1 _) (by decide) (by intro w hw; first | exact Or.inl rfl | (right; have hw := Option.some.inj (Option.some.inj hw); subst hw; first | rfl | exact rf_cat _) | cases hw) rfl ?_
      refine ev_goto (pc' := 147) dX2_grow_281 (by decide) ?_
      refine ih (i + 1) _ (by omega) (fun j hj => ?_) (fun j hj => ?_) K hp
      · rw [pk_un (by omega)]; exact h1 j hj
      · by_cases q : j = i
        · rw [q, pk_us]; exact hv
        · rw [pk_un (by omega)]; exact h2 j (by omega)
    refine ev_iload (pc' := 149) dX2_grow_147 rfl rfl ?_
    refine ev_aload_n (pc' := 150) dX2_grow_149 rfl rfl ?_
    refine ev_get inX2 0 10 rfl rfl (by decide) flX2_textLength rfl (pc' := 153) dX2_grow_150 rfl ?_
    refine ev_iload (pc' := 155) dX2_grow_153 rfl rfl ?_
    refine ev_ialdN 9 rfl (by omega) (by decide) hmt (pc' := 156) dX2_grow_155 rfl ?_
    refine ev_icmp_ge (tgt := 284) (pc' := 159) dX2_grow_156 (by decide) rfl (fun h156 => ?_) (fun h156 => ?_)
    · exact absurd h156 (nI_ge (by omega) (by omega))
    · refine ev_iload_n (pc' := 160) dX2_grow_159 rfl rfl ?_
      refine ev_if_eq (tgt := 207) (pc' := 163) dX2_grow_160 (by decide) rfl (fun h160 => ?_) (fun h160 => ?_)
      · exact absurd h160 (by decide)
      · refine ev_aload_n (pc' := 164) dX2_grow_163 rfl rfl ?_
        refine ev_get inX2 0 11 rfl rfl (by decide) flX2_text rfl (pc' := 167) dX2_grow_164 rfl ?_
        refine ev_bipush (pc' := 169) (v := nI 40) dX2_grow_167 rfl (by decide) ?_
        refine ev_iload (pc' := 171) dX2_grow_169 rfl rfl ?_
        refine ev_imul (pc' := 172) dX2_grow_171 rfl ?_
        refine ev_iload (pc' := 174) dX2_grow_172 rfl rfl ?_
        refine ev_iadd (pc' := 175) dX2_grow_174 rfl ?_
        rw [pk_mul, nI_add]
        refine ev_aload_n (pc' := 176) dX2_grow_175 rfl rfl ?_
        refine ev_get inX2 0 11 rfl rfl (by decide) flX2_text rfl (pc' := 179) dX2_grow_176 rfl ?_
        refine ev_bipush (pc' := 181) (v := nI 40) dX2_grow_179 rfl (by decide) ?_
        refine ev_aload_n (pc' := 182) dX2_grow_181 rfl rfl ?_
        refine ev_get inX2 0 12 rfl rfl (by decide) flX2_current rfl (pc' := 185) dX2_grow_182 rfl ?_
        refine ev_imul (pc' := 186) dX2_grow_185 rfl ?_
        rw [pk_mul]
        refine ev_iload (pc' := 188) dX2_grow_186 rfl rfl ?_
        refine ev_iload_n (pc' := 189) dX2_grow_188 rfl rfl ?_
        refine ev_icmp_ge (tgt := 197) (pc' := 192) dX2_grow_189 (by decide) rfl (fun h189 => ?_) (fun h189 => ?_)
        · have q : ¬ i < p := fun q => nI_ge q (by omega) h189
          refine ev_iload (pc' := 199) dX2_grow_197 rfl rfl ?_
          refine ev_iload_n (pc' := 200) dX2_grow_199 rfl rfl ?_
          refine ev_iadd (pc' := 201) dX2_grow_200 rfl ?_
          refine ev_iadd (pc' := 202) dX2_grow_201 rfl ?_
          rw [nI_add, nI_add]
          refine ev_ialdN 10 rfl (by omega) (by decide) rfl (pc' := 203) dX2_grow_202 rfl ?_
          exact fin _ (by rw [h1 _ (by omega), if_neg q])
        · have q : i < p := by
            rcases Nat.lt_or_ge i p with q | q
            · exact q
            · exact absurd (nI_le q (by omega)) h189
          refine ev_iload (pc' := 194) dX2_grow_192 rfl rfl ?_
          refine ev_goto (pc' := 201) dX2_grow_194 (by decide) ?_
          refine ev_iadd (pc' := 202) dX2_grow_201 rfl ?_
          rw [nI_add]
          refine ev_ialdN 10 rfl (by omega) (by decide) rfl (pc' := 203) dX2_grow_202 rfl ?_
          exact fin _ (by rw [h1 _ (by omega), if_pos q])
theorem gi_loop (f0 : Nat → Int32) {L C n p tl : Nat} (hL : L < 24) (hC : C < L) (hn1 : 1 ≤ n) (hn : n ≤ 6) (htl : tl ≤ 40) (hp : p + n ≤ tl) (hmt : mtl L = nI tl) (O : Int32) : ∀ (m i : Nat) (mtx : Nat → Int32), i + m = tl → (∀ j, j < 40 * L → mtx j = f0 j) → (∀ j, j < i → mtx (40 * L + j) = (if j < p then f0 (40 * C + j) else if j < p + n then mns (j - p) else f0 (40 * C + (j - n)))) → (∀ mtx : Nat → Int32, (∀ j, j < 40 * L → mtx j = f0 j) → (∀ j, j < tl → mtx (40 * L + j) = (if j < p then f0 (40 * C + j) else if j < p + n then mns (j - p) else f0 (40 * C + (j - n)))) → Ev g mdX2_grow 284 [some (.ref mo), some (.int (nI p)), some (.int (nI n)), some (.int (nI 0)), some (.int (nI L)), none, none, none] [] (wM g mo mr mnd mgv (nI C) mck mcl msh mhh mnu mpa mfa mti mpo mle mde msr mtl mtx mcp mmk mns) Ph) → Ev g mdX2_grow 147 [some (.ref mo), some (.int (nI p)), some (.int (nI n)), some (.int (nI 0)), some (.int (nI L)), some (.int O), some (.int (nI i)), none] [] (wM g mo mr mnd mgv (nI C) mck mcl msh mhh mnu mpa mfa mti mpo mle mde msr mtl mtx mcp mmk mns) Ph := by
  intro m
  induction m with
  | zero =>
    intro i mtx hi h1 h2 K
    refine ev_iload (pc' := 149) dX2_grow_147 rfl rfl ?_
    refine ev_aload_n (pc' := 150) dX2_grow_149 rfl rfl ?_
    refine ev_get inX2 0 10 rfl rfl (by decide) flX2_textLength rfl (pc' := 153) dX2_grow_150 rfl ?_
    refine ev_iload (pc' := 155) dX2_grow_153 rfl rfl ?_
    refine ev_ialdN 9 rfl (by omega) (by decide) hmt (pc' := 156) dX2_grow_155 rfl ?_
    refine ev_icmp_ge (tgt := 284) (pc' := 159) dX2_grow_156 (by decide) rfl (fun h156 => ?_) (fun h156 => ?_)
    · exact Ev.weak [some (.ref mo), some (.int (nI p)), some (.int (nI n)), some (.int (nI 0)), some (.int (nI L)), none, none, none] (lw_le_get _ _ (by simp [lw_le])) (K mtx h1 (fun j hj => h2 j (by omega)))
    · exact absurd (nI_le (by omega) (by omega)) h156
  | succ m ih =>
    intro i mtx hi h1 h2 K
    have fin : ∀ (v x7 : Int32), v = (if i < p then f0 (40 * C + i) else if i < p + n then mns (i - p) else f0 (40 * C + (i - n))) → Ev g mdX2_grow 277 [some (.ref mo), some (.int (nI p)), some (.int (nI n)), some (.int (nI 0)), some (.int (nI L)), some (.int O), some (.int (nI i)), some (.int x7)] [.int v, .int (nI (40 * L + i)), .ref (mr 9)] (wM g mo mr mnd mgv (nI C) mck mcl msh mhh mnu mpa mfa mti mpo mle mde msr mtl mtx mcp mmk mns) Ph := by
      intro v x7 hv
      refine ev_iastN 10 rfl (by omega) (by decide) (pc' := 278) dX2_grow_277 rfl (ws' := wM _ _ _ _ _ _ _ _ _ _ _ _ _ _ _ _ _ _ _ _ _ _ _) rfl ?_
      refine ev_iinc (pc' := 281) (lv' := [_, _, _, _, _, _, _, _]) dX2_grow_278 rfl rfl (nI_1 _) (by decide) (by intro w hw; first | exact Or.inl rfl | (right; have hw := Option.some.inj (Option.some.inj hw); subst hw; first | rfl | exact rf_cat _) | cases hw) rfl ?_
      refine ev_goto (pc' := 147) dX2_grow_281 (by decide) ?_
      refine Ev.weak [some (.ref mo), some (.int (nI p)), some (.int (nI n)), some (.int (nI 0)), some (.int (nI L)), some (.int O), some (.int (nI (i + 1))), none] (lw_le_get _ _ (by simp [lw_le])) ?_
      refine ih (i + 1) _ (by omega) (fun j hj => ?_) (fun j hj => ?_) K
      · rw [pk_un (by omega)]; exact h1 j hj
      · by_cases q : j = i
        · rw [q, pk_us]; exact hv
        · rw [pk_un (by omega)]; exact h2 j (by omega)
    refine ev_iload (pc' := 149) dX2_grow_147 rfl rfl ?_
    refine ev_aload_n (pc' := 150) dX2_grow_149 rfl rfl ?_
    refine ev_get inX2 0 10 rfl rfl (by decide) flX2_textLength rfl (pc' := 153) dX2_grow_150 rfl ?_
    refine ev_iload (pc' := 155) dX2_grow_153 rfl rfl ?_
    refine ev_ialdN 9 rfl (by omega) (by decide) hmt (pc' := 156) dX2_grow_155 rfl ?_
    refine ev_icmp_ge (tgt := 284) (pc' := 159) dX2_grow_156 (by decide) rfl (fun h156 => ?_) (fun h156 => ?_)
    · exact absurd h156 (nI_ge (by omega) (by omega))
    · refine ev_iload_n (pc' := 160) dX2_grow_159 rfl rfl ?_
      refine ev_if_eq (tgt := 207) (pc' := 163) dX2_grow_160 (by decide) rfl (fun h160 => ?_) (fun h160 => ?_)
      · refine ev_iload (pc' := 209) dX2_grow_207 rfl rfl ?_
        refine ev_iload_n (pc' := 210) dX2_grow_209 rfl rfl ?_
        refine ev_iload_n (pc' := 211) dX2_grow_210 rfl rfl ?_
        refine ev_iload_n (pc' := 212) dX2_grow_211 rfl rfl ?_
        refine ev_iadd (pc' := 213) dX2_grow_212 rfl ?_
        refine ev_iconst (pc' := 214) (v := nI 1) dX2_grow_213 rfl (by decide) ?_
        refine ev_isub (pc' := 215) dX2_grow_214 rfl ?_
        rw [nI_add, pk_sub (by omega)]
        have key : (nI p ≤ nI i ∧ nI i ≤ nI (p + n - 1)) ↔ (p ≤ i ∧ i < p + n) := by
          rw [nI_leI (by omega) (by omega), nI_leI (by omega) (by omega)]
          omega
        refine ev_callS (As := [_, _, _]) coX2_within (c_within _ _ _ _) rfl (by decide) (by first | exact Nat.le_of_ble_eq_true rfl | simp [Value.category, rf_cat]) dX2_grow_215 rfl (pc' := 218) rfl (fun v w hq => ?_)
        obtain ⟨rfl, rfl⟩ := hq
        dsimp only [Option.toList, List.cons_append, List.nil_append]
        refine ev_istore (pc' := 220) (lv' := [_, _, _, _, _, _, _, _]) dX2_grow_218 rfl (by decide) (by intro w hw; first | exact Or.inl rfl | (right; have hw := Option.some.inj (Option.some.inj hw); subst hw; first | rfl | exact rf_cat _) | cases hw) rfl ?_
        refine ev_aload_n (pc' := 221) dX2_grow_220 rfl rfl ?_
        refine ev_get inX2 0 11 rfl rfl (by decide) flX2_text rfl (pc' := 224) dX2_grow_221 rfl ?_
        refine ev_bipush (pc' := 226) (v := nI 40) dX2_grow_224 rfl (by decide) ?_
        refine ev_iload (pc' := 228) dX2_grow_226 rfl rfl ?_
        refine ev_imul (pc' := 229) dX2_grow_228 rfl ?_
        refine ev_iload (pc' := 231) dX2_grow_229 rfl rfl ?_
        refine ev_iadd (pc' := 232) dX2_grow_231 rfl ?_
        rw [pk_mul, nI_add]
        refine ev_iload (pc' := 234) dX2_grow_232 rfl rfl ?_
        refine ev_if_eq (tgt := 249) (pc' := 237) dX2_grow_234 (by decide) rfl (fun h234 => ?_) (fun h234 => ?_)
        · rw [bI_eq, decide_eq_false_iff_not, key] at h234
          refine ev_aload_n (pc' := 250) dX2_grow_249 rfl rfl ?_
          refine ev_get inX2 0 11 rfl rfl (by decide) flX2_text rfl (pc' := 253) dX2_grow_250 rfl ?_
          refine ev_bipush (pc' := 255) (v := nI 40) dX2_grow_253 rfl (by decide) ?_
          refine ev_aload_n (pc' := 256) dX2_grow_255 rfl rfl ?_
          refine ev_get inX2 0 12 rfl rfl (by decide) flX2_current rfl (pc' := 259) dX2_grow_256 rfl ?_
          refine ev_imul (pc' := 260) dX2_grow_259 rfl ?_
          rw [pk_mul]
          refine ev_iload (pc' := 262) dX2_grow_260 rfl rfl ?_
          refine ev_iload_n (pc' := 263) dX2_grow_262 rfl rfl ?_
          refine ev_icmp_ge (tgt := 271) (pc' := 266) dX2_grow_263 (by decide) rfl (fun h263 => ?_) (fun h263 => ?_)
          · have q : ¬ i < p := fun q => nI_ge q (by omega) h263
            refine ev_iload (pc' := 273) dX2_grow_271 rfl rfl ?_
            refine ev_iload_n (pc' := 274) dX2_grow_273 rfl rfl ?_
            refine ev_isub (pc' := 275) dX2_grow_274 rfl ?_
            rw [pk_sub (by omega)]
            refine ev_iadd (pc' := 276) dX2_grow_275 rfl ?_
            rw [nI_add]
            refine ev_ialdN 10 rfl (by omega) (by decide) rfl (pc' := 277) dX2_grow_276 rfl ?_
            exact fin _ _ (by rw [h1 _ (by omega), if_neg q, if_neg (by omega)])
          · have q : i < p := by
              rcases Nat.lt_or_ge i p with q | q
              · exact q
              · exact absurd (nI_le q (by omega)) h263
            refine ev_iload (pc' := 268) dX2_grow_266 rfl rfl ?_
            refine ev_goto (pc' := 275) dX2_grow_268 (by decide) ?_
            refine ev_iadd (pc' := 276) dX2_grow_275 rfl ?_
            rw [nI_add]
            refine ev_ialdN 10 rfl (by omega) (by decide) rfl (pc' := 277) dX2_grow_276 rfl ?_
            exact fin _ _ (by rw [h1 _ (by omega), if_pos q])
        · rw [bI_ne, decide_eq_true_eq, key] at h234
          refine ev_aload_n (pc' := 238) dX2_grow_237 rfl rfl ?_
          refine ev_get inX2 0 17 rfl rfl (by decide) flX2_newString rfl (pc' := 241) dX2_grow_238 rfl ?_
          refine ev_iload (pc' := 243) dX2_grow_241 rfl rfl ?_
          refine ev_iload_n (pc' := 244) dX2_grow_243 rfl rfl ?_
          refine ev_isub (pc' := 245) dX2_grow_244 rfl ?_
          rw [pk_sub (by omega)]
          refine ev_ialdN 13 rfl (by omega) (by decide) rfl (pc' := 246) dX2_grow_245 rfl ?_
          refine ev_goto (pc' := 277) dX2_grow_246 (by decide) ?_
          exact fin _ _ (by rw [if_neg (by omega), if_pos h234.2])
      · exact absurd rfl h160
end M9
