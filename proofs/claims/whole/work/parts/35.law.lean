abbrev mdL : MD := (yL_law, code, 4, ret, 0)
section LAW
variable {g : EG} {p : Program} {e : Env} {s : State} {m : MethodId} {below : List Frame} {meth : Method} {c : Code} {b L : Nat} {xs : Nat → Int32} {Q : State → Prop} {pc pc' : Nat} {lv : List (Option Value)} {st rest : List Value} {ws w1 w2 : va_W}
variable {xo an ac am mo N i : Nat} {LN LT : List Nat} {xt mr : Nat → Nat} {S S' : SS}
theorem b_sld (F : FB g mdL p s m #[Value.ref b] meth c) (hX : va_X b L xs s s.heap) (hbl : b < s.heap.size) (hL : L ≤ 1536) {j : Nat} (hj : j < L) (hd : decode code pc = .ok (.iaload, 1)) (hp : pc + 1 = pc') (k : Bx g mdL p e s m #[Value.ref b] below meth c room_1 (fun q => s.heap.size ≤ q) Q 600000 7302250 pc' lv (.int (xs j) :: st) ws) : Bx g mdL p e s m #[Value.ref b] below meth c room_1 (fun q => s.heap.size ≤ q) Q 600000 7302250 pc lv (.int (nI j) :: .ref b :: st) ws := by
  subst hp; intro H locs ls hP hD hS hl
  refine va_sld F.1 F.2.1 hX hbl (Nat.not_le.mpr hbl) hS (vp_in_nI hj (by omega)) hd ?_
  rw [nI_clamp (by omega)]
  exact k H locs ls hP hD hS hl
theorem b_slen (F : FB g mdL p s m #[Value.ref b] meth c) (hX : va_X b L xs s s.heap) (hbl : b < s.heap.size) (hd : decode code pc = .ok (.arraylength, 1)) (hp : pc + 1 = pc') (k : Bx g mdL p e s m #[Value.ref b] below meth c room_1 (fun q => s.heap.size ≤ q) Q 600000 7302250 pc' lv (.int (nI L) :: st) ws) : Bx g mdL p e s m #[Value.ref b] below meth c room_1 (fun q => s.heap.size ≤ q) Q 600000 7302250 pc lv (.ref b :: st) ws := by
  subst hp; intro H locs ls hP hD hS hl
  exact va_slen F.1 F.2.1 hX hbl (Nat.not_le.mpr hbl) hS hd (k H locs ls hP hD hS hl)
theorem law_arg (F : FB g mdL p s m #[Value.ref b] meth c) (hX : va_X b L xs s s.heap) (hbl : b < s.heap.size) (hL : L ≤ 1536) {k0 : Nat} {n : Int} (hn : Int32.ofInt n = nI k0) (hj : i + k0 < L) (h0 : decode code pc = .ok (.aload_n 0, 1)) (h1 : decode code (pc + 1) = .ok (.iload_n 3, 1)) (h2 : decode code (pc + 2) = .ok (.iconst n, 1)) (h3 : decode code (pc + 3) = .ok (.iadd, 1)) (h4 : decode code (pc + 4) = .ok (.iaload, 1)) (hp : pc + 5 = pc') (k : Bx g mdL p e s m #[Value.ref b] below meth c room_1 (fun q => s.heap.size ≤ q) Q 600000 7302250 pc' [some (.ref b), some (.ref xo), some (.ref mo), some (.int (nI i))] (.int (xs (i + k0)) :: st) ws) : Bx g mdL p e s m #[Value.ref b] below meth c room_1 (fun q => s.heap.size ≤ q) Q 600000 7302250 pc [some (.ref b), some (.ref xo), some (.ref mo), some (.int (nI i))] st ws := by
  refine b_aload_n F h0 rfl rfl ?_
  refine b_iload_n F h1 rfl rfl ?_
  refine b_iconst F h2 rfl hn ?_
  refine b_iadd F h3 rfl ?_
  rw [nI_add]
  exact b_sld F hX hbl hL hj h4 hp k
theorem isX.at0 {w : va_W} (h : isX g xo an ac am LN LT xt S w) : ∃ fs, w[0]? = some (xo, .inr (1, fs)) := by
  obtain ⟨hd, xar, xnt, xln, xcu, xck, xcp, xcl, xmk, xtl, xnu, xti, xpa, xfa, xep, xel, xde, xtc, rfl, hR⟩ := h
  exact ⟨_, rfl⟩
theorem isM.at0 {w : va_W} (h : isM g mo mr S w) : ∃ fs, w[0]? = some (mo, .inr (2, fs)) := by
  obtain ⟨mnd, mgv, mcu, mck, mcl, msh, mhh, mnu, mpa, mfa, mti, mpo, mle, mde, msr, mtl, mtx, mcp, mmk, mns, rfl, hR⟩ := h
  exact ⟨_, rfl⟩
theorem law_callX (F : FB g mdL p s m #[Value.ref b] meth c) {z : MD} {idx n : Nat} {As : List Value} {v : Value} (co : coV RL idx z n) (hz : z.1.cls = RX1) (hr : z.2.2.2.2 ≤ 6) (h1 : isX g xo an ac am LN LT xt S w1) (hM : Ret g z (.ref xo :: As) w1 (fun r w' => r = some v ∧ isX g xo an ac am LN LT xt S' w')) (hn : As.length = n) (hcat : (rest.map fun v => v.category).sum ≤ 8) (hd : decode code pc = .ok (.invokevirtual idx, 3)) (hst : st = As.reverse ++ .ref xo :: rest) (hp : pc + 3 = pc') (k : ∀ w, isX g xo an ac am LN LT xt S' w → Bx g mdL p e s m #[Value.ref b] below meth c room_1 (fun q => s.heap.size ≤ q) Q 600000 7302250 pc' lv (v :: rest) (w ++ w2)) : Bx g mdL p e s m #[Value.ref b] below meth c room_1 (fun q => s.heap.size ≤ q) Q 600000 7302250 pc lv st (w1 ++ w2) := by
  obtain ⟨fs, h0⟩ := h1.at0
  refine b_callV F (wa := []) (wb := w1) (wc := w2) (ci := 1) (T := TX1) (N := 8) (fun _ h => h) co 0 h0 (by rw [hz]; rfl) hM hn ⟨?_, ?_⟩ ⟨Nat.le_refl _, Nat.le_refl _⟩ hcat hd hst hp ?_
  · show z.2.2.2.2 + 1 ≤ 9
    omega
  · show 40 * z.2.2.2.2 + 40 ≤ 314
    omega
  · rintro r w ⟨rfl, hw⟩
    exact k w hw
theorem law_callM (F : FB g mdL p s m #[Value.ref b] meth c) {z : MD} {idx n : Nat} {As : List Value} {v : Value} (co : coV RL idx z n) (hz : z.1.cls = RX2) (hr : z.2.2.2.2 ≤ 6) (h1 : isM g mo mr S w2) (hM : Ret g z (.ref mo :: As) w2 (fun r w' => r = some v ∧ isM g mo mr S' w')) (hn : As.length = n) (hcat : (rest.map fun v => v.category).sum ≤ 8) (hd : decode code pc = .ok (.invokevirtual idx, 3)) (hst : st = As.reverse ++ .ref mo :: rest) (hp : pc + 3 = pc') (k : ∀ w, isM g mo mr S' w → Bx g mdL p e s m #[Value.ref b] below meth c room_1 (fun q => s.heap.size ≤ q) Q 600000 7302250 pc' lv (v :: rest) (w1 ++ w)) : Bx g mdL p e s m #[Value.ref b] below meth c room_1 (fun q => s.heap.size ≤ q) Q 600000 7302250 pc lv st (w1 ++ w2) := by
  obtain ⟨fs, h0⟩ := h1.at0
  rw [← List.append_nil (w1 ++ w2)]
  refine b_callV F (wa := w1) (wb := w2) (wc := []) (ci := 2) (T := TX2) (N := 20) (fun _ h => h) co 0 h0 (by rw [hz]; rfl) hM hn ⟨?_, ?_⟩ ⟨Nat.le_refl _, Nat.le_refl _⟩ hcat hd hst hp ?_
  · show z.2.2.2.2 + 1 ≤ 9
    omega
  · show 40 * z.2.2.2.2 + 40 ≤ 314
    omega
  · rintro r w ⟨rfl, hw⟩
    rw [List.append_nil]
    exact k w hw
theorem b_lcmp (F : FB g mdL p s m #[Value.ref b] meth c) {x y : Int64} (hd : decode code pc = .ok (.lcmp, 1)) (hp : pc + 1 = pc') (k : Bx g mdL p e s m #[Value.ref b] below meth c room_1 (fun q => s.heap.size ≤ q) Q 600000 7302250 pc' lv (.int (lg_cmp x y) :: st) ws) : Bx g mdL p e s m #[Value.ref b] below meth c room_1 (fun q => s.heap.size ≤ q) Q 600000 7302250 pc lv (.long y :: .long x :: st) ws := by
  subst hp; exact fun H locs ls hP hD hS hl => W.lcmp F.1 F.2.1 hd (k H locs ls hP hD hS hl)
theorem b_if_eq0 (F : FB g mdL p s m #[Value.ref b] meth c) {off : Int} {tgt : Nat} (hd : decode code pc = .ok (.ifCond .eq off, 3)) (ht : (pc : Int) + off = (tgt : Int)) (k : Bx g mdL p e s m #[Value.ref b] below meth c room_1 (fun q => s.heap.size ≤ q) Q 600000 7302250 tgt lv st ws) : Bx g mdL p e s m #[Value.ref b] below meth c room_1 (fun q => s.heap.size ≤ q) Q 600000 7302250 pc lv (.int 0 :: st) ws :=
  fun H locs ls hP hD hS hl => lv_if_eq F.1 F.2.1 hd ht (fun _ => k H locs ls hP hD hS hl) (fun h => absurd rfl h)
theorem lg_cmp_self (x : Int64) : lg_cmp x x = 0 := by
  unfold lg_cmp
  rw [if_neg (fun h => Int64.lt_irrefl h), if_pos rfl]
end LAW
theorem coLX1_append : coV RL 13 mdX1_append 1 := ⟨lw_in (by decide +kernel) rfl, lw_in (by decide +kernel) rfl, lw_in (by decide +kernel) rfl, lw_in (by decide +kernel) rfl, lw_in (by decide +kernel) rfl, by decide +kernel, by decide⟩
theorem coLX2_append : coV RL 17 mdX2_append 1 := ⟨lw_in (by decide +kernel) rfl, lw_in (by decide +kernel) rfl, lw_in (by decide +kernel) rfl, lw_in (by decide +kernel) rfl, lw_in (by decide +kernel) rfl, by decide +kernel, by decide⟩
theorem law_append {g : EG} {p : Program} {e : Env} {s : State} {m : MethodId} {below : List Frame} {meth : Method} {c : Code} {b L : Nat} {xs : Nat → Int32} {Q : State → Prop} {w1 w2 : va_W} {xo an ac am mo N i : Nat} {LN LT : List Nat} {xt mr : Nat → Nat} {S : SS} (F : FB g mdL p s m #[Value.ref b] meth c) (hX : va_X b L xs s s.heap) (hbl : b < s.heap.size) (hL : L ≤ 1536) (I : Inv N S) (hN : N ≤ 512) (hi : i + 2 < L) (h1 : isX g xo an ac am LN LT xt S w1) (h2 : isM g mo mr S w2) (k : ∀ S' w1' w2', Inv (N + 1) S' → isX g xo an ac am LN LT xt S' w1' → isM g mo mr S' w2' → Bx g mdL p e s m #[Value.ref b] below meth c room_1 (fun q => s.heap.size ≤ q) Q 600000 7302250 741 [some (.ref b), some (.ref xo), some (.ref mo), some (.int (nI i))] [] (w1' ++ w2')) : Bx g mdL p e s m #[Value.ref b] below meth c room_1 (fun q => s.heap.size ≤ q) Q 600000 7302250 152 [some (.ref b), some (.ref xo), some (.ref mo), some (.int (nI i))] [] (w1 ++ w2) := by
  refine b_aload_n F (pc' := 153) dL_law_152 rfl rfl ?_
  refine law_arg F hX hbl hL (k0 := 1) (n := 1) (by decide) (by omega) dL_law_153 dL_law_154 dL_law_155 dL_law_156 dL_law_157 (pc' := 158) rfl ?_
  refine law_callX F (As := [.int (xs (i + 1))]) coLX1_append rfl (by decide) h1 (ux_append I hN (xs (i + 1)) h1) rfl (Nat.le_of_ble_eq_true rfl) dL_law_158 rfl (pc' := 161) rfl (fun w1' h1' => ?_)
  refine b_aload_n F (pc' := 162) dL_law_161 rfl rfl ?_
  refine law_arg F hX hbl hL (k0 := 1) (n := 1) (by decide) (by omega) dL_law_162 dL_law_163 dL_law_164 dL_law_165 dL_law_166 (pc' := 167) rfl ?_
  refine law_callM F (As := [.int (xs (i + 1))]) coLX2_append rfl (by decide) h2 (um_append I hN (xs (i + 1)) h2) rfl (Nat.le_of_ble_eq_true rfl) dL_law_167 rfl (pc' := 170) rfl (fun w2' h2' => ?_)
  exact b_icmp_eq F (tgt := 741) (pc' := 173) dL_law_170 (by decide) rfl (fun _ => k _ _ _ (I.app _) h1' h2') (fun h => absurd rfl h)
theorem coLX1_clearClip : coV RL 18 mdX1_clearClip 0 := ⟨lw_in (by decide +kernel) rfl, lw_in (by decide +kernel) rfl, lw_in (by decide +kernel) rfl, lw_in (by decide +kernel) rfl, lw_in (by decide +kernel) rfl, by decide +kernel, by decide⟩
theorem coLX2_clearClip : coV RL 22 mdX2_clearClip 0 := ⟨lw_in (by decide +kernel) rfl, lw_in (by decide +kernel) rfl, lw_in (by decide +kernel) rfl, lw_in (by decide +kernel) rfl, lw_in (by decide +kernel) rfl, by decide +kernel, by decide⟩
theorem law_clearClip {g : EG} {p : Program} {e : Env} {s : State} {m : MethodId} {below : List Frame} {meth : Method} {c : Code} {b L : Nat} {xs : Nat → Int32} {Q : State → Prop} {w1 w2 : va_W} {xo an ac am mo N i : Nat} {LN LT : List Nat} {xt mr : Nat → Nat} {S : SS} (F : FB g mdL p s m #[Value.ref b] meth c) (hX : va_X b L xs s s.heap) (hbl : b < s.heap.size) (hL : L ≤ 1536) (I : Inv N S) (hN : N ≤ 512) (hi : i + 2 < L) (h1 : isX g xo an ac am LN LT xt S w1) (h2 : isM g mo mr S w2) (k : ∀ S' w1' w2', Inv (N + 1) S' → isX g xo an ac am LN LT xt S' w1' → isM g mo mr S' w2' → Bx g mdL p e s m #[Value.ref b] below meth c room_1 (fun q => s.heap.size ≤ q) Q 600000 7302250 741 [some (.ref b), some (.ref xo), some (.ref mo), some (.int (nI i))] [] (w1' ++ w2')) : Bx g mdL p e s m #[Value.ref b] below meth c room_1 (fun q => s.heap.size ≤ q) Q 600000 7302250 175 [some (.ref b), some (.ref xo), some (.ref mo), some (.int (nI i))] [] (w1 ++ w2) := by
  refine b_aload_n F (pc' := 176) dL_law_175 rfl rfl ?_
  refine law_callX F (As := []) coLX1_clearClip rfl (by decide) h1 (ux_clearClip I hN  h1) rfl (Nat.le_of_ble_eq_true rfl) dL_law_176 rfl (pc' := 179) rfl (fun w1' h1' => ?_)
  refine b_aload_n F (pc' := 180) dL_law_179 rfl rfl ?_
  refine law_callM F (As := []) coLX2_clearClip rfl (by decide) h2 (um_clearClip I hN  h2) rfl (Nat.le_of_ble_eq_true rfl) dL_law_180 rfl (pc' := 183) rfl (fun w2' h2' => ?_)
  exact b_icmp_eq F (tgt := 741) (pc' := 186) dL_law_183 (by decide) rfl (fun _ => k _ _ _ (I.clr) h1' h2') (fun h => absurd rfl h)
theorem coLX1_insert : coV RL 23 mdX1_insert 1 := ⟨lw_in (by decide +kernel) rfl, lw_in (by decide +kernel) rfl, lw_in (by decide +kernel) rfl, lw_in (by decide +kernel) rfl, lw_in (by decide +kernel) rfl, by decide +kernel, by decide⟩
theorem coLX2_insert : coV RL 26 mdX2_insert 1 := ⟨lw_in (by decide +kernel) rfl, lw_in (by decide +kernel) rfl, lw_in (by decide +kernel) rfl, lw_in (by decide +kernel) rfl, lw_in (by decide +kernel) rfl, by decide +kernel, by decide⟩
theorem law_insert {g : EG} {p : Program} {e : Env} {s : State} {m : MethodId} {below : List Frame} {meth : Method} {c : Code} {b L : Nat} {xs : Nat → Int32} {Q : State → Prop} {w1 w2 : va_W} {xo an ac am mo N i : Nat} {LN LT : List Nat} {xt mr : Nat → Nat} {S : SS} (F : FB g mdL p s m #[Value.ref b] meth c) (hX : va_X b L xs s s.heap) (hbl : b < s.heap.size) (hL : L ≤ 1536) (I : Inv N S) (hN : N ≤ 512) (hi : i + 2 < L) (h1 : isX g xo an ac am LN LT xt S w1) (h2 : isM g mo mr S w2) (k : ∀ S' w1' w2', Inv (N + 1) S' → isX g xo an ac am LN LT xt S' w1' → isM g mo mr S' w2' → Bx g mdL p e s m #[Value.ref b] below meth c room_1 (fun q => s.heap.size ≤ q) Q 600000 7302250 741 [some (.ref b), some (.ref xo), some (.ref mo), some (.int (nI i))] [] (w1' ++ w2')) : Bx g mdL p e s m #[Value.ref b] below meth c room_1 (fun q => s.heap.size ≤ q) Q 600000 7302250 188 [some (.ref b), some (.ref xo), some (.ref mo), some (.int (nI i))] [] (w1 ++ w2) := by
  refine b_aload_n F (pc' := 189) dL_law_188 rfl rfl ?_
  refine law_arg F hX hbl hL (k0 := 1) (n := 1) (by decide) (by omega) dL_law_189 dL_law_190 dL_law_191 dL_law_192 dL_law_193 (pc' := 194) rfl ?_
  refine law_callX F (As := [.int (xs (i + 1))]) coLX1_insert rfl (by decide) h1 (ux_insert I hN (xs (i + 1)) h1) rfl (Nat.le_of_ble_eq_true rfl) dL_law_194 rfl (pc' := 197) rfl (fun w1' h1' => ?_)
  refine b_aload_n F (pc' := 198) dL_law_197 rfl rfl ?_
  refine law_arg F hX hbl hL (k0 := 1) (n := 1) (by decide) (by omega) dL_law_198 dL_law_199 dL_law_200 dL_law_201 dL_law_202 (pc' := 203) rfl ?_
  refine law_callM F (As := [.int (xs (i + 1))]) coLX2_insert rfl (by decide) h2 (um_insert I hN (xs (i + 1)) h2) rfl (Nat.le_of_ble_eq_true rfl) dL_law_203 rfl (pc' := 206) rfl (fun w2' h2' => ?_)
  exact b_icmp_eq F (tgt := 741) (pc' := 209) dL_law_206 (by decide) rfl (fun _ => k _ _ _ (I.ins hN _) h1' h2') (fun h => absurd rfl h)
theorem coLX1_delete : coV RL 27 mdX1_delete 2 := ⟨lw_in (by decide +kernel) rfl, lw_in (by decide +kernel) rfl, lw_in (by decide +kernel) rfl, lw_in (by decide +kernel) rfl, lw_in (by decide +kernel) rfl, by decide +kernel, by decide⟩
theorem coLX2_delete : coV RL 31 mdX2_delete 2 := ⟨lw_in (by decide +kernel) rfl, lw_in (by decide +kernel) rfl, lw_in (by decide +kernel) rfl, lw_in (by decide +kernel) rfl, lw_in (by decide +kernel) rfl, by decide +kernel, by decide⟩
theorem law_delete {g : EG} {p : Program} {e : Env} {s : State} {m : MethodId} {below : List Frame} {meth : Method} {c : Code} {b L : Nat} {xs : Nat → Int32} {Q : State → Prop} {w1 w2 : va_W} {xo an ac am mo N i : Nat} {LN LT : List Nat} {xt mr : Nat → Nat} {S : SS} (F : FB g mdL p s m #[Value.ref b] meth c) (hX : va_X b L xs s s.heap) (hbl : b < s.heap.size) (hL : L ≤ 1536) (I : Inv N S) (hN : N ≤ 512) (hi : i + 2 < L) (h1 : isX g xo an ac am LN LT xt S w1) (h2 : isM g mo mr S w2) (k : ∀ S' w1' w2', Inv (N + 1) S' → isX g xo an ac am LN LT xt S' w1' → isM g mo mr S' w2' → Bx g mdL p e s m #[Value.ref b] below meth c room_1 (fun q => s.heap.size ≤ q) Q 600000 7302250 741 [some (.ref b), some (.ref xo), some (.ref mo), some (.int (nI i))] [] (w1' ++ w2')) : Bx g mdL p e s m #[Value.ref b] below meth c room_1 (fun q => s.heap.size ≤ q) Q 600000 7302250 211 [some (.ref b), some (.ref xo), some (.ref mo), some (.int (nI i))] [] (w1 ++ w2) := by
  refine b_aload_n F (pc' := 212) dL_law_211 rfl rfl ?_
  refine law_arg F hX hbl hL (k0 := 1) (n := 1) (by decide) (by omega) dL_law_212 dL_law_213 dL_law_214 dL_law_215 dL_law_216 (pc' := 217) rfl ?_
  refine law_arg F hX hbl hL (k0 := 2) (n := 2) (by decide) (by omega) dL_law_217 dL_law_218 dL_law_219 dL_law_220 dL_law_221 (pc' := 222) rfl ?_
  refine law_callX F (As := [.int (xs (i + 1)), .int (xs (i + 2))]) coLX1_delete rfl (by decide) h1 (ux_delete I hN (xs (i + 1)) (xs (i + 2)) h1) rfl (Nat.le_of_ble_eq_true rfl) dL_law_222 rfl (pc' := 225) rfl (fun w1' h1' => ?_)
  refine b_aload_n F (pc' := 226) dL_law_225 rfl rfl ?_
  refine law_arg F hX hbl hL (k0 := 1) (n := 1) (by decide) (by omega) dL_law_226 dL_law_227 dL_law_228 dL_law_229 dL_law_230 (pc' := 231) rfl ?_
  refine law_arg F hX hbl hL (k0 := 2) (n := 2) (by decide) (by omega) dL_law_231 dL_law_232 dL_law_233 dL_law_234 dL_law_235 (pc' := 236) rfl ?_
  refine law_callM F (As := [.int (xs (i + 1)), .int (xs (i + 2))]) coLX2_delete rfl (by decide) h2 (um_delete I hN (xs (i + 1)) (xs (i + 2)) h2) rfl (Nat.le_of_ble_eq_true rfl) dL_law_236 rfl (pc' := 239) rfl (fun w2' h2' => ?_)
  exact b_icmp_eq F (tgt := 741) (pc' := 242) dL_law_239 (by decide) rfl (fun _ => k _ _ _ (I.del hN _ _) h1' h2') (fun h => absurd rfl h)
theorem coLX1_undo : coV RL 32 mdX1_undo 0 := ⟨lw_in (by decide +kernel) rfl, lw_in (by decide +kernel) rfl, lw_in (by decide +kernel) rfl, lw_in (by decide +kernel) rfl, lw_in (by decide +kernel) rfl, by decide +kernel, by decide⟩
theorem coLX2_undo : coV RL 35 mdX2_undo 0 := ⟨lw_in (by decide +kernel) rfl, lw_in (by decide +kernel) rfl, lw_in (by decide +kernel) rfl, lw_in (by decide +kernel) rfl, lw_in (by decide +kernel) rfl, by decide +kernel, by decide⟩
theorem law_undo {g : EG} {p : Program} {e : Env} {s : State} {m : MethodId} {below : List Frame} {meth : Method} {c : Code} {b L : Nat} {xs : Nat → Int32} {Q : State → Prop} {w1 w2 : va_W} {xo an ac am mo N i : Nat} {LN LT : List Nat} {xt mr : Nat → Nat} {S : SS} (F : FB g mdL p s m #[Value.ref b] meth c) (hX : va_X b L xs s s.heap) (hbl : b < s.heap.size) (hL : L ≤ 1536) (I : Inv N S) (hN : N ≤ 512) (hi : i + 2 < L) (h1 : isX g xo an ac am LN LT xt S w1) (h2 : isM g mo mr S w2) (k : ∀ S' w1' w2', Inv (N + 1) S' → isX g xo an ac am LN LT xt S' w1' → isM g mo mr S' w2' → Bx g mdL p e s m #[Value.ref b] below meth c room_1 (fun q => s.heap.size ≤ q) Q 600000 7302250 741 [some (.ref b), some (.ref xo), some (.ref mo), some (.int (nI i))] [] (w1' ++ w2')) : Bx g mdL p e s m #[Value.ref b] below meth c room_1 (fun q => s.heap.size ≤ q) Q 600000 7302250 244 [some (.ref b), some (.ref xo), some (.ref mo), some (.int (nI i))] [] (w1 ++ w2) := by
  refine b_aload_n F (pc' := 245) dL_law_244 rfl rfl ?_
  refine law_callX F (As := []) coLX1_undo rfl (by decide) h1 (ux_undo I hN  h1) rfl (Nat.le_of_ble_eq_true rfl) dL_law_245 rfl (pc' := 248) rfl (fun w1' h1' => ?_)
  refine b_aload_n F (pc' := 249) dL_law_248 rfl rfl ?_
  refine law_callM F (As := []) coLX2_undo rfl (by decide) h2 (um_undo I hN  h2) rfl (Nat.le_of_ble_eq_true rfl) dL_law_249 rfl (pc' := 252) rfl (fun w2' h2' => ?_)
  exact b_icmp_eq F (tgt := 741) (pc' := 255) dL_law_252 (by decide) rfl (fun _ => k _ _ _ (I.undo) h1' h2') (fun h => absurd rfl h)
theorem coLX1_redo : coV RL 36 mdX1_redo 0 := ⟨lw_in (by decide +kernel) rfl, lw_in (by decide +kernel) rfl, lw_in (by decide +kernel) rfl, lw_in (by decide +kernel) rfl, lw_in (by decide +kernel) rfl, by decide +kernel, by decide⟩
theorem coLX2_redo : coV RL 39 mdX2_redo 0 := ⟨lw_in (by decide +kernel) rfl, lw_in (by decide +kernel) rfl, lw_in (by decide +kernel) rfl, lw_in (by decide +kernel) rfl, lw_in (by decide +kernel) rfl, by decide +kernel, by decide⟩
theorem law_redo {g : EG} {p : Program} {e : Env} {s : State} {m : MethodId} {below : List Frame} {meth : Method} {c : Code} {b L : Nat} {xs : Nat → Int32} {Q : State → Prop} {w1 w2 : va_W} {xo an ac am mo N i : Nat} {LN LT : List Nat} {xt mr : Nat → Nat} {S : SS} (F : FB g mdL p s m #[Value.ref b] meth c) (hX : va_X b L xs s s.heap) (hbl : b < s.heap.size) (hL : L ≤ 1536) (I : Inv N S) (hN : N ≤ 512) (hi : i + 2 < L) (h1 : isX g xo an ac am LN LT xt S w1) (h2 : isM g mo mr S w2) (k : ∀ S' w1' w2', Inv (N + 1) S' → isX g xo an ac am LN LT xt S' w1' → isM g mo mr S' w2' → Bx g mdL p e s m #[Value.ref b] below meth c room_1 (fun q => s.heap.size ≤ q) Q 600000 7302250 741 [some (.ref b), some (.ref xo), some (.ref mo), some (.int (nI i))] [] (w1' ++ w2')) : Bx g mdL p e s m #[Value.ref b] below meth c room_1 (fun q => s.heap.size ≤ q) Q 600000 7302250 257 [some (.ref b), some (.ref xo), some (.ref mo), some (.int (nI i))] [] (w1 ++ w2) := by
  refine b_aload_n F (pc' := 258) dL_law_257 rfl rfl ?_
  refine law_callX F (As := []) coLX1_redo rfl (by decide) h1 (ux_redo I hN  h1) rfl (Nat.le_of_ble_eq_true rfl) dL_law_258 rfl (pc' := 261) rfl (fun w1' h1' => ?_)
  refine b_aload_n F (pc' := 262) dL_law_261 rfl rfl ?_
  refine law_callM F (As := []) coLX2_redo rfl (by decide) h2 (um_redo I hN  h2) rfl (Nat.le_of_ble_eq_true rfl) dL_law_262 rfl (pc' := 265) rfl (fun w2' h2' => ?_)
  exact b_icmp_eq F (tgt := 741) (pc' := 268) dL_law_265 (by decide) rfl (fun _ => k _ _ _ (I.redo) h1' h2') (fun h => absurd rfl h)
theorem coLX1_jump : coV RL 40 mdX1_jump 1 := ⟨lw_in (by decide +kernel) rfl, lw_in (by decide +kernel) rfl, lw_in (by decide +kernel) rfl, lw_in (by decide +kernel) rfl, lw_in (by decide +kernel) rfl, by decide +kernel, by decide⟩
theorem coLX2_jump : coV RL 43 mdX2_jump 1 := ⟨lw_in (by decide +kernel) rfl, lw_in (by decide +kernel) rfl, lw_in (by decide +kernel) rfl, lw_in (by decide +kernel) rfl, lw_in (by decide +kernel) rfl, by decide +kernel, by decide⟩
theorem law_jump {g : EG} {p : Program} {e : Env} {s : State} {m : MethodId} {below : List Frame} {meth : Method} {c : Code} {b L : Nat} {xs : Nat → Int32} {Q : State → Prop} {w1 w2 : va_W} {xo an ac am mo N i : Nat} {LN LT : List Nat} {xt mr : Nat → Nat} {S : SS} (F : FB g mdL p s m #[Value.ref b] meth c) (hX : va_X b L xs s s.heap) (hbl : b < s.heap.size) (hL : L ≤ 1536) (I : Inv N S) (hN : N ≤ 512) (hi : i + 2 < L) (h1 : isX g xo an ac am LN LT xt S w1) (h2 : isM g mo mr S w2) (k : ∀ S' w1' w2', Inv (N + 1) S' → isX g xo an ac am LN LT xt S' w1' → isM g mo mr S' w2' → Bx g mdL p e s m #[Value.ref b] below meth c room_1 (fun q => s.heap.size ≤ q) Q 600000 7302250 741 [some (.ref b), some (.ref xo), some (.ref mo), some (.int (nI i))] [] (w1' ++ w2')) : Bx g mdL p e s m #[Value.ref b] below meth c room_1 (fun q => s.heap.size ≤ q) Q 600000 7302250 270 [some (.ref b), some (.ref xo), some (.ref mo), some (.int (nI i))] [] (w1 ++ w2) := by
  refine b_aload_n F (pc' := 271) dL_law_270 rfl rfl ?_
  refine law_arg F hX hbl hL (k0 := 1) (n := 1) (by decide) (by omega) dL_law_271 dL_law_272 dL_law_273 dL_law_274 dL_law_275 (pc' := 276) rfl ?_
  refine law_callX F (As := [.int (xs (i + 1))]) coLX1_jump rfl (by decide) h1 (ux_jump I hN (xs (i + 1)) h1) rfl (Nat.le_of_ble_eq_true rfl) dL_law_276 rfl (pc' := 279) rfl (fun w1' h1' => ?_)
  refine b_aload_n F (pc' := 280) dL_law_279 rfl rfl ?_
  refine law_arg F hX hbl hL (k0 := 1) (n := 1) (by decide) (by omega) dL_law_280 dL_law_281 dL_law_282 dL_law_283 dL_law_284 (pc' := 285) rfl ?_
  refine law_callM F (As := [.int (xs (i + 1))]) coLX2_jump rfl (by decide) h2 (um_jump I hN (xs (i + 1)) h2) rfl (Nat.le_of_ble_eq_true rfl) dL_law_285 rfl (pc' := 288) rfl (fun w2' h2' => ?_)
  exact b_icmp_eq F (tgt := 741) (pc' := 291) dL_law_288 (by decide) rfl (fun _ => k _ _ _ (I.jump _) h1' h2') (fun h => absurd rfl h)
theorem coLX1_undoEdit : coV RL 44 mdX1_undoEdit 1 := ⟨lw_in (by decide +kernel) rfl, lw_in (by decide +kernel) rfl, lw_in (by decide +kernel) rfl, lw_in (by decide +kernel) rfl, lw_in (by decide +kernel) rfl, by decide +kernel, by decide⟩
theorem coLX2_undoEdit : coV RL 47 mdX2_undoEdit 1 := ⟨lw_in (by decide +kernel) rfl, lw_in (by decide +kernel) rfl, lw_in (by decide +kernel) rfl, lw_in (by decide +kernel) rfl, lw_in (by decide +kernel) rfl, by decide +kernel, by decide⟩
theorem law_undoEdit {g : EG} {p : Program} {e : Env} {s : State} {m : MethodId} {below : List Frame} {meth : Method} {c : Code} {b L : Nat} {xs : Nat → Int32} {Q : State → Prop} {w1 w2 : va_W} {xo an ac am mo N i : Nat} {LN LT : List Nat} {xt mr : Nat → Nat} {S : SS} (F : FB g mdL p s m #[Value.ref b] meth c) (hX : va_X b L xs s s.heap) (hbl : b < s.heap.size) (hL : L ≤ 1536) (I : Inv N S) (hN : N ≤ 512) (hi : i + 2 < L) (h1 : isX g xo an ac am LN LT xt S w1) (h2 : isM g mo mr S w2) (k : ∀ S' w1' w2', Inv (N + 1) S' → isX g xo an ac am LN LT xt S' w1' → isM g mo mr S' w2' → Bx g mdL p e s m #[Value.ref b] below meth c room_1 (fun q => s.heap.size ≤ q) Q 600000 7302250 741 [some (.ref b), some (.ref xo), some (.ref mo), some (.int (nI i))] [] (w1' ++ w2')) : Bx g mdL p e s m #[Value.ref b] below meth c room_1 (fun q => s.heap.size ≤ q) Q 600000 7302250 293 [some (.ref b), some (.ref xo), some (.ref mo), some (.int (nI i))] [] (w1 ++ w2) := by
  refine b_aload_n F (pc' := 294) dL_law_293 rfl rfl ?_
  refine law_arg F hX hbl hL (k0 := 1) (n := 1) (by decide) (by omega) dL_law_294 dL_law_295 dL_law_296 dL_law_297 dL_law_298 (pc' := 299) rfl ?_
  refine law_callX F (As := [.int (xs (i + 1))]) coLX1_undoEdit rfl (by decide) h1 (ux_undoEdit I hN (xs (i + 1)) h1) rfl (Nat.le_of_ble_eq_true rfl) dL_law_299 rfl (pc' := 302) rfl (fun w1' h1' => ?_)
  refine b_aload_n F (pc' := 303) dL_law_302 rfl rfl ?_
  refine law_arg F hX hbl hL (k0 := 1) (n := 1) (by decide) (by omega) dL_law_303 dL_law_304 dL_law_305 dL_law_306 dL_law_307 (pc' := 308) rfl ?_
  refine law_callM F (As := [.int (xs (i + 1))]) coLX2_undoEdit rfl (by decide) h2 (um_undoEdit I hN (xs (i + 1)) h2) rfl (Nat.le_of_ble_eq_true rfl) dL_law_308 rfl (pc' := 311) rfl (fun w2' h2' => ?_)
  exact b_icmp_eq F (tgt := 741) (pc' := 314) dL_law_311 (by decide) rfl (fun _ => k _ _ _ (I.ue hN _) h1' h2') (fun h => absurd rfl h)
theorem coLX1_conflictWith : coV RL 48 mdX1_conflictWith 1 := ⟨lw_in (by decide +kernel) rfl, lw_in (by decide +kernel) rfl, lw_in (by decide +kernel) rfl, lw_in (by decide +kernel) rfl, lw_in (by decide +kernel) rfl, by decide +kernel, by decide⟩
theorem coLX2_conflictWith : coV RL 51 mdX2_conflictWith 1 := ⟨lw_in (by decide +kernel) rfl, lw_in (by decide +kernel) rfl, lw_in (by decide +kernel) rfl, lw_in (by decide +kernel) rfl, lw_in (by decide +kernel) rfl, by decide +kernel, by decide⟩
theorem law_conflictWith {g : EG} {p : Program} {e : Env} {s : State} {m : MethodId} {below : List Frame} {meth : Method} {c : Code} {b L : Nat} {xs : Nat → Int32} {Q : State → Prop} {w1 w2 : va_W} {xo an ac am mo N i : Nat} {LN LT : List Nat} {xt mr : Nat → Nat} {S : SS} (F : FB g mdL p s m #[Value.ref b] meth c) (hX : va_X b L xs s s.heap) (hbl : b < s.heap.size) (hL : L ≤ 1536) (I : Inv N S) (hN : N ≤ 512) (hi : i + 2 < L) (h1 : isX g xo an ac am LN LT xt S w1) (h2 : isM g mo mr S w2) (k : ∀ S' w1' w2', Inv (N + 1) S' → isX g xo an ac am LN LT xt S' w1' → isM g mo mr S' w2' → Bx g mdL p e s m #[Value.ref b] below meth c room_1 (fun q => s.heap.size ≤ q) Q 600000 7302250 741 [some (.ref b), some (.ref xo), some (.ref mo), some (.int (nI i))] [] (w1' ++ w2')) : Bx g mdL p e s m #[Value.ref b] below meth c room_1 (fun q => s.heap.size ≤ q) Q 600000 7302250 316 [some (.ref b), some (.ref xo), some (.ref mo), some (.int (nI i))] [] (w1 ++ w2) := by
  refine b_aload_n F (pc' := 317) dL_law_316 rfl rfl ?_
  refine law_arg F hX hbl hL (k0 := 1) (n := 1) (by decide) (by omega) dL_law_317 dL_law_318 dL_law_319 dL_law_320 dL_law_321 (pc' := 322) rfl ?_
  refine law_callX F (As := [.int (xs (i + 1))]) coLX1_conflictWith rfl (by decide) h1 (ux_conflictWith I hN (xs (i + 1)) h1) rfl (Nat.le_of_ble_eq_true rfl) dL_law_322 rfl (pc' := 325) rfl (fun w1' h1' => ?_)
  refine b_aload_n F (pc' := 326) dL_law_325 rfl rfl ?_
  refine law_arg F hX hbl hL (k0 := 1) (n := 1) (by decide) (by omega) dL_law_326 dL_law_327 dL_law_328 dL_law_329 dL_law_330 (pc' := 331) rfl ?_
  refine law_callM F (As := [.int (xs (i + 1))]) coLX2_conflictWith rfl (by decide) h2 (um_conflictWith I hN (xs (i + 1)) h2) rfl (Nat.le_of_ble_eq_true rfl) dL_law_331 rfl (pc' := 334) rfl (fun w2' h2' => ?_)
  exact b_icmp_eq F (tgt := 741) (pc' := 337) dL_law_334 (by decide) rfl (fun _ => k _ _ _ (I.up (Nat.le_succ N)) h1' h2') (fun h => absurd rfl h)
theorem coLX1_current : coV RL 52 mdX1_current 0 := ⟨lw_in (by decide +kernel) rfl, lw_in (by decide +kernel) rfl, lw_in (by decide +kernel) rfl, lw_in (by decide +kernel) rfl, lw_in (by decide +kernel) rfl, by decide +kernel, by decide⟩
theorem coLX2_current : coV RL 55 mdX2_current 0 := ⟨lw_in (by decide +kernel) rfl, lw_in (by decide +kernel) rfl, lw_in (by decide +kernel) rfl, lw_in (by decide +kernel) rfl, lw_in (by decide +kernel) rfl, by decide +kernel, by decide⟩
theorem law_current {g : EG} {p : Program} {e : Env} {s : State} {m : MethodId} {below : List Frame} {meth : Method} {c : Code} {b L : Nat} {xs : Nat → Int32} {Q : State → Prop} {w1 w2 : va_W} {xo an ac am mo N i : Nat} {LN LT : List Nat} {xt mr : Nat → Nat} {S : SS} (F : FB g mdL p s m #[Value.ref b] meth c) (hX : va_X b L xs s s.heap) (hbl : b < s.heap.size) (hL : L ≤ 1536) (I : Inv N S) (hN : N ≤ 512) (hi : i + 2 < L) (h1 : isX g xo an ac am LN LT xt S w1) (h2 : isM g mo mr S w2) (k : ∀ S' w1' w2', Inv (N + 1) S' → isX g xo an ac am LN LT xt S' w1' → isM g mo mr S' w2' → Bx g mdL p e s m #[Value.ref b] below meth c room_1 (fun q => s.heap.size ≤ q) Q 600000 7302250 741 [some (.ref b), some (.ref xo), some (.ref mo), some (.int (nI i))] [] (w1' ++ w2')) : Bx g mdL p e s m #[Value.ref b] below meth c room_1 (fun q => s.heap.size ≤ q) Q 600000 7302250 339 [some (.ref b), some (.ref xo), some (.ref mo), some (.int (nI i))] [] (w1 ++ w2) := by
  refine b_aload_n F (pc' := 340) dL_law_339 rfl rfl ?_
  refine law_callX F (As := []) coLX1_current rfl (by decide) h1 (ux_current I hN  h1) rfl (Nat.le_of_ble_eq_true rfl) dL_law_340 rfl (pc' := 343) rfl (fun w1' h1' => ?_)
  refine b_aload_n F (pc' := 344) dL_law_343 rfl rfl ?_
  refine law_callM F (As := []) coLX2_current rfl (by decide) h2 (um_current I hN  h2) rfl (Nat.le_of_ble_eq_true rfl) dL_law_344 rfl (pc' := 347) rfl (fun w2' h2' => ?_)
  exact b_icmp_eq F (tgt := 741) (pc' := 350) dL_law_347 (by decide) rfl (fun _ => k _ _ _ (I.up (Nat.le_succ N)) h1' h2') (fun h => absurd rfl h)
theorem coLX1_nodeCount : coV RL 56 mdX1_nodeCount 0 := ⟨lw_in (by decide +kernel) rfl, lw_in (by decide +kernel) rfl, lw_in (by decide +kernel) rfl, lw_in (by decide +kernel) rfl, lw_in (by decide +kernel) rfl, by decide +kernel, by decide⟩
theorem coLX2_nodeCount : coV RL 59 mdX2_nodeCount 0 := ⟨lw_in (by decide +kernel) rfl, lw_in (by decide +kernel) rfl, lw_in (by decide +kernel) rfl, lw_in (by decide +kernel) rfl, lw_in (by decide +kernel) rfl, by decide +kernel, by decide⟩
theorem law_nodeCount {g : EG} {p : Program} {e : Env} {s : State} {m : MethodId} {below : List Frame} {meth : Method} {c : Code} {b L : Nat} {xs : Nat → Int32} {Q : State → Prop} {w1 w2 : va_W} {xo an ac am mo N i : Nat} {LN LT : List Nat} {xt mr : Nat → Nat} {S : SS} (F : FB g mdL p s m #[Value.ref b] meth c) (hX : va_X b L xs s s.heap) (hbl : b < s.heap.size) (hL : L ≤ 1536) (I : Inv N S) (hN : N ≤ 512) (hi : i + 2 < L) (h1 : isX g xo an ac am LN LT xt S w1) (h2 : isM g mo mr S w2) (k : ∀ S' w1' w2', Inv (N + 1) S' → isX g xo an ac am LN LT xt S' w1' → isM g mo mr S' w2' → Bx g mdL p e s m #[Value.ref b] below meth c room_1 (fun q => s.heap.size ≤ q) Q 600000 7302250 741 [some (.ref b), some (.ref xo), some (.ref mo), some (.int (nI i))] [] (w1' ++ w2')) : Bx g mdL p e s m #[Value.ref b] below meth c room_1 (fun q => s.heap.size ≤ q) Q 600000 7302250 352 [some (.ref b), some (.ref xo), some (.ref mo), some (.int (nI i))] [] (w1 ++ w2) := by
  refine b_aload_n F (pc' := 353) dL_law_352 rfl rfl ?_
  refine law_callX F (As := []) coLX1_nodeCount rfl (by decide) h1 (ux_nodeCount I hN  h1) rfl (Nat.le_of_ble_eq_true rfl) dL_law_353 rfl (pc' := 356) rfl (fun w1' h1' => ?_)
  refine b_aload_n F (pc' := 357) dL_law_356 rfl rfl ?_
  refine law_callM F (As := []) coLX2_nodeCount rfl (by decide) h2 (um_nodeCount I hN  h2) rfl (Nat.le_of_ble_eq_true rfl) dL_law_357 rfl (pc' := 360) rfl (fun w2' h2' => ?_)
  exact b_icmp_eq F (tgt := 741) (pc' := 363) dL_law_360 (by decide) rfl (fun _ => k _ _ _ (I.up (Nat.le_succ N)) h1' h2') (fun h => absurd rfl h)
theorem coLX1_lengthOf : coV RL 60 mdX1_lengthOf 1 := ⟨lw_in (by decide +kernel) rfl, lw_in (by decide +kernel) rfl, lw_in (by decide +kernel) rfl, lw_in (by decide +kernel) rfl, lw_in (by decide +kernel) rfl, by decide +kernel, by decide⟩
theorem coLX2_lengthOf : coV RL 63 mdX2_lengthOf 1 := ⟨lw_in (by decide +kernel) rfl, lw_in (by decide +kernel) rfl, lw_in (by decide +kernel) rfl, lw_in (by decide +kernel) rfl, lw_in (by decide +kernel) rfl, by decide +kernel, by decide⟩
theorem law_lengthOf {g : EG} {p : Program} {e : Env} {s : State} {m : MethodId} {below : List Frame} {meth : Method} {c : Code} {b L : Nat} {xs : Nat → Int32} {Q : State → Prop} {w1 w2 : va_W} {xo an ac am mo N i : Nat} {LN LT : List Nat} {xt mr : Nat → Nat} {S : SS} (F : FB g mdL p s m #[Value.ref b] meth c) (hX : va_X b L xs s s.heap) (hbl : b < s.heap.size) (hL : L ≤ 1536) (I : Inv N S) (hN : N ≤ 512) (hi : i + 2 < L) (h1 : isX g xo an ac am LN LT xt S w1) (h2 : isM g mo mr S w2) (k : ∀ S' w1' w2', Inv (N + 1) S' → isX g xo an ac am LN LT xt S' w1' → isM g mo mr S' w2' → Bx g mdL p e s m #[Value.ref b] below meth c room_1 (fun q => s.heap.size ≤ q) Q 600000 7302250 741 [some (.ref b), some (.ref xo), some (.ref mo), some (.int (nI i))] [] (w1' ++ w2')) : Bx g mdL p e s m #[Value.ref b] below meth c room_1 (fun q => s.heap.size ≤ q) Q 600000 7302250 365 [some (.ref b), some (.ref xo), some (.ref mo), some (.int (nI i))] [] (w1 ++ w2) := by
  refine b_aload_n F (pc' := 366) dL_law_365 rfl rfl ?_
  refine law_arg F hX hbl hL (k0 := 1) (n := 1) (by decide) (by omega) dL_law_366 dL_law_367 dL_law_368 dL_law_369 dL_law_370 (pc' := 371) rfl ?_
  refine law_callX F (As := [.int (xs (i + 1))]) coLX1_lengthOf rfl (by decide) h1 (ux_lengthOf I hN (xs (i + 1)) h1) rfl (Nat.le_of_ble_eq_true rfl) dL_law_371 rfl (pc' := 374) rfl (fun w1' h1' => ?_)
  refine b_aload_n F (pc' := 375) dL_law_374 rfl rfl ?_
  refine law_arg F hX hbl hL (k0 := 1) (n := 1) (by decide) (by omega) dL_law_375 dL_law_376 dL_law_377 dL_law_378 dL_law_379 (pc' := 380) rfl ?_
  refine law_callM F (As := [.int (xs (i + 1))]) coLX2_lengthOf rfl (by decide) h2 (um_lengthOf I hN (xs (i + 1)) h2) rfl (Nat.le_of_ble_eq_true rfl) dL_law_380 rfl (pc' := 383) rfl (fun w2' h2' => ?_)
  exact b_icmp_eq F (tgt := 741) (pc' := 386) dL_law_383 (by decide) rfl (fun _ => k _ _ _ (I.up (Nat.le_succ N)) h1' h2') (fun h => absurd rfl h)
theorem coLX1_characterOf : coV RL 64 mdX1_characterOf 2 := ⟨lw_in (by decide +kernel) rfl, lw_in (by decide +kernel) rfl, lw_in (by decide +kernel) rfl, lw_in (by decide +kernel) rfl, lw_in (by decide +kernel) rfl, by decide +kernel, by decide⟩
theorem coLX2_characterOf : coV RL 67 mdX2_characterOf 2 := ⟨lw_in (by decide +kernel) rfl, lw_in (by decide +kernel) rfl, lw_in (by decide +kernel) rfl, lw_in (by decide +kernel) rfl, lw_in (by decide +kernel) rfl, by decide +kernel, by decide⟩
theorem law_characterOf {g : EG} {p : Program} {e : Env} {s : State} {m : MethodId} {below : List Frame} {meth : Method} {c : Code} {b L : Nat} {xs : Nat → Int32} {Q : State → Prop} {w1 w2 : va_W} {xo an ac am mo N i : Nat} {LN LT : List Nat} {xt mr : Nat → Nat} {S : SS} (F : FB g mdL p s m #[Value.ref b] meth c) (hX : va_X b L xs s s.heap) (hbl : b < s.heap.size) (hL : L ≤ 1536) (I : Inv N S) (hN : N ≤ 512) (hi : i + 2 < L) (h1 : isX g xo an ac am LN LT xt S w1) (h2 : isM g mo mr S w2) (k : ∀ S' w1' w2', Inv (N + 1) S' → isX g xo an ac am LN LT xt S' w1' → isM g mo mr S' w2' → Bx g mdL p e s m #[Value.ref b] below meth c room_1 (fun q => s.heap.size ≤ q) Q 600000 7302250 741 [some (.ref b), some (.ref xo), some (.ref mo), some (.int (nI i))] [] (w1' ++ w2')) : Bx g mdL p e s m #[Value.ref b] below meth c room_1 (fun q => s.heap.size ≤ q) Q 600000 7302250 388 [some (.ref b), some (.ref xo), some (.ref mo), some (.int (nI i))] [] (w1 ++ w2) := by
  refine b_aload_n F (pc' := 389) dL_law_388 rfl rfl ?_
  refine law_arg F hX hbl hL (k0 := 1) (n := 1) (by decide) (by omega) dL_law_389 dL_law_390 dL_law_391 dL_law_392 dL_law_393 (pc' := 394) rfl ?_
  refine law_arg F hX hbl hL (k0 := 2) (n := 2) (by decide) (by omega) dL_law_394 dL_law_395 dL_law_396 dL_law_397 dL_law_398 (pc' := 399) rfl ?_
  refine law_callX F (As := [.int (xs (i + 1)), .int (xs (i + 2))]) coLX1_characterOf rfl (by decide) h1 (ux_characterOf I hN (xs (i + 1)) (xs (i + 2)) h1) rfl (Nat.le_of_ble_eq_true rfl) dL_law_399 rfl (pc' := 402) rfl (fun w1' h1' => ?_)
  refine b_aload_n F (pc' := 403) dL_law_402 rfl rfl ?_
  refine law_arg F hX hbl hL (k0 := 1) (n := 1) (by decide) (by omega) dL_law_403 dL_law_404 dL_law_405 dL_law_406 dL_law_407 (pc' := 408) rfl ?_
  refine law_arg F hX hbl hL (k0 := 2) (n := 2) (by decide) (by omega) dL_law_408 dL_law_409 dL_law_410 dL_law_411 dL_law_412 (pc' := 413) rfl ?_
  refine law_callM F (As := [.int (xs (i + 1)), .int (xs (i + 2))]) coLX2_characterOf rfl (by decide) h2 (um_characterOf I hN (xs (i + 1)) (xs (i + 2)) h2) rfl (Nat.le_of_ble_eq_true rfl) dL_law_413 rfl (pc' := 416) rfl (fun w2' h2' => ?_)
  exact b_icmp_eq F (tgt := 741) (pc' := 419) dL_law_416 (by decide) rfl (fun _ => k _ _ _ (I.up (Nat.le_succ N)) h1' h2') (fun h => absurd rfl h)
theorem coLX1_editOf : coV RL 68 mdX1_editOf 1 := ⟨lw_in (by decide +kernel) rfl, lw_in (by decide +kernel) rfl, lw_in (by decide +kernel) rfl, lw_in (by decide +kernel) rfl, lw_in (by decide +kernel) rfl, by decide +kernel, by decide⟩
theorem coLX2_editOf : coV RL 71 mdX2_editOf 1 := ⟨lw_in (by decide +kernel) rfl, lw_in (by decide +kernel) rfl, lw_in (by decide +kernel) rfl, lw_in (by decide +kernel) rfl, lw_in (by decide +kernel) rfl, by decide +kernel, by decide⟩
theorem law_editOf {g : EG} {p : Program} {e : Env} {s : State} {m : MethodId} {below : List Frame} {meth : Method} {c : Code} {b L : Nat} {xs : Nat → Int32} {Q : State → Prop} {w1 w2 : va_W} {xo an ac am mo N i : Nat} {LN LT : List Nat} {xt mr : Nat → Nat} {S : SS} (F : FB g mdL p s m #[Value.ref b] meth c) (hX : va_X b L xs s s.heap) (hbl : b < s.heap.size) (hL : L ≤ 1536) (I : Inv N S) (hN : N ≤ 512) (hi : i + 2 < L) (h1 : isX g xo an ac am LN LT xt S w1) (h2 : isM g mo mr S w2) (k : ∀ S' w1' w2', Inv (N + 1) S' → isX g xo an ac am LN LT xt S' w1' → isM g mo mr S' w2' → Bx g mdL p e s m #[Value.ref b] below meth c room_1 (fun q => s.heap.size ≤ q) Q 600000 7302250 741 [some (.ref b), some (.ref xo), some (.ref mo), some (.int (nI i))] [] (w1' ++ w2')) : Bx g mdL p e s m #[Value.ref b] below meth c room_1 (fun q => s.heap.size ≤ q) Q 600000 7302250 421 [some (.ref b), some (.ref xo), some (.ref mo), some (.int (nI i))] [] (w1 ++ w2) := by
  refine b_aload_n F (pc' := 422) dL_law_421 rfl rfl ?_
  refine law_arg F hX hbl hL (k0 := 1) (n := 1) (by decide) (by omega) dL_law_422 dL_law_423 dL_law_424 dL_law_425 dL_law_426 (pc' := 427) rfl ?_
  refine law_callX F (As := [.int (xs (i + 1))]) coLX1_editOf rfl (by decide) h1 (ux_editOf I hN (xs (i + 1)) h1) rfl (Nat.le_of_ble_eq_true rfl) dL_law_427 rfl (pc' := 430) rfl (fun w1' h1' => ?_)
  refine b_aload_n F (pc' := 431) dL_law_430 rfl rfl ?_
  refine law_arg F hX hbl hL (k0 := 1) (n := 1) (by decide) (by omega) dL_law_431 dL_law_432 dL_law_433 dL_law_434 dL_law_435 (pc' := 436) rfl ?_
  refine law_callM F (As := [.int (xs (i + 1))]) coLX2_editOf rfl (by decide) h2 (um_editOf I hN (xs (i + 1)) h2) rfl (Nat.le_of_ble_eq_true rfl) dL_law_436 rfl (pc' := 439) rfl (fun w2' h2' => ?_)
  exact b_icmp_eq F (tgt := 741) (pc' := 442) dL_law_439 (by decide) rfl (fun _ => k _ _ _ (I.up (Nat.le_succ N)) h1' h2') (fun h => absurd rfl h)
theorem coLX1_parentOf : coV RL 72 mdX1_parentOf 1 := ⟨lw_in (by decide +kernel) rfl, lw_in (by decide +kernel) rfl, lw_in (by decide +kernel) rfl, lw_in (by decide +kernel) rfl, lw_in (by decide +kernel) rfl, by decide +kernel, by decide⟩
theorem coLX2_parentOf : coV RL 75 mdX2_parentOf 1 := ⟨lw_in (by decide +kernel) rfl, lw_in (by decide +kernel) rfl, lw_in (by decide +kernel) rfl, lw_in (by decide +kernel) rfl, lw_in (by decide +kernel) rfl, by decide +kernel, by decide⟩
theorem law_parentOf {g : EG} {p : Program} {e : Env} {s : State} {m : MethodId} {below : List Frame} {meth : Method} {c : Code} {b L : Nat} {xs : Nat → Int32} {Q : State → Prop} {w1 w2 : va_W} {xo an ac am mo N i : Nat} {LN LT : List Nat} {xt mr : Nat → Nat} {S : SS} (F : FB g mdL p s m #[Value.ref b] meth c) (hX : va_X b L xs s s.heap) (hbl : b < s.heap.size) (hL : L ≤ 1536) (I : Inv N S) (hN : N ≤ 512) (hi : i + 2 < L) (h1 : isX g xo an ac am LN LT xt S w1) (h2 : isM g mo mr S w2) (k : ∀ S' w1' w2', Inv (N + 1) S' → isX g xo an ac am LN LT xt S' w1' → isM g mo mr S' w2' → Bx g mdL p e s m #[Value.ref b] below meth c room_1 (fun q => s.heap.size ≤ q) Q 600000 7302250 741 [some (.ref b), some (.ref xo), some (.ref mo), some (.int (nI i))] [] (w1' ++ w2')) : Bx g mdL p e s m #[Value.ref b] below meth c room_1 (fun q => s.heap.size ≤ q) Q 600000 7302250 444 [some (.ref b), some (.ref xo), some (.ref mo), some (.int (nI i))] [] (w1 ++ w2) := by
  refine b_aload_n F (pc' := 445) dL_law_444 rfl rfl ?_
  refine law_arg F hX hbl hL (k0 := 1) (n := 1) (by decide) (by omega) dL_law_445 dL_law_446 dL_law_447 dL_law_448 dL_law_449 (pc' := 450) rfl ?_
  refine law_callX F (As := [.int (xs (i + 1))]) coLX1_parentOf rfl (by decide) h1 (ux_parentOf I hN (xs (i + 1)) h1) rfl (Nat.le_of_ble_eq_true rfl) dL_law_450 rfl (pc' := 453) rfl (fun w1' h1' => ?_)
  refine b_aload_n F (pc' := 454) dL_law_453 rfl rfl ?_
  refine law_arg F hX hbl hL (k0 := 1) (n := 1) (by decide) (by omega) dL_law_454 dL_law_455 dL_law_456 dL_law_457 dL_law_458 (pc' := 459) rfl ?_
  refine law_callM F (As := [.int (xs (i + 1))]) coLX2_parentOf rfl (by decide) h2 (um_parentOf I hN (xs (i + 1)) h2) rfl (Nat.le_of_ble_eq_true rfl) dL_law_459 rfl (pc' := 462) rfl (fun w2' h2' => ?_)
  exact b_icmp_eq F (tgt := 741) (pc' := 465) dL_law_462 (by decide) rfl (fun _ => k _ _ _ (I.up (Nat.le_succ N)) h1' h2') (fun h => absurd rfl h)
theorem coLX1_childOf : coV RL 76 mdX1_childOf 2 := ⟨lw_in (by decide +kernel) rfl, lw_in (by decide +kernel) rfl, lw_in (by decide +kernel) rfl, lw_in (by decide +kernel) rfl, lw_in (by decide +kernel) rfl, by decide +kernel, by decide⟩
theorem coLX2_childOf : coV RL 79 mdX2_childOf 2 := ⟨lw_in (by decide +kernel) rfl, lw_in (by decide +kernel) rfl, lw_in (by decide +kernel) rfl, lw_in (by decide +kernel) rfl, lw_in (by decide +kernel) rfl, by decide +kernel, by decide⟩
theorem law_childOf {g : EG} {p : Program} {e : Env} {s : State} {m : MethodId} {below : List Frame} {meth : Method} {c : Code} {b L : Nat} {xs : Nat → Int32} {Q : State → Prop} {w1 w2 : va_W} {xo an ac am mo N i : Nat} {LN LT : List Nat} {xt mr : Nat → Nat} {S : SS} (F : FB g mdL p s m #[Value.ref b] meth c) (hX : va_X b L xs s s.heap) (hbl : b < s.heap.size) (hL : L ≤ 1536) (I : Inv N S) (hN : N ≤ 512) (hi : i + 2 < L) (h1 : isX g xo an ac am LN LT xt S w1) (h2 : isM g mo mr S w2) (k : ∀ S' w1' w2', Inv (N + 1) S' → isX g xo an ac am LN LT xt S' w1' → isM g mo mr S' w2' → Bx g mdL p e s m #[Value.ref b] below meth c room_1 (fun q => s.heap.size ≤ q) Q 600000 7302250 741 [some (.ref b), some (.ref xo), some (.ref mo), some (.int (nI i))] [] (w1' ++ w2')) : Bx g mdL p e s m #[Value.ref b] below meth c room_1 (fun q => s.heap.size ≤ q) Q 600000 7302250 467 [some (.ref b), some (.ref xo), some (.ref mo), some (.int (nI i))] [] (w1 ++ w2) := by
  refine b_aload_n F (pc' := 468) dL_law_467 rfl rfl ?_
  refine law_arg F hX hbl hL (k0 := 1) (n := 1) (by decide) (by omega) dL_law_468 dL_law_469 dL_law_470 dL_law_471 dL_law_472 (pc' := 473) rfl ?_
  refine law_arg F hX hbl hL (k0 := 2) (n := 2) (by decide) (by omega) dL_law_473 dL_law_474 dL_law_475 dL_law_476 dL_law_477 (pc' := 478) rfl ?_
  refine law_callX F (As := [.int (xs (i + 1)), .int (xs (i + 2))]) coLX1_childOf rfl (by decide) h1 (ux_childOf I hN (xs (i + 1)) (xs (i + 2)) h1) rfl (Nat.le_of_ble_eq_true rfl) dL_law_478 rfl (pc' := 481) rfl (fun w1' h1' => ?_)
  refine b_aload_n F (pc' := 482) dL_law_481 rfl rfl ?_
  refine law_arg F hX hbl hL (k0 := 1) (n := 1) (by decide) (by omega) dL_law_482 dL_law_483 dL_law_484 dL_law_485 dL_law_486 (pc' := 487) rfl ?_
  refine law_arg F hX hbl hL (k0 := 2) (n := 2) (by decide) (by omega) dL_law_487 dL_law_488 dL_law_489 dL_law_490 dL_law_491 (pc' := 492) rfl ?_
  refine law_callM F (As := [.int (xs (i + 1)), .int (xs (i + 2))]) coLX2_childOf rfl (by decide) h2 (um_childOf I hN (xs (i + 1)) (xs (i + 2)) h2) rfl (Nat.le_of_ble_eq_true rfl) dL_law_492 rfl (pc' := 495) rfl (fun w2' h2' => ?_)
  exact b_icmp_eq F (tgt := 741) (pc' := 498) dL_law_495 (by decide) rfl (fun _ => k _ _ _ (I.up (Nat.le_succ N)) h1' h2') (fun h => absurd rfl h)
theorem coLX1_favouriteOf : coV RL 80 mdX1_favouriteOf 1 := ⟨lw_in (by decide +kernel) rfl, lw_in (by decide +kernel) rfl, lw_in (by decide +kernel) rfl, lw_in (by decide +kernel) rfl, lw_in (by decide +kernel) rfl, by decide +kernel, by decide⟩
theorem coLX2_favouriteOf : coV RL 83 mdX2_favouriteOf 1 := ⟨lw_in (by decide +kernel) rfl, lw_in (by decide +kernel) rfl, lw_in (by decide +kernel) rfl, lw_in (by decide +kernel) rfl, lw_in (by decide +kernel) rfl, by decide +kernel, by decide⟩
theorem law_favouriteOf {g : EG} {p : Program} {e : Env} {s : State} {m : MethodId} {below : List Frame} {meth : Method} {c : Code} {b L : Nat} {xs : Nat → Int32} {Q : State → Prop} {w1 w2 : va_W} {xo an ac am mo N i : Nat} {LN LT : List Nat} {xt mr : Nat → Nat} {S : SS} (F : FB g mdL p s m #[Value.ref b] meth c) (hX : va_X b L xs s s.heap) (hbl : b < s.heap.size) (hL : L ≤ 1536) (I : Inv N S) (hN : N ≤ 512) (hi : i + 2 < L) (h1 : isX g xo an ac am LN LT xt S w1) (h2 : isM g mo mr S w2) (k : ∀ S' w1' w2', Inv (N + 1) S' → isX g xo an ac am LN LT xt S' w1' → isM g mo mr S' w2' → Bx g mdL p e s m #[Value.ref b] below meth c room_1 (fun q => s.heap.size ≤ q) Q 600000 7302250 741 [some (.ref b), some (.ref xo), some (.ref mo), some (.int (nI i))] [] (w1' ++ w2')) : Bx g mdL p e s m #[Value.ref b] below meth c room_1 (fun q => s.heap.size ≤ q) Q 600000 7302250 500 [some (.ref b), some (.ref xo), some (.ref mo), some (.int (nI i))] [] (w1 ++ w2) := by
  refine b_aload_n F (pc' := 501) dL_law_500 rfl rfl ?_
  refine law_arg F hX hbl hL (k0 := 1) (n := 1) (by decide) (by omega) dL_law_501 dL_law_502 dL_law_503 dL_law_504 dL_law_505 (pc' := 506) rfl ?_
  refine law_callX F (As := [.int (xs (i + 1))]) coLX1_favouriteOf rfl (by decide) h1 (ux_favouriteOf I hN (xs (i + 1)) h1) rfl (Nat.le_of_ble_eq_true rfl) dL_law_506 rfl (pc' := 509) rfl (fun w1' h1' => ?_)
  refine b_aload_n F (pc' := 510) dL_law_509 rfl rfl ?_
  refine law_arg F hX hbl hL (k0 := 1) (n := 1) (by decide) (by omega) dL_law_510 dL_law_511 dL_law_512 dL_law_513 dL_law_514 (pc' := 515) rfl ?_
  refine law_callM F (As := [.int (xs (i + 1))]) coLX2_favouriteOf rfl (by decide) h2 (um_favouriteOf I hN (xs (i + 1)) h2) rfl (Nat.le_of_ble_eq_true rfl) dL_law_515 rfl (pc' := 518) rfl (fun w2' h2' => ?_)
  exact b_icmp_eq F (tgt := 741) (pc' := 521) dL_law_518 (by decide) rfl (fun _ => k _ _ _ (I.up (Nat.le_succ N)) h1' h2') (fun h => absurd rfl h)
theorem coLX1_timeOf : coV RL 84 mdX1_timeOf 1 := ⟨lw_in (by decide +kernel) rfl, lw_in (by decide +kernel) rfl, lw_in (by decide +kernel) rfl, lw_in (by decide +kernel) rfl, lw_in (by decide +kernel) rfl, by decide +kernel, by decide⟩
theorem coLX2_timeOf : coV RL 87 mdX2_timeOf 1 := ⟨lw_in (by decide +kernel) rfl, lw_in (by decide +kernel) rfl, lw_in (by decide +kernel) rfl, lw_in (by decide +kernel) rfl, lw_in (by decide +kernel) rfl, by decide +kernel, by decide⟩
theorem law_timeOf {g : EG} {p : Program} {e : Env} {s : State} {m : MethodId} {below : List Frame} {meth : Method} {c : Code} {b L : Nat} {xs : Nat → Int32} {Q : State → Prop} {w1 w2 : va_W} {xo an ac am mo N i : Nat} {LN LT : List Nat} {xt mr : Nat → Nat} {S : SS} (F : FB g mdL p s m #[Value.ref b] meth c) (hX : va_X b L xs s s.heap) (hbl : b < s.heap.size) (hL : L ≤ 1536) (I : Inv N S) (hN : N ≤ 512) (hi : i + 2 < L) (h1 : isX g xo an ac am LN LT xt S w1) (h2 : isM g mo mr S w2) (k : ∀ S' w1' w2', Inv (N + 1) S' → isX g xo an ac am LN LT xt S' w1' → isM g mo mr S' w2' → Bx g mdL p e s m #[Value.ref b] below meth c room_1 (fun q => s.heap.size ≤ q) Q 600000 7302250 741 [some (.ref b), some (.ref xo), some (.ref mo), some (.int (nI i))] [] (w1' ++ w2')) : Bx g mdL p e s m #[Value.ref b] below meth c room_1 (fun q => s.heap.size ≤ q) Q 600000 7302250 523 [some (.ref b), some (.ref xo), some (.ref mo), some (.int (nI i))] [] (w1 ++ w2) := by
  refine b_aload_n F (pc' := 524) dL_law_523 rfl rfl ?_
  refine law_arg F hX hbl hL (k0 := 1) (n := 1) (by decide) (by omega) dL_law_524 dL_law_525 dL_law_526 dL_law_527 dL_law_528 (pc' := 529) rfl ?_
  refine law_callX F (As := [.int (xs (i + 1))]) coLX1_timeOf rfl (by decide) h1 (ux_timeOf I hN (xs (i + 1)) h1) rfl (Nat.le_of_ble_eq_true rfl) dL_law_529 rfl (pc' := 532) rfl (fun w1' h1' => ?_)
  refine b_aload_n F (pc' := 533) dL_law_532 rfl rfl ?_
  refine law_arg F hX hbl hL (k0 := 1) (n := 1) (by decide) (by omega) dL_law_533 dL_law_534 dL_law_535 dL_law_536 dL_law_537 (pc' := 538) rfl ?_
  refine law_callM F (As := [.int (xs (i + 1))]) coLX2_timeOf rfl (by decide) h2 (um_timeOf I hN (xs (i + 1)) h2) rfl (Nat.le_of_ble_eq_true rfl) dL_law_538 rfl (pc' := 541) rfl (fun w2' h2' => ?_)
  exact b_icmp_eq F (tgt := 741) (pc' := 544) dL_law_541 (by decide) rfl (fun _ => k _ _ _ (I.up (Nat.le_succ N)) h1' h2') (fun h => absurd rfl h)
theorem coLX1_commonAncestor : coV RL 88 mdX1_commonAncestor 2 := ⟨lw_in (by decide +kernel) rfl, lw_in (by decide +kernel) rfl, lw_in (by decide +kernel) rfl, lw_in (by decide +kernel) rfl, lw_in (by decide +kernel) rfl, by decide +kernel, by decide⟩
theorem coLX2_commonAncestor : coV RL 91 mdX2_commonAncestor 2 := ⟨lw_in (by decide +kernel) rfl, lw_in (by decide +kernel) rfl, lw_in (by decide +kernel) rfl, lw_in (by decide +kernel) rfl, lw_in (by decide +kernel) rfl, by decide +kernel, by decide⟩
theorem law_commonAncestor {g : EG} {p : Program} {e : Env} {s : State} {m : MethodId} {below : List Frame} {meth : Method} {c : Code} {b L : Nat} {xs : Nat → Int32} {Q : State → Prop} {w1 w2 : va_W} {xo an ac am mo N i : Nat} {LN LT : List Nat} {xt mr : Nat → Nat} {S : SS} (F : FB g mdL p s m #[Value.ref b] meth c) (hX : va_X b L xs s s.heap) (hbl : b < s.heap.size) (hL : L ≤ 1536) (I : Inv N S) (hN : N ≤ 512) (hi : i + 2 < L) (h1 : isX g xo an ac am LN LT xt S w1) (h2 : isM g mo mr S w2) (k : ∀ S' w1' w2', Inv (N + 1) S' → isX g xo an ac am LN LT xt S' w1' → isM g mo mr S' w2' → Bx g mdL p e s m #[Value.ref b] below meth c room_1 (fun q => s.heap.size ≤ q) Q 600000 7302250 741 [some (.ref b), some (.ref xo), some (.ref mo), some (.int (nI i))] [] (w1' ++ w2')) : Bx g mdL p e s m #[Value.ref b] below meth c room_1 (fun q => s.heap.size ≤ q) Q 600000 7302250 546 [some (.ref b), some (.ref xo), some (.ref mo), some (.int (nI i))] [] (w1 ++ w2) := by
  refine b_aload_n F (pc' := 547) dL_law_546 rfl rfl ?_
  refine law_arg F hX hbl hL (k0 := 1) (n := 1) (by decide) (by omega) dL_law_547 dL_law_548 dL_law_549 dL_law_550 dL_law_551 (pc' := 552) rfl ?_
  refine law_arg F hX hbl hL (k0 := 2) (n := 2) (by decide) (by omega) dL_law_552 dL_law_553 dL_law_554 dL_law_555 dL_law_556 (pc' := 557) rfl ?_
  refine law_callX F (As := [.int (xs (i + 1)), .int (xs (i + 2))]) coLX1_commonAncestor rfl (by decide) h1 (ux_commonAncestor I hN (xs (i + 1)) (xs (i + 2)) h1) rfl (Nat.le_of_ble_eq_true rfl) dL_law_557 rfl (pc' := 560) rfl (fun w1' h1' => ?_)
  refine b_aload_n F (pc' := 561) dL_law_560 rfl rfl ?_
  refine law_arg F hX hbl hL (k0 := 1) (n := 1) (by decide) (by omega) dL_law_561 dL_law_562 dL_law_563 dL_law_564 dL_law_565 (pc' := 566) rfl ?_
  refine law_arg F hX hbl hL (k0 := 2) (n := 2) (by decide) (by omega) dL_law_566 dL_law_567 dL_law_568 dL_law_569 dL_law_570 (pc' := 571) rfl ?_
  refine law_callM F (As := [.int (xs (i + 1)), .int (xs (i + 2))]) coLX2_commonAncestor rfl (by decide) h2 (um_commonAncestor I hN (xs (i + 1)) (xs (i + 2)) h2) rfl (Nat.le_of_ble_eq_true rfl) dL_law_571 rfl (pc' := 574) rfl (fun w2' h2' => ?_)
  exact b_icmp_eq F (tgt := 741) (pc' := 577) dL_law_574 (by decide) rfl (fun _ => k _ _ _ (I.up (Nat.le_succ N)) h1' h2') (fun h => absurd rfl h)
theorem coLX1_distance : coV RL 92 mdX1_distance 2 := ⟨lw_in (by decide +kernel) rfl, lw_in (by decide +kernel) rfl, lw_in (by decide +kernel) rfl, lw_in (by decide +kernel) rfl, lw_in (by decide +kernel) rfl, by decide +kernel, by decide⟩
theorem coLX2_distance : coV RL 95 mdX2_distance 2 := ⟨lw_in (by decide +kernel) rfl, lw_in (by decide +kernel) rfl, lw_in (by decide +kernel) rfl, lw_in (by decide +kernel) rfl, lw_in (by decide +kernel) rfl, by decide +kernel, by decide⟩
theorem law_distance {g : EG} {p : Program} {e : Env} {s : State} {m : MethodId} {below : List Frame} {meth : Method} {c : Code} {b L : Nat} {xs : Nat → Int32} {Q : State → Prop} {w1 w2 : va_W} {xo an ac am mo N i : Nat} {LN LT : List Nat} {xt mr : Nat → Nat} {S : SS} (F : FB g mdL p s m #[Value.ref b] meth c) (hX : va_X b L xs s s.heap) (hbl : b < s.heap.size) (hL : L ≤ 1536) (I : Inv N S) (hN : N ≤ 512) (hi : i + 2 < L) (h1 : isX g xo an ac am LN LT xt S w1) (h2 : isM g mo mr S w2) (k : ∀ S' w1' w2', Inv (N + 1) S' → isX g xo an ac am LN LT xt S' w1' → isM g mo mr S' w2' → Bx g mdL p e s m #[Value.ref b] below meth c room_1 (fun q => s.heap.size ≤ q) Q 600000 7302250 741 [some (.ref b), some (.ref xo), some (.ref mo), some (.int (nI i))] [] (w1' ++ w2')) : Bx g mdL p e s m #[Value.ref b] below meth c room_1 (fun q => s.heap.size ≤ q) Q 600000 7302250 579 [some (.ref b), some (.ref xo), some (.ref mo), some (.int (nI i))] [] (w1 ++ w2) := by
  refine b_aload_n F (pc' := 580) dL_law_579 rfl rfl ?_
  refine law_arg F hX hbl hL (k0 := 1) (n := 1) (by decide) (by omega) dL_law_580 dL_law_581 dL_law_582 dL_law_583 dL_law_584 (pc' := 585) rfl ?_
  refine law_arg F hX hbl hL (k0 := 2) (n := 2) (by decide) (by omega) dL_law_585 dL_law_586 dL_law_587 dL_law_588 dL_law_589 (pc' := 590) rfl ?_
  refine law_callX F (As := [.int (xs (i + 1)), .int (xs (i + 2))]) coLX1_distance rfl (by decide) h1 (ux_distance I hN (xs (i + 1)) (xs (i + 2)) h1) rfl (Nat.le_of_ble_eq_true rfl) dL_law_590 rfl (pc' := 593) rfl (fun w1' h1' => ?_)
  refine b_aload_n F (pc' := 594) dL_law_593 rfl rfl ?_
  refine law_arg F hX hbl hL (k0 := 1) (n := 1) (by decide) (by omega) dL_law_594 dL_law_595 dL_law_596 dL_law_597 dL_law_598 (pc' := 599) rfl ?_
  refine law_arg F hX hbl hL (k0 := 2) (n := 2) (by decide) (by omega) dL_law_599 dL_law_600 dL_law_601 dL_law_602 dL_law_603 (pc' := 604) rfl ?_
  refine law_callM F (As := [.int (xs (i + 1)), .int (xs (i + 2))]) coLX2_distance rfl (by decide) h2 (um_distance I hN (xs (i + 1)) (xs (i + 2)) h2) rfl (Nat.le_of_ble_eq_true rfl) dL_law_604 rfl (pc' := 607) rfl (fun w2' h2' => ?_)
  exact b_icmp_eq F (tgt := 741) (pc' := 610) dL_law_607 (by decide) rfl (fun _ => k _ _ _ (I.up (Nat.le_succ N)) h1' h2') (fun h => absurd rfl h)
theorem coLX1_setMark : coV RL 96 mdX1_setMark 2 := ⟨lw_in (by decide +kernel) rfl, lw_in (by decide +kernel) rfl, lw_in (by decide +kernel) rfl, lw_in (by decide +kernel) rfl, lw_in (by decide +kernel) rfl, by decide +kernel, by decide⟩
theorem coLX2_setMark : coV RL 99 mdX2_setMark 2 := ⟨lw_in (by decide +kernel) rfl, lw_in (by decide +kernel) rfl, lw_in (by decide +kernel) rfl, lw_in (by decide +kernel) rfl, lw_in (by decide +kernel) rfl, by decide +kernel, by decide⟩
theorem law_setMark {g : EG} {p : Program} {e : Env} {s : State} {m : MethodId} {below : List Frame} {meth : Method} {c : Code} {b L : Nat} {xs : Nat → Int32} {Q : State → Prop} {w1 w2 : va_W} {xo an ac am mo N i : Nat} {LN LT : List Nat} {xt mr : Nat → Nat} {S : SS} (F : FB g mdL p s m #[Value.ref b] meth c) (hX : va_X b L xs s s.heap) (hbl : b < s.heap.size) (hL : L ≤ 1536) (I : Inv N S) (hN : N ≤ 512) (hi : i + 2 < L) (h1 : isX g xo an ac am LN LT xt S w1) (h2 : isM g mo mr S w2) (k : ∀ S' w1' w2', Inv (N + 1) S' → isX g xo an ac am LN LT xt S' w1' → isM g mo mr S' w2' → Bx g mdL p e s m #[Value.ref b] below meth c room_1 (fun q => s.heap.size ≤ q) Q 600000 7302250 741 [some (.ref b), some (.ref xo), some (.ref mo), some (.int (nI i))] [] (w1' ++ w2')) : Bx g mdL p e s m #[Value.ref b] below meth c room_1 (fun q => s.heap.size ≤ q) Q 600000 7302250 612 [some (.ref b), some (.ref xo), some (.ref mo), some (.int (nI i))] [] (w1 ++ w2) := by
  refine b_aload_n F (pc' := 613) dL_law_612 rfl rfl ?_
  refine law_arg F hX hbl hL (k0 := 1) (n := 1) (by decide) (by omega) dL_law_613 dL_law_614 dL_law_615 dL_law_616 dL_law_617 (pc' := 618) rfl ?_
  refine law_arg F hX hbl hL (k0 := 2) (n := 2) (by decide) (by omega) dL_law_618 dL_law_619 dL_law_620 dL_law_621 dL_law_622 (pc' := 623) rfl ?_
  refine law_callX F (As := [.int (xs (i + 1)), .int (xs (i + 2))]) coLX1_setMark rfl (by decide) h1 (ux_setMark I hN (xs (i + 1)) (xs (i + 2)) h1) rfl (Nat.le_of_ble_eq_true rfl) dL_law_623 rfl (pc' := 626) rfl (fun w1' h1' => ?_)
  refine b_aload_n F (pc' := 627) dL_law_626 rfl rfl ?_
  refine law_arg F hX hbl hL (k0 := 1) (n := 1) (by decide) (by omega) dL_law_627 dL_law_628 dL_law_629 dL_law_630 dL_law_631 (pc' := 632) rfl ?_
  refine law_arg F hX hbl hL (k0 := 2) (n := 2) (by decide) (by omega) dL_law_632 dL_law_633 dL_law_634 dL_law_635 dL_law_636 (pc' := 637) rfl ?_
  refine law_callM F (As := [.int (xs (i + 1)), .int (xs (i + 2))]) coLX2_setMark rfl (by decide) h2 (um_setMark I hN (xs (i + 1)) (xs (i + 2)) h2) rfl (Nat.le_of_ble_eq_true rfl) dL_law_637 rfl (pc' := 640) rfl (fun w2' h2' => ?_)
  exact b_icmp_eq F (tgt := 741) (pc' := 643) dL_law_640 (by decide) rfl (fun _ => k _ _ _ (I.setM _ _) h1' h2') (fun h => absurd rfl h)
theorem coLX1_clearMark : coV RL 100 mdX1_clearMark 1 := ⟨lw_in (by decide +kernel) rfl, lw_in (by decide +kernel) rfl, lw_in (by decide +kernel) rfl, lw_in (by decide +kernel) rfl, lw_in (by decide +kernel) rfl, by decide +kernel, by decide⟩
theorem coLX2_clearMark : coV RL 103 mdX2_clearMark 1 := ⟨lw_in (by decide +kernel) rfl, lw_in (by decide +kernel) rfl, lw_in (by decide +kernel) rfl, lw_in (by decide +kernel) rfl, lw_in (by decide +kernel) rfl, by decide +kernel, by decide⟩
theorem law_clearMark {g : EG} {p : Program} {e : Env} {s : State} {m : MethodId} {below : List Frame} {meth : Method} {c : Code} {b L : Nat} {xs : Nat → Int32} {Q : State → Prop} {w1 w2 : va_W} {xo an ac am mo N i : Nat} {LN LT : List Nat} {xt mr : Nat → Nat} {S : SS} (F : FB g mdL p s m #[Value.ref b] meth c) (hX : va_X b L xs s s.heap) (hbl : b < s.heap.size) (hL : L ≤ 1536) (I : Inv N S) (hN : N ≤ 512) (hi : i + 2 < L) (h1 : isX g xo an ac am LN LT xt S w1) (h2 : isM g mo mr S w2) (k : ∀ S' w1' w2', Inv (N + 1) S' → isX g xo an ac am LN LT xt S' w1' → isM g mo mr S' w2' → Bx g mdL p e s m #[Value.ref b] below meth c room_1 (fun q => s.heap.size ≤ q) Q 600000 7302250 741 [some (.ref b), some (.ref xo), some (.ref mo), some (.int (nI i))] [] (w1' ++ w2')) : Bx g mdL p e s m #[Value.ref b] below meth c room_1 (fun q => s.heap.size ≤ q) Q 600000 7302250 645 [some (.ref b), some (.ref xo), some (.ref mo), some (.int (nI i))] [] (w1 ++ w2) := by
  refine b_aload_n F (pc' := 646) dL_law_645 rfl rfl ?_
  refine law_arg F hX hbl hL (k0 := 1) (n := 1) (by decide) (by omega) dL_law_646 dL_law_647 dL_law_648 dL_law_649 dL_law_650 (pc' := 651) rfl ?_
  refine law_callX F (As := [.int (xs (i + 1))]) coLX1_clearMark rfl (by decide) h1 (ux_clearMark I hN (xs (i + 1)) h1) rfl (Nat.le_of_ble_eq_true rfl) dL_law_651 rfl (pc' := 654) rfl (fun w1' h1' => ?_)
  refine b_aload_n F (pc' := 655) dL_law_654 rfl rfl ?_
  refine law_arg F hX hbl hL (k0 := 1) (n := 1) (by decide) (by omega) dL_law_655 dL_law_656 dL_law_657 dL_law_658 dL_law_659 (pc' := 660) rfl ?_
  refine law_callM F (As := [.int (xs (i + 1))]) coLX2_clearMark rfl (by decide) h2 (um_clearMark I hN (xs (i + 1)) h2) rfl (Nat.le_of_ble_eq_true rfl) dL_law_660 rfl (pc' := 663) rfl (fun w2' h2' => ?_)
  exact b_icmp_eq F (tgt := 741) (pc' := 666) dL_law_663 (by decide) rfl (fun _ => k _ _ _ (I.clrM _) h1' h2') (fun h => absurd rfl h)
theorem coLX1_goToMark : coV RL 104 mdX1_goToMark 1 := ⟨lw_in (by decide +kernel) rfl, lw_in (by decide +kernel) rfl, lw_in (by decide +kernel) rfl, lw_in (by decide +kernel) rfl, lw_in (by decide +kernel) rfl, by decide +kernel, by decide⟩
theorem coLX2_goToMark : coV RL 107 mdX2_goToMark 1 := ⟨lw_in (by decide +kernel) rfl, lw_in (by decide +kernel) rfl, lw_in (by decide +kernel) rfl, lw_in (by decide +kernel) rfl, lw_in (by decide +kernel) rfl, by decide +kernel, by decide⟩
theorem law_goToMark {g : EG} {p : Program} {e : Env} {s : State} {m : MethodId} {below : List Frame} {meth : Method} {c : Code} {b L : Nat} {xs : Nat → Int32} {Q : State → Prop} {w1 w2 : va_W} {xo an ac am mo N i : Nat} {LN LT : List Nat} {xt mr : Nat → Nat} {S : SS} (F : FB g mdL p s m #[Value.ref b] meth c) (hX : va_X b L xs s s.heap) (hbl : b < s.heap.size) (hL : L ≤ 1536) (I : Inv N S) (hN : N ≤ 512) (hi : i + 2 < L) (h1 : isX g xo an ac am LN LT xt S w1) (h2 : isM g mo mr S w2) (k : ∀ S' w1' w2', Inv (N + 1) S' → isX g xo an ac am LN LT xt S' w1' → isM g mo mr S' w2' → Bx g mdL p e s m #[Value.ref b] below meth c room_1 (fun q => s.heap.size ≤ q) Q 600000 7302250 741 [some (.ref b), some (.ref xo), some (.ref mo), some (.int (nI i))] [] (w1' ++ w2')) : Bx g mdL p e s m #[Value.ref b] below meth c room_1 (fun q => s.heap.size ≤ q) Q 600000 7302250 668 [some (.ref b), some (.ref xo), some (.ref mo), some (.int (nI i))] [] (w1 ++ w2) := by
  refine b_aload_n F (pc' := 669) dL_law_668 rfl rfl ?_
  refine law_arg F hX hbl hL (k0 := 1) (n := 1) (by decide) (by omega) dL_law_669 dL_law_670 dL_law_671 dL_law_672 dL_law_673 (pc' := 674) rfl ?_
  refine law_callX F (As := [.int (xs (i + 1))]) coLX1_goToMark rfl (by decide) h1 (ux_goToMark I hN (xs (i + 1)) h1) rfl (Nat.le_of_ble_eq_true rfl) dL_law_674 rfl (pc' := 677) rfl (fun w1' h1' => ?_)
  refine b_aload_n F (pc' := 678) dL_law_677 rfl rfl ?_
  refine law_arg F hX hbl hL (k0 := 1) (n := 1) (by decide) (by omega) dL_law_678 dL_law_679 dL_law_680 dL_law_681 dL_law_682 (pc' := 683) rfl ?_
  refine law_callM F (As := [.int (xs (i + 1))]) coLX2_goToMark rfl (by decide) h2 (um_goToMark I hN (xs (i + 1)) h2) rfl (Nat.le_of_ble_eq_true rfl) dL_law_683 rfl (pc' := 686) rfl (fun w2' h2' => ?_)
  exact b_icmp_eq F (tgt := 741) (pc' := 689) dL_law_686 (by decide) rfl (fun _ => k _ _ _ (I.goM _) h1' h2') (fun h => absurd rfl h)
theorem coLX1_oldestLeaf : coV RL 108 mdX1_oldestLeaf 0 := ⟨lw_in (by decide +kernel) rfl, lw_in (by decide +kernel) rfl, lw_in (by decide +kernel) rfl, lw_in (by decide +kernel) rfl, lw_in (by decide +kernel) rfl, by decide +kernel, by decide⟩
theorem coLX2_oldestLeaf : coV RL 111 mdX2_oldestLeaf 0 := ⟨lw_in (by decide +kernel) rfl, lw_in (by decide +kernel) rfl, lw_in (by decide +kernel) rfl, lw_in (by decide +kernel) rfl, lw_in (by decide +kernel) rfl, by decide +kernel, by decide⟩
theorem law_oldestLeaf {g : EG} {p : Program} {e : Env} {s : State} {m : MethodId} {below : List Frame} {meth : Method} {c : Code} {b L : Nat} {xs : Nat → Int32} {Q : State → Prop} {w1 w2 : va_W} {xo an ac am mo N i : Nat} {LN LT : List Nat} {xt mr : Nat → Nat} {S : SS} (F : FB g mdL p s m #[Value.ref b] meth c) (hX : va_X b L xs s s.heap) (hbl : b < s.heap.size) (hL : L ≤ 1536) (I : Inv N S) (hN : N ≤ 512) (hi : i + 2 < L) (h1 : isX g xo an ac am LN LT xt S w1) (h2 : isM g mo mr S w2) (k : ∀ S' w1' w2', Inv (N + 1) S' → isX g xo an ac am LN LT xt S' w1' → isM g mo mr S' w2' → Bx g mdL p e s m #[Value.ref b] below meth c room_1 (fun q => s.heap.size ≤ q) Q 600000 7302250 741 [some (.ref b), some (.ref xo), some (.ref mo), some (.int (nI i))] [] (w1' ++ w2')) : Bx g mdL p e s m #[Value.ref b] below meth c room_1 (fun q => s.heap.size ≤ q) Q 600000 7302250 691 [some (.ref b), some (.ref xo), some (.ref mo), some (.int (nI i))] [] (w1 ++ w2) := by
  refine b_aload_n F (pc' := 692) dL_law_691 rfl rfl ?_
  refine law_callX F (As := []) coLX1_oldestLeaf rfl (by decide) h1 (ux_oldestLeaf I hN  h1) rfl (Nat.le_of_ble_eq_true rfl) dL_law_692 rfl (pc' := 695) rfl (fun w1' h1' => ?_)
  refine b_aload_n F (pc' := 696) dL_law_695 rfl rfl ?_
  refine law_callM F (As := []) coLX2_oldestLeaf rfl (by decide) h2 (um_oldestLeaf I hN  h2) rfl (Nat.le_of_ble_eq_true rfl) dL_law_696 rfl (pc' := 699) rfl (fun w2' h2' => ?_)
  exact b_icmp_eq F (tgt := 741) (pc' := 702) dL_law_699 (by decide) rfl (fun _ => k _ _ _ (I.up (Nat.le_succ N)) h1' h2') (fun h => absurd rfl h)
theorem coLX1_forget : coV RL 112 mdX1_forget 1 := ⟨lw_in (by decide +kernel) rfl, lw_in (by decide +kernel) rfl, lw_in (by decide +kernel) rfl, lw_in (by decide +kernel) rfl, lw_in (by decide +kernel) rfl, by decide +kernel, by decide⟩
theorem coLX2_forget : coV RL 115 mdX2_forget 1 := ⟨lw_in (by decide +kernel) rfl, lw_in (by decide +kernel) rfl, lw_in (by decide +kernel) rfl, lw_in (by decide +kernel) rfl, lw_in (by decide +kernel) rfl, by decide +kernel, by decide⟩
theorem law_forget {g : EG} {p : Program} {e : Env} {s : State} {m : MethodId} {below : List Frame} {meth : Method} {c : Code} {b L : Nat} {xs : Nat → Int32} {Q : State → Prop} {w1 w2 : va_W} {xo an ac am mo N i : Nat} {LN LT : List Nat} {xt mr : Nat → Nat} {S : SS} (F : FB g mdL p s m #[Value.ref b] meth c) (hX : va_X b L xs s s.heap) (hbl : b < s.heap.size) (hL : L ≤ 1536) (I : Inv N S) (hN : N ≤ 512) (hi : i + 2 < L) (h1 : isX g xo an ac am LN LT xt S w1) (h2 : isM g mo mr S w2) (k : ∀ S' w1' w2', Inv (N + 1) S' → isX g xo an ac am LN LT xt S' w1' → isM g mo mr S' w2' → Bx g mdL p e s m #[Value.ref b] below meth c room_1 (fun q => s.heap.size ≤ q) Q 600000 7302250 741 [some (.ref b), some (.ref xo), some (.ref mo), some (.int (nI i))] [] (w1' ++ w2')) : Bx g mdL p e s m #[Value.ref b] below meth c room_1 (fun q => s.heap.size ≤ q) Q 600000 7302250 704 [some (.ref b), some (.ref xo), some (.ref mo), some (.int (nI i))] [] (w1 ++ w2) := by
  refine b_aload_n F (pc' := 705) dL_law_704 rfl rfl ?_
  refine law_arg F hX hbl hL (k0 := 1) (n := 1) (by decide) (by omega) dL_law_705 dL_law_706 dL_law_707 dL_law_708 dL_law_709 (pc' := 710) rfl ?_
  refine law_callX F (As := [.int (xs (i + 1))]) coLX1_forget rfl (by decide) h1 (ux_forget I hN (xs (i + 1)) h1) rfl (Nat.le_of_ble_eq_true rfl) dL_law_710 rfl (pc' := 713) rfl (fun w1' h1' => ?_)
  refine b_aload_n F (pc' := 714) dL_law_713 rfl rfl ?_
  refine law_arg F hX hbl hL (k0 := 1) (n := 1) (by decide) (by omega) dL_law_714 dL_law_715 dL_law_716 dL_law_717 dL_law_718 (pc' := 719) rfl ?_
  refine law_callM F (As := [.int (xs (i + 1))]) coLX2_forget rfl (by decide) h2 (um_forget I hN (xs (i + 1)) h2) rfl (Nat.le_of_ble_eq_true rfl) dL_law_719 rfl (pc' := 722) rfl (fun w2' h2' => ?_)
  exact b_icmp_eq F (tgt := 741) (pc' := 725) dL_law_722 (by decide) rfl (fun _ => k _ _ _ (I.fgt _) h1' h2') (fun h => absurd rfl h)
theorem coLX1_digest : coV RL 116 mdX1_digest 0 := ⟨lw_in (by decide +kernel) rfl, lw_in (by decide +kernel) rfl, lw_in (by decide +kernel) rfl, lw_in (by decide +kernel) rfl, lw_in (by decide +kernel) rfl, by decide +kernel, by decide⟩
theorem coLX2_digest : coV RL 120 mdX2_digest 0 := ⟨lw_in (by decide +kernel) rfl, lw_in (by decide +kernel) rfl, lw_in (by decide +kernel) rfl, lw_in (by decide +kernel) rfl, lw_in (by decide +kernel) rfl, by decide +kernel, by decide⟩
theorem law_digest {g : EG} {p : Program} {e : Env} {s : State} {m : MethodId} {below : List Frame} {meth : Method} {c : Code} {b L : Nat} {xs : Nat → Int32} {Q : State → Prop} {w1 w2 : va_W} {xo an ac am mo N i : Nat} {LN LT : List Nat} {xt mr : Nat → Nat} {S : SS} (F : FB g mdL p s m #[Value.ref b] meth c) (hX : va_X b L xs s s.heap) (hbl : b < s.heap.size) (hL : L ≤ 1536) (I : Inv N S) (hN : N ≤ 512) (hi : i + 2 < L) (h1 : isX g xo an ac am LN LT xt S w1) (h2 : isM g mo mr S w2) (k : ∀ S' w1' w2', Inv (N + 1) S' → isX g xo an ac am LN LT xt S' w1' → isM g mo mr S' w2' → Bx g mdL p e s m #[Value.ref b] below meth c room_1 (fun q => s.heap.size ≤ q) Q 600000 7302250 741 [some (.ref b), some (.ref xo), some (.ref mo), some (.int (nI i))] [] (w1' ++ w2')) : Bx g mdL p e s m #[Value.ref b] below meth c room_1 (fun q => s.heap.size ≤ q) Q 600000 7302250 727 [some (.ref b), some (.ref xo), some (.ref mo), some (.int (nI i))] [] (w1 ++ w2) := by
  refine b_aload_n F (pc' := 728) dL_law_727 rfl rfl ?_
  refine law_callX F (As := []) coLX1_digest rfl (by decide) h1 (ux_digest I hN  h1) rfl (Nat.le_of_ble_eq_true rfl) dL_law_728 rfl (pc' := 731) rfl (fun w1' h1' => ?_)
  refine b_aload_n F (pc' := 732) dL_law_731 rfl rfl ?_
  refine law_callM F (As := []) coLX2_digest rfl (by decide) h2 (um_digest I hN  h2) rfl (Nat.le_of_ble_eq_true rfl) dL_law_732 rfl (pc' := 735) rfl (fun w2' h2' => ?_)
  refine b_lcmp F (pc' := 736) dL_law_735 rfl ?_
  rw [lg_cmp_self]
  exact b_if_eq0 F (tgt := 741) dL_law_736 (by decide) (k _ _ _ (I.up (Nat.le_succ N)) h1' h2')
theorem law_le {L i : Nat} (hL : L ≤ 1536) (hi : i ≤ 1536) (h : ¬ nI L - nI 3 < nI i) : i + 3 ≤ L := by
  rcases Nat.lt_or_ge L (i + 3) with q | q
  · refine absurd ?_ h
    rcases Nat.lt_or_ge L 3 with q3 | q3
    · rw [Int32.lt_iff_toInt_lt, nI_toInt (by omega)]
      have : (nI L - nI 3).toInt < 0 := by
        match L, q3 with
        | 0, _ => decide
        | 1, _ => decide
        | 2, _ => decide
      omega
    · rw [pk_sub q3]
      exact nI_lt (by omega) (by omega)
  · exact q
theorem b_tabIn {g : EG} {p : Program} {e : Env} {s : State} {m : MethodId} {below : List Frame} {meth : Method} {c : Code} {b : Nat} {Q : State → Prop} {lv : List (Option Value)} {st : List Value} {ws : va_W} (F : FB g mdL p s m #[Value.ref b] meth c) {x : Int32} {off : Int} {tgt : Nat} (h1 : ¬ x.toInt < 0) (h2 : ¬ 25 < x.toInt) (ho : (#[120, 143, 156, 179, 212, 225, 238, 261, 284, 307, 320, 333, 356, 389, 412, 435, 468, 491, 514, 547, 580, 613, 636, 659, 672, 695] : Array Int)[(x.toInt - 0).toNat]? = some off) (ht : (32 : Int) + off = (tgt : Int)) (k : Bx g mdL p e s m #[Value.ref b] below meth c room_1 (fun q => s.heap.size ≤ q) Q 600000 7302250 tgt lv st ws) : Bx g mdL p e s m #[Value.ref b] below meth c room_1 (fun q => s.heap.size ≤ q) Q 600000 7302250 32 lv (.int x :: st) ws :=
  fun H locs ls hP hD hS hl => lv_tableIn F.1 F.2.1 dL_law_32 h1 h2 ho ht (k H locs ls hP hD hS hl)
theorem b_tabOut {g : EG} {p : Program} {e : Env} {s : State} {m : MethodId} {below : List Frame} {meth : Method} {c : Code} {b : Nat} {Q : State → Prop} {lv : List (Option Value)} {st : List Value} {ws : va_W} (F : FB g mdL p s m #[Value.ref b] meth c) {x : Int32} (h : x.toInt < 0 ∨ 25 < x.toInt) (k : Bx g mdL p e s m #[Value.ref b] below meth c room_1 (fun q => s.heap.size ≤ q) Q 600000 7302250 741 lv st ws) : Bx g mdL p e s m #[Value.ref b] below meth c room_1 (fun q => s.heap.size ≤ q) Q 600000 7302250 32 lv (.int x :: st) ws :=
  fun H locs ls hP hD hS hl => lv_tableOut F.1 F.2.1 dL_law_32 h (tgt := 741) (by decide) (k H locs ls hP hD hS hl)
theorem b_iand {g : EG} {p : Program} {e : Env} {s : State} {m : MethodId} {below : List Frame} {meth : Method} {c : Code} {b : Nat} {Q : State → Prop} {lv : List (Option Value)} {st : List Value} {ws : va_W} (F : FB g mdL p s m #[Value.ref b] meth c) {pc pc' : Nat} {x y : Int32} (hd : decode code pc = .ok (.iand, 1)) (hp : pc + 1 = pc') (k : Bx g mdL p e s m #[Value.ref b] below meth c room_1 (fun q => s.heap.size ≤ q) Q 600000 7302250 pc' lv (.int (x &&& y) :: st) ws) : Bx g mdL p e s m #[Value.ref b] below meth c room_1 (fun q => s.heap.size ≤ q) Q 600000 7302250 pc lv (.int y :: .int x :: st) ws := by
  subst hp; exact fun H locs ls hP hD hS hl => lv_iand F.1 F.2.1 hd (k H locs ls hP hD hS hl)
theorem law_body {g : EG} {p : Program} {e : Env} {s : State} {m : MethodId} {below : List Frame} {meth : Method} {c : Code} {b L : Nat} {xs : Nat → Int32} {Q : State → Prop} {w1 w2 : va_W} {xo an ac am mo N i : Nat} {LN LT : List Nat} {xt mr : Nat → Nat} {S : SS} (F : FB g mdL p s m #[Value.ref b] meth c) (hX : va_X b L xs s s.heap) (hbl : b < s.heap.size) (hL : L ≤ 1536) (I : Inv N S) (hN : N ≤ 512) (hi : i + 2 < L) (h1 : isX g xo an ac am LN LT xt S w1) (h2 : isM g mo mr S w2) (k : ∀ S' w1' w2', Inv (N + 1) S' → isX g xo an ac am LN LT xt S' w1' → isM g mo mr S' w2' → Bx g mdL p e s m #[Value.ref b] below meth c room_1 (fun q => s.heap.size ≤ q) Q 600000 7302250 741 [some (.ref b), some (.ref xo), some (.ref mo), some (.int (nI i))] [] (w1' ++ w2')) : Bx g mdL p e s m #[Value.ref b] below meth c room_1 (fun q => s.heap.size ≤ q) Q 600000 7302250 26 [some (.ref b), some (.ref xo), some (.ref mo), some (.int (nI i))] [] (w1 ++ w2) := by
  refine b_aload_n F (pc' := 27) dL_law_26 rfl rfl ?_
  refine b_iload_n F (pc' := 28) dL_law_27 rfl rfl ?_
  refine b_sld F hX hbl hL (show i < L by omega) dL_law_28 (pc' := 29) rfl ?_
  refine b_bipush F (pc' := 31) (v := 31) dL_law_29 rfl (by decide) ?_
  refine b_iand F (pc' := 32) dL_law_31 rfl ?_
  obtain ⟨j, hj, e⟩ := pk_andE (xs i) (m := 31) 5 (by decide)
  rw [e]
  match j, hj with
  | 0, _ => exact b_tabIn F (tgt := 152) (by decide) (by decide) rfl (by decide) (law_append F hX hbl hL I hN hi h1 h2 k)
  | 1, _ => exact b_tabIn F (tgt := 175) (by decide) (by decide) rfl (by decide) (law_clearClip F hX hbl hL I hN hi h1 h2 k)
  | 2, _ => exact b_tabIn F (tgt := 188) (by decide) (by decide) rfl (by decide) (law_insert F hX hbl hL I hN hi h1 h2 k)
  | 3, _ => exact b_tabIn F (tgt := 211) (by decide) (by decide) rfl (by decide) (law_delete F hX hbl hL I hN hi h1 h2 k)
  | 4, _ => exact b_tabIn F (tgt := 244) (by decide) (by decide) rfl (by decide) (law_undo F hX hbl hL I hN hi h1 h2 k)
  | 5, _ => exact b_tabIn F (tgt := 257) (by decide) (by decide) rfl (by decide) (law_redo F hX hbl hL I hN hi h1 h2 k)
  | 6, _ => exact b_tabIn F (tgt := 270) (by decide) (by decide) rfl (by decide) (law_jump F hX hbl hL I hN hi h1 h2 k)
  | 7, _ => exact b_tabIn F (tgt := 293) (by decide) (by decide) rfl (by decide) (law_undoEdit F hX hbl hL I hN hi h1 h2 k)
  | 8, _ => exact b_tabIn F (tgt := 316) (by decide) (by decide) rfl (by decide) (law_conflictWith F hX hbl hL I hN hi h1 h2 k)
  | 9, _ => exact b_tabIn F (tgt := 339) (by decide) (by decide) rfl (by decide) (law_current F hX hbl hL I hN hi h1 h2 k)
  | 10, _ => exact b_tabIn F (tgt := 352) (by decide) (by decide) rfl (by decide) (law_nodeCount F hX hbl hL I hN hi h1 h2 k)
  | 11, _ => exact b_tabIn F (tgt := 365) (by decide) (by decide) rfl (by decide) (law_lengthOf F hX hbl hL I hN hi h1 h2 k)
  | 12, _ => exact b_tabIn F (tgt := 388) (by decide) (by decide) rfl (by decide) (law_characterOf F hX hbl hL I hN hi h1 h2 k)
  | 13, _ => exact b_tabIn F (tgt := 421) (by decide) (by decide) rfl (by decide) (law_editOf F hX hbl hL I hN hi h1 h2 k)
  | 14, _ => exact b_tabIn F (tgt := 444) (by decide) (by decide) rfl (by decide) (law_parentOf F hX hbl hL I hN hi h1 h2 k)
  | 15, _ => exact b_tabIn F (tgt := 467) (by decide) (by decide) rfl (by decide) (law_childOf F hX hbl hL I hN hi h1 h2 k)
  | 16, _ => exact b_tabIn F (tgt := 500) (by decide) (by decide) rfl (by decide) (law_favouriteOf F hX hbl hL I hN hi h1 h2 k)
  | 17, _ => exact b_tabIn F (tgt := 523) (by decide) (by decide) rfl (by decide) (law_timeOf F hX hbl hL I hN hi h1 h2 k)
  | 18, _ => exact b_tabIn F (tgt := 546) (by decide) (by decide) rfl (by decide) (law_commonAncestor F hX hbl hL I hN hi h1 h2 k)
  | 19, _ => exact b_tabIn F (tgt := 579) (by decide) (by decide) rfl (by decide) (law_distance F hX hbl hL I hN hi h1 h2 k)
  | 20, _ => exact b_tabIn F (tgt := 612) (by decide) (by decide) rfl (by decide) (law_setMark F hX hbl hL I hN hi h1 h2 k)
  | 21, _ => exact b_tabIn F (tgt := 645) (by decide) (by decide) rfl (by decide) (law_clearMark F hX hbl hL I hN hi h1 h2 k)
  | 22, _ => exact b_tabIn F (tgt := 668) (by decide) (by decide) rfl (by decide) (law_goToMark F hX hbl hL I hN hi h1 h2 k)
  | 23, _ => exact b_tabIn F (tgt := 691) (by decide) (by decide) rfl (by decide) (law_oldestLeaf F hX hbl hL I hN hi h1 h2 k)
  | 24, _ => exact b_tabIn F (tgt := 704) (by decide) (by decide) rfl (by decide) (law_forget F hX hbl hL I hN hi h1 h2 k)
  | 25, _ => exact b_tabIn F (tgt := 727) (by decide) (by decide) rfl (by decide) (law_digest F hX hbl hL I hN hi h1 h2 k)
  | j + 26, hj => exact b_tabOut F (Or.inr (by rw [nI_toInt (by omega)]; omega)) (k _ _ _ (I.up (Nat.le_succ N)) h1 h2)
theorem law_loop {g : EG} {p : Program} {e : Env} {s : State} {m : MethodId} {below : List Frame} {meth : Method} {c : Code} {b L : Nat} {xs : Nat → Int32} {xo an ac am mo : Nat} {LN LT : List Nat} {xt mr : Nat → Nat} (F : FB g mdL p s m #[Value.ref b] meth c) (hX : va_X b L xs s s.heap) (hbl : b < s.heap.size) (hL : L ≤ 1536) (hr : meth.sig.returnType = ret) (hlocks : meth.locks = false) :
    ∀ (f N : Nat) (S : SS) (w1 w2 : va_W), 3 * N ≤ L → L + 1 ≤ 3 * N + f → Inv N S → isX g xo an ac am LN LT xt S w1 → isM g mo mr S w2 → Bx g mdL p e s m #[Value.ref b] below meth c room_1 (fun q => s.heap.size ≤ q) (lw_Z below #[Value.ref b] s) 600000 7302250 18 [some (.ref b), some (.ref xo), some (.ref mo), some (.int (nI (3 * N)))] [] (w1 ++ w2) := by
  intro f
  induction f with
  | zero =>
    intro N S w1 w2 h1 h2
    exact absurd h2 (by omega)
  | succ f ih =>
    intro N S w1 w2 h3 h4 I h1 h2
    refine b_iload_n F (pc' := 19) dL_law_18 rfl rfl ?_
    refine b_aload_n F (pc' := 20) dL_law_19 rfl rfl ?_
    refine b_slen F hX hbl dL_law_20 (pc' := 21) rfl ?_
    refine b_iconst F (pc' := 22) (v := nI 3) dL_law_21 rfl (by decide) ?_
    refine b_isub F (pc' := 23) dL_law_22 rfl ?_
    refine b_icmp_gt F (tgt := 747) (pc' := 26) dL_law_23 (by decide) rfl (fun _ => ?_) (fun h => ?_)
    · exact fun H locs ls hP hD hS hl => lv_iconst (v := 1) F.1 F.2.1 dL_law_747 (by decide) (va_forget (fun q hq => hS.2.2 q hq) (lw_ret F.1 F.2.1 hr hlocks dL_law_748))
    · have h5 := law_le hL (by omega) h
      refine law_body F hX hbl hL I (by omega) (by omega) h1 h2 (fun S' w1' w2' I' h1' h2' => ?_)
      refine b_iinc F (pc' := 744) (v := nI (3 * (N + 1))) (lv' := [_, _, _, _]) dL_law_741 rfl rfl (by rw [show Int32.ofInt 3 = nI 3 from by decide, nI_add]; rfl) (by decide) (by intro w hw; right; have hw := Option.some.inj (Option.some.inj hw); subst hw; rfl) rfl ?_
      refine b_goto F (pc' := 18) dL_law_744 (by decide) ?_
      exact ih (N + 1) S' w1' w2' (by omega) (by omega) I' h1' h2'
