/-! ===== the reference's methods: insert, delete ===== -/
section M10
variable {g : EG} {mo : Nat} {mr : Nat → Nat} {mnd mgv mcu mck mcl msh : Int32} {mhh : Int64} {mnu mpa mfa mti mpo mle mde msr mtl mtx mcp mmk mns : Nat → Int32}
variable {S : SS} {N : Nat} {Ph : Option Value → va_W → Prop}
theorem RM_addN (T : Tree S) (hR : RM S mnd mgv mcu mck mcl msh mhh mnu mpa mfa mti mpo mle mde msr mtl mtx mcp mmk mns) (ht : ∀ a ∈ sL S, stl S a ≤ 40) (hle : ∀ a ∈ sL S, sle S a ≤ 6) {p n t : Nat} {d : Bool} {s msr' mtx' : Nat → Int32} (h0 : nI t = mti (sL S).length) (hs1 : ∀ j, j < 6 * (sL S).length → msr' j = msr j) (hs2 : ∀ i, i < n → msr' (6 * (sL S).length + i) = s i) (ht1 : ∀ j, j < 40 * (sL S).length → mtx' j = mtx j) (ht2 : ∀ i, i < nTl (stl S (scu S)) n d → mtx' (40 * (sL S).length + i) = nTx (stx S (scu S)) p n d s i) (hc : scu S ∈ sL S) :
    RM (addN S p n d s t) (nI ((sL S).length + 1)) (nI (sgv S + 1)) mcu mck mcl msh mhh (upd mnu (sL S).length (nI (sgv S))) (upd mpa (sL S).length (nI (scu S))) (upd mfa (sL S).length (-7)) mti (upd mpo (sL S).length (nI p)) (upd mle (sL S).length (nI n)) (upd mde (sL S).length (bI d)) (msr') (upd mtl (sL S).length (nI (nTl (stl S (scu S)) n d))) (mtx') mcp mmk mns := by
  refine ⟨?_, rfl, ?_, hR.2.2.2.1, hR.2.2.2.2.1, fun a ha => ?_, hR.2.2.2.2.2.2.1, hR.2.2.2.2.2.2.2⟩
  · show nI ((sL S).length + 1) = nI (sL S ++ [sgv S]).length
    simp
  · show mcu = nI (ix (addN S p n d s t) (scu S))
    rw [addN_ix hc]; exact hR.2.2.1
  · rcases List.mem_append.mp (show a ∈ sL S ++ [sgv S] from ha) with h | h
    · have h1 : a ≠ sgv S := fun e => sgv_notin T (e ▸ h)
      have hk := ix_len h
      have hk' : ix S a ≠ (sL S).length := by omega
      have hr := RM.row hR h
      rw [addN_ix h]
      refine ⟨?_, ?_, ?_, ?_, ?_, ?_, ?_, ?_, ?_, ?_⟩
      · rw [pk_un hk']; exact hr.1
      · show _ = oI (va_up (spa S) (sgv S) (some (scu S)) a)
        rw [pk_un hk', va_up_ne _ _ h1]; exact hr.2.1
      · show _ = oI (va_up (sfa S) (sgv S) none a)
        rw [pk_un hk', va_up_ne _ _ h1]; exact hr.2.2.1
      · show _ = nI (va_up (sti S) (sgv S) t a)
        rw [va_up_ne _ _ h1]; exact hr.2.2.2.1
      · show _ = nI (va_up (spo S) (sgv S) p a)
        rw [pk_un hk', va_up_ne _ _ h1]; exact hr.2.2.2.2.1
      · show _ = nI (va_up (sle S) (sgv S) n a)
        rw [pk_un hk', va_up_ne _ _ h1]; exact hr.2.2.2.2.2.1
      · show _ = bI (va_up (sde S) (sgv S) d a)
        rw [pk_un hk', va_up_ne _ _ h1]; exact hr.2.2.2.2.2.2.1
      · show _ = nI (va_up (stl S) (sgv S) _ a)
        rw [pk_un hk', va_up_ne _ _ h1]; exact hr.2.2.2.2.2.2.2.1
      · intro i hi
        have hi : i < va_up (sle S) (sgv S) n a := hi
        rw [va_up_ne _ _ h1] at hi
        show _ = va_up (ssr S) (sgv S) s a i
        have := hle a h
        rw [va_up_ne _ _ h1, hs1 _ (by omega)]; exact hr.2.2.2.2.2.2.2.2.1 i hi
      · intro i hi
        have hi : i < va_up (stl S) (sgv S) (nTl (stl S (scu S)) n d) a := hi
        rw [va_up_ne _ _ h1] at hi
        show _ = va_up (stx S) (sgv S) _ a i
        have := ht a h
        rw [va_up_ne _ _ h1, ht1 _ (by omega)]; exact hr.2.2.2.2.2.2.2.2.2 i hi
    · have h1 := List.mem_singleton.mp h
      subst h1
      rw [addN_ixn T]
      refine ⟨pk_us, ?_, ?_, ?_, ?_, ?_, ?_, ?_, ?_, ?_⟩
      · show _ = oI (va_up (spa S) (sgv S) (some (scu S)) (sgv S))
        rw [pk_us, va_up_self]; rfl
      · show _ = oI (va_up (sfa S) (sgv S) none (sgv S))
        rw [pk_us, va_up_self]; rfl
      · show _ = nI (va_up (sti S) (sgv S) t (sgv S))
        rw [va_up_self]; exact h0.symm
      · show _ = nI (va_up (spo S) (sgv S) p (sgv S))
        rw [pk_us, va_up_self]
      · show _ = nI (va_up (sle S) (sgv S) n (sgv S))
        rw [pk_us, va_up_self]
      · show _ = bI (va_up (sde S) (sgv S) d (sgv S))
        rw [pk_us, va_up_self]
      · show _ = nI (va_up (stl S) (sgv S) _ (sgv S))
        rw [pk_us, va_up_self]
      · intro i hi
        have hi : i < va_up (sle S) (sgv S) n (sgv S) := hi
        rw [va_up_self] at hi
        show _ = va_up (ssr S) (sgv S) s (sgv S) i
        rw [va_up_self]; exact hs2 i hi
      · intro i hi
        have hi : i < va_up (stl S) (sgv S) (nTl (stl S (scu S)) n d) (sgv S) := hi
        rw [va_up_self] at hi
        show _ = va_up (stx S) (sgv S) _ (sgv S) i
        rw [va_up_self]; exact ht2 i hi
theorem c_grow (T : Tree S) (hR : RM S mnd mgv mcu mck mcl msh mhh mnu mpa mfa mti mpo mle mde msr mtl mtx mcp mmk mns) (ht : ∀ a ∈ sL S, stl S a ≤ 40) (hle : ∀ a ∈ sL S, sle S a ≤ 6) (hc : scu S ∈ sL S) (hl : (sL S).length < 24) (hg : sgv S < 600) {p n : Nat} {d : Bool} {s : Nat → Int32} (hn1 : 1 ≤ n) (hn : n ≤ 6) (hp : p ≤ stl S (scu S)) (hd1 : d = true → p + n ≤ stl S (scu S)) (hd2 : d = false → stl S (scu S) + n ≤ 40) (hs : ∀ i, i < n → mns i = s i) : Ret g mdX2_grow [.ref mo, .int (nI p), .int (nI n), .int (bI d)] (wM g mo mr mnd mgv mcu mck mcl msh mhh mnu mpa mfa mti mpo mle mde msr mtl mtx mcp mmk mns) (fun r w => r = some (.int (nI (sgv S))) ∧ isM g mo mr (grw S p n d s) w) := by
  refine Ret.of [_, _, _, _, _, _, _, _] 4 (by decide) (Nat.le_of_ble_eq_true rfl) rfl ?_
  have hkc := ix_lt T hc
  have hkl := ix_len hc
  have h40 := ht _ hc
  have hr := RM.row hR hc
  obtain ⟨t, h0⟩ := nI_sur (mti (sL S).length)
  obtain ⟨rfl, rfl, rfl, -⟩ := id hR
  have fin : ∀ msr' mtx' : Nat → Int32, (∀ j, j < 6 * (sL S).length → msr' j = msr j) → (∀ i, i < n → msr' (6 * (sL S).length + i) = s i) → (∀ j, j < 40 * (sL S).length → mtx' j = mtx j) → (∀ i, i < nTl (stl S (scu S)) n d → mtx' (40 * (sL S).length + i) = nTx (stx S (scu S)) p n d s i) → Ev g mdX2_grow 284 [some (.ref mo), some (.int (nI p)), some (.int (nI n)), some (.int (bI d)), some (.int (nI (sL S).length)), none, none, none] [] (wM g mo mr (nI (sL S).length) (nI (sgv S + 1)) (nI (ix S (scu S))) mck mcl msh mhh (upd mnu (sL S).length (nI (sgv S))) (upd mpa (sL S).length (nI (scu S))) (upd mfa (sL S).length (-7)) mti (upd mpo (sL S).length (nI p)) (upd mle (sL S).length (nI n)) (upd mde (sL S).length (bI d)) (msr') (upd mtl (sL S).length (nI (nTl (stl S (scu S)) n d))) (mtx') mcp mmk mns) (fun r w => r = some (.int (nI (sgv S))) ∧ isM g mo mr (grw S p n d s) w) := by
    intro msr' mtx' hs1 hs2 ht1 ht2
    have hR2 := RM_addN T hR ht hle h0 hs1 hs2 ht1 ht2 hc
    have T2 := addN_T T hc hl hg p n t d s
    have hv : sgv S ∈ sL (addN S p n d s t) := List.mem_append_right _ (List.mem_singleton.mpr rfl)
    have cb := c_become (g := g) (mo := mo) (mr := mr) (msh := msh) (mhh := mhh) (mns := mns) T2 hR2 hv
    rw [addN_ixn T] at cb
    refine ev_aload_n (pc' := 285) dX2_grow_284 rfl rfl ?_
    refine ev_dup (pc' := 286) dX2_grow_285 rfl (by first | rfl | exact rf_cat _) ?_
    refine ev_get inX2 0 0 rfl rfl (by decide) flX2_nodes rfl (pc' := 289) dX2_grow_286 rfl ?_
    refine ev_iconst (pc' := 290) (v := nI 1) dX2_grow_289 rfl (by decide) ?_
    refine ev_iadd (pc' := 291) dX2_grow_290 rfl ?_
    rw [nI_add]
    refine pX2_nodes rfl (pc' := 294) dX2_grow_291 rfl ?_
    refine ev_aload_n (pc' := 295) dX2_grow_294 rfl rfl ?_
    refine ev_iload (pc' := 297) dX2_grow_295 rfl rfl ?_
    refine ev_callV (As := [_]) coX2_become 0 rfl rfl (cb) rfl (by decide) (by first | exact Nat.le_of_ble_eq_true rfl | simp [Value.category, rf_cat]) dX2_grow_297 rfl (pc' := 300) rfl (fun v w hq => ?_)
    obtain ⟨rfl, hw⟩ := hq
    dsimp only [Option.toList, List.cons_append, List.nil_append]
    refine ev_iret rfl dX2_grow_300 ?_
    refine ⟨rfl, ?_⟩
    rw [grw_t] at hw
    exact hw
  have hz : bI d = 0 ∨ bI d = 1 := by cases d <;> simp [bI] <;> decide
  refine ev_aload_n (pc' := 1) dX2_grow_0 rfl rfl ?_
  refine ev_get inX2 0 0 rfl rfl (by decide) flX2_nodes rfl (pc' := 4) dX2_grow_1 rfl ?_
  refine ev_istore (pc' := 6) (lv' := [_, _, _, _, _, _, _, _]) dX2_grow_4 rfl (by decide) (by intro w hw; first | exact Or.inl rfl | (right; have hw := Option.some.inj (Option.some.inj hw); subst hw; first | rfl | exact rf_cat _) | cases hw) rfl ?_
  refine ev_aload_n (pc' := 7) dX2_grow_6 rfl rfl ?_
  refine ev_get inX2 0 2 rfl rfl (by decide) flX2_number rfl (pc' := 10) dX2_grow_7 rfl ?_
  refine ev_iload (pc' := 12) dX2_grow_10 rfl rfl ?_
  refine ev_aload_n (pc' := 13) dX2_grow_12 rfl rfl ?_
  refine ev_get inX2 0 1 rfl rfl (by decide) flX2_given rfl (pc' := 16) dX2_grow_13 rfl ?_
  refine ev_iastN 1 rfl (by omega) (by decide) (pc' := 17) dX2_grow_16 rfl (ws' := wM _ _ _ _ _ _ _ _ _ _ _ _ _ _ _ _ _ _ _ _ _ _ _) rfl ?_
  refine ev_aload_n (pc' := 18) dX2_grow_17 rfl rfl ?_
  refine ev_dup (pc' := 19) dX2_grow_18 rfl (by first | rfl | exact rf_cat _) ?_
  refine ev_get inX2 0 1 rfl rfl (by decide) flX2_given rfl (pc' := 22) dX2_grow_19 rfl ?_
  refine ev_iconst (pc' := 23) (v := nI 1) dX2_grow_22 rfl (by decide) ?_
  refine ev_iadd (pc' := 24) dX2_grow_23 rfl ?_
  rw [nI_add]
  refine pX2_given rfl (pc' := 27) dX2_grow_24 rfl ?_
  refine ev_aload_n (pc' := 28) dX2_grow_27 rfl rfl ?_
  refine ev_get inX2 0 3 rfl rfl (by decide) flX2_parent rfl (pc' := 31) dX2_grow_28 rfl ?_
  refine ev_iload (pc' := 33) dX2_grow_31 rfl rfl ?_
  refine ev_aload_n (pc' := 34) dX2_grow_33 rfl rfl ?_
  refine ev_get inX2 0 2 rfl rfl (by decide) flX2_number rfl (pc' := 37) dX2_grow_34 rfl ?_
  refine ev_aload_n (pc' := 38) dX2_grow_37 rfl rfl ?_
  refine ev_get inX2 0 12 rfl rfl (by decide) flX2_current rfl (pc' := 41) dX2_grow_38 rfl ?_
  refine ev_ialdN 1 rfl (by omega) (by decide) ((pk_un (by omega)).trans hr.1) (pc' := 42) dX2_grow_41 rfl ?_
  refine ev_iastN 2 rfl (by omega) (by decide) (pc' := 43) dX2_grow_42 rfl (ws' := wM _ _ _ _ _ _ _ _ _ _ _ _ _ _ _ _ _ _ _ _ _ _ _) rfl ?_
  refine ev_aload_n (pc' := 44) dX2_grow_43 rfl rfl ?_
  refine ev_get inX2 0 4 rfl rfl (by decide) flX2_favourite rfl (pc' := 47) dX2_grow_44 rfl ?_
  refine ev_iload (pc' := 49) dX2_grow_47 rfl rfl ?_
  refine ev_bipush (pc' := 51) (v := (-7)) dX2_grow_49 rfl (by decide) ?_
  refine ev_iastN 3 rfl (by omega) (by decide) (pc' := 52) dX2_grow_51 rfl (ws' := wM _ _ _ _ _ _ _ _ _ _ _ _ _ _ _ _ _ _ _ _ _ _ _) rfl ?_
  refine ev_aload_n (pc' := 53) dX2_grow_52 rfl rfl ?_
  refine ev_get inX2 0 6 rfl rfl (by decide) flX2_position rfl (pc' := 56) dX2_grow_53 rfl ?_
  refine ev_iload (pc' := 58) dX2_grow_56 rfl rfl ?_
  refine ev_iload_n (pc' := 59) dX2_grow_58 rfl rfl ?_
  refine ev_iastN 5 rfl (by omega) (by decide) (pc' := 60) dX2_grow_59 rfl (ws' := wM _ _ _ _ _ _ _ _ _ _ _ _ _ _ _ _ _ _ _ _ _ _ _) rfl ?_
  refine ev_aload_n (pc' := 61) dX2_grow_60 rfl rfl ?_
  refine ev_get inX2 0 7 rfl rfl (by decide) flX2_length rfl (pc' := 64) dX2_grow_61 rfl ?_
  refine ev_iload (pc' := 66) dX2_grow_64 rfl rfl ?_
  refine ev_iload_n (pc' := 67) dX2_grow_66 rfl rfl ?_
  refine ev_iastN 6 rfl (by omega) (by decide) (pc' := 68) dX2_grow_67 rfl (ws' := wM _ _ _ _ _ _ _ _ _ _ _ _ _ _ _ _ _ _ _ _ _ _ _) rfl ?_
  refine ev_aload_n (pc' := 69) dX2_grow_68 rfl rfl ?_
  refine ev_get inX2 0 8 rfl rfl (by decide) flX2_deletes rfl (pc' := 72) dX2_grow_69 rfl ?_
  refine ev_iload (pc' := 74) dX2_grow_72 rfl rfl ?_
  refine ev_iload_n (pc' := 75) dX2_grow_74 rfl rfl ?_
  refine ev_zastN 7 rfl (by omega) (by decide) hz (pc' := 76) dX2_grow_75 rfl (ws' := wM _ _ _ _ _ _ _ _ _ _ _ _ _ _ _ _ _ _ _ _ _ _ _) rfl ?_
  refine ev_iconst (pc' := 77) (v := nI 0) dX2_grow_76 rfl (by decide) ?_
  refine ev_istore (pc' := 79) (lv' := [_, _, _, _, _, _, _, _]) dX2_grow_77 rfl (by decide) (by intro w hw; first | exact Or.inl rfl | (right; have hw := Option.some.inj (Option.some.inj hw); subst hw; first | rfl | exact rf_cat _) | cases hw) rfl ?_
  refine gs_loop msr hl hn _ _ n 0 msr (by omega) (fun _ _ => rfl) (fun j hj => absurd hj (Nat.not_lt_zero j)) (fun msr' hs1 hs2 => ?_)
  have hs2' : ∀ i, i < n → msr' (6 * (sL S).length + i) = s i := fun i hi => (hs2 i hi).trans (hs i hi)
  refine ev_aload_n (pc' := 112) dX2_grow_111 rfl rfl ?_
  refine ev_get inX2 0 10 rfl rfl (by decide) flX2_textLength rfl (pc' := 115) dX2_grow_112 rfl ?_
  refine ev_aload_n (pc' := 116) dX2_grow_115 rfl rfl ?_
  refine ev_get inX2 0 12 rfl rfl (by decide) flX2_current rfl (pc' := 119) dX2_grow_116 rfl ?_
  refine ev_ialdN 9 rfl (by omega) (by decide) hr.2.2.2.2.2.2.2.1 (pc' := 120) dX2_grow_119 rfl ?_
  refine ev_istore (pc' := 122) (lv' := [_, _, _, _, _, _, _, _]) dX2_grow_120 rfl (by decide) (by intro w hw; first | exact Or.inl rfl | (right; have hw := Option.some.inj (Option.some.inj hw); subst hw; first | rfl | exact rf_cat _) | cases hw) rfl ?_
  refine ev_aload_n (pc' := 123) dX2_grow_122 rfl rfl ?_
  refine ev_get inX2 0 10 rfl rfl (by decide) flX2_textLength rfl (pc' := 126) dX2_grow_123 rfl ?_
  refine ev_iload (pc' := 128) dX2_grow_126 rfl rfl ?_
  refine ev_iload_n (pc' := 129) dX2_grow_128 rfl rfl ?_
  refine ev_if_eq (tgt := 139) (pc' := 132) dX2_grow_129 (by decide) rfl (fun h129 => ?_) (fun h129 => ?_)
  · have hd : d = false := bI_eq.mp h129
    subst hd
    refine ev_iload (pc' := 141) dX2_grow_139 rfl rfl ?_
    refine ev_iload_n (pc' := 142) dX2_grow_141 rfl rfl ?_
    refine ev_iadd (pc' := 143) dX2_grow_142 rfl ?_
    rw [nI_add]
    refine ev_iastN 9 rfl (by omega) (by decide) (pc' := 144) dX2_grow_143 rfl (ws' := wM _ _ _ _ _ _ _ _ _ _ _ _ _ _ _ _ _ _ _ _ _ _ _) rfl ?_
    refine ev_iconst (pc' := 145) (v := nI 0) dX2_grow_144 rfl (by decide) ?_
    refine ev_istore (pc' := 147) (lv' := [_, _, _, _, _, _, _, _]) dX2_grow_145 rfl (by decide) (by intro w hw; first | exact Or.inl rfl | (right; have hw := Option.some.inj (Option.some.inj hw); subst hw; first | rfl | exact rf_cat _) | cases hw) rfl ?_
    have := hd2 rfl
    refine gi_loop mtx (L := (sL S).length) (C := ix S (scu S)) (n := n) (p := p) (tl := stl S (scu S) + n) hl hkl hn1 hn (by omega) (by omega) pk_us _ (stl S (scu S) + n) 0 mtx (by omega) (fun _ _ => rfl) (fun j hj => absurd hj (Nat.not_lt_zero j)) (fun mtx' ht1 ht2 => ?_)
    refine fin msr' mtx' hs1 hs2' ht1 (fun i hi => ?_)
    have hi : i < stl S (scu S) + n := hi
    rw [ht2 i hi]
    unfold nTx
    rw [if_neg (show ¬ (false = true) by decide)]
    by_cases q1 : i < p
    · rw [if_pos q1, if_pos q1]; exact hr.2.2.2.2.2.2.2.2.2 i (by omega)
    · rw [if_neg q1, if_neg q1]
      by_cases q2 : i < p + n
      · rw [if_pos q2, if_pos q2]; exact hs _ (by omega)
      · rw [if_neg q2, if_neg q2]; exact hr.2.2.2.2.2.2.2.2.2 _ (by omega)
  · have hd : d = true := bI_ne.mp h129
    subst hd
    have := hd1 rfl
    refine ev_iload (pc' := 134) dX2_grow_132 rfl rfl ?_
    refine ev_iload_n (pc' := 135) dX2_grow_134 rfl rfl ?_
    refine ev_isub (pc' := 136) dX2_grow_135 rfl ?_
    refine ev_goto (pc' := 143) dX2_grow_136 (by decide) ?_
    rw [pk_sub (by omega)]
    refine ev_iastN 9 rfl (by omega) (by decide) (pc' := 144) dX2_grow_143 rfl (ws' := wM _ _ _ _ _ _ _ _ _ _ _ _ _ _ _ _ _ _ _ _ _ _ _) rfl ?_
    refine ev_iconst (pc' := 145) (v := nI 0) dX2_grow_144 rfl (by decide) ?_
    refine ev_istore (pc' := 147) (lv' := [_, _, _, _, _, _, _, _]) dX2_grow_145 rfl (by decide) (by intro w hw; first | exact Or.inl rfl | (right; have hw := Option.some.inj (Option.some.inj hw); subst hw; first | rfl | exact rf_cat _) | cases hw) rfl ?_
    refine gd_loop mtx (L := (sL S).length) (C := ix S (scu S)) (n := n) (p := p) (tl := stl S (scu S) - n) hl hkl hn (by omega) pk_us _ (stl S (scu S) - n) 0 mtx (by omega) (fun _ _ => rfl) (fun j hj => absurd hj (Nat.not_lt_zero j)) (fun mtx' ht1 ht2 => ?_) (by omega)
    refine fin msr' mtx' hs1 hs2' ht1 (fun i hi => ?_)
    have hi : i < stl S (scu S) - n := hi
    rw [ht2 i hi]
    unfold nTx
    rw [if_pos (show true = true from rfl)]
    by_cases q1 : i < p
    · rw [if_pos q1, if_pos q1]; exact hr.2.2.2.2.2.2.2.2.2 i (by omega)
    · rw [if_neg q1, if_neg q1]; exact hr.2.2.2.2.2.2.2.2.2 _ (by omega)
end M10
section M11
variable {g : EG} {mo : Nat} {mr : Nat → Nat} {mnd mgv mcu mck mcl msh : Int32} {mhh : Int64} {mnu mpa mfa mti mpo mle mde msr mtl mtx mcp mmk mns : Nat → Int32}
variable {S : SS} {N : Nat} {Ph : Option Value → va_W → Prop}
theorem cut_loop (T : Tree S) (hR : RM S mnd mgv mcu mck mcl msh mhh mnu mpa mfa mti mpo mle mde msr mtl mtx mcp mmk mns) (hc : scu S ∈ sL S) (h40 : stl S (scu S) ≤ 40) {p n : Nat} (hn : n ≤ 6) (hp : p + n ≤ stl S (scu S)) : ∀ (m i : Nat) (mns : Nat → Int32), i + m = n → (∀ j, j < i → mns j = stx S (scu S) (p + j)) → Ev g mdX2_cut 2 [some (.ref mo), some (.int (nI p)), some (.int (nI n)), some (.int (nI i))] [] (wM g mo mr mnd mgv mcu mck mcl msh mhh mnu mpa mfa mti mpo mle mde msr mtl mtx mcp mmk mns) (fun r w => r = none ∧ ∃ mns' : Nat → Int32, (∀ j, j < n → mns' j = stx S (scu S) (p + j)) ∧ w = (wM g mo mr mnd mgv mcu mck mcl msh mhh mnu mpa mfa mti mpo mle mde msr mtl mtx mcp mmk (mns'))) := by
  intro m
  have hkc := ix_lt T hc
  have hr := RM.row hR hc
  have e3 := hR.2.2.1
  subst e3
  induction m with
  | zero =>
    intro i mns hi h1
    refine ev_iload_n (pc' := 3) dX2_cut_2 rfl rfl ?_
    refine ev_iload_n (pc' := 4) dX2_cut_3 rfl rfl ?_
    refine ev_icmp_ge (tgt := 35) (pc' := 7) dX2_cut_4 (by decide) rfl (fun h4 => ?_) (fun h4 => ?_)
    · refine ev_vret rfl dX2_cut_35 ?_
      exact ⟨rfl, mns, fun j hj => h1 j (by omega), rfl⟩
    · exact absurd (nI_le (by omega) (by omega)) h4
  | succ m ih =>
    intro i mns hi h1
    refine ev_iload_n (pc' := 3) dX2_cut_2 rfl rfl ?_
    refine ev_iload_n (pc' := 4) dX2_cut_3 rfl rfl ?_
    refine ev_icmp_ge (tgt := 35) (pc' := 7) dX2_cut_4 (by decide) rfl (fun h4 => ?_) (fun h4 => ?_)
    · exact absurd h4 (nI_ge (by omega) (by omega))
    · refine ev_aload_n (pc' := 8) dX2_cut_7 rfl rfl ?_
      refine ev_get inX2 0 17 rfl rfl (by decide) flX2_newString rfl (pc' := 11) dX2_cut_8 rfl ?_
      refine ev_iload_n (pc' := 12) dX2_cut_11 rfl rfl ?_
      refine ev_aload_n (pc' := 13) dX2_cut_12 rfl rfl ?_
      refine ev_get inX2 0 11 rfl rfl (by decide) flX2_text rfl (pc' := 16) dX2_cut_13 rfl ?_
      refine ev_bipush (pc' := 18) (v := nI 40) dX2_cut_16 rfl (by decide) ?_
      refine ev_aload_n (pc' := 19) dX2_cut_18 rfl rfl ?_
      refine ev_get inX2 0 12 rfl rfl (by decide) flX2_current rfl (pc' := 22) dX2_cut_19 rfl ?_
      refine ev_imul (pc' := 23) dX2_cut_22 rfl ?_
      refine ev_iload_n (pc' := 24) dX2_cut_23 rfl rfl ?_
      refine ev_iadd (pc' := 25) dX2_cut_24 rfl ?_
      refine ev_iload_n (pc' := 26) dX2_cut_25 rfl rfl ?_
      refine ev_iadd (pc' := 27) dX2_cut_26 rfl ?_
      rw [pk_mul, nI_add, nI_add, Nat.add_assoc]
      refine ev_ialdN 10 rfl (by omega) (by decide) (hr.2.2.2.2.2.2.2.2.2 (p + i) (by omega)) (pc' := 28) dX2_cut_27 rfl ?_
      refine ev_iastN 13 rfl (by omega) (by decide) (pc' := 29) dX2_cut_28 rfl (ws' := wM _ _ _ _ _ _ _ _ _ _ _ _ _ _ _ _ _ _ _ _ _ _ _) rfl ?_
      refine ev_iinc (pc' := 32) (lv' := [_, _, _, _]) dX2_cut_29 rfl rfl (nI_1 _) (by decide) (by intro w hw; first | exact Or.inl rfl | (right; have hw := Option.some.inj (Option.some.inj hw); subst hw; first | rfl | exact rf_cat _) | cases hw) rfl ?_
      refine ev_goto (pc' := 2) dX2_cut_32 (by decide) ?_
      refine ih (i + 1) _ (by omega) (fun j hj => ?_)
      by_cases q : j = i
      · rw [q, pk_us]
      · rw [pk_un q]; exact h1 j (by omega)
theorem c_cut (T : Tree S) (hR : RM S mnd mgv mcu mck mcl msh mhh mnu mpa mfa mti mpo mle mde msr mtl mtx mcp mmk mns) (hc : scu S ∈ sL S) (h40 : stl S (scu S) ≤ 40) {p n : Nat} (hn : n ≤ 6) (hp : p + n ≤ stl S (scu S)) : Ret g mdX2_cut [.ref mo, .int (nI p), .int (nI n)] (wM g mo mr mnd mgv mcu mck mcl msh mhh mnu mpa mfa mti mpo mle mde msr mtl mtx mcp mmk mns) (fun r w => r = none ∧ ∃ mns' : Nat → Int32, (∀ j, j < n → mns' j = stx S (scu S) (p + j)) ∧ w = (wM g mo mr mnd mgv mcu mck mcl msh mhh mnu mpa mfa mti mpo mle mde msr mtl mtx mcp mmk (mns'))) := by
  refine Ret.of [_, _, _, _] 1 (by decide) (Nat.le_of_ble_eq_true rfl) rfl ?_
  refine ev_iconst (pc' := 1) (v := nI 0) dX2_cut_0 rfl (by decide) ?_
  refine ev_istore_n (pc' := 2) (lv' := [_, _, _, _]) dX2_cut_1 rfl (by decide) (by intro w hw; first | exact Or.inl rfl | (right; have hw := Option.some.inj (Option.some.inj hw); subst hw; first | rfl | exact rf_cat _) | cases hw) rfl ?_
  exact cut_loop T hR hc h40 hn hp n 0 mns (by omega) (fun j hj => absurd hj (Nat.not_lt_zero j))
theorem c_mdelete (I : Inv N S) (hN : N ≤ 512) (hR : RM S mnd mgv mcu mck mcl msh mhh mnu mpa mfa mti mpo mle mde msr mtl mtx mcp mmk mns) (x y : Int32) : Ret g mdX2_delete [.ref mo, .int x, .int y] (wM g mo mr mnd mgv mcu mck mcl msh mhh mnu mpa mfa mti mpo mle mde msr mtl mtx mcp mmk mns) (fun r w => r = some (.int (oDel S x y).1) ∧ isM g mo mr (oDel S x y).2 w) := by
  refine Ret.of [_, _, _] 0 (by decide) (Nat.le_of_ble_eq_true rfl) rfl ?_
  have T := I.T
  have hkc := ix_lt T I.cu
  have hr := RM.row hR I.cu
  have h40 := I.tl I.cu
  have hlen := T.len
  have hgv := I.gv
  obtain ⟨rfl, e2, rfl, e4, e5, e6⟩ := id hR
  have no : ¬ (0 ≤ x ∧ (1 ≤ y ∧ y ≤ 6) ∧ x ≤ nI (stl S (scu S)) - y) → Ev g mdX2_delete 29 [some (.ref mo), some (.int x), some (.int y)] [] (wM g mo mr (nI (sL S).length) mgv (nI (ix S (scu S))) mck mcl msh mhh mnu mpa mfa mti mpo mle mde msr mtl mtx mcp mmk mns) (fun r w => r = some (.int (oDel S x y).1) ∧ isM g mo mr (oDel S x y).2 w) := by
    intro h
    refine ev_iconst (pc' := 30) (v := (-1)) dX2_delete_29 rfl (by decide) ?_
    refine ev_iret rfl dX2_delete_30 ?_
    unfold oDel
    rw [if_neg h]
    exact ⟨rfl, isM.of hR⟩
  refine ev_iload_n (pc' := 1) dX2_delete_0 rfl rfl ?_
  refine ev_if_lt (tgt := 29) (pc' := 4) dX2_delete_1 (by decide) rfl (fun h1 => ?_) (fun h1 => ?_)
  · exact no (fun q => Int32.not_lt.mpr q.1 h1)
  · refine ev_iload_n (pc' := 5) dX2_delete_4 rfl rfl ?_
    refine ev_iconst (pc' := 6) (v := nI 1) dX2_delete_5 rfl (by decide) ?_
    refine ev_bipush (pc' := 8) (v := nI 6) dX2_delete_6 rfl (by decide) ?_
    refine ev_callS (As := [_, _, _]) coX2_within (c_within _ _ _ _) rfl (by decide) (by first | exact Nat.le_of_ble_eq_true rfl | simp [Value.category, rf_cat]) dX2_delete_8 rfl (pc' := 11) rfl (fun v w hq => ?_)
    obtain ⟨rfl, rfl⟩ := hq
    dsimp only [Option.toList, List.cons_append, List.nil_append]
    refine ev_if_eq (tgt := 29) (pc' := 14) dX2_delete_11 (by decide) rfl (fun h11 => ?_) (fun h11 => ?_)
    · rw [bI_eq, decide_eq_false_iff_not] at h11
      exact no (fun q => h11 q.2.1)
    · rw [bI_ne, decide_eq_true_eq] at h11
      have h11' : 1 ≤ y ∧ y ≤ 6 := h11
      refine ev_iload_n (pc' := 15) dX2_delete_14 rfl rfl ?_
      refine ev_aload_n (pc' := 16) dX2_delete_15 rfl rfl ?_
      refine ev_get inX2 0 10 rfl rfl (by decide) flX2_textLength rfl (pc' := 19) dX2_delete_16 rfl ?_
      refine ev_aload_n (pc' := 20) dX2_delete_19 rfl rfl ?_
      refine ev_get inX2 0 12 rfl rfl (by decide) flX2_current rfl (pc' := 23) dX2_delete_20 rfl ?_
      refine ev_ialdN 9 rfl (by omega) (by decide) hr.2.2.2.2.2.2.2.1 (pc' := 24) dX2_delete_23 rfl ?_
      refine ev_iload_n (pc' := 25) dX2_delete_24 rfl rfl ?_
      refine ev_isub (pc' := 26) dX2_delete_25 rfl ?_
      refine ev_icmp_le (tgt := 31) (pc' := 29) dX2_delete_26 (by decide) rfl (fun h26 => ?_) (fun h26 => ?_)
      · have hok : 0 ≤ x ∧ (1 ≤ y ∧ y ≤ 6) ∧ x ≤ nI (stl S (scu S)) - y := ⟨Int32.not_lt.mp h1, h11', h26⟩
        have e1 : (6 : Int32) = nI 6 := rfl
        obtain ⟨n, hn6, rfl⟩ := nI_of2 (M := 6) (n := 6) (by decide) (Int32.not_lt.mpr (Int32.le_trans (by decide) h11'.1)) h11'.2
        have hn1 : 1 ≤ n := by
          have := h11'.1
          rw [show (1 : Int32) = nI 1 from rfl, nI_leI (by omega) (by omega)] at this
          exact this
        obtain ⟨p, hp, rfl⟩ := nI_of h1
        have hpn : p + n ≤ stl S (scu S) := by
          have e2 : (nI (stl S (scu S)) - nI n).toInt = (stl S (scu S) : Int) - n := pk_sub_toInt (by omega) (by omega)
          rw [Int32.le_iff_toInt_le, e2, nI_toInt hp] at h26
          omega
        refine ev_aload_n (pc' := 32) dX2_delete_31 rfl rfl ?_
        refine ev_get inX2 0 0 rfl rfl (by decide) flX2_nodes rfl (pc' := 35) dX2_delete_32 rfl ?_
        refine ev_bipush (pc' := 37) (v := nI 24) dX2_delete_35 rfl (by decide) ?_
        refine ev_icmp_ne (tgt := 43) (pc' := 40) dX2_delete_37 (by decide) rfl (fun h37 => ?_) (fun h37 => ?_)
        · have hl : (sL S).length ≠ 24 := fun e => h37 (by rw [e])
          refine ev_aload_n (pc' := 44) dX2_delete_43 rfl rfl ?_
          refine ev_iload_n (pc' := 45) dX2_delete_44 rfl rfl ?_
          refine ev_iload_n (pc' := 46) dX2_delete_45 rfl rfl ?_
          refine ev_callV (As := [_, _]) coX2_cut 0 rfl rfl (c_cut T hR I.cu h40 hn6 hpn) rfl (by decide) (by first | exact Nat.le_of_ble_eq_true rfl | simp [Value.category, rf_cat]) dX2_delete_46 rfl (pc' := 49) rfl (fun v w hq => ?_)
          obtain ⟨rfl, mns', hs, rfl⟩ := hq
          dsimp only [Option.toList, List.cons_append, List.nil_append]
          have cg := c_grow (g := g) (mo := mo) (mr := mr) (msh := msh) (mhh := mhh) (mns := mns') (p := p) (n := n) (d := true) (s := fun i => stx S (scu S) (p + i)) T hR (fun a ha => I.tl ha) (fun a ha => I.le ha) I.cu (by omega) (by omega) hn1 hn6 (by omega) (fun _ => hpn) (fun h => by cases h) hs
          refine ev_aload_n (pc' := 50) dX2_delete_49 rfl rfl ?_
          refine ev_iload_n (pc' := 51) dX2_delete_50 rfl rfl ?_
          refine ev_iload_n (pc' := 52) dX2_delete_51 rfl rfl ?_
          refine ev_iconst (pc' := 53) (v := nI 1) dX2_delete_52 rfl (by decide) ?_
          refine ev_callV (As := [_, _, _]) coX2_grow 0 rfl rfl (cg) rfl (by decide) (by first | exact Nat.le_of_ble_eq_true rfl | simp [Value.category, rf_cat]) dX2_delete_53 rfl (pc' := 56) rfl (fun v w hq => ?_)
          obtain ⟨rfl, hw⟩ := hq
          dsimp only [Option.toList, List.cons_append, List.nil_append]
          refine ev_iret rfl dX2_delete_56 ?_
          unfold oDel
          rw [if_pos hok, if_neg hl, nI_clamp (by omega), nI_clamp (by omega)]
          exact ⟨rfl, hw⟩
        · have hl : (sL S).length = 24 := nI_inj (by omega) (by omega) h37
          refine ev_bipush (pc' := 42) (v := (-3)) dX2_delete_40 rfl (by decide) ?_
          refine ev_iret rfl dX2_delete_42 ?_
          unfold oDel
          rw [if_pos hok, if_pos hl]
          exact ⟨rfl, isM.of hR⟩
      · exact no (fun q => h26 q.2.2)
theorem ins_loop (hcl : scl S ≤ 6) (hR : RM S mnd mgv mcu mck mcl msh mhh mnu mpa mfa mti mpo mle mde msr mtl mtx mcp mmk mns) (x : Int32) : ∀ (m i : Nat) (mns : Nat → Int32), i + m = scl S → (∀ j, j < i → mns j = scp S j) → (∀ mns : Nat → Int32, (∀ j, j < scl S → mns j = scp S j) → Ev g mdX2_insert 93 [some (.ref mo), some (.int x), some (.int (nI (scl S))), none] [] (wM g mo mr mnd mgv mcu mck mcl msh mhh mnu mpa mfa mti mpo mle mde msr mtl mtx mcp mmk mns) Ph) → Ev g mdX2_insert 70 [some (.ref mo), some (.int x), some (.int (nI (scl S))), some (.int (nI i))] [] (wM g mo mr mnd mgv mcu mck mcl msh mhh mnu mpa mfa mti mpo mle mde msr mtl mtx mcp mmk mns) Ph := by
  intro m
  induction m with
  | zero =>
    intro i mns hi h1 K
    refine ev_iload_n (pc' := 71) dX2_insert_70 rfl rfl ?_
    refine ev_iload_n (pc' := 72) dX2_insert_71 rfl rfl ?_
    refine ev_icmp_ge (tgt := 93) (pc' := 75) dX2_insert_72 (by decide) rfl (fun h72 => ?_) (fun h72 => ?_)
    · exact Ev.weak [some (.ref mo), some (.int x), some (.int (nI (scl S))), none] (lw_le_get _ _ (by simp [lw_le])) (K mns (fun j hj => h1 j (by omega)))
    · exact absurd (nI_le (by omega) (by omega)) h72
  | succ m ih =>
    intro i mns hi h1 K
    refine ev_iload_n (pc' := 71) dX2_insert_70 rfl rfl ?_
    refine ev_iload_n (pc' := 72) dX2_insert_71 rfl rfl ?_
    refine ev_icmp_ge (tgt := 93) (pc' := 75) dX2_insert_72 (by decide) rfl (fun h72 => ?_) (fun h72 => ?_)
    · exact absurd h72 (nI_ge (by omega) (by omega))
    · refine ev_aload_n (pc' := 76) dX2_insert_75 rfl rfl ?_
      refine ev_get inX2 0 17 rfl rfl (by decide) flX2_newString rfl (pc' := 79) dX2_insert_76 rfl ?_
      refine ev_iload_n (pc' := 80) dX2_insert_79 rfl rfl ?_
      refine ev_aload_n (pc' := 81) dX2_insert_80 rfl rfl ?_
      refine ev_get inX2 0 15 rfl rfl (by decide) flX2_clip rfl (pc' := 84) dX2_insert_81 rfl ?_
      refine ev_iload_n (pc' := 85) dX2_insert_84 rfl rfl ?_
      refine ev_ialdN 11 rfl (by omega) (by decide) (hR.2.2.2.2.2.2.1 i (by omega)) (pc' := 86) dX2_insert_85 rfl ?_
      refine ev_iastN 13 rfl (by omega) (by decide) (pc' := 87) dX2_insert_86 rfl (ws' := wM _ _ _ _ _ _ _ _ _ _ _ _ _ _ _ _ _ _ _ _ _ _ _) rfl ?_
      refine ev_iinc (pc' := 90) (lv' := [_, _, _, _]) dX2_insert_87 rfl rfl (nI_1 _) (by decide) (by intro w hw; first | exact Or.inl rfl | (right; have hw := Option.some.inj (Option.some.inj hw); subst hw; first | rfl | exact rf_cat _) | cases hw) rfl ?_
      refine ev_goto (pc' := 70) dX2_insert_90 (by decide) ?_
      refine ih (i + 1) _ (by omega) (fun j hj => ?_) K
      by_cases q : j = i
      · rw [q, pk_us]
      · rw [pk_un q]; exact h1 j (by omega)
theorem c_minsert (I : Inv N S) (hN : N ≤ 512) (hR : RM S mnd mgv mcu mck mcl msh mhh mnu mpa mfa mti mpo mle mde msr mtl mtx mcp mmk mns) (x : Int32) : Ret g mdX2_insert [.ref mo, .int x] (wM g mo mr mnd mgv mcu mck mcl msh mhh mnu mpa mfa mti mpo mle mde msr mtl mtx mcp mmk mns) (fun r w => r = some (.int (oIns S x).1) ∧ isM g mo mr (oIns S x).2 w) := by
  refine Ret.of [_, _, _, _] 2 (by decide) (Nat.le_of_ble_eq_true rfl) rfl ?_
  have T := I.T
  have hkc := ix_lt T I.cu
  have hr := RM.row hR I.cu
  have h40 := I.tl I.cu
  have hlen := T.len
  have hgv := I.gv
  have hcl := I.cl
  obtain ⟨rfl, e2, rfl, e4, rfl, e6, e7, e8⟩ := id hR
  unfold oIns
  refine ev_aload_n (pc' := 1) dX2_insert_0 rfl rfl ?_
  refine ev_get inX2 0 14 rfl rfl (by decide) flX2_clipLength rfl (pc' := 4) dX2_insert_1 rfl ?_
  refine ev_if_ne (tgt := 10) (pc' := 7) dX2_insert_4 (by decide) rfl (fun h4 => ?_) (fun h4 => ?_)
  · have hz : ¬ scl S = 0 := fun e => h4 (by rw [e]; rfl)
    rw [if_neg hz]
    refine ev_iload_n (pc' := 11) dX2_insert_10 rfl rfl ?_
    refine ev_iconst (pc' := 12) (v := nI 0) dX2_insert_11 rfl (by decide) ?_
    refine ev_aload_n (pc' := 13) dX2_insert_12 rfl rfl ?_
    refine ev_get inX2 0 10 rfl rfl (by decide) flX2_textLength rfl (pc' := 16) dX2_insert_13 rfl ?_
    refine ev_aload_n (pc' := 17) dX2_insert_16 rfl rfl ?_
    refine ev_get inX2 0 12 rfl rfl (by decide) flX2_current rfl (pc' := 20) dX2_insert_17 rfl ?_
    refine ev_ialdN 9 rfl (by omega) (by decide) hr.2.2.2.2.2.2.2.1 (pc' := 21) dX2_insert_20 rfl ?_
    refine ev_callS (As := [_, _, _]) coX2_within (c_within _ _ _ _) rfl (by decide) (by first | exact Nat.le_of_ble_eq_true rfl | simp [Value.category, rf_cat]) dX2_insert_21 rfl (pc' := 24) rfl (fun v w hq => ?_)
    obtain ⟨rfl, rfl⟩ := hq
    dsimp only [Option.toList, List.cons_append, List.nil_append]
    refine ev_if_ne (tgt := 29) (pc' := 27) dX2_insert_24 (by decide) rfl (fun h24 => ?_) (fun h24 => ?_)
    · rw [bI_ne, decide_eq_true_eq] at h24
      have h24' : 0 ≤ x ∧ x ≤ nI (stl S (scu S)) := h24
      rw [if_pos h24']
      refine ev_aload_n (pc' := 30) dX2_insert_29 rfl rfl ?_
      refine ev_get inX2 0 10 rfl rfl (by decide) flX2_textLength rfl (pc' := 33) dX2_insert_30 rfl ?_
      refine ev_aload_n (pc' := 34) dX2_insert_33 rfl rfl ?_
      refine ev_get inX2 0 12 rfl rfl (by decide) flX2_current rfl (pc' := 37) dX2_insert_34 rfl ?_
      refine ev_ialdN 9 rfl (by omega) (by decide) hr.2.2.2.2.2.2.2.1 (pc' := 38) dX2_insert_37 rfl ?_
      refine ev_aload_n (pc' := 39) dX2_insert_38 rfl rfl ?_
      refine ev_get inX2 0 14 rfl rfl (by decide) flX2_clipLength rfl (pc' := 42) dX2_insert_39 rfl ?_
      refine ev_iadd (pc' := 43) dX2_insert_42 rfl ?_
      rw [nI_add]
      refine ev_bipush (pc' := 45) (v := nI 40) dX2_insert_43 rfl (by decide) ?_
      refine ev_icmp_le (tgt := 51) (pc' := 48) dX2_insert_45 (by decide) rfl (fun h45 => ?_) (fun h45 => ?_)
      · have hq : ¬ 40 < stl S (scu S) + scl S := by
          rw [nI_leI (by omega) (by omega)] at h45
          omega
        rw [if_neg hq]
        refine ev_aload_n (pc' := 52) dX2_insert_51 rfl rfl ?_
        refine ev_get inX2 0 0 rfl rfl (by decide) flX2_nodes rfl (pc' := 55) dX2_insert_52 rfl ?_
        refine ev_bipush (pc' := 57) (v := nI 24) dX2_insert_55 rfl (by decide) ?_
        refine ev_icmp_ne (tgt := 63) (pc' := 60) dX2_insert_57 (by decide) rfl (fun h57 => ?_) (fun h57 => ?_)
        · have hl : (sL S).length ≠ 24 := fun e => h57 (by rw [e])
          rw [if_neg hl]
          refine ev_aload_n (pc' := 64) dX2_insert_63 rfl rfl ?_
          refine ev_get inX2 0 14 rfl rfl (by decide) flX2_clipLength rfl (pc' := 67) dX2_insert_64 rfl ?_
          refine ev_istore_n (pc' := 68) (lv' := [_, _, _, _]) dX2_insert_67 rfl (by decide) (by intro w hw; first | exact Or.inl rfl | (right; have hw := Option.some.inj (Option.some.inj hw); subst hw; first | rfl | exact rf_cat _) | cases hw) rfl ?_
          refine ev_iconst (pc' := 69) (v := nI 0) dX2_insert_68 rfl (by decide) ?_
          refine ev_istore_n (pc' := 70) (lv' := [_, _, _, _]) dX2_insert_69 rfl (by decide) (by intro w hw; first | exact Or.inl rfl | (right; have hw := Option.some.inj (Option.some.inj hw); subst hw; first | rfl | exact rf_cat _) | cases hw) rfl ?_
          refine ins_loop (mr := mr) hcl hR _ (scl S) 0 _ (by omega) (fun j hj => absurd hj (Nat.not_lt_zero j)) (fun mns hs => ?_)
          obtain ⟨p, hp, rfl⟩ := nI_of (Int32.not_lt.mpr h24'.1)
          have hps : p ≤ stl S (scu S) := (nI_leI hp (by omega)).mp h24'.2
          have hR2 : RM (setCl S 0 (scp S)) (nI (sL S).length) mgv (nI (ix S (scu S))) mck (nI 0) msh mhh mnu mpa mfa mti mpo mle mde msr mtl mtx mcp mmk mns := ⟨rfl, e2, rfl, e4, rfl, e6, fun i hi => absurd hi (Nat.not_lt_zero i), e8⟩
          have cg := c_grow (g := g) (mo := mo) (mr := mr) (S := setCl S 0 (scp S)) (msh := msh) (mhh := mhh) (mns := mns) (p := p) (n := scl S) (d := false) (s := scp S) T hR2 (fun a ha => I.tl ha) (fun a ha => I.le ha) I.cu (show (sL S).length < 24 by omega) (show sgv S < 600 by omega) (by omega) hcl hps (fun h => by cases h) (fun _ => show stl S (scu S) + scl S ≤ 40 by omega) hs
          refine ev_aload_n (pc' := 94) dX2_insert_93 rfl rfl ?_
          refine ev_iconst (pc' := 95) (v := nI 0) dX2_insert_94 rfl (by decide) ?_
          refine pX2_clipLength rfl (pc' := 98) dX2_insert_95 rfl ?_
          refine ev_aload_n (pc' := 99) dX2_insert_98 rfl rfl ?_
          refine ev_iload_n (pc' := 100) dX2_insert_99 rfl rfl ?_
          refine ev_iload_n (pc' := 101) dX2_insert_100 rfl rfl ?_
          refine ev_iconst (pc' := 102) (v := nI 0) dX2_insert_101 rfl (by decide) ?_
          refine ev_callV (As := [_, _, _]) coX2_grow 0 rfl rfl (cg) rfl (by decide) (by first | exact Nat.le_of_ble_eq_true rfl | simp [Value.category, rf_cat]) dX2_insert_102 rfl (pc' := 105) rfl (fun v w hq => ?_)
          obtain ⟨rfl, hw⟩ := hq
          dsimp only [Option.toList, List.cons_append, List.nil_append]
          refine ev_iret rfl dX2_insert_105 ?_
          rw [nI_clamp (by omega)]
          exact ⟨rfl, hw⟩
        · have hl : (sL S).length = 24 := nI_inj (by omega) (by omega) h57
          rw [if_pos hl]
          refine ev_bipush (pc' := 62) (v := (-3)) dX2_insert_60 rfl (by decide) ?_
          refine ev_iret rfl dX2_insert_62 ?_
          exact ⟨rfl, isM.of hR⟩
      · have hq : 40 < stl S (scu S) + scl S := by
          rw [nI_leI (by omega) (by omega)] at h45
          omega
        rw [if_pos hq]
        refine ev_bipush (pc' := 50) (v := (-4)) dX2_insert_48 rfl (by decide) ?_
        refine ev_iret rfl dX2_insert_50 ?_
        exact ⟨rfl, isM.of hR⟩
    · rw [bI_eq, decide_eq_false_iff_not] at h24
      have h24' : ¬ (0 ≤ x ∧ x ≤ nI (stl S (scu S))) := h24
      rw [if_neg h24']
      refine ev_iconst (pc' := 28) (v := (-1)) dX2_insert_27 rfl (by decide) ?_
      refine ev_iret rfl dX2_insert_28 ?_
      exact ⟨rfl, isM.of hR⟩
  · rw [nIz (by omega)] at h4
    rw [if_pos h4]
    refine ev_bipush (pc' := 9) (v := (-7)) dX2_insert_7 rfl (by decide) ?_
    refine ev_iret rfl dX2_insert_9 ?_
    exact ⟨rfl, isM.of hR⟩
end M11
