/-! ===== the landed class: a new node ===== -/
section X6
variable {g : EG} {xo an ac am : Nat} {LN LT : List Nat} {xt : Nat → Nat} {xar : Nat → Option Nat} {xnt xln : Int32} {xcu : Nat} {xck : Int32} {xcp : Nat → Int32} {xcl : Int32} {xmk : Nat → Option Nat} {xtl xnu xti : Nat → Int32} {xpa xfa : Nat → Option Nat} {xep xel xde : Nat → Int32} {xtc : Nat → Nat → Int32}
variable {S : SS} {hd : Nat → Nat} {N : Nat} {Ph : Option Value → va_W → Prop}
theorem c_addChild {k q : Nat} (hk : k < 24) (hq : q ∈ LN) (ha : xar k = some q) (P L : Int32) : Ret g mdX1_addChild [.ref xo, .int P, .int L] (wX g xo an ac am LN LT xt xar (nI k) xln xcu xck xcp xcl xmk xtl xnu xti xpa xfa xep xel xde xtc) (fun r w => r = some (.ref q) ∧ w = (wX g xo an ac am LN LT xt xar (nI (k + 1)) (xln + nI 1) xcu xck xcp xcl xmk xtl (va_up xnu q (xln + nI 1)) xti (va_up xpa q (some xcu)) (va_up xfa q none) (va_up xep q P) (va_up xel q L) xde xtc)) := by
  refine Ret.of [_, _, _, _] 1 (by decide) (Nat.le_of_ble_eq_true rfl) rfl ?_
  refine ev_aload_nE (pc' := 1) dX1_addChild_0 rfl rfl (by first | exact rf_some _ | exact rfl) ?_
  refine gX1_nodes rfl (pc' := 4) dX1_addChild_1 rfl ?_
  refine ev_aload_nE (pc' := 5) dX1_addChild_4 rfl rfl (by first | exact rf_some _ | exact rfl) ?_
  refine gX1_nodeTotal rfl (pc' := 8) dX1_addChild_5 rfl ?_
  refine x_nodes_get (by omega) ha (pc' := 9) dX1_addChild_8 rfl ?_
  show Ev g mdX1_addChild 9 _ [.ref q] _ _
  refine ev_astore_nE (by first | exact rf_some _ | exact rfl) (pc' := 10) (lv' := [_, _, _, _]) dX1_addChild_9 rfl (by decide) (by intro w hw; first | exact Or.inl rfl | (right; have hw := Option.some.inj (Option.some.inj hw); subst hw; first | rfl | exact rf_cat _) | cases hw) rfl ?_
  refine ev_aload_nE (pc' := 11) dX1_addChild_10 rfl rfl (by first | exact rf_some _ | exact rfl) ?_
  refine ev_dup (pc' := 12) dX1_addChild_11 rfl (by first | rfl | exact rf_cat _) ?_
  refine gX1_nodeTotal rfl (pc' := 15) dX1_addChild_12 rfl ?_
  refine ev_iconst (pc' := 16) (v := nI 1) dX1_addChild_15 rfl (by decide) ?_
  refine ev_iaddN  (pc' := 17) dX1_addChild_16 rfl ?_
  refine pX1_nodeTotal rfl (pc' := 20) dX1_addChild_17 rfl ?_
  refine ev_aload_nE (pc' := 21) dX1_addChild_20 rfl rfl (by first | exact rf_some _ | exact rfl) ?_
  refine ev_dup (pc' := 22) dX1_addChild_21 rfl (by first | rfl | exact rf_cat _) ?_
  refine gX1_lastNumber rfl (pc' := 25) dX1_addChild_22 rfl ?_
  refine ev_iconst (pc' := 26) (v := nI 1) dX1_addChild_25 rfl (by decide) ?_
  refine ev_iadd (pc' := 27) dX1_addChild_26 rfl ?_
  refine pX1_lastNumber rfl (pc' := 30) dX1_addChild_27 rfl ?_
  refine ev_aload_nE (pc' := 31) dX1_addChild_30 rfl rfl (by first | exact rf_some _ | exact rfl) ?_
  refine ev_aload_nE (pc' := 32) dX1_addChild_31 rfl rfl (by first | exact rf_some _ | exact rfl) ?_
  refine gX1_lastNumber rfl (pc' := 35) dX1_addChild_32 rfl ?_
  refine pX0_number rfl (by assumption) (pc' := 38) dX1_addChild_35 rfl ?_
  refine ev_aload_nE (pc' := 39) dX1_addChild_38 rfl rfl (by first | exact rf_some _ | exact rfl) ?_
  refine ev_aload_nE (pc' := 40) dX1_addChild_39 rfl rfl (by first | exact rf_some _ | exact rfl) ?_
  refine gX1_currentNode rfl (pc' := 43) dX1_addChild_40 rfl ?_
  refine pX0_parentE (by first | exact rf_some _ | exact rfl) rfl (by assumption) (pc' := 46) dX1_addChild_43 rfl ?_
  refine ev_aload_nE (pc' := 47) dX1_addChild_46 rfl rfl (by first | exact rf_some _ | exact rfl) ?_
  refine ev_null (pc' := 48) dX1_addChild_47 rfl ?_
  refine pX0_favouriteE (by first | exact rf_some _ | exact rfl) rfl (by assumption) (pc' := 51) dX1_addChild_48 rfl ?_
  refine ev_aload_nE (pc' := 52) dX1_addChild_51 rfl rfl (by first | exact rf_some _ | exact rfl) ?_
  refine ev_iload_n (pc' := 53) dX1_addChild_52 rfl rfl ?_
  refine pX0_editPosition rfl (by assumption) (pc' := 56) dX1_addChild_53 rfl ?_
  refine ev_aload_nE (pc' := 57) dX1_addChild_56 rfl rfl (by first | exact rf_some _ | exact rfl) ?_
  refine ev_iload_n (pc' := 58) dX1_addChild_57 rfl rfl ?_
  refine pX0_editLength rfl (by assumption) (pc' := 61) dX1_addChild_58 rfl ?_
  refine ev_aload_nE (pc' := 62) dX1_addChild_61 rfl rfl (by first | exact rf_some _ | exact rfl) ?_
  refine ev_aretE (nm := "EditTree$Node") (by first | exact rf_some _ | exact rfl) rfl dX1_addChild_62 ?_
  exact ⟨rfl, rfl⟩
theorem RX_addN (I : Inv N S) (hR : RX S hd LN LT xt xar xnt xln xcu xck xcp xcl xmk xtl xnu xti xpa xfa xep xel xde xtc) {p n t q : Nat} {d : Bool} {s : Nat → Int32} {xtc' : Nat → Nat → Int32} (hq : q ∈ LN) (hqa : xar (sL S).length = some q) (hqn : ∀ a ∈ sL S, hd a ≠ q) (h0 : nI t = xti q) (ht1 : ∀ z, z ≠ xt q → xtc' z = xtc z) (ht2 : ∀ i, i < nTl (stl S (scu S)) n d → xtc' (xt q) i = nTx (stx S (scu S)) p n d s i) :
    RX (addN S p n d s t) (va_up hd (sgv S) q) LN LT xt xar (nI ((sL S).length + 1)) (nI (sgv S)) xcu xck xcp xcl xmk (va_up xtl q (nI (nTl (stl S (scu S)) n d))) (va_up xnu q (nI (sgv S))) xti (va_up xpa q (some xcu)) (va_up xfa q none) (va_up xep q (nI p)) (va_up xel q (nI n)) (va_up xde q (bI d)) (xtc') := by
  have T := I.T
  have hv := sgv_notin T
  have hne : ∀ a ∈ sL S, a ≠ sgv S := fun a ha e => hv (e ▸ ha)
  have hdo : ∀ a ∈ sL S, va_up hd (sgv S) q a = hd a := fun a ha => va_up_ne _ _ (hne a ha)
  have hdm : ∀ o : Option Nat, (∀ a, o = some a → a ∈ sL S) → o.map (va_up hd (sgv S) q) = o.map hd := fun o ho => by
    cases o with
    | none => rfl
    | some a => show some _ = some _; rw [hdo a (ho a rfl)]
  refine ⟨?_, ?_, ?_, hR.2.2.2.1, hR.2.2.2.2.1, fun a ha => ?_, hR.2.2.2.2.2.2.1, fun i hi => ?_, fun a ha b hb e => ?_, fun k h1 h2 => ?_, fun j k h1 h2 h3 => ?_, hR.2.2.2.2.2.2.2.2.2.2.2⟩
  · show nI ((sL S).length + 1) = nI (sL S ++ [sgv S]).length
    simp
  · exact nI_add _ _
  · show xcu = va_up hd (sgv S) q (scu S)
    rw [hdo _ I.cu]; exact hR.2.2.1
  · rcases List.mem_append.mp (show a ∈ sL S ++ [sgv S] from ha) with h | h
    · have h1 := hne a h
      have hr := RX.row hR h
      have hq' := hqn a h
      unfold rowX
      rw [hdo a h, addN_ix h]
      refine ⟨hr.1, hr.2.1, ?_, ?_, ?_, ?_, ?_, ?_, ?_, ?_, fun i hi => ?_⟩
      · show va_up xtl q _ (hd a) = nI (va_up (stl S) (sgv S) _ a)
        rw [va_up_ne _ _ hq', va_up_ne _ _ h1]; exact hr.2.2.1
      · rw [va_up_ne _ _ hq']; exact hr.2.2.2.1
      · show xti (hd a) = nI (va_up (sti S) (sgv S) t a)
        rw [va_up_ne _ _ h1]; exact hr.2.2.2.2.1
      · show va_up xpa q _ (hd a) = (va_up (spa S) (sgv S) (some (scu S)) a).map (va_up hd (sgv S) q)
        rw [va_up_ne _ _ hq', va_up_ne _ _ h1, hdm _ (fun b hb => (T.par h hb).1)]; exact hr.2.2.2.2.2.1
      · show va_up xfa q _ (hd a) = (va_up (sfa S) (sgv S) none a).map (va_up hd (sgv S) q)
        rw [va_up_ne _ _ hq', va_up_ne _ _ h1, hdm _ (fun b hb => (I.fa h hb).1)]; exact hr.2.2.2.2.2.2.1
      · show va_up xep q _ (hd a) = nI (va_up (spo S) (sgv S) p a)
        rw [va_up_ne _ _ hq', va_up_ne _ _ h1]; exact hr.2.2.2.2.2.2.2.1
      · show va_up xel q _ (hd a) = nI (va_up (sle S) (sgv S) n a)
        rw [va_up_ne _ _ hq', va_up_ne _ _ h1]; exact hr.2.2.2.2.2.2.2.2.1
      · show va_up xde q _ (hd a) = bI (va_up (sde S) (sgv S) d a)
        rw [va_up_ne _ _ hq', va_up_ne _ _ h1]; exact hr.2.2.2.2.2.2.2.2.2.1
      · have hi : i < va_up (stl S) (sgv S) (nTl (stl S (scu S)) n d) a := hi
        rw [va_up_ne _ _ h1] at hi
        show xtc' (xt (hd a)) i = va_up (stx S) (sgv S) _ a i
        rw [va_up_ne _ _ h1, ht1 _ (fun e => hq' (RX.tinj hR hr.1 hq e))]; exact hr.2.2.2.2.2.2.2.2.2.2 i hi
    · have h1 := List.mem_singleton.mp h
      subst h1
      unfold rowX
      rw [va_up_self, addN_ixn T]
      refine ⟨hq, hqa, ?_, va_up_self _ _ _, ?_, ?_, ?_, ?_, ?_, ?_, fun i hi => ?_⟩
      · show _ = nI (va_up (stl S) (sgv S) _ (sgv S))
        rw [va_up_self, va_up_self]
      · show _ = nI (va_up (sti S) (sgv S) t (sgv S))
        rw [va_up_self]; exact h0.symm
      · show _ = (va_up (spa S) (sgv S) (some (scu S)) (sgv S)).map (va_up hd (sgv S) q)
        rw [va_up_self, va_up_self]
        show _ = some (va_up hd (sgv S) q (scu S))
        rw [hdo _ I.cu, hR.2.2.1]
      · show _ = (va_up (sfa S) (sgv S) none (sgv S)).map (va_up hd (sgv S) q)
        rw [va_up_self, va_up_self]; rfl
      · show _ = nI (va_up (spo S) (sgv S) p (sgv S))
        rw [va_up_self, va_up_self]
      · show _ = nI (va_up (sle S) (sgv S) n (sgv S))
        rw [va_up_self, va_up_self]
      · show _ = bI (va_up (sde S) (sgv S) d (sgv S))
        rw [va_up_self, va_up_self]
      · have hi : i < va_up (stl S) (sgv S) (nTl (stl S (scu S)) n d) (sgv S) := hi
        rw [va_up_self] at hi
        show _ = va_up (stx S) (sgv S) _ (sgv S) i
        rw [va_up_self]; exact ht2 i hi
  · show xmk i = (smk S i).map (va_up hd (sgv S) q)
    rw [hdm _ (fun a ha => I.mk hi ha)]; exact RX.mk hR hi
  · rcases List.mem_append.mp (show a ∈ sL S ++ [sgv S] from ha) with h | h <;> rcases List.mem_append.mp (show b ∈ sL S ++ [sgv S] from hb) with h' | h'
    · rw [hdo a h, hdo b h'] at e; exact RX.inj hR h h' e
    · rw [List.mem_singleton.mp h', hdo a h, va_up_self] at e; exact absurd e (hqn a h)
    · rw [List.mem_singleton.mp h, hdo b h', va_up_self] at e; exact absurd e.symm (hqn b h')
    · rw [List.mem_singleton.mp h, List.mem_singleton.mp h']
  · have h1 : (sL S ++ [sgv S]).length ≤ k := h1
    rw [List.length_append, List.length_singleton] at h1
    obtain ⟨q', e1, e2, e3⟩ := hR.2.2.2.2.2.2.2.2.2.1 k (by omega) h2
    refine ⟨q', e1, e2, fun a ha e => ?_⟩
    rcases List.mem_append.mp (show a ∈ sL S ++ [sgv S] from ha) with h | h
    · rw [hdo a h] at e; exact e3 a h e
    · rw [List.mem_singleton.mp h, va_up_self] at e
      exact hR.2.2.2.2.2.2.2.2.2.2.1 (sL S).length k (Nat.le_refl _) (by omega) h2 (by rw [hqa, e1, e])
  · have h1 : (sL S ++ [sgv S]).length ≤ j := h1
    rw [List.length_append, List.length_singleton] at h1
    exact hR.2.2.2.2.2.2.2.2.2.2.1 j k (by omega) h2 h3
theorem cpy_lo {f h : Nat → Int32} {sp dp n i : Nat} (hi : i < dp) : va_cpy f h sp dp n i = h i := pk_cpy_out (Or.inl hi)
theorem cpy_hi {f h : Nat → Int32} {sp dp n i : Nat} (hi : dp + n ≤ i) : va_cpy f h sp dp n i = h i := pk_cpy_out (Or.inr hi)
theorem cpy_in {f h : Nat → Int32} {sp dp n i : Nat} (h1 : dp ≤ i) (h2 : i < dp + n) : va_cpy f h sp dp n i = f (sp + (i - dp)) := pk_cpy_in h1 h2
theorem c_addInsertion (I : Inv N S) (hg : sgv S < 600) (hl : (sL S).length < 24) (hR : RX S hd LN LT xt xar xnt xln xcu xck xcp xcl xmk xtl xnu xti xpa xfa xep xel xde xtc) {p n fr n0 src : Nat} {s f : Nat → Int32} (hn1 : 1 ≤ n) (hn : n ≤ 6) (hp : p ≤ stl S (scu S)) (h40 : stl S (scu S) + n ≤ 40) (hfr : fr + n ≤ n0) (hn0 : n0 ≤ 40) (hs : ∀ i, i < n → f (fr + i) = s i) (hch : ∀ i, i < n → chOk (f (fr + i)))
    (hsrc : ∀ q, xar (sL S).length = some q → (∀ a ∈ sL S, hd a ≠ q) → q ∈ LN → ∀ (xnt xln : Int32) (xnu : Nat → Int32) (xpa xfa : Nat → Option Nat) (xep xel : Nat → Int32) (xtc' : Nat → Nat → Int32), (∀ z, z ≠ xt q → xtc' z = xtc z) → ∃ q0 : Nat, ((wX g xo an ac am LN LT xt xar xnt xln xcu xck xcp xcl xmk xtl xnu xti xpa xfa xep xel xde (xtc')))[q0]? = some (src, .inl (g.2.2.1, n0, .inl f))) :
    Ret g mdX1_addInsertion [.ref xo, .int (nI p), .ref src, .int (nI fr), .int (nI n)] (wX g xo an ac am LN LT xt xar xnt xln xcu xck xcp xcl xmk xtl xnu xti xpa xfa xep xel xde xtc) (fun r w => r = none ∧ isX g xo an ac am LN LT xt (grw S p n false s) w) := by
  refine Ret.of [_, _, _, _, _, _, _, _] 3 (by decide) (Nat.le_of_ble_eq_true rfl) rfl ?_
  have T := I.T
  have hr := RX.row hR I.cu
  obtain ⟨q, hqa, hqL, hqn⟩ := hR.2.2.2.2.2.2.2.2.2.1 (sL S).length (Nat.le_refl _) hl
  obtain ⟨t, h0⟩ := nI_sur (xti q)
  have hcq := hqn _ I.cu
  have htb := RX.tin hR hr.1
  have ht1 := RX.tin hR hqL
  have htn : xt (hd (scu S)) ≠ xt q := fun e => hcq (RX.tinj hR hr.1 hqL e)
  have e2 := hR.2.1
  obtain ⟨rfl, -, rfl, -⟩ := id hR
  have etl : va_up xtl q (nI (nTl (stl S (scu S)) n false)) = va_up xtl q (nI (stl S (scu S) + n)) := rfl
  refine ev_aload_nE (pc' := 1) dX1_addInsertion_0 rfl rfl (by first | exact rf_some _ | exact rfl) ?_
  refine gX1_currentNode rfl (pc' := 4) dX1_addInsertion_1 rfl ?_
  refine ev_astoreE (by first | exact rf_some _ | exact rfl) (pc' := 6) (lv' := [_, _, _, _, _, _, _, _]) dX1_addInsertion_4 rfl (by decide) (by intro w hw; first | exact Or.inl rfl | (right; have hw := Option.some.inj (Option.some.inj hw); subst hw; first | rfl | exact rf_cat _) | cases hw) rfl ?_
  refine ev_aload_nE (pc' := 7) dX1_addInsertion_6 rfl rfl (by first | exact rf_some _ | exact rfl) ?_
  refine ev_iload_n (pc' := 8) dX1_addInsertion_7 rfl rfl ?_
  refine ev_iload (pc' := 10) dX1_addInsertion_8 rfl rfl ?_
  refine x_callV (As := [_, _]) coX1_addChild rfl (c_addChild hl hqL hqa _ _) rfl (by decide) (by first | exact Nat.le_of_ble_eq_true rfl | simp [Value.category, rf_cat]) dX1_addInsertion_10 rfl (pc' := 13) rfl (fun v w hq => ?_)
  obtain ⟨rfl, rfl⟩ := hq
  dsimp only [Option.toList, List.cons_append, List.nil_append]
  rw [e2]
  have hsrc' := hsrc q hqa hqn hqL (nI ((sL S).length + 1)) (nI (sgv S)) (va_up xnu q (nI (sgv S))) (va_up xpa q (some (hd (scu S)))) (va_up xfa q none) (va_up xep q (nI p)) (va_up xel q (nI n))
  obtain ⟨qb, -, hqb⟩ := wX_text (g := g) (xo := xo) (an := an) (ac := ac) (am := am) (LN := LN) (LT := LT) (xt := xt) (xar := xar) (xnt := nI ((sL S).length + 1)) (xln := nI (sgv S)) (xcu := hd (scu S)) (xck := xck) (xcp := xcp) (xcl := xcl) (xmk := xmk) (xtl := xtl) (xnu := va_up xnu q (nI (sgv S))) (xti := xti) (xpa := va_up xpa q (some (hd (scu S)))) (xfa := va_up xfa q none) (xep := va_up xep q (nI p)) (xel := va_up xel q (nI n)) (xde := xde) (xtc := xtc) htb
  refine ev_astoreE (by first | exact rf_some _ | exact rfl) (pc' := 15) (lv' := [_, _, _, _, _, _, _, _]) dX1_addInsertion_13 rfl (by decide) (by intro w hw; first | exact Or.inl rfl | (right; have hw := Option.some.inj (Option.some.inj hw); subst hw; first | rfl | exact rf_cat _) | cases hw) rfl ?_
  refine ev_aloadE (pc' := 17) dX1_addInsertion_15 rfl rfl (by first | exact rf_some _ | exact rfl) ?_
  refine gX0_textLength rfl hr.1 hr.2.2.1 (pc' := 20) dX1_addInsertion_17 rfl ?_
  refine ev_iload_n (pc' := 21) dX1_addInsertion_20 rfl rfl ?_
  refine ev_isubN (by omega) (pc' := 22) dX1_addInsertion_21 rfl ?_
  refine ev_istore (pc' := 24) (lv' := [_, _, _, _, _, _, _, _]) dX1_addInsertion_22 rfl (by decide) (by intro w hw; first | exact Or.inl rfl | (right; have hw := Option.some.inj (Option.some.inj hw); subst hw; first | rfl | exact rf_cat _) | cases hw) rfl ?_
  refine ev_aloadE (pc' := 26) dX1_addInsertion_24 rfl rfl (by first | exact rf_some _ | exact rfl) ?_
  refine gX0_text rfl hr.1 (pc' := 29) dX1_addInsertion_26 rfl ?_
  refine ev_iconst (pc' := 30) (v := nI 0) dX1_addInsertion_29 rfl (by decide) ?_
  refine ev_aloadE (pc' := 32) dX1_addInsertion_30 rfl rfl (by first | exact rf_some _ | exact rfl) ?_
  refine gX0_text rfl hqL (pc' := 35) dX1_addInsertion_32 rfl ?_
  refine ev_iconst (pc' := 36) (v := nI 0) dX1_addInsertion_35 rfl (by decide) ?_
  refine ev_iload_n (pc' := 37) dX1_addInsertion_36 rfl rfl ?_
  refine x_copy hqb ht1 (by omega) (by omega) (by decide) (fun i hi => by rw [Nat.zero_add, hr.2.2.2.2.2.2.2.2.2.2 i (by omega)]; exact I.tx I.cu (by omega)) (by decide) (by first | exact Nat.le_of_ble_eq_true rfl | simp [Value.category, rf_cat]) cpX1 (pc' := 40) dX1_addInsertion_37 rfl ?_
  obtain ⟨q2, hq2⟩ := hsrc' (va_up xtc (xt q) (va_cpy (xtc (xt (hd (scu S)))) (xtc (xt q)) 0 0 p)) (fun z hz => va_up_ne _ _ hz)
  refine ev_aload_nE (pc' := 41) dX1_addInsertion_40 rfl rfl (by first | exact rf_some _ | exact rfl) ?_
  refine ev_iload_n (pc' := 42) dX1_addInsertion_41 rfl rfl ?_
  refine ev_aloadE (pc' := 44) dX1_addInsertion_42 rfl rfl (by first | exact rf_some _ | exact rfl) ?_
  refine gX0_text rfl hqL (pc' := 47) dX1_addInsertion_44 rfl ?_
  refine ev_iload_n (pc' := 48) dX1_addInsertion_47 rfl rfl ?_
  refine ev_iload (pc' := 50) dX1_addInsertion_48 rfl rfl ?_
  refine x_copy hq2 ht1 hfr (by omega) (by omega) hch (by decide) (by first | exact Nat.le_of_ble_eq_true rfl | simp [Value.category, rf_cat]) cpX1 (pc' := 53) dX1_addInsertion_50 rfl ?_
  rw [va_up_self, bx_uu]
  obtain ⟨qc, -, hqc⟩ := wX_text (g := g) (xo := xo) (an := an) (ac := ac) (am := am) (LN := LN) (LT := LT) (xt := xt) (xar := xar) (xnt := nI ((sL S).length + 1)) (xln := nI (sgv S)) (xcu := hd (scu S)) (xck := xck) (xcp := xcp) (xcl := xcl) (xmk := xmk) (xtl := xtl) (xnu := va_up xnu q (nI (sgv S))) (xti := xti) (xpa := va_up xpa q (some (hd (scu S)))) (xfa := va_up xfa q none) (xep := va_up xep q (nI p)) (xel := va_up xel q (nI n)) (xde := xde) (xtc := va_up xtc (xt q) (va_cpy f (va_cpy (xtc (xt (hd (scu S)))) (xtc (xt q)) 0 0 p) fr p n)) htb
  rw [show fT g (va_up xtc (xt q) (va_cpy f (va_cpy (xtc (xt (hd (scu S)))) (xtc (xt q)) 0 0 p) fr p n)) (xt (hd (scu S))) = .inl (g.2.2.1, 40, .inl (xtc (xt (hd (scu S))))) by unfold fT; rw [va_up_ne _ _ htn]] at hqc
  refine ev_aloadE (pc' := 55) dX1_addInsertion_53 rfl rfl (by first | exact rf_some _ | exact rfl) ?_
  refine gX0_text rfl hr.1 (pc' := 58) dX1_addInsertion_55 rfl ?_
  refine ev_iload_n (pc' := 59) dX1_addInsertion_58 rfl rfl ?_
  refine ev_aloadE (pc' := 61) dX1_addInsertion_59 rfl rfl (by first | exact rf_some _ | exact rfl) ?_
  refine gX0_text rfl hqL (pc' := 64) dX1_addInsertion_61 rfl ?_
  refine ev_iload_n (pc' := 65) dX1_addInsertion_64 rfl rfl ?_
  refine ev_iload (pc' := 67) dX1_addInsertion_65 rfl rfl ?_
  refine ev_iaddN  (pc' := 68) dX1_addInsertion_67 rfl ?_
  refine ev_iload (pc' := 70) dX1_addInsertion_68 rfl rfl ?_
  refine x_copy hqc ht1 (by omega) (by omega) (by decide) (fun i hi => by rw [hr.2.2.2.2.2.2.2.2.2.2 (p + i) (by omega)]; exact I.tx I.cu (by omega)) (by decide) (by first | exact Nat.le_of_ble_eq_true rfl | simp [Value.category, rf_cat]) cpX1 (pc' := 73) dX1_addInsertion_70 rfl ?_
  rw [va_up_self, bx_uu]
  have hR2 := RX_addN (p := p) (n := n) (t := t) (d := false) (s := s) I hR hqL hqa hqn h0 (xtc' := va_up xtc (xt q) (va_cpy (xtc (xt (hd (scu S)))) (va_cpy f (va_cpy (xtc (xt (hd (scu S)))) (xtc (xt q)) 0 0 p) fr p n) p (p + n) (stl S (scu S) - p))) (fun z hz => va_up_ne _ _ hz) (fun i hi => by
    have hi : i < stl S (scu S) + n := hi
    rw [va_up_self]
    unfold nTx
    rw [if_neg (show ¬ (false = true) by decide)]
    by_cases q1 : i < p
    · rw [if_pos q1, cpy_lo (by omega), cpy_lo q1, cpy_in (Nat.zero_le _) (by omega), Nat.sub_zero, Nat.zero_add]; exact hr.2.2.2.2.2.2.2.2.2.2 i (by omega)
    · rw [if_neg q1]
      by_cases q2 : i < p + n
      · rw [if_pos q2, cpy_lo q2, cpy_in (by omega) q2]; exact hs _ (by omega)
      · rw [if_neg q2, cpy_in (by omega) (by omega), show p + (i - (p + n)) = i - n by omega]; exact hr.2.2.2.2.2.2.2.2.2.2 _ (by omega))
  have T2 := addN_T T I.cu hl hg p n t false s
  have hv : sgv S ∈ sL (addN S p n false s t) := List.mem_append_right _ (List.mem_singleton.mpr rfl)
  have cm := c_makeCurrent (g := g) (xo := xo) (an := an) (ac := ac) (am := am) T2 hR2 hv
  rw [va_up_self] at cm
  refine ev_aloadE (pc' := 75) dX1_addInsertion_73 rfl rfl (by first | exact rf_some _ | exact rfl) ?_
  refine ev_aloadE (pc' := 77) dX1_addInsertion_75 rfl rfl (by first | exact rf_some _ | exact rfl) ?_
  refine gX0_textLength rfl hr.1 hr.2.2.1 (pc' := 80) dX1_addInsertion_77 rfl ?_
  refine ev_iload (pc' := 82) dX1_addInsertion_80 rfl rfl ?_
  refine ev_iaddN  (pc' := 83) dX1_addInsertion_82 rfl ?_
  refine pX0_textLength rfl hqL (pc' := 86) dX1_addInsertion_83 rfl ?_
  refine ev_aloadE (pc' := 88) dX1_addInsertion_86 rfl rfl (by first | exact rf_some _ | exact rfl) ?_
  refine ev_iconst (pc' := 89) (v := nI 0) dX1_addInsertion_88 rfl (by decide) ?_
  refine pX0_deletion rfl hqL (Or.inl rfl) (pc' := 92) dX1_addInsertion_89 rfl ?_
  refine ev_aload_nE (pc' := 93) dX1_addInsertion_92 rfl rfl (by first | exact rf_some _ | exact rfl) ?_
  refine ev_aloadE (pc' := 95) dX1_addInsertion_93 rfl rfl (by first | exact rf_some _ | exact rfl) ?_
  refine x_callV (As := [_]) coX1_makeCurrent rfl (cm) rfl (by decide) (by first | exact Nat.le_of_ble_eq_true rfl | simp [Value.category, rf_cat]) dX1_addInsertion_95 rfl (pc' := 98) rfl (fun v w hq => ?_)
  obtain ⟨rfl, xti', xfa', rfl, hR3⟩ := hq
  dsimp only [Option.toList, List.cons_append, List.nil_append]
  refine ev_vret rfl dX1_addInsertion_98 ?_
  refine ⟨rfl, ?_⟩
  rw [grw_t] at hR3
  exact isX.of hR3
theorem c_addDeletion (I : Inv N S) (hg : sgv S < 600) (hl : (sL S).length < 24) (hR : RX S hd LN LT xt xar xnt xln xcu xck xcp xcl xmk xtl xnu xti xpa xfa xep xel xde xtc) {p n : Nat} {s : Nat → Int32} (hn1 : 1 ≤ n) (hn : n ≤ 6) (hp : p + n ≤ stl S (scu S)) :
    Ret g mdX1_addDeletion [.ref xo, .int (nI p), .int (nI n)] (wX g xo an ac am LN LT xt xar xnt xln xcu xck xcp xcl xmk xtl xnu xti xpa xfa xep xel xde xtc) (fun r w => r = none ∧ isX g xo an ac am LN LT xt (grw S p n true s) w) := by
  refine Ret.of [_, _, _, _, _, _] 3 (by decide) (Nat.le_of_ble_eq_true rfl) rfl ?_
  have T := I.T
  have hr := RX.row hR I.cu
  have h40 := I.tl I.cu
  obtain ⟨q, hqa, hqL, hqn⟩ := hR.2.2.2.2.2.2.2.2.2.1 (sL S).length (Nat.le_refl _) hl
  obtain ⟨t, h0⟩ := nI_sur (xti q)
  have hcq := hqn _ I.cu
  have htb := RX.tin hR hr.1
  have ht1 := RX.tin hR hqL
  have htn : xt (hd (scu S)) ≠ xt q := fun e => hcq (RX.tinj hR hr.1 hqL e)
  have e2 := hR.2.1
  obtain ⟨rfl, -, rfl, -⟩ := id hR
  refine ev_aload_nE (pc' := 1) dX1_addDeletion_0 rfl rfl (by first | exact rf_some _ | exact rfl) ?_
  refine gX1_currentNode rfl (pc' := 4) dX1_addDeletion_1 rfl ?_
  refine ev_astore_nE (by first | exact rf_some _ | exact rfl) (pc' := 5) (lv' := [_, _, _, _, _, _]) dX1_addDeletion_4 rfl (by decide) (by intro w hw; first | exact Or.inl rfl | (right; have hw := Option.some.inj (Option.some.inj hw); subst hw; first | rfl | exact rf_cat _) | cases hw) rfl ?_
  refine ev_aload_nE (pc' := 6) dX1_addDeletion_5 rfl rfl (by first | exact rf_some _ | exact rfl) ?_
  refine ev_iload_n (pc' := 7) dX1_addDeletion_6 rfl rfl ?_
  refine ev_iload_n (pc' := 8) dX1_addDeletion_7 rfl rfl ?_
  refine x_callV (As := [_, _]) coX1_addChild rfl (c_addChild hl hqL hqa _ _) rfl (by decide) (by first | exact Nat.le_of_ble_eq_true rfl | simp [Value.category, rf_cat]) dX1_addDeletion_8 rfl (pc' := 11) rfl (fun v w hq => ?_)
  obtain ⟨rfl, rfl⟩ := hq
  dsimp only [Option.toList, List.cons_append, List.nil_append]
  rw [e2]
  obtain ⟨qb, -, hqb⟩ := wX_text (g := g) (xo := xo) (an := an) (ac := ac) (am := am) (LN := LN) (LT := LT) (xt := xt) (xar := xar) (xnt := nI ((sL S).length + 1)) (xln := nI (sgv S)) (xcu := hd (scu S)) (xck := xck) (xcp := xcp) (xcl := xcl) (xmk := xmk) (xtl := xtl) (xnu := va_up xnu q (nI (sgv S))) (xti := xti) (xpa := va_up xpa q (some (hd (scu S)))) (xfa := va_up xfa q none) (xep := va_up xep q (nI p)) (xel := va_up xel q (nI n)) (xde := xde) (xtc := xtc) htb
  refine ev_astoreE (by first | exact rf_some _ | exact rfl) (pc' := 13) (lv' := [_, _, _, _, _, _]) dX1_addDeletion_11 rfl (by decide) (by intro w hw; first | exact Or.inl rfl | (right; have hw := Option.some.inj (Option.some.inj hw); subst hw; first | rfl | exact rf_cat _) | cases hw) rfl ?_
  refine ev_aload_nE (pc' := 14) dX1_addDeletion_13 rfl rfl (by first | exact rf_some _ | exact rfl) ?_
  refine gX0_textLength rfl hr.1 hr.2.2.1 (pc' := 17) dX1_addDeletion_14 rfl ?_
  refine ev_iload_n (pc' := 18) dX1_addDeletion_17 rfl rfl ?_
  refine ev_isubN (by omega) (pc' := 19) dX1_addDeletion_18 rfl ?_
  refine ev_iload_n (pc' := 20) dX1_addDeletion_19 rfl rfl ?_
  refine ev_isubN (by omega) (pc' := 21) dX1_addDeletion_20 rfl ?_
  refine ev_istore (pc' := 23) (lv' := [_, _, _, _, _, _]) dX1_addDeletion_21 rfl (by decide) (by intro w hw; first | exact Or.inl rfl | (right; have hw := Option.some.inj (Option.some.inj hw); subst hw; first | rfl | exact rf_cat _) | cases hw) rfl ?_
  refine ev_aload_nE (pc' := 24) dX1_addDeletion_23 rfl rfl (by first | exact rf_some _ | exact rfl) ?_
  refine gX0_text rfl hr.1 (pc' := 27) dX1_addDeletion_24 rfl ?_
  refine ev_iconst (pc' := 28) (v := nI 0) dX1_addDeletion_27 rfl (by decide) ?_
  refine ev_aloadE (pc' := 30) dX1_addDeletion_28 rfl rfl (by first | exact rf_some _ | exact rfl) ?_
  refine gX0_text rfl hqL (pc' := 33) dX1_addDeletion_30 rfl ?_
  refine ev_iconst (pc' := 34) (v := nI 0) dX1_addDeletion_33 rfl (by decide) ?_
  refine ev_iload_n (pc' := 35) dX1_addDeletion_34 rfl rfl ?_
  refine x_copy hqb ht1 (by omega) (by omega) (by decide) (fun i hi => by rw [Nat.zero_add, hr.2.2.2.2.2.2.2.2.2.2 i (by omega)]; exact I.tx I.cu (by omega)) (by decide) (by first | exact Nat.le_of_ble_eq_true rfl | simp [Value.category, rf_cat]) cpX1 (pc' := 38) dX1_addDeletion_35 rfl ?_
  obtain ⟨qc, -, hqc⟩ := wX_text (g := g) (xo := xo) (an := an) (ac := ac) (am := am) (LN := LN) (LT := LT) (xt := xt) (xar := xar) (xnt := nI ((sL S).length + 1)) (xln := nI (sgv S)) (xcu := hd (scu S)) (xck := xck) (xcp := xcp) (xcl := xcl) (xmk := xmk) (xtl := xtl) (xnu := va_up xnu q (nI (sgv S))) (xti := xti) (xpa := va_up xpa q (some (hd (scu S)))) (xfa := va_up xfa q none) (xep := va_up xep q (nI p)) (xel := va_up xel q (nI n)) (xde := xde) (xtc := va_up xtc (xt q) (va_cpy (xtc (xt (hd (scu S)))) (xtc (xt q)) 0 0 p)) htb
  rw [show fT g (va_up xtc (xt q) (va_cpy (xtc (xt (hd (scu S)))) (xtc (xt q)) 0 0 p)) (xt (hd (scu S))) = .inl (g.2.2.1, 40, .inl (xtc (xt (hd (scu S))))) by unfold fT; rw [va_up_ne _ _ htn]] at hqc
  refine ev_aload_nE (pc' := 39) dX1_addDeletion_38 rfl rfl (by first | exact rf_some _ | exact rfl) ?_
  refine gX0_text rfl hr.1 (pc' := 42) dX1_addDeletion_39 rfl ?_
  refine ev_iload_n (pc' := 43) dX1_addDeletion_42 rfl rfl ?_
  refine ev_iload_n (pc' := 44) dX1_addDeletion_43 rfl rfl ?_
  refine ev_iaddN  (pc' := 45) dX1_addDeletion_44 rfl ?_
  refine ev_aloadE (pc' := 47) dX1_addDeletion_45 rfl rfl (by first | exact rf_some _ | exact rfl) ?_
  refine gX0_text rfl hqL (pc' := 50) dX1_addDeletion_47 rfl ?_
  refine ev_iload_n (pc' := 51) dX1_addDeletion_50 rfl rfl ?_
  refine ev_iload (pc' := 53) dX1_addDeletion_51 rfl rfl ?_
  refine x_copy hqc ht1 (by omega) (by omega) (by decide) (fun i hi => by rw [hr.2.2.2.2.2.2.2.2.2.2 (p + n + i) (by omega)]; exact I.tx I.cu (by omega)) (by decide) (by first | exact Nat.le_of_ble_eq_true rfl | simp [Value.category, rf_cat]) cpX1 (pc' := 56) dX1_addDeletion_53 rfl ?_
  rw [va_up_self, bx_uu]
  have hR2 := RX_addN (p := p) (n := n) (t := t) (d := true) (s := s) I hR hqL hqa hqn h0 (xtc' := va_up xtc (xt q) (va_cpy (xtc (xt (hd (scu S)))) (va_cpy (xtc (xt (hd (scu S)))) (xtc (xt q)) 0 0 p) (p + n) p (stl S (scu S) - p - n))) (fun z hz => va_up_ne _ _ hz) (fun i hi => by
    have hi : i < stl S (scu S) - n := hi
    rw [va_up_self]
    unfold nTx
    rw [if_pos (show true = true from rfl)]
    by_cases q1 : i < p
    · rw [if_pos q1, cpy_lo q1, cpy_in (Nat.zero_le _) (by omega), Nat.sub_zero, Nat.zero_add]; exact hr.2.2.2.2.2.2.2.2.2.2 i (by omega)
    · rw [if_neg q1, cpy_in (by omega) (by omega), show p + n + (i - p) = i + n by omega]; exact hr.2.2.2.2.2.2.2.2.2.2 _ (by omega))
  have T2 := addN_T T I.cu hl hg p n t true s
  have hv : sgv S ∈ sL (addN S p n true s t) := List.mem_append_right _ (List.mem_singleton.mpr rfl)
  have cm := c_makeCurrent (g := g) (xo := xo) (an := an) (ac := ac) (am := am) T2 hR2 hv
  rw [va_up_self] at cm
  refine ev_aloadE (pc' := 58) dX1_addDeletion_56 rfl rfl (by first | exact rf_some _ | exact rfl) ?_
  refine ev_aload_nE (pc' := 59) dX1_addDeletion_58 rfl rfl (by first | exact rf_some _ | exact rfl) ?_
  refine gX0_textLength rfl hr.1 hr.2.2.1 (pc' := 62) dX1_addDeletion_59 rfl ?_
  refine ev_iload_n (pc' := 63) dX1_addDeletion_62 rfl rfl ?_
  refine ev_isubN (by omega) (pc' := 64) dX1_addDeletion_63 rfl ?_
  refine pX0_textLength rfl hqL (pc' := 67) dX1_addDeletion_64 rfl ?_
  refine ev_aloadE (pc' := 69) dX1_addDeletion_67 rfl rfl (by first | exact rf_some _ | exact rfl) ?_
  refine ev_iconst (pc' := 70) (v := nI 1) dX1_addDeletion_69 rfl (by decide) ?_
  refine pX0_deletion rfl hqL (Or.inr rfl) (pc' := 73) dX1_addDeletion_70 rfl ?_
  refine ev_aload_nE (pc' := 74) dX1_addDeletion_73 rfl rfl (by first | exact rf_some _ | exact rfl) ?_
  refine ev_aloadE (pc' := 76) dX1_addDeletion_74 rfl rfl (by first | exact rf_some _ | exact rfl) ?_
  refine x_callV (As := [_]) coX1_makeCurrent rfl (cm) rfl (by decide) (by first | exact Nat.le_of_ble_eq_true rfl | simp [Value.category, rf_cat]) dX1_addDeletion_76 rfl (pc' := 79) rfl (fun v w hq => ?_)
  obtain ⟨rfl, xti', xfa', rfl, hR3⟩ := hq
  dsimp only [Option.toList, List.cons_append, List.nil_append]
  refine ev_vret rfl dX1_addDeletion_79 ?_
  refine ⟨rfl, ?_⟩
  rw [grw_t] at hR3
  exact isX.of hR3
end X6
