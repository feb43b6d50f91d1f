/-- a constructor called on a part of the world -/
theorem b_callI0 {g : EG} {d : MD} {p : Program} {e : Env} {s : State} {m : MethodId} {args : Array Value} {below : List Frame} {meth : Method} {c : Code} {R : Room} {A : Nat → Prop} {Q : State → Prop} {kc ks pc pc' : Nat} {lv : List (Option Value)} {ws : va_W} (F : FB g d p s m args meth c) {b : Nat} {rest : List Value} (hA : ∀ q, s.heap.size ≤ q → A q) (ho : d.1.cls = "EditTree") (hR : 2 ≤ R.frames ∧ 80 ≤ R.locals) (hcap : kc + 1 ≤ R.cells ∧ ks + 40 ≤ R.slots) (hcat : (rest.map fun v => v.category).sum ≤ 8) (hd : decode d.2.1 pc = .ok (.invokespecial 35, 3)) (hp : pc + 3 = pc') (k : ∀ t : Nat, Bx g d p e s m args below meth c R A Q (kc + 1) (ks + 40) pc' lv rest (ws ++ [(b, nodeE t), (t, textE g)])) : Bx g d p e s m args below meth c R A Q kc ks pc lv (.ref b :: rest) (ws ++ [(b, nodeN)]) := by
  subst hp; intro H locs ls hP hD hS hl
  have Tt := F.2.2.2.2.2.1
  have hP3 : va_P g.2.1 vwCl (ws ++ [(b, nodeN)] ++ []) H := by rw [List.append_nil]; exact hP
  have hD3 : va_D A (ws ++ [(b, nodeN)] ++ []) := by rw [List.append_nil]; exact hD
  have hPb : va_P g.2.1 vwCl [(b, nodeN)] H := va_P.iff.mpr fun q hq => va_P.iff.mp hP q (List.mem_append_right _ hq)
  have hDb : va_D (fun _ => True) [(b, nodeN)] := va_D.iff.mpr ⟨by simp, fun _ _ => trivial⟩
  have hl2 : va_Nw (.methodLinkNest d.1.cls 35 yX0_init "EditTree") s := by rw [ho]; exact F.2.2.2.2.2.2.2.2.2.2
  refine b_after (mc := 1) (ms := 40) (wa := ws) (wb := [(b, nodeN)]) (wc := []) (va_runIN (y := yX0_init) (n := 0) (As := []) (rest := rest) ⟨F.1, F.2.1, F.2.2.1, F.2.2.2.2.1, Tt⟩ (c_x0init (g := g) b H.size) ⟨va_cnB 0 Tt (good_good mdX0_init wd_cX0) rfl rfl rfl hl2 (Tt _ wd_iX0) (by decide +kernel) ⟨hR.1, Nat.le_trans (by decide) hR.2⟩, rfl, Tt _ wd_mX0⟩ ⟨blindA _ _, fun U hU hWm => ⟨rfl, by rw [hU], by rw [hU]; exact hPb, va_K.moved hWm.alike F.2.2.2.2.2.2.2.1, hDb, nestOk.warm hWm F.2.2.2.2.2.2.2.2.1, xOk.warm hWm F.2.2.2.2.2.2.2.2.2⟩⟩ rfl rfl hl.1 rfl (lv_room hcat) hd hcap) hA hP3 hD3 hS hl ?_
  rintro v w ⟨rfl, t, rfl⟩
  rw [List.append_nil]
  exact k t
/-- a new node: its cell, its text's -/
theorem x1_node {g : EG} {p : Program} {e : Env} {s : State} {m : MethodId} {args : Array Value} {below : List Frame} {meth : Method} {c : Code} {R : Room} {A : Nat → Prop} {Q : State → Prop} {kc ks pc : Nat} {lv : List (Option Value)} {ws : va_W} {st : List Value} (F : FB g mdX1_init p s m args meth c) (hA : ∀ q, s.heap.size ≤ q → A q) (hR : 2 ≤ R.frames ∧ 80 ≤ R.locals) (hcap : kc + 2 ≤ R.cells ∧ ks + 49 ≤ R.slots) (hcat : (st.map fun v => v.category).sum ≤ 7) (h0 : decode cX1_init pc = .ok (.new 9, 3)) (h1 : decode cX1_init (pc + 3) = .ok (.dup, 1)) (h2 : decode cX1_init (pc + 4) = .ok (.invokespecial 35, 3)) (k : ∀ q t : Nat, Bx g mdX1_init p e s m args below meth c R A Q (kc + 2) (ks + 49) (pc + 7) lv (.ref q :: st) (ws ++ [(q, nodeE t), (t, textE g)])) : Bx g mdX1_init p e s m args below meth c R A Q kc ks pc lv st ws := by
  refine b_new F (ci := 0) (C := RX0) (T := TX0) (ty0 := tyX0) (N := 9) (fs := [.null, .int 0, .int 0, .int 0, .null, .null, .int 0, .int 0, .int 0]) hA inX0 tyX0_ok wd_lX0 wd_nX0 wd_iX0 rfl (fun j hj => ?_) (by omega) (by omega) h0 rfl (fun q => ?_)
  · match j, hj with
    | 0, _ => rfl
    | 1, _ => rfl
    | 2, _ => rfl
    | 3, _ => rfl
    | 4, _ => rfl
    | 5, _ => rfl
    | 6, _ => rfl
    | 7, _ => rfl
    | 8, _ => rfl
    | j + 9, hj => exact absurd hj (by omega)
  refine b_dup F h1 rfl rfl ?_
  refine b_callI0 F hA rfl hR ⟨by omega, by omega⟩ ?_ h2 rfl (fun t => ?_)
  · show (Value.ref q).category + (st.map fun v => v.category).sum ≤ 8
    have : (Value.ref q).category = 1 := rfl
    omega
  · exact Bx.eq (by omega) (by omega) rfl rfl rfl (k q t)
abbrev cwB (g : EG) (xo an ac am : Nat) (cu : Value) (xar : Nat → Option Nat) : va_W := [(xo, .inr (1, [.ref an, .int (nI 1), .int (nI 0), cu, .int (nI 0), .ref ac, .int (nI 0), .ref am])), (an, .inl (g.2.2.2.2.2, 24, .inr (.inr (.inr (.inr xar))))), (ac, .inl (g.2.2.1, 6, .inl (fun _ => 0))), (am, .inl (g.2.2.2.2.2, 5, .inr (.inr (.inr (.inr (fun _ => none))))))]
def cwP (g : EG) : List (Nat × Nat) → va_W
  | [] => []
  | q :: l => (q.1, nodeE q.2) :: (q.2, textE g) :: cwP g l
theorem cwP_app (g : EG) (q t : Nat) : ∀ l : List (Nat × Nat), cwP g (l ++ [(q, t)]) = cwP g l ++ [(q, nodeE t), (t, textE g)]
  | [] => rfl
  | x :: l => by
    show _ :: _ :: cwP g (l ++ [(q, t)]) = _
    rw [cwP_app g q t l]
    rfl
theorem cwP_mem (g : EG) {q : Nat × Nat} : ∀ {l : List (Nat × Nat)}, q ∈ l → (q.1, nodeE q.2) ∈ cwP g l
  | x :: l, h => by
    rcases List.mem_cons.mp h with rfl | h
    · exact List.mem_cons_self
    · exact List.mem_cons_of_mem _ (List.mem_cons_of_mem _ (cwP_mem g h))
theorem cwP_perm (g : EG) : ∀ l : List (Nat × Nat), (l.map (fun q => (q.2, textE g)) ++ l.map (fun q => (q.1, nodeE q.2))).Perm (cwP g l)
  | [] => List.Perm.refl _
  | x :: l => by
    show ((x.2, textE g) :: (l.map (fun q => (q.2, textE g)) ++ (x.1, nodeE x.2) :: l.map (fun q => (q.1, nodeE q.2)))).Perm ((x.1, nodeE x.2) :: (x.2, textE g) :: cwP g l)
    refine List.Perm.trans (List.Perm.cons _ List.perm_middle) ?_
    exact (List.Perm.swap _ _ _).trans (((cwP_perm g l).cons _).cons _)
def xtP : List (Nat × Nat) → Nat → Nat
  | [], _ => 0
  | q :: l, a => if a = q.1 then q.2 else xtP l a
theorem xtP_eq : ∀ {l : List (Nat × Nat)}, (l.map Prod.fst).Nodup → ∀ q ∈ l, xtP l q.1 = q.2
  | x :: l, h, q, hq => by
    rw [List.map_cons, List.nodup_cons] at h
    show (if q.1 = x.1 then x.2 else xtP l q.1) = q.2
    rcases List.mem_cons.mp hq with rfl | hq
    · rw [if_pos rfl]
    · have hne : ¬ q.1 = x.1 := fun e => h.1 (e ▸ List.mem_map.mpr ⟨q, hq, rfl⟩)
      rw [if_neg hne]
      exact xtP_eq h.2 q hq
theorem x_init_end {g : EG} {A : Nat → Prop} {xo an ac am n0 t0 : Nat} {xar : Nat → Option Nat} {PL : List (Nat × Nat)} (hlen : PL.length = 24) (h0 : PL[0]? = some (n0, t0)) (hx : ∀ j q, PL[j]? = some q → xar j = some q.1) (hD : va_D A (cwB g xo an ac am (.ref n0) xar ++ cwP g PL)) : ∃ w', w'.Perm (cwB g xo an ac am (.ref n0) xar ++ cwP g PL) ∧ isX g xo an ac am (PL.map Prod.fst) (PL.map Prod.snd) (xtP PL) S00 w' := by
  have hn := (va_D.iff.mp hD).1
  rw [List.map_append, List.nodup_append] at hn
  have hn2 := ((cwP_perm g PL).map Prod.fst).nodup_iff.mpr hn.2.1
  rw [List.map_append, List.map_map, List.map_map, List.nodup_append] at hn2
  have nT : (PL.map Prod.snd).Nodup := hn2.1
  have nN : (PL.map Prod.fst).Nodup := hn2.2.1
  have e1 : va_pl (PL.map Prod.snd) (fT g (fun _ _ => 0)) = PL.map (fun q => (q.2, textE g)) := by
    unfold va_pl; rw [List.map_map]; rfl
  have e2 : va_pl (PL.map Prod.fst) (fN (xtP PL) (fun _ => nI 0) (fun _ => nI 0) (fun _ => nI 0) (fun _ => none) (fun _ => none) (fun _ => nI 0) (fun _ => nI 0) (fun _ => nI 0)) = PL.map (fun q => (q.1, nodeE q.2)) := by
    unfold va_pl; rw [List.map_map]
    refine List.map_congr_left (fun q hq => ?_)
    show (q.1, fN (xtP PL) _ _ _ _ _ _ _ _ q.1) = _
    simp only [fN, xtP_eq nN q hq]
  have m0 : (n0, t0) ∈ PL := List.mem_of_getElem? h0
  have inj : ∀ (j k : Nat) (q r : Nat × Nat), PL[j]? = some q → PL[k]? = some r → q.1 = r.1 → j = k := fun j k q r hq hr he => by
    have hj : j < (PL.map Prod.fst).length := by rw [List.length_map]; exact (List.getElem?_eq_some_iff.mp hq).1
    refine (List.getElem?_inj hj nN).mp ?_
    rw [List.getElem?_map, List.getElem?_map, hq, hr]
    simp [he]
  refine ⟨wX g xo an ac am (PL.map Prod.fst) (PL.map Prod.snd) (xtP PL) xar (nI 1) (nI 0) n0 (nI 0) (fun _ => 0) (nI 0) (fun _ => none) (fun _ => nI 0) (fun _ => nI 0) (fun _ => nI 0) (fun _ => none) (fun _ => none) (fun _ => nI 0) (fun _ => nI 0) (fun _ => nI 0) (fun _ _ => 0), ?_, isX.of (hd := fun _ => n0) ?_⟩
  · unfold wX
    rw [e1, e2, List.append_assoc]
    exact List.Perm.append_left _ (cwP_perm g PL)
  · refine ⟨rfl, by decide, rfl, rfl, rfl, fun a ha => ?_, fun i hi => absurd hi (Nat.not_lt_zero i), fun i _ => rfl, fun a ha b hb _ => ?_, fun k h1 h2 => ?_, fun j k h1 h2 h3 => ?_, fun q hq => ?_, fun q hq r hr he => ?_⟩
    · have ha0 : a = 0 := by simpa [S00, sL] using ha
      subst ha0
      exact ⟨List.mem_map.mpr ⟨_, m0, rfl⟩, hx 0 _ h0, rfl, rfl, rfl, rfl, rfl, rfl, rfl, rfl, fun i hi => absurd hi (Nat.not_lt_zero i)⟩
    · have ha0 : a = 0 := by simpa [S00, sL] using ha
      have hb0 : b = 0 := by simpa [S00, sL] using hb
      rw [ha0, hb0]
    · have h1 : 1 ≤ k := h1
      obtain ⟨q, hq⟩ : ∃ q, PL[k]? = some q := ⟨_, List.getElem?_eq_getElem (by omega)⟩
      refine ⟨q.1, hx k q hq, List.mem_map.mpr ⟨q, List.mem_of_getElem? hq, rfl⟩, fun a _ he => ?_⟩
      have := inj 0 k _ q h0 hq he
      omega
    · obtain ⟨q, hq⟩ : ∃ q, PL[j]? = some q := ⟨_, List.getElem?_eq_getElem (by omega)⟩
      obtain ⟨r, hr⟩ : ∃ r, PL[k]? = some r := ⟨_, List.getElem?_eq_getElem (by omega)⟩
      rw [hx j q hq, hx k r hr]
      intro he
      have := inj j k q r hq hr (Option.some.inj he)
      omega
    · obtain ⟨x, hxm, rfl⟩ := List.mem_map.mp hq
      rw [xtP_eq nN x hxm]
      exact List.mem_map.mpr ⟨x, hxm, rfl⟩
    · obtain ⟨x, hxm, rfl⟩ := List.mem_map.mp hq
      obtain ⟨y, hym, rfl⟩ := List.mem_map.mp hr
      rw [xtP_eq nN x hxm, xtP_eq nN y hym] at he
      obtain ⟨i, hi⟩ := List.getElem?_of_mem hxm
      obtain ⟨j, hj⟩ := List.getElem?_of_mem hym
      have hil : i < (PL.map Prod.snd).length := by rw [List.length_map]; exact (List.getElem?_eq_some_iff.mp hi).1
      have hij : i = j := by
        refine (List.getElem?_inj hil nT).mp ?_
        rw [List.getElem?_map, List.getElem?_map, hi, hj]
        simp [he]
      subst hij
      have : x = y := Option.some.inj (hi.symm.trans hj)
      rw [this]
theorem x_init_loop {g : EG} {p : Program} {e : Env} {s : State} {m : MethodId} {args : Array Value} {below : List Frame} {meth : Method} {c : Code} {A : Nat → Prop} {R : Room} {Q : State → Prop} (F : FB g mdX1_init p s m args meth c) (hA : ∀ q, s.heap.size ≤ q → A q) (hR : 2 ≤ R.frames ∧ 80 ≤ R.locals) (hcap : 51 ≤ R.cells ∧ 1211 ≤ R.slots) {xo an ac am n0 t0 : Nat}
    (kend : ∀ xar PL, PL.length = 24 → PL[0]? = some (n0, t0) → (∀ j q, PL[j]? = some q → xar j = some q.1) → Bx g mdX1_init p e s m args below meth c R A Q 51 1211 91 [some (.ref xo), some (.ref n0), some (.int (nI 24))] [] (cwB g xo an ac am .null xar ++ cwP g PL)) :
    ∀ (n k : Nat) (xar : Nat → Option Nat) (PL : List (Nat × Nat)), k + n = 24 → 1 ≤ k → PL.length = k → PL[0]? = some (n0, t0) → (∀ j q, PL[j]? = some q → xar j = some q.1) → Bx g mdX1_init p e s m args below meth c R A Q (3 + 2 * k) (35 + 49 * k) 66 [some (.ref xo), some (.ref n0), some (.int (nI k))] [] (cwB g xo an ac am .null xar ++ cwP g PL) := by
  intro n
  induction n with
  | zero =>
    intro k xar PL hk hk1 hlen h0 hx
    have hk24 : k = 24 := by omega
    subst hk24
    refine b_iload_n F (pc' := 67) dX1_init_66 rfl rfl ?_
    refine b_bipush F (pc' := 69) (v := nI 24) dX1_init_67 rfl (by decide) ?_
    refine b_icmp_ge F (tgt := 91) (pc' := 72) dX1_init_69 (by decide) rfl (fun _ => kend xar PL hlen h0 hx) (fun h => absurd (by decide) h)
  | succ n ih =>
    intro k xar PL hk hk1 hlen h0 hx
    refine b_iload_n F (pc' := 67) dX1_init_66 rfl rfl ?_
    refine b_bipush F (pc' := 69) (v := nI 24) dX1_init_67 rfl (by decide) ?_
    refine b_icmp_ge F (tgt := 91) (pc' := 72) dX1_init_69 (by decide) rfl (fun h => absurd h (nI_ge (by omega) (by decide))) (fun _ => ?_)
    refine b_aload_n F (pc' := 73) dX1_init_72 rfl rfl ?_
    refine b_get F (pc' := 76) (ci := 1) (fs := [.ref an, .int (nI 1), .int (nI 0), .null, .int (nI 0), .ref ac, .int (nI 0), .ref am]) (v := .ref an) inX1 0 0 rfl rfl (by decide) flX1_nodes rfl dX1_init_73 rfl ?_
    refine b_iload_n F (pc' := 77) dX1_init_76 rfl rfl ?_
    refine x1_node F hA hR ⟨by omega, by omega⟩ (Nat.le_of_ble_eq_true rfl) dX1_init_77 dX1_init_80 dX1_init_81 (fun q t => ?_)
    refine Bx.eq (ws2 := cwB g xo an ac am .null xar ++ cwP g (PL ++ [(q, t)])) rfl rfl (by rw [cwP_app, List.append_assoc]) rfl rfl ?_
    obtain ⟨qk, hqk⟩ := List.getElem?_of_mem (List.mem_append_right (cwB g xo an ac am .null xar) (cwP_mem g (q := (q, t)) (l := PL ++ [(q, t)]) (List.mem_append_right _ List.mem_cons_self)))
    refine b_aast F (pc' := 85) (a := an) (n := 24) (f := xar) 1 qk rfl hqk (show k < 24 by omega) (by decide) dX1_init_84 rfl (ws' := cwB g xo an ac am .null (va_up xar k (some q)) ++ cwP g (PL ++ [(q, t)])) rfl ?_
    refine b_iinc F (pc' := 88) (lv' := [_, _, _]) dX1_init_85 rfl rfl (nI_1 k) (by decide) (by intro w hw; right; have hw := Option.some.inj (Option.some.inj hw); subst hw; rfl) rfl ?_
    refine b_goto F (pc' := 66) dX1_init_88 (by decide) ?_
    refine Bx.eq (kc2 := 3 + 2 * (k + 1)) (ks2 := 35 + 49 * (k + 1)) (by omega) (by omega) rfl rfl rfl (ih (k + 1) _ _ (by omega) (by omega) (by rw [List.length_append, hlen]; rfl) ?_ (fun j r hj => ?_))
    · rw [List.getElem?_append_left (by omega)]; exact h0
    · by_cases hjk : j < k
      · rw [List.getElem?_append_left (by omega)] at hj
        rw [va_up_ne _ _ (by omega)]
        exact hx j r hj
      · have hj' : j = k := by
          have := (List.getElem?_eq_some_iff.mp hj).1
          rw [List.length_append, hlen] at this
          have : j < k + 1 := this
          omega
        subst hj'
        rw [List.getElem?_append_right (by omega), hlen, Nat.sub_self] at hj
        have : r = (q, t) := (Option.some.inj hj).symm
        rw [va_up_self, this]
abbrev tgtN (xo : Nat) : va_W := [(xo, .inr (1, [.null, .int 0, .int 0, .null, .int 0, .null, .int 0, .null]))]
set_option maxHeartbeats 4000000 in
theorem c_xinit {g : EG} (xo : Nat) : RetA g mdX1_init [.ref xo] (tgtN xo) 51 1211 (fun v w => v = none ∧ ∃ an ac am LN LT xt, isX g xo an ac am LN LT xt S00 w) := by
  refine RetA.of [some (.ref xo), none, none] 2 (by decide) rfl (Nat.le_of_ble_eq_true rfl) rfl (fun p e s m args below meth c A F hmn hA => ?_)
  refine b_aload_n F (pc' := 1) dX1_init_0 rfl rfl ?_
  refine b_objInit F (pc' := 4) wd_oX1 wd_oi wd_oc ⟨by decide, by decide⟩ (Nat.le_of_ble_eq_true rfl) dX1_init_1 rfl ?_
  refine b_aload_n F (pc' := 5) dX1_init_4 rfl rfl ?_
  refine b_bipush F (pc' := 7) (v := nI 24) dX1_init_5 rfl (by decide) ?_
  refine b_newN F (pc' := 10) hA wd_lX0 (by decide) (N' := 24) (by decide) (by decide) (by decide) (by decide) dX1_init_7 rfl (fun an => ?_)
  refine Bx.eq (ws2 := [(xo, .inr (1, [.null, .int 0, .int 0, .null, .int 0, .null, .int 0, .null])), (an, .inl (g.2.2.2.2.2, 24, .inr (.inr (.inr (.inr (fun _ => none))))))]) (kc2 := 1) (ks2 := 24) rfl rfl rfl rfl rfl ?_
  refine b_putF F (pc' := 13) hmn inX1 tyX1_ok nmX1 0 0 rfl rfl (by decide) flX1_nodes rfl rfl rfl rfl (show 0 < 8 by decide) dX1_init_10 rfl (ws' := [(xo, .inr (1, [.ref an, .int 0, .int 0, .null, .int 0, .null, .int 0, .null])), (an, .inl (g.2.2.2.2.2, 24, .inr (.inr (.inr (.inr (fun _ => none))))))]) rfl ?_
  refine b_aload_n F (pc' := 14) dX1_init_13 rfl rfl ?_
  refine b_iconst F (pc' := 15) (v := nI 1) dX1_init_14 rfl (by decide) ?_
  refine b_put F (pc' := 18) inX1 tyX1_ok nmX1 0 1 rfl rfl (by decide) flX1_nodeTotal rfl rfl rfl (show 1 < 8 by decide) dX1_init_15 rfl (ws' := [(xo, .inr (1, [.ref an, .int (nI 1), .int 0, .null, .int 0, .null, .int 0, .null])), (an, .inl (g.2.2.2.2.2, 24, .inr (.inr (.inr (.inr (fun _ => none))))))]) rfl ?_
  refine b_aload_n F (pc' := 19) dX1_init_18 rfl rfl ?_
  refine b_iconst F (pc' := 20) (v := nI 0) dX1_init_19 rfl (by decide) ?_
  refine b_put F (pc' := 23) inX1 tyX1_ok nmX1 0 2 rfl rfl (by decide) flX1_lastNumber rfl rfl rfl (show 2 < 8 by decide) dX1_init_20 rfl (ws' := [(xo, .inr (1, [.ref an, .int (nI 1), .int (nI 0), .null, .int 0, .null, .int 0, .null])), (an, .inl (g.2.2.2.2.2, 24, .inr (.inr (.inr (.inr (fun _ => none))))))]) rfl ?_
  refine b_aload_n F (pc' := 24) dX1_init_23 rfl rfl ?_
  refine b_iconst F (pc' := 25) (v := nI 0) dX1_init_24 rfl (by decide) ?_
  refine b_put F (pc' := 28) inX1 tyX1_ok nmX1 0 4 rfl rfl (by decide) flX1_clock rfl rfl rfl (show 4 < 8 by decide) dX1_init_25 rfl (ws' := [(xo, .inr (1, [.ref an, .int (nI 1), .int (nI 0), .null, .int (nI 0), .null, .int 0, .null])), (an, .inl (g.2.2.2.2.2, 24, .inr (.inr (.inr (.inr (fun _ => none))))))]) rfl ?_
  refine b_aload_n F (pc' := 29) dX1_init_28 rfl rfl ?_
  refine b_bipush F (pc' := 31) (v := nI 6) dX1_init_29 rfl (by decide) ?_
  refine b_newC F (pc' := 33) hA wd_achar (by decide) (N' := 6) (by decide) (by decide) (by decide) (by decide) dX1_init_31 rfl (fun ac => ?_)
  refine Bx.eq (ws2 := [(xo, .inr (1, [.ref an, .int (nI 1), .int (nI 0), .null, .int (nI 0), .null, .int 0, .null])), (an, .inl (g.2.2.2.2.2, 24, .inr (.inr (.inr (.inr (fun _ => none)))))), (ac, .inl (g.2.2.1, 6, .inl (fun _ => 0)))]) (kc2 := 2) (ks2 := 30) rfl rfl rfl rfl rfl ?_
  refine b_putF F (pc' := 36) hmn inX1 tyX1_ok nmX1 0 5 rfl rfl (by decide) flX1_clip rfl rfl rfl rfl (show 5 < 8 by decide) dX1_init_33 rfl (ws' := [(xo, .inr (1, [.ref an, .int (nI 1), .int (nI 0), .null, .int (nI 0), .ref ac, .int 0, .null])), (an, .inl (g.2.2.2.2.2, 24, .inr (.inr (.inr (.inr (fun _ => none)))))), (ac, .inl (g.2.2.1, 6, .inl (fun _ => 0)))]) rfl ?_
  refine b_aload_n F (pc' := 37) dX1_init_36 rfl rfl ?_
  refine b_iconst F (pc' := 38) (v := nI 0) dX1_init_37 rfl (by decide) ?_
  refine b_put F (pc' := 41) inX1 tyX1_ok nmX1 0 6 rfl rfl (by decide) flX1_clipLength rfl rfl rfl (show 6 < 8 by decide) dX1_init_38 rfl (ws' := [(xo, .inr (1, [.ref an, .int (nI 1), .int (nI 0), .null, .int (nI 0), .ref ac, .int (nI 0), .null])), (an, .inl (g.2.2.2.2.2, 24, .inr (.inr (.inr (.inr (fun _ => none)))))), (ac, .inl (g.2.2.1, 6, .inl (fun _ => 0)))]) rfl ?_
  refine b_aload_n F (pc' := 42) dX1_init_41 rfl rfl ?_
  refine b_iconst F (pc' := 43) (v := nI 5) dX1_init_42 rfl (by decide) ?_
  refine b_newN F (pc' := 46) hA wd_lX0 (by decide) (N' := 5) (by decide) (by decide) (by decide) (by decide) dX1_init_43 rfl (fun am => ?_)
  refine Bx.eq (ws2 := [(xo, .inr (1, [.ref an, .int (nI 1), .int (nI 0), .null, .int (nI 0), .ref ac, .int (nI 0), .null])), (an, .inl (g.2.2.2.2.2, 24, .inr (.inr (.inr (.inr (fun _ => none)))))), (ac, .inl (g.2.2.1, 6, .inl (fun _ => 0))), (am, .inl (g.2.2.2.2.2, 5, .inr (.inr (.inr (.inr (fun _ => none))))))]) (kc2 := 3) (ks2 := 35) rfl rfl rfl rfl rfl ?_
  refine b_putF F (pc' := 49) hmn inX1 tyX1_ok nmX1 0 7 rfl rfl (by decide) flX1_marks rfl rfl rfl rfl (show 7 < 8 by decide) dX1_init_46 rfl (ws' := [(xo, .inr (1, [.ref an, .int (nI 1), .int (nI 0), .null, .int (nI 0), .ref ac, .int (nI 0), .ref am])), (an, .inl (g.2.2.2.2.2, 24, .inr (.inr (.inr (.inr (fun _ => none)))))), (ac, .inl (g.2.2.1, 6, .inl (fun _ => 0))), (am, .inl (g.2.2.2.2.2, 5, .inr (.inr (.inr (.inr (fun _ => none))))))]) rfl ?_
  refine x1_node F hA ⟨by decide, by decide⟩ ⟨by decide, by decide⟩ (by decide) dX1_init_49 dX1_init_52 dX1_init_53 (fun n0 t0 => ?_)
  refine Bx.eq (ws2 := cwB g xo an ac am .null (fun _ => none) ++ cwP g [(n0, t0)]) rfl rfl rfl rfl rfl ?_
  refine b_astore_n F (pc' := 57) (lv' := [_, _, _]) dX1_init_56 rfl (by decide) (by intro w hw; right; have hw := Option.some.inj (Option.some.inj hw); subst hw; rfl) rfl ?_
  refine b_aload_n F (pc' := 58) dX1_init_57 rfl rfl ?_
  refine b_get F (pc' := 61) (ci := 1) (fs := [.ref an, .int (nI 1), .int (nI 0), .null, .int (nI 0), .ref ac, .int (nI 0), .ref am]) (v := .ref an) inX1 0 0 rfl rfl (by decide) flX1_nodes rfl dX1_init_58 rfl ?_
  refine b_iconst F (pc' := 62) (v := nI 0) dX1_init_61 rfl (by decide) ?_
  refine b_aload_n F (pc' := 63) dX1_init_62 rfl rfl ?_
  refine b_aast F (pc' := 64) (a := an) (n := 24) (f := fun _ => none) 1 4 rfl rfl (show 0 < 24 by decide) (by decide) dX1_init_63 rfl (ws' := cwB g xo an ac am .null (va_up (fun _ => none) 0 (some n0)) ++ cwP g [(n0, t0)]) rfl ?_
  refine b_iconst F (pc' := 65) (v := nI 1) dX1_init_64 rfl (by decide) ?_
  refine b_istore_n F (pc' := 66) (lv' := [_, _, _]) dX1_init_65 rfl (by decide) (by intro w hw; right; have hw := Option.some.inj (Option.some.inj hw); subst hw; rfl) rfl ?_
  refine x_init_loop F hA ⟨by decide, by decide⟩ ⟨by decide, by decide⟩ (fun xar PL hlen h0 hx => ?_) 23 1 _ [(n0, t0)] rfl (by decide) rfl rfl (fun j q hj => ?_)
  · refine b_aload_n F (pc' := 92) dX1_init_91 rfl rfl ?_
    refine b_aload_n F (pc' := 93) dX1_init_92 rfl rfl ?_
    refine b_put F (pc' := 96) (ci := 1) (fs := [.ref an, .int (nI 1), .int (nI 0), .null, .int (nI 0), .ref ac, .int (nI 0), .ref am]) inX1 tyX1_ok nmX1 0 3 rfl rfl (by decide) flX1_currentNode rfl rfl rfl (show 3 < 8 by decide) dX1_init_93 rfl (ws' := cwB g xo an ac am (.ref n0) xar ++ cwP g PL) rfl ?_
    refine b_vret F rfl dX1_init_96 (fun hD => ?_)
    obtain ⟨w', h1, h2⟩ := x_init_end hlen h0 hx hD
    exact ⟨w', h1, rfl, _, _, _, _, _, _, h2⟩
  · match j, hj with
    | 0, hj =>
      have : q = (n0, t0) := (Option.some.inj hj).symm
      rw [this, va_up_self]
    | j + 1, hj => exact absurd hj (by simp)
