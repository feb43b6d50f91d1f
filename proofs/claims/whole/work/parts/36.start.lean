theorem wd_nX1 : Cond.instantiable RX1 8 ∈ lw_good := lw_in (by decide +kernel) rfl
theorem wd_nX2 : Cond.instantiable RX2 20 ∈ lw_good := lw_in (by decide +kernel) rfl
theorem wd_kX1 : Cond.classLink RL 7 RX1 ∈ lw_good := lw_in (by decide +kernel) rfl
theorem wd_kX2 : Cond.classLink RL 10 RX2 ∈ lw_good := lw_in (by decide +kernel) rfl
theorem wd_jX1 : Cond.methodLink RL 9 yX1_init ∈ lw_good := lw_in (by decide +kernel) rfl
theorem wd_jX2 : Cond.methodLink RL 12 yX2_init ∈ lw_good := lw_in (by decide +kernel) rfl
theorem nest_in : ∀ w ∈ nestF, w ∈ lw_tbl := by decide +kernel
theorem nest_tab : ∀ w ∈ nestF, w.onTables = true := by decide +kernel
theorem wd_ao : Cond.arrayOver (.object "EditTree$Node") ∈ lw_tbl := by decide +kernel
theorem wd_nest : Cond.methodLinkNest "EditTree" 35 yX0_init "EditTree" ∈ lw_tbl := by decide +kernel
theorem b_callI {g : EG} {d : MD} {p : Program} {e : Env} {s : State} {m : MethodId} {args : Array Value} {below : List Frame} {meth : Method} {c : Code} {R : Room} {A : Nat → Prop} {Q : State → Prop} {kc ks pc pc' : Nat} {lv : List (Option Value)} {wa wb : va_W} (F : FB g d p s m args meth c) {y : MethodName} {bs : ByteArray} {mL rk mc ms b index : Nat} {rest : List Value} {Ps : Option Value → va_W → Prop} (hA : ∀ q, s.heap.size ≤ q → A q) (hlink : Cond.methodLink d.1.cls index y ∈ lw_good) (hinst : Cond.instanceMethod y ∈ lw_good) (hini : Cond.initialized y.cls ∈ lw_good) (hcode : Cond.code y bs mL none ∈ lw_good) (hnm : y.name = "<init>") (hdd : y.cls ≠ "java/lang/invoke/MethodHandle" ∧ y.cls ≠ "java/lang/invoke/VarHandle" ∧ (parseMethodDescriptor y.desc).map (fun d => d.parameters.length) = some 0) (hM : RetA g (y, bs, mL, none, rk) [.ref b] wb mc ms Ps) (hR : rk + 1 ≤ R.frames ∧ 8 + (mL + 11) + 40 * rk ≤ R.locals) (hcap : kc + mc ≤ R.cells ∧ ks + ms ≤ R.slots) (hcat : (rest.map fun v => v.category).sum ≤ 8) (hd : decode d.2.1 pc = .ok (.invokespecial index, 3)) (hp : pc + 3 = pc') (k : ∀ v w, Ps v w → Bx g d p e s m args below meth c R A Q (kc + mc) (ks + ms) pc' lv (v.toList ++ rest) (wa ++ w)) : Bx g d p e s m args below meth c R A Q kc ks pc lv (.ref b :: rest) (wa ++ wb) := by
  subst hp; intro H locs ls hP hD hS hl
  have Tt := F.2.2.2.2.2.1
  have hP3 : va_P g.2.1 vwCl (wa ++ wb ++ []) H := by rw [List.append_nil]; exact hP
  have hD3 : va_D A (wa ++ wb ++ []) := by rw [List.append_nil]; exact hD
  have hPb : va_P g.2.1 vwCl wb H := va_P.iff.mpr fun q hq => va_P.iff.mp hP q (List.mem_append_right _ hq)
  have hDb : va_D (fun _ => True) wb := by
    refine va_D.iff.mpr ⟨?_, fun _ _ => trivial⟩
    have h := (va_D.iff.mp hD).1
    rw [List.map_append, List.nodup_append] at h
    exact h.2.1
  refine b_after (mc := mc) (ms := ms) (wa := wa) (wb := wb) (wc := []) (va_runI (As := []) (rest := rest) ⟨F.1, F.2.1, F.2.2.1, F.2.2.2.2.1, Tt⟩ (hM H.size) (cwI 0 Tt (good_good (y, bs, mL, none, rk) hcode) rfl rfl rfl (Tt _ hini) (Tt _ hlink) (Tt _ hinst) hnm hdd hR) ⟨blindA _ _, fun U hU hWm => ⟨rfl, by rw [hU], by rw [hU]; exact hPb, va_K.moved hWm.alike F.2.2.2.2.2.2.2.1, hDb, nestOk.warm hWm F.2.2.2.2.2.2.2.2.1, xOk.warm hWm F.2.2.2.2.2.2.2.2.2⟩⟩ rfl rfl hl.1 rfl (lv_room hcat) hd hcap) hA hP3 hD3 hS hl (fun v w h => ?_)
  rw [List.append_nil]
  exact k v w h
theorem arr_known {s : State} {args : Array Value} {ty : FieldType} (h : (Cond.arrayClass ty).before args s = true) : ∃ cA : ClassId, ArrOfT s cA ty ∧ s.vm.findClass ("[" ++ ty.toString) = some cA := by
  obtain ⟨cA, kA, comp, h1, h2, h3⟩ := Cond.arrayClass_spec h
  exact ⟨cA, fun n z => ⟨fun k h => (by cases h), kA, h2, comp, h3⟩, h1⟩
set_option maxHeartbeats 4000000 in
set_option maxRecDepth 100000 in
/-- THE LAW, from its entry -/
theorem whole_start {p : Program} {e : Env} {s : State} {m : MethodId} {below : List Frame} {meth : Method} {c : Code} (l : Launch) (hflags : l.flags = flags0) {b L : Nat} {xs : Nat → Int32} (hL : L ≤ 1536) (C0 : lw_At p s m meth c b L xs) : W p l e room_1 s m #[Value.ref b] below meth c s.heap [] 0 0 (lw_Z below #[Value.ref b] s) (entryFrame m ([Value.ref b] : List Value).toArray 4) := by
  obtain ⟨hx, hb, hr, hml, hown, hts, hX, hbl, hlocks, hgv⟩ := id C0
  have hg : ∀ w ∈ lw_good, w.before #[Value.ref b] s = true := fun w hw => hts w (List.mem_filter.mp hw).1
  obtain ⟨c0, iS0, hKn0⟩ := u_known (C := RX0) (T := TX0) (N := 9) (n := 9) hts inX0 (hg _ wd_nX0)
  obtain ⟨c1, iS1, hKn1⟩ := u_known (C := RX1) (T := TX1) (N := 8) (n := 8) hts inX1 (hg _ wd_nX1)
  obtain ⟨c2, iS2, hKn2⟩ := u_known (C := RX2) (T := TX2) (N := 20) (n := 20) hts inX2 (hg _ wd_nX2)
  obtain ⟨dC, dI, hKc⟩ : ∃ (dC : Nat → ClassId) (dI : Nat → Nat → Nat), ∀ (k : Nat) (q : vw_C), vwCl[k]? = some q → u_Kn s q.1 q.2.1 q.2.2 (dC k) (dI k) := by
    refine ⟨fun k => if k = 0 then c0 else if k = 1 then c1 else c2, fun k => if k = 0 then iS0 else if k = 1 then iS1 else iS2, ?_⟩
    intro k q hq
    match k, hq with
    | 0, hq => cases hq; exact hKn0
    | 1, hq => cases hq; exact hKn1
    | 2, hq => cases hq; exact hKn2
    | k + 3, hq => simp [vwCl] at hq
  obtain ⟨cC, aC, fC⟩ := arr_known (hg _ wd_achar)
  obtain ⟨cI, aI, fI⟩ := arr_known (hg _ wd_aint)
  obtain ⟨cZ, aZ, fZ⟩ := arr_known (hg _ wd_aboolean)
  obtain ⟨comp, cN, kN, n1, n2, n3, n4, n5⟩ := Cond.arrayOver_spec (hts _ wd_ao)
  have aN : ArrOfT s cN (.object "EditTree$Node") := fun N z => ⟨(fun k h => by cases h), kN, n3, comp, n4⟩
  have hK : va_K (dC, dI) vwCl [(cC, .char), (cI, .int), (cZ, .boolean), (cN, .object "EditTree$Node")] s := ⟨hKc, fun k q hq => by
    match k, hq with
    | 0, hq => cases hq; exact ⟨aC, fC⟩
    | 1, hq => cases hq; exact ⟨aI, fI⟩
    | 2, hq => cases hq; exact ⟨aZ, fZ⟩
    | 3, hq => cases hq; exact ⟨aN, kN, comp, n3, n4, n1, n5⟩
    | k + 4, hq => simp at hq⟩
  have hnest : nestOk s := fun w hw => va_Nw.of (nest_tab w hw) (hts w (nest_in w hw))
  have hxok : xOk s := ⟨va_AO.of (hts _ wd_ao), va_Nw.of rfl (hts _ wd_nest)⟩
  obtain ⟨g, hg1, F⟩ : ∃ g : EG, g.1 = l ∧ FB g mdL p s m #[Value.ref b] meth c := ⟨(l, (dC, dI), cC, cI, cZ, cN), rfl, hx, hb, hml, hr, hown, hg, hlocks, hK, hnest, hxok⟩
  subst hg1
  have hA : ∀ q : Nat, s.heap.size ≤ q → (fun q : Nat => s.heap.size ≤ q) q := fun _ h => h
  have K : Bx g mdL p e s m #[Value.ref b] below meth c room_1 (fun q => s.heap.size ≤ q) (lw_Z below #[Value.ref b] s) 0 0 0 [some (.ref b), none, none, none] [] [] := by
    refine b_new F (pc' := 3) (ci := 1) (C := RX1) (T := TX1) (ty0 := tyX1) (N := 8) (fs := [.null, .int 0, .int 0, .null, .int 0, .null, .int 0, .null]) hA inX1 tyX1_ok wd_kX1 wd_nX1 wd_iX1 rfl (fun j hj => ?_) (by decide) (by decide) dL_law_0 rfl (fun xo => ?_)
    · match j, hj with
      | 0, _ => rfl
      | 1, _ => rfl
      | 2, _ => rfl
      | 3, _ => rfl
      | 4, _ => rfl
      | 5, _ => rfl
      | 6, _ => rfl
      | 7, _ => rfl
      | j + 8, hj => exact absurd hj (by omega)
    refine b_dup F (pc' := 4) dL_law_3 rfl rfl ?_
    refine b_callI F (pc' := 7) (wa := []) (wb := tgtN xo) hA wd_jX1 wd_mX1 wd_iX1 wd_cX1 rfl (by decide +kernel) (c_xinit xo) ⟨by decide, by decide⟩ ⟨by decide, by decide⟩ (Nat.le_of_ble_eq_true rfl) dL_law_4 rfl ?_
    rintro v w1 ⟨rfl, an, ac, am, LN, LT, xt, h1⟩
    refine b_astore_n F (pc' := 8) (lv' := [_, _, _, _]) dL_law_7 rfl (by decide) (by intro w hw; right; have hw := Option.some.inj (Option.some.inj hw); subst hw; rfl) rfl ?_
    refine b_new F (pc' := 11) (ci := 2) (C := RX2) (T := TX2) (ty0 := tyX2) (N := 20) (fs := [.int 0, .int 0, .null, .null, .null, .null, .null, .null, .null, .null, .null, .null, .int 0, .int 0, .int 0, .null, .null, .null, .int 0, .long 0]) hA inX2 tyX2_ok wd_kX2 wd_nX2 wd_iX2 rfl (fun j hj => ?_) (by decide) (by decide) dL_law_8 rfl (fun mo => ?_)
    · match j, hj with
      | 0, _ => rfl
      | 1, _ => rfl
      | 2, _ => rfl
      | 3, _ => rfl
      | 4, _ => rfl
      | 5, _ => rfl
      | 6, _ => rfl
      | 7, _ => rfl
      | 8, _ => rfl
      | 9, _ => rfl
      | 10, _ => rfl
      | 11, _ => rfl
      | 12, _ => rfl
      | 13, _ => rfl
      | 14, _ => rfl
      | 15, _ => rfl
      | 16, _ => rfl
      | 17, _ => rfl
      | 18, _ => rfl
      | 19, _ => rfl
      | j + 20, hj => exact absurd hj (by omega)
    refine b_dup F (pc' := 12) dL_law_11 rfl rfl ?_
    refine b_callI F (pc' := 15) (wa := w1) (wb := refN mo) hA wd_jX2 wd_mX2 wd_iX2 wd_cX2 rfl (by decide +kernel) (c_minit mo) ⟨by decide, by decide⟩ ⟨by decide, by decide⟩ (Nat.le_of_ble_eq_true rfl) dL_law_12 rfl ?_
    rintro v w2 ⟨rfl, mr, h2⟩
    refine b_astore_n F (pc' := 16) (lv' := [_, _, _, _]) dL_law_15 rfl (by decide) (by intro w hw; right; have hw := Option.some.inj (Option.some.inj hw); subst hw; rfl) rfl ?_
    refine b_iconst F (pc' := 17) (v := nI 0) dL_law_16 rfl (by decide) ?_
    refine b_istore_n F (pc' := 18) (lv' := [_, _, _, _]) dL_law_17 rfl (by decide) (by intro w hw; right; have hw := Option.some.inj (Option.some.inj hw); subst hw; rfl) rfl ?_
    refine Bx.wide (kc' := 600000) (ks' := 7302250) (by decide) (by decide) ?_
    exact law_loop F hX hbl hL hr hlocks (L + 1) 0 S00 w1 w2 (Nat.zero_le _) (by omega) Inv_00 h1 h2
  have hl := lv_entry ([.ref b]) (n := 4) (Nat.le_of_ble_eq_true rfl)
  rw [lg_entry_eq]
  refine K s.heap [] _ (fun k q h => by simp at h) ⟨fun i j p q h => by simp at h, fun k q h => by simp at h⟩ va_S.rf ⟨hl.1, hl.2.1, fun i v hi => ?_⟩
  have h1 := lw_args_at [.ref b] 0 i v (lw_args_pad [.ref b] 3 i v hi)
  rw [Nat.zero_add] at h1
  exact hl.2.2 (i, v) h1
