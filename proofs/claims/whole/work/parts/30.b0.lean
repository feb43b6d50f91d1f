/-! ===== bodies that allocate: a judgement at one machine, with the counts of cells and slots ===== -/
def xOk (U : State) : Prop := va_AO "EditTree$Node" U ∧ va_Nw (.methodLinkNest "EditTree" 35 yX0_init "EditTree") U
theorem xOk.warm {s U : State} (hW : s.WarmedH U.vm) (h : xOk s) : xOk U := ⟨h.1.moved hW.alike, va_Nw.warmM hW h.2⟩
theorem xOk.same {s U : State} (hv : s.vm = U.vm) (h : xOk s) : xOk U := ⟨h.1.moved (hv ▸ Vm.Alike.refl s.vm), va_Nw.same rfl hv h.2⟩
def FB (g : EG) (d : MD) (p : Program) (s : State) (m : MethodId) (args : Array Value) (meth : Method) (c : Code) : Prop :=
  p.tables.exec = Jvm.exec ∧ c.code = d.2.1 ∧ c.maxLocals = d.2.2.1 ∧ meth.sig.returnType = d.2.2.2.1 ∧ s.vm.findClass d.1.cls = some m.cls ∧ (∀ w ∈ lw_good, w.before args s = true) ∧ meth.locks = false ∧ va_K g.2.1 vwCl (tysG g) s ∧ nestOk s ∧ xOk s
def Bx (g : EG) (d : MD) (p : Program) (e : Env) (s : State) (m : MethodId) (args : Array Value) (below : List Frame) (meth : Method) (c : Code) (R : Room) (A : Nat → Prop) (Q : State → Prop) (kc ks pc : Nat) (lv : List (Option Value)) (st : List Value) (ws : va_W) : Prop :=
  ∀ (H : Heap) (locs : List Loc) (ls : Array Slot), va_P g.2.1 vwCl ws H → va_D A ws → va_S A s.heap H locs → lw_has ls d.2.2.1 lv → W p g.1 e R s m args below meth c H locs kc ks Q (F0 m pc ls st)
theorem va_D.iff {A : Nat → Prop} {ws : va_W} : va_D A ws ↔ (ws.map Prod.fst).Nodup ∧ ∀ q ∈ ws, A q.1 := by
  constructor
  · intro h
    refine ⟨?_, fun q hq => ?_⟩
    · rw [List.nodup_iff_pairwise_ne, List.pairwise_iff_getElem]
      intro i j hi hj hij he
      rw [List.length_map] at hi hj
      rw [List.getElem_map, List.getElem_map] at he
      have := h.1 i j _ _ (List.getElem?_eq_getElem hi) (List.getElem?_eq_getElem hj) he
      omega
    · obtain ⟨i, hi⟩ := List.getElem?_of_mem hq
      exact h.2 i q hi
  · rintro ⟨h1, h2⟩
    refine ⟨fun i j p q hp hq he => ?_, fun k q hq => h2 q (List.mem_of_getElem? hq)⟩
    have hi : i < (ws.map Prod.fst).length := by rw [List.length_map]; exact (List.getElem?_eq_some_iff.mp hp).1
    refine (List.getElem?_inj hi h1).mp ?_
    rw [List.getElem?_map, List.getElem?_map, hp, hq]
    simp [he]
theorem va_P.iff {D : va_G} {cl : List vw_C} {ws : va_W} {H : Heap} : va_P D cl ws H ↔ ∀ q ∈ ws, va_at D cl q H := by
  constructor
  · intro h q hq
    obtain ⟨i, hi⟩ := List.getElem?_of_mem hq
    exact h i q hi
  · intro h k q hk
    exact h q (List.mem_of_getElem? hk)
/-- a call on a part of the world; the rest stays -/
theorem va_mid {A : Nat → Prop} {D : va_G} {cl : List vw_C} {wa wb wc wb' : va_W} {H H1 : Heap} (hP : va_P D cl (wa ++ wb ++ wc) H) (hD : va_D A (wa ++ wb ++ wc)) (hA : ∀ q, H.size ≤ q → A q) (hk : ∀ q : Nat, q < H.size → ¬ va_A wb H.size q → H1[q]? = H[q]?) (hP1 : va_P D cl wb' H1) (hD1 : va_D (va_A wb H.size) wb') : va_P D cl (wa ++ wb' ++ wc) H1 ∧ va_D A (wa ++ wb' ++ wc) := by
  rw [va_D.iff] at hD hD1
  rw [va_P.iff] at hP hP1
  obtain ⟨n1, a1⟩ := hD
  obtain ⟨n2, a2⟩ := hD1
  rw [List.map_append, List.map_append, List.nodup_append, List.nodup_append] at n1
  obtain ⟨⟨na, nb, nab⟩, nc, nabc⟩ := n1
  have inb : ∀ q, va_A wb H.size q → q ∈ wb.map Prod.fst ∨ H.size ≤ q := by
    rintro q (⟨k, x, h⟩ | h)
    · exact Or.inl (List.mem_map.mpr ⟨_, List.mem_of_getElem? h, rfl⟩)
    · exact Or.inr h
  have la : ∀ q ∈ wa, q.1 < H.size ∧ ¬ va_A wb H.size q.1 := fun q hq => by
    have hl := (hP q (List.mem_append_left _ (List.mem_append_left _ hq))).lt
    refine ⟨hl, fun h => ?_⟩
    rcases inb _ h with h | h
    · exact nab _ (List.mem_map.mpr ⟨q, hq, rfl⟩) _ h rfl
    · omega
  have lc : ∀ q ∈ wc, q.1 < H.size ∧ ¬ va_A wb H.size q.1 := fun q hq => by
    have hl := (hP q (List.mem_append_right _ hq)).lt
    refine ⟨hl, fun h => ?_⟩
    rcases inb _ h with h | h
    · exact nabc _ (List.mem_append_right _ h) _ (List.mem_map.mpr ⟨q, hq, rfl⟩) rfl
    · omega
  refine ⟨va_P.iff.mpr fun q hq => ?_, va_D.iff.mpr ⟨?_, fun q hq => ?_⟩⟩
  · rcases List.mem_append.mp hq with hq | hq
    · rcases List.mem_append.mp hq with hq | hq
      · exact (hP q (List.mem_append_left _ (List.mem_append_left _ hq))).kept (hk _ (la q hq).1 (la q hq).2)
      · exact hP1 q hq
    · exact (hP q (List.mem_append_right _ hq)).kept (hk _ (lc q hq).1 (lc q hq).2)
  · rw [List.map_append, List.map_append, List.nodup_append, List.nodup_append]
    refine ⟨⟨na, n2, fun x hx y hy he => ?_⟩, nc, fun x hx y hy he => ?_⟩
    · obtain ⟨q, hq, rfl⟩ := List.mem_map.mp hx
      obtain ⟨r, hr, rfl⟩ := List.mem_map.mp hy
      exact (la q hq).2 (he ▸ a2 r hr)
    · obtain ⟨r, hr, rfl⟩ := List.mem_map.mp hy
      rcases List.mem_append.mp hx with hx | hx
      · exact nabc _ (List.mem_append_left _ hx) _ (List.mem_map.mpr ⟨r, hr, rfl⟩) he
      · obtain ⟨q, hq, rfl⟩ := List.mem_map.mp hx
        exact (lc r hr).2 (he ▸ a2 q hq)
  · rcases List.mem_append.mp hq with hq | hq
    · rcases List.mem_append.mp hq with hq | hq
      · exact a1 q (List.mem_append_left _ (List.mem_append_left _ hq))
      · rcases a2 q hq with ⟨k, x, h⟩ | h
        · exact a1 (q.1, x) (List.mem_append_left _ (List.mem_append_right _ (List.mem_of_getElem? h)))
        · exact hA _ h
    · exact a1 q (List.mem_append_right _ hq)
theorem lays_inG {C : String} {T : u_T} {N : Nat} (h : ∀ w ∈ u_ws C T N, w ∈ lw_tbl) : ∀ w ∈ u_ws C T N, w ∈ lw_good := by
  intro w hw
  refine lw_in (h w hw) ?_
  obtain ⟨k, -, rfl⟩ := List.mem_map.mp hw
  exact lay_good C T k
theorem good_good (z : MD) (hc : Cond.code z.1 z.2.1 z.2.2.1 z.2.2.2.1 ∈ lw_good) : GoodIn lw_good (wsD z) := by
  intro w hw
  have h1 : w ∈ lw_good := by
    rcases List.mem_cons.mp hw with rfl | h
    · exact hc
    · exact h
  exact ⟨h1, good_of_word (List.mem_filter.mp h1).2⟩
section BX
variable {g : EG} {d : MD} {p : Program} {e : Env} {s : State} {m : MethodId} {args : Array Value} {below : List Frame} {meth : Method} {c : Code} {R : Room} {A : Nat → Prop} {Q : State → Prop} {kc ks kc' ks' pc pc' tgt : Nat} {lv lv' : List (Option Value)} {st st' : List Value} {ws ws' wa wb wc : va_W}
theorem Bx.eq {ws2 : va_W} {kc2 ks2 : Nat} {lv2 : List (Option Value)} {st2 : List Value} (h1 : kc = kc2) (h2 : ks = ks2) (h3 : ws = ws2) (h4 : lv = lv2) (h5 : st = st2) (k : Bx g d p e s m args below meth c R A Q kc2 ks2 pc lv2 st2 ws2) : Bx g d p e s m args below meth c R A Q kc ks pc lv st ws := by
  subst h1; subst h2; subst h3; subst h4; subst h5; exact k
theorem Bx.wide (h1 : kc ≤ kc') (h2 : ks ≤ ks') (k : Bx g d p e s m args below meth c R A Q kc' ks' pc lv st ws) : Bx g d p e s m args below meth c R A Q kc ks pc lv st ws := fun H locs ls hP hD hS hl => W.widen h1 h2 (k H locs ls hP hD hS hl)
theorem Bx.go (k : Bx g d p e s m args below meth c R A Q kc ks pc' lv' st' ws) (h : ∀ (H : Heap) (locs : List Loc) (ls : Array Slot), lw_has ls d.2.2.1 lv → (∀ ls', lw_has ls' d.2.2.1 lv' → W p g.1 e R s m args below meth c H locs kc ks Q (F0 m pc' ls' st')) → W p g.1 e R s m args below meth c H locs kc ks Q (F0 m pc ls st)) : Bx g d p e s m args below meth c R A Q kc ks pc lv st ws :=
  fun H locs ls hP hD hS hl => h H locs ls hl (fun ls' hl' => k H locs ls' hP hD hS hl')
theorem b_iconst (F : FB g d p s m args meth c) {n : Int} {v : Int32} (hd : decode d.2.1 pc = .ok (.iconst n, 1)) (hp : pc + 1 = pc') (hv : Int32.ofInt n = v) (k : Bx g d p e s m args below meth c R A Q kc ks pc' lv (.int v :: st) ws) : Bx g d p e s m args below meth c R A Q kc ks pc lv st ws := by
  subst hp; exact Bx.go k fun H locs ls hl kk => lv_iconst F.1 F.2.1 hd hv (kk ls hl)
theorem b_bipush (F : FB g d p s m args meth c) {n : Int} {v : Int32} (hd : decode d.2.1 pc = .ok (.bipush n, 2)) (hp : pc + 2 = pc') (hv : (Int8.ofInt n).toInt32 = v) (k : Bx g d p e s m args below meth c R A Q kc ks pc' lv (.int v :: st) ws) : Bx g d p e s m args below meth c R A Q kc ks pc lv st ws := by
  subst hp; exact Bx.go k fun H locs ls hl kk => lv_bipush F.1 F.2.1 hd hv (kk ls hl)
theorem b_sipush (F : FB g d p s m args meth c) {n : Int} {v : Int32} (hd : decode d.2.1 pc = .ok (.sipush n, 3)) (hp : pc + 3 = pc') (hv : (Int16.ofInt n).toInt32 = v) (k : Bx g d p e s m args below meth c R A Q kc ks pc' lv (.int v :: st) ws) : Bx g d p e s m args below meth c R A Q kc ks pc lv st ws := by
  subst hp; exact Bx.go k fun H locs ls hl kk => lv_sipush F.1 F.2.1 hd hv (kk ls hl)
theorem b_null (F : FB g d p s m args meth c)  (hd : decode d.2.1 pc = .ok (.aconst_null, 1)) (hp : pc + 1 = pc') (k : Bx g d p e s m args below meth c R A Q kc ks pc' lv (va_rf none :: st) ws) : Bx g d p e s m args below meth c R A Q kc ks pc lv st ws := by
  subst hp; exact Bx.go k fun H locs ls hl kk => lv_null F.1 F.2.1 hd (kk ls hl)
theorem b_aload_n (F : FB g d p s m args meth c) {i : Fin 4} {x : Nat} (hd : decode d.2.1 pc = .ok (.aload_n i, 1)) (hp : pc + 1 = pc') (hi : lv[(i : Nat)]? = some (some (.ref x))) (k : Bx g d p e s m args below meth c R A Q kc ks pc' lv (.ref x :: st) ws) : Bx g d p e s m args below meth c R A Q kc ks pc lv st ws := by
  subst hp; exact Bx.go k fun H locs ls hl kk => lv_aload_n F.1 F.2.1 hd rfl (hl.at hi) (kk ls hl)
theorem b_iload_n (F : FB g d p s m args meth c) {i : Fin 4} {x : Int32} (hd : decode d.2.1 pc = .ok (.iload_n i, 1)) (hp : pc + 1 = pc') (hi : lv[(i : Nat)]? = some (some (.int x))) (k : Bx g d p e s m args below meth c R A Q kc ks pc' lv (.int x :: st) ws) : Bx g d p e s m args below meth c R A Q kc ks pc lv st ws := by
  subst hp; exact Bx.go k fun H locs ls hl kk => lv_iload_n F.1 F.2.1 hd rfl (hl.at hi) (kk ls hl)
theorem b_istore_n (F : FB g d p s m args meth c) {i : Fin 4} {x : Int32} (hd : decode d.2.1 pc = .ok (.istore_n i, 1)) (hp : pc + 1 = pc') (hn : (i : Nat) < d.2.2.1) (hv : lw_pv lv i) (hs : lv.set (i : Nat) (some (.int x)) = lv') (k : Bx g d p e s m args below meth c R A Q kc ks pc' lv' st ws) : Bx g d p e s m args below meth c R A Q kc ks pc lv (.int x :: st) ws := by
  subst hp; exact Bx.go k fun H locs ls hl kk => lv_istore_n F.1 F.2.1 hd rfl hl.to hn rfl (fun ls' h => kk ls' (hs ▸ lw_set1 h hv))
theorem b_astore_n (F : FB g d p s m args meth c) {i : Fin 4} {x : Nat} (hd : decode d.2.1 pc = .ok (.astore_n i, 1)) (hp : pc + 1 = pc') (hn : (i : Nat) < d.2.2.1) (hv : lw_pv lv i) (hs : lv.set (i : Nat) (some (.ref x)) = lv') (k : Bx g d p e s m args below meth c R A Q kc ks pc' lv' st ws) : Bx g d p e s m args below meth c R A Q kc ks pc lv (.ref x :: st) ws := by
  subst hp; exact Bx.go k fun H locs ls hl kk => lv_astore_n F.1 F.2.1 hd rfl hl.to hn rfl (fun ls' h => kk ls' (hs ▸ lw_set1 h hv))
theorem b_iadd (F : FB g d p s m args meth c) {x y : Int32} (hd : decode d.2.1 pc = .ok (.iadd, 1)) (hp : pc + 1 = pc') (k : Bx g d p e s m args below meth c R A Q kc ks pc' lv (.int (x + y) :: st) ws) : Bx g d p e s m args below meth c R A Q kc ks pc lv (.int y :: .int x :: st) ws := by
  subst hp; exact Bx.go k fun H locs ls hl kk => lv_iadd F.1 F.2.1 hd (kk ls hl)
theorem b_isub (F : FB g d p s m args meth c) {x y : Int32} (hd : decode d.2.1 pc = .ok (.isub, 1)) (hp : pc + 1 = pc') (k : Bx g d p e s m args below meth c R A Q kc ks pc' lv (.int (x - y) :: st) ws) : Bx g d p e s m args below meth c R A Q kc ks pc lv (.int y :: .int x :: st) ws := by
  subst hp; exact Bx.go k fun H locs ls hl kk => lv_isub F.1 F.2.1 hd (kk ls hl)
theorem b_dup (F : FB g d p s m args meth c) {v : Value} (hd : decode d.2.1 pc = .ok (.dup, 1)) (hp : pc + 1 = pc') (hc : v.category = 1) (k : Bx g d p e s m args below meth c R A Q kc ks pc' lv (v :: v :: st) ws) : Bx g d p e s m args below meth c R A Q kc ks pc lv (v :: st) ws := by
  subst hp; exact Bx.go k fun H locs ls hl kk => lv_dup F.1 F.2.1 hd hc (kk ls hl)
theorem b_iinc (F : FB g d p s m args meth c) {i : Nat} {n : Int} {x v : Int32} (hd : decode d.2.1 pc = .ok (.iinc i n, 3)) (hp : pc + 3 = pc') (hi : lv[i]? = some (some (.int x))) (hx : x + Int32.ofInt n = v) (hn : i < d.2.2.1) (hv : lw_pv lv i) (hs : lv.set i (some (.int v)) = lv') (k : Bx g d p e s m args below meth c R A Q kc ks pc' lv' st ws) : Bx g d p e s m args below meth c R A Q kc ks pc lv st ws := by
  subst hp; subst hs
  refine Bx.go k fun H locs ls hl kk => ?_
  obtain ⟨q, hq⟩ := List.getElem?_of_mem ((lw_asc_mem lv 0 (i, Value.int x)).mpr ⟨Nat.zero_le _, by simpa using hi⟩)
  exact lv_iinc F.1 F.2.1 hd hl.to hq hx hn rfl (fun ls' h => kk ls' (lw_set1 h hv))
theorem b_goto (F : FB g d p s m args meth c) {off : Int} (hd : decode d.2.1 pc = .ok (.goto off, 3)) (hp : (pc : Int) + off = (pc' : Int)) (k : Bx g d p e s m args below meth c R A Q kc ks pc' lv st ws) : Bx g d p e s m args below meth c R A Q kc ks pc lv st ws :=
  Bx.go k fun H locs ls hl kk => lv_goto F.1 F.2.1 hd hp (kk ls hl)
theorem b_icmp_ge (F : FB g d p s m args meth c) {x y : Int32} {off : Int} (hd : decode d.2.1 pc = .ok (.if_icmp .ge off, 3)) (ht : (pc : Int) + off = (tgt : Int)) (hp : pc + 3 = pc') (kt : y ≤ x → Bx g d p e s m args below meth c R A Q kc ks tgt lv st ws) (kf : ¬ y ≤ x → Bx g d p e s m args below meth c R A Q kc ks pc' lv st ws) : Bx g d p e s m args below meth c R A Q kc ks pc lv (.int y :: .int x :: st) ws := by
  subst hp; exact fun H locs ls hP hD hS hl => lv_icmp_ge F.1 F.2.1 hd ht (fun h => kt h H locs ls hP hD hS hl) (fun h => kf h H locs ls hP hD hS hl)
theorem b_icmp_gt (F : FB g d p s m args meth c) {x y : Int32} {off : Int} (hd : decode d.2.1 pc = .ok (.if_icmp .gt off, 3)) (ht : (pc : Int) + off = (tgt : Int)) (hp : pc + 3 = pc') (kt : y < x → Bx g d p e s m args below meth c R A Q kc ks tgt lv st ws) (kf : ¬ y < x → Bx g d p e s m args below meth c R A Q kc ks pc' lv st ws) : Bx g d p e s m args below meth c R A Q kc ks pc lv (.int y :: .int x :: st) ws := by
  subst hp; exact fun H locs ls hP hD hS hl => lv_icmp_gt F.1 F.2.1 hd ht (fun h => kt h H locs ls hP hD hS hl) (fun h => kf h H locs ls hP hD hS hl)
theorem b_icmp_eq (F : FB g d p s m args meth c) {x y : Int32} {off : Int} (hd : decode d.2.1 pc = .ok (.if_icmp .eq off, 3)) (ht : (pc : Int) + off = (tgt : Int)) (hp : pc + 3 = pc') (kt : x = y → Bx g d p e s m args below meth c R A Q kc ks tgt lv st ws) (kf : ¬ x = y → Bx g d p e s m args below meth c R A Q kc ks pc' lv st ws) : Bx g d p e s m args below meth c R A Q kc ks pc lv (.int y :: .int x :: st) ws := by
  subst hp; exact fun H locs ls hP hD hS hl => lv_icmp_eq F.1 F.2.1 hd ht (fun h => kt h H locs ls hP hD hS hl) (fun h => kf h H locs ls hP hD hS hl)
theorem b_get (F : FB g d p s m args meth c) {C : String} {T : u_T} {N ci index a : Nat} {fs : List Value} {v : Value} (hin : ∀ w ∈ u_ws C T N, w ∈ lw_tbl) (q0 k : Nat) (he : ws[q0]? = some (a, .inr (ci, fs))) (hc : vwCl[ci]? = some (C, T, N)) (hk : k < N) (hlink : Cond.fieldLink d.1.cls index (T k).1 (T k).2.1 (T k).2.2.1 ∈ lw_good) (hv : fs[k]? = some v) (hd : decode d.2.1 pc = .ok (.getfield index, 3)) (hp : pc + 3 = pc') (kk : Bx g d p e s m args below meth c R A Q kc ks pc' lv (v :: st) ws) : Bx g d p e s m args below meth c R A Q kc ks pc lv (.ref a :: st) ws := by
  subst hp; intro H locs ls hP hD hS hl
  exact va_get F.1 F.2.1 F.2.2.2.2.2.1 (lays_inG hin) F.2.2.2.2.1 F.2.2.2.2.2.2.2.1 hP q0 he hc k hk (F.2.2.2.2.2.1 _ hlink) (fun _ h => h) hv hd (kk H locs ls hP hD hS hl)
theorem b_put (F : FB g d p s m args meth c) {C : String} {T : u_T} {ty0 : Nat → FieldType} {N ci index a : Nat} {fs : List Value} {v : Value} (hin : ∀ w ∈ u_ws C T N, w ∈ lw_tbl) (hty : ∀ k, k < N → parseFieldDescriptor (T k).2.2.1 = some (ty0 k)) (hnm : ∀ a, a < N → ∀ b, b < N → a ≠ b → (T a).2.1 ≠ (T b).2.1) (q0 k : Nat) (he : ws[q0]? = some (a, .inr (ci, fs))) (hc : vwCl[ci]? = some (C, T, N)) (hk : k < N) (hlink : Cond.fieldLink d.1.cls index (T k).1 (T k).2.1 (T k).2.2.1 ∈ lw_good) (hfin : (T k).2.2.2 = false) (hn : narrow (ty0 k) v = v) (hfit : fits (ty0 k) v = true) (hl' : k < fs.length) (hd : decode d.2.1 pc = .ok (.putfield index, 3)) (hp : pc + 3 = pc') (hw : ws.set q0 (a, .inr (ci, fs.set k v)) = ws') (kk : Bx g d p e s m args below meth c R A Q kc ks pc' lv st ws') : Bx g d p e s m args below meth c R A Q kc ks pc lv (v :: .ref a :: st) ws := by
  subst hp; subst hw; intro H locs ls hP hD hS hl
  exact va_put F.1 F.2.1 F.2.2.2.2.2.1 (lays_inG hin) ty0 hty hnm F.2.2.2.2.1 F.2.2.2.2.2.2.2.1 hP hD hS q0 he hc k hk (F.2.2.2.2.2.1 _ hlink) (fun _ h => h) hfin (hty k hk) hn hfit hl' hd (fun H1 locs1 hP1 hD1 hS1 => kk H1 locs1 ls hP1 hD1 hS1 hl)
theorem b_putF (F : FB g d p s m args meth c) {C : String} {T : u_T} {ty0 : Nat → FieldType} {N ci index a : Nat} {fs : List Value} {v : Value} (hmn : meth.name = "<init>") (hin : ∀ w ∈ u_ws C T N, w ∈ lw_tbl) (hty : ∀ k, k < N → parseFieldDescriptor (T k).2.2.1 = some (ty0 k)) (hnm : ∀ a, a < N → ∀ b, b < N → a ≠ b → (T a).2.1 ≠ (T b).2.1) (q0 k : Nat) (he : ws[q0]? = some (a, .inr (ci, fs))) (hc : vwCl[ci]? = some (C, T, N)) (hk : k < N) (hlink : Cond.fieldLink d.1.cls index (T k).1 (T k).2.1 (T k).2.2.1 ∈ lw_good) (hfin : (T k).2.2.2 = true) (hdc : (T k).1 = d.1.cls) (hn : narrow (ty0 k) v = v) (hfit : fits (ty0 k) v = true) (hl' : k < fs.length) (hd : decode d.2.1 pc = .ok (.putfield index, 3)) (hp : pc + 3 = pc') (hw : ws.set q0 (a, .inr (ci, fs.set k v)) = ws') (kk : Bx g d p e s m args below meth c R A Q kc ks pc' lv st ws') : Bx g d p e s m args below meth c R A Q kc ks pc lv (v :: .ref a :: st) ws := by
  subst hp; subst hw; intro H locs ls hP hD hS hl
  exact va_putF F.1 F.2.1 F.2.2.2.2.2.1 (lays_inG hin) ty0 hty hnm F.2.2.2.2.1 F.2.2.2.2.2.2.2.1 hP hD hS q0 he hc k hk (F.2.2.2.2.2.1 _ hlink) (fun _ h => h) hfin hmn hdc (hty k hk) hn hfit hl' hd (fun H1 locs1 hP1 hD1 hS1 => kk H1 locs1 ls hP1 hD1 hS1 hl)
theorem b_iast (F : FB g d p s m args meth c) {a n : Nat} {f : Nat → Int32} {i : Nat} {x : Int32} (q0 : Nat) (ha : ws[q0]? = some (a, .inl (g.2.2.2.1, n, .inl f))) (hk : i < n) (hn : n < 2 ^ 31) (hd : decode d.2.1 pc = .ok (.iastore, 1)) (hp : pc + 1 = pc') (hw : ws.set q0 (a, .inl (g.2.2.2.1, n, .inl (upd f i x))) = ws') (kk : Bx g d p e s m args below meth c R A Q kc ks pc' lv st ws') : Bx g d p e s m args below meth c R A Q kc ks pc lv (.int x :: .int (nI i) :: .ref a :: st) ws := by
  subst hp; subst hw; intro H locs ls hP hD hS hl
  refine va_iast F.1 F.2.1 F.2.2.2.2.2.2.2.1 hP hD hS q0 1 ha rfl (vp_in_nI hk hn) hd (fun H1 locs1 hP1 hD1 hS1 => ?_)
  rw [nI_clamp (by omega)] at hP1 hD1
  exact kk H1 locs1 ls hP1 hD1 hS1 hl
theorem b_aast (F : FB g d p s m args meth c) {a n v : Nat} {vs : List Value} {f : Nat → Option Nat} {i : Nat} (q0 qk : Nat) (ha : ws[q0]? = some (a, .inl (g.2.2.2.2.2, n, .inr (.inr (.inr (.inr f)))))) (hv : ws[qk]? = some (v, .inr (0, vs))) (hk : i < n) (hn : n < 2 ^ 31) (hd : decode d.2.1 pc = .ok (.aastore, 1)) (hp : pc + 1 = pc') (hw : ws.set q0 (a, .inl (g.2.2.2.2.2, n, .inr (.inr (.inr (.inr (va_up f i (some v))))))) = ws') (kk : Bx g d p e s m args below meth c R A Q kc ks pc' lv st ws') : Bx g d p e s m args below meth c R A Q kc ks pc lv (.ref v :: .int (nI i) :: .ref a :: st) ws := by
  subst hp; subst hw; intro H locs ls hP hD hS hl
  refine va_astq (r := (RX0, TX0, 9)) F.1 F.2.1 F.2.2.2.2.2.2.2.1 hP hD hS q0 3 qk 0 ha rfl hv rfl (vp_in_nI hk hn) hd (fun H1 locs1 hP1 hD1 hS1 => ?_)
  rw [nI_clamp (by omega)] at hP1 hD1
  exact kk H1 locs1 ls hP1 hD1 hS1 hl
theorem b_new (F : FB g d p s m args meth c) {C : String} {T : u_T} {ty0 : Nat → FieldType} {N ci index : Nat} {fs : List Value} (hA : ∀ q, s.heap.size ≤ q → A q) (hin : ∀ w ∈ u_ws C T N, w ∈ lw_tbl) (hty : ∀ k, k < N → parseFieldDescriptor (T k).2.2.1 = some (ty0 k)) (hcl : Cond.classLink d.1.cls index C ∈ lw_good) (hinst : Cond.instantiable C N ∈ lw_good) (hini : Cond.initialized C ∈ lw_good) (hc : vwCl[ci]? = some (C, T, N)) (hfs : ∀ j, j < N → defaultValue (ty0 j) = vp_V fs j) (hcells : kc + 1 ≤ R.cells) (hslots : ks + N ≤ R.slots) (hd : decode d.2.1 pc = .ok (.new index, 3)) (hp : pc + 3 = pc') (kk : ∀ q : Nat, Bx g d p e s m args below meth c R A Q (kc + 1) (ks + N) pc' lv (.ref q :: st) (ws ++ [(q, .inr (ci, fs))])) : Bx g d p e s m args below meth c R A Q kc ks pc lv st ws := by
  subst hp; intro H locs ls hP hD hS hl
  exact va_new F.1 F.2.1 F.2.2.2.2.2.1 (lays_inG hin) ty0 hty F.2.2.2.2.1 (F.2.2.2.2.2.1 _ hcl) (F.2.2.2.2.2.1 _ hinst) (F.2.2.2.2.2.1 _ hini) F.2.2.2.2.2.2.2.1 hP hD hS hA hc hfs hcells hslots hd (fun q H1 hP1 hD1 hS1 => kk q H1 locs ls hP1 hD1 hS1 hl)
theorem b_newI (F : FB g d p s m args meth c) {n : Int32} {N' : Nat} (hA : ∀ q, s.heap.size ≤ q → A q) (hw : Cond.arrayClass .int ∈ lw_good) (hn : ¬ n < 0) (hN : n.toNatClampNeg = N') (hb : N' ≤ 10000) (hcells : kc + 1 ≤ R.cells) (hslots : ks + N' ≤ R.slots) (hd : decode d.2.1 pc = .ok (.newarray .int, 2)) (hp : pc + 2 = pc') (kk : ∀ q : Nat, Bx g d p e s m args below meth c R A Q (kc + 1) (ks + N') pc' lv (.ref q :: st) (ws ++ [(q, .inl (g.2.2.2.1, N', .inl (fun _ => 0)))])) : Bx g d p e s m args below meth c R A Q kc ks pc lv (.int n :: st) ws := by
  subst hp; intro H locs ls hP hD hS hl
  refine va_newa (atype := .int) (ty := .int) (a0 := (N', .inl (fun _ => 0))) F.1 F.2.1 (F.2.2.2.2.2.1 _ hw) rfl F.2.2.2.2.2.2.2.1 hP hD hS hA (fun _ => rfl) hn hN (by show N' * 4 ≤ _; omega) hcells hslots hd (fun q cA H1 hK1 hP1 hD1 hS1 => ?_)
  have h1 : s.vm.findClass ("[" ++ FieldType.int.toString) = some cA := (hK1.2 4 (cA, .int) rfl).2
  have h2 : s.vm.findClass ("[" ++ FieldType.int.toString) = some g.2.2.2.1 := (F.2.2.2.2.2.2.2.1.2 1 (g.2.2.2.1, .int) rfl).2
  have h3 : cA = g.2.2.2.1 := Option.some.inj (h1.symm.trans h2)
  subst h3
  exact kk q H1 locs ls hP1 hD1 hS1 hl
theorem b_newZ (F : FB g d p s m args meth c) {n : Int32} {N' : Nat} (hA : ∀ q, s.heap.size ≤ q → A q) (hw : Cond.arrayClass .boolean ∈ lw_good) (hn : ¬ n < 0) (hN : n.toNatClampNeg = N') (hb : N' ≤ 10000) (hcells : kc + 1 ≤ R.cells) (hslots : ks + N' ≤ R.slots) (hd : decode d.2.1 pc = .ok (.newarray .boolean, 2)) (hp : pc + 2 = pc') (kk : ∀ q : Nat, Bx g d p e s m args below meth c R A Q (kc + 1) (ks + N') pc' lv (.ref q :: st) (ws ++ [(q, .inl (g.2.2.2.2.1, N', .inl (fun _ => 0)))])) : Bx g d p e s m args below meth c R A Q kc ks pc lv (.int n :: st) ws := by
  subst hp; intro H locs ls hP hD hS hl
  refine va_newa (atype := .boolean) (ty := .boolean) (a0 := (N', .inl (fun _ => 0))) F.1 F.2.1 (F.2.2.2.2.2.1 _ hw) rfl F.2.2.2.2.2.2.2.1 hP hD hS hA (fun _ => rfl) hn hN (by show N' * 1 ≤ _; omega) hcells hslots hd (fun q cA H1 hK1 hP1 hD1 hS1 => ?_)
  have h1 : s.vm.findClass ("[" ++ FieldType.boolean.toString) = some cA := (hK1.2 4 (cA, .boolean) rfl).2
  have h2 : s.vm.findClass ("[" ++ FieldType.boolean.toString) = some g.2.2.2.2.1 := (F.2.2.2.2.2.2.2.1.2 2 (g.2.2.2.2.1, .boolean) rfl).2
  have h3 : cA = g.2.2.2.2.1 := Option.some.inj (h1.symm.trans h2)
  subst h3
  exact kk q H1 locs ls hP1 hD1 hS1 hl
theorem b_newC (F : FB g d p s m args meth c) {n : Int32} {N' : Nat} (hA : ∀ q, s.heap.size ≤ q → A q) (hw : Cond.arrayClass .char ∈ lw_good) (hn : ¬ n < 0) (hN : n.toNatClampNeg = N') (hb : N' ≤ 10000) (hcells : kc + 1 ≤ R.cells) (hslots : ks + N' ≤ R.slots) (hd : decode d.2.1 pc = .ok (.newarray .char, 2)) (hp : pc + 2 = pc') (kk : ∀ q : Nat, Bx g d p e s m args below meth c R A Q (kc + 1) (ks + N') pc' lv (.ref q :: st) (ws ++ [(q, .inl (g.2.2.1, N', .inl (fun _ => 0)))])) : Bx g d p e s m args below meth c R A Q kc ks pc lv (.int n :: st) ws := by
  subst hp; intro H locs ls hP hD hS hl
  refine va_newa (atype := .char) (ty := .char) (a0 := (N', .inl (fun _ => 0))) F.1 F.2.1 (F.2.2.2.2.2.1 _ hw) rfl F.2.2.2.2.2.2.2.1 hP hD hS hA (fun _ => rfl) hn hN (by show N' * 2 ≤ _; omega) hcells hslots hd (fun q cA H1 hK1 hP1 hD1 hS1 => ?_)
  have h1 : s.vm.findClass ("[" ++ FieldType.char.toString) = some cA := (hK1.2 4 (cA, .char) rfl).2
  have h2 : s.vm.findClass ("[" ++ FieldType.char.toString) = some g.2.2.1 := (F.2.2.2.2.2.2.2.1.2 0 (g.2.2.1, .char) rfl).2
  have h3 : cA = g.2.2.1 := Option.some.inj (h1.symm.trans h2)
  subst h3
  exact kk q H1 locs ls hP1 hD1 hS1 hl
theorem b_newN (F : FB g d p s m args meth c) {n : Int32} {N' index : Nat} (hA : ∀ q, s.heap.size ≤ q → A q) (hw : Cond.classLink d.1.cls index "EditTree$Node" ∈ lw_good) (hn : ¬ n < 0) (hN : n.toNatClampNeg = N') (hb : N' ≤ 10000) (hcells : kc + 1 ≤ R.cells) (hslots : ks + N' ≤ R.slots) (hd : decode d.2.1 pc = .ok (.anewarray index, 3)) (hp : pc + 3 = pc') (kk : ∀ q : Nat, Bx g d p e s m args below meth c R A Q (kc + 1) (ks + N') pc' lv (.ref q :: st) (ws ++ [(q, .inl (g.2.2.2.2.2, N', .inr (.inr (.inr (.inr (fun _ => none))))))])) : Bx g d p e s m args below meth c R A Q kc ks pc lv (.int n :: st) ws := by
  subst hp; intro H locs ls hP hD hS hl
  refine va_newq F.1 F.2.1 F.2.2.2.2.1 (F.2.2.2.2.2.1 _ hw) F.2.2.2.2.2.2.2.2.2.1 F.2.2.2.2.2.2.2.1 hP hD hS hA hn hN (by omega) hcells hslots hd (fun q cA H1 hK1 hP1 hD1 hS1 => ?_)
  obtain ⟨_, _, _, _, _, h1⟩ := (hK1.2 4 (cA, .object "EditTree$Node") rfl).2
  obtain ⟨_, _, _, _, _, h2⟩ := (F.2.2.2.2.2.2.2.1.2 3 (g.2.2.2.2.2, .object "EditTree$Node") rfl).2
  have h3 : cA = g.2.2.2.2.2 := Option.some.inj (h1.symm.trans h2)
  subst h3
  exact kk q H1 locs ls hP1 hD1 hS1 hl
theorem b_objInit (F : FB g d p s m args meth c) {a idx : Nat} (h1 : Cond.methodLink d.1.cls idx objectInit ∈ lw_good) (h2 : Cond.instanceMethod objectInit ∈ lw_good) (h3 : Cond.code objectInit ⟨#[0xb1]⟩ 1 none ∈ lw_good) (hR : 1 ≤ R.frames ∧ 20 ≤ R.locals) (hst : (st.map fun v => v.category).sum ≤ 8) (hd : decode d.2.1 pc = .ok (.invokespecial idx, 3)) (hp : pc + 3 = pc') (k : Bx g d p e s m args below meth c R A Q kc ks pc' lv st ws) : Bx g d p e s m args below meth c R A Q kc ks pc lv (.ref a :: st) ws := by
  subst hp; intro H locs ls hP hD hS hl
  refine W.objInit F.1 F.2.1 F.2.2.2.2.1 (F.2.2.2.2.2.1 _ h1) (F.2.2.2.2.2.1 _ h2) (F.2.2.2.2.2.1 _ h3) rfl (by rw [F.2.2.1]; exact hl.1) rfl hd hR.1 ?_ (k H locs ls hP hD hS hl)
  have := lv_room (m := m) (pc := pc) (ls := ls) (rest := .ref a :: st) hst
  omega
/-- the end of a constructor: its world, in any order -/
theorem b_vret (F : FB g d p s m args meth c) {Ph : Option Value → va_W → Prop} (hr : d.2.2.2.1 = none) (hd : decode d.2.1 pc = .ok (.return_, 1)) (h : va_D A ws → ∃ w', w'.Perm ws ∧ Ph none w') : Bx g d p e s m args below meth c R A (MQ below (QR g Ph A) args s kc ks A) kc ks pc lv [] ws := by
  intro H locs ls hP hD hS hl
  obtain ⟨w', hw, hh⟩ := h hD
  have hP' : va_P g.2.1 vwCl w' H := va_P.iff.mpr fun q hq => va_P.iff.mp hP q (hw.mem_iff.mp hq)
  have hD' : va_D A w' := va_D.iff.mpr ⟨(hw.map Prod.fst).nodup_iff.mpr (va_D.iff.mp hD).1, fun q hq => (va_D.iff.mp hD).2 q (hw.mem_iff.mp hq)⟩
  exact W.vret F.1 F.2.1 (F.2.2.2.1.trans hr) (fun t ht hW => ⟨⟨_, w', rfl, hh, by rw [ht]; exact hP', hD'⟩, hS.F ht⟩) hS.2.2 hd F.2.2.2.2.2.2.1
theorem b_after {H : Heap} {locs : List Loc} {ls : Array Slot} {mc ms : Nat} {Ps : Option Value → va_W → Prop} {st0 rest : List Value} {a : Array Value} (hr : va_Run p g.1 e R s m args below meth c H locs kc ks mc ms (F0 m pc ls st0) rest (QR g Ps (va_A wb H.size) a) (va_A wb H.size))
    (hA : ∀ q, s.heap.size ≤ q → A q) (hP : va_P g.2.1 vwCl (wa ++ wb ++ wc) H) (hD : va_D A (wa ++ wb ++ wc)) (hS : va_S A s.heap H locs) (hl : lw_has ls d.2.2.1 lv) (k : ∀ v w, Ps v w → Bx g d p e s m args below meth c R A Q (kc + mc) (ks + ms) (pc + 3) lv (v.toList ++ rest) (wa ++ w ++ wc)) : W p g.1 e R s m args below meth c H locs kc ks Q (F0 m pc ls st0) := by
  intro T hT X
  obtain ⟨v, st₀, t, T', L, h0, X', hL, e1, e2, ⟨⟨v', w, hv, hp, hPw, hDw⟩, hz, hk⟩, go⟩ := hr T hT X
  have ev : v = v' := by simpa using hv
  subst ev
  rw [h0] at hz hk
  have hf : ∀ q, va_A wb H.size q → A q := fun q h => by
    rcases h with ⟨i, x, h⟩ | h
    · exact (va_D.iff.mp hD).2 (q, x) (List.mem_append_left _ (List.mem_append_right _ (List.mem_of_getElem? h)))
    · exact hA q (Nat.le_trans hS.1 h)
  obtain ⟨hP2, hD2⟩ := va_mid hP hD (fun q h => hA q (Nat.le_trans hS.1 h)) (fun q h1 h2 => hk q h1 h2) hPw hDw
  obtain ⟨t2, a1, b1⟩ := k v w hp T'.heap (locs ++ L) ls (by rw [e1]; exact hP2) hD2
    ⟨Nat.le_trans hS.1 (by rw [e1]; exact hz), fun q h1 h2 => by rw [e1, hk q (Nat.lt_of_lt_of_le h1 hS.1) (fun z => h2 (hf q z))]; exact hS.2.1 q h1 h2, fun q hq => by
      rcases List.mem_append.mp hq with h | h
      · exact hS.2.2 q h
      · exact hf _ (hL q h)⟩ hl T' rfl X'
  exact ⟨t2, go t2 a1, b1⟩
/-- a call of a method on a part of the world -/
theorem b_callV (F : FB g d p s m args meth c) {z : MD} {b index ci n : Nat} {fs As rest : List Value} {T : u_T} {N : Nat} {Ps : Option Value → va_W → Prop} (hA : ∀ q, s.heap.size ≤ q → A q) (co : coV d.1.cls index z n) (q0 : Nat) (he : wb[q0]? = some (b, .inr (ci, fs))) (hc : vwCl[ci]? = some (z.1.cls, T, N)) (hM : Ret g z (.ref b :: As) wb Ps) (hn : As.length = n) (hR : z.2.2.2.2 + 1 ≤ R.frames ∧ 40 * z.2.2.2.2 + 40 ≤ R.locals) (hcap : kc ≤ R.cells ∧ ks ≤ R.slots) (hcat : (rest.map fun v => v.category).sum ≤ 8) (hd : decode d.2.1 pc = .ok (.invokevirtual index, 3)) (hst : st = As.reverse ++ .ref b :: rest) (hp : pc + 3 = pc') (k : ∀ v w, Ps v w → Bx g d p e s m args below meth c R A Q kc ks pc' lv (v.toList ++ rest) (wa ++ w ++ wc)) : Bx g d p e s m args below meth c R A Q kc ks pc lv st (wa ++ wb ++ wc) := by
  subst hp; intro H locs ls hP hD hS hl
  obtain ⟨c1, c2, c3, c4, c5, c6, c7⟩ := co
  have Tt := F.2.2.2.2.2.1
  have hW : GoodIn lw_good (wsV d.1.cls index z.1.cls z.1 (wsD z)) := by
    intro w hw
    unfold wsV at hw
    rcases List.mem_append.mp hw with h | h
    · have h1 : w ∈ lw_good := by
        simp only [List.mem_cons, List.not_mem_nil, or_false] at h
        rcases h with rfl | rfl | rfl | rfl
        · exact c1
        · exact c2
        · exact c3
        · exact c4
      exact ⟨h1, good_of_word (List.mem_filter.mp h1).2⟩
    · exact good_good z c5 w h
  have hPb : va_P g.2.1 vwCl wb H := va_P.iff.mpr fun q hq => va_P.iff.mp hP q (List.mem_append_left _ (List.mem_append_right _ hq))
  have hDb : va_D (fun _ => True) wb := by
    refine va_D.iff.mpr ⟨?_, fun _ _ => trivial⟩
    have h := (va_D.iff.mp hD).1
    rw [List.map_append, List.map_append, List.nodup_append, List.nodup_append] at h
    exact h.1.2.1
  refine b_after (mc := 0) (ms := 0) (va_runV (As := As) (rest := rest) ⟨F.1, F.2.1, F.2.2.1, F.2.2.2.2.1, Tt⟩ (hM H.size) (cwV n Tt hW rfl rfl rfl ⟨rfl, c6⟩ ⟨hR.1, ?_⟩) ⟨blindR _ _, va_recv F.2.2.2.2.2.2.2.1 hPb hc he, fun U hU hWm => ⟨rfl, by rw [hU], by rw [hU]; exact hPb, va_K.moved hWm.alike F.2.2.2.2.2.2.2.1, hDb, nestOk.warm hWm F.2.2.2.2.2.2.2.2.1⟩⟩ rfl hn hl.1 hst (lv_room hcat) hd hcap) hA hP hD hS hl k
  show 8 + (z.2.2.1 + 11) + 40 * z.2.2.2.2 ≤ R.locals
  omega
end BX
/-- a constructor's contract: it takes kc cells, ks slots -/
def RetA (g : EG) (d : MD) (av : List Value) (ws : va_W) (kc ks : Nat) (Ph : Option Value → va_W → Prop) : Prop :=
  ∀ sz : Nat, Met g.1 d.1 (wsD d) { frames := d.2.2.2.2, cells := kc, slots := ks, locals := 40 * d.2.2.2.2 } (va_Pc av (fun U => U.heap.size = sz ∧ va_P g.2.1 vwCl ws U.heap ∧ va_K g.2.1 vwCl (tysG g) U ∧ va_D (fun _ => True) ws ∧ nestOk U ∧ xOk U)) (QR g Ph (va_A ws sz)) kc ks (va_A ws sz)
theorem RetA.of {g : EG} {d : MD} {av : List Value} {ws : va_W} {kc ks : Nat} {Ph : Option Value → va_W → Prop} (lv : List (Option Value)) (n : Nat) (hpl : plainName d.1.cls = true) (hni : d.1.name = "<init>") (hlen : (lg_sl av).length ≤ d.2.2.1) (hlv : lw_args av ++ List.replicate n none = lv)
    (k : ∀ (p : Program) (e : Env) (s : State) (m : MethodId) (args : Array Value) (below : List Frame) (meth : Method) (c : Code) (A : Nat → Prop), FB g d p s m args meth c → meth.name = "<init>" → (∀ q, s.heap.size ≤ q → A q) → Bx g d p e s m args below meth c { frames := d.2.2.2.2, cells := kc, slots := ks, locals := 40 * d.2.2.2.2 } A (MQ below (QR g Ph A) args s kc ks A) 0 0 0 lv [] ws) : RetA g d av ws kc ks Ph := by
  intro sz
  refine Met.ofW (cc := d.2.1) (maxL := d.2.2.1) (ret := d.2.2.2.1) hpl rfl ?_
  intro p e s m args below meth c s₁ B hml hv
  obtain ⟨rfl, hsz, hP, hK, hD0, hN, hO⟩ := hv
  have hts := atoms_spec (ws := wsD d) B.pre
  have hin : meth.name = "<init>" := (name_of_methodNamed B.named B.method).1.trans hni
  subst hsz
  have hl := lv_entry av (n := d.2.2.1) hlen
  rw [lg_entry_eq]
  refine k p e s m _ below meth c (va_A ws s.heap.size) ⟨B.exec, B.bytes, hml, B.returns, findClass_of_methodNamed B.named, fun w hw => hts w (List.mem_cons_of_mem _ hw), B.notSynchronized, hK, hN, hO⟩ hin (fun q h => Or.inr h) s.heap [] _ hP (hD0.self (sz := s.heap.size)) va_S.rf ⟨hl.1, hl.2.1, fun i v hi => ?_⟩
  rw [← hlv] at hi
  have h1 := lw_args_at av 0 i v (lw_args_pad av n i v hi)
  rw [Nat.zero_add] at h1
  exact hl.2.2 (i, v) h1
theorem blindA {g : EG} {ws : va_W} (av : List Value) (sz : Nat) : FrameBlind (va_Pc av (fun U => U.heap.size = sz ∧ va_P g.2.1 vwCl ws U.heap ∧ va_K g.2.1 vwCl (tysG g) U ∧ va_D (fun _ => True) ws ∧ nestOk U ∧ xOk U)) := by
  intro a U f mk q
  obtain ⟨q0, q1, qP, qK, qD, qN, qO⟩ := q
  exact ⟨q0, q1, qP, va_K.moved (u := U) (U := U.calling f mk a) (Vm.Alike.refl U.vm) qK, qD, nestOk.same (s := U) (U := U.calling f mk a) rfl qN, xOk.same (s := U) (U := U.calling f mk a) rfl qO⟩
