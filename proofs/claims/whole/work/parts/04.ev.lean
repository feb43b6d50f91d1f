/-! ===== a judgement of one's own: from here the method answers so, for every machine that stands there ===== -/
/-- a method: its name, its bytes, its locals, what it answers with, its rank (calls go down in rank) -/
abbrev MD : Type := MethodName × ByteArray × Nat × Option FieldType × Nat
/-- what is fixed over a run: the launch, the layouts, the array kinds of char, int, boolean, Node -/
abbrev EG : Type := Launch × va_G × ClassId × ClassId × ClassId × ClassId
abbrev tysG (g : EG) : List (ClassId × FieldType) := [(g.2.2.1, .char), (g.2.2.2.1, .int), (g.2.2.2.2.1, .boolean), (g.2.2.2.2.2, .object "EditTree$Node")]
def rmR (r : Nat) : Room := { frames := r, cells := 0, slots := 0, locals := 40 * r }
def lw_good : List Cond := lw_tbl.filter goodWord
def wsD (d : MD) : List Cond := .code d.1 d.2.1 d.2.2.1 d.2.2.2.1 :: lw_good
def nestF : List Cond := [.fieldLinkNest "EditTree" 95 "EditTree$Node" "text" "[C" "EditTree", .fieldLinkNest "EditTree" 40 "EditTree$Node" "textLength" "I" "EditTree", .fieldLinkNest "EditTree" 55 "EditTree$Node" "number" "I" "EditTree", .fieldLinkNest "EditTree" 111 "EditTree$Node" "time" "I" "EditTree", .fieldLinkNest "EditTree" 62 "EditTree$Node" "parent" "LEditTree$Node;" "EditTree", .fieldLinkNest "EditTree" 69 "EditTree$Node" "favourite" "LEditTree$Node;" "EditTree", .fieldLinkNest "EditTree" 98 "EditTree$Node" "editPosition" "I" "EditTree", .fieldLinkNest "EditTree" 92 "EditTree$Node" "editLength" "I" "EditTree", .fieldLinkNest "EditTree" 88 "EditTree$Node" "deletion" "Z" "EditTree"]
def nestOk (U : State) : Prop := ∀ w ∈ nestF, va_Nw w U
theorem nestOk.warm {s U : State} (hW : s.WarmedH U.vm) (h : nestOk s) : nestOk U := by
  intro w hw
  have h1 := h w hw
  simp only [nestF, List.mem_cons, List.not_mem_nil, or_false] at hw
  rcases hw with rfl | rfl | rfl | rfl | rfl | rfl | rfl | rfl | rfl <;> exact va_Nw.warmF hW h1
theorem nestOk.same {s U : State} (hv : s.vm = U.vm) (h : nestOk s) : nestOk U := by
  intro w hw
  have h1 := h w hw
  simp only [nestF, List.mem_cons, List.not_mem_nil, or_false] at hw
  rcases hw with rfl | rfl | rfl | rfl | rfl | rfl | rfl | rfl | rfl <;> exact va_Nw.same rfl hv h1
/-- the locals, by place: some of them known -/
def lw_has (ls : Array Slot) (nL : Nat) (lv : List (Option Value)) : Prop := ls.size = nL ∧ lv_wf ls ∧ ∀ (i : Nat) (v : Value), lv[i]? = some (some v) → ls[i]? = some (.val v)
def lw_asc : Nat → List (Option Value) → List (Nat × Value)
  | _, [] => []
  | i, none :: l => lw_asc (i + 1) l
  | i, some v :: l => (i, v) :: lw_asc (i + 1) l
theorem lw_asc_mem : ∀ (l : List (Option Value)) (i : Nat) (q : Nat × Value), q ∈ lw_asc i l ↔ i ≤ q.1 ∧ l[q.1 - i]? = some (some q.2)
  | [], i, q => by simp [lw_asc]
  | none :: l, i, q => by
    rw [lw_asc, lw_asc_mem l (i + 1) q]
    constructor
    · rintro ⟨h1, h2⟩
      refine ⟨by omega, ?_⟩
      rw [show q.1 - i = (q.1 - (i + 1)) + 1 by omega]
      simpa using h2
    · rintro ⟨h1, h2⟩
      by_cases h3 : q.1 = i
      · rw [h3] at h2
        simp at h2
      · refine ⟨by omega, ?_⟩
        rw [show q.1 - i = (q.1 - (i + 1)) + 1 by omega] at h2
        simpa using h2
  | some v :: l, i, q => by
    rw [lw_asc, List.mem_cons, lw_asc_mem l (i + 1) q]
    constructor
    · rintro (rfl | ⟨h1, h2⟩)
      · simp
      · refine ⟨by omega, ?_⟩
        rw [show q.1 - i = (q.1 - (i + 1)) + 1 by omega]
        simpa using h2
    · rintro ⟨h1, h2⟩
      by_cases h3 : q.1 = i
      · left
        rw [h3] at h2
        simp at h2
        exact Prod.ext h3 h2.symm
      · right
        refine ⟨by omega, ?_⟩
        rw [show q.1 - i = (q.1 - (i + 1)) + 1 by omega] at h2
        simpa using h2
theorem lw_has.to {ls : Array Slot} {nL : Nat} {lv : List (Option Value)} (h : lw_has ls nL lv) : lv_has ls nL (lw_asc 0 lv) :=
  ⟨h.1, h.2.1, fun q hq => h.2.2 q.1 q.2 (by have := ((lw_asc_mem lv 0 q).mp hq).2; simpa using this)⟩
theorem lw_has.at {ls : Array Slot} {nL : Nat} {lv : List (Option Value)} (h : lw_has ls nL lv) {i : Nat} {v : Value} (hi : lv[i]? = some (some v)) : ls[i]? = some (.val v) := h.2.2 i v hi
/-- a store of one slot; what stands just before it isn't wide -/
theorem lw_set1 {ls : Array Slot} {nL : Nat} {lv : List (Option Value)} {i : Nat} {v : Value} (h : lv_has ls nL ((i, v) :: (lw_asc 0 lv).filter (fun q => !(q.1 == i) && !(q.1 + 1 == i && q.2.category == 2)))) (hp : ∀ w, lv[i - 1]? = some (some w) → i = 0 ∨ w.category = 1) : lw_has ls nL (lv.set i (some v)) := by
  refine ⟨h.1, h.2.1, fun j w hj => ?_⟩
  by_cases hji : j = i
  · subst hji
    have hl : j < lv.length := by
      have := (List.getElem?_eq_some_iff.mp hj).1
      simpa using this
    rw [List.getElem?_set_self hl] at hj
    have e : v = w := by simpa using hj
    subst e
    exact h.2.2 (j, v) List.mem_cons_self
  · rw [List.getElem?_set_ne (fun q => hji q.symm)] at hj
    refine h.2.2 (j, w) (List.mem_cons_of_mem _ (List.mem_filter.mpr ⟨(lw_asc_mem lv 0 (j, w)).mpr ⟨Nat.zero_le _, by simpa using hj⟩, ?_⟩))
    by_cases h2 : j + 1 = i
    · have h3 : i - 1 = j := by omega
      rcases hp w (by rw [h3]; exact hj) with h4 | h4
      · omega
      · simp [hji, h4]
    · simp [hji, h2]
/-- a store of two slots -/
theorem lw_set2 {ls : Array Slot} {nL : Nat} {lv : List (Option Value)} {i : Nat} {v : Value} (h : lv_has ls nL ((i, v) :: (lw_asc 0 lv).filter (fun q => !(q.1 == i) && (!(q.1 == i + 1) && !(q.1 + 1 == i && q.2.category == 2))))) (hp : ∀ w, lv[i - 1]? = some (some w) → i = 0 ∨ w.category = 1) : lw_has ls nL ((lv.set i (some v)).set (i + 1) none) := by
  refine ⟨h.1, h.2.1, fun j w hj => ?_⟩
  by_cases hj1 : j = i + 1
  · subst hj1
    have hl : i + 1 < (lv.set i (some v)).length := by
      have := (List.getElem?_eq_some_iff.mp hj).1
      simpa using this
    rw [List.getElem?_set_self hl] at hj
    cases hj
  rw [List.getElem?_set_ne (fun q => hj1 q.symm)] at hj
  by_cases hji : j = i
  · subst hji
    have hl : j < lv.length := by
      have := (List.getElem?_eq_some_iff.mp hj).1
      simpa using this
    rw [List.getElem?_set_self hl] at hj
    have e : v = w := by simpa using hj
    subst e
    exact h.2.2 (j, v) List.mem_cons_self
  · rw [List.getElem?_set_ne (fun q => hji q.symm)] at hj
    refine h.2.2 (j, w) (List.mem_cons_of_mem _ (List.mem_filter.mpr ⟨(lw_asc_mem lv 0 (j, w)).mpr ⟨Nat.zero_le _, by simpa using hj⟩, ?_⟩))
    by_cases h2 : j + 1 = i
    · have h3 : i - 1 = j := by omega
      rcases hp w (by rw [h3]; exact hj) with h4 | h4
      · omega
      · simp [hji, h4, hj1]
    · simp [hji, h2, hj1]
def FX (g : EG) (d : MD) (p : Program) (s : State) (m : MethodId) (args : Array Value) (meth : Method) (c : Code) : Prop :=
  p.tables.exec = Jvm.exec ∧ c.code = d.2.1 ∧ c.maxLocals = d.2.2.1 ∧ meth.sig.returnType = d.2.2.2.1 ∧ s.vm.findClass d.1.cls = some m.cls ∧ (∀ w ∈ wsD d, w.before args s = true) ∧ meth.locks = false ∧ va_K g.2.1 vwCl (tysG g) s ∧ nestOk s
/-- a method's end: its answer and its world, as Ph says -/
def QR (g : EG) (Ph : Option Value → va_W → Prop) (A : Nat → Prop) : Array Value → State → Outcome → State → Prop := fun _ st o t =>
  (∃ (v : Option Value) (ws' : va_W), o = .returned v ∧ Ph v ws' ∧ va_P g.2.1 vwCl ws' t.heap ∧ va_D A ws') ∧ va_F A st t
def Ev (g : EG) (d : MD) (pc : Nat) (lv : List (Option Value)) (st : List Value) (ws : va_W) (Ph : Option Value → va_W → Prop) : Prop :=
  ∀ (p : Program) (e : Env) (s : State) (m : MethodId) (args : Array Value) (below : List Frame) (meth : Method) (c : Code) (H : Heap) (locs : List Loc) (ls : Array Slot) (A : Nat → Prop),
    FX g d p s m args meth c → (∀ q, s.heap.size ≤ q → A q) → va_P g.2.1 vwCl ws H → va_D A ws → va_S A s.heap H locs → lw_has ls d.2.2.1 lv →
    W p g.1 e (rmR d.2.2.2.2) s m args below meth c H locs 0 0 (MQ below (QR g Ph A) args s 0 0 A) (F0 m pc ls st)
/-- the contract that comes of it -/
def Ret (g : EG) (d : MD) (av : List Value) (ws : va_W) (Ph : Option Value → va_W → Prop) : Prop :=
  ∀ sz : Nat, Met g.1 d.1 (wsD d) (rmR d.2.2.2.2) (va_Pc av (fun U => U.heap.size = sz ∧ va_P g.2.1 vwCl ws U.heap ∧ va_K g.2.1 vwCl (tysG g) U ∧ va_D (fun _ => True) ws ∧ nestOk U)) (QR g Ph (va_A ws sz)) 0 0 (va_A ws sz)
def lw_args : List Value → List (Option Value)
  | [] => []
  | v :: vs => if v.category = 2 then some v :: none :: lw_args vs else some v :: lw_args vs
theorem lw_args_at : ∀ (vs : List Value) (i0 i : Nat) (v : Value), (lw_args vs)[i]? = some (some v) → (i0 + i, v) ∈ lv_args i0 vs
  | [], i0, i, v, h => by simp [lw_args] at h
  | w :: vs, i0, i, v, h => by
    by_cases hc : w.category = 2
    · simp only [lw_args, hc, if_true] at h
      simp only [lv_args, hc, if_true]
      match i, h with
      | 0, h =>
        have e : w = v := by simpa using h
        subst e
        exact List.mem_cons_self
      | 1, h => simp at h
      | i + 2, h =>
        refine List.mem_cons_of_mem _ ?_
        have := lw_args_at vs (i0 + 2) i v (by simpa using h)
        rw [show i0 + (i + 2) = i0 + 2 + i by omega]
        exact this
    · simp only [lw_args, hc, if_false] at h
      simp only [lv_args, hc, if_false]
      match i, h with
      | 0, h =>
        have e : w = v := by simpa using h
        subst e
        exact List.mem_cons_self
      | i + 1, h =>
        refine List.mem_cons_of_mem _ ?_
        have := lw_args_at vs (i0 + 1) i v (by simpa using h)
        rw [show i0 + (i + 1) = i0 + 1 + i by omega]
        exact this
theorem lw_args_pad (vs : List Value) (n i : Nat) (v : Value) (h : (lw_args vs ++ List.replicate n none)[i]? = some (some v)) : (lw_args vs)[i]? = some (some v) := by
  by_cases hi : i < (lw_args vs).length
  · rwa [List.getElem?_append_left hi] at h
  · rw [List.getElem?_append_right (by omega)] at h
    have := List.eq_of_mem_replicate (List.mem_of_getElem? h)
    cases this
theorem Ret.of {g : EG} {d : MD} {av : List Value} {ws : va_W} {Ph : Option Value → va_W → Prop} (lv : List (Option Value)) (n : Nat) (hpl : plainName d.1.cls = true) (hlen : (lg_sl av).length ≤ d.2.2.1) (hlv : lw_args av ++ List.replicate n none = lv) (k : Ev g d 0 lv [] ws Ph) : Ret g d av ws Ph := by
  intro sz
  refine Met.ofW (cc := d.2.1) (maxL := d.2.2.1) (ret := d.2.2.2.1) hpl rfl ?_
  intro p e s m args below meth c s₁ B hml hv
  obtain ⟨rfl, hsz, hP, hK, hD0, hN⟩ := hv
  have hts := atoms_spec (ws := wsD d) B.pre
  subst hsz
  have hl := lv_entry av (n := d.2.2.1) hlen
  rw [lg_entry_eq]
  refine k p e s m _ below meth c s.heap [] _ (va_A ws s.heap.size) ⟨B.exec, B.bytes, hml, B.returns, findClass_of_methodNamed B.named, hts, B.notSynchronized, hK, hN⟩ (fun q h => Or.inr h) hP (hD0.self (sz := s.heap.size)) va_S.rf ⟨hl.1, hl.2.1, fun i v hi => ?_⟩
  rw [← hlv] at hi
  have h1 := lw_args_at av 0 i v (lw_args_pad av n i v hi)
  rw [Nat.zero_add] at h1
  exact hl.2.2 (i, v) h1
section EV
variable {g : EG} {d : MD} {pc pc' : Nat} {lv lv' : List (Option Value)} {st st' : List Value} {ws : va_W} {Ph : Option Value → va_W → Prop}
theorem Ev.mono {Ps : Option Value → va_W → Prop} (h : Ev g d pc lv st ws Ps) (hi : ∀ v w, Ps v w → Ph v w) : Ev g d pc lv st ws Ph := by
  intro p e s m args below meth c H locs ls A F hA hP hD hS hl T hT X
  obtain ⟨t, a, o, b1, b2, ⟨⟨v, w', q1, q2, q3⟩, q4⟩, b4⟩ := h p e s m args below meth c H locs ls A F hA hP hD hS hl T hT X
  exact ⟨t, a, o, b1, b2, ⟨⟨v, w', q1, hi v w' q2, q3⟩, q4⟩, b4⟩
/-- instructions that don't touch the heap -/
theorem Ev.go (k : Ev g d pc' lv' st' ws Ph) (h : ∀ (p : Program) (e : Env) (s : State) (m : MethodId) (args : Array Value) (below : List Frame) (meth : Method) (c : Code) (H : Heap) (locs : List Loc) (ls : Array Slot) (R : Room) (Q : State → Prop), p.tables.exec = Jvm.exec → c.code = d.2.1 → s.vm.findClass d.1.cls = some m.cls → (∀ w ∈ wsD d, w.before args s = true) → lw_has ls d.2.2.1 lv → (∀ ls', lw_has ls' d.2.2.1 lv' → W p g.1 e R s m args below meth c H locs 0 0 Q (F0 m pc' ls' st')) → W p g.1 e R s m args below meth c H locs 0 0 Q (F0 m pc ls st)) : Ev g d pc lv st ws Ph := by
  intro p e s m args below meth c H locs ls A F hA hP hD hS hl
  exact h p e s m args below meth c H locs ls _ _ F.1 F.2.1 F.2.2.2.2.1 F.2.2.2.2.2.1 hl (fun ls' hl' => k p e s m args below meth c H locs ls' A F hA hP hD hS hl')
theorem Ev.eq {pc2 : Nat} {lv2 : List (Option Value)} {st2 : List Value} {ws2 : va_W} (h1 : pc = pc2) (h2 : lv = lv2) (h3 : st = st2) (h4 : ws = ws2) (k : Ev g d pc2 lv2 st2 ws2 Ph) : Ev g d pc lv st ws Ph := by
  subst h1; subst h2; subst h3; subst h4; exact k
theorem ev_iconst {n : Int} {v : Int32} (hd : decode d.2.1 pc = .ok (.iconst n, 1)) (hp : pc + 1 = pc') (hv : Int32.ofInt n = v) (k : Ev g d pc' lv (.int v :: st) ws Ph) : Ev g d pc lv st ws Ph := by
  subst hp; exact Ev.go k fun p e s m args below meth c H locs ls R Q hx hb _ _ hl kk => lv_iconst hx hb hd hv (kk ls hl)
theorem ev_bipush {n : Int} {v : Int32} (hd : decode d.2.1 pc = .ok (.bipush n, 2)) (hp : pc + 2 = pc') (hv : (Int8.ofInt n).toInt32 = v) (k : Ev g d pc' lv (.int v :: st) ws Ph) : Ev g d pc lv st ws Ph := by
  subst hp; exact Ev.go k fun p e s m args below meth c H locs ls R Q hx hb _ _ hl kk => lv_bipush hx hb hd hv (kk ls hl)
theorem ev_sipush {n : Int} {v : Int32} (hd : decode d.2.1 pc = .ok (.sipush n, 3)) (hp : pc + 3 = pc') (hv : (Int16.ofInt n).toInt32 = v) (k : Ev g d pc' lv (.int v :: st) ws Ph) : Ev g d pc lv st ws Ph := by
  subst hp; exact Ev.go k fun p e s m args below meth c H locs ls R Q hx hb _ _ hl kk => lv_sipush hx hb hd hv (kk ls hl)
theorem ev_lconst {n : Fin 2} {v : Int64} (hd : decode d.2.1 pc = .ok (.lconst n, 1)) (hp : pc + 1 = pc') (hv : Int64.ofNat (n : Nat) = v) (k : Ev g d pc' lv (.long v :: st) ws Ph) : Ev g d pc lv st ws Ph := by
  subst hp; exact Ev.go k fun p e s m args below meth c H locs ls R Q hx hb _ _ hl kk => lv_lconst hx hb hd hv (kk ls hl)
theorem ev_ldc2 {index : Nat} {v : Int64} (hc : Cond.constantLong d.1.cls index v ∈ lw_good) (hd : decode d.2.1 pc = .ok (.ldc2_w index, 3)) (hp : pc + 3 = pc') (k : Ev g d pc' lv (.long v :: st) ws Ph) : Ev g d pc lv st ws Ph := by
  subst hp; exact Ev.go k fun p e s m args below meth c H locs ls R Q hx hb ho ht hl kk => lv_ldc2 hx hb ho (ht _ (List.mem_cons_of_mem _ hc)) hd (kk ls hl)
theorem ev_null (hd : decode d.2.1 pc = .ok (.aconst_null, 1)) (hp : pc + 1 = pc') (k : Ev g d pc' lv (va_rf none :: st) ws Ph) : Ev g d pc lv st ws Ph := by
  subst hp; exact Ev.go k fun p e s m args below meth c H locs ls R Q hx hb _ _ hl kk => lv_null hx hb hd (kk ls hl)
theorem ev_iload_n {i : Fin 4} {x : Int32} (hd : decode d.2.1 pc = .ok (.iload_n i, 1)) (hp : pc + 1 = pc') (hi : lv[(i : Nat)]? = some (some (.int x))) (k : Ev g d pc' lv (.int x :: st) ws Ph) : Ev g d pc lv st ws Ph := by
  subst hp; exact Ev.go k fun p e s m args below meth c H locs ls R Q hx hb _ _ hl kk => lv_iload_n hx hb hd rfl (hl.at hi) (kk ls hl)
theorem ev_iload {i : Nat} {x : Int32} (hd : decode d.2.1 pc = .ok (.iload i, 2)) (hp : pc + 2 = pc') (hi : lv[i]? = some (some (.int x))) (k : Ev g d pc' lv (.int x :: st) ws Ph) : Ev g d pc lv st ws Ph := by
  subst hp; exact Ev.go k fun p e s m args below meth c H locs ls R Q hx hb _ _ hl kk => lv_iload hx hb hd (hl.at hi) (kk ls hl)
theorem ev_lload_n {i : Fin 4} {x : Int64} (hd : decode d.2.1 pc = .ok (.lload_n i, 1)) (hp : pc + 1 = pc') (hi : lv[(i : Nat)]? = some (some (.long x))) (k : Ev g d pc' lv (.long x :: st) ws Ph) : Ev g d pc lv st ws Ph := by
  subst hp; exact Ev.go k fun p e s m args below meth c H locs ls R Q hx hb _ _ hl kk => lv_lload_n hx hb hd rfl (hl.at hi) (kk ls hl)
theorem ev_lload {i : Nat} {x : Int64} (hd : decode d.2.1 pc = .ok (.lload i, 2)) (hp : pc + 2 = pc') (hi : lv[i]? = some (some (.long x))) (k : Ev g d pc' lv (.long x :: st) ws Ph) : Ev g d pc lv st ws Ph := by
  subst hp; exact Ev.go k fun p e s m args below meth c H locs ls R Q hx hb _ _ hl kk => lv_lload hx hb hd (hl.at hi) (kk ls hl)
theorem ev_aload_n {i : Fin 4} {x : Nat} (hd : decode d.2.1 pc = .ok (.aload_n i, 1)) (hp : pc + 1 = pc') (hi : lv[(i : Nat)]? = some (some (.ref x))) (k : Ev g d pc' lv (.ref x :: st) ws Ph) : Ev g d pc lv st ws Ph := by
  subst hp; exact Ev.go k fun p e s m args below meth c H locs ls R Q hx hb _ _ hl kk => lv_aload_n hx hb hd rfl (hl.at hi) (kk ls hl)
theorem ev_aload {i : Nat} {x : Nat} (hd : decode d.2.1 pc = .ok (.aload i, 2)) (hp : pc + 2 = pc') (hi : lv[i]? = some (some (.ref x))) (k : Ev g d pc' lv (.ref x :: st) ws Ph) : Ev g d pc lv st ws Ph := by
  subst hp; exact Ev.go k fun p e s m args below meth c H locs ls R Q hx hb _ _ hl kk => lv_aload hx hb hd (hl.at hi) (kk ls hl)
theorem ev_aload_nq {i : Fin 4} {r : Option Nat} (hd : decode d.2.1 pc = .ok (.aload_n i, 1)) (hp : pc + 1 = pc') (hi : lv[(i : Nat)]? = some (some (va_rf r))) (k : Ev g d pc' lv (va_rf r :: st) ws Ph) : Ev g d pc lv st ws Ph := by
  subst hp
  cases r with
  | none => exact Ev.go k fun p e s m args below meth c H locs ls R Q hx hb _ _ hl kk => lv_aload_nN hx hb hd rfl (hl.at hi) (kk ls hl)
  | some x => exact Ev.go k fun p e s m args below meth c H locs ls R Q hx hb _ _ hl kk => lv_aload_n hx hb hd rfl (hl.at hi) (kk ls hl)
theorem ev_aloadq {i : Nat} {r : Option Nat} (hd : decode d.2.1 pc = .ok (.aload i, 2)) (hp : pc + 2 = pc') (hi : lv[i]? = some (some (va_rf r))) (k : Ev g d pc' lv (va_rf r :: st) ws Ph) : Ev g d pc lv st ws Ph := by
  subst hp
  cases r with
  | none => exact Ev.go k fun p e s m args below meth c H locs ls R Q hx hb _ _ hl kk => lv_aloadN hx hb hd (hl.at hi) (kk ls hl)
  | some x => exact Ev.go k fun p e s m args below meth c H locs ls R Q hx hb _ _ hl kk => lv_aload hx hb hd (hl.at hi) (kk ls hl)
theorem rf_cat (r : Option Nat) : (va_rf r).category = 1 := by cases r <;> rfl
/-- what stands just before place i isn't wide -/
def lw_pv (lv : List (Option Value)) (i : Nat) : Prop := ∀ w, lv[i - 1]? = some (some w) → i = 0 ∨ w.category = 1
theorem ev_istore_n {i : Fin 4} {x : Int32} (hd : decode d.2.1 pc = .ok (.istore_n i, 1)) (hp : pc + 1 = pc') (hn : (i : Nat) < d.2.2.1) (hv : lw_pv lv i) (hs : lv.set (i : Nat) (some (.int x)) = lv') (k : Ev g d pc' lv' st ws Ph) : Ev g d pc lv (.int x :: st) ws Ph := by
  subst hp; subst hs; exact Ev.go k fun p e s m args below meth c H locs ls R Q hx hb _ _ hl kk => lv_istore_n hx hb hd rfl hl.to hn rfl (fun ls' h => kk ls' (lw_set1 h hv))
theorem ev_istore {i : Nat} {x : Int32} (hd : decode d.2.1 pc = .ok (.istore i, 2)) (hp : pc + 2 = pc') (hn : i < d.2.2.1) (hv : lw_pv lv i) (hs : lv.set i (some (.int x)) = lv') (k : Ev g d pc' lv' st ws Ph) : Ev g d pc lv (.int x :: st) ws Ph := by
  subst hp; subst hs; exact Ev.go k fun p e s m args below meth c H locs ls R Q hx hb _ _ hl kk => lv_istore hx hb hd hl.to hn rfl (fun ls' h => kk ls' (lw_set1 h hv))
theorem ev_lstore_n {i : Fin 4} {x : Int64} (hd : decode d.2.1 pc = .ok (.lstore_n i, 1)) (hp : pc + 1 = pc') (hn : (i : Nat) + 1 < d.2.2.1) (hv : lw_pv lv i) (hs : (lv.set (i : Nat) (some (.long x))).set ((i : Nat) + 1) none = lv') (k : Ev g d pc' lv' st ws Ph) : Ev g d pc lv (.long x :: st) ws Ph := by
  subst hp; subst hs; exact Ev.go k fun p e s m args below meth c H locs ls R Q hx hb _ _ hl kk => lv_lstore_n hx hb hd rfl hl.to hn rfl (fun ls' h => kk ls' (lw_set2 h hv))
theorem ev_lstore {i : Nat} {x : Int64} (hd : decode d.2.1 pc = .ok (.lstore i, 2)) (hp : pc + 2 = pc') (hn : i + 1 < d.2.2.1) (hv : lw_pv lv i) (hs : (lv.set i (some (.long x))).set (i + 1) none = lv') (k : Ev g d pc' lv' st ws Ph) : Ev g d pc lv (.long x :: st) ws Ph := by
  subst hp; subst hs; exact Ev.go k fun p e s m args below meth c H locs ls R Q hx hb _ _ hl kk => lv_lstore hx hb hd hl.to hn rfl (fun ls' h => kk ls' (lw_set2 h hv))
theorem ev_astore_n {i : Fin 4} {x : Nat} (hd : decode d.2.1 pc = .ok (.astore_n i, 1)) (hp : pc + 1 = pc') (hn : (i : Nat) < d.2.2.1) (hv : lw_pv lv i) (hs : lv.set (i : Nat) (some (.ref x)) = lv') (k : Ev g d pc' lv' st ws Ph) : Ev g d pc lv (.ref x :: st) ws Ph := by
  subst hp; subst hs; exact Ev.go k fun p e s m args below meth c H locs ls R Q hx hb _ _ hl kk => lv_astore_n hx hb hd rfl hl.to hn rfl (fun ls' h => kk ls' (lw_set1 h hv))
theorem ev_astore {i : Nat} {x : Nat} (hd : decode d.2.1 pc = .ok (.astore i, 2)) (hp : pc + 2 = pc') (hn : i < d.2.2.1) (hv : lw_pv lv i) (hs : lv.set i (some (.ref x)) = lv') (k : Ev g d pc' lv' st ws Ph) : Ev g d pc lv (.ref x :: st) ws Ph := by
  subst hp; subst hs; exact Ev.go k fun p e s m args below meth c H locs ls R Q hx hb _ _ hl kk => lv_astore hx hb hd hl.to hn rfl (fun ls' h => kk ls' (lw_set1 h hv))
theorem ev_astore_nq {i : Fin 4} {r : Option Nat} (hd : decode d.2.1 pc = .ok (.astore_n i, 1)) (hp : pc + 1 = pc') (hn : (i : Nat) < d.2.2.1) (hv : lw_pv lv i) (hs : lv.set (i : Nat) (some (va_rf r)) = lv') (k : Ev g d pc' lv' st ws Ph) : Ev g d pc lv (va_rf r :: st) ws Ph := by
  subst hp; subst hs
  cases r with
  | none => exact Ev.go k fun p e s m args below meth c H locs ls R Q hx hb _ _ hl kk => lv_astore_nN hx hb hd rfl hl.to hn rfl (fun ls' h => kk ls' (lw_set1 h hv))
  | some x => exact Ev.go k fun p e s m args below meth c H locs ls R Q hx hb _ _ hl kk => lv_astore_n hx hb hd rfl hl.to hn rfl (fun ls' h => kk ls' (lw_set1 h hv))
theorem ev_astoreq {i : Nat} {r : Option Nat} (hd : decode d.2.1 pc = .ok (.astore i, 2)) (hp : pc + 2 = pc') (hn : i < d.2.2.1) (hv : lw_pv lv i) (hs : lv.set i (some (va_rf r)) = lv') (k : Ev g d pc' lv' st ws Ph) : Ev g d pc lv (va_rf r :: st) ws Ph := by
  subst hp; subst hs
  cases r with
  | none => exact Ev.go k fun p e s m args below meth c H locs ls R Q hx hb _ _ hl kk => lv_astoreN hx hb hd hl.to hn rfl (fun ls' h => kk ls' (lw_set1 h hv))
  | some x => exact Ev.go k fun p e s m args below meth c H locs ls R Q hx hb _ _ hl kk => lv_astore hx hb hd hl.to hn rfl (fun ls' h => kk ls' (lw_set1 h hv))
theorem ev_iinc {i : Nat} {n : Int} {x v : Int32} (hd : decode d.2.1 pc = .ok (.iinc i n, 3)) (hp : pc + 3 = pc') (hi : lv[i]? = some (some (.int x))) (hx : x + Int32.ofInt n = v) (hn : i < d.2.2.1) (hv : lw_pv lv i) (hs : lv.set i (some (.int v)) = lv') (k : Ev g d pc' lv' st ws Ph) : Ev g d pc lv st ws Ph := by
  subst hp; subst hs
  refine Ev.go k fun p e s m args below meth c H locs ls R Q hx' hb _ _ hl kk => ?_
  obtain ⟨q, hq⟩ := List.getElem?_of_mem ((lw_asc_mem lv 0 (i, Value.int x)).mpr ⟨Nat.zero_le _, by simpa using hi⟩)
  exact lv_iinc hx' hb hd hl.to hq hx hn rfl (fun ls' h => kk ls' (lw_set1 h hv))
theorem ev_iadd {x y : Int32} (hd : decode d.2.1 pc = .ok (.iadd, 1)) (hp : pc + 1 = pc') (k : Ev g d pc' lv (.int (x + y) :: st) ws Ph) : Ev g d pc lv (.int y :: .int x :: st) ws Ph := by
  subst hp; exact Ev.go k fun p e s m args below meth c H locs ls R Q hx hb _ _ hl kk => lv_iadd hx hb hd (kk ls hl)
theorem ev_isub {x y : Int32} (hd : decode d.2.1 pc = .ok (.isub, 1)) (hp : pc + 1 = pc') (k : Ev g d pc' lv (.int (x - y) :: st) ws Ph) : Ev g d pc lv (.int y :: .int x :: st) ws Ph := by
  subst hp; exact Ev.go k fun p e s m args below meth c H locs ls R Q hx hb _ _ hl kk => lv_isub hx hb hd (kk ls hl)
theorem ev_imul {x y : Int32} (hd : decode d.2.1 pc = .ok (.imul, 1)) (hp : pc + 1 = pc') (k : Ev g d pc' lv (.int (x * y) :: st) ws Ph) : Ev g d pc lv (.int y :: .int x :: st) ws Ph := by
  subst hp; exact Ev.go k fun p e s m args below meth c H locs ls R Q hx hb _ _ hl kk => lv_imul hx hb hd (kk ls hl)
theorem ev_ladd {x y : Int64} (hd : decode d.2.1 pc = .ok (.ladd, 1)) (hp : pc + 1 = pc') (k : Ev g d pc' lv (.long (x + y) :: st) ws Ph) : Ev g d pc lv (.long y :: .long x :: st) ws Ph := by
  subst hp; exact Ev.go k fun p e s m args below meth c H locs ls R Q hx hb _ _ hl kk => lv_ladd hx hb hd (kk ls hl)
theorem ev_lmul {x y : Int64} (hd : decode d.2.1 pc = .ok (.lmul, 1)) (hp : pc + 1 = pc') (k : Ev g d pc' lv (.long (x * y) :: st) ws Ph) : Ev g d pc lv (.long y :: .long x :: st) ws Ph := by
  subst hp; exact Ev.go k fun p e s m args below meth c H locs ls R Q hx hb _ _ hl kk => lv_lmul hx hb hd (kk ls hl)
theorem ev_i2l {x : Int32} (hd : decode d.2.1 pc = .ok (.i2l, 1)) (hp : pc + 1 = pc') (k : Ev g d pc' lv (.long x.toInt64 :: st) ws Ph) : Ev g d pc lv (.int x :: st) ws Ph := by
  subst hp; exact Ev.go k fun p e s m args below meth c H locs ls R Q hx hb _ _ hl kk => lv_i2l hx hb hd rfl (kk ls hl)
theorem ev_i2c {x v : Int32} (hd : decode d.2.1 pc = .ok (.i2c, 1)) (hp : pc + 1 = pc') (hv : (x.toUInt32 % 65536).toInt32 = v) (k : Ev g d pc' lv (.int v :: st) ws Ph) : Ev g d pc lv (.int x :: st) ws Ph := by
  subst hp; exact Ev.go k fun p e s m args below meth c H locs ls R Q hx hb _ _ hl kk => lv_i2c hx hb hd hv (kk ls hl)
theorem ev_dup {v : Value} (hd : decode d.2.1 pc = .ok (.dup, 1)) (hp : pc + 1 = pc') (hc : v.category = 1) (k : Ev g d pc' lv (v :: v :: st) ws Ph) : Ev g d pc lv (v :: st) ws Ph := by
  subst hp; exact Ev.go k fun p e s m args below meth c H locs ls R Q hx hb _ _ hl kk => lv_dup hx hb hd hc (kk ls hl)
theorem ev_goto {off : Int} (hd : decode d.2.1 pc = .ok (.goto off, 3)) (hp : (pc : Int) + off = (pc' : Int)) (k : Ev g d pc' lv st ws Ph) : Ev g d pc lv st ws Ph :=
  Ev.go k fun p e s m args below meth c H locs ls R Q hx hb _ _ hl kk => lv_goto hx hb hd hp (kk ls hl)
end EV
