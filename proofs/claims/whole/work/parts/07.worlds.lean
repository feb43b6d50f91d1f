/-! ===== the two worlds: the object that landed, and the reference's ===== -/
def wM (g : EG) (mo : Nat) (mr : Nat → Nat) (mnd mgv mcu mck mcl msh : Int32) (mhh : Int64) (mnu mpa mfa mti mpo mle mde msr mtl mtx mcp mmk mns : Nat → Int32) : va_W :=
  [(mo, .inr (2, [.int mnd, .int mgv, .ref (mr 0), .ref (mr 1), .ref (mr 2), .ref (mr 3), .ref (mr 4), .ref (mr 5), .ref (mr 6), .ref (mr 7), .ref (mr 8), .ref (mr 9), .int mcu, .int mck, .int mcl, .ref (mr 10), .ref (mr 11), .ref (mr 12), .int msh, .long mhh])),
   (mr 0, .inl (g.2.2.2.1, 24, .inl mnu)), (mr 1, .inl (g.2.2.2.1, 24, .inl mpa)), (mr 2, .inl (g.2.2.2.1, 24, .inl mfa)), (mr 3, .inl (g.2.2.2.1, 24, .inl mti)), (mr 4, .inl (g.2.2.2.1, 24, .inl mpo)), (mr 5, .inl (g.2.2.2.1, 24, .inl mle)), (mr 6, .inl (g.2.2.2.2.1, 24, .inl mde)), (mr 7, .inl (g.2.2.2.1, 144, .inl msr)), (mr 8, .inl (g.2.2.2.1, 24, .inl mtl)), (mr 9, .inl (g.2.2.2.1, 960, .inl mtx)), (mr 10, .inl (g.2.2.2.1, 6, .inl mcp)), (mr 11, .inl (g.2.2.2.1, 5, .inl mmk)), (mr 12, .inl (g.2.2.2.1, 6, .inl mns))]
abbrev fN (xt : Nat → Nat) (xtl xnu xti : Nat → Int32) (xpa xfa : Nat → Option Nat) (xep xel xde : Nat → Int32) (a : Nat) : va_E := .inr (0, [.ref (xt a), .int (xtl a), .int (xnu a), .int (xti a), va_rf (xpa a), va_rf (xfa a), .int (xep a), .int (xel a), .int (xde a)])
abbrev fT (g : EG) (xtc : Nat → Nat → Int32) (t : Nat) : va_E := .inl (g.2.2.1, 40, .inl (xtc t))
abbrev wX0 (g : EG) (xo an ac am : Nat) (xar : Nat → Option Nat) (xnt xln : Int32) (xcu : Nat) (xck : Int32) (xcp : Nat → Int32) (xcl : Int32) (xmk : Nat → Option Nat) : va_W :=
  [(xo, .inr (1, [.ref an, .int xnt, .int xln, .ref xcu, .int xck, .ref ac, .int xcl, .ref am])), (an, .inl (g.2.2.2.2.2, 24, .inr (.inr (.inr (.inr xar))))), (ac, .inl (g.2.2.1, 6, .inl xcp)), (am, .inl (g.2.2.2.2.2, 5, .inr (.inr (.inr (.inr xmk)))))]
def wX (g : EG) (xo an ac am : Nat) (LN LT : List Nat) (xt : Nat → Nat) (xar : Nat → Option Nat) (xnt xln : Int32) (xcu : Nat) (xck : Int32) (xcp : Nat → Int32) (xcl : Int32) (xmk : Nat → Option Nat) (xtl xnu xti : Nat → Int32) (xpa xfa : Nat → Option Nat) (xep xel xde : Nat → Int32) (xtc : Nat → Nat → Int32) : va_W :=
  (wX0 g xo an ac am xar xnt xln xcu xck xcp xcl xmk ++ va_pl LT (fT g xtc)) ++ va_pl LN (fN xt xtl xnu xti xpa xfa xep xel xde)
section WR
variable {g : EG} {xo an ac am : Nat} {LN LT : List Nat} {xt : Nat → Nat} {xar : Nat → Option Nat} {xnt xln : Int32} {xcu : Nat} {xck : Int32} {xcp : Nat → Int32} {xcl : Int32} {xmk : Nat → Option Nat} {xtl xnu xti : Nat → Int32} {xpa xfa : Nat → Option Nat} {xep xel xde : Nat → Int32} {xtc : Nat → Nat → Int32}
variable {d : MD} {pc pc' tgt : Nat} {lv lv' : List (Option Value)} {st st' : List Value} {ws ws' : va_W} {Ph : Option Value → va_W → Prop}
theorem ev_ialdN {a n k : Nat} {f : Nat → Int32} {v : Int32} (q0 : Nat) (ha : ws[q0]? = some (a, .inl (g.2.2.2.1, n, .inl f))) (hk : k < n) (hn : n < 2 ^ 31) (hv : f k = v) (hd : decode d.2.1 pc = .ok (.iaload, 1)) (hp : pc + 1 = pc') (kk : Ev g d pc' lv (.int v :: st) ws Ph) : Ev g d pc lv (.int (nI k) :: .ref a :: st) ws Ph := by
  refine ev_iald q0 ha (vp_in_nI hk hn) hd hp ?_
  rw [nI_clamp (by omega), hv]; exact kk
theorem ev_zaldN {a n k : Nat} {f : Nat → Int32} {v : Int32} (q0 : Nat) (ha : ws[q0]? = some (a, .inl (g.2.2.2.2.1, n, .inl f))) (hk : k < n) (hn : n < 2 ^ 31) (hv : f k = v) (hd : decode d.2.1 pc = .ok (.baload, 1)) (hp : pc + 1 = pc') (kk : Ev g d pc' lv (.int v :: st) ws Ph) : Ev g d pc lv (.int (nI k) :: .ref a :: st) ws Ph := by
  refine ev_zald q0 ha (vp_in_nI hk hn) hd hp ?_
  rw [nI_clamp (by omega), hv]; exact kk
theorem ev_caldN {a n k : Nat} {f : Nat → Int32} {v : Int32} (q0 : Nat) (ha : ws[q0]? = some (a, .inl (g.2.2.1, n, .inl f))) (hk : k < n) (hn : n < 2 ^ 31) (hv : f k = v) (hd : decode d.2.1 pc = .ok (.caload, 1)) (hp : pc + 1 = pc') (kk : Ev g d pc' lv (.int v :: st) ws Ph) : Ev g d pc lv (.int (nI k) :: .ref a :: st) ws Ph := by
  refine ev_cald q0 ha (vp_in_nI hk hn) hd hp ?_
  rw [nI_clamp (by omega), hv]; exact kk
theorem ev_aaldN {a n k : Nat} {f : Nat → Option Nat} {v : Option Nat} (q0 : Nat) (ha : ws[q0]? = some (a, .inl (g.2.2.2.2.2, n, .inr (.inr (.inr (.inr f)))))) (hk : k < n) (hn : n < 2 ^ 31) (hv : f k = v) (hd : decode d.2.1 pc = .ok (.aaload, 1)) (hp : pc + 1 = pc') (kk : Ev g d pc' lv (va_rf v :: st) ws Ph) : Ev g d pc lv (.int (nI k) :: .ref a :: st) ws Ph := by
  refine ev_aald q0 ha (vp_in_nI hk hn) hd hp ?_
  rw [nI_clamp (by omega), hv]; exact kk
theorem ev_iastN {a n k : Nat} {f : Nat → Int32} {x : Int32} (q0 : Nat) (ha : ws[q0]? = some (a, .inl (g.2.2.2.1, n, .inl f))) (hk : k < n) (hn : n < 2 ^ 31) (hd : decode d.2.1 pc = .ok (.iastore, 1)) (hp : pc + 1 = pc') (hw : ws.set q0 (a, .inl (g.2.2.2.1, n, .inl (upd f k x))) = ws') (kk : Ev g d pc' lv st ws' Ph) : Ev g d pc lv (.int x :: .int (nI k) :: .ref a :: st) ws Ph :=
  ev_iast q0 ha (vp_in_nI hk hn) hd hp (by rw [nI_clamp (by omega)]; exact hw) kk
theorem ev_zastN {a n k : Nat} {f : Nat → Int32} {x : Int32} (q0 : Nat) (ha : ws[q0]? = some (a, .inl (g.2.2.2.2.1, n, .inl f))) (hk : k < n) (hn : n < 2 ^ 31) (hz : x = 0 ∨ x = 1) (hd : decode d.2.1 pc = .ok (.bastore, 1)) (hp : pc + 1 = pc') (hw : ws.set q0 (a, .inl (g.2.2.2.2.1, n, .inl (upd f k x))) = ws') (kk : Ev g d pc' lv st ws' Ph) : Ev g d pc lv (.int x :: .int (nI k) :: .ref a :: st) ws Ph :=
  ev_zast q0 ha (vp_in_nI hk hn) hz hd hp (by rw [nI_clamp (by omega)]; exact hw) kk
theorem wX_node {a : Nat} (ha : a ∈ LN) : ∃ q : Nat, ((wX g xo an ac am LN LT xt xar xnt xln xcu xck xcp xcl xmk xtl xnu xti xpa xfa xep xel xde xtc))[q]? = some (a, fN xt xtl xnu xti xpa xfa xep xel xde a) := va_pl_get ha
theorem wX_text {t : Nat} (ht : t ∈ LT) : ∃ q : Nat, q < (wX0 g xo an ac am xar xnt xln xcu xck xcp xcl xmk ++ va_pl LT (fT g xtc)).length ∧ ((wX g xo an ac am LN LT xt xar xnt xln xcu xck xcp xcl xmk xtl xnu xti xpa xfa xep xel xde xtc))[q]? = some (t, fT g xtc t) := by
  obtain ⟨q, hq⟩ := va_pl_get (X := wX0 g xo an ac am xar xnt xln xcu xck xcp xcl xmk) (f := fT g xtc) ht
  have hl := (List.getElem?_eq_some_iff.mp hq).1
  exact ⟨q, hl, by unfold wX; rw [List.getElem?_append_left hl]; exact hq⟩
theorem wX_tset {A : Nat → Prop} {t q : Nat} {f : Nat → Int32} (hD : va_D A (wX g xo an ac am LN LT xt xar xnt xln xcu xck xcp xcl xmk xtl xnu xti xpa xfa xep xel xde xtc)) (ht : t ∈ LT) (hl : q < (wX0 g xo an ac am xar xnt xln xcu xck xcp xcl xmk ++ va_pl LT (fT g xtc)).length) (hq : ((wX g xo an ac am LN LT xt xar xnt xln xcu xck xcp xcl xmk xtl xnu xti xpa xfa xep xel xde xtc))[q]? = some (t, fT g xtc t)) : ((wX g xo an ac am LN LT xt xar xnt xln xcu xck xcp xcl xmk xtl xnu xti xpa xfa xep xel xde xtc)).set q (t, .inl (g.2.2.1, 40, .inl f)) = (wX g xo an ac am LN LT xt xar xnt xln xcu xck xcp xcl xmk xtl xnu xti xpa xfa xep xel xde (va_up xtc t f)) := by
  unfold wX at hq hD ⊢
  have hD1 : va_D A (wX0 g xo an ac am xar xnt xln xcu xck xcp xcl xmk ++ va_pl LT (fT g xtc)) := by
    refine hD.by id (fun k p hk => ?_) (fun i j _ _ e => e)
    show (_ ++ _)[k]? = _
    rw [List.getElem?_append_left (List.getElem?_eq_some_iff.mp hk).1]; exact hk
  rw [List.getElem?_append_left hl] at hq
  rw [List.set_append_left _ _ hl, va_pl_set hD1 ht hq]
  congr 2
  refine va_pl_congr (fun b => ?_)
  by_cases hb : b = t
  · subst hb; rw [va_up_self]; simp only [fT, va_up_self]
  · rw [va_up_ne _ _ hb]; simp only [fT, va_up_ne _ _ hb]
theorem xn_get {a index : Nat} {v : Value} (k : Nat) (ha : a ∈ LN) (hlink : Cond.fieldLinkNest d.1.cls index (TX0 k).1 (TX0 k).2.1 (TX0 k).2.2.1 "EditTree" ∈ nestF) (hk : k < 9) (hv : [.ref (xt a), .int (xtl a), .int (xnu a), .int (xti a), va_rf (xpa a), va_rf (xfa a), .int (xep a), .int (xel a), .int (xde a)][k]? = some v) (hd : decode d.2.1 pc = .ok (.getfield index, 3)) (hp : pc + 3 = pc') (kk : Ev g d pc' lv (v :: st) (wX g xo an ac am LN LT xt xar xnt xln xcu xck xcp xcl xmk xtl xnu xti xpa xfa xep xel xde xtc) Ph) : Ev g d pc lv (.ref a :: st) (wX g xo an ac am LN LT xt xar xnt xln xcu xck xcp xcl xmk xtl xnu xti xpa xfa xep xel xde xtc) Ph := by
  obtain ⟨q, hq⟩ := wX_node (g := g) (xo := xo) (an := an) (ac := ac) (am := am) (LN := LN) (LT := LT) (xt := xt) (xar := xar) (xnt := xnt) (xln := xln) (xcu := xcu) (xck := xck) (xcp := xcp) (xcl := xcl) (xmk := xmk) (xtl := xtl) (xnu := xnu) (xti := xti) (xpa := xpa) (xfa := xfa) (xep := xep) (xel := xel) (xde := xde) (xtc := xtc) ha
  exact ev_getN inX0 q k hq rfl hk hlink hv hd hp kk
end WR
section WP
variable {g : EG} {xo an ac am : Nat} {LN LT : List Nat} {xt : Nat → Nat} {xar : Nat → Option Nat} {xnt xln : Int32} {xcu : Nat} {xck : Int32} {xcp : Nat → Int32} {xcl : Int32} {xmk : Nat → Option Nat} {xtl xnu xti : Nat → Int32} {xpa xfa : Nat → Option Nat} {xep xel xde : Nat → Int32} {xtc : Nat → Nat → Int32}
variable {d : MD} {pc pc' tgt : Nat} {lv lv' : List (Option Value)} {st st' : List Value} {ws ws' : va_W} {Ph : Option Value → va_W → Prop}
theorem wX_set_textLength {A : Nat → Prop} {a q : Nat} (v : Int32) (hD : va_D A (wX g xo an ac am LN LT xt xar xnt xln xcu xck xcp xcl xmk xtl xnu xti xpa xfa xep xel xde xtc)) (ha : a ∈ LN) (hq : ((wX g xo an ac am LN LT xt xar xnt xln xcu xck xcp xcl xmk xtl xnu xti xpa xfa xep xel xde xtc))[q]? = some (a, fN xt xtl xnu xti xpa xfa xep xel xde a)) : ((wX g xo an ac am LN LT xt xar xnt xln xcu xck xcp xcl xmk xtl xnu xti xpa xfa xep xel xde xtc)).set q (a, .inr (0, [.ref (xt a), .int v, .int (xnu a), .int (xti a), va_rf (xpa a), va_rf (xfa a), .int (xep a), .int (xel a), .int (xde a)])) = (wX g xo an ac am LN LT xt xar xnt xln xcu xck xcp xcl xmk (va_up xtl a v) xnu xti xpa xfa xep xel xde xtc) := by
  unfold wX at hD hq ⊢
  rw [va_pl_set hD ha hq]
  congr 1
  refine va_pl_congr (fun b => ?_)
  by_cases hb : b = a
  · subst hb; rw [va_up_self]; simp only [fN, va_up_self]
  · rw [va_up_ne _ _ hb]; simp only [fN, va_up_ne _ _ hb]
theorem pX0_textLength {a : Nat} {v : Int32} (ho : d.1.cls = RX1) (ha : a ∈ LN) (hd : decode d.2.1 pc = .ok (.putfield 40, 3)) (hp : pc + 3 = pc') (kk : Ev g d pc' lv st (wX g xo an ac am LN LT xt xar xnt xln xcu xck xcp xcl xmk (va_up xtl a v) xnu xti xpa xfa xep xel xde xtc) Ph) : Ev g d pc lv (.int v :: .ref a :: st) (wX g xo an ac am LN LT xt xar xnt xln xcu xck xcp xcl xmk xtl xnu xti xpa xfa xep xel xde xtc) Ph := by
  obtain ⟨q, hq⟩ := wX_node (g := g) (xo := xo) (an := an) (ac := ac) (am := am) (LN := LN) (LT := LT) (xt := xt) (xar := xar) (xnt := xnt) (xln := xln) (xcu := xcu) (xck := xck) (xcp := xcp) (xcl := xcl) (xmk := xmk) (xtl := xtl) (xnu := xnu) (xti := xti) (xpa := xpa) (xfa := xfa) (xep := xep) (xel := xel) (xde := xde) (xtc := xtc) ha
  refine ev_putN inX0 tyX0_ok nmX0 q 1 hq rfl (by decide) (by rw [ho]; exact fnX0_textLength) rfl rfl rfl (show 1 < 9 by decide) hd hp (fun hA => ?_)
  obtain ⟨A, hD⟩ := hA
  have e := wX_set_textLength v hD ha hq
  exact Ev.eq rfl rfl rfl e kk
theorem wX_set_number {A : Nat → Prop} {a q : Nat} (v : Int32) (hD : va_D A (wX g xo an ac am LN LT xt xar xnt xln xcu xck xcp xcl xmk xtl xnu xti xpa xfa xep xel xde xtc)) (ha : a ∈ LN) (hq : ((wX g xo an ac am LN LT xt xar xnt xln xcu xck xcp xcl xmk xtl xnu xti xpa xfa xep xel xde xtc))[q]? = some (a, fN xt xtl xnu xti xpa xfa xep xel xde a)) : ((wX g xo an ac am LN LT xt xar xnt xln xcu xck xcp xcl xmk xtl xnu xti xpa xfa xep xel xde xtc)).set q (a, .inr (0, [.ref (xt a), .int (xtl a), .int v, .int (xti a), va_rf (xpa a), va_rf (xfa a), .int (xep a), .int (xel a), .int (xde a)])) = (wX g xo an ac am LN LT xt xar xnt xln xcu xck xcp xcl xmk xtl (va_up xnu a v) xti xpa xfa xep xel xde xtc) := by
  unfold wX at hD hq ⊢
  rw [va_pl_set hD ha hq]
  congr 1
  refine va_pl_congr (fun b => ?_)
  by_cases hb : b = a
  · subst hb; rw [va_up_self]; simp only [fN, va_up_self]
  · rw [va_up_ne _ _ hb]; simp only [fN, va_up_ne _ _ hb]
theorem pX0_number {a : Nat} {v : Int32} (ho : d.1.cls = RX1) (ha : a ∈ LN) (hd : decode d.2.1 pc = .ok (.putfield 55, 3)) (hp : pc + 3 = pc') (kk : Ev g d pc' lv st (wX g xo an ac am LN LT xt xar xnt xln xcu xck xcp xcl xmk xtl (va_up xnu a v) xti xpa xfa xep xel xde xtc) Ph) : Ev g d pc lv (.int v :: .ref a :: st) (wX g xo an ac am LN LT xt xar xnt xln xcu xck xcp xcl xmk xtl xnu xti xpa xfa xep xel xde xtc) Ph := by
  obtain ⟨q, hq⟩ := wX_node (g := g) (xo := xo) (an := an) (ac := ac) (am := am) (LN := LN) (LT := LT) (xt := xt) (xar := xar) (xnt := xnt) (xln := xln) (xcu := xcu) (xck := xck) (xcp := xcp) (xcl := xcl) (xmk := xmk) (xtl := xtl) (xnu := xnu) (xti := xti) (xpa := xpa) (xfa := xfa) (xep := xep) (xel := xel) (xde := xde) (xtc := xtc) ha
  refine ev_putN inX0 tyX0_ok nmX0 q 2 hq rfl (by decide) (by rw [ho]; exact fnX0_number) rfl rfl rfl (show 2 < 9 by decide) hd hp (fun hA => ?_)
  obtain ⟨A, hD⟩ := hA
  have e := wX_set_number v hD ha hq
  exact Ev.eq rfl rfl rfl e kk
theorem wX_set_time {A : Nat → Prop} {a q : Nat} (v : Int32) (hD : va_D A (wX g xo an ac am LN LT xt xar xnt xln xcu xck xcp xcl xmk xtl xnu xti xpa xfa xep xel xde xtc)) (ha : a ∈ LN) (hq : ((wX g xo an ac am LN LT xt xar xnt xln xcu xck xcp xcl xmk xtl xnu xti xpa xfa xep xel xde xtc))[q]? = some (a, fN xt xtl xnu xti xpa xfa xep xel xde a)) : ((wX g xo an ac am LN LT xt xar xnt xln xcu xck xcp xcl xmk xtl xnu xti xpa xfa xep xel xde xtc)).set q (a, .inr (0, [.ref (xt a), .int (xtl a), .int (xnu a), .int v, va_rf (xpa a), va_rf (xfa a), .int (xep a), .int (xel a), .int (xde a)])) = (wX g xo an ac am LN LT xt xar xnt xln xcu xck xcp xcl xmk xtl xnu (va_up xti a v) xpa xfa xep xel xde xtc) := by
  unfold wX at hD hq ⊢
  rw [va_pl_set hD ha hq]
  congr 1
  refine va_pl_congr (fun b => ?_)
  by_cases hb : b = a
  · subst hb; rw [va_up_self]; simp only [fN, va_up_self]
  · rw [va_up_ne _ _ hb]; simp only [fN, va_up_ne _ _ hb]
theorem pX0_time {a : Nat} {v : Int32} (ho : d.1.cls = RX1) (ha : a ∈ LN) (hd : decode d.2.1 pc = .ok (.putfield 111, 3)) (hp : pc + 3 = pc') (kk : Ev g d pc' lv st (wX g xo an ac am LN LT xt xar xnt xln xcu xck xcp xcl xmk xtl xnu (va_up xti a v) xpa xfa xep xel xde xtc) Ph) : Ev g d pc lv (.int v :: .ref a :: st) (wX g xo an ac am LN LT xt xar xnt xln xcu xck xcp xcl xmk xtl xnu xti xpa xfa xep xel xde xtc) Ph := by
  obtain ⟨q, hq⟩ := wX_node (g := g) (xo := xo) (an := an) (ac := ac) (am := am) (LN := LN) (LT := LT) (xt := xt) (xar := xar) (xnt := xnt) (xln := xln) (xcu := xcu) (xck := xck) (xcp := xcp) (xcl := xcl) (xmk := xmk) (xtl := xtl) (xnu := xnu) (xti := xti) (xpa := xpa) (xfa := xfa) (xep := xep) (xel := xel) (xde := xde) (xtc := xtc) ha
  refine ev_putN inX0 tyX0_ok nmX0 q 3 hq rfl (by decide) (by rw [ho]; exact fnX0_time) rfl rfl rfl (show 3 < 9 by decide) hd hp (fun hA => ?_)
  obtain ⟨A, hD⟩ := hA
  have e := wX_set_time v hD ha hq
  exact Ev.eq rfl rfl rfl e kk
theorem wX_set_parent {A : Nat → Prop} {a q : Nat} (v : Option Nat) (hD : va_D A (wX g xo an ac am LN LT xt xar xnt xln xcu xck xcp xcl xmk xtl xnu xti xpa xfa xep xel xde xtc)) (ha : a ∈ LN) (hq : ((wX g xo an ac am LN LT xt xar xnt xln xcu xck xcp xcl xmk xtl xnu xti xpa xfa xep xel xde xtc))[q]? = some (a, fN xt xtl xnu xti xpa xfa xep xel xde a)) : ((wX g xo an ac am LN LT xt xar xnt xln xcu xck xcp xcl xmk xtl xnu xti xpa xfa xep xel xde xtc)).set q (a, .inr (0, [.ref (xt a), .int (xtl a), .int (xnu a), .int (xti a), va_rf v, va_rf (xfa a), .int (xep a), .int (xel a), .int (xde a)])) = (wX g xo an ac am LN LT xt xar xnt xln xcu xck xcp xcl xmk xtl xnu xti (va_up xpa a v) xfa xep xel xde xtc) := by
  unfold wX at hD hq ⊢
  rw [va_pl_set hD ha hq]
  congr 1
  refine va_pl_congr (fun b => ?_)
  by_cases hb : b = a
  · subst hb; rw [va_up_self]; simp only [fN, va_up_self]
  · rw [va_up_ne _ _ hb]; simp only [fN, va_up_ne _ _ hb]
theorem pX0_parent {a : Nat} {v : Option Nat} (ho : d.1.cls = RX1) (ha : a ∈ LN) (hd : decode d.2.1 pc = .ok (.putfield 62, 3)) (hp : pc + 3 = pc') (kk : Ev g d pc' lv st (wX g xo an ac am LN LT xt xar xnt xln xcu xck xcp xcl xmk xtl xnu xti (va_up xpa a v) xfa xep xel xde xtc) Ph) : Ev g d pc lv (va_rf v :: .ref a :: st) (wX g xo an ac am LN LT xt xar xnt xln xcu xck xcp xcl xmk xtl xnu xti xpa xfa xep xel xde xtc) Ph := by
  obtain ⟨q, hq⟩ := wX_node (g := g) (xo := xo) (an := an) (ac := ac) (am := am) (LN := LN) (LT := LT) (xt := xt) (xar := xar) (xnt := xnt) (xln := xln) (xcu := xcu) (xck := xck) (xcp := xcp) (xcl := xcl) (xmk := xmk) (xtl := xtl) (xnu := xnu) (xti := xti) (xpa := xpa) (xfa := xfa) (xep := xep) (xel := xel) (xde := xde) (xtc := xtc) ha
  refine ev_putN inX0 tyX0_ok nmX0 q 4 hq rfl (by decide) (by rw [ho]; exact fnX0_parent) rfl (by cases v <;> rfl) (by cases v <;> rfl) (show 4 < 9 by decide) hd hp (fun hA => ?_)
  obtain ⟨A, hD⟩ := hA
  have e := wX_set_parent v hD ha hq
  exact Ev.eq rfl rfl rfl e kk
theorem wX_set_favourite {A : Nat → Prop} {a q : Nat} (v : Option Nat) (hD : va_D A (wX g xo an ac am LN LT xt xar xnt xln xcu xck xcp xcl xmk xtl xnu xti xpa xfa xep xel xde xtc)) (ha : a ∈ LN) (hq : ((wX g xo an ac am LN LT xt xar xnt xln xcu xck xcp xcl xmk xtl xnu xti xpa xfa xep xel xde xtc))[q]? = some (a, fN xt xtl xnu xti xpa xfa xep xel xde a)) : ((wX g xo an ac am LN LT xt xar xnt xln xcu xck xcp xcl xmk xtl xnu xti xpa xfa xep xel xde xtc)).set q (a, .inr (0, [.ref (xt a), .int (xtl a), .int (xnu a), .int (xti a), va_rf (xpa a), va_rf v, .int (xep a), .int (xel a), .int (xde a)])) = (wX g xo an ac am LN LT xt xar xnt xln xcu xck xcp xcl xmk xtl xnu xti xpa (va_up xfa a v) xep xel xde xtc) := by
  unfold wX at hD hq ⊢
  rw [va_pl_set hD ha hq]
  congr 1
  refine va_pl_congr (fun b => ?_)
  by_cases hb : b = a
  · subst hb; rw [va_up_self]; simp only [fN, va_up_self]
  · rw [va_up_ne _ _ hb]; simp only [fN, va_up_ne _ _ hb]
theorem pX0_favourite {a : Nat} {v : Option Nat} (ho : d.1.cls = RX1) (ha : a ∈ LN) (hd : decode d.2.1 pc = .ok (.putfield 69, 3)) (hp : pc + 3 = pc') (kk : Ev g d pc' lv st (wX g xo an ac am LN LT xt xar xnt xln xcu xck xcp xcl xmk xtl xnu xti xpa (va_up xfa a v) xep xel xde xtc) Ph) : Ev g d pc lv (va_rf v :: .ref a :: st) (wX g xo an ac am LN LT xt xar xnt xln xcu xck xcp xcl xmk xtl xnu xti xpa xfa xep xel xde xtc) Ph := by
  obtain ⟨q, hq⟩ := wX_node (g := g) (xo := xo) (an := an) (ac := ac) (am := am) (LN := LN) (LT := LT) (xt := xt) (xar := xar) (xnt := xnt) (xln := xln) (xcu := xcu) (xck := xck) (xcp := xcp) (xcl := xcl) (xmk := xmk) (xtl := xtl) (xnu := xnu) (xti := xti) (xpa := xpa) (xfa := xfa) (xep := xep) (xel := xel) (xde := xde) (xtc := xtc) ha
  refine ev_putN inX0 tyX0_ok nmX0 q 5 hq rfl (by decide) (by rw [ho]; exact fnX0_favourite) rfl (by cases v <;> rfl) (by cases v <;> rfl) (show 5 < 9 by decide) hd hp (fun hA => ?_)
  obtain ⟨A, hD⟩ := hA
  have e := wX_set_favourite v hD ha hq
  exact Ev.eq rfl rfl rfl e kk
theorem wX_set_editPosition {A : Nat → Prop} {a q : Nat} (v : Int32) (hD : va_D A (wX g xo an ac am LN LT xt xar xnt xln xcu xck xcp xcl xmk xtl xnu xti xpa xfa xep xel xde xtc)) (ha : a ∈ LN) (hq : ((wX g xo an ac am LN LT xt xar xnt xln xcu xck xcp xcl xmk xtl xnu xti xpa xfa xep xel xde xtc))[q]? = some (a, fN xt xtl xnu xti xpa xfa xep xel xde a)) : ((wX g xo an ac am LN LT xt xar xnt xln xcu xck xcp xcl xmk xtl xnu xti xpa xfa xep xel xde xtc)).set q (a, .inr (0, [.ref (xt a), .int (xtl a), .int (xnu a), .int (xti a), va_rf (xpa a), va_rf (xfa a), .int v, .int (xel a), .int (xde a)])) = (wX g xo an ac am LN LT xt xar xnt xln xcu xck xcp xcl xmk xtl xnu xti xpa xfa (va_up xep a v) xel xde xtc) := by
  unfold wX at hD hq ⊢
  rw [va_pl_set hD ha hq]
  congr 1
  refine va_pl_congr (fun b => ?_)
  by_cases hb : b = a
  · subst hb; rw [va_up_self]; simp only [fN, va_up_self]
  · rw [va_up_ne _ _ hb]; simp only [fN, va_up_ne _ _ hb]
theorem pX0_editPosition {a : Nat} {v : Int32} (ho : d.1.cls = RX1) (ha : a ∈ LN) (hd : decode d.2.1 pc = .ok (.putfield 98, 3)) (hp : pc + 3 = pc') (kk : Ev g d pc' lv st (wX g xo an ac am LN LT xt xar xnt xln xcu xck xcp xcl xmk xtl xnu xti xpa xfa (va_up xep a v) xel xde xtc) Ph) : Ev g d pc lv (.int v :: .ref a :: st) (wX g xo an ac am LN LT xt xar xnt xln xcu xck xcp xcl xmk xtl xnu xti xpa xfa xep xel xde xtc) Ph := by
  obtain ⟨q, hq⟩ := wX_node (g := g) (xo := xo) (an := an) (ac := ac) (am := am) (LN := LN) (LT := LT) (xt := xt) (xar := xar) (xnt := xnt) (xln := xln) (xcu := xcu) (xck := xck) (xcp := xcp) (xcl := xcl) (xmk := xmk) (xtl := xtl) (xnu := xnu) (xti := xti) (xpa := xpa) (xfa := xfa) (xep := xep) (xel := xel) (xde := xde) (xtc := xtc) ha
  refine ev_putN inX0 tyX0_ok nmX0 q 6 hq rfl (by decide) (by rw [ho]; exact fnX0_editPosition) rfl rfl rfl (show 6 < 9 by decide) hd hp (fun hA => ?_)
  obtain ⟨A, hD⟩ := hA
  have e := wX_set_editPosition v hD ha hq
  exact Ev.eq rfl rfl rfl e kk
theorem wX_set_editLength {A : Nat → Prop} {a q : Nat} (v : Int32) (hD : va_D A (wX g xo an ac am LN LT xt xar xnt xln xcu xck xcp xcl xmk xtl xnu xti xpa xfa xep xel xde xtc)) (ha : a ∈ LN) (hq : ((wX g xo an ac am LN LT xt xar xnt xln xcu xck xcp xcl xmk xtl xnu xti xpa xfa xep xel xde xtc))[q]? = some (a, fN xt xtl xnu xti xpa xfa xep xel xde a)) : ((wX g xo an ac am LN LT xt xar xnt xln xcu xck xcp xcl xmk xtl xnu xti xpa xfa xep xel xde xtc)).set q (a, .inr (0, [.ref (xt a), .int (xtl a), .int (xnu a), .int (xti a), va_rf (xpa a), va_rf (xfa a), .int (xep a), .int v, .int (xde a)])) = (wX g xo an ac am LN LT xt xar xnt xln xcu xck xcp xcl xmk xtl xnu xti xpa xfa xep (va_up xel a v) xde xtc) := by
  unfold wX at hD hq ⊢
  rw [va_pl_set hD ha hq]
  congr 1
  refine va_pl_congr (fun b => ?_)
  by_cases hb : b = a
  · subst hb; rw [va_up_self]; simp only [fN, va_up_self]
  · rw [va_up_ne _ _ hb]; simp only [fN, va_up_ne _ _ hb]
theorem pX0_editLength {a : Nat} {v : Int32} (ho : d.1.cls = RX1) (ha : a ∈ LN) (hd : decode d.2.1 pc = .ok (.putfield 92, 3)) (hp : pc + 3 = pc') (kk : Ev g d pc' lv st (wX g xo an ac am LN LT xt xar xnt xln xcu xck xcp xcl xmk xtl xnu xti xpa xfa xep (va_up xel a v) xde xtc) Ph) : Ev g d pc lv (.int v :: .ref a :: st) (wX g xo an ac am LN LT xt xar xnt xln xcu xck xcp xcl xmk xtl xnu xti xpa xfa xep xel xde xtc) Ph := by
  obtain ⟨q, hq⟩ := wX_node (g := g) (xo := xo) (an := an) (ac := ac) (am := am) (LN := LN) (LT := LT) (xt := xt) (xar := xar) (xnt := xnt) (xln := xln) (xcu := xcu) (xck := xck) (xcp := xcp) (xcl := xcl) (xmk := xmk) (xtl := xtl) (xnu := xnu) (xti := xti) (xpa := xpa) (xfa := xfa) (xep := xep) (xel := xel) (xde := xde) (xtc := xtc) ha
  refine ev_putN inX0 tyX0_ok nmX0 q 7 hq rfl (by decide) (by rw [ho]; exact fnX0_editLength) rfl rfl rfl (show 7 < 9 by decide) hd hp (fun hA => ?_)
  obtain ⟨A, hD⟩ := hA
  have e := wX_set_editLength v hD ha hq
  exact Ev.eq rfl rfl rfl e kk
theorem wX_set_deletion {A : Nat → Prop} {a q : Nat} (v : Int32) (hD : va_D A (wX g xo an ac am LN LT xt xar xnt xln xcu xck xcp xcl xmk xtl xnu xti xpa xfa xep xel xde xtc)) (ha : a ∈ LN) (hq : ((wX g xo an ac am LN LT xt xar xnt xln xcu xck xcp xcl xmk xtl xnu xti xpa xfa xep xel xde xtc))[q]? = some (a, fN xt xtl xnu xti xpa xfa xep xel xde a)) : ((wX g xo an ac am LN LT xt xar xnt xln xcu xck xcp xcl xmk xtl xnu xti xpa xfa xep xel xde xtc)).set q (a, .inr (0, [.ref (xt a), .int (xtl a), .int (xnu a), .int (xti a), va_rf (xpa a), va_rf (xfa a), .int (xep a), .int (xel a), .int v])) = (wX g xo an ac am LN LT xt xar xnt xln xcu xck xcp xcl xmk xtl xnu xti xpa xfa xep xel (va_up xde a v) xtc) := by
  unfold wX at hD hq ⊢
  rw [va_pl_set hD ha hq]
  congr 1
  refine va_pl_congr (fun b => ?_)
  by_cases hb : b = a
  · subst hb; rw [va_up_self]; simp only [fN, va_up_self]
  · rw [va_up_ne _ _ hb]; simp only [fN, va_up_ne _ _ hb]
theorem pX0_deletion {a : Nat} {v : Int32} (ho : d.1.cls = RX1) (ha : a ∈ LN) (hz : v = 0 ∨ v = 1) (hd : decode d.2.1 pc = .ok (.putfield 88, 3)) (hp : pc + 3 = pc') (kk : Ev g d pc' lv st (wX g xo an ac am LN LT xt xar xnt xln xcu xck xcp xcl xmk xtl xnu xti xpa xfa xep xel (va_up xde a v) xtc) Ph) : Ev g d pc lv (.int v :: .ref a :: st) (wX g xo an ac am LN LT xt xar xnt xln xcu xck xcp xcl xmk xtl xnu xti xpa xfa xep xel xde xtc) Ph := by
  obtain ⟨q, hq⟩ := wX_node (g := g) (xo := xo) (an := an) (ac := ac) (am := am) (LN := LN) (LT := LT) (xt := xt) (xar := xar) (xnt := xnt) (xln := xln) (xcu := xcu) (xck := xck) (xcp := xcp) (xcl := xcl) (xmk := xmk) (xtl := xtl) (xnu := xnu) (xti := xti) (xpa := xpa) (xfa := xfa) (xep := xep) (xel := xel) (xde := xde) (xtc := xtc) ha
  refine ev_putN inX0 tyX0_ok nmX0 q 8 hq rfl (by decide) (by rw [ho]; exact fnX0_deletion) rfl (by rcases hz with rfl | rfl <;> rfl) (by rcases hz with rfl | rfl <;> rfl) (show 8 < 9 by decide) hd hp (fun hA => ?_)
  obtain ⟨A, hD⟩ := hA
  have e := wX_set_deletion v hD ha hq
  exact Ev.eq rfl rfl rfl e kk
theorem pX1_nodeTotal {v : Int32} (ho : d.1.cls = RX1) (hd : decode d.2.1 pc = .ok (.putfield 15, 3)) (hp : pc + 3 = pc') (kk : Ev g d pc' lv st (wX g xo an ac am LN LT xt xar (v) xln xcu xck xcp xcl xmk xtl xnu xti xpa xfa xep xel xde xtc) Ph) : Ev g d pc lv (.int v :: .ref xo :: st) (wX g xo an ac am LN LT xt xar xnt xln xcu xck xcp xcl xmk xtl xnu xti xpa xfa xep xel xde xtc) Ph :=
  ev_put inX1 tyX1_ok nmX1 0 1 rfl rfl (by decide) (by rw [ho]; exact flX1_nodeTotal) rfl rfl rfl (show 1 < 8 by decide) hd hp rfl kk
theorem pX1_lastNumber {v : Int32} (ho : d.1.cls = RX1) (hd : decode d.2.1 pc = .ok (.putfield 19, 3)) (hp : pc + 3 = pc') (kk : Ev g d pc' lv st (wX g xo an ac am LN LT xt xar xnt (v) xcu xck xcp xcl xmk xtl xnu xti xpa xfa xep xel xde xtc) Ph) : Ev g d pc lv (.int v :: .ref xo :: st) (wX g xo an ac am LN LT xt xar xnt xln xcu xck xcp xcl xmk xtl xnu xti xpa xfa xep xel xde xtc) Ph :=
  ev_put inX1 tyX1_ok nmX1 0 2 rfl rfl (by decide) (by rw [ho]; exact flX1_lastNumber) rfl rfl rfl (show 2 < 8 by decide) hd hp rfl kk
theorem pX1_currentNode {v : Nat} (ho : d.1.cls = RX1) (hd : decode d.2.1 pc = .ok (.putfield 36, 3)) (hp : pc + 3 = pc') (kk : Ev g d pc' lv st (wX g xo an ac am LN LT xt xar xnt xln (v) xck xcp xcl xmk xtl xnu xti xpa xfa xep xel xde xtc) Ph) : Ev g d pc lv (.ref v :: .ref xo :: st) (wX g xo an ac am LN LT xt xar xnt xln xcu xck xcp xcl xmk xtl xnu xti xpa xfa xep xel xde xtc) Ph :=
  ev_put inX1 tyX1_ok nmX1 0 3 rfl rfl (by decide) (by rw [ho]; exact flX1_currentNode) rfl rfl rfl (show 3 < 8 by decide) hd hp rfl kk
theorem pX1_clock {v : Int32} (ho : d.1.cls = RX1) (hd : decode d.2.1 pc = .ok (.putfield 22, 3)) (hp : pc + 3 = pc') (kk : Ev g d pc' lv st (wX g xo an ac am LN LT xt xar xnt xln xcu (v) xcp xcl xmk xtl xnu xti xpa xfa xep xel xde xtc) Ph) : Ev g d pc lv (.int v :: .ref xo :: st) (wX g xo an ac am LN LT xt xar xnt xln xcu xck xcp xcl xmk xtl xnu xti xpa xfa xep xel xde xtc) Ph :=
  ev_put inX1 tyX1_ok nmX1 0 4 rfl rfl (by decide) (by rw [ho]; exact flX1_clock) rfl rfl rfl (show 4 < 8 by decide) hd hp rfl kk
theorem pX1_clipLength {v : Int32} (ho : d.1.cls = RX1) (hd : decode d.2.1 pc = .ok (.putfield 29, 3)) (hp : pc + 3 = pc') (kk : Ev g d pc' lv st (wX g xo an ac am LN LT xt xar xnt xln xcu xck xcp (v) xmk xtl xnu xti xpa xfa xep xel xde xtc) Ph) : Ev g d pc lv (.int v :: .ref xo :: st) (wX g xo an ac am LN LT xt xar xnt xln xcu xck xcp xcl xmk xtl xnu xti xpa xfa xep xel xde xtc) Ph :=
  ev_put inX1 tyX1_ok nmX1 0 6 rfl rfl (by decide) (by rw [ho]; exact flX1_clipLength) rfl rfl rfl (show 6 < 8 by decide) hd hp rfl kk
end WP
section WM
variable {g : EG} {mo : Nat} {mr : Nat → Nat} {mnd mgv mcu mck mcl msh : Int32} {mhh : Int64} {mnu mpa mfa mti mpo mle mde msr mtl mtx mcp mmk mns : Nat → Int32}
variable {d : MD} {pc pc' tgt : Nat} {lv lv' : List (Option Value)} {st st' : List Value} {Ph : Option Value → va_W → Prop}
theorem pX2_nodes {v : Int32} (ho : d.1.cls = RX2) (hd : decode d.2.1 pc = .ok (.putfield 7, 3)) (hp : pc + 3 = pc') (kk : Ev g d pc' lv st (wM g mo mr (v) mgv mcu mck mcl msh mhh mnu mpa mfa mti mpo mle mde msr mtl mtx mcp mmk mns) Ph) : Ev g d pc lv (.int v :: .ref mo :: st) (wM g mo mr mnd mgv mcu mck mcl msh mhh mnu mpa mfa mti mpo mle mde msr mtl mtx mcp mmk mns) Ph :=
  ev_put inX2 tyX2_ok nmX2 0 0 rfl rfl (by decide) (by rw [ho]; exact flX2_nodes) rfl rfl rfl (show 0 < 20 by decide) hd hp rfl kk
theorem pX2_given {v : Int32} (ho : d.1.cls = RX2) (hd : decode d.2.1 pc = .ok (.putfield 13, 3)) (hp : pc + 3 = pc') (kk : Ev g d pc' lv st (wM g mo mr mnd (v) mcu mck mcl msh mhh mnu mpa mfa mti mpo mle mde msr mtl mtx mcp mmk mns) Ph) : Ev g d pc lv (.int v :: .ref mo :: st) (wM g mo mr mnd mgv mcu mck mcl msh mhh mnu mpa mfa mti mpo mle mde msr mtl mtx mcp mmk mns) Ph :=
  ev_put inX2 tyX2_ok nmX2 0 1 rfl rfl (by decide) (by rw [ho]; exact flX2_given) rfl rfl rfl (show 1 < 20 by decide) hd hp rfl kk
theorem pX2_current {v : Int32} (ho : d.1.cls = RX2) (hd : decode d.2.1 pc = .ok (.putfield 67, 3)) (hp : pc + 3 = pc') (kk : Ev g d pc' lv st (wM g mo mr mnd mgv (v) mck mcl msh mhh mnu mpa mfa mti mpo mle mde msr mtl mtx mcp mmk mns) Ph) : Ev g d pc lv (.int v :: .ref mo :: st) (wM g mo mr mnd mgv mcu mck mcl msh mhh mnu mpa mfa mti mpo mle mde msr mtl mtx mcp mmk mns) Ph :=
  ev_put inX2 tyX2_ok nmX2 0 12 rfl rfl (by decide) (by rw [ho]; exact flX2_current) rfl rfl rfl (show 12 < 20 by decide) hd hp rfl kk
theorem pX2_clock {v : Int32} (ho : d.1.cls = RX2) (hd : decode d.2.1 pc = .ok (.putfield 64, 3)) (hp : pc + 3 = pc') (kk : Ev g d pc' lv st (wM g mo mr mnd mgv mcu (v) mcl msh mhh mnu mpa mfa mti mpo mle mde msr mtl mtx mcp mmk mns) Ph) : Ev g d pc lv (.int v :: .ref mo :: st) (wM g mo mr mnd mgv mcu mck mcl msh mhh mnu mpa mfa mti mpo mle mde msr mtl mtx mcp mmk mns) Ph :=
  ev_put inX2 tyX2_ok nmX2 0 13 rfl rfl (by decide) (by rw [ho]; exact flX2_clock) rfl rfl rfl (show 13 < 20 by decide) hd hp rfl kk
theorem pX2_clipLength {v : Int32} (ho : d.1.cls = RX2) (hd : decode d.2.1 pc = .ok (.putfield 74, 3)) (hp : pc + 3 = pc') (kk : Ev g d pc' lv st (wM g mo mr mnd mgv mcu mck (v) msh mhh mnu mpa mfa mti mpo mle mde msr mtl mtx mcp mmk mns) Ph) : Ev g d pc lv (.int v :: .ref mo :: st) (wM g mo mr mnd mgv mcu mck mcl msh mhh mnu mpa mfa mti mpo mle mde msr mtl mtx mcp mmk mns) Ph :=
  ev_put inX2 tyX2_ok nmX2 0 14 rfl rfl (by decide) (by rw [ho]; exact flX2_clipLength) rfl rfl rfl (show 14 < 20 by decide) hd hp rfl kk
theorem pX2_shifted {v : Int32} (ho : d.1.cls = RX2) (hd : decode d.2.1 pc = .ok (.putfield 105, 3)) (hp : pc + 3 = pc') (kk : Ev g d pc' lv st (wM g mo mr mnd mgv mcu mck mcl (v) mhh mnu mpa mfa mti mpo mle mde msr mtl mtx mcp mmk mns) Ph) : Ev g d pc lv (.int v :: .ref mo :: st) (wM g mo mr mnd mgv mcu mck mcl msh mhh mnu mpa mfa mti mpo mle mde msr mtl mtx mcp mmk mns) Ph :=
  ev_put inX2 tyX2_ok nmX2 0 18 rfl rfl (by decide) (by rw [ho]; exact flX2_shifted) rfl rfl rfl (show 18 < 20 by decide) hd hp rfl kk
theorem pX2_h {v : Int64} (ho : d.1.cls = RX2) (hd : decode d.2.1 pc = .ok (.putfield 143, 3)) (hp : pc + 3 = pc') (kk : Ev g d pc' lv st (wM g mo mr mnd mgv mcu mck mcl msh (v) mnu mpa mfa mti mpo mle mde msr mtl mtx mcp mmk mns) Ph) : Ev g d pc lv (.long v :: .ref mo :: st) (wM g mo mr mnd mgv mcu mck mcl msh mhh mnu mpa mfa mti mpo mle mde msr mtl mtx mcp mmk mns) Ph :=
  ev_put inX2 tyX2_ok nmX2 0 19 rfl rfl (by decide) (by rw [ho]; exact flX2_h) rfl rfl rfl (show 19 < 20 by decide) hd hp rfl kk
end WM
