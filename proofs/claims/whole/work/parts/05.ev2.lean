section EV2
variable {g : EG} {d : MD} {pc pc' tgt : Nat} {lv lv' : List (Option Value)} {st st' : List Value} {ws ws' : va_W} {Ph : Option Value → va_W → Prop}
theorem ev_if_eq {x : Int32} {off : Int} (hd : decode d.2.1 pc = .ok (.ifCond .eq off, 3)) (ht : (pc : Int) + off = (tgt : Int)) (hp : pc + 3 = pc') (kt : x = 0 → Ev g d tgt lv st ws Ph) (kf : ¬ x = 0 → Ev g d pc' lv st ws Ph) : Ev g d pc lv (.int x :: st) ws Ph := by
  subst hp; intro p e s m args below meth c H locs ls A F hA hP hD hS hl
  exact lv_if_eq F.1 F.2.1 hd ht (fun q => kt q p e s m args below meth c H locs ls A F hA hP hD hS hl) (fun q => kf q p e s m args below meth c H locs ls A F hA hP hD hS hl)
theorem ev_icmp_eq {x y : Int32} {off : Int} (hd : decode d.2.1 pc = .ok (.if_icmp .eq off, 3)) (ht : (pc : Int) + off = (tgt : Int)) (hp : pc + 3 = pc') (kt : x = y → Ev g d tgt lv st ws Ph) (kf : ¬ x = y → Ev g d pc' lv st ws Ph) : Ev g d pc lv (.int y :: .int x :: st) ws Ph := by
  subst hp; intro p e s m args below meth c H locs ls A F hA hP hD hS hl
  exact lv_icmp_eq F.1 F.2.1 hd ht (fun q => kt q p e s m args below meth c H locs ls A F hA hP hD hS hl) (fun q => kf q p e s m args below meth c H locs ls A F hA hP hD hS hl)
theorem ev_if_ne {x : Int32} {off : Int} (hd : decode d.2.1 pc = .ok (.ifCond .ne off, 3)) (ht : (pc : Int) + off = (tgt : Int)) (hp : pc + 3 = pc') (kt : ¬ x = 0 → Ev g d tgt lv st ws Ph) (kf : x = 0 → Ev g d pc' lv st ws Ph) : Ev g d pc lv (.int x :: st) ws Ph := by
  subst hp; intro p e s m args below meth c H locs ls A F hA hP hD hS hl
  exact lv_if_ne F.1 F.2.1 hd ht (fun q => kt q p e s m args below meth c H locs ls A F hA hP hD hS hl) (fun q => kf q p e s m args below meth c H locs ls A F hA hP hD hS hl)
theorem ev_icmp_ne {x y : Int32} {off : Int} (hd : decode d.2.1 pc = .ok (.if_icmp .ne off, 3)) (ht : (pc : Int) + off = (tgt : Int)) (hp : pc + 3 = pc') (kt : ¬ x = y → Ev g d tgt lv st ws Ph) (kf : x = y → Ev g d pc' lv st ws Ph) : Ev g d pc lv (.int y :: .int x :: st) ws Ph := by
  subst hp; intro p e s m args below meth c H locs ls A F hA hP hD hS hl
  exact lv_icmp_ne F.1 F.2.1 hd ht (fun q => kt q p e s m args below meth c H locs ls A F hA hP hD hS hl) (fun q => kf q p e s m args below meth c H locs ls A F hA hP hD hS hl)
theorem ev_if_lt {x : Int32} {off : Int} (hd : decode d.2.1 pc = .ok (.ifCond .lt off, 3)) (ht : (pc : Int) + off = (tgt : Int)) (hp : pc + 3 = pc') (kt : x < 0 → Ev g d tgt lv st ws Ph) (kf : ¬ x < 0 → Ev g d pc' lv st ws Ph) : Ev g d pc lv (.int x :: st) ws Ph := by
  subst hp; intro p e s m args below meth c H locs ls A F hA hP hD hS hl
  exact lv_if_lt F.1 F.2.1 hd ht (fun q => kt q p e s m args below meth c H locs ls A F hA hP hD hS hl) (fun q => kf q p e s m args below meth c H locs ls A F hA hP hD hS hl)
theorem ev_icmp_lt {x y : Int32} {off : Int} (hd : decode d.2.1 pc = .ok (.if_icmp .lt off, 3)) (ht : (pc : Int) + off = (tgt : Int)) (hp : pc + 3 = pc') (kt : x < y → Ev g d tgt lv st ws Ph) (kf : ¬ x < y → Ev g d pc' lv st ws Ph) : Ev g d pc lv (.int y :: .int x :: st) ws Ph := by
  subst hp; intro p e s m args below meth c H locs ls A F hA hP hD hS hl
  exact lv_icmp_lt F.1 F.2.1 hd ht (fun q => kt q p e s m args below meth c H locs ls A F hA hP hD hS hl) (fun q => kf q p e s m args below meth c H locs ls A F hA hP hD hS hl)
theorem ev_if_ge {x : Int32} {off : Int} (hd : decode d.2.1 pc = .ok (.ifCond .ge off, 3)) (ht : (pc : Int) + off = (tgt : Int)) (hp : pc + 3 = pc') (kt : 0 ≤ x → Ev g d tgt lv st ws Ph) (kf : ¬ 0 ≤ x → Ev g d pc' lv st ws Ph) : Ev g d pc lv (.int x :: st) ws Ph := by
  subst hp; intro p e s m args below meth c H locs ls A F hA hP hD hS hl
  exact lv_if_ge F.1 F.2.1 hd ht (fun q => kt q p e s m args below meth c H locs ls A F hA hP hD hS hl) (fun q => kf q p e s m args below meth c H locs ls A F hA hP hD hS hl)
theorem ev_icmp_ge {x y : Int32} {off : Int} (hd : decode d.2.1 pc = .ok (.if_icmp .ge off, 3)) (ht : (pc : Int) + off = (tgt : Int)) (hp : pc + 3 = pc') (kt : y ≤ x → Ev g d tgt lv st ws Ph) (kf : ¬ y ≤ x → Ev g d pc' lv st ws Ph) : Ev g d pc lv (.int y :: .int x :: st) ws Ph := by
  subst hp; intro p e s m args below meth c H locs ls A F hA hP hD hS hl
  exact lv_icmp_ge F.1 F.2.1 hd ht (fun q => kt q p e s m args below meth c H locs ls A F hA hP hD hS hl) (fun q => kf q p e s m args below meth c H locs ls A F hA hP hD hS hl)
theorem ev_if_gt {x : Int32} {off : Int} (hd : decode d.2.1 pc = .ok (.ifCond .gt off, 3)) (ht : (pc : Int) + off = (tgt : Int)) (hp : pc + 3 = pc') (kt : 0 < x → Ev g d tgt lv st ws Ph) (kf : ¬ 0 < x → Ev g d pc' lv st ws Ph) : Ev g d pc lv (.int x :: st) ws Ph := by
  subst hp; intro p e s m args below meth c H locs ls A F hA hP hD hS hl
  exact lv_if_gt F.1 F.2.1 hd ht (fun q => kt q p e s m args below meth c H locs ls A F hA hP hD hS hl) (fun q => kf q p e s m args below meth c H locs ls A F hA hP hD hS hl)
theorem ev_icmp_gt {x y : Int32} {off : Int} (hd : decode d.2.1 pc = .ok (.if_icmp .gt off, 3)) (ht : (pc : Int) + off = (tgt : Int)) (hp : pc + 3 = pc') (kt : y < x → Ev g d tgt lv st ws Ph) (kf : ¬ y < x → Ev g d pc' lv st ws Ph) : Ev g d pc lv (.int y :: .int x :: st) ws Ph := by
  subst hp; intro p e s m args below meth c H locs ls A F hA hP hD hS hl
  exact lv_icmp_gt F.1 F.2.1 hd ht (fun q => kt q p e s m args below meth c H locs ls A F hA hP hD hS hl) (fun q => kf q p e s m args below meth c H locs ls A F hA hP hD hS hl)
theorem ev_if_le {x : Int32} {off : Int} (hd : decode d.2.1 pc = .ok (.ifCond .le off, 3)) (ht : (pc : Int) + off = (tgt : Int)) (hp : pc + 3 = pc') (kt : x ≤ 0 → Ev g d tgt lv st ws Ph) (kf : ¬ x ≤ 0 → Ev g d pc' lv st ws Ph) : Ev g d pc lv (.int x :: st) ws Ph := by
  subst hp; intro p e s m args below meth c H locs ls A F hA hP hD hS hl
  exact lv_if_le F.1 F.2.1 hd ht (fun q => kt q p e s m args below meth c H locs ls A F hA hP hD hS hl) (fun q => kf q p e s m args below meth c H locs ls A F hA hP hD hS hl)
theorem ev_icmp_le {x y : Int32} {off : Int} (hd : decode d.2.1 pc = .ok (.if_icmp .le off, 3)) (ht : (pc : Int) + off = (tgt : Int)) (hp : pc + 3 = pc') (kt : x ≤ y → Ev g d tgt lv st ws Ph) (kf : ¬ x ≤ y → Ev g d pc' lv st ws Ph) : Ev g d pc lv (.int y :: .int x :: st) ws Ph := by
  subst hp; intro p e s m args below meth c H locs ls A F hA hP hD hS hl
  exact lv_icmp_le F.1 F.2.1 hd ht (fun q => kt q p e s m args below meth c H locs ls A F hA hP hD hS hl) (fun q => kf q p e s m args below meth c H locs ls A F hA hP hD hS hl)
theorem ev_acmp_eq {rx ry : Option Nat} {off : Int} (hd : decode d.2.1 pc = .ok (.if_acmp .eq off, 3)) (ht : (pc : Int) + off = (tgt : Int)) (hp : pc + 3 = pc') (kt : rx = ry → Ev g d tgt lv st ws Ph) (kf : ¬ rx = ry → Ev g d pc' lv st ws Ph) : Ev g d pc lv (va_rf ry :: va_rf rx :: st) ws Ph := by
  subst hp; intro p e s m args below meth c H locs ls A F hA hP hD hS hl
  exact lv_acmp_eq F.1 F.2.1 hd ht (fun q => kt q p e s m args below meth c H locs ls A F hA hP hD hS hl) (fun q => kf q p e s m args below meth c H locs ls A F hA hP hD hS hl)
theorem ev_acmp_ne {rx ry : Option Nat} {off : Int} (hd : decode d.2.1 pc = .ok (.if_acmp .ne off, 3)) (ht : (pc : Int) + off = (tgt : Int)) (hp : pc + 3 = pc') (kt : ¬ rx = ry → Ev g d tgt lv st ws Ph) (kf : rx = ry → Ev g d pc' lv st ws Ph) : Ev g d pc lv (va_rf ry :: va_rf rx :: st) ws Ph := by
  subst hp; intro p e s m args below meth c H locs ls A F hA hP hD hS hl
  exact lv_acmp_ne F.1 F.2.1 hd ht (fun q => kt q p e s m args below meth c H locs ls A F hA hP hD hS hl) (fun q => kf q p e s m args below meth c H locs ls A F hA hP hD hS hl)
theorem ev_ifnull {r : Option Nat} {off : Int} (hd : decode d.2.1 pc = .ok (.ifnull off, 3)) (ht : (pc : Int) + off = (tgt : Int)) (hp : pc + 3 = pc') (kt : r = none → Ev g d tgt lv st ws Ph) (kf : ∀ a, r = some a → Ev g d pc' lv st ws Ph) : Ev g d pc lv (va_rf r :: st) ws Ph := by
  subst hp; intro p e s m args below meth c H locs ls A F hA hP hD hS hl
  cases r with
  | none => exact lv_ifnullN F.1 F.2.1 hd ht (kt rfl p e s m args below meth c H locs ls A F hA hP hD hS hl)
  | some a => exact lv_ifnull F.1 F.2.1 hd (kf a rfl p e s m args below meth c H locs ls A F hA hP hD hS hl)
theorem ev_ifnonnull {r : Option Nat} {off : Int} (hd : decode d.2.1 pc = .ok (.ifnonnull off, 3)) (ht : (pc : Int) + off = (tgt : Int)) (hp : pc + 3 = pc') (kt : ∀ a, r = some a → Ev g d tgt lv st ws Ph) (kf : r = none → Ev g d pc' lv st ws Ph) : Ev g d pc lv (va_rf r :: st) ws Ph := by
  subst hp; intro p e s m args below meth c H locs ls A F hA hP hD hS hl
  cases r with
  | none => exact lv_ifnonnullN F.1 F.2.1 hd (kf rfl p e s m args below meth c H locs ls A F hA hP hD hS hl)
  | some a => exact lv_ifnonnull F.1 F.2.1 hd ht (kt a rfl p e s m args below meth c H locs ls A F hA hP hD hS hl)
theorem ev_iret {x : Int32} (hr : d.2.2.2.1 = some .int) (hd : decode d.2.1 pc = .ok (.ireturn, 1)) (h : Ph (some (.int x)) ws) : Ev g d pc lv [.int x] ws Ph := by
  intro p e s m args below meth c H locs ls A F hA hP hD hS hl
  exact W.iret F.1 F.2.1 (F.2.2.2.1.trans hr) (fun t ht hW => ⟨⟨_, ws, rfl, h, by rw [ht]; exact hP, hD⟩, hS.F ht⟩) hS.2.2 hd F.2.2.2.2.2.2.1
theorem ev_zret {x : Int32} (hr : d.2.2.2.1 = some .boolean) (hz : x = 0 ∨ x = 1) (hd : decode d.2.1 pc = .ok (.ireturn, 1)) (h : Ph (some (.int x)) ws) : Ev g d pc lv [.int x] ws Ph := by
  intro p e s m args below meth c H locs ls A F hA hP hD hS hl
  exact W.zret F.1 F.2.1 (F.2.2.2.1.trans hr) (by rcases hz with rfl | rfl <;> rfl) (fun t ht hW => ⟨⟨_, ws, rfl, h, by rw [ht]; exact hP, hD⟩, hS.F ht⟩) hS.2.2 hd F.2.2.2.2.2.2.1
theorem ev_lret {x : Int64} (hr : d.2.2.2.1 = some .long) (hd : decode d.2.1 pc = .ok (.lreturn, 1)) (h : Ph (some (.long x)) ws) : Ev g d pc lv [.long x] ws Ph := by
  intro p e s m args below meth c H locs ls A F hA hP hD hS hl
  exact W.lret F.1 F.2.1 (F.2.2.2.1.trans hr) (fun t ht hW => ⟨⟨_, ws, rfl, h, by rw [ht]; exact hP, hD⟩, hS.F ht⟩) hS.2.2 hd F.2.2.2.2.2.2.1
theorem ev_vret (hr : d.2.2.2.1 = none) (hd : decode d.2.1 pc = .ok (.return_, 1)) (h : Ph none ws) : Ev g d pc lv [] ws Ph := by
  intro p e s m args below meth c H locs ls A F hA hP hD hS hl
  exact W.vret F.1 F.2.1 (F.2.2.2.1.trans hr) (fun t ht hW => ⟨⟨_, ws, rfl, h, by rw [ht]; exact hP, hD⟩, hS.F ht⟩) hS.2.2 hd F.2.2.2.2.2.2.1
theorem ev_aret {r : Option Nat} {nm : String} (hr : d.2.2.2.1 = some (.object nm)) (hd : decode d.2.1 pc = .ok (.areturn, 1)) (h : Ph (some (va_rf r)) ws) : Ev g d pc lv [va_rf r] ws Ph := by
  intro p e s m args below meth c H locs ls A F hA hP hD hS hl
  exact W.aret F.1 F.2.1 (F.2.2.2.1.trans hr) (Or.inl ⟨nm, rfl⟩) (va_rf_or r) (fun t ht hW => ⟨⟨_, ws, rfl, h, by rw [ht]; exact hP, hD⟩, hS.F ht⟩) hS.2.2 hd F.2.2.2.2.2.2.1
theorem lw_in {w : Cond} (h : w ∈ lw_tbl) (hg : goodWord w = true) : w ∈ lw_good := List.mem_filter.mpr ⟨h, hg⟩
theorem lay_good (C : String) (T : u_T) (k : Nat) : goodWord (u_lay C T k) = true := by
  unfold u_lay; split <;> rfl
theorem lays_in {C : String} {T : u_T} {N : Nat} (h : ∀ w ∈ u_ws C T N, w ∈ lw_tbl) : ∀ w ∈ u_ws C T N, w ∈ wsD d := by
  intro w hw
  refine List.mem_cons_of_mem _ (lw_in (h w hw) ?_)
  obtain ⟨k, -, rfl⟩ := List.mem_map.mp hw
  exact lay_good C T k
/-- a field of one's own object -/
theorem ev_get {C : String} {T : u_T} {N ci index a : Nat} {fs : List Value} {v : Value} (hin : ∀ w ∈ u_ws C T N, w ∈ lw_tbl) (q0 k : Nat) (he : ws[q0]? = some (a, .inr (ci, fs))) (hc : vwCl[ci]? = some (C, T, N)) (hk : k < N) (hlink : Cond.fieldLink d.1.cls index (T k).1 (T k).2.1 (T k).2.2.1 ∈ lw_good) (hv : fs[k]? = some v) (hd : decode d.2.1 pc = .ok (.getfield index, 3)) (hp : pc + 3 = pc') (kk : Ev g d pc' lv (v :: st) ws Ph) : Ev g d pc lv (.ref a :: st) ws Ph := by
  subst hp; intro p e s m args below meth c H locs ls A F hA hP hD hS hl
  exact va_get F.1 F.2.1 F.2.2.2.2.2.1 (lays_in hin) F.2.2.2.2.1 F.2.2.2.2.2.2.2.1 hP q0 he hc k hk (F.2.2.2.2.2.1 _ (List.mem_cons_of_mem _ hlink)) (fun _ h => h) hv hd (kk p e s m args below meth c H locs ls A F hA hP hD hS hl)
/-- a field of a nest mate's object -/
theorem ev_getN {C : String} {T : u_T} {N ci index a : Nat} {fs : List Value} {v : Value} (hin : ∀ w ∈ u_ws C T N, w ∈ lw_tbl) (q0 k : Nat) (he : ws[q0]? = some (a, .inr (ci, fs))) (hc : vwCl[ci]? = some (C, T, N)) (hk : k < N) (hlink : Cond.fieldLinkNest d.1.cls index (T k).1 (T k).2.1 (T k).2.2.1 "EditTree" ∈ nestF) (hv : fs[k]? = some v) (hd : decode d.2.1 pc = .ok (.getfield index, 3)) (hp : pc + 3 = pc') (kk : Ev g d pc' lv (v :: st) ws Ph) : Ev g d pc lv (.ref a :: st) ws Ph := by
  subst hp; intro p e s m args below meth c H locs ls A F hA hP hD hS hl
  exact va_getN F.1 F.2.1 F.2.2.2.2.2.1 (lays_in hin) F.2.2.2.2.1 F.2.2.2.2.2.2.2.1 hP q0 he hc k hk (va_Nw.use rfl (F.2.2.2.2.2.2.2.2 _ hlink)) (fun _ h => h) hv hd (kk p e s m args below meth c H locs ls A F hA hP hD hS hl)
theorem ev_put {C : String} {T : u_T} {ty0 : Nat → FieldType} {N ci index a : Nat} {fs : List Value} {v : Value} (hin : ∀ w ∈ u_ws C T N, w ∈ lw_tbl) (hty : ∀ k, k < N → parseFieldDescriptor (T k).2.2.1 = some (ty0 k)) (hnm : ∀ a, a < N → ∀ b, b < N → a ≠ b → (T a).2.1 ≠ (T b).2.1) (q0 k : Nat) (he : ws[q0]? = some (a, .inr (ci, fs))) (hc : vwCl[ci]? = some (C, T, N)) (hk : k < N) (hlink : Cond.fieldLink d.1.cls index (T k).1 (T k).2.1 (T k).2.2.1 ∈ lw_good) (hfin : (T k).2.2.2 = false) (hn : narrow (ty0 k) v = v) (hfit : fits (ty0 k) v = true) (hl' : k < fs.length) (hd : decode d.2.1 pc = .ok (.putfield index, 3)) (hp : pc + 3 = pc') (hw : ws.set q0 (a, .inr (ci, fs.set k v)) = ws') (kk : Ev g d pc' lv st ws' Ph) : Ev g d pc lv (v :: .ref a :: st) ws Ph := by
  subst hp; subst hw; intro p e s m args below meth c H locs ls A F hA hP hD hS hl
  exact va_put F.1 F.2.1 F.2.2.2.2.2.1 (lays_in hin) ty0 hty hnm F.2.2.2.2.1 F.2.2.2.2.2.2.2.1 hP hD hS q0 he hc k hk (F.2.2.2.2.2.1 _ (List.mem_cons_of_mem _ hlink)) (fun _ h => h) hfin (hty k hk) hn hfit hl' hd (fun H1 locs1 hP1 hD1 hS1 => kk p e s m args below meth c H1 locs1 ls A F hA hP1 hD1 hS1 hl)
theorem ev_putN {C : String} {T : u_T} {ty0 : Nat → FieldType} {N ci index a : Nat} {fs : List Value} {v : Value} (hin : ∀ w ∈ u_ws C T N, w ∈ lw_tbl) (hty : ∀ k, k < N → parseFieldDescriptor (T k).2.2.1 = some (ty0 k)) (hnm : ∀ a, a < N → ∀ b, b < N → a ≠ b → (T a).2.1 ≠ (T b).2.1) (q0 k : Nat) (he : ws[q0]? = some (a, .inr (ci, fs))) (hc : vwCl[ci]? = some (C, T, N)) (hk : k < N) (hlink : Cond.fieldLinkNest d.1.cls index (T k).1 (T k).2.1 (T k).2.2.1 "EditTree" ∈ nestF) (hfin : (T k).2.2.2 = false) (hn : narrow (ty0 k) v = v) (hfit : fits (ty0 k) v = true) (hl' : k < fs.length) (hd : decode d.2.1 pc = .ok (.putfield index, 3)) (hp : pc + 3 = pc') (kk : (∃ A, va_D A ws) → Ev g d pc' lv st (ws.set q0 (a, .inr (ci, fs.set k v))) Ph) : Ev g d pc lv (v :: .ref a :: st) ws Ph := by
  subst hp; intro p e s m args below meth c H locs ls A F hA hP hD hS hl
  exact va_putN F.1 F.2.1 F.2.2.2.2.2.1 (lays_in hin) ty0 hty hnm F.2.2.2.2.1 F.2.2.2.2.2.2.2.1 hP hD hS q0 he hc k hk (va_Nw.use rfl (F.2.2.2.2.2.2.2.2 _ hlink)) (fun _ h => h) hfin (hty k hk) hn hfit hl' hd (fun H1 locs1 hP1 hD1 hS1 => kk ⟨A, hD⟩ p e s m args below meth c H1 locs1 ls A F hA hP1 hD1 hS1 hl)
/-- the cells of the world are apart -/
theorem ev_apart (kk : (∃ A, va_D A ws) → Ev g d pc lv st ws Ph) : Ev g d pc lv st ws Ph := by
  intro p e s m args below meth c H locs ls A F hA hP hD hS hl
  exact kk ⟨A, hD⟩ p e s m args below meth c H locs ls A F hA hP hD hS hl
theorem ev_iald {a n : Nat} {f : Nat → Int32} {i : Int32} (q0 : Nat) (ha : ws[q0]? = some (a, .inl (g.2.2.2.1, n, .inl f))) (hin : vp_in i n) (hd : decode d.2.1 pc = .ok (.iaload, 1)) (hp : pc + 1 = pc') (kk : Ev g d pc' lv (.int (f i.toNatClampNeg) :: st) ws Ph) : Ev g d pc lv (.int i :: .ref a :: st) ws Ph := by
  subst hp; intro p e s m args below meth c H locs ls A F hA hP hD hS hl
  exact va_iald F.1 F.2.1 F.2.2.2.2.2.2.2.1 hP q0 1 ha rfl hin hd (kk p e s m args below meth c H locs ls A F hA hP hD hS hl)
theorem ev_zald {a n : Nat} {f : Nat → Int32} {i : Int32} (q0 : Nat) (ha : ws[q0]? = some (a, .inl (g.2.2.2.2.1, n, .inl f))) (hin : vp_in i n) (hd : decode d.2.1 pc = .ok (.baload, 1)) (hp : pc + 1 = pc') (kk : Ev g d pc' lv (.int (f i.toNatClampNeg) :: st) ws Ph) : Ev g d pc lv (.int i :: .ref a :: st) ws Ph := by
  subst hp; intro p e s m args below meth c H locs ls A F hA hP hD hS hl
  exact va_zald F.1 F.2.1 F.2.2.2.2.2.2.2.1 hP q0 2 ha rfl hin hd (kk p e s m args below meth c H locs ls A F hA hP hD hS hl)
theorem ev_cald {a n : Nat} {f : Nat → Int32} {i : Int32} (q0 : Nat) (ha : ws[q0]? = some (a, .inl (g.2.2.1, n, .inl f))) (hin : vp_in i n) (hd : decode d.2.1 pc = .ok (.caload, 1)) (hp : pc + 1 = pc') (kk : Ev g d pc' lv (.int (f i.toNatClampNeg) :: st) ws Ph) : Ev g d pc lv (.int i :: .ref a :: st) ws Ph := by
  subst hp; intro p e s m args below meth c H locs ls A F hA hP hD hS hl
  exact va_cald F.1 F.2.1 F.2.2.2.2.2.2.2.1 hP q0 0 ha rfl hin hd (kk p e s m args below meth c H locs ls A F hA hP hD hS hl)
theorem ev_aald {a n : Nat} {f : Nat → Option Nat} {i : Int32} (q0 : Nat) (ha : ws[q0]? = some (a, .inl (g.2.2.2.2.2, n, .inr (.inr (.inr (.inr f)))))) (hin : vp_in i n) (hd : decode d.2.1 pc = .ok (.aaload, 1)) (hp : pc + 1 = pc') (kk : Ev g d pc' lv (va_rf (f i.toNatClampNeg) :: st) ws Ph) : Ev g d pc lv (.int i :: .ref a :: st) ws Ph := by
  subst hp; intro p e s m args below meth c H locs ls A F hA hP hD hS hl
  exact va_aldq F.1 F.2.1 F.2.2.2.2.2.2.2.1 hP q0 3 ha rfl hin hd (kk p e s m args below meth c H locs ls A F hA hP hD hS hl)
theorem ev_iast {a n : Nat} {f : Nat → Int32} {i x : Int32} (q0 : Nat) (ha : ws[q0]? = some (a, .inl (g.2.2.2.1, n, .inl f))) (hin : vp_in i n) (hd : decode d.2.1 pc = .ok (.iastore, 1)) (hp : pc + 1 = pc') (hw : ws.set q0 (a, .inl (g.2.2.2.1, n, .inl (upd f i.toNatClampNeg x))) = ws') (kk : Ev g d pc' lv st ws' Ph) : Ev g d pc lv (.int x :: .int i :: .ref a :: st) ws Ph := by
  subst hp; subst hw; intro p e s m args below meth c H locs ls A F hA hP hD hS hl
  exact va_iast F.1 F.2.1 F.2.2.2.2.2.2.2.1 hP hD hS q0 1 ha rfl hin hd (fun H1 locs1 hP1 hD1 hS1 => kk p e s m args below meth c H1 locs1 ls A F hA hP1 hD1 hS1 hl)
theorem ev_zast {a n : Nat} {f : Nat → Int32} {i x : Int32} (q0 : Nat) (ha : ws[q0]? = some (a, .inl (g.2.2.2.2.1, n, .inl f))) (hin : vp_in i n) (hz : x = 0 ∨ x = 1) (hd : decode d.2.1 pc = .ok (.bastore, 1)) (hp : pc + 1 = pc') (hw : ws.set q0 (a, .inl (g.2.2.2.2.1, n, .inl (upd f i.toNatClampNeg x))) = ws') (kk : Ev g d pc' lv st ws' Ph) : Ev g d pc lv (.int x :: .int i :: .ref a :: st) ws Ph := by
  subst hp; subst hw; intro p e s m args below meth c H locs ls A F hA hP hD hS hl
  have hx : vp_nar .boolean x = x := by rcases hz with rfl | rfl <;> rfl
  exact va_zast F.1 F.2.1 F.2.2.2.2.2.2.2.1 hP hD hS q0 2 ha rfl hin hd (fun H1 locs1 hP1 hD1 hS1 => by rw [hx] at hP1 hD1; exact kk p e s m args below meth c H1 locs1 ls A F hA hP1 hD1 hS1 hl)
theorem ev_cast {a n : Nat} {f : Nat → Int32} {i x : Int32} (q0 : Nat) (ha : ws[q0]? = some (a, .inl (g.2.2.1, n, .inl f))) (hin : vp_in i n) (hx : vp_nar .char x = x) (hd : decode d.2.1 pc = .ok (.castore, 1)) (hp : pc + 1 = pc') (hw : ws.set q0 (a, .inl (g.2.2.1, n, .inl (upd f i.toNatClampNeg x))) = ws') (kk : Ev g d pc' lv st ws' Ph) : Ev g d pc lv (.int x :: .int i :: .ref a :: st) ws Ph := by
  subst hp; subst hw; intro p e s m args below meth c H locs ls A F hA hP hD hS hl
  exact va_cast F.1 F.2.1 F.2.2.2.2.2.2.2.1 hP hD hS q0 0 ha rfl hin hd (fun H1 locs1 hP1 hD1 hS1 => by rw [hx] at hP1 hD1; exact kk p e s m args below meth c H1 locs1 ls A F hA hP1 hD1 hS1 hl)
theorem ev_aast {a n v : Nat} {vs : List Value} {f : Nat → Option Nat} {i : Int32} (q0 qk : Nat) (ha : ws[q0]? = some (a, .inl (g.2.2.2.2.2, n, .inr (.inr (.inr (.inr f)))))) (hv : ws[qk]? = some (v, .inr (0, vs))) (hin : vp_in i n) (hd : decode d.2.1 pc = .ok (.aastore, 1)) (hp : pc + 1 = pc') (hw : ws.set q0 (a, .inl (g.2.2.2.2.2, n, .inr (.inr (.inr (.inr (va_up f i.toNatClampNeg (some v))))))) = ws') (kk : Ev g d pc' lv st ws' Ph) : Ev g d pc lv (.ref v :: .int i :: .ref a :: st) ws Ph := by
  subst hp; subst hw; intro p e s m args below meth c H locs ls A F hA hP hD hS hl
  exact va_astq (r := (RX0, TX0, 9)) F.1 F.2.1 F.2.2.2.2.2.2.2.1 hP hD hS q0 3 qk 0 ha rfl hv rfl hin hd (fun H1 locs1 hP1 hD1 hS1 => kk p e s m args below meth c H1 locs1 ls A F hA hP1 hD1 hS1 hl)
theorem ev_aastN {a n : Nat} {f : Nat → Option Nat} {i : Int32} (q0 : Nat) (ha : ws[q0]? = some (a, .inl (g.2.2.2.2.2, n, .inr (.inr (.inr (.inr f)))))) (hin : vp_in i n) (hd : decode d.2.1 pc = .ok (.aastore, 1)) (hp : pc + 1 = pc') (hw : ws.set q0 (a, .inl (g.2.2.2.2.2, n, .inr (.inr (.inr (.inr (va_up f i.toNatClampNeg none)))))) = ws') (kk : Ev g d pc' lv st ws' Ph) : Ev g d pc lv (va_rf none :: .int i :: .ref a :: st) ws Ph := by
  subst hp; subst hw; intro p e s m args below meth c H locs ls A F hA hP hD hS hl
  exact va_astqN (C := "EditTree$Node") F.1 F.2.1 F.2.2.2.2.2.2.2.1 hP hD hS q0 3 ha rfl hin hd (fun H1 locs1 hP1 hD1 hS1 => kk p e s m args below meth c H1 locs1 ls A F hA hP1 hD1 hS1 hl)
theorem ev_alenC {a n : Nat} {f : Nat → Int32} {v : Int32} (q0 : Nat) (ha : ws[q0]? = some (a, .inl (g.2.2.1, n, .inl f))) (hv : Int32.ofNat n = v) (hd : decode d.2.1 pc = .ok (.arraylength, 1)) (hp : pc + 1 = pc') (kk : Ev g d pc' lv (.int v :: st) ws Ph) : Ev g d pc lv (.ref a :: st) ws Ph := by
  subst hp; intro p e s m args below meth c H locs ls A F hA hP hD hS hl
  exact va_alen F.1 F.2.1 F.2.2.2.2.2.2.2.1 hP q0 0 ha rfl hv hd (kk p e s m args below meth c H locs ls A F hA hP hD hS hl)
/-- System.arraycopy of chars -/
theorem ev_copyc {a a0 n0 n1 index : Nat} {f f1 : Nat → Int32} {sp dp n : Int32} (q0 q1 : Nat) (ha0 : ws[q0]? = some (a0, .inl (g.2.2.1, n0, .inl f))) (ha1 : ws[q1]? = some (a, .inl (g.2.2.1, n1, .inl f1))) (hlink : Cond.methodLink d.1.cls index arraycopyName ∈ lw_good) (h1 : ¬ sp < 0) (h2 : ¬ dp < 0) (h3 : ¬ n < 0) (h4 : sp.toNatClampNeg + n.toNatClampNeg ≤ n0) (h5 : dp.toNatClampNeg + n.toNatClampNeg ≤ n1) (hfit : ∀ i, i < n.toNatClampNeg → fits .char (.int (f (sp.toNatClampNeg + i))) = true) (hr : 2 ≤ d.2.2.2.2) (hcat : (st.map fun v => v.category).sum ≤ 8) (hd : decode d.2.1 pc = .ok (.invokestatic index, 3)) (hp : pc + 3 = pc')
    (kk : (∃ A, va_D A ws) → Ev g d pc' lv st (ws.set q1 (a, .inl (g.2.2.1, n1, .inl (va_cpy f f1 sp.toNatClampNeg dp.toNatClampNeg n.toNatClampNeg)))) Ph) : Ev g d pc lv (.int n :: .int dp :: .ref a :: .int sp :: .ref a0 :: st) ws Ph := by
  subst hp; intro p e s m args below meth c H locs ls A F hA hP hD hS hl
  have T := F.2.2.2.2.2.1
  refine va_copyi F.1 F.2.1 (F.2.2.1.trans hl.1.symm) F.2.2.2.2.1 (T _ (List.mem_cons_of_mem _ hlink)) (T _ (List.mem_cons_of_mem _ (lw_in (by decide +kernel) rfl))) (T _ (List.mem_cons_of_mem _ (lw_in (by decide +kernel) rfl))) (T _ (List.mem_cons_of_mem _ (lw_in (by decide +kernel) rfl))) F.2.2.2.2.2.2.2.1 hP hD hS q0 q1 0 0 ha0 ha1 rfl rfl rfl h1 h2 h3 h4 h5 hfit ?_ ?_ hd (fun H1 locs1 hP1 hD1 hS1 => kk ⟨A, hD⟩ p e s m args below meth c H1 locs1 ls A F hA hP1 hD1 hS1 hl)
  · show 1 ≤ d.2.2.2.2
    omega
  · show _ + (nativeFrameWords "java/lang/System" "arraycopy" 5 + 11) ≤ 40 * d.2.2.2.2
    have : nativeFrameWords "java/lang/System" "arraycopy" 5 ≤ 60 := by decide +kernel
    omega
/-- a call's static words: own, the entry, the callee -/
def coV (own : String) (index : Nat) (z : MD) (n : Nat) : Prop := Cond.methodLink own index z.1 ∈ lw_good ∧ Cond.instanceMethod z.1 ∈ lw_good ∧ Cond.selects z.1.cls z.1 z.1 ∈ lw_good ∧ Cond.initialized z.1.cls ∈ lw_good ∧ Cond.code z.1 z.2.1 z.2.2.1 z.2.2.2.1 ∈ lw_good ∧ (z.1.cls ≠ "java/lang/invoke/MethodHandle" ∧ z.1.cls ≠ "java/lang/invoke/VarHandle" ∧ (parseMethodDescriptor z.1.desc).map (fun d => d.parameters.length) = some n) ∧ z.2.2.1 ≤ 20
def coS (own : String) (index : Nat) (z : MD) (n : Nat) : Prop := Cond.methodLink own index z.1 ∈ lw_good ∧ Cond.static z.1 ∈ lw_good ∧ Cond.initialized z.1.cls ∈ lw_good ∧ Cond.code z.1 z.2.1 z.2.2.1 z.2.2.2.1 ∈ lw_good ∧ (z.1.cls ≠ "java/lang/invoke/MethodHandle" ∧ z.1.cls ≠ "java/lang/invoke/VarHandle" ∧ (parseMethodDescriptor z.1.desc).map (fun d => d.parameters.length) = some n) ∧ z.2.2.1 ≤ 20
theorem wsD_good (d z : MD) (hc : Cond.code z.1 z.2.1 z.2.2.1 z.2.2.2.1 ∈ lw_good) : GoodIn (wsD d) (wsD z) := by
  intro w hw
  have h1 : w ∈ lw_good := by
    rcases List.mem_cons.mp hw with rfl | h
    · exact hc
    · exact h
  exact ⟨List.mem_cons_of_mem _ h1, good_of_word (List.mem_filter.mp h1).2⟩
theorem blindR (av : List Value) (sz : Nat) : FrameBlind (va_Pc av (fun U => U.heap.size = sz ∧ va_P g.2.1 vwCl ws U.heap ∧ va_K g.2.1 vwCl (tysG g) U ∧ va_D (fun _ => True) ws ∧ nestOk U)) := by
  intro a U f mk q
  obtain ⟨q0, q1, qP, qK, qD, qN⟩ := q
  exact ⟨q0, q1, qP, va_K.moved (u := U) (U := U.calling f mk a) (Vm.Alike.refl U.vm) qK, qD, nestOk.same (s := U) (U := U.calling f mk a) rfl qN⟩
theorem ev_after {p : Program} {e : Env} {s : State} {m : MethodId} {args : Array Value} {below : List Frame} {meth : Method} {c : Code} {H : Heap} {locs : List Loc} {ls : Array Slot} {A : Nat → Prop} {Ps : Option Value → va_W → Prop} {st0 rest : List Value} {a : Array Value} (hr : va_Run p g.1 e (rmR d.2.2.2.2) s m args below meth c H locs 0 0 0 0 (F0 m pc ls st0) rest (QR g Ps (va_A ws H.size) a) (va_A ws H.size))
    (F : FX g d p s m args meth c) (hA : ∀ q, s.heap.size ≤ q → A q) (hD : va_D A ws) (hS : va_S A s.heap H locs) (hl : lw_has ls d.2.2.1 lv) (k : ∀ v w, Ps v w → Ev g d (pc + 3) lv (v.toList ++ rest) w Ph) : W p g.1 e (rmR d.2.2.2.2) s m args below meth c H locs 0 0 (MQ below (QR g Ph A) args s 0 0 A) (F0 m pc ls st0) := by
  intro T hT X
  obtain ⟨v, st₀, t, T', L, h0, X', hL, e1, e2, ⟨⟨v', w, hv, hp, hPw, hDw⟩, hz, hk⟩, go⟩ := hr T hT X
  have ev : v = v' := by simpa using hv
  subst ev
  rw [h0] at hz hk
  have hf : ∀ q, va_A ws H.size q → A q := fun q h => by
    rcases h with ⟨i, x, h⟩ | h
    · exact hD.2 i (q, x) h
    · exact hA q (Nat.le_trans hS.1 h)
  obtain ⟨t2, a1, b1⟩ := k v w hp p e s m args below meth c T'.heap (locs ++ L) ls A F hA (by rw [e1]; exact hPw) (hDw.weaken (fun _ q _ h => hf q.1 h))
    ⟨Nat.le_trans hS.1 (by rw [e1]; exact hz), fun q h1 h2 => by rw [e1, hk q (Nat.lt_of_lt_of_le h1 hS.1) (fun z => h2 (hf q z))]; exact hS.2.1 q h1 h2, fun q hq => by
      rcases List.mem_append.mp hq with h | h
      · exact hS.2.2 q h
      · exact hf _ (hL q h)⟩ hl T' rfl X'
  exact ⟨t2, go t2 a1, b1⟩
theorem ev_callV {z : MD} {b index ci n : Nat} {fs As rest : List Value} {T : u_T} {N : Nat} {Ps : Option Value → va_W → Prop} (co : coV d.1.cls index z n) (q0 : Nat) (he : ws[q0]? = some (b, .inr (ci, fs))) (hc : vwCl[ci]? = some (z.1.cls, T, N)) (hM : Ret g z (.ref b :: As) ws Ps) (hn : As.length = n) (hR : z.2.2.2.2 + 1 ≤ d.2.2.2.2) (hcat : (rest.map fun v => v.category).sum ≤ 8) (hd : decode d.2.1 pc = .ok (.invokevirtual index, 3)) (hst : st = As.reverse ++ .ref b :: rest) (hp : pc + 3 = pc') (k : ∀ v w, Ps v w → Ev g d pc' lv (v.toList ++ rest) w Ph) : Ev g d pc lv st ws Ph := by
  subst hp; intro p e s m args below meth c H locs ls A F hA hP hD hS hl
  obtain ⟨c1, c2, c3, c4, c5, c6, c7⟩ := co
  have Tt := F.2.2.2.2.2.1
  have hW : GoodIn (wsD d) (wsV d.1.cls index z.1.cls z.1 (wsD z)) := by
    intro w hw
    unfold wsV at hw
    rcases List.mem_append.mp hw with h | h
    · have h1 : w ∈ lw_good := by
        simp only [List.mem_cons, List.not_mem_nil, or_false] at h
        rcases h with rfl | rfl | rfl | rfl
        · exact c1
        · exact c2
        · exact c3
        · exact c4
      exact ⟨List.mem_cons_of_mem _ h1, good_of_word (List.mem_filter.mp h1).2⟩
    · exact wsD_good d z c5 w h
  refine ev_after (va_runV (As := As) (rest := rest) ⟨F.1, F.2.1, F.2.2.1, F.2.2.2.2.1, Tt⟩ (hM H.size) (cwV n Tt hW rfl rfl rfl ⟨rfl, c6⟩ ⟨hR, ?_⟩) ⟨blindR _ _, va_recv F.2.2.2.2.2.2.2.1 hP hc he, fun U hU hWm => ⟨rfl, by rw [hU], by rw [hU]; exact hP, va_K.moved hWm.alike F.2.2.2.2.2.2.2.1, hD.weaken (fun _ _ _ _ => trivial), nestOk.warm hWm F.2.2.2.2.2.2.2.2⟩⟩ rfl hn hl.1 hst (lv_room hcat) hd ⟨Nat.zero_le _, Nat.zero_le _⟩) F hA hD hS hl k
  show 8 + (z.2.2.1 + 11) + 40 * z.2.2.2.2 ≤ 40 * d.2.2.2.2
  omega
theorem ev_callS {z : MD} {index n : Nat} {As rest : List Value} {Ps : Option Value → va_W → Prop} (co : coS d.1.cls index z n) (hM : Ret g z As ws Ps) (hn : As.length = n) (hR : z.2.2.2.2 + 1 ≤ d.2.2.2.2) (hcat : (rest.map fun v => v.category).sum ≤ 8) (hd : decode d.2.1 pc = .ok (.invokestatic index, 3)) (hst : st = As.reverse ++ rest) (hp : pc + 3 = pc') (k : ∀ v w, Ps v w → Ev g d pc' lv (v.toList ++ rest) w Ph) : Ev g d pc lv st ws Ph := by
  subst hp; intro p e s m args below meth c H locs ls A F hA hP hD hS hl
  obtain ⟨c1, c2, c4, c5, c6, c7⟩ := co
  have Tt := F.2.2.2.2.2.1
  refine ev_after (va_runS (As := As) (rest := rest) ⟨F.1, F.2.1, F.2.2.1, F.2.2.2.2.1, Tt⟩ (hM H.size) ⟨callB_of n Tt (wsD_good d z c5) rfl rfl rfl (Tt _ (List.mem_cons_of_mem _ c4)) (Tt _ (List.mem_cons_of_mem _ c1)) c6 ⟨hR, ?_⟩, Tt _ (List.mem_cons_of_mem _ c2)⟩ ⟨blindR _ _, fun U hU hWm => ⟨rfl, by rw [hU], by rw [hU]; exact hP, va_K.moved hWm.alike F.2.2.2.2.2.2.2.1, hD.weaken (fun _ _ _ _ => trivial), nestOk.warm hWm F.2.2.2.2.2.2.2.2⟩⟩ rfl hn hl.1 hst (lv_room hcat) hd ⟨Nat.zero_le _, Nat.zero_le _⟩) F hA hD hS hl k
  show 8 + (z.2.2.1 + 11) + 40 * z.2.2.2.2 ≤ 40 * d.2.2.2.2
  omega
end EV2
