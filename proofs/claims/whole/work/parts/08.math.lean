/-! ===== the history tree as a mathematical value: nodes are their numbers ===== -/
abbrev SS : Type := List Nat × Nat × Nat × Nat × (Nat → Option Nat) × (Nat → Option Nat) × (Nat → Nat) × (Nat → Nat) × (Nat → Nat) × (Nat → Bool) × (Nat → Nat) × (Nat → Nat → Int32) × (Nat → Nat → Int32) × Nat × (Nat → Int32) × (Nat → Option Nat)
/-- the numbers that are there, ascending -/
def sL (S : SS) : List Nat := S.1
/-- the next number -/
def sgv (S : SS) : Nat := S.2.1
def scu (S : SS) : Nat := S.2.2.1
def sck (S : SS) : Nat := S.2.2.2.1
def spa (S : SS) : Nat → Option Nat := S.2.2.2.2.1
def sfa (S : SS) : Nat → Option Nat := S.2.2.2.2.2.1
def sti (S : SS) : Nat → Nat := S.2.2.2.2.2.2.1
def spo (S : SS) : Nat → Nat := S.2.2.2.2.2.2.2.1
def sle (S : SS) : Nat → Nat := S.2.2.2.2.2.2.2.2.1
def sde (S : SS) : Nat → Bool := S.2.2.2.2.2.2.2.2.2.1
def stl (S : SS) : Nat → Nat := S.2.2.2.2.2.2.2.2.2.2.1
def stx (S : SS) : Nat → Nat → Int32 := S.2.2.2.2.2.2.2.2.2.2.2.1
def ssr (S : SS) : Nat → Nat → Int32 := S.2.2.2.2.2.2.2.2.2.2.2.2.1
def scl (S : SS) : Nat := S.2.2.2.2.2.2.2.2.2.2.2.2.2.1
def scp (S : SS) : Nat → Int32 := S.2.2.2.2.2.2.2.2.2.2.2.2.2.2.1
def smk (S : SS) : Nat → Option Nat := S.2.2.2.2.2.2.2.2.2.2.2.2.2.2.2
def oI : Option Nat → Int32
  | none => (-7)
  | some a => nI a
def bI (b : Bool) : Int32 := if b then nI 1 else nI 0
def chOk (c : Int32) : Prop := fits .char (.int c) = true
/-- the place of a number -/
def ix (S : SS) (a : Nat) : Nat := (sL S).idxOf a
/-- a node's row in the reference, at its place -/
def rowM (S : SS) (k a : Nat) (mnu mpa mfa mti mpo mle mde msr mtl mtx : Nat → Int32) : Prop :=
  mnu k = nI a ∧ mpa k = oI (spa S a) ∧ mfa k = oI (sfa S a) ∧ mti k = nI (sti S a) ∧ mpo k = nI (spo S a) ∧ mle k = nI (sle S a) ∧ mde k = bI (sde S a) ∧ mtl k = nI (stl S a) ∧ (∀ i, i < sle S a → msr (6 * k + i) = ssr S a i) ∧ (∀ i, i < stl S a → mtx (40 * k + i) = stx S a i)
def RM (S : SS) (mnd mgv mcu mck mcl msh : Int32) (mhh : Int64) (mnu mpa mfa mti mpo mle mde msr mtl mtx mcp mmk mns : Nat → Int32) : Prop :=
  mnd = nI (sL S).length ∧ mgv = nI (sgv S) ∧ mcu = nI (ix S (scu S)) ∧ mck = nI (sck S) ∧ mcl = nI (scl S) ∧ (∀ a ∈ sL S, rowM S (ix S a) a mnu mpa mfa mti mpo mle mde msr mtl mtx) ∧ (∀ i, i < scl S → mcp i = scp S i) ∧ (∀ i, i < 5 → mmk i = oI (smk S i))
/-- the path of a node, from itself up -/
def pth (pa : Nat → Option Nat) : Nat → Nat → List Nat
  | 0, _ => []
  | n + 1, a => a :: (match pa a with
    | none => []
    | some b => pth pa n b)
def path (S : SS) (a : Nat) : List Nat := pth (spa S) (a + 1) a
/-- a child's text out of its parent's -/
def editOk (S : SS) (a b : Nat) : Prop :=
  1 ≤ sle S a ∧ sle S a ≤ 6 ∧
  (sde S a = true → spo S a + sle S a ≤ stl S b ∧ stl S a = stl S b - sle S a ∧ (∀ i, i < sle S a → ssr S a i = stx S b (spo S a + i)) ∧ (∀ i, i < spo S a → stx S a i = stx S b i) ∧ ∀ i, spo S a ≤ i → i < stl S a → stx S a i = stx S b (i + sle S a)) ∧
  (sde S a = false → spo S a ≤ stl S b ∧ stl S a = stl S b + sle S a ∧ (∀ i, i < sle S a → stx S a (spo S a + i) = ssr S a i) ∧ (∀ i, i < spo S a → stx S a i = stx S b i) ∧ ∀ i, spo S a ≤ i → i < stl S b → stx S a (i + sle S a) = stx S b i)
/-- the tree's own laws (they say nothing of times, marks, the clip) -/
def Tree (S : SS) : Prop :=
  (sL S)[0]? = some 0 ∧ (sL S).Pairwise (· < ·) ∧ (sL S).length ≤ 24 ∧ (∀ a ∈ sL S, a < sgv S) ∧ sgv S ≤ 600 ∧ spa S 0 = none ∧ (∀ a ∈ sL S, a ≠ 0 → ∃ b, spa S a = some b ∧ b ∈ sL S ∧ b < a)
theorem Tree.root {S : SS} (h : Tree S) : (sL S)[0]? = some 0 := h.1
theorem Tree.sorted {S : SS} (h : Tree S) : (sL S).Pairwise (· < ·) := h.2.1
theorem Tree.len {S : SS} (h : Tree S) : (sL S).length ≤ 24 := h.2.2.1
theorem Tree.lt {S : SS} (h : Tree S) {a : Nat} (ha : a ∈ sL S) : a < 600 := Nat.lt_of_lt_of_le (h.2.2.2.1 a ha) h.2.2.2.2.1
theorem Tree.ltg {S : SS} (h : Tree S) {a : Nat} (ha : a ∈ sL S) : a < sgv S := h.2.2.2.1 a ha
theorem Tree.gv {S : SS} (h : Tree S) : sgv S ≤ 600 := h.2.2.2.2.1
theorem Tree.pa0 {S : SS} (h : Tree S) : spa S 0 = none := h.2.2.2.2.2.1
theorem Tree.par {S : SS} (h : Tree S) {a b : Nat} (ha : a ∈ sL S) (hb : spa S a = some b) : b ∈ sL S ∧ b < a := by
  have hn : a ≠ 0 := fun e => by rw [e, h.pa0] at hb; cases hb
  obtain ⟨c, h1, h2, h3⟩ := h.2.2.2.2.2.2 a ha hn
  rw [h1] at hb
  cases hb
  exact ⟨h2, h3⟩
theorem Tree.none {S : SS} (h : Tree S) {a : Nat} (ha : a ∈ sL S) (hb : spa S a = none) : a = 0 := by
  by_cases hn : a = 0
  · exact hn
  · obtain ⟨c, h1, -⟩ := h.2.2.2.2.2.2 a ha hn
    rw [h1] at hb
    cases hb
theorem Tree.mem {S : SS} {k a : Nat} (h : (sL S)[k]? = some a) : a ∈ sL S := List.mem_of_getElem? h
theorem Tree.idx {S : SS} {k a : Nat} (h : (sL S)[k]? = some a) : k < (sL S).length := (List.getElem?_eq_some_iff.mp h).1
theorem Tree.mem0 {S : SS} (h : Tree S) : 0 ∈ sL S := List.mem_of_getElem? h.root
theorem Tree.mono {S : SS} (h : Tree S) {i j a b : Nat} (hi : (sL S)[i]? = some a) (hj : (sL S)[j]? = some b) (hij : i < j) : a < b := by
  obtain ⟨h1, e1⟩ := List.getElem?_eq_some_iff.mp hi
  obtain ⟨h2, e2⟩ := List.getElem?_eq_some_iff.mp hj
  have := List.pairwise_iff_getElem.mp h.sorted i j h1 h2 hij
  rw [e1, e2] at this
  exact this
theorem Tree.inj {S : SS} (h : Tree S) {i j a : Nat} (hi : (sL S)[i]? = some a) (hj : (sL S)[j]? = some a) : i = j := by
  rcases Nat.lt_trichotomy i j with q | q | q
  · exact absurd (h.mono hi hj q) (Nat.lt_irrefl a)
  · exact q
  · exact absurd (h.mono hj hi q) (Nat.lt_irrefl a)
theorem ix_get {S : SS} {a : Nat} (ha : a ∈ sL S) : (sL S)[ix S a]? = some a := by
  have h : ix S a < (sL S).length := List.idxOf_lt_length_iff.mpr ha
  rw [List.getElem?_eq_getElem h]
  exact congrArg some (List.getElem_idxOf h)
theorem ix_len {S : SS} {a : Nat} (ha : a ∈ sL S) : ix S a < (sL S).length := List.idxOf_lt_length_iff.mpr ha
theorem ix_lt {S : SS} (T : Tree S) {a : Nat} (ha : a ∈ sL S) : ix S a < 24 := Nat.lt_of_lt_of_le (ix_len ha) T.len
theorem ix_of {S : SS} (T : Tree S) {k a : Nat} (h : (sL S)[k]? = some a) : ix S a = k := T.inj (ix_get (Tree.mem h)) h
theorem ix_at {S : SS} (T : Tree S) {k : Nat} (h : k < (sL S).length) : ∃ b, b ∈ sL S ∧ ix S b = k := ⟨(sL S)[k], List.getElem_mem h, ix_of T (List.getElem?_eq_getElem h)⟩
theorem ix_inj {S : SS} (T : Tree S) {a b : Nat} (ha : a ∈ sL S) (hb : b ∈ sL S) (h : ix S a = ix S b) : a = b := by
  have h1 := ix_get ha
  rw [h, ix_get hb] at h1
  exact (Option.some.inj h1).symm
theorem ix_mono {S : SS} (T : Tree S) {a b : Nat} (ha : a ∈ sL S) (hb : b ∈ sL S) : ix S a < ix S b ↔ a < b := by
  constructor
  · exact T.mono (ix_get ha) (ix_get hb)
  · intro h
    rcases Nat.lt_trichotomy (ix S a) (ix S b) with q | q | q
    · exact q
    · rw [ix_inj T ha hb q] at h; omega
    · have := T.mono (ix_get hb) (ix_get ha) q; omega
theorem ix_0 {S : SS} (T : Tree S) : ix S 0 = 0 := ix_of T T.root
theorem ix_eq0 {S : SS} (T : Tree S) {a : Nat} (ha : a ∈ sL S) : ix S a = 0 ↔ a = 0 := ⟨fun h => ix_inj T ha (List.mem_of_getElem? T.root) (h.trans (ix_0 T).symm), fun h => by rw [h]; exact ix_0 T⟩
theorem nI_inj {a b : Nat} (ha : a < 2 ^ 31) (hb : b < 2 ^ 31) (h : nI a = nI b) : a = b := (nI_eq ha hb).mp h
theorem nI_m7 {a : Nat} (ha : a < 2 ^ 31) : ¬ nI a = -7 := by
  intro h
  have h1 : (nI a).toInt = (-7 : Int32).toInt := by rw [h]
  rw [nI_toInt ha] at h1
  have : ((-7 : Int32)).toInt = -7 := by decide
  omega
/-- enough fuel is enough -/
theorem pth_two {S : SS} (h : Tree S) : ∀ (n m a : Nat), a ∈ sL S → a < n → a < m → pth (spa S) n a = pth (spa S) m a := by
  intro n
  induction n with
  | zero => intro m a _ hn; omega
  | succ n ih =>
    intro m a ha hn hm
    obtain ⟨m', rfl⟩ : ∃ m', m = m' + 1 := ⟨m - 1, by omega⟩
    show a :: _ = a :: _
    cases hb : spa S a with
    | none => rfl
    | some b =>
      obtain ⟨h1, h2⟩ := h.par ha hb
      show a :: pth (spa S) n b = a :: pth (spa S) m' b
      rw [ih m' b h1 (by omega) (by omega)]
theorem pth_fuel {S : SS} (h : Tree S) (n a : Nat) (ha : a ∈ sL S) (hn : a < n) : pth (spa S) n a = path S a := pth_two h n (a + 1) a ha hn (Nat.lt_succ_self a)
theorem path_none {S : SS} {a : Nat} (hb : spa S a = none) : path S a = [a] := by
  unfold path; show a :: _ = _; rw [hb]
theorem path_some {S : SS} (h : Tree S) {a b : Nat} (ha : a ∈ sL S) (hb : spa S a = some b) : path S a = a :: path S b := by
  obtain ⟨h1, h2⟩ := h.par ha hb
  rw [show path S a = a :: pth (spa S) a b by unfold path; show a :: _ = _; rw [hb], pth_fuel h a b h1 h2]
theorem path_self (S : SS) (a : Nat) : a ∈ path S a := by unfold path; exact List.mem_cons_self
/-- all of a path is there -/
theorem path_in {S : SS} (h : Tree S) : ∀ (a : Nat), a ∈ sL S → ∀ c ∈ path S a, c ∈ sL S ∧ c ≤ a := by
  intro a
  induction a using Nat.strongRecOn with
  | ind a ih =>
    intro ha c hc
    cases hb : spa S a with
    | none => rw [path_none hb] at hc; rw [List.mem_singleton.mp hc]; exact ⟨ha, Nat.le_refl a⟩
    | some b =>
      rw [path_some h ha hb] at hc
      obtain ⟨h1, h2⟩ := h.par ha hb
      rcases List.mem_cons.mp hc with rfl | hc
      · exact ⟨ha, Nat.le_refl _⟩
      · obtain ⟨h3, h4⟩ := ih b h2 h1 c hc
        exact ⟨h3, by omega⟩
theorem path_root {S : SS} (h : Tree S) : ∀ (a : Nat), a ∈ sL S → 0 ∈ path S a := by
  intro a
  induction a using Nat.strongRecOn with
  | ind a ih =>
    intro ha
    cases hb : spa S a with
    | none => rw [path_none hb, h.none ha hb]; exact List.mem_cons_self
    | some b =>
      rw [path_some h ha hb]
      obtain ⟨h1, h2⟩ := h.par ha hb
      exact List.mem_cons_of_mem _ (ih b h2 h1)
def dep (S : SS) (a : Nat) : Nat := (path S a).length - 1
theorem dep_none {S : SS} {a : Nat} (hb : spa S a = none) : dep S a = 0 := by unfold dep; rw [path_none hb]; rfl
theorem dep_some {S : SS} (h : Tree S) {a b : Nat} (ha : a ∈ sL S) (hb : spa S a = some b) : dep S a = dep S b + 1 := by
  unfold dep; rw [path_some h ha hb]
  have : 0 < (path S b).length := List.length_pos_of_mem (path_self S b)
  simp only [List.length_cons]; omega
theorem dep_le {S : SS} (h : Tree S) : ∀ (a : Nat), a ∈ sL S → dep S a ≤ a := by
  intro a
  induction a using Nat.strongRecOn with
  | ind a ih =>
    intro ha
    cases hb : spa S a with
    | none => rw [dep_none hb]; exact Nat.zero_le _
    | some b =>
      obtain ⟨h1, h2⟩ := h.par ha hb
      rw [dep_some h ha hb]
      have := ih b h2 h1
      omega
/-- the first on the path of a that is on the path of b -/
def lca (S : SS) (a b : Nat) : Nat := ((path S a).find? (fun x => decide (x ∈ path S b))).getD 0
theorem lca_in {S : SS} {a b : Nat} (h : a ∈ path S b) : lca S a b = a := by
  unfold lca
  rw [show path S a = a :: (match spa S a with | none => [] | some b => pth (spa S) a b) from rfl, List.find?_cons_of_pos (by simpa using h)]; rfl
theorem lca_up {S : SS} (h : Tree S) {a b c : Nat} (ha : a ∈ sL S) (hc : spa S a = some c) (hn : a ∉ path S b) : lca S a b = lca S c b := by
  unfold lca
  rw [path_some h ha hc, List.find?_cons_of_neg (by simpa using hn)]
theorem lca_mem {S : SS} (h : Tree S) {b : Nat} (hb : b ∈ sL S) : ∀ (a : Nat), a ∈ sL S → lca S a b ∈ sL S := by
  intro a
  induction a using Nat.strongRecOn with
  | ind a ih =>
    intro ha
    by_cases hn : a ∈ path S b
    · rw [lca_in hn]; exact ha
    · cases hc : spa S a with
      | none => rw [h.none ha hc] at hn; exact absurd (path_root h b hb) hn
      | some c =>
        obtain ⟨h1, h2⟩ := h.par ha hc
        rw [lca_up h ha hc hn]; exact ih c h2 h1
/-- the node of a number, if it is there -/
def lk (S : SS) (x : Int32) : Option Nat := (sL S).find? (fun a => decide (nI a = x))
theorem lk_some {S : SS} {x : Int32} {a : Nat} (h : lk S x = some a) : a ∈ sL S ∧ nI a = x := by
  unfold lk at h
  exact ⟨List.mem_of_find?_eq_some h, by simpa using List.find?_some h⟩
theorem lk_none {S : SS} {x : Int32} (h : lk S x = none) : ∀ a ∈ sL S, ¬ nI a = x := by
  unfold lk at h
  intro a ha
  simpa using List.find?_eq_none.mp h a ha
theorem lk_of {S : SS} (h : Tree S) {a : Nat} (ha : a ∈ sL S) : lk S (nI a) = some a := by
  cases hl : lk S (nI a) with
  | none => exact absurd rfl (lk_none hl a ha)
  | some b =>
    obtain ⟨h1, h2⟩ := lk_some hl
    have := h.lt ha
    have := h.lt h1
    rw [nI_inj (by omega) (by omega) h2]
theorem Ret.mono {g : EG} {d : MD} {av : List Value} {ws : va_W} {Ps Ph : Option Value → va_W → Prop} (h : Ret g d av ws Ps) (hi : ∀ v w, Ps v w → Ph v w) : Ret g d av ws Ph := by
  intro sz p e ha hc hk s m args below hf happ hP hK
  obtain ⟨n, o, h1, h2, h3, ⟨⟨⟨v, w', q1, q2, q3⟩, q4⟩, q5⟩⟩ := h sz p e ha hc hk s m args below hf happ hP hK
  exact ⟨n, o, h1, h2, h3, ⟨⟨⟨v, w', q1, hi v w' q2, q3⟩, q4⟩, q5⟩⟩
theorem oI_m7 {S : SS} (T : Tree S) {r : Option Nat} (hr : ∀ a, r = some a → a < 2 ^ 31) : oI r = (-7) ↔ r = none := by
  cases r with
  | none => exact ⟨fun _ => rfl, fun _ => rfl⟩
  | some a => exact ⟨fun h => absurd h (nI_m7 (hr a rfl)), fun h => by cases h⟩
/-- the place of what is looked up -/
def lkI (S : SS) (x : Int32) : Int32 := oI ((lk S x).map (ix S))
def upI (S : SS) (a : Nat) : Int32 := oI ((spa S a).map (ix S))
theorem lkI_some {S : SS} {x : Int32} {a : Nat} (h : lk S x = some a) : lkI S x = nI (ix S a) := by unfold lkI; rw [h]; rfl
theorem lkI_none {S : SS} {x : Int32} (h : lk S x = none) : lkI S x = (-7) := by unfold lkI; rw [h]; rfl
theorem upI_some {S : SS} {a b : Nat} (h : spa S a = some b) : upI S a = nI (ix S b) := by unfold upI; rw [h]; rfl
theorem upI_none {S : SS} {a : Nat} (h : spa S a = none) : upI S a = (-7) := by unfold upI; rw [h]; rfl
