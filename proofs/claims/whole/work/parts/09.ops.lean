/-! ===== what the calls answer, of the mathematical value ===== -/
def aLen (S : SS) (x : Int32) : Int32 := match lk S x with
  | none => (-2)
  | some a => nI (stl S a)
def aChr (S : SS) (x i : Int32) : Int32 := match lk S x with
  | none => (-2)
  | some a => if 0 ≤ i ∧ i < nI (stl S a) then stx S a i.toNatClampNeg else (-1)
def edc (S : SS) (a : Nat) : Int32 := nI 1000 * nI (spo S a) + nI 10 * nI (sle S a) + bI (sde S a)
def aEdit (S : SS) (x : Int32) : Int32 := match lk S x with
  | none => (-2)
  | some a => if a = 0 then (-6) else edc S a
def aPar (S : SS) (x : Int32) : Int32 := match lk S x with
  | none => (-2)
  | some a => if a = 0 then (-6) else oI (spa S a)
def aFav (S : SS) (x : Int32) : Int32 := match lk S x with
  | none => (-2)
  | some a => oI (sfa S a)
def aTim (S : SS) (x : Int32) : Int32 := match lk S x with
  | none => (-2)
  | some a => nI (sti S a)
def farS (S : SS) (a b : Nat) : Int32 := nI (dep S a) + nI (dep S b) - nI 2 * nI (dep S (lca S a b))
def aLca (S : SS) (x y : Int32) : Int32 := match lk S x, lk S y with
  | some a, some b => nI (lca S a b)
  | _, _ => (-2)
def aDis (S : SS) (x y : Int32) : Int32 := match lk S x, lk S y with
  | some a, some b => farS S a b
  | _, _ => (-2)
def chO (pa : Nat → Option Nat) (a : Nat) (i : Int32) : List Nat → Nat → Int32
  | [], _ => (-7)
  | c :: l, n => if pa c = some a then (if nI n = i then nI c else chO pa a i l (n + 1)) else chO pa a i l n
def aChild (S : SS) (x i : Int32) : Int32 := match lk S x with
  | none => (-2)
  | some a => chO (spa S) a i (sL S) 0
def cnt {α : Type} (p : α → Bool) : List α → Nat
  | [] => 0
  | c :: l => (if p c then 1 else 0) + cnt p l
theorem cnt_le {α : Type} (p : α → Bool) : ∀ l : List α, cnt p l ≤ l.length
  | [] => Nat.le_refl 0
  | c :: l => by
    have := cnt_le p l
    unfold cnt
    simp only [List.length_cons]
    split <;> omega
theorem cnt_0 {α : Type} {p : α → Bool} : ∀ {l : List α}, cnt p l = 0 ↔ ∀ c ∈ l, p c = false
  | [] => by simp [cnt]
  | c :: l => by
    have h := cnt_0 (p := p) (l := l)
    unfold cnt
    constructor
    · intro h1 x hx
      rcases List.mem_cons.mp hx with rfl | hx
      · cases hp : p x with
        | false => rfl
        | true => rw [hp] at h1; simp at h1
      · exact h.mp (by omega) x hx
    · intro h1
      rw [h.mpr (fun x hx => h1 x (List.mem_cons_of_mem _ hx)), h1 c List.mem_cons_self]
      rfl
def chN (S : SS) (a : Nat) : Nat := cnt (fun c => decide (spa S c = some a)) (sL S)
def mkN (S : SS) (a : Nat) : Nat := cnt (fun i => decide (smk S i = some a)) (List.range 5)
def loose (S : SS) (a : Nat) : Bool := decide (a ≠ 0 ∧ a ≠ scu S ∧ chN S a = 0 ∧ mkN S a = 0)
def oldF (S : SS) : List Nat → Option Nat → Option Nat
  | [], b => b
  | c :: l, b => oldF S l (if loose S c = true ∧ (∀ e, b = some e → nI (sti S c) < nI (sti S e)) then some c else b)
def aOld (S : SS) : Int32 := oI (oldF S (sL S) none)
theorem drop_ix {S : SS} {b : Nat} (hb : b ∈ sL S) : (sL S).drop (ix S b) = b :: (sL S).drop (ix S b + 1) := by
  have h := ix_len hb
  rw [List.drop_eq_getElem_cons h]
  have h2 := ix_get hb
  rw [List.getElem?_eq_getElem h] at h2
  rw [Option.some.inj h2]
theorem drop_end {S : SS} {k : Nat} (h : k + 0 = (sL S).length) : (sL S).drop k = [] := List.drop_eq_nil_of_le (by omega)
