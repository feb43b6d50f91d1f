/-! ===== every call keeps the tree's laws ===== -/
theorem favs_keep (pa : Nat → Option Nat) (b : Nat) : ∀ (l : List Nat) (f : Nat → Option Nat), (∀ y ∈ l, ¬ pa y = some b) → favs pa l f b = f b
  | [], f, _ => rfl
  | c :: l, f, h => by
    show favs pa l (match pa c with | some b => va_up f b (some c) | none => f) b = f b
    rw [favs_keep pa b l _ (fun y hy => h y (List.mem_cons_of_mem _ hy))]
    have hc := h c List.mem_cons_self
    cases hp : pa c with
    | none => rfl
    | some d =>
      show va_up f d (some c) b = f b
      exact va_up_ne _ _ (fun e => hc (by rw [hp, e]))
theorem favs_or (pa : Nat → Option Nat) (b : Nat) : ∀ (l : List Nat) (f : Nat → Option Nat), favs pa l f b = f b ∨ ∃ y ∈ l, pa y = some b ∧ favs pa l f b = some y
  | [], f => Or.inl rfl
  | c :: l, f => by
    rcases favs_or pa b l (match pa c with | some b => va_up f b (some c) | none => f) with h | ⟨y, h1, h2, h3⟩
    · cases hp : pa c with
      | none =>
        left
        show favs pa l (match pa c with | some b => va_up f b (some c) | none => f) b = f b
        rw [h, hp]
      | some d =>
        by_cases e : b = d
        · right
          subst e
          refine ⟨c, List.mem_cons_self, hp, ?_⟩
          show favs pa l (match pa c with | some b => va_up f b (some c) | none => f) b = some c
          rw [h, hp]
          exact va_up_self _ _ _
        · left
          show favs pa l (match pa c with | some b => va_up f b (some c) | none => f) b = f b
          rw [h, hp]
          exact va_up_ne _ _ e
    · right
      exact ⟨y, List.mem_cons_of_mem _ h1, h2, h3⟩
theorem favs_at {S : SS} (T : Tree S) : ∀ (a : Nat), a ∈ sL S → ∀ (f : Nat → Option Nat), ∀ x ∈ path S a, ∀ b, spa S x = some b → favs (spa S) (path S a) f b = some x := by
  intro a
  induction a using Nat.strongRecOn with
  | ind a ih =>
    intro ha f x hx b hb
    cases hp : spa S a with
    | none =>
      rw [path_none hp] at hx
      rw [List.mem_singleton.mp hx, hp] at hb
      cases hb
    | some c =>
      obtain ⟨h1, h2⟩ := T.par ha hp
      rw [path_some T ha hp] at hx ⊢
      show favs (spa S) (path S c) (match spa S a with | some b => va_up f b (some a) | none => f) b = some x
      rw [hp]
      show favs (spa S) (path S c) (va_up f c (some a)) b = some x
      rcases List.mem_cons.mp hx with rfl | hx
      · rw [hp] at hb
        cases hb
        rw [favs_keep, va_up_self]
        intro y hy hyb
        obtain ⟨h3, h4⟩ := path_in T _ h1 y hy
        have := (T.par h3 hyb).2
        omega
      · exact ih c h2 h1 _ x hx b hb
theorem Inv.up {n m : Nat} {S : SS} (I : Inv n S) (h : n ≤ m) : Inv m S := ⟨I.T, I.cu, I.2.2.1, I.2.2.2.1, I.2.2.2.2.1, I.2.2.2.2.2.1, I.2.2.2.2.2.2.1, I.2.2.2.2.2.2.2.1, I.cl, I.2.2.2.2.2.2.2.2.2.1, I.2.2.2.2.2.2.2.2.2.2.1, by have := I.gv; omega⟩
/-- becoming current, out of what an addition leaves -/
theorem Inv_bec {n : Nat} {S : SS} (T : Tree S) {a : Nat} (ha : a ∈ sL S) (hfa : ∀ b ∈ sL S, ∀ c, sfa S b = some c → c ∈ sL S ∧ spa S c = some b) (hfn : ∀ b ∈ sL S, sfa S b = none → ∀ c ∈ sL S, spa S c = some b → c ∈ path S a) (hmk : ∀ i, i < 5 → ∀ b, smk S i = some b → b ∈ sL S) (htl : ∀ b ∈ sL S, stl S b ≤ 40 ∧ sle S b ≤ 6) (hed : ∀ c ∈ sL S, ∀ b, spa S c = some b → editOk S c b) (hcl : scl S ≤ 6) (hcp : ∀ i, i < scl S → chOk (scp S i)) (htx : ∀ b ∈ sL S, ∀ i, i < stl S b → chOk (stx S b i)) (hgv : sgv S ≤ n + 1) : Inv n (bec S a) := by
  refine ⟨T, ha, fun b hb c hc => ?_, fun b hb hc c hcL hcb => ?_, fun x hx b hb => ?_, hmk, htl, hed, hcl, hcp, htx, hgv⟩
  · have hc : favs (spa S) (path S a) (sfa S) b = some c := hc
    show c ∈ sL S ∧ spa S c = some b
    rcases favs_or (spa S) b (path S a) (sfa S) with h | ⟨y, h1, h2, h3⟩
    · rw [h] at hc; exact hfa b hb c hc
    · rw [h3] at hc
      cases hc
      exact ⟨(path_in T a ha _ h1).1, h2⟩
  · have hc : favs (spa S) (path S a) (sfa S) b = none := hc
    have hcb : spa S c = some b := hcb
    rcases favs_or (spa S) b (path S a) (sfa S) with h | ⟨y, h1, h2, h3⟩
    · rw [h] at hc
      have h4 := hfn b hb hc c hcL hcb
      rw [favs_at T a ha (sfa S) c h4 b hcb] at h
      rw [hc] at h
      cases h
    · rw [h3] at hc; cases hc
  · exact favs_at T a ha (sfa S) x hx b hb
theorem Inv.wBec {n : Nat} {S : SS} (I : Inv n S) {a : Nat} (ha : a ∈ sL S) : Inv n (bec S a) :=
  Inv_bec I.T ha I.2.2.1 (fun b hb h c hc hcb => absurd hcb (I.fn hb h hc)) I.2.2.2.2.2.1 I.2.2.2.2.2.2.1 I.2.2.2.2.2.2.2.1 I.cl I.2.2.2.2.2.2.2.2.2.1 I.2.2.2.2.2.2.2.2.2.2.1 I.gv
theorem Inv.wMk {n : Nat} {S : SS} (I : Inv n S) {f : Nat → Option Nat} (h : ∀ i, i < 5 → ∀ a, f i = some a → a ∈ sL S) : Inv n (setMk S f) := ⟨I.T, I.cu, I.2.2.1, I.2.2.2.1, I.2.2.2.2.1, h, I.2.2.2.2.2.2⟩
theorem Inv.wCl {n : Nat} {S : SS} (I : Inv n S) {k : Nat} {f : Nat → Int32} (hk : k ≤ 6) (h : ∀ i, i < k → chOk (f i)) : Inv n (setCl S k f) := ⟨I.T, I.cu, I.2.2.1, I.2.2.2.1, I.2.2.2.2.1, I.2.2.2.2.2.1, I.2.2.2.2.2.2.1, I.2.2.2.2.2.2.2.1, hk, h, I.2.2.2.2.2.2.2.2.2.2⟩
theorem Inv.wGrw {n : Nat} {S : SS} (I : Inv n S) (hN : n ≤ 512) (hl : (sL S).length < 24) {p k : Nat} {d : Bool} {s : Nat → Int32} (hk1 : 1 ≤ k) (hk6 : k ≤ 6) (hd1 : d = true → p + k ≤ stl S (scu S) ∧ ∀ i, i < k → s i = stx S (scu S) (p + i)) (hd2 : d = false → p ≤ stl S (scu S) ∧ stl S (scu S) + k ≤ 40 ∧ ∀ i, i < k → chOk (s i)) : Inv (n + 1) (grw S p k d s) := by
  have T := I.T
  have hgv := I.gv
  have hv := sgv_notin T
  have hne : ∀ a ∈ sL S, a ≠ sgv S := fun a ha e => hv (e ▸ ha)
  have h40 := I.tl I.cu
  have hcs := hne _ I.cu
  have T2 := addN_T T I.cu hl (by omega) p k 0 d s
  have hmem : ∀ {a : Nat}, a ∈ sL (addN S p k d s 0) → a ∈ sL S ∨ a = sgv S := fun {a} ha => (List.mem_append.mp (show a ∈ sL S ++ [sgv S] from ha)).imp id List.mem_singleton.mp
  have hin : ∀ {a : Nat}, a ∈ sL S → a ∈ sL (addN S p k d s 0) := fun {a} ha => List.mem_append_left _ ha
  refine Inv_bec T2 (List.mem_append_right _ (List.mem_singleton.mpr rfl)) (fun b hb c hc => ?_) (fun b hb h c hc hcb => ?_) (fun i hi b hb => hin (I.mk hi hb)) (fun b hb => ?_) (fun c hc b hb => ?_) I.cl (fun i hi => I.cp hi) (fun b hb i hi => ?_) (by show sgv S + 1 ≤ n + 1 + 1; omega)
  · have hc : va_up (sfa S) (sgv S) none b = some c := hc
    rcases hmem hb with h | h
    · rw [va_up_ne _ _ (hne b h)] at hc
      obtain ⟨h1, h2⟩ := I.fa h hc
      refine ⟨hin h1, ?_⟩
      show va_up (spa S) (sgv S) (some (scu S)) c = some b
      rw [va_up_ne _ _ (hne c h1)]; exact h2
    · rw [h, va_up_self] at hc; cases hc
  · have h : va_up (sfa S) (sgv S) none b = none := h
    have hcb : va_up (spa S) (sgv S) (some (scu S)) c = some b := hcb
    rcases hmem hc with hc' | hc'
    · exfalso
      rw [va_up_ne _ _ (hne c hc')] at hcb
      rcases hmem hb with hb' | hb'
      · rw [va_up_ne _ _ (hne b hb')] at h
        exact I.fn hb' h hc' hcb
      · exact hv (hb' ▸ (T.par hc' hcb).1)
    · rw [hc']; exact path_self _ _
  · rcases hmem hb with h | h
    · refine ⟨?_, ?_⟩
      · show va_up (stl S) (sgv S) _ b ≤ 40
        rw [va_up_ne _ _ (hne b h)]; exact I.tl h
      · show va_up (sle S) (sgv S) _ b ≤ 6
        rw [va_up_ne _ _ (hne b h)]; exact I.le h
    · subst h
      refine ⟨?_, ?_⟩
      · show va_up (stl S) (sgv S) _ (sgv S) ≤ 40
        rw [va_up_self]
        unfold nTl
        cases d with
        | true => rw [if_pos rfl]; omega
        | false => rw [if_neg (by decide)]; exact (hd2 rfl).2.1
      · show va_up (sle S) (sgv S) _ (sgv S) ≤ 6
        rw [va_up_self]; exact hk6
  · have hb : va_up (spa S) (sgv S) (some (scu S)) c = some b := hb
    rcases hmem hc with h | h
    · rw [va_up_ne _ _ (hne c h)] at hb
      have hbL := (T.par h hb).1
      have e := I.ed h hb
      have hc' := hne c h
      have hb' := hne b hbL
      unfold editOk at e ⊢
      show 1 ≤ va_up (sle S) (sgv S) k c ∧ va_up (sle S) (sgv S) k c ≤ 6 ∧ (va_up (sde S) (sgv S) d c = true → va_up (spo S) (sgv S) p c + va_up (sle S) (sgv S) k c ≤ va_up (stl S) (sgv S) (nTl (stl S (scu S)) k d) b ∧ va_up (stl S) (sgv S) (nTl (stl S (scu S)) k d) c = va_up (stl S) (sgv S) (nTl (stl S (scu S)) k d) b - va_up (sle S) (sgv S) k c ∧ (∀ i, i < va_up (sle S) (sgv S) k c → va_up (ssr S) (sgv S) s c i = va_up (stx S) (sgv S) (nTx (stx S (scu S)) p k d s) b (va_up (spo S) (sgv S) p c + i)) ∧ (∀ i, i < va_up (spo S) (sgv S) p c → va_up (stx S) (sgv S) (nTx (stx S (scu S)) p k d s) c i = va_up (stx S) (sgv S) (nTx (stx S (scu S)) p k d s) b i) ∧ ∀ i, va_up (spo S) (sgv S) p c ≤ i → i < va_up (stl S) (sgv S) (nTl (stl S (scu S)) k d) c → va_up (stx S) (sgv S) (nTx (stx S (scu S)) p k d s) c i = va_up (stx S) (sgv S) (nTx (stx S (scu S)) p k d s) b (i + va_up (sle S) (sgv S) k c)) ∧ (va_up (sde S) (sgv S) d c = false → va_up (spo S) (sgv S) p c ≤ va_up (stl S) (sgv S) (nTl (stl S (scu S)) k d) b ∧ va_up (stl S) (sgv S) (nTl (stl S (scu S)) k d) c = va_up (stl S) (sgv S) (nTl (stl S (scu S)) k d) b + va_up (sle S) (sgv S) k c ∧ (∀ i, i < va_up (sle S) (sgv S) k c → va_up (stx S) (sgv S) (nTx (stx S (scu S)) p k d s) c (va_up (spo S) (sgv S) p c + i) = va_up (ssr S) (sgv S) s c i) ∧ (∀ i, i < va_up (spo S) (sgv S) p c → va_up (stx S) (sgv S) (nTx (stx S (scu S)) p k d s) c i = va_up (stx S) (sgv S) (nTx (stx S (scu S)) p k d s) b i) ∧ ∀ i, va_up (spo S) (sgv S) p c ≤ i → i < va_up (stl S) (sgv S) (nTl (stl S (scu S)) k d) b → va_up (stx S) (sgv S) (nTx (stx S (scu S)) p k d s) c (i + va_up (sle S) (sgv S) k c) = va_up (stx S) (sgv S) (nTx (stx S (scu S)) p k d s) b i)
      rw [va_up_ne _ _ hc', va_up_ne _ _ hc', va_up_ne _ _ hc', va_up_ne _ _ hc', va_up_ne _ _ hc', va_up_ne _ _ hc', va_up_ne _ _ hb', va_up_ne _ _ hb']
      exact e
    · subst h
      rw [va_up_self] at hb
      cases hb
      unfold editOk
      show 1 ≤ va_up (sle S) (sgv S) k (sgv S) ∧ va_up (sle S) (sgv S) k (sgv S) ≤ 6 ∧ (va_up (sde S) (sgv S) d (sgv S) = true → va_up (spo S) (sgv S) p (sgv S) + va_up (sle S) (sgv S) k (sgv S) ≤ va_up (stl S) (sgv S) (nTl (stl S (scu S)) k d) (scu S) ∧ va_up (stl S) (sgv S) (nTl (stl S (scu S)) k d) (sgv S) = va_up (stl S) (sgv S) (nTl (stl S (scu S)) k d) (scu S) - va_up (sle S) (sgv S) k (sgv S) ∧ (∀ i, i < va_up (sle S) (sgv S) k (sgv S) → va_up (ssr S) (sgv S) s (sgv S) i = va_up (stx S) (sgv S) (nTx (stx S (scu S)) p k d s) (scu S) (va_up (spo S) (sgv S) p (sgv S) + i)) ∧ (∀ i, i < va_up (spo S) (sgv S) p (sgv S) → va_up (stx S) (sgv S) (nTx (stx S (scu S)) p k d s) (sgv S) i = va_up (stx S) (sgv S) (nTx (stx S (scu S)) p k d s) (scu S) i) ∧ ∀ i, va_up (spo S) (sgv S) p (sgv S) ≤ i → i < va_up (stl S) (sgv S) (nTl (stl S (scu S)) k d) (sgv S) → va_up (stx S) (sgv S) (nTx (stx S (scu S)) p k d s) (sgv S) i = va_up (stx S) (sgv S) (nTx (stx S (scu S)) p k d s) (scu S) (i + va_up (sle S) (sgv S) k (sgv S))) ∧ (va_up (sde S) (sgv S) d (sgv S) = false → va_up (spo S) (sgv S) p (sgv S) ≤ va_up (stl S) (sgv S) (nTl (stl S (scu S)) k d) (scu S) ∧ va_up (stl S) (sgv S) (nTl (stl S (scu S)) k d) (sgv S) = va_up (stl S) (sgv S) (nTl (stl S (scu S)) k d) (scu S) + va_up (sle S) (sgv S) k (sgv S) ∧ (∀ i, i < va_up (sle S) (sgv S) k (sgv S) → va_up (stx S) (sgv S) (nTx (stx S (scu S)) p k d s) (sgv S) (va_up (spo S) (sgv S) p (sgv S) + i) = va_up (ssr S) (sgv S) s (sgv S) i) ∧ (∀ i, i < va_up (spo S) (sgv S) p (sgv S) → va_up (stx S) (sgv S) (nTx (stx S (scu S)) p k d s) (sgv S) i = va_up (stx S) (sgv S) (nTx (stx S (scu S)) p k d s) (scu S) i) ∧ ∀ i, va_up (spo S) (sgv S) p (sgv S) ≤ i → i < va_up (stl S) (sgv S) (nTl (stl S (scu S)) k d) (scu S) → va_up (stx S) (sgv S) (nTx (stx S (scu S)) p k d s) (sgv S) (i + va_up (sle S) (sgv S) k (sgv S)) = va_up (stx S) (sgv S) (nTx (stx S (scu S)) p k d s) (scu S) i)
      rw [va_up_self, va_up_self, va_up_self, va_up_self, va_up_self, va_up_self, va_up_ne _ _ hcs, va_up_ne _ _ hcs]
      refine ⟨hk1, hk6, fun hd => ?_, fun hd => ?_⟩
      · obtain ⟨g1, g2⟩ := hd1 hd
        subst hd
        refine ⟨g1, rfl, g2, fun i hi => ?_, fun i h1 h2 => ?_⟩
        · unfold nTx; rw [if_pos (show true = true from rfl), if_pos hi]
        · unfold nTx; rw [if_pos (show true = true from rfl), if_neg (by omega)]
      · obtain ⟨g1, g2, g3⟩ := hd2 hd
        subst hd
        refine ⟨g1, rfl, fun i hi => ?_, fun i hi => ?_, fun i h1 h2 => ?_⟩
        · unfold nTx; rw [if_neg (show ¬ (false = true) by decide), if_neg (by omega), if_pos (by omega), Nat.add_sub_cancel_left]
        · unfold nTx; rw [if_neg (show ¬ (false = true) by decide), if_pos hi]
        · unfold nTx; rw [if_neg (show ¬ (false = true) by decide), if_neg (by omega), if_neg (by omega), Nat.add_sub_cancel]
  · have hi : i < va_up (stl S) (sgv S) (nTl (stl S (scu S)) k d) b := hi
    show chOk (va_up (stx S) (sgv S) (nTx (stx S (scu S)) p k d s) b i)
    rcases hmem hb with h | h
    · rw [va_up_ne _ _ (hne b h)] at hi ⊢
      exact I.tx h hi
    · subst h
      rw [va_up_self] at hi ⊢
      unfold nTx
      unfold nTl at hi
      cases d with
      | true =>
        obtain ⟨g1, g2⟩ := hd1 rfl
        rw [if_pos rfl] at hi
        rw [if_pos (show true = true from rfl)]
        split
        · exact I.tx I.cu (by omega)
        · exact I.tx I.cu (by omega)
      | false =>
        obtain ⟨g1, g2, g3⟩ := hd2 rfl
        rw [if_neg (by decide)] at hi
        rw [if_neg (show ¬ (false = true) by decide)]
        split
        · exact I.tx I.cu (by omega)
        · split
          · exact g3 _ (by omega)
          · exact I.tx I.cu (by omega)
