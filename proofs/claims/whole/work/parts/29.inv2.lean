/-! ===== every call keeps the laws, call by call ===== -/
section IV
variable {n : Nat} {S : SS}
theorem shs_G (I : Inv n S) {e : Nat} (hn : 1 ≤ sle S e) : ∀ (m d a x : Nat), d + m = dep S (scu S) → (dwn S (scu S))[d]? = some x → shG S e x a → ∀ a', shs S e ((dwn S (scu S)).drop (d + 1)) a = .inl a' → shG S e (scu S) a' := by
  intro m
  induction m with
  | zero =>
    intro d a x hdd hx hG a' h
    have hlen := dwn_len S (scu S)
    rw [show d = dep S (scu S) by omega, dwn_last I.T I.cu] at hx
    have e1 : scu S = x := Option.some.inj hx
    rw [List.drop_eq_nil_of_le (by omega)] at h
    have e2 : a = a' := Sum.inl.inj h
    rw [e1, ← e2]
    exact hG
  | succ m ih =>
    intro d a x hdd hx hG a' h
    obtain ⟨c, hc, hcL, hpar, hfa, hxc, hxL, hq40, hc1, hdr⟩ := dwn_next I (by omega) hx
    rw [hdr] at h
    unfold shs at h
    by_cases hfr : fre (sde S e) (sde S c) (sle S e) a (spo S c) (sle S c) = true
    · rw [if_pos hfr] at h
      exact ih (d + 1) _ c (by omega) hc (shG_1 I hcL hpar hn hG hfr) a' h
    · rw [if_neg hfr] at h
      exact absurd h (by simp)
theorem shf_G (I : Inv n S) {e b a : Nat} (he : e ∈ sL S) (hb : spa S e = some b) (hp : e ∈ path S (scu S)) (h : shf S e = .inl a) : shG S e (scu S) a := by
  have hd1 := dwn_at I.T _ I.cu e hp
  have hdl := (List.getElem?_eq_some_iff.mp hd1).1
  rw [dwn_len] at hdl
  exact shs_G I (I.ed he hb).1 (dep S (scu S) - dep S e) (dep S e) (spo S e) e (by omega) hd1 (shG_0 I he hb) a h
theorem Inv.app (I : Inv n S) (x : Int32) : Inv (n + 1) (oApp S x).2 := by
  have I1 := I.up (Nat.le_succ n)
  have hcl := I.cl
  unfold oApp
  by_cases h : 32 ≤ x ∧ x ≤ 126
  · rw [if_pos h]
    by_cases h2 : scl S = 6
    · rw [if_pos h2]; exact I1
    · rw [if_neg h2]
      refine I1.wCl (by omega) (fun i hi => ?_)
      by_cases q : i = scl S
      · rw [q, pk_us]
        obtain ⟨j, hj, e⟩ := nI_of2 (M := 126) (n := 126) (by decide) (Int32.not_lt.mpr (Int32.le_trans (by decide) h.1)) h.2
        rw [e]
        exact (pk_charN (by omega)).2
      · rw [pk_un q]; exact I.cp (by omega)
  · rw [if_neg h]; exact I1
theorem Inv.clr (I : Inv n S) : Inv (n + 1) (oClr S).2 := (I.up (Nat.le_succ n)).wCl (Nat.zero_le _) (fun i hi => absurd hi (Nat.not_lt_zero i))
theorem Inv.undo (I : Inv n S) : Inv (n + 1) (oUndo S).2 := by
  have I1 := I.up (Nat.le_succ n)
  unfold oUndo
  cases h : spa S (scu S) with
  | none => exact I1
  | some b => exact I1.wBec (I.T.par I.cu h).1
theorem Inv.redo (I : Inv n S) : Inv (n + 1) (oRedo S).2 := by
  have I1 := I.up (Nat.le_succ n)
  unfold oRedo
  cases h : sfa S (scu S) with
  | none => exact I1
  | some b => exact I1.wBec (I.fa I.cu h).1
theorem Inv.jump (I : Inv n S) (x : Int32) : Inv (n + 1) (oJump S x).2 := by
  have I1 := I.up (Nat.le_succ n)
  unfold oJump
  cases h : lk S x with
  | none => exact I1
  | some b => exact I1.wBec (lk_some h).1
theorem Inv.setM (I : Inv n S) (m x : Int32) : Inv (n + 1) (oSetM S m x).2 := by
  have I1 := I.up (Nat.le_succ n)
  unfold oSetM
  by_cases hm : isMk m = true
  · rw [if_pos hm]
    cases h : lk S x with
    | none => exact I1
    | some b =>
      refine I1.wMk (fun i hi a ha => ?_)
      by_cases q : i = m.toNatClampNeg
      · rw [q, va_up_self] at ha
        have e : b = a := Option.some.inj ha
        rw [← e]; exact (lk_some h).1
      · rw [va_up_ne _ _ q] at ha; exact I.mk hi ha
  · rw [if_neg hm]; exact I1
theorem Inv.clrM (I : Inv n S) (m : Int32) : Inv (n + 1) (oClrM S m).2 := by
  have I1 := I.up (Nat.le_succ n)
  unfold oClrM
  by_cases hm : isMk m = true
  · rw [if_pos hm]
    refine I1.wMk (fun i hi a ha => ?_)
    by_cases q : i = m.toNatClampNeg
    · rw [q, va_up_self] at ha; exact absurd ha (by simp)
    · rw [va_up_ne _ _ q] at ha; exact I.mk hi ha
  · rw [if_neg hm]; exact I1
theorem Inv.goM (I : Inv n S) (m : Int32) : Inv (n + 1) (oGoM S m).2 := by
  have I1 := I.up (Nat.le_succ n)
  unfold oGoM
  by_cases hm : isMk m = true
  · rw [if_pos hm]
    obtain ⟨j, hj, e⟩ := isMk_of hm
    have ej : m.toNatClampNeg = j := by rw [e]; exact nI_clamp (by omega)
    cases h : smk S m.toNatClampNeg with
    | none => exact I1
    | some b => exact I1.wBec (I.mk (i := j) hj (by rw [← ej]; exact h))
  · rw [if_neg hm]; exact I1
theorem Inv.ins (I : Inv n S) (hN : n ≤ 512) (x : Int32) : Inv (n + 1) (oIns S x).2 := by
  have I1 := I.up (Nat.le_succ n)
  have hcl := I.cl
  have hlen := I.T.len
  have h40 := I.tl I.cu
  unfold oIns
  by_cases h1 : scl S = 0
  · rw [if_pos h1]; exact I1
  · rw [if_neg h1]
    by_cases h2 : 0 ≤ x ∧ x ≤ nI (stl S (scu S))
    · rw [if_pos h2]
      by_cases h3 : 40 < stl S (scu S) + scl S
      · rw [if_pos h3]; exact I1
      · rw [if_neg h3]
        by_cases h4 : (sL S).length = 24
        · rw [if_pos h4]; exact I1
        · rw [if_neg h4]
          have I2 : Inv n (setCl S 0 (scp S)) := I.wCl (Nat.zero_le _) (fun i hi => absurd hi (Nat.not_lt_zero i))
          obtain ⟨p, hp, e⟩ := nI_of (Int32.not_lt.mpr h2.1)
          have hps : p ≤ stl S (scu S) := by
            have := h2.2
            rw [e] at this
            exact (nI_leI hp (by omega)).mp this
          have ep : x.toNatClampNeg = p := by rw [e]; exact nI_clamp hp
          rw [ep]
          exact I2.wGrw (d := false) hN (show (sL S).length < 24 by omega) (by omega) hcl (fun h => absurd h (by decide)) (fun _ => ⟨hps, show stl S (scu S) + scl S ≤ 40 by omega, fun i hi => I.cp hi⟩)
    · rw [if_neg h2]; exact I1
theorem Inv.del (I : Inv n S) (hN : n ≤ 512) (x y : Int32) : Inv (n + 1) (oDel S x y).2 := by
  have I1 := I.up (Nat.le_succ n)
  have hlen := I.T.len
  have h40 := I.tl I.cu
  unfold oDel
  by_cases h1 : 0 ≤ x ∧ (1 ≤ y ∧ y ≤ 6) ∧ x ≤ nI (stl S (scu S)) - y
  · rw [if_pos h1]
    by_cases h4 : (sL S).length = 24
    · rw [if_pos h4]; exact I1
    · rw [if_neg h4]
      obtain ⟨hx, hy, hxy⟩ := h1
      obtain ⟨k, hk6, ey⟩ := nI_of2 (M := 6) (n := 6) (by decide) (Int32.not_lt.mpr (Int32.le_trans (by decide) hy.1)) hy.2
      have hk1 : 1 ≤ k := by
        have := hy.1
        rw [ey, show (1 : Int32) = nI 1 from rfl, nI_leI (by omega) (by omega)] at this
        exact this
      obtain ⟨p, hp, ex⟩ := nI_of (Int32.not_lt.mpr hx)
      have hpn : p + k ≤ stl S (scu S) := by
        have e2 : (nI (stl S (scu S)) - nI k).toInt = (stl S (scu S) : Int) - k := pk_sub_toInt (by omega) (by omega)
        rw [ex, ey, Int32.le_iff_toInt_le, e2, nI_toInt hp] at hxy
        omega
      have ep : x.toNatClampNeg = p := by rw [ex]; exact nI_clamp hp
      have ek : y.toNatClampNeg = k := by rw [ey]; exact nI_clamp (by omega)
      rw [ep, ek]
      exact I.wGrw hN (by omega) hk1 hk6 (fun _ => ⟨hpn, fun i _ => rfl⟩) (fun h => absurd h (by decide))
  · rw [if_neg h1]; exact I1
theorem Inv.ue (I : Inv n S) (hN : n ≤ 512) (x : Int32) : Inv (n + 1) (oUE S x).2 := by
  have I1 := I.up (Nat.le_succ n)
  have hlen := I.T.len
  have h40 := I.tl I.cu
  cases hl : lk S x with
  | none =>
    have e0 : oUE S x = ((-2), S) := by unfold oUE; rw [hl]
    rw [e0]; exact I1
  | some e =>
    have he := (lk_some hl).1
    by_cases hq : e = 0 ∨ e ∉ path S (scu S)
    · rw [oUE_w hl hq]; exact I1
    · rw [oUE_at hl hq]
      have hz : e ≠ 0 := fun q => hq (Or.inl q)
      have hp : e ∈ path S (scu S) := Decidable.byContradiction fun q => hq (Or.inr q)
      obtain ⟨b, hb, hbL, -⟩ := I.T.2.2.2.2.2.2 e he hz
      cases hs : shf S e with
      | inr c => exact I1
      | inl a =>
        have hG := shf_G I he hb hp hs
        have ed := I.ed he hb
        have h40b := I.tl hbL
        rw [show ueR S e (.inl a) = if sde S e = true ∧ 40 < stl S (scu S) + sle S e then ((-4), S) else if (sL S).length = 24 then ((-3), S) else (nI (sgv S), grw S a (sle S e) (!sde S e) (ssr S e)) from rfl]
        by_cases h3 : sde S e = true ∧ 40 < stl S (scu S) + sle S e
        · rw [if_pos h3]; exact I1
        · rw [if_neg h3]
          by_cases h4 : (sL S).length = 24
          · rw [if_pos h4]; exact I1
          · rw [if_neg h4]
            refine I.wGrw hN (by omega) ed.1 ed.2.1 (fun h => ?_) (fun h => ?_)
            · have hE : sde S e = false := by simpa using h
              obtain ⟨g1, g2⟩ := hG.1 hE
              exact ⟨g1, fun i hi => (g2 i hi).symm⟩
            · have hE : sde S e = true := by simpa using h
              have h41 : ¬ 40 < stl S (scu S) + sle S e := fun q => h3 ⟨hE, q⟩
              obtain ⟨p1, p2, p3, -⟩ := ed.2.2.1 hE
              refine ⟨hG.2 hE, by omega, fun i hi => ?_⟩
              rw [p3 i hi]
              exact I.tx hbL (by omega)
theorem pth_same {S' : SS} (h : spa S' = spa S) (a : Nat) : path S' a = path S a := by unfold path; rw [h]
theorem Inv.wRmv (I : Inv n S) {e p : Nat} (he : e ∈ sL S) (hl : loose S e = true) (hp : spa S e = some p) {f : Nat → Option Nat} (hf1 : ∀ a ∈ sL S, a ≠ e → ∀ c, f a = some c → c ∈ sL S ∧ c ≠ e ∧ spa S c = some a) (hf2 : ∀ a ∈ sL S, a ≠ e → f a = none → ∀ c ∈ sL S, c ≠ e → ¬ spa S c = some a) (hf3 : ∀ a ∈ path S (scu S), ∀ b, spa S a = some b → f b = some a) : Inv n (setFa (rmv S e) f) := by
  have T := I.T
  obtain ⟨hz, hce, -, hmk⟩ := loose_of hl
  have hT := rmv_T T he hz (loose_ch hl)
  have hm : ∀ {a : Nat}, a ∈ sL (setFa (rmv S e) f) → a ∈ sL S ∧ a ≠ e := fun {a} ha => (rmv_mem T he).mp ha
  have hi : ∀ {a : Nat}, a ∈ sL S → a ≠ e → a ∈ sL (setFa (rmv S e) f) := fun {a} h1 h2 => (rmv_mem T he).mpr ⟨h1, h2⟩
  refine ⟨hT, hi I.cu (fun q => hce q.symm), fun a ha c hc => ?_, fun a ha h c hc => ?_, hf3, fun i hi5 a ha => ?_, fun a ha => ?_, fun a ha b hb => ?_, I.cl, I.2.2.2.2.2.2.2.2.2.1, fun a ha i hi => ?_, I.gv⟩
  · obtain ⟨h1, h2, h3⟩ := hf1 a (hm ha).1 (hm ha).2 c hc
    exact ⟨hi h1 h2, h3⟩
  · exact hf2 a (hm ha).1 (hm ha).2 h c (hm hc).1 (hm hc).2
  · refine hi (I.mk hi5 ha) (fun q => ?_)
    have := cnt_0.mp hmk i (List.mem_range.mpr hi5)
    have ha' : smk S i = some a := ha
    rw [ha', q] at this
    simp at this
  · exact ⟨I.tl (hm ha).1, I.le (hm ha).1⟩
  · exact I.ed (hm ha).1 hb
  · exact I.tx (hm ha).1 hi
theorem off_path (I : Inv n S) {e : Nat} (hl : loose S e = true) : ∀ (c : Nat), c ∈ sL S → c ≠ e → e ∉ path S c := by
  have T := I.T
  intro c
  induction c using Nat.strongRecOn with
  | ind c ih =>
    intro hc hne h
    cases hb : spa S c with
    | none => rw [path_none hb] at h; exact hne (List.mem_singleton.mp h).symm
    | some b =>
      obtain ⟨h1, h2⟩ := T.par hc hb
      rw [path_some T hc hb] at h
      rcases List.mem_cons.mp h with h | h
      · exact hne h.symm
      · exact ih b h2 h1 (fun q => loose_ch hl c hc (by rw [hb, q])) h
theorem Inv.fgt (I : Inv n S) (x : Int32) : Inv (n + 1) (oFgt S x).2 := by
  have I1 := I.up (Nat.le_succ n)
  have T := I.T
  cases hl : lk S x with
  | none => rw [oFgt_0 hl]; exact I1
  | some e =>
    have he := (lk_some hl).1
    cases ho : loose S e with
    | false => rw [oFgt_n hl ho]; exact I1
    | true =>
      obtain ⟨hz, hce, -, -⟩ := loose_of ho
      obtain ⟨p, hp, hpL, hpe⟩ := T.2.2.2.2.2.2 e he hz
      rw [oFgt_y hl ho hp]
      have hoff := off_path I ho _ I.cu (fun q => hce q.symm)
      show Inv (n + 1) (fgS S e p)
      unfold fgS
      by_cases hf : sfa S p = some e
      · rw [if_pos hf]
        refine I1.wRmv he ho hp (fun a ha hae c hc => ?_) (fun a ha hae h c hc hce' => ?_) (fun a ha b hb => ?_)
        · by_cases q : a = p
          · rw [q, va_up_self] at hc
            have h1 := List.mem_of_getLast? hc
            obtain ⟨h2, h3⟩ := List.mem_filter.mp h1
            obtain ⟨h4, h5⟩ := (rmv_mem T he).mp h2
            exact ⟨h4, h5, by rw [q]; simpa using h3⟩
          · rw [va_up_ne _ _ q] at hc
            obtain ⟨h1, h2⟩ := I.fa ha hc
            refine ⟨h1, fun z => q ?_, h2⟩
            rw [z, hp] at h2
            exact (Option.some.inj h2).symm
        · by_cases q : a = p
          · rw [q, va_up_self] at h
            intro hsp
            have h1 := List.getLast?_eq_none_iff.mp h
            have h2 : c ∈ (sL (rmv S e)).filter (fun c => decide (spa S c = some p)) := List.mem_filter.mpr ⟨(rmv_mem T he).mpr ⟨hc, hce'⟩, by rw [q] at hsp; simpa using hsp⟩
            rw [h1] at h2
            exact absurd h2 List.not_mem_nil
          · rw [va_up_ne _ _ q] at h
            exact I.fn ha h hc
        · have h1 := I.fp ha hb
          by_cases q : b = p
          · rw [q, hf] at h1
            have e1 : e = a := Option.some.inj h1
            rw [← e1] at ha
            exact absurd ha hoff
          · rw [va_up_ne _ _ q]; exact h1
      · rw [if_neg hf]
        refine I1.wRmv (f := sfa S) he ho hp (fun a ha hae c hc => ?_) (fun a ha hae h c hc hce' => I.fn ha h hc) (fun a ha b hb => I.fp ha hb)
        obtain ⟨h1, h2⟩ := I.fa ha hc
        refine ⟨h1, fun z => hf ?_, h2⟩
        rw [z, hp] at h2
        have e1 : p = a := Option.some.inj h2
        rw [e1, hc, z]
/-- the start -/
def S00 : SS := ([0], 1, 0, 0, fun _ => none, fun _ => none, fun _ => 0, fun _ => 0, fun _ => 0, fun _ => false, fun _ => 0, fun _ _ => 0, fun _ _ => 0, 0, fun _ => 0, fun _ => none)
theorem Inv_00 : Inv 0 S00 := by
  refine ⟨⟨rfl, List.pairwise_singleton _ _, by decide, fun a ha => ?_, by decide, rfl, fun a ha hz => ?_⟩, List.mem_singleton.mpr rfl, fun a ha c hc => ?_, fun a ha h c hc => ?_, fun a ha b hb => ?_, fun i hi a ha => ?_, fun a ha => ⟨Nat.zero_le _, Nat.zero_le _⟩, fun a ha b hb => ?_, Nat.zero_le _, fun i hi => absurd hi (Nat.not_lt_zero i), fun a ha i hi => absurd hi (Nat.not_lt_zero i), Nat.le_refl _⟩
  · rw [List.mem_singleton.mp ha]; decide
  · exact absurd (List.mem_singleton.mp ha) hz
  · exact absurd hc (by simp [S00, sfa])
  · simp [S00, spa]
  · exact absurd hb (by simp [S00, spa])
  · exact absurd ha (by simp [S00, smk])
  · exact absurd hb (by simp [S00, spa])
end IV
