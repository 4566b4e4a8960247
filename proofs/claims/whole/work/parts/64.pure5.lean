/-! a restore gives the values at its position -/
abbrev kt (k : Nat → Nat) (o : Nat → Int32) (ke : Nat → Nat) (ky c : Nat) : Prop := k c = 1 ∧ (sfO k o ke (o c) ky c).isSome = true
theorem va_nk {k : Nat → Nat} {o : Nat → Int32} {ke : Nat → Nat} {va : Nat → Int32} {ky c : Nat} (h : ¬ kt k o ke ky c) : vaO k o ke va ky (c + 1) = vaO k o ke va ky c := by
  rw [vaO_s]
  by_cases hk : k c = 1
  · rw [if_pos hk]
    cases hs : sfO k o ke (o c) ky c with
    | none => rfl
    | some j => exact absurd ⟨hk, by rw [hs]; rfl⟩ h
  · rw [if_neg hk]
theorem va_key {k : Nat → Nat} {o : Nat → Int32} {ke : Nat → Nat} {va : Nat → Int32} {ky a : Nat} : ∀ {b : Nat}, a ≤ b → (∀ c, a ≤ c → c < b → ¬ kt k o ke ky c) → vaO k o ke va ky b = vaO k o ke va ky a
  | 0, h, _ => by rw [show a = 0 by omega]
  | b + 1, h, hn => by
    by_cases hab : a = b + 1
    · rw [hab]
    · rw [va_nk (hn b (by omega) (by omega))]
      exact va_key (by omega) (fun c h1 h2 => hn c h1 (by omega))
/-- the value of a key when the commits from cx on are done again, over base -/
def vf (k : Nat → Nat) (o : Nat → Int32) (ke : Nat → Nat) (va : Nat → Int32) (cx : Nat) (base : Int32) (ky : Nat) : Nat → Int32
  | 0 => base
  | c + 1 => if cx ≤ c ∧ kt k o ke ky c then vaO k o ke va ky (c + 1) else vf k o ke va cx base ky c
theorem vf_s (k : Nat → Nat) (o : Nat → Int32) (ke : Nat → Nat) (va : Nat → Int32) (cx : Nat) (base : Int32) (ky c : Nat) : vf k o ke va cx base ky (c + 1) = if cx ≤ c ∧ kt k o ke ky c then vaO k o ke va ky (c + 1) else vf k o ke va cx base ky c := rfl
theorem vf_spec {k : Nat → Nat} {o : Nat → Int32} {ke : Nat → Nat} {va : Nat → Int32} {cx : Nat} {base : Int32} {ky : Nat} : ∀ r, ((∃ c, cx ≤ c ∧ c < r ∧ kt k o ke ky c) → vf k o ke va cx base ky r = vaO k o ke va ky r) ∧ ((¬ ∃ c, cx ≤ c ∧ c < r ∧ kt k o ke ky c) → vf k o ke va cx base ky r = base)
  | 0 => ⟨fun ⟨c, _, h, _⟩ => by omega, fun _ => rfl⟩
  | r + 1 => by
    obtain ⟨h1, h2⟩ := vf_spec (k := k) (o := o) (ke := ke) (va := va) (cx := cx) (base := base) (ky := ky) r
    rw [vf_s]
    by_cases hc : cx ≤ r ∧ kt k o ke ky r
    · rw [if_pos hc]
      exact ⟨fun _ => rfl, fun h => absurd ⟨r, hc.1, by omega, hc.2⟩ h⟩
    · rw [if_neg hc]
      refine ⟨fun ⟨c, c1, c2, c3⟩ => ?_, fun h => h2 (fun ⟨c, c1, c2, c3⟩ => h ⟨c, c1, by omega, c3⟩)⟩
      by_cases hcr : c = r
      · rw [hcr] at c1 c3; exact absurd ⟨c1, c3⟩ hc
      · rw [h1 ⟨c, c1, by omega, c3⟩, va_nk (fun z => hc ⟨by omega, z⟩)]
theorem vf_end {k : Nat → Nat} {o : Nat → Int32} {ke : Nat → Nat} {va : Nat → Int32} {cx G r ky : Nat} (h1 : cx ≤ G) (h2 : G ≤ r) : vf k o ke va cx (vaO k o ke va ky G) ky r = vaO k o ke va ky r := by
  obtain ⟨a, b⟩ := vf_spec (k := k) (o := o) (ke := ke) (va := va) (cx := cx) (base := vaO k o ke va ky G) (ky := ky) r
  by_cases h : ∃ c, cx ≤ c ∧ c < r ∧ kt k o ke ky c
  · exact a h
  · rw [b h]
    exact (va_key h2 (fun c c1 c2 c3 => h ⟨c, by omega, c2, c3⟩)).symm
section BA
variable {k : Nat → Nat} {o : Nat → Int32} {r u t : Nat}
theorem buf_at0 (hk : k r = 0) (ho : o r = nI u) (hu : u < 3) (ht : t < 3) : buf k o (nI t) (r + 1) = if t = u then buf k o (nI t) r ++ [r] else buf k o (nI t) r := by
  rw [buf_s, if_neg (by rintro (h | h) <;> omega)]
  by_cases h : t = u
  · rw [if_pos h, if_pos ⟨hk, by rw [ho, h]⟩]
  · rw [if_neg h, if_neg (fun z => h (ni_inj (by omega) (by omega) (by rw [← z.2, ho])))]
theorem buf_at12 (h0 : k r ≠ 0) (h3 : k r ≠ 3) (ho : o r = nI u) (hu : u < 3) (ht : t < 3) : buf k o (nI t) (r + 1) = if t = u then [] else buf k o (nI t) r := by
  rw [buf_s]
  by_cases h : t = u
  · rw [if_pos h, if_pos (Or.inr ⟨h0, by rw [ho, h]⟩)]
  · rw [if_neg h, if_neg, if_neg (fun z => h0 z.1)]
    rintro (z | z)
    · exact h3 z
    · exact h (ni_inj (by omega) (by omega) (by rw [← z.2, ho]))
theorem buf_at3 (h3 : k r = 3) (t : Int32) : buf k o t (r + 1) = [] := by
  rw [buf_s, if_pos (Or.inl h3)]
end BA
/-- the restoration's rows at record r -/
def rbI (k : Nat → Nat) (o : Nat → Int32) (ke : Nat → Nat) (va : Nat → Int32) (st cx r : Nat) (bv : Nat → Int32) (y : RSt) : Prop :=
  (∀ t, t < 3 → y.2.1 t = ((buf k o (nI t) r).filter (fun j => decide (st ≤ j))).length ∧ ∀ i j, ((buf k o (nI t) r).filter (fun j => decide (st ≤ j)))[i]? = some j → y.2.2.2.1 (t * 4 + i) = ke j ∧ y.2.2.2.2 (t * 4 + i) = va j) ∧
  (∀ j, j < 12 → y.2.2.2.1 j < 32) ∧ ∀ ky, ky < 32 → y.1 ky = vf k o ke va cx (bv ky) ky r
section RB
variable {k : Nat → Nat} {o : Nat → Int32} {ke : Nat → Nat} {va : Nat → Int32} {n sy : Nat} {kX oX keX : Nat → Nat} {vaX : Nat → Int32} {st cx : Nat} {bv : Nat → Int32}
theorem rbI_0 {rv : Nat → Int32} {cR fR tkR : Nat → Nat} {tvR : Nat → Int32} (htk : ∀ j, j < 12 → tkR j < 32) (hsc : st ≤ cx) : rbI k o ke va st cx st bv (va_cpy bv rv 0 0 32, va_up (va_up (va_up cR 0 0) 1 0) 2 0, fR, tkR, tvR) := by
  refine ⟨fun t ht => ?_, htk, fun ky hk => ?_⟩
  · have e : (buf k o (nI t) st).filter (fun j => decide (st ≤ j)) = [] := by
      rw [List.filter_eq_nil_iff]
      intro j hj
      have := (buf_mem hj).1
      simp; omega
    rw [e]
    exact ⟨z3 cR ht, fun i j h => by simp at h⟩
  · obtain ⟨-, h2⟩ := vf_spec (k := k) (o := o) (ke := ke) (va := va) (cx := cx) (base := bv ky) (ky := ky) st
    rw [h2 (fun ⟨c, c1, c2, _⟩ => by omega)]
    show va_cpy bv rv 0 0 32 ky = bv ky
    rw [pk_cpy_in (by omega) (by omega)]
    simp
theorem rbI_V (hL : rLog k o ke va n sy kX oX keX vaX) {r : Nat} (hr : r < n) {y : RSt} (h : rbI k o ke va st cx r bv y) : rpV kX oX r y := by
  obtain ⟨-, l2, l3⟩ := hL
  obtain ⟨a1, a2, a3, a4⟩ := l3 r hr
  obtain ⟨h1, h2, -⟩ := h
  have hle : ∀ t, ((buf k o (nI t) r).filter (fun j => decide (st ≤ j))).length ≤ (buf k o (nI t) r).length := fun t => List.length_filter_le _ _
  refine ⟨by rw [a2]; exact a1, fun z => (a3 (by rw [← a2]; exact z)).1, fun z => ?_, fun z => ?_, h2⟩
  · rw [a2] at z
    obtain ⟨o1, o2⟩ := a3 (by omega)
    have := l2 (r + 1) (by omega) (oX r) o1
    rw [buf_at0 z o2 o1 o1, if_pos rfl, List.length_append, List.length_singleton] at this
    have := hle (oX r)
    rw [(h1 (oX r) o1).1]; omega
  · rw [a2] at z
    obtain ⟨o1, o2⟩ := a3 (by omega)
    have := l2 r (by omega) (oX r) o1
    have := hle (oX r)
    rw [(h1 (oX r) o1).1]; omega
theorem rbI_s (hL : rLog k o ke va n sy kX oX keX vaX) (hsc : st ≤ cx) (hb : ∀ t, t < 3 → ∀ j ∈ buf k o (nI t) cx, st ≤ j) {r : Nat} (hr : r < n) (hst : st ≤ r) {y : RSt} (h : rbI k o ke va st cx r bv y) : rbI k o ke va st cx (r + 1) bv (rsp1 kX oX keX vaX cx r y) := by
  have hV := rbI_V hL hr h
  obtain ⟨-, l2, l3⟩ := hL
  obtain ⟨a1, a2, a3, a4⟩ := l3 r hr
  obtain ⟨h1, h2, h3⟩ := h
  obtain ⟨-, -, v3, v4, -⟩ := hV
  rw [a2] at v3 v4
  unfold rsp1
  rw [a2]
  by_cases k0 : k r = 0
  · rw [if_pos k0]
    obtain ⟨o1, o2⟩ := a3 (by omega)
    obtain ⟨e1, e2, e3⟩ := a4 k0
    refine ⟨fun t ht => ?_, fun j hj => ?_, fun ky hk => ?_⟩
    · obtain ⟨b1, b2⟩ := h1 t ht
      rw [buf_at0 k0 o2 o1 ht]
      by_cases htu : t = oX r
      · subst htu
        have e : (buf k o (nI (oX r)) r ++ [r]).filter (fun j => decide (st ≤ j)) = (buf k o (nI (oX r)) r).filter (fun j => decide (st ≤ j)) ++ [r] := by
          rw [List.filter_append, List.filter_cons_of_pos (by simpa using hst), List.filter_nil]
        rw [if_pos rfl, e]
        refine ⟨?_, fun i j hj => ?_⟩
        · show va_up y.2.1 (oX r) (y.2.1 (oX r) + 1) (oX r) = _
          rw [va_up_self, List.length_append, List.length_singleton, b1]
        · show va_up y.2.2.2.1 (oX r * 4 + y.2.1 (oX r)) (keX r) (oX r * 4 + i) = ke j ∧ upd y.2.2.2.2 (oX r * 4 + y.2.1 (oX r)) (vaX r) (oX r * 4 + i) = va j
          by_cases hi : i < ((buf k o (nI (oX r)) r).filter (fun j => decide (st ≤ j))).length
          · rw [List.getElem?_append_left hi] at hj
            rw [va_up_ne _ _ (show oX r * 4 + i ≠ oX r * 4 + y.2.1 (oX r) by omega), pk_un (show oX r * 4 + i ≠ oX r * 4 + y.2.1 (oX r) by omega)]
            exact b2 i j hj
          · rw [List.getElem?_append_right (by omega)] at hj
            have hl := (List.getElem?_eq_some_iff.mp hj).1
            rw [List.length_singleton] at hl
            have hi2 : i = y.2.1 (oX r) := by omega
            rw [show i - ((buf k o (nI (oX r)) r).filter (fun j => decide (st ≤ j))).length = 0 by omega] at hj
            have hj2 : r = j := Option.some.inj hj
            rw [hi2, va_up_self, pk_us, ← hj2]
            exact ⟨e2, e3⟩
      · rw [if_neg htu]
        refine ⟨?_, fun i j hj => ?_⟩
        · show va_up y.2.1 (oX r) (y.2.1 (oX r) + 1) t = _
          rw [va_up_ne _ _ htu]; exact b1
        · show va_up y.2.2.2.1 (oX r * 4 + y.2.1 (oX r)) (keX r) (t * 4 + i) = ke j ∧ upd y.2.2.2.2 (oX r * 4 + y.2.1 (oX r)) (vaX r) (t * 4 + i) = va j
          have hi := (List.getElem?_eq_some_iff.mp hj).1
          have hle : ((buf k o (nI t) r).filter (fun j => decide (st ≤ j))).length ≤ (buf k o (nI t) r).length := List.length_filter_le _ _
          have hle2 := l2 r (by omega) t ht
          have hv3 := v3 k0
          rw [va_up_ne _ _ (show t * 4 + i ≠ oX r * 4 + y.2.1 (oX r) by omega), pk_un (show t * 4 + i ≠ oX r * 4 + y.2.1 (oX r) by omega)]
          exact b2 i j hj
    · show va_up y.2.2.2.1 (oX r * 4 + y.2.1 (oX r)) (keX r) j < 32
      unfold va_up
      split
      · rw [e2]; exact e1
      · exact h2 j hj
    · show y.1 ky = _
      rw [vf_s, if_neg (fun z => by have := z.2.1; omega)]
      exact h3 ky hk
  · rw [if_neg k0]
    by_cases k1 : k r = 1
    · rw [if_pos k1]
      obtain ⟨o1, o2⟩ := a3 (by omega)
      refine ⟨fun t ht => ?_, h2, fun ky hk => ?_⟩
      · obtain ⟨b1, b2⟩ := h1 t ht
        rw [buf_at12 k0 (by omega) o2 o1 ht]
        show va_up y.2.1 (oX r) 0 t = _ ∧ _
        by_cases htu : t = oX r
        · rw [if_pos htu, htu, va_up_self]
          exact ⟨rfl, fun i j hj => by simp at hj⟩
        · rw [if_neg htu, va_up_ne _ _ htu]
          exact ⟨b1, b2⟩
      · show (if cx ≤ r then wrS y.2.2.2.1 y.2.2.2.2 y.1 (oX r * 4) (y.2.1 (oX r)) else y.1) ky = _
        by_cases hc : cx ≤ r
        · rw [if_pos hc]
          obtain ⟨b1, b2⟩ := h1 (oX r) o1
          have e : (buf k o (nI (oX r)) r).filter (fun j => decide (st ≤ j)) = buf k o (nI (oX r)) r := by
            rw [List.filter_eq_self]
            intro j hj
            rcases buf_later hc hj with z | z
            · exact decide_eq_true (hb (oX r) o1 j z)
            · exact decide_eq_true (by omega)
          rw [e] at b1 b2
          rw [b1, wrS_spec ky (buf k o (nI (oX r)) r) (oX r * 4) y.1 b2, ← sfO_buf, vf_s]
          cases hs : sfO k o ke (nI (oX r)) ky r with
          | none =>
            have hs2 : sfO k o ke (o r) ky r = none := by rw [o2]; exact hs
            rw [if_neg (fun z => by have := z.2.2; rw [hs2] at this; cases this)]
            exact h3 ky hk
          | some j =>
            have hs2 : sfO k o ke (o r) ky r = some j := by rw [o2]; exact hs
            rw [if_pos ⟨hc, k1, by rw [hs2]; rfl⟩, vaO_s, if_pos k1, hs2]
        · rw [if_neg hc, vf_s, if_neg (fun z => hc z.1)]
          exact h3 ky hk
    · rw [if_neg k1]
      have hvf : ∀ ky, ky < 32 → y.1 ky = vf k o ke va cx (bv ky) ky (r + 1) := by
        intro ky hk
        rw [vf_s, if_neg (fun z => k1 z.2.1)]
        exact h3 ky hk
      by_cases k2 : k r = 2
      · rw [if_pos k2]
        obtain ⟨o1, o2⟩ := a3 (by omega)
        refine ⟨fun t ht => ?_, h2, hvf⟩
        obtain ⟨b1, b2⟩ := h1 t ht
        rw [buf_at12 k0 (by omega) o2 o1 ht]
        show va_up y.2.1 (oX r) 0 t = _ ∧ _
        by_cases htu : t = oX r
        · rw [if_pos htu, htu, va_up_self]
          exact ⟨rfl, fun i j hj => by simp at hj⟩
        · rw [if_neg htu, va_up_ne _ _ htu]
          exact ⟨b1, b2⟩
      · rw [if_neg k2]
        refine ⟨fun t ht => ?_, h2, hvf⟩
        rw [buf_at3 (by omega)]
        exact ⟨z3 _ ht, fun i j hj => by simp at hj⟩
theorem rbI_all (hL : rLog k o ke va n sy kX oX keX vaX) (hsc : st ≤ cx) (hb : ∀ t, t < 3 → ∀ j ∈ buf k o (nI t) cx, st ≤ j) {y : RSt} (h : rbI k o ke va st cx st bv y) : ∀ i, st + i ≤ n → rbI k o ke va st cx (st + i) bv (rpF kX oX keX vaX cx st y i)
  | 0, _ => h
  | i + 1, hi => rbI_s (r := st + i) hL hsc hb (by omega) (by omega) (rbI_all hL hsc hb h i (by omega))
end RB
