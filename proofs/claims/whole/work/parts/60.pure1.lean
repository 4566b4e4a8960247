/-! the log as values: buffers of the open transactions, what commits set, values at a position -/
/-- the sets of transaction t that are open at n, oldest first -/
def buf (k : Nat → Nat) (o : Nat → Int32) (t : Int32) : Nat → List Nat
  | 0 => []
  | n + 1 => if mEnd k o t n then [] else if mSet k o t n then buf k o t n ++ [n] else buf k o t n
theorem buf_s (k : Nat → Nat) (o : Nat → Int32) (t : Int32) (n : Nat) : buf k o t (n + 1) = if mEnd k o t n then [] else if mSet k o t n then buf k o t n ++ [n] else buf k o t n := rfl
theorem seL_s (k : Nat → Nat) (o : Nat → Int32) (t : Int32) (c f : Nat) : seL k o t (c + 1) f = if mEnd k o t c then f else seL k o t c (f + (if mSet k o t c then 1 else 0)) := rfl
theorem opO_s (k : Nat → Nat) (o : Nat → Int32) (t : Int32) (c : Nat) (f : Option Nat) : opO k o t (c + 1) f = if mEnd k o t c then f else opO k o t c (if mSet k o t c then some c else f) := rfl
theorem sfO_s (k : Nat → Nat) (o : Nat → Int32) (ke : Nat → Nat) (t : Int32) (ky c : Nat) : sfO k o ke t ky (c + 1) = if mEnd k o t c then none else if mSet k o t c ∧ ke c = ky then some c else sfO k o ke t ky c := rfl
theorem vaO_s (k : Nat → Nat) (o : Nat → Int32) (ke : Nat → Nat) (va : Nat → Int32) (ky c : Nat) : vaO k o ke va ky (c + 1) = if k c = 1 then (match sfO k o ke (o c) ky c with | some j => va j | none => vaO k o ke va ky c) else vaO k o ke va ky c := rfl
theorem seL_buf (k : Nat → Nat) (o : Nat → Int32) (t : Int32) : ∀ n f, seL k o t n f = f + (buf k o t n).length
  | 0, f => rfl
  | n + 1, f => by
    rw [seL_s, buf_s]
    split
    · rfl
    · rw [seL_buf k o t n]
      split
      · simp only [List.length_append, List.length_singleton]; omega
      · omega
theorem opO_buf (k : Nat → Nat) (o : Nat → Int32) (t : Int32) : ∀ n f, opO k o t n f = (buf k o t n).head?.or f
  | 0, f => rfl
  | n + 1, f => by
    rw [opO_s, buf_s]
    split
    · rfl
    · rw [opO_buf k o t n]
      split
      · cases h : buf k o t n with
        | nil => rfl
        | cons a l => rfl
      · rfl
theorem sfO_buf (k : Nat → Nat) (o : Nat → Int32) (ke : Nat → Nat) (t : Int32) (ky : Nat) : ∀ n, sfO k o ke t ky n = (buf k o t n).reverse.find? (fun j => decide (ke j = ky))
  | 0 => rfl
  | n + 1 => by
    rw [sfO_s, buf_s]
    by_cases he : mEnd k o t n
    · rw [if_pos he, if_pos he]; rfl
    · rw [if_neg he, if_neg he]
      by_cases hs : mSet k o t n
      · rw [if_pos hs, List.reverse_append, List.reverse_singleton, List.singleton_append, List.find?_cons]
        by_cases hk : ke n = ky
        · rw [if_pos ⟨hs, hk⟩, decide_eq_true hk]
        · rw [if_neg (fun h => hk h.2), decide_eq_false hk, sfO_buf k o ke t ky n]
      · rw [if_neg (fun h => hs h.1), if_neg hs, sfO_buf k o ke t ky n]
theorem buf_mem {k : Nat → Nat} {o : Nat → Int32} {t : Int32} : ∀ {n j : Nat}, j ∈ buf k o t n → j < n ∧ k j = 0 ∧ o j = t
  | 0, j, h => by cases h
  | n + 1, j, h => by
    rw [buf_s] at h
    split at h
    · cases h
    · split at h
      · rename_i hs
        rcases List.mem_append.mp h with h | h
        · obtain ⟨h1, h2⟩ := buf_mem h
          exact ⟨by omega, h2⟩
        · rw [List.mem_singleton.mp h]
          exact ⟨by omega, hs⟩
      · obtain ⟨h1, h2⟩ := buf_mem h
        exact ⟨by omega, h2⟩
/-- two logs agree below n -/
def agr (k : Nat → Nat) (o : Nat → Int32) (ke : Nat → Nat) (va : Nat → Int32) (k' : Nat → Nat) (o' : Nat → Int32) (ke' : Nat → Nat) (va' : Nat → Int32) (n : Nat) : Prop := ∀ i, i < n → k' i = k i ∧ o' i = o i ∧ ke' i = ke i ∧ va' i = va i
section AG
variable {k k' : Nat → Nat} {o o' : Nat → Int32} {ke ke' : Nat → Nat} {va va' : Nat → Int32}
theorem agr.le {n m : Nat} (h : agr k o ke va k' o' ke' va' n) (hm : m ≤ n) : agr k o ke va k' o' ke' va' m := fun i hi => h i (by omega)
theorem agr.buf (t : Int32) : ∀ {n : Nat}, agr k o ke va k' o' ke' va' n → buf k' o' t n = buf k o t n
  | 0, _ => rfl
  | n + 1, h => by
    obtain ⟨h1, h2, -, -⟩ := h n (by omega)
    rw [buf_s, buf_s, agr.buf t (h.le (Nat.le_succ n))]
    simp only [mEnd, mSet, h1, h2]
theorem agr.sf (t : Int32) (ky : Nat) : ∀ {n : Nat}, agr k o ke va k' o' ke' va' n → sfO k' o' ke' t ky n = sfO k o ke t ky n
  | 0, _ => rfl
  | n + 1, h => by
    obtain ⟨h1, h2, h3, -⟩ := h n (by omega)
    rw [sfO_s, sfO_s, agr.sf t ky (h.le (Nat.le_succ n))]
    simp only [mEnd, mSet, h1, h2, h3]
theorem agr.vv (ky : Nat) : ∀ {n : Nat}, agr k o ke va k' o' ke' va' n → vaO k' o' ke' va' ky n = vaO k o ke va ky n
  | 0, _ => rfl
  | n + 1, h => by
    obtain ⟨h1, h2, h3, -⟩ := h n (by omega)
    have hl := h.le (Nat.le_succ n)
    rw [vaO_s, vaO_s, agr.vv ky hl, h1, h2, hl.sf (o n) ky]
    cases hs : sfO k o ke (o n) ky n with
    | none => rfl
    | some j =>
      have hj := sfO_lt hs
      show (if k n = 1 then va' j else _) = if k n = 1 then va j else _
      rw [(h j (by omega)).2.2.2]
end AG
/-- commit c sets a key of page p -/
def tch (k : Nat → Nat) (o : Nat → Int32) (ke : Nat → Nat) (p c : Nat) : Prop := k c = 1 ∧ ∃ j ∈ buf k o (o c) c, ke j / 4 = p
theorem agr.tq {k k' : Nat → Nat} {o o' : Nat → Int32} {ke ke' : Nat → Nat} {va va' : Nat → Int32} {n : Nat} (h : agr k o ke va k' o' ke' va' n) {p c : Nat} (hc : c < n) : tch k' o' ke' p c ↔ tch k o ke p c := by
  obtain ⟨h1, h2, -, -⟩ := h c hc
  unfold tch
  rw [h1, h2, (h.le (Nat.le_of_lt hc)).buf (o c)]
  constructor
  · rintro ⟨a, j, hj, e⟩
    have hl := (buf_mem hj).1
    exact ⟨a, j, hj, by rw [← (h j (by omega)).2.2.1]; exact e⟩
  · rintro ⟨a, j, hj, e⟩
    have hl := (buf_mem hj).1
    exact ⟨a, j, hj, by rw [(h j (by omega)).2.2.1]; exact e⟩
theorem sf_some {k : Nat → Nat} {o : Nat → Int32} {ke : Nat → Nat} {t : Int32} {ky n : Nat} : (sfO k o ke t ky n).isSome = true ↔ ∃ j ∈ buf k o t n, ke j = ky := by
  rw [sfO_buf, List.find?_isSome]
  constructor
  · rintro ⟨j, h1, h2⟩
    exact ⟨j, List.mem_reverse.mp h1, of_decide_eq_true h2⟩
  · rintro ⟨j, h1, h2⟩
    exact ⟨j, List.mem_reverse.mpr h1, decide_eq_true h2⟩
theorem va_same {k : Nat → Nat} {o : Nat → Int32} {ke : Nat → Nat} {va : Nat → Int32} {ky a : Nat} : ∀ {b : Nat}, a ≤ b → (∀ c, a ≤ c → c < b → ¬ tch k o ke (ky / 4) c) → vaO k o ke va ky b = vaO k o ke va ky a
  | 0, h, _ => by rw [show a = 0 by omega]
  | b + 1, h, hn => by
    by_cases hab : a = b + 1
    · rw [hab]
    · rw [← va_same (b := b) (by omega) (fun c h1 h2 => hn c h1 (by omega)), vaO_s]
      by_cases hk : k b = 1
      · rw [if_pos hk]
        cases hs : sfO k o ke (o b) ky b with
        | none => rfl
        | some j =>
          exfalso
          obtain ⟨j2, h1, h2⟩ := sf_some.mp (show (sfO k o ke (o b) ky b).isSome = true by rw [hs]; rfl)
          exact hn b (by omega) (by omega) ⟨hk, j2, h1, by rw [h2]⟩
      · rw [if_neg hk]
theorem tiL_spec (k : Nat → Nat) (o : Nat → Int32) (ke : Nat → Nat) (c : Nat) : ∀ (r q b : Nat), tiL k o ke c q r b ≠ 0 ↔ (r = 0 ∧ b ≠ 0) ∨ (0 < r ∧ (b ≠ 0 ∨ (k c = 1 ∧ ∃ q', q ≤ q' ∧ q' < q + r ∧ (sfO k o ke (o c) q' c).isSome = true)))
  | 0, q, b => by
    show b ≠ 0 ↔ _
    constructor
    · intro h; exact Or.inl ⟨rfl, h⟩
    · rintro (⟨-, h⟩ | ⟨h, -⟩)
      · exact h
      · omega
  | r + 1, q, b => by
    show tiL k o ke c (q + 1) r (if b ≠ 0 ∨ (k c = 1 ∧ (sfO k o ke (o c) q c).isSome = true) then 1 else 0) ≠ 0 ↔ _
    rw [tiL_spec k o ke c r (q + 1)]
    by_cases hb : b ≠ 0 ∨ (k c = 1 ∧ (sfO k o ke (o c) q c).isSome = true)
    · rw [if_pos hb]
      constructor
      · intro _
        refine Or.inr ⟨by omega, ?_⟩
        rcases hb with hb | ⟨h1, h2⟩
        · exact Or.inl hb
        · exact Or.inr ⟨h1, q, by omega, by omega, h2⟩
      · intro _
        rcases Nat.eq_zero_or_pos r with hr | hr
        · exact Or.inl ⟨hr, by decide⟩
        · exact Or.inr ⟨hr, Or.inl (by decide)⟩
    · rw [if_neg hb]
      constructor
      · rintro (⟨-, h⟩ | ⟨hr, h | ⟨h1, q', h2, h3, h4⟩⟩)
        · exact absurd rfl h
        · exact absurd rfl h
        · exact Or.inr ⟨by omega, Or.inr ⟨h1, q', by omega, by omega, h4⟩⟩
      · rintro (⟨h, -⟩ | ⟨-, h | ⟨h1, q', h2, h3, h4⟩⟩)
        · omega
        · exact absurd (Or.inl h) hb
        · by_cases hq : q' = q
          · rw [hq] at h4
            exact absurd (Or.inr ⟨h1, h4⟩) hb
          · exact Or.inr ⟨by omega, Or.inr ⟨h1, q', by omega, by omega, h4⟩⟩
theorem tiL_tch (k : Nat → Nat) (o : Nat → Int32) (ke : Nat → Nat) (p c : Nat) : tiL k o ke c (4 * p) 4 0 ≠ 0 ↔ tch k o ke p c := by
  rw [tiL_spec]
  unfold tch
  constructor
  · rintro (⟨h, -⟩ | ⟨-, h | ⟨h1, q, h2, h3, h4⟩⟩)
    · omega
    · exact absurd rfl h
    · obtain ⟨j, h5, h6⟩ := sf_some.mp h4
      exact ⟨h1, j, h5, by omega⟩
  · rintro ⟨h1, j, h2, h3⟩
    exact Or.inr ⟨by omega, Or.inr ⟨h1, ke j, by omega, by omega, sf_some.mpr ⟨j, h2, rfl⟩⟩⟩
theorem wtL_spec (k : Nat → Nat) (o : Nat → Int32) (ke : Nat → Nat) (f p : Nat) : ∀ n, (wtL k o ke f p n = 0 ∧ ∀ c, f ≤ c → c < n → ¬ tch k o ke p c) ∨ (0 < wtL k o ke f p n ∧ f ≤ wtL k o ke f p n - 1 ∧ wtL k o ke f p n ≤ n ∧ tch k o ke p (wtL k o ke f p n - 1) ∧ ∀ c, wtL k o ke f p n ≤ c → c < n → ¬ tch k o ke p c)
  | 0 => Or.inl ⟨rfl, fun c _ h => by omega⟩
  | n + 1 => by
    show ((if n < f then 0 else if tiL k o ke n (4 * p) 4 0 ≠ 0 then n + 1 else wtL k o ke f p n) = 0 ∧ _) ∨ _
    have hw : wtL k o ke f p (n + 1) = if n < f then 0 else if tiL k o ke n (4 * p) 4 0 ≠ 0 then n + 1 else wtL k o ke f p n := rfl
    rw [hw]
    by_cases hf : n < f
    · rw [if_pos hf]
      exact Or.inl ⟨rfl, fun c h1 h2 => by omega⟩
    · rw [if_neg hf]
      by_cases ht : tiL k o ke n (4 * p) 4 0 ≠ 0
      · rw [if_pos ht]
        exact Or.inr ⟨by omega, by omega, by omega, (tiL_tch k o ke p n).mp ht, fun c h1 h2 => by omega⟩
      · rw [if_neg ht]
        have hn : ¬ tch k o ke p n := fun h => ht ((tiL_tch k o ke p n).mpr h)
        rcases wtL_spec k o ke f p n with ⟨h1, h2⟩ | ⟨h1, h2, h3, h4, h5⟩
        · refine Or.inl ⟨h1, fun c a b => ?_⟩
          by_cases hc : c = n
          · rw [hc]; exact hn
          · exact h2 c a (by omega)
        · refine Or.inr ⟨h1, h2, by omega, h4, fun c a b => ?_⟩
          by_cases hc : c = n
          · rw [hc]; exact hn
          · exact h5 c a (by omega)
/-- what the open sets of a transaction do to a row of values -/
theorem wrS_spec {tk : Nat → Nat} {tv : Nat → Int32} {ke : Nat → Nat} {va : Nat → Int32} (ky : Nat) : ∀ (B : List Nat) (s : Nat) (tg : Nat → Int32), (∀ i j, B[i]? = some j → tk (s + i) = ke j ∧ tv (s + i) = va j) → wrS tk tv tg s B.length ky = match B.reverse.find? (fun j => decide (ke j = ky)) with | some j => va j | none => tg ky
  | [], s, tg, _ => rfl
  | b :: B, s, tg, h => by
    show wrS tk tv (upd tg (tk s) (tv s)) (s + 1) B.length ky = _
    have h0 := h 0 b rfl
    rw [Nat.add_zero] at h0
    rw [wrS_spec ky B (s + 1) _ (fun i j hj => by have := h (i + 1) j (by simpa using hj); rw [show s + 1 + i = s + (i + 1) by omega]; exact this), List.reverse_cons, List.find?_append]
    cases hf : B.reverse.find? (fun j => decide (ke j = ky)) with
    | some j => rfl
    | none =>
      show upd tg (tk s) (tv s) ky = match ([b].find? fun j => decide (ke j = ky)) with | some j => va j | none => tg ky
      rw [List.find?_cons]
      by_cases hk : ke b = ky
      · rw [decide_eq_true hk]
        show upd tg (tk s) (tv s) ky = va b
        unfold upd
        rw [if_pos (by rw [h0.1, hk]), h0.2]
      · rw [decide_eq_false hk]
        show upd tg (tk s) (tv s) ky = tg ky
        unfold upd
        rw [if_neg (by rw [h0.1]; exact fun z => hk z.symm)]
