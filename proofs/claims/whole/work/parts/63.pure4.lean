/-! the open transactions -/
section TR
variable {k : Nat → Nat} {o : Nat → Int32} {ke : Nat → Nat} {va : Nat → Int32} {n : Nat} {c f tk : Nat → Nat} {tv : Nat → Int32} {t : Nat}
theorem rTr_set (ht : t < 3) (hn : n ≤ 512) {ky : Nat} (hky : ky < 32) (vl : Int32) (hc : c t < 4) (h : rTr k o ke va n c f tk tv) (f' : Nat → Nat) (hf : f' = (if c t = 0 then va_up f t n else f)) :
    rTr (va_up k n 0) (upd o n (nI t)) (va_up ke n ky) (upd va n vl) (n + 1) (va_up c t (c t + 1)) f' (va_up tk (t * 4 + c t) ky) (upd tv (t * 4 + c t) vl) := by
  obtain ⟨h1, h2⟩ := h
  refine ⟨fun u hu => ?_, fun j hj => ?_⟩
  · rw [buf_set t u ht hu]
    obtain ⟨a1, a2, a3, a4, a5⟩ := h1 u hu
    by_cases hut : u = t
    · subst hut
      rw [if_pos rfl, va_up_self]
      refine ⟨by rw [List.length_append, List.length_singleton, a1], by omega, ?_, fun j hj => ?_, fun i j hj => ?_⟩
      · rw [hf]
        split
        · rw [va_up_self]; exact hn
        · exact a3
      · rw [hf]
        cases hb : buf k o (nI u) n with
        | nil =>
          rw [hb] at hj a1
          rw [if_pos (by rw [a1]; rfl), va_up_self]
          exact Option.some.inj hj
        | cons b B =>
          rw [hb] at hj a1 a4
          rw [if_neg (by rw [a1]; simp)]
          exact a4 j hj
      · by_cases hi : i < (buf k o (nI u) n).length
        · rw [List.getElem?_append_left hi] at hj
          have hm := (buf_mem (List.mem_of_getElem? hj)).1
          obtain ⟨b1, b2⟩ := a5 i j hj
          rw [va_up_ne _ _ (show u * 4 + i ≠ u * 4 + c u by omega), pk_un (show u * 4 + i ≠ u * 4 + c u by omega), va_up_ne _ _ (show j ≠ n by omega), pk_un (show j ≠ n by omega)]
          exact ⟨b1, b2⟩
        · rw [List.getElem?_append_right (by omega)] at hj
          have hl := (List.getElem?_eq_some_iff.mp hj).1
          rw [List.length_singleton] at hl
          have hi2 : i = c u := by omega
          rw [show i - (buf k o (nI u) n).length = 0 by omega] at hj
          have hj2 : n = j := Option.some.inj hj
          rw [hi2, va_up_self, pk_us, ← hj2, va_up_self, pk_us]
          exact ⟨rfl, rfl⟩
    · rw [if_neg hut, va_up_ne _ _ hut]
      refine ⟨a1, a2, ?_, fun j hj => ?_, fun i j hj => ?_⟩
      · rw [hf]
        split
        · rw [va_up_ne _ _ hut]; exact a3
        · exact a3
      · rw [hf]
        split
        · rw [va_up_ne _ _ hut]; exact a4 j hj
        · exact a4 j hj
      · have hi := (List.getElem?_eq_some_iff.mp hj).1
        have hm := (buf_mem (List.mem_of_getElem? hj)).1
        obtain ⟨b1, b2⟩ := a5 i j hj
        rw [va_up_ne _ _ (show u * 4 + i ≠ t * 4 + c t by omega), pk_un (show u * 4 + i ≠ t * 4 + c t by omega), va_up_ne _ _ (show j ≠ n by omega), pk_un (show j ≠ n by omega)]
        exact ⟨b1, b2⟩
  · unfold va_up
    split
    · exact hky
    · exact h2 j hj
theorem rTr_end (ht : t < 3) {kd : Nat} (h0 : kd ≠ 0) (h3 : kd ≠ 3) (ky : Nat) (vl : Int32) (h : rTr k o ke va n c f tk tv) :
    rTr (va_up k n kd) (upd o n (nI t)) (va_up ke n ky) (upd va n vl) (n + 1) (va_up c t 0) f tk tv := by
  obtain ⟨h1, h2⟩ := h
  refine ⟨fun u hu => ?_, h2⟩
  rw [buf_end kd t u ht hu h0 h3]
  obtain ⟨a1, a2, a3, a4, a5⟩ := h1 u hu
  by_cases hut : u = t
  · rw [if_pos hut, hut, va_up_self]
    rw [hut] at a3
    exact ⟨rfl, by omega, a3, fun j hj => (by cases hj), fun i j hj => (by simp at hj)⟩
  · rw [if_neg hut, va_up_ne _ _ hut]
    refine ⟨a1, a2, a3, a4, fun i j hj => ?_⟩
    have hm := (buf_mem (List.mem_of_getElem? hj)).1
    rw [va_up_ne _ _ (show j ≠ n by omega), pk_un (show j ≠ n by omega)]
    exact a5 i j hj
theorem z3 (c : Nat → Nat) {u : Nat} (hu : u < 3) : va_up (va_up (va_up c 0 0) 1 0) 2 0 u = 0 := by
  unfold va_up
  rcases (show u = 0 ∨ u = 1 ∨ u = 2 by omega) with h | h | h <;> subst h <;> simp
theorem rTr_crash (m : Nat) (ow : Int32) (ky : Nat) (vl : Int32) (h : rTr k o ke va n c f tk tv) :
    rTr (va_up k m 3) (upd o m ow) (va_up ke m ky) (upd va m vl) (m + 1) (va_up (va_up (va_up c 0 0) 1 0) 2 0) f tk tv := by
  obtain ⟨h1, h2⟩ := h
  refine ⟨fun u hu => ?_, h2⟩
  rw [buf_res ow (nI u), z3 c hu]
  exact ⟨rfl, by omega, (h1 u hu).2.2.1, fun j hj => (by cases hj), fun i j hj => (by simp at hj)⟩
/-- the position from which a restore must read -/
theorem lfs_ck (h : rTr k o ke va n c f tk tv) : ∀ (r t b : Nat), t + r = 3 → lfs c f t r b = ckS k o n t r b
  | 0, t, b, _ => rfl
  | r + 1, t, b, hr => by
    show lfs c f (t + 1) r (if 0 < c t then min b (f t) else b) = ckS k o n (t + 1) r (match opO k o (nI t) n none with | some j => if j < b then j else b | none => b)
    obtain ⟨a1, a2, a3, a4, a5⟩ := h.1 t (by omega)
    rw [opO_buf]
    cases hb : buf k o (nI t) n with
    | nil =>
      rw [hb] at a1
      rw [if_neg (by rw [a1]; simp)]
      exact lfs_ck h r (t + 1) b (by omega)
    | cons x B =>
      rw [hb] at a1 a4
      rw [if_pos (by rw [a1]; simp), a4 x rfl]
      have e : min b x = if x < b then x else b := by
        by_cases hx : x < b
        · rw [if_pos hx, Nat.min_eq_right (Nat.le_of_lt hx)]
        · rw [if_neg hx, Nat.min_eq_left (by omega)]
      rw [e]
      exact lfs_ck h r (t + 1) _ (by omega)
theorem lfs_le (c f : Nat → Nat) : ∀ (r t b : Nat), lfs c f t r b ≤ b ∧ ∀ u, t ≤ u → u < t + r → 0 < c u → lfs c f t r b ≤ f u
  | 0, t, b => ⟨Nat.le_refl _, fun u h1 h2 => by omega⟩
  | r + 1, t, b => by
    obtain ⟨h1, h2⟩ := lfs_le c f r (t + 1) (if 0 < c t then min b (f t) else b)
    show lfs c f (t + 1) r (if 0 < c t then min b (f t) else b) ≤ b ∧ ∀ u, t ≤ u → u < t + (r + 1) → 0 < c u → lfs c f (t + 1) r (if 0 < c t then min b (f t) else b) ≤ f u
    refine ⟨?_, fun u u1 u2 u3 => ?_⟩
    · refine Nat.le_trans h1 ?_
      split
      · exact Nat.min_le_left _ _
      · exact Nat.le_refl _
    · by_cases hu : u = t
      · subst hu
        refine Nat.le_trans h1 ?_
        rw [if_pos u3]
        exact Nat.min_le_right _ _
      · exact h2 u (by omega) (by omega) u3
end TR
theorem buf_head {k : Nat → Nat} {o : Nat → Int32} {t : Int32} : ∀ {n h j : Nat}, (buf k o t n).head? = some h → j ∈ buf k o t n → h ≤ j
  | 0, h, j, hh, _ => by cases hh
  | n + 1, h, j, hh, hj => by
    rw [buf_s] at hh hj
    split at hh
    · cases hh
    · rename_i he
      rw [if_neg he] at hj
      split at hh
      · rename_i hs
        rw [if_pos hs] at hj
        cases hb : buf k o t n with
        | nil =>
          rw [hb] at hh hj
          have e1 : n = h := Option.some.inj hh
          have e2 := List.mem_singleton.mp hj
          omega
        | cons x B =>
          rw [hb] at hh
          have e1 : x = h := Option.some.inj hh
          rcases List.mem_append.mp hj with hj | hj
          · exact buf_head (by rw [hb, ← e1]; rfl) hj
          · have e2 := List.mem_singleton.mp hj
            have hx := (buf_mem (show x ∈ buf k o t n by rw [hb]; exact List.mem_cons_self)).1
            omega
      · rename_i hs
        rw [if_neg hs] at hj
        exact buf_head hh hj
theorem buf_later {k : Nat → Nat} {o : Nat → Int32} {t : Int32} {m : Nat} : ∀ {n j : Nat}, m ≤ n → j ∈ buf k o t n → j ∈ buf k o t m ∨ m ≤ j
  | 0, j, h, hj => by cases hj
  | n + 1, j, h, hj => by
    by_cases hm : m = n + 1
    · rw [hm]; exact Or.inl hj
    · rw [buf_s] at hj
      split at hj
      · cases hj
      · split at hj
        · rcases List.mem_append.mp hj with hj | hj
          · exact buf_later (by omega) hj
          · have := List.mem_singleton.mp hj
            exact Or.inr (by omega)
        · exact buf_later (by omega) hj
/-! backups -/
section BK
variable {k : Nat → Nat} {o : Nat → Int32} {ke : Nat → Nat} {va : Nat → Int32} {n sy : Nat} {fl : Nat → Nat} {sg cp fs la : Nat} {bv : Nat → Int32} {pr fi st cx en pg : Nat}
theorem rBk_begin {c f tk : Nat → Nat} {tv : Nat → Int32} (hT : rTr k o ke va n c f tk tv) (hf : ∀ p, p < 8 → n ≤ fl p) : rBk k o ke va n fl 1 0 (lfs c f 0 3 n) la bv 1 0 (lfs c f 0 3 n) n en 0 := by
  obtain ⟨l1, l2⟩ := lfs_le c f 3 0 n
  refine ⟨by omega, rfl, rfl, fun _ => ⟨rfl, rfl, l1, Nat.le_refl _, fun t ht j hj => ?_, fun ky _ h => by omega⟩, fun _ => ⟨by omega, hf⟩, fun h => by omega⟩
  obtain ⟨a1, a2, a3, a4, a5⟩ := hT.1 t ht
  cases hb : buf k o (nI t) n with
  | nil => rw [hb] at hj; cases hj
  | cons x B =>
    have hx : (buf k o (nI t) n).head? = some x := by rw [hb]; rfl
    have h1 := l2 t (by omega) (by omega) (by rw [a1, hb]; simp)
    rw [a4 x hx] at h1
    exact Nat.le_trans h1 (buf_head hx hj)
theorem rBk_copy {me ms dk : Nat → Int32} {ds du : Nat → Nat} (hP : rPg k o ke va n sy fl me ms dk ds du) (hs : sy ≤ n) (h : rBk k o ke va sy fl 1 cp fs la bv pr fi st cx en pg) (hpg : pg < 7) : rBk k o ke va sy fl 1 (cp + 1) fs la (va_cpy dk bv (pg * 4) (pg * 4) 4) pr fi st cx en (pg + 1) := by
  obtain ⟨h1, h2, h3, h4, h5, h6⟩ := h
  obtain ⟨a1, a2, a3, a4, a5, a6⟩ := h4 (by omega)
  obtain ⟨b1, b2⟩ := h5 rfl
  refine ⟨h1, h2, h3, fun _ => ⟨a1, by omega, a3, a4, a5, fun ky hk hp => ?_⟩, fun _ => ⟨by omega, b2⟩, fun z => by omega⟩
  rw [if_neg (by omega)]
  by_cases hq : ky / 4 = pg
  · refine ⟨min (fl pg) sy, ?_, Nat.min_le_right _ _, ?_⟩
    · exact Nat.le_min.mpr ⟨b2 pg (by omega), a4⟩
    · rw [pk_cpy_in (by omega) (by omega), show pg * 4 + (ky - pg * 4) = ky by omega, (hP.2 ky hk).2.2, hq]
      by_cases hm : fl pg ≤ sy
      · rw [Nat.min_eq_left hm]
      · rw [Nat.min_eq_right (by omega)]
        exact va_same (by omega) (fun c c1 c2 => by rw [hq]; exact (hP.1 pg (by omega)).2.2.2.2 c c1 c2)
  · rw [pk_cpy_out (by omega)]
    obtain ⟨G, g1, g2, g3⟩ := a6 ky hk (by omega)
    rw [if_neg (by omega)] at g2
    exact ⟨G, g1, g2, g3⟩
theorem rBk_last {me ms dk : Nat → Int32} {ds du : Nat → Nat} (hP : rPg k o ke va n sy fl me ms dk ds du) (hs : sy ≤ n) (h : rBk k o ke va sy fl 1 cp fs la bv pr fi st cx en pg) (hpg : pg = 7) : rBk k o ke va sy fl 2 (cp + 1) fs sy (va_cpy dk bv (pg * 4) (pg * 4) 4) pr 1 st cx sy (pg + 1) := by
  obtain ⟨h1, h2, h3, h4, h5, h6⟩ := h
  obtain ⟨a1, a2, a3, a4, a5, a6⟩ := h4 (by omega)
  obtain ⟨b1, b2⟩ := h5 rfl
  refine ⟨by omega, by rw [h2]; rfl, rfl, fun _ => ⟨a1, by omega, a3, a4, a5, fun ky hk hp => ?_⟩, fun z => by omega, fun _ => ⟨by omega, rfl, Nat.le_refl _, a4⟩⟩
  rw [if_pos rfl]
  by_cases hq : ky / 4 = pg
  · refine ⟨min (fl pg) sy, ?_, Nat.min_le_right _ _, ?_⟩
    · exact Nat.le_min.mpr ⟨b2 pg (by omega), a4⟩
    · rw [pk_cpy_in (by omega) (by omega), show pg * 4 + (ky - pg * 4) = ky by omega, (hP.2 ky hk).2.2, hq]
      by_cases hm : fl pg ≤ sy
      · rw [Nat.min_eq_left hm]
      · rw [Nat.min_eq_right (by omega)]
        exact va_same (by omega) (fun c c1 c2 => by rw [hq]; exact (hP.1 pg (by omega)).2.2.2.2 c c1 c2)
  · rw [pk_cpy_out (by omega)]
    obtain ⟨G, g1, g2, g3⟩ := a6 ky hk (by omega)
    rw [if_neg (by omega)] at g2
    exact ⟨G, g1, g2, g3⟩
/-- a backup that is gone -/
theorem rBk_gone (fl' : Nat → Nat) (sy' : Nat) (k' : Nat → Nat) (o' : Nat → Int32) (ke' : Nat → Nat) (va' : Nat → Int32) : rBk k' o' ke' va' sy' fl' 0 cp fs la bv 0 0 st cx en pg :=
  ⟨by omega, rfl, rfl, fun h => absurd rfl h, fun h => by omega, fun h => by omega⟩
end BK
/-! the archive -/
theorem hoS_s (hd : Nat → Nat) (q r : Nat) : hoS hd q (r + 1) = (if hd q ≠ 0 then 1 else 0) + hoS hd (q + 1) r := rfl
theorem hoS_out (hd : Nat → Nat) {s v : Nat} : ∀ (r q : Nat), (s < q ∨ q + r ≤ s) → hoS (va_up hd s v) q r = hoS hd q r
  | 0, q, _ => rfl
  | r + 1, q, h => by
    rw [hoS_s, hoS_s, hoS_out hd r (q + 1) (by omega), va_up_ne _ _ (show q ≠ s by omega)]
theorem hoS_up (hd : Nat → Nat) {s v : Nat} : ∀ (r q : Nat), q ≤ s → s < q + r → hoS (va_up hd s v) q r + (if hd s ≠ 0 then 1 else 0) = hoS hd q r + (if v ≠ 0 then 1 else 0)
  | 0, q, h1, h2 => by omega
  | r + 1, q, h1, h2 => by
    rw [hoS_s, hoS_s]
    by_cases hq : q = s
    · subst hq
      rw [hoS_out hd r (q + 1) (by omega), va_up_self]
      omega
    · have := hoS_up hd r (q + 1) (s := s) (v := v) (by omega) (by omega)
      rw [va_up_ne _ _ hq]
      omega
theorem hgS_spec (hd : Nat → Nat) (nx : Nat) : ∀ (r s : Nat), (∀ i, s ≤ i → i < hgS hd nx s r → i < nx ∧ hd i = 1) ∧ (hgS hd nx s r < s + r → ¬ (hgS hd nx s r < nx ∧ hd (hgS hd nx s r) = 1))
  | 0, s => ⟨fun i h1 h2 => absurd (show i < s from h2) (by omega), fun h => absurd (show s < s + 0 from h) (by omega)⟩
  | r + 1, s => by
    have e : hgS hd nx s (r + 1) = if s < nx ∧ hd s = 1 then hgS hd nx (s + 1) r else s := rfl
    rw [e]
    by_cases h : s < nx ∧ hd s = 1
    · rw [if_pos h]
      obtain ⟨h1, h2⟩ := hgS_spec hd nx r (s + 1)
      refine ⟨fun i i1 i2 => ?_, fun z => h2 (by omega)⟩
      by_cases hi : i = s
      · rw [hi]; exact h
      · exact h1 i (by omega) i2
    · rw [if_neg h]
      exact ⟨fun i i1 i2 => by omega, fun _ => h⟩
/-- what the two archives say of a start: the first segment G that is not held -/
theorem rAr_gap {sy nx hc : Nat} {hd hdX : Nat → Nat} (h : rAr sy nx hd hdX hc) {st : Nat} (hst : st ≤ 512) (G : Nat) (hG : G = hgS hdX nx (st / 8) (64 - st / 8)) : st / 8 ≤ G ∧ G ≤ 64 ∧ (∀ s, st / 8 ≤ s → s < G → hd s = 1) ∧ hd G = 0 ∧ (st / 8 < G → 8 * G ≤ sy) := by
  obtain ⟨h1, h2, h3, h4, h5, h6, h7⟩ := h
  obtain ⟨a1, a2⟩ := hgS_le hdX nx (64 - st / 8) (st / 8)
  obtain ⟨b1, b2⟩ := hgS_spec hdX nx (64 - st / 8) (st / 8)
  rw [← hG] at a1 a2 b1 b2
  refine ⟨a1, by omega, fun s s1 s2 => ?_, ?_, fun z => ?_⟩
  · obtain ⟨c1, c2⟩ := b1 s s1 s2
    rw [← h4 s (by omega)]; exact c2
  · by_cases hx : G < nx
    · have hlt : G < 64 := by omega
      have := b2 (by omega)
      rcases h3 G (by omega) with z | z
      · exact z
      · exact absurd ⟨hx, by rw [h4 G hlt]; exact z⟩ this
    · exact h5 G (by omega) (by omega)
  · have := (b1 (G - 1) (by omega) (by omega)).1
    omega
/-! how far a restore reaches -/
theorem anR_0 {k : Nat → Nat} {f l G ps : Nat} : anR k f l G ps = 0 ↔ l ≤ ps ∧ (f < ps → ps ≤ 8 * G ∧ k (ps - 1) = 1) := by
  unfold anR
  by_cases h1 : ps < l
  · rw [if_pos h1]
    exact ⟨fun h => absurd h (by decide), fun h => by omega⟩
  · rw [if_neg h1]
    by_cases h2 : f < ps
    · rw [if_pos h2]
      by_cases h3 : 8 * G < ps
      · rw [if_pos h3]
        exact ⟨fun h => absurd h (by decide), fun h => by have := (h.2 h2).1; omega⟩
      · rw [if_neg h3]
        by_cases h4 : k (ps - 1) = 1
        · rw [if_pos h4]
          exact ⟨fun _ => ⟨by omega, fun _ => ⟨by omega, h4⟩⟩, fun _ => nI_0⟩
        · rw [if_neg h4]
          exact ⟨fun h => absurd h (by decide), fun h => absurd (h.2 h2).2 h4⟩
    · rw [if_neg h2]
      exact ⟨fun _ => ⟨by omega, fun h => absurd h h2⟩, fun _ => nI_0⟩
section RE
variable {k : Nat → Nat} {f l G : Nat}
theorem reS_s (c : Nat) : reS k f l G (c + 1) = if anR k f l G c = 0 then nI c else reS k f l G c := rfl
theorem reS_lo (hfl : f ≤ l) : ∀ c, c ≤ f → reS k f l G c = (-1)
  | 0, _ => rfl
  | c + 1, h => by
    rw [reS_s, if_neg (fun z => by have := (anR_0.mp z).1; omega)]
    exact reS_lo hfl c (by omega)
theorem reS_f (hfl : f ≤ l) : reS k f l G (f + 1) = if f = l then nI f else (-1) := by
  rw [reS_s]
  by_cases h : f = l
  · rw [if_pos h, if_pos (anR_0.mpr ⟨by omega, fun z => by omega⟩)]
  · rw [if_neg h, if_neg (fun z => by have := (anR_0.mp z).1; omega)]
    exact reS_lo hfl f (Nat.le_refl _)
theorem reS_rc (hfl : f ≤ l) : ∀ p, f ≤ p → p ≤ 8 * G → reS k f l G (p + 1) = rcR k f l p
  | 0, h1, _ => by
    have e : f = 0 := by omega
    subst e
    rw [reS_f hfl]; rfl
  | p + 1, h1, h2 => by
    by_cases he : f = p + 1
    · rw [← he, reS_f hfl, rcR_out (by omega)]
    · have ih := reS_rc hfl p (by omega) (by omega)
      rw [reS_s]
      by_cases hl : l ≤ p + 1
      · rw [rcR_in (by omega) hl]
        by_cases hk : k (p + 1 - 1) = 1
        · rw [if_pos hk, if_pos (anR_0.mpr ⟨hl, fun _ => ⟨h2, hk⟩⟩)]
        · rw [if_neg hk, if_neg (fun z => hk ((anR_0.mp z).2 (by omega)).2), ih]; rfl
      · rw [rcR_out (by omega), if_neg (fun z => by have := (anR_0.mp z).1; omega), ih, rcR_out (by omega)]
theorem reS_hi {M : Nat} (h1 : f ≤ M) (h2 : 8 * G ≤ M) : ∀ c, M ≤ c → reS k f l G (c + 1) = reS k f l G (M + 1)
  | 0, h => by rw [show M = 0 by omega]
  | c + 1, h => by
    by_cases he : M = c + 1
    · rw [he]
    · rw [reS_s, if_neg (fun z => by have := ((anR_0.mp z).2 (by omega)).1; omega)]
      exact reS_hi h1 h2 c (by omega)
theorem reach_eq (hfl : f ≤ l) (hf : f ≤ 512) (hG : G ≤ 64) : reS k f l G 529 = rcR k f l (G * 8) := by
  by_cases h : f ≤ 8 * G
  · rw [reS_hi (M := 8 * G) h (Nat.le_refl _) 528 (by omega), reS_rc hfl (8 * G) h (Nat.le_refl _), Nat.mul_comm]
  · rw [reS_hi (M := f) (Nat.le_refl _) (by omega) 528 (by omega), reS_f hfl, rcR_out (by omega)]
end RE
theorem rcR_congr {k k' : Nat → Nat} {f l : Nat} : ∀ p, (∀ i, f ≤ i → i < p → k' i = k i) → rcR k' f l p = rcR k f l p
  | 0, _ => rfl
  | p + 1, h => by
    show (if f < p + 1 ∧ l ≤ p + 1 then (if k' p = 1 then nI (p + 1) else rcR k' f l p) else _) = (if f < p + 1 ∧ l ≤ p + 1 then (if k p = 1 then nI (p + 1) else rcR k f l p) else _)
    by_cases hc : f < p + 1 ∧ l ≤ p + 1
    · rw [if_pos hc, if_pos hc, h p (by omega) (by omega), rcR_congr p (fun i h1 h2 => h i h1 (by omega))]
    · rw [if_neg hc, if_neg hc]
