/-! the steps of the calls, on the pages -/
theorem tcS_s (tk : Nat → Nat) (da : Nat) (ds du : Nat → Nat) (s n : Nat) : tcS tk da ds du s (n + 1) = tcS tk da (mdS ds (tk s / 4) da) (va_up du (tk s / 4) da) (s + 1) n := rfl
theorem mdS_at (ds : Nat → Nat) (q da p : Nat) : mdS ds q da p = if p = q ∧ ds p = 0 then da else ds p := by
  unfold mdS
  by_cases h0 : 0 < ds q
  · rw [if_pos h0, if_neg]
    rintro ⟨h1, h2⟩
    rw [h1] at h2; omega
  · rw [if_neg h0]
    unfold va_up
    by_cases hp : p = q
    · rw [if_pos hp, if_pos ⟨hp, by rw [hp]; omega⟩]
    · rw [if_neg hp, if_neg (fun h => hp h.1)]
/-- marks of a commit done at da: pages of the keys tk s, .. -/
theorem tcS_spec {tk : Nat → Nat} {da : Nat} (hda : 0 < da) (p : Nat) : ∀ (n s : Nat) (ds du : Nat → Nat),
    ((∃ i, i < n ∧ tk (s + i) / 4 = p) → (tcS tk da ds du s n).1 p = (if ds p = 0 then da else ds p) ∧ (tcS tk da ds du s n).2 p = da) ∧
    ((¬ ∃ i, i < n ∧ tk (s + i) / 4 = p) → (tcS tk da ds du s n).1 p = ds p ∧ (tcS tk da ds du s n).2 p = du p)
  | 0, s, ds, du => ⟨fun ⟨i, h, _⟩ => by omega, fun _ => ⟨rfl, rfl⟩⟩
  | n + 1, s, ds, du => by
    obtain ⟨ih1, ih2⟩ := tcS_spec (tk := tk) hda p n (s + 1) (mdS ds (tk s / 4) da) (va_up du (tk s / 4) da)
    rw [tcS_s]
    by_cases hs : tk s / 4 = p
    · have em : mdS ds (tk s / 4) da p = if ds p = 0 then da else ds p := by
        rw [mdS_at]
        by_cases hd : ds p = 0
        · rw [if_pos ⟨hs.symm, hd⟩, if_pos hd]
        · rw [if_neg (fun h => hd h.2), if_neg hd]
      have eu : va_up du (tk s / 4) da p = da := by rw [hs]; exact va_up_self _ _ _
      refine ⟨fun _ => ?_, fun h => absurd ⟨0, by omega, hs⟩ h⟩
      by_cases hr : ∃ i, i < n ∧ tk (s + 1 + i) / 4 = p
      · obtain ⟨a, b⟩ := ih1 hr
        refine ⟨?_, b⟩
        rw [a, em]
        by_cases hd : ds p = 0
        · rw [if_pos hd, if_neg (by omega)]
        · rw [if_neg hd, if_neg hd]
      · obtain ⟨a, b⟩ := ih2 hr
        exact ⟨by rw [a, em], by rw [b, eu]⟩
    · have em : mdS ds (tk s / 4) da p = ds p := by
        rw [mdS_at, if_neg (fun h => hs h.1.symm)]
      have eu : va_up du (tk s / 4) da p = du p := va_up_ne _ _ (fun h => hs h.symm)
      refine ⟨fun ⟨i, h1, h2⟩ => ?_, fun h => ?_⟩
      · have hi : i ≠ 0 := fun z => hs (by rw [z] at h2; exact h2)
        obtain ⟨a, b⟩ := ih1 ⟨i - 1, by omega, by rw [show s + 1 + (i - 1) = s + i by omega]; exact h2⟩
        exact ⟨by rw [a, em], b⟩
      · obtain ⟨a, b⟩ := ih2 (fun ⟨i, h1, h2⟩ => h ⟨i + 1, by omega, by rw [show s + (i + 1) = s + 1 + i by omega]; exact h2⟩)
        exact ⟨by rw [a, em], by rw [b, eu]⟩
section PG
variable {k : Nat → Nat} {o : Nat → Int32} {ke : Nat → Nat} {va : Nat → Int32} {n sy : Nat} {fl : Nat → Nat} {me ms dk : Nat → Int32} {ds du : Nat → Nat}
/-- a commit -/
theorem rPg_com {c f tk : Nat → Nat} {tv : Nat → Int32} {t : Nat} (ht : t < 3) (hs : sy ≤ n) (hT : rTr k o ke va n c f tk tv) (ky : Nat) (vl : Int32) (h : rPg k o ke va n sy fl me ms dk ds du) :
    rPg (va_up k n 1) (upd o n (nI t)) (va_up ke n ky) (upd va n vl) (n + 1) sy fl (wrS tk tv me (t * 4) (c t)) ms dk (tcS tk (n + 1) ds du (t * 4) (c t)).1 (tcS tk (n + 1) ds du (t * 4) (c t)).2 := by
  have ha := agr_add (k := k) (o := o) (ke := ke) (va := va) (n := n) 1 (nI t) ky vl
  obtain ⟨hp, hv⟩ := h
  obtain ⟨c1, -, -, -, c5⟩ := hT.1 t ht
  have hfl : ∀ p, p < 8 → fl p ≤ n := fun p q => (hp p q).1
  have htc : ∀ p, (∃ i, i < c t ∧ tk (t * 4 + i) / 4 = p) ↔ tch (va_up k n 1) (upd o n (nI t)) (va_up ke n ky) p n := by
    intro p
    rw [tch_com ky p t]
    constructor
    · rintro ⟨i, h1, h2⟩
      have hl : i < (buf k o (nI t) n).length := by rw [← c1]; exact h1
      have hg : (buf k o (nI t) n)[i]? = some (buf k o (nI t) n)[i] := List.getElem?_eq_getElem hl
      exact ⟨_, List.getElem_mem hl, by rw [← (c5 i _ hg).1]; exact h2⟩
    · rintro ⟨j, h1, h2⟩
      obtain ⟨i, hi⟩ := List.getElem?_of_mem h1
      have hl := (List.getElem?_eq_some_iff.mp hi).1
      exact ⟨i, by rw [c1]; exact hl, by rw [(c5 i j hi).1]; exact h2⟩
  refine ⟨fun p hp8 => ?_, fun q hq => ?_⟩
  · obtain ⟨a1, a2, a3, a4, a5⟩ := hp p hp8
    obtain ⟨s1, s2⟩ := tcS_spec (tk := tk) (da := n + 1) (by omega) p (c t) (t * 4) ds du
    by_cases hx : ∃ i, i < c t ∧ tk (t * 4 + i) / 4 = p
    · obtain ⟨e1, e2⟩ := s1 hx
      have hn := (htc p).mp hx
      rw [e1, e2]
      refine ⟨by omega, ?_, by omega, ?_, fun c c1 c2 => ?_⟩
      · rcases a2 with ⟨b1, b2⟩ | ⟨b1, b2, b3, b4, b5⟩
        · rw [if_pos b1]
          refine Or.inr ⟨by omega, by omega, by omega, hn, fun c d1 d2 => ?_⟩
          rw [ha.tq (by omega)]; exact b2 c d1 (by omega)
        · rw [if_neg (by omega)]
          refine Or.inr ⟨b1, b2, by omega, (ha.tq (by omega)).mpr b4, fun c d1 d2 => ?_⟩
          rw [ha.tq (by omega)]; exact b5 c d1 d2
      · exact ⟨fun _ => ⟨n, by omega, by omega, by omega, hn⟩, fun _ => by omega⟩
      · rw [ha.tq (by omega)]; exact a5 c c1 c2
    · obtain ⟨e1, e2⟩ := s2 hx
      have hn : ¬ tch (va_up k n 1) (upd o n (nI t)) (va_up ke n ky) p n := fun z => hx ((htc p).mpr z)
      rw [e1, e2]
      refine ⟨by omega, ?_, by omega, ?_, fun c c1 c2 => ?_⟩
      · rcases a2 with ⟨b1, b2⟩ | ⟨b1, b2, b3, b4, b5⟩
        · refine Or.inl ⟨b1, fun c d1 d2 => ?_⟩
          by_cases hc : c = n
          · rw [hc]; exact hn
          · rw [ha.tq (by omega)]; exact b2 c d1 (by omega)
        · refine Or.inr ⟨b1, b2, by omega, (ha.tq (by omega)).mpr b4, fun c d1 d2 => ?_⟩
          rw [ha.tq (by omega)]; exact b5 c d1 d2
      · rw [a4]
        constructor
        · rintro ⟨c, d1, d2, d3, d4⟩
          exact ⟨c, d1, d2, by omega, (ha.tq d3).mpr d4⟩
        · rintro ⟨c, d1, d2, d3, d4⟩
          by_cases hc : c = n
          · rw [hc] at d4; exact absurd d4 hn
          · exact ⟨c, d1, d2, by omega, (ha.tq (by omega)).mp d4⟩
      · rw [ha.tq (by omega)]; exact a5 c c1 c2
  · obtain ⟨b1, b2, b3⟩ := hv q hq
    refine ⟨?_, by rw [(ha.le hs).vv q]; exact b2, by rw [(ha.le (hfl (q / 4) (by omega))).vv q]; exact b3⟩
    rw [va_com ky vl q t, c1, wrS_spec q (buf k o (nI t) n) (t * 4) me c5, b1]
    cases List.find? (fun j => decide (ke j = q)) (buf k o (nI t) n).reverse <;> rfl
/-- a sync -/
theorem rPg_sync (h : rPg k o ke va n sy fl me ms dk ds du) : rPg k o ke va n n fl me (va_cpy me ms 0 0 32) dk ds du := by
  obtain ⟨hp, hv⟩ := h
  refine ⟨fun p hp8 => ?_, fun q hq => ?_⟩
  · obtain ⟨a1, a2, a3, a4, a5⟩ := hp p hp8
    refine ⟨a1, a2, a3, ⟨fun z => by omega, fun ⟨c, c1, c2, c3, _⟩ => by omega⟩, fun c c1 c2 => by omega⟩
  · obtain ⟨b1, b2, b3⟩ := hv q hq
    exact ⟨b1, by rw [pk_cpy_in (by omega) (by omega)]; simpa using b1, b3⟩
/-- a page to disk that needs no sync: no commit of it behind sy -/
theorem rPg_flush {q : Nat} (hq : q < 8) (hu : du q ≤ sy) (h : rPg k o ke va n sy fl me ms dk ds du) : rPg k o ke va n sy (va_up fl q n) me ms (va_cpy me dk (q * 4) (q * 4) 4) (va_up ds q 0) (va_up du q 0) := by
  obtain ⟨hp, hv⟩ := h
  refine ⟨fun p hp8 => ?_, fun y hy => ?_⟩
  · obtain ⟨a1, a2, a3, a4, a5⟩ := hp p hp8
    by_cases hpq : p = q
    · subst hpq
      rw [va_up_self, va_up_self, va_up_self]
      have hno : ∀ c, sy ≤ c → c < n → ¬ tch k o ke p c := by
        intro c c1 c2 c3
        by_cases hc : c < fl p
        · exact a5 c c1 hc c3
        · have := a4.mpr ⟨c, c1, by omega, c2, c3⟩
          omega
      exact ⟨Nat.le_refl _, Or.inl ⟨rfl, fun c c1 c2 => by omega⟩, Nat.zero_le _, ⟨fun z => by omega, fun ⟨c, c1, c2, c3, _⟩ => by omega⟩, hno⟩
    · rw [va_up_ne _ _ hpq, va_up_ne _ _ hpq, va_up_ne _ _ hpq]
      exact ⟨a1, a2, a3, a4, a5⟩
  · obtain ⟨b1, b2, b3⟩ := hv y hy
    refine ⟨b1, b2, ?_⟩
    by_cases hyq : y / 4 = q
    · rw [hyq, va_up_self, pk_cpy_in (by omega) (by omega), show q * 4 + (y - q * 4) = y by omega]
      exact b1
    · rw [va_up_ne _ _ hyq, pk_cpy_out (by omega)]
      exact b3
/-- a clean page is on disk as it stands: the reference may call it flushed at n -/
theorem rPg_clean {q : Nat} (hq : q < 8) (hd : ds q = 0) (h : rPg k o ke va n sy fl me ms dk ds du) : rPg k o ke va n sy (va_up fl q n) me ms dk ds du ∧ ∀ c, fl q ≤ c → c < n → ¬ tch k o ke q c := by
  obtain ⟨hp, hv⟩ := h
  have hcl : ∀ c, fl q ≤ c → c < n → ¬ tch k o ke q c := by
    obtain ⟨a1, a2, a3, a4, a5⟩ := hp q hq
    rcases a2 with ⟨b1, b2⟩ | ⟨b1, -⟩
    · exact b2
    · omega
  refine ⟨⟨fun p hp8 => ?_, fun y hy => ?_⟩, hcl⟩
  · obtain ⟨a1, a2, a3, a4, a5⟩ := hp p hp8
    by_cases hpq : p = q
    · subst hpq
      rw [va_up_self]
      refine ⟨Nat.le_refl _, Or.inl ⟨hd, fun c c1 c2 => by omega⟩, a3, ?_, fun c c1 c2 => ?_⟩
      · rw [a4]
        exact ⟨fun ⟨c, c1, c2, c3, c4⟩ => absurd c4 (hcl c c2 c3), fun ⟨c, c1, c2, c3, c4⟩ => by omega⟩
      · by_cases hc : c < fl p
        · exact a5 c c1 hc
        · exact hcl c (by omega) c2
    · rw [va_up_ne _ _ hpq]
      exact ⟨a1, a2, a3, a4, a5⟩
  · obtain ⟨b1, b2, b3⟩ := hv y hy
    refine ⟨b1, b2, ?_⟩
    by_cases hyq : y / 4 = q
    · rw [hyq, va_up_self, b3, hyq]
      exact (va_same (hp q hq).1 (fun c c1 c2 => by rw [hyq]; exact hcl c c1 c2)).symm
    · rw [va_up_ne _ _ hyq]
      exact b3
/-- a page's waiting commit, as the reference finds it, and as the class marks it -/
theorem rPg_wait {q : Nat} (hq : q < 8) (h : rPg k o ke va n sy fl me ms dk ds du) : (wtL k o ke (fl q) q n = 0 ↔ ds q = 0) ∧ (sy < wtL k o ke (fl q) q n ↔ sy < du q) := by
  obtain ⟨a1, a2, a3, a4, a5⟩ := h.1 q hq
  rcases wtL_spec k o ke (fl q) q n with ⟨w1, w2⟩ | ⟨w1, w2, w3, w4, w5⟩
  · refine ⟨⟨fun _ => ?_, fun _ => w1⟩, ?_⟩
    · rcases a2 with ⟨b1, b2⟩ | ⟨b1, b2, b3, b4, b5⟩
      · exact b1
      · exact absurd b4 (w2 _ b2 (by omega))
    · rw [w1, a4]
      exact ⟨fun z => by omega, fun ⟨c, c1, c2, c3, c4⟩ => absurd c4 (w2 c c2 c3)⟩
  · refine ⟨⟨fun z => by omega, fun z => ?_⟩, ?_⟩
    · rcases a2 with ⟨b1, b2⟩ | ⟨b1, -⟩
      · exact absurd w4 (b2 _ w2 (by omega))
      · omega
    · rw [a4]
      constructor
      · intro z
        exact ⟨wtL k o ke (fl q) q n - 1, by omega, w2, by omega, w4⟩
      · rintro ⟨c, c1, c2, c3, c4⟩
        by_cases hc : c < wtL k o ke (fl q) q n
        · omega
        · exact absurd c4 (w5 c (by omega) c3)
end PG
theorem mcS_s (me dk : Nat → Int32) (ds du : Nat → Nat) (q n : Nat) : mcS me dk ds du q (n + 1) = if 0 < ds q then mcS me (va_cpy me dk (q * 4) (q * 4) 4) (va_up ds q 0) (va_up du q 0) (q + 1) n else mcS me dk ds du (q + 1) n := rfl
theorem ffS_s (n : Nat) (fl : Nat → Nat) (q r : Nat) : ffS n fl q (r + 1) = ffS n (va_up fl q n) (q + 1) r := rfl
/-- every page to disk, behind a sync -/
theorem rPg_all {k : Nat → Nat} {o : Nat → Int32} {ke : Nat → Nat} {va : Nat → Int32} {n : Nat} {me ms : Nat → Int32} : ∀ (r q : Nat) (fl : Nat → Nat) (dk : Nat → Int32) (ds du : Nat → Nat), q + r = 8 → rPg k o ke va n n fl me ms dk ds du →
    rPg k o ke va n n (ffS n fl q r) me ms (mcS me dk ds du q r).1 (mcS me dk ds du q r).2.1 (mcS me dk ds du q r).2.2
  | 0, q, fl, dk, ds, du, _, h => h
  | r + 1, q, fl, dk, ds, du, hr, h => by
    rw [mcS_s, ffS_s]
    by_cases hd : 0 < ds q
    · rw [if_pos hd]
      exact rPg_all r (q + 1) _ _ _ _ (by omega) (rPg_flush (by omega) (h.1 q (by omega)).2.2.1 h)
    · rw [if_neg hd]
      exact rPg_all r (q + 1) _ _ _ _ (by omega) (rPg_clean (by omega) (by omega) h).1
theorem ffS_at (n : Nat) : ∀ (r q : Nat) (fl : Nat → Nat) (p : Nat), ffS n fl q r p = if q ≤ p ∧ p < q + r then n else fl p
  | 0, q, fl, p => by rw [if_neg (by omega)]; rfl
  | r + 1, q, fl, p => by
    rw [ffS_s, ffS_at n r (q + 1)]
    by_cases h1 : q + 1 ≤ p ∧ p < q + 1 + r
    · rw [if_pos h1, if_pos (by omega)]
    · rw [if_neg h1]
      by_cases hp : p = q
      · rw [hp, va_up_self, if_pos (by omega)]
      · rw [va_up_ne _ _ hp, if_neg (by omega)]
theorem crS_s (n : Nat) (fl : Nat → Nat) (q r : Nat) : crS n fl q (r + 1) = crS n (va_up fl q (if fl q < n then fl q else n)) (q + 1) r := rfl
theorem crS_at (n : Nat) : ∀ (r q : Nat) (fl : Nat → Nat) (p : Nat), crS n fl q r p = if q ≤ p ∧ p < q + r then (if fl p < n then fl p else n) else fl p
  | 0, q, fl, p => by rw [if_neg (by omega)]; rfl
  | r + 1, q, fl, p => by
    rw [crS_s, crS_at n r (q + 1)]
    by_cases hp : p = q
    · subst hp
      rw [if_neg (show ¬ (p + 1 ≤ p ∧ p < p + 1 + r) by omega), va_up_self, if_pos (show p ≤ p ∧ p < p + (r + 1) by omega)]
    · rw [va_up_ne _ _ hp]
      by_cases h1 : q + 1 ≤ p ∧ p < q + 1 + r
      · rw [if_pos h1, if_pos (show q ≤ p ∧ p < q + (r + 1) by omega)]
      · rw [if_neg h1, if_neg (show ¬ (q ≤ p ∧ p < q + (r + 1)) by omega)]
theorem sgS_s (sg : Nat → Nat) (q r : Nat) : sgS sg q (r + 1) = sgS (va_up sg q (if sg q = 1 then 0 else sg q)) (q + 1) r := rfl
theorem sgS_at : ∀ (r q : Nat) (sg : Nat → Nat) (p : Nat), sgS sg q r p = if q ≤ p ∧ p < q + r then (if sg p = 1 then 0 else sg p) else sg p
  | 0, q, sg, p => by rw [if_neg (by omega)]; rfl
  | r + 1, q, sg, p => by
    rw [sgS_s, sgS_at r (q + 1)]
    by_cases hp : p = q
    · subst hp
      rw [if_neg (show ¬ (p + 1 ≤ p ∧ p < p + 1 + r) by omega), va_up_self, if_pos (show p ≤ p ∧ p < p + (r + 1) by omega)]
    · rw [va_up_ne _ _ hp]
      by_cases h1 : q + 1 ≤ p ∧ p < q + 1 + r
      · rw [if_pos h1, if_pos (show q ≤ p ∧ p < q + (r + 1) by omega)]
      · rw [if_neg h1, if_neg (show ¬ (q ≤ p ∧ p < q + (r + 1)) by omega)]
theorem lcS_s (sy : Nat) (ds du : Nat → Nat) (q n : Nat) : lcS sy ds du q (n + 1) = if sy < ds q then lcS sy (va_up ds q 0) (va_up (va_up du q 0) q (min (va_up du q 0 q) sy)) (q + 1) n else lcS sy ds (va_up du q (min (du q) sy)) (q + 1) n := rfl
theorem lcS_at (sy : Nat) : ∀ (r q : Nat) (ds du : Nat → Nat) (p : Nat), (lcS sy ds du q r).1 p = (if q ≤ p ∧ p < q + r then (if sy < ds p then 0 else ds p) else ds p) ∧ (lcS sy ds du q r).2 p = (if q ≤ p ∧ p < q + r then (if sy < ds p then 0 else min (du p) sy) else du p)
  | 0, q, ds, du, p => ⟨by rw [if_neg (by omega)]; rfl, by rw [if_neg (by omega)]; rfl⟩
  | r + 1, q, ds, du, p => by
    rw [lcS_s]
    by_cases hs : sy < ds q
    · rw [if_pos hs]
      obtain ⟨h1, h2⟩ := lcS_at sy r (q + 1) (va_up ds q 0) (va_up (va_up du q 0) q (min (va_up du q 0 q) sy)) p
      rw [h1, h2]
      by_cases hp : p = q
      · subst hp
        rw [if_neg (show ¬ (p + 1 ≤ p ∧ p < p + 1 + r) by omega), if_neg (show ¬ (p + 1 ≤ p ∧ p < p + 1 + r) by omega), if_pos (show p ≤ p ∧ p < p + (r + 1) by omega), if_pos (show p ≤ p ∧ p < p + (r + 1) by omega), if_pos hs, if_pos hs, va_up_self, va_up_self, va_up_self]
        exact ⟨rfl, Nat.zero_min _⟩
      · rw [va_up_ne _ _ hp, va_up_ne _ _ hp, va_up_ne _ _ hp]
        by_cases h3 : q + 1 ≤ p ∧ p < q + 1 + r
        · rw [if_pos h3, if_pos h3, if_pos (show q ≤ p ∧ p < q + (r + 1) by omega), if_pos (show q ≤ p ∧ p < q + (r + 1) by omega)]
          exact ⟨rfl, rfl⟩
        · rw [if_neg h3, if_neg h3, if_neg (show ¬ (q ≤ p ∧ p < q + (r + 1)) by omega), if_neg (show ¬ (q ≤ p ∧ p < q + (r + 1)) by omega)]
          exact ⟨rfl, rfl⟩
    · rw [if_neg hs]
      obtain ⟨h1, h2⟩ := lcS_at sy r (q + 1) ds (va_up du q (min (du q) sy)) p
      rw [h1, h2]
      by_cases hp : p = q
      · subst hp
        rw [if_neg (show ¬ (p + 1 ≤ p ∧ p < p + 1 + r) by omega), if_neg (show ¬ (p + 1 ≤ p ∧ p < p + 1 + r) by omega), if_pos (show p ≤ p ∧ p < p + (r + 1) by omega), if_pos (show p ≤ p ∧ p < p + (r + 1) by omega), if_neg hs, if_neg hs, va_up_self]
        exact ⟨rfl, rfl⟩
      · rw [va_up_ne _ _ hp]
        by_cases h3 : q + 1 ≤ p ∧ p < q + 1 + r
        · rw [if_pos h3, if_pos h3, if_pos (show q ≤ p ∧ p < q + (r + 1) by omega), if_pos (show q ≤ p ∧ p < q + (r + 1) by omega)]
          exact ⟨rfl, rfl⟩
        · rw [if_neg h3, if_neg h3, if_neg (show ¬ (q ≤ p ∧ p < q + (r + 1)) by omega), if_neg (show ¬ (q ≤ p ∧ p < q + (r + 1)) by omega)]
          exact ⟨rfl, rfl⟩
/-- a crash: the log falls back to sy, a restart record comes, and the log is synced -/
theorem rPg_crash {k : Nat → Nat} {o : Nat → Int32} {ke : Nat → Nat} {va : Nat → Int32} {n sy : Nat} {fl : Nat → Nat} {me ms dk me2 ms2 : Nat → Int32} {ds du : Nat → Nat} (hs : sy ≤ n) (ow : Int32) (ky : Nat) (vl : Int32) (h : rPg k o ke va n sy fl me ms dk ds du) (hm : ∀ y, y < 32 → me2 y = ms y ∧ ms2 y = ms y) :
    rPg (va_up k sy 3) (upd o sy ow) (va_up ke sy ky) (upd va sy vl) (sy + 1) (sy + 1) (crS sy fl 0 8) me2 ms2 dk (lcS sy ds du 0 8).1 (lcS sy ds du 0 8).2 := by
  have ha := agr_add (k := k) (o := o) (ke := ke) (va := va) (n := sy) 3 ow ky vl
  have hno : ∀ p, ¬ tch (va_up k sy 3) (upd o sy ow) (va_up ke sy ky) p sy := fun p => tch_no 3 ow ky p (by omega)
  obtain ⟨hp, hv⟩ := h
  refine ⟨fun p hp8 => ?_, fun y hy => ?_⟩
  · obtain ⟨a1, a2, a3, a4, a5⟩ := hp p hp8
    obtain ⟨l1, l2⟩ := lcS_at sy 8 0 ds du p
    have hp0 : 0 ≤ p ∧ p < 0 + 8 := by omega
    rw [if_pos hp0] at l1 l2
    have l3 := crS_at sy 8 0 fl p
    rw [if_pos hp0] at l3
    rw [l1, l2, l3]
    have hcl : (∀ c, fl p ≤ c → c < sy → ¬ tch k o ke p c) → ∀ c, (if fl p < sy then fl p else sy) ≤ c → c < sy + 1 → ¬ tch (va_up k sy 3) (upd o sy ow) (va_up ke sy ky) p c := by
      intro hb c c1 c2
      by_cases hc : c = sy
      · rw [hc]; exact hno p
      · rw [ha.tq (by omega)]
        refine hb c ?_ (by omega)
        split at c1 <;> omega
    refine ⟨by split <;> omega, ?_, ?_, ?_, fun c c1 c2 => ?_⟩
    · rcases a2 with ⟨b1, b2⟩ | ⟨b1, b2, b3, b4, b5⟩
      · rw [if_neg (show ¬ sy < ds p by omega)]
        exact Or.inl ⟨b1, hcl (fun c c1 c2 => b2 c c1 (by omega))⟩
      · by_cases hd : sy < ds p
        · rw [if_pos hd]
          exact Or.inl ⟨rfl, hcl (fun c c1 c2 => b5 c c1 (by omega))⟩
        · rw [if_neg hd, if_pos (show fl p < sy by omega)]
          refine Or.inr ⟨b1, b2, by omega, (ha.tq (by omega)).mpr b4, fun c c1 c2 => ?_⟩
          rw [ha.tq (by omega)]; exact b5 c c1 c2
    · split
      · omega
      · have := Nat.min_le_right (du p) sy
        omega
    · constructor
      · intro z
        exfalso
        split at z
        · omega
        · have := Nat.min_le_right (du p) sy
          omega
      · rintro ⟨c, c1, c2, c3, c4⟩
        omega
    · exfalso
      split at c2 <;> omega
  · obtain ⟨b1, b2, b3⟩ := hv y hy
    obtain ⟨m1, m2⟩ := hm y hy
    have e1 : vaO (va_up k sy 3) (upd o sy ow) (va_up ke sy ky) (upd va sy vl) y (sy + 1) = vaO k o ke va y sy := va_no 3 ow ky vl y (by omega)
    refine ⟨by rw [m1, e1]; exact b2, by rw [m2, e1]; exact b2, ?_⟩
    obtain ⟨a1, a2, a3, a4, a5⟩ := hp (y / 4) (by omega)
    rw [crS_at, if_pos (show 0 ≤ y / 4 ∧ y / 4 < 0 + 8 by omega)]
    by_cases hf : fl (y / 4) < sy
    · rw [if_pos hf, (ha.le (Nat.le_of_lt hf)).vv y]; exact b3
    · rw [if_neg hf, ha.vv y, b3]
      exact va_same (by omega) (fun c c1 c2 => a5 c c1 c2)
