/-! the class's rows against the reference's log: what holds between calls -/
theorem ni_inj {a b : Nat} (ha : a < 2 ^ 31) (hb : b < 2 ^ 31) (h : nI a = nI b) : a = b := (nI_eq ha hb).mp h
/-- the two logs -/
def rLog (k : Nat → Nat) (o : Nat → Int32) (ke : Nat → Nat) (va : Nat → Int32) (n sy : Nat) (kX oX keX : Nat → Nat) (vaX : Nat → Int32) : Prop :=
  sy ≤ n ∧ (∀ m, m ≤ n → ∀ t, t < 3 → (buf k o (nI t) m).length ≤ 4) ∧ ∀ i, i < n → k i < 4 ∧ kX i = k i ∧ (k i ≠ 3 → oX i < 3 ∧ o i = nI (oX i)) ∧ (k i = 0 → ke i < 32 ∧ keX i = ke i ∧ vaX i = va i)
/-- the open transactions -/
def rTr (k : Nat → Nat) (o : Nat → Int32) (ke : Nat → Nat) (va : Nat → Int32) (n : Nat) (c f tk : Nat → Nat) (tv : Nat → Int32) : Prop :=
  (∀ t, t < 3 → c t = (buf k o (nI t) n).length ∧ c t ≤ 4 ∧ f t ≤ 512 ∧ (∀ j, (buf k o (nI t) n).head? = some j → f t = j) ∧ ∀ i j, (buf k o (nI t) n)[i]? = some j → tk (t * 4 + i) = ke j ∧ tv (t * 4 + i) = va j) ∧ ∀ j, j < 12 → tk j < 32
/-- one page: f where it was flushed, a, u what dirtySince, dirtyUntil say -/
def rP1 (k : Nat → Nat) (o : Nat → Int32) (ke : Nat → Nat) (n sy p f a u : Nat) : Prop :=
  f ≤ n ∧ ((a = 0 ∧ ∀ c, f ≤ c → c < n → ¬ tch k o ke p c) ∨ (0 < a ∧ f ≤ a - 1 ∧ a ≤ n ∧ tch k o ke p (a - 1) ∧ ∀ c, f ≤ c → c < a - 1 → ¬ tch k o ke p c)) ∧
  u ≤ n ∧ (sy < u ↔ ∃ c, sy ≤ c ∧ f ≤ c ∧ c < n ∧ tch k o ke p c) ∧ ∀ c, sy ≤ c → c < f → ¬ tch k o ke p c
def rPg (k : Nat → Nat) (o : Nat → Int32) (ke : Nat → Nat) (va : Nat → Int32) (n sy : Nat) (fl : Nat → Nat) (me ms dk : Nat → Int32) (ds du : Nat → Nat) : Prop :=
  (∀ p, p < 8 → rP1 k o ke n sy p (fl p) (ds p) (du p)) ∧ ∀ ky, ky < 32 → me ky = vaO k o ke va ky n ∧ ms ky = vaO k o ke va ky sy ∧ dk ky = vaO k o ke va ky (fl (ky / 4))
/-- one backup -/
def rBk (k : Nat → Nat) (o : Nat → Int32) (ke : Nat → Nat) (va : Nat → Int32) (sy : Nat) (fl : Nat → Nat) (sg cp fs la : Nat) (bv : Nat → Int32) (pr fi st cx en pg : Nat) : Prop :=
  sg ≤ 2 ∧ pr = (if sg = 0 then 0 else 1) ∧ fi = (if sg = 2 then 1 else 0) ∧
  (sg ≠ 0 → fs = st ∧ cp = pg ∧ st ≤ cx ∧ cx ≤ sy ∧ (∀ t, t < 3 → ∀ j ∈ buf k o (nI t) cx, st ≤ j) ∧ ∀ ky, ky < 32 → ky / 4 < pg → ∃ G, cx ≤ G ∧ G ≤ (if sg = 2 then en else sy) ∧ bv ky = vaO k o ke va ky G) ∧
  (sg = 1 → pg < 8 ∧ ∀ p, p < 8 → cx ≤ fl p) ∧ (sg = 2 → pg = 8 ∧ la = en ∧ en ≤ sy ∧ cx ≤ en)
def rUn (un : Int32) (sg : Nat → Nat) : Prop := (un = -1 ∧ ∀ b, b < 3 → sg b ≠ 1) ∨ ∃ j, j < 3 ∧ un = nI j ∧ sg j = 1 ∧ ∀ b, b < 3 → b ≠ j → sg b ≠ 1
def rAr (sy nx : Nat) (hd hdX : Nat → Nat) (hc : Nat) : Prop :=
  nx ≤ 64 ∧ 8 * nx ≤ sy ∧ (∀ s, s < 66 → hd s = 0 ∨ hd s = 1) ∧ (∀ s, s < 64 → hdX s = hd s) ∧ (∀ s, nx ≤ s → s < 66 → hd s = 0) ∧ hc = hoS hd 0 66 ∧ hc ≤ 10
def rRs (k : Nat → Nat) (o : Nat → Int32) (ke : Nat → Nat) (va : Nat → Int32) (sy dn tg bh : Nat) (rv : Nat → Int32) (rr : Nat) (tkR : Nat → Nat) : Prop :=
  (∀ j, j < 12 → tkR j < 32) ∧ ((dn = 0 ∧ rr = 0 ∧ ∀ ky, ky < 32 → rv ky = nI 0) ∨ (dn = 1 ∧ tg ≤ sy ∧ rr = bh ∧ ∀ ky, ky < 32 → rv ky = vaO k o ke va ky tg))
/-! a record more -/
section ADD
variable {k : Nat → Nat} {o : Nat → Int32} {ke : Nat → Nat} {va : Nat → Int32} {n : Nat} (kd : Nat) (ow : Int32) (ky : Nat) (vl : Int32)
theorem agr_add : agr k o ke va (va_up k n kd) (upd o n ow) (va_up ke n ky) (upd va n vl) n := by
  intro i hi
  refine ⟨va_up_ne _ _ (by omega), pk_un (by omega), va_up_ne _ _ (by omega), pk_un (by omega)⟩
/-- a set of transaction t -/
theorem buf_set (t u : Nat) (ht : t < 3) (hu : u < 3) : buf (va_up k n 0) (upd o n (nI t)) (nI u) (n + 1) = if u = t then buf k o (nI u) n ++ [n] else buf k o (nI u) n := by
  have hb := (agr_add (k := k) (o := o) (ke := fun _ => 0) (va := fun _ => 0) (n := n) 0 (nI t) 0 0).buf (nI u)
  have e1 : va_up k n 0 n = 0 := va_up_self _ _ _
  have e2 : upd o n (nI t) n = nI t := pk_us
  rw [buf_s, hb]
  rw [if_neg (by rintro (h | h) <;> omega)]
  by_cases h : u = t
  · rw [if_pos h, if_pos ⟨e1, by rw [e2, h]⟩]
  · rw [if_neg h, if_neg (fun z => h (ni_inj (by omega) (by omega) (by rw [← z.2, e2])).symm.symm)]
/-- a commit or an abort of transaction t -/
theorem buf_end (t u : Nat) (ht : t < 3) (hu : u < 3) (h0 : kd ≠ 0) (h3 : kd ≠ 3) : buf (va_up k n kd) (upd o n (nI t)) (nI u) (n + 1) = if u = t then [] else buf k o (nI u) n := by
  have hb := (agr_add (k := k) (o := o) (ke := fun _ => 0) (va := fun _ => 0) (n := n) kd (nI t) 0 0).buf (nI u)
  have e1 : va_up k n kd n = kd := va_up_self _ _ _
  have e2 : upd o n (nI t) n = nI t := pk_us
  rw [buf_s, hb]
  by_cases h : u = t
  · rw [if_pos h, if_pos (Or.inr ⟨by rw [e1]; exact h0, by rw [e2, h]⟩)]
  · rw [if_neg h, if_neg, if_neg (fun z => h0 (by rw [← z.1, e1]))]
    rintro (z | z)
    · rw [e1] at z; exact h3 z
    · exact h (ni_inj (by omega) (by omega) (by rw [← z.2, e2])).symm.symm
theorem buf_res (u : Int32) : buf (va_up k n 3) (upd o n ow) u (n + 1) = [] := by
  rw [buf_s, if_pos (Or.inl (va_up_self _ _ _))]
/-- a record that is no commit sets nothing -/
theorem tch_no (p : Nat) (h1 : kd ≠ 1) : ¬ tch (va_up k n kd) (upd o n ow) (va_up ke n ky) p n := by
  rintro ⟨h, -⟩
  rw [va_up_self] at h
  exact h1 h
theorem va_no (q : Nat) (h1 : kd ≠ 1) : vaO (va_up k n kd) (upd o n ow) (va_up ke n ky) (upd va n vl) q (n + 1) = vaO k o ke va q n := by
  rw [vaO_s, if_neg (by rw [va_up_self]; exact h1)]
  exact (agr_add kd ow ky vl).vv q
/-- a commit of transaction t -/
theorem tch_com (p t : Nat) : tch (va_up k n 1) (upd o n (nI t)) (va_up ke n ky) p n ↔ ∃ j ∈ buf k o (nI t) n, ke j / 4 = p := by
  have hb := (agr_add (k := k) (o := o) (ke := fun _ => 0) (va := fun _ => 0) (n := n) 1 (nI t) 0 0).buf (nI t)
  have e2 : upd o n (nI t) n = nI t := pk_us
  unfold tch
  rw [va_up_self, e2, hb]
  constructor
  · rintro ⟨-, j, hj, e⟩
    have hl := (buf_mem hj).1
    exact ⟨j, hj, by rw [va_up_ne _ _ (show j ≠ n by omega)] at e; exact e⟩
  · rintro ⟨j, hj, e⟩
    have hl := (buf_mem hj).1
    exact ⟨rfl, j, hj, by rw [va_up_ne _ _ (show j ≠ n by omega)]; exact e⟩
theorem va_com (q t : Nat) : vaO (va_up k n 1) (upd o n (nI t)) (va_up ke n ky) (upd va n vl) q (n + 1) = match (buf k o (nI t) n).reverse.find? (fun j => decide (ke j = q)) with | some j => va j | none => vaO k o ke va q n := by
  have ha := agr_add (k := k) (o := o) (ke := ke) (va := va) (n := n) 1 (nI t) ky vl
  have e2 : upd o n (nI t) n = nI t := pk_us
  rw [vaO_s, if_pos (va_up_self _ _ _), e2, ha.sf (nI t) q, ha.vv q, ← sfO_buf]
  cases hs : sfO k o ke (nI t) q n with
  | none => rfl
  | some j =>
    have hj := sfO_lt hs
    exact pk_un (by omega)
end ADD
/-! what an added record leaves as it was -/
theorem rBk_agr {k k' : Nat → Nat} {o o' : Nat → Int32} {ke ke' : Nat → Nat} {va va' : Nat → Int32} {sy sy' : Nat} {fl fl' : Nat → Nat} {sg cp fs la : Nat} {bv : Nat → Int32} {pr fi st cx en pg : Nat} (ha : agr k o ke va k' o' ke' va' sy) (hs : sy ≤ sy') (hf : sg = 1 → ∀ p, p < 8 → cx ≤ fl p → cx ≤ fl' p) (h : rBk k o ke va sy fl sg cp fs la bv pr fi st cx en pg) : rBk k' o' ke' va' sy' fl' sg cp fs la bv pr fi st cx en pg := by
  obtain ⟨h1, h2, h3, h4, h5, h6⟩ := h
  refine ⟨h1, h2, h3, fun hz => ?_, fun hz => ⟨(h5 hz).1, fun p hp => hf hz p hp ((h5 hz).2 p hp)⟩, fun hz => ?_⟩
  · obtain ⟨a1, a2, a3, a4, a5, a6⟩ := h4 hz
    refine ⟨a1, a2, a3, by omega, fun t ht j hj => ?_, fun ky hk hp => ?_⟩
    · rw [(ha.le a4).buf (nI t)] at hj
      exact a5 t ht j hj
    · obtain ⟨G, g1, g2, g3⟩ := a6 ky hk hp
      have hG : G ≤ sy := by
        split at g2
        · next hz2 => have := (h6 hz2).2.2.1; omega
        · exact g2
      refine ⟨G, g1, ?_, by rw [(ha.le hG).vv ky]; exact g3⟩
      split at g2
      · next hz2 => rw [if_pos hz2]; exact g2
      · next hz2 => rw [if_neg hz2]; omega
  · obtain ⟨a1, a2, a3, a4⟩ := h6 hz
    exact ⟨a1, a2, by omega, a4⟩
theorem rRs_agr {k k' : Nat → Nat} {o o' : Nat → Int32} {ke ke' : Nat → Nat} {va va' : Nat → Int32} {sy sy' dn tg bh rr : Nat} {rv : Nat → Int32} {tkR : Nat → Nat} (ha : agr k o ke va k' o' ke' va' sy) (hs : sy ≤ sy') (h : rRs k o ke va sy dn tg bh rv rr tkR) : rRs k' o' ke' va' sy' dn tg bh rv rr tkR := by
  obtain ⟨h0, h | ⟨h1, h2, h3, h4⟩⟩ := h
  · exact ⟨h0, Or.inl h⟩
  · exact ⟨h0, Or.inr ⟨h1, by omega, h3, fun ky hk => by rw [(ha.le h2).vv ky]; exact h4 ky hk⟩⟩
theorem rAr_sy {sy sy' nx hc : Nat} {hd hdX : Nat → Nat} (hs : sy ≤ sy') (h : rAr sy nx hd hdX hc) : rAr sy' nx hd hdX hc := by
  obtain ⟨h1, h2, h3⟩ := h
  exact ⟨h1, by omega, h3⟩
/-- the pages behind a record that is no commit -/
theorem rPg_no {k : Nat → Nat} {o : Nat → Int32} {ke : Nat → Nat} {va : Nat → Int32} {n sy : Nat} {fl : Nat → Nat} {me ms dk : Nat → Int32} {ds du : Nat → Nat} (hs : sy ≤ n) (kd : Nat) (ow : Int32) (ky : Nat) (vl : Int32) (h1 : kd ≠ 1) (h : rPg k o ke va n sy fl me ms dk ds du) : rPg (va_up k n kd) (upd o n ow) (va_up ke n ky) (upd va n vl) (n + 1) sy fl me ms dk ds du := by
  have ha := agr_add (k := k) (o := o) (ke := ke) (va := va) (n := n) kd ow ky vl
  have hno : ∀ p, ¬ tch (va_up k n kd) (upd o n ow) (va_up ke n ky) p n := fun p => tch_no kd ow ky p h1
  obtain ⟨hp, hv⟩ := h
  have hfl : ∀ p, p < 8 → fl p ≤ n := fun p q => (hp p q).1
  refine ⟨fun p hp8 => ?_, fun q hq => ?_⟩
  · obtain ⟨a1, a2, a3, a4, a5⟩ := hp p hp8
    refine ⟨by omega, ?_, by omega, ?_, fun c c1 c2 => ?_⟩
    · rcases a2 with ⟨b1, b2⟩ | ⟨b1, b2, b3, b4, b5⟩
      · refine Or.inl ⟨b1, fun c c1 c2 => ?_⟩
        by_cases hc : c = n
        · rw [hc]; exact hno p
        · rw [ha.tq (by omega)]; exact b2 c c1 (by omega)
      · refine Or.inr ⟨b1, b2, by omega, (ha.tq (by omega)).mpr b4, fun c c1 c2 => ?_⟩
        rw [ha.tq (by omega)]; exact b5 c c1 c2
    · rw [a4]
      constructor
      · rintro ⟨c, c1, c2, c3, c4⟩
        exact ⟨c, c1, c2, by omega, (ha.tq c3).mpr c4⟩
      · rintro ⟨c, c1, c2, c3, c4⟩
        by_cases hc : c = n
        · rw [hc] at c4; exact absurd c4 (hno p)
        · exact ⟨c, c1, c2, by omega, (ha.tq (by omega)).mp c4⟩
    · rw [ha.tq (by omega)]; exact a5 c c1 c2
  · obtain ⟨b1, b2, b3⟩ := hv q hq
    refine ⟨by rw [va_no kd ow ky vl q h1]; exact b1, by rw [(ha.le hs).vv q]; exact b2, by rw [(ha.le (hfl (q / 4) (by omega))).vv q]; exact b3⟩
