/-! my own layer: one word list for all methods, one shape of contract, calls that put the callee's cells back where they were -/
abbrev Gt : Type := va_G × ClassId × ClassId × ClassId
def gw_nest : Cond → Bool
  | .methodLinkNest .. => true
  | .fieldLinkNest .. => true
  | _ => false
def GW : List Cond := lw_tbl.filter goodWord
def NL : List Cond := lw_tbl.filter gw_nest
def NW (U : State) : Prop := ∀ w ∈ NL, va_Nw w U
theorem NW.warm {s U : State} (hW : s.WarmedH U.vm) (h : NW s) : NW U := by
  intro w hw
  have h0 := h w hw
  have h1 : gw_nest w = true := (List.mem_filter.mp hw).2
  cases w <;> first | exact va_Nw.warmM hW h0 | exact va_Nw.warmF hW h0 | (exact absurd h1 (by simp [gw_nest]))
theorem NW.same {u U : State} (hv : u.vm = U.vm) (h : NW u) : NW U := by
  intro w hw
  have h0 := h w hw
  have h1 : gw_nest w = true := (List.mem_filter.mp hw).2
  cases w <;> first | exact va_Nw.same rfl hv h0 | (exact absurd h1 (by simp [gw_nest]))
theorem gw_good {big : List Cond} {cy : Cond} (hb : ∀ w ∈ GW, w ∈ big) (h : cy ∈ GW) : GoodIn big (cy :: GW) := by
  intro w hw
  have h1 : w ∈ GW := by
    rcases List.mem_cons.mp hw with h2 | h2
    · rw [h2]; exact h
    · exact h2
  exact ⟨hb w h1, good_of_word (List.mem_filter.mp h1).2⟩
abbrev tyl (g : Gt) : List (ClassId × FieldType) := [(g.2.1, .int), (g.2.2.1, .boolean), (g.2.2.2, .object "TornBackups$Backup")]
def KK (g : Gt) (U : State) : Prop := va_K g.1 cls (tyl g) U ∧ NW U
theorem KK.warm {g : Gt} {s U : State} (hW : s.WarmedH U.vm) (h : KK g s) : KK g U := ⟨va_K.moved hW.alike h.1, h.2.warm hW⟩
abbrev rmL (d z : Nat) : Room := { frames := d, cells := 0, slots := 0, locals := z }
def Qct (g : Gt) (Pst : Option Value → va_W → Prop) (w : va_W) (A : Nat → Prop) : Array Value → State → Outcome → State → Prop := fun _ st oc t =>
  (∃ (r : Option Value) (u : va_W), oc = .returned r ∧ Pst r u ∧ u.map Prod.fst = w.map Prod.fst ∧ va_P g.1 cls u t.heap ∧ va_D A u) ∧ va_F A st t
def PcT (g : Gt) (av : List Value) (w : va_W) (sz : Nat) : Array Value → State → Prop := va_Pc av (fun U => U.heap.size = sz ∧ va_P g.1 cls w U.heap ∧ KK g U ∧ va_D (fun _ => True) w)
/-- a method's contract: from the cells w it returns, its answer r and the cells u behind it are in Pst, at the same addresses; nothing else changes; nothing is made -/
def Ct (l : Launch) (g : Gt) (y : MethodName) (cy : Cond) (d z : Nat) (av : List Value) (w : va_W) (Pst : Option Value → va_W → Prop) : Prop :=
  ∀ sz : Nat, Met l y (cy :: GW) (rmL d z) (PcT g av w sz) (Qct g Pst w (va_A w sz)) 0 0 (va_A w sz)
theorem PcT.blind {g : Gt} {av : List Value} {w : va_W} {sz : Nat} : FrameBlind (PcT g av w sz) := by
  intro a U gg mk q
  obtain ⟨q0, q1, qP, qK, qD⟩ := q
  exact ⟨q0, q1, qP, ⟨va_K.moved (u := U) (U := U.calling gg mk a) (Vm.Alike.refl U.vm) qK.1, NW.same (u := U) (U := U.calling gg mk a) rfl qK.2⟩, qD⟩
theorem Ct.ofW {l : Launch} {g : Gt} {y : MethodName} {cc : ByteArray} {maxL : Nat} {ret : Option FieldType} {d z : Nat} {av : List Value} {w : va_W} {Pst : Option Value → va_W → Prop}
    (hy : plainName y.cls = true) (hlen : (lg_sl av).length ≤ maxL)
    (body : ∀ (p : Program) (e : Env) (s : State) (m : MethodId) (args : Array Value) (below : List Frame) (meth : Method) (c : Code) (A : Nat → Prop) (ls : Array Slot) (H : Heap) (locs : List Loc) (Q : State → Prop), p.tables.exec = Jvm.exec → c.code = cc → meth.sig.returnType = ret → meth.locks = false → c.maxLocals = maxL → s.vm.findClass y.cls = some m.cls → (∀ w ∈ GW, w.before args s = true) → KK g s → va_P g.1 cls w H → va_D A w → (∀ q, s.heap.size ≤ q → A q) → va_S A s.heap H locs → Q = MQ below (Qct g Pst w A) args s 0 0 A → lv_has ls maxL (lv_args 0 av) →
      W p l e (rmL d z) s m args below meth c H locs 0 0 Q (F0 m 0 ls [])) :
    Ct l g y (.code y cc maxL ret) d z av w Pst := by
  intro sz
  refine Met.ofW (cc := cc) (maxL := maxL) (ret := ret) hy rfl ?_
  intro p e s m args below meth c s₁ B hml hv
  obtain ⟨rfl, hsz, hP, hK, hD0⟩ := hv
  subst hsz
  have hts := atoms_spec (ws := .code y cc maxL ret :: GW) B.pre
  have hl := lv_entry av (n := maxL) hlen
  rw [lg_entry_eq]
  exact body p e s m av.toArray below meth c (va_A w s.heap.size) _ s.heap [] _ B.exec B.bytes B.returns B.notSynchronized hml (findClass_of_methodNamed B.named) (fun w hw => hts w (List.mem_cons_of_mem _ hw)) hK hP (hD0.self) (fun q h => Or.inr h) va_S.rf rfl hl
/-- what an exact contract says -/
abbrev exP (r : Option Value) (w : va_W) : Option Value → va_W → Prop := fun r' u => r' = r ∧ u = w
theorem pl_at {α β : Type} {is : List Nat} {f : Nat → Option α} {u : List α} (hC : is.map f = u.map some) {j : Nat} {q : α} (h : u[j]? = some q) : ∃ i, is[j]? = some i ∧ f i = some q := by
  have h1 : (is.map f)[j]? = some (some q) := by rw [hC, List.getElem?_map, h]; rfl
  rw [List.getElem?_map] at h1
  cases hi : is[j]? with
  | none => rw [hi] at h1; cases h1
  | some i => rw [hi] at h1; exact ⟨i, rfl, Option.some.inj h1⟩
theorem pl_in {α : Type} {is : List Nat} {f : Nat → Option α} {u : List α} (hC : is.map f = u.map some) {k : Nat} (h : k ∈ is) : ∃ (j : Nat) (q : α), is[j]? = some k ∧ u[j]? = some q ∧ f k = some q := by
  obtain ⟨j, hj⟩ := List.getElem?_of_mem h
  have h1 : (is.map f)[j]? = some (f k) := by rw [List.getElem?_map, hj]; rfl
  rw [hC, List.getElem?_map] at h1
  cases hu : u[j]? with
  | none => rw [hu] at h1; cases h1
  | some q => rw [hu] at h1; exact ⟨j, q, hj, hu, (Option.some.inj h1).symm⟩
/-- two readings of a list's places: two names, so that a check reads the places rather than the lists -/
def nA : va_W → Nat → Option (Nat × va_E)
  | [], _ => none
  | a :: _, 0 => some a
  | _ :: l, n + 1 => nA l n
def nB : va_W → Nat → Option (Nat × va_E)
  | [], _ => none
  | a :: _, 0 => some a
  | _ :: l, n + 1 => nB l n
def lkA (ws : va_W) : List Nat → List (Option (Nat × va_E))
  | [] => []
  | i :: is => nA ws i :: lkA ws is
def lkB (ws : va_W) : List Nat → List (Option (Nat × va_E))
  | [] => []
  | i :: is => nB ws i :: lkB ws is
theorem nA_eq : ∀ (ws : va_W) (i : Nat), nA ws i = ws[i]?
  | [], _ => rfl
  | _ :: _, 0 => rfl
  | _ :: l, n + 1 => by rw [List.getElem?_cons_succ]; exact nA_eq l n
theorem nB_eq : ∀ (ws : va_W) (i : Nat), nB ws i = ws[i]?
  | [], _ => rfl
  | _ :: _, 0 => rfl
  | _ :: l, n + 1 => by rw [List.getElem?_cons_succ]; exact nB_eq l n
theorem lkA_eq (ws : va_W) : ∀ is : List Nat, lkA ws is = is.map (fun i => ws[i]?)
  | [] => rfl
  | i :: is => by show nA ws i :: lkA ws is = _; rw [nA_eq, lkA_eq ws is]; rfl
theorem lkB_eq (ws : va_W) : ∀ is : List Nat, lkB ws is = is.map (fun i => ws[i]?)
  | [] => rfl
  | i :: is => by show nB ws i :: lkB ws is = _; rw [nB_eq, lkB_eq ws is]; rfl
/-- the callee's places and the others are all places -/
def ptC (N : Nat) (is rs : List Nat) : Bool := (List.range N).all (fun k => is.contains k || rs.contains k) && rs.all (fun k => !is.contains k)
/-- the caller's cells, with the callee's put back at their places -/
theorem pt_key {ws wc u ws' : va_W} {is rs : List Nat} {N : Nat} (hC : is.map (fun i => ws[i]?) = wc.map some) (hu : u.map Prod.fst = wc.map Prod.fst) (hC' : is.map (fun i => ws'[i]?) = u.map some) (hR : lkA ws' rs = lkB ws rs) (hN : ws'.length = N) (hc : ptC N is rs = true) {k : Nat} {q : Nat × va_E} (hk : ws'[k]? = some q) : (∃ j : Nat, u[j]? = some q ∧ ∃ q0, ws[k]? = some q0 ∧ q0.1 = q.1) ∨ (k ∉ is ∧ ws[k]? = some q) := by
  have hl := (List.getElem?_eq_some_iff.mp hk).1
  rw [hN] at hl
  unfold ptC at hc
  rw [Bool.and_eq_true] at hc
  have h1 := List.all_eq_true.mp hc.1 k (List.mem_range.mpr hl)
  rw [Bool.or_eq_true] at h1
  by_cases hki : k ∈ is
  · obtain ⟨j, q1, h2, h3, h4⟩ := pl_in hC' hki
    rw [hk] at h4
    obtain rfl := Option.some.inj h4
    obtain ⟨j2, q2, h5, h6, h7⟩ := pl_in (u := wc) hC hki
    refine Or.inl ⟨j, h3, ?_⟩
    have h8 : (u.map Prod.fst)[j]? = some q.1 := by rw [List.getElem?_map, h3]; rfl
    rw [hu, List.getElem?_map] at h8
    cases hw : wc[j]? with
    | none => rw [hw] at h8; cases h8
    | some q0 =>
      rw [hw] at h8
      obtain ⟨i, h9, h10⟩ := pl_at (β := Nat) hC hw
      rw [h2] at h9
      obtain rfl := Option.some.inj h9
      exact ⟨q0, h10, Option.some.inj h8⟩
  · rcases h1 with h1 | h1
    · exact absurd (List.contains_iff_mem.mp h1) hki
    · have h2 := List.map_inj_left.mp ((lkA_eq ws' rs).symm.trans (hR.trans (lkB_eq ws rs))) k (List.contains_iff_mem.mp h1)
      rw [hk] at h2
      exact Or.inr ⟨hki, h2.symm⟩
theorem pt_ok {D : va_G} {cl : List vw_C} {A : Nat → Prop} {ws wc u ws' : va_W} {H H1 : Heap} (hP : va_P D cl ws H) (hD : va_D A ws) (is rs : List Nat) (N : Nat) (hC : is.map (fun i => ws[i]?) = wc.map some) (hu : u.map Prod.fst = wc.map Prod.fst) (hC' : is.map (fun i => ws'[i]?) = u.map some) (hR : lkA ws' rs = lkB ws rs) (hN : ws'.length = N) (hc : ptC N is rs = true)
    (hk : ∀ q : Nat, q < H.size → ¬ va_A wc H.size q → H1[q]? = H[q]?) (hP1 : va_P D cl u H1) : va_P D cl ws' H1 ∧ va_D A ws' := by
  have key : ∀ (k : Nat) (q : Nat × va_E), ws'[k]? = some q → ∃ q0, ws[k]? = some q0 ∧ q0.1 = q.1 := by
    intro k q hq
    rcases pt_key hC hu hC' hR hN hc hq with ⟨j, -, h⟩ | ⟨-, h⟩
    · exact h
    · exact ⟨q, h, rfl⟩
  refine ⟨fun k q hq => ?_, fun i j x y hi hj hxy => ?_, fun k q hq => ?_⟩
  · rcases pt_key hC hu hC' hR hN hc hq with ⟨j, h2, -⟩ | ⟨h1, h2⟩
    · exact hP1 j q h2
    · refine (hP k q h2).kept (hk q.1 (hP k q h2).lt fun hA => ?_)
      rcases hA with ⟨j, e, h3⟩ | h3
      · obtain ⟨i, h4, h5⟩ := pl_at (β := Nat) hC h3
        have hik := hD.1 k i q (q.1, e) h2 h5 rfl
        subst hik
        exact h1 (List.mem_of_getElem? h4)
      · have := (hP k q h2).lt
        omega
  · obtain ⟨x0, h1, h2⟩ := key i x hi
    obtain ⟨y0, h3, h4⟩ := key j y hj
    exact hD.1 i j x0 y0 h1 h3 (h2.trans (hxy.trans h4.symm))
  · obtain ⟨q0, h1, h2⟩ := key k q hq
    rw [← h2]
    exact hD.2 k q0 h1
section CR
variable {p : Program} {l : Launch} {e : Env} {R : Room} {s : State} {m : MethodId} {args : Array Value} {below : List Frame} {meth : Method} {c : Code} {H H0 : Heap} {locs : List Loc} {cells slots : Nat} {Q : State → Prop} {g : Gt} {w u ws wc : va_W} {A : Nat → Prop} {Pst : Option Value → va_W → Prop} {cc : ByteArray} {pc : Nat} {ls : Array Slot} {rest st0 : List Value}
theorem ct_iret {v : Int32} (hQ : Q = MQ below (Qct g Pst w A) args s 0 0 A) (hx : p.tables.exec = Jvm.exec) (hb : c.code = cc) (hr : meth.sig.returnType = some .int) (hlk : meth.locks = false) (hP : va_P g.1 cls u H) (hD : va_D A u) (hS : va_S A s.heap H locs) (hdg : decode cc pc = .ok (.ireturn, 1)) (hu : u.map Prod.fst = w.map Prod.fst) (hp : Pst (some (.int v)) u) :
    W p l e R s m args below meth c H locs 0 0 Q (F0 m pc ls [.int v]) := by
  subst hQ
  exact W.iret hx hb hr (fun t ht _ => ⟨⟨_, u, rfl, hp, hu, by rw [ht]; exact hP, hD⟩, hS.F ht⟩) hS.2.2 hdg hlk
theorem ct_zret {v : Int32} (hQ : Q = MQ below (Qct g Pst w A) args s 0 0 A) (hx : p.tables.exec = Jvm.exec) (hb : c.code = cc) (hr : meth.sig.returnType = some .boolean) (hlk : meth.locks = false) (hP : va_P g.1 cls u H) (hD : va_D A u) (hS : va_S A s.heap H locs) (hdg : decode cc pc = .ok (.ireturn, 1)) (hu : u.map Prod.fst = w.map Prod.fst) (hn : narrow .boolean (.int v) = .int v) (hp : Pst (some (.int v)) u) :
    W p l e R s m args below meth c H locs 0 0 Q (F0 m pc ls [.int v]) := by
  subst hQ
  exact W.zret hx hb hr hn (fun t ht _ => ⟨⟨_, u, rfl, hp, hu, by rw [ht]; exact hP, hD⟩, hS.F ht⟩) hS.2.2 hdg hlk
theorem ct_vret (hQ : Q = MQ below (Qct g Pst w A) args s 0 0 A) (hx : p.tables.exec = Jvm.exec) (hb : c.code = cc) (hr : meth.sig.returnType = none) (hlk : meth.locks = false) (hP : va_P g.1 cls u H) (hD : va_D A u) (hS : va_S A s.heap H locs) (hdg : decode cc pc = .ok (.return_, 1)) (hu : u.map Prod.fst = w.map Prod.fst) (hp : Pst none u) :
    W p l e R s m args below meth c H locs 0 0 Q (F0 m pc ls []) := by
  subst hQ
  exact W.vret hx hb hr (fun t ht _ => ⟨⟨_, u, rfl, hp, hu, by rw [ht]; exact hP, hD⟩, hS.F ht⟩) hS.2.2 hdg hlk
theorem ct_call {a : Array Value} {r0 : Option Value} {wc' ws' : va_W} {st1 : List Value} (hr : va_Run p l e R s m args below meth c H locs cells slots 0 0 (F0 m pc ls st0) rest (Qct g (exP r0 wc') wc (va_A wc H.size) a) (va_A wc H.size))
    (hP : va_P g.1 cls ws H) (hD : va_D A ws) (hS : va_S A H0 H locs) (hA : ∀ q, H0.size ≤ q → A q) (is rs : List Nat) (N : Nat) (hC : is.map (fun i => ws[i]?) = wc.map some) (hC' : is.map (fun i => ws'[i]?) = wc'.map some) (hR : lkA ws' rs = lkB ws rs) (hN : ws'.length = N) (hc : ptC N is rs = true) (hst1 : st1 = r0.toList ++ rest)
    (kk : ∀ (H1 : Heap) (locs1 : List Loc), va_P g.1 cls ws' H1 → va_D A ws' → va_S A H0 H1 locs1 → W p l e R s m args below meth c H1 locs1 cells slots Q (F0 m (pc + 3) ls st1)) :
    W p l e R s m args below meth c H locs cells slots Q (F0 m pc ls st0) := by
  have hF := va_free hD hS hA is hC
  intro T hT X
  obtain ⟨v, st₀, t, T', L, h0, X', hL, e1, e2, ⟨⟨r, u, hv, ⟨hp1, hp2⟩, hu, hPu, hDu⟩, hz, hk⟩, st⟩ := hr T hT X
  subst hp1
  subst hp2
  rw [h0] at hz hk
  have hk1 : ∀ q : Nat, q < H.size → ¬ va_A wc H.size q → T'.heap[q]? = H[q]? := fun q h1 h2 => by rw [e1]; exact hk q h1 h2
  obtain ⟨g1, g2⟩ := pt_ok hP hD is rs N hC hu hC' hR hN hc hk1 (by rw [e1]; exact hPu)
  have hvr : v = r := by injection hv
  obtain ⟨t2, a1, b1⟩ := kk T'.heap (locs ++ L) g1 g2 ⟨Nat.le_trans hS.1 (by rw [e1]; exact hz), fun q h1 h2 => by rw [hk1 q (Nat.lt_of_lt_of_le h1 hS.1) (fun z => h2 (hF q z))]; exact hS.2.1 q h1 h2, fun q hq => by
      rcases List.mem_append.mp hq with h | h
      · exact hS.2.2 q h
      · exact hF _ (hL q h)⟩ T' rfl X'
  rw [hst1, ← hvr] at a1
  exact ⟨t2, st t2 a1, b1⟩
/-- what the tables say of a method that is called -/
def okC (y : MethodName) (bytes : ByteArray) (maxL : Nat) (ret : Option FieldType) (n : Nat) : Prop :=
  Cond.code y bytes maxL ret ∈ GW ∧ Cond.initialized y.cls ∈ GW ∧ y.cls ≠ "java/lang/invoke/MethodHandle" ∧ y.cls ≠ "java/lang/invoke/VarHandle" ∧ (parseMethodDescriptor y.desc).map (fun d => d.parameters.length) = some n
def okV (y : MethodName) : Prop := Cond.instanceMethod y ∈ GW ∧ Cond.selects y.cls y y ∈ GW
theorem ct_pre {av : List Value} (hK : KK g s) (hP : va_P g.1 cls ws H) (hD : va_D A ws) (is : List Nat) (hC : is.map (fun i => ws[i]?) = wc.map some) (hn : va_nd is = true) : ∀ U : State, U.heap = H → s.WarmedH U.vm → PcT g av wc H.size av.toArray U := by
  intro U hU hW
  refine ⟨rfl, by rw [hU], ?_, hK.warm hW, (hD.sub is hn hC).weaken (fun _ _ _ _ => trivial)⟩
  rw [hU]
  intro k q hk
  obtain ⟨i, -, h2⟩ := pl_at (β := Nat) hC hk
  exact hP i q h2
variable {own host : String} {index maxL n d d' z z' nL : Nat} {y : MethodName} {bytes : ByteArray} {ret : Option FieldType} {b : Nat}
theorem ct_cb (hg : ∀ w ∈ GW, w.before args s = true) (ok : okC y bytes maxL ret n) (hl : Cond.methodLink own index y ∈ GW) (hR : d + 1 ≤ d' ∧ 8 + (maxL + 11) + z ≤ z') : CallB (rmL d' z') s args own index y bytes maxL ret (.code y bytes maxL ret :: GW) (rmL d z) 0 0 n :=
  callB_of n hg (gw_good (fun _ h => h) ok.1) rfl rfl rfl (hg _ ok.2.1) (hg _ hl) ok.2.2 hR
/-- obj.m(..), m not private -/
theorem ct_V (hx : p.tables.exec = Jvm.exec) (hb : c.code = cc) (hml : c.maxLocals = nL) (hown : s.vm.findClass own = some m.cls) (hg : ∀ w ∈ GW, w.before args s = true) (hK : KK g s) (hP : va_P g.1 cls ws H) (hD : va_D A ws) (hS : va_S A H0 H locs) (hA : ∀ q, H0.size ≤ q → A q) (hls : ls.size = nL)
    {As : List Value} {r0 : Option Value} {wc' ws' : va_W} {st1 : List Value} (hM : Ct l g y (.code y bytes maxL ret) d z (.ref b :: As) wc (exP r0 wc')) (ok : okC y bytes maxL ret n) (okv : okV y) (hl : Cond.methodLink own index y ∈ GW) (hR : d + 1 ≤ d' ∧ 8 + (maxL + 11) + z ≤ z')
    (q0 ci : Nat) {fs : List Value} {cq : vw_C} (he : ws[q0]? = some (b, .inr (ci, fs))) (hc : cls[ci]? = some cq) (hcn : cq.1 = y.cls) (is rs : List Nat) (N : Nat) (hnd : va_nd is = true) (hC : is.map (fun i => ws[i]?) = wc.map some) (hC' : is.map (fun i => ws'[i]?) = wc'.map some) (hRr : lkA ws' rs = lkB ws rs) (hN : ws'.length = N) (hcv : ptC N is rs = true) (hst1 : st1 = r0.toList ++ rest) (hn : As.length = n) (hst : st0 = As.reverse ++ .ref b :: rest) (hW : (rest.map fun v => v.category).sum ≤ 8) (hdg : decode cc pc = .ok (.invokevirtual index, 3))
    (kk : ∀ (H1 : Heap) (locs1 : List Loc), va_P g.1 cls ws' H1 → va_D A ws' → va_S A H0 H1 locs1 → W p l e (rmL d' z') s m args below meth c H1 locs1 0 0 Q (F0 m (pc + 3) ls st1)) :
    W p l e (rmL d' z') s m args below meth c H locs 0 0 Q (F0 m pc ls st0) :=
  ct_call (va_runV (C := y.cls) (As := As) (rest := rest) (b := b) ⟨hx, hb, hml, hown, hg⟩ (hM H.size) ⟨ct_cb hg ok hl hR, hg _ okv.1, hg _ okv.2⟩ ⟨PcT.blind, hcn ▸ va_recv hK.1 hP hc he, ct_pre hK hP hD is hC hnd⟩ rfl hn hls hst (lv_room hW) hdg ⟨Nat.le_refl _, Nat.le_refl _⟩) hP hD hS hA is rs N hC hC' hRr hN hcv hst1 kk
/-- C.m(..), static, not private -/
theorem ct_Sx (hx : p.tables.exec = Jvm.exec) (hb : c.code = cc) (hml : c.maxLocals = nL) (hown : s.vm.findClass own = some m.cls) (hg : ∀ w ∈ GW, w.before args s = true) (hK : KK g s) (hP : va_P g.1 cls ws H) (hD : va_D A ws) (hS : va_S A H0 H locs) (hA : ∀ q, H0.size ≤ q → A q) (hls : ls.size = nL)
    {As : List Value} {r0 : Option Value} {wc' ws' : va_W} {st1 : List Value} (hM : Ct l g y (.code y bytes maxL ret) d z As wc (exP r0 wc')) (ok : okC y bytes maxL ret n) (oks : Cond.static y ∈ GW) (hl : Cond.methodLink own index y ∈ GW) (hR : d + 1 ≤ d' ∧ 8 + (maxL + 11) + z ≤ z')
    (is rs : List Nat) (N : Nat) (hnd : va_nd is = true) (hC : is.map (fun i => ws[i]?) = wc.map some) (hC' : is.map (fun i => ws'[i]?) = wc'.map some) (hRr : lkA ws' rs = lkB ws rs) (hN : ws'.length = N) (hcv : ptC N is rs = true) (hst1 : st1 = r0.toList ++ rest) (hn : As.length = n) (hst : st0 = As.reverse ++ rest) (hW : (rest.map fun v => v.category).sum ≤ 8) (hdg : decode cc pc = .ok (.invokestatic index, 3))
    (kk : ∀ (H1 : Heap) (locs1 : List Loc), va_P g.1 cls ws' H1 → va_D A ws' → va_S A H0 H1 locs1 → W p l e (rmL d' z') s m args below meth c H1 locs1 0 0 Q (F0 m (pc + 3) ls st1)) :
    W p l e (rmL d' z') s m args below meth c H locs 0 0 Q (F0 m pc ls st0) :=
  ct_call (va_runS (As := As) (rest := rest) ⟨hx, hb, hml, hown, hg⟩ (hM H.size) ⟨ct_cb hg ok hl hR, hg _ oks⟩ ⟨PcT.blind, ct_pre hK hP hD is hC hnd⟩ rfl hn hls hst (lv_room hW) hdg ⟨Nat.le_refl _, Nat.le_refl _⟩) hP hD hS hA is rs N hC hC' hRr hN hcv hst1 kk
end CR
