/-! my own layer: one word list for all methods, one shape of contract, calls that put the callee's cells back where they were -/
abbrev Gt : Type := va_G × ClassId × ClassId × ClassId
def gw_nest : Cond → Bool
  | .methodLinkNest .. => true
  | .fieldLinkNest .. => true
  | _ => false
def GW : List Cond := lw_tbl.filter goodWord
def NL : List Cond := lw_tbl.filter gw_nest
def NW (U : State) : Prop := ∀ w ∈ NL, va_Nw w U
theorem NW.warm {s U : State} (hW : s.WarmedH U.vm) (h : NW s) : NW U := by
  intro w hw
  have h0 := h w hw
  have h1 : gw_nest w = true := (List.mem_filter.mp hw).2
  cases w <;> first | exact va_Nw.warmM hW h0 | exact va_Nw.warmF hW h0 | (exact absurd h1 (by simp [gw_nest]))
theorem NW.same {u U : State} (hv : u.vm = U.vm) (h : NW u) : NW U := by
  intro w hw
  have h0 := h w hw
  have h1 : gw_nest w = true := (List.mem_filter.mp hw).2
  cases w <;> first | exact va_Nw.same rfl hv h0 | (exact absurd h1 (by simp [gw_nest]))
theorem gw_good {big : List Cond} {cy : Cond} (hb : ∀ w ∈ GW, w ∈ big) (h : cy ∈ GW) : GoodIn big (cy :: GW) := by
  intro w hw
  have h1 : w ∈ GW := by
    rcases List.mem_cons.mp hw with h2 | h2
    · rw [h2]; exact h
    · exact h2
  exact ⟨hb w h1, good_of_word (List.mem_filter.mp h1).2⟩
abbrev tyl (g : Gt) : List (ClassId × FieldType) := [(g.2.1, .int), (g.2.2.1, .boolean), (g.2.2.2, .object "TornBackups$Backup")]
def KK (g : Gt) (U : State) : Prop := va_K g.1 cls (tyl g) U ∧ NW U
theorem KK.warm {g : Gt} {s U : State} (hW : s.WarmedH U.vm) (h : KK g s) : KK g U := ⟨va_K.moved hW.alike h.1, h.2.warm hW⟩
abbrev rmL (d z : Nat) : Room := { frames := d, cells := 0, slots := 0, locals := z }
def Qct (g : Gt) (Pst : Option Value → va_W → Prop) (w : va_W) (A : Nat → Prop) : Array Value → State → Outcome → State → Prop := fun _ st oc t =>
  (∃ (r : Option Value) (u : va_W), oc = .returned r ∧ Pst r u ∧ u.map Prod.fst = w.map Prod.fst ∧ va_P g.1 cls u t.heap ∧ va_D A u) ∧ va_F A st t
def PcT (g : Gt) (av : List Value) (w : va_W) (sz : Nat) : Array Value → State → Prop := va_Pc av (fun U => U.heap.size = sz ∧ va_P g.1 cls w U.heap ∧ KK g U ∧ va_D (fun _ => True) w)
/-- a method's contract: from the cells w it returns, its answer r and the cells u behind it are in Pst, at the same addresses; nothing else changes; nothing is made -/
def Ct (l : Launch) (g : Gt) (y : MethodName) (cy : Cond) (d z : Nat) (av : List Value) (w : va_W) (Pst : Option Value → va_W → Prop) : Prop :=
  ∀ sz : Nat, Met l y (cy :: GW) (rmL d z) (PcT g av w sz) (Qct g Pst w (va_A w sz)) 0 0 (va_A w sz)
theorem PcT.blind {g : Gt} {av : List Value} {w : va_W} {sz : Nat} : FrameBlind (PcT g av w sz) := by
  intro a U gg mk q
  obtain ⟨q0, q1, qP, qK, qD⟩ := q
  exact ⟨q0, q1, qP, ⟨va_K.moved (u := U) (U := U.calling gg mk a) (Vm.Alike.refl U.vm) qK.1, NW.same (u := U) (U := U.calling gg mk a) rfl qK.2⟩, qD⟩
theorem Ct.ofW {l : Launch} {g : Gt} {y : MethodName} {cc : ByteArray} {maxL : Nat} {ret : Option FieldType} {d z : Nat} {av : List Value} {w : va_W} {Pst : Option Value → va_W → Prop}
    (hy : plainName y.cls = true) (hlen : (lg_sl av).length ≤ maxL)
    (body : ∀ (p : Program) (e : Env) (s : State) (m : MethodId) (args : Array Value) (below : List Frame) (meth : Method) (c : Code) (A : Nat → Prop) (ls : Array Slot) (H : Heap) (locs : List Loc) (Q : State → Prop), p.tables.exec = Jvm.exec → c.code = cc → meth.sig.returnType = ret → meth.locks = false → c.maxLocals = maxL → s.vm.findClass y.cls = some m.cls → (∀ w ∈ GW, w.before args s = true) → KK g s → va_P g.1 cls w H → va_D A w → (∀ q, s.heap.size ≤ q → A q) → va_S A s.heap H locs → Q = MQ below (Qct g Pst w A) args s 0 0 A → lv_has ls maxL (lv_args 0 av) →
      W p l e (rmL d z) s m args below meth c H locs 0 0 Q (F0 m 0 ls [])) :
    Ct l g y (.code y cc maxL ret) d z av w Pst := by
  intro sz
  refine Met.ofW (cc := cc) (maxL := maxL) (ret := ret) hy rfl ?_
  intro p e s m args below meth c s₁ B hml hv
  obtain ⟨rfl, hsz, hP, hK, hD0⟩ := hv
  subst hsz
  have hts := atoms_spec (ws := .code y cc maxL ret :: GW) B.pre
  have hl := lv_entry av (n := maxL) hlen
  rw [lg_entry_eq]
  exact body p e s m av.toArray below meth c (va_A w s.heap.size) _ s.heap [] _ B.exec B.bytes B.returns B.notSynchronized hml (findClass_of_methodNamed B.named) (fun w hw => hts w (List.mem_cons_of_mem _ hw)) hK hP (hD0.self) (fun q h => Or.inr h) va_S.rf rfl hl
/-- what an exact contract says -/
abbrev exP (r : Option Value) (w : va_W) : Option Value → va_W → Prop := fun r' u => r' = r ∧ u = w
/-- the caller's cells, with the callee's put back -/
def putA : va_W → List Nat → va_W → va_W
  | ws, i :: is, x :: xs => putA (ws.set i x) is xs
  | ws, _, _ => ws
theorem putA_get : ∀ (is : List Nat) (ws u : va_W) (k : Nat) (q : Nat × va_E), (putA ws is u)[k]? = some q → (∃ j : Nat, is[j]? = some k ∧ u[j]? = some q) ∨ ((∀ j : Nat, is[j]? = some k → u.length ≤ j) ∧ ws[k]? = some q)
  | [], ws, u, k, q, h => by
    refine Or.inr ⟨fun j hj => by simp at hj, ?_⟩
    cases u <;> exact h
  | i :: is, ws, [], k, q, h => Or.inr ⟨fun j _ => Nat.zero_le _, h⟩
  | i :: is, ws, x :: xs, k, q, h => by
    have h0 : (putA (ws.set i x) is xs)[k]? = some q := h
    rcases putA_get is (ws.set i x) xs k q h0 with ⟨j, h1, h2⟩ | ⟨h1, h2⟩
    · exact Or.inl ⟨j + 1, by simpa using h1, by simpa using h2⟩
    · by_cases hk : k = i
      · subst hk
        have hl : k < ws.length := by
          have := (List.getElem?_eq_some_iff.mp h2).1
          simpa using this
        rw [List.getElem?_set_self hl] at h2
        exact Or.inl ⟨0, rfl, h2⟩
      · rw [List.getElem?_set_ne (Ne.symm hk)] at h2
        refine Or.inr ⟨fun j hj => ?_, h2⟩
        cases j with
        | zero => exact absurd (Option.some.inj hj).symm hk
        | succ j => exact Nat.succ_le_succ (h1 j (by simpa using hj))
theorem putA_at {is : List Nat} {ws wc : va_W} (hC : is.map (fun i => ws[i]?) = wc.map some) {j : Nat} {q : Nat × va_E} (h : wc[j]? = some q) : ∃ i, is[j]? = some i ∧ ws[i]? = some q := by
  have h1 : (is.map (fun i => ws[i]?))[j]? = some (some q) := by rw [hC, List.getElem?_map, h]; rfl
  rw [List.getElem?_map] at h1
  cases hi : is[j]? with
  | none => rw [hi] at h1; cases h1
  | some i => rw [hi] at h1; exact ⟨i, rfl, Option.some.inj h1⟩
theorem putA_ok {D : va_G} {cl : List vw_C} {A : Nat → Prop} {ws wc u : va_W} {H H1 : Heap} (hP : va_P D cl ws H) (hD : va_D A ws) (is : List Nat) (hC : is.map (fun i => ws[i]?) = wc.map some) (hu : u.map Prod.fst = wc.map Prod.fst)
    (hk : ∀ q : Nat, q < H.size → ¬ va_A wc H.size q → H1[q]? = H[q]?) (hP1 : va_P D cl u H1) : va_P D cl (putA ws is u) H1 ∧ va_D A (putA ws is u) := by
  have hlen : u.length = wc.length := by simpa using congrArg List.length hu
  have hlen2 : is.length = wc.length := by simpa using congrArg List.length hC
  have hadr : ∀ (j : Nat) (q : Nat × va_E), u[j]? = some q → ∃ q0, wc[j]? = some q0 ∧ q0.1 = q.1 := by
    intro j q hq
    have h1 : (u.map Prod.fst)[j]? = some q.1 := by rw [List.getElem?_map, hq]; rfl
    rw [hu, List.getElem?_map] at h1
    cases hw : wc[j]? with
    | none => rw [hw] at h1; cases h1
    | some q0 => rw [hw] at h1; exact ⟨q0, rfl, Option.some.inj h1⟩
  have key : ∀ (k : Nat) (q : Nat × va_E), (putA ws is u)[k]? = some q → ∃ q0, ws[k]? = some q0 ∧ q0.1 = q.1 := by
    intro k q hq
    rcases putA_get is ws u k q hq with ⟨j, h1, h2⟩ | ⟨-, h2⟩
    · obtain ⟨q0, h3, h4⟩ := hadr j q h2
      obtain ⟨i, h5, h6⟩ := putA_at hC h3
      rw [h1] at h5
      obtain rfl := Option.some.inj h5
      exact ⟨q0, h6, h4⟩
    · exact ⟨q, h2, rfl⟩
  refine ⟨fun k q hq => ?_, fun i j x y hi hj hxy => ?_, fun k q hq => ?_⟩
  · rcases putA_get is ws u k q hq with ⟨j, h1, h2⟩ | ⟨h1, h2⟩
    · exact hP1 j q h2
    · refine (hP k q h2).kept (hk q.1 (hP k q h2).lt fun hA => ?_)
      rcases hA with ⟨j, e, h3⟩ | h3
      · obtain ⟨i, h4, h5⟩ := putA_at hC h3
        have hik := hD.1 k i q (q.1, e) h2 h5 rfl
        subst hik
        have h6 := h1 j h4
        have h7 := (List.getElem?_eq_some_iff.mp h3).1
        omega
      · have := (hP k q h2).lt
        omega
  · obtain ⟨x0, h1, h2⟩ := key i x hi
    obtain ⟨y0, h3, h4⟩ := key j y hj
    exact hD.1 i j x0 y0 h1 h3 (h2.trans (hxy.trans h4.symm))
  · obtain ⟨q0, h1, h2⟩ := key k q hq
    rw [← h2]
    exact hD.2 k q0 h1
section CR
variable {p : Program} {l : Launch} {e : Env} {R : Room} {s : State} {m : MethodId} {args : Array Value} {below : List Frame} {meth : Method} {c : Code} {H H0 : Heap} {locs : List Loc} {cells slots : Nat} {Q : State → Prop} {g : Gt} {w u ws wc : va_W} {A : Nat → Prop} {Pst : Option Value → va_W → Prop} {cc : ByteArray} {pc : Nat} {ls : Array Slot} {rest st0 : List Value}
theorem ct_iret {v : Int32} (hQ : Q = MQ below (Qct g Pst w A) args s 0 0 A) (hx : p.tables.exec = Jvm.exec) (hb : c.code = cc) (hr : meth.sig.returnType = some .int) (hlk : meth.locks = false) (hP : va_P g.1 cls u H) (hD : va_D A u) (hS : va_S A s.heap H locs) (hdg : decode cc pc = .ok (.ireturn, 1)) (hu : u.map Prod.fst = w.map Prod.fst) (hp : Pst (some (.int v)) u) :
    W p l e R s m args below meth c H locs 0 0 Q (F0 m pc ls [.int v]) := by
  subst hQ
  exact W.iret hx hb hr (fun t ht _ => ⟨⟨_, u, rfl, hp, hu, by rw [ht]; exact hP, hD⟩, hS.F ht⟩) hS.2.2 hdg hlk
theorem ct_zret {v : Int32} (hQ : Q = MQ below (Qct g Pst w A) args s 0 0 A) (hx : p.tables.exec = Jvm.exec) (hb : c.code = cc) (hr : meth.sig.returnType = some .boolean) (hlk : meth.locks = false) (hP : va_P g.1 cls u H) (hD : va_D A u) (hS : va_S A s.heap H locs) (hdg : decode cc pc = .ok (.ireturn, 1)) (hu : u.map Prod.fst = w.map Prod.fst) (hn : narrow .boolean (.int v) = .int v) (hp : Pst (some (.int v)) u) :
    W p l e R s m args below meth c H locs 0 0 Q (F0 m pc ls [.int v]) := by
  subst hQ
  exact W.zret hx hb hr hn (fun t ht _ => ⟨⟨_, u, rfl, hp, hu, by rw [ht]; exact hP, hD⟩, hS.F ht⟩) hS.2.2 hdg hlk
theorem ct_vret (hQ : Q = MQ below (Qct g Pst w A) args s 0 0 A) (hx : p.tables.exec = Jvm.exec) (hb : c.code = cc) (hr : meth.sig.returnType = none) (hlk : meth.locks = false) (hP : va_P g.1 cls u H) (hD : va_D A u) (hS : va_S A s.heap H locs) (hdg : decode cc pc = .ok (.return_, 1)) (hu : u.map Prod.fst = w.map Prod.fst) (hp : Pst none u) :
    W p l e R s m args below meth c H locs 0 0 Q (F0 m pc ls []) := by
  subst hQ
  exact W.vret hx hb hr (fun t ht _ => ⟨⟨_, u, rfl, hp, hu, by rw [ht]; exact hP, hD⟩, hS.F ht⟩) hS.2.2 hdg hlk
theorem ct_call {a : Array Value} (hr : va_Run p l e R s m args below meth c H locs cells slots 0 0 (F0 m pc ls st0) rest (Qct g Pst wc (va_A wc H.size) a) (va_A wc H.size))
    (hP : va_P g.1 cls ws H) (hD : va_D A ws) (hS : va_S A H0 H locs) (hA : ∀ q, H0.size ≤ q → A q) (is : List Nat) (hC : is.map (fun i => ws[i]?) = wc.map some)
    (kk : ∀ (r : Option Value) (u : va_W) (H1 : Heap) (locs1 : List Loc), Pst r u → va_P g.1 cls (putA ws is u) H1 → va_D A (putA ws is u) → va_S A H0 H1 locs1 → W p l e R s m args below meth c H1 locs1 cells slots Q (F0 m (pc + 3) ls (r.toList ++ rest))) :
    W p l e R s m args below meth c H locs cells slots Q (F0 m pc ls st0) := by
  have hF := va_free hD hS hA is hC
  intro T hT X
  obtain ⟨v, st₀, t, T', L, h0, X', hL, e1, e2, ⟨⟨r, u, hv, hp, hu, hPu, hDu⟩, hz, hk⟩, st⟩ := hr T hT X
  rw [h0] at hz hk
  have hk1 : ∀ q : Nat, q < H.size → ¬ va_A wc H.size q → T'.heap[q]? = H[q]? := fun q h1 h2 => by rw [e1]; exact hk q h1 h2
  obtain ⟨g1, g2⟩ := putA_ok hP hD is hC hu hk1 (by rw [e1]; exact hPu)
  have hvr : v = r := by injection hv
  obtain ⟨t2, a1, b1⟩ := kk r u T'.heap (locs ++ L) hp g1 g2 ⟨Nat.le_trans hS.1 (by rw [e1]; exact hz), fun q h1 h2 => by rw [hk1 q (Nat.lt_of_lt_of_le h1 hS.1) (fun z => h2 (hF q z))]; exact hS.2.1 q h1 h2, fun q hq => by
      rcases List.mem_append.mp hq with h | h
      · exact hS.2.2 q h
      · exact hF _ (hL q h)⟩ T' rfl X'
  rw [← hvr] at a1
  exact ⟨t2, st t2 a1, b1⟩
/-- what the tables say of a method that is called -/
def okC (y : MethodName) (bytes : ByteArray) (maxL : Nat) (ret : Option FieldType) (n : Nat) : Prop :=
  Cond.code y bytes maxL ret ∈ GW ∧ Cond.initialized y.cls ∈ GW ∧ y.cls ≠ "java/lang/invoke/MethodHandle" ∧ y.cls ≠ "java/lang/invoke/VarHandle" ∧ (parseMethodDescriptor y.desc).map (fun d => d.parameters.length) = some n
def okV (y : MethodName) : Prop := Cond.instanceMethod y ∈ GW ∧ Cond.selects y.cls y y ∈ GW
theorem ct_pre {av : List Value} (hK : KK g s) (hP : va_P g.1 cls ws H) (hD : va_D A ws) (is : List Nat) (hC : is.map (fun i => ws[i]?) = wc.map some) (hn : va_nd is = true) : ∀ U : State, U.heap = H → s.WarmedH U.vm → PcT g av wc H.size av.toArray U := by
  intro U hU hW
  refine ⟨rfl, by rw [hU], ?_, hK.warm hW, (hD.sub is hn hC).weaken (fun _ _ _ _ => trivial)⟩
  rw [hU]
  intro k q hk
  obtain ⟨i, -, h2⟩ := putA_at hC hk
  exact hP i q h2
variable {own host : String} {index maxL n d d' z z' nL : Nat} {y : MethodName} {bytes : ByteArray} {ret : Option FieldType} {b : Nat}
theorem ct_cb (hg : ∀ w ∈ GW, w.before args s = true) (ok : okC y bytes maxL ret n) (hl : Cond.methodLink own index y ∈ GW) (hR : d + 1 ≤ d' ∧ 8 + (maxL + 11) + z ≤ z') : CallB (rmL d' z') s args own index y bytes maxL ret (.code y bytes maxL ret :: GW) (rmL d z) 0 0 n :=
  callB_of n hg (gw_good (fun _ h => h) ok.1) rfl rfl rfl (hg _ ok.2.1) (hg _ hl) ok.2.2 hR
/-- obj.m(..), m not private -/
theorem ct_V (hx : p.tables.exec = Jvm.exec) (hb : c.code = cc) (hml : c.maxLocals = nL) (hown : s.vm.findClass own = some m.cls) (hg : ∀ w ∈ GW, w.before args s = true) (hK : KK g s) (hP : va_P g.1 cls ws H) (hD : va_D A ws) (hS : va_S A H0 H locs) (hA : ∀ q, H0.size ≤ q → A q) (hls : ls.size = nL)
    {As : List Value} (hM : Ct l g y (.code y bytes maxL ret) d z (.ref b :: As) wc Pst) (ok : okC y bytes maxL ret n) (okv : okV y) (hl : Cond.methodLink own index y ∈ GW) (hR : d + 1 ≤ d' ∧ 8 + (maxL + 11) + z ≤ z')
    (q0 ci : Nat) {fs : List Value} {cq : vw_C} (he : ws[q0]? = some (b, .inr (ci, fs))) (hc : cls[ci]? = some cq) (hcn : cq.1 = y.cls) (is : List Nat) (hnd : va_nd is = true) (hC : is.map (fun i => ws[i]?) = wc.map some) (hn : As.length = n) (hst : st0 = As.reverse ++ .ref b :: rest) (hW : (rest.map fun v => v.category).sum ≤ 8) (hdg : decode cc pc = .ok (.invokevirtual index, 3))
    (kk : ∀ (r : Option Value) (u : va_W) (H1 : Heap) (locs1 : List Loc), Pst r u → va_P g.1 cls (putA ws is u) H1 → va_D A (putA ws is u) → va_S A H0 H1 locs1 → W p l e (rmL d' z') s m args below meth c H1 locs1 0 0 Q (F0 m (pc + 3) ls (r.toList ++ rest))) :
    W p l e (rmL d' z') s m args below meth c H locs 0 0 Q (F0 m pc ls st0) :=
  ct_call (va_runV (C := y.cls) (As := As) (rest := rest) (b := b) ⟨hx, hb, hml, hown, hg⟩ (hM H.size) ⟨ct_cb hg ok hl hR, hg _ okv.1, hg _ okv.2⟩ ⟨PcT.blind, hcn ▸ va_recv hK.1 hP hc he, ct_pre hK hP hD is hC hnd⟩ rfl hn hls hst (lv_room hW) hdg ⟨Nat.le_refl _, Nat.le_refl _⟩) hP hD hS hA is hC kk
/-- C.m(..), static, not private -/
theorem ct_Sx (hx : p.tables.exec = Jvm.exec) (hb : c.code = cc) (hml : c.maxLocals = nL) (hown : s.vm.findClass own = some m.cls) (hg : ∀ w ∈ GW, w.before args s = true) (hK : KK g s) (hP : va_P g.1 cls ws H) (hD : va_D A ws) (hS : va_S A H0 H locs) (hA : ∀ q, H0.size ≤ q → A q) (hls : ls.size = nL)
    {As : List Value} (hM : Ct l g y (.code y bytes maxL ret) d z As wc Pst) (ok : okC y bytes maxL ret n) (oks : Cond.static y ∈ GW) (hl : Cond.methodLink own index y ∈ GW) (hR : d + 1 ≤ d' ∧ 8 + (maxL + 11) + z ≤ z')
    (is : List Nat) (hnd : va_nd is = true) (hC : is.map (fun i => ws[i]?) = wc.map some) (hn : As.length = n) (hst : st0 = As.reverse ++ rest) (hW : (rest.map fun v => v.category).sum ≤ 8) (hdg : decode cc pc = .ok (.invokestatic index, 3))
    (kk : ∀ (r : Option Value) (u : va_W) (H1 : Heap) (locs1 : List Loc), Pst r u → va_P g.1 cls (putA ws is u) H1 → va_D A (putA ws is u) → va_S A H0 H1 locs1 → W p l e (rmL d' z') s m args below meth c H1 locs1 0 0 Q (F0 m (pc + 3) ls (r.toList ++ rest))) :
    W p l e (rmL d' z') s m args below meth c H locs 0 0 Q (F0 m pc ls st0) :=
  ct_call (va_runS (As := As) (rest := rest) ⟨hx, hb, hml, hown, hg⟩ (hM H.size) ⟨ct_cb hg ok hl hR, hg _ oks⟩ ⟨PcT.blind, ct_pre hK hP hD is hC hnd⟩ rfl hn hls hst (lv_room hW) hdg ⟨Nat.le_refl _, Nat.le_refl _⟩) hP hD hS hA is hC kk
end CR
