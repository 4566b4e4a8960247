/-! constructors: contracts that make cells -/
abbrev rmN (d mc ms z : Nat) : Room := { frames := d, cells := mc, slots := ms, locals := z }
def QnT (g : Gt) (Pst : va_W → Prop) (A : Nat → Prop) : Array Value → State → Outcome → State → Prop := fun _ st oc t => (∃ u : va_W, oc = .returned none ∧ Pst u ∧ va_P g.1 cls u t.heap ∧ va_D A u) ∧ va_F A st t
def Cn (l : Launch) (g : Gt) (y : MethodName) (cy : Cond) (d mc ms z : Nat) (av : List Value) (w : va_W) (Pst : va_W → Prop) : Prop :=
  ∀ sz : Nat, Met l y (cy :: GW) (rmN d mc ms z) (PcT g av w sz) (QnT g Pst (va_A w sz)) mc ms (va_A w sz)
theorem Cn.ofW {l : Launch} {g : Gt} {y : MethodName} {cc : ByteArray} {maxL : Nat} {d mc ms z : Nat} {av : List Value} {w : va_W} {Pst : va_W → Prop}
    (hy : plainName y.cls = true) (hyn : y.name = "<init>") (hlen : (lg_sl av).length ≤ maxL)
    (body : ∀ (p : Program) (e : Env) (s : State) (m : MethodId) (args : Array Value) (below : List Frame) (meth : Method) (c : Code) (A : Nat → Prop) (ls : Array Slot) (H : Heap) (locs : List Loc) (Q : State → Prop), p.tables.exec = Jvm.exec → c.code = cc → meth.sig.returnType = none → meth.locks = false → meth.name = "<init>" → c.maxLocals = maxL → s.vm.findClass y.cls = some m.cls → (∀ w ∈ GW, w.before args s = true) → KK g s → va_P g.1 cls w H → va_D A w → (∀ q, s.heap.size ≤ q → A q) → va_S A s.heap H locs → Q = MQ below (QnT g Pst A) args s mc ms A → lv_has ls maxL (lv_args 0 av) →
      W p l e (rmN d mc ms z) s m args below meth c H locs 0 0 Q (F0 m 0 ls [])) :
    Cn l g y (.code y cc maxL none) d mc ms z av w Pst := by
  intro sz
  refine Met.ofW (cc := cc) (maxL := maxL) (ret := none) hy rfl ?_
  intro p e s m args below meth c s₁ B hml hv
  obtain ⟨rfl, hsz, hP, hK, hD0⟩ := hv
  subst hsz
  have hts := atoms_spec (ws := .code y cc maxL none :: GW) B.pre
  have hl := lv_entry av (n := maxL) hlen
  rw [lg_entry_eq]
  exact body p e s m av.toArray below meth c (va_A w s.heap.size) _ s.heap [] _ B.exec B.bytes B.returns B.notSynchronized ((name_of_methodNamed B.named B.method).1.trans hyn) hml (findClass_of_methodNamed B.named) (fun w hw => hts w (List.mem_cons_of_mem _ hw)) hK hP (hD0.self) (fun q h => Or.inr h) va_S.rf rfl hl
/-- the same, where the class of arrays of backups is there -/
def PcA (g : Gt) (av : List Value) (w : va_W) (sz : Nat) : Array Value → State → Prop := fun a U => PcT g av w sz a U ∧ va_AO "TornBackups$Backup" U
theorem PcA.blind {g : Gt} {av : List Value} {w : va_W} {sz : Nat} : FrameBlind (PcA g av w sz) := fun a U gg mk q => ⟨PcT.blind a U gg mk q.1, va_AO.moved (u := U) (U := U.calling gg mk a) (Vm.Alike.refl U.vm) q.2⟩
def CnA (l : Launch) (g : Gt) (y : MethodName) (cy : Cond) (d mc ms z : Nat) (av : List Value) (w : va_W) (Pst : va_W → Prop) : Prop :=
  ∀ sz : Nat, Met l y (cy :: GW) (rmN d mc ms z) (PcA g av w sz) (QnT g Pst (va_A w sz)) mc ms (va_A w sz)
theorem CnA.ofW {l : Launch} {g : Gt} {y : MethodName} {cc : ByteArray} {maxL : Nat} {d mc ms z : Nat} {av : List Value} {w : va_W} {Pst : va_W → Prop}
    (hy : plainName y.cls = true) (hyn : y.name = "<init>") (hlen : (lg_sl av).length ≤ maxL)
    (body : ∀ (p : Program) (e : Env) (s : State) (m : MethodId) (args : Array Value) (below : List Frame) (meth : Method) (c : Code) (A : Nat → Prop) (ls : Array Slot) (H : Heap) (locs : List Loc) (Q : State → Prop), p.tables.exec = Jvm.exec → c.code = cc → meth.sig.returnType = none → meth.locks = false → meth.name = "<init>" → c.maxLocals = maxL → s.vm.findClass y.cls = some m.cls → (∀ w ∈ GW, w.before args s = true) → KK g s → va_AO "TornBackups$Backup" s → va_P g.1 cls w H → va_D A w → (∀ q, s.heap.size ≤ q → A q) → va_S A s.heap H locs → Q = MQ below (QnT g Pst A) args s mc ms A → lv_has ls maxL (lv_args 0 av) →
      W p l e (rmN d mc ms z) s m args below meth c H locs 0 0 Q (F0 m 0 ls [])) :
    CnA l g y (.code y cc maxL none) d mc ms z av w Pst := by
  intro sz
  refine Met.ofW (cc := cc) (maxL := maxL) (ret := none) hy rfl ?_
  intro p e s m args below meth c s₁ B hml hv
  obtain ⟨⟨rfl, hsz, hP, hK, hD0⟩, hAO⟩ := hv
  subst hsz
  have hts := atoms_spec (ws := .code y cc maxL none :: GW) B.pre
  have hl := lv_entry av (n := maxL) hlen
  rw [lg_entry_eq]
  exact body p e s m av.toArray below meth c (va_A w s.heap.size) _ s.heap [] _ B.exec B.bytes B.returns B.notSynchronized ((name_of_methodNamed B.named B.method).1.trans hyn) hml (findClass_of_methodNamed B.named) (fun w hw => hts w (List.mem_cons_of_mem _ hw)) hK hAO hP (hD0.self) (fun q h => Or.inr h) va_S.rf rfl hl
section NC
variable {p : Program} {l : Launch} {e : Env} {R : Room} {s : State} {m : MethodId} {args : Array Value} {below : List Frame} {meth : Method} {c : Code} {H H0 : Heap} {locs : List Loc} {cells slots : Nat} {Q : State → Prop} {g : Gt} {ws w u : va_W} {A : Nat → Prop} {Pst : va_W → Prop} {cc : ByteArray} {pc : Nat} {ls : Array Slot} {rest st0 : List Value} {a : Nat}
theorem cn_ret (hQ : Q = MQ below (QnT g Pst A) args s cells slots A) (hx : p.tables.exec = Jvm.exec) (hb : c.code = cc) (hr : meth.sig.returnType = none) (hlk : meth.locks = false) (hP : va_P g.1 cls u H) (hD : va_D A u) (hS : va_S A s.heap H locs) (hdg : decode cc pc = .ok (.return_, 1)) (hp : Pst u) :
    W p l e R s m args below meth c H locs cells slots Q (F0 m pc ls []) := by
  subst hQ
  exact W.vret hx hb hr (fun t ht _ => ⟨⟨u, rfl, hp, by rw [ht]; exact hP, hD⟩, hS.F ht⟩) hS.2.2 hdg hlk
theorem nw_eq {U : State} {cA cB : ClassId} {ty : FieldType} (h1 : va_RA U cA ty) (h2 : va_RA U cB ty) : cA = cB := by
  cases ty with
  | object C =>
    obtain ⟨-, -, -, -, -, a⟩ := h1
    obtain ⟨-, -, -, -, -, b⟩ := h2
    exact Option.some.inj (a.symm.trans b)
  | _ => exact Option.some.inj ((show U.vm.findClass _ = some cA from h1).symm.trans h2)
/-- new int[n] -/
theorem wv_newi (hx : p.tables.exec = Jvm.exec) (hb : c.code = cc) (hg : ∀ w ∈ GW, w.before args s = true) (harr : Cond.arrayClass .int ∈ GW) (hK : KK g s) (hP : va_P g.1 cls ws H) (hD : va_D A ws) (hS : va_S A H0 H locs) (hA : ∀ q, H0.size ≤ q → A q) {n k j : Nat} (hn : n ≤ 1000) (hcells : cells + 1 ≤ R.cells) (hslots : slots + n ≤ R.slots) (hk : cells + 1 = k) (hj : slots + n = j) (hdg : decode cc pc = .ok (.newarray .int, 2))
    (kk : ∀ (q : Nat) (H1 : Heap), va_P g.1 cls (ws ++ [(q, .inl (g.2.1, n, .inl (fun _ => nI 0)))]) H1 → va_D A (ws ++ [(q, .inl (g.2.1, n, .inl (fun _ => nI 0)))]) → va_S A H0 H1 locs → W p l e R s m args below meth c H1 locs k j Q (F0 m (pc + 2) ls (.ref q :: rest))) :
    W p l e R s m args below meth c H locs cells slots Q (F0 m pc ls (.int (nI n) :: rest)) := by
  subst hk; subst hj
  refine va_newa (atype := .int) (ty := .int) (a0 := (n, .inl (fun _ => nI 0))) hx hb (hg _ harr) rfl hK.1 hP hD hS hA (fun cA => rfl) (nI_pos (by omega)) (nI_clamp (by omega)) (by show n * 4 ≤ 536870912; omega) hcells hslots hdg (fun q cA H1 hK1 hP1 hD1 hS1 => ?_)
  have e := nw_eq (hK1.2 3 _ rfl).2 (hK.1.2 0 _ rfl).2
  subst e
  exact kk q H1 hP1 hD1 hS1
/-- new boolean[n] -/
theorem wv_newz (hx : p.tables.exec = Jvm.exec) (hb : c.code = cc) (hg : ∀ w ∈ GW, w.before args s = true) (harr : Cond.arrayClass .boolean ∈ GW) (hK : KK g s) (hP : va_P g.1 cls ws H) (hD : va_D A ws) (hS : va_S A H0 H locs) (hA : ∀ q, H0.size ≤ q → A q) {n k j : Nat} (hn : n ≤ 1000) (hcells : cells + 1 ≤ R.cells) (hslots : slots + n ≤ R.slots) (hk : cells + 1 = k) (hj : slots + n = j) (hdg : decode cc pc = .ok (.newarray .boolean, 2))
    (kk : ∀ (q : Nat) (H1 : Heap), va_P g.1 cls (ws ++ [(q, .inl (g.2.2.1, n, .inl (fun _ => nI 0)))]) H1 → va_D A (ws ++ [(q, .inl (g.2.2.1, n, .inl (fun _ => nI 0)))]) → va_S A H0 H1 locs → W p l e R s m args below meth c H1 locs k j Q (F0 m (pc + 2) ls (.ref q :: rest))) :
    W p l e R s m args below meth c H locs cells slots Q (F0 m pc ls (.int (nI n) :: rest)) := by
  subst hk; subst hj
  refine va_newa (atype := .boolean) (ty := .boolean) (a0 := (n, .inl (fun _ => nI 0))) hx hb (hg _ harr) rfl hK.1 hP hD hS hA (fun cA => rfl) (nI_pos (by omega)) (nI_clamp (by omega)) (by show n * 1 ≤ 536870912; omega) hcells hslots hdg (fun q cA H1 hK1 hP1 hD1 hS1 => ?_)
  have e := nw_eq (hK1.2 3 _ rfl).2 (hK.1.2 1 _ rfl).2
  subst e
  exact kk q H1 hP1 hD1 hS1
/-- new Backup[n] -/
theorem wv_newq (hx : p.tables.exec = Jvm.exec) (hb : c.code = cc) (hg : ∀ w ∈ GW, w.before args s = true) {own : String} {index : Nat} (hown : s.vm.findClass own = some m.cls) (hcl : Cond.classLink own index "TornBackups$Backup" ∈ GW) (hov : va_AO "TornBackups$Backup" s) (hK : KK g s) (hP : va_P g.1 cls ws H) (hD : va_D A ws) (hS : va_S A H0 H locs) (hA : ∀ q, H0.size ≤ q → A q) {n k j : Nat} (hn : n ≤ 1000) (hcells : cells + 1 ≤ R.cells) (hslots : slots + n ≤ R.slots) (hk : cells + 1 = k) (hj : slots + n = j) (hdg : decode cc pc = .ok (.anewarray index, 3))
    (kk : ∀ (q : Nat) (H1 : Heap), va_P g.1 cls (ws ++ [(q, .inl (g.2.2.2, n, .inr (.inr (.inr (.inr (fun _ => none))))))]) H1 → va_D A (ws ++ [(q, .inl (g.2.2.2, n, .inr (.inr (.inr (.inr (fun _ => none))))))]) → va_S A H0 H1 locs → W p l e R s m args below meth c H1 locs k j Q (F0 m (pc + 3) ls (.ref q :: rest))) :
    W p l e R s m args below meth c H locs cells slots Q (F0 m pc ls (.int (nI n) :: rest)) := by
  subst hk; subst hj
  refine va_newq hx hb hown (hg _ hcl) hov hK.1 hP hD hS hA (nI_pos (by omega)) (nI_clamp (by omega)) (by omega) hcells hslots hdg (fun q cA H1 hK1 hP1 hD1 hS1 => ?_)
  have e := nw_eq (hK1.2 3 _ rfl).2 (hK.1.2 2 _ rfl).2
  subst e
  exact kk q H1 hP1 hD1 hS1
/-- a final field, in its class's constructor -/
theorem wv_putF (hx : p.tables.exec = Jvm.exec) (hb : c.code = cc) (hg : ∀ w ∈ GW, w.before args s = true) {own : String} {T : u_T} {N ci index : Nat} (hin : ∀ w ∈ u_ws own T N, w ∈ GW) (hc : cls[ci]? = some (own, T, N)) (ty0 : Nat → FieldType) (hty : ∀ k, k < N → parseFieldDescriptor (T k).2.2.1 = some (ty0 k)) (hnm : ∀ a, a < N → ∀ b, b < N → a ≠ b → (T a).2.1 ≠ (T b).2.1) (hown : s.vm.findClass own = some m.cls) (hmn : meth.name = "<init>") (hK : KK g s) (hP : va_P g.1 cls ws H) (hD : va_D A ws) (hS : va_S A H0 H locs) (q0 : Nat) {fs : List Value} (he : ws[q0]? = some (a, .inr (ci, fs))) (k : Nat) (hk : k < N) (hT : (T k).1 = own) (hlink : Cond.fieldLink own index own (T k).2.1 (T k).2.2.1 ∈ GW) (hfin : (T k).2.2.2 = true) {v : Value} (hn : narrow (ty0 k) v = v) (hfit : fits (ty0 k) v = true) (hl : k < fs.length) (hdg : decode cc pc = .ok (.putfield index, 3))
    (kk : ∀ (H1 : Heap) (locs1 : List Loc), va_P g.1 cls (ws.set q0 (a, .inr (ci, fs.set k v))) H1 → va_D A (ws.set q0 (a, .inr (ci, fs.set k v))) → va_S A H0 H1 locs1 → W p l e R s m args below meth c H1 locs1 cells slots Q (F0 m (pc + 3) ls rest)) : W p l e R s m args below meth c H locs cells slots Q (F0 m pc ls (v :: .ref a :: rest)) :=
  va_putF (C := own) (T := T) (N := N) hx hb hg hin ty0 hty hnm hown hK.1 hP hD hS q0 he hc k hk (hg _ hlink) (fun x h => by rw [hT] at h; exact h) hfin hmn hT (hty k hk) hn hfit hl hdg kk
/-- new C -/
theorem wv_new (hx : p.tables.exec = Jvm.exec) (hb : c.code = cc) (hg : ∀ w ∈ GW, w.before args s = true) {own C : String} {T : u_T} {N ci index k j : Nat} (hin : ∀ w ∈ u_ws C T N, w ∈ GW) (ty : Nat → FieldType) (hty : ∀ k, k < N → parseFieldDescriptor (T k).2.2.1 = some (ty k)) (hown : s.vm.findClass own = some m.cls) (hcl : Cond.classLink own index C ∈ GW) (hinst : Cond.instantiable C N ∈ GW) (hini : Cond.initialized C ∈ GW) (hK : KK g s) (hP : va_P g.1 cls ws H) (hD : va_D A ws) (hS : va_S A H0 H locs) (hA : ∀ q, H0.size ≤ q → A q) (hc : cls[ci]? = some (C, T, N)) {fs : List Value} (hfs : ∀ j, j < N → defaultValue (ty j) = vp_V fs j) (hcells : cells + 1 ≤ R.cells) (hslots : slots + N ≤ R.slots) (hk : cells + 1 = k) (hj : slots + N = j) (hdg : decode cc pc = .ok (.new index, 3))
    (kk : ∀ (q : Nat) (H1 : Heap), va_P g.1 cls (ws ++ [(q, .inr (ci, fs))]) H1 → va_D A (ws ++ [(q, .inr (ci, fs))]) → va_S A H0 H1 locs → W p l e R s m args below meth c H1 locs k j Q (F0 m (pc + 3) ls (.ref q :: rest))) : W p l e R s m args below meth c H locs cells slots Q (F0 m pc ls rest) := by
  subst hk; subst hj
  exact va_new (ci := ci) (fs := fs) (C := C) (T := T) (N := N) hx hb hg hin ty hty hown (hg _ hcl) (hg _ hinst) (hg _ hini) hK.1 hP hD hS hA hc hfs hcells hslots hdg kk
/-- backups[j] = b -/
theorem wv_aast (hx : p.tables.exec = Jvm.exec) (hb : c.code = cc) (hK : KK g s) (hP : va_P g.1 cls ws H) (hD : va_D A ws) (hS : va_S A H0 H locs) (q0 qk : Nat) {n v j : Nat} {vs : List Value} {f : Nat → Option Nat} (ha : ws[q0]? = some (a, .inl (g.2.2.2, n, .inr (.inr (.inr (.inr f)))))) (hv : ws[qk]? = some (v, .inr (4, vs))) (hj : j < n) (hn : n < 2 ^ 31) (hdg : decode cc pc = .ok (.aastore, 1))
    (kk : ∀ (H1 : Heap) (locs1 : List Loc), va_P g.1 cls (ws.set q0 (a, .inl (g.2.2.2, n, .inr (.inr (.inr (.inr (va_up f j (some v)))))))) H1 → va_D A (ws.set q0 (a, .inl (g.2.2.2, n, .inr (.inr (.inr (.inr (va_up f j (some v)))))))) → va_S A H0 H1 locs1 → W p l e R s m args below meth c H1 locs1 cells slots Q (F0 m (pc + 1) ls rest)) : W p l e R s m args below meth c H locs cells slots Q (F0 m pc ls (.ref v :: .int (nI j) :: .ref a :: rest)) := by
  refine va_astq hx hb hK.1 hP hD hS q0 2 qk 4 (r := (R_Bk, F_Bk, 7)) ha rfl hv rfl (vp_in_nI hj hn) hdg ?_
  rw [nI_clamp (by omega)]; exact kk
/-- Object's own constructor -/
theorem wv_obj (hx : p.tables.exec = Jvm.exec) (hb : c.code = cc) (hg : ∀ w ∈ GW, w.before args s = true) {own : String} {index : Nat} (hown : s.vm.findClass own = some m.cls) (hl : Cond.methodLink own index Lib.objectInit ∈ GW) (hi : Cond.instanceMethod Lib.objectInit ∈ GW) (hc : Cond.code Lib.objectInit ⟨#[0xb1]⟩ 1 none ∈ GW) (hml : c.maxLocals = ls.size) (hdg : decode cc pc = .ok (.invokespecial index, 3)) (hframes : 1 ≤ R.frames) (hlocals : 12 ≤ R.locals) (kk : W p l e R s m args below meth c H locs cells slots Q (F0 m (pc + 3) ls [])) : W p l e R s m args below meth c H locs cells slots Q (F0 m pc ls [.ref a]) :=
  W.objInit hx hb hown (hg _ hl) (hg _ hi) (hg _ hc) rfl hml.symm rfl hdg hframes (by show 2 * 0 + 0 + 12 ≤ _; omega) kk
theorem cn_call {aa : Array Value} {wc wr : va_W} {mc ms k j : Nat} (hr : va_Run p l e R s m args below meth c H locs cells slots mc ms (F0 m pc ls st0) rest (QnT g Pst (va_A wc H.size) aa) (va_A wc H.size))
    (hP : va_P g.1 cls ws H) (hD : va_D A ws) (hS : va_S A H0 H locs) (hA : ∀ q, H0.size ≤ q → A q) (isC isR : List Nat) (hC : isC.map (fun i => ws[i]?) = wc.map some) (hRr : isR.map (fun i => ws[i]?) = wr.map some) (hn : va_nd isR = true) (hdis : ∀ i ∈ isR, i ∉ isC) (hk : cells + mc = k) (hj : slots + ms = j)
    (kk : ∀ (u : va_W) (H1 : Heap) (locs1 : List Loc), Pst u → va_P g.1 cls (wr ++ u) H1 → va_D A (wr ++ u) → va_S A H0 H1 locs1 → W p l e R s m args below meth c H1 locs1 k j Q (F0 m (pc + 3) ls rest)) :
    W p l e R s m args below meth c H locs cells slots Q (F0 m pc ls st0) := by
  subst hk; subst hj
  have hF := va_free hD hS hA isC hC
  intro T hT X
  obtain ⟨v, st₀, t, T', L, h0, X', hL, e1, e2, ⟨⟨u, hv, hp, hPu, hDu⟩, hz, hkk⟩, st⟩ := hr T hT X
  rw [h0] at hz hkk
  have hk1 : ∀ q : Nat, q < H.size → ¬ va_A wc H.size q → T'.heap[q]? = H[q]? := fun q h1 h2 => by rw [e1]; exact hkk q h1 h2
  obtain ⟨g1, g2⟩ := va_join hP hD isC isR hC hRr hn hdis hk1 hF (by rw [e1]; exact hPu) hDu
  have hvr : v = none := by injection hv
  obtain ⟨t2, a1, b1⟩ := kk u T'.heap (locs ++ L) hp g1 g2 ⟨Nat.le_trans hS.1 (by rw [e1]; exact hz), fun q h1 h2 => by rw [hk1 q (Nat.lt_of_lt_of_le h1 hS.1) (fun z => h2 (hF q z))]; exact hS.2.1 q h1 h2, fun q hq => by
      rcases List.mem_append.mp hq with h | h
      · exact hS.2.2 q h
      · exact hF _ (hL q h)⟩ T' rfl X'
  rw [hvr] at st
  exact ⟨t2, st t2 a1, b1⟩
variable {own : String} {index maxL d z nL mc ms k j b : Nat} {y : MethodName} {bytes : ByteArray} {wr : va_W}
/-- new C(): a nest mate's private constructor -/
theorem cn_IN (hx : p.tables.exec = Jvm.exec) (hb : c.code = cc) (hml : c.maxLocals = nL) (hown : s.vm.findClass own = some m.cls) (hg : ∀ w ∈ GW, w.before args s = true) (hK : KK g s) (hP : va_P g.1 cls ws H) (hD : va_D A ws) (hS : va_S A H0 H locs) (hA : ∀ q, H0.size ≤ q → A q) (hls : ls.size = nL) {fs : List Value} {ci : Nat}
    (hM : Cn l g y (.code y bytes maxL none) d mc ms z [.ref b] [(b, .inr (ci, fs))] Pst) (ok : okC y bytes maxL none 0) (oki : Cond.instanceMethod y ∈ GW) (hyn : y.name = "<init>") {host : String} (hl : Cond.methodLinkNest own index y host ∈ NL) (hR : d + 1 ≤ R.frames ∧ 8 + (maxL + 11) + z ≤ R.locals) (hcs : cells + mc ≤ R.cells ∧ slots + ms ≤ R.slots) (hk : cells + mc = k) (hj : slots + ms = j)
    (isC isR : List Nat) (hnd : va_nd isC = true) (hC : isC.map (fun i => ws[i]?) = [(b, Sum.inr (ci, fs))].map some) (hRr : isR.map (fun i => ws[i]?) = wr.map some) (hn : va_nd isR = true) (hdis : ∀ i ∈ isR, i ∉ isC) (hst : st0 = .ref b :: rest) (hW : (rest.map fun v => v.category).sum ≤ 8) (hdg : decode cc pc = .ok (.invokespecial index, 3))
    (kk : ∀ (u : va_W) (H1 : Heap) (locs1 : List Loc), Pst u → va_P g.1 cls (wr ++ u) H1 → va_D A (wr ++ u) → va_S A H0 H1 locs1 → W p l e R s m args below meth c H1 locs1 k j Q (F0 m (pc + 3) ls rest)) :
    W p l e R s m args below meth c H locs cells slots Q (F0 m pc ls st0) :=
  cn_call (va_runIN (As := []) (rest := rest) (b := b) ⟨hx, hb, hml, hown, hg⟩ (hM H.size) ⟨va_cnB 0 hg (gw_good (fun _ h => h) ok.1) rfl rfl rfl (hK.2 _ hl) (hg _ ok.2.1) ok.2.2 hR, hyn, hg _ oki⟩ ⟨PcT.blind, ct_pre hK hP hD isC hC hnd⟩ rfl rfl hls hst (lv_room hW) hdg hcs) hP hD hS hA isC isR hC hRr hn hdis hk hj kk
/-- new C(): a constructor that is not private -/
theorem cn_I (hx : p.tables.exec = Jvm.exec) (hb : c.code = cc) (hml : c.maxLocals = nL) (hown : s.vm.findClass own = some m.cls) (hg : ∀ w ∈ GW, w.before args s = true) (hK : KK g s) (hP : va_P g.1 cls ws H) (hD : va_D A ws) (hS : va_S A H0 H locs) (hA : ∀ q, H0.size ≤ q → A q) (hls : ls.size = nL) {fs : List Value} {ci : Nat}
    (hM : Cn l g y (.code y bytes maxL none) d mc ms z [.ref b] [(b, .inr (ci, fs))] Pst) (ok : okC y bytes maxL none 0) (oki : Cond.instanceMethod y ∈ GW) (hyn : y.name = "<init>") (hl : Cond.methodLink own index y ∈ GW) (hR : d + 1 ≤ R.frames ∧ 8 + (maxL + 11) + z ≤ R.locals) (hcs : cells + mc ≤ R.cells ∧ slots + ms ≤ R.slots) (hk : cells + mc = k) (hj : slots + ms = j)
    (isC isR : List Nat) (hnd : va_nd isC = true) (hC : isC.map (fun i => ws[i]?) = [(b, Sum.inr (ci, fs))].map some) (hRr : isR.map (fun i => ws[i]?) = wr.map some) (hn : va_nd isR = true) (hdis : ∀ i ∈ isR, i ∉ isC) (hst : st0 = .ref b :: rest) (hW : (rest.map fun v => v.category).sum ≤ 8) (hdg : decode cc pc = .ok (.invokespecial index, 3))
    (kk : ∀ (u : va_W) (H1 : Heap) (locs1 : List Loc), Pst u → va_P g.1 cls (wr ++ u) H1 → va_D A (wr ++ u) → va_S A H0 H1 locs1 → W p l e R s m args below meth c H1 locs1 k j Q (F0 m (pc + 3) ls rest)) :
    W p l e R s m args below meth c H locs cells slots Q (F0 m pc ls st0) :=
  cn_call (va_runI (As := []) (rest := rest) (b := b) ⟨hx, hb, hml, hown, hg⟩ (hM H.size) ⟨callB_of 0 hg (gw_good (fun _ h => h) ok.1) rfl rfl rfl (hg _ ok.2.1) (hg _ hl) ok.2.2 hR, hyn, hg _ oki⟩ ⟨PcT.blind, ct_pre hK hP hD isC hC hnd⟩ rfl rfl hls hst (lv_room hW) hdg hcs) hP hD hS hA isC isR hC hRr hn hdis hk hj kk
/-- new C(): a constructor that is not private and needs the class of arrays of backups -/
theorem cn_IA (hx : p.tables.exec = Jvm.exec) (hb : c.code = cc) (hml : c.maxLocals = nL) (hown : s.vm.findClass own = some m.cls) (hg : ∀ w ∈ GW, w.before args s = true) (hK : KK g s) (hAO : va_AO "TornBackups$Backup" s) (hP : va_P g.1 cls ws H) (hD : va_D A ws) (hS : va_S A H0 H locs) (hA : ∀ q, H0.size ≤ q → A q) (hls : ls.size = nL) {fs : List Value} {ci : Nat}
    (hM : CnA l g y (.code y bytes maxL none) d mc ms z [.ref b] [(b, .inr (ci, fs))] Pst) (ok : okC y bytes maxL none 0) (oki : Cond.instanceMethod y ∈ GW) (hyn : y.name = "<init>") (hl : Cond.methodLink own index y ∈ GW) (hR : d + 1 ≤ R.frames ∧ 8 + (maxL + 11) + z ≤ R.locals) (hcs : cells + mc ≤ R.cells ∧ slots + ms ≤ R.slots) (hk : cells + mc = k) (hj : slots + ms = j)
    (isC isR : List Nat) (hnd : va_nd isC = true) (hC : isC.map (fun i => ws[i]?) = [(b, Sum.inr (ci, fs))].map some) (hRr : isR.map (fun i => ws[i]?) = wr.map some) (hn : va_nd isR = true) (hdis : ∀ i ∈ isR, i ∉ isC) (hst : st0 = .ref b :: rest) (hW : (rest.map fun v => v.category).sum ≤ 8) (hdg : decode cc pc = .ok (.invokespecial index, 3))
    (kk : ∀ (u : va_W) (H1 : Heap) (locs1 : List Loc), Pst u → va_P g.1 cls (wr ++ u) H1 → va_D A (wr ++ u) → va_S A H0 H1 locs1 → W p l e R s m args below meth c H1 locs1 k j Q (F0 m (pc + 3) ls rest)) :
    W p l e R s m args below meth c H locs cells slots Q (F0 m pc ls st0) :=
  cn_call (va_runI (As := []) (rest := rest) (b := b) ⟨hx, hb, hml, hown, hg⟩ (hM H.size) ⟨callB_of 0 hg (gw_good (fun _ h => h) ok.1) rfl rfl rfl (hg _ ok.2.1) (hg _ hl) ok.2.2 hR, hyn, hg _ oki⟩ ⟨PcA.blind, fun U hU hW => ⟨ct_pre hK hP hD isC hC hnd U hU hW, hAO.moved hW.alike⟩⟩ rfl rfl hls hst (lv_room hW) hdg hcs) hP hD hS hA isC isR hC hRr hn hdis hk hj kk
end NC
