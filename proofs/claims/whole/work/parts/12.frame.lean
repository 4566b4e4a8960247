/-! a contract beside other cells; a call from any room -/
theorem putA_len : ∀ (is : List Nat) (ws u : va_W), (putA ws is u).length = ws.length
  | [], ws, u => by cases u <;> rfl
  | i :: is, ws, [] => rfl
  | i :: is, ws, x :: xs => by
    show (putA (ws.set i x) is xs).length = ws.length
    rw [putA_len is, List.length_set]
theorem putA_adr {ws wc u : va_W} (is : List Nat) (hC : is.map (fun i => ws[i]?) = wc.map some) (hu : u.map Prod.fst = wc.map Prod.fst) : (putA ws is u).map Prod.fst = ws.map Prod.fst := by
  apply List.ext_getElem?
  intro k
  rw [List.getElem?_map, List.getElem?_map]
  cases hk : (putA ws is u)[k]? with
  | none =>
    have h1 := List.getElem?_eq_none_iff.mp hk
    rw [putA_len] at h1
    rw [List.getElem?_eq_none_iff.mpr h1]
  | some q =>
    rcases putA_get is ws u k q hk with ⟨j, h1, h2⟩ | ⟨-, h2⟩
    · have h3 : (u.map Prod.fst)[j]? = some q.1 := by rw [List.getElem?_map, h2]; rfl
      rw [hu, List.getElem?_map] at h3
      cases hw : wc[j]? with
      | none => rw [hw] at h3; cases h3
      | some q0 =>
        rw [hw] at h3
        obtain ⟨i, h5, h6⟩ := putA_at hC hw
        rw [h1] at h5
        obtain rfl := Option.some.inj h5
        rw [h6]
        exact h3.symm
    · rw [h2]
theorem Ct.frame {l : Launch} {g : Gt} {y : MethodName} {cy : Cond} {d z : Nat} {av : List Value} {wc ws wc' : va_W} {r : Option Value} (hM : Ct l g y cy d z av wc (exP r wc')) (is : List Nat) (hnd : va_nd is = true) (hC : is.map (fun i => ws[i]?) = wc.map some) : Ct l g y cy d z av ws (exP r (putA ws is wc')) := by
  intro sz
  refine MetFree.mono (hM sz) ?_ (fun _ _ _ _ _ h => h) ?_
  · rintro a s ⟨q0, q1, qP, qK, qD⟩
    refine ⟨q0, q1, fun k q hk => ?_, qK, (qD.sub is hnd hC).weaken (fun _ _ _ _ => trivial)⟩
    obtain ⟨i, -, h2⟩ := putA_at hC hk
    exact qP i q h2
  · rintro a s oc s' ⟨-, q1, qP, qK, qD⟩ ⟨⟨⟨r1, u, e1, ⟨e2, e3⟩, hu, hPu, hDu⟩, hz, hk⟩, L, hF, hL⟩
    have hsub : ∀ q, va_A wc sz q → va_A ws sz q := by
      rintro q (⟨k, e, h⟩ | h)
      · obtain ⟨i, -, h2⟩ := putA_at hC h
        exact Or.inl ⟨i, e, h2⟩
      · exact Or.inr h
    obtain ⟨g1, g2⟩ := putA_ok (A := va_A ws sz) qP qD.self is hC hu (fun q h1 h2 => hk q h1 (by rw [q1] at h2; exact h2)) hPu
    exact ⟨⟨⟨r1, putA ws is u, e1, ⟨e2, by rw [e3]⟩, putA_adr is hC hu, g1, g2⟩, hz, fun q h1 h2 => hk q h1 (fun z => h2 (hsub q z))⟩, L, hF, fun q hq => hsub _ (hL q hq)⟩
section CG
variable {p : Program} {l : Launch} {e : Env} {R : Room} {s : State} {m : MethodId} {args : Array Value} {below : List Frame} {meth : Method} {c : Code} {H H0 : Heap} {locs : List Loc} {cells slots : Nat} {Q : State → Prop} {g : Gt} {ws wc : va_W} {A : Nat → Prop} {Pst : Option Value → va_W → Prop} {cc : ByteArray} {pc : Nat} {ls : Array Slot} {rest st0 : List Value} {own : String} {index maxL n d z nL : Nat} {y : MethodName} {bytes : ByteArray} {ret : Option FieldType} {b : Nat}
/-- obj.m(..) from any room -/
theorem ct_G (hx : p.tables.exec = Jvm.exec) (hb : c.code = cc) (hml : c.maxLocals = nL) (hown : s.vm.findClass own = some m.cls) (hg : ∀ w ∈ GW, w.before args s = true) (hK : KK g s) (hP : va_P g.1 cls ws H) (hD : va_D A ws) (hS : va_S A H0 H locs) (hA : ∀ q, H0.size ≤ q → A q) (hls : ls.size = nL)
    {As : List Value} (hM : Ct l g y (.code y bytes maxL ret) d z (.ref b :: As) wc Pst) (ok : okC y bytes maxL ret n) (okv : okV y) (hl : Cond.methodLink own index y ∈ GW) (hR : d + 1 ≤ R.frames ∧ 8 + (maxL + 11) + z ≤ R.locals) (hcs : cells ≤ R.cells ∧ slots ≤ R.slots)
    (q0 ci : Nat) {fs : List Value} {cq : vw_C} (he : ws[q0]? = some (b, .inr (ci, fs))) (hc : cls[ci]? = some cq) (hcn : cq.1 = y.cls) (is : List Nat) (hnd : va_nd is = true) (hC : is.map (fun i => ws[i]?) = wc.map some) (hn : As.length = n) (hst : st0 = As.reverse ++ .ref b :: rest) (hW : (rest.map fun v => v.category).sum ≤ 8) (hdg : decode cc pc = .ok (.invokevirtual index, 3))
    (kk : ∀ (r : Option Value) (u : va_W) (H1 : Heap) (locs1 : List Loc), Pst r u → va_P g.1 cls (putA ws is u) H1 → va_D A (putA ws is u) → va_S A H0 H1 locs1 → W p l e R s m args below meth c H1 locs1 cells slots Q (F0 m (pc + 3) ls (r.toList ++ rest))) :
    W p l e R s m args below meth c H locs cells slots Q (F0 m pc ls st0) :=
  ct_call (va_runV (C := y.cls) (As := As) (rest := rest) (b := b) ⟨hx, hb, hml, hown, hg⟩ (hM H.size) ⟨callB_of n hg (gw_good (fun _ h => h) ok.1) rfl rfl rfl (hg _ ok.2.1) (hg _ hl) ok.2.2 hR, hg _ okv.1, hg _ okv.2⟩ ⟨PcT.blind, hcn ▸ va_recv hK.1 hP hc he, ct_pre hK hP hD is hC hnd⟩ rfl hn hls hst (lv_room hW) hdg hcs) hP hD hS hA is hC kk
end CG
