/-! a method that writes: it owns the cells w, reads the cells v besides; behind it the cells w1 and the answer o -/
def apartW (w v : va_W) : Prop := ∀ (j : Nat) (x : Nat × va_E) (k : Nat) (q : Nat × va_E), w[j]? = some x → v[k]? = some q → x.1 ≠ q.1
def rwP (G : GG) (av : List Value) (w v : va_W) (sz : Nat) : Array Value → State → Prop := va_Pc av (fun U => GK G U ∧ U.heap.size = sz ∧ va_P G.1 vwCl w U.heap ∧ va_D (fun _ => True) w ∧ va_P G.1 vwCl v U.heap ∧ apartW w v)
def rwA (G : GG) (A : Nat → Prop) (post : Option Value → va_W → Prop) : Array Value → State → Outcome → State → Prop := fun _ st oc t => ∃ (o : Option Value) (w1 : va_W), oc = .returned o ∧ post o w1 ∧ va_P G.1 vwCl w1 t.heap ∧ va_D A w1 ∧ va_F A st t
abbrev det (o : Option Value) (w1 : va_W) : Option Value → va_W → Prop := fun x y => x = o ∧ y = w1
theorem rwP_blind (G : GG) (av : List Value) (w v : va_W) (sz : Nat) : FrameBlind (rwP G av w v sz) := fun a U g mk q => by
  obtain ⟨q0, q1, q2⟩ := q
  exact ⟨q0, GK.same (u := U) (U := U.calling g mk a) rfl q1, q2⟩
/-- the cells that are read stay as they were -/
def roV (A : Nat → Prop) (sz : Nat) (v : va_W) : Prop := ∀ (k : Nat) (q : Nat × va_E), v[k]? = some q → q.1 < sz ∧ ¬ A q.1
theorem rk {G : GG} {A : Nat → Prop} {v : va_W} {H0 H : Heap} {locs : List Loc} (h : va_P G.1 vwCl v H0) (hV : roV A H0.size v) (hS : va_S A H0 H locs) : va_P G.1 vwCl v H := h.kept (fun k q hk => hS.2.1 q.1 (hV k q hk).1 (hV k q hk).2)
theorem roV.sub {A : Nat → Prop} {sz : Nat} {v v' : va_W} (h : roV A sz v) (is : List Nat) (hs : is.filterMap (fun i => v[i]?) = v') : roV A sz v' := by
  intro k q hk
  subst hs
  obtain ⟨i, -, hi⟩ := List.mem_filterMap.mp (List.mem_of_getElem? hk)
  exact h i q hi
/-- what a callee owns is apart from what the caller only reads -/
theorem ap_ro {A : Nat → Prop} {sz : Nat} {ws w v v' : va_W} (hD : va_D A ws) (hV : roV A sz v) (isC isV : List Nat) (hC : isC.map (fun i => ws[i]?) = w.map some) (hs : isV.filterMap (fun i => v[i]?) = v') : apartW w v' := by
  intro j x k q hx hq he
  obtain ⟨i, -, hi⟩ := va_in_of isC hC hx
  exact ((hV.sub isV hs) k q hq).2 (he ▸ hD.2 i x (by assumption))
/-- what a callee owns is apart from the caller's other cells -/
theorem ap_own {A : Nat → Prop} {ws w v' : va_W} (hD : va_D A ws) (isC isV : List Nat) (hC : isC.map (fun i => ws[i]?) = w.map some) (hs : isV.map (fun i => ws[i]?) = v'.map some) (hdis : ∀ i ∈ isV, i ∉ isC) : apartW w v' := by
  intro j x k q hx hq he
  obtain ⟨i, hi1, hi⟩ := va_in_of isC hC hx
  obtain ⟨i2, hi3, hi4⟩ := va_in_of isV hs hq
  have e := hD.1 i i2 x q hi hi4 he
  subst e
  exact hdis i (List.mem_of_getElem? hi3) (List.mem_of_getElem? hi1)
theorem ap_nil {w : va_W} : apartW w [] := fun j x k q _ h => by simp at h
theorem ap_app {w v1 v2 : va_W} (h1 : apartW w v1) (h2 : apartW w v2) : apartW w (v1 ++ v2) := by
  intro j x k q hx hq
  rcases List.mem_append.mp (List.mem_of_getElem? hq) with h | h
  · obtain ⟨i, hi⟩ := List.getElem?_of_mem h
    exact h1 j x i q hx hi
  · obtain ⟨i, hi⟩ := List.getElem?_of_mem h
    exact h2 j x i q hx hi
theorem va_P.subm {D : va_G} {cl : List vw_C} {ws w : va_W} {H : Heap} (h : va_P D cl ws H) (is : List Nat) (hs : is.map (fun i => ws[i]?) = w.map some) : va_P D cl w H := by
  intro k q hk
  obtain ⟨i, -, hi⟩ := va_in_of is hs hk
  exact h i q hi
theorem upd_nI (F : Nat → Nat) (j : Nat) (v : Nat) : upd (fun k => iI ((F k : Nat) : Int)) j (iI (v : Int)) = fun k => iI ((va_up F j v k : Nat) : Int) := by
  funext k
  simp only [upd, va_up]
  split <;> rfl
section KZ
variable {p : Program} {l : Launch} {e : Env} {R : Room} {s : State} {m : MethodId} {args : Array Value} {below : List Frame} {meth : Method} {c : Code} {H H0 : Heap} {locs : List Loc} {cells slots : Nat} {Q : State → Prop} {cc : ByteArray} {pc : Nat} {ls : Array Slot} {rest : List Value} {G : GG} {ws : va_W} {A : Nat → Prop}
theorem k_iastNN (hx : p.tables.exec = Jvm.exec) (hb : c.code = cc) (hG : GK G s) (hP : va_P G.1 vwCl ws H) (hD : va_D A ws) (hS : va_S A H0 H locs) (q0 : Nat) {a n : Nat} {F : Nat → Nat} (w1 : va_W) (ha : ws[q0]? = some (a, .inl (G.2 0, n, .inl (fun k => iI ((F k : Nat) : Int))))) {z : Nat} {v : Nat} (h : z < n) (hn : n < 2147483648) (hw : ws.set q0 (a, .inl (G.2 0, n, .inl (fun k => iI ((va_up F z v k : Nat) : Int)))) = w1) (hd : decode cc pc = .ok (.iastore, 1)) (kk : ∀ (H1 : Heap) (locs1 : List Loc), va_P G.1 vwCl w1 H1 → va_D A w1 → va_S A H0 H1 locs1 → W p l e R s m args below meth c H1 locs1 cells slots Q (F0 m (pc + 1) ls rest)) : W p l e R s m args below meth c H locs cells slots Q (F0 m pc ls (.int (iI (v : Int)) :: .int (iI (z : Int)) :: .ref a :: rest)) := va_iast hx hb hG.1 hP hD hS q0 0 ha rfl (iI_in (by omega) hn) hd (fun H1 locs1 h1 h2 h3 => by
  rw [iI_clamp (by omega), upd_nI, Int.toNat_natCast, hw] at h1 h2
  exact kk H1 locs1 h1 h2 h3)
theorem k_rwRun {post : Option Value → va_W → Prop} {w wr : va_W} {mc ms : Nat} {a : Array Value} {st0 : List Value} (hr : va_Run p l e R s m args below meth c H locs cells slots mc ms (F0 m pc ls st0) rest (rwA G (va_A w H.size) post a) (va_A w H.size)) (hP : va_P G.1 vwCl ws H) (hD : va_D A ws) (hS : va_S A H0 H locs) (hA : ∀ q, H0.size ≤ q → A q) (isC isR : List Nat) (hC : isC.map (fun i => ws[i]?) = w.map some) (hR : isR.map (fun i => ws[i]?) = wr.map some) (hn : va_nd isR = true) (hdis : ∀ i ∈ isR, i ∉ isC) (kk : ∀ (o : Option Value) (w1 : va_W) (H1 : Heap) (locs1 : List Loc), post o w1 → va_P G.1 vwCl (wr ++ w1) H1 → va_D A (wr ++ w1) → va_S A H0 H1 locs1 → W p l e R s m args below meth c H1 locs1 (cells + mc) (slots + ms) Q (F0 m (pc + 3) ls (o.toList ++ rest))) : W p l e R s m args below meth c H locs cells slots Q (F0 m pc ls st0) := by
  have hFc := va_free (wc := w) hD hS hA isC hC
  intro T hT X
  obtain ⟨v, st₀, t, T', L, h0, X', hL, e1, e2, ⟨o, w1, hv, hp, hP1, hD1, hz, hk⟩, st⟩ := hr T hT X
  cases hv
  rw [h0] at hz hk
  have hj := va_join (H1 := T'.heap) (wr := wr) hP hD isC isR hC hR hn hdis (fun q h1 h2 => by rw [e1]; exact hk q h1 h2) hFc (by rw [e1]; exact hP1) hD1
  obtain ⟨t2, a1, b1⟩ := kk v w1 T'.heap (locs ++ L) hp hj.1 hj.2 ⟨Nat.le_trans hS.1 (by rw [e1]; exact hz), fun q h1 h2 => by rw [e1, hk q (Nat.lt_of_lt_of_le h1 hS.1) (fun z => h2 (hFc q z))]; exact hS.2.1 q h1 h2, fun q hq => by
    rcases List.mem_append.mp hq with h | h
    · exact hS.2.2 q h
    · exact hFc _ (hL q h)⟩ T' rfl X'
  exact ⟨t2, st t2 a1, b1⟩
theorem k_rwV {y : MethodName} {bytes : ByteArray} {maxL nL n index mc ms : Nat} {ret : Option FieldType} {wy Ts : List Cond} {rm : Room} {own C : String} {b : Addr} {w v wr : va_W} {post : Option Value → va_W → Prop} (As : List Value) {st0 : List Value} (S : CallFix p m c cc nL s args Ts own) (hM : Met l y wy rm (rwP G (.ref b :: As) w v H.size) (rwA G (va_A w H.size) post) mc ms (va_A w H.size)) (cw : CallW R s args own C index y bytes maxL ret wy rm mc ms n) (hG : GK G s) (hr : ∃ cellB : Cell, H[b]? = some cellB ∧ cellB.vm.isStatics = false ∧ s.vm.findClass C = some cellB.cls) (hP : va_P G.1 vwCl ws H) (hD : va_D A ws) (hS : va_S A H0 H locs) (hA : ∀ q, H0.size ≤ q → A q) (isC isR : List Nat) (hC : isC.map (fun i => ws[i]?) = w.map some) (hR : isR.map (fun i => ws[i]?) = wr.map some) (hnd : va_nd isC = true ∧ va_nd isR = true ∧ ∀ i ∈ isR, i ∉ isC) (hv : va_P G.1 vwCl v H) (hap : apartW w v) (hst : st0 = As.reverse ++ .ref b :: rest) (hn : As.length = n) (hsize : ls.size = nL) (hW : (rest.map fun v => v.category).sum ≤ 8) (hf : cells + mc ≤ R.cells ∧ slots + ms ≤ R.slots) (hd : decode cc pc = .ok (.invokevirtual index, 3)) (kk : ∀ (o : Option Value) (w1 : va_W) (H1 : Heap) (locs1 : List Loc), post o w1 → va_P G.1 vwCl (wr ++ w1) H1 → va_D A (wr ++ w1) → va_S A H0 H1 locs1 → W p l e R s m args below meth c H1 locs1 (cells + mc) (slots + ms) Q (F0 m (pc + 3) ls (o.toList ++ rest))) : W p l e R s m args below meth c H locs cells slots Q (F0 m pc ls st0) :=
  k_rwRun (va_runV (As := As) (rest := rest) S hM cw ⟨rwP_blind _ _ _ _ _, hr, fun U hU hW => ⟨rfl, GK.warm hW hG, by rw [hU], by rw [hU]; exact hP.subm isC hC, (hD.sub isC hnd.1 hC).weaken (fun _ _ _ _ => trivial), by rw [hU]; exact hv, hap⟩⟩ rfl hn hsize hst (lv_room hW) hd hf) hP hD hS hA isC isR hC hR hnd.2.1 hnd.2.2 kk
theorem k_rwS {y : MethodName} {bytes : ByteArray} {maxL nL n index mc ms : Nat} {ret : Option FieldType} {wy Ts : List Cond} {rm : Room} {own : String} {w v wr : va_W} {post : Option Value → va_W → Prop} (As : List Value) {st0 : List Value} (S : CallFix p m c cc nL s args Ts own) (hM : Met l y wy rm (rwP G As w v H.size) (rwA G (va_A w H.size) post) mc ms (va_A w H.size)) (cw : CallB R s args own index y bytes maxL ret wy rm mc ms n ∧ (Cond.static y).before args s = true) (hG : GK G s) (hP : va_P G.1 vwCl ws H) (hD : va_D A ws) (hS : va_S A H0 H locs) (hA : ∀ q, H0.size ≤ q → A q) (isC isR : List Nat) (hC : isC.map (fun i => ws[i]?) = w.map some) (hR : isR.map (fun i => ws[i]?) = wr.map some) (hnd : va_nd isC = true ∧ va_nd isR = true ∧ ∀ i ∈ isR, i ∉ isC) (hv : va_P G.1 vwCl v H) (hap : apartW w v) (hst : st0 = As.reverse ++ rest) (hn : As.length = n) (hsize : ls.size = nL) (hW : (rest.map fun v => v.category).sum ≤ 8) (hf : cells + mc ≤ R.cells ∧ slots + ms ≤ R.slots) (hd : decode cc pc = .ok (.invokestatic index, 3)) (kk : ∀ (o : Option Value) (w1 : va_W) (H1 : Heap) (locs1 : List Loc), post o w1 → va_P G.1 vwCl (wr ++ w1) H1 → va_D A (wr ++ w1) → va_S A H0 H1 locs1 → W p l e R s m args below meth c H1 locs1 (cells + mc) (slots + ms) Q (F0 m (pc + 3) ls (o.toList ++ rest))) : W p l e R s m args below meth c H locs cells slots Q (F0 m pc ls st0) :=
  k_rwRun (va_runS (As := As) (rest := rest) S hM cw ⟨rwP_blind _ _ _ _ _, fun U hU hW => ⟨rfl, GK.warm hW hG, by rw [hU], by rw [hU]; exact hP.subm isC hC, (hD.sub isC hnd.1 hC).weaken (fun _ _ _ _ => trivial), by rw [hU]; exact hv, hap⟩⟩ rfl hn hsize hst (lv_room hW) hd hf) hP hD hS hA isC isR hC hR hnd.2.1 hnd.2.2 kk
theorem k_rwI {y : MethodName} {bytes : ByteArray} {maxL nL n index mc ms : Nat} {wy Ts : List Cond} {rm : Room} {own : String} {b : Addr} {w v wr : va_W} {post : Option Value → va_W → Prop} (As : List Value) {st0 : List Value} (S : CallFix p m c cc nL s args Ts own) (hM : Met l y wy rm (rwP G (.ref b :: As) w v H.size) (rwA G (va_A w H.size) post) mc ms (va_A w H.size)) (cw : CallB R s args own index y bytes maxL none wy rm mc ms n ∧ y.name = "<init>" ∧ (Cond.instanceMethod y).before args s = true) (hG : GK G s) (hP : va_P G.1 vwCl ws H) (hD : va_D A ws) (hS : va_S A H0 H locs) (hA : ∀ q, H0.size ≤ q → A q) (isC isR : List Nat) (hC : isC.map (fun i => ws[i]?) = w.map some) (hR : isR.map (fun i => ws[i]?) = wr.map some) (hnd : va_nd isC = true ∧ va_nd isR = true ∧ ∀ i ∈ isR, i ∉ isC) (hv : va_P G.1 vwCl v H) (hap : apartW w v) (hst : st0 = As.reverse ++ .ref b :: rest) (hn : As.length = n) (hsize : ls.size = nL) (hW : (rest.map fun v => v.category).sum ≤ 8) (hf : cells + mc ≤ R.cells ∧ slots + ms ≤ R.slots) (hd : decode cc pc = .ok (.invokespecial index, 3)) (kk : ∀ (o : Option Value) (w1 : va_W) (H1 : Heap) (locs1 : List Loc), post o w1 → va_P G.1 vwCl (wr ++ w1) H1 → va_D A (wr ++ w1) → va_S A H0 H1 locs1 → W p l e R s m args below meth c H1 locs1 (cells + mc) (slots + ms) Q (F0 m (pc + 3) ls (o.toList ++ rest))) : W p l e R s m args below meth c H locs cells slots Q (F0 m pc ls st0) :=
  k_rwRun (va_runI (As := As) (rest := rest) S hM cw ⟨rwP_blind _ _ _ _ _, fun U hU hW => ⟨rfl, GK.warm hW hG, by rw [hU], by rw [hU]; exact hP.subm isC hC, (hD.sub isC hnd.1 hC).weaken (fun _ _ _ _ => trivial), by rw [hU]; exact hv, hap⟩⟩ rfl hn hsize hst (lv_room hW) hd hf) hP hD hS hA isC isR hC hR hnd.2.1 hnd.2.2 kk
theorem rw_vret {post : Option Value → va_W → Prop} {w1 : va_W} (hx : p.tables.exec = Jvm.exec) (hb : c.code = cc) (hr : meth.sig.returnType = none) (hlocks : meth.locks = false) (hP : va_P G.1 vwCl w1 H) (hD : va_D A w1) (hS : va_S A s.heap H locs) (hd : decode cc pc = .ok (.return_, 1)) (hp : post none w1) : W p l e R s m args below meth c H locs cells slots (MQ below (rwA G A post) args s cells slots A) (F0 m pc ls []) := W.vret hx hb hr (fun t ht _ => ⟨none, w1, rfl, hp, by rw [ht]; exact hP, hD, hS.F ht⟩) hS.2.2 hd hlocks
theorem rw_iret {post : Option Value → va_W → Prop} {w1 : va_W} {a : Int} (hx : p.tables.exec = Jvm.exec) (hb : c.code = cc) (hr : meth.sig.returnType = some .int) (hlocks : meth.locks = false) (hP : va_P G.1 vwCl w1 H) (hD : va_D A w1) (hS : va_S A s.heap H locs) (hd : decode cc pc = .ok (.ireturn, 1)) (hp : post (some (.int (iI a))) w1) : W p l e R s m args below meth c H locs cells slots (MQ below (rwA G A post) args s cells slots A) (F0 m pc ls [.int (iI a)]) := W.iret hx hb hr (fun t ht _ => ⟨_, w1, rfl, hp, by rw [ht]; exact hP, hD, hS.F ht⟩) hS.2.2 hd hlocks
theorem rw_zret {post : Option Value → va_W → Prop} {w1 : va_W} {a : Int} {b : Bool} (hx : p.tables.exec = Jvm.exec) (hb : c.code = cc) (hr : meth.sig.returnType = some .boolean) (hlocks : meth.locks = false) (hP : va_P G.1 vwCl w1 H) (hD : va_D A w1) (hS : va_S A s.heap H locs) (hd : decode cc pc = .ok (.ireturn, 1)) (hv : a = b2i b) (hp : post (some (.int (iI (b2i b)))) w1) : W p l e R s m args below meth c H locs cells slots (MQ below (rwA G A post) args s cells slots A) (F0 m pc ls [.int (iI a)]) := by
  subst hv
  exact W.zret hx hb hr (b2i_nar b) (fun t ht _ => ⟨_, w1, rfl, hp, by rw [ht]; exact hP, hD, hS.F ht⟩) hS.2.2 hd hlocks
theorem rw_aret {post : Option Value → va_W → Prop} {w1 : va_W} {a : Nat} {C : String} (hx : p.tables.exec = Jvm.exec) (hb : c.code = cc) (hr : meth.sig.returnType = some (.object C)) (hlocks : meth.locks = false) (hP : va_P G.1 vwCl w1 H) (hD : va_D A w1) (hS : va_S A s.heap H locs) (hd : decode cc pc = .ok (.areturn, 1)) (hp : post (some (.ref a)) w1) : W p l e R s m args below meth c H locs cells slots (MQ below (rwA G A post) args s cells slots A) (F0 m pc ls [.ref a]) := W.aret hx hb hr (Or.inl ⟨_, rfl⟩) (Or.inr ⟨_, rfl⟩) (fun t ht _ => ⟨_, w1, rfl, hp, by rw [ht]; exact hP, hD, hS.F ht⟩) hS.2.2 hd hlocks
end KZ
/-- a method that writes, from its entry -/
theorem rw_of {l : Launch} {G : GG} {y : MethodName} {wy wy' : List Cond} {rm : Room} {av : List Value} {w v : va_W} {sz mc ms : Nat} {post : Option Value → va_W → Prop} {cc : ByteArray} {maxL : Nat} {ret : Option FieldType} (hy : plainName y.cls = true) (hwy : wy = Cond.code y cc maxL ret :: wy') (hlen : (lg_sl av).length ≤ maxL)
    (body : ∀ (p : Program) (e : Env) (s : State) (m : MethodId) (below : List Frame) (meth : Method) (c : Code), p.tables.exec = Jvm.exec → c.code = cc → meth.sig.returnType = ret → (∀ x ∈ wy, x.before av.toArray s = true) → s.vm.findClass y.cls = some m.cls → meth.locks = false → c.maxLocals = maxL → meth.name = y.name → GK G s → ∀ A : Nat → Prop, (∀ q, s.heap.size ≤ q → A q) → va_P G.1 vwCl w s.heap → va_D A w → va_S A s.heap s.heap [] → va_P G.1 vwCl v s.heap → roV A s.heap.size v → ∀ ls : Array Slot, lv_has ls maxL (lv_args 0 av) → W p l e rm s m av.toArray below meth c s.heap [] 0 0 (MQ below (rwA G A post) av.toArray s mc ms A) (F0 m 0 ls [])) : Met l y wy rm (rwP G av w v sz) (rwA G (va_A w sz) post) mc ms (va_A w sz) := by
  refine Met.ofW (cc := cc) (maxL := maxL) (ret := ret) hy hwy ?_
  intro p e s m args below meth c s₁ B hml hv
  obtain ⟨rfl, hG, rfl, hP, hD, hV, hap⟩ := hv
  rw [lg_entry_eq]
  refine body p e s m below meth c B.exec B.bytes B.returns (atoms_spec (ws := wy) B.pre) (findClass_of_methodNamed B.named) B.notSynchronized hml (name_of_methodNamed B.named B.method).1 hG (va_A w s.heap.size) (fun q h => Or.inr h) hP hD.self va_S.rf hV ?_ _ (lv_entry av hlen)
  intro k q hk
  refine ⟨(hV k q hk).lt, fun h => ?_⟩
  rcases h with ⟨j, e9, hj⟩ | h
  · exact hap j _ k q hj hk rfl
  · have := (hV k q hk).lt
    omega
