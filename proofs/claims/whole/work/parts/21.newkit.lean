/-! references into arrays, new arrays of the known array types -/
theorem shAny {s : State} {H : Heap} {G : GG} {a ci : Nat} {fs : List Value} {r : vw_C} (hG : GK G s) (h : va_P G.1 vwCl [(a, .inr (ci, fs))] H) (hc : vwCl[ci]? = some r) : va_Any r.1 s H a := by
  have hcls := (hG.1.1 ci r hc).2
  refine va_rAny (q0 := 0) hG.1 h rfl hc (fun comp c0 h1 h2 => ?_)
  have e1 : comp = G.1.1 ci := Option.some.inj (h1.symm.trans hcls.1)
  have e2 : c0 = G.1.1 ci := Option.some.inj (h2.symm.trans hcls.1)
  subst e1
  subst e2
  exact va_assign hcls
section KN
variable {p : Program} {l : Launch} {e : Env} {R : Room} {s : State} {m : MethodId} {args : Array Value} {below : List Frame} {meth : Method} {c : Code} {H H0 : Heap} {locs : List Loc} {cells slots : Nat} {Q : State → Prop} {cc : ByteArray} {pc : Nat} {ls : Array Slot} {rest : List Value} {G : GG} {ws : va_W} {A : Nat → Prop}
theorem k_astR (hx : p.tables.exec = Jvm.exec) (hb : c.code = cc) (hG : GK G s) (hP : va_P G.1 vwCl ws H) (hD : va_D A ws) (hS : va_S A H0 H locs) (q0 t0 : Nat) {a n v : Nat} {cA : ClassId} {E : String} {F : Nat → Option Nat} (w1 : va_W) (ha : ws[q0]? = some (a, .inl (cA, n, .inr (.inr (.inr (.inr F)))))) (ht : (gT G)[t0]? = some (cA, .object E)) (hr : va_Any E s H v) {z : Nat} (h : z < n) (hn : n < 2147483648) (hw : ws.set q0 (a, .inl (cA, n, .inr (.inr (.inr (.inr (va_up F z (some v))))))) = w1) (hd : decode cc pc = .ok (.aastore, 1)) (kk : ∀ (H1 : Heap) (locs1 : List Loc), va_P G.1 vwCl w1 H1 → va_D A w1 → va_S A H0 H1 locs1 → W p l e R s m args below meth c H1 locs1 cells slots Q (F0 m (pc + 1) ls rest)) : W p l e R s m args below meth c H locs cells slots Q (F0 m pc ls (.ref v :: .int (iI (z : Int)) :: .ref a :: rest)) := va_astqM hx hb hG.1 hP hD hS q0 t0 ha ht hr (iI_in (by omega) hn) hd (fun H1 locs1 h1 h2 h3 => by
  rw [iI_clamp (by omega), Int.toNat_natCast, hw] at h1 h2
  exact kk H1 locs1 h1 h2 h3)
theorem k_ast0 (hx : p.tables.exec = Jvm.exec) (hb : c.code = cc) (hG : GK G s) (hP : va_P G.1 vwCl ws H) (hD : va_D A ws) (hS : va_S A H0 H locs) (q0 t0 : Nat) {a n : Nat} {cA : ClassId} {E : String} {F : Nat → Option Nat} (w1 : va_W) (ha : ws[q0]? = some (a, .inl (cA, n, .inr (.inr (.inr (.inr F)))))) (ht : (gT G)[t0]? = some (cA, .object E)) {z : Nat} (h : z < n) (hn : n < 2147483648) (hw : ws.set q0 (a, .inl (cA, n, .inr (.inr (.inr (.inr (va_up F z none)))))) = w1) (hd : decode cc pc = .ok (.aastore, 1)) (kk : ∀ (H1 : Heap) (locs1 : List Loc), va_P G.1 vwCl w1 H1 → va_D A w1 → va_S A H0 H1 locs1 → W p l e R s m args below meth c H1 locs1 cells slots Q (F0 m (pc + 1) ls rest)) : W p l e R s m args below meth c H locs cells slots Q (F0 m pc ls (.null :: .int (iI (z : Int)) :: .ref a :: rest)) := va_astqN hx hb hG.1 hP hD hS q0 t0 ha ht (iI_in (by omega) hn) hd (fun H1 locs1 h1 h2 h3 => by
  rw [iI_clamp (by omega), Int.toNat_natCast, hw] at h1 h2
  exact kk H1 locs1 h1 h2 h3)
theorem k_newI (hx : p.tables.exec = Jvm.exec) (hb : c.code = cc) (harr : (Cond.arrayClass .int).before args s = true) (hG : GK G s) (hP : va_P G.1 vwCl ws H) (hD : va_D A ws) (hS : va_S A H0 H locs) (hA : ∀ q, H0.size ≤ q → A q) {n : Nat} (hn : n < 65536) (hcells : cells + 1 ≤ R.cells) (hslots : slots + n ≤ R.slots) (hd : decode cc pc = .ok (.newarray .int, 2)) (kk : ∀ (q : Nat) (H1 : Heap), va_P G.1 vwCl (ws ++ [(q, .inl (G.2 0, n, .inl (fun _ => iI 0)))]) H1 → va_D A (ws ++ [(q, .inl (G.2 0, n, .inl (fun _ => iI 0)))]) → va_S A H0 H1 locs → W p l e R s m args below meth c H1 locs (cells + 1) (slots + n) Q (F0 m (pc + 2) ls (.ref q :: rest))) : W p l e R s m args below meth c H locs cells slots Q (F0 m pc ls (.int (iI (n : Int)) :: rest)) := by
  refine va_newa (atype := .int) (ty := .int) hx hb harr rfl hG.1 hP hD hS hA (N' := n) (a0 := (n, .inl (fun _ => iI 0))) (fun cA => rfl) (fun h => ?_) (by rw [iI_clamp (by omega)]; rfl) (by show n * 4 ≤ 536870912; omega) hcells hslots hd (fun q cA H1 hK h1 h2 h3 => ?_)
  · have := (iI_lt (a := (n : Int)) (b := 0) (by omega) (by omega)).mp h
    omega
  · have e1 : s.vm.findClass _ = some cA := (hK.2 4 (cA, .int) rfl).2
    have e2 : s.vm.findClass _ = some (G.2 0) := (hG.1.2 0 (G.2 0, .int) rfl).2
    have e3 : cA = G.2 0 := Option.some.inj (e1.symm.trans e2)
    subst e3
    exact kk q H1 h1 h2 h3
theorem k_newZ (hx : p.tables.exec = Jvm.exec) (hb : c.code = cc) (harr : (Cond.arrayClass .boolean).before args s = true) (hG : GK G s) (hP : va_P G.1 vwCl ws H) (hD : va_D A ws) (hS : va_S A H0 H locs) (hA : ∀ q, H0.size ≤ q → A q) {n : Nat} (hn : n < 65536) (hcells : cells + 1 ≤ R.cells) (hslots : slots + n ≤ R.slots) (hd : decode cc pc = .ok (.newarray .boolean, 2)) (kk : ∀ (q : Nat) (H1 : Heap), va_P G.1 vwCl (ws ++ [(q, .inl (G.2 1, n, .inl (fun _ => iI (b2i false))))]) H1 → va_D A (ws ++ [(q, .inl (G.2 1, n, .inl (fun _ => iI (b2i false))))]) → va_S A H0 H1 locs → W p l e R s m args below meth c H1 locs (cells + 1) (slots + n) Q (F0 m (pc + 2) ls (.ref q :: rest))) : W p l e R s m args below meth c H locs cells slots Q (F0 m pc ls (.int (iI (n : Int)) :: rest)) := by
  refine va_newa (atype := .boolean) (ty := .boolean) hx hb harr rfl hG.1 hP hD hS hA (N' := n) (a0 := (n, .inl (fun _ => iI (b2i false)))) (fun cA => rfl) (fun h => ?_) (by rw [iI_clamp (by omega)]; rfl) (by show n * 1 ≤ 536870912; omega) hcells hslots hd (fun q cA H1 hK h1 h2 h3 => ?_)
  · have := (iI_lt (a := (n : Int)) (b := 0) (by omega) (by omega)).mp h
    omega
  · have e1 : s.vm.findClass _ = some cA := (hK.2 4 (cA, .boolean) rfl).2
    have e2 : s.vm.findClass _ = some (G.2 1) := (hG.1.2 1 (G.2 1, .boolean) rfl).2
    have e3 : cA = G.2 1 := Option.some.inj (e1.symm.trans e2)
    subst e3
    exact kk q H1 h1 h2 h3
theorem k_newQ (hx : p.tables.exec = Jvm.exec) (hb : c.code = cc) {own C : String} {index t0 : Nat} {cT : ClassId} (hown : s.vm.findClass own = some m.cls) (hclink : (Cond.classLink own index C).before args s = true) (hover : va_AO C s) (ht : (gT G)[t0]? = some (cT, .object C)) (hG : GK G s) (hP : va_P G.1 vwCl ws H) (hD : va_D A ws) (hS : va_S A H0 H locs) (hA : ∀ q, H0.size ≤ q → A q) {n : Nat} (hn : n < 65536) (hcells : cells + 1 ≤ R.cells) (hslots : slots + n ≤ R.slots) (hd : decode cc pc = .ok (.anewarray index, 3)) (kk : ∀ (q : Nat) (H1 : Heap), va_P G.1 vwCl (ws ++ [(q, .inl (cT, n, .inr (.inr (.inr (.inr (fun _ => none))))))]) H1 → va_D A (ws ++ [(q, .inl (cT, n, .inr (.inr (.inr (.inr (fun _ => none))))))]) → va_S A H0 H1 locs → W p l e R s m args below meth c H1 locs (cells + 1) (slots + n) Q (F0 m (pc + 3) ls (.ref q :: rest))) : W p l e R s m args below meth c H locs cells slots Q (F0 m pc ls (.int (iI (n : Int)) :: rest)) := by
  refine va_newq hx hb hown hclink hover hG.1 hP hD hS hA (N' := n) (fun h => ?_) (by rw [iI_clamp (by omega)]; rfl) (by omega) hcells hslots hd (fun q cA H1 hK h1 h2 h3 => ?_)
  · have := (iI_lt (a := (n : Int)) (b := 0) (by omega) (by omega)).mp h
    omega
  · obtain ⟨-, -, -, -, -, e1⟩ := (hK.2 4 (cA, .object C) rfl).2
    obtain ⟨-, -, -, -, -, e2⟩ := (hG.1.2 t0 (cT, .object C) ht).2
    have e3 : cA = cT := Option.some.inj (e1.symm.trans e2)
    subst e3
    exact kk q H1 h1 h2 h3
end KN
