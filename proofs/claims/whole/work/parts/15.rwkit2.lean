theorem arrV_cong {cI : ClassId} {N : Nat} {f g : Nat → Value} (h : ∀ j, j < N → f j = g j) : arrV cI N f = arrV cI N g := by
  have e : (fun j : Fin N => f j.val) = (fun j : Fin N => g j.val) := funext fun j => h j.val j.isLt
  unfold arrV
  rw [e]
theorem va_P.congA {D : va_G} {cl : List vw_C} {ws : va_W} {H : Heap} {q a n : Nat} {cA : ClassId} {f g : Nat → Int32} (hP : va_P D cl ws H) (hq : ws[q]? = some (a, .inl (cA, n, .inl f))) (h : ∀ j, j < n → f j = g j) : va_P D cl (ws.set q (a, .inl (cA, n, .inl g))) H := by
  intro k x hk
  have hl := (List.getElem?_eq_some_iff.mp hq).1
  by_cases e : k = q
  · subst e
    rw [List.getElem?_set_self hl] at hk
    cases hk
    have h1 : H[a]? = some (vp_cell cA (n, .inl f)) := hP k _ hq
    show H[a]? = some (vp_cell cA (n, .inl g))
    rw [h1, vp_cell_i, vp_cell_i, arrV_cong (fun j hj => by rw [h j hj])]
  · rw [List.getElem?_set_ne (Ne.symm e)] at hk
    exact hP k x hk
section KW
variable {p : Program} {l : Launch} {e : Env} {R : Room} {s : State} {m : MethodId} {args : Array Value} {below : List Frame} {meth : Method} {c : Code} {H H0 : Heap} {locs : List Loc} {cells slots : Nat} {Q : State → Prop} {cc : ByteArray} {pc : Nat} {ls : Array Slot} {rest : List Value} {G : GG} {ws : va_W} {A : Nat → Prop}
theorem k_copyAll (hx : p.tables.exec = Jvm.exec) (hb : c.code = cc) (hml : c.maxLocals = ls.size) {own : String} {index : Nat} (hown : s.vm.findClass own = some m.cls) (hlink : (Cond.methodLink own index arraycopyName).before args s = true) (hnat : (Cond.native arraycopyName).before args s = true) (hstat : (Cond.static arraycopyName).before args s = true) (hini : (Cond.initialized "java/lang/System").before args s = true) (hG : GK G s) (hP : va_P G.1 vwCl ws H) (hD : va_D A ws) (hS : va_S A H0 H locs) (q0 q1 : Nat) {a a0 n : Nat} {F F1 : Nat → Int} (w1 : va_W) (ha0 : ws[q0]? = some (a0, .inl (G.2 0, n, .inl (fun k => iI (F k))))) (ha1 : ws[q1]? = some (a, .inl (G.2 0, n, .inl (fun k => iI (F1 k))))) (hn : n < 2147483648) (hw : ws.set q1 (a, .inl (G.2 0, n, .inl (fun k => iI (F k)))) = w1) (hframes : 1 ≤ R.frames) (hlocals : (rest.map fun v => v.category).sum + (nativeFrameWords "java/lang/System" "arraycopy" 5 + 11) ≤ R.locals) (hd : decode cc pc = .ok (.invokestatic index, 3)) (kk : ∀ (H1 : Heap) (locs1 : List Loc), va_P G.1 vwCl w1 H1 → va_D A w1 → va_S A H0 H1 locs1 → W p l e R s m args below meth c H1 locs1 cells slots Q (F0 m (pc + 3) ls rest)) : W p l e R s m args below meth c H locs cells slots Q (F0 m pc ls (.int (iI (n : Int)) :: .int (iI 0) :: .ref a :: .int (iI 0) :: .ref a0 :: rest)) := by
  have c0 : (iI 0).toNatClampNeg = 0 := by decide
  have cn : (iI (n : Int)).toNatClampNeg = n := by rw [iI_clamp (by omega)]; rfl
  have n0 : ¬ iI 0 < 0 := by decide
  have nn : ¬ iI (n : Int) < 0 := fun h => by
    have := (iI_lt (a := (n : Int)) (b := 0) (by omega) (by omega)).mp h
    omega
  refine va_copyi hx hb hml hown hlink hnat hstat hini hG.1 hP hD hS q0 q1 0 0 (ty := .int) ha0 ha1 rfl rfl rfl n0 n0 nn (by rw [c0, cn]; omega) (by rw [c0, cn]; omega) (fun _ _ => rfl) hframes hlocals hd (fun H1 locs1 h1 h2 h3 => ?_)
  have hl := (List.getElem?_eq_some_iff.mp ha1).1
  have h1' := h1.congA (q := q1) (g := fun k => iI (F k)) (List.getElem?_set_self hl) (fun j hj => by
    rw [c0, cn, va_cpy, if_pos (by omega)]
    congr 2
    omega)
  have h2' := h2.set (e := .inl (G.2 0, n, .inl (fun k => iI (F k)))) (List.getElem?_set_self hl)
  rw [List.set_set, hw] at h1' h2'
  exact kk H1 locs1 h1' h2' h3
theorem k_mmaxN (hx : p.tables.exec = Jvm.exec) (hb : c.code = cc) (hml : c.maxLocals = ls.size) {own : String} {index : Nat} (hown : s.vm.findClass own = some m.cls) (hlink : (Cond.methodLink own index Lib.Math.max.name).before args s = true) (hstat : (Cond.static Lib.Math.max.name).before args s = true) (hini : (Cond.initialized "java/lang/Math").before args s = true) (hcode : (Cond.code Lib.Math.max.name Lib.Math.max.code 2 (some .int)).before args s = true) {a b : Nat} (ha : a < 2147483648) (hb2 : b < 2147483648) (hframes : 1 ≤ R.frames) (hlocals : (rest.map fun v => v.category).sum + 13 ≤ R.locals) (hc : cells ≤ R.cells) (hs : slots ≤ R.slots) (hd : decode cc pc = .ok (.invokestatic index, 3)) (k : W p l e R s m args below meth c H locs cells slots Q (F0 m (pc + 3) ls (.int (iI ((max a b : Nat) : Int)) :: rest))) : W p l e R s m args below meth c H locs cells slots Q (F0 m pc ls (.int (iI (b : Int)) :: .int (iI (a : Int)) :: rest)) := k_mmax hx hb hml hown hlink hstat hini hcode (by omega) (by omega) hframes hlocals hc hs hd (by rw [show max (a : Int) (b : Int) = ((max a b : Nat) : Int) by omega]; exact k)
theorem k_mminN (hx : p.tables.exec = Jvm.exec) (hb : c.code = cc) (hml : c.maxLocals = ls.size) {own : String} {index : Nat} (hown : s.vm.findClass own = some m.cls) (hlink : (Cond.methodLink own index Lib.Math.min.name).before args s = true) (hstat : (Cond.static Lib.Math.min.name).before args s = true) (hini : (Cond.initialized "java/lang/Math").before args s = true) (hcode : (Cond.code Lib.Math.min.name Lib.Math.min.code 2 (some .int)).before args s = true) {a b : Nat} (ha : a < 2147483648) (hb2 : b < 2147483648) (hframes : 1 ≤ R.frames) (hlocals : (rest.map fun v => v.category).sum + 13 ≤ R.locals) (hc : cells ≤ R.cells) (hs : slots ≤ R.slots) (hd : decode cc pc = .ok (.invokestatic index, 3)) (k : W p l e R s m args below meth c H locs cells slots Q (F0 m (pc + 3) ls (.int (iI ((min a b : Nat) : Int)) :: rest))) : W p l e R s m args below meth c H locs cells slots Q (F0 m pc ls (.int (iI (b : Int)) :: .int (iI (a : Int)) :: rest)) := k_mmin hx hb hml hown hlink hstat hini hcode (by omega) (by omega) hframes hlocals hc hs hd (by rw [show min (a : Int) (b : Int) = ((min a b : Nat) : Int) by omega]; exact k)
end KW
