/-! the law's calls: a list of cells that is known, and any others behind it -/
theorem P_mem {D : va_G} {cl : List vw_C} {ws v : va_W} {H : Heap} (h : va_P D cl ws H) (hm : ∀ q ∈ v, q ∈ ws) : va_P D cl v H := by
  intro k q hk
  obtain ⟨i, hi⟩ := List.getElem?_of_mem (hm q (List.mem_of_getElem? hk))
  exact h i q hi
theorem mem_ixs {ws v : va_W} (is : List Nat) (hs : is.map (fun i => ws[i]?) = v.map some) : ∀ q ∈ v, q ∈ ws := by
  intro q hq
  obtain ⟨k, hk⟩ := List.getElem?_of_mem hq
  obtain ⟨i, -, hi⟩ := va_in_of is hs hk
  exact List.mem_of_getElem? hi
theorem D_left {A : Nat → Prop} {ws Y : va_W} (h : va_D A (ws ++ Y)) : va_D A ws := by
  have e : ∀ (k : Nat) (q : Nat × va_E), ws[k]? = some q → (ws ++ Y)[k]? = some q := fun k q hk => by
    rw [List.getElem?_append_left (List.getElem?_eq_some_iff.mp hk).1]
    exact hk
  exact ⟨fun i j p q h1 h2 => h.1 i j p q (e i p h1) (e j q h2), fun k q hk => h.2 k q (e k q hk)⟩
theorem D_right {A : Nat → Prop} {ws Y : va_W} (h : va_D A (ws ++ Y)) : va_D A Y := by
  have e : ∀ (k : Nat) (q : Nat × va_E), Y[k]? = some q → (ws ++ Y)[ws.length + k]? = some q := fun k q hk => by
    rw [List.getElem?_append_right (by omega), show ws.length + k - ws.length = k by omega]
    exact hk
  refine ⟨fun i j p q h1 h2 h3 => ?_, fun k q hk => h.2 _ q (e k q hk)⟩
  have := h.1 _ _ p q (e i p h1) (e j q h2) h3
  omega
theorem D_apart {A : Nat → Prop} {ws Y : va_W} (h : va_D A (ws ++ Y)) : ∀ (i j : Nat) (p q : Nat × va_E), ws[i]? = some p → Y[j]? = some q → p.1 ≠ q.1 := by
  intro i j p q h1 h2 h3
  have hl := (List.getElem?_eq_some_iff.mp h1).1
  have e1 : (ws ++ Y)[i]? = some p := by rw [List.getElem?_append_left hl]; exact h1
  have e2 : (ws ++ Y)[ws.length + j]? = some q := by rw [List.getElem?_append_right (by omega), show ws.length + j - ws.length = j by omega]; exact h2
  have := h.1 _ _ p q e1 e2 h3
  omega
theorem D_swap {A : Nat → Prop} {a b : va_W} (h : va_D A (a ++ b)) : va_D A (b ++ a) := va_D.app (D_right h) (D_left h) (fun i j p q h1 h2 h3 => D_apart h j i q p h2 h1 h3.symm)
theorem P_swap {D : va_G} {cl : List vw_C} {a b : va_W} {H : Heap} (h : va_P D cl (a ++ b) H) : va_P D cl (b ++ a) H := P_mem h (fun q hq => List.mem_append.mpr (List.mem_append.mp hq).symm)
theorem sw4 (a b c d : va_W) : a ++ (b ++ (c ++ d)) = (a ++ (b ++ c)) ++ d := by simp only [List.append_assoc]
theorem toM_P {D : va_G} {cl : List vw_C} {a b c d : va_W} {H : Heap} (h : va_P D cl (a ++ (b ++ (c ++ d))) H) : va_P D cl (d ++ (a ++ (b ++ c))) H := P_swap (by rw [← sw4]; exact h)
theorem toM_D {A : Nat → Prop} {a b c d : va_W} (h : va_D A (a ++ (b ++ (c ++ d)))) : va_D A (d ++ (a ++ (b ++ c))) := D_swap (by rw [← sw4]; exact h)
theorem toC_P {D : va_G} {cl : List vw_C} {a b c d : va_W} {H : Heap} (h : va_P D cl (d ++ (a ++ (b ++ c))) H) : va_P D cl (a ++ (b ++ (c ++ d))) H := by
  rw [sw4]
  exact P_swap h
theorem toC_D {A : Nat → Prop} {a b c d : va_W} (h : va_D A (d ++ (a ++ (b ++ c)))) : va_D A (a ++ (b ++ (c ++ d))) := by
  rw [sw4]
  exact D_swap h
/-- a change of the order of what is known -/
theorem re_P {D : va_G} {cl : List vw_C} {ws ws' Y : va_W} {H : Heap} (h : va_P D cl (ws ++ Y) H) (is : List Nat) (hs : is.map (fun i => ws[i]?) = ws'.map some) : va_P D cl (ws' ++ Y) H := h.part is hs
theorem re_D {A : Nat → Prop} {ws ws' Y : va_W} (h : va_D A (ws ++ Y)) (is : List Nat) (hn : va_nd is = true) (hs : is.map (fun i => ws[i]?) = ws'.map some) : va_D A (ws' ++ Y) := h.part is hn hs
/-- cells that are only read: known ones, and the pool -/
theorem rdY {D : va_G} {cl : List vw_C} {ws vx pl Z : va_W} {H : Heap} (h : va_P D cl (ws ++ (pl ++ Z)) H) (is : List Nat) (hs : is.map (fun i => ws[i]?) = vx.map some) : va_P D cl (vx ++ pl) H := P_mem h (fun q hq => (List.mem_append.mp hq).elim (fun g => List.mem_append.mpr (Or.inl (mem_ixs is hs q g))) (fun g => List.mem_append.mpr (Or.inr (List.mem_append.mpr (Or.inl g)))))
theorem rd0 {D : va_G} {cl : List vw_C} {ws vx Y : va_W} {H : Heap} (h : va_P D cl (ws ++ Y) H) (is : List Nat) (hs : is.map (fun i => ws[i]?) = vx.map some) : va_P D cl vx H := P_mem h (fun q hq => List.mem_append.mpr (Or.inl (mem_ixs is hs q hq)))
theorem ap0 {A : Nat → Prop} {ws w vx Y : va_W} (hD : va_D A (ws ++ Y)) (isC isV : List Nat) (hC : isC.map (fun i => ws[i]?) = w.map some) (hs : isV.map (fun i => ws[i]?) = vx.map some) (hdis : ∀ i ∈ isV, i ∉ isC) : apartW w vx := ap_own (D_left hD) isC isV hC hs hdis
theorem apY {A : Nat → Prop} {ws w vx pl Z : va_W} (hD : va_D A (ws ++ (pl ++ Z))) (isC isV : List Nat) (hC : isC.map (fun i => ws[i]?) = w.map some) (hs : isV.map (fun i => ws[i]?) = vx.map some) (hdis : ∀ i ∈ isV, i ∉ isC) : apartW w (vx ++ pl) := by
  refine ap_app (ap0 hD isC isV hC hs hdis) (fun j x k q hx hq he => ?_)
  obtain ⟨i, -, hi⟩ := va_in_of isC hC hx
  exact D_apart hD i k x q hi (by rw [List.getElem?_append_left (List.getElem?_eq_some_iff.mp hq).1]; exact hq) he
section KLaw
variable {p : Program} {l : Launch} {e : Env} {R : Room} {s : State} {m : MethodId} {args : Array Value} {below : List Frame} {meth : Method} {c : Code} {H H0 : Heap} {locs : List Loc} {cells slots : Nat} {Q : State → Prop} {cc : ByteArray} {pc : Nat} {ls : Array Slot} {rest : List Value} {G : GG} {ws Y : va_W} {A : Nat → Prop}
theorem k_rwRunY {post : Option Value → va_W → Prop} {w wr : va_W} {mc ms : Nat} {a : Array Value} {st0 : List Value} (hr : va_Run p l e R s m args below meth c H locs cells slots mc ms (F0 m pc ls st0) rest (rwA G (va_A w H.size) post a) (va_A w H.size)) (hP : va_P G.1 vwCl (ws ++ Y) H) (hD : va_D A (ws ++ Y)) (hS : va_S A H0 H locs) (hA : ∀ q, H0.size ≤ q → A q) (isC isR : List Nat) (hC : isC.map (fun i => ws[i]?) = w.map some) (hR : isR.map (fun i => ws[i]?) = wr.map some) (hn : va_nd isR = true) (hdis : ∀ i ∈ isR, i ∉ isC) (kk : ∀ (o : Option Value) (w1 : va_W) (H1 : Heap) (locs1 : List Loc), post o w1 → va_P G.1 vwCl ((wr ++ w1) ++ Y) H1 → va_D A ((wr ++ w1) ++ Y) → va_S A H0 H1 locs1 → W p l e R s m args below meth c H1 locs1 (cells + mc) (slots + ms) Q (F0 m (pc + 3) ls (o.toList ++ rest))) : W p l e R s m args below meth c H locs cells slots Q (F0 m pc ls st0) := by
  have hFc : ∀ q, va_A w H.size q → A q := va_free (wc := w) (D_left hD) hS hA isC hC
  intro T hT X
  obtain ⟨v, st₀, t, T', L, h0, X', hL, e1, e2, ⟨o, w1, hv, hp, hP1, hD1, hz, hk⟩, st⟩ := hr T hT X
  cases hv
  rw [h0] at hz hk
  have hj := va_joinQ (H1 := T'.heap) (wr := wr) (pl := Y) hP hD isC isR hC hR hn hdis (fun q h1 h2 => by rw [e1]; exact hk q h1 h2) hFc (by rw [e1]; exact hP1) hD1
  obtain ⟨t2, a1, b1⟩ := kk v w1 T'.heap (locs ++ L) hp hj.1 hj.2 ⟨Nat.le_trans hS.1 (by rw [e1]; exact hz), fun q h1 h2 => by rw [e1, hk q (Nat.lt_of_lt_of_le h1 hS.1) (fun z => h2 (hFc q z))]; exact hS.2.1 q h1 h2, fun q hq => by
    rcases List.mem_append.mp hq with h | h
    · exact hS.2.2 q h
    · exact hFc _ (hL q h)⟩ T' rfl X'
  exact ⟨t2, st t2 a1, b1⟩
theorem k_rwVY {y : MethodName} {bytes : ByteArray} {maxL nL n index mc ms : Nat} {ret : Option FieldType} {wy Ts : List Cond} {rm : Room} {own C : String} {b : Addr} {w v wr : va_W} {post : Option Value → va_W → Prop} (As : List Value) {st0 : List Value} (S : CallFix p m c cc nL s args Ts own) (hM : Met l y wy rm (rwP G (.ref b :: As) w v H.size) (rwA G (va_A w H.size) post) mc ms (va_A w H.size)) (cw : CallW R s args own C index y bytes maxL ret wy rm mc ms n) (hG : GK G s) (hr : ∃ cellB : Cell, H[b]? = some cellB ∧ cellB.vm.isStatics = false ∧ s.vm.findClass C = some cellB.cls) (hP : va_P G.1 vwCl (ws ++ Y) H) (hD : va_D A (ws ++ Y)) (hS : va_S A H0 H locs) (hA : ∀ q, H0.size ≤ q → A q) (isC isR : List Nat) (hC : isC.map (fun i => ws[i]?) = w.map some) (hR : isR.map (fun i => ws[i]?) = wr.map some) (hnd : va_nd isC = true ∧ va_nd isR = true ∧ ∀ i ∈ isR, i ∉ isC) (hv : va_P G.1 vwCl v H) (hap : apartW w v) (hst : st0 = As.reverse ++ .ref b :: rest) (hn : As.length = n) (hsize : ls.size = nL) (hW : (rest.map fun v => v.category).sum ≤ 8) (hf : cells + mc ≤ R.cells ∧ slots + ms ≤ R.slots) (hd : decode cc pc = .ok (.invokevirtual index, 3)) (kk : ∀ (o : Option Value) (w1 : va_W) (H1 : Heap) (locs1 : List Loc), post o w1 → va_P G.1 vwCl ((wr ++ w1) ++ Y) H1 → va_D A ((wr ++ w1) ++ Y) → va_S A H0 H1 locs1 → W p l e R s m args below meth c H1 locs1 (cells + mc) (slots + ms) Q (F0 m (pc + 3) ls (o.toList ++ rest))) : W p l e R s m args below meth c H locs cells slots Q (F0 m pc ls st0) :=
  k_rwRunY (va_runV (As := As) (rest := rest) S hM cw ⟨rwP_blind _ _ _ _ _, hr, fun U hU hW => ⟨rfl, GK.warm hW hG, by rw [hU], by rw [hU]; exact rd0 hP isC hC, ((D_left hD).sub isC hnd.1 hC).weaken (fun _ _ _ _ => trivial), by rw [hU]; exact hv, hap⟩⟩ rfl hn hsize hst (lv_room hW) hd hf) hP hD hS hA isC isR hC hR hnd.2.1 hnd.2.2 kk
theorem k_sld (hx : p.tables.exec = Jvm.exec) (hb : c.code = cc) {b L : Nat} {xs : Nat → Int32} (hX : va_X b L xs s H0) (hbl : b < H0.size) (hbA : ¬ A b) (hS : va_S A H0 H locs) {z : Nat} (hz : z < L) (hL : L ≤ 4096) (hd : decode cc pc = .ok (.iaload, 1)) (kk : W p l e R s m args below meth c H locs cells slots Q (F0 m (pc + 1) ls (.int (iI (xs z).toInt) :: rest))) : W p l e R s m args below meth c H locs cells slots Q (F0 m pc ls (.int (iI (z : Int)) :: .ref b :: rest)) := by
  refine va_sld hx hb hX hbl hbA hS (iI_in (z := (z : Int)) (by omega) (by omega)) hd ?_
  rw [iI_clamp (by omega), Int.toNat_natCast, iI_of (xs z)]
  exact kk
theorem k_slen (hx : p.tables.exec = Jvm.exec) (hb : c.code = cc) {b L : Nat} {xs : Nat → Int32} (hX : va_X b L xs s H0) (hbl : b < H0.size) (hbA : ¬ A b) (hS : va_S A H0 H locs) (hd : decode cc pc = .ok (.arraylength, 1)) (kk : W p l e R s m args below meth c H locs cells slots Q (F0 m (pc + 1) ls (.int (iI (L : Int)) :: rest))) : W p l e R s m args below meth c H locs cells slots Q (F0 m pc ls (.ref b :: rest)) := va_slen hx hb hX hbl hbA hS hd (by rw [show Int32.ofNat L = iI (L : Int) from iI_nat L]; exact kk)
theorem k_same (hx : p.tables.exec = Jvm.exec) (hb : c.code = cc) {a b : Int} (h : a = b) {off : Int} {tgt : Nat} (hd : decode cc pc = .ok (.if_icmp .eq off, 3)) (ht : (pc : Int) + off = (tgt : Int)) (k : W p l e R s m args below meth c H locs cells slots Q (F0 m tgt ls rest)) : W p l e R s m args below meth c H locs cells slots Q (F0 m pc ls (.int (iI b) :: .int (iI a) :: rest)) := by
  subst h
  exact lv_icmp_eq (tgt := tgt) hx hb hd ht (fun _ => k) (fun q => absurd rfl q)
end KLaw
