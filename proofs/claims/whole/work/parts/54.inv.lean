/-! the whole invariant -/
abbrev iX (G : GG) (u bw bd bc bo bx : Nat) (rw cm tr : Nat) (cr : Int) (ly md : Nat) (WT OR : Nat → Nat) (AC DN : Nat → Int) (SH : Nat → Option Nat) : va_W := [(u, .inr (3, [.int (iI (((rw : Nat) : Int))), .int (iI (((cm : Nat) : Int))), .int (iI (((tr : Nat) : Int))), .int (iI (cr)), .int (iI (((ly : Nat) : Int))), .int (iI (((md : Nat) : Int))), .ref bw, .ref bd, .ref bc, .ref bo, .ref bx])), (bw, .inl (G.2 0, 4, .inl (fun iX => iI ((WT iX : Nat) : Int)))), (bd, .inl (G.2 0, 4, .inl (fun iX => iI (DN iX)))), (bc, .inl (G.2 0, 4, .inl (fun iX => iI (AC iX)))), (bo, .inl (G.2 0, 30, .inl (fun iX => iI ((OR iX : Nat) : Int)))), (bx, .inl (G.2 2, 30, .inr (.inr (.inr (.inr SH)))))]
def imR (G : GG) (LP : List Nat) (f : Nat → va_E) (I : Nat → va_W) (IM : Nat → Option Nat) (MR : Nat → Nat) (MC : Nat → Nat) (MW : Nat → Nat) (MD : Nat → Nat) (MY : Nat → Nat) (OQ : Nat → Nat) (KD : Nat → Nat) (TP : Nat → Int) (LF : Nat → Int) (HT : Nat → Nat) (WD : Nat → Nat) (CL : Nat → Nat) (FN : Nat → Nat) (MT : Nat → Nat) (DR : Nat → Int) (DC : Nat → Int) (CR : Nat → Int) (KP : Nat → Bool) (k : Nat) : Prop := (KP k = false ∧ IM k = none ∧ I k = []) ∨ (KP k = true ∧ ∃ (u bw bd bc bo bx : Nat) (WT2 OR2 : Nat → Nat) (AC2 DN2 : Nat → Int) (SH2 : Nat → Option Nat), IM k = some u ∧ I k = iX G u bw bd bc bo bx (MR (k + 1)) (MC (k + 1)) (MT (k + 1)) (CR (k + 1)) (MY (k + 1)) (MD (k + 1)) WT2 OR2 AC2 DN2 SH2 ∧ (∀ i, i < 4 → WT2 i = MW (4 * (k + 1) + i) ∧ AC2 i = DC (4 * (k + 1) + i) ∧ DN2 i = DR (4 * (k + 1) + i)) ∧ (∀ i, i < 30 → OR2 i = OQ (30 * (k + 1) + i)) ∧ shR LP f SH2 (fun i => OQ (30 * (k + 1) + i)) (fun i => svM KD TP LF HT WD CL FN (30 * (k + 1) + i)) (MY (k + 1)) (MD (k + 1)))
def rng (MR : Nat → Nat) (MC : Nat → Nat) (MW : Nat → Nat) (MD : Nat → Nat) (MY : Nat → Nat) (OQ : Nat → Nat) (KD : Nat → Nat) (TP : Nat → Int) (LF : Nat → Int) (HT : Nat → Nat) (WD : Nat → Nat) (CL : Nat → Nat) (FN : Nat → Nat) (MT : Nat → Nat) (DR : Nat → Int) (DC : Nat → Int) (CR : Nat → Int) : Prop := (∀ k, MR k ≤ 16) ∧ (∀ k, MC k ≤ 16) ∧ (∀ k, MW k ≤ 20) ∧ (∀ k, OQ k < 30) ∧ (∀ k, KD k ≤ 3) ∧ (∀ k, -16 ≤ TP k ∧ TP k ≤ 31) ∧ (∀ k, -16 ≤ LF k ∧ LF k ≤ 31) ∧ (∀ k, HT k ≤ 32) ∧ (∀ k, WD k ≤ 32) ∧ (∀ k, CL k < 16) ∧ (∀ k, FN k ≤ 1) ∧ (∀ k, MT k ≤ 6) ∧ (∀ k, -6 ≤ DR k ∧ DR k ≤ 6) ∧ (∀ k, -6 ≤ DC k ∧ DC k ≤ 6) ∧ (∀ k, -8 ≤ CR k ∧ CR k ≤ 8)
def OKs (G : GG) (LP : List Nat) (f : Nat → va_E) (I : Nat → va_W) (IM SH : Nat → Option Nat) (s : WSt) (z : FSt) (MR : Nat → Nat) (MC : Nat → Nat) (MW : Nat → Nat) (MD : Nat → Nat) (MY : Nat → Nat) (OQ : Nat → Nat) (KD : Nat → Nat) (TP : Nat → Int) (LF : Nat → Int) (HT : Nat → Nat) (WD : Nat → Nat) (CL : Nat → Nat) (FN : Nat → Nat) (MT : Nat → Nat) (DR : Nat → Int) (DC : Nat → Int) (CR : Nat → Int) (KP : Nat → Bool) : Prop := rng MR MC MW MD MY OQ KD TP LF HT WD CL FN MT DR DC CR ∧ shR LP f SH OQ (svM KD TP LF HT WD CL FN) (MY 0) (MD 0) ∧ wV OQ SH (svM KD TP LF HT WD CL FN) MW DC DR (CR 0) (MR 0) (MC 0) (MT 0) (MY 0) s ∧ zV OQ KD TP LF HT WD CL FN MW (MR 0) (MC 0) (MT 0) (MY 0) z ∧ ∀ k, k < 4 → imR G LP f I IM MR MC MW MD MY OQ KD TP LF HT WD CL FN MT DR DC CR KP k
def INV (G : GG) (A : Nat → Prop) (x m : Nat) (H : Heap) : Prop := ∃ (t p im sa qo wo qi wi qs wd qp wp qh wh aw ad ac ao ax a1 a2 a3 a4 a5 a6 a7 a8 a9 a10 a11 a12 a13 a14 a15 a16 a17 a19 a20 a21 a22 a23 : Nat) (LP : List Nat) (f : Nat → va_E) (I : Nat → va_W) (IM SH : Nat → Option Nat) (s : WSt) (z : FSt) (MR : Nat → Nat) (MC : Nat → Nat) (MW : Nat → Nat) (MD : Nat → Nat) (MY : Nat → Nat) (OQ : Nat → Nat) (KD : Nat → Nat) (TP : Nat → Int) (LF : Nat → Int) (HT : Nat → Nat) (WD : Nat → Nat) (CL : Nat → Nat) (FN : Nat → Nat) (MT : Nat → Nat) (DR : Nat → Int) (DC : Nat → Int) (CR : Nat → Int) (KP : Nat → Bool), va_P G.1 vwCl (cX G x t p im sa qo wo qi wi qs wd qp wp qh wh aw ad ac ao ax (MR 0) (MC 0) (MT 0) (CR 0) (MY 0) (MD 0) MW OQ DC DR SH IM s ++ (va_pl LP f ++ (imL I ++ mX G m a1 a2 a3 a4 a5 a6 a7 a8 a9 a10 a11 a12 a13 a14 a15 a16 a17 a19 a20 a21 a22 a23 MR MC MW MD MY OQ KD TP LF HT WD CL FN MT DR DC CR KP z))) H ∧ va_D A (cX G x t p im sa qo wo qi wi qs wd qp wp qh wh aw ad ac ao ax (MR 0) (MC 0) (MT 0) (CR 0) (MY 0) (MD 0) MW OQ DC DR SH IM s ++ (va_pl LP f ++ (imL I ++ mX G m a1 a2 a3 a4 a5 a6 a7 a8 a9 a10 a11 a12 a13 a14 a15 a16 a17 a19 a20 a21 a22 a23 MR MC MW MD MY OQ KD TP LF HT WD CL FN MT DR DC CR KP z))) ∧ OKs G LP f I IM SH s z MR MC MW MD MY OQ KD TP LF HT WD CL FN MT DR DC CR KP
theorem imR_mono {G : GG} {LP LP' : List Nat} {f f' : Nat → va_E} {I : Nat → va_W} {IM : Nat → Option Nat} {MR : Nat → Nat} {MC : Nat → Nat} {MW : Nat → Nat} {MD : Nat → Nat} {MY : Nat → Nat} {OQ : Nat → Nat} {KD : Nat → Nat} {TP : Nat → Int} {LF : Nat → Int} {HT : Nat → Nat} {WD : Nat → Nat} {CL : Nat → Nat} {FN : Nat → Nat} {MT : Nat → Nat} {DR : Nat → Int} {DC : Nat → Int} {CR : Nat → Int} {MR' : Nat → Nat} {MC' : Nat → Nat} {MW' : Nat → Nat} {MD' : Nat → Nat} {MY' : Nat → Nat} {OQ' : Nat → Nat} {KD' : Nat → Nat} {TP' : Nat → Int} {LF' : Nat → Int} {HT' : Nat → Nat} {WD' : Nat → Nat} {CL' : Nat → Nat} {FN' : Nat → Nat} {MT' : Nat → Nat} {DR' : Nat → Int} {DC' : Nat → Int} {CR' : Nat → Int} {KP : Nat → Bool} {k : Nat} (h : imR G LP f I IM MR MC MW MD MY OQ KD TP LF HT WD CL FN MT DR DC CR KP k) (hp : ∀ y, y ∈ LP → y ∈ LP' ∧ f' y = f y) (eMR : ∀ q, 1 ≤ q → MR' q = MR q) (eMC : ∀ q, 1 ≤ q → MC' q = MC q) (eMW : ∀ q, 4 ≤ q → MW' q = MW q) (eMD : ∀ q, 1 ≤ q → MD' q = MD q) (eMY : ∀ q, 1 ≤ q → MY' q = MY q) (eOQ : ∀ q, 30 ≤ q → OQ' q = OQ q) (eKD : ∀ q, 30 ≤ q → KD' q = KD q) (eTP : ∀ q, 30 ≤ q → TP' q = TP q) (eLF : ∀ q, 30 ≤ q → LF' q = LF q) (eHT : ∀ q, 30 ≤ q → HT' q = HT q) (eWD : ∀ q, 30 ≤ q → WD' q = WD q) (eCL : ∀ q, 30 ≤ q → CL' q = CL q) (eFN : ∀ q, 30 ≤ q → FN' q = FN q) (eMT : ∀ q, 1 ≤ q → MT' q = MT q) (eDR : ∀ q, 4 ≤ q → DR' q = DR q) (eDC : ∀ q, 4 ≤ q → DC' q = DC q) (eCR : ∀ q, 1 ≤ q → CR' q = CR q) : imR G LP' f' I IM MR' MC' MW' MD' MY' OQ' KD' TP' LF' HT' WD' CL' FN' MT' DR' DC' CR' KP k := by
  rcases h with h | ⟨h0, u, bw, bd, bc, bo, bx, WT2, OR2, AC2, DN2, SH2, h1, h2, h3, h4, h5⟩
  · exact Or.inl h
  · refine Or.inr ⟨h0, u, bw, bd, bc, bo, bx, WT2, OR2, AC2, DN2, SH2, h1, ?_, ?_, ?_, ?_⟩
    · rw [eMR _ (by omega), eMC _ (by omega), eMT _ (by omega), eCR _ (by omega), eMY _ (by omega), eMD _ (by omega)]
      exact h2
    · intro i hi
      rw [eMW _ (by omega), eDC _ (by omega), eDR _ (by omega)]
      exact h3 i hi
    · intro i hi
      rw [eOQ _ (by omega)]
      exact h4 i hi
    · have a1 : (fun i => OQ' (30 * (k + 1) + i)) = (fun i => OQ (30 * (k + 1) + i)) := funext fun i => eOQ _ (by omega)
      have a2 : (fun i => svM KD' TP' LF' HT' WD' CL' FN' (30 * (k + 1) + i)) = (fun i => svM KD TP LF HT WD CL FN (30 * (k + 1) + i)) := funext fun i => by
        unfold svM
        rw [eKD _ (by omega), eTP _ (by omega), eLF _ (by omega), eHT _ (by omega), eWD _ (by omega), eCL _ (by omega), eFN _ (by omega)]
      rw [a1, a2, eMY _ (by omega), eMD _ (by omega)]
      exact shR_pool h5 hp
theorem pool_same {LP : List Nat} {f : Nat → va_E} : ∀ y, y ∈ LP → y ∈ LP ∧ f y = f y := fun _ h => ⟨h, rfl⟩
theorem pl_push {D : va_G} {cl : List vw_C} {A : Nat → Prop} {cx Z : va_W} {LP : List Nat} {f : Nat → va_E} {q : Nat} {e : va_E} {H : Heap} (hP : va_P D cl ((cx ++ [(q, e)]) ++ (va_pl LP f ++ Z)) H) (hD : va_D A ((cx ++ [(q, e)]) ++ (va_pl LP f ++ Z))) : q ∉ LP ∧ va_P D cl (cx ++ (va_pl (LP ++ [q]) (va_up f q e) ++ Z)) H ∧ va_D A (cx ++ (va_pl (LP ++ [q]) (va_up f q e) ++ Z)) := by
  have hq : q ∉ LP := by
    intro h
    obtain ⟨k, hk⟩ := va_pl_get (X := []) (f := f) h
    have hk' : (va_pl LP f)[k]? = some (q, f q) := hk
    have h2 : (cx ++ [(q, e)])[cx.length]? = some (q, e) := by rw [List.getElem?_append_right (Nat.le_refl _), Nat.sub_self]; rfl
    exact D_apart hD _ k (q, e) (q, f q) h2 (by rw [List.getElem?_append_left (List.getElem?_eq_some_iff.mp hk').1]; exact hk') rfl
  refine ⟨hq, ?_⟩
  rw [← va_pl_push hq]
  have e1 : (cx ++ [(q, e)]) ++ (va_pl LP f ++ Z) = (cx ++ ([(q, e)] ++ va_pl LP f)) ++ Z := by simp only [List.append_assoc]
  have e2 : cx ++ ((va_pl LP f ++ [(q, e)]) ++ Z) = (cx ++ (va_pl LP f ++ [(q, e)])) ++ Z := by simp only [List.append_assoc]
  rw [e1] at hP hD
  rw [e2]
  refine ⟨P_mem hP (fun y hy => ?_), ?_⟩
  · simp only [List.mem_append] at hy ⊢
    rcases hy with (hy | hy | hy) | hy
    · exact Or.inl (Or.inl hy)
    · exact Or.inl (Or.inr (Or.inr hy))
    · exact Or.inl (Or.inr (Or.inl hy))
    · exact Or.inr hy
  · have d1 : va_D A (cx ++ ([(q, e)] ++ va_pl LP f)) := D_left hD
    have d2 : va_D A (cx ++ (va_pl LP f ++ [(q, e)])) := by
      refine va_D.app (D_left d1) (D_swap (D_right d1)) (fun i j p r h1 h2 => ?_)
      obtain ⟨j', hj'⟩ := List.getElem?_of_mem (show r ∈ [(q, e)] ++ va_pl LP f from List.mem_append.mpr (List.mem_append.mp (List.mem_of_getElem? h2)).symm)
      exact D_apart d1 i j' p r h1 hj'
    refine va_D.app d2 (D_right hD) (fun i j p r h1 h2 => ?_)
    obtain ⟨i', hi'⟩ := List.getElem?_of_mem (show p ∈ cx ++ ([(q, e)] ++ va_pl LP f) by
      have := List.mem_of_getElem? h1
      simp only [List.mem_append] at this ⊢
      rcases this with h | h | h
      · exact Or.inl h
      · exact Or.inr (Or.inr h)
      · exact Or.inr (Or.inl h))
    exact D_apart hD i' j p r hi' h2
theorem pl_mem {LP : List Nat} {f : Nat → va_E} {y : Nat} {E : va_E} (hy : y ∈ LP) (e : f y = E) : (y, E) ∈ va_pl LP f := by
  unfold va_pl
  exact List.mem_map.mpr ⟨y, hy, by rw [e]⟩
theorem rdS {D : va_G} {cl : List vw_C} {ws vx pl Z : va_W} {H : Heap} {E : Nat × va_E} (h : va_P D cl (ws ++ (pl ++ Z)) H) (is : List Nat) (hs : is.map (fun i => ws[i]?) = vx.map some) (hE : E ∈ pl) : va_P D cl (vx ++ [E]) H := P_mem h (fun q hq => (List.mem_append.mp hq).elim (fun g => List.mem_append.mpr (Or.inl (mem_ixs is hs q g))) (fun g => by
  rw [List.mem_singleton.mp g]
  exact List.mem_append.mpr (Or.inr (List.mem_append.mpr (Or.inl hE)))))
theorem apS {A : Nat → Prop} {ws w vx pl Z : va_W} {E : Nat × va_E} (hD : va_D A (ws ++ (pl ++ Z))) (isC isV : List Nat) (hC : isC.map (fun i => ws[i]?) = w.map some) (hs : isV.map (fun i => ws[i]?) = vx.map some) (hdis : ∀ i ∈ isV, i ∉ isC) (hE : E ∈ pl) : apartW w (vx ++ [E]) := by
  refine ap_app (ap0 hD isC isV hC hs hdis) (fun j x k q hx hq he => ?_)
  obtain ⟨i, -, hi⟩ := va_in_of isC hC hx
  have hqE : q = E := List.mem_singleton.mp (List.mem_of_getElem? hq)
  obtain ⟨k', hk'⟩ := List.getElem?_of_mem hE
  rw [← hqE] at hk'
  exact D_apart hD i k' x q hi (by rw [List.getElem?_append_left (List.getElem?_eq_some_iff.mp hk').1]; exact hk') he
section SVM
variable {KD : Nat → Nat} {TP LF : Nat → Int} {HT WD CL FN : Nat → Nat} {n k : Nat}
theorem sv_add_at {kd ht wd cl : Nat} {tp lf : Int} {fn : Bool} : svM (va_up KD n kd) (va_up TP n tp) (va_up LF n lf) (va_up HT n ht) (va_up WD n wd) (va_up CL n cl) (va_up FN n (if fn = true then 1 else 0)) n = (kd, tp, lf, ht, wd, cl, fn) := by
  unfold svM
  rw [up_at, up_at, up_at, up_at, up_at, up_at, up_at]
  cases fn <;> rfl
theorem sv_add_ne {kd ht wd cl : Nat} {tp lf : Int} {v : Nat} (h : k ≠ n) : svM (va_up KD n kd) (va_up TP n tp) (va_up LF n lf) (va_up HT n ht) (va_up WD n wd) (va_up CL n cl) (va_up FN n v) k = svM KD TP LF HT WD CL FN k := by
  unfold svM
  rw [up_ne _ _ h, up_ne _ _ h, up_ne _ _ h, up_ne _ _ h, up_ne _ _ h, up_ne _ _ h, up_ne _ _ h]
theorem sv_mv_at {tp lf : Int} : svM KD (va_up TP n tp) (va_up LF n lf) HT WD CL FN n = (KD n, tp, lf, HT n, WD n, CL n, decide (FN n = 1)) := by
  unfold svM
  rw [up_at, up_at]
theorem sv_mv_ne {tp lf : Int} (h : k ≠ n) : svM KD (va_up TP n tp) (va_up LF n lf) HT WD CL FN k = svM KD TP LF HT WD CL FN k := by
  unfold svM
  rw [up_ne _ _ h, up_ne _ _ h]
theorem sv_pt_at {cl : Nat} {fn : Bool} : svM KD TP LF HT WD (va_up CL n cl) (va_up FN n (if fn = true then 1 else 0)) n = (KD n, TP n, LF n, HT n, WD n, cl, fn) := by
  unfold svM
  rw [up_at, up_at]
  cases fn <;> rfl
theorem sv_pt_ne {cl v : Nat} (h : k ≠ n) : svM KD TP LF HT WD (va_up CL n cl) (va_up FN n v) k = svM KD TP LF HT WD CL FN k := by
  unfold svM
  rw [up_ne _ _ h, up_ne _ _ h]
end SVM
def lcx (p : Program) (s : State) (m : MethodId) (c : Code) (b L : Nat) (xs : Nat → Int32) (G : GG) : Prop := p.tables.exec = Jvm.exec ∧ c.code = cL_law ∧ c.maxLocals = 4 ∧ s.vm.findClass RL = some m.cls ∧ (∀ w ∈ wsL_law, w.before #[Value.ref b] s = true) ∧ va_X b L xs s s.heap ∧ b < s.heap.size ∧ GK G s
