/-! what is the same when slot 0 is the same -/
section CG
variable {WT WT' : Nat → Nat}
theorem dark_cong (h : ∀ i, i < 4 → WT' i = WT i) (c : Nat) : ∀ n, n ≤ 4 → dark WT' c n = dark WT c n
  | 0, _ => rfl
  | n + 1, hn => by
    unfold dark
    rw [dark_cong h c n (by omega), h n (by omega)]
theorem light_cong (h : ∀ i, i < 4 → WT' i = WT i) (a b : Nat) : lightP WT' a b ↔ lightP WT a b := by
  show (dark WT' a 4 < dark WT' b 4 ∨ (dark WT' a 4 = dark WT' b 4 ∧ a < b)) ↔ _
  rw [dark_cong h a 4 (Nat.le_refl 4), dark_cong h b 4 (Nat.le_refl 4)]
theorem dkr_cong (h : ∀ i, i < 4 → WT' i = WT i) (d : Nat) : ∀ n, dkr WT' d n = dkr WT d n
  | 0 => rfl
  | n + 1 => by
    unfold dkr
    rw [dkr_cong h d n]
    by_cases q : lightP WT d n
    · rw [if_pos q, if_pos ((light_cong h d n).mpr q)]
    · rw [if_neg q, if_neg (fun g => q ((light_cong h d n).mp g))]
theorem mkP_cong (h : ∀ i, i < 4 → WT' i = WT i) (FI FO : Nat → Nat) (tr : Nat) : mkP FI FO WT' tr = mkP FI FO WT tr := by
  unfold mkP
  have e : (fun d F => growP FO d (dkr WT' d 16) tr F) = (fun d F => growP FO d (dkr WT d 16) tr F) := by
    funext d F
    rw [dkr_cong h d 16]
  rw [e]
theorem plJ_cong (h : ∀ i, i < 4 → WT' i = WT i) {CA : Nat → Nat} {FA : Nat → Bool} {rw cm x : Nat} {i j0 : Int} {b : Nat} : ∀ k, plJ CA FA WT' rw cm x i j0 b k = plJ CA FA WT rw cm x i j0 b k
  | 0 => rfl
  | k + 1 => by
    unfold plJ
    rw [plJ_cong h k]
    by_cases q : celP rw cm i (j0 + k) ∧ FA (16 * i + (j0 + k)).toNat = false ∧ lightP WT (CA (16 * i + (j0 + k)).toNat) (CA x)
    · rw [if_pos q, if_pos ⟨q.1, q.2.1, (light_cong h _ _).mpr q.2.2⟩]
    · rw [if_neg q, if_neg (fun g => q ⟨g.1, g.2.1, (light_cong h _ _).mp g.2.2⟩)]
theorem plI_cong (h : ∀ i, i < 4 → WT' i = WT i) {CA : Nat → Nat} {FA : Nat → Bool} {rw cm w r c : Nat} : ∀ k, plI CA FA WT' rw cm w r c k = plI CA FA WT rw cm w r c k
  | 0 => rfl
  | k + 1 => by
    unfold plI
    rw [plI_cong h k, plJ_cong h]
theorem platM_cong (h : ∀ i, i < 4 → WT' i = WT i) {CA : Nat → Nat} {FA : Nat → Bool} {rw cm w r c : Nat} : platM CA FA WT' rw cm w r c = platM CA FA WT rw cm w r c := by
  unfold platM
  rw [plI_cong h]
end CG
theorem foldN_cong {σ : Type} {f g : Nat → σ → σ} {a : Nat} {x : σ} : ∀ k, (∀ i y, i < k → f (a + i) y = g (a + i) y) → foldN f a x k = foldN g a x k
  | 0, _ => rfl
  | k + 1, h => by
    show f (a + k) (foldN f a x k) = g (a + k) (foldN g a x k)
    rw [foldN_cong k (fun i y hi => h i y (by omega)), h k _ (by omega)]
theorem plP_cong {AC AC' DN DN' : Nat → Int} (h : ∀ i, i < 4 → AC' i = AC i ∧ DN' i = DN i) (FP : Nat → Nat) (cr : Int) (rw cm : Nat) : plP FP AC' DN' cr rw cm = plP FP AC DN cr rw cm := by
  unfold plP
  refine foldN_cong 4 (fun i y hi => ?_)
  have e : pCol FP AC' DN' cr rw (0 + i) = pCol FP AC DN cr rw (0 + i) := by
    funext c F
    unfold pCol offC
    rw [(h (0 + i) (by omega)).1, (h (0 + i) (by omega)).2]
  rw [e]
theorem dPic_cong {OR OR' : Nat → Nat} {SH : Nat → Option Nat} {SV SV' : Nat → ShT} {rw cm ly : Nat} (hl : ly ≤ 30) (hO : ∀ k, OR k < 30) (h1 : ∀ k, k < 30 → OR' k = OR k) (h2 : ∀ k, k < 30 → SV' k = SV k) : ∀ m, m ≤ ly → dPic OR' SH SV' rw cm ly m = dPic OR SH SV rw cm ly m
  | 0, _ => rfl
  | m + 1, hm => by
    show dStep SH SV' rw cm (OR' (ly - 1 - m)) (dPic OR' SH SV' rw cm ly m) = dStep SH SV rw cm (OR (ly - 1 - m)) (dPic OR SH SV rw cm ly m)
    rw [dPic_cong hl hO h1 h2 m (by omega), h1 _ (by omega)]
    unfold dStep
    rw [h2 _ (hO _)]
section CG2
variable {OQ KD OQ' KD' : Nat → Nat} {TP LF TP' LF' : Nat → Int} {HT WD CL FN HT' WD' CL' FN' MW MW' : Nat → Nat}
theorem topM_cong (hO : ∀ k, OQ k < 30) (e1 : ∀ k, k < 30 → OQ' k = OQ k) (e2 : ∀ k, k < 30 → svM KD' TP' LF' HT' WD' CL' FN' k = svM KD TP LF HT WD CL FN k) {r c : Nat} : ∀ k, k ≤ 30 → topM OQ' KD' TP' LF' HT' WD' r c k = topM OQ KD TP LF HT WD r c k
  | 0, _ => rfl
  | k + 1, hk => by
    have q := e2 (OQ k) (hO k)
    unfold svM at q
    simp only [Prod.mk.injEq] at q
    obtain ⟨q1, q2, q3, q4, q5, -, -⟩ := q
    unfold topM
    rw [topM_cong hO e1 e2 k (by omega), e1 k (by omega), q1, q2, q3, q4, q5]
theorem wV_cong {SH : Nat → Option Nat} {SV SV' : Nat → ShT} {WT WT' : Nat → Nat} {AC DN AC' DN' : Nat → Int} {cr : Int} {rw cm tr ly : Nat} {s : WSt} (hl : ly ≤ 30) (hO : ∀ k, OQ k < 30) (e1 : ∀ k, k < 30 → OQ' k = OQ k) (e2 : ∀ k, k < 30 → SV' k = SV k) (e3 : ∀ i, i < 4 → WT' i = WT i) (e4 : ∀ i, i < 4 → AC' i = AC i ∧ DN' i = DN i) (h : wV OQ SH SV WT AC DN cr rw cm tr ly s) : wV OQ' SH SV' WT' AC' DN' cr rw cm tr ly s := by
  refine ⟨h.1, fun g => ?_, fun g => ?_, fun g => ?_⟩
  · rw [dPic_cong hl hO e1 e2 ly (Nat.le_refl _)]
    exact h.2.1 g
  · rw [mkP_cong e3]
    exact h.2.2.1 g
  · rw [plP_cong e4]
    exact h.2.2.2 g
theorem zV_cong {rw cm tr ly : Nat} {z : FSt} (hl : ly ≤ 30) (hO : ∀ k, OQ k < 30) (e1 : ∀ k, k < 30 → OQ' k = OQ k) (e2 : ∀ k, k < 30 → svM KD' TP' LF' HT' WD' CL' FN' k = svM KD TP LF HT WD CL FN k) (e3 : ∀ k, k < 30 → CL' k = CL k ∧ FN' k = FN k) (e4 : ∀ i, i < 4 → MW' i = MW i) (h : zV OQ KD TP LF HT WD CL FN MW rw cm tr ly z) : zV OQ' KD' TP' LF' HT' WD' CL' FN' MW' rw cm tr ly z := by
  refine ⟨h.1, fun g r c hr hc => ?_⟩
  obtain ⟨h1, h2, h3, h4⟩ := h.2 g r c hr hc
  have et : topF OQ' KD' TP' LF' HT' WD' ly r c = topF OQ KD TP LF HT WD ly r c := topM_cong hO e1 e2 ly hl
  have tb := topM_rng (KD := KD) (TP := TP) (LF := LF) (HT := HT) (WD := WD) (r := r) (c := c) hO ly
  have tb2 : -1 ≤ topF OQ KD TP LF HT WD ly r c ∧ topF OQ KD TP LF HT WD ly r c ≤ 29 := tb
  rw [et, platM_cong e4]
  generalize topF OQ KD TP LF HT WD ly r c = t at *
  refine ⟨h1, ?_, ?_, h4⟩
  · rw [h2]
    unfold colS
    by_cases q : t = -1
    · rw [if_pos q, if_pos q]
    · rw [if_neg q, if_neg q, (e3 t.toNat (by omega)).1]
  · rw [h3]
    unfold finS
    by_cases q : t = -1
    · rw [decide_eq_false (fun g => g.1 q), decide_eq_false (fun g => g.1 q)]
    · rw [(e3 t.toNat (by omega)).2]
end CG2
/-! the images' cells -/
theorem P_perm {D : va_G} {cl : List vw_C} {a b : va_W} {H : Heap} (h : a.Perm b) (hP : va_P D cl a H) : va_P D cl b H := P_mem hP (fun q hq => h.mem_iff.mpr hq)
theorem D_cons {A : Nat → Prop} {x : Nat × va_E} {l : va_W} (h1 : va_D A [x]) (h2 : va_D A l) (h3 : ∀ q ∈ l, x.1 ≠ q.1) : va_D A (x :: l) := va_D.app (w1 := [x]) h1 h2 (fun i j p q hp hq => by
  rw [List.mem_singleton.mp (List.mem_of_getElem? hp)]
  exact h3 q (List.mem_of_getElem? hq))
theorem D_cons1 {A : Nat → Prop} {x : Nat × va_E} {l : va_W} (h : va_D A (x :: l)) : va_D A [x] ∧ va_D A l ∧ ∀ q ∈ l, x.1 ≠ q.1 := by
  have h' : va_D A ([x] ++ l) := h
  refine ⟨D_left h', D_right h', fun q hq => ?_⟩
  obtain ⟨j, hj⟩ := List.getElem?_of_mem hq
  exact D_apart h' 0 j x q rfl hj
theorem D_perm {A : Nat → Prop} {a b : va_W} (h : a.Perm b) : va_D A a → va_D A b := by
  induction h with
  | nil => exact id
  | cons x p ih =>
    intro hd
    obtain ⟨h1, h2, h3⟩ := D_cons1 hd
    exact D_cons h1 (ih h2) (fun q hq => h3 q (p.mem_iff.mpr hq))
  | swap x y l =>
    intro hd
    obtain ⟨h1, h2, h3⟩ := D_cons1 hd
    obtain ⟨h4, h5, h6⟩ := D_cons1 h2
    refine D_cons h4 (D_cons h1 h5 (fun q hq => h3 q (List.mem_cons_of_mem _ hq))) (fun q hq => ?_)
    rcases List.mem_cons.mp hq with e | e
    · rw [e]
      exact fun g => h3 x List.mem_cons_self g.symm
    · exact h6 q e
  | trans _ _ ih1 ih2 => exact fun hd => ih2 (ih1 hd)
theorem im_split (I : Nat → va_W) {k : Nat} (hk : k < 4) : ∃ R9 : va_W, (imL I).Perm (I k ++ R9) ∧ ∀ J : va_W, (imL (va_up I k J)).Perm (J ++ R9) := by
  rcases (show k = 0 ∨ k = 1 ∨ k = 2 ∨ k = 3 by omega) with rfl | rfl | rfl | rfl
  · exact ⟨I 1 ++ (I 2 ++ I 3), List.Perm.refl _, fun J => List.Perm.refl _⟩
  · exact ⟨I 0 ++ (I 2 ++ I 3), List.perm_append_comm_assoc _ _ _, fun J => List.perm_append_comm_assoc (I 0) J (I 2 ++ I 3)⟩
  · have key : ∀ a b c d : va_W, (a ++ (b ++ (c ++ d))).Perm (c ++ (a ++ (b ++ d))) := fun a b c d => ((List.perm_append_comm_assoc b c d).append_left a).trans (List.perm_append_comm_assoc a c (b ++ d))
    exact ⟨I 0 ++ (I 1 ++ I 3), key _ _ _ _, fun J => key (I 0) (I 1) J (I 3)⟩
  · have key : ∀ a b c d : va_W, (a ++ (b ++ (c ++ d))).Perm (d ++ (a ++ (b ++ c))) := fun a b c d => by
      have e : a ++ (b ++ (c ++ d)) = (a ++ (b ++ c)) ++ d := by simp only [List.append_assoc]
      rw [e]
      exact List.perm_append_comm
    exact ⟨I 0 ++ (I 1 ++ I 2), key _ _ _ _, fun J => key (I 0) (I 1) (I 2) J⟩
theorem im_out {cx pl Im Ik R9 mx : va_W} (h : Im.Perm (Ik ++ R9)) : (cx ++ (pl ++ (Im ++ mx))).Perm ((cx ++ Ik) ++ (pl ++ (R9 ++ mx))) := by
  have e1 : (pl ++ (Im ++ mx)).Perm (pl ++ ((Ik ++ R9) ++ mx)) := (h.append_right mx).append_left pl
  have e2 : (pl ++ ((Ik ++ R9) ++ mx)).Perm (Ik ++ (pl ++ (R9 ++ mx))) := by
    rw [List.append_assoc]
    exact List.perm_append_comm_assoc pl Ik (R9 ++ mx)
  rw [List.append_assoc]
  exact (e1.trans e2).append_left cx
theorem imR_upd {G : GG} {LP : List Nat} {f : Nat → va_E} {I : Nat → va_W} {IM : Nat → Option Nat} {MR MC MW MD MY OQ KD : Nat → Nat} {TP LF : Nat → Int} {HT WD CL FN MT : Nat → Nat} {DR DC CR : Nat → Int} {KP : Nat → Bool} {k j : Nat} {J : va_W} {v : Option Nat} {bv : Bool} (hj : j ≠ k) (h : imR G LP f I IM MR MC MW MD MY OQ KD TP LF HT WD CL FN MT DR DC CR KP j) : imR G LP f (va_up I k J) (va_up IM k v) MR MC MW MD MY OQ KD TP LF HT WD CL FN MT DR DC CR (va_up KP k bv) j := by
  unfold imR
  rw [up_ne _ _ hj, up_ne _ _ hj, up_ne _ _ hj]
  exact h
