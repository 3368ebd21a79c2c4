/-! the state of the law: the class's cells, the model's cells -/
abbrev cX (G : GG) (x t p im sa qo wo qi wi qs wd qp wp qh wh aw ad ac ao ax : Nat) (rw cm tr : Nat) (cr : Int) (ly md : Nat) (WT OR : Nat → Nat) (AC DN : Nat → Int) (SH IM : Nat → Option Nat) (s : WSt) : va_W := [(x, .inr (4, [.ref t, .ref p, .ref im])), (t, .inr (3, [.int (iI (((rw : Nat) : Int))), .int (iI (((cm : Nat) : Int))), .int (iI (((tr : Nat) : Int))), .int (iI (cr)), .int (iI (((ly : Nat) : Int))), .int (iI (((md : Nat) : Int))), .ref aw, .ref ad, .ref ac, .ref ao, .ref ax])), (aw, .inl (G.2 0, 4, .inl (fun iX => iI ((WT iX : Nat) : Int)))), (ad, .inl (G.2 0, 4, .inl (fun iX => iI (DN iX)))), (ac, .inl (G.2 0, 4, .inl (fun iX => iI (AC iX)))), (ao, .inl (G.2 0, 30, .inl (fun iX => iI ((OR iX : Nat) : Int)))), (ax, .inl (G.2 2, 30, .inr (.inr (.inr (.inr SH))))), (p, .inr (1, [.ref sa, .ref qo, .ref qi, .ref qs, .ref qp, .ref qh, .int (iI (((s.2.2.2 : Nat) : Int)))])), (sa, .inl (G.2 0, 256, .inl (fun iX => iI (s.1.1 iX)))), (wi, .inl (G.2 0, 4 * 16, .inl (fun iX => iI ((s.1.2.1 iX : Nat) : Int)))), (wo, .inl (G.2 0, 16 * 16, .inl (fun iX => iI ((s.1.2.2.1 iX : Nat) : Int)))), (wd, .inl (G.2 0, 1 * 16, .inl (fun iX => iI ((s.1.2.2.2 iX : Nat) : Int)))), (wp, .inl (G.2 0, 4 * 16, .inl (fun iX => iI ((s.2.1 iX : Nat) : Int)))), (wh, .inl (G.2 0, 4 * 16, .inl (fun iX => iI ((s.2.2.1 iX : Nat) : Int)))), (qo, .inr (0, [.int (iI (16)), .ref wo])), (qi, .inr (0, [.int (iI (4)), .ref wi])), (qs, .inr (0, [.int (iI (1)), .ref wd])), (qp, .inr (0, [.int (iI (4)), .ref wp])), (qh, .inr (0, [.int (iI (4)), .ref wh])), (im, .inl (G.2 3, 4, .inr (.inr (.inr (.inr IM)))))]
abbrev mX (G : GG) (m a1 a2 a3 a4 a5 a6 a7 a8 a9 a10 a11 a12 a13 a14 a15 a16 a17 a19 a20 a21 a22 a23 : Nat) (MR : Nat → Nat) (MC : Nat → Nat) (MW : Nat → Nat) (MD : Nat → Nat) (MY : Nat → Nat) (OQ : Nat → Nat) (KD : Nat → Nat) (TP : Nat → Int) (LF : Nat → Int) (HT : Nat → Nat) (WD : Nat → Nat) (CL : Nat → Nat) (FN : Nat → Nat) (MT : Nat → Nat) (DR : Nat → Int) (DC : Nat → Int) (CR : Nat → Int) (KP : Nat → Bool) (z : FSt) : va_W := [(m, .inr (5, [.int (iI (0)), .ref a1, .ref a2, .ref a3, .ref a4, .ref a5, .ref a6, .ref a7, .ref a8, .ref a9, .ref a10, .ref a11, .ref a12, .ref a13, .ref a14, .ref a15, .ref a16, .ref a17, .int (iI (b2i z.1)), .ref a19, .ref a20, .ref a21, .ref a22, .ref a23])), (a19, .inl (G.2 0, 256, .inl (fun iX => iI (z.2.1 iX)))), (a20, .inl (G.2 0, 256, .inl (fun iX => iI ((z.2.2.1 iX : Nat) : Int)))), (a21, .inl (G.2 1, 256, .inl (fun iX => iI (b2i (z.2.2.2.1 iX))))), (a22, .inl (G.2 0, 256, .inl (fun iX => iI ((z.2.2.2.2 iX : Nat) : Int)))), (a1, .inl (G.2 0, 5, .inl (fun iX => iI ((MR iX : Nat) : Int)))), (a2, .inl (G.2 0, 5, .inl (fun iX => iI ((MC iX : Nat) : Int)))), (a3, .inl (G.2 0, 20, .inl (fun iX => iI ((MW iX : Nat) : Int)))), (a4, .inl (G.2 0, 5, .inl (fun iX => iI ((MD iX : Nat) : Int)))), (a5, .inl (G.2 0, 5, .inl (fun iX => iI ((MY iX : Nat) : Int)))), (a6, .inl (G.2 0, 150, .inl (fun iX => iI ((OQ iX : Nat) : Int)))), (a7, .inl (G.2 0, 150, .inl (fun iX => iI ((KD iX : Nat) : Int)))), (a8, .inl (G.2 0, 150, .inl (fun iX => iI (TP iX)))), (a9, .inl (G.2 0, 150, .inl (fun iX => iI (LF iX)))), (a10, .inl (G.2 0, 150, .inl (fun iX => iI ((HT iX : Nat) : Int)))), (a11, .inl (G.2 0, 150, .inl (fun iX => iI ((WD iX : Nat) : Int)))), (a12, .inl (G.2 0, 150, .inl (fun iX => iI ((CL iX : Nat) : Int)))), (a13, .inl (G.2 0, 150, .inl (fun iX => iI ((FN iX : Nat) : Int)))), (a14, .inl (G.2 0, 5, .inl (fun iX => iI ((MT iX : Nat) : Int)))), (a15, .inl (G.2 0, 20, .inl (fun iX => iI (DR iX)))), (a16, .inl (G.2 0, 20, .inl (fun iX => iI (DC iX)))), (a17, .inl (G.2 0, 5, .inl (fun iX => iI (CR iX)))), (a23, .inl (G.2 1, 4, .inl (fun iX => iI (b2i (KP iX)))))]
def imL (I : Nat → va_W) : va_W := I 0 ++ (I 1 ++ (I 2 ++ I 3))
/-! the press keeps what holds -/
def wV (OR : Nat → Nat) (SH : Nat → Option Nat) (SV : Nat → ShT) (WT : Nat → Nat) (AC DN : Nat → Int) (cr : Int) (rw cm tr ly : Nat) (s : WSt) : Prop := wOK s ∧ (1 ≤ s.2.2.2 → s.1 = dPic OR SH SV rw cm ly ly) ∧ (2 ≤ s.2.2.2 → s.2.1 = mkP s.1.2.1 s.1.2.2.1 WT tr) ∧ (3 ≤ s.2.2.2 → s.2.2.1 = plP s.2.1 AC DN cr rw cm)
section WV
variable {OR : Nat → Nat} {SH : Nat → Option Nat} {SV : Nat → ShT} {WT : Nat → Nat} {AC DN : Nat → Int} {cr : Int} {rw cm tr ly : Nat} {s : WSt}
theorem wV_1 (hc : cm ≤ 16) (hO : ∀ k, OR k < 30) (sp : Nat) (h : wV OR SH SV WT AC DN cr rw cm tr ly s) : wV OR SH SV WT AC DN cr rw cm tr ly (wk1 (dPic OR SH SV rw cm ly ly) sp s) ∧ (1 ≤ sp → 1 ≤ (wk1 (dPic OR SH SV rw cm ly ly) sp s).2.2.2) := by
  unfold wk1
  by_cases q : s.2.2.2 < 1 ∧ 1 ≤ sp
  · rw [if_pos q]
    exact ⟨⟨⟨pOK_pic hc ly, seenB_pic hO ly, h.1.2.2.1, h.1.2.2.2.1, by show 1 ≤ 3; decide⟩, fun _ => rfl, fun g => absurd g (by show ¬ 2 ≤ 1; decide), fun g => absurd g (by show ¬ 3 ≤ 1; decide)⟩, fun _ => Nat.le_refl 1⟩
  · rw [if_neg q]
    exact ⟨h, fun g => by omega⟩
theorem wV_2 (sp : Nat) (h : wV OR SH SV WT AC DN cr rw cm tr ly s) (h1 : 1 ≤ sp → 1 ≤ s.2.2.2) : wV OR SH SV WT AC DN cr rw cm tr ly (wk2 WT tr sp s) ∧ (1 ≤ sp → 1 ≤ (wk2 WT tr sp s).2.2.2) ∧ (2 ≤ sp → 2 ≤ (wk2 WT tr sp s).2.2.2) := by
  unfold wk2
  by_cases q : s.2.2.2 < 2 ∧ 2 ≤ sp
  · rw [if_pos q]
    exact ⟨⟨⟨h.1.1, h.1.2.1, mkP_lt h.1.1.1 h.1.1.2.1 tr, h.1.2.2.2.1, by show 2 ≤ 3; decide⟩, fun _ => h.2.1 (h1 (by omega)), fun _ => rfl, fun g => absurd g (by show ¬ 3 ≤ 2; decide)⟩, fun _ => by show 1 ≤ 2; decide, fun _ => Nat.le_refl 2⟩
  · rw [if_neg q]
    exact ⟨h, h1, fun g => by omega⟩
theorem wV_3 (hc : cm ≤ 16) (sp : Nat) (h : wV OR SH SV WT AC DN cr rw cm tr ly s) (h1 : 1 ≤ sp → 1 ≤ s.2.2.2) (h2 : 2 ≤ sp → 2 ≤ s.2.2.2) : wV OR SH SV WT AC DN cr rw cm tr ly (wk3 AC DN cr rw cm sp s) ∧ (1 ≤ sp → 1 ≤ (wk3 AC DN cr rw cm sp s).2.2.2) ∧ (2 ≤ sp → 2 ≤ (wk3 AC DN cr rw cm sp s).2.2.2) ∧ (3 ≤ sp → 3 ≤ (wk3 AC DN cr rw cm sp s).2.2.2) := by
  unfold wk3
  by_cases q : s.2.2.2 < 3 ∧ 3 ≤ sp
  · rw [if_pos q]
    exact ⟨⟨⟨h.1.1, h.1.2.1, h.1.2.2.1, plP_lt _ _ _ _ _ hc, by show 3 ≤ 3; decide⟩, fun _ => h.2.1 (h1 (by omega)), fun _ => h.2.2.1 (h2 (by omega)), fun _ => rfl⟩, fun _ => by show 1 ≤ 3; decide, fun _ => by show 2 ≤ 3; decide, fun _ => Nat.le_refl 3⟩
  · rw [if_neg q]
    exact ⟨h, h1, h2, fun g => by omega⟩
theorem wV_work (hc : cm ≤ 16) (hO : ∀ k, OR k < 30) (sp : Nat) (h : wV OR SH SV WT AC DN cr rw cm tr ly s) : wV OR SH SV WT AC DN cr rw cm tr ly (wkF OR SH SV WT AC DN cr rw cm tr ly sp s) ∧ (1 ≤ sp → 1 ≤ (wkF OR SH SV WT AC DN cr rw cm tr ly sp s).2.2.2) ∧ (2 ≤ sp → 2 ≤ (wkF OR SH SV WT AC DN cr rw cm tr ly sp s).2.2.2) ∧ (3 ≤ sp → 3 ≤ (wkF OR SH SV WT AC DN cr rw cm tr ly sp s).2.2.2) := by
  have a1 := wV_1 hc hO sp h
  have a2 := wV_2 sp a1.1 a1.2
  exact wV_3 hc sp a2.1 a2.2.1 a2.2.2
abbrev kp (s : WSt) (k : Nat) : WSt := (s.1, s.2.1, s.2.2.1, min s.2.2.2 k)
theorem wV_0 {OR' : Nat → Nat} {SH' : Nat → Option Nat} {SV' : Nat → ShT} {WT' : Nat → Nat} {AC' DN' : Nat → Int} {cr' : Int} {rw' cm' tr' ly' : Nat} (h : wOK s) : wV OR' SH' SV' WT' AC' DN' cr' rw' cm' tr' ly' (kp s 0) := by
  refine ⟨wOK_keep h 0, fun g => ?_, fun g => ?_, fun g => ?_⟩
  · have g' : 1 ≤ min s.2.2.2 0 := g
    omega
  · have g' : 2 ≤ min s.2.2.2 0 := g
    omega
  · have g' : 3 ≤ min s.2.2.2 0 := g
    omega
theorem wV_k1 {WT' : Nat → Nat} {AC' DN' : Nat → Int} {cr' : Int} {tr' : Nat} (h : wV OR SH SV WT AC DN cr rw cm tr ly s) : wV OR SH SV WT' AC' DN' cr' rw cm tr' ly (kp s 1) := by
  refine ⟨wOK_keep h.1 1, fun g => ?_, fun g => ?_, fun g => ?_⟩
  · have g' : 1 ≤ min s.2.2.2 1 := g
    exact h.2.1 (by omega)
  · have g' : 2 ≤ min s.2.2.2 1 := g
    omega
  · have g' : 3 ≤ min s.2.2.2 1 := g
    omega
theorem wV_k2 {AC' DN' : Nat → Int} {cr' : Int} (h : wV OR SH SV WT AC DN cr rw cm tr ly s) : wV OR SH SV WT AC' DN' cr' rw cm tr ly (kp s 2) := by
  refine ⟨wOK_keep h.1 2, fun g => ?_, fun g => ?_, fun g => ?_⟩
  · have g' : 1 ≤ min s.2.2.2 2 := g
    exact h.2.1 (by omega)
  · have g' : 2 ≤ min s.2.2.2 2 := g
    exact h.2.2.1 (by omega)
  · have g' : 3 ≤ min s.2.2.2 2 := g
    omega
end WV
/-! the model keeps what holds -/
section ZV
variable {OQ KD : Nat → Nat} {TP LF : Nat → Int} {HT WD CL FN MW : Nat → Nat} {rw cm tr ly : Nat} {z : FSt}
def FFd (OQ KD : Nat → Nat) (TP LF : Nat → Int) (HT WD CL FN MW : Nat → Nat) (rw cm tr ly : Nat) (z : FSt) : Prop := ∀ r c, r < rw → c < cm → z.2.1 (16 * r + c) = topF OQ KD TP LF HT WD ly r c ∧ z.2.2.1 (16 * r + c) = colS CL (topF OQ KD TP LF HT WD ly r c) ∧ z.2.2.2.1 (16 * r + c) = finS FN (topF OQ KD TP LF HT WD ly r c) ∧ z.2.2.2.2 (16 * r + c) = platM z.2.2.1 z.2.2.2.1 MW rw cm tr r c
def zV (OQ KD : Nat → Nat) (TP LF : Nat → Int) (HT WD CL FN MW : Nat → Nat) (rw cm tr ly : Nat) (z : FSt) : Prop := zOK z ∧ (z.1 = true → FFd OQ KD TP LF HT WD CL FN MW rw cm tr ly z)
theorem FF_fc (hc : cm ≤ 16) (h : zV OQ KD TP LF HT WD CL FN MW rw cm tr ly z) : FFd OQ KD TP LF HT WD CL FN MW rw cm tr ly (fcF rw cm ly tr MW OQ KD TP LF HT WD CL FN z) := by
  unfold fcF
  by_cases q : z.1 = true
  · rw [if_pos q]
    exact h.2 q
  · rw [if_neg q]
    intro r c hr hc1
    refine ⟨grd_at _ _ hr hc1 hc, ?_, ?_, grd_at _ _ hr hc1 hc⟩
    · exact grd_at (fun r c => colS CL (topF OQ KD TP LF HT WD ly r c)) z.2.2.1 hr hc1 hc
    · exact grd_at (fun r c => finS FN (topF OQ KD TP LF HT WD ly r c)) z.2.2.2.1 hr hc1 hc
theorem zV_fc (hc : cm ≤ 16) (hQ : ∀ k, OQ k < 30) (hC : ∀ k, CL k < 16) (h : zV OQ KD TP LF HT WD CL FN MW rw cm tr ly z) : zV OQ KD TP LF HT WD CL FN MW rw cm tr ly (fcF rw cm ly tr MW OQ KD TP LF HT WD CL FN z) := ⟨zOK_fc hQ hC h.1, fun _ => FF_fc hc h⟩
theorem zV_f (h : zOK z) : zV OQ KD TP LF HT WD CL FN MW rw cm tr ly (false, z.2) := ⟨h, fun g => absurd (show false = true from g) (by decide)⟩
theorem tPg_in {r c : Nat} (h1 : r < rw) (h2 : c < cm) : tPg OQ KD TP LF HT WD rw cm ly r c = topF OQ KD TP LF HT WD ly r c := by
  unfold tPg
  rw [if_pos ⟨h1, h2⟩]
theorem tPg_out {r c : Nat} (h : ¬ (r < rw ∧ c < cm)) : tPg OQ KD TP LF HT WD rw cm ly r c = -1 := by
  unfold tPg
  rw [if_neg h]
theorem col_page {r c : Nat} (h : colS CL (tPg OQ KD TP LF HT WD rw cm ly r c) ≠ 0) : r < rw ∧ c < cm := by
  apply Classical.byContradiction
  intro q
  rw [tPg_out q, colS_m1] at h
  exact h rfl
variable {X : PSt}
theorem lay_I (hR : Rep CL FN X (tPg OQ KD TP LF HT WD rw cm ly)) (hc : cm ≤ 16) (hF : FFd OQ KD TP LF HT WD CL FN MW rw cm tr ly z) : LayV X.2.1 rw cm (fun r c => z.2.2.1 (16 * r + c)) := by
  intro i r c hi hr
  rw [hR.2.1 i r c hi hr]
  by_cases q : r < rw ∧ c < cm
  · rw [tPg_in q.1 q.2]
    show c < 16 ∧ _ ↔ (r < rw ∧ c < cm) ∧ (z.2.2.1 (16 * r + c)).testBit i = true
    rw [(hF r c q.1 q.2).2.1]
    exact ⟨fun g => ⟨q, g.2⟩, fun g => ⟨by omega, g.2⟩⟩
  · rw [tPg_out q, colS_m1]
    exact ⟨fun g => absurd g.2 (zero_tb i), fun g => absurd g.1 q⟩
theorem lay_D (hR : Rep CL FN X (tPg OQ KD TP LF HT WD rw cm ly)) (hc : cm ≤ 16) (hF : FFd OQ KD TP LF HT WD CL FN MW rw cm tr ly z) : ∀ r c, r < 16 → ((X.2.2.2 (0 * 16 + r)).testBit c = true ↔ (r < rw ∧ c < cm) ∧ z.2.2.1 (16 * r + c) ≠ 0 ∧ z.2.2.2.1 (16 * r + c) = false) := by
  intro r c hr
  rw [hR.2.2.2 r c hr]
  by_cases q : r < rw ∧ c < cm
  · rw [tPg_in q.1 q.2, (hF r c q.1 q.2).2.1, (hF r c q.1 q.2).2.2.1]
    exact ⟨fun g => ⟨q, g.2⟩, fun g => ⟨by omega, g.2⟩⟩
  · rw [tPg_out q, colS_m1]
    exact ⟨fun g => absurd rfl g.2.1, fun g => absurd g.1 q⟩
theorem lay_P (hR : Rep CL FN X (tPg OQ KD TP LF HT WD rw cm ly)) (hC : ∀ k, CL k < 16) (hr : rw ≤ 16) (hc : cm ≤ 16) (hF : FFd OQ KD TP LF HT WD CL FN MW rw cm tr ly z) : LayV (mkP X.2.1 X.2.2.1 MW tr) rw cm (fun r c => z.2.2.2.2 (16 * r + c)) := by
  intro i r c hi hr16
  have h16 : ∀ r c, colS CL (tPg OQ KD TP LF HT WD rw cm ly r c) ≠ 0 → r < 16 ∧ c < 16 := fun r c q => by
    have := col_page q
    omega
  rw [mkP_tb hR hC h16 hi hr16]
  by_cases q : r < rw ∧ c < cm
  · have e := platM_tb (CA := z.2.2.1) (FA := z.2.2.2.1) (WT := MW) (col := fun r c => colS CL (tPg OQ KD TP LF HT WD rw cm ly r c)) (fin := fun r c => finS FN (tPg OQ KD TP LF HT WD rw cm ly r c)) (w := tr) (e := i) (fun r c h1 h2 => by
      have := hF r c h1 h2
      refine ⟨?_, ?_⟩
      · show z.2.2.1 (16 * r + c) = colS CL (tPg OQ KD TP LF HT WD rw cm ly r c)
        rw [tPg_in h1 h2]
        exact this.2.1
      · show z.2.2.2.1 (16 * r + c) = finS FN (tPg OQ KD TP LF HT WD rw cm ly r c)
        rw [tPg_in h1 h2]
        exact this.2.2.1) (fun r c g => col_page g) q.1 q.2
    rw [← e, ← (hF r c q.1 q.2).2.2.2]
    exact ⟨fun g => ⟨q, g⟩, fun g => g.2⟩
  · constructor
    · rintro (g | g)
      · exact absurd (col_page (tb_ne0 g)) q
      · exact absurd (col_page g.1) q
    · intro g
      exact absurd g.1 q
end ZV
