/-! what both answer -/
section AN
variable {OQ KD : Nat → Nat} {TP LF : Nat → Int} {HT WD CL FN MW : Nat → Nat} {DR DC : Nat → Int} {cr : Int} {SH : Nat → Option Nat} {rw cm tr ly sp : Nat} {S : WSt} {Z : FSt}
def rdy (OQ KD : Nat → Nat) (TP LF : Nat → Int) (HT WD CL FN MW : Nat → Nat) (DR DC : Nat → Int) (cr : Int) (SH : Nat → Option Nat) (rw cm tr ly sp : Nat) (S : WSt) (Z : FSt) : Prop := (rw ≤ 16 ∧ cm ≤ 16) ∧ (∀ k, CL k < 16) ∧ (∀ k, k < ly → SH (OQ k) ≠ none) ∧ wV OQ SH (svM KD TP LF HT WD CL FN) MW DC DR cr rw cm tr ly S ∧ sp ≤ S.2.2.2 ∧ zOK Z ∧ FFd OQ KD TP LF HT WD CL FN MW rw cm tr ly Z
theorem an_R (h : rdy OQ KD TP LF HT WD CL FN MW DR DC cr SH rw cm tr ly sp S Z) (hs : 1 ≤ sp) : Rep CL FN S.1 (tPg OQ KD TP LF HT WD rw cm ly) := by
  obtain ⟨h1, h2, h3, h4, h5, h6, h7⟩ := h
  rw [h4.2.1 (by omega)]
  exact pic_rep h1.1 h1.2 h2 h3
theorem an_I (h : rdy OQ KD TP LF HT WD CL FN MW DR DC cr SH rw cm tr ly sp S Z) (hs : 1 ≤ sp) : LayV S.1.2.1 rw cm (fun r c => Z.2.2.1 (16 * r + c)) := lay_I (an_R h hs) h.1.2 h.2.2.2.2.2.2
theorem an_D (h : rdy OQ KD TP LF HT WD CL FN MW DR DC cr SH rw cm tr ly sp S Z) (hs : 1 ≤ sp) : ∀ r c, r < 16 → ((S.1.2.2.2 (0 * 16 + r)).testBit c = true ↔ (r < rw ∧ c < cm) ∧ Z.2.2.1 (16 * r + c) ≠ 0 ∧ Z.2.2.2.1 (16 * r + c) = false) := lay_D (an_R h hs) h.1.2 h.2.2.2.2.2.2
theorem an_P (h : rdy OQ KD TP LF HT WD CL FN MW DR DC cr SH rw cm tr ly sp S Z) (hs : 2 ≤ sp) : LayV S.2.1 rw cm (fun r c => Z.2.2.2.2 (16 * r + c)) := by
  have e := h.2.2.2.1.2.2.1 (by have := h.2.2.2.2.1; omega)
  rw [e]
  exact lay_P (an_R h (by omega)) h.2.1 h.1.1 h.1.2 h.2.2.2.2.2.2
theorem an_S (h : rdy OQ KD TP LF HT WD CL FN MW DR DC cr SH rw cm tr ly sp S Z) (hs : 3 ≤ sp) : LayV S.2.2.1 rw cm (fun r c => shM Z.2.2.2.2 DR DC cr rw cm r c 4) := by
  have e := h.2.2.2.1.2.2.2 (by have := h.2.2.2.2.1; omega)
  rw [e]
  exact plP_lay (an_P h (by omega)) h.1.1 h.1.2
theorem an_C16 (h : rdy OQ KD TP LF HT WD CL FN MW DR DC cr SH rw cm tr ly sp S Z) : ∀ r c : Nat, (fun r c => Z.2.2.1 (16 * r + c)) r c < 16 := fun _ _ => h.2.2.2.2.2.1.2.1 _
theorem an_P16 (h : rdy OQ KD TP LF HT WD CL FN MW DR DC cr SH rw cm tr ly sp S Z) : ∀ r c : Nat, (fun r c => Z.2.2.2.2 (16 * r + c)) r c < 16 := fun _ _ => h.2.2.2.2.2.1.2.2 _
theorem an_S16 : ∀ r c : Nat, (fun r c => shM Z.2.2.2.2 DR DC cr rw cm r c 4) r c < 16 := fun _ _ => shM_lt 4 (Nat.le_refl 4)
theorem an_seen (h : rdy OQ KD TP LF HT WD CL FN MW DR DC cr SH rw cm tr ly sp S Z) (hs : 1 ≤ sp) {r c : Nat} (hr : r < rw) (hc : c < cm) : S.1.1 (r * 16 + c) = Z.2.1 (16 * r + c) := by
  rw [(an_R h hs).1 r c (by have := h.1; omega) (by have := h.1; omega), tPg_in hr hc, (h.2.2.2.2.2.2 r c hr hc).1]
theorem an_tell8 (h : rdy OQ KD TP LF HT WD CL FN MW DR DC cr SH rw cm tr ly sp S Z) (hs : 1 ≤ sp) (n : Nat) : cntE S.1.1 (n : Int) 256 = cntR (fun r c => if Z.2.1 (16 * r + c) = (n : Int) then 1 else 0) cm rw := by
  rw [cells_eq h.1.1 h.1.2 (an_R h hs).1 (fun r c q => tPg_out q) n]
  exact cntR_cong rw (fun r c hr hc => by rw [tPg_in hr hc, (h.2.2.2.2.2.2 r c hr hc).1])
theorem an_cell0 (h : rdy OQ KD TP LF HT WD CL FN MW DR DC cr SH rw cm tr ly sp S Z) (hs : 1 ≤ sp) {r c : Nat} (hr : r < rw) (hc : c < cm) : lyThru S.1.2.1 (r : Int) (c : Int) 4 = Z.2.2.1 (16 * r + c) := thru_eq (an_I h hs) h.1.1 h.1.2 (an_C16 h) hr hc
theorem an_cell3 (h : rdy OQ KD TP LF HT WD CL FN MW DR DC cr SH rw cm tr ly sp S Z) (hs : 2 ≤ sp) {r c : Nat} (hr : r < rw) (hc : c < cm) : lyThru S.2.1 (r : Int) (c : Int) 4 = Z.2.2.2.2 (16 * r + c) := thru_eq (an_P h hs) h.1.1 h.1.2 (an_P16 h) hr hc
theorem an_cell4 (h : rdy OQ KD TP LF HT WD CL FN MW DR DC cr SH rw cm tr ly sp S Z) (hs : 3 ≤ sp) {r c : Nat} (hr : r < rw) (hc : c < cm) : lyThru S.2.2.1 (r : Int) (c : Int) 4 = shM Z.2.2.2.2 DR DC cr rw cm r c 4 := thru_eq (an_S h hs) h.1.1 h.1.2 an_S16 hr hc
theorem bitI {x c : Nat} {P : Prop} [Decidable P] (h : x.testBit c = true ↔ P) : (((x >>> c) &&& 1 : Nat) : Int) = b2i (decide P) := by
  rw [bit_tb0]
  by_cases q : P
  · rw [if_pos (h.mpr q), b2i_t q]
    rfl
  · rw [if_neg (fun g => q (h.mp g)), b2i_f q]
    rfl
theorem an_cell5 (h : rdy OQ KD TP LF HT WD CL FN MW DR DC cr SH rw cm tr ly sp S Z) (hs : 3 ≤ sp) {r c : Nat} (hr : r < rw) (hc : c < cm) : (((barW S.1.2.1 S.2.2.1 (r : Int) >>> c) &&& 1 : Nat) : Int) = b2i (decide (Z.2.2.1 (16 * r + c) ≠ 0 ∧ shM Z.2.2.2.2 DR DC cr rw cm r c 4 = 0)) := by
  apply bitI
  rw [bar_tb (an_I h (by omega)) (an_S h hs) (an_C16 h) an_S16 h.1.2 (by have := h.1; omega)]
  exact ⟨fun q => q.2, fun q => ⟨⟨hr, hc⟩, q⟩⟩
theorem an_cell6 (h : rdy OQ KD TP LF HT WD CL FN MW DR DC cr SH rw cm tr ly sp S Z) (hs : 3 ≤ sp) {r c : Nat} (hr : r < rw) (hc : c < cm) : (((wrg S.1.2.1 S.2.2.1 (r : Int) 4 >>> c) &&& 1 : Nat) : Int) = b2i (decide (shM Z.2.2.2.2 DR DC cr rw cm r c 4 ≠ Z.2.2.1 (16 * r + c))) := by
  apply bitI
  rw [wrg_tb (an_I h (by omega)) (an_S h hs) (an_C16 h) an_S16 (by have := h.1; omega)]
  exact ⟨fun q => q.2, fun q => ⟨⟨hr, hc⟩, q⟩⟩
theorem an_inner (h : rdy OQ KD TP LF HT WD CL FN MW DR DC cr SH rw cm tr ly sp S Z) (hs : 1 ≤ sp) {r c n : Nat} : decide ((lySur S.1.2.2.2 0 (r : Int) n >>> c) &&& 1 = 1) = innB Z.2.2.1 Z.2.2.2.1 rw cm r c n := by
  unfold innB
  apply decide_eq_decide.mpr
  rw [bit_tb]
  exact inn_tb h.1.1 (an_D h hs)
theorem an_fine (h : rdy OQ KD TP LF HT WD CL FN MW DR DC cr SH rw cm tr ly sp S Z) (hs : 1 ≤ sp) (hO : ∀ k, OQ k < 30) {r c : Nat} (hr : r < rw) (hc : c < cm) : fnAt SH (svM KD TP LF HT WD CL FN) (S.1.1 (r * 16 + c)) = Z.2.2.2.1 (16 * r + c) := by
  rw [an_seen h hs hr hc, (h.2.2.2.2.2.2 r c hr hc).1, (h.2.2.2.2.2.2 r c hr hc).2.2.1]
  have key : ∀ k, k ≤ ly → fnAt SH (svM KD TP LF HT WD CL FN) (topM OQ KD TP LF HT WD r c k) = finS FN (topM OQ KD TP LF HT WD r c k) := by
    intro k
    induction k with
    | zero =>
      intro _
      show fnAt SH (svM KD TP LF HT WD CL FN) (-1) = finS FN (-1)
      rw [finS_m1]
      unfold fnAt
      rw [if_neg (by omega)]
    | succ k ih =>
      intro hk
      unfold topM
      split
      · have hO' := hO k
        rw [finS_n]
        unfold fnAt
        rw [if_pos (by omega), Int.toNat_natCast]
        split
        · exact absurd (by assumption) (h.2.2.1 k (by omega))
        · rfl
      · exact ih (by omega)
  exact key ly (Nat.le_refl _)
theorem an_trap (h : rdy OQ KD TP LF HT WD CL FN MW DR DC cr SH rw cm tr ly sp S Z) (hs : 2 ≤ sp) : ((lySz S.2.1 (4 * 16) : Nat) : Int) - ((lySz S.1.2.1 (4 * 16) : Nat) : Int) = ((cntR (fun r c => pop (Z.2.2.2.2 (16 * r + c))) cm rw : Nat) : Int) - ((cntR (fun r c => pop (Z.2.2.1 (16 * r + c))) cm rw : Nat) : Int) := by
  rw [size_eq (an_P h hs) h.1.1 h.1.2 (an_P16 h), size_eq (an_I h (by omega)) h.1.1 h.1.2 (an_C16 h)]
theorem an_count4 (h : rdy OQ KD TP LF HT WD CL FN MW DR DC cr SH rw cm tr ly sp S Z) (hs : 2 ≤ sp) : lySz S.2.1 (4 * 16) = cntR (fun r c => pop (Z.2.2.2.2 (16 * r + c))) cm rw := size_eq (an_P h hs) h.1.1 h.1.2 (an_P16 h)
theorem an_count0 (h : rdy OQ KD TP LF HT WD CL FN MW DR DC cr SH rw cm tr ly sp S Z) (hs : 1 ≤ sp) : sumP (fun r => lyAny S.1.2.1 (-1) (r : Int) 4) 16 = cntR (fun r c => if Z.2.2.1 (16 * r + c) ≠ 0 then 1 else 0) cm rw := sum_eq (Q := fun r c => Z.2.2.1 (16 * r + c) ≠ 0) h.1.1 h.1.2 (fun r c hr => any_ne0 (an_I h hs) (an_C16 h) hr)
theorem an_count1 (h : rdy OQ KD TP LF HT WD CL FN MW DR DC cr SH rw cm tr ly sp S Z) (hs : 3 ≤ sp) : sumP (fun r => barW S.1.2.1 S.2.2.1 (r : Int)) 16 = cntR (fun r c => if Z.2.2.1 (16 * r + c) ≠ 0 ∧ shM Z.2.2.2.2 DR DC cr rw cm r c 4 = 0 then 1 else 0) cm rw := sum_eq (Q := fun r c => Z.2.2.1 (16 * r + c) ≠ 0 ∧ shM Z.2.2.2.2 DR DC cr rw cm r c 4 = 0) h.1.1 h.1.2 (fun r c hr => bar_tb (an_I h (by omega)) (an_S h hs) (an_C16 h) an_S16 h.1.2 hr)
theorem an_count2 (h : rdy OQ KD TP LF HT WD CL FN MW DR DC cr SH rw cm tr ly sp S Z) (hs : 3 ≤ sp) : sumP (fun r => wrg S.1.2.1 S.2.2.1 (r : Int) 4) 16 = cntR (fun r c => if shM Z.2.2.2.2 DR DC cr rw cm r c 4 ≠ Z.2.2.1 (16 * r + c) then 1 else 0) cm rw := sum_eq (Q := fun r c => shM Z.2.2.2.2 DR DC cr rw cm r c 4 ≠ Z.2.2.1 (16 * r + c)) h.1.1 h.1.2 (fun r c hr => wrg_tb (an_I h (by omega)) (an_S h hs) (an_C16 h) an_S16 hr)
theorem an_count5 (h : rdy OQ KD TP LF HT WD CL FN MW DR DC cr SH rw cm tr ly sp S Z) (hs : 3 ≤ sp) : crw S.2.2.1 16 = cntR (fun r c => if 2 < pop (shM Z.2.2.2.2 DR DC cr rw cm r c 4) then 1 else 0) cm rw := crw_eq (an_S h hs) h.1.1 h.1.2 an_S16
theorem an_bare (h : rdy OQ KD TP LF HT WD CL FN MW DR DC cr SH rw cm tr ly sp S Z) (hs : 2 ≤ sp) {a : Nat} (ha : a < 4) (dw ac : Int) : sumP (bifW S.1.2.1 S.2.1 a dw ac) 16 = cntR (fun r c => if barB Z.2.2.1 Z.2.2.2.2 rw cm r c a dw ac = true then 1 else 0) cm rw := bare_eq (an_I h (by omega)) (an_P h hs) h.2.2.2.2.2.1.2.1 h.1.1 h.1.2 ha dw ac
theorem an_safe (h : rdy OQ KD TP LF HT WD CL FN MW DR DC cr SH rw cm tr ly sp S Z) (hs : 2 ≤ sp) : safR S.1.2.2.2 S.2.1 6 0 = safM (sfmB Z.2.2.1 Z.2.2.2.1 Z.2.2.2.2 rw cm) 6 0 := safe_eq (fun n => saf_iff h.1.1 h.1.2 (an_D h (by omega)) (an_P h hs) n) 6 0
theorem an_plate (h : rdy OQ KD TP LF HT WD CL FN MW DR DC cr SH rw cm tr ly sp S Z) (hs : 2 ≤ sp) {i r : Nat} (hi : i < 4) (hr : r < rw) : lyW S.2.1 i (r : Int) = plM Z.2.2.2.2 i r cm := plate_eq (an_P h hs) h.1.1 hi hr
end AN
