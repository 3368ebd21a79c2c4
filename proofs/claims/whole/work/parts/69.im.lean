theorem imR_slot {G : GG} {LP : List Nat} {f : Nat → va_E} {I : Nat → va_W} {IM : Nat → Option Nat} {MR : Nat → Nat} {MC : Nat → Nat} {MW : Nat → Nat} {MD : Nat → Nat} {MY : Nat → Nat} {OQ : Nat → Nat} {KD : Nat → Nat} {TP : Nat → Int} {LF : Nat → Int} {HT : Nat → Nat} {WD : Nat → Nat} {CL : Nat → Nat} {FN : Nat → Nat} {MT : Nat → Nat} {DR : Nat → Int} {DC : Nat → Int} {CR : Nat → Int} {MR' : Nat → Nat} {MC' : Nat → Nat} {MW' : Nat → Nat} {MD' : Nat → Nat} {MY' : Nat → Nat} {OQ' : Nat → Nat} {KD' : Nat → Nat} {TP' : Nat → Int} {LF' : Nat → Int} {HT' : Nat → Nat} {WD' : Nat → Nat} {CL' : Nat → Nat} {FN' : Nat → Nat} {MT' : Nat → Nat} {DR' : Nat → Int} {DC' : Nat → Int} {CR' : Nat → Int} {KP : Nat → Bool} {k : Nat} (h : imR G LP f I IM MR MC MW MD MY OQ KD TP LF HT WD CL FN MT DR DC CR KP k) (eMR : MR' (k + 1) = MR (k + 1)) (eMC : MC' (k + 1) = MC (k + 1)) (eMW : ∀ i, i < 4 → MW' (4 * (k + 1) + i) = MW (4 * (k + 1) + i)) (eMD : MD' (k + 1) = MD (k + 1)) (eMY : MY' (k + 1) = MY (k + 1)) (eOQ : ∀ i, i < 30 → OQ' (30 * (k + 1) + i) = OQ (30 * (k + 1) + i)) (eKD : ∀ i, i < 30 → KD' (30 * (k + 1) + i) = KD (30 * (k + 1) + i)) (eTP : ∀ i, i < 30 → TP' (30 * (k + 1) + i) = TP (30 * (k + 1) + i)) (eLF : ∀ i, i < 30 → LF' (30 * (k + 1) + i) = LF (30 * (k + 1) + i)) (eHT : ∀ i, i < 30 → HT' (30 * (k + 1) + i) = HT (30 * (k + 1) + i)) (eWD : ∀ i, i < 30 → WD' (30 * (k + 1) + i) = WD (30 * (k + 1) + i)) (eCL : ∀ i, i < 30 → CL' (30 * (k + 1) + i) = CL (30 * (k + 1) + i)) (eFN : ∀ i, i < 30 → FN' (30 * (k + 1) + i) = FN (30 * (k + 1) + i)) (eMT : MT' (k + 1) = MT (k + 1)) (eDR : ∀ i, i < 4 → DR' (4 * (k + 1) + i) = DR (4 * (k + 1) + i)) (eDC : ∀ i, i < 4 → DC' (4 * (k + 1) + i) = DC (4 * (k + 1) + i)) (eCR : CR' (k + 1) = CR (k + 1)) : imR G LP f I IM MR' MC' MW' MD' MY' OQ' KD' TP' LF' HT' WD' CL' FN' MT' DR' DC' CR' KP k := by
  rcases h with h | ⟨h0, u, bw, bd, bc, bo, bx, WT2, OR2, AC2, DN2, SH2, h1, h2, h3, h4, h5⟩
  · exact Or.inl h
  · refine Or.inr ⟨h0, u, bw, bd, bc, bo, bx, WT2, OR2, AC2, DN2, SH2, h1, ?_, ?_, ?_, ?_⟩
    · rw [eMR, eMC, eMT, eCR, eMY, eMD]
      exact h2
    · intro i hi
      rw [eMW i hi, eDC i hi, eDR i hi]
      exact h3 i hi
    · intro i hi
      rw [eOQ i hi]
      exact h4 i hi
    · rw [eMY, eMD]
      refine shR_cong h5 (fun i hi => eOQ i hi) (fun i hi => ?_)
      show svM KD' TP' LF' HT' WD' CL' FN' (30 * (k + 1) + i) = svM KD TP LF HT WD CL FN (30 * (k + 1) + i)
      unfold svM
      rw [eKD i hi, eTP i hi, eLF i hi, eHT i hi, eWD i hi, eCL i hi, eFN i hi]
theorem img_ok {G : GG} {LP : List Nat} {f : Nat → va_E} {I : Nat → va_W} {IM SH : Nat → Option Nat} {s : WSt} {z : FSt} {MR : Nat → Nat} {MC : Nat → Nat} {MW : Nat → Nat} {MD : Nat → Nat} {MY : Nat → Nat} {OQ : Nat → Nat} {KD : Nat → Nat} {TP : Nat → Int} {LF : Nat → Int} {HT : Nat → Nat} {WD : Nat → Nat} {CL : Nat → Nat} {FN : Nat → Nat} {MT : Nat → Nat} {DR : Nat → Int} {DC : Nat → Int} {CR : Nat → Int} {KP : Nat → Bool} (hO : OKs G LP f I IM SH s z MR MC MW MD MY OQ KD TP LF HT WD CL FN MT DR DC CR KP) {k u bw bd bc bo bx : Nat} {IM' : Nat → Option Nat} (hk : k < 4) (h1 : IM' k = some u) (h2 : ∀ j, j ≠ k → IM' j = IM j) : OKs G LP f (va_up I k (iX G u bw bd bc bo bx (MR 0) (MC 0) (MT 0) (CR 0) (MY 0) (MD 0) MW OQ DC DR SH)) IM' SH s z (shB MR (1 * 0) (1 * (k + 1)) 1) (shB MC (1 * 0) (1 * (k + 1)) 1) (shB MW (4 * 0) (4 * (k + 1)) 4) (shB MD (1 * 0) (1 * (k + 1)) 1) (shB MY (1 * 0) (1 * (k + 1)) 1) (shB OQ (30 * 0) (30 * (k + 1)) 30) (shB KD (30 * 0) (30 * (k + 1)) 30) (shB TP (30 * 0) (30 * (k + 1)) 30) (shB LF (30 * 0) (30 * (k + 1)) 30) (shB HT (30 * 0) (30 * (k + 1)) 30) (shB WD (30 * 0) (30 * (k + 1)) 30) (shB CL (30 * 0) (30 * (k + 1)) 30) (shB FN (30 * 0) (30 * (k + 1)) 30) (shB MT (1 * 0) (1 * (k + 1)) 1) (shB DR (4 * 0) (4 * (k + 1)) 4) (shB DC (4 * 0) (4 * (k + 1)) 4) (shB CR (1 * 0) (1 * (k + 1)) 1) (va_up KP k true) := by
  obtain ⟨hRn, hSh, hW, hZ, hIm⟩ := hO
  obtain ⟨rMR, rMC, rMW, rOQ, rKD, rTP, rLF, rHT, rWD, rCL, rFN, rMT, rDR, rDC, rCR⟩ := hRn
  have zMR : (shB MR (1 * 0) (1 * (k + 1)) 1) 0 = MR 0 := shB_off (Or.inl (by omega))
  have zMC : (shB MC (1 * 0) (1 * (k + 1)) 1) 0 = MC 0 := shB_off (Or.inl (by omega))
  have zMT : (shB MT (1 * 0) (1 * (k + 1)) 1) 0 = MT 0 := shB_off (Or.inl (by omega))
  have zCR : (shB CR (1 * 0) (1 * (k + 1)) 1) 0 = CR 0 := shB_off (Or.inl (by omega))
  have zMY : (shB MY (1 * 0) (1 * (k + 1)) 1) 0 = MY 0 := shB_off (Or.inl (by omega))
  have zMD : (shB MD (1 * 0) (1 * (k + 1)) 1) 0 = MD 0 := shB_off (Or.inl (by omega))
  have eOQ : ∀ q, q < 30 → (shB OQ (30 * 0) (30 * (k + 1)) 30) q = OQ q := fun q hq => shB_off (Or.inl (by omega))
  have eSV : ∀ q, q < 30 → svM (shB KD (30 * 0) (30 * (k + 1)) 30) (shB TP (30 * 0) (30 * (k + 1)) 30) (shB LF (30 * 0) (30 * (k + 1)) 30) (shB HT (30 * 0) (30 * (k + 1)) 30) (shB WD (30 * 0) (30 * (k + 1)) 30) (shB CL (30 * 0) (30 * (k + 1)) 30) (shB FN (30 * 0) (30 * (k + 1)) 30) q = svM KD TP LF HT WD CL FN q := fun q hq => by
    unfold svM
    rw [shB_off (F := KD) (Or.inl (by omega)), shB_off (F := TP) (Or.inl (by omega)), shB_off (F := LF) (Or.inl (by omega)), shB_off (F := HT) (Or.inl (by omega)), shB_off (F := WD) (Or.inl (by omega)), shB_off (F := CL) (Or.inl (by omega)), shB_off (F := FN) (Or.inl (by omega))]
  have eMW : ∀ q, q < 4 → (shB MW (4 * 0) (4 * (k + 1)) 4) q = MW q := fun q hq => shB_off (Or.inl (by omega))
  have eDC : ∀ q, q < 4 → (shB DC (4 * 0) (4 * (k + 1)) 4) q = DC q ∧ (shB DR (4 * 0) (4 * (k + 1)) 4) q = DR q := fun q hq => ⟨shB_off (Or.inl (by omega)), shB_off (Or.inl (by omega))⟩
  have eCF : ∀ q, q < 30 → (shB CL (30 * 0) (30 * (k + 1)) 30) q = CL q ∧ (shB FN (30 * 0) (30 * (k + 1)) 30) q = FN q := fun q hq => ⟨shB_off (Or.inl (by omega)), shB_off (Or.inl (by omega))⟩
  have hl30 : MY 0 ≤ 30 := Nat.le_trans hSh.2.2.2.2.1 hSh.2.2.2.2.2
  refine ⟨⟨shB_all (P := fun y => y ≤ 16) rMR, shB_all (P := fun y => y ≤ 16) rMC, shB_all (P := fun y => y ≤ 20) rMW, shB_all (P := fun y => y < 30) rOQ, shB_all (P := fun y => y ≤ 3) rKD, shB_all (P := fun y => -16 ≤ y ∧ y ≤ 31) rTP, shB_all (P := fun y => -16 ≤ y ∧ y ≤ 31) rLF, shB_all (P := fun y => y ≤ 32) rHT, shB_all (P := fun y => y ≤ 32) rWD, shB_all (P := fun y => y < 16) rCL, shB_all (P := fun y => y ≤ 1) rFN, shB_all (P := fun y => y ≤ 6) rMT, shB_all (P := fun y => -6 ≤ y ∧ y ≤ 6) rDR, shB_all (P := fun y => -6 ≤ y ∧ y ≤ 6) rDC, shB_all (P := fun y => -8 ≤ y ∧ y ≤ 8) rCR⟩, ?_, ?_, ?_, fun j hj => ?_⟩
  · rw [zMY, zMD]
    exact shR_cong hSh eOQ eSV
  · rw [zCR, zMR, zMC, zMT, zMY]
    exact wV_cong hl30 rOQ eOQ eSV eMW eDC hW
  · rw [zMR, zMC, zMT, zMY]
    exact zV_cong hl30 rOQ eOQ eSV eCF eMW hZ
  · by_cases e : j = k
    · subst e
      have n1 : ∀ (F : Nat → Nat), shB F (1 * 0) (1 * (j + 1)) 1 (j + 1) = F 0 := fun F => shB_in (i := 0) (by omega) (by omega)
      have n1i : ∀ (F : Nat → Int), shB F (1 * 0) (1 * (j + 1)) 1 (j + 1) = F 0 := fun F => shB_in (i := 0) (by omega) (by omega)
      have n4 : ∀ (F : Nat → Nat) (i : Nat), i < 4 → shB F (4 * 0) (4 * (j + 1)) 4 (4 * (j + 1) + i) = F i := fun F i hi => (shB_in (i := i) hi rfl).trans (by rw [Nat.mul_zero, Nat.zero_add])
      have n4i : ∀ (F : Nat → Int) (i : Nat), i < 4 → shB F (4 * 0) (4 * (j + 1)) 4 (4 * (j + 1) + i) = F i := fun F i hi => (shB_in (i := i) hi rfl).trans (by rw [Nat.mul_zero, Nat.zero_add])
      have n30 : ∀ (F : Nat → Nat) (i : Nat), i < 30 → shB F (30 * 0) (30 * (j + 1)) 30 (30 * (j + 1) + i) = F i := fun F i hi => (shB_in (i := i) hi rfl).trans (by rw [Nat.mul_zero, Nat.zero_add])
      have n30i : ∀ (F : Nat → Int) (i : Nat), i < 30 → shB F (30 * 0) (30 * (j + 1)) 30 (30 * (j + 1) + i) = F i := fun F i hi => (shB_in (i := i) hi rfl).trans (by rw [Nat.mul_zero, Nat.zero_add])
      refine Or.inr ⟨up_at _ _ _, u, bw, bd, bc, bo, bx, MW, OQ, DC, DR, SH, h1, ?_, ?_, ?_, ?_⟩
      · rw [up_at, n1, n1, n1, n1i, n1, n1]
      · intro i hi
        exact ⟨(n4 MW i hi).symm, (n4i DC i hi).symm, (n4i DR i hi).symm⟩
      · intro i hi
        exact (n30 OQ i hi).symm
      · rw [n1, n1]
        refine shR_cong hSh (fun i hi => n30 OQ i hi) (fun i hi => ?_)
        show svM (shB KD (30 * 0) (30 * (j + 1)) 30) (shB TP (30 * 0) (30 * (j + 1)) 30) (shB LF (30 * 0) (30 * (j + 1)) 30) (shB HT (30 * 0) (30 * (j + 1)) 30) (shB WD (30 * 0) (30 * (j + 1)) 30) (shB CL (30 * 0) (30 * (j + 1)) 30) (shB FN (30 * 0) (30 * (j + 1)) 30) (30 * (j + 1) + i) = svM KD TP LF HT WD CL FN i
        unfold svM
        rw [n30 KD i hi, n30i TP i hi, n30i LF i hi, n30 HT i hi, n30 WD i hi, n30 CL i hi, n30 FN i hi]
    · have h3 : imR G LP f (va_up I k (iX G u bw bd bc bo bx (MR 0) (MC 0) (MT 0) (CR 0) (MY 0) (MD 0) MW OQ DC DR SH)) IM' MR MC MW MD MY OQ KD TP LF HT WD CL FN MT DR DC CR (va_up KP k true) j := by
        have := hIm j hj
        unfold imR at this ⊢
        rw [up_ne _ _ e, up_ne _ _ e, h2 j e]
        exact this
      exact imR_slot h3 (shB_off (by omega)) (shB_off (by omega)) (fun i hi => shB_off (by omega)) (shB_off (by omega)) (shB_off (by omega)) (fun i hi => shB_off (by omega)) (fun i hi => shB_off (by omega)) (fun i hi => shB_off (by omega)) (fun i hi => shB_off (by omega)) (fun i hi => shB_off (by omega)) (fun i hi => shB_off (by omega)) (fun i hi => shB_off (by omega)) (fun i hi => shB_off (by omega)) (shB_off (by omega)) (fun i hi => shB_off (by omega)) (fun i hi => shB_off (by omega)) (shB_off (by omega))
theorem agn_ok {G : GG} {LP : List Nat} {f : Nat → va_E} {I : Nat → va_W} {IM SH : Nat → Option Nat} {s : WSt} {z : FSt} {MR : Nat → Nat} {MC : Nat → Nat} {MW : Nat → Nat} {MD : Nat → Nat} {MY : Nat → Nat} {OQ : Nat → Nat} {KD : Nat → Nat} {TP : Nat → Int} {LF : Nat → Int} {HT : Nat → Nat} {WD : Nat → Nat} {CL : Nat → Nat} {FN : Nat → Nat} {MT : Nat → Nat} {DR : Nat → Int} {DC : Nat → Int} {CR : Nat → Int} {KP : Nat → Bool} (hO : OKs G LP f I IM SH s z MR MC MW MD MY OQ KD TP LF HT WD CL FN MT DR DC CR KP) {k : Nat} {SH2 : Nat → Option Nat} (hk : k < 4) (h5 : shR LP f SH2 (fun i => OQ (30 * (k + 1) + i)) (fun i => svM KD TP LF HT WD CL FN (30 * (k + 1) + i)) (MY (k + 1)) (MD (k + 1))) : OKs G LP f I IM SH2 (kp s 0) (false, z.2) (shB MR (1 * (k + 1)) (1 * 0) 1) (shB MC (1 * (k + 1)) (1 * 0) 1) (shB MW (4 * (k + 1)) (4 * 0) 4) (shB MD (1 * (k + 1)) (1 * 0) 1) (shB MY (1 * (k + 1)) (1 * 0) 1) (shB OQ (30 * (k + 1)) (30 * 0) 30) (shB KD (30 * (k + 1)) (30 * 0) 30) (shB TP (30 * (k + 1)) (30 * 0) 30) (shB LF (30 * (k + 1)) (30 * 0) 30) (shB HT (30 * (k + 1)) (30 * 0) 30) (shB WD (30 * (k + 1)) (30 * 0) 30) (shB CL (30 * (k + 1)) (30 * 0) 30) (shB FN (30 * (k + 1)) (30 * 0) 30) (shB MT (1 * (k + 1)) (1 * 0) 1) (shB DR (4 * (k + 1)) (4 * 0) 4) (shB DC (4 * (k + 1)) (4 * 0) 4) (shB CR (1 * (k + 1)) (1 * 0) 1) KP := by
  obtain ⟨hRn, hSh, hW, hZ, hIm⟩ := hO
  obtain ⟨rMR, rMC, rMW, rOQ, rKD, rTP, rLF, rHT, rWD, rCL, rFN, rMT, rDR, rDC, rCR⟩ := hRn
  have zMY : (shB MY (1 * (k + 1)) (1 * 0) 1) 0 = MY (k + 1) := (shB_in (i := 0) (by omega) (by omega)).trans (by rw [Nat.one_mul, Nat.add_zero])
  have zMD : (shB MD (1 * (k + 1)) (1 * 0) 1) 0 = MD (k + 1) := (shB_in (i := 0) (by omega) (by omega)).trans (by rw [Nat.one_mul, Nat.add_zero])
  refine ⟨⟨shB_all (P := fun y => y ≤ 16) rMR, shB_all (P := fun y => y ≤ 16) rMC, shB_all (P := fun y => y ≤ 20) rMW, shB_all (P := fun y => y < 30) rOQ, shB_all (P := fun y => y ≤ 3) rKD, shB_all (P := fun y => -16 ≤ y ∧ y ≤ 31) rTP, shB_all (P := fun y => -16 ≤ y ∧ y ≤ 31) rLF, shB_all (P := fun y => y ≤ 32) rHT, shB_all (P := fun y => y ≤ 32) rWD, shB_all (P := fun y => y < 16) rCL, shB_all (P := fun y => y ≤ 1) rFN, shB_all (P := fun y => y ≤ 6) rMT, shB_all (P := fun y => -6 ≤ y ∧ y ≤ 6) rDR, shB_all (P := fun y => -6 ≤ y ∧ y ≤ 6) rDC, shB_all (P := fun y => -8 ≤ y ∧ y ≤ 8) rCR⟩, ?_, wV_0 hW.1, zV_f hZ.1, fun j hj => ?_⟩
  · rw [zMY, zMD]
    have a30 : ∀ (F : Nat → Nat) (i : Nat), i < 30 → shB F (30 * (k + 1)) (30 * 0) 30 i = F (30 * (k + 1) + i) := fun F i hi => shB_in (i := i) hi (by omega)
    have a30i : ∀ (F : Nat → Int) (i : Nat), i < 30 → shB F (30 * (k + 1)) (30 * 0) 30 i = F (30 * (k + 1) + i) := fun F i hi => shB_in (i := i) hi (by omega)
    refine shR_cong h5 (fun i hi => a30 OQ i hi) (fun i hi => ?_)
    show svM (shB KD (30 * (k + 1)) (30 * 0) 30) (shB TP (30 * (k + 1)) (30 * 0) 30) (shB LF (30 * (k + 1)) (30 * 0) 30) (shB HT (30 * (k + 1)) (30 * 0) 30) (shB WD (30 * (k + 1)) (30 * 0) 30) (shB CL (30 * (k + 1)) (30 * 0) 30) (shB FN (30 * (k + 1)) (30 * 0) 30) i = svM KD TP LF HT WD CL FN (30 * (k + 1) + i)
    unfold svM
    rw [a30 KD i hi, a30i TP i hi, a30i LF i hi, a30 HT i hi, a30 WD i hi, a30 CL i hi, a30 FN i hi]
  · exact imR_mono (hIm j hj) pool_same (fun q hq => shB_off (by omega)) (fun q hq => shB_off (by omega)) (fun q hq => shB_off (by omega)) (fun q hq => shB_off (by omega)) (fun q hq => shB_off (by omega)) (fun q hq => shB_off (by omega)) (fun q hq => shB_off (by omega)) (fun q hq => shB_off (by omega)) (fun q hq => shB_off (by omega)) (fun q hq => shB_off (by omega)) (fun q hq => shB_off (by omega)) (fun q hq => shB_off (by omega)) (fun q hq => shB_off (by omega)) (fun q hq => shB_off (by omega)) (fun q hq => shB_off (by omega)) (fun q hq => shB_off (by omega)) (fun q hq => shB_off (by omega))
