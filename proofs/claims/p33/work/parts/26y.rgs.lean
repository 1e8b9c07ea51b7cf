/-! a told school, on both sides -/
section TS
variable {t n b : Nat} {T : MA} {lo hi : Int32} {s : MP}
theorem mSem_ok (h : (mSem t T s).2 = true) : s.2 = true := by
  unfold mSem at h
  by_cases e : s.2 = true ∧ mByte t T s.1 = 59
  · exact e.1
  · rw [if_neg e] at h; exact absurd h Bool.false_ne_true
theorem mNum_ok (h : (mNum t T lo hi s).2 = true) : s.2 = true ∧ ¬ mV t T s.1 < lo ∧ ¬ hi < mV t T s.1 := by
  unfold mNum at h
  by_cases e : s.2 = true ∧ mNok t T lo hi s.1 = true
  · refine ⟨e.1, ?_⟩
    have h2 := e.2
    unfold mNok at h2
    rw [Bool.and_eq_true] at h2
    exact of_decide_eq_true h2.2
  · rw [if_neg e] at h; exact absurd h Bool.false_ne_true
theorem mWrd_ok {w : Nat} (h : (mWrd t T w s).2 = true) : s.2 = true := by
  unfold mWrd at h
  by_cases e : s.2 = true ∧ mWd t T s.1 = nI w
  · exact e.1
  · rw [if_neg e] at h; exact absurd h Bool.false_ne_true
theorem mFar_ok (h : (mFar t T s).2 = true) : s.2 = true := by
  unfold mFar at h
  by_cases e : mLt t T s.1 = true
  · rw [if_pos e] at h; exact mWrd_ok (mNum_ok h).1
  · rw [if_neg e] at h; exact h
theorem lt_10 {x : Int32} (h : ¬ x < 1) : ¬ x < 0 := fun q => h (by
  rw [Int32.lt_iff_toInt_lt] at q ⊢
  rw [show (0 : Int32).toInt = 0 from by decide] at q
  rw [show (1 : Int32).toInt = 1 from by decide]; omega)
theorem its_9' (h : (mItS t T n b).2 = true) (e : mWd t T b = 9) : ¬ mItY t T n b < 0 := by
  unfold mItS at h
  rw [if_neg (by rw [e]; decide), if_pos e] at h
  unfold mItY
  rw [if_neg (by rw [e]; decide), if_pos e]
  exact (mNum_ok (mSem_ok h)).2.1
theorem its_11' (h : (mItS t T n b).2 = true) (e : mWd t T b = 11) : ¬ mItX t T b < 0 := by
  unfold mItS at h
  rw [if_neg (by rw [e]; decide), if_neg (by rw [e]; decide), if_neg (by rw [e]; decide), if_pos e] at h
  exact lt_10 (mNum_ok (mSem_ok h)).2.1
theorem its_k (h : (mItS t T n b).2 = true) (h8 : ¬ mWd t T b = 8) (h9 : ¬ mWd t T b = 9) (h10 : ¬ mWd t T b = 10) (h11 : ¬ mWd t T b = 11) (h12 : ¬ mWd t T b = 12) : ((¬ mWd t T b < 0 ∧ mWd t T b < 6) ∧ n < 8) ∧ ¬ mItY t T n b < 0 ∧ ¬ 5 < mItY t T n b := by
  unfold mItS at h
  rw [if_neg h8, if_neg h9, if_neg h10, if_neg h11, if_neg h12] at h
  by_cases e : (¬ mWd t T b < 0 ∧ mWd t T b < 6) ∧ n < 8
  · rw [if_pos e] at h
    refine ⟨e, ?_⟩
    unfold mItY
    rw [if_neg h8, if_neg h9]
    exact (mNum_ok (mFar_ok (mSem_ok h))).2
  · rw [if_neg e] at h; exact absurd h Bool.false_ne_true
end TS
theorem mLoop_sim2 {σ τ : Type} {cnt : σ → Nat} {op : Int32 → Int32 → Int32 → Int32 → σ → σ} {cnt2 : τ → Nat} {op2 : Int32 → Int32 → Int32 → Int32 → τ → τ} {t : Nat} {T : MA} (R : σ → τ → Prop) (hc : ∀ F G, R F G → cnt F = cnt2 G) (ho : ∀ F G b, R F G → (mItS t T (cnt F) b).2 = true → R (op (mWd t T b) (mItX t T b) (mItY t T (cnt F) b) (mItZ t T b) F) (op2 (mWd t T b) (mItX t T b) (mItY t T (cnt F) b) (mItZ t T b) G)) : ∀ (k : Nat) (F : σ) (G : τ) (s : MP), (s.2 = true → R F G) → (mLoop cnt op t T k F s).2 = (mLoop cnt2 op2 t T k G s).2 ∧ ((mLoop cnt op t T k F s).2.2 = true → R (mLoop cnt op t T k F s).1 (mLoop cnt2 op2 t T k G s).1)
  | 0, _, _, _, h => ⟨rfl, h⟩
  | k + 1, F, G, s, h => by
    by_cases e : s.2 = true ∧ s.1 < t
    · rw [mLoop_s e, mLoop_s e, ← hc F G (h e.1)]
      exact mLoop_sim2 R hc ho k _ _ _ (fun q => ho F G _ (h e.1) q)
    · rw [mLoop_x e, mLoop_x e]; exact ⟨rfl, h⟩
/-- the two stores of a text that is being told -/
def RS (F : MF) (f : RF) : Prop := (F.1 = f.1 ∧ F.1 ≤ 8) ∧ (Ag F.1 (xC f.2.1 0) F.2.1 ∧ Ag F.1 (xC f.2.1 1) F.2.2.1 ∧ Ag F.1 (xC f.2.1 2) F.2.2.2.1 ∧ Ag F.1 (xC f.2.1 3) F.2.2.2.2.1) ∧ Ag F.1 f.2.2.1 F.2.2.2.2.2.1 ∧ Ag 40 f.2.2.2.1 F.2.2.2.2.2.2.2.2.1 ∧ Ag 4 f.2.2.2.2.1 F.2.2.2.2.2.2.2.2.2.1 ∧ f.2.2.2.2.2 = tdF F ∧ (∀ c : Nat, c < F.1 → ((∃ k : Nat, k < 6 ∧ F.2.1 c = nI k) ∧ ∃ k : Nat, k < 6 ∧ F.2.2.2.1 c = nI k) ∧ ¬ F.2.2.2.2.2.1 c < 0 ∧ F.2.2.2.2.2.2.1 c = 0 ∧ F.2.2.2.2.2.2.2.1 c = 0) ∧ ¬ F.2.2.2.2.2.2.2.2.2.1 0 < 0 ∧ ¬ F.2.2.2.2.2.2.2.2.2.1 3 < 0
theorem i_lt6 {x : Int32} (h : ¬ x < 0 ∧ x < 6) : ∃ k : Nat, k < 6 ∧ x = nI k := by
  obtain ⟨k, hk, e⟩ := nat_le (N := 5) (x := x) h.1 (fun q => by
    have h2 := h.2
    rw [Int32.lt_iff_toInt_lt] at h2 q
    rw [show (6 : Int32).toInt = 6 from by decide] at h2
    rw [nI_toInt (by decide)] at q; omega) (by decide)
  exact ⟨k, by omega, e⟩
theorem RS.op {t : Nat} {T : MA} {F : MF} {f : RF} {b : Nat} (H : RS F f) (h : (mItS t T F.1 b).2 = true) : RS (opC (mWd t T b) (mItX t T b) (mItY t T F.1 b) (mItZ t T b) F) (opR (mWd t T b) (mItX t T b) (mItY t T F.1 b) (mItZ t T b) f) := by
  obtain ⟨⟨a1, a2⟩, ⟨c0, c1, c2, c3⟩, s, v, l, d, r, l0, l3⟩ := H
  unfold opC opR
  by_cases e8 : mWd t T b = 8
  · rw [if_pos e8, if_pos e8]
    exact ⟨⟨a1, a2⟩, ⟨c0, c1, c2, c3⟩, s, Ag_set v _ _, l, d, r, l0, l3⟩
  · rw [if_neg e8, if_neg e8]
    by_cases e9 : mWd t T b = 9
    · rw [if_pos e9, if_pos e9]
      refine ⟨⟨a1, a2⟩, ⟨c0, c1, c2, c3⟩, Ag_set s _ _, v, l, d, fun c hc => ⟨(r c hc).1, ?_, (r c hc).2.2⟩, l0, l3⟩
      show ¬ upd F.2.2.2.2.2.1 (mItX t T b).toNatClampNeg (mItY t T F.1 b) c < 0
      by_cases q : c = (mItX t T b).toNatClampNeg
      · rw [upd_at _ q]; exact its_9' h e9
      · rw [upd_ne _ _ q]; exact (r c hc).2.1
    · rw [if_neg e9, if_neg e9]
      by_cases e10 : mWd t T b = 10
      · rw [if_pos e10, if_pos e10]
        exact ⟨⟨a1, a2⟩, ⟨c0, c1, c2, c3⟩, s, v, l, rfl, r, l0, l3⟩
      · rw [if_neg e10, if_neg e10]
        by_cases e11 : mWd t T b = 11
        · rw [if_pos e11, if_pos e11]
          refine ⟨⟨a1, a2⟩, ⟨c0, c1, c2, c3⟩, s, v, Ag_set l _ _, d, r, ?_, ?_⟩
          · show ¬ upd F.2.2.2.2.2.2.2.2.2.1 0 (mItX t T b) 0 < 0
            rw [upd_is]; exact its_11' h e11
          · show ¬ upd F.2.2.2.2.2.2.2.2.2.1 0 (mItX t T b) 3 < 0
            rw [upd_ne _ _ (by decide)]; exact l3
        · rw [if_neg e11, if_neg e11]
          by_cases e12 : mWd t T b = 12
          · rw [if_pos e12, if_pos e12]
            refine ⟨⟨a1, a2⟩, ⟨c0, c1, c2, c3⟩, s, v, Ag_set l _ _, d, r, ?_, ?_⟩
            · show ¬ upd F.2.2.2.2.2.2.2.2.2.1 1 (mItX t T b) 0 < 0
              rw [upd_ne _ _ (by decide)]; exact l0
            · show ¬ upd F.2.2.2.2.2.2.2.2.2.1 1 (mItX t T b) 3 < 0
              rw [upd_ne _ _ (by decide)]; exact l3
          · rw [if_neg e12, if_neg e12]
            obtain ⟨⟨k1, k2⟩, k3, k4⟩ := its_k h e8 e9 e10 e11 e12
            unfold mfA mPutK
            rw [← a1]
            refine ⟨⟨rfl, ?_⟩, ⟨?_, ?_, ?_, ?_⟩, ?_, v, l, d, fun c hc => ?_, l0, l3⟩
            · show F.1 + 1 ≤ 8; omega
            · exact c0.upn (fun c hc => by unfold xC; dsimp only; rw [upd_ne _ _ (by omega), upd_ne _ _ (by omega), upd_ne _ _ (by omega), upd_ne _ _ (by omega)]) (by unfold xC; dsimp only; rw [upd_ne _ _ (by omega), upd_ne _ _ (by omega), upd_ne _ _ (by omega), upd_at _ (by omega)])
            · exact c1.upn (fun c hc => by unfold xC; dsimp only; rw [upd_ne _ _ (by omega), upd_ne _ _ (by omega), upd_ne _ _ (by omega), upd_ne _ _ (by omega)]) (by unfold xC; dsimp only; rw [upd_ne _ _ (by omega), upd_ne _ _ (by omega), upd_at _ (by omega)])
            · exact c2.upn (fun c hc => by unfold xC; dsimp only; rw [upd_ne _ _ (by omega), upd_ne _ _ (by omega), upd_ne _ _ (by omega), upd_ne _ _ (by omega)]) (by unfold xC; dsimp only; rw [upd_ne _ _ (by omega), upd_at _ (by omega)])
            · exact c3.upn (fun c hc => by unfold xC; dsimp only; rw [upd_ne _ _ (by omega), upd_ne _ _ (by omega), upd_ne _ _ (by omega), upd_ne _ _ (by omega)]) (by unfold xC; dsimp only; rw [upd_at _ (by omega)])
            · exact Ag_add s 0
            · show ((∃ k : Nat, k < 6 ∧ upd F.2.1 F.1 (mWd t T b) c = nI k) ∧ ∃ k : Nat, k < 6 ∧ upd F.2.2.2.1 F.1 (mItY t T F.1 b) c = nI k) ∧ ¬ upd F.2.2.2.2.2.1 F.1 0 c < 0 ∧ upd F.2.2.2.2.2.2.1 F.1 0 c = 0 ∧ upd F.2.2.2.2.2.2.2.1 F.1 0 c = 0
              by_cases q : c = F.1
              · rw [upd_at _ q, upd_at _ q, upd_at _ q, upd_at _ q, upd_at _ q]
                exact ⟨⟨i_lt6 k1, i_lt (b := 5) (k := 0) (by decide) k3 k4⟩, by decide, rfl, rfl⟩
              · rw [upd_ne _ _ q, upd_ne _ _ q, upd_ne _ _ q, upd_ne _ _ q, upd_ne _ _ q]
                have hc2 : c < F.1 + 1 := hc
                exact r c (by omega)
/-- what school() makes of a school -/
def ScR (t : Nat) (T : MA) (G G2 : MG) : Prop := ((mTellN t T).2.2 = false → G2 = G) ∧ ((mTellN t T).2.2 = true → ∃ F0 : MF, (F0.1 = 0 ∧ tdF F0 = 0 ∧ F0.2.2.2.2.2.2.2.2.1 = (fun _ => 0) ∧ F0.2.2.2.2.2.2.2.2.2.1 = gLw G) ∧ (mTellC t T F0).1 = (gN G2, gKd G2, gKa G2, gHo G2, gFa G2, gSi G2, gKn G2, gAw G2, gEv G2, gLw G2, nI (gTd G2)) ∧ gCr G2 = (fun _ => 0) ∧ gTr G2 = (fun _ => 0) ∧ gZ G2 = gZ G ∧ gTd G2 ≤ 40)
theorem tellR_tp {t : Nat} {T T2 c0 s0 l0 : MA} (h : TpR T T2) : mTellR t T2 c0 s0 l0 = mTellR t T c0 s0 l0 := by
  unfold mTellR; rw [tp_sk h]; exact (tp_loop h _ _ _).symm
theorem ScR.rg {t n n2 q q2 : Nat} {T T2 c0 s0 ch row ev cr tr lw ch2 row2 ev2 cr2 tr2 lw2 : MA} {z : Int32} {G G2 : MG} (H : RG G n ch row ev cr tr lw z) (hTp : TpR T T2) (hS : ScR t T G G2) (hy : (mTellR t T2 c0 s0 lw).2.2 = true → SchR (mTellR t T2 c0 s0 lw).1 n2 ch2 row2 ev2 cr2 tr2 lw2 q2) (hno : (mTellR t T2 c0 s0 lw).2.2 = false → n2 = n ∧ ch2 = ch ∧ row2 = row ∧ ev2 = ev ∧ cr2 = cr ∧ tr2 = tr ∧ lw2 = lw ∧ q2 = q) : RG G2 n2 ch2 row2 ev2 cr2 tr2 lw2 z := by
  rw [tellR_tp hTp] at hy hno
  obtain ⟨e1, _, _⟩ := tellR (t := t) (T := T) (ch := c0) (si := s0) (lw := lw)
  by_cases w : (mTellN t T).2.2 = true
  · obtain ⟨F0, ⟨f1, f2, f3, f4⟩, g1, g2, g3, g4, g5⟩ := hS.2 w
    have hI := H.1.2.2.1
    have hl := H.2.2.2.2.2.2.2
    have R0 : RS F0 (0, c0, s0, (fun _ => 0), lw, 0) := by
      refine ⟨⟨f1, by omega⟩, ⟨?_, ?_, ?_, ?_⟩, ?_, by rw [f3]; exact Ag.rf, by rw [f4]; exact hl, f2.symm, fun c hc => absurd hc (by omega), by rw [f4]; exact hI.1, by rw [f4]; exact hI.2⟩ <;> exact fun c hc => absurd hc (by omega)
    have sim := mLoop_sim2 (cnt := Prod.fst) (op := opC) (cnt2 := Prod.fst) (op2 := opR) (t := t) (T := T) RS (fun _ _ h => h.1.1) (fun F f b hR hi => hR.op hi) 240 F0 (0, c0, s0, (fun _ => 0), lw, 0) (mSk t T 0, true) (fun _ => R0)
    have eC : (mTellC t T F0).2 = (mTellN t T).2 := (tellC (t := t) (T := T) ⟨f1, f2⟩).1
    have R1 : RS (mTellC t T F0).1 (mTellR t T c0 s0 lw).1 := sim.2 (by
      show (mTellC t T F0).2.2 = true
      rw [eC]; exact w)
    obtain ⟨p1, p2, p3, p4, p5, p6, p7, _⟩ := hy (by rw [e1]; exact w)
    rw [g1] at R1
    obtain ⟨⟨a1, a2⟩, ⟨k0, k1, k2, k3⟩, s, v, l, d, r, l0, l3⟩ := R1
    obtain ⟨w1, w2, w3⟩ := p3
    have en : n2 = gN G2 := p1.trans a1.symm
    rw [← a1] at w2
    subst p2; subst p4; subst p5; subst p6; subst p7
    refine ⟨⟨⟨a2, g5⟩, fun c hc => ⟨(r c hc).1, (r c hc).2.1, ?_⟩, ⟨l0, l3⟩, fun x hx => ?_⟩, ⟨en, w1.trans d, by rw [g4]; exact H.2.1.2.2⟩, by rw [en]; exact ⟨k0, k1, k2, k3⟩, by
      rw [en]
      refine ⟨fun c hc => ?_, fun c hc => ?_, fun c hc => ?_⟩
      · exact (w2 c hc).trans (s c hc)
      · exact (w3 (9 + c) (by omega) (by have : c < gN G2 := hc; have : gN G2 ≤ 8 := a2; omega)).trans (r c hc).2.2.1.symm
      · exact (w3 (17 + c) (by omega) (by have : c < gN G2 := hc; have : gN G2 ≤ 8 := a2; omega)).trans (r c hc).2.2.2.symm, v, ?_, ?_, l⟩
    · have : gKn G2 c = 0 := (r c hc).2.2.1
      rw [this]; decide
    · rw [g2, g3]; exact ⟨⟨(show (0 : Int32).toBitVec.toNat < 256 by decide), (show (0 : Int32).toBitVec.toNat < 256 by decide)⟩, fun _ => ⟨rfl, rfl⟩⟩
    · rw [g2]; exact Ag.rf
    · rw [g3]; exact Ag.rf
  · have w2 := Bool.eq_false_iff.mpr w
    obtain ⟨p1, p2, p3, p4, p5, p6, p7, _⟩ := hno (by rw [e1]; exact w2)
    subst p1; subst p2; subst p3; subst p4; subst p5; subst p6; subst p7
    rw [hS.1 w2]; exact H
theorem ScR_n {t : Nat} {T : MA} {F0 : MF} {G : MG} (h0 : F0.1 = 0 ∧ tdF F0 = 0) (h : (mTellC t T F0).2.2 = false) : ScR t T G G := by
  have e := (tellC (t := t) (T := T) h0).1
  rw [e] at h
  exact ⟨fun _ => rfl, fun q => absurd (h.symm.trans q) (by decide)⟩
theorem ScR_y {t : Nat} {T : MA} {F0 : MF} {G G2 : MG} (h0 : F0.1 = 0 ∧ tdF F0 = 0) (h2 : F0.2.2.2.2.2.2.2.2.1 = (fun _ => 0) ∧ F0.2.2.2.2.2.2.2.2.2.1 = gLw G) (h : (mTellC t T F0).2.2 = true) (h1 : (mTellC t T F0).1 = (gN G2, gKd G2, gKa G2, gHo G2, gFa G2, gSi G2, gKn G2, gAw G2, gEv G2, gLw G2, nI (gTd G2))) (h3 : gCr G2 = (fun _ => 0) ∧ gTr G2 = (fun _ => 0) ∧ gZ G2 = gZ G) (h4 : gTd G2 ≤ 40) : ScR t T G G2 := by
  have e := (tellC (t := t) (T := T) h0).1
  rw [e] at h
  exact ⟨fun q => absurd (h.symm.trans q) (by decide), fun _ => ⟨F0, ⟨h0.1, h0.2, h2.1, h2.2⟩, h1, h3.1, h3.2.1, h3.2.2, h4⟩⟩
/-- what school() makes of ROWS -/
def scW (t : Nat) (T : MA) (W : MW) : MW := if (mTellN t T).2.2 = true then (W.1, 0) else W
theorem scW_n {t : Nat} {T : MA} {F0 : MF} {W : MW} (h0 : F0.1 = 0 ∧ tdF F0 = 0) (h : (mTellC t T F0).2.2 = false) : W = scW t T W := by
  have e := (tellC (t := t) (T := T) h0).1
  rw [e] at h
  unfold scW; rw [if_neg (by rw [h]; decide)]
theorem scW_y {t : Nat} {T : MA} {F0 : MF} {W : MW} (h0 : F0.1 = 0 ∧ tdF F0 = 0) (h : (mTellC t T F0).2.2 = true) : (W.1, 0) = scW t T W := by
  have e := (tellC (t := t) (T := T) h0).1
  rw [e] at h
  unfold scW; rw [if_pos h]
theorem ScR.rows {t n n2 q q2 : Nat} {T T2 c0 s0 ch row ev cr tr lw ch2 row2 ev2 cr2 tr2 lw2 rows : MA} {W : MW} (hW : RwR W q rows) (hTp : TpR T T2) (hy : (mTellR t T2 c0 s0 lw).2.2 = true → SchR (mTellR t T2 c0 s0 lw).1 n2 ch2 row2 ev2 cr2 tr2 lw2 q2) (hno : (mTellR t T2 c0 s0 lw).2.2 = false → n2 = n ∧ ch2 = ch ∧ row2 = row ∧ ev2 = ev ∧ cr2 = cr ∧ tr2 = tr ∧ lw2 = lw ∧ q2 = q) : RwR (scW t T W) q2 rows := by
  rw [tellR_tp hTp] at hy hno
  obtain ⟨e1, _, _⟩ := tellR (t := t) (T := T) (ch := c0) (si := s0) (lw := lw)
  unfold scW
  by_cases w : (mTellN t T).2.2 = true
  · rw [if_pos w]
    obtain ⟨_, _, _, _, _, _, _, p8⟩ := hy (by rw [e1]; exact w)
    subst p8
    exact ⟨⟨rfl, Nat.zero_le _⟩, fun j hj => absurd hj (Nat.not_lt_zero j)⟩
  · rw [if_neg w]
    obtain ⟨_, _, _, _, _, _, _, p8⟩ := hno (by rw [e1]; exact Bool.eq_false_iff.mpr w)
    subst p8; exact hW
