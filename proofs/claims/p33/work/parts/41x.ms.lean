def bdN (i : Nat) : Nat := ([8, 40, 8, 40, 8, 240, 240, 8, 40, 20, 30, 40, 40, 40, 40] : List Nat).getD i 0
def bdR (i : Nat) : Nat := ([8, 20, 20, 30] : List Nat).getD i 0
theorem up_le {f bd : Nat → Nat} (h : ∀ i, f i ≤ bd i) {k v : Nat} (hv : v ≤ bd k) : ∀ i, va_up f k v i ≤ bd i := fun i => by
  by_cases e : i = k
  · rw [e, va_up_self]; exact hv
  · rw [va_up_ne f v e]; exact h i
abbrev MS := (Nat → Int32) × (Nat → Int32) × (Nat → Int32) × (Nat → Nat → Int64) × MG × Int32 × MG × MW × MH × MT
abbrev sG (S : MS) : MG := S.2.2.2.2.1
abbrev sIk (S : MS) : Int32 := S.2.2.2.2.2.1
abbrev sK (S : MS) : MG := S.2.2.2.2.2.2.1
abbrev sW (S : MS) : MW := S.2.2.2.2.2.2.2.1
abbrev sH (S : MS) : MH := S.2.2.2.2.2.2.2.2.1
abbrev sT (S : MS) : MT := S.2.2.2.2.2.2.2.2.2
abbrev stW (S : MS) (W : MW) : MS := (S.1, S.2.1, S.2.2.1, S.2.2.2.1, S.2.2.2.2.1, S.2.2.2.2.2.1, S.2.2.2.2.2.2.1, W, S.2.2.2.2.2.2.2.2)
abbrev stH (S : MS) (H : MH) : MS := (S.1, S.2.1, S.2.2.1, S.2.2.2.1, S.2.2.2.2.1, S.2.2.2.2.2.1, S.2.2.2.2.2.2.1, S.2.2.2.2.2.2.2.1, H, S.2.2.2.2.2.2.2.2.2)
abbrev stT (S : MS) (T : MT) : MS := (S.1, S.2.1, S.2.2.1, S.2.2.2.1, S.2.2.2.2.1, S.2.2.2.2.2.1, S.2.2.2.2.2.2.1, S.2.2.2.2.2.2.2.1, S.2.2.2.2.2.2.2.2.1, T)
abbrev stG (S : MS) (G : MG) : MS := (S.1, S.2.1, S.2.2.1, S.2.2.2.1, G, S.2.2.2.2.2)
abbrev stI (S : MS) (it : Nat → Nat → Int64) : MS := (S.1, S.2.1, S.2.2.1, it, S.2.2.2.2)
abbrev stK (S : MS) : MS := (S.1, S.2.1, S.2.2.1, S.2.2.2.1, S.2.2.2.2.1, 1, S.2.2.2.2.1, S.2.2.2.2.2.2.2)
theorem stp_G (f : MG → MG) {G G1 G2 : MG} (h : G = G1) (hf : G2 = f G1) : f G = G2 := by rw [h]; exact hf.symm
theorem ag_tr {i i2 z : Int32} {K G : MG} {n : Nat} {ch row ev cr tr lw : MA} (h : i = i2) (H : RG (gAgain i K G) n ch row ev cr tr lw z) : RG (gAgain i2 K G) n ch row ev cr tr lw z := h ▸ H
theorem ev_tr {r r0 s i d m z : Int32} {it : Nat → Nat → Int64} {G : MG} {n : Nat} {ch row ev cr tr lw : MA} (h : r = r0) (H : RG (gEvs r s i d m it G) n ch row ev cr tr lw z) : RG (gEvs r0 s i d m it G) n ch row ev cr tr lw z := h ▸ H
theorem RG.row {G : MG} {n : Nat} {ch row row2 ev cr tr lw : MA} {z : Int32} (H : RG G n ch row ev cr tr lw z) (h : ∀ j : Nat, j < 25 → row2 j = row j) : RG G n ch row2 ev cr tr lw z := RG_cg H (fun _ _ => rfl) h (fun _ _ => rfl) (fun _ _ => rfl) (fun _ _ => rfl) (fun _ _ => rfl) rfl
theorem LwOk.T {lo hi : MA} (h : LwOk lo hi) : LwT lo hi := fun k hk => by
  obtain ⟨⟨a0, a1, a2, a3⟩, b0, b1, b2, b3⟩ := h
  rcases (show k = 0 ∨ k = 1 ∨ k = 2 ∨ k = 3 from by omega) with rfl | rfl | rfl | rfl
  · exact ⟨a0.trans (by decide), b0.trans (by decide)⟩
  · exact ⟨a1.trans (by decide), b1.trans (by decide)⟩
  · exact ⟨a2.trans (by decide), b2.trans (by decide)⟩
  · exact ⟨a3.trans (by decide), b3.trans (by decide)⟩
theorem RG_init {lw lw2 : MA} (h : Ag 4 lw lw2) (h0 : ¬ lw2 0 < 0) (h3 : ¬ lw2 3 < 0) : RG (0, (fun _ => 0), (fun _ => 0), (fun _ => 0), (fun _ => 0), (fun _ => 0), (fun _ => 0), (fun _ => 0), (fun _ => 0), (fun _ => 0), (fun _ => 0), lw2, 0, 1) 0 (fun _ => 0) (fun _ => 0) (fun _ => 0) (fun _ => 0) (fun _ => 0) lw 1 :=
  ⟨⟨⟨Nat.zero_le _, Nat.zero_le _⟩, fun c hc => absurd hc (Nat.not_lt_zero c), ⟨h0, h3⟩, fun _ _ => ⟨⟨(show (0 : Int32).toBitVec.toNat < 256 by decide), (show (0 : Int32).toBitVec.toNat < 256 by decide)⟩, fun _ => ⟨rfl, rfl⟩⟩⟩, ⟨rfl, rfl, rfl⟩, ⟨fun c hc => absurd hc (Nat.not_lt_zero c), fun c hc => absurd hc (Nat.not_lt_zero c), fun c hc => absurd hc (Nat.not_lt_zero c), fun c hc => absurd hc (Nat.not_lt_zero c)⟩, ⟨fun c hc => absurd hc (Nat.not_lt_zero c), fun c hc => absurd hc (Nat.not_lt_zero c), fun c hc => absurd hc (Nat.not_lt_zero c)⟩, Ag.rf, Ag.rf, Ag.rf, h⟩
def ItC (S : MS) (a b c d : Nat → Int64) : Prop := S.2.2.2.1 0 = a ∧ S.2.2.2.1 1 = b ∧ S.2.2.2.1 2 = c ∧ S.2.2.2.1 3 = d
theorem gEvs_cg {s i d m : Int32} {so ln : Nat → Int32} {it it2 : Nat → Nat → Int64} {G : MG} (h : ∀ j : Nat, j < 4 → it j = it2 j) : gEvs (mEv s i d m so ln) s i d m it G = gEvs (mEv s i d m so ln) s i d m it2 G := by
  by_cases q : mEv s i d m so ln < 0
  · unfold gEvs; rw [if_pos q, if_pos q]
  · have hs : ∃ k : Nat, k ≤ 3 ∧ s = nI k := by
      by_cases w : (s < 0 ∨ 3 < s) ∨ (d < 0 ∨ 39 < d) ∨ (m < 0 ∨ 40 < m) ∨ 40 < d + m
      · exfalso
        apply q
        unfold mEv
        rw [if_pos w]; decide
      · exact nat_le (N := 3) (fun z => w (Or.inl (Or.inl z))) (fun z => w (Or.inl (Or.inr z))) (by decide)
    obtain ⟨k, hk, e⟩ := hs
    unfold gEvs
    rw [if_neg q, if_neg q, e, nI_clamp (by omega), h k (by omega)]
theorem gEvs_st {r s i d m : Int32} {so ln : Nat → Int32} {S : MS} {a b c e : Nat → Int64} {G G1 G2 : MG} (hI : ItC S a b c e) (hG : G = G1) (hr : r = mEv s i d m so ln) (h : G2 = gEvs r s i d m (v4L a b c e) G1) : gEvs (mEv s i d m so ln) s i d m S.2.2.2.1 G = G2 := by
  rw [h, hr, hG]
  obtain ⟨h0, h1, h2, h3⟩ := hI
  refine gEvs_cg (fun j hj => ?_)
  rcases (show j = 0 ∨ j = 1 ∨ j = 2 ∨ j = 3 from by omega) with rfl | rfl | rfl | rfl
  · exact h0
  · exact h1
  · exact h2
  · exact h3
def ShC (S : MS) (a b c d e f g h : Int32) : Prop := (S.1 0 = a ∧ S.1 1 = b ∧ S.1 2 = c ∧ S.1 3 = d) ∧ (S.2.1 0 = e ∧ S.2.1 1 = f ∧ S.2.1 2 = g ∧ S.2.1 3 = h)
def ShI (S : MS) : Prop := ∀ j : Nat, j < 4 → (S.1 j = -1 ∨ ¬ S.1 j < 0) ∧ le40 (S.2.1 j)
def ShR (R : MS) (so ln : Nat → Int32) : Prop := ∀ j : Nat, j < 4 → so j = R.1 j ∧ ln j = R.2.1 j
def shS (s t n : Int32) (S : MS) : MS := (fun j => mSo (mSheet s t n) s t j (S.1 j), fun j => mLn (mSheet s t n) s t n j (S.2.1 j), S.2.2.1, fun j => mIs (mSheet s t n) s j (S.2.2.2.1 j), S.2.2.2.2)
theorem mSheet_one {s t n : Int32} (h : mSheet s t n = 1) : -1 ≤ t.toInt ∧ (t.toInt = -1 ∨ (0 ≤ n.toInt ∧ n.toInt ≤ 40)) := by
  unfold mSheet at h
  split at h
  · rename_i h1
    refine ⟨h1.2.2.1, ?_⟩
    split at h
    · exact Or.inl (by assumption)
    · split at h
      · exact absurd h (by decide)
      · split at h
        · exact absurd h (by decide)
        · exact Or.inr (by omega)
  · exact absurd h (by decide)
theorem ShI.sheet {S : MS} (h : ShI S) (s t n : Int32) : ShI (shS s t n S) := fun j hj => by
  by_cases e : mSheet s t n = 1 ∧ s = nI j
  · have h1 := mSheet_one e.1
    refine ⟨?_, ?_⟩
    · show mSo (mSheet s t n) s t j (S.1 j) = -1 ∨ ¬ mSo (mSheet s t n) s t j (S.1 j) < 0
      unfold mSo; rw [if_pos e]
      by_cases e2 : t.toInt = -1
      · exact Or.inl (Int32.toInt_inj.mp (e2.trans (by decide)))
      · refine Or.inr (fun h2 => ?_)
        rw [Int32.lt_iff_toInt_lt, show (0 : Int32).toInt = 0 from by decide] at h2; omega
    · show le40 (mLn (mSheet s t n) s t n j (S.2.1 j))
      unfold mLn; rw [if_pos e]
      by_cases e2 : t.toInt < 0
      · rw [if_pos e2]; exact ⟨0, by decide, rfl⟩
      · rw [if_neg e2]
        refine ⟨n.toInt.toNat, by omega, Int32.toInt_inj.mp ?_⟩
        rw [nI_toInt (by omega)]; omega
  · refine ⟨?_, ?_⟩
    · show mSo (mSheet s t n) s t j (S.1 j) = -1 ∨ ¬ mSo (mSheet s t n) s t j (S.1 j) < 0
      unfold mSo; rw [if_neg e]; exact (h j hj).1
    · show le40 (mLn (mSheet s t n) s t n j (S.2.1 j))
      unfold mLn; rw [if_neg e]; exact (h j hj).2
theorem ShC.v4 {S : MS} {a b c d e f g h : Int32} (H : ShC S a b c d e f g h) {j : Nat} (hj : j < 4) : v4 a b c d j = S.1 j ∧ v4 e f g h j = S.2.1 j := by
  obtain ⟨⟨h0, h1, h2, h3⟩, k0, k1, k2, k3⟩ := H
  rcases (show j = 0 ∨ j = 1 ∨ j = 2 ∨ j = 3 from by omega) with rfl | rfl | rfl | rfl
  · exact ⟨h0.symm, k0.symm⟩
  · exact ⟨h1.symm, k1.symm⟩
  · exact ⟨h2.symm, k2.symm⟩
  · exact ⟨h3.symm, k3.symm⟩
theorem mPut_eq {S : MS} {a b c d e f g h : Int32} (H : ShC S a b c d e f g h) (HI : ShI S) (s i : Int32) : mPutC s i (v4 a b c d) (v4 e f g h) = mPut s i S.1 S.2.1 := by
  unfold mPutC mPut
  by_cases h1 : s < 0
  · rw [if_pos (Or.inl h1), if_pos (Or.inl h1)]
  · by_cases h2 : (3 : Int32) < s
    · have h3 : ¬ s < 4 := by
        rw [Int32.lt_iff_toInt_lt] at h2 ⊢
        rw [show (3 : Int32).toInt = 3 from by decide] at h2; rw [show (4 : Int32).toInt = 4 from by decide]; omega
      rw [if_pos (Or.inr h3), if_pos (Or.inr h2)]
    · obtain ⟨k, hk, rfl⟩ := nat_le (N := 3) h1 h2 (by decide)
      have h3 : nI k < 4 := by
        rw [Int32.lt_iff_toInt_lt, nI_toInt (by omega), show (4 : Int32).toInt = 4 from by decide]; omega
      rw [if_neg (show ¬ (nI k < 0 ∨ ¬ nI k < 4) from fun q => q.elim h1 (fun q => q h3)), if_neg (show ¬ (nI k < 0 ∨ 3 < nI k) from fun q => q.elim h1 h2), show (nI k).toNatClampNeg = k from nI_clamp (by omega)]
      obtain ⟨e1, e2⟩ := H.v4 (show k < 4 by omega)
      rw [e1, e2]
      obtain ⟨hi, d, hd, hl⟩ := HI k (by omega)
      have hq : (S.1 k = -1) ↔ S.1 k < 0 := ⟨fun q => by rw [q]; decide, fun q => hi.elim id (fun w => absurd q w)⟩
      rw [hl]
      by_cases e : S.1 k = -1
      · rw [if_pos e, if_pos (hq.mp e)]
      · rw [if_neg e, if_neg (fun q => e (hq.mpr q))]
        have hr : (i < 0 ∨ ¬ i < nI d) ↔ (i < 0 ∨ nI d - 1 < i) := by
          refine ⟨fun q => q.elim Or.inl (fun q => Or.inr ?_), fun q => q.elim Or.inl (fun q => Or.inr ?_)⟩
          · rw [Int32.lt_iff_toInt_lt, nI_toInt (by omega)] at q
            rw [Int32.lt_iff_toInt_lt, show (1 : Int32) = nI 1 from rfl, pk_sub_toInt (by omega) (by omega)]; omega
          · rw [Int32.lt_iff_toInt_lt, show (1 : Int32) = nI 1 from rfl, pk_sub_toInt (by omega) (by omega)] at q
            rw [Int32.lt_iff_toInt_lt, nI_toInt (by omega)]; omega
        by_cases w : i < 0 ∨ ¬ i < nI d
        · rw [if_pos w, if_pos (hr.mp w)]
        · rw [if_neg w, if_neg (fun q => w (hr.mpr q))]
theorem mPut_congr {R : MS} {so ln : Nat → Int32} (h : ShR R so ln) (s i : Int32) : mPut s i so ln = mPut s i R.1 R.2.1 := by
  unfold mPut
  by_cases h1 : s < 0 ∨ 3 < s
  · rw [if_pos h1, if_pos h1]
  · rw [if_neg h1, if_neg h1]
    obtain ⟨k, hk, rfl⟩ := nat_le (N := 3) (fun q => h1 (Or.inl q)) (fun q => h1 (Or.inr q)) (by decide)
    rw [show (nI k).toNatClampNeg = k from nI_clamp (by omega), (h k (by omega)).1, (h k (by omega)).2]
theorem ev_iff {s d n : Int32} : ((s < 0 ∨ ¬ s < 4) ∨ (d < 0 ∨ ¬ d < 40) ∨ n < 0 ∨ 40 - d < n) ↔ ((s < 0 ∨ 3 < s) ∨ (d < 0 ∨ 39 < d) ∨ (n < 0 ∨ 40 < n) ∨ 40 < d + n) := by
  simp only [Int32.lt_iff_toInt_lt, show (0 : Int32).toInt = 0 from by decide, show (3 : Int32).toInt = 3 from by decide, show (4 : Int32).toInt = 4 from by decide, show (39 : Int32).toInt = 39 from by decide, show (40 : Int32).toInt = 40 from by decide]
  by_cases hd : 0 ≤ d.toInt ∧ d.toInt < 40
  · have e1 : (40 - d).toInt = 40 - d.toInt := by
      rw [Int32.toInt_sub, show (40 : Int32).toInt = 40 from by decide]; apply Int.bmod_eq_of_le <;> omega
    rw [e1]
    by_cases hn : 0 ≤ n.toInt ∧ n.toInt ≤ 40
    · have e2 : (d + n).toInt = d.toInt + n.toInt := by
        rw [Int32.toInt_add]; apply Int.bmod_eq_of_le <;> omega
      rw [e2]; omega
    · omega
  · omega
theorem mEv_eq {S : MS} {a b c d e f g h : Int32} (H : ShC S a b c d e f g h) (HI : ShI S) (s i dd n : Int32) : mEvC s i dd n (v4 a b c d) (v4 e f g h) = mEv s i dd n S.1 S.2.1 := by
  unfold mEvC mEv
  by_cases w : (s < 0 ∨ ¬ s < 4) ∨ (dd < 0 ∨ ¬ dd < 40) ∨ n < 0 ∨ 40 - dd < n
  · rw [if_pos w, if_pos (ev_iff.mp w)]
  · have w2 := fun q => w (ev_iff.mpr q)
    rw [if_neg w, if_neg w2]
    have h1 : ¬ s < 0 := fun q => w2 (Or.inl (Or.inl q))
    have h2 : ¬ 3 < s := fun q => w2 (Or.inl (Or.inr q))
    have h5 : ¬ n < 0 := fun q => w2 (Or.inr (Or.inr (Or.inl (Or.inl q))))
    have h6 : ¬ 40 < n := fun q => w2 (Or.inr (Or.inr (Or.inl (Or.inr q))))
    obtain ⟨k, hk, rfl⟩ := nat_le (N := 3) h1 h2 (by decide)
    obtain ⟨m, hm, rfl⟩ := nat_le (N := 40) h5 h6 (by decide)
    rw [show (nI k).toNatClampNeg = k from nI_clamp (by omega)]
    obtain ⟨e1, e2⟩ := H.v4 (show k < 4 by omega)
    rw [e1, e2]
    obtain ⟨hi, d2, hd, hl⟩ := HI k (by omega)
    have hq : (S.1 k = -1) ↔ S.1 k < 0 := ⟨fun q => by rw [q]; decide, fun q => hi.elim id (fun w => absurd q w)⟩
    rw [hl]
    by_cases e : S.1 k = -1
    · rw [if_pos e, if_pos (hq.mp e)]
    · rw [if_neg e, if_neg (fun q => e (hq.mpr q))]
      by_cases e0 : S.1 k = 0
      · rw [if_neg (show ¬ ¬ S.1 k = 0 from fun q => q e0), if_neg (show ¬ ¬ S.1 k = 0 from fun q => q e0)]
        have hr : (i < 0 ∨ nI d2 < i ∨ nI d2 - i < nI m) ↔ (i < 0 ∨ nI d2 - nI m < i) := by
          simp only [Int32.lt_iff_toInt_lt, nI_toInt (show d2 < 2 ^ 31 by omega), nI_toInt (show m < 2 ^ 31 by omega), show (0 : Int32).toInt = 0 from by decide]
          have e3 : (nI d2 - nI m).toInt = (d2 : Int) - m := by
            rw [Int32.toInt_sub, nI_toInt (by omega), nI_toInt (by omega)]; apply Int.bmod_eq_of_le <;> omega
          rw [e3]
          by_cases hi2 : 0 ≤ i.toInt ∧ i.toInt ≤ d2
          · have e4 : (nI d2 - i).toInt = (d2 : Int) - i.toInt := by
              rw [Int32.toInt_sub, nI_toInt (by omega)]; apply Int.bmod_eq_of_le <;> omega
            rw [e4]; omega
          · omega
        by_cases w : i < 0 ∨ nI d2 < i ∨ nI d2 - i < nI m
        · rw [if_pos w, if_pos (hr.mp w)]
        · rw [if_neg w, if_neg (fun q => w (hr.mpr q))]
      · rw [if_pos e0, if_pos e0]
theorem mEv_congr {R : MS} {so ln : Nat → Int32} (h : ShR R so ln) (s i d n : Int32) : mEv s i d n so ln = mEv s i d n R.1 R.2.1 := by
  unfold mEv
  by_cases h1 : (s < 0 ∨ 3 < s) ∨ (d < 0 ∨ 39 < d) ∨ (n < 0 ∨ 40 < n) ∨ 40 < d + n
  · rw [if_pos h1, if_pos h1]
  · rw [if_neg h1, if_neg h1]
    obtain ⟨k, hk, rfl⟩ := nat_le (N := 3) (fun q => h1 (Or.inl (Or.inl q))) (fun q => h1 (Or.inl (Or.inr q))) (by decide)
    rw [show (nI k).toNatClampNeg = k from nI_clamp (by omega), (h k (by omega)).1, (h k (by omega)).2]
theorem ShR.sheet {R : MS} {so ln so' ln' : Nat → Int32} (h : ShR R so ln) {s t n : Int32} (h1 : ∀ j : Nat, j < 4 → so' j = mSo (mSheet s t n) s t j (so j)) (h2 : ∀ j : Nat, j < 4 → ln' j = mLn (mSheet s t n) s t n j (ln j)) : ShR (shS s t n R) so' ln' := fun j hj =>
  ⟨(h1 j hj).trans (congrArg (mSo (mSheet s t n) s t j) (h j hj).1), (h2 j hj).trans (congrArg (mLn (mSheet s t n) s t n j) (h j hj).2)⟩
theorem ShC.sheet {S : MS} {a b c d e f g h a' b' c' d' e' f' g' h' : Int32} (H : ShC S a b c d e f g h) {s t n : Int32} (h0 : a' = mSo (mSheet s t n) s t 0 a) (h1 : b' = mSo (mSheet s t n) s t 1 b) (h2 : c' = mSo (mSheet s t n) s t 2 c) (h3 : d' = mSo (mSheet s t n) s t 3 d) (k0 : e' = mLn (mSheet s t n) s t n 0 e) (k1 : f' = mLn (mSheet s t n) s t n 1 f) (k2 : g' = mLn (mSheet s t n) s t n 2 g) (k3 : h' = mLn (mSheet s t n) s t n 3 h) : ShC (shS s t n S) a' b' c' d' e' f' g' h' := by
  obtain ⟨⟨p0, p1, p2, p3⟩, q0, q1, q2, q3⟩ := H
  subst h0; subst h1; subst h2; subst h3; subst k0; subst k1; subst k2; subst k3
  exact ⟨⟨congrArg (mSo (mSheet s t n) s t 0) p0, congrArg (mSo (mSheet s t n) s t 1) p1, congrArg (mSo (mSheet s t n) s t 2) p2, congrArg (mSo (mSheet s t n) s t 3) p3⟩, congrArg (mLn (mSheet s t n) s t n 0) q0, congrArg (mLn (mSheet s t n) s t n 1) q1, congrArg (mLn (mSheet s t n) s t n 2) q2, congrArg (mLn (mSheet s t n) s t n 3) q3⟩
theorem ItC.sheet {S : MS} {a b c d a2 b2 c2 d2 : Nat → Int64} {s t n : Int32} (H : ItC S a b c d) (h0 : a2 = mIs (mSheet s t n) s 0 a) (h1 : b2 = mIs (mSheet s t n) s 1 b) (h2 : c2 = mIs (mSheet s t n) s 2 c) (h3 : d2 = mIs (mSheet s t n) s 3 d) : ItC (shS s t n S) a2 b2 c2 d2 := by
  obtain ⟨p0, p1, p2, p3⟩ := H
  subst h0; subst h1; subst h2; subst h3
  exact ⟨congrArg (mIs (mSheet s t n) s 0) p0, congrArg (mIs (mSheet s t n) s 1) p1, congrArg (mIs (mSheet s t n) s 2) p2, congrArg (mIs (mSheet s t n) s 3) p3⟩
theorem ItC.put {S : MS} {a b c d a2 b2 c2 d2 : Nat → Int64} {w x y z e f g h r r0 s i v : Int32} (H : ItC S a b c d) (HS : ShC S w x y z e f g h) (hr : r = r0) (h0 : a2 = mPj r s i v w 0 a) (h1 : b2 = mPj r s i v x 1 b) (h2 : c2 = mPj r s i v y 2 c) (h3 : d2 = mPj r s i v z 3 d) : ItC (stI S (fun j => mPj r0 s i v (S.1 j) j (S.2.2.2.1 j))) a2 b2 c2 d2 := by
  obtain ⟨p0, p1, p2, p3⟩ := H
  obtain ⟨⟨q0, q1, q2, q3⟩, _⟩ := HS
  subst h0; subst h1; subst h2; subst h3; subst hr; subst p0; subst p1; subst p2; subst p3; subst q0; subst q1; subst q2; subst q3
  exact ⟨rfl, rfl, rfl, rfl⟩
theorem lt4_iff {x : Int32} : (¬ x < 4) = (3 < x) := by
  apply propext
  simp only [Int32.lt_iff_toInt_lt, show (4 : Int32).toInt = 4 from by decide, show (3 : Int32).toInt = 3 from by decide]; omega
theorem ItC.v4 {S : MS} {w x y z : Nat → Int64} (H : ItC S w x y z) {j : Nat} (hj : j < 4) : v4L w x y z j = S.2.2.2.1 j := by
  obtain ⟨h0, h1, h2, h3⟩ := H
  rcases (show j = 0 ∨ j = 1 ∨ j = 2 ∨ j = 3 from by omega) with rfl | rfl | rfl | rfl
  · exact h0.symm
  · exact h1.symm
  · exact h2.symm
  · exact h3.symm
theorem mIt_eq {S : MS} {a b c d e f g h : Int32} {w x y z : Nat → Int64} (H : ShC S a b c d e f g h) (HI : ShI S) (HT : ItC S w x y z) (s t i : Int32) : mItC s t i (v4 a b c d) (v4 e f g h) (v4L w x y z) = mItR s t i S.1 S.2.1 S.2.2.2.1 := by
  unfold mItC mItR
  have q1 : (s < 0 ∨ ¬ s < 4) = (s < 0 ∨ 3 < s) := by rw [lt4_iff]
  have q2 : (t < 0 ∨ ¬ t < 4) = (t < 0 ∨ 3 < t) := by rw [lt4_iff]
  by_cases h1 : (s < 0 ∨ 3 < s) ∨ (t < 0 ∨ 3 < t)
  · rw [if_pos h1, if_pos (show (s < 0 ∨ ¬ s < 4) ∨ (t < 0 ∨ ¬ t < 4) from by rw [q1, q2]; exact h1)]
  · rw [if_neg h1, if_neg (show ¬ ((s < 0 ∨ ¬ s < 4) ∨ (t < 0 ∨ ¬ t < 4)) from by rw [q1, q2]; exact h1)]
    obtain ⟨k, hk, rfl⟩ := nat_le (N := 3) (fun q => h1 (Or.inl (Or.inl q))) (fun q => h1 (Or.inl (Or.inr q))) (by decide)
    rw [show (nI k).toNatClampNeg = k from nI_clamp (by omega)]
    obtain ⟨e1, e2⟩ := H.v4 (show k < 4 by omega)
    rw [e1, e2, HT.v4 (show k < 4 by omega)]
    obtain ⟨hi, d2, hd, hl⟩ := HI k (by omega)
    have hq : (S.1 k = -1) ↔ S.1 k < 0 := ⟨fun q => by rw [q]; decide, fun q => hi.elim id (fun w => absurd q w)⟩
    rw [hl]
    by_cases e : S.1 k = -1
    · rw [if_pos e, if_pos (hq.mp e)]
    · rw [if_neg e, if_neg (fun q => e (hq.mpr q))]
      by_cases e0 : S.1 k = t
      · rw [if_neg (show ¬ ¬ S.1 k = t from fun q => q e0), if_neg (show ¬ ¬ S.1 k = t from fun q => q e0)]
        have hr : (i < 0 ∨ ¬ i < nI d2) ↔ (i < 0 ∨ nI d2 - 1 < i) := by
          refine ⟨fun q => q.elim Or.inl (fun q => Or.inr ?_), fun q => q.elim Or.inl (fun q => Or.inr ?_)⟩
          · rw [Int32.lt_iff_toInt_lt, nI_toInt (by omega)] at q
            rw [Int32.lt_iff_toInt_lt, show (1 : Int32) = nI 1 from rfl, pk_sub_toInt (by omega) (by omega)]; omega
          · rw [Int32.lt_iff_toInt_lt, show (1 : Int32) = nI 1 from rfl, pk_sub_toInt (by omega) (by omega)] at q
            rw [Int32.lt_iff_toInt_lt, nI_toInt (by omega)]; omega
        by_cases w : i < 0 ∨ ¬ i < nI d2
        · rw [if_pos w, if_pos (hr.mp w)]
        · rw [if_neg w, if_neg (fun q => w (hr.mpr q))]
      · rw [if_pos e0, if_pos e0]
theorem mItR_cg {R : MS} {so ln : Nat → Int32} {A : Nat → Int64} (h : ShR R so ln) (hs : SizOk ln) (hI : ItR R.2.2.2.1 A) (s t i : Int32) : mItR s t i so ln (fun k j => A (40 * k + j)) = mItR s t i R.1 R.2.1 R.2.2.2.1 := by
  unfold mItR
  by_cases h1 : (s < 0 ∨ 3 < s) ∨ (t < 0 ∨ 3 < t)
  · rw [if_pos h1, if_pos h1]
  · rw [if_neg h1, if_neg h1]
    obtain ⟨k, hk, rfl⟩ := nat_le (N := 3) (fun q => h1 (Or.inl (Or.inl q))) (fun q => h1 (Or.inl (Or.inr q))) (by decide)
    rw [show (nI k).toNatClampNeg = k from nI_clamp (by omega), ← (h k (by omega)).1, ← (h k (by omega)).2]
    obtain ⟨d2, hd, hl⟩ := hs k (by omega)
    rw [hl]
    by_cases w : i < 0 ∨ nI d2 - 1 < i
    · simp only [if_pos w]
    · have hi : ∃ j, j < 40 ∧ i = nI j := by
        obtain ⟨j, hj, e⟩ := nat_lt1 (N := d2) (fun q => w (Or.inl q)) (fun q => w (Or.inr q)) (by omega)
        exact ⟨j, by omega, e⟩
      obtain ⟨j, hj, rfl⟩ := hi
      rw [show (nI j).toNatClampNeg = j from nI_clamp (by omega), show (fun k j => A (40 * k + j)) k j = R.2.2.2.1 k j from hI k j (by omega) hj]
