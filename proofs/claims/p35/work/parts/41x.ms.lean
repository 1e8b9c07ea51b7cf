def bdN (i : Nat) : Nat := ([8, 40, 8, 40, 8, 240, 240, 8, 40, 20, 30, 40, 40, 40, 40] : List Nat).getD i 0
def bdR (i : Nat) : Nat := ([8, 20, 20, 30] : List Nat).getD i 0
theorem up_le {f bd : Nat → Nat} (h : ∀ i, f i ≤ bd i) {k v : Nat} (hv : v ≤ bd k) : ∀ i, va_up f k v i ≤ bd i := fun i => by
  by_cases e : i = k
  · rw [e, va_up_self]; exact hv
  · rw [va_up_ne f v e]; exact h i
abbrev MS := (Nat → Int32) × (Nat → Int32) × (Nat → Int32) × Nat × Nat × Int32 × Nat × Nat
abbrev sTp (S : MS) : Nat → Int32 := S.2.2.1
abbrev sN (S : MS) : Nat := S.2.2.2.1
abbrev sTd (S : MS) : Nat := S.2.2.2.2.1
abbrev sIk (S : MS) : Int32 := S.2.2.2.2.2.1
abbrev sKn (S : MS) : Nat := S.2.2.2.2.2.2.1
abbrev sKt (S : MS) : Nat := S.2.2.2.2.2.2.2
def stN (S : MS) (n td : Nat) : MS := (S.1, S.2.1, S.2.2.1, n, td, S.2.2.2.2.2)
def stK (S : MS) (ik : Int32) (kn kt : Nat) : MS := (S.1, S.2.1, S.2.2.1, S.2.2.2.1, S.2.2.2.2.1, ik, kn, kt)
def scN (t : Nat) (S : MS) : Nat := if (mTellN t (sTp S)).2.2 = true then (mTellN t (sTp S)).1.1 else sN S
def scT (t : Nat) (S : MS) : Nat := if (mTellN t (sTp S)).2.2 = true then (mTellN t (sTp S)).1.2.toNatClampNeg else sTd S
def QS (S : MS) (n td : Nat) (ik : Int32) (kn kt : Nat) : Prop := n = sN S ∧ td = sTd S ∧ ik = sIk S ∧ kn = sKn S ∧ kt = sKt S
def QR (R : MS) (n : Nat) (row : Nat → Int32) (ik : Int32) (kr : Nat → Int32) : Prop := n = sN R ∧ row 0 = nI (sTd R) ∧ ik = sIk R ∧ (¬ ik = 0 → kr 0 = nI (sKn R) ∧ kr 34 = nI (sKt R)) ∧ (sN R ≤ 8 ∧ sTd R ≤ 40 ∧ sKn R ≤ 8 ∧ sKt R ≤ 40)
section QQ
variable {S R : MS} {n n2 td td2 kn kt t : Nat} {ik : Int32} {row row2 kr kr2 tp : Nat → Int32}
theorem QS.child {k a h f : Int32} (H : QS S n td ik kn kt) (h2 : n2 = mChN k a h f n) : QS (stN S (mChN k a h f (sN S)) (sTd S)) n2 td ik kn kt :=
  ⟨h2.trans (by rw [H.1]; rfl), H.2⟩
theorem QS.days {m : Int32} (H : QS S n td ik kn kt) (h2 : td2 = mDaysT td m) : QS (stN S (sN S) (mDaysT (sTd S) m)) n td2 ik kn kt :=
  ⟨H.1, h2.trans (by rw [H.2.1]; rfl), H.2.2⟩
theorem QS.keep {ik2 : Int32} {kn2 kt2 : Nat} (H : QS S n td ik kn kt) (h2 : ik2 = 1 ∧ kn2 = n ∧ kt2 = td) : QS (stK S 1 (sN S) (sTd S)) n td ik2 kn2 kt2 :=
  ⟨H.1, H.2.1, h2.1, h2.2.1.trans H.1, h2.2.2.trans H.2.1⟩
theorem QS.again (H : QS S n td ik kn kt) (h2 : n2 = mAgN ik n kn ∧ td2 = mAgN ik td kt) : QS (stN S (mAgN (sIk S) (sN S) (sKn S)) (mAgN (sIk S) (sTd S) (sKt S))) n2 td2 ik kn kt := by
  obtain ⟨a, b, c, d, e⟩ := H
  subst a; subst b; subst c; subst d; subst e
  exact ⟨h2.1, h2.2, rfl, rfl, rfl⟩
theorem QS.school {F0 : MF} (H : QS S n td ik kn kt) (hTp : tp = S.2.2.1) (h2 : (mTellC t tp F0).2.2 = true → (mTellC t tp F0).1.1 = n2 ∧ tdF (mTellC t tp F0).1 = nI td2) (h3 : (mTellC t tp F0).2.2 = false → n2 = n ∧ td2 = td) (hd : td2 ≤ 40) (h0 : F0.1 = 0 ∧ tdF F0 = 0) : QS (stN S (scN t S) (scT t S)) n2 td2 ik kn kt := by
  obtain ⟨e1, e2, e3⟩ := tellC (t := t) (T := tp) h0
  rw [e1, e2, e3] at h2
  rw [e1] at h3
  subst hTp
  refine ⟨?_, ?_, H.2.2⟩
  · show n2 = scN t S
    unfold scN
    by_cases q : (mTellN t (sTp S)).2.2 = true
    · rw [if_pos q]; exact (h2 q).1.symm
    · rw [if_neg q]; exact (h3 (Bool.eq_false_iff.mpr q)).1.trans H.1
  · show td2 = scT t S
    unfold scT
    by_cases q : (mTellN t (sTp S)).2.2 = true
    · rw [if_pos q, (h2 q).2, nI_clamp (by omega)]
    · rw [if_neg q]; exact (h3 (Bool.eq_false_iff.mpr q)).2.trans H.2.1
theorem QR.row0 (H : QR R n row ik kr) (h : row2 0 = row 0) : QR R n row2 ik kr := ⟨H.1, h.trans H.2.1, H.2.2⟩
theorem QR.child {k a h f : Int32} (H : QR R n row ik kr) (h2 : n2 = mChNR k a h f n) (h3 : row2 0 = row 0) : QR (stN R (mChN k a h f (sN R)) (sTd R)) n2 row2 ik kr :=
  ⟨(h2.trans (mChN_eq k a h f n)).trans (by rw [H.1]; rfl), h3.trans H.2.1, H.2.2.1, H.2.2.2.1, mChN_le H.2.2.2.2.1, H.2.2.2.2.2⟩
theorem QR.days {m r : Int32} (H : QR R n row ik kr) (h2 : ∀ d : Nat, d ≤ 40 → row 0 = nI d → row2 0 = nI (mDaysT d m) ∧ r = mDaysR d m) : QR (stN R (sN R) (mDaysT (sTd R) m)) n row2 ik kr :=
  ⟨H.1, (h2 (sTd R) H.2.2.2.2.2.1 H.2.1).1, H.2.2.1, H.2.2.2.1, H.2.2.2.2.1, mDaysT_le H.2.2.2.2.2.1, H.2.2.2.2.2.2⟩
theorem QR.daysA {m r : Int32} (H : QR R n row ik kr) (h2 : ∀ d : Nat, d ≤ 40 → row 0 = nI d → row2 0 = nI (mDaysT d m) ∧ r = mDaysR d m) : r = mDaysR (sTd R) m := (h2 (sTd R) H.2.2.2.2.2.1 H.2.1).2
theorem QR.keep {ik2 : Int32} (H : QR R n row ik kr) (h2 : kr2 0 = nI n ∧ kr2 34 = row 0 ∧ row2 = row) (hi : ik2 = 1) : QR (stK R 1 (sN R) (sTd R)) n row2 ik2 kr2 :=
  ⟨H.1, by rw [h2.2.2]; exact H.2.1, hi, fun _ => ⟨h2.1.trans (congrArg nI H.1), h2.2.1.trans H.2.1⟩, H.2.2.2.2.1, H.2.2.2.2.2.1, H.2.2.2.2.1, H.2.2.2.2.2.1⟩
theorem QR.again {r : Int32} (H : QR R n row ik kr) (hn2 : n2 ≤ 8) (h1 : ik = 0 → n2 = n ∧ row2 0 = row 0 ∧ r = -3 ∧ kr2 = kr) (h2 : ¬ ik = 0 → kr 0 = nI n2 ∧ row2 0 = kr 34 ∧ r = row2 0 ∧ kr2 = kr) : QR (stN R (mAgN (sIk R) (sN R) (sKn R)) (mAgN (sIk R) (sTd R) (sKt R))) n2 row2 ik kr2 ∧ r = mAgA (sIk R) (sKt R) := by
  obtain ⟨a, b, c, d, e1, e2, e3, e4⟩ := H
  by_cases q : ik = 0
  · obtain ⟨p1, p2, p3, p4⟩ := h1 q
    have q2 : sIk R = 0 := c.symm.trans q
    unfold mAgN mAgA
    rw [if_pos q2, if_pos q2, if_pos q2]
    refine ⟨⟨p1.trans a, p2.trans b, c, fun w => absurd q w, e1, e2, e3, e4⟩, p3⟩
  · obtain ⟨p1, p2, p3, p4⟩ := h2 q
    have q2 : ¬ sIk R = 0 := fun w => q (c.trans w)
    obtain ⟨d1, d2⟩ := d q
    unfold mAgN mAgA
    rw [if_neg q2, if_neg q2, if_neg q2]
    have p5 : n2 = sKn R := (nI_eq (by omega) (by omega)).mp (p1.symm.trans d1)
    refine ⟨⟨p5, p2.trans d2, c, fun _ => ⟨by rw [p4]; exact d1, by rw [p4]; exact d2⟩, e3, e4, e3, e4⟩, p3.trans (p2.trans d2)⟩
theorem QR.school {T2 ch si lw : Nat → Int32} {ch2 ev2 cr2 tr2 lw2 : Nat → Int32} {q2 : Nat} (H : QR R n row ik kr) (hTp : TpR R.2.2.1 T2) (hn : n2 ≤ 8) (hrow : le40 (row2 0)) (h2 : (mTellR t T2 ch si lw).2.2 = true → SchR (mTellR t T2 ch si lw).1 n2 ch2 row2 ev2 cr2 tr2 lw2 q2) (h3 : (mTellR t T2 ch si lw).2.2 = false → n2 = n ∧ row2 = row) : QR (stN R (scN t R) (scT t R)) n2 row2 ik kr := by
  obtain ⟨e1, e2, e3⟩ := tellR (t := t) (T := T2) (ch := ch) (si := si) (lw := lw)
  rw [e1] at h2 h3
  have e4 := tellN_tp (t := t) hTp
  rw [← e4] at h2 h3 e2 e3
  obtain ⟨a, b, c, d, f1, f2, f3, f4⟩ := H
  by_cases q : (mTellN t (sTp R)).2.2 = true
  · have p := h2 q
    obtain ⟨j, hj, ej⟩ := hrow
    have r1 : scN t R = n2 := by unfold scN; rw [if_pos q]; exact (p.1.trans e2).symm
    have r2 : row2 0 = (mTellN t (sTp R)).1.2 := p.2.2.1.1.trans e3
    have r3 : scT t R = j := by unfold scT; rw [if_pos q, ← r2, ej, nI_clamp (by omega)]
    rw [r1, r3]
    exact ⟨rfl, ej, c, d, hn, hj, f3, f4⟩
  · obtain ⟨p1, p2⟩ := h3 (Bool.eq_false_iff.mpr q)
    have r1 : scN t R = sN R := by unfold scN; rw [if_neg q]
    have r3 : scT t R = sTd R := by unfold scT; rw [if_neg q]
    rw [r1, r3]
    exact ⟨p1.trans a, by rw [p2]; exact b, c, d, f1, f2, f3, f4⟩
end QQ
def ShC (S : MS) (a b c d e f g h : Int32) : Prop := (S.1 0 = a ∧ S.1 1 = b ∧ S.1 2 = c ∧ S.1 3 = d) ∧ (S.2.1 0 = e ∧ S.2.1 1 = f ∧ S.2.1 2 = g ∧ S.2.1 3 = h)
def ShI (S : MS) : Prop := ∀ j : Nat, j < 4 → (S.1 j = -1 ∨ ¬ S.1 j < 0) ∧ le40 (S.2.1 j)
def ShR (R : MS) (so ln : Nat → Int32) : Prop := ∀ j : Nat, j < 4 → so j = R.1 j ∧ ln j = R.2.1 j
def shS (s t n : Int32) (S : MS) : MS := (fun j => mSo (mSheet s t n) s t j (S.1 j), fun j => mLn (mSheet s t n) s t n j (S.2.1 j), S.2.2)
theorem mSheet_one {s t n : Int32} (h : mSheet s t n = 1) : -1 ≤ t.toInt ∧ (t.toInt = -1 ∨ (0 ≤ n.toInt ∧ n.toInt ≤ 40)) := by
  unfold mSheet at h
  split at h
  · rename_i h1
    refine ⟨h1.2.2.1, ?_⟩
    split at h
    · exact Or.inl (by assumption)
    · split at h
      · exact absurd h (by decide)
      · split at h
        · exact absurd h (by decide)
        · exact Or.inr (by omega)
  · exact absurd h (by decide)
theorem ShI.sheet {S : MS} (h : ShI S) (s t n : Int32) : ShI (shS s t n S) := fun j hj => by
  by_cases e : mSheet s t n = 1 ∧ s = nI j
  · have h1 := mSheet_one e.1
    refine ⟨?_, ?_⟩
    · show mSo (mSheet s t n) s t j (S.1 j) = -1 ∨ ¬ mSo (mSheet s t n) s t j (S.1 j) < 0
      unfold mSo; rw [if_pos e]
      by_cases e2 : t.toInt = -1
      · exact Or.inl (Int32.toInt_inj.mp (e2.trans (by decide)))
      · refine Or.inr (fun h2 => ?_)
        rw [Int32.lt_iff_toInt_lt, show (0 : Int32).toInt = 0 from by decide] at h2; omega
    · show le40 (mLn (mSheet s t n) s t n j (S.2.1 j))
      unfold mLn; rw [if_pos e]
      by_cases e2 : t.toInt < 0
      · rw [if_pos e2]; exact ⟨0, by decide, rfl⟩
      · rw [if_neg e2]
        refine ⟨n.toInt.toNat, by omega, Int32.toInt_inj.mp ?_⟩
        rw [nI_toInt (by omega)]; omega
  · refine ⟨?_, ?_⟩
    · show mSo (mSheet s t n) s t j (S.1 j) = -1 ∨ ¬ mSo (mSheet s t n) s t j (S.1 j) < 0
      unfold mSo; rw [if_neg e]; exact (h j hj).1
    · show le40 (mLn (mSheet s t n) s t n j (S.2.1 j))
      unfold mLn; rw [if_neg e]; exact (h j hj).2
theorem ShC.v4 {S : MS} {a b c d e f g h : Int32} (H : ShC S a b c d e f g h) {j : Nat} (hj : j < 4) : v4 a b c d j = S.1 j ∧ v4 e f g h j = S.2.1 j := by
  obtain ⟨⟨h0, h1, h2, h3⟩, k0, k1, k2, k3⟩ := H
  rcases (show j = 0 ∨ j = 1 ∨ j = 2 ∨ j = 3 from by omega) with rfl | rfl | rfl | rfl
  · exact ⟨h0.symm, k0.symm⟩
  · exact ⟨h1.symm, k1.symm⟩
  · exact ⟨h2.symm, k2.symm⟩
  · exact ⟨h3.symm, k3.symm⟩
theorem mPut_eq {S : MS} {a b c d e f g h : Int32} (H : ShC S a b c d e f g h) (HI : ShI S) (s i : Int32) : mPutC s i (v4 a b c d) (v4 e f g h) = mPut s i S.1 S.2.1 := by
  unfold mPutC mPut
  by_cases h1 : s < 0
  · rw [if_pos (Or.inl h1), if_pos (Or.inl h1)]
  · by_cases h2 : (3 : Int32) < s
    · have h3 : ¬ s < 4 := by
        rw [Int32.lt_iff_toInt_lt] at h2 ⊢
        rw [show (3 : Int32).toInt = 3 from by decide] at h2; rw [show (4 : Int32).toInt = 4 from by decide]; omega
      rw [if_pos (Or.inr h3), if_pos (Or.inr h2)]
    · obtain ⟨k, hk, rfl⟩ := nat_le (N := 3) h1 h2 (by decide)
      have h3 : nI k < 4 := by
        rw [Int32.lt_iff_toInt_lt, nI_toInt (by omega), show (4 : Int32).toInt = 4 from by decide]; omega
      rw [if_neg (show ¬ (nI k < 0 ∨ ¬ nI k < 4) from fun q => q.elim h1 (fun q => q h3)), if_neg (show ¬ (nI k < 0 ∨ 3 < nI k) from fun q => q.elim h1 h2), show (nI k).toNatClampNeg = k from nI_clamp (by omega)]
      obtain ⟨e1, e2⟩ := H.v4 (show k < 4 by omega)
      rw [e1, e2]
      obtain ⟨hi, d, hd, hl⟩ := HI k (by omega)
      have hq : (S.1 k = -1) ↔ S.1 k < 0 := ⟨fun q => by rw [q]; decide, fun q => hi.elim id (fun w => absurd q w)⟩
      rw [hl]
      by_cases e : S.1 k = -1
      · rw [if_pos e, if_pos (hq.mp e)]
      · rw [if_neg e, if_neg (fun q => e (hq.mpr q))]
        have hr : (i < 0 ∨ ¬ i < nI d) ↔ (i < 0 ∨ nI d - 1 < i) := by
          refine ⟨fun q => q.elim Or.inl (fun q => Or.inr ?_), fun q => q.elim Or.inl (fun q => Or.inr ?_)⟩
          · rw [Int32.lt_iff_toInt_lt, nI_toInt (by omega)] at q
            rw [Int32.lt_iff_toInt_lt, show (1 : Int32) = nI 1 from rfl, pk_sub_toInt (by omega) (by omega)]; omega
          · rw [Int32.lt_iff_toInt_lt, show (1 : Int32) = nI 1 from rfl, pk_sub_toInt (by omega) (by omega)] at q
            rw [Int32.lt_iff_toInt_lt, nI_toInt (by omega)]; omega
        by_cases w : i < 0 ∨ ¬ i < nI d
        · rw [if_pos w, if_pos (hr.mp w)]
        · rw [if_neg w, if_neg (fun q => w (hr.mpr q))]
theorem mPut_congr {R : MS} {so ln : Nat → Int32} (h : ShR R so ln) (s i : Int32) : mPut s i so ln = mPut s i R.1 R.2.1 := by
  unfold mPut
  by_cases h1 : s < 0 ∨ 3 < s
  · rw [if_pos h1, if_pos h1]
  · rw [if_neg h1, if_neg h1]
    obtain ⟨k, hk, rfl⟩ := nat_le (N := 3) (fun q => h1 (Or.inl q)) (fun q => h1 (Or.inr q)) (by decide)
    rw [show (nI k).toNatClampNeg = k from nI_clamp (by omega), (h k (by omega)).1, (h k (by omega)).2]
theorem ev_iff {s d n : Int32} : ((s < 0 ∨ ¬ s < 4) ∨ (d < 0 ∨ ¬ d < 40) ∨ n < 0 ∨ 40 - d < n) ↔ ((s < 0 ∨ 3 < s) ∨ (d < 0 ∨ 39 < d) ∨ (n < 0 ∨ 40 < n) ∨ 40 < d + n) := by
  simp only [Int32.lt_iff_toInt_lt, show (0 : Int32).toInt = 0 from by decide, show (3 : Int32).toInt = 3 from by decide, show (4 : Int32).toInt = 4 from by decide, show (39 : Int32).toInt = 39 from by decide, show (40 : Int32).toInt = 40 from by decide]
  by_cases hd : 0 ≤ d.toInt ∧ d.toInt < 40
  · have e1 : (40 - d).toInt = 40 - d.toInt := by
      rw [Int32.toInt_sub, show (40 : Int32).toInt = 40 from by decide]; apply Int.bmod_eq_of_le <;> omega
    rw [e1]
    by_cases hn : 0 ≤ n.toInt ∧ n.toInt ≤ 40
    · have e2 : (d + n).toInt = d.toInt + n.toInt := by
        rw [Int32.toInt_add]; apply Int.bmod_eq_of_le <;> omega
      rw [e2]; omega
    · omega
  · omega
theorem mEv_eq {S : MS} {a b c d e f g h : Int32} (H : ShC S a b c d e f g h) (HI : ShI S) (s i dd n : Int32) : mEvC s i dd n (v4 a b c d) (v4 e f g h) = mEv s i dd n S.1 S.2.1 := by
  unfold mEvC mEv
  by_cases w : (s < 0 ∨ ¬ s < 4) ∨ (dd < 0 ∨ ¬ dd < 40) ∨ n < 0 ∨ 40 - dd < n
  · rw [if_pos w, if_pos (ev_iff.mp w)]
  · have w2 := fun q => w (ev_iff.mpr q)
    rw [if_neg w, if_neg w2]
    have h1 : ¬ s < 0 := fun q => w2 (Or.inl (Or.inl q))
    have h2 : ¬ 3 < s := fun q => w2 (Or.inl (Or.inr q))
    have h5 : ¬ n < 0 := fun q => w2 (Or.inr (Or.inr (Or.inl (Or.inl q))))
    have h6 : ¬ 40 < n := fun q => w2 (Or.inr (Or.inr (Or.inl (Or.inr q))))
    obtain ⟨k, hk, rfl⟩ := nat_le (N := 3) h1 h2 (by decide)
    obtain ⟨m, hm, rfl⟩ := nat_le (N := 40) h5 h6 (by decide)
    rw [show (nI k).toNatClampNeg = k from nI_clamp (by omega)]
    obtain ⟨e1, e2⟩ := H.v4 (show k < 4 by omega)
    rw [e1, e2]
    obtain ⟨hi, d2, hd, hl⟩ := HI k (by omega)
    have hq : (S.1 k = -1) ↔ S.1 k < 0 := ⟨fun q => by rw [q]; decide, fun q => hi.elim id (fun w => absurd q w)⟩
    rw [hl]
    by_cases e : S.1 k = -1
    · rw [if_pos e, if_pos (hq.mp e)]
    · rw [if_neg e, if_neg (fun q => e (hq.mpr q))]
      by_cases e0 : S.1 k = 0
      · rw [if_neg (show ¬ ¬ S.1 k = 0 from fun q => q e0), if_neg (show ¬ ¬ S.1 k = 0 from fun q => q e0)]
        have hr : (i < 0 ∨ nI d2 < i ∨ nI d2 - i < nI m) ↔ (i < 0 ∨ nI d2 - nI m < i) := by
          simp only [Int32.lt_iff_toInt_lt, nI_toInt (show d2 < 2 ^ 31 by omega), nI_toInt (show m < 2 ^ 31 by omega), show (0 : Int32).toInt = 0 from by decide]
          have e3 : (nI d2 - nI m).toInt = (d2 : Int) - m := by
            rw [Int32.toInt_sub, nI_toInt (by omega), nI_toInt (by omega)]; apply Int.bmod_eq_of_le <;> omega
          rw [e3]
          by_cases hi2 : 0 ≤ i.toInt ∧ i.toInt ≤ d2
          · have e4 : (nI d2 - i).toInt = (d2 : Int) - i.toInt := by
              rw [Int32.toInt_sub, nI_toInt (by omega)]; apply Int.bmod_eq_of_le <;> omega
            rw [e4]; omega
          · omega
        by_cases w : i < 0 ∨ nI d2 < i ∨ nI d2 - i < nI m
        · rw [if_pos w, if_pos (hr.mp w)]
        · rw [if_neg w, if_neg (fun q => w (hr.mpr q))]
      · rw [if_pos e0, if_pos e0]
theorem mEv_congr {R : MS} {so ln : Nat → Int32} (h : ShR R so ln) (s i d n : Int32) : mEv s i d n so ln = mEv s i d n R.1 R.2.1 := by
  unfold mEv
  by_cases h1 : (s < 0 ∨ 3 < s) ∨ (d < 0 ∨ 39 < d) ∨ (n < 0 ∨ 40 < n) ∨ 40 < d + n
  · rw [if_pos h1, if_pos h1]
  · rw [if_neg h1, if_neg h1]
    obtain ⟨k, hk, rfl⟩ := nat_le (N := 3) (fun q => h1 (Or.inl (Or.inl q))) (fun q => h1 (Or.inl (Or.inr q))) (by decide)
    rw [show (nI k).toNatClampNeg = k from nI_clamp (by omega), (h k (by omega)).1, (h k (by omega)).2]
theorem ShR.sheet {R : MS} {so ln so' ln' : Nat → Int32} (h : ShR R so ln) {s t n : Int32} (h1 : ∀ j : Nat, j < 4 → so' j = mSo (mSheet s t n) s t j (so j)) (h2 : ∀ j : Nat, j < 4 → ln' j = mLn (mSheet s t n) s t n j (ln j)) : ShR (shS s t n R) so' ln' := fun j hj =>
  ⟨(h1 j hj).trans (congrArg (mSo (mSheet s t n) s t j) (h j hj).1), (h2 j hj).trans (congrArg (mLn (mSheet s t n) s t n j) (h j hj).2)⟩
theorem ShC.sheet {S : MS} {a b c d e f g h a' b' c' d' e' f' g' h' : Int32} (H : ShC S a b c d e f g h) {s t n : Int32} (h0 : a' = mSo (mSheet s t n) s t 0 a) (h1 : b' = mSo (mSheet s t n) s t 1 b) (h2 : c' = mSo (mSheet s t n) s t 2 c) (h3 : d' = mSo (mSheet s t n) s t 3 d) (k0 : e' = mLn (mSheet s t n) s t n 0 e) (k1 : f' = mLn (mSheet s t n) s t n 1 f) (k2 : g' = mLn (mSheet s t n) s t n 2 g) (k3 : h' = mLn (mSheet s t n) s t n 3 h) : ShC (shS s t n S) a' b' c' d' e' f' g' h' := by
  obtain ⟨⟨p0, p1, p2, p3⟩, q0, q1, q2, q3⟩ := H
  subst h0; subst h1; subst h2; subst h3; subst k0; subst k1; subst k2; subst k3
  exact ⟨⟨congrArg (mSo (mSheet s t n) s t 0) p0, congrArg (mSo (mSheet s t n) s t 1) p1, congrArg (mSo (mSheet s t n) s t 2) p2, congrArg (mSo (mSheet s t n) s t 3) p3⟩, congrArg (mLn (mSheet s t n) s t n 0) q0, congrArg (mLn (mSheet s t n) s t n 1) q1, congrArg (mLn (mSheet s t n) s t n 2) q2, congrArg (mLn (mSheet s t n) s t n 3) q3⟩
