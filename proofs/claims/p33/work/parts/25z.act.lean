/-! acts: what they answer, whether they have parted, their bodies as a list (not yet tried) -/
abbrev MT : Type := MA × Nat
def tPush (b : Int32) (T : MT) : MT := if T.2 < 30 then (upd T.1 T.2 b, T.2 + 1) else T
def tPs : List Int32 → MT → MT
  | [], T => T
  | b :: L, T => tPs L (tPush b T)
theorem tPs_app : ∀ (L M : List Int32) (T : MT), tPs (L ++ M) T = tPs M (tPs L T)
  | [], _, _ => rfl
  | b :: L, M, T => tPs_app L M (tPush b T)
/-- two traces that agree as far as they go -/
def TrA (T T2 : MT) : Prop := T.2 = T2.2 ∧ ∀ j : Nat, j < T.2 → T2.1 j = T.1 j
theorem TrA.push {T T2 : MT} (h : TrA T T2) (b : Int32) : TrA (tPush b T) (tPush b T2) := by
  obtain ⟨e, h⟩ := h
  unfold tPush
  by_cases q : T.2 < 30
  · rw [if_pos q, if_pos (by omega)]
    refine ⟨by show T.2 + 1 = T2.2 + 1; omega, fun j hj => ?_⟩
    show upd T2.1 T2.2 b j = upd T.1 T.2 b j
    have hj2 : j < T.2 + 1 := hj
    by_cases w : j = T.2
    · rw [← e, w, upd_is, upd_is]
    · rw [upd_ne _ _ (by omega), upd_ne _ _ w]; exact h j (by omega)
  · rw [if_neg q, if_neg (by omega)]; exact ⟨e, h⟩
theorem TrA.pushes : ∀ (L : List Int32) {T T2 : MT}, TrA T T2 → TrA (tPs L T) (tPs L T2)
  | [], _, _, h => h
  | b :: L, _, _, h => TrA.pushes L (h.push b)
theorem TrA_0 {f g : MA} : TrA (f, 0) (g, 0) := ⟨rfl, fun j hj => absurd hj (Nat.not_lt_zero j)⟩
theorem tPs_le : ∀ (L : List Int32) {T : MT}, T.2 ≤ 30 → (tPs L T).2 ≤ 30
  | [], _, h => h
  | b :: L, T, h => tPs_le L (by
    unfold tPush
    by_cases q : T.2 < 30
    · rw [if_pos q]; exact q
    · rw [if_neg q]; exact h)
/-- what trace(i) answers -/
def aTrace (i : Int32) (T : MT) : Int32 := if ¬ i < 0 ∧ ¬ nI T.2 - 1 < i then T.1 i.toNatClampNeg else -3
theorem trace_no {T : MT} {f : MA} {b : Nat} {i : Int32} (H : TrA T (f, b)) (h : ¬ (¬ i < 0 ∧ ¬ nI b - 1 < i)) : -3 = aTrace i T := by
  have e : T.2 = b := H.1
  unfold aTrace; rw [if_neg (by rw [e]; exact h)]
theorem trace_ok {T : MT} {f : MA} {b k : Nat} (H : TrA T (f, b)) (hk : k < b) (hb : b ≤ 30) : f k = aTrace (nI k) T := by
  have e : T.2 = b := H.1
  have hl : ¬ nI b - 1 < nI k := by
    rw [Int32.lt_iff_toInt_lt, show (1 : Int32) = nI 1 from rfl, pk_sub_toInt (by omega) (by omega), nI_toInt (by omega)]; omega
  unfold aTrace; rw [if_pos ⟨nI_pos (by omega), by rw [e]; exact hl⟩, nI_clamp (by omega)]
  exact H.2 k (by omega)
abbrev MV : Type := Int32 × Int32 × List Int32
def vRun (q : MV) (T : MT) : Int32 × Int32 × MT := (q.1, q.2.1, tPs q.2.2 T)
def vPre (b : Int32) (q : MV) : MV := (q.1, q.2.1, b :: q.2.2)
def vMap (f : Int32 → Int32) (q : MV) : MV := (f q.1, q.2.1, q.2.2)
def vAdd (q : MV) (f : Int32 → MV) : MV := (q.1 + (f q.2.1).1, (f q.2.1).2.1, q.2.2 ++ (f q.2.1).2.2)
theorem vRun_pre {b : Int32} {q : MV} {T : MT} : vRun (vPre b q) T = vRun q (tPush b T) := rfl
theorem vRun_map {q : MV} {T T1 : MT} {r p : Int32} (f : Int32 → Int32) (h : (r, p, T1) = vRun q T) : (f r, p, T1) = vRun (vMap f q) T := by
  have h1 : r = q.1 := congrArg Prod.fst h
  have h2 : p = q.2.1 := congrArg (fun x => x.2.1) h
  have h3 : T1 = tPs q.2.2 T := congrArg (fun x => x.2.2) h
  rw [h1, h2, h3]; rfl
theorem vRun_add {q : MV} {f : Int32 → MV} {T T1 T2 : MT} {r1 p1 r2 p2 : Int32} (h : (r1, p1, T1) = vRun q T) (h2 : (r2, p2, T2) = vRun (f p1) T1) : (r1 + r2, p2, T2) = vRun (vAdd q f) T := by
  have a1 : r1 = q.1 := congrArg Prod.fst h
  have a2 : p1 = q.2.1 := congrArg (fun x => x.2.1) h
  have a3 : T1 = tPs q.2.2 T := congrArg (fun x => x.2.2) h
  subst a1; subst a2; subst a3
  have b1 : r2 = (f q.2.1).1 := congrArg Prod.fst h2
  have b2 : p2 = (f q.2.1).2.1 := congrArg (fun x => x.2.1) h2
  have b3 : T2 = tPs (f q.2.1).2.2 (tPs q.2.2 T) := congrArg (fun x => x.2.2) h2
  subst b1; subst b2; subst b3
  show _ = (_, _, tPs (q.2.2 ++ (f q.2.1).2.2) T)
  rw [tPs_app]; rfl
/-- the body of act a that kind f has, or takes from above: s steps -/
def mBW (a : Int32) : Nat → Int32 → Int32
  | 0, _ => 0
  | s + 1, f => if ¬ f < 0 ∧ f < 6 then (if (¬ f * 4 + a < 0 ∧ f * 4 + a < 24) ∧ ¬ tb_bodies (f * 4 + a).toNatClampNeg = 0 then tb_bodies (f * 4 + a).toNatClampNeg else mBW a s (tb_above f.toNatClampNeg)) else 0
theorem mBW_s {a f : Int32} {s : Nat} : mBW a (s + 1) f = if ¬ f < 0 ∧ f < 6 then (if (¬ f * 4 + a < 0 ∧ f * 4 + a < 24) ∧ ¬ tb_bodies (f * 4 + a).toNatClampNeg = 0 then tb_bodies (f * 4 + a).toNatClampNeg else mBW a s (tb_above f.toNatClampNeg)) else 0 := rfl
section BW
variable {a f0 f : Int32} {c k m : Nat}
abbrev BwH (a f0 f : Int32) (c : Nat) : Prop := ∃ s : Nat, s + c = 3 ∧ mBW a s f = mBW a 3 f0
theorem BwH_0 : BwH a f0 f0 0 := ⟨3, rfl, rfl⟩
theorem bw_k (hk : k < 6) : (¬ nI k < 0 ∧ nI k < 6) ∧ nI k * 4 = nI (k * 4) ∧ (nI k).toNatClampNeg = k := ⟨⟨nI_pos (by omega), nI_lt (b := 6) hk (by decide)⟩, pk_mul k 4, nI_clamp (by omega)⟩
theorem BwH_s (H : BwH a f0 (nI k) c) (hc : ¬ 3 ≤ c) (hk : k < 6) (h : nI (k * 4) + a < 0 ∨ 24 ≤ nI (k * 4) + a ∨ (∃ m : Nat, m < 24 ∧ nI (k * 4) + a = nI m ∧ tb_bodies m = 0)) : BwH a f0 (tb_above k) (c + 1) := by
  obtain ⟨s, hs, e⟩ := H
  obtain ⟨t, rfl⟩ : ∃ t, s = t + 1 := ⟨s - 1, by omega⟩
  obtain ⟨b1, b2, b3⟩ := bw_k hk
  refine ⟨t, by omega, ?_⟩
  rw [← e, mBW_s, if_pos b1, b2, b3, if_neg]
  intro q
  rcases h with w | w | ⟨m, hm, w, w2⟩
  · exact q.1.1 w
  · exact absurd q.1.2 (Int32.not_lt.mpr w)
  · apply q.2
    rw [w, nI_clamp (by omega)]; exact w2
theorem BwH_f (H : BwH a f0 (nI k) c) (hc : ¬ 3 ≤ c) (hk : k < 6) (hm : m < 24) (he : nI (k * 4) + a = nI m) (h : ¬ tb_bodies m = 0) : tb_bodies m = mBW a 3 f0 := by
  obtain ⟨s, hs, e⟩ := H
  obtain ⟨t, rfl⟩ : ∃ t, s = t + 1 := ⟨s - 1, by omega⟩
  obtain ⟨b1, b2, b3⟩ := bw_k hk
  rw [← e]
  unfold mBW
  rw [if_pos b1, b2, he, nI_clamp (by omega), if_pos ⟨⟨nI_pos (by omega), nI_lt (b := 24) hm (by decide)⟩, h⟩]
theorem BwH_n (H : BwH a f0 f c) (h : 3 ≤ c ∨ ¬ (¬ f < 0 ∧ f < 6)) : 0 = mBW a 3 f0 := by
  obtain ⟨s, hs, e⟩ := H
  rw [← e]
  rcases h with w | w
  · rw [show s = 0 by omega]; rfl
  · cases s with
    | zero => rfl
    | succ t => unfold mBW; rw [if_neg w]
end BW
/-- the class's bodies; A: an act from a kind on -/
def tBody (A : Int32 → Int32 → Int32 → Int32 → MV) (k n a b x p : Int32) : MV :=
  if b = 10 then (x + n, p, [])
  else if b = 11 then vMap (fun v => v * 2) (A 0 k x p)
  else if b = 12 then (if a - n = 0 then 0 else x / (a - n), if a - n = 0 then 1 else p, [])
  else if b = 13 then vMap (fun v => v ^^^ a) (A 1 k x p)
  else if b = 20 then vMap (fun v => v - a) (A 1 (tb_above 1) x p)
  else if b = 30 then vMap (fun v => v * 3) (A 0 (tb_above 2) x p)
  else if b = 31 then vAdd (A 3 (tb_above 2) x p) (fun p => A 2 k n p)
  else if b = 40 then vMap (fun v => 0 - v) (A 0 (tb_above 5) x p)
  else if b = 41 then vAdd (A 1 (tb_above 5) x p) (fun p => A 0 k n p)
  else if b = 50 then vMap (fun v => v ^^^ 1) (A 2 (tb_above 4) (x + 2) p)
  else if b = 51 then vMap (fun v => v - n) (A 0 (tb_above 4) x p)
  else if b = 60 then vMap (fun v => v * 2) (A 3 (tb_above 3) x p)
  else if b = 61 then vAdd (A 2 (tb_above 3) x p) (fun p => A 0 k a p)
  else (0, p, [])
def tAct (k n a : Int32) : Nat → Int32 → Int32 → Int32 → Int32 → MV
  | 0, _, _, _, p => (0, p, [])
  | j + 1, act, f, x, p => if ¬ p = 0 then (0, p, []) else vPre (mBW act 3 f) (tBody (tAct k n a j) k n a (mBW act 3 f) x p)
theorem tAct_p {k n a act f x p : Int32} {T : MT} (h : ¬ p = 0) : ∀ j : Nat, ((0, p, T) : Int32 × Int32 × MT) = vRun (tAct k n a j act f x p) T
  | 0 => rfl
  | j + 1 => by unfold tAct; rw [if_pos h]; rfl
theorem tAct_0 {k n a act f x p : Int32} {T : MT} {d : Nat} (hd : ¬ d ≤ 30) (hd2 : d ≤ 31) : ((0, p, T) : Int32 × Int32 × MT) = vRun (tAct k n a (31 - d) act f x p) T := by
  rw [show 31 - d = 0 by omega]; rfl
theorem tAct_s {k n a act f x p r q : Int32} {T T1 T2 : MT} {d : Nat} (hd : d ≤ 30) (h : p = 0) (hP : T1 = tPush (mBW act 3 f) T) (hf : (r, q, T2) = vRun (tBody (tAct k n a (31 - (d + 1))) k n a (mBW act 3 f) x p) T1) : (r, q, T2) = vRun (tAct k n a (31 - d) act f x p) T := by
  rw [show 31 - d = (31 - (d + 1)) + 1 by omega]
  unfold tAct
  rw [if_neg (fun e => e h), vRun_pre, ← hP]; exact hf
theorem tPush_n {b : Int32} {tc : MA} {rn : Nat} (h : 30 ≤ rn) : ((tc, rn) : MT) = tPush b (tc, rn) := by
  unfold tPush; rw [if_neg (show ¬ rn < 30 by omega)]
theorem tPush_y {b : Int32} {tc : MA} {rn : Nat} (h : ¬ 30 ≤ rn) : ((upd tc rn b, rn + 1) : MT) = tPush b (tc, rn) := by
  unfold tPush; rw [if_pos (show rn < 30 by omega)]
section TB
variable {A : Int32 → Int32 → Int32 → Int32 → MV} {k n a x p : Int32}
theorem tb_10 : tBody A k n a 10 x p = (x + n, p, []) := rfl
theorem tb_11 : tBody A k n a 11 x p = vMap (fun v => v * 2) (A 0 k x p) := rfl
theorem tb_12 : tBody A k n a 12 x p = (if a - n = 0 then 0 else x / (a - n), if a - n = 0 then 1 else p, []) := rfl
theorem tb_13 : tBody A k n a 13 x p = vMap (fun v => v ^^^ a) (A 1 k x p) := rfl
theorem tb_20 : tBody A k n a 20 x p = vMap (fun v => v - a) (A 1 (tb_above 1) x p) := rfl
theorem tb_30 : tBody A k n a 30 x p = vMap (fun v => v * 3) (A 0 (tb_above 2) x p) := rfl
theorem tb_31 : tBody A k n a 31 x p = vAdd (A 3 (tb_above 2) x p) (fun p => A 2 k n p) := rfl
theorem tb_40 : tBody A k n a 40 x p = vMap (fun v => 0 - v) (A 0 (tb_above 5) x p) := rfl
theorem tb_41 : tBody A k n a 41 x p = vAdd (A 1 (tb_above 5) x p) (fun p => A 0 k n p) := rfl
theorem tb_50 : tBody A k n a 50 x p = vMap (fun v => v ^^^ 1) (A 2 (tb_above 4) (x + 2) p) := rfl
theorem tb_51 : tBody A k n a 51 x p = vMap (fun v => v - n) (A 0 (tb_above 4) x p) := rfl
theorem tb_60 : tBody A k n a 60 x p = vMap (fun v => v * 2) (A 3 (tb_above 3) x p) := rfl
theorem tb_61 : tBody A k n a 61 x p = vAdd (A 2 (tb_above 3) x p) (fun p => A 0 k a p) := rfl
theorem tb_no {b : Int32} (h10 : ¬ b = 10) (h11 : ¬ b = 11) (h12 : ¬ b = 12) (h13 : ¬ b = 13) (h20 : ¬ b = 20) (h30 : ¬ b = 30) (h31 : ¬ b = 31) (h40 : ¬ b = 40) (h41 : ¬ b = 41) (h50 : ¬ b = 50) (h51 : ¬ b = 51) (h60 : ¬ b = 60) (h61 : ¬ b = 61) : tBody A k n a b x p = (0, p, []) := by
  unfold tBody
  rw [if_neg h10, if_neg h11, if_neg h12, if_neg h13, if_neg h20, if_neg h30, if_neg h31, if_neg h40, if_neg h41, if_neg h50, if_neg h51, if_neg h60, if_neg h61]
end TB
theorem sub_0 {a b : Int32} : (a - b = 0) = (a = b) := propext ⟨fun h => by
  have e : a - b + b = 0 + b := by rw [h]
  rw [Int32.sub_add_cancel, Int32.zero_add] at e; exact e, fun h => by rw [h, Int32.sub_self]⟩
/-- the reference's acts -/
def rPK (nb x p : Int32) : MV := vPre 10 (x + nb, p, [])
def rIK (nb x p : Int32) : MV := vPre 30 (vMap (fun v => v * 3) (rPK nb x p))
def rKn (k nb x p : Int32) : MV := if k = 2 then rIK nb x p else if k = 5 then vPre 40 (vMap (fun v => 0 - v) (rIK nb x p)) else if k = 4 then vPre 51 (vMap (fun v => v - nb) (rPK nb x p)) else rPK nb x p
def rPC (k nb x p : Int32) : MV := vPre 11 (vMap (fun v => v * 2) (rKn k nb x p))
def rCr (k nb ow x p : Int32) : MV := if k = 1 ∨ k = 4 then vPre 20 (vMap (fun v => v - ow) (rPC k nb x p)) else if k = 5 then vPre 41 (vAdd (rPC k nb x p) (fun p => rKn k nb nb p)) else rPC k nb x p
def rPS (nb ow x p : Int32) : MV := vPre 12 (if ow = nb then (0, 1, []) else (x / (ow - nb), p, []))
def rSh (k nb ow x p : Int32) : MV := if k = 4 then vPre 50 (vMap (fun v => v ^^^ 1) (rPS nb ow (x + 2) p)) else if k = 3 then vPre 61 (if ¬ (rPS nb ow x p).2.1 = 0 then (0, (rPS nb ow x p).2.1, (rPS nb ow x p).2.2) else vAdd (rPS nb ow x p) (fun p => rKn k nb ow p)) else rPS nb ow x p
def rPT (k nb ow x p : Int32) : MV := vPre 13 (vMap (fun v => v ^^^ ow) (rCr k nb ow x p))
def rTe (k nb ow x p : Int32) : MV := if k = 2 ∨ k = 5 then vPre 31 (vAdd (rPT k nb ow x p) (fun p => rSh k nb ow nb p)) else if k = 3 then vPre 60 (vMap (fun v => v * 2) (rPT k nb ow x p)) else rPT k nb ow x p
def rAct (k nb ow act x : Int32) : MV := if act = 0 then rKn k nb x 0 else if act = 1 then rCr k nb ow x 0 else if act = 2 then rSh k nb ow x 0 else rTe k nb ow x 0
theorem vRun_pr {b : Int32} {q : MV} {T T1 : MT} {R : Int32 × Int32 × MT} (hp : T1 = tPush b T) (h : R = vRun q T1) : R = vRun (vPre b q) T := by rw [h, hp]; rfl
section RA
variable {k nb ow x p : Int32}
theorem rKn_2 (h : k = 2) : rKn k nb x p = rIK nb x p := by unfold rKn; rw [if_pos h]
theorem rKn_5 (h : k = 5) : rKn k nb x p = vPre 40 (vMap (fun v => 0 - v) (rIK nb x p)) := by
  subst h; unfold rKn; rw [if_neg (by decide), if_pos rfl]
theorem rKn_4 (h : k = 4) : rKn k nb x p = vPre 51 (vMap (fun v => v - nb) (rPK nb x p)) := by
  subst h; unfold rKn; rw [if_neg (by decide), if_neg (by decide), if_pos rfl]
theorem rKn_o (h2 : ¬ k = 2) (h5 : ¬ k = 5) (h4 : ¬ k = 4) : rKn k nb x p = rPK nb x p := by
  unfold rKn; rw [if_neg h2, if_neg h5, if_neg h4]
theorem rCr_1 (h : k = 1 ∨ k = 4) : rCr k nb ow x p = vPre 20 (vMap (fun v => v - ow) (rPC k nb x p)) := by unfold rCr; rw [if_pos h]
theorem rCr_5 (h : k = 5) : rCr k nb ow x p = vPre 41 (vAdd (rPC k nb x p) (fun p => rKn k nb nb p)) := by
  subst h; unfold rCr; rw [if_neg (by decide), if_pos rfl]
theorem rCr_o (h1 : ¬ k = 1) (h4 : ¬ k = 4) (h5 : ¬ k = 5) : rCr k nb ow x p = rPC k nb x p := by
  unfold rCr; rw [if_neg (fun q => q.elim h1 h4), if_neg h5]
theorem rPS_y (h : ow = nb) : rPS nb ow x p = vPre 12 (0, 1, []) := by unfold rPS; rw [if_pos h]
theorem rPS_n (h : ¬ ow = nb) : rPS nb ow x p = vPre 12 (x / (ow - nb), p, []) := by unfold rPS; rw [if_neg h]
theorem rSh_4 (h : k = 4) : rSh k nb ow x p = vPre 50 (vMap (fun v => v ^^^ 1) (rPS nb ow (x + 2) p)) := by unfold rSh; rw [if_pos h]
theorem rSh_o (h4 : ¬ k = 4) (h3 : ¬ k = 3) : rSh k nb ow x p = rPS nb ow x p := by unfold rSh; rw [if_neg h4, if_neg h3]
theorem rSh_3p {T T1 T2 : MT} {v q : Int32} (h : k = 3) (hp : T1 = tPush 61 T) (hv : (v, q, T2) = vRun (rPS nb ow x p) T1) (hq : ¬ q = 0) : ((0, q, T2) : Int32 × Int32 × MT) = vRun (rSh k nb ow x p) T := by
  have a2 : q = (rPS nb ow x p).2.1 := congrArg (fun x => x.2.1) hv
  have a3 : T2 = tPs (rPS nb ow x p).2.2 T1 := congrArg (fun x => x.2.2) hv
  subst h
  unfold rSh
  rw [if_neg (by decide), if_pos rfl, if_pos (by rw [← a2]; exact hq), vRun_pre, ← hp, a3, a2]; rfl
theorem rSh_3n {T T1 T2 T3 : MT} {v q w q2 : Int32} (h : k = 3) (hp : T1 = tPush 61 T) (hv : (v, q, T2) = vRun (rPS nb ow x p) T1) (hq : q = 0) (hw : (w, q2, T3) = vRun (rKn k nb ow q) T2) : (v + w, q2, T3) = vRun (rSh k nb ow x p) T := by
  have a2 : q = (rPS nb ow x p).2.1 := congrArg (fun x => x.2.1) hv
  subst h
  unfold rSh
  rw [if_neg (by decide), if_pos rfl, if_neg (by rw [← a2]; exact fun z => z hq), vRun_pre, ← hp]
  exact vRun_add (f := fun p => rKn 3 nb ow p) hv hw
theorem rTe_2 (h : k = 2 ∨ k = 5) : rTe k nb ow x p = vPre 31 (vAdd (rPT k nb ow x p) (fun p => rSh k nb ow nb p)) := by unfold rTe; rw [if_pos h]
theorem rTe_3 (h : k = 3) : rTe k nb ow x p = vPre 60 (vMap (fun v => v * 2) (rPT k nb ow x p)) := by
  subst h; unfold rTe; rw [if_neg (by decide), if_pos rfl]
theorem rTe_o (h2 : ¬ k = 2) (h5 : ¬ k = 5) (h3 : ¬ k = 3) : rTe k nb ow x p = rPT k nb ow x p := by
  unfold rTe; rw [if_neg (fun q => q.elim h2 h5), if_neg h3]
end RA
/-- what act() answers of a run -/
def vAns (q : MV) : Int32 := if ¬ q.2.1 = 0 then -15 else q.1
theorem vAns_y {q : MV} {T T1 : MT} {r p : Int32} (h : (r, p, T1) = vRun q T) (hp : ¬ p = 0) : ((-15, T1) : Int32 × MT) = (vAns q, tPs q.2.2 T) := by
  have a2 : p = q.2.1 := congrArg (fun x => x.2.1) h
  have a3 : T1 = tPs q.2.2 T := congrArg (fun x => x.2.2) h
  unfold vAns
  rw [if_pos (show ¬ q.2.1 = 0 from by rw [← a2]; exact hp), a3]
theorem vAns_n {q : MV} {T T1 : MT} {r p : Int32} (h : (r, p, T1) = vRun q T) (hp : p = 0) : ((r, T1) : Int32 × MT) = (vAns q, tPs q.2.2 T) := by
  have a1 : r = q.1 := congrArg Prod.fst h
  have a2 : p = q.2.1 := congrArg (fun x => x.2.1) h
  have a3 : T1 = tPs q.2.2 T := congrArg (fun x => x.2.2) h
  unfold vAns
  rw [if_neg (show ¬ ¬ q.2.1 = 0 from fun z => z (a2.symm.trans hp)), a1, a3]
section AE
variable {k n a x : Int32} {j : Nat}
theorem tAct_1 {act f b : Int32} (hb : mBW act 3 f = b) : tAct k n a (j + 1) act f x 0 = vPre b (tBody (tAct k n a j) k n a b x 0) := by
  rw [← hb]
  show (if ¬ (0 : Int32) = 0 then _ else _) = _
  rw [if_neg (fun e => e rfl)]
theorem vAdd_cg {q : MV} {f g : Int32 → MV} (h : f q.2.1 = g q.2.1) : vAdd q f = vAdd q g := by unfold vAdd; rw [h]
theorem rKn_p {nb p : Int32} : (rKn k nb x p).2.1 = p := by
  unfold rKn
  split
  · rfl
  · split
    · rfl
    · split <;> rfl
theorem rPC_p {nb p : Int32} : (rPC k nb x p).2.1 = p := rKn_p
theorem rCr_p {nb ow p : Int32} : (rCr k nb ow x p).2.1 = p := by
  unfold rCr
  split
  · exact rPC_p
  · split
    · exact rKn_p.trans rPC_p
    · exact rPC_p
theorem K_10 {f : Int32} (hb : mBW 0 3 f = 10) : tAct k n a (j + 1) 0 f x 0 = rPK n x 0 := by rw [tAct_1 hb, tb_10]; rfl
theorem K_30 {f : Int32} (hb : mBW 0 3 f = 30) : tAct k n a (j + 2) 0 f x 0 = rIK n x 0 := by
  rw [tAct_1 hb, tb_30, K_10 (by decide)]; rfl
theorem K_all : ∀ k : Nat, k < 6 → tAct (nI k) n a (j + 3) 0 (nI k) x 0 = rKn (nI k) n x 0 := by
  intro k hk
  rcases (show k = 0 ∨ k = 1 ∨ k = 2 ∨ k = 3 ∨ k = 4 ∨ k = 5 from by omega) with rfl | rfl | rfl | rfl | rfl | rfl
  · exact (K_10 (by decide)).trans (rKn_o (by decide) (by decide) (by decide)).symm
  · exact (K_10 (by decide)).trans (rKn_o (by decide) (by decide) (by decide)).symm
  · exact (K_30 (by decide)).trans (rKn_2 (by decide)).symm
  · exact (K_10 (by decide)).trans (rKn_o (by decide) (by decide) (by decide)).symm
  · rw [tAct_1 (b := 51) (by decide), tb_51, K_10 (by decide), rKn_4 (by decide)]
  · rw [tAct_1 (b := 40) (by decide), tb_40, K_30 (by decide), rKn_5 (by decide)]
theorem C_11 {f : Int32} {k : Nat} (hk : k < 6) (hb : mBW 1 3 f = 11) : tAct (nI k) n a (j + 4) 1 f x 0 = rPC (nI k) n x 0 := by
  rw [tAct_1 hb, tb_11, K_all k hk]; rfl
theorem C_all : ∀ k : Nat, k < 6 → tAct (nI k) n a (j + 5) 1 (nI k) x 0 = rCr (nI k) n a x 0 := by
  intro k hk
  rcases (show k = 0 ∨ k = 1 ∨ k = 2 ∨ k = 3 ∨ k = 4 ∨ k = 5 from by omega) with rfl | rfl | rfl | rfl | rfl | rfl
  · exact (C_11 (j := j + 1) (by decide) (by decide)).trans (rCr_o (by decide) (by decide) (by decide)).symm
  · rw [tAct_1 (b := 20) (by decide), tb_20, C_11 (by decide) (by decide), rCr_1 (Or.inl (by decide))]
  · exact (C_11 (j := j + 1) (by decide) (by decide)).trans (rCr_o (by decide) (by decide) (by decide)).symm
  · exact (C_11 (j := j + 1) (by decide) (by decide)).trans (rCr_o (by decide) (by decide) (by decide)).symm
  · rw [tAct_1 (b := 20) (by decide), tb_20, C_11 (by decide) (by decide), rCr_1 (Or.inr (by decide))]
  · rw [tAct_1 (b := 41) (by decide), tb_41, C_11 (by decide) (by decide), rCr_5 (by decide)]
    refine congrArg (vPre 41) (vAdd_cg ?_)
    rw [rPC_p]; exact K_all (j := j + 1) 5 (by decide)
theorem S_12 {f : Int32} (hb : mBW 2 3 f = 12) : tAct k n a (j + 1) 2 f x 0 = rPS n a x 0 := by
  rw [tAct_1 hb, tb_12]
  by_cases h : a = n
  · rw [rPS_y h, if_pos (by rw [sub_0]; exact h), if_pos (by rw [sub_0]; exact h)]
  · rw [rPS_n h, if_neg (by rw [sub_0]; exact h), if_neg (by rw [sub_0]; exact h)]
theorem S_all : ∀ k : Nat, k < 6 → tAct (nI k) n a (j + 4) 2 (nI k) x 0 = rSh (nI k) n a x 0 := by
  intro k hk
  rcases (show k = 0 ∨ k = 1 ∨ k = 2 ∨ k = 3 ∨ k = 4 ∨ k = 5 from by omega) with rfl | rfl | rfl | rfl | rfl | rfl
  · exact (S_12 (by decide)).trans (rSh_o (by decide) (by decide)).symm
  · exact (S_12 (by decide)).trans (rSh_o (by decide) (by decide)).symm
  · exact (S_12 (by decide)).trans (rSh_o (by decide) (by decide)).symm
  · rw [tAct_1 (b := 61) (by decide), tb_61, S_12 (by decide)]
    unfold rSh
    rw [if_neg (show ¬ nI 3 = 4 by decide), if_pos (show nI 3 = 3 by decide)]
    refine congrArg (vPre 61) ?_
    by_cases h : a = n
    · rw [rPS_y h, if_pos (show ¬ (vPre 12 ((0, 1, []) : MV)).2.1 = 0 from (show ¬ (1 : Int32) = 0 by decide))]; rfl
    · rw [rPS_n h, if_neg (show ¬ ¬ (vPre 12 ((x / (a - n), 0, []) : MV)).2.1 = 0 from fun q => q rfl)]
      exact vAdd_cg (K_all (j := j) 3 (by decide))
  · rw [tAct_1 (b := 50) (by decide), tb_50, S_12 (by decide), rSh_4 (by decide)]
  · exact (S_12 (by decide)).trans (rSh_o (by decide) (by decide)).symm
theorem T_13 {f : Int32} {k : Nat} (hk : k < 6) (hb : mBW 3 3 f = 13) : tAct (nI k) n a (j + 6) 3 f x 0 = rPT (nI k) n a x 0 := by
  rw [tAct_1 hb, tb_13, C_all k hk]; rfl
theorem T_all : ∀ k : Nat, k < 6 → tAct (nI k) n a (j + 7) 3 (nI k) x 0 = rTe (nI k) n a x 0 := by
  intro k hk
  rcases (show k = 0 ∨ k = 1 ∨ k = 2 ∨ k = 3 ∨ k = 4 ∨ k = 5 from by omega) with rfl | rfl | rfl | rfl | rfl | rfl
  · exact (T_13 (j := j + 1) (by decide) (by decide)).trans (rTe_o (by decide) (by decide) (by decide)).symm
  · exact (T_13 (j := j + 1) (by decide) (by decide)).trans (rTe_o (by decide) (by decide) (by decide)).symm
  · rw [tAct_1 (b := 31) (by decide), tb_31, T_13 (by decide) (by decide), rTe_2 (Or.inl (by decide))]
    refine congrArg (vPre 31) (vAdd_cg ?_)
    rw [show (rPT (nI 2) n a x 0).2.1 = 0 from rCr_p]; exact S_all (j := j + 2) 2 (by decide)
  · rw [tAct_1 (b := 60) (by decide), tb_60, T_13 (by decide) (by decide), rTe_3 (by decide)]
  · exact (T_13 (j := j + 1) (by decide) (by decide)).trans (rTe_o (by decide) (by decide) (by decide)).symm
  · rw [tAct_1 (b := 31) (by decide), tb_31, T_13 (by decide) (by decide), rTe_2 (Or.inr (by decide))]
    refine congrArg (vPre 31) (vAdd_cg ?_)
    rw [show (rPT (nI 5) n a x 0).2.1 = 0 from rCr_p]; exact S_all (j := j + 2) 5 (by decide)
end AE
/-- the class's acts are the reference's -/
theorem act_eq {n a x : Int32} (k : Nat) (hk : k < 6) (act : Nat) (ha : act < 4) : tAct (nI k) n a 31 (nI act) (nI k) x 0 = rAct (nI k) n a (nI act) x := by
  rcases (show act = 0 ∨ act = 1 ∨ act = 2 ∨ act = 3 from by omega) with rfl | rfl | rfl | rfl
  · exact (K_all (j := 28) k hk).trans (by unfold rAct; rw [if_pos (by decide)])
  · exact (C_all (j := 26) k hk).trans (by unfold rAct; rw [if_neg (by decide), if_pos (by decide)])
  · exact (S_all (j := 27) k hk).trans (by unfold rAct; rw [if_neg (by decide), if_neg (by decide), if_pos (by decide)])
  · exact (T_all (j := 24) k hk).trans (by unfold rAct; rw [if_neg (by decide), if_neg (by decide), if_neg (by decide)])
