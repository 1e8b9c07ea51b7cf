/-! shelves: what lies on them, as the reference's rows tell it (held, its number or sort, its size); not yet tried -/
abbrev MH : Type := MA × MA × MA
def gShelf (r s w m : Int32) (so ln : MA) (H : MH) : MH := if r = 1 then (upd H.1 s.toNatClampNeg (if w = 2 ∨ (w = 1 ∧ so m.toNatClampNeg < 0) then -1 else w), upd H.2.1 s.toNatClampNeg (if w = 1 then so m.toNatClampNeg else m), upd H.2.2 s.toNatClampNeg (if w = 1 then ln m.toNatClampNeg else 0)) else H
/-- the class's shelves -/
def mHo (r s w m : Int32) (so : MA) (j : Nat) (o : Int32) : Int32 := if r = 1 ∧ s = nI j then (if w = 0 then 0 else if w = 1 ∧ ¬ so m.toNatClampNeg = -1 then 1 else 2) else o
def mNu (r s w m : Int32) (so ln : MA) (j : Nat) (o : Int32) : Int32 := if r = 1 ∧ s = nI j then (if w = 0 then m else if w = 1 ∧ ¬ so m.toNatClampNeg = -1 then ln m.toNatClampNeg else o) else o
def mSs (r s w m : Int32) (so : MA) (j : Nat) (o : Int32) : Int32 := if r = 1 ∧ s = nI j then (if w = 1 ∧ ¬ so m.toNatClampNeg = -1 then so m.toNatClampNeg else o) else o
def ShvC (H : MH) (hs nu ss : Nat → Int32) : Prop := ∀ j : Nat, j < 4 → (H.1 j = -1 ∧ hs j = 2) ∨ (H.1 j = 0 ∧ hs j = 0 ∧ nu j = H.2.1 j) ∨ (H.1 j = 1 ∧ hs j = 1 ∧ nu j = H.2.2 j ∧ ss j = H.2.1 j)
theorem ShvC.shelf {H : MH} {hs nu ss : Nat → Int32} (h : ShvC H hs nu ss) {r s w m : Int32} {n : Nat} {so ln : MA} (hso : ∀ j : Nat, j < 4 → so j = -1 ∨ ¬ so j < 0) (hr : r = mShC s w m n) : ShvC (gShelf r s w m so ln H) (fun j => mHo r s w m so j (hs j)) (fun j => mNu r s w m so ln j (nu j)) (fun j => mSs r s w m so j (ss j)) := fun j hj => by
  unfold gShelf mHo mNu mSs
  by_cases e : r = 1
  · rw [if_pos e]
    have hq : (¬ s < 0 ∧ s < 4) ∧ (w = 0 ∨ (w = 1 ∧ ¬ m < 0 ∧ m < 4) ∨ w = 2) := by
      rw [e] at hr
      unfold mShC at hr
      split at hr
      · exact absurd hr (by decide)
      · split at hr
        · exact absurd hr (by decide)
        · rename_i a b
          grind
    obtain ⟨⟨s0, s4⟩, hw⟩ := hq
    obtain ⟨k, hk, rfl⟩ := nat_lt3 (N := 4) s0 s4 (by decide)
    rw [nI_clamp (by omega)]
    by_cases q : j = k
    · subst q
      simp only [upd_is, e, true_and, if_true]
      rcases hw with rfl | ⟨rfl, m0, m4⟩ | rfl
      · refine Or.inr (Or.inl ?_)
        simp
      · obtain ⟨v, hv, rfl⟩ := nat_lt3 (N := 4) m0 m4 (by decide)
        rw [nI_clamp (by omega)]
        rcases hso v hv with z | z
        · refine Or.inl ?_
          simp [z]
        · refine Or.inr (Or.inr ?_)
          have z2 : ¬ so v = -1 := fun y => z (by rw [y]; decide)
          simp [z, z2]
      · refine Or.inl ?_
        simp
    · have q2 : ¬ (r = 1 ∧ nI k = nI j) := fun x => q ((nI_eq (by omega) (by omega)).mp x.2).symm
      simp only [if_neg q2]
      rw [upd_ne _ _ q, upd_ne _ _ q, upd_ne _ _ q]; exact h j hj
  · have q2 : ¬ (r = 1 ∧ s = nI j) := fun x => e x.1
    simp only [if_neg e, if_neg q2]; exact h j hj
/-! TAKEN -/
/-- the kind of the child on a shelf; -1: nothing, 9: a row -/
def kOn (hd hn ch : MA) (n s : Nat) : Int32 := if hd s = 0 then (if okNR (hn s) n then ch (4 * (hn s).toNatClampNeg + 0) else -1) else if hd s < 0 then -1 else 9
/-- whether kind f is a, or under it: s steps up -/
def mUd (a : Int32) : Nat → Int32 → Bool
  | 0, _ => false
  | s + 1, f => if ¬ f < 0 ∧ f < 6 then (if f = a then true else mUd a s (tb_above f.toNatClampNeg)) else false
theorem mUd_s {a f : Int32} {s : Nat} : mUd a (s + 1) f = if ¬ f < 0 ∧ f < 6 then (if f = a then true else mUd a s (tb_above f.toNatClampNeg)) else false := rfl
section UD
variable {a f0 f : Int32} {c k : Nat}
abbrev UdH (a f0 f : Int32) (c : Nat) : Prop := ∃ s : Nat, s + c = 3 ∧ mUd a s f = mUd a 3 f0
theorem UdH_0 : UdH a f0 f0 0 := ⟨3, rfl, rfl⟩
theorem UdH_s (H : UdH a f0 (nI k) c) (hc : ¬ 3 ≤ c) (hk : k < 6) (h : ¬ nI k = a) : UdH a f0 (tb_above k) (c + 1) := by
  obtain ⟨s, hs, e⟩ := H
  obtain ⟨t, rfl⟩ : ∃ t, s = t + 1 := ⟨s - 1, by omega⟩
  obtain ⟨b1, _, b3⟩ := bw_k hk
  refine ⟨t, by omega, ?_⟩
  rw [← e, mUd_s, if_pos b1, b3, if_neg h]
theorem UdH_y (H : UdH a f0 (nI k) c) (hc : ¬ 3 ≤ c) (hk : k < 6) (h : nI k = a) : (1 : Int32) = if mUd a 3 f0 = true then 1 else 0 := by
  obtain ⟨s, hs, e⟩ := H
  obtain ⟨t, rfl⟩ : ∃ t, s = t + 1 := ⟨s - 1, by omega⟩
  rw [← e]
  unfold mUd
  rw [if_pos (bw_k hk).1, if_pos h]; rfl
theorem UdH_n (H : UdH a f0 f c) (h : 3 ≤ c ∨ ¬ (¬ f < 0 ∧ f < 6)) : (0 : Int32) = if mUd a 3 f0 = true then 1 else 0 := by
  obtain ⟨s, hs, e⟩ := H
  rw [← e]
  rcases h with w | w
  · rw [show s = 0 by omega]; rfl
  · cases s with
    | zero => rfl
    | succ t => unfold mUd; rw [if_neg w]; rfl
end UD
abbrev uR (k a : Int32) : Prop := a = 0 ∨ a = k ∨ (a = 1 ∧ k = 4) ∨ (a = 2 ∧ k = 5)
theorem ud_eq : ∀ k : Nat, k < 6 → ∀ a : Nat, a < 6 → (mUd (nI a) 3 (nI k) = true ↔ uR (nI k) (nI a)) := by decide +kernel
def aTakC (s x : Int32) (G : MG) (hs nu ss : MA) : Int32 := if (s < 0 ∨ ¬ s < 4) ∨ (¬ (¬ x < 0 ∧ x < 6) ∧ ¬ (¬ x - 10 < 0 ∧ x - 10 < 4)) then -1 else if hs s.toNatClampNeg = 1 then (if ss s.toNatClampNeg = x - 10 then nu s.toNatClampNeg else -13) else if ¬ (hs s.toNatClampNeg = 0 ∧ okN (nu s.toNatClampNeg) (gN G)) then -11 else if (¬ x < 0 ∧ x < 6) ∧ mUd x 3 (gKd G (nu s.toNatClampNeg).toNatClampNeg) = true then nu s.toNatClampNeg else -13
def aTakR (s x : Int32) (hd hn hz ch : MA) (n : Nat) : Int32 := if (s < 0 ∨ 3 < s) ∨ (¬ (¬ x < 0 ∧ ¬ 5 < x) ∧ ¬ (¬ x < 10 ∧ ¬ 13 < x)) then -1 else if kOn hd hn ch n s.toNatClampNeg < 0 then -11 else if kOn hd hn ch n s.toNatClampNeg = 9 then (if x = 10 + hn s.toNatClampNeg then hz s.toNatClampNeg else -13) else if x < 10 ∧ uR (kOn hd hn ch n s.toNatClampNeg) x then hn s.toNatClampNeg else -13
/-! ACT, by the class's shelves -/
def qAct (s a x : Int32) (G : MG) (nu : MA) : MV := tAct (gKd G (nu s.toNatClampNeg).toNatClampNeg) (nu s.toNatClampNeg) (gKa G (nu s.toNatClampNeg).toNatClampNeg) 31 a (gKd G (nu s.toNatClampNeg).toNatClampNeg) x 0
abbrev okActC (s a : Int32) (n : Nat) (hs nu : MA) : Prop := (¬ s < 0 ∧ s < 4) ∧ (¬ a < 0 ∧ ¬ 4 ≤ a) ∧ hs s.toNatClampNeg = 0 ∧ okN (nu s.toNatClampNeg) n
def aActC (s a x : Int32) (G : MG) (hs nu : MA) : Int32 := if okActC s a (gN G) hs nu then vAns (qAct s a x G nu) else 0
def gActC (s a x : Int32) (G : MG) (hs nu tc : MA) : MT := if okActC s a (gN G) hs nu then tPs (qAct s a x G nu).2.2 (tc, 0) else (tc, 0)
theorem cg_act_no {s a x : Int32} {G : MG} {hs nu tc : MA} (h : ¬ okActC s a (gN G) hs nu) : ((0, (tc, 0)) : Int32 × MT) = (aActC s a x G hs nu, gActC s a x G hs nu tc) := by
  unfold aActC gActC
  rw [if_neg h, if_neg h]
theorem cg_act_ok {s a x r : Int32} {G : MG} {hs nu tc : MA} {T : MT} {c : Nat} (hok : okActC s a (gN G) hs nu) (hn : nu s.toNatClampNeg = nI c) (hc : c < 1000) (hf : ((r, T) : Int32 × MT) = (vAns (tAct (gKd G c) (nI c) (gKa G c) 31 a (gKd G c) x 0), tPs (tAct (gKd G c) (nI c) (gKa G c) 31 a (gKd G c) x 0).2.2 ((tc, 0) : MT))) : ((r, T) : Int32 × MT) = (aActC s a x G hs nu, gActC s a x G hs nu tc) := by
  unfold aActC gActC qAct
  rw [if_pos hok, if_pos hok, hn, nI_clamp (by omega)]; exact hf
/-! ACT, by the reference's shelves -/
abbrev okActR (s a : Int32) (hd hn ch : MA) (n : Nat) : Prop := (¬ s < 0 ∧ ¬ 3 < s) ∧ (¬ a < 0 ∧ ¬ 3 < a) ∧ ¬ kOn hd hn ch n s.toNatClampNeg < 0 ∧ ¬ 5 < kOn hd hn ch n s.toNatClampNeg
def qActR (s a x : Int32) (hd hn ch : MA) (n : Nat) : MV := rAct (kOn hd hn ch n s.toNatClampNeg) (hn s.toNatClampNeg) (ch (4 * (hn s.toNatClampNeg).toNatClampNeg + 1)) a x
def aActR (s a x : Int32) (hd hn ch : MA) (n : Nat) : Int32 := if okActR s a hd hn ch n then vAns (qActR s a x hd hn ch n) else 0
def gActR (s a x : Int32) (hd hn ch : MA) (n : Nat) (tr : MA) : MT := if okActR s a hd hn ch n then tPs (qActR s a x hd hn ch n).2.2 (tr, 0) else (tr, 0)
section RAC
variable {s a x r : Int32} {hd hn ch tr : MA} {n : Nat} {T : MT}
theorem ra_no (h : ¬ okActR s a hd hn ch n) : ((0, (tr, 0)) : Int32 × MT) = (aActR s a x hd hn ch n, gActR s a x hd hn ch n tr) := by
  unfold aActR gActR
  rw [if_neg h, if_neg h]
theorem ra_ok {k nb ow : Int32} (h : okActR s a hd hn ch n) (hk : k = kOn hd hn ch n s.toNatClampNeg) (hb : nb = hn s.toNatClampNeg) (ho : ow = ch (4 * (hn s.toNatClampNeg).toNatClampNeg + 1)) (hf : ((r, T) : Int32 × MT) = (vAns (rAct k nb ow a x), tPs (rAct k nb ow a x).2.2 ((tr, 0) : MT))) : ((r, T) : Int32 × MT) = (aActR s a x hd hn ch n, gActR s a x hd hn ch n tr) := by
  unfold aActR gActR qActR
  rw [if_pos h, if_pos h, ← ho, ← hk, ← hb]; exact hf
end RAC
section RAT
variable {k nb ow a x : Int32}
theorem rAct_0 (h : a = 0) : rAct k nb ow a x = rKn k nb x 0 := by unfold rAct; rw [if_pos h]
theorem rAct_1 (h : a = 1) : rAct k nb ow a x = rCr k nb ow x 0 := by subst h; unfold rAct; rw [if_neg (by decide), if_pos rfl]
theorem rAct_2 (h : a = 2) : rAct k nb ow a x = rSh k nb ow x 0 := by subst h; unfold rAct; rw [if_neg (by decide), if_neg (by decide), if_pos rfl]
theorem rAct_3 (h0 : ¬ a = 0) (h1 : ¬ a = 1) (h2 : ¬ a = 2) : rAct k nb ow a x = rTe k nb ow x 0 := by unfold rAct; rw [if_neg h0, if_neg h1, if_neg h2]
end RAT
section MSH
variable {r s w m o : Int32} {so ln : MA} {j : Nat}
theorem mHo_no (h : ¬ r = 1) : o = mHo r s w m so j o := by unfold mHo; rw [if_neg (fun q => h q.1)]
theorem mHo_ne (h : ¬ s = nI j) : o = mHo r s w m so j o := by unfold mHo; rw [if_neg (fun q => h q.2)]
theorem mNu_no (h : ¬ r = 1) : o = mNu r s w m so ln j o := by unfold mNu; rw [if_neg (fun q => h q.1)]
theorem mNu_ne (h : ¬ s = nI j) : o = mNu r s w m so ln j o := by unfold mNu; rw [if_neg (fun q => h q.2)]
theorem mSs_no (h : ¬ r = 1) : o = mSs r s w m so j o := by unfold mSs; rw [if_neg (fun q => h q.1)]
theorem mSs_ne (h : ¬ s = nI j) : o = mSs r s w m so j o := by unfold mSs; rw [if_neg (fun q => h q.2)]
theorem mHo_0 (h : w = 0) : 0 = mHo 1 (nI j) w m so j o := by unfold mHo; rw [if_pos ⟨rfl, rfl⟩, if_pos h]
theorem mNu_0 (h : w = 0) : m = mNu 1 (nI j) w m so ln j o := by unfold mNu; rw [if_pos ⟨rfl, rfl⟩, if_pos h]
theorem mSs_n (h : ¬ w = 1) : o = mSs 1 (nI j) w m so j o := by unfold mSs; rw [if_pos ⟨rfl, rfl⟩, if_neg (fun q => h q.1)]
theorem mHo_1 (h : w = 1) (hs : ¬ so m.toNatClampNeg = -1) : 1 = mHo 1 (nI j) w m so j o := by subst h; unfold mHo; rw [if_pos ⟨rfl, rfl⟩, if_neg (by decide), if_pos ⟨rfl, hs⟩]
theorem mNu_1 {v : Int32} (h : w = 1) (hs : ¬ so m.toNatClampNeg = -1) (hv : v = ln m.toNatClampNeg) : v = mNu 1 (nI j) w m so ln j o := by subst h; unfold mNu; rw [if_pos ⟨rfl, rfl⟩, if_neg (by decide), if_pos ⟨rfl, hs⟩]; exact hv
theorem mSs_1 {v : Int32} (h : w = 1) (hs : ¬ so m.toNatClampNeg = -1) (hv : v = so m.toNatClampNeg) : v = mSs 1 (nI j) w m so j o := by subst h; unfold mSs; rw [if_pos ⟨rfl, rfl⟩, if_pos ⟨rfl, hs⟩]; exact hv
theorem mHo_2 (h : ¬ w = 0) (hs : w = 1 → so m.toNatClampNeg = -1) : 2 = mHo 1 (nI j) w m so j o := by unfold mHo; rw [if_pos ⟨rfl, rfl⟩, if_neg h, if_neg (fun q => q.2 (hs q.1))]
theorem mNu_2 (h : ¬ w = 0) (hs : w = 1 → so m.toNatClampNeg = -1) : o = mNu 1 (nI j) w m so ln j o := by unfold mNu; rw [if_pos ⟨rfl, rfl⟩, if_neg h, if_neg (fun q => q.2 (hs q.1))]
theorem mSs_2 (hs : w = 1 → so m.toNatClampNeg = -1) : o = mSs 1 (nI j) w m so j o := by unfold mSs; rw [if_pos ⟨rfl, rfl⟩, if_neg (fun q => q.2 (hs q.1))]
end MSH
