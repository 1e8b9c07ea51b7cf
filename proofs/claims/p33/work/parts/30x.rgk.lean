/-! what is kept -/
theorem RG_cg {G : MG} {n : Nat} {ch row ev cr tr lw ch2 row2 ev2 cr2 tr2 lw2 : MA} {z z2 : Int32} (H : RG G n ch row ev cr tr lw z) (h1 : ∀ i, i < 32 → ch2 i = ch i) (h2 : ∀ i, i < 25 → row2 i = row i) (h3 : ∀ i, i < 40 → ev2 i = ev i) (h4 : ∀ i, i < 40 → cr2 i = cr i) (h5 : ∀ i, i < 40 → tr2 i = tr i) (h6 : ∀ i, i < 4 → lw2 i = lw i) (h7 : z2 = z) : RG G n ch2 row2 ev2 cr2 tr2 lw2 z2 := by
  have hn := H.n8
  obtain ⟨i, ⟨a, b, c⟩, ⟨c0, c1, c2, c3⟩, ⟨s0, s1, s2⟩, v1, v2, v3, v4⟩ := H
  exact ⟨i, ⟨a, (h2 0 (by decide)).trans b, h7.trans c⟩, ⟨fun j hj => (h1 _ (by omega)).trans (c0 j hj), fun j hj => (h1 _ (by omega)).trans (c1 j hj), fun j hj => (h1 _ (by omega)).trans (c2 j hj), fun j hj => (h1 _ (by omega)).trans (c3 j hj)⟩, ⟨fun j hj => (h2 _ (by omega)).trans (s0 j hj), fun j hj => (h2 _ (by omega)).trans (s1 j hj), fun j hj => (h2 _ (by omega)).trans (s2 j hj)⟩, fun j hj => (h3 j hj).trans (v1 j hj), fun j hj => (h4 j hj).trans (v2 j hj), fun j hj => (h5 j hj).trans (v3 j hj), fun j hj => (h6 j hj).trans (v4 j hj)⟩
/-- the row of all that is kept -/
def KpR (n : Nat) (z : Int32) (ch row ev cr tr lw kr : MA) : Prop := (kr 0 = nI n ∧ kr 1 = z) ∧ (∀ i, i < 32 → kr (2 + i) = ch i) ∧ (∀ i, i < 25 → kr (34 + i) = row i) ∧ (∀ i, i < 40 → kr (59 + i) = ev i) ∧ (∀ i, i < 40 → kr (99 + i) = cr i) ∧ (∀ i, i < 40 → kr (139 + i) = tr i) ∧ ∀ i, i < 4 → kr (179 + i) = lw i
def RK (K : MG) (kr : MA) : Prop := kr 0 = nI (gN K) ∧ RG K (gN K) (fun i => kr (2 + i)) (fun i => kr (34 + i)) (fun i => kr (59 + i)) (fun i => kr (99 + i)) (fun i => kr (139 + i)) (fun i => kr (179 + i)) (kr 1)
def gAgain (ik : Int32) (K G : MG) : MG := if ik = 0 then G else K
def aAgain (ik : Int32) (K : MG) : Int32 := if ik = 0 then -3 else nI (gTd K)
theorem ag_0 {ik : Int32} {K G : MG} (h : ik = 0) : G = gAgain ik K G ∧ -3 = aAgain ik K := ⟨(if_pos h).symm, (if_pos h).symm⟩
theorem ag_1 {ik : Int32} {K G : MG} (h : ¬ ik = 0) : K = gAgain ik K G ∧ nI (gTd K) = aAgain ik K := ⟨(if_neg h).symm, (if_neg h).symm⟩
theorem RK.of {G : MG} {n : Nat} {ch row ev cr tr lw kr : MA} {z : Int32} (H : RG G n ch row ev cr tr lw z) (h : KpR n z ch row ev cr tr lw kr) : RK G kr := by
  obtain ⟨⟨a, b⟩, h1, h2, h3, h4, h5, h6⟩ := h
  have e := H.2.1.1
  subst e
  exact ⟨a, RG_cg H h1 h2 h3 h4 h5 h6 b⟩
theorem mvK_in {kp : Int32} {mv k j : Nat} {f kr : MA} (h : ¬ kp = 0) (h1 : mv ≤ j) (h2 : j < mv + k) : mvK kp mv f kr k j = f (j - mv) := by unfold mvK; rw [if_pos ⟨h, h1, h2⟩]
theorem mvK_out {kp : Int32} {mv k j : Nat} {f kr : MA} (h : j < mv ∨ mv + k ≤ j) : mvK kp mv f kr k j = kr j := by unfold mvK; rw [if_neg (fun q => by have := q.2; omega)]
theorem mvF_in {kp : Int32} {mv k j : Nat} {f kr : MA} (h : kp = 0) (h1 : j < k) : mvF kp mv f kr k j = kr (mv + j) := by unfold mvF; rw [if_pos ⟨h, h1⟩]
theorem mv_all {kp : Int32} {n : Nat} {sg ch row ev cr tr lw kr : MA} {z : Int32} (h : ¬ kp = 0) (h0 : sg 0 = nI n) (h1 : sg 1 = z) : KpR n z ch row ev cr tr lw (mvK kp 179 lw (mvK kp 139 tr (mvK kp 99 cr (mvK kp 59 ev (mvK kp 34 row (mvK kp 2 ch (mvK kp 0 sg kr 2) 32) 25) 40) 40) 40) 4) := by
  refine ⟨⟨?_, ?_⟩, fun i hi => ?_, fun i hi => ?_, fun i hi => ?_, fun i hi => ?_, fun i hi => ?_, fun i hi => ?_⟩
  · rw [mvK_out (by omega), mvK_out (by omega), mvK_out (by omega), mvK_out (by omega), mvK_out (by omega), mvK_out (by omega), mvK_in h (by omega) (by omega)]; exact h0
  · rw [mvK_out (by omega), mvK_out (by omega), mvK_out (by omega), mvK_out (by omega), mvK_out (by omega), mvK_out (by omega), mvK_in h (by omega) (by omega)]; exact h1
  · rw [mvK_out (by omega), mvK_out (by omega), mvK_out (by omega), mvK_out (by omega), mvK_out (by omega), mvK_in h (by omega) (by omega), Nat.add_sub_cancel_left]
  · rw [mvK_out (by omega), mvK_out (by omega), mvK_out (by omega), mvK_out (by omega), mvK_in h (by omega) (by omega), Nat.add_sub_cancel_left]
  · rw [mvK_out (by omega), mvK_out (by omega), mvK_out (by omega), mvK_in h (by omega) (by omega), Nat.add_sub_cancel_left]
  · rw [mvK_out (by omega), mvK_out (by omega), mvK_in h (by omega) (by omega), Nat.add_sub_cancel_left]
  · rw [mvK_out (by omega), mvK_in h (by omega) (by omega), Nat.add_sub_cancel_left]
  · rw [mvK_in h (by omega) (by omega), Nat.add_sub_cancel_left]
def MvY (kp : Int32) (n : Nat) (z : Int32) (ch row ev cr tr lw kr2 ch2 row2 ev2 cr2 tr2 lw2 : MA) : Prop := ¬ kp = 0 → KpR n z ch row ev cr tr lw kr2 ∧ ch2 = ch ∧ row2 = row ∧ ev2 = ev ∧ cr2 = cr ∧ tr2 = tr ∧ lw2 = lw
def MvN (kp : Int32) (kr kr2 sg2 ch2 row2 ev2 cr2 tr2 lw2 : MA) : Prop := kp = 0 → kr2 = kr ∧ sg2 1 = kr 1 ∧ (∀ i, i < 32 → ch2 i = kr (2 + i)) ∧ (∀ i, i < 25 → row2 i = kr (34 + i)) ∧ (∀ i, i < 40 → ev2 i = kr (59 + i)) ∧ (∀ i, i < 40 → cr2 i = kr (99 + i)) ∧ (∀ i, i < 40 → tr2 i = kr (139 + i)) ∧ ∀ i, i < 4 → lw2 i = kr (179 + i)
section MV
variable {kp z ik : Int32} {n : Nat} {sg ch row ev cr tr lw kr kr2 sg2 ch2 row2 ev2 cr2 tr2 lw2 : MA} {G K : MG}
theorem mvY_is (h0 : sg 0 = nI n) (h1 : sg 1 = z) : MvY kp n z ch row ev cr tr lw (mvK kp 179 lw (mvK kp 139 tr (mvK kp 99 cr (mvK kp 59 ev (mvK kp 34 row (mvK kp 2 ch (mvK kp 0 sg kr 2) 32) 25) 40) 40) 40) 4) (mvF kp 2 ch (mvK kp 0 sg kr 2) 32) (mvF kp 34 row (mvK kp 2 ch (mvK kp 0 sg kr 2) 32) 25) (mvF kp 59 ev (mvK kp 34 row (mvK kp 2 ch (mvK kp 0 sg kr 2) 32) 25) 40) (mvF kp 99 cr (mvK kp 59 ev (mvK kp 34 row (mvK kp 2 ch (mvK kp 0 sg kr 2) 32) 25) 40) 40) (mvF kp 139 tr (mvK kp 99 cr (mvK kp 59 ev (mvK kp 34 row (mvK kp 2 ch (mvK kp 0 sg kr 2) 32) 25) 40) 40) 40) (mvF kp 179 lw (mvK kp 139 tr (mvK kp 99 cr (mvK kp 59 ev (mvK kp 34 row (mvK kp 2 ch (mvK kp 0 sg kr 2) 32) 25) 40) 40) 40) 4) := fun h =>
  ⟨mv_all h h0 h1, mvF_k h, mvF_k h, mvF_k h, mvF_k h, mvF_k h, mvF_k h⟩
theorem mvN_is : MvN kp kr (mvK kp 179 lw (mvK kp 139 tr (mvK kp 99 cr (mvK kp 59 ev (mvK kp 34 row (mvK kp 2 ch (mvK kp 0 sg kr 2) 32) 25) 40) 40) 40) 4) (mvF kp 0 sg kr 2) (mvF kp 2 ch (mvK kp 0 sg kr 2) 32) (mvF kp 34 row (mvK kp 2 ch (mvK kp 0 sg kr 2) 32) 25) (mvF kp 59 ev (mvK kp 34 row (mvK kp 2 ch (mvK kp 0 sg kr 2) 32) 25) 40) (mvF kp 99 cr (mvK kp 59 ev (mvK kp 34 row (mvK kp 2 ch (mvK kp 0 sg kr 2) 32) 25) 40) 40) (mvF kp 139 tr (mvK kp 99 cr (mvK kp 59 ev (mvK kp 34 row (mvK kp 2 ch (mvK kp 0 sg kr 2) 32) 25) 40) 40) 40) (mvF kp 179 lw (mvK kp 139 tr (mvK kp 99 cr (mvK kp 59 ev (mvK kp 34 row (mvK kp 2 ch (mvK kp 0 sg kr 2) 32) 25) 40) 40) 40) 4) := fun h => by
  refine ⟨by simp only [mvK_f h], mvF_in h (by decide), fun i hi => by simp only [mvK_f h]; exact mvF_in h hi, fun i hi => by simp only [mvK_f h]; exact mvF_in h hi, fun i hi => by simp only [mvK_f h]; exact mvF_in h hi, fun i hi => by simp only [mvK_f h]; exact mvF_in h hi, fun i hi => by simp only [mvK_f h]; exact mvF_in h hi, fun i hi => by simp only [mvK_f h]; exact mvF_in h hi⟩
theorem MvY.keep (h : MvY 1 n z ch row ev cr tr lw kr2 ch2 row2 ev2 cr2 tr2 lw2) (H : RG G n ch row ev cr tr lw z) : RG G n ch2 row2 ev2 cr2 tr2 lw2 z ∧ RK G kr2 := by
  obtain ⟨k, e1, e2, e3, e4, e5, e6⟩ := h (by decide)
  subst e1; subst e2; subst e3; subst e4; subst e5; subst e6
  exact ⟨H, RK.of H k⟩
theorem RGag0 (h : ik = 0) (H : RG G n ch row ev cr tr lw z) : RG (gAgain ik K G) n ch row ev cr tr lw z ∧ -3 = aAgain ik K := by
  rw [← (ag_0 (G := G) (K := K) h).1]; exact ⟨H, (ag_0 (G := G) (K := K) h).2⟩
theorem MvN.again {m d : Nat} (h : MvN 0 kr kr2 sg2 ch2 row2 ev2 cr2 tr2 lw2) (hi : ¬ ik = 0) (hK : ¬ ik = 0 → RK K kr) (hm : kr 0 = nI m) (hm8 : m ≤ 8) (hd : row2 0 = nI d) : RG (gAgain ik K G) m ch2 row2 ev2 cr2 tr2 lw2 (sg2 1) ∧ nI d = aAgain ik K ∧ kr2 = kr := by
  obtain ⟨e0, e1, h1, h2, h3, h4, h5, h6⟩ := h rfl
  obtain ⟨k0, kk⟩ := hK hi
  have e : m = gN K := (nI_eq (by omega) (by have := kk.n8; omega)).mp (hm.symm.trans k0)
  subst e
  have R := RG_cg kk h1 h2 h3 h4 h5 h6 e1
  rw [← (ag_1 (G := G) (K := K) hi).1, ← (ag_1 (G := G) (K := K) hi).2]
  exact ⟨R, hd.symm.trans R.td.1, e0⟩
end MV
