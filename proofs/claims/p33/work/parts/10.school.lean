abbrev AbsC (h : Nat) (q : Nat → Int32) : va_W := [(h, .inr (0, [.int (q 0), .int (q 1), .int (q 2), .int (q 3), .int (q 4), .int (q 5), .int (q 6), .int (q 7), .int (q 8)]))]
abbrev SchC (g : Nat → ClassId) (h : Nat → Nat) (kd ka ho fa si kn aw : Nat → Int32) (n : Nat) (ev cr tr lw : Nat → Int32) (td : Nat) (z : Int32) (q : Nat → Int32) : va_W := [(h 0, .inr (2, [.ref (h 1), .ref (h 2), .ref (h 3), .ref (h 4), .ref (h 5), .ref (h 6), .ref (h 7), .int (nI n), .ref (h 8), .ref (h 9), .ref (h 10), .ref (h 11), .int (nI td), .int z, .ref (h 12)])), (h 1, .inl (g 0, 8, .inl kd)), (h 2, .inl (g 0, 8, .inl ka)), (h 3, .inl (g 0, 8, .inl ho)), (h 4, .inl (g 0, 8, .inl fa)), (h 5, .inl (g 0, 8, .inl si)), (h 6, .inl (g 0, 8, .inl kn)), (h 7, .inl (g 0, 8, .inl aw)), (h 8, .inl (g 0, 40, .inl ev)), (h 9, .inl (g 0, 40, .inl cr)), (h 10, .inl (g 0, 40, .inl tr)), (h 11, .inl (g 0, 4, .inl lw)), (h 12, .inr (0, [.int (q 0), .int (q 1), .int (q 2), .int (q 3), .int (q 4), .int (q 5), .int (q 6), .int (q 7), .int (q 8)]))]
/-- WOULD, of a kind alone: sk: whether sick -/
def mStay (kd a day ev : Int32) (sk : Bool) (away lost : Int32) : Bool :=
  if kd = 1 then decide (¬ ev &&& 2 = 0 ∨ day - day / 5 * 5 = a - a / 5 * 5)
  else if kd = 4 then decide ((¬ ev &&& 2 = 0 ∨ day - day / 5 * 5 = a - a / 5 * 5) ∨ (day + a) - (day + a) / 2 * 2 = 1)
  else if kd = 2 then sk
  else if kd = 5 then sk || decide (¬ ev &&& 1 = 0)
  else if kd = 3 then decide (((¬ ev &&& 1 = 0 ∨ ¬ ev &&& 4 = 0) ∨ (5 ≤ a ∧ (day - day / 5 * 5 = 0 ∨ day - day / 5 * 5 = 4))) ∨ lost ≤ away)
  else false
def mAway (kd a far day ev : Int32) (sk kn : Bool) (away lost : Int32) : Bool :=
  decide (¬ ev &&& 16 = 0 ∧ 5 < far) || (!kn && decide (ev &&& 8 = 0) && mStay kd a day ev sk away lost)
def rmX0_isSo : Room := { frames := 0, cells := 0, slots := 0, locals := 0 }
theorem hd_X0_isSo : yX0_isSo.cls = RX0 ∧ yX0_isSo.cls ≠ "java/lang/invoke/MethodHandle" ∧ yX0_isSo.cls ≠ "java/lang/invoke/VarHandle" ∧ (parseMethodDescriptor yX0_isSo.desc).map (fun d => d.parameters.length) = some 0 := by decide +kernel
set_option maxHeartbeats 4000000 in
set_option maxRecDepth 100000 in
theorem c_X0_isSo (l : Launch) (D : va_G) (g : Nat → ClassId) (h : Nat) (q : Nat → Int32) : Ci l yX0_isSo (WW yX0_isSo cX0_isSo 5 (some FieldType.boolean)) rmX0_isSo D vwCl (TY g) [.ref h] (AbsC h q) (fun r u => r = (if mAway (q 0) (q 1) (q 2) (q 6) (q 7) (decide (0 < q 3)) (decide (0 < q 4)) (q 5) (q 8) then 1 else 0) ∧ u = AbsC h q) := by
  refine ci_in (by decide) (Nat.le_of_ble_eq_true rfl) (a0 := [h]) rfl (fun p e s m args below meth c A Q hQ B hr hsc => ?_)
  have M223 : (((((q 7) &&& 16) = 0)) ∨ ((¬ ((q 7) &&& 16) = 0) ∧ ((q 2) ≤ 5))) → (¬ 0 < (q 4)) → (((q 7) &&& 8) = 0) → (((((q 7) &&& 2) = 0) ∧ (¬ ((q 6) - (q 6) / 5 * 5) = ((q 1) - (q 1) / 5 * 5))) ∨ ((((¬ ((q 7) &&& 2) = 0)) ∨ ((((q 7) &&& 2) = 0) ∧ (((q 6) - (q 6) / 5 * 5) = ((q 1) - (q 1) / 5 * 5)))))) → (((¬ ((q 6) - (q 6) / 5 * 5) = 0) ∧ (¬ ((q 6) - (q 6) / 5 * 5) = 4)) ∨ ((((((q 6) - (q 6) / 5 * 5) = 0)) ∨ ((¬ ((q 6) - (q 6) / 5 * 5) = 0) ∧ (((q 6) - (q 6) / 5 * 5) = 4))))) → (¬ (q 0) = 1) → (¬ (q 0) = 2) → ((q 0) = 3) → (¬ ¬ ((q 7) &&& 1) = 0) → (((q 7) &&& 4) = 0) → ((((q 1) < 5)) ∨ ((¬ (q 1) < 5) ∧ (¬ (((((q 6) - (q 6) / 5 * 5) = 0)) ∨ ((¬ ((q 6) - (q 6) / 5 * 5) = 0) ∧ (((q 6) - (q 6) / 5 * 5) = 4)))))) → Sx p l e rmX0_isSo s m args below meth c D vwCl A 5 Q 223 [(0, .ref h), (1, .int ((q 6) - (q 6) / 5 * 5)), (2, .int (if ((¬ ((q 7) &&& 2) = 0)) ∨ ((((q 7) &&& 2) = 0) ∧ (((q 6) - (q 6) / 5 * 5) = ((q 1) - (q 1) / 5 * 5))) then 1 else 0)), (3, .int (if ¬ ((q 7) &&& 1) = 0 then 1 else 0)), (4, .int (if ((((q 6) - (q 6) / 5 * 5) = 0)) ∨ ((¬ ((q 6) - (q 6) / 5 * 5) = 0) ∧ (((q 6) - (q 6) / 5 * 5) = 4)) then 1 else 0))] [] [(h, .inr (0, [.int (q 0), .int (q 1), .int (q 2), .int (q 3), .int (q 4), .int (q 5), .int (q 6), .int (q 7), .int (q 8)]))] := by
    intro hm223_0 hm223_1 hm223_2 hm223_3 hm223_4 hm223_5 hm223_6 hm223_7 hm223_8 hm223_9 hm223_10
    refine s_aload_n B dX0_isSo_223 rfl 0 rfl ?_
    refine s_get (T := TX0) B inX0 0 rfl rfl 5 (Nat.le_of_ble_eq_true rfl) fl_X0_33 rfl rfl dX0_isSo_224 ?_
    refine s_aload_n B dX0_isSo_227 rfl 0 rfl ?_
    refine s_get (T := TX0) B inX0 0 rfl rfl 8 (Nat.le_of_ble_eq_true rfl) fl_X0_36 rfl rfl dX0_isSo_228 ?_
    refine s_icmp_lt (tgt := 238) B dX0_isSo_231 rfl (fun h231 => ?_) (fun h231 => ?_)
    · refine s_iconst B dX0_isSo_238 ic_0 ?_
      refine s_zret B hQ hr dX0_isSo_239 rfl rfl ?_
      exact ⟨by clear hQ B hr hsc; grind [mAway, mStay], rfl⟩
    · refine s_iconst B dX0_isSo_234 ic_1 ?_
      refine s_goto (tgt := 239) B dX0_isSo_235 rfl ?_
      refine s_zret B hQ hr dX0_isSo_239 rfl rfl ?_
      exact ⟨by clear hQ B hr hsc; grind [mAway, mStay], rfl⟩
  have M100 : (((((q 7) &&& 16) = 0)) ∨ ((¬ ((q 7) &&& 16) = 0) ∧ ((q 2) ≤ 5))) → (¬ 0 < (q 4)) → (((q 7) &&& 8) = 0) → (((((q 7) &&& 2) = 0) ∧ (¬ ((q 6) - (q 6) / 5 * 5) = ((q 1) - (q 1) / 5 * 5))) ∨ ((((¬ ((q 7) &&& 2) = 0)) ∨ ((((q 7) &&& 2) = 0) ∧ (((q 6) - (q 6) / 5 * 5) = ((q 1) - (q 1) / 5 * 5)))))) → (((¬ ((q 6) - (q 6) / 5 * 5) = 0) ∧ (¬ ((q 6) - (q 6) / 5 * 5) = 4)) ∨ ((((((q 6) - (q 6) / 5 * 5) = 0)) ∨ ((¬ ((q 6) - (q 6) / 5 * 5) = 0) ∧ (((q 6) - (q 6) / 5 * 5) = 4))))) → Sx p l e rmX0_isSo s m args below meth c D vwCl A 5 Q 100 [(0, .ref h), (1, .int ((q 6) - (q 6) / 5 * 5)), (2, .int (if ((¬ ((q 7) &&& 2) = 0)) ∨ ((((q 7) &&& 2) = 0) ∧ (((q 6) - (q 6) / 5 * 5) = ((q 1) - (q 1) / 5 * 5))) then 1 else 0)), (3, .int (if ¬ ((q 7) &&& 1) = 0 then 1 else 0))] [.int (if ((((q 6) - (q 6) / 5 * 5) = 0)) ∨ ((¬ ((q 6) - (q 6) / 5 * 5) = 0) ∧ (((q 6) - (q 6) / 5 * 5) = 4)) then 1 else 0)] [(h, .inr (0, [.int (q 0), .int (q 1), .int (q 2), .int (q 3), .int (q 4), .int (q 5), .int (q 6), .int (q 7), .int (q 8)]))] := by
    intro hm100_0 hm100_1 hm100_2 hm100_3 hm100_4
    refine s_istore (lv' := [(4, _), (0, _), (1, _), (2, _), (3, _)]) B dX0_isSo_100 (Nat.le_of_ble_eq_true rfl) rfl ?_
    refine s_aload_n B dX0_isSo_102 rfl 1 rfl ?_
    refine s_get (T := TX0) B inX0 0 rfl rfl 0 (Nat.le_of_ble_eq_true rfl) fl_X0_27 rfl rfl dX0_isSo_103 ?_
    by_cases k106_1 : (q 0) = 1
    · refine s_tableIn (off := 34) (tgt := 140) B dX0_isSo_106 (by rw [k106_1]; decide) (by rw [k106_1]; decide) (by rw [k106_1]; rfl) rfl ?_
      refine s_iload_n B dX0_isSo_140 rfl 3 rfl ?_
      refine s_zret B hQ hr dX0_isSo_141 rfl (z_if _) ?_
      exact ⟨by clear hQ B hr hsc; grind [mAway, mStay], rfl⟩
    · by_cases k106_2 : (q 0) = 2
      · refine s_tableIn (off := 61) (tgt := 167) B dX0_isSo_106 (by rw [k106_2]; decide) (by rw [k106_2]; decide) (by rw [k106_2]; rfl) rfl ?_
        refine s_aload_n B dX0_isSo_167 rfl 1 rfl ?_
        refine s_get (T := TX0) B inX0 0 rfl rfl 3 (Nat.le_of_ble_eq_true rfl) fl_X0_30 rfl rfl dX0_isSo_168 ?_
        refine s_if_le (tgt := 178) B dX0_isSo_171 rfl (fun h171 => ?_) (fun h171 => ?_)
        · refine s_iconst B dX0_isSo_178 ic_0 ?_
          refine s_zret B hQ hr dX0_isSo_179 rfl rfl ?_
          exact ⟨by clear hQ B hr hsc; grind [mAway, mStay], rfl⟩
        · refine s_iconst B dX0_isSo_174 ic_1 ?_
          refine s_goto (tgt := 179) B dX0_isSo_175 rfl ?_
          refine s_zret B hQ hr dX0_isSo_179 rfl rfl ?_
          exact ⟨by clear hQ B hr hsc; grind [mAway, mStay], rfl⟩
      · by_cases k106_3 : (q 0) = 3
        · refine s_tableIn (off := 91) (tgt := 197) B dX0_isSo_106 (by rw [k106_3]; decide) (by rw [k106_3]; decide) (by rw [k106_3]; rfl) rfl ?_
          refine s_iload_n B dX0_isSo_197 rfl 4 rfl ?_
          refine s_bif_ne (tgt := 234) B dX0_isSo_198 rfl (fun h198 => ?_) (fun h198 => ?_)
          · refine s_iconst B dX0_isSo_234 ic_1 ?_
            refine s_goto (tgt := 239) B dX0_isSo_235 rfl ?_
            refine s_zret B hQ hr dX0_isSo_239 rfl rfl ?_
            exact ⟨by clear hQ B hr hsc; grind [mAway, mStay], rfl⟩
          · refine s_aload_n B dX0_isSo_201 rfl 1 rfl ?_
            refine s_get (T := TX0) B inX0 0 rfl rfl 7 (Nat.le_of_ble_eq_true rfl) fl_X0_9 rfl rfl dX0_isSo_202 ?_
            refine s_iconst B dX0_isSo_205 ic_4 ?_
            refine s_iand B dX0_isSo_206 ?_
            refine s_if_ne (tgt := 234) B dX0_isSo_207 rfl (fun h207 => ?_) (fun h207 => ?_)
            · refine s_iconst B dX0_isSo_234 ic_1 ?_
              refine s_goto (tgt := 239) B dX0_isSo_235 rfl ?_
              refine s_zret B hQ hr dX0_isSo_239 rfl rfl ?_
              exact ⟨by clear hQ B hr hsc; grind [mAway, mStay], rfl⟩
            · refine s_aload_n B dX0_isSo_210 rfl 1 rfl ?_
              refine s_get (T := TX0) B inX0 0 rfl rfl 1 (Nat.le_of_ble_eq_true rfl) fl_X0_24 rfl rfl dX0_isSo_211 ?_
              refine s_iconst B dX0_isSo_214 ic_5 ?_
              refine s_icmp_lt (tgt := 223) B dX0_isSo_215 rfl (fun h215 => ?_) (fun h215 => ?_)
              · refine s_lv (lv' := [(0, _), (1, _), (2, _), (3, _), (4, _)]) [1, 2, 3, 4, 0] rfl ?_
                exact M223 hm100_0 hm100_1 hm100_2 hm100_3 hm100_4 k106_1 k106_2 k106_3 h198 h207 (by clear hQ B hr hsc; grind)
              · refine s_iload B dX0_isSo_218 0 rfl ?_
                refine s_bif_ne (tgt := 234) B dX0_isSo_220 rfl (fun h220 => ?_) (fun h220 => ?_)
                · refine s_iconst B dX0_isSo_234 ic_1 ?_
                  refine s_goto (tgt := 239) B dX0_isSo_235 rfl ?_
                  refine s_zret B hQ hr dX0_isSo_239 rfl rfl ?_
                  exact ⟨by clear hQ B hr hsc; grind [mAway, mStay], rfl⟩
                · refine s_lv (lv' := [(0, _), (1, _), (2, _), (3, _), (4, _)]) [1, 2, 3, 4, 0] rfl ?_
                  exact M223 hm100_0 hm100_1 hm100_2 hm100_3 hm100_4 k106_1 k106_2 k106_3 h198 h207 (by clear hQ B hr hsc; grind)
        · by_cases k106_4 : (q 0) = 4
          · refine s_tableIn (off := 36) (tgt := 142) B dX0_isSo_106 (by rw [k106_4]; decide) (by rw [k106_4]; decide) (by rw [k106_4]; rfl) rfl ?_
            refine s_iload_n B dX0_isSo_142 rfl 3 rfl ?_
            refine s_bif_ne (tgt := 161) B dX0_isSo_143 rfl (fun h143 => ?_) (fun h143 => ?_)
            · refine s_iconst B dX0_isSo_161 ic_1 ?_
              refine s_goto (tgt := 166) B dX0_isSo_162 rfl ?_
              refine s_zret B hQ hr dX0_isSo_166 rfl rfl ?_
              exact ⟨by clear hQ B hr hsc; grind [mAway, mStay], rfl⟩
            · refine s_aload_n B dX0_isSo_146 rfl 1 rfl ?_
              refine s_get (T := TX0) B inX0 0 rfl rfl 6 (Nat.le_of_ble_eq_true rfl) fl_X0_21 rfl rfl dX0_isSo_147 ?_
              refine s_aload_n B dX0_isSo_150 rfl 1 rfl ?_
              refine s_get (T := TX0) B inX0 0 rfl rfl 1 (Nat.le_of_ble_eq_true rfl) fl_X0_24 rfl rfl dX0_isSo_151 ?_
              refine s_iadd B dX0_isSo_154 ?_
              refine s_iconst B dX0_isSo_155 ic_2 ?_
              refine s_irem B dX0_isSo_156 (by decide) ?_
              refine s_iconst B dX0_isSo_157 ic_1 ?_
              refine s_icmp_ne (tgt := 165) B dX0_isSo_158 rfl (fun h158 => ?_) (fun h158 => ?_)
              · refine s_iconst B dX0_isSo_165 ic_0 ?_
                refine s_zret B hQ hr dX0_isSo_166 rfl rfl ?_
                exact ⟨by clear hQ B hr hsc; grind [mAway, mStay], rfl⟩
              · refine s_iconst B dX0_isSo_161 ic_1 ?_
                refine s_goto (tgt := 166) B dX0_isSo_162 rfl ?_
                refine s_zret B hQ hr dX0_isSo_166 rfl rfl ?_
                exact ⟨by clear hQ B hr hsc; grind [mAway, mStay], rfl⟩
          · by_cases k106_5 : (q 0) = 5
            · refine s_tableIn (off := 74) (tgt := 180) B dX0_isSo_106 (by rw [k106_5]; decide) (by rw [k106_5]; decide) (by rw [k106_5]; rfl) rfl ?_
              refine s_aload_n B dX0_isSo_180 rfl 1 rfl ?_
              refine s_get (T := TX0) B inX0 0 rfl rfl 3 (Nat.le_of_ble_eq_true rfl) fl_X0_30 rfl rfl dX0_isSo_181 ?_
              refine s_if_gt (tgt := 191) B dX0_isSo_184 rfl (fun h184 => ?_) (fun h184 => ?_)
              · refine s_iconst B dX0_isSo_191 ic_1 ?_
                refine s_goto (tgt := 196) B dX0_isSo_192 rfl ?_
                refine s_zret B hQ hr dX0_isSo_196 rfl rfl ?_
                exact ⟨by clear hQ B hr hsc; grind [mAway, mStay], rfl⟩
              · refine s_iload_n B dX0_isSo_187 rfl 4 rfl ?_
                refine s_bif_eq (tgt := 195) B dX0_isSo_188 rfl (fun h188 => ?_) (fun h188 => ?_)
                · refine s_iconst B dX0_isSo_195 ic_0 ?_
                  refine s_zret B hQ hr dX0_isSo_196 rfl rfl ?_
                  exact ⟨by clear hQ B hr hsc; grind [mAway, mStay], rfl⟩
                · refine s_iconst B dX0_isSo_191 ic_1 ?_
                  refine s_goto (tgt := 196) B dX0_isSo_192 rfl ?_
                  refine s_zret B hQ hr dX0_isSo_196 rfl rfl ?_
                  exact ⟨by clear hQ B hr hsc; grind [mAway, mStay], rfl⟩
            · refine s_tableOut (tgt := 240) B dX0_isSo_106 (by have q0 := lv_neT k106_1 (show (1 : Int32).toInt = 1 from by decide); have q1 := lv_neT k106_2 (show (2 : Int32).toInt = 2 from by decide); have q2 := lv_neT k106_3 (show (3 : Int32).toInt = 3 from by decide); have q3 := lv_neT k106_4 (show (4 : Int32).toInt = 4 from by decide); have q4 := lv_neT k106_5 (show (5 : Int32).toInt = 5 from by decide); omega) rfl ?_
              refine s_iconst B dX0_isSo_240 ic_0 ?_
              refine s_zret B hQ hr dX0_isSo_241 rfl rfl ?_
              exact ⟨by clear hQ B hr hsc; grind [mAway, mStay], rfl⟩
  have M95 : (((((q 7) &&& 16) = 0)) ∨ ((¬ ((q 7) &&& 16) = 0) ∧ ((q 2) ≤ 5))) → (¬ 0 < (q 4)) → (((q 7) &&& 8) = 0) → (((((q 7) &&& 2) = 0) ∧ (¬ ((q 6) - (q 6) / 5 * 5) = ((q 1) - (q 1) / 5 * 5))) ∨ ((((¬ ((q 7) &&& 2) = 0)) ∨ ((((q 7) &&& 2) = 0) ∧ (((q 6) - (q 6) / 5 * 5) = ((q 1) - (q 1) / 5 * 5)))))) → (((((q 6) - (q 6) / 5 * 5) = 0)) ∨ ((¬ ((q 6) - (q 6) / 5 * 5) = 0) ∧ (((q 6) - (q 6) / 5 * 5) = 4))) → Sx p l e rmX0_isSo s m args below meth c D vwCl A 5 Q 95 [(0, .ref h), (1, .int ((q 6) - (q 6) / 5 * 5)), (2, .int (if ((¬ ((q 7) &&& 2) = 0)) ∨ ((((q 7) &&& 2) = 0) ∧ (((q 6) - (q 6) / 5 * 5) = ((q 1) - (q 1) / 5 * 5))) then 1 else 0)), (3, .int (if ¬ ((q 7) &&& 1) = 0 then 1 else 0))] [] [(h, .inr (0, [.int (q 0), .int (q 1), .int (q 2), .int (q 3), .int (q 4), .int (q 5), .int (q 6), .int (q 7), .int (q 8)]))] := by
    intro hm95_0 hm95_1 hm95_2 hm95_3 hm95_4
    refine s_iconst B dX0_isSo_95 ic_1 ?_
    refine s_goto (tgt := 100) B dX0_isSo_96 rfl ?_
    refine s_lv (lv' := [(0, _), (1, _), (2, _), (3, _)]) [0, 1, 2, 3] rfl ?_
    refine s_st (st' := [.int (if ((((q 6) - (q 6) / 5 * 5) = 0)) ∨ ((¬ ((q 6) - (q 6) / 5 * 5) = 0) ∧ (((q 6) - (q 6) / 5 * 5) = 4)) then 1 else 0)]) (by first | (simp only [if_pos hm95_0, if_pos hm95_1, if_neg hm95_1, if_pos hm95_2, if_pos hm95_3, if_pos hm95_4]; done) | (clear hQ B hr hsc; grind)) ?_
    exact M100 hm95_0 hm95_1 hm95_2 hm95_3 (by clear hQ B hr hsc; grind)
  have M85 : (((((q 7) &&& 16) = 0)) ∨ ((¬ ((q 7) &&& 16) = 0) ∧ ((q 2) ≤ 5))) → (¬ 0 < (q 4)) → (((q 7) &&& 8) = 0) → (((((q 7) &&& 2) = 0) ∧ (¬ ((q 6) - (q 6) / 5 * 5) = ((q 1) - (q 1) / 5 * 5))) ∨ ((((¬ ((q 7) &&& 2) = 0)) ∨ ((((q 7) &&& 2) = 0) ∧ (((q 6) - (q 6) / 5 * 5) = ((q 1) - (q 1) / 5 * 5)))))) → Sx p l e rmX0_isSo s m args below meth c D vwCl A 5 Q 85 [(0, .ref h), (1, .int ((q 6) - (q 6) / 5 * 5)), (2, .int (if ((¬ ((q 7) &&& 2) = 0)) ∨ ((((q 7) &&& 2) = 0) ∧ (((q 6) - (q 6) / 5 * 5) = ((q 1) - (q 1) / 5 * 5))) then 1 else 0))] [.int (if ¬ ((q 7) &&& 1) = 0 then 1 else 0)] [(h, .inr (0, [.int (q 0), .int (q 1), .int (q 2), .int (q 3), .int (q 4), .int (q 5), .int (q 6), .int (q 7), .int (q 8)]))] := by
    intro hm85_0 hm85_1 hm85_2 hm85_3
    refine s_istore_n (lv' := [(3, _), (0, _), (1, _), (2, _)]) B dX0_isSo_85 rfl (Nat.le_of_ble_eq_true rfl) rfl ?_
    refine s_iload_n B dX0_isSo_86 rfl 2 rfl ?_
    refine s_if_eq (tgt := 95) B dX0_isSo_87 rfl (fun h87 => ?_) (fun h87 => ?_)
    · refine s_lv (lv' := [(0, _), (1, _), (2, _), (3, _)]) [1, 2, 3, 0] rfl ?_
      exact M95 hm85_0 hm85_1 hm85_2 hm85_3 (by clear hQ B hr hsc; grind)
    · refine s_iload_n B dX0_isSo_90 rfl 2 rfl ?_
      refine s_iconst B dX0_isSo_91 ic_4 ?_
      refine s_icmp_ne (tgt := 99) B dX0_isSo_92 rfl (fun h92 => ?_) (fun h92 => ?_)
      · refine s_iconst B dX0_isSo_99 ic_0 ?_
        refine s_lv (lv' := [(0, _), (1, _), (2, _), (3, _)]) [1, 2, 3, 0] rfl ?_
        refine s_st (st' := [.int (if ((((q 6) - (q 6) / 5 * 5) = 0)) ∨ ((¬ ((q 6) - (q 6) / 5 * 5) = 0) ∧ (((q 6) - (q 6) / 5 * 5) = 4)) then 1 else 0)]) (by first | (simp only [if_pos hm85_0, if_pos hm85_1, if_neg hm85_1, if_pos hm85_2, if_pos hm85_3, if_pos h87, if_neg h87, if_pos h92, if_neg h92]; done) | (clear hQ B hr hsc; grind)) ?_
        exact M100 hm85_0 hm85_1 hm85_2 hm85_3 (by clear hQ B hr hsc; grind)
      · refine s_lv (lv' := [(0, _), (1, _), (2, _), (3, _)]) [1, 2, 3, 0] rfl ?_
        exact M95 hm85_0 hm85_1 hm85_2 hm85_3 (by clear hQ B hr hsc; grind)
  have M70 : (((((q 7) &&& 16) = 0)) ∨ ((¬ ((q 7) &&& 16) = 0) ∧ ((q 2) ≤ 5))) → (¬ 0 < (q 4)) → (((q 7) &&& 8) = 0) → (((((q 7) &&& 2) = 0) ∧ (¬ ((q 6) - (q 6) / 5 * 5) = ((q 1) - (q 1) / 5 * 5))) ∨ ((((¬ ((q 7) &&& 2) = 0)) ∨ ((((q 7) &&& 2) = 0) ∧ (((q 6) - (q 6) / 5 * 5) = ((q 1) - (q 1) / 5 * 5)))))) → Sx p l e rmX0_isSo s m args below meth c D vwCl A 5 Q 70 [(0, .ref h), (1, .int ((q 6) - (q 6) / 5 * 5))] [.int (if ((¬ ((q 7) &&& 2) = 0)) ∨ ((((q 7) &&& 2) = 0) ∧ (((q 6) - (q 6) / 5 * 5) = ((q 1) - (q 1) / 5 * 5))) then 1 else 0)] [(h, .inr (0, [.int (q 0), .int (q 1), .int (q 2), .int (q 3), .int (q 4), .int (q 5), .int (q 6), .int (q 7), .int (q 8)]))] := by
    intro hm70_0 hm70_1 hm70_2 hm70_3
    refine s_istore_n (lv' := [(2, _), (0, _), (1, _)]) B dX0_isSo_70 rfl (Nat.le_of_ble_eq_true rfl) rfl ?_
    refine s_aload_n B dX0_isSo_71 rfl 1 rfl ?_
    refine s_get (T := TX0) B inX0 0 rfl rfl 7 (Nat.le_of_ble_eq_true rfl) fl_X0_9 rfl rfl dX0_isSo_72 ?_
    refine s_iconst B dX0_isSo_75 ic_1 ?_
    refine s_iand B dX0_isSo_76 ?_
    refine s_if_eq (tgt := 84) B dX0_isSo_77 rfl (fun h77 => ?_) (fun h77 => ?_)
    · refine s_iconst B dX0_isSo_84 ic_0 ?_
      refine s_lv (lv' := [(0, _), (1, _), (2, _)]) [1, 2, 0] rfl ?_
      refine s_st (st' := [.int (if ¬ ((q 7) &&& 1) = 0 then 1 else 0)]) (by first | (simp only [if_pos hm70_0, if_pos hm70_1, if_neg hm70_1, if_pos hm70_2, if_pos hm70_3, if_pos h77]; done) | (clear hQ B hr hsc; grind)) ?_
      exact M85 hm70_0 hm70_1 hm70_2 hm70_3
    · refine s_iconst B dX0_isSo_80 ic_1 ?_
      refine s_goto (tgt := 85) B dX0_isSo_81 rfl ?_
      refine s_lv (lv' := [(0, _), (1, _), (2, _)]) [1, 2, 0] rfl ?_
      refine s_st (st' := [.int (if ¬ ((q 7) &&& 1) = 0 then 1 else 0)]) (by first | (simp only [if_pos hm70_0, if_pos hm70_1, if_neg hm70_1, if_pos hm70_2, if_pos hm70_3, if_pos h77, if_neg h77]; done) | (clear hQ B hr hsc; grind)) ?_
      exact M85 hm70_0 hm70_1 hm70_2 hm70_3
  have M65 : (((((q 7) &&& 16) = 0)) ∨ ((¬ ((q 7) &&& 16) = 0) ∧ ((q 2) ≤ 5))) → (¬ 0 < (q 4)) → (((q 7) &&& 8) = 0) → (((¬ ((q 7) &&& 2) = 0)) ∨ ((((q 7) &&& 2) = 0) ∧ (((q 6) - (q 6) / 5 * 5) = ((q 1) - (q 1) / 5 * 5)))) → Sx p l e rmX0_isSo s m args below meth c D vwCl A 5 Q 65 [(0, .ref h), (1, .int ((q 6) - (q 6) / 5 * 5))] [] [(h, .inr (0, [.int (q 0), .int (q 1), .int (q 2), .int (q 3), .int (q 4), .int (q 5), .int (q 6), .int (q 7), .int (q 8)]))] := by
    intro hm65_0 hm65_1 hm65_2 hm65_3
    refine s_iconst B dX0_isSo_65 ic_1 ?_
    refine s_goto (tgt := 70) B dX0_isSo_66 rfl ?_
    refine s_lv (lv' := [(0, _), (1, _)]) [0, 1] rfl ?_
    refine s_st (st' := [.int (if ((¬ ((q 7) &&& 2) = 0)) ∨ ((((q 7) &&& 2) = 0) ∧ (((q 6) - (q 6) / 5 * 5) = ((q 1) - (q 1) / 5 * 5))) then 1 else 0)]) (by first | (simp only [if_pos hm65_0, if_pos hm65_1, if_neg hm65_1, if_pos hm65_2, if_pos hm65_3]; done) | (clear hQ B hr hsc; grind)) ?_
    exact M70 hm65_0 hm65_1 hm65_2 (by clear hQ B hr hsc; grind)
  have M20 : (((((q 7) &&& 16) = 0)) ∨ ((¬ ((q 7) &&& 16) = 0) ∧ ((q 2) ≤ 5))) → Sx p l e rmX0_isSo s m args below meth c D vwCl A 5 Q 20 [(0, .ref h)] [] [(h, .inr (0, [.int (q 0), .int (q 1), .int (q 2), .int (q 3), .int (q 4), .int (q 5), .int (q 6), .int (q 7), .int (q 8)]))] := by
    intro hm20_0
    refine s_aload_n B dX0_isSo_20 rfl 0 rfl ?_
    refine s_get (T := TX0) B inX0 0 rfl rfl 4 (Nat.le_of_ble_eq_true rfl) fl_X0_18 rfl rfl dX0_isSo_21 ?_
    refine s_if_gt (tgt := 37) B dX0_isSo_24 rfl (fun h24 => ?_) (fun h24 => ?_)
    · refine s_iconst B dX0_isSo_37 ic_0 ?_
      refine s_zret B hQ hr dX0_isSo_38 rfl rfl ?_
      exact ⟨by clear hQ B hr hsc; grind [mAway, mStay], rfl⟩
    · refine s_aload_n B dX0_isSo_27 rfl 0 rfl ?_
      refine s_get (T := TX0) B inX0 0 rfl rfl 7 (Nat.le_of_ble_eq_true rfl) fl_X0_9 rfl rfl dX0_isSo_28 ?_
      refine s_bipush B dX0_isSo_31 bp_8 ?_
      refine s_iand B dX0_isSo_33 ?_
      refine s_if_eq (tgt := 39) B dX0_isSo_34 rfl (fun h34 => ?_) (fun h34 => ?_)
      · refine s_aload_n B dX0_isSo_39 rfl 0 rfl ?_
        refine s_get (T := TX0) B inX0 0 rfl rfl 6 (Nat.le_of_ble_eq_true rfl) fl_X0_21 rfl rfl dX0_isSo_40 ?_
        refine s_iconst B dX0_isSo_43 ic_5 ?_
        refine s_irem B dX0_isSo_44 (by decide) ?_
        refine s_istore_n (lv' := [(1, _), (0, _)]) B dX0_isSo_45 rfl (Nat.le_of_ble_eq_true rfl) rfl ?_
        refine s_aload_n B dX0_isSo_46 rfl 1 rfl ?_
        refine s_get (T := TX0) B inX0 0 rfl rfl 7 (Nat.le_of_ble_eq_true rfl) fl_X0_9 rfl rfl dX0_isSo_47 ?_
        refine s_iconst B dX0_isSo_50 ic_2 ?_
        refine s_iand B dX0_isSo_51 ?_
        refine s_if_ne (tgt := 65) B dX0_isSo_52 rfl (fun h52 => ?_) (fun h52 => ?_)
        · refine s_lv (lv' := [(0, _), (1, _)]) [1, 0] rfl ?_
          exact M65 hm20_0 h24 h34 (by clear hQ B hr hsc; grind)
        · refine s_iload_n B dX0_isSo_55 rfl 0 rfl ?_
          refine s_aload_n B dX0_isSo_56 rfl 1 rfl ?_
          refine s_get (T := TX0) B inX0 0 rfl rfl 1 (Nat.le_of_ble_eq_true rfl) fl_X0_24 rfl rfl dX0_isSo_57 ?_
          refine s_iconst B dX0_isSo_60 ic_5 ?_
          refine s_irem B dX0_isSo_61 (by decide) ?_
          refine s_icmp_ne (tgt := 69) B dX0_isSo_62 rfl (fun h62 => ?_) (fun h62 => ?_)
          · refine s_iconst B dX0_isSo_69 ic_0 ?_
            refine s_lv (lv' := [(0, _), (1, _)]) [1, 0] rfl ?_
            refine s_st (st' := [.int (if ((¬ ((q 7) &&& 2) = 0)) ∨ ((((q 7) &&& 2) = 0) ∧ (((q 6) - (q 6) / 5 * 5) = ((q 1) - (q 1) / 5 * 5))) then 1 else 0)]) (by first | (simp only [if_pos hm20_0, if_pos h24, if_neg h24, if_pos h34, if_pos h52, if_pos h62, if_neg h62]; done) | (clear hQ B hr hsc; grind)) ?_
            exact M70 hm20_0 h24 h34 (by clear hQ B hr hsc; grind)
          · refine s_lv (lv' := [(0, _), (1, _)]) [1, 0] rfl ?_
            exact M65 hm20_0 h24 h34 (by clear hQ B hr hsc; grind)
      · refine s_iconst B dX0_isSo_37 ic_0 ?_
        refine s_zret B hQ hr dX0_isSo_38 rfl rfl ?_
        exact ⟨by clear hQ B hr hsc; grind [mAway, mStay], rfl⟩
  refine s_aload_n B dX0_isSo_0 rfl 0 rfl ?_
  refine s_get (T := TX0) B inX0 0 rfl rfl 7 (Nat.le_of_ble_eq_true rfl) fl_X0_9 rfl rfl dX0_isSo_1 ?_
  refine s_bipush B dX0_isSo_4 bp_16 ?_
  refine s_iand B dX0_isSo_6 ?_
  refine s_if_eq (tgt := 20) B dX0_isSo_7 rfl (fun h7 => ?_) (fun h7 => ?_)
  · refine s_lv (lv' := [(0, _)]) [0] rfl ?_
    exact M20 (by clear hQ B hr hsc; grind)
  · refine s_aload_n B dX0_isSo_10 rfl 0 rfl ?_
    refine s_get (T := TX0) B inX0 0 rfl rfl 2 (Nat.le_of_ble_eq_true rfl) fl_X0_15 rfl rfl dX0_isSo_11 ?_
    refine s_iconst B dX0_isSo_14 ic_5 ?_
    refine s_icmp_le (tgt := 20) B dX0_isSo_15 rfl (fun h15 => ?_) (fun h15 => ?_)
    · refine s_lv (lv' := [(0, _)]) [0] rfl ?_
      exact M20 (by clear hQ B hr hsc; grind)
    · refine s_iconst B dX0_isSo_18 ic_1 ?_
      refine s_zret B hQ hr dX0_isSo_19 rfl rfl ?_
      exact ⟨by clear hQ B hr hsc; grind [mAway, mStay], rfl⟩
def rmX2_isOver : Room := { frames := 0, cells := 0, slots := 0, locals := 0 }
theorem hd_X2_isOver : yX2_isOver.cls = RX2 ∧ yX2_isOver.cls ≠ "java/lang/invoke/MethodHandle" ∧ yX2_isOver.cls ≠ "java/lang/invoke/VarHandle" ∧ (parseMethodDescriptor yX2_isOver.desc).map (fun d => d.parameters.length) = some 0 := by decide +kernel
set_option maxHeartbeats 4000000 in
set_option maxRecDepth 100000 in
theorem c_X2_isOver (l : Launch) (D : va_G) (g : Nat → ClassId) (h : Nat → Nat) (kd ka ho fa si kn aw : Nat → Int32) (n : Nat) (ev cr tr lw : Nat → Int32) (td : Nat) (z : Int32) (q : Nat → Int32) (htd : td ≤ 40) : Ci l yX2_isOver (WW yX2_isOver cX2_isOver 1 (some FieldType.boolean)) rmX2_isOver D vwCl (TY g) [.ref (h 0)] (SchC g h kd ka ho fa si kn aw n ev cr tr lw td z q) (fun r u => r = (if 40 ≤ td then 1 else 0) ∧ u = SchC g h kd ka ho fa si kn aw n ev cr tr lw td z q) := by
  refine ci_in (by decide) (Nat.le_of_ble_eq_true rfl) (a0 := [h 0, h 1, h 2, h 3, h 4, h 5, h 6, h 7, h 8, h 9, h 10, h 11, h 12]) rfl (fun p e s m args below meth c A Q hQ B hr hsc => ?_)
  refine s_aload_n B dX2_isOver_0 rfl 0 rfl ?_
  refine s_get (T := TX2) B inX2 0 rfl rfl 12 (Nat.le_of_ble_eq_true rfl) fl_X2_49 rfl rfl dX2_isOver_1 ?_
  refine s_bipush B dX2_isOver_4 bp_40 ?_
  refine s_icmp_lt (tgt := 13) B dX2_isOver_6 rfl (fun h6 => ?_) (fun h6 => ?_)
  · replace h6 : td < 40 := (nI_ltI (a := td) (b := 40) (by omega) (by omega)).mp h6
    refine s_iconst B dX2_isOver_13 ic_0 ?_
    refine s_zret B hQ hr dX2_isOver_14 rfl rfl ?_
    exact ⟨by clear hQ B hr hsc; grind, rfl⟩
  · replace h6 : ¬ td < 40 := fun hh => h6 ((nI_ltI (a := td) (b := 40) (by omega) (by omega)).mpr hh)
    refine s_iconst B dX2_isOver_9 ic_1 ?_
    refine s_goto (tgt := 14) B dX2_isOver_10 rfl ?_
    refine s_zret B hQ hr dX2_isOver_14 rfl rfl ?_
    exact ⟨by clear hQ B hr hsc; grind, rfl⟩
def rmX2_hasChild : Room := { frames := 0, cells := 0, slots := 0, locals := 0 }
theorem hd_X2_hasChild : yX2_hasChild.cls = RX2 ∧ yX2_hasChild.cls ≠ "java/lang/invoke/MethodHandle" ∧ yX2_hasChild.cls ≠ "java/lang/invoke/VarHandle" ∧ (parseMethodDescriptor yX2_hasChild.desc).map (fun d => d.parameters.length) = some 1 := by decide +kernel
set_option maxHeartbeats 4000000 in
set_option maxRecDepth 100000 in
theorem c_X2_hasChild (l : Launch) (D : va_G) (g : Nat → ClassId) (h : Nat → Nat) (kd ka ho fa si kn aw : Nat → Int32) (n : Nat) (ev cr tr lw : Nat → Int32) (td : Nat) (z : Int32) (q : Nat → Int32) (c0 : Int32) : Ci l yX2_hasChild (WW yX2_hasChild cX2_hasChild 2 (some FieldType.boolean)) rmX2_hasChild D vwCl (TY g) [.ref (h 0), .int c0] (SchC g h kd ka ho fa si kn aw n ev cr tr lw td z q) (fun r u => r = (if ¬ c0 < 0 ∧ c0 < nI n then 1 else 0) ∧ u = SchC g h kd ka ho fa si kn aw n ev cr tr lw td z q) := by
  refine ci_in (by decide) (Nat.le_of_ble_eq_true rfl) (a0 := [h 0, h 1, h 2, h 3, h 4, h 5, h 6, h 7, h 8, h 9, h 10, h 11, h 12]) rfl (fun p e s m args below meth c A Q hQ B hr hsc => ?_)
  refine s_iload_n B dX2_hasChild_0 rfl 1 rfl ?_
  refine s_if_lt (tgt := 16) B dX2_hasChild_1 rfl (fun h1 => ?_) (fun h1 => ?_)
  · refine s_iconst B dX2_hasChild_16 ic_0 ?_
    refine s_zret B hQ hr dX2_hasChild_17 rfl rfl ?_
    exact ⟨by clear hQ B hr hsc; grind, rfl⟩
  · refine s_iload_n B dX2_hasChild_4 rfl 1 rfl ?_
    refine s_aload_n B dX2_hasChild_5 rfl 0 rfl ?_
    refine s_get (T := TX2) B inX2 0 rfl rfl 7 (Nat.le_of_ble_eq_true rfl) fl_X2_33 rfl rfl dX2_hasChild_6 ?_
    refine s_icmp_ge (tgt := 16) B dX2_hasChild_9 rfl (fun h9 => ?_) (fun h9 => ?_)
    · refine s_iconst B dX2_hasChild_16 ic_0 ?_
      refine s_zret B hQ hr dX2_hasChild_17 rfl rfl ?_
      exact ⟨by clear hQ B hr hsc; grind, rfl⟩
    · refine s_iconst B dX2_hasChild_12 ic_1 ?_
      refine s_goto (tgt := 17) B dX2_hasChild_13 rfl ?_
      refine s_zret B hQ hr dX2_hasChild_17 rfl rfl ?_
      exact ⟨by clear hQ B hr hsc; grind, rfl⟩
def rmX2_isAway : Room := { frames := 1, cells := 0, slots := 0, locals := 24 }
theorem hd_X2_isAway : yX2_isAway.cls = RX2 ∧ yX2_isAway.cls ≠ "java/lang/invoke/MethodHandle" ∧ yX2_isAway.cls ≠ "java/lang/invoke/VarHandle" ∧ (parseMethodDescriptor yX2_isAway.desc).map (fun d => d.parameters.length) = some 1 := by decide +kernel
set_option maxHeartbeats 4000000 in
set_option maxRecDepth 100000 in
theorem c_X2_isAway (l : Launch) (D : va_G) (g : Nat → ClassId) (h : Nat → Nat) (kd ka ho fa si kn aw : Nat → Int32) (n : Nat) (ev cr tr lw : Nat → Int32) (td : Nat) (z : Int32) (q : Nat → Int32) (k : Nat) (htd : td ≤ 40) (hn : n ≤ 8) (hk : k < n) : Ci l yX2_isAway (WW yX2_isAway cX2_isAway 2 (some FieldType.boolean)) rmX2_isAway D vwCl (TY g) [.ref (h 0), .int (nI k)] (SchC g h kd ka ho fa si kn aw n ev cr tr lw td z q) (fun r u => r = (if 40 ≤ td then 0 else if mAway (kd k) (ka k) (fa k) (nI td) (ev td) (decide (0 < si k)) (decide (0 < kn k)) (aw k) (lw 1) then 1 else 0) ∧ ∃ q1, u = SchC g h kd ka ho fa si kn aw n ev cr tr lw td z q1) := by
  refine ci_in (by decide) (Nat.le_of_ble_eq_true rfl) (a0 := [h 0, h 1, h 2, h 3, h 4, h 5, h 6, h 7, h 8, h 9, h 10, h 11, h 12]) rfl (fun p e s m args below meth c A Q hQ B hr hsc => ?_)
  refine s_aload_n B dX2_isAway_0 rfl 0 rfl ?_
  refine s_callVi B hsc (c_X2_isOver l D g h kd ka ho fa si kn aw n ev cr tr lw td z q htd) (gw_V ml_X2_71 im_yX2_isOver se_yX2_isOver ini_RX2 co_yX2_isOver) hd_X2_isOver rfl rfl ⟨(Nat.le_of_ble_eq_true rfl), (Nat.le_of_ble_eq_true rfl)⟩ [0, 1, 2, 3, 4, 5, 6, 7, 8, 9, 10, 11, 12] [0, 1, 2, 3, 4] rfl rfl rfl (ci := 2) (q0 := 0) rfl rfl rfl rfl rfl (Nat.le_of_ble_eq_true rfl) dX2_isAway_1 (fun r u hpo => ?_)
  obtain ⟨rfl, rfl⟩ := hpo
  refine s_st (st' := [.int (if 40 ≤ td then 1 else 0)]) rfl ?_
  refine s_ws (ws' := [(h 0, .inr (2, [.ref (h 1), .ref (h 2), .ref (h 3), .ref (h 4), .ref (h 5), .ref (h 6), .ref (h 7), .int (nI n), .ref (h 8), .ref (h 9), .ref (h 10), .ref (h 11), .int (nI td), .int z, .ref (h 12)])), (h 1, .inl (g 0, 8, .inl kd)), (h 2, .inl (g 0, 8, .inl ka)), (h 3, .inl (g 0, 8, .inl ho)), (h 4, .inl (g 0, 8, .inl fa)), (h 5, .inl (g 0, 8, .inl si)), (h 6, .inl (g 0, 8, .inl kn)), (h 7, .inl (g 0, 8, .inl aw)), (h 8, .inl (g 0, 40, .inl ev)), (h 9, .inl (g 0, 40, .inl cr)), (h 10, .inl (g 0, 40, .inl tr)), (h 11, .inl (g 0, 4, .inl lw)), (h 12, .inr (0, [.int (q 0), .int (q 1), .int (q 2), .int (q 3), .int (q 4), .int (q 5), .int (q 6), .int (q 7), .int (q 8)]))]) rfl ?_
  refine s_bif_eq (tgt := 9) B dX2_isAway_4 rfl (fun h4 => ?_) (fun h4 => ?_)
  · refine s_aload_n B dX2_isAway_9 rfl 0 rfl ?_
    refine s_get (T := TX2) B inX2 0 rfl rfl 14 (Nat.le_of_ble_eq_true rfl) fl_X2_58 rfl rfl dX2_isAway_10 ?_
    refine s_aload_n B dX2_isAway_13 rfl 0 rfl ?_
    refine s_get (T := TX2) B inX2 0 rfl rfl 0 (Nat.le_of_ble_eq_true rfl) fl_X2_9 rfl rfl dX2_isAway_14 ?_
    refine s_iload_n B dX2_isAway_17 rfl 1 rfl ?_
    refine s_ialdN B 1 0 rfl rfl dX2_isAway_18 (by omega) (by decide) ?_
    refine s_put (T := TX0) (ws' := [_, _, _, _, _, _, _, _, _, _, _, _, _]) B inX0 tyX0_ok nmX0 12 rfl rfl 0 (Nat.le_of_ble_eq_true rfl) fl_X2_75 rfl rfl rfl rfl (Nat.le_of_ble_eq_true rfl) rfl dX2_isAway_19 ?_
    refine s_aload_n B dX2_isAway_22 rfl 0 rfl ?_
    refine s_get (T := TX2) B inX2 0 rfl rfl 14 (Nat.le_of_ble_eq_true rfl) fl_X2_58 rfl rfl dX2_isAway_23 ?_
    refine s_aload_n B dX2_isAway_26 rfl 0 rfl ?_
    refine s_get (T := TX2) B inX2 0 rfl rfl 1 (Nat.le_of_ble_eq_true rfl) fl_X2_15 rfl rfl dX2_isAway_27 ?_
    refine s_iload_n B dX2_isAway_30 rfl 1 rfl ?_
    refine s_ialdN B 2 0 rfl rfl dX2_isAway_31 (by omega) (by decide) ?_
    refine s_put (T := TX0) (ws' := [_, _, _, _, _, _, _, _, _, _, _, _, _]) B inX0 tyX0_ok nmX0 12 rfl rfl 1 (Nat.le_of_ble_eq_true rfl) fl_X2_77 rfl rfl rfl rfl (Nat.le_of_ble_eq_true rfl) rfl dX2_isAway_32 ?_
    refine s_aload_n B dX2_isAway_35 rfl 0 rfl ?_
    refine s_get (T := TX2) B inX2 0 rfl rfl 14 (Nat.le_of_ble_eq_true rfl) fl_X2_58 rfl rfl dX2_isAway_36 ?_
    refine s_aload_n B dX2_isAway_39 rfl 0 rfl ?_
    refine s_get (T := TX2) B inX2 0 rfl rfl 3 (Nat.le_of_ble_eq_true rfl) fl_X2_21 rfl rfl dX2_isAway_40 ?_
    refine s_iload_n B dX2_isAway_43 rfl 1 rfl ?_
    refine s_ialdN B 4 0 rfl rfl dX2_isAway_44 (by omega) (by decide) ?_
    refine s_put (T := TX0) (ws' := [_, _, _, _, _, _, _, _, _, _, _, _, _]) B inX0 tyX0_ok nmX0 12 rfl rfl 2 (Nat.le_of_ble_eq_true rfl) fl_X2_79 rfl rfl rfl rfl (Nat.le_of_ble_eq_true rfl) rfl dX2_isAway_45 ?_
    refine s_aload_n B dX2_isAway_48 rfl 0 rfl ?_
    refine s_get (T := TX2) B inX2 0 rfl rfl 14 (Nat.le_of_ble_eq_true rfl) fl_X2_58 rfl rfl dX2_isAway_49 ?_
    refine s_aload_n B dX2_isAway_52 rfl 0 rfl ?_
    refine s_get (T := TX2) B inX2 0 rfl rfl 4 (Nat.le_of_ble_eq_true rfl) fl_X2_24 rfl rfl dX2_isAway_53 ?_
    refine s_iload_n B dX2_isAway_56 rfl 1 rfl ?_
    refine s_ialdN B 5 0 rfl rfl dX2_isAway_57 (by omega) (by decide) ?_
    refine s_put (T := TX0) (ws' := [_, _, _, _, _, _, _, _, _, _, _, _, _]) B inX0 tyX0_ok nmX0 12 rfl rfl 3 (Nat.le_of_ble_eq_true rfl) fl_X2_81 rfl rfl rfl rfl (Nat.le_of_ble_eq_true rfl) rfl dX2_isAway_58 ?_
    refine s_aload_n B dX2_isAway_61 rfl 0 rfl ?_
    refine s_get (T := TX2) B inX2 0 rfl rfl 14 (Nat.le_of_ble_eq_true rfl) fl_X2_58 rfl rfl dX2_isAway_62 ?_
    refine s_aload_n B dX2_isAway_65 rfl 0 rfl ?_
    refine s_get (T := TX2) B inX2 0 rfl rfl 5 (Nat.le_of_ble_eq_true rfl) fl_X2_27 rfl rfl dX2_isAway_66 ?_
    refine s_iload_n B dX2_isAway_69 rfl 1 rfl ?_
    refine s_ialdN B 6 0 rfl rfl dX2_isAway_70 (by omega) (by decide) ?_
    refine s_put (T := TX0) (ws' := [_, _, _, _, _, _, _, _, _, _, _, _, _]) B inX0 tyX0_ok nmX0 12 rfl rfl 4 (Nat.le_of_ble_eq_true rfl) fl_X2_83 rfl rfl rfl rfl (Nat.le_of_ble_eq_true rfl) rfl dX2_isAway_71 ?_
    refine s_aload_n B dX2_isAway_74 rfl 0 rfl ?_
    refine s_get (T := TX2) B inX2 0 rfl rfl 14 (Nat.le_of_ble_eq_true rfl) fl_X2_58 rfl rfl dX2_isAway_75 ?_
    refine s_aload_n B dX2_isAway_78 rfl 0 rfl ?_
    refine s_get (T := TX2) B inX2 0 rfl rfl 6 (Nat.le_of_ble_eq_true rfl) fl_X2_30 rfl rfl dX2_isAway_79 ?_
    refine s_iload_n B dX2_isAway_82 rfl 1 rfl ?_
    refine s_ialdN B 7 0 rfl rfl dX2_isAway_83 (by omega) (by decide) ?_
    refine s_put (T := TX0) (ws' := [_, _, _, _, _, _, _, _, _, _, _, _, _]) B inX0 tyX0_ok nmX0 12 rfl rfl 5 (Nat.le_of_ble_eq_true rfl) fl_X2_85 rfl rfl rfl rfl (Nat.le_of_ble_eq_true rfl) rfl dX2_isAway_84 ?_
    refine s_aload_n B dX2_isAway_87 rfl 0 rfl ?_
    refine s_get (T := TX2) B inX2 0 rfl rfl 14 (Nat.le_of_ble_eq_true rfl) fl_X2_58 rfl rfl dX2_isAway_88 ?_
    refine s_aload_n B dX2_isAway_91 rfl 0 rfl ?_
    refine s_get (T := TX2) B inX2 0 rfl rfl 12 (Nat.le_of_ble_eq_true rfl) fl_X2_49 rfl rfl dX2_isAway_92 ?_
    refine s_put (T := TX0) (ws' := [_, _, _, _, _, _, _, _, _, _, _, _, _]) B inX0 tyX0_ok nmX0 12 rfl rfl 6 (Nat.le_of_ble_eq_true rfl) fl_X2_87 rfl rfl rfl rfl (Nat.le_of_ble_eq_true rfl) rfl dX2_isAway_95 ?_
    refine s_aload_n B dX2_isAway_98 rfl 0 rfl ?_
    refine s_get (T := TX2) B inX2 0 rfl rfl 14 (Nat.le_of_ble_eq_true rfl) fl_X2_58 rfl rfl dX2_isAway_99 ?_
    refine s_aload_n B dX2_isAway_102 rfl 0 rfl ?_
    refine s_get (T := TX2) B inX2 0 rfl rfl 8 (Nat.le_of_ble_eq_true rfl) fl_X2_37 rfl rfl dX2_isAway_103 ?_
    refine s_aload_n B dX2_isAway_106 rfl 0 rfl ?_
    refine s_get (T := TX2) B inX2 0 rfl rfl 12 (Nat.le_of_ble_eq_true rfl) fl_X2_49 rfl rfl dX2_isAway_107 ?_
    refine s_ialdN B 8 0 rfl rfl dX2_isAway_110 (by omega) (by decide) ?_
    refine s_put (T := TX0) (ws' := [_, _, _, _, _, _, _, _, _, _, _, _, _]) B inX0 tyX0_ok nmX0 12 rfl rfl 7 (Nat.le_of_ble_eq_true rfl) fl_X2_90 rfl rfl rfl rfl (Nat.le_of_ble_eq_true rfl) rfl dX2_isAway_111 ?_
    refine s_aload_n B dX2_isAway_114 rfl 0 rfl ?_
    refine s_get (T := TX2) B inX2 0 rfl rfl 14 (Nat.le_of_ble_eq_true rfl) fl_X2_58 rfl rfl dX2_isAway_115 ?_
    refine s_aload_n B dX2_isAway_118 rfl 0 rfl ?_
    refine s_get (T := TX2) B inX2 0 rfl rfl 11 (Nat.le_of_ble_eq_true rfl) fl_X2_46 rfl rfl dX2_isAway_119 ?_
    refine s_iconst B dX2_isAway_122 ic_1 ?_
    refine s_ialdN B 11 0 rfl rfl dX2_isAway_123 (by decide) (by decide) ?_
    refine s_put (T := TX0) (ws' := [_, _, _, _, _, _, _, _, _, _, _, _, _]) B inX0 tyX0_ok nmX0 12 rfl rfl 8 (Nat.le_of_ble_eq_true rfl) fl_X2_92 rfl rfl rfl rfl (Nat.le_of_ble_eq_true rfl) rfl dX2_isAway_124 ?_
    refine s_aload_n B dX2_isAway_127 rfl 0 rfl ?_
    refine s_get (T := TX2) B inX2 0 rfl rfl 14 (Nat.le_of_ble_eq_true rfl) fl_X2_58 rfl rfl dX2_isAway_128 ?_
    refine s_callVi B hsc (c_X0_isSo l D g (h 12) (fun j => ([kd k, ka k, fa k, si k, kn k, aw k, nI td, ev td, lw 1] : List Int32).getD j 0)) (gw_V ml_X2_95 im_yX0_isSo se_yX0_isSo ini_RX0 co_yX0_isSo) hd_X0_isSo rfl rfl ⟨(Nat.le_of_ble_eq_true rfl), (Nat.le_of_ble_eq_true rfl)⟩ [12] [0, 1, 2, 3, 4] rfl rfl rfl (ci := 0) (q0 := 0) rfl rfl rfl rfl rfl (Nat.le_of_ble_eq_true rfl) dX2_isAway_131 (fun r u hpo => ?_)
    obtain ⟨rfl, rfl⟩ := hpo
    refine s_st (st' := [.int (if mAway (kd k) (ka k) (fa k) (nI td) (ev td) (decide (0 < si k)) (decide (0 < kn k)) (aw k) (lw 1) = true then 1 else 0)]) rfl ?_
    refine s_ws (ws' := [(h 0, .inr (2, [.ref (h 1), .ref (h 2), .ref (h 3), .ref (h 4), .ref (h 5), .ref (h 6), .ref (h 7), .int (nI n), .ref (h 8), .ref (h 9), .ref (h 10), .ref (h 11), .int (nI td), .int z, .ref (h 12)])), (h 1, .inl (g 0, 8, .inl kd)), (h 2, .inl (g 0, 8, .inl ka)), (h 3, .inl (g 0, 8, .inl ho)), (h 4, .inl (g 0, 8, .inl fa)), (h 5, .inl (g 0, 8, .inl si)), (h 6, .inl (g 0, 8, .inl kn)), (h 7, .inl (g 0, 8, .inl aw)), (h 8, .inl (g 0, 40, .inl ev)), (h 9, .inl (g 0, 40, .inl cr)), (h 10, .inl (g 0, 40, .inl tr)), (h 11, .inl (g 0, 4, .inl lw)), (h 12, .inr (0, [.int (kd k), .int (ka k), .int (fa k), .int (si k), .int (kn k), .int (aw k), .int (nI td), .int (ev td), .int (lw 1)]))]) rfl ?_
    refine s_zret B hQ hr dX2_isAway_134 rfl (z_if _) ?_
    exact ⟨by clear hQ B hr hsc; grind, (fun j => ([kd k, ka k, fa k, si k, kn k, aw k, nI td, ev td, lw 1] : List Int32).getD j 0), rfl⟩
  · refine s_iconst B dX2_isAway_7 ic_0 ?_
    refine s_zret B hQ hr dX2_isAway_8 rfl rfl ?_
    exact ⟨by clear hQ B hr hsc; grind, _, rfl⟩
/-- the set of those of the first k for whom f holds, as bits -/
def mBits (f : Nat → Bool) : Nat → Int32
  | 0 => 0
  | k + 1 => if f k then mBits f k ||| ((1 : Int32) <<< (nI k &&& 31)) else mBits f k
/-- WOULD, of child k of a school, on its today (never, when no day is left) -/
def mAwayOf (kd ka fa si kn aw ev lw : Nat → Int32) (td k : Nat) : Bool := decide (td < 40) && mAway (kd k) (ka k) (fa k) (nI td) (ev td) (decide (0 < si k)) (decide (0 < kn k)) (aw k) (lw 1)
def mThere (kd ka fa si kn aw ev lw : Nat → Int32) (td n : Nat) : Int32 := mBits (fun k => !mAwayOf kd ka fa si kn aw ev lw td k) n
def mSick (si : Nat → Int32) (n : Nat) : Int32 := mBits (fun k => decide (0 < si k)) n
def rmX2_thereToday : Room := { frames := 2, cells := 0, slots := 0, locals := 45 }
theorem hd_X2_thereToday : yX2_thereToday.cls = RX2 ∧ yX2_thereToday.cls ≠ "java/lang/invoke/MethodHandle" ∧ yX2_thereToday.cls ≠ "java/lang/invoke/VarHandle" ∧ (parseMethodDescriptor yX2_thereToday.desc).map (fun d => d.parameters.length) = some 0 := by decide +kernel
set_option maxHeartbeats 4000000 in
set_option maxRecDepth 100000 in
theorem c_X2_thereToday (l : Launch) (D : va_G) (g : Nat → ClassId) (h : Nat → Nat) (kd ka ho fa si kn aw : Nat → Int32) (n : Nat) (ev cr tr lw : Nat → Int32) (td : Nat) (z : Int32) (q : Nat → Int32) (htd : td ≤ 40) (hn : n ≤ 8) : Ci l yX2_thereToday (WW yX2_thereToday cX2_thereToday 3 (some FieldType.int)) rmX2_thereToday D vwCl (TY g) [.ref (h 0)] (SchC g h kd ka ho fa si kn aw n ev cr tr lw td z q) (fun r u => r = mThere kd ka fa si kn aw ev lw td n ∧ ∃ q1, u = SchC g h kd ka ho fa si kn aw n ev cr tr lw td z q1) := by
  refine ci_in (by decide) (Nat.le_of_ble_eq_true rfl) (a0 := [h 0, h 1, h 2, h 3, h 4, h 5, h 6, h 7, h 8, h 9, h 10, h 11, h 12]) rfl (fun p e s m args below meth c A Q hQ B hr hsc => ?_)
  have L4 : ∀ (jj : Nat) (k : Nat) (q : Nat → Int32), n - k < jj → (k ≤ n) → Sx p l e rmX2_thereToday s m args below meth c D vwCl A 3 Q 4 [(0, .ref (h 0)), (1, .int (mBits (fun k => !mAwayOf kd ka fa si kn aw ev lw td k) k)), (2, .int (nI k))] [] [(h 0, .inr (2, [.ref (h 1), .ref (h 2), .ref (h 3), .ref (h 4), .ref (h 5), .ref (h 6), .ref (h 7), .int (nI n), .ref (h 8), .ref (h 9), .ref (h 10), .ref (h 11), .int (nI td), .int z, .ref (h 12)])), (h 1, .inl (g 0, 8, .inl kd)), (h 2, .inl (g 0, 8, .inl ka)), (h 3, .inl (g 0, 8, .inl ho)), (h 4, .inl (g 0, 8, .inl fa)), (h 5, .inl (g 0, 8, .inl si)), (h 6, .inl (g 0, 8, .inl kn)), (h 7, .inl (g 0, 8, .inl aw)), (h 8, .inl (g 0, 40, .inl ev)), (h 9, .inl (g 0, 40, .inl cr)), (h 10, .inl (g 0, 40, .inl tr)), (h 11, .inl (g 0, 4, .inl lw)), (h 12, .inr (0, [.int (q 0), .int (q 1), .int (q 2), .int (q 3), .int (q 4), .int (q 5), .int (q 6), .int (q 7), .int (q 8)]))] := by
    intro jj
    induction jj with
    | zero => intro k q hj; exact absurd hj (Nat.not_lt_zero _)
    | succ jj ih =>
      intro k q hj hk
      refine s_iload_n B dX2_thereToday_4 rfl 2 rfl ?_
      refine s_aload_n B dX2_thereToday_5 rfl 0 rfl ?_
      refine s_get (T := TX2) B inX2 0 rfl rfl 7 (Nat.le_of_ble_eq_true rfl) fl_X2_33 rfl rfl dX2_thereToday_6 ?_
      refine s_icmp_ge (tgt := 32) B dX2_thereToday_9 rfl (fun h9 => ?_) (fun h9 => ?_)
      · replace h9 : n ≤ k := (nI_leI (a := n) (b := k) (by omega) (by omega)).mp h9
        refine s_iload_n B dX2_thereToday_32 rfl 1 rfl ?_
        refine s_iret B hQ hr dX2_thereToday_33 rfl ?_
        have e9 : k = n := by omega
        subst e9
        exact ⟨rfl, _, rfl⟩
      · replace h9 : ¬ n ≤ k := fun hh => h9 ((nI_leI (a := n) (b := k) (by omega) (by omega)).mpr hh)
        refine s_aload_n B dX2_thereToday_12 rfl 0 rfl ?_
        refine s_iload_n B dX2_thereToday_13 rfl 2 rfl ?_
        refine s_callVi B hsc (c_X2_isAway l D g h kd ka ho fa si kn aw n ev cr tr lw td z q k htd hn (by omega)) (gw_V ml_X2_98 im_yX2_isAway se_yX2_isAway ini_RX2 co_yX2_isAway) hd_X2_isAway rfl rfl ⟨(Nat.le_of_ble_eq_true rfl), (Nat.le_of_ble_eq_true rfl)⟩ [0, 1, 2, 3, 4, 5, 6, 7, 8, 9, 10, 11, 12] [0, 1, 2, 3, 4] rfl rfl rfl (ci := 2) (q0 := 0) rfl rfl rfl rfl rfl (Nat.le_of_ble_eq_true rfl) dX2_thereToday_14 (fun r u hpo => ?_)
        obtain ⟨rfl, q1, rfl⟩ := hpo
        refine s_st (st' := [.int (if 40 ≤ td then 0 else if mAway (kd k) (ka k) (fa k) (nI td) (ev td) (decide (0 < si k)) (decide (0 < kn k)) (aw k) (lw 1) then 1 else 0)]) rfl ?_
        refine s_ws (ws' := [(h 0, .inr (2, [.ref (h 1), .ref (h 2), .ref (h 3), .ref (h 4), .ref (h 5), .ref (h 6), .ref (h 7), .int (nI n), .ref (h 8), .ref (h 9), .ref (h 10), .ref (h 11), .int (nI td), .int z, .ref (h 12)])), (h 1, .inl (g 0, 8, .inl kd)), (h 2, .inl (g 0, 8, .inl ka)), (h 3, .inl (g 0, 8, .inl ho)), (h 4, .inl (g 0, 8, .inl fa)), (h 5, .inl (g 0, 8, .inl si)), (h 6, .inl (g 0, 8, .inl kn)), (h 7, .inl (g 0, 8, .inl aw)), (h 8, .inl (g 0, 40, .inl ev)), (h 9, .inl (g 0, 40, .inl cr)), (h 10, .inl (g 0, 40, .inl tr)), (h 11, .inl (g 0, 4, .inl lw)), (h 12, .inr (0, [.int (q1 0), .int (q1 1), .int (q1 2), .int (q1 3), .int (q1 4), .int (q1 5), .int (q1 6), .int (q1 7), .int (q1 8)]))]) rfl ?_
        have M26 : (¬ n ≤ k) → Sx p l e rmX2_thereToday s m args below meth c D vwCl A 3 Q 26 [(0, .ref (h 0)), (1, .int (if ¬ (if 40 ≤ td then 0 else if mAway (kd k) (ka k) (fa k) (nI td) (ev td) (decide (0 < si k)) (decide (0 < kn k)) (aw k) (lw 1) then 1 else 0) = 0 then mBits (fun k => !mAwayOf kd ka fa si kn aw ev lw td k) k else ((mBits (fun k => !mAwayOf kd ka fa si kn aw ev lw td k) k) ||| (1 <<< ((nI k) &&& 31))))), (2, .int (nI k))] [] [(h 0, .inr (2, [.ref (h 1), .ref (h 2), .ref (h 3), .ref (h 4), .ref (h 5), .ref (h 6), .ref (h 7), .int (nI n), .ref (h 8), .ref (h 9), .ref (h 10), .ref (h 11), .int (nI td), .int z, .ref (h 12)])), (h 1, .inl (g 0, 8, .inl kd)), (h 2, .inl (g 0, 8, .inl ka)), (h 3, .inl (g 0, 8, .inl ho)), (h 4, .inl (g 0, 8, .inl fa)), (h 5, .inl (g 0, 8, .inl si)), (h 6, .inl (g 0, 8, .inl kn)), (h 7, .inl (g 0, 8, .inl aw)), (h 8, .inl (g 0, 40, .inl ev)), (h 9, .inl (g 0, 40, .inl cr)), (h 10, .inl (g 0, 40, .inl tr)), (h 11, .inl (g 0, 4, .inl lw)), (h 12, .inr (0, [.int (q1 0), .int (q1 1), .int (q1 2), .int (q1 3), .int (q1 4), .int (q1 5), .int (q1 6), .int (q1 7), .int (q1 8)]))] := by
          intro hm26_0
          refine s_iinc (lv' := [(2, _), (0, _), (1, _)]) (k := 2) B dX2_thereToday_26 rfl (ii_n _) (Nat.le_of_ble_eq_true rfl) rfl ?_
          refine s_goto (tgt := 4) B dX2_thereToday_29 rfl ?_
          refine s_lv (lv' := [(0, _), (1, _), (2, _)]) [1, 2, 0] rfl ?_
          refine s_lve (lv' := [(0, .ref (h 0)), (1, .int (mBits (fun k => !mAwayOf kd ka fa si kn aw ev lw td k) (k + 1))), (2, .int (nI (k + 1)))]) (by clear hQ B hr hsc; grind [mBits, mAwayOf]) ?_
          exact ih (k + 1) q1 (by omega) (by omega)
        refine s_if_ne (tgt := 26) B dX2_thereToday_17 rfl (fun h17 => ?_) (fun h17 => ?_)
        · refine s_lv (lv' := [(0, _), (1, _), (2, _)]) [0, 1, 2] rfl ?_
          refine s_lve (lv' := [(0, .ref (h 0)), (1, .int (if ¬ (if 40 ≤ td then 0 else if mAway (kd k) (ka k) (fa k) (nI td) (ev td) (decide (0 < si k)) (decide (0 < kn k)) (aw k) (lw 1) then 1 else 0) = 0 then mBits (fun k => !mAwayOf kd ka fa si kn aw ev lw td k) k else ((mBits (fun k => !mAwayOf kd ka fa si kn aw ev lw td k) k) ||| (1 <<< ((nI k) &&& 31))))), (2, .int (nI k))]) (by first | (simp only [if_pos h9, if_neg h9, if_pos h17, if_neg h17]; done) | (clear hQ B hr hsc; grind)) ?_
          exact M26 h9
        · refine s_iload_n B dX2_thereToday_20 rfl 1 rfl ?_
          refine s_iconst B dX2_thereToday_21 ic_1 ?_
          refine s_iload_n B dX2_thereToday_22 rfl 2 rfl ?_
          refine s_ishl B dX2_thereToday_23 ?_
          refine s_ior B dX2_thereToday_24 ?_
          refine s_istore_n (lv' := [(1, _), (0, _), (2, _)]) B dX2_thereToday_25 rfl (Nat.le_of_ble_eq_true rfl) rfl ?_
          refine s_lv (lv' := [(0, _), (1, _), (2, _)]) [1, 0, 2] rfl ?_
          refine s_lve (lv' := [(0, .ref (h 0)), (1, .int (if ¬ (if 40 ≤ td then 0 else if mAway (kd k) (ka k) (fa k) (nI td) (ev td) (decide (0 < si k)) (decide (0 < kn k)) (aw k) (lw 1) then 1 else 0) = 0 then mBits (fun k => !mAwayOf kd ka fa si kn aw ev lw td k) k else ((mBits (fun k => !mAwayOf kd ka fa si kn aw ev lw td k) k) ||| (1 <<< ((nI k) &&& 31))))), (2, .int (nI k))]) (by first | (simp only [if_pos h9, if_neg h9, if_pos h17]; done) | (clear hQ B hr hsc; grind)) ?_
          exact M26 h9
  refine s_iconst B dX2_thereToday_0 ic_0 ?_
  refine s_istore_n (lv' := [(1, _), (0, _)]) B dX2_thereToday_1 rfl (Nat.le_of_ble_eq_true rfl) rfl ?_
  refine s_iconst B dX2_thereToday_2 ic_0 ?_
  refine s_istore_n (lv' := [(2, _), (1, _), (0, _)]) B dX2_thereToday_3 rfl (Nat.le_of_ble_eq_true rfl) rfl ?_
  refine s_lv (lv' := [(0, _), (1, _), (2, _)]) [2, 1, 0] rfl ?_
  refine s_lve (lv' := [(0, .ref (h 0)), (1, .int (mBits (fun k => !mAwayOf kd ka fa si kn aw ev lw td k) 0)), (2, .int (nI 0))]) (by rfl) ?_
  exact L4 (n + 1) 0 q (by omega) (by omega)
def rmX2_sickNow : Room := { frames := 0, cells := 0, slots := 0, locals := 0 }
theorem hd_X2_sickNow : yX2_sickNow.cls = RX2 ∧ yX2_sickNow.cls ≠ "java/lang/invoke/MethodHandle" ∧ yX2_sickNow.cls ≠ "java/lang/invoke/VarHandle" ∧ (parseMethodDescriptor yX2_sickNow.desc).map (fun d => d.parameters.length) = some 0 := by decide +kernel
set_option maxHeartbeats 4000000 in
set_option maxRecDepth 100000 in
theorem c_X2_sickNow (l : Launch) (D : va_G) (g : Nat → ClassId) (h : Nat → Nat) (kd ka ho fa si kn aw : Nat → Int32) (n : Nat) (ev cr tr lw : Nat → Int32) (td : Nat) (z : Int32) (q : Nat → Int32) (hn : n ≤ 8) : Ci l yX2_sickNow (WW yX2_sickNow cX2_sickNow 3 (some FieldType.int)) rmX2_sickNow D vwCl (TY g) [.ref (h 0)] (SchC g h kd ka ho fa si kn aw n ev cr tr lw td z q) (fun r u => r = mSick si n ∧ u = SchC g h kd ka ho fa si kn aw n ev cr tr lw td z q) := by
  refine ci_in (by decide) (Nat.le_of_ble_eq_true rfl) (a0 := [h 0, h 1, h 2, h 3, h 4, h 5, h 6, h 7, h 8, h 9, h 10, h 11, h 12]) rfl (fun p e s m args below meth c A Q hQ B hr hsc => ?_)
  have L4 : ∀ (jj : Nat) (k : Nat), n - k < jj → (k ≤ n) → Sx p l e rmX2_sickNow s m args below meth c D vwCl A 3 Q 4 [(0, .ref (h 0)), (1, .int (mBits (fun k => decide (0 < si k)) k)), (2, .int (nI k))] [] [(h 0, .inr (2, [.ref (h 1), .ref (h 2), .ref (h 3), .ref (h 4), .ref (h 5), .ref (h 6), .ref (h 7), .int (nI n), .ref (h 8), .ref (h 9), .ref (h 10), .ref (h 11), .int (nI td), .int z, .ref (h 12)])), (h 1, .inl (g 0, 8, .inl kd)), (h 2, .inl (g 0, 8, .inl ka)), (h 3, .inl (g 0, 8, .inl ho)), (h 4, .inl (g 0, 8, .inl fa)), (h 5, .inl (g 0, 8, .inl si)), (h 6, .inl (g 0, 8, .inl kn)), (h 7, .inl (g 0, 8, .inl aw)), (h 8, .inl (g 0, 40, .inl ev)), (h 9, .inl (g 0, 40, .inl cr)), (h 10, .inl (g 0, 40, .inl tr)), (h 11, .inl (g 0, 4, .inl lw)), (h 12, .inr (0, [.int (q 0), .int (q 1), .int (q 2), .int (q 3), .int (q 4), .int (q 5), .int (q 6), .int (q 7), .int (q 8)]))] := by
    intro jj
    induction jj with
    | zero => intro k hj; exact absurd hj (Nat.not_lt_zero _)
    | succ jj ih =>
      intro k hj hk
      have M27 : (¬ n ≤ k) → Sx p l e rmX2_sickNow s m args below meth c D vwCl A 3 Q 27 [(0, .ref (h 0)), (1, .int (if (si k) ≤ 0 then mBits (fun k => decide (0 < si k)) k else ((mBits (fun k => decide (0 < si k)) k) ||| (1 <<< ((nI k) &&& 31))))), (2, .int (nI k))] [] [(h 0, .inr (2, [.ref (h 1), .ref (h 2), .ref (h 3), .ref (h 4), .ref (h 5), .ref (h 6), .ref (h 7), .int (nI n), .ref (h 8), .ref (h 9), .ref (h 10), .ref (h 11), .int (nI td), .int z, .ref (h 12)])), (h 1, .inl (g 0, 8, .inl kd)), (h 2, .inl (g 0, 8, .inl ka)), (h 3, .inl (g 0, 8, .inl ho)), (h 4, .inl (g 0, 8, .inl fa)), (h 5, .inl (g 0, 8, .inl si)), (h 6, .inl (g 0, 8, .inl kn)), (h 7, .inl (g 0, 8, .inl aw)), (h 8, .inl (g 0, 40, .inl ev)), (h 9, .inl (g 0, 40, .inl cr)), (h 10, .inl (g 0, 40, .inl tr)), (h 11, .inl (g 0, 4, .inl lw)), (h 12, .inr (0, [.int (q 0), .int (q 1), .int (q 2), .int (q 3), .int (q 4), .int (q 5), .int (q 6), .int (q 7), .int (q 8)]))] := by
        intro hm27_0
        refine s_iinc (lv' := [(2, _), (0, _), (1, _)]) (k := 2) B dX2_sickNow_27 rfl (ii_n _) (Nat.le_of_ble_eq_true rfl) rfl ?_
        refine s_goto (tgt := 4) B dX2_sickNow_30 rfl ?_
        refine s_lv (lv' := [(0, _), (1, _), (2, _)]) [1, 2, 0] rfl ?_
        refine s_lve (lv' := [(0, .ref (h 0)), (1, .int (mBits (fun k => decide (0 < si k)) (k + 1))), (2, .int (nI (k + 1)))]) (by clear hQ B hr hsc; grind [mBits]) ?_
        exact ih (k + 1) (by omega) (by omega)
      refine s_iload_n B dX2_sickNow_4 rfl 2 rfl ?_
      refine s_aload_n B dX2_sickNow_5 rfl 0 rfl ?_
      refine s_get (T := TX2) B inX2 0 rfl rfl 7 (Nat.le_of_ble_eq_true rfl) fl_X2_33 rfl rfl dX2_sickNow_6 ?_
      refine s_icmp_ge (tgt := 33) B dX2_sickNow_9 rfl (fun h9 => ?_) (fun h9 => ?_)
      · replace h9 : n ≤ k := (nI_leI (a := n) (b := k) (by omega) (by omega)).mp h9
        refine s_iload_n B dX2_sickNow_33 rfl 1 rfl ?_
        refine s_iret B hQ hr dX2_sickNow_34 rfl ?_
        have e9 : k = n := by omega
        subst e9
        exact ⟨rfl, rfl⟩
      · replace h9 : ¬ n ≤ k := fun hh => h9 ((nI_leI (a := n) (b := k) (by omega) (by omega)).mpr hh)
        refine s_aload_n B dX2_sickNow_12 rfl 0 rfl ?_
        refine s_get (T := TX2) B inX2 0 rfl rfl 4 (Nat.le_of_ble_eq_true rfl) fl_X2_24 rfl rfl dX2_sickNow_13 ?_
        refine s_iload_n B dX2_sickNow_16 rfl 2 rfl ?_
        refine s_ialdN B 5 0 rfl rfl dX2_sickNow_17 (by omega) (by decide) ?_
        refine s_if_le (tgt := 27) B dX2_sickNow_18 rfl (fun h18 => ?_) (fun h18 => ?_)
        · refine s_lv (lv' := [(0, _), (1, _), (2, _)]) [0, 1, 2] rfl ?_
          refine s_lve (lv' := [(0, .ref (h 0)), (1, .int (if (si k) ≤ 0 then mBits (fun k => decide (0 < si k)) k else ((mBits (fun k => decide (0 < si k)) k) ||| (1 <<< ((nI k) &&& 31))))), (2, .int (nI k))]) (by first | (simp only [if_pos h9, if_neg h9, if_pos h18]; done) | (clear hQ B hr hsc; grind)) ?_
          exact M27 h9
        · refine s_iload_n B dX2_sickNow_21 rfl 1 rfl ?_
          refine s_iconst B dX2_sickNow_22 ic_1 ?_
          refine s_iload_n B dX2_sickNow_23 rfl 2 rfl ?_
          refine s_ishl B dX2_sickNow_24 ?_
          refine s_ior B dX2_sickNow_25 ?_
          refine s_istore_n (lv' := [(1, _), (0, _), (2, _)]) B dX2_sickNow_26 rfl (Nat.le_of_ble_eq_true rfl) rfl ?_
          refine s_lv (lv' := [(0, _), (1, _), (2, _)]) [1, 0, 2] rfl ?_
          refine s_lve (lv' := [(0, .ref (h 0)), (1, .int (if (si k) ≤ 0 then mBits (fun k => decide (0 < si k)) k else ((mBits (fun k => decide (0 < si k)) k) ||| (1 <<< ((nI k) &&& 31))))), (2, .int (nI k))]) (by first | (simp only [if_pos h9, if_neg h9, if_pos h18, if_neg h18]; done) | (clear hQ B hr hsc; grind)) ?_
          exact M27 h9
  refine s_iconst B dX2_sickNow_0 ic_0 ?_
  refine s_istore_n (lv' := [(1, _), (0, _)]) B dX2_sickNow_1 rfl (Nat.le_of_ble_eq_true rfl) rfl ?_
  refine s_iconst B dX2_sickNow_2 ic_0 ?_
  refine s_istore_n (lv' := [(2, _), (1, _), (0, _)]) B dX2_sickNow_3 rfl (Nat.le_of_ble_eq_true rfl) rfl ?_
  refine s_lv (lv' := [(0, _), (1, _), (2, _)]) [2, 1, 0] rfl ?_
  refine s_lve (lv' := [(0, .ref (h 0)), (1, .int (mBits (fun k => decide (0 < si k)) 0)), (2, .int (nI 0))]) (by rfl) ?_
  exact L4 (n + 1) 0 (by omega) (by omega)
/-- how many of the first k are so -/
def mCt (f : Nat → Bool) : Nat → Nat
  | 0 => 0
  | k + 1 => if f k then mCt f k + 1 else mCt f k
theorem mCt_le (f : Nat → Bool) : ∀ k, mCt f k ≤ k
  | 0 => Nat.le_refl 0
  | k + 1 => by
    have h := mCt_le f k
    unfold mCt
    split <;> omega
/-- bit k of a set -/
def mBitI (v k : Int32) : Bool := decide (¬ (v >>> (k &&& 31)) &&& 1 = 0)
abbrev mBit (v : Int32) (k : Nat) : Bool := mBitI v (nI k)
def mTouch (ho lw : Nat → Int32) (sick : Int32) (n k : Nat) : Bool :=
  decide (lw 2 ≤ nI (mCt (fun o => decide (¬ o = k) && mBit sick o && decide (ho o = ho k)) n)) || decide (4 ≤ mCt (fun o => decide (¬ o = k) && mBit sick o) n)
/-- of the first k those for whom f holds get v -/
def mSpr (f : Nat → Bool) (v : Int32) (b : Nat → Int32) (k : Nat) : Nat → Int32 := fun c => if c < k ∧ f c = true then v else b c
theorem mSpr_0 (f : Nat → Bool) (v : Int32) (b : Nat → Int32) : mSpr f v b 0 = b := by funext c; simp [mSpr]
theorem mSpr_at (f : Nat → Bool) (v : Int32) (b : Nat → Int32) (k : Nat) : mSpr f v b k k = b k := by simp [mSpr]
theorem mSpr_t {f : Nat → Bool} (v : Int32) (b : Nat → Int32) {k : Nat} (h : f k = true) : upd (mSpr f v b k) k v = mSpr f v b (k + 1) := by
  funext c
  unfold upd mSpr
  by_cases hc : c = k
  · subst hc; simp [h]
  · have e : c < k + 1 ↔ c < k := by omega
    simp [hc, e]
theorem mSpr_f {f : Nat → Bool} (v : Int32) (b : Nat → Int32) {k : Nat} (h : f k = false) : mSpr f v b k = mSpr f v b (k + 1) := by
  funext c
  unfold mSpr
  by_cases hc : c = k
  · subst hc; simp [h]
  · have e : c < k + 1 ↔ c < k := by omega
    simp [e]
/-- the first k become f of themselves -/
def mMap (f : Nat → Int32 → Int32) (b : Nat → Int32) (k : Nat) : Nat → Int32 := fun c => if c < k then f c (b c) else b c
theorem mMap_0 (f : Nat → Int32 → Int32) (b : Nat → Int32) : mMap f b 0 = b := by funext c; simp [mMap]
theorem mMap_at (f : Nat → Int32 → Int32) (b : Nat → Int32) (k : Nat) : mMap f b k k = b k := by simp [mMap]
theorem mMap_s (f : Nat → Int32 → Int32) (b : Nat → Int32) {k : Nat} {x : Int32} (h : x = f k (b k)) : upd (mMap f b k) k x = mMap f b (k + 1) := by
  funext c
  unfold upd mMap
  by_cases hc : c = k
  · subst hc; simp [h]
  · have e : c < k + 1 ↔ c < k := by omega
    simp [hc, e]
def mDec (_ : Nat) (x : Int32) : Int32 := mMax 0 (x - 1)
def mAw (there : Int32) (k : Nat) (x : Int32) : Int32 := if (there >>> (nI k &&& 31)) &&& 1 = 0 then x + 1 else 0
/-- SICK behind a DAY: one less, and those who catch it -/
def mSi1 (kd ho lw si : Nat → Int32) (n : Nat) : Nat → Int32 :=
  mSpr (fun c => decide (kd c = 5) && decide (mMap mDec si n c = 0) && mTouch ho lw (mSick si n) n c) (lw 3) (mMap mDec si n) n
/-- one knocks at door v: KNOCK of the first k -/
def mKn1 (ho lw : Nat → Int32) (v : Int32) (kn : Nat → Int32) (k : Nat) : Nat → Int32 := mSpr (fun c => decide (ho c = v)) (lw 0) kn k

section LOF
variable {ho : Nat → Int32} {sk : Int32} {o k : Nat}
theorem lo_F1 : (if (o = k) ∨ ((¬ o = k) ∧ (((sk >>> ((nI o) &&& 31)) &&& 1) = 0)) ∨ ((¬ o = k) ∧ (¬ ((sk >>> ((nI o) &&& 31)) &&& 1) = 0) ∧ (¬ (ho o) = (ho k))) then nI (mCt (fun o => decide (¬ o = k) && mBit sk o && decide (ho o = ho k)) o) else (nI ((mCt (fun o => decide (¬ o = k) && mBit sk o && decide (ho o = ho k)) o) + 1))) = nI (mCt (fun o => decide (¬ o = k) && mBit sk o && decide (ho o = ho k)) (o + 1)) := by
  have e : mCt (fun o => decide (¬ o = k) && mBit sk o && decide (ho o = ho k)) (o + 1) = if (decide (¬ o = k) && mBit sk o && decide (ho o = ho k)) = true then mCt (fun o => decide (¬ o = k) && mBit sk o && decide (ho o = ho k)) o + 1 else mCt (fun o => decide (¬ o = k) && mBit sk o && decide (ho o = ho k)) o := rfl
  rw [e]
  by_cases a : o = k
  · rw [if_pos (Or.inl a), if_neg (by simp [a])]
  · by_cases b : ((sk >>> ((nI o) &&& 31)) &&& 1) = 0
    · rw [if_pos (Or.inr (Or.inl ⟨a, b⟩)), if_neg (by simp [mBit, mBitI, b])]
    · by_cases c : ho o = ho k
      · rw [if_neg (fun q => q.elim a (fun q => q.elim (fun q => b q.2) (fun q => q.2.2 c))), if_pos (by simp [mBit, mBitI, a, b, c])]
      · rw [if_pos (Or.inr (Or.inr ⟨a, b, c⟩)), if_neg (by simp [c])]
theorem lo_F2 : (if (o = k) ∨ ((¬ o = k) ∧ (((sk >>> ((nI o) &&& 31)) &&& 1) = 0)) then nI (mCt (fun o => decide (¬ o = k) && mBit sk o) o) else (nI ((mCt (fun o => decide (¬ o = k) && mBit sk o) o) + 1))) = nI (mCt (fun o => decide (¬ o = k) && mBit sk o) (o + 1)) := by
  have e : mCt (fun o => decide (¬ o = k) && mBit sk o) (o + 1) = if (decide (¬ o = k) && mBit sk o) = true then mCt (fun o => decide (¬ o = k) && mBit sk o) o + 1 else mCt (fun o => decide (¬ o = k) && mBit sk o) o := rfl
  rw [e]
  by_cases a : o = k
  · rw [if_pos (Or.inl a), if_neg (by simp [a])]
  · by_cases b : ((sk >>> ((nI o) &&& 31)) &&& 1) = 0
    · rw [if_pos (Or.inr ⟨a, b⟩), if_neg (by simp [mBit, mBitI, b])]
    · rw [if_neg (fun q => q.elim a (fun q => b q.2)), if_pos (by simp [mBit, mBitI, a, b])]
end LOF
section TCH
variable {ho lw : Nat → Int32} {sk : Int32} {n k : Nat}
theorem touch_a (h : lw 2 ≤ nI (mCt (fun o => decide (¬ o = k) && mBit sk o && decide (ho o = ho k)) n)) : (1 : Int32) = if mTouch ho lw sk n k then 1 else 0 := by
  unfold mTouch; rw [decide_eq_true h]; rfl
theorem touch_b (hn : n ≤ 40) (h : ¬ nI (mCt (fun o => decide (¬ o = k) && mBit sk o) n) < 4) : (1 : Int32) = if mTouch ho lw sk n k then 1 else 0 := by
  have hc := mCt_le (fun o => decide (¬ o = k) && mBit sk o) n
  have h4 : 4 ≤ mCt (fun o => decide (¬ o = k) && mBit sk o) n := Nat.le_of_not_lt (fun q => h (by
    rw [show (4 : Int32) = nI 4 from rfl]
    exact (nI_ltI (show mCt (fun o => decide (¬ o = k) && mBit sk o) n < 2 ^ 31 by omega) (show 4 < 2 ^ 31 by decide)).mpr q))
  unfold mTouch; rw [decide_eq_true h4, Bool.or_true]; rfl
theorem touch_n (hn : n ≤ 40) (h1 : ¬ lw 2 ≤ nI (mCt (fun o => decide (¬ o = k) && mBit sk o && decide (ho o = ho k)) n)) (h : nI (mCt (fun o => decide (¬ o = k) && mBit sk o) n) < 4) : (0 : Int32) = if mTouch ho lw sk n k then 1 else 0 := by
  have hc := mCt_le (fun o => decide (¬ o = k) && mBit sk o) n
  have h4 : ¬ 4 ≤ mCt (fun o => decide (¬ o = k) && mBit sk o) n := fun q => by
    rw [show (4 : Int32) = nI 4 from rfl] at h
    have := (nI_ltI (show mCt (fun o => decide (¬ o = k) && mBit sk o) n < 2 ^ 31 by omega) (show 4 < 2 ^ 31 by decide)).mp h
    omega
  unfold mTouch; rw [decide_eq_false h1, decide_eq_false h4]; rfl
end TCH
def rmX2_isTouched : Room := { frames := 0, cells := 0, slots := 0, locals := 0 }
theorem hd_X2_isTouched : yX2_isTouched.cls = RX2 ∧ yX2_isTouched.cls ≠ "java/lang/invoke/MethodHandle" ∧ yX2_isTouched.cls ≠ "java/lang/invoke/VarHandle" ∧ (parseMethodDescriptor yX2_isTouched.desc).map (fun d => d.parameters.length) = some 2 := by decide +kernel
set_option maxHeartbeats 4000000 in
set_option maxRecDepth 100000 in
theorem c_X2_isTouched (l : Launch) (D : va_G) (g : Nat → ClassId) (h : Nat → Nat) (kd ka ho fa si kn aw : Nat → Int32) (n : Nat) (ev cr tr lw : Nat → Int32) (td : Nat) (z : Int32) (q : Nat → Int32) (k : Nat) (sk : Int32) (hn : n ≤ 8) (hk : k < n) : Ci l yX2_isTouched (WW yX2_isTouched cX2_isTouched 6 (some FieldType.boolean)) rmX2_isTouched D vwCl (TY g) [.ref (h 0), .int (nI k), .int sk] (SchC g h kd ka ho fa si kn aw n ev cr tr lw td z q) (fun r u => r = (if mTouch ho lw sk n k then 1 else 0) ∧ u = SchC g h kd ka ho fa si kn aw n ev cr tr lw td z q) := by
  refine ci_in (by decide) (Nat.le_of_ble_eq_true rfl) (a0 := [h 0, h 1, h 2, h 3, h 4, h 5, h 6, h 7, h 8, h 9, h 10, h 11, h 12]) rfl (fun p e s m args below meth c A Q hQ B hr hsc => ?_)
  have L8 : ∀ (jj : Nat) (o : Nat), n - o < jj → (o ≤ n) → Sx p l e rmX2_isTouched s m args below meth c D vwCl A 6 Q 8 [(0, .ref (h 0)), (1, .int (nI k)), (2, .int sk), (3, .int (nI (mCt (fun o => decide (¬ o = k) && mBit sk o && decide (ho o = ho k)) o))), (4, .int (nI (mCt (fun o => decide (¬ o = k) && mBit sk o) o))), (5, .int (nI o))] [] [(h 0, .inr (2, [.ref (h 1), .ref (h 2), .ref (h 3), .ref (h 4), .ref (h 5), .ref (h 6), .ref (h 7), .int (nI n), .ref (h 8), .ref (h 9), .ref (h 10), .ref (h 11), .int (nI td), .int z, .ref (h 12)])), (h 1, .inl (g 0, 8, .inl kd)), (h 2, .inl (g 0, 8, .inl ka)), (h 3, .inl (g 0, 8, .inl ho)), (h 4, .inl (g 0, 8, .inl fa)), (h 5, .inl (g 0, 8, .inl si)), (h 6, .inl (g 0, 8, .inl kn)), (h 7, .inl (g 0, 8, .inl aw)), (h 8, .inl (g 0, 40, .inl ev)), (h 9, .inl (g 0, 40, .inl cr)), (h 10, .inl (g 0, 40, .inl tr)), (h 11, .inl (g 0, 4, .inl lw)), (h 12, .inr (0, [.int (q 0), .int (q 1), .int (q 2), .int (q 3), .int (q 4), .int (q 5), .int (q 6), .int (q 7), .int (q 8)]))] := by
    intro jj
    induction jj with
    | zero => intro o hj; exact absurd hj (Nat.not_lt_zero _)
    | succ jj ih =>
      intro o hj hoo
      have M54 : (¬ n ≤ o) → Sx p l e rmX2_isTouched s m args below meth c D vwCl A 6 Q 54 [(0, .ref (h 0)), (1, .int (nI k)), (2, .int sk), (3, .int (if (o = k) ∨ ((¬ o = k) ∧ (((sk >>> ((nI o) &&& 31)) &&& 1) = 0)) ∨ ((¬ o = k) ∧ (¬ ((sk >>> ((nI o) &&& 31)) &&& 1) = 0) ∧ (¬ (ho o) = (ho k))) then nI (mCt (fun o => decide (¬ o = k) && mBit sk o && decide (ho o = ho k)) o) else (nI ((mCt (fun o => decide (¬ o = k) && mBit sk o && decide (ho o = ho k)) o) + 1)))), (4, .int (if (o = k) ∨ ((¬ o = k) ∧ (((sk >>> ((nI o) &&& 31)) &&& 1) = 0)) then nI (mCt (fun o => decide (¬ o = k) && mBit sk o) o) else (nI ((mCt (fun o => decide (¬ o = k) && mBit sk o) o) + 1)))), (5, .int (nI o))] [] [(h 0, .inr (2, [.ref (h 1), .ref (h 2), .ref (h 3), .ref (h 4), .ref (h 5), .ref (h 6), .ref (h 7), .int (nI n), .ref (h 8), .ref (h 9), .ref (h 10), .ref (h 11), .int (nI td), .int z, .ref (h 12)])), (h 1, .inl (g 0, 8, .inl kd)), (h 2, .inl (g 0, 8, .inl ka)), (h 3, .inl (g 0, 8, .inl ho)), (h 4, .inl (g 0, 8, .inl fa)), (h 5, .inl (g 0, 8, .inl si)), (h 6, .inl (g 0, 8, .inl kn)), (h 7, .inl (g 0, 8, .inl aw)), (h 8, .inl (g 0, 40, .inl ev)), (h 9, .inl (g 0, 40, .inl cr)), (h 10, .inl (g 0, 40, .inl tr)), (h 11, .inl (g 0, 4, .inl lw)), (h 12, .inr (0, [.int (q 0), .int (q 1), .int (q 2), .int (q 3), .int (q 4), .int (q 5), .int (q 6), .int (q 7), .int (q 8)]))] := by
        intro hm54_0
        refine s_iinc (lv' := [(5, _), (0, _), (1, _), (2, _), (3, _), (4, _)]) (k := 5) B dX2_isTouched_54 rfl (ii_n _) (Nat.le_of_ble_eq_true rfl) rfl ?_
        refine s_goto (tgt := 8) B dX2_isTouched_57 rfl ?_
        refine s_lv (lv' := [(0, _), (1, _), (2, _), (3, _), (4, _), (5, _)]) [1, 2, 3, 4, 5, 0] rfl ?_
        refine s_lve (lv' := [(0, .ref (h 0)), (1, .int (nI k)), (2, .int sk), (3, .int (nI (mCt (fun o => decide (¬ o = k) && mBit sk o && decide (ho o = ho k)) (o + 1)))), (4, .int (nI (mCt (fun o => decide (¬ o = k) && mBit sk o) (o + 1)))), (5, .int (nI (o + 1)))]) (by rw [lo_F1, lo_F2]) ?_
        exact ih (o + 1) (by omega) (by omega)
      refine s_iload B dX2_isTouched_8 5 rfl ?_
      refine s_aload_n B dX2_isTouched_10 rfl 0 rfl ?_
      refine s_get (T := TX2) B inX2 0 rfl rfl 7 (Nat.le_of_ble_eq_true rfl) fl_X2_33 rfl rfl dX2_isTouched_11 ?_
      refine s_icmp_ge (tgt := 60) B dX2_isTouched_14 rfl (fun h14 => ?_) (fun h14 => ?_)
      · replace h14 : n ≤ o := (nI_leI (a := n) (b := o) (by omega) (by omega)).mp h14
        refine s_iload_n B dX2_isTouched_60 rfl 3 rfl ?_
        refine s_aload_n B dX2_isTouched_61 rfl 0 rfl ?_
        refine s_get (T := TX2) B inX2 0 rfl rfl 11 (Nat.le_of_ble_eq_true rfl) fl_X2_46 rfl rfl dX2_isTouched_62 ?_
        refine s_iconst B dX2_isTouched_65 ic_2 ?_
        refine s_ialdN B 11 0 rfl rfl dX2_isTouched_66 (by decide) (by decide) ?_
        refine s_icmp_ge (tgt := 76) B dX2_isTouched_67 rfl (fun h67 => ?_) (fun h67 => ?_)
        · refine s_iconst B dX2_isTouched_76 ic_1 ?_
          refine s_goto (tgt := 81) B dX2_isTouched_77 rfl ?_
          refine s_zret B hQ hr dX2_isTouched_81 rfl rfl ?_
          have e9 : o = n := by omega
          subst e9
          exact ⟨(by first | exact touch_a (by assumption) | exact touch_n (by omega) (by assumption) (by assumption) | exact touch_b (by omega) (by assumption)), rfl⟩
        · refine s_iload B dX2_isTouched_70 4 rfl ?_
          refine s_iconst B dX2_isTouched_72 ic_4 ?_
          refine s_icmp_lt (tgt := 80) B dX2_isTouched_73 rfl (fun h73 => ?_) (fun h73 => ?_)
          · refine s_iconst B dX2_isTouched_80 ic_0 ?_
            refine s_zret B hQ hr dX2_isTouched_81 rfl rfl ?_
            have e9 : o = n := by omega
            subst e9
            exact ⟨(by first | exact touch_a (by assumption) | exact touch_n (by omega) (by assumption) (by assumption) | exact touch_b (by omega) (by assumption)), rfl⟩
          · refine s_iconst B dX2_isTouched_76 ic_1 ?_
            refine s_goto (tgt := 81) B dX2_isTouched_77 rfl ?_
            refine s_zret B hQ hr dX2_isTouched_81 rfl rfl ?_
            have e9 : o = n := by omega
            subst e9
            exact ⟨(by first | exact touch_a (by assumption) | exact touch_n (by omega) (by assumption) (by assumption) | exact touch_b (by omega) (by assumption)), rfl⟩
      · replace h14 : ¬ n ≤ o := fun hh => h14 ((nI_leI (a := n) (b := o) (by omega) (by omega)).mpr hh)
        refine s_iload B dX2_isTouched_17 5 rfl ?_
        refine s_iload_n B dX2_isTouched_19 rfl 1 rfl ?_
        refine s_icmp_eq (tgt := 54) B dX2_isTouched_20 rfl (fun h20 => ?_) (fun h20 => ?_)
        · replace h20 : o = k := (nI_eq (a := o) (b := k) (by omega) (by omega)).mp h20
          refine s_lv (lv' := [(0, _), (1, _), (2, _), (3, _), (4, _), (5, _)]) [0, 1, 2, 3, 4, 5] rfl ?_
          refine s_lve (lv' := [(0, .ref (h 0)), (1, .int (nI k)), (2, .int sk), (3, .int (if (o = k) ∨ ((¬ o = k) ∧ (((sk >>> ((nI o) &&& 31)) &&& 1) = 0)) ∨ ((¬ o = k) ∧ (¬ ((sk >>> ((nI o) &&& 31)) &&& 1) = 0) ∧ (¬ (ho o) = (ho k))) then nI (mCt (fun o => decide (¬ o = k) && mBit sk o && decide (ho o = ho k)) o) else (nI ((mCt (fun o => decide (¬ o = k) && mBit sk o && decide (ho o = ho k)) o) + 1)))), (4, .int (if (o = k) ∨ ((¬ o = k) ∧ (((sk >>> ((nI o) &&& 31)) &&& 1) = 0)) then nI (mCt (fun o => decide (¬ o = k) && mBit sk o) o) else (nI ((mCt (fun o => decide (¬ o = k) && mBit sk o) o) + 1)))), (5, .int (nI o))]) (by first | (simp only [if_pos h14, if_neg h14, if_pos h20]; done) | (clear hQ B hr hsc; grind)) ?_
          exact M54 h14
        · replace h20 : ¬ o = k := fun hh => h20 ((nI_eq (a := o) (b := k) (by omega) (by omega)).mpr hh)
          refine s_iload_n B dX2_isTouched_23 rfl 2 rfl ?_
          refine s_iload B dX2_isTouched_24 5 rfl ?_
          refine s_ishr B dX2_isTouched_26 ?_
          refine s_iconst B dX2_isTouched_27 ic_1 ?_
          refine s_iand B dX2_isTouched_28 ?_
          refine s_if_eq (tgt := 54) B dX2_isTouched_29 rfl (fun h29 => ?_) (fun h29 => ?_)
          · refine s_lv (lv' := [(0, _), (1, _), (2, _), (3, _), (4, _), (5, _)]) [0, 1, 2, 3, 4, 5] rfl ?_
            refine s_lve (lv' := [(0, .ref (h 0)), (1, .int (nI k)), (2, .int sk), (3, .int (if (o = k) ∨ ((¬ o = k) ∧ (((sk >>> ((nI o) &&& 31)) &&& 1) = 0)) ∨ ((¬ o = k) ∧ (¬ ((sk >>> ((nI o) &&& 31)) &&& 1) = 0) ∧ (¬ (ho o) = (ho k))) then nI (mCt (fun o => decide (¬ o = k) && mBit sk o && decide (ho o = ho k)) o) else (nI ((mCt (fun o => decide (¬ o = k) && mBit sk o && decide (ho o = ho k)) o) + 1)))), (4, .int (if (o = k) ∨ ((¬ o = k) ∧ (((sk >>> ((nI o) &&& 31)) &&& 1) = 0)) then nI (mCt (fun o => decide (¬ o = k) && mBit sk o) o) else (nI ((mCt (fun o => decide (¬ o = k) && mBit sk o) o) + 1)))), (5, .int (nI o))]) (by first | (simp only [if_pos h14, if_neg h14, if_pos h20, if_neg h20, if_pos h29]; done) | (clear hQ B hr hsc; grind)) ?_
            exact M54 h14
          · refine s_iinc (lv' := [(4, _), (0, _), (1, _), (2, _), (3, _), (5, _)]) (k := 4) B dX2_isTouched_32 rfl (ii_n _) (Nat.le_of_ble_eq_true rfl) rfl ?_
            refine s_aload_n B dX2_isTouched_35 rfl 1 rfl ?_
            refine s_get (T := TX2) B inX2 0 rfl rfl 2 (Nat.le_of_ble_eq_true rfl) fl_X2_18 rfl rfl dX2_isTouched_36 ?_
            refine s_iload B dX2_isTouched_39 5 rfl ?_
            refine s_ialdN B 3 0 rfl rfl dX2_isTouched_41 (by omega) (by decide) ?_
            refine s_aload_n B dX2_isTouched_42 rfl 1 rfl ?_
            refine s_get (T := TX2) B inX2 0 rfl rfl 2 (Nat.le_of_ble_eq_true rfl) fl_X2_18 rfl rfl dX2_isTouched_43 ?_
            refine s_iload_n B dX2_isTouched_46 rfl 2 rfl ?_
            refine s_ialdN B 3 0 rfl rfl dX2_isTouched_47 (by omega) (by decide) ?_
            refine s_icmp_ne (tgt := 54) B dX2_isTouched_48 rfl (fun h48 => ?_) (fun h48 => ?_)
            · refine s_lv (lv' := [(0, _), (1, _), (2, _), (3, _), (4, _), (5, _)]) [1, 2, 3, 4, 0, 5] rfl ?_
              refine s_lve (lv' := [(0, .ref (h 0)), (1, .int (nI k)), (2, .int sk), (3, .int (if (o = k) ∨ ((¬ o = k) ∧ (((sk >>> ((nI o) &&& 31)) &&& 1) = 0)) ∨ ((¬ o = k) ∧ (¬ ((sk >>> ((nI o) &&& 31)) &&& 1) = 0) ∧ (¬ (ho o) = (ho k))) then nI (mCt (fun o => decide (¬ o = k) && mBit sk o && decide (ho o = ho k)) o) else (nI ((mCt (fun o => decide (¬ o = k) && mBit sk o && decide (ho o = ho k)) o) + 1)))), (4, .int (if (o = k) ∨ ((¬ o = k) ∧ (((sk >>> ((nI o) &&& 31)) &&& 1) = 0)) then nI (mCt (fun o => decide (¬ o = k) && mBit sk o) o) else (nI ((mCt (fun o => decide (¬ o = k) && mBit sk o) o) + 1)))), (5, .int (nI o))]) (by first | (simp only [if_pos h14, if_neg h14, if_pos h20, if_neg h20, if_pos h29, if_neg h29, if_pos h48, if_neg h48]; done) | (clear hQ B hr hsc; grind)) ?_
              exact M54 h14
            · refine s_iinc (lv' := [(3, _), (4, _), (0, _), (1, _), (2, _), (5, _)]) (k := 4) B dX2_isTouched_51 rfl (ii_n _) (Nat.le_of_ble_eq_true rfl) rfl ?_
              refine s_lv (lv' := [(0, _), (1, _), (2, _), (3, _), (4, _), (5, _)]) [2, 3, 4, 0, 1, 5] rfl ?_
              refine s_lve (lv' := [(0, .ref (h 0)), (1, .int (nI k)), (2, .int sk), (3, .int (if (o = k) ∨ ((¬ o = k) ∧ (((sk >>> ((nI o) &&& 31)) &&& 1) = 0)) ∨ ((¬ o = k) ∧ (¬ ((sk >>> ((nI o) &&& 31)) &&& 1) = 0) ∧ (¬ (ho o) = (ho k))) then nI (mCt (fun o => decide (¬ o = k) && mBit sk o && decide (ho o = ho k)) o) else (nI ((mCt (fun o => decide (¬ o = k) && mBit sk o && decide (ho o = ho k)) o) + 1)))), (4, .int (if (o = k) ∨ ((¬ o = k) ∧ (((sk >>> ((nI o) &&& 31)) &&& 1) = 0)) then nI (mCt (fun o => decide (¬ o = k) && mBit sk o) o) else (nI ((mCt (fun o => decide (¬ o = k) && mBit sk o) o) + 1)))), (5, .int (nI o))]) (by first | (simp only [if_pos h14, if_neg h14, if_pos h20, if_neg h20, if_pos h29, if_neg h29, if_pos h48]; done) | (clear hQ B hr hsc; grind)) ?_
              exact M54 h14
  refine s_iconst B dX2_isTouched_0 ic_0 ?_
  refine s_istore_n (lv' := [(3, _), (0, _), (1, _), (2, _)]) B dX2_isTouched_1 rfl (Nat.le_of_ble_eq_true rfl) rfl ?_
  refine s_iconst B dX2_isTouched_2 ic_0 ?_
  refine s_istore (lv' := [(4, _), (3, _), (0, _), (1, _), (2, _)]) B dX2_isTouched_3 (Nat.le_of_ble_eq_true rfl) rfl ?_
  refine s_iconst B dX2_isTouched_5 ic_0 ?_
  refine s_istore (lv' := [(5, _), (4, _), (3, _), (0, _), (1, _), (2, _)]) B dX2_isTouched_6 (Nat.le_of_ble_eq_true rfl) rfl ?_
  refine s_lv (lv' := [(0, _), (1, _), (2, _), (3, _), (4, _), (5, _)]) [3, 4, 5, 2, 1, 0] rfl ?_
  refine s_lve (lv' := [(0, .ref (h 0)), (1, .int (nI k)), (2, .int sk), (3, .int (nI (mCt (fun o => decide (¬ o = k) && mBit sk o && decide (ho o = ho k)) 0))), (4, .int (nI (mCt (fun o => decide (¬ o = k) && mBit sk o) 0))), (5, .int (nI 0))]) (by rfl) ?_
  exact L8 (n + 1) 0 (by omega) (by omega)
def rmX2_spreadFrom : Room := { frames := 1, cells := 0, slots := 0, locals := 25 }
theorem hd_X2_spreadFrom : yX2_spreadFrom.cls = RX2 ∧ yX2_spreadFrom.cls ≠ "java/lang/invoke/MethodHandle" ∧ yX2_spreadFrom.cls ≠ "java/lang/invoke/VarHandle" ∧ (parseMethodDescriptor yX2_spreadFrom.desc).map (fun d => d.parameters.length) = some 1 := by decide +kernel
set_option maxHeartbeats 4000000 in
set_option maxRecDepth 100000 in
theorem c_X2_spreadFrom (l : Launch) (D : va_G) (g : Nat → ClassId) (h : Nat → Nat) (kd ka ho fa si kn aw : Nat → Int32) (n : Nat) (ev cr tr lw : Nat → Int32) (td : Nat) (z : Int32) (q : Nat → Int32) (sk : Int32) (hn : n ≤ 8) : Cv l yX2_spreadFrom (WW yX2_spreadFrom cX2_spreadFrom 3 none) rmX2_spreadFrom D vwCl (TY g) [.ref (h 0), .int sk] (SchC g h kd ka ho fa si kn aw n ev cr tr lw td z q) (fun u => u = SchC g h kd ka ho fa (mSpr (fun c => decide (kd c = 5) && decide (si c = 0) && mTouch ho lw sk n c) (lw 3) si n) kn aw n ev cr tr lw td z q) := by
  refine cv_in (by decide) (Nat.le_of_ble_eq_true rfl) (a0 := [h 0, h 1, h 2, h 3, h 4, h 5, h 6, h 7, h 8, h 9, h 10, h 11, h 12]) rfl (fun p e s m args below meth c A Q hQ B hr hsc => ?_)
  have L2 : ∀ (jj : Nat) (k : Nat), n - k < jj → (k ≤ n) → Sx p l e rmX2_spreadFrom s m args below meth c D vwCl A 3 Q 2 [(0, .ref (h 0)), (1, .int sk), (2, .int (nI k))] [] [(h 0, .inr (2, [.ref (h 1), .ref (h 2), .ref (h 3), .ref (h 4), .ref (h 5), .ref (h 6), .ref (h 7), .int (nI n), .ref (h 8), .ref (h 9), .ref (h 10), .ref (h 11), .int (nI td), .int z, .ref (h 12)])), (h 1, .inl (g 0, 8, .inl kd)), (h 2, .inl (g 0, 8, .inl ka)), (h 3, .inl (g 0, 8, .inl ho)), (h 4, .inl (g 0, 8, .inl fa)), (h 5, .inl (g 0, 8, .inl (mSpr (fun c => decide (kd c = 5) && decide (si c = 0) && mTouch ho lw sk n c) (lw 3) si k))), (h 6, .inl (g 0, 8, .inl kn)), (h 7, .inl (g 0, 8, .inl aw)), (h 8, .inl (g 0, 40, .inl ev)), (h 9, .inl (g 0, 40, .inl cr)), (h 10, .inl (g 0, 40, .inl tr)), (h 11, .inl (g 0, 4, .inl lw)), (h 12, .inr (0, [.int (q 0), .int (q 1), .int (q 2), .int (q 3), .int (q 4), .int (q 5), .int (q 6), .int (q 7), .int (q 8)]))] := by
    intro jj
    induction jj with
    | zero => intro k hj; exact absurd hj (Nat.not_lt_zero _)
    | succ jj ih =>
      intro k hj hk
      refine s_iload_n B dX2_spreadFrom_2 rfl 2 rfl ?_
      refine s_aload_n B dX2_spreadFrom_3 rfl 0 rfl ?_
      refine s_get (T := TX2) B inX2 0 rfl rfl 7 (Nat.le_of_ble_eq_true rfl) fl_X2_33 rfl rfl dX2_spreadFrom_4 ?_
      refine s_icmp_ge (tgt := 56) B dX2_spreadFrom_7 rfl (fun h7 => ?_) (fun h7 => ?_)
      · replace h7 : n ≤ k := (nI_leI (a := n) (b := k) (by omega) (by omega)).mp h7
        refine s_vret B hQ hr dX2_spreadFrom_56 rfl ?_
        have e9 : k = n := by omega
        subst e9
        rfl
      · replace h7 : ¬ n ≤ k := fun hh => h7 ((nI_leI (a := n) (b := k) (by omega) (by omega)).mpr hh)
        refine s_aload_n B dX2_spreadFrom_10 rfl 0 rfl ?_
        refine s_get (T := TX2) B inX2 0 rfl rfl 0 (Nat.le_of_ble_eq_true rfl) fl_X2_9 rfl rfl dX2_spreadFrom_11 ?_
        refine s_iload_n B dX2_spreadFrom_14 rfl 2 rfl ?_
        refine s_ialdN B 1 0 rfl rfl dX2_spreadFrom_15 (by omega) (by decide) ?_
        refine s_iconst B dX2_spreadFrom_16 ic_5 ?_
        refine s_icmp_ne (tgt := 50) B dX2_spreadFrom_17 rfl (fun h17 => ?_) (fun h17 => ?_)
        · refine s_iinc (lv' := [(2, _), (0, _), (1, _)]) (k := 2) B dX2_spreadFrom_50 rfl (ii_n _) (Nat.le_of_ble_eq_true rfl) rfl ?_
          refine s_goto (tgt := 2) B dX2_spreadFrom_53 rfl ?_
          refine s_lv (lv' := [(0, _), (1, _), (2, _)]) [1, 2, 0] rfl ?_
          refine s_ws (ws' := [(h 0, .inr (2, [.ref (h 1), .ref (h 2), .ref (h 3), .ref (h 4), .ref (h 5), .ref (h 6), .ref (h 7), .int (nI n), .ref (h 8), .ref (h 9), .ref (h 10), .ref (h 11), .int (nI td), .int z, .ref (h 12)])), (h 1, .inl (g 0, 8, .inl kd)), (h 2, .inl (g 0, 8, .inl ka)), (h 3, .inl (g 0, 8, .inl ho)), (h 4, .inl (g 0, 8, .inl fa)), (h 5, .inl (g 0, 8, .inl (mSpr (fun c => decide (kd c = 5) && decide (si c = 0) && mTouch ho lw sk n c) (lw 3) si (k + 1)))), (h 6, .inl (g 0, 8, .inl kn)), (h 7, .inl (g 0, 8, .inl aw)), (h 8, .inl (g 0, 40, .inl ev)), (h 9, .inl (g 0, 40, .inl cr)), (h 10, .inl (g 0, 40, .inl tr)), (h 11, .inl (g 0, 4, .inl lw)), (h 12, .inr (0, [.int (q 0), .int (q 1), .int (q 2), .int (q 3), .int (q 4), .int (q 5), .int (q 6), .int (q 7), .int (q 8)]))]) (by clear hQ B hr hsc; first | (rw [mSpr_t (f := fun c => decide (kd c = 5) && decide (si c = 0) && mTouch ho lw sk n c) (lw 3) si (by clear ih; grind)]; done) | (rw [mSpr_f (f := fun c => decide (kd c = 5) && decide (si c = 0) && mTouch ho lw sk n c) (lw 3) si (by clear ih; grind)]; done)) ?_
          exact ih (k + 1) (by omega) (by omega)
        · refine s_aload_n B dX2_spreadFrom_20 rfl 0 rfl ?_
          refine s_get (T := TX2) B inX2 0 rfl rfl 4 (Nat.le_of_ble_eq_true rfl) fl_X2_24 rfl rfl dX2_spreadFrom_21 ?_
          refine s_iload_n B dX2_spreadFrom_24 rfl 2 rfl ?_
          refine s_ialdN B 5 0 rfl rfl dX2_spreadFrom_25 (by omega) (by decide) ?_
          refine s_st (st' := [.int (si k)]) (by rw [mSpr_at]) ?_
          refine s_if_ne (tgt := 50) B dX2_spreadFrom_26 rfl (fun h26 => ?_) (fun h26 => ?_)
          · refine s_iinc (lv' := [(2, _), (0, _), (1, _)]) (k := 2) B dX2_spreadFrom_50 rfl (ii_n _) (Nat.le_of_ble_eq_true rfl) rfl ?_
            refine s_goto (tgt := 2) B dX2_spreadFrom_53 rfl ?_
            refine s_lv (lv' := [(0, _), (1, _), (2, _)]) [1, 2, 0] rfl ?_
            refine s_ws (ws' := [(h 0, .inr (2, [.ref (h 1), .ref (h 2), .ref (h 3), .ref (h 4), .ref (h 5), .ref (h 6), .ref (h 7), .int (nI n), .ref (h 8), .ref (h 9), .ref (h 10), .ref (h 11), .int (nI td), .int z, .ref (h 12)])), (h 1, .inl (g 0, 8, .inl kd)), (h 2, .inl (g 0, 8, .inl ka)), (h 3, .inl (g 0, 8, .inl ho)), (h 4, .inl (g 0, 8, .inl fa)), (h 5, .inl (g 0, 8, .inl (mSpr (fun c => decide (kd c = 5) && decide (si c = 0) && mTouch ho lw sk n c) (lw 3) si (k + 1)))), (h 6, .inl (g 0, 8, .inl kn)), (h 7, .inl (g 0, 8, .inl aw)), (h 8, .inl (g 0, 40, .inl ev)), (h 9, .inl (g 0, 40, .inl cr)), (h 10, .inl (g 0, 40, .inl tr)), (h 11, .inl (g 0, 4, .inl lw)), (h 12, .inr (0, [.int (q 0), .int (q 1), .int (q 2), .int (q 3), .int (q 4), .int (q 5), .int (q 6), .int (q 7), .int (q 8)]))]) (by clear hQ B hr hsc; first | (rw [mSpr_t (f := fun c => decide (kd c = 5) && decide (si c = 0) && mTouch ho lw sk n c) (lw 3) si (by clear ih; grind)]; done) | (rw [mSpr_f (f := fun c => decide (kd c = 5) && decide (si c = 0) && mTouch ho lw sk n c) (lw 3) si (by clear ih; grind)]; done)) ?_
            exact ih (k + 1) (by omega) (by omega)
          · refine s_aload_n B dX2_spreadFrom_29 rfl 0 rfl ?_
            refine s_iload_n B dX2_spreadFrom_30 rfl 2 rfl ?_
            refine s_iload_n B dX2_spreadFrom_31 rfl 1 rfl ?_
            refine s_callVi B hsc (c_X2_isTouched l D g h kd ka ho fa (mSpr (fun c => decide (kd c = 5) && decide (si c = 0) && mTouch ho lw sk n c) (lw 3) si k) kn aw n ev cr tr lw td z q k sk hn (by omega)) (gw_V ml_X2_119 im_yX2_isTouched se_yX2_isTouched ini_RX2 co_yX2_isTouched) hd_X2_isTouched rfl rfl ⟨(Nat.le_of_ble_eq_true rfl), (Nat.le_of_ble_eq_true rfl)⟩ [0, 1, 2, 3, 4, 5, 6, 7, 8, 9, 10, 11, 12] [0, 1, 2, 3, 4] rfl rfl rfl (ci := 2) (q0 := 0) rfl rfl rfl rfl rfl (Nat.le_of_ble_eq_true rfl) dX2_spreadFrom_32 (fun r u hpo => ?_)
            obtain ⟨rfl, rfl⟩ := hpo
            refine s_st (st' := [.int (if mTouch ho lw sk n k = true then 1 else 0)]) rfl ?_
            refine s_ws (ws' := [(h 0, .inr (2, [.ref (h 1), .ref (h 2), .ref (h 3), .ref (h 4), .ref (h 5), .ref (h 6), .ref (h 7), .int (nI n), .ref (h 8), .ref (h 9), .ref (h 10), .ref (h 11), .int (nI td), .int z, .ref (h 12)])), (h 1, .inl (g 0, 8, .inl kd)), (h 2, .inl (g 0, 8, .inl ka)), (h 3, .inl (g 0, 8, .inl ho)), (h 4, .inl (g 0, 8, .inl fa)), (h 5, .inl (g 0, 8, .inl (mSpr (fun c => decide (kd c = 5) && decide (si c = 0) && mTouch ho lw sk n c) (lw 3) si k))), (h 6, .inl (g 0, 8, .inl kn)), (h 7, .inl (g 0, 8, .inl aw)), (h 8, .inl (g 0, 40, .inl ev)), (h 9, .inl (g 0, 40, .inl cr)), (h 10, .inl (g 0, 40, .inl tr)), (h 11, .inl (g 0, 4, .inl lw)), (h 12, .inr (0, [.int (q 0), .int (q 1), .int (q 2), .int (q 3), .int (q 4), .int (q 5), .int (q 6), .int (q 7), .int (q 8)]))]) rfl ?_
            refine s_bif_eq (tgt := 50) B dX2_spreadFrom_35 rfl (fun h35 => ?_) (fun h35 => ?_)
            · refine s_iinc (lv' := [(2, _), (0, _), (1, _)]) (k := 2) B dX2_spreadFrom_50 rfl (ii_n _) (Nat.le_of_ble_eq_true rfl) rfl ?_
              refine s_goto (tgt := 2) B dX2_spreadFrom_53 rfl ?_
              refine s_lv (lv' := [(0, _), (1, _), (2, _)]) [1, 2, 0] rfl ?_
              refine s_ws (ws' := [(h 0, .inr (2, [.ref (h 1), .ref (h 2), .ref (h 3), .ref (h 4), .ref (h 5), .ref (h 6), .ref (h 7), .int (nI n), .ref (h 8), .ref (h 9), .ref (h 10), .ref (h 11), .int (nI td), .int z, .ref (h 12)])), (h 1, .inl (g 0, 8, .inl kd)), (h 2, .inl (g 0, 8, .inl ka)), (h 3, .inl (g 0, 8, .inl ho)), (h 4, .inl (g 0, 8, .inl fa)), (h 5, .inl (g 0, 8, .inl (mSpr (fun c => decide (kd c = 5) && decide (si c = 0) && mTouch ho lw sk n c) (lw 3) si (k + 1)))), (h 6, .inl (g 0, 8, .inl kn)), (h 7, .inl (g 0, 8, .inl aw)), (h 8, .inl (g 0, 40, .inl ev)), (h 9, .inl (g 0, 40, .inl cr)), (h 10, .inl (g 0, 40, .inl tr)), (h 11, .inl (g 0, 4, .inl lw)), (h 12, .inr (0, [.int (q 0), .int (q 1), .int (q 2), .int (q 3), .int (q 4), .int (q 5), .int (q 6), .int (q 7), .int (q 8)]))]) (by clear hQ B hr hsc; first | (rw [mSpr_t (f := fun c => decide (kd c = 5) && decide (si c = 0) && mTouch ho lw sk n c) (lw 3) si (by clear ih; grind)]; done) | (rw [mSpr_f (f := fun c => decide (kd c = 5) && decide (si c = 0) && mTouch ho lw sk n c) (lw 3) si (by clear ih; grind)]; done)) ?_
              exact ih (k + 1) (by omega) (by omega)
            · refine s_aload_n B dX2_spreadFrom_38 rfl 0 rfl ?_
              refine s_get (T := TX2) B inX2 0 rfl rfl 4 (Nat.le_of_ble_eq_true rfl) fl_X2_24 rfl rfl dX2_spreadFrom_39 ?_
              refine s_iload_n B dX2_spreadFrom_42 rfl 2 rfl ?_
              refine s_aload_n B dX2_spreadFrom_43 rfl 0 rfl ?_
              refine s_get (T := TX2) B inX2 0 rfl rfl 11 (Nat.le_of_ble_eq_true rfl) fl_X2_46 rfl rfl dX2_spreadFrom_44 ?_
              refine s_iconst B dX2_spreadFrom_47 ic_3 ?_
              refine s_ialdN B 11 0 rfl rfl dX2_spreadFrom_48 (by decide) (by decide) ?_
              refine s_iastN (ws' := [_, _, _, _, _, _, _, _, _, _, _, _, _]) B 5 0 rfl rfl rfl dX2_spreadFrom_49 (by omega) (by decide) ?_
              refine s_iinc (lv' := [(2, _), (0, _), (1, _)]) (k := 2) B dX2_spreadFrom_50 rfl (ii_n _) (Nat.le_of_ble_eq_true rfl) rfl ?_
              refine s_goto (tgt := 2) B dX2_spreadFrom_53 rfl ?_
              refine s_lv (lv' := [(0, _), (1, _), (2, _)]) [1, 2, 0] rfl ?_
              refine s_ws (ws' := [(h 0, .inr (2, [.ref (h 1), .ref (h 2), .ref (h 3), .ref (h 4), .ref (h 5), .ref (h 6), .ref (h 7), .int (nI n), .ref (h 8), .ref (h 9), .ref (h 10), .ref (h 11), .int (nI td), .int z, .ref (h 12)])), (h 1, .inl (g 0, 8, .inl kd)), (h 2, .inl (g 0, 8, .inl ka)), (h 3, .inl (g 0, 8, .inl ho)), (h 4, .inl (g 0, 8, .inl fa)), (h 5, .inl (g 0, 8, .inl (mSpr (fun c => decide (kd c = 5) && decide (si c = 0) && mTouch ho lw sk n c) (lw 3) si (k + 1)))), (h 6, .inl (g 0, 8, .inl kn)), (h 7, .inl (g 0, 8, .inl aw)), (h 8, .inl (g 0, 40, .inl ev)), (h 9, .inl (g 0, 40, .inl cr)), (h 10, .inl (g 0, 40, .inl tr)), (h 11, .inl (g 0, 4, .inl lw)), (h 12, .inr (0, [.int (q 0), .int (q 1), .int (q 2), .int (q 3), .int (q 4), .int (q 5), .int (q 6), .int (q 7), .int (q 8)]))]) (by clear hQ B hr hsc; first | (rw [mSpr_t (f := fun c => decide (kd c = 5) && decide (si c = 0) && mTouch ho lw sk n c) (lw 3) si (by clear ih; grind)]; done) | (rw [mSpr_f (f := fun c => decide (kd c = 5) && decide (si c = 0) && mTouch ho lw sk n c) (lw 3) si (by clear ih; grind)]; done)) ?_
              exact ih (k + 1) (by omega) (by omega)
  refine s_iconst B dX2_spreadFrom_0 ic_0 ?_
  refine s_istore_n (lv' := [(2, _), (0, _), (1, _)]) B dX2_spreadFrom_1 rfl (Nat.le_of_ble_eq_true rfl) rfl ?_
  refine s_lv (lv' := [(0, _), (1, _), (2, _)]) [1, 2, 0] rfl ?_
  refine s_lve (lv' := [(0, .ref (h 0)), (1, .int sk), (2, .int (nI 0))]) (by rfl) ?_
  refine s_ws (ws' := [(h 0, .inr (2, [.ref (h 1), .ref (h 2), .ref (h 3), .ref (h 4), .ref (h 5), .ref (h 6), .ref (h 7), .int (nI n), .ref (h 8), .ref (h 9), .ref (h 10), .ref (h 11), .int (nI td), .int z, .ref (h 12)])), (h 1, .inl (g 0, 8, .inl kd)), (h 2, .inl (g 0, 8, .inl ka)), (h 3, .inl (g 0, 8, .inl ho)), (h 4, .inl (g 0, 8, .inl fa)), (h 5, .inl (g 0, 8, .inl (mSpr (fun c => decide (kd c = 5) && decide (si c = 0) && mTouch ho lw sk n c) (lw 3) si 0))), (h 6, .inl (g 0, 8, .inl kn)), (h 7, .inl (g 0, 8, .inl aw)), (h 8, .inl (g 0, 40, .inl ev)), (h 9, .inl (g 0, 40, .inl cr)), (h 10, .inl (g 0, 40, .inl tr)), (h 11, .inl (g 0, 4, .inl lw)), (h 12, .inr (0, [.int (q 0), .int (q 1), .int (q 2), .int (q 3), .int (q 4), .int (q 5), .int (q 6), .int (q 7), .int (q 8)]))]) (by rw [mSpr_0]) ?_
  exact L2 (n + 1) 0 (by omega) (by omega)
def rmX2_goOneDay : Room := { frames := 3, cells := 0, slots := 0, locals := 67 }
theorem hd_X2_goOneDay : yX2_goOneDay.cls = RX2 ∧ yX2_goOneDay.cls ≠ "java/lang/invoke/MethodHandle" ∧ yX2_goOneDay.cls ≠ "java/lang/invoke/VarHandle" ∧ (parseMethodDescriptor yX2_goOneDay.desc).map (fun d => d.parameters.length) = some 0 := by decide +kernel
set_option maxHeartbeats 4000000 in
set_option maxRecDepth 100000 in
theorem c_X2_goOneDay (l : Launch) (D : va_G) (g : Nat → ClassId) (h : Nat → Nat) (kd ka ho fa si kn aw : Nat → Int32) (n : Nat) (ev cr tr lw : Nat → Int32) (td : Nat) (z : Int32) (q : Nat → Int32) (htd : td < 40) (hn : n ≤ 8) : Ci l yX2_goOneDay (WW yX2_goOneDay cX2_goOneDay 4 (some FieldType.int)) rmX2_goOneDay D vwCl (TY g) [.ref (h 0)] (SchC g h kd ka ho fa si kn aw n ev cr tr lw td z q) (fun r u => r = mThere kd ka fa si kn aw ev lw td n ∧ ∃ q1, u = SchC g h kd ka ho fa (mSi1 kd ho lw si n) (mMap mDec kn n) (mMap (mAw (mThere kd ka fa si kn aw ev lw td n)) aw n) n ev (upd cr td (mThere kd ka fa si kn aw ev lw td n)) (upd tr td (mThere kd ka fa si kn aw ev lw td n)) lw (td + 1) z q1) := by
  refine ci_in (by decide) (Nat.le_of_ble_eq_true rfl) (a0 := [h 0, h 1, h 2, h 3, h 4, h 5, h 6, h 7, h 8, h 9, h 10, h 11, h 12]) rfl (fun p e s m args below meth c A Q hQ B hr hsc => ?_)
  have BODY : ∀ q2 : Nat → Int32, Sx p l e rmX2_goOneDay s m args below meth c D vwCl A 4 Q 41 [(0, .ref (h 0)), (1, .int (mThere kd ka fa si kn aw ev lw td n)), (2, .int (mSick si n)), (3, .int (nI 0))] [] [(h 0, .inr (2, [.ref (h 1), .ref (h 2), .ref (h 3), .ref (h 4), .ref (h 5), .ref (h 6), .ref (h 7), .int (nI n), .ref (h 8), .ref (h 9), .ref (h 10), .ref (h 11), .int (nI td), .int z, .ref (h 12)])), (h 1, .inl (g 0, 8, .inl kd)), (h 2, .inl (g 0, 8, .inl ka)), (h 3, .inl (g 0, 8, .inl ho)), (h 4, .inl (g 0, 8, .inl fa)), (h 5, .inl (g 0, 8, .inl (mMap mDec si 0))), (h 6, .inl (g 0, 8, .inl (mMap mDec kn 0))), (h 7, .inl (g 0, 8, .inl (mMap (mAw (mThere kd ka fa si kn aw ev lw td n)) aw 0))), (h 8, .inl (g 0, 40, .inl ev)), (h 9, .inl (g 0, 40, .inl (upd cr td (mThere kd ka fa si kn aw ev lw td n)))), (h 10, .inl (g 0, 40, .inl (upd tr td (mThere kd ka fa si kn aw ev lw td n)))), (h 11, .inl (g 0, 4, .inl lw)), (h 12, .inr (0, [.int (q2 0), .int (q2 1), .int (q2 2), .int (q2 3), .int (q2 4), .int (q2 5), .int (q2 6), .int (q2 7), .int (q2 8)]))] := by
    intro q2
    have X117 : Sx p l e rmX2_goOneDay s m args below meth c D vwCl A 4 Q 117 [(0, .ref (h 0)), (1, .int (mThere kd ka fa si kn aw ev lw td n)), (2, .int (mSick si n)), (3, .int (nI n))] [] [(h 0, .inr (2, [.ref (h 1), .ref (h 2), .ref (h 3), .ref (h 4), .ref (h 5), .ref (h 6), .ref (h 7), .int (nI n), .ref (h 8), .ref (h 9), .ref (h 10), .ref (h 11), .int (nI td), .int z, .ref (h 12)])), (h 1, .inl (g 0, 8, .inl kd)), (h 2, .inl (g 0, 8, .inl ka)), (h 3, .inl (g 0, 8, .inl ho)), (h 4, .inl (g 0, 8, .inl fa)), (h 5, .inl (g 0, 8, .inl (mMap mDec si n))), (h 6, .inl (g 0, 8, .inl (mMap mDec kn n))), (h 7, .inl (g 0, 8, .inl (mMap (mAw (mThere kd ka fa si kn aw ev lw td n)) aw n))), (h 8, .inl (g 0, 40, .inl ev)), (h 9, .inl (g 0, 40, .inl (upd cr td (mThere kd ka fa si kn aw ev lw td n)))), (h 10, .inl (g 0, 40, .inl (upd tr td (mThere kd ka fa si kn aw ev lw td n)))), (h 11, .inl (g 0, 4, .inl lw)), (h 12, .inr (0, [.int (q2 0), .int (q2 1), .int (q2 2), .int (q2 3), .int (q2 4), .int (q2 5), .int (q2 6), .int (q2 7), .int (q2 8)]))] := by
      refine s_aload_n B dX2_goOneDay_117 rfl 0 rfl ?_
      refine s_iload_n B dX2_goOneDay_118 rfl 2 rfl ?_
      refine s_callVv B hsc (c_X2_spreadFrom l D g h kd ka ho fa (mMap mDec si n) (mMap mDec kn n) (mMap (mAw (mThere kd ka fa si kn aw ev lw td n)) aw n) n ev (upd cr td (mThere kd ka fa si kn aw ev lw td n)) (upd tr td (mThere kd ka fa si kn aw ev lw td n)) lw td z q2 (mSick si n) hn) (gw_V ml_X2_115 im_yX2_spreadFrom se_yX2_spreadFrom ini_RX2 co_yX2_spreadFrom) hd_X2_spreadFrom rfl rfl ⟨(Nat.le_of_ble_eq_true rfl), (Nat.le_of_ble_eq_true rfl)⟩ [0, 1, 2, 3, 4, 5, 6, 7, 8, 9, 10, 11, 12] [0, 1, 2, 3, 4] rfl rfl rfl (ci := 2) (q0 := 0) rfl rfl rfl rfl rfl (Nat.le_of_ble_eq_true rfl) dX2_goOneDay_119 (fun u hpo => ?_)
      obtain rfl := hpo
      refine s_ws (ws' := [(h 0, .inr (2, [.ref (h 1), .ref (h 2), .ref (h 3), .ref (h 4), .ref (h 5), .ref (h 6), .ref (h 7), .int (nI n), .ref (h 8), .ref (h 9), .ref (h 10), .ref (h 11), .int (nI td), .int z, .ref (h 12)])), (h 1, .inl (g 0, 8, .inl kd)), (h 2, .inl (g 0, 8, .inl ka)), (h 3, .inl (g 0, 8, .inl ho)), (h 4, .inl (g 0, 8, .inl fa)), (h 5, .inl (g 0, 8, .inl (mSi1 kd ho lw si n))), (h 6, .inl (g 0, 8, .inl (mMap mDec kn n))), (h 7, .inl (g 0, 8, .inl (mMap (mAw (mThere kd ka fa si kn aw ev lw td n)) aw n))), (h 8, .inl (g 0, 40, .inl ev)), (h 9, .inl (g 0, 40, .inl (upd cr td (mThere kd ka fa si kn aw ev lw td n)))), (h 10, .inl (g 0, 40, .inl (upd tr td (mThere kd ka fa si kn aw ev lw td n)))), (h 11, .inl (g 0, 4, .inl lw)), (h 12, .inr (0, [.int (q2 0), .int (q2 1), .int (q2 2), .int (q2 3), .int (q2 4), .int (q2 5), .int (q2 6), .int (q2 7), .int (q2 8)]))]) rfl ?_
      refine s_aload_n B dX2_goOneDay_122 rfl 0 rfl ?_
      refine s_dup B dX2_goOneDay_123 rfl ?_
      refine s_get (T := TX2) B inX2 0 rfl rfl 12 (Nat.le_of_ble_eq_true rfl) fl_X2_49 rfl rfl dX2_goOneDay_124 ?_
      refine s_iconst B dX2_goOneDay_127 ic_1 ?_
      refine s_iaddE B dX2_goOneDay_128 (nI_add td 1) ?_
      refine s_put (T := TX2) (ws' := [_, _, _, _, _, _, _, _, _, _, _, _, _]) B inX2 tyX2_ok nmX2 0 rfl rfl 12 (Nat.le_of_ble_eq_true rfl) fl_X2_49 rfl rfl rfl rfl (Nat.le_of_ble_eq_true rfl) rfl dX2_goOneDay_129 ?_
      refine s_iload_n B dX2_goOneDay_132 rfl 1 rfl ?_
      refine s_iret B hQ hr dX2_goOneDay_133 rfl ?_
      exact ⟨rfl, _, rfl⟩
    have L41 : ∀ (jj : Nat) (k : Nat), n - k < jj → (k ≤ n) → Sx p l e rmX2_goOneDay s m args below meth c D vwCl A 4 Q 41 [(0, .ref (h 0)), (1, .int (mThere kd ka fa si kn aw ev lw td n)), (2, .int (mSick si n)), (3, .int (nI k))] [] [(h 0, .inr (2, [.ref (h 1), .ref (h 2), .ref (h 3), .ref (h 4), .ref (h 5), .ref (h 6), .ref (h 7), .int (nI n), .ref (h 8), .ref (h 9), .ref (h 10), .ref (h 11), .int (nI td), .int z, .ref (h 12)])), (h 1, .inl (g 0, 8, .inl kd)), (h 2, .inl (g 0, 8, .inl ka)), (h 3, .inl (g 0, 8, .inl ho)), (h 4, .inl (g 0, 8, .inl fa)), (h 5, .inl (g 0, 8, .inl (mMap mDec si k))), (h 6, .inl (g 0, 8, .inl (mMap mDec kn k))), (h 7, .inl (g 0, 8, .inl (mMap (mAw (mThere kd ka fa si kn aw ev lw td n)) aw k))), (h 8, .inl (g 0, 40, .inl ev)), (h 9, .inl (g 0, 40, .inl (upd cr td (mThere kd ka fa si kn aw ev lw td n)))), (h 10, .inl (g 0, 40, .inl (upd tr td (mThere kd ka fa si kn aw ev lw td n)))), (h 11, .inl (g 0, 4, .inl lw)), (h 12, .inr (0, [.int (q2 0), .int (q2 1), .int (q2 2), .int (q2 3), .int (q2 4), .int (q2 5), .int (q2 6), .int (q2 7), .int (q2 8)]))] := by
      intro jj
      induction jj with
      | zero => intro k hj; exact absurd hj (Nat.not_lt_zero _)
      | succ jj ih =>
        intro k hj hk
        have M74 : (¬ n ≤ k) → Sx p l e rmX2_goOneDay s m args below meth c D vwCl A 4 Q 74 [(0, .ref (h 0)), (1, .int (mThere kd ka fa si kn aw ev lw td n)), (2, .int (mSick si n)), (3, .int (nI k))] [.int (if (((mThere kd ka fa si kn aw ev lw td n) >>> ((nI k) &&& 31)) &&& 1) = 0 then (aw k) + 1 else 0), .int (nI k), .ref (h 7)] [(h 0, .inr (2, [.ref (h 1), .ref (h 2), .ref (h 3), .ref (h 4), .ref (h 5), .ref (h 6), .ref (h 7), .int (nI n), .ref (h 8), .ref (h 9), .ref (h 10), .ref (h 11), .int (nI td), .int z, .ref (h 12)])), (h 1, .inl (g 0, 8, .inl kd)), (h 2, .inl (g 0, 8, .inl ka)), (h 3, .inl (g 0, 8, .inl ho)), (h 4, .inl (g 0, 8, .inl fa)), (h 5, .inl (g 0, 8, .inl (mMap mDec si k))), (h 6, .inl (g 0, 8, .inl (mMap mDec kn k))), (h 7, .inl (g 0, 8, .inl (mMap (mAw (mThere kd ka fa si kn aw ev lw td n)) aw k))), (h 8, .inl (g 0, 40, .inl ev)), (h 9, .inl (g 0, 40, .inl (upd cr td (mThere kd ka fa si kn aw ev lw td n)))), (h 10, .inl (g 0, 40, .inl (upd tr td (mThere kd ka fa si kn aw ev lw td n)))), (h 11, .inl (g 0, 4, .inl lw)), (h 12, .inr (0, [.int (q2 0), .int (q2 1), .int (q2 2), .int (q2 3), .int (q2 4), .int (q2 5), .int (q2 6), .int (q2 7), .int (q2 8)]))] := by
          intro hm74_0
          refine s_iastN (ws' := [_, _, _, _, _, _, _, _, _, _, _, _, _]) B 7 0 rfl rfl rfl dX2_goOneDay_74 (by omega) (by decide) ?_
          refine s_ws (ws' := [(h 0, .inr (2, [.ref (h 1), .ref (h 2), .ref (h 3), .ref (h 4), .ref (h 5), .ref (h 6), .ref (h 7), .int (nI n), .ref (h 8), .ref (h 9), .ref (h 10), .ref (h 11), .int (nI td), .int z, .ref (h 12)])), (h 1, .inl (g 0, 8, .inl kd)), (h 2, .inl (g 0, 8, .inl ka)), (h 3, .inl (g 0, 8, .inl ho)), (h 4, .inl (g 0, 8, .inl fa)), (h 5, .inl (g 0, 8, .inl (mMap mDec si k))), (h 6, .inl (g 0, 8, .inl (mMap mDec kn k))), (h 7, .inl (g 0, 8, .inl (mMap (mAw (mThere kd ka fa si kn aw ev lw td n)) aw (k + 1)))), (h 8, .inl (g 0, 40, .inl ev)), (h 9, .inl (g 0, 40, .inl (upd cr td (mThere kd ka fa si kn aw ev lw td n)))), (h 10, .inl (g 0, 40, .inl (upd tr td (mThere kd ka fa si kn aw ev lw td n)))), (h 11, .inl (g 0, 4, .inl lw)), (h 12, .inr (0, [.int (q2 0), .int (q2 1), .int (q2 2), .int (q2 3), .int (q2 4), .int (q2 5), .int (q2 6), .int (q2 7), .int (q2 8)]))]) (by rw [mMap_s (mAw (mThere kd ka fa si kn aw ev lw td n)) aw (by unfold mAw; rfl)]) ?_
          refine s_aload_n B dX2_goOneDay_75 rfl 0 rfl ?_
          refine s_get (T := TX2) B inX2 0 rfl rfl 4 (Nat.le_of_ble_eq_true rfl) fl_X2_24 rfl rfl dX2_goOneDay_76 ?_
          refine s_iload_n B dX2_goOneDay_79 rfl 3 rfl ?_
          refine s_iconst B dX2_goOneDay_80 ic_0 ?_
          refine s_aload_n B dX2_goOneDay_81 rfl 0 rfl ?_
          refine s_get (T := TX2) B inX2 0 rfl rfl 4 (Nat.le_of_ble_eq_true rfl) fl_X2_24 rfl rfl dX2_goOneDay_82 ?_
          refine s_iload_n B dX2_goOneDay_85 rfl 3 rfl ?_
          refine s_ialdN B 5 0 rfl rfl dX2_goOneDay_86 (by omega) (by decide) ?_
          refine s_st (st' := [.int (si k), .int 0, .int (nI k), .ref (h 5)]) (by rw [mMap_at]) ?_
          refine s_iconst B dX2_goOneDay_87 ic_1 ?_
          refine s_isub B dX2_goOneDay_88 ?_
          refine s_max B ml_X2_109 (Nat.le_of_ble_eq_true rfl) (Nat.le_of_ble_eq_true rfl) dX2_goOneDay_89 ?_
          refine s_iastN (ws' := [_, _, _, _, _, _, _, _, _, _, _, _, _]) B 5 0 rfl rfl rfl dX2_goOneDay_92 (by omega) (by decide) ?_
          refine s_ws (ws' := [(h 0, .inr (2, [.ref (h 1), .ref (h 2), .ref (h 3), .ref (h 4), .ref (h 5), .ref (h 6), .ref (h 7), .int (nI n), .ref (h 8), .ref (h 9), .ref (h 10), .ref (h 11), .int (nI td), .int z, .ref (h 12)])), (h 1, .inl (g 0, 8, .inl kd)), (h 2, .inl (g 0, 8, .inl ka)), (h 3, .inl (g 0, 8, .inl ho)), (h 4, .inl (g 0, 8, .inl fa)), (h 5, .inl (g 0, 8, .inl (mMap mDec si (k + 1)))), (h 6, .inl (g 0, 8, .inl (mMap mDec kn k))), (h 7, .inl (g 0, 8, .inl (mMap (mAw (mThere kd ka fa si kn aw ev lw td n)) aw (k + 1)))), (h 8, .inl (g 0, 40, .inl ev)), (h 9, .inl (g 0, 40, .inl (upd cr td (mThere kd ka fa si kn aw ev lw td n)))), (h 10, .inl (g 0, 40, .inl (upd tr td (mThere kd ka fa si kn aw ev lw td n)))), (h 11, .inl (g 0, 4, .inl lw)), (h 12, .inr (0, [.int (q2 0), .int (q2 1), .int (q2 2), .int (q2 3), .int (q2 4), .int (q2 5), .int (q2 6), .int (q2 7), .int (q2 8)]))]) (by rw [mMap_s mDec si (by unfold mDec; rfl)]) ?_
          refine s_aload_n B dX2_goOneDay_93 rfl 0 rfl ?_
          refine s_get (T := TX2) B inX2 0 rfl rfl 5 (Nat.le_of_ble_eq_true rfl) fl_X2_27 rfl rfl dX2_goOneDay_94 ?_
          refine s_iload_n B dX2_goOneDay_97 rfl 3 rfl ?_
          refine s_iconst B dX2_goOneDay_98 ic_0 ?_
          refine s_aload_n B dX2_goOneDay_99 rfl 0 rfl ?_
          refine s_get (T := TX2) B inX2 0 rfl rfl 5 (Nat.le_of_ble_eq_true rfl) fl_X2_27 rfl rfl dX2_goOneDay_100 ?_
          refine s_iload_n B dX2_goOneDay_103 rfl 3 rfl ?_
          refine s_ialdN B 6 0 rfl rfl dX2_goOneDay_104 (by omega) (by decide) ?_
          refine s_st (st' := [.int (kn k), .int 0, .int (nI k), .ref (h 6)]) (by rw [mMap_at]) ?_
          refine s_iconst B dX2_goOneDay_105 ic_1 ?_
          refine s_isub B dX2_goOneDay_106 ?_
          refine s_max B ml_X2_109 (Nat.le_of_ble_eq_true rfl) (Nat.le_of_ble_eq_true rfl) dX2_goOneDay_107 ?_
          refine s_iastN (ws' := [_, _, _, _, _, _, _, _, _, _, _, _, _]) B 6 0 rfl rfl rfl dX2_goOneDay_110 (by omega) (by decide) ?_
          refine s_ws (ws' := [(h 0, .inr (2, [.ref (h 1), .ref (h 2), .ref (h 3), .ref (h 4), .ref (h 5), .ref (h 6), .ref (h 7), .int (nI n), .ref (h 8), .ref (h 9), .ref (h 10), .ref (h 11), .int (nI td), .int z, .ref (h 12)])), (h 1, .inl (g 0, 8, .inl kd)), (h 2, .inl (g 0, 8, .inl ka)), (h 3, .inl (g 0, 8, .inl ho)), (h 4, .inl (g 0, 8, .inl fa)), (h 5, .inl (g 0, 8, .inl (mMap mDec si (k + 1)))), (h 6, .inl (g 0, 8, .inl (mMap mDec kn (k + 1)))), (h 7, .inl (g 0, 8, .inl (mMap (mAw (mThere kd ka fa si kn aw ev lw td n)) aw (k + 1)))), (h 8, .inl (g 0, 40, .inl ev)), (h 9, .inl (g 0, 40, .inl (upd cr td (mThere kd ka fa si kn aw ev lw td n)))), (h 10, .inl (g 0, 40, .inl (upd tr td (mThere kd ka fa si kn aw ev lw td n)))), (h 11, .inl (g 0, 4, .inl lw)), (h 12, .inr (0, [.int (q2 0), .int (q2 1), .int (q2 2), .int (q2 3), .int (q2 4), .int (q2 5), .int (q2 6), .int (q2 7), .int (q2 8)]))]) (by rw [mMap_s mDec kn (by unfold mDec; rfl)]) ?_
          refine s_iinc (lv' := [(3, _), (0, _), (1, _), (2, _)]) (k := 3) B dX2_goOneDay_111 rfl (ii_n _) (Nat.le_of_ble_eq_true rfl) rfl ?_
          refine s_goto (tgt := 41) B dX2_goOneDay_114 rfl ?_
          refine s_lv (lv' := [(0, _), (1, _), (2, _), (3, _)]) [1, 2, 3, 0] rfl ?_
          exact ih (k + 1) (by omega) (by omega)
        refine s_iload_n B dX2_goOneDay_41 rfl 3 rfl ?_
        refine s_aload_n B dX2_goOneDay_42 rfl 0 rfl ?_
        refine s_get (T := TX2) B inX2 0 rfl rfl 7 (Nat.le_of_ble_eq_true rfl) fl_X2_33 rfl rfl dX2_goOneDay_43 ?_
        refine s_icmp_ge (tgt := 117) B dX2_goOneDay_46 rfl (fun h46 => ?_) (fun h46 => ?_)
        · replace h46 : n ≤ k := (nI_leI (a := n) (b := k) (by omega) (by omega)).mp h46
          have e9 : k = n := by omega
          subst e9
          exact X117
        · replace h46 : ¬ n ≤ k := fun hh => h46 ((nI_leI (a := n) (b := k) (by omega) (by omega)).mpr hh)
          refine s_aload_n B dX2_goOneDay_49 rfl 0 rfl ?_
          refine s_get (T := TX2) B inX2 0 rfl rfl 6 (Nat.le_of_ble_eq_true rfl) fl_X2_30 rfl rfl dX2_goOneDay_50 ?_
          refine s_iload_n B dX2_goOneDay_53 rfl 3 rfl ?_
          refine s_iload_n B dX2_goOneDay_54 rfl 1 rfl ?_
          refine s_iload_n B dX2_goOneDay_55 rfl 3 rfl ?_
          refine s_ishr B dX2_goOneDay_56 ?_
          refine s_iconst B dX2_goOneDay_57 ic_1 ?_
          refine s_iand B dX2_goOneDay_58 ?_
          refine s_if_eq (tgt := 66) B dX2_goOneDay_59 rfl (fun h59 => ?_) (fun h59 => ?_)
          · refine s_aload_n B dX2_goOneDay_66 rfl 0 rfl ?_
            refine s_get (T := TX2) B inX2 0 rfl rfl 6 (Nat.le_of_ble_eq_true rfl) fl_X2_30 rfl rfl dX2_goOneDay_67 ?_
            refine s_iload_n B dX2_goOneDay_70 rfl 3 rfl ?_
            refine s_ialdN B 7 0 rfl rfl dX2_goOneDay_71 (by omega) (by decide) ?_
            refine s_st (st' := [.int (aw k), .int (nI k), .ref (h 7)]) (by rw [mMap_at]) ?_
            refine s_iconst B dX2_goOneDay_72 ic_1 ?_
            refine s_iadd B dX2_goOneDay_73 ?_
            refine s_lv (lv' := [(0, _), (1, _), (2, _), (3, _)]) [0, 1, 2, 3] rfl ?_
            refine s_st (st' := [.int (if (((mThere kd ka fa si kn aw ev lw td n) >>> ((nI k) &&& 31)) &&& 1) = 0 then (aw k) + 1 else 0), .int (nI k), .ref (h 7)]) (by first | (simp only [if_pos h46, if_neg h46, if_pos h59]; done) | (clear hQ B hr hsc; grind)) ?_
            exact M74 h46
          · refine s_iconst B dX2_goOneDay_62 ic_0 ?_
            refine s_goto (tgt := 74) B dX2_goOneDay_63 rfl ?_
            refine s_lv (lv' := [(0, _), (1, _), (2, _), (3, _)]) [0, 1, 2, 3] rfl ?_
            refine s_st (st' := [.int (if (((mThere kd ka fa si kn aw ev lw td n) >>> ((nI k) &&& 31)) &&& 1) = 0 then (aw k) + 1 else 0), .int (nI k), .ref (h 7)]) (by first | (simp only [if_pos h46, if_neg h46, if_pos h59, if_neg h59]; done) | (clear hQ B hr hsc; grind)) ?_
            exact M74 h46
    exact L41 (n + 1) 0 (by omega) (by omega)
  refine s_aload_n B dX2_goOneDay_0 rfl 0 rfl ?_
  refine s_callVi B hsc (c_X2_isOver l D g h kd ka ho fa si kn aw n ev cr tr lw td z q (by omega)) (gw_V ml_X2_71 im_yX2_isOver se_yX2_isOver ini_RX2 co_yX2_isOver) hd_X2_isOver rfl rfl ⟨(Nat.le_of_ble_eq_true rfl), (Nat.le_of_ble_eq_true rfl)⟩ [0, 1, 2, 3, 4, 5, 6, 7, 8, 9, 10, 11, 12] [0, 1, 2, 3, 4] rfl rfl rfl (ci := 2) (q0 := 0) rfl rfl rfl rfl rfl (Nat.le_of_ble_eq_true rfl) dX2_goOneDay_1 (fun r u hpo => ?_)
  obtain ⟨rfl, rfl⟩ := hpo
  refine s_st (st' := [.int (if 40 ≤ td then 1 else 0)]) rfl ?_
  refine s_ws (ws' := [(h 0, .inr (2, [.ref (h 1), .ref (h 2), .ref (h 3), .ref (h 4), .ref (h 5), .ref (h 6), .ref (h 7), .int (nI n), .ref (h 8), .ref (h 9), .ref (h 10), .ref (h 11), .int (nI td), .int z, .ref (h 12)])), (h 1, .inl (g 0, 8, .inl kd)), (h 2, .inl (g 0, 8, .inl ka)), (h 3, .inl (g 0, 8, .inl ho)), (h 4, .inl (g 0, 8, .inl fa)), (h 5, .inl (g 0, 8, .inl si)), (h 6, .inl (g 0, 8, .inl kn)), (h 7, .inl (g 0, 8, .inl aw)), (h 8, .inl (g 0, 40, .inl ev)), (h 9, .inl (g 0, 40, .inl cr)), (h 10, .inl (g 0, 40, .inl tr)), (h 11, .inl (g 0, 4, .inl lw)), (h 12, .inr (0, [.int (q 0), .int (q 1), .int (q 2), .int (q 3), .int (q 4), .int (q 5), .int (q 6), .int (q 7), .int (q 8)]))]) rfl ?_
  refine s_bif_eq (tgt := 9) B dX2_goOneDay_4 rfl (fun h4 => ?_) (fun h4 => ?_)
  · refine s_aload_n B dX2_goOneDay_9 rfl 0 rfl ?_
    refine s_callVi B hsc (c_X2_thereToday l D g h kd ka ho fa si kn aw n ev cr tr lw td z q (by omega) hn) (gw_V ml_X2_102 im_yX2_thereToday se_yX2_thereToday ini_RX2 co_yX2_thereToday) hd_X2_thereToday rfl rfl ⟨(Nat.le_of_ble_eq_true rfl), (Nat.le_of_ble_eq_true rfl)⟩ [0, 1, 2, 3, 4, 5, 6, 7, 8, 9, 10, 11, 12] [0, 1, 2, 3, 4] rfl rfl rfl (ci := 2) (q0 := 0) rfl rfl rfl rfl rfl (Nat.le_of_ble_eq_true rfl) dX2_goOneDay_10 (fun r u hpo => ?_)
    obtain ⟨rfl, q2, rfl⟩ := hpo
    refine s_st (st' := [.int (mThere kd ka fa si kn aw ev lw td n)]) rfl ?_
    refine s_ws (ws' := [(h 0, .inr (2, [.ref (h 1), .ref (h 2), .ref (h 3), .ref (h 4), .ref (h 5), .ref (h 6), .ref (h 7), .int (nI n), .ref (h 8), .ref (h 9), .ref (h 10), .ref (h 11), .int (nI td), .int z, .ref (h 12)])), (h 1, .inl (g 0, 8, .inl kd)), (h 2, .inl (g 0, 8, .inl ka)), (h 3, .inl (g 0, 8, .inl ho)), (h 4, .inl (g 0, 8, .inl fa)), (h 5, .inl (g 0, 8, .inl si)), (h 6, .inl (g 0, 8, .inl kn)), (h 7, .inl (g 0, 8, .inl aw)), (h 8, .inl (g 0, 40, .inl ev)), (h 9, .inl (g 0, 40, .inl cr)), (h 10, .inl (g 0, 40, .inl tr)), (h 11, .inl (g 0, 4, .inl lw)), (h 12, .inr (0, [.int (q2 0), .int (q2 1), .int (q2 2), .int (q2 3), .int (q2 4), .int (q2 5), .int (q2 6), .int (q2 7), .int (q2 8)]))]) rfl ?_
    refine s_istore_n (lv' := [(1, _), (0, _)]) B dX2_goOneDay_13 rfl (Nat.le_of_ble_eq_true rfl) rfl ?_
    refine s_aload_n B dX2_goOneDay_14 rfl 1 rfl ?_
    refine s_callVi B hsc (c_X2_sickNow l D g h kd ka ho fa si kn aw n ev cr tr lw td z q2 hn) (gw_V ml_X2_106 im_yX2_sickNow se_yX2_sickNow ini_RX2 co_yX2_sickNow) hd_X2_sickNow rfl rfl ⟨(Nat.le_of_ble_eq_true rfl), (Nat.le_of_ble_eq_true rfl)⟩ [0, 1, 2, 3, 4, 5, 6, 7, 8, 9, 10, 11, 12] [0, 1, 2, 3, 4] rfl rfl rfl (ci := 2) (q0 := 0) rfl rfl rfl rfl rfl (Nat.le_of_ble_eq_true rfl) dX2_goOneDay_15 (fun r u hpo => ?_)
    obtain ⟨rfl, rfl⟩ := hpo
    refine s_st (st' := [.int (mSick si n)]) rfl ?_
    refine s_ws (ws' := [(h 0, .inr (2, [.ref (h 1), .ref (h 2), .ref (h 3), .ref (h 4), .ref (h 5), .ref (h 6), .ref (h 7), .int (nI n), .ref (h 8), .ref (h 9), .ref (h 10), .ref (h 11), .int (nI td), .int z, .ref (h 12)])), (h 1, .inl (g 0, 8, .inl kd)), (h 2, .inl (g 0, 8, .inl ka)), (h 3, .inl (g 0, 8, .inl ho)), (h 4, .inl (g 0, 8, .inl fa)), (h 5, .inl (g 0, 8, .inl si)), (h 6, .inl (g 0, 8, .inl kn)), (h 7, .inl (g 0, 8, .inl aw)), (h 8, .inl (g 0, 40, .inl ev)), (h 9, .inl (g 0, 40, .inl cr)), (h 10, .inl (g 0, 40, .inl tr)), (h 11, .inl (g 0, 4, .inl lw)), (h 12, .inr (0, [.int (q2 0), .int (q2 1), .int (q2 2), .int (q2 3), .int (q2 4), .int (q2 5), .int (q2 6), .int (q2 7), .int (q2 8)]))]) rfl ?_
    refine s_istore_n (lv' := [(2, _), (1, _), (0, _)]) B dX2_goOneDay_18 rfl (Nat.le_of_ble_eq_true rfl) rfl ?_
    refine s_aload_n B dX2_goOneDay_19 rfl 2 rfl ?_
    refine s_get (T := TX2) B inX2 0 rfl rfl 9 (Nat.le_of_ble_eq_true rfl) fl_X2_40 rfl rfl dX2_goOneDay_20 ?_
    refine s_aload_n B dX2_goOneDay_23 rfl 2 rfl ?_
    refine s_get (T := TX2) B inX2 0 rfl rfl 12 (Nat.le_of_ble_eq_true rfl) fl_X2_49 rfl rfl dX2_goOneDay_24 ?_
    refine s_iload_n B dX2_goOneDay_27 rfl 1 rfl ?_
    refine s_iastN (ws' := [_, _, _, _, _, _, _, _, _, _, _, _, _]) B 9 0 rfl rfl rfl dX2_goOneDay_28 (by omega) (by decide) ?_
    refine s_aload_n B dX2_goOneDay_29 rfl 2 rfl ?_
    refine s_get (T := TX2) B inX2 0 rfl rfl 10 (Nat.le_of_ble_eq_true rfl) fl_X2_43 rfl rfl dX2_goOneDay_30 ?_
    refine s_aload_n B dX2_goOneDay_33 rfl 2 rfl ?_
    refine s_get (T := TX2) B inX2 0 rfl rfl 12 (Nat.le_of_ble_eq_true rfl) fl_X2_49 rfl rfl dX2_goOneDay_34 ?_
    refine s_iload_n B dX2_goOneDay_37 rfl 1 rfl ?_
    refine s_iastN (ws' := [_, _, _, _, _, _, _, _, _, _, _, _, _]) B 10 0 rfl rfl rfl dX2_goOneDay_38 (by omega) (by decide) ?_
    refine s_iconst B dX2_goOneDay_39 ic_0 ?_
    refine s_istore_n (lv' := [(3, _), (2, _), (1, _), (0, _)]) B dX2_goOneDay_40 rfl (Nat.le_of_ble_eq_true rfl) rfl ?_
    refine s_lv (lv' := [(0, _), (1, _), (2, _), (3, _)]) [3, 2, 1, 0] rfl ?_
    refine s_lve (lv' := [(0, .ref (h 0)), (1, .int (mThere kd ka fa si kn aw ev lw td n)), (2, .int (mSick si n)), (3, .int (nI 0))]) (by rfl) ?_
    refine s_ws (ws' := [(h 0, .inr (2, [.ref (h 1), .ref (h 2), .ref (h 3), .ref (h 4), .ref (h 5), .ref (h 6), .ref (h 7), .int (nI n), .ref (h 8), .ref (h 9), .ref (h 10), .ref (h 11), .int (nI td), .int z, .ref (h 12)])), (h 1, .inl (g 0, 8, .inl kd)), (h 2, .inl (g 0, 8, .inl ka)), (h 3, .inl (g 0, 8, .inl ho)), (h 4, .inl (g 0, 8, .inl fa)), (h 5, .inl (g 0, 8, .inl (mMap mDec si 0))), (h 6, .inl (g 0, 8, .inl (mMap mDec kn 0))), (h 7, .inl (g 0, 8, .inl (mMap (mAw (mThere kd ka fa si kn aw ev lw td n)) aw 0))), (h 8, .inl (g 0, 40, .inl ev)), (h 9, .inl (g 0, 40, .inl (upd cr td (mThere kd ka fa si kn aw ev lw td n)))), (h 10, .inl (g 0, 40, .inl (upd tr td (mThere kd ka fa si kn aw ev lw td n)))), (h 11, .inl (g 0, 4, .inl lw)), (h 12, .inr (0, [.int (q2 0), .int (q2 1), .int (q2 2), .int (q2 3), .int (q2 4), .int (q2 5), .int (q2 6), .int (q2 7), .int (q2 8)]))]) (by rw [mMap_0, mMap_0, mMap_0]) ?_
    exact BODY q2
  · refine s_iconst B dX2_goOneDay_7 ic_0 ?_
    refine s_iret B hQ hr dX2_goOneDay_8 rfl ?_
    exfalso; omega
