/-! ## class DrownedNamesModel: digest -/
theorem aq_behind {a : Mm_} {Y : Nat} (hY : Y ≤ 29) {w : Int} (hw : 0 ≤ w ∧ w ≤ 1) : (if w = 0 then li_ (vv_ a) (uu_ a) (Y + 1) 2 1 else li_ (vv_ a) (uu_ a) (Y + 1) 2 0) = an_behind a (Y : Int) w := by
  symm
  unfold an_behind
  rw [if_pos (by omega)]
  rfl
theorem aq_first {a : Mm_} {w : Int} (hw : 0 ≤ w ∧ w ≤ 1) : (if w = 0 then li_ (vv_ a) (uu_ a) 30 2 2 else li_ (vv_ a) (uu_ a) 30 2 3) = an_first a w := by
  symm
  unfold an_first
  rw [if_pos hw]
  rfl
theorem aq_sound {a : Mm_} {w : Int} (hw : 0 ≤ w ∧ w ≤ 1) : (if w = 0 then hm_ (vv_ a) (ww_ a) (ns_ (vv_ a)) else le_ (vv_ a) (ww_ a) (ns_ (vv_ a))) = an_sound a w := by
  symm
  unfold an_sound
  rw [if_pos hw]
theorem aq_safe {a : Mm_} : bs_ (fun s => decide (si_ (vv_ a) 255 0 (s : Int) (bg_ (vv_ a)) 2 1 = 0)) (vv_ a 0 0).toNat = an_safe a := rfl
theorem aq_press {a : Mm_} : (pr_ (vv_ a) (ww_ a) (vv_ a 0 0).toNat).1 = an_press a := rfl
theorem aq_fault0 {a : Mm_} : fa_ 0 (a 0 0) (a 1) = an_fault a 0 := by
  unfold an_fault
  rw [if_neg (by omega)]
  rfl
theorem HM_.re0 {a σ τ : Mm_} (hM : HM_ (vv_ a) σ) (m0 : τ 45 0 = it_ 0 (a 0 0) (a 1)) (k0 : ∀ k : Nat, (k : Int) < it_ 0 (a 0 0) (a 1) → AK_ 0 (a 0 0) (a 1) τ k) (f : FT_ 0 σ τ) : HM_ (vv_ a) τ := by
  exact HM_.of (a := a) (σ := σ) (fun _ _ => trivial) m0 k0 ((f.2.2 1 (by decide)).trans hM.1.2.1) (fun k hk => by unfold AK_; rw [f.1 47 (by decide) (by decide) (by decide)]; exact hM.ni hk) ((f.2.2 2 (by decide)).trans hM.1.2.2) (fun k hk => by unfold AK_; rw [f.1 48 (by decide) (by decide) (by decide)]; exact hM.li hk) ((f.2.1 12 (by decide)).trans hM.st)
theorem aq_fault1 {a : Mm_} : fa_ 1 (a 0 1) (a 2) = an_fault a 1 := by
  unfold an_fault
  rw [if_neg (by omega)]
  rfl
theorem HM_.re1 {a σ τ : Mm_} (hM : HM_ (vv_ a) σ) (m0 : τ 45 1 = it_ 1 (a 0 1) (a 2)) (k0 : ∀ k : Nat, (k : Int) < it_ 1 (a 0 1) (a 2) → AK_ 1 (a 0 1) (a 2) τ k) (f : FT_ 1 σ τ) : HM_ (vv_ a) τ := by
  exact HM_.of (a := a) (σ := σ) (fun _ _ => trivial) ((f.2.2 0 (by decide)).trans hM.1.1) (fun k hk => by unfold AK_; rw [f.1 46 (by decide) (by decide) (by decide)]; exact hM.si hk) m0 k0 ((f.2.2 2 (by decide)).trans hM.1.2.2) (fun k hk => by unfold AK_; rw [f.1 48 (by decide) (by decide) (by decide)]; exact hM.li hk) ((f.2.1 12 (by decide)).trans hM.st)
theorem aq_fault2 {a : Mm_} : fa_ 2 (a 0 2) (a 3) = an_fault a 2 := by
  unfold an_fault
  rw [if_neg (by omega)]
  rfl
theorem HM_.re2 {a σ τ : Mm_} (hM : HM_ (vv_ a) σ) (m0 : τ 45 2 = it_ 2 (a 0 2) (a 3)) (k0 : ∀ k : Nat, (k : Int) < it_ 2 (a 0 2) (a 3) → AK_ 2 (a 0 2) (a 3) τ k) (f : FT_ 2 σ τ) : HM_ (vv_ a) τ := by
  exact HM_.of (a := a) (σ := σ) (fun _ _ => trivial) ((f.2.2 0 (by decide)).trans hM.1.1) (fun k hk => by unfold AK_; rw [f.1 46 (by decide) (by decide) (by decide)]; exact hM.si hk) ((f.2.2 1 (by decide)).trans hM.1.2.1) (fun k hk => by unfold AK_; rw [f.1 47 (by decide) (by decide) (by decide)]; exact hM.ni hk) m0 k0 ((f.2.1 12 (by decide)).trans hM.st)
section
variable {l : Launch} {D : Dt_} {a σ : Mm_} {post : Option Av_ → Mm_ → Prop}
theorem le_X7_digest {g : Int} {i : Int} (hK : ∀ τ, MR_ a τ → Gm_ σ τ → post (some (vl_ (e5_ a g))) τ) : ∀ τ, MR_ a τ → HM_ (vv_ a) τ → Gm_ σ τ → V_ l D mX7_digest (CM_ D mX7_digest post) 155 [some (vr_ 38), some (vl_ g), none, some (vi_ i), none] [] τ := by
  intro τ hQ hM hg
  have hW := vv_WF hQ.1
  refine V_iconst (pc := 155) dX7_digest_155 ?_
  refine V_istore_n (pc := 156) dX7_digest_156 rfl (by decide) rfl ?_
  show V_ _ _ _ _ _ [_, _, _, _, _] _ _
  refine V_iload_n (pc := 157) dX7_digest_157 rfl rfl ?_
  refine V_iconst (pc := 158) dX7_digest_158 ?_
  refine V_icmp_ge (tgt := 220) (pc := 159) dX7_digest_159 (by decide) (by first | decide | (constructor <;> omega)) (by first | decide | (constructor <;> omega)) (fun h159 => by exact absurd h159 (by decide)) (fun h159 => ?_)
  refine V_iload_n (pc := 162) dX7_digest_162 rfl rfl ?_
  refine V_if_ne (tgt := 170) (pc := 163) dX7_digest_163 (by decide) (by first | decide | (constructor <;> omega)) (fun h163 => by exact absurd h163 (by decide)) (fun h163 => ?_)
  refine V_iconst (pc := 166) dX7_digest_166 ?_
  refine V_goto (tgt := 182) (pc := 167) dX7_digest_167 (by decide) ?_
  refine V_istore (pc := 182) dX7_digest_182 (by decide) rfl ?_
  show V_ _ _ _ _ _ [_, _, _, _, _] _ _
  refine V_ldc2 (v := (31)) (z := 31) (pc := 184) dX7_digest_184 (tb_in 1177 (by decide +kernel) rfl) (by decide +kernel) ?_
  refine V_lload_n (pc := 187) dX7_digest_187 rfl rfl ?_
  refine V_lmul (pc := 188) dX7_digest_188 ?_
  refine V_aload_n (pc := 189) dX7_digest_189 rfl rfl ?_
  refine V_iload (pc := 190) dX7_digest_190 rfl ?_
  refine V_iconst (pc := 192) dX7_digest_192 ?_
  refine V_callV (pc := 193) (as := [_, _]) (rest := [_]) dX7_digest_193 ⟨kX7_203, iX7_behindOf, by decide, by decide⟩ rc_38 rfl rfl (Nat.le_of_ble_eq_true rfl) (Nat.le_of_ble_eq_true rfl) ?_
  refine ct_X7_behindOf hW hQ.1.2.2.2.1 (Y := 0) (by decide) hM (show LM_ (uu_ a) _ from hQ.2.2.2.1) hQ.2.2.1.2.2 (by decide) (fun τ hB => ?_)
  have hQ := hQ.pf hB.pf
  have hM := hM.f4 hB
  have hg := hg.tr hB.pf.gm
  rw [aq_behind (Y := 0) (by decide) (by decide)]
  show V_ _ _ _ _ _ _ [_, _] _
  refine V_i2ln (pc := 196) dX7_digest_196 ?_
  refine V_ladd (pc := 197) dX7_digest_197 ?_
  refine V_lstore_n (pc := 198) dX7_digest_198 rfl (by decide) rfl ?_
  show V_ _ _ _ _ _ [_, _, _, _, _] _ _
  refine V_ldc2 (v := (31)) (z := 31) (pc := 199) dX7_digest_199 (tb_in 1177 (by decide +kernel) rfl) (by decide +kernel) ?_
  refine V_lload_n (pc := 202) dX7_digest_202 rfl rfl ?_
  refine V_lmul (pc := 203) dX7_digest_203 ?_
  refine V_aload_n (pc := 204) dX7_digest_204 rfl rfl ?_
  refine V_iload (pc := 205) dX7_digest_205 rfl ?_
  refine V_iconst (pc := 207) dX7_digest_207 ?_
  refine V_callV (pc := 208) (as := [_, _]) (rest := [_]) dX7_digest_208 ⟨kX7_203, iX7_behindOf, by decide, by decide⟩ rc_38 rfl rfl (Nat.le_of_ble_eq_true rfl) (Nat.le_of_ble_eq_true rfl) ?_
  refine ct_X7_behindOf hW hQ.1.2.2.2.1 (Y := 0) (by decide) hM (show LM_ (uu_ a) _ from hQ.2.2.2.1) hQ.2.2.1.2.2 (by decide) (fun τ hB => ?_)
  have hQ := hQ.pf hB.pf
  have hM := hM.f4 hB
  have hg := hg.tr hB.pf.gm
  rw [aq_behind (Y := 0) (by decide) (by decide)]
  show V_ _ _ _ _ _ _ [_, _] _
  refine V_i2ln (pc := 211) dX7_digest_211 ?_
  refine V_ladd (pc := 212) dX7_digest_212 ?_
  refine V_lstore_n (pc := 213) dX7_digest_213 rfl (by decide) rfl ?_
  show V_ _ _ _ _ _ [_, _, _, _, _] _ _
  refine V_iinc (pc := 214) dX7_digest_214 rfl (by decide) rfl ?_
  show V_ _ _ _ _ _ [_, _, _, _, _] _ _
  refine V_goto (tgt := 157) (pc := 217) dX7_digest_217 (by decide) ?_
  refine V_iload_n (pc := 157) dX7_digest_157 rfl rfl ?_
  refine V_iconst (pc := 158) dX7_digest_158 ?_
  refine V_icmp_ge (tgt := 220) (pc := 159) dX7_digest_159 (by decide) (by first | decide | (constructor <;> omega)) (by first | decide | (constructor <;> omega)) (fun h159 => by exact absurd h159 (by decide)) (fun h159 => ?_)
  refine V_iload_n (pc := 162) dX7_digest_162 rfl rfl ?_
  refine V_if_ne (tgt := 170) (pc := 163) dX7_digest_163 (by decide) (by first | decide | (constructor <;> omega)) (fun h163 => ?_) (fun h163 => by exact absurd h163 (by decide))
  refine V_iload_n (pc := 170) dX7_digest_170 rfl rfl ?_
  refine V_iconst (pc := 171) dX7_digest_171 ?_
  refine V_icmp_ne (tgt := 180) (pc := 172) dX7_digest_172 (by decide) (by first | decide | (constructor <;> omega)) (by first | decide | (constructor <;> omega)) (fun h172 => by exact absurd h172 (by decide)) (fun h172 => ?_)
  refine V_bipush (pc := 175) dX7_digest_175 (by decide) ?_
  refine V_goto (tgt := 182) (pc := 177) dX7_digest_177 (by decide) ?_
  refine V_istore (pc := 182) dX7_digest_182 (by decide) rfl ?_
  show V_ _ _ _ _ _ [_, _, _, _, _] _ _
  refine V_ldc2 (v := (31)) (z := 31) (pc := 184) dX7_digest_184 (tb_in 1177 (by decide +kernel) rfl) (by decide +kernel) ?_
  refine V_lload_n (pc := 187) dX7_digest_187 rfl rfl ?_
  refine V_lmul (pc := 188) dX7_digest_188 ?_
  refine V_aload_n (pc := 189) dX7_digest_189 rfl rfl ?_
  refine V_iload (pc := 190) dX7_digest_190 rfl ?_
  refine V_iconst (pc := 192) dX7_digest_192 ?_
  refine V_callV (pc := 193) (as := [_, _]) (rest := [_]) dX7_digest_193 ⟨kX7_203, iX7_behindOf, by decide, by decide⟩ rc_38 rfl rfl (Nat.le_of_ble_eq_true rfl) (Nat.le_of_ble_eq_true rfl) ?_
  refine ct_X7_behindOf hW hQ.1.2.2.2.1 (Y := 9) (by decide) hM (show LM_ (uu_ a) _ from hQ.2.2.2.1) hQ.2.2.1.2.2 (by decide) (fun τ hB => ?_)
  have hQ := hQ.pf hB.pf
  have hM := hM.f4 hB
  have hg := hg.tr hB.pf.gm
  rw [aq_behind (Y := 9) (by decide) (by decide)]
  show V_ _ _ _ _ _ _ [_, _] _
  refine V_i2ln (pc := 196) dX7_digest_196 ?_
  refine V_ladd (pc := 197) dX7_digest_197 ?_
  refine V_lstore_n (pc := 198) dX7_digest_198 rfl (by decide) rfl ?_
  show V_ _ _ _ _ _ [_, _, _, _, _] _ _
  refine V_ldc2 (v := (31)) (z := 31) (pc := 199) dX7_digest_199 (tb_in 1177 (by decide +kernel) rfl) (by decide +kernel) ?_
  refine V_lload_n (pc := 202) dX7_digest_202 rfl rfl ?_
  refine V_lmul (pc := 203) dX7_digest_203 ?_
  refine V_aload_n (pc := 204) dX7_digest_204 rfl rfl ?_
  refine V_iload (pc := 205) dX7_digest_205 rfl ?_
  refine V_iconst (pc := 207) dX7_digest_207 ?_
  refine V_callV (pc := 208) (as := [_, _]) (rest := [_]) dX7_digest_208 ⟨kX7_203, iX7_behindOf, by decide, by decide⟩ rc_38 rfl rfl (Nat.le_of_ble_eq_true rfl) (Nat.le_of_ble_eq_true rfl) ?_
  refine ct_X7_behindOf hW hQ.1.2.2.2.1 (Y := 9) (by decide) hM (show LM_ (uu_ a) _ from hQ.2.2.2.1) hQ.2.2.1.2.2 (by decide) (fun τ hB => ?_)
  have hQ := hQ.pf hB.pf
  have hM := hM.f4 hB
  have hg := hg.tr hB.pf.gm
  rw [aq_behind (Y := 9) (by decide) (by decide)]
  show V_ _ _ _ _ _ _ [_, _] _
  refine V_i2ln (pc := 211) dX7_digest_211 ?_
  refine V_ladd (pc := 212) dX7_digest_212 ?_
  refine V_lstore_n (pc := 213) dX7_digest_213 rfl (by decide) rfl ?_
  show V_ _ _ _ _ _ [_, _, _, _, _] _ _
  refine V_iinc (pc := 214) dX7_digest_214 rfl (by decide) rfl ?_
  show V_ _ _ _ _ _ [_, _, _, _, _] _ _
  refine V_goto (tgt := 157) (pc := 217) dX7_digest_217 (by decide) ?_
  refine V_iload_n (pc := 157) dX7_digest_157 rfl rfl ?_
  refine V_iconst (pc := 158) dX7_digest_158 ?_
  refine V_icmp_ge (tgt := 220) (pc := 159) dX7_digest_159 (by decide) (by first | decide | (constructor <;> omega)) (by first | decide | (constructor <;> omega)) (fun h159 => by exact absurd h159 (by decide)) (fun h159 => ?_)
  refine V_iload_n (pc := 162) dX7_digest_162 rfl rfl ?_
  refine V_if_ne (tgt := 170) (pc := 163) dX7_digest_163 (by decide) (by first | decide | (constructor <;> omega)) (fun h163 => ?_) (fun h163 => by exact absurd h163 (by decide))
  refine V_iload_n (pc := 170) dX7_digest_170 rfl rfl ?_
  refine V_iconst (pc := 171) dX7_digest_171 ?_
  refine V_icmp_ne (tgt := 180) (pc := 172) dX7_digest_172 (by decide) (by first | decide | (constructor <;> omega)) (by first | decide | (constructor <;> omega)) (fun h172 => ?_) (fun h172 => by exact absurd h172 (by decide))
  refine V_bipush (pc := 180) dX7_digest_180 (by decide) ?_
  refine V_istore (pc := 182) dX7_digest_182 (by decide) rfl ?_
  show V_ _ _ _ _ _ [_, _, _, _, _] _ _
  refine V_ldc2 (v := (31)) (z := 31) (pc := 184) dX7_digest_184 (tb_in 1177 (by decide +kernel) rfl) (by decide +kernel) ?_
  refine V_lload_n (pc := 187) dX7_digest_187 rfl rfl ?_
  refine V_lmul (pc := 188) dX7_digest_188 ?_
  refine V_aload_n (pc := 189) dX7_digest_189 rfl rfl ?_
  refine V_iload (pc := 190) dX7_digest_190 rfl ?_
  refine V_iconst (pc := 192) dX7_digest_192 ?_
  refine V_callV (pc := 193) (as := [_, _]) (rest := [_]) dX7_digest_193 ⟨kX7_203, iX7_behindOf, by decide, by decide⟩ rc_38 rfl rfl (Nat.le_of_ble_eq_true rfl) (Nat.le_of_ble_eq_true rfl) ?_
  refine ct_X7_behindOf hW hQ.1.2.2.2.1 (Y := 29) (by decide) hM (show LM_ (uu_ a) _ from hQ.2.2.2.1) hQ.2.2.1.2.2 (by decide) (fun τ hB => ?_)
  have hQ := hQ.pf hB.pf
  have hM := hM.f4 hB
  have hg := hg.tr hB.pf.gm
  rw [aq_behind (Y := 29) (by decide) (by decide)]
  show V_ _ _ _ _ _ _ [_, _] _
  refine V_i2ln (pc := 196) dX7_digest_196 ?_
  refine V_ladd (pc := 197) dX7_digest_197 ?_
  refine V_lstore_n (pc := 198) dX7_digest_198 rfl (by decide) rfl ?_
  show V_ _ _ _ _ _ [_, _, _, _, _] _ _
  refine V_ldc2 (v := (31)) (z := 31) (pc := 199) dX7_digest_199 (tb_in 1177 (by decide +kernel) rfl) (by decide +kernel) ?_
  refine V_lload_n (pc := 202) dX7_digest_202 rfl rfl ?_
  refine V_lmul (pc := 203) dX7_digest_203 ?_
  refine V_aload_n (pc := 204) dX7_digest_204 rfl rfl ?_
  refine V_iload (pc := 205) dX7_digest_205 rfl ?_
  refine V_iconst (pc := 207) dX7_digest_207 ?_
  refine V_callV (pc := 208) (as := [_, _]) (rest := [_]) dX7_digest_208 ⟨kX7_203, iX7_behindOf, by decide, by decide⟩ rc_38 rfl rfl (Nat.le_of_ble_eq_true rfl) (Nat.le_of_ble_eq_true rfl) ?_
  refine ct_X7_behindOf hW hQ.1.2.2.2.1 (Y := 29) (by decide) hM (show LM_ (uu_ a) _ from hQ.2.2.2.1) hQ.2.2.1.2.2 (by decide) (fun τ hB => ?_)
  have hQ := hQ.pf hB.pf
  have hM := hM.f4 hB
  have hg := hg.tr hB.pf.gm
  rw [aq_behind (Y := 29) (by decide) (by decide)]
  show V_ _ _ _ _ _ _ [_, _] _
  refine V_i2ln (pc := 211) dX7_digest_211 ?_
  refine V_ladd (pc := 212) dX7_digest_212 ?_
  refine V_lstore_n (pc := 213) dX7_digest_213 rfl (by decide) rfl ?_
  show V_ _ _ _ _ _ [_, _, _, _, _] _ _
  refine V_iinc (pc := 214) dX7_digest_214 rfl (by decide) rfl ?_
  show V_ _ _ _ _ _ [_, _, _, _, _] _ _
  refine V_goto (tgt := 157) (pc := 217) dX7_digest_217 (by decide) ?_
  refine V_iload_n (pc := 157) dX7_digest_157 rfl rfl ?_
  refine V_iconst (pc := 158) dX7_digest_158 ?_
  refine V_icmp_ge (tgt := 220) (pc := 159) dX7_digest_159 (by decide) (by first | decide | (constructor <;> omega)) (by first | decide | (constructor <;> omega)) (fun h159 => ?_) (fun h159 => by exact absurd h159 (by decide))
  refine V_ldc2 (v := (31)) (z := 31) (pc := 220) dX7_digest_220 (tb_in 1177 (by decide +kernel) rfl) (by decide +kernel) ?_
  refine V_lload_n (pc := 223) dX7_digest_223 rfl rfl ?_
  refine V_lmul (pc := 224) dX7_digest_224 ?_
  refine V_aload_n (pc := 225) dX7_digest_225 rfl rfl ?_
  refine V_iconst (pc := 226) dX7_digest_226 ?_
  refine V_callV (pc := 227) (as := [_]) (rest := [_]) dX7_digest_227 ⟨kX7_209, iX7_firstOf, by decide, by decide⟩ rc_38 rfl rfl (Nat.le_of_ble_eq_true rfl) (Nat.le_of_ble_eq_true rfl) ?_
  refine ct_X7_firstOf hW hQ.1.2.2.2.1 hM (show LM_ (uu_ a) _ from hQ.2.2.2.1) hQ.2.2.1.2.2 (by decide) (fun τ hB => ?_)
  have hQ := hQ.pf hB.pf
  have hM := hM.f4 hB
  have hg := hg.tr hB.pf.gm
  rw [aq_first (by decide)]
  show V_ _ _ _ _ _ _ [_, _] _
  refine V_i2ln (pc := 230) dX7_digest_230 ?_
  refine V_ladd (pc := 231) dX7_digest_231 ?_
  refine V_lstore_n (pc := 232) dX7_digest_232 rfl (by decide) rfl ?_
  show V_ _ _ _ _ _ [_, _, _, _, _] _ _
  refine V_ldc2 (v := (31)) (z := 31) (pc := 233) dX7_digest_233 (tb_in 1177 (by decide +kernel) rfl) (by decide +kernel) ?_
  refine V_lload_n (pc := 236) dX7_digest_236 rfl rfl ?_
  refine V_lmul (pc := 237) dX7_digest_237 ?_
  refine V_aload_n (pc := 238) dX7_digest_238 rfl rfl ?_
  refine V_iconst (pc := 239) dX7_digest_239 ?_
  refine V_callV (pc := 240) (as := [_]) (rest := [_]) dX7_digest_240 ⟨kX7_209, iX7_firstOf, by decide, by decide⟩ rc_38 rfl rfl (Nat.le_of_ble_eq_true rfl) (Nat.le_of_ble_eq_true rfl) ?_
  refine ct_X7_firstOf hW hQ.1.2.2.2.1 hM (show LM_ (uu_ a) _ from hQ.2.2.2.1) hQ.2.2.1.2.2 (by decide) (fun τ hB => ?_)
  have hQ := hQ.pf hB.pf
  have hM := hM.f4 hB
  have hg := hg.tr hB.pf.gm
  rw [aq_first (by decide)]
  show V_ _ _ _ _ _ _ [_, _] _
  refine V_i2ln (pc := 243) dX7_digest_243 ?_
  refine V_ladd (pc := 244) dX7_digest_244 ?_
  refine V_lstore_n (pc := 245) dX7_digest_245 rfl (by decide) rfl ?_
  show V_ _ _ _ _ _ [_, _, _, _, _] _ _
  refine V_ldc2 (v := (31)) (z := 31) (pc := 246) dX7_digest_246 (tb_in 1177 (by decide +kernel) rfl) (by decide +kernel) ?_
  refine V_lload_n (pc := 249) dX7_digest_249 rfl rfl ?_
  refine V_lmul (pc := 250) dX7_digest_250 ?_
  refine V_aload_n (pc := 251) dX7_digest_251 rfl rfl ?_
  refine V_callV (pc := 252) (as := []) (rest := [_]) dX7_digest_252 ⟨kX7_215, iX7_safeNow, by decide, by decide⟩ rc_38 rfl rfl (Nat.le_of_ble_eq_true rfl) (Nat.le_of_ble_eq_true rfl) ?_
  refine ct_X7_safeNow hW hM hQ.2.2.1.2.2 (fun τ hB => ?_)
  have hQ := hQ.pf hB.pf
  have hM := hM.f4 hB
  have hg := hg.tr hB.pf.gm
  rw [aq_safe]
  show V_ _ _ _ _ _ _ [_, _] _
  refine V_i2ln (pc := 255) dX7_digest_255 ?_
  refine V_ladd (pc := 256) dX7_digest_256 ?_
  refine V_lstore_n (pc := 257) dX7_digest_257 rfl (by decide) rfl ?_
  show V_ _ _ _ _ _ [_, _, _, _, _] _ _
  refine V_ldc2 (v := (31)) (z := 31) (pc := 258) dX7_digest_258 (tb_in 1177 (by decide +kernel) rfl) (by decide +kernel) ?_
  refine V_lload_n (pc := 261) dX7_digest_261 rfl rfl ?_
  refine V_lmul (pc := 262) dX7_digest_262 ?_
  refine V_aload_n (pc := 263) dX7_digest_263 rfl rfl ?_
  refine V_iconst (pc := 264) dX7_digest_264 ?_
  refine V_callV (pc := 265) (as := [_]) (rest := [_]) dX7_digest_265 ⟨kX7_242, iX7_soundOf, by decide, by decide⟩ rc_38 rfl rfl (Nat.le_of_ble_eq_true rfl) (Nat.le_of_ble_eq_true rfl) ?_
  refine ct_X7_soundOf hW hQ.1.2.2.2.2.1 (by decide) hM (show GM_ (ww_ a) _ from hQ.2.2.2.2.1) hQ.2.2.1.2.2 (fun τ hB => ?_)
  have hQ := hQ.pf hB.pf
  have hM := hM.f4 hB
  have hg := hg.tr hB.pf.gm
  rw [aq_sound (by decide)]
  show V_ _ _ _ _ _ _ [_, _] _
  refine V_i2ln (pc := 268) dX7_digest_268 ?_
  refine V_ladd (pc := 269) dX7_digest_269 ?_
  refine V_lstore_n (pc := 270) dX7_digest_270 rfl (by decide) rfl ?_
  show V_ _ _ _ _ _ [_, _, _, _, _] _ _
  refine V_ldc2 (v := (31)) (z := 31) (pc := 271) dX7_digest_271 (tb_in 1177 (by decide +kernel) rfl) (by decide +kernel) ?_
  refine V_lload_n (pc := 274) dX7_digest_274 rfl rfl ?_
  refine V_lmul (pc := 275) dX7_digest_275 ?_
  refine V_aload_n (pc := 276) dX7_digest_276 rfl rfl ?_
  refine V_iconst (pc := 277) dX7_digest_277 ?_
  refine V_callV (pc := 278) (as := [_]) (rest := [_]) dX7_digest_278 ⟨kX7_242, iX7_soundOf, by decide, by decide⟩ rc_38 rfl rfl (Nat.le_of_ble_eq_true rfl) (Nat.le_of_ble_eq_true rfl) ?_
  refine ct_X7_soundOf hW hQ.1.2.2.2.2.1 (by decide) hM (show GM_ (ww_ a) _ from hQ.2.2.2.2.1) hQ.2.2.1.2.2 (fun τ hB => ?_)
  have hQ := hQ.pf hB.pf
  have hM := hM.f4 hB
  have hg := hg.tr hB.pf.gm
  rw [aq_sound (by decide)]
  show V_ _ _ _ _ _ _ [_, _] _
  refine V_i2ln (pc := 281) dX7_digest_281 ?_
  refine V_ladd (pc := 282) dX7_digest_282 ?_
  refine V_lstore_n (pc := 283) dX7_digest_283 rfl (by decide) rfl ?_
  show V_ _ _ _ _ _ [_, _, _, _, _] _ _
  refine V_ldc2 (v := (31)) (z := 31) (pc := 284) dX7_digest_284 (tb_in 1177 (by decide +kernel) rfl) (by decide +kernel) ?_
  refine V_lload_n (pc := 287) dX7_digest_287 rfl rfl ?_
  refine V_lmul (pc := 288) dX7_digest_288 ?_
  refine V_aload_n (pc := 289) dX7_digest_289 rfl rfl ?_
  refine V_callV (pc := 290) (as := []) (rest := [_]) dX7_digest_290 ⟨kX7_248, iX7_pressNow, by decide, by decide⟩ rc_38 rfl rfl (Nat.le_of_ble_eq_true rfl) (Nat.le_of_ble_eq_true rfl) ?_
  refine ct_X7_pressNow hW hQ.1.2.2.2.2.1 hM (show GM_ (ww_ a) _ from hQ.2.2.2.2.1) hQ.2.2.1.2.2 (fun τ hB => ?_)
  have hQ := hQ.pf hB.pf
  have hM := hM.f5 hB
  have hg := hg.tr hB.pf.gm
  rw [aq_press]
  show V_ _ _ _ _ _ _ [_, _] _
  refine V_i2ln (pc := 293) dX7_digest_293 ?_
  refine V_ladd (pc := 294) dX7_digest_294 ?_
  refine V_lreturn (pc := 295) dX7_digest_295 rfl (fun hR => ?_)
  exact hK _ hQ hg
theorem l6_X7_digest {g : Int} {y : Nat} (hy : (y : Int) < vv_ a 7 0) (hK : ∀ τ, MR_ a τ → HM_ (vv_ a) τ → Gm_ σ τ → V_ l D mX7_digest (CM_ D mX7_digest post) 149 [some (vr_ 38), some (vl_ (fo_ (fun q h => dg_ h (an_line a (y : Int) (q : Int))) 4 g)), none, some (vi_ (y : Int)), none] [] τ) : ∀ i : Nat, i ≤ 4 → ∀ τ, MR_ a τ → HM_ (vv_ a) τ → Gm_ σ τ → V_ l D mX7_digest (CM_ D mX7_digest post) 122 [some (vr_ 38), some (vl_ (fo_ (fun q h => dg_ h (an_line a (y : Int) (q : Int))) i g)), none, some (vi_ (y : Int)), some (vi_ (i : Int))] [] τ := by
  refine up_ _ (fun i hi ih τ hQ hM hg => ?_)
  have hW := vv_WF hQ.1
  refine V_iload (pc := 122) dX7_digest_122 rfl ?_
  refine V_iconst (pc := 124) dX7_digest_124 ?_
  refine V_icmp_ge (tgt := 149) (pc := 125) dX7_digest_125 (by decide) (by first | decide | (constructor <;> omega)) (by first | decide | (constructor <;> omega)) (fun h125 => ?_) (fun h125 => ?_)
  · skip
    refine V_none (k := 4) ?_
    show V_ _ _ _ _ _ [_, _, _, _, _] _ _
    exact V_cg (hK _ hQ hM hg) (by rw [show i = 4 by omega]) rfl rfl
  · skip
    refine V_ldc2 (v := (31)) (z := 31) (pc := 128) dX7_digest_128 (tb_in 1177 (by decide +kernel) rfl) (by decide +kernel) ?_
    refine V_lload_n (pc := 131) dX7_digest_131 rfl rfl ?_
    refine V_lmul (pc := 132) dX7_digest_132 ?_
    refine V_aload_n (pc := 133) dX7_digest_133 rfl rfl ?_
    refine V_iload_n (pc := 134) dX7_digest_134 rfl rfl ?_
    refine V_iload (pc := 135) dX7_digest_135 rfl ?_
    refine V_callV (pc := 137) (as := [_, _]) (rest := [_]) dX7_digest_137 ⟨kX7_149, iX7_lineOf, by decide, by decide⟩ rc_38 rfl rfl (Nat.le_of_ble_eq_true rfl) (Nat.le_of_ble_eq_true rfl) ?_
    refine ct_X7_lineOf hW hM hy (by omega) ?_
    rw [aq_line hy (by omega)]
    show V_ _ _ _ _ _ _ [_, _] _
    refine V_i2ln (pc := 140) dX7_digest_140 ?_
    refine V_ladd (pc := 141) dX7_digest_141 ?_
    refine V_lstore_n (pc := 142) dX7_digest_142 rfl (by decide) rfl ?_
    show V_ _ _ _ _ _ [_, _, _, _, _] _ _
    refine V_iinc (pc := 143) dX7_digest_143 rfl (by decide) rfl ?_
    show V_ _ _ _ _ _ [_, _, _, _, _] _ _
    refine V_goto (tgt := 122) (pc := 146) dX7_digest_146 (by decide) ?_
    exact V_cg (ih (by omega) _ hQ hM hg) (by simp [fo_, dg_]) rfl rfl
theorem l5_X7_digest {g : Int} (hA : AW_ a) (hK : ∀ τ, MR_ a τ → Gm_ σ τ → post (some (vl_ (e4_ a g))) τ) : ∀ i : Nat, i ≤ (vv_ a 7 0).toNat → ∀ τ, MR_ a τ → HM_ (vv_ a) τ → Gm_ σ τ → V_ l D mX7_digest (CM_ D mX7_digest post) 109 [some (vr_ 38), some (vl_ (fo_ (fun j h => fo_ (fun q h => dg_ h (an_line a (j : Int) (q : Int))) 4 h) i g)), none, some (vi_ (i : Int)), none] [] τ := by
  have hW := vv_WF hA
  have ws := hW.s
  have wn := hW.n
  have wl := hW.l
  refine up_ _ (fun i hi ih τ hQ hM hg => ?_)
  refine V_iload_n (pc := 109) dX7_digest_109 rfl rfl ?_
  refine V_aload_n (pc := 110) dX7_digest_110 rfl rfl ?_
  refine V_getr (pc := 111) dX7_digest_111 fX7_28 rfl gg_38 rfl ?_
  refine V_iconst (pc := 114) dX7_digest_114 ?_
  refine V_iald (pc := 115) dX7_digest_115 gg_45 (by decide) (by decide) (fun r115 => ?_)
  rw [show τ 45 (2 : Int).toNat = vv_ a 7 0 from hM.1.2.2] at r115 ⊢
  refine V_icmp_ge (tgt := 155) (pc := 116) dX7_digest_116 (by decide) (by first | decide | (constructor <;> omega)) (by first | decide | (constructor <;> omega)) (fun h116 => ?_) (fun h116 => ?_)
  · skip
    exact V_cg (le_X7_digest (g := (fo_ (fun j h => fo_ (fun q h => dg_ h (an_line a (j : Int) (q : Int))) 4 h) i g)) (i := (i : Int)) (by rw [show i = (vv_ a 7 0).toNat by omega]; exact hK) _ hQ hM hg) rfl rfl rfl
  · skip
    refine V_iconst (pc := 119) dX7_digest_119 ?_
    refine V_istore (pc := 120) dX7_digest_120 (by decide) rfl ?_
    show V_ _ _ _ _ _ [_, _, _, _, _] _ _
    refine V_cg (l6_X7_digest (g := (fo_ (fun j h => fo_ (fun q h => dg_ h (an_line a (j : Int) (q : Int))) 4 h) i g)) (y := i) (by omega) (fun τ hQ hM hg => ?_) 0 (by decide) _ hQ hM hg) (by simp [fo_]) rfl rfl
    refine V_iinc (pc := 149) dX7_digest_149 rfl (by decide) rfl ?_
    refine V_goto (tgt := 109) (pc := 152) dX7_digest_152 (by decide) ?_
    exact V_cg (ih (by omega) _ hQ hM hg) (by simp [fo_]) rfl rfl
theorem l4_X7_digest {g : Int} (hA : AW_ a) (hK : ∀ τ, MR_ a τ → Gm_ σ τ → post (some (vl_ (e3_ a g))) τ) : ∀ i : Nat, i ≤ (vv_ a 3 0).toNat → ∀ τ, MR_ a τ → HM_ (vv_ a) τ → Gm_ σ τ → V_ l D mX7_digest (CM_ D mX7_digest post) 84 [some (vr_ 38), some (vl_ (fo_ (fun j h => dn_ a h (j : Int)) i g)), none, some (vi_ (i : Int)), none] [] τ := by
  have hW := vv_WF hA
  have ws := hW.s
  have wn := hW.n
  have wl := hW.l
  refine up_ _ (fun i hi ih τ hQ hM hg => ?_)
  refine V_iload_n (pc := 84) dX7_digest_84 rfl rfl ?_
  refine V_aload_n (pc := 85) dX7_digest_85 rfl rfl ?_
  refine V_getr (pc := 86) dX7_digest_86 fX7_28 rfl gg_38 rfl ?_
  refine V_iconst (pc := 89) dX7_digest_89 ?_
  refine V_iald (pc := 90) dX7_digest_90 gg_45 (by decide) (by decide) (fun r90 => ?_)
  rw [show τ 45 (1 : Int).toNat = vv_ a 3 0 from hM.1.2.1] at r90 ⊢
  refine V_icmp_ge (tgt := 107) (pc := 91) dX7_digest_91 (by decide) (by first | decide | (constructor <;> omega)) (by first | decide | (constructor <;> omega)) (fun h91 => ?_) (fun h91 => ?_)
  · skip
    refine V_iconst (pc := 107) dX7_digest_107 ?_
    refine V_istore_n (pc := 108) dX7_digest_108 rfl (by decide) rfl ?_
    show V_ _ _ _ _ _ [_, _, _, _, _] _ _
    exact V_cg (l5_X7_digest (g := (fo_ (fun j h => dn_ a h (j : Int)) i g)) hA (by rw [show i = (vv_ a 3 0).toNat by omega]; exact hK) 0 (Nat.zero_le _) _ hQ hM hg) (by simp [fo_]) rfl rfl
  · skip
    refine V_aload_n (pc := 94) dX7_digest_94 rfl rfl ?_
    refine V_lload_n (pc := 95) dX7_digest_95 rfl rfl ?_
    refine V_iload_n (pc := 96) dX7_digest_96 rfl rfl ?_
    refine V_callV (pc := 97) (as := [_, _]) (rest := []) dX7_digest_97 ⟨kX7_301, iX7_tellsName, by decide, by decide⟩ rc_38 rfl rfl (Nat.le_of_ble_eq_true rfl) (Nat.le_of_ble_eq_true rfl) ?_
    refine ct_X7_tellsName (by omega) hQ hM (fun τ hB1 hB2 hB3 => ?_)
    have hg := hg.tr hB3
    have hQ := hB1
    have hM := hB2
    show V_ _ _ _ _ _ _ [_] _
    refine V_lstore_n (pc := 100) dX7_digest_100 rfl (by decide) rfl ?_
    show V_ _ _ _ _ _ [_, _, _, _, _] _ _
    refine V_iinc (pc := 101) dX7_digest_101 rfl (by decide) rfl ?_
    show V_ _ _ _ _ _ [_, _, _, _, _] _ _
    refine V_goto (tgt := 84) (pc := 104) dX7_digest_104 (by decide) ?_
    exact V_cg (ih (by omega) _ hQ hM hg) (by simp [fo_]) rfl rfl
theorem l3_X7_digest {g : Int} (hA : AW_ a) (hK : ∀ τ, MR_ a τ → Gm_ σ τ → post (some (vl_ (e2_ a g))) τ) : ∀ i : Nat, i ≤ (vv_ a 0 0).toNat → ∀ τ, MR_ a τ → HM_ (vv_ a) τ → Gm_ σ τ → V_ l D mX7_digest (CM_ D mX7_digest post) 59 [some (vr_ 38), some (vl_ (fo_ (fun j h => ds_ a h (j : Int)) i g)), none, some (vi_ (i : Int)), none] [] τ := by
  have hW := vv_WF hA
  have ws := hW.s
  have wn := hW.n
  have wl := hW.l
  refine up_ _ (fun i hi ih τ hQ hM hg => ?_)
  refine V_iload_n (pc := 59) dX7_digest_59 rfl rfl ?_
  refine V_aload_n (pc := 60) dX7_digest_60 rfl rfl ?_
  refine V_getr (pc := 61) dX7_digest_61 fX7_28 rfl gg_38 rfl ?_
  refine V_iconst (pc := 64) dX7_digest_64 ?_
  refine V_iald (pc := 65) dX7_digest_65 gg_45 (by decide) (by decide) (fun r65 => ?_)
  rw [show τ 45 (0 : Int).toNat = vv_ a 0 0 from hM.1.1] at r65 ⊢
  refine V_icmp_ge (tgt := 82) (pc := 66) dX7_digest_66 (by decide) (by first | decide | (constructor <;> omega)) (by first | decide | (constructor <;> omega)) (fun h66 => ?_) (fun h66 => ?_)
  · skip
    refine V_iconst (pc := 82) dX7_digest_82 ?_
    refine V_istore_n (pc := 83) dX7_digest_83 rfl (by decide) rfl ?_
    show V_ _ _ _ _ _ [_, _, _, _, _] _ _
    exact V_cg (l4_X7_digest (g := (fo_ (fun j h => ds_ a h (j : Int)) i g)) hA (by rw [show i = (vv_ a 0 0).toNat by omega]; exact hK) 0 (Nat.zero_le _) _ hQ hM hg) (by simp [fo_]) rfl rfl
  · skip
    refine V_aload_n (pc := 69) dX7_digest_69 rfl rfl ?_
    refine V_lload_n (pc := 70) dX7_digest_70 rfl rfl ?_
    refine V_iload_n (pc := 71) dX7_digest_71 rfl rfl ?_
    refine V_callV (pc := 72) (as := [_, _]) (rest := []) dX7_digest_72 ⟨kX7_297, iX7_tellsShip, by decide, by decide⟩ rc_38 rfl rfl (Nat.le_of_ble_eq_true rfl) (Nat.le_of_ble_eq_true rfl) ?_
    refine ct_X7_tellsShip (by omega) hQ hM (fun τ hB1 hB2 hB3 => ?_)
    have hg := hg.tr hB3
    have hQ := hB1
    have hM := hB2
    show V_ _ _ _ _ _ _ [_] _
    refine V_lstore_n (pc := 75) dX7_digest_75 rfl (by decide) rfl ?_
    show V_ _ _ _ _ _ [_, _, _, _, _] _ _
    refine V_iinc (pc := 76) dX7_digest_76 rfl (by decide) rfl ?_
    show V_ _ _ _ _ _ [_, _, _, _, _] _ _
    refine V_goto (tgt := 59) (pc := 79) dX7_digest_79 (by decide) ?_
    exact V_cg (ih (by omega) _ hQ hM hg) (by simp [fo_]) rfl rfl
theorem l2_X7_digest {g : Int} {i : Int} (hK : ∀ τ, MR_ a τ → Gm_ σ τ → post (some (vl_ (e1_ a g))) τ) : ∀ τ, MR_ a τ → HM_ (vv_ a) τ → Gm_ σ τ → V_ l D mX7_digest (CM_ D mX7_digest post) 31 [some (vr_ 38), some (vl_ g), none, some (vi_ i), none] [] τ := by
  intro τ hQ hM hg
  refine V_iconst (pc := 31) dX7_digest_31 ?_
  refine V_istore_n (pc := 32) dX7_digest_32 rfl (by decide) rfl ?_
  show V_ _ _ _ _ _ [_, _, _, _, _] _ _
  refine V_iload_n (pc := 33) dX7_digest_33 rfl rfl ?_
  refine V_iconst (pc := 34) dX7_digest_34 ?_
  refine V_icmp_ge (tgt := 57) (pc := 35) dX7_digest_35 (by decide) (by first | decide | (constructor <;> omega)) (by first | decide | (constructor <;> omega)) (fun h35 => by exact absurd h35 (by decide)) (fun h35 => ?_)
  refine V_ldc2 (v := (31)) (z := 31) (pc := 38) dX7_digest_38 (tb_in 1177 (by decide +kernel) rfl) (by decide +kernel) ?_
  refine V_lload_n (pc := 41) dX7_digest_41 rfl rfl ?_
  refine V_lmul (pc := 42) dX7_digest_42 ?_
  refine V_aload_n (pc := 43) dX7_digest_43 rfl rfl ?_
  refine V_iload_n (pc := 44) dX7_digest_44 rfl rfl ?_
  refine V_callV (pc := 45) (as := [_]) (rest := [_]) dX7_digest_45 ⟨kX7_119, iX7_readsText, by decide, by decide⟩ rc_38 rfl rfl (Nat.le_of_ble_eq_true rfl) (Nat.le_of_ble_eq_true rfl) ?_
  refine ct_X7_readsText_0 hQ.1.1.1 hQ.2.1.1 (fun τ m0 k0 f0 => ?_)
  have hM := hM.re0 m0 k0 f0
  have hQ := hQ.pf (f0.pf (by decide))
  have hg := hg.tr (f0.pf (by decide)).gm
  rw [aq_fault0]
  show V_ _ _ _ _ _ _ [_, _] _
  refine V_i2ln (pc := 48) dX7_digest_48 ?_
  refine V_ladd (pc := 49) dX7_digest_49 ?_
  refine V_lstore_n (pc := 50) dX7_digest_50 rfl (by decide) rfl ?_
  show V_ _ _ _ _ _ [_, _, _, _, _] _ _
  refine V_iinc (pc := 51) dX7_digest_51 rfl (by decide) rfl ?_
  show V_ _ _ _ _ _ [_, _, _, _, _] _ _
  refine V_goto (tgt := 33) (pc := 54) dX7_digest_54 (by decide) ?_
  refine V_iload_n (pc := 33) dX7_digest_33 rfl rfl ?_
  refine V_iconst (pc := 34) dX7_digest_34 ?_
  refine V_icmp_ge (tgt := 57) (pc := 35) dX7_digest_35 (by decide) (by first | decide | (constructor <;> omega)) (by first | decide | (constructor <;> omega)) (fun h35 => by exact absurd h35 (by decide)) (fun h35 => ?_)
  refine V_ldc2 (v := (31)) (z := 31) (pc := 38) dX7_digest_38 (tb_in 1177 (by decide +kernel) rfl) (by decide +kernel) ?_
  refine V_lload_n (pc := 41) dX7_digest_41 rfl rfl ?_
  refine V_lmul (pc := 42) dX7_digest_42 ?_
  refine V_aload_n (pc := 43) dX7_digest_43 rfl rfl ?_
  refine V_iload_n (pc := 44) dX7_digest_44 rfl rfl ?_
  refine V_callV (pc := 45) (as := [_]) (rest := [_]) dX7_digest_45 ⟨kX7_119, iX7_readsText, by decide, by decide⟩ rc_38 rfl rfl (Nat.le_of_ble_eq_true rfl) (Nat.le_of_ble_eq_true rfl) ?_
  refine ct_X7_readsText_1 hQ.1.1.2.1 hQ.2.1.2.1 (fun τ m0 k0 f0 => ?_)
  have hM := hM.re1 m0 k0 f0
  have hQ := hQ.pf (f0.pf (by decide))
  have hg := hg.tr (f0.pf (by decide)).gm
  rw [aq_fault1]
  show V_ _ _ _ _ _ _ [_, _] _
  refine V_i2ln (pc := 48) dX7_digest_48 ?_
  refine V_ladd (pc := 49) dX7_digest_49 ?_
  refine V_lstore_n (pc := 50) dX7_digest_50 rfl (by decide) rfl ?_
  show V_ _ _ _ _ _ [_, _, _, _, _] _ _
  refine V_iinc (pc := 51) dX7_digest_51 rfl (by decide) rfl ?_
  show V_ _ _ _ _ _ [_, _, _, _, _] _ _
  refine V_goto (tgt := 33) (pc := 54) dX7_digest_54 (by decide) ?_
  refine V_iload_n (pc := 33) dX7_digest_33 rfl rfl ?_
  refine V_iconst (pc := 34) dX7_digest_34 ?_
  refine V_icmp_ge (tgt := 57) (pc := 35) dX7_digest_35 (by decide) (by first | decide | (constructor <;> omega)) (by first | decide | (constructor <;> omega)) (fun h35 => by exact absurd h35 (by decide)) (fun h35 => ?_)
  refine V_ldc2 (v := (31)) (z := 31) (pc := 38) dX7_digest_38 (tb_in 1177 (by decide +kernel) rfl) (by decide +kernel) ?_
  refine V_lload_n (pc := 41) dX7_digest_41 rfl rfl ?_
  refine V_lmul (pc := 42) dX7_digest_42 ?_
  refine V_aload_n (pc := 43) dX7_digest_43 rfl rfl ?_
  refine V_iload_n (pc := 44) dX7_digest_44 rfl rfl ?_
  refine V_callV (pc := 45) (as := [_]) (rest := [_]) dX7_digest_45 ⟨kX7_119, iX7_readsText, by decide, by decide⟩ rc_38 rfl rfl (Nat.le_of_ble_eq_true rfl) (Nat.le_of_ble_eq_true rfl) ?_
  refine ct_X7_readsText_2 hQ.1.1.2.2 hQ.2.1.2.2 (fun τ m0 k0 f0 => ?_)
  have hM := hM.re2 m0 k0 f0
  have hQ := hQ.pf (f0.pf (by decide))
  have hg := hg.tr (f0.pf (by decide)).gm
  rw [aq_fault2]
  show V_ _ _ _ _ _ _ [_, _] _
  refine V_i2ln (pc := 48) dX7_digest_48 ?_
  refine V_ladd (pc := 49) dX7_digest_49 ?_
  refine V_lstore_n (pc := 50) dX7_digest_50 rfl (by decide) rfl ?_
  show V_ _ _ _ _ _ [_, _, _, _, _] _ _
  refine V_iinc (pc := 51) dX7_digest_51 rfl (by decide) rfl ?_
  show V_ _ _ _ _ _ [_, _, _, _, _] _ _
  refine V_goto (tgt := 33) (pc := 54) dX7_digest_54 (by decide) ?_
  refine V_iload_n (pc := 33) dX7_digest_33 rfl rfl ?_
  refine V_iconst (pc := 34) dX7_digest_34 ?_
  refine V_icmp_ge (tgt := 57) (pc := 35) dX7_digest_35 (by decide) (by first | decide | (constructor <;> omega)) (by first | decide | (constructor <;> omega)) (fun h35 => ?_) (fun h35 => by exact absurd h35 (by decide))
  refine V_iconst (pc := 57) dX7_digest_57 ?_
  refine V_istore_n (pc := 58) dX7_digest_58 rfl (by decide) rfl ?_
  show V_ _ _ _ _ _ [_, _, _, _, _] _ _
  exact V_cg (l3_X7_digest (g := (31 * (31 * (31 * g + nz_ (an_fault a 0)) + nz_ (an_fault a 1)) + nz_ (an_fault a 2))) hQ.1 hK 0 (Nat.zero_le _) _ hQ hM hg) (by simp [fo_]) rfl rfl
theorem l1_X7_digest {g : Int} (hg0 : g = 17) (hK : ∀ τ, MR_ a τ → Gm_ σ τ → post (some (vl_ (an_digest a))) τ) : ∀ i : Nat, i ≤ 8 → ∀ τ, MR_ a τ → (1 ≤ i → HM_ (vv_ a) τ) → Gm_ σ τ → V_ l D mX7_digest (CM_ D mX7_digest post) 6 [some (vr_ 38), some (vl_ (fo_ (fun j h => dg_ h (an_count a (j : Int))) i g)), none, some (vi_ (i : Int)), none] [] τ := by
  refine up_ _ (fun i hi ih τ hQ hM hg => ?_)
  refine V_iload_n (pc := 6) dX7_digest_6 rfl rfl ?_
  refine V_bipush (pc := 7) dX7_digest_7 (by decide) ?_
  refine V_icmp_ge (tgt := 31) (pc := 9) dX7_digest_9 (by decide) (by first | decide | (constructor <;> omega)) (by first | decide | (constructor <;> omega)) (fun h9 => ?_) (fun h9 => ?_)
  · skip
    exact V_cg (l2_X7_digest (g := (fo_ (fun j h => dg_ h (an_count a (j : Int))) i g)) (i := (i : Int)) (by rw [show i = 8 by omega, hg0]; exact hK) _ hQ (hM (by omega)) hg) rfl rfl rfl
  · skip
    refine V_ldc2 (v := (31)) (z := 31) (pc := 12) dX7_digest_12 (tb_in 1177 (by decide +kernel) rfl) (by decide +kernel) ?_
    refine V_lload_n (pc := 15) dX7_digest_15 rfl rfl ?_
    refine V_lmul (pc := 16) dX7_digest_16 ?_
    refine V_aload_n (pc := 17) dX7_digest_17 rfl rfl ?_
    refine V_iload_n (pc := 18) dX7_digest_18 rfl rfl ?_
    refine V_callV (pc := 19) (as := [_]) (rest := [_]) dX7_digest_19 ⟨kX7_294, iX7_count, by decide, by decide⟩ rc_38 rfl rfl (Nat.le_of_ble_eq_true rfl) (Nat.le_of_ble_eq_true rfl) ?_
    refine ct_X7_count (by constructor <;> omega) hQ (fun τ hB1 hB2 hB3 => ?_)
    have hg := hg.tr hB3
    have hQ := hB1
    have hM := hB2
    show V_ _ _ _ _ _ _ [_, _] _
    refine V_i2ln (pc := 22) dX7_digest_22 ?_
    refine V_ladd (pc := 23) dX7_digest_23 ?_
    refine V_lstore_n (pc := 24) dX7_digest_24 rfl (by decide) rfl ?_
    show V_ _ _ _ _ _ [_, _, _, _, _] _ _
    refine V_iinc (pc := 25) dX7_digest_25 rfl (by decide) rfl ?_
    show V_ _ _ _ _ _ [_, _, _, _, _] _ _
    refine V_goto (tgt := 6) (pc := 28) dX7_digest_28 (by decide) ?_
    exact V_cg (ih (by omega) _ hQ (fun _ => hM) hg) (by simp [fo_, dg_]) rfl rfl
theorem ct_X7_digest (h : MR_ a σ) (hK : ∀ τ, MR_ a τ → Gm_ σ τ → post (some (vl_ (an_digest a))) τ) : V_ l D mX7_digest (CM_ D mX7_digest post) 0 [some (vr_ 38), none, none, none, none] [] σ := by
  refine V_ldc2 (v := (17)) (z := 17) (pc := 0) dX7_digest_0 (tb_in 1176 (by decide +kernel) rfl) (by decide +kernel) ?_
  refine V_lstore_n (pc := 3) dX7_digest_3 rfl (by decide) rfl ?_
  show V_ _ _ _ _ _ [_, _, _, _, _] _ _
  refine V_iconst (pc := 4) dX7_digest_4 ?_
  refine V_istore_n (pc := 5) dX7_digest_5 rfl (by decide) rfl ?_
  show V_ _ _ _ _ _ [_, _, _, _, _] _ _
  exact V_cg (l1_X7_digest rfl hK 0 (Nat.zero_le _) _ h (fun z => absurd z (by decide)) Gm_.rf) (by simp [fo_]) rfl rfl
end
