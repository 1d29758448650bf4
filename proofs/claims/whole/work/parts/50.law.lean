/-! THE CLAIM OUT OF ONE WALK OF THE LAW'S BODY. Your part is whole_start (and what it stands on); all else here is the same for every law, but numbers. -/
def R_law : String := "DrownedNamesLaw"
def lw_P (b : Addr) (xs : List Int32) (args : Array Value) (s : State) : Prop := args = #[.ref b] ∧ s.IntsAt b xs ∧ xs.length ≤ 384 ∧ (Jvm.Cond.and given_1 narrow_1).before args s = true
def lw_Q (_ : Array Value) (s : State) (o : Outcome) (t : State) : Prop := o = .returned (some (.int 1)) ∧ Framed s o t [] 600000 7302250
def lw_Z (below : List Frame) (a : Array Value) (s : State) : State → Prop := fun t => ∃ o, t.status = .running ∧ Ended t below o ∧ lw_Q a s o t
/-- the law's own end, with 1 on the stack, nothing written that was there before, its room as the claim has it -/
theorem lw_ret {p : Program} {l : Launch} {e : Env} {s : State} {m : MethodId} {below : List Frame} {meth : Method} {c : Code} {b : Nat} (hx : p.tables.exec = Jvm.exec) (hb : c.code = code) (hr : meth.sig.returnType = ret) (hlocks : meth.locks = false) {pc : Nat} {H : Heap} {ls : Array Slot} (hdg : decode code pc = .ok (.ireturn, 1)) : W p l e room_1 s m #[Value.ref b] below meth c H [] 600000 7302250 (lw_Z below #[Value.ref b] s) (F0 m pc ls [.int 1]) := by
  intro T hT X
  obtain ⟨fs, hret, hrun, hended, hW, hframe⟩ := X.leave (v := some (.int 1)) (hlocks := hlocks) (fun h => by rw [hr] at h; cases h)
  have hmeth' : T.vm.method? m = some meth := X.method'
  refine ⟨T.setFrames fs, ?_, .returned (some (.int 1)), hrun, hended, rfl, ⟨_, rfl⟩, hW, hframe⟩
  jvm_step X.here [X.here.top, hx, hb, hdg, hmeth', hr, ret, narrow_b1]
  (try refine ⟨rfl, ?_⟩); (try refine ⟨rfl, ?_⟩)
  first | (intro acts; rw [hret _ acts rfl rfl rfl]) | rw [hret _ _ rfl rfl rfl]
  exact Steps.refl _
/-- what holds at the law's entry: the machine, the code, the tables' words (any of lw_tbl by 'hts w (by decide +kernel)'), the script of L ints xs at the cell b, what the Statement gives of the start (any of its parts by flat_of_before) -/
def lw_At (p : Program) (s : State) (m : MethodId) (meth : Method) (c : Code) (b L : Nat) (xs : Nat → Int32) : Prop :=
  p.tables.exec = Jvm.exec ∧ c.code = code ∧ meth.sig.returnType = ret ∧ c.maxLocals = 4 ∧ s.vm.findClass R_law = some m.cls ∧ (∀ w ∈ lw_tbl, w.before #[Value.ref b] s = true) ∧ va_X b L xs s s.heap ∧ b < s.heap.size ∧ meth.locks = false ∧ (Jvm.Cond.and given_1 narrow_1).before #[Value.ref b] s = true
/-! ## the law's own rows -/
def sc_ (xs : Nat → Int32) (k : Nat) : Int := (xs k).toInt
theorem sc_rg {xs : Nat → Int32} {k : Nat} : Rg_ (sc_ xs k) := i3_rg _
theorem ia_rg {a b : Int} : Rg_ (iand_ a b) := i3_rg _
abbrev mL_ : Mt_ := (⟨"DrownedNamesLaw", "law", "([I)Z"⟩, (cL_law, (4, (some .boolean, (13, 520)))))
def CL_ (D : Dt_) (b L : Nat) (xs : Nat → Int32) : Cp_ := fun R s args below cells slots Q => (R = room_1 ∧ args = #[Value.ref b] ∧ Q = lw_Z below #[Value.ref b] s) ∧ (cells ≤ 600000 ∧ slots ≤ 7302250) ∧ D.2.2 130 = b ∧ va_X b L xs s s.heap ∧ b < s.heap.size ∧ (∀ q, As_ D q → s.heap.size ≤ q)
theorem MR_.fm {a σ τ : Mm_} (h : MR_ a σ) (e : Fm_ σ τ) : MR_ a τ := by
  obtain ⟨h1, ⟨t0, t1, t2⟩, h3, h4, h5, h6⟩ := h
  refine ⟨h1, ⟨t0.cg (e _ (by decide)) (e _ (by decide)), t1.cg (e _ (by decide)) (e _ (by decide)), t2.cg (e _ (by decide)) (e _ (by decide))⟩, ?_, ?_, ?_, ?_⟩
  · rw [e 38 (by decide)]; exact h3
  · unfold ML_ at h4 ⊢; rw [e 38 (by decide), e 49 (by decide)]; exact h4
  · unfold MG_ at h5 ⊢; rw [e 38 (by decide), e 52 (by decide)]; exact h5
  · unfold MS_ at h6 ⊢; rw [e 39 (by decide), e 40 (by decide), e 41 (by decide)]; exact h6
theorem CR_.gm {a σ τ : Mm_} (h : CR_ a σ) (e : Gm_ σ τ) : CR_ a τ :=
  ⟨h.1.cg (fun k hk _ => e k (by omega)) (e _ (by decide)) (e _ (by decide)) (e _ (by decide)), h.2.1.cg (fun a b h1 h2 => by rw [e a (by omega)]), h.2.2.cg (fun a b h1 h2 => by rw [e a (by omega)])⟩
theorem lcmp_s {z : Int64} : lg_cmp z z = 0 := by unfold lg_cmp; simp
section
variable {l : Launch} {D : Dt_} {y : Mt_} {C : Cp_} {pc : Nat} {ls : List (Option Av_)} {st : List Av_} {σ : Mm_} {b L : Nat} {xs : Nat → Int32}
theorem V_icmp_eqS {z off : Int} {tgt : Nat} (hd : decode y.2.1 pc = .ok (.if_icmp .eq off, 3)) (htg : (pc : Int) + off = (tgt : Int)) (h : V_ l D y C tgt ls st σ) : V_ l D y C pc ls (vi_ z :: vi_ z :: st) σ := by
  intro hR p e R s m args below meth c cells slots Q hC B H locs lsA hP hS hl
  exact lv_icmp_eq (tgt := tgt) B.1 B.2.1 hd htg (fun _ => h hR p e R s m args below meth c cells slots Q hC B H locs lsA hP hS hl) (fun c => absurd rfl c)
theorem V_lcmpS {z : Int} (hd : decode y.2.1 pc = .ok (.lcmp, 1)) (h : V_ l D y C (pc + 1) ls (vi_ 0 :: st) σ) : V_ l D y C pc ls (vl_ z :: vl_ z :: st) σ := by
  intro hR p e R s m args below meth c cells slots Q hC B H locs lsA hP hS hl
  refine W.lcmp B.1 B.2.1 hd ?_
  rw [lcmp_s]
  exact h hR p e R s m args below meth c cells slots Q hC B H locs lsA hP hS hl
theorem V_sld {i : Int} (hd : decode cL_law pc = .ok (.iaload, 1)) (hL : L ≤ 384) (hi : 0 ≤ i ∧ i < (L : Int)) (h : V_ l D mL_ (CL_ D b L xs) (pc + 1) ls (vi_ (sc_ xs i.toNat) :: st) σ) : V_ l D mL_ (CL_ D b L xs) pc ls (vi_ i :: vr_ 130 :: st) σ := by
  intro hR p e R s m args below meth c cells slots Q hC B H locs lsA hP hS hl
  have hC0 := hC
  obtain ⟨_, _, hb, hX, hbl, hA⟩ := hC
  subst hb
  have hnb : ¬ As_ D (D.2.2 130) := fun z => by have := hA _ z; omega
  refine va_sld B.1 B.2.1 hX hbl hnb hS (i3_in hi.1 hi.2 (by omega)) hd ?_
  rw [i3_nn hi.1 (by omega)]
  have e0 : Value.int (xs i.toNat) = av_ D.2.2 (vi_ (sc_ xs i.toNat)) := by show _ = Value.int (Int32.ofInt (xs i.toNat).toInt); rw [i3_of]
  rw [e0]
  exact h hR p e R s m args below meth c cells slots Q hC0 B H locs lsA hP hS hl
theorem V_slen (hd : decode cL_law pc = .ok (.arraylength, 1)) (h : V_ l D mL_ (CL_ D b L xs) (pc + 1) ls (vi_ (L : Int) :: st) σ) : V_ l D mL_ (CL_ D b L xs) pc ls (vr_ 130 :: st) σ := by
  intro hR p e R s m args below meth c cells slots Q hC B H locs lsA hP hS hl
  have hC0 := hC
  obtain ⟨_, _, hb, hX, hbl, hA⟩ := hC
  subst hb
  have hnb : ¬ As_ D (D.2.2 130) := fun z => by have := hA _ z; omega
  exact va_slen B.1 B.2.1 hX hbl hnb hS hd (h hR p e R s m args below meth c cells slots Q hC0 B H locs lsA hP hS hl)
theorem V_lret (hd : decode cL_law pc = .ok (.ireturn, 1)) : V_ l D mL_ (CL_ D b L xs) pc ls [vi_ 1] σ := by
  intro hR p e R s m args below meth c cells slots Q hC B H locs lsA hP hS hl
  obtain ⟨⟨rfl, rfl, rfl⟩, ⟨h1, h2⟩, hb, hX, hbl, hA⟩ := hC
  refine W.widen (k := 600000) (n := 7302250) h1 h2 ?_
  refine va_forget (fun q hq => hA q.base (hS.2.2 q hq)) ?_
  exact lw_ret B.1 B.2.1 B.2.2.1 B.2.2.2.2.2.2.2.1 hd
end
section
variable {l : Launch} {D : Dt_} {σ a : Mm_} {b L : Nat} {xs : Nat → Int32}
/-- type -/
theorem cs_0 {i : Nat} (hL : L ≤ 384) (hi : (i : Int) + 5 < (L : Int)) (hc : CR_ a σ) (hm : MR_ a σ) (nxt : ∀ a' σ', CR_ a' σ' → MR_ a' σ' → V_ l D mL_ (CL_ D b L xs) 1273 [some (vr_ 130), some (vr_ 0), some (vr_ 38), some (vi_ (i : Int))] [] σ') : V_ l D mL_ (CL_ D b L xs) 192 [some (vr_ 130), some (vr_ 0), some (vr_ 38), some (vi_ (i : Int))] [] σ := by
  refine V_aload_n (pc := 192) dL_law_192 rfl rfl ?_
  refine V_aload_n (pc := 193) dL_law_193 rfl rfl ?_
  refine V_iload_n (pc := 194) dL_law_194 rfl rfl ?_
  refine V_iconst (pc := 195) dL_law_195 ?_
  refine V_iadd (pc := 196) dL_law_196 ?_
  refine V_sld (pc := 197) dL_law_197  hL (by omega) ?_
  refine V_aload_n (pc := 198) dL_law_198 rfl rfl ?_
  refine V_iload_n (pc := 199) dL_law_199 rfl rfl ?_
  refine V_iconst (pc := 200) dL_law_200 ?_
  refine V_iadd (pc := 201) dL_law_201 ?_
  refine V_sld (pc := 202) dL_law_202  hL (by omega) ?_
  refine V_callV (pc := 203) (as := [_, _]) (rest := []) dL_law_203 ⟨kL_13, iX6_type, by decide, by decide⟩ rc_0 rfl rfl (Nat.le_of_ble_eq_true rfl) (Nat.le_of_ble_eq_true rfl) ?_
  refine ct_X6_type sc_rg sc_rg hc (fun σ1 hc1 hf1 => ?_)
  have hm1 := hm.fm hf1
  show V_ _ _ _ _ _ _ [_] _
  refine V_aload_n (pc := 206) dL_law_206 rfl rfl ?_
  refine V_aload_n (pc := 207) dL_law_207 rfl rfl ?_
  refine V_iload_n (pc := 208) dL_law_208 rfl rfl ?_
  refine V_iconst (pc := 209) dL_law_209 ?_
  refine V_iadd (pc := 210) dL_law_210 ?_
  refine V_sld (pc := 211) dL_law_211  hL (by omega) ?_
  refine V_aload_n (pc := 212) dL_law_212 rfl rfl ?_
  refine V_iload_n (pc := 213) dL_law_213 rfl rfl ?_
  refine V_iconst (pc := 214) dL_law_214 ?_
  refine V_iadd (pc := 215) dL_law_215 ?_
  refine V_sld (pc := 216) dL_law_216  hL (by omega) ?_
  refine V_callV (pc := 217) (as := [_, _]) (rest := [_]) dL_law_217 ⟨kL_17, iX7_type, by decide, by decide⟩ rc_38 rfl rfl (Nat.le_of_ble_eq_true rfl) (Nat.le_of_ble_eq_true rfl) ?_
  refine ct_X7_type sc_rg sc_rg hm1 hc1.1.1 (fun σ2 hm2 hg2 => ?_)
  have hc2 := hc1.gm hg2
  show V_ _ _ _ _ _ _ [_, _] _
  exact V_icmp_eqS (tgt := 1273) (pc := 220) dL_law_220 (by decide) (nxt _ _ hc2 hm2)
/-- wipe -/
theorem cs_1 {i : Nat} (hL : L ≤ 384) (hi : (i : Int) + 5 < (L : Int)) (hc : CR_ a σ) (hm : MR_ a σ) (nxt : ∀ a' σ', CR_ a' σ' → MR_ a' σ' → V_ l D mL_ (CL_ D b L xs) 1273 [some (vr_ 130), some (vr_ 0), some (vr_ 38), some (vi_ (i : Int))] [] σ') : V_ l D mL_ (CL_ D b L xs) 225 [some (vr_ 130), some (vr_ 0), some (vr_ 38), some (vi_ (i : Int))] [] σ := by
  refine V_aload_n (pc := 225) dL_law_225 rfl rfl ?_
  refine V_aload_n (pc := 226) dL_law_226 rfl rfl ?_
  refine V_iload_n (pc := 227) dL_law_227 rfl rfl ?_
  refine V_iconst (pc := 228) dL_law_228 ?_
  refine V_iadd (pc := 229) dL_law_229 ?_
  refine V_sld (pc := 230) dL_law_230  hL (by omega) ?_
  refine V_callV (pc := 231) (as := [_]) (rest := []) dL_law_231 ⟨kL_18, iX6_wipe, by decide, by decide⟩ rc_0 rfl rfl (Nat.le_of_ble_eq_true rfl) (Nat.le_of_ble_eq_true rfl) ?_
  refine ct_X6_wipe sc_rg hc (fun σ1 hc1 hf1 => ?_)
  have hm1 := hm.fm hf1
  show V_ _ _ _ _ _ _ [_] _
  refine V_aload_n (pc := 234) dL_law_234 rfl rfl ?_
  refine V_aload_n (pc := 235) dL_law_235 rfl rfl ?_
  refine V_iload_n (pc := 236) dL_law_236 rfl rfl ?_
  refine V_iconst (pc := 237) dL_law_237 ?_
  refine V_iadd (pc := 238) dL_law_238 ?_
  refine V_sld (pc := 239) dL_law_239  hL (by omega) ?_
  refine V_callV (pc := 240) (as := [_]) (rest := [_]) dL_law_240 ⟨kL_22, iX7_wipe, by decide, by decide⟩ rc_38 rfl rfl (Nat.le_of_ble_eq_true rfl) (Nat.le_of_ble_eq_true rfl) ?_
  refine ct_X7_wipe sc_rg hm1 hc1.1.1 (fun σ2 hm2 hg2 => ?_)
  have hc2 := hc1.gm hg2
  show V_ _ _ _ _ _ _ [_, _] _
  exact V_icmp_eqS (tgt := 1273) (pc := 243) dL_law_243 (by decide) (nxt _ _ hc2 hm2)
/-- undo -/
theorem cs_2 {i : Nat} (hL : L ≤ 384) (hi : (i : Int) + 5 < (L : Int)) (hc : CR_ a σ) (hm : MR_ a σ) (nxt : ∀ a' σ', CR_ a' σ' → MR_ a' σ' → V_ l D mL_ (CL_ D b L xs) 1273 [some (vr_ 130), some (vr_ 0), some (vr_ 38), some (vi_ (i : Int))] [] σ') : V_ l D mL_ (CL_ D b L xs) 248 [some (vr_ 130), some (vr_ 0), some (vr_ 38), some (vi_ (i : Int))] [] σ := by
  refine V_aload_n (pc := 248) dL_law_248 rfl rfl ?_
  refine V_aload_n (pc := 249) dL_law_249 rfl rfl ?_
  refine V_iload_n (pc := 250) dL_law_250 rfl rfl ?_
  refine V_iconst (pc := 251) dL_law_251 ?_
  refine V_iadd (pc := 252) dL_law_252 ?_
  refine V_sld (pc := 253) dL_law_253  hL (by omega) ?_
  refine V_callV (pc := 254) (as := [_]) (rest := []) dL_law_254 ⟨kL_23, iX6_undo, by decide, by decide⟩ rc_0 rfl rfl (Nat.le_of_ble_eq_true rfl) (Nat.le_of_ble_eq_true rfl) ?_
  refine ct_X6_undo sc_rg hc (fun σ1 hc1 hf1 => ?_)
  have hm1 := hm.fm hf1
  show V_ _ _ _ _ _ _ [_] _
  refine V_aload_n (pc := 257) dL_law_257 rfl rfl ?_
  refine V_aload_n (pc := 258) dL_law_258 rfl rfl ?_
  refine V_iload_n (pc := 259) dL_law_259 rfl rfl ?_
  refine V_iconst (pc := 260) dL_law_260 ?_
  refine V_iadd (pc := 261) dL_law_261 ?_
  refine V_sld (pc := 262) dL_law_262  hL (by omega) ?_
  refine V_callV (pc := 263) (as := [_]) (rest := [_]) dL_law_263 ⟨kL_26, iX7_undo, by decide, by decide⟩ rc_38 rfl rfl (Nat.le_of_ble_eq_true rfl) (Nat.le_of_ble_eq_true rfl) ?_
  refine ct_X7_undo sc_rg hm1 hc1.1.1 (fun σ2 hm2 hg2 => ?_)
  have hc2 := hc1.gm hg2
  show V_ _ _ _ _ _ _ [_, _] _
  exact V_icmp_eqS (tgt := 1273) (pc := 266) dL_law_266 (by decide) (nxt _ _ hc2 hm2)
/-- fault -/
theorem cs_3 {i : Nat} (hL : L ≤ 384) (hi : (i : Int) + 5 < (L : Int)) (hc : CR_ a σ) (hm : MR_ a σ) (nxt : ∀ a' σ', CR_ a' σ' → MR_ a' σ' → V_ l D mL_ (CL_ D b L xs) 1273 [some (vr_ 130), some (vr_ 0), some (vr_ 38), some (vi_ (i : Int))] [] σ') : V_ l D mL_ (CL_ D b L xs) 271 [some (vr_ 130), some (vr_ 0), some (vr_ 38), some (vi_ (i : Int))] [] σ := by
  refine V_aload_n (pc := 271) dL_law_271 rfl rfl ?_
  refine V_aload_n (pc := 272) dL_law_272 rfl rfl ?_
  refine V_iload_n (pc := 273) dL_law_273 rfl rfl ?_
  refine V_iconst (pc := 274) dL_law_274 ?_
  refine V_iadd (pc := 275) dL_law_275 ?_
  refine V_sld (pc := 276) dL_law_276  hL (by omega) ?_
  refine V_callV (pc := 277) (as := [_]) (rest := []) dL_law_277 ⟨kL_27, iX6_fault, by decide, by decide⟩ rc_0 rfl rfl (Nat.le_of_ble_eq_true rfl) (Nat.le_of_ble_eq_true rfl) ?_
  refine ct_X6_fault sc_rg hc (fun σ1 hc1 hf1 => ?_)
  have hm1 := hm.fm hf1
  show V_ _ _ _ _ _ _ [_] _
  refine V_aload_n (pc := 280) dL_law_280 rfl rfl ?_
  refine V_aload_n (pc := 281) dL_law_281 rfl rfl ?_
  refine V_iload_n (pc := 282) dL_law_282 rfl rfl ?_
  refine V_iconst (pc := 283) dL_law_283 ?_
  refine V_iadd (pc := 284) dL_law_284 ?_
  refine V_sld (pc := 285) dL_law_285  hL (by omega) ?_
  refine V_callV (pc := 286) (as := [_]) (rest := [_]) dL_law_286 ⟨kL_30, iX7_fault, by decide, by decide⟩ rc_38 rfl rfl (Nat.le_of_ble_eq_true rfl) (Nat.le_of_ble_eq_true rfl) ?_
  refine ct_X7_fault sc_rg hm1 (fun σ2 hm2 hg2 => ?_)
  have hc2 := hc1.gm hg2
  show V_ _ _ _ _ _ _ [_, _] _
  exact V_icmp_eqS (tgt := 1273) (pc := 289) dL_law_289 (by decide) (nxt _ _ hc2 hm2)
/-- ship -/
theorem cs_4 {i : Nat} (hL : L ≤ 384) (hi : (i : Int) + 5 < (L : Int)) (hc : CR_ a σ) (hm : MR_ a σ) (nxt : ∀ a' σ', CR_ a' σ' → MR_ a' σ' → V_ l D mL_ (CL_ D b L xs) 1273 [some (vr_ 130), some (vr_ 0), some (vr_ 38), some (vi_ (i : Int))] [] σ') : V_ l D mL_ (CL_ D b L xs) 294 [some (vr_ 130), some (vr_ 0), some (vr_ 38), some (vi_ (i : Int))] [] σ := by
  refine V_aload_n (pc := 294) dL_law_294 rfl rfl ?_
  refine V_aload_n (pc := 295) dL_law_295 rfl rfl ?_
  refine V_iload_n (pc := 296) dL_law_296 rfl rfl ?_
  refine V_iconst (pc := 297) dL_law_297 ?_
  refine V_iadd (pc := 298) dL_law_298 ?_
  refine V_sld (pc := 299) dL_law_299  hL (by omega) ?_
  refine V_aload_n (pc := 300) dL_law_300 rfl rfl ?_
  refine V_iload_n (pc := 301) dL_law_301 rfl rfl ?_
  refine V_iconst (pc := 302) dL_law_302 ?_
  refine V_iadd (pc := 303) dL_law_303 ?_
  refine V_sld (pc := 304) dL_law_304  hL (by omega) ?_
  refine V_callV (pc := 305) (as := [_, _]) (rest := []) dL_law_305 ⟨kL_31, iX6_ship, by decide, by decide⟩ rc_0 rfl rfl (Nat.le_of_ble_eq_true rfl) (Nat.le_of_ble_eq_true rfl) ?_
  refine ct_X6_ship sc_rg sc_rg hc (fun σ1 hc1 hf1 => ?_)
  have hm1 := hm.fm hf1
  show V_ _ _ _ _ _ _ [_] _
  refine V_aload_n (pc := 308) dL_law_308 rfl rfl ?_
  refine V_aload_n (pc := 309) dL_law_309 rfl rfl ?_
  refine V_iload_n (pc := 310) dL_law_310 rfl rfl ?_
  refine V_iconst (pc := 311) dL_law_311 ?_
  refine V_iadd (pc := 312) dL_law_312 ?_
  refine V_sld (pc := 313) dL_law_313  hL (by omega) ?_
  refine V_aload_n (pc := 314) dL_law_314 rfl rfl ?_
  refine V_iload_n (pc := 315) dL_law_315 rfl rfl ?_
  refine V_iconst (pc := 316) dL_law_316 ?_
  refine V_iadd (pc := 317) dL_law_317 ?_
  refine V_sld (pc := 318) dL_law_318  hL (by omega) ?_
  refine V_callV (pc := 319) (as := [_, _]) (rest := [_]) dL_law_319 ⟨kL_34, iX7_ship, by decide, by decide⟩ rc_38 rfl rfl (Nat.le_of_ble_eq_true rfl) (Nat.le_of_ble_eq_true rfl) ?_
  refine ct_X7_ship sc_rg sc_rg hm1 (fun σ2 hm2 hg2 => ?_)
  have hc2 := hc1.gm hg2
  show V_ _ _ _ _ _ _ [_, _] _
  exact V_icmp_eqS (tgt := 1273) (pc := 322) dL_law_322 (by decide) (nxt _ _ hc2 hm2)
/-- name -/
theorem cs_5 {i : Nat} (hL : L ≤ 384) (hi : (i : Int) + 5 < (L : Int)) (hc : CR_ a σ) (hm : MR_ a σ) (nxt : ∀ a' σ', CR_ a' σ' → MR_ a' σ' → V_ l D mL_ (CL_ D b L xs) 1273 [some (vr_ 130), some (vr_ 0), some (vr_ 38), some (vi_ (i : Int))] [] σ') : V_ l D mL_ (CL_ D b L xs) 327 [some (vr_ 130), some (vr_ 0), some (vr_ 38), some (vi_ (i : Int))] [] σ := by
  refine V_aload_n (pc := 327) dL_law_327 rfl rfl ?_
  refine V_aload_n (pc := 328) dL_law_328 rfl rfl ?_
  refine V_iload_n (pc := 329) dL_law_329 rfl rfl ?_
  refine V_iconst (pc := 330) dL_law_330 ?_
  refine V_iadd (pc := 331) dL_law_331 ?_
  refine V_sld (pc := 332) dL_law_332  hL (by omega) ?_
  refine V_aload_n (pc := 333) dL_law_333 rfl rfl ?_
  refine V_iload_n (pc := 334) dL_law_334 rfl rfl ?_
  refine V_iconst (pc := 335) dL_law_335 ?_
  refine V_iadd (pc := 336) dL_law_336 ?_
  refine V_sld (pc := 337) dL_law_337  hL (by omega) ?_
  refine V_callV (pc := 338) (as := [_, _]) (rest := []) dL_law_338 ⟨kL_35, iX6_name, by decide, by decide⟩ rc_0 rfl rfl (Nat.le_of_ble_eq_true rfl) (Nat.le_of_ble_eq_true rfl) ?_
  refine ct_X6_name sc_rg sc_rg hc (fun σ1 hc1 hf1 => ?_)
  have hm1 := hm.fm hf1
  show V_ _ _ _ _ _ _ [_] _
  refine V_aload_n (pc := 341) dL_law_341 rfl rfl ?_
  refine V_aload_n (pc := 342) dL_law_342 rfl rfl ?_
  refine V_iload_n (pc := 343) dL_law_343 rfl rfl ?_
  refine V_iconst (pc := 344) dL_law_344 ?_
  refine V_iadd (pc := 345) dL_law_345 ?_
  refine V_sld (pc := 346) dL_law_346  hL (by omega) ?_
  refine V_aload_n (pc := 347) dL_law_347 rfl rfl ?_
  refine V_iload_n (pc := 348) dL_law_348 rfl rfl ?_
  refine V_iconst (pc := 349) dL_law_349 ?_
  refine V_iadd (pc := 350) dL_law_350 ?_
  refine V_sld (pc := 351) dL_law_351  hL (by omega) ?_
  refine V_callV (pc := 352) (as := [_, _]) (rest := [_]) dL_law_352 ⟨kL_38, iX7_name, by decide, by decide⟩ rc_38 rfl rfl (Nat.le_of_ble_eq_true rfl) (Nat.le_of_ble_eq_true rfl) ?_
  refine ct_X7_name sc_rg sc_rg hm1 (fun σ2 hm2 hg2 => ?_)
  have hc2 := hc1.gm hg2
  show V_ _ _ _ _ _ _ [_, _] _
  exact V_icmp_eqS (tgt := 1273) (pc := 355) dL_law_355 (by decide) (nxt _ _ hc2 hm2)
/-- line -/
theorem cs_6 {i : Nat} (hL : L ≤ 384) (hi : (i : Int) + 5 < (L : Int)) (hc : CR_ a σ) (hm : MR_ a σ) (nxt : ∀ a' σ', CR_ a' σ' → MR_ a' σ' → V_ l D mL_ (CL_ D b L xs) 1273 [some (vr_ 130), some (vr_ 0), some (vr_ 38), some (vi_ (i : Int))] [] σ') : V_ l D mL_ (CL_ D b L xs) 360 [some (vr_ 130), some (vr_ 0), some (vr_ 38), some (vi_ (i : Int))] [] σ := by
  refine V_aload_n (pc := 360) dL_law_360 rfl rfl ?_
  refine V_aload_n (pc := 361) dL_law_361 rfl rfl ?_
  refine V_iload_n (pc := 362) dL_law_362 rfl rfl ?_
  refine V_iconst (pc := 363) dL_law_363 ?_
  refine V_iadd (pc := 364) dL_law_364 ?_
  refine V_sld (pc := 365) dL_law_365  hL (by omega) ?_
  refine V_aload_n (pc := 366) dL_law_366 rfl rfl ?_
  refine V_iload_n (pc := 367) dL_law_367 rfl rfl ?_
  refine V_iconst (pc := 368) dL_law_368 ?_
  refine V_iadd (pc := 369) dL_law_369 ?_
  refine V_sld (pc := 370) dL_law_370  hL (by omega) ?_
  refine V_callV (pc := 371) (as := [_, _]) (rest := []) dL_law_371 ⟨kL_39, iX6_line, by decide, by decide⟩ rc_0 rfl rfl (Nat.le_of_ble_eq_true rfl) (Nat.le_of_ble_eq_true rfl) ?_
  refine ct_X6_line sc_rg sc_rg hc (fun σ1 hc1 hf1 => ?_)
  have hm1 := hm.fm hf1
  show V_ _ _ _ _ _ _ [_] _
  refine V_aload_n (pc := 374) dL_law_374 rfl rfl ?_
  refine V_aload_n (pc := 375) dL_law_375 rfl rfl ?_
  refine V_iload_n (pc := 376) dL_law_376 rfl rfl ?_
  refine V_iconst (pc := 377) dL_law_377 ?_
  refine V_iadd (pc := 378) dL_law_378 ?_
  refine V_sld (pc := 379) dL_law_379  hL (by omega) ?_
  refine V_aload_n (pc := 380) dL_law_380 rfl rfl ?_
  refine V_iload_n (pc := 381) dL_law_381 rfl rfl ?_
  refine V_iconst (pc := 382) dL_law_382 ?_
  refine V_iadd (pc := 383) dL_law_383 ?_
  refine V_sld (pc := 384) dL_law_384  hL (by omega) ?_
  refine V_callV (pc := 385) (as := [_, _]) (rest := [_]) dL_law_385 ⟨kL_42, iX7_line, by decide, by decide⟩ rc_38 rfl rfl (Nat.le_of_ble_eq_true rfl) (Nat.le_of_ble_eq_true rfl) ?_
  refine ct_X7_line sc_rg sc_rg hm1 (fun σ2 hm2 hg2 => ?_)
  have hc2 := hc1.gm hg2
  show V_ _ _ _ _ _ _ [_, _] _
  exact V_icmp_eqS (tgt := 1273) (pc := 388) dL_law_388 (by decide) (nxt _ _ hc2 hm2)
/-- struck -/
theorem cs_7 {i : Nat} (hL : L ≤ 384) (hi : (i : Int) + 5 < (L : Int)) (hc : CR_ a σ) (hm : MR_ a σ) (nxt : ∀ a' σ', CR_ a' σ' → MR_ a' σ' → V_ l D mL_ (CL_ D b L xs) 1273 [some (vr_ 130), some (vr_ 0), some (vr_ 38), some (vi_ (i : Int))] [] σ') : V_ l D mL_ (CL_ D b L xs) 393 [some (vr_ 130), some (vr_ 0), some (vr_ 38), some (vi_ (i : Int))] [] σ := by
  refine V_aload_n (pc := 393) dL_law_393 rfl rfl ?_
  refine V_aload_n (pc := 394) dL_law_394 rfl rfl ?_
  refine V_iload_n (pc := 395) dL_law_395 rfl rfl ?_
  refine V_iconst (pc := 396) dL_law_396 ?_
  refine V_iadd (pc := 397) dL_law_397 ?_
  refine V_sld (pc := 398) dL_law_398  hL (by omega) ?_
  refine V_callV (pc := 399) (as := [_]) (rest := []) dL_law_399 ⟨kL_43, iX6_struck, by decide, by decide⟩ rc_0 rfl rfl (Nat.le_of_ble_eq_true rfl) (Nat.le_of_ble_eq_true rfl) ?_
  refine ct_X6_struck sc_rg hc (fun σ1 hc1 hf1 => ?_)
  have hm1 := hm.fm hf1
  show V_ _ _ _ _ _ _ [_] _
  refine V_aload_n (pc := 402) dL_law_402 rfl rfl ?_
  refine V_aload_n (pc := 403) dL_law_403 rfl rfl ?_
  refine V_iload_n (pc := 404) dL_law_404 rfl rfl ?_
  refine V_iconst (pc := 405) dL_law_405 ?_
  refine V_iadd (pc := 406) dL_law_406 ?_
  refine V_sld (pc := 407) dL_law_407  hL (by omega) ?_
  refine V_callV (pc := 408) (as := [_]) (rest := [_]) dL_law_408 ⟨kL_46, iX7_struck, by decide, by decide⟩ rc_38 rfl rfl (Nat.le_of_ble_eq_true rfl) (Nat.le_of_ble_eq_true rfl) ?_
  refine ct_X7_struck sc_rg hm1 hc1.1.1 (fun σ2 hm2 hg2 => ?_)
  have hc2 := hc1.gm hg2
  show V_ _ _ _ _ _ _ [_, _] _
  exact V_icmp_eqS (tgt := 1273) (pc := 411) dL_law_411 (by decide) (nxt _ _ hc2 hm2)
/-- loss -/
theorem cs_8 {i : Nat} (hL : L ≤ 384) (hi : (i : Int) + 5 < (L : Int)) (hc : CR_ a σ) (hm : MR_ a σ) (nxt : ∀ a' σ', CR_ a' σ' → MR_ a' σ' → V_ l D mL_ (CL_ D b L xs) 1273 [some (vr_ 130), some (vr_ 0), some (vr_ 38), some (vi_ (i : Int))] [] σ') : V_ l D mL_ (CL_ D b L xs) 416 [some (vr_ 130), some (vr_ 0), some (vr_ 38), some (vi_ (i : Int))] [] σ := by
  refine V_aload_n (pc := 416) dL_law_416 rfl rfl ?_
  refine V_aload_n (pc := 417) dL_law_417 rfl rfl ?_
  refine V_iload_n (pc := 418) dL_law_418 rfl rfl ?_
  refine V_iconst (pc := 419) dL_law_419 ?_
  refine V_iadd (pc := 420) dL_law_420 ?_
  refine V_sld (pc := 421) dL_law_421  hL (by omega) ?_
  refine V_aload_n (pc := 422) dL_law_422 rfl rfl ?_
  refine V_iload_n (pc := 423) dL_law_423 rfl rfl ?_
  refine V_iconst (pc := 424) dL_law_424 ?_
  refine V_iadd (pc := 425) dL_law_425 ?_
  refine V_sld (pc := 426) dL_law_426  hL (by omega) ?_
  refine V_callV (pc := 427) (as := [_, _]) (rest := []) dL_law_427 ⟨kL_47, iX6_loss, by decide, by decide⟩ rc_0 rfl rfl (Nat.le_of_ble_eq_true rfl) (Nat.le_of_ble_eq_true rfl) ?_
  refine ct_X6_loss sc_rg sc_rg hc (fun σ1 hc1 hf1 => ?_)
  have hm1 := hm.fm hf1
  show V_ _ _ _ _ _ _ [_] _
  refine V_aload_n (pc := 430) dL_law_430 rfl rfl ?_
  refine V_aload_n (pc := 431) dL_law_431 rfl rfl ?_
  refine V_iload_n (pc := 432) dL_law_432 rfl rfl ?_
  refine V_iconst (pc := 433) dL_law_433 ?_
  refine V_iadd (pc := 434) dL_law_434 ?_
  refine V_sld (pc := 435) dL_law_435  hL (by omega) ?_
  refine V_aload_n (pc := 436) dL_law_436 rfl rfl ?_
  refine V_iload_n (pc := 437) dL_law_437 rfl rfl ?_
  refine V_iconst (pc := 438) dL_law_438 ?_
  refine V_iadd (pc := 439) dL_law_439 ?_
  refine V_sld (pc := 440) dL_law_440  hL (by omega) ?_
  refine V_callV (pc := 441) (as := [_, _]) (rest := [_]) dL_law_441 ⟨kL_50, iX7_loss, by decide, by decide⟩ rc_38 rfl rfl (Nat.le_of_ble_eq_true rfl) (Nat.le_of_ble_eq_true rfl) ?_
  refine ct_X7_loss sc_rg sc_rg hm1 hc1.1.1 (fun σ2 hm2 hg2 => ?_)
  have hc2 := hc1.gm hg2
  show V_ _ _ _ _ _ _ [_, _] _
  exact V_icmp_eqS (tgt := 1273) (pc := 444) dL_law_444 (by decide) (nxt _ _ hc2 hm2)
/-- back -/
theorem cs_9 {i : Nat} (hL : L ≤ 384) (hi : (i : Int) + 5 < (L : Int)) (hc : CR_ a σ) (hm : MR_ a σ) (nxt : ∀ a' σ', CR_ a' σ' → MR_ a' σ' → V_ l D mL_ (CL_ D b L xs) 1273 [some (vr_ 130), some (vr_ 0), some (vr_ 38), some (vi_ (i : Int))] [] σ') : V_ l D mL_ (CL_ D b L xs) 449 [some (vr_ 130), some (vr_ 0), some (vr_ 38), some (vi_ (i : Int))] [] σ := by
  refine V_aload_n (pc := 449) dL_law_449 rfl rfl ?_
  refine V_callV (pc := 450) (as := []) (rest := []) dL_law_450 ⟨kL_51, iX6_back, by decide, by decide⟩ rc_0 rfl rfl (Nat.le_of_ble_eq_true rfl) (Nat.le_of_ble_eq_true rfl) ?_
  refine ct_X6_back  hc (fun σ1 hc1 hf1 => ?_)
  have hm1 := hm.fm hf1
  show V_ _ _ _ _ _ _ [_] _
  refine V_aload_n (pc := 453) dL_law_453 rfl rfl ?_
  refine V_callV (pc := 454) (as := []) (rest := [_]) dL_law_454 ⟨kL_55, iX7_back, by decide, by decide⟩ rc_38 rfl rfl (Nat.le_of_ble_eq_true rfl) (Nat.le_of_ble_eq_true rfl) ?_
  refine ct_X7_back  hm1 hc1.1.1 (fun σ2 hm2 hg2 => ?_)
  have hc2 := hc1.gm hg2
  show V_ _ _ _ _ _ _ [_, _] _
  exact V_icmp_eqS (tgt := 1273) (pc := 457) dL_law_457 (by decide) (nxt _ _ hc2 hm2)
/-- read -/
theorem cs_10 {i : Nat} (hL : L ≤ 384) (hi : (i : Int) + 5 < (L : Int)) (hc : CR_ a σ) (hm : MR_ a σ) (nxt : ∀ a' σ', CR_ a' σ' → MR_ a' σ' → V_ l D mL_ (CL_ D b L xs) 1273 [some (vr_ 130), some (vr_ 0), some (vr_ 38), some (vi_ (i : Int))] [] σ') : V_ l D mL_ (CL_ D b L xs) 462 [some (vr_ 130), some (vr_ 0), some (vr_ 38), some (vi_ (i : Int))] [] σ := by
  refine V_aload_n (pc := 462) dL_law_462 rfl rfl ?_
  refine V_aload_n (pc := 463) dL_law_463 rfl rfl ?_
  refine V_iload_n (pc := 464) dL_law_464 rfl rfl ?_
  refine V_iconst (pc := 465) dL_law_465 ?_
  refine V_iadd (pc := 466) dL_law_466 ?_
  refine V_sld (pc := 467) dL_law_467  hL (by omega) ?_
  refine V_callV (pc := 468) (as := [_]) (rest := []) dL_law_468 ⟨kL_56, iX6_read, by decide, by decide⟩ rc_0 rfl rfl (Nat.le_of_ble_eq_true rfl) (Nat.le_of_ble_eq_true rfl) ?_
  refine ct_X6_read sc_rg hc (fun σ1 hc1 hf1 => ?_)
  have hm1 := hm.fm hf1
  show V_ _ _ _ _ _ _ [_] _
  refine V_aload_n (pc := 471) dL_law_471 rfl rfl ?_
  refine V_aload_n (pc := 472) dL_law_472 rfl rfl ?_
  refine V_iload_n (pc := 473) dL_law_473 rfl rfl ?_
  refine V_iconst (pc := 474) dL_law_474 ?_
  refine V_iadd (pc := 475) dL_law_475 ?_
  refine V_sld (pc := 476) dL_law_476  hL (by omega) ?_
  refine V_callV (pc := 477) (as := [_]) (rest := [_]) dL_law_477 ⟨kL_59, iX7_read, by decide, by decide⟩ rc_38 rfl rfl (Nat.le_of_ble_eq_true rfl) (Nat.le_of_ble_eq_true rfl) ?_
  refine ct_X7_read sc_rg hm1 hc1.1.1 (fun σ2 hm2 hg2 => ?_)
  have hc2 := hc1.gm hg2
  show V_ _ _ _ _ _ _ [_, _] _
  exact V_icmp_eqS (tgt := 1273) (pc := 480) dL_law_480 (by decide) (nxt _ _ hc2 hm2)
/-- bearer -/
theorem cs_11 {i : Nat} (hL : L ≤ 384) (hi : (i : Int) + 5 < (L : Int)) (hc : CR_ a σ) (hm : MR_ a σ) (nxt : ∀ a' σ', CR_ a' σ' → MR_ a' σ' → V_ l D mL_ (CL_ D b L xs) 1273 [some (vr_ 130), some (vr_ 0), some (vr_ 38), some (vi_ (i : Int))] [] σ') : V_ l D mL_ (CL_ D b L xs) 485 [some (vr_ 130), some (vr_ 0), some (vr_ 38), some (vi_ (i : Int))] [] σ := by
  refine V_aload_n (pc := 485) dL_law_485 rfl rfl ?_
  refine V_aload_n (pc := 486) dL_law_486 rfl rfl ?_
  refine V_iload_n (pc := 487) dL_law_487 rfl rfl ?_
  refine V_iconst (pc := 488) dL_law_488 ?_
  refine V_iadd (pc := 489) dL_law_489 ?_
  refine V_sld (pc := 490) dL_law_490  hL (by omega) ?_
  refine V_aload_n (pc := 491) dL_law_491 rfl rfl ?_
  refine V_iload_n (pc := 492) dL_law_492 rfl rfl ?_
  refine V_iconst (pc := 493) dL_law_493 ?_
  refine V_iadd (pc := 494) dL_law_494 ?_
  refine V_sld (pc := 495) dL_law_495  hL (by omega) ?_
  refine V_callV (pc := 496) (as := [_, _]) (rest := []) dL_law_496 ⟨kL_60, iX6_bearer, by decide, by decide⟩ rc_0 rfl rfl (Nat.le_of_ble_eq_true rfl) (Nat.le_of_ble_eq_true rfl) ?_
  refine ct_X6_bearer sc_rg sc_rg hc (fun σ1 hc1 hf1 => ?_)
  have hm1 := hm.fm hf1
  show V_ _ _ _ _ _ _ [_] _
  refine V_aload_n (pc := 499) dL_law_499 rfl rfl ?_
  refine V_aload_n (pc := 500) dL_law_500 rfl rfl ?_
  refine V_iload_n (pc := 501) dL_law_501 rfl rfl ?_
  refine V_iconst (pc := 502) dL_law_502 ?_
  refine V_iadd (pc := 503) dL_law_503 ?_
  refine V_sld (pc := 504) dL_law_504  hL (by omega) ?_
  refine V_aload_n (pc := 505) dL_law_505 rfl rfl ?_
  refine V_iload_n (pc := 506) dL_law_506 rfl rfl ?_
  refine V_iconst (pc := 507) dL_law_507 ?_
  refine V_iadd (pc := 508) dL_law_508 ?_
  refine V_sld (pc := 509) dL_law_509  hL (by omega) ?_
  refine V_callV (pc := 510) (as := [_, _]) (rest := [_]) dL_law_510 ⟨kL_63, iX7_bearer, by decide, by decide⟩ rc_38 rfl rfl (Nat.le_of_ble_eq_true rfl) (Nat.le_of_ble_eq_true rfl) ?_
  refine ct_X7_bearer sc_rg sc_rg hm1 (fun σ2 hm2 hg2 => ?_)
  have hc2 := hc1.gm hg2
  show V_ _ _ _ _ _ _ [_, _] _
  exact V_icmp_eqS (tgt := 1273) (pc := 513) dL_law_513 (by decide) (nxt _ _ hc2 hm2)
/-- borne -/
theorem cs_12 {i : Nat} (hL : L ≤ 384) (hi : (i : Int) + 5 < (L : Int)) (hc : CR_ a σ) (hm : MR_ a σ) (nxt : ∀ a' σ', CR_ a' σ' → MR_ a' σ' → V_ l D mL_ (CL_ D b L xs) 1273 [some (vr_ 130), some (vr_ 0), some (vr_ 38), some (vi_ (i : Int))] [] σ') : V_ l D mL_ (CL_ D b L xs) 518 [some (vr_ 130), some (vr_ 0), some (vr_ 38), some (vi_ (i : Int))] [] σ := by
  refine V_aload_n (pc := 518) dL_law_518 rfl rfl ?_
  refine V_aload_n (pc := 519) dL_law_519 rfl rfl ?_
  refine V_iload_n (pc := 520) dL_law_520 rfl rfl ?_
  refine V_iconst (pc := 521) dL_law_521 ?_
  refine V_iadd (pc := 522) dL_law_522 ?_
  refine V_sld (pc := 523) dL_law_523  hL (by omega) ?_
  refine V_aload_n (pc := 524) dL_law_524 rfl rfl ?_
  refine V_iload_n (pc := 525) dL_law_525 rfl rfl ?_
  refine V_iconst (pc := 526) dL_law_526 ?_
  refine V_iadd (pc := 527) dL_law_527 ?_
  refine V_sld (pc := 528) dL_law_528  hL (by omega) ?_
  refine V_callV (pc := 529) (as := [_, _]) (rest := []) dL_law_529 ⟨kL_64, iX6_borne, by decide, by decide⟩ rc_0 rfl rfl (Nat.le_of_ble_eq_true rfl) (Nat.le_of_ble_eq_true rfl) ?_
  refine ct_X6_borne sc_rg sc_rg hc (fun σ1 hc1 hf1 => ?_)
  have hm1 := hm.fm hf1
  show V_ _ _ _ _ _ _ [_] _
  refine V_aload_n (pc := 532) dL_law_532 rfl rfl ?_
  refine V_aload_n (pc := 533) dL_law_533 rfl rfl ?_
  refine V_iload_n (pc := 534) dL_law_534 rfl rfl ?_
  refine V_iconst (pc := 535) dL_law_535 ?_
  refine V_iadd (pc := 536) dL_law_536 ?_
  refine V_sld (pc := 537) dL_law_537  hL (by omega) ?_
  refine V_aload_n (pc := 538) dL_law_538 rfl rfl ?_
  refine V_iload_n (pc := 539) dL_law_539 rfl rfl ?_
  refine V_iconst (pc := 540) dL_law_540 ?_
  refine V_iadd (pc := 541) dL_law_541 ?_
  refine V_sld (pc := 542) dL_law_542  hL (by omega) ?_
  refine V_callV (pc := 543) (as := [_, _]) (rest := [_]) dL_law_543 ⟨kL_67, iX7_borne, by decide, by decide⟩ rc_38 rfl rfl (Nat.le_of_ble_eq_true rfl) (Nat.le_of_ble_eq_true rfl) ?_
  refine ct_X7_borne sc_rg sc_rg hm1 (fun σ2 hm2 hg2 => ?_)
  have hc2 := hc1.gm hg2
  show V_ _ _ _ _ _ _ [_, _] _
  exact V_icmp_eqS (tgt := 1273) (pc := 546) dL_law_546 (by decide) (nxt _ _ hc2 hm2)
/-- unborne -/
theorem cs_13 {i : Nat} (hL : L ≤ 384) (hi : (i : Int) + 5 < (L : Int)) (hc : CR_ a σ) (hm : MR_ a σ) (nxt : ∀ a' σ', CR_ a' σ' → MR_ a' σ' → V_ l D mL_ (CL_ D b L xs) 1273 [some (vr_ 130), some (vr_ 0), some (vr_ 38), some (vi_ (i : Int))] [] σ') : V_ l D mL_ (CL_ D b L xs) 551 [some (vr_ 130), some (vr_ 0), some (vr_ 38), some (vi_ (i : Int))] [] σ := by
  refine V_aload_n (pc := 551) dL_law_551 rfl rfl ?_
  refine V_aload_n (pc := 552) dL_law_552 rfl rfl ?_
  refine V_iload_n (pc := 553) dL_law_553 rfl rfl ?_
  refine V_iconst (pc := 554) dL_law_554 ?_
  refine V_iadd (pc := 555) dL_law_555 ?_
  refine V_sld (pc := 556) dL_law_556  hL (by omega) ?_
  refine V_callV (pc := 557) (as := [_]) (rest := []) dL_law_557 ⟨kL_68, iX6_unborne, by decide, by decide⟩ rc_0 rfl rfl (Nat.le_of_ble_eq_true rfl) (Nat.le_of_ble_eq_true rfl) ?_
  refine ct_X6_unborne sc_rg hc (fun σ1 hc1 hf1 => ?_)
  have hm1 := hm.fm hf1
  show V_ _ _ _ _ _ _ [_] _
  refine V_aload_n (pc := 560) dL_law_560 rfl rfl ?_
  refine V_aload_n (pc := 561) dL_law_561 rfl rfl ?_
  refine V_iload_n (pc := 562) dL_law_562 rfl rfl ?_
  refine V_iconst (pc := 563) dL_law_563 ?_
  refine V_iadd (pc := 564) dL_law_564 ?_
  refine V_sld (pc := 565) dL_law_565  hL (by omega) ?_
  refine V_callV (pc := 566) (as := [_]) (rest := [_]) dL_law_566 ⟨kL_71, iX7_unborne, by decide, by decide⟩ rc_38 rfl rfl (Nat.le_of_ble_eq_true rfl) (Nat.le_of_ble_eq_true rfl) ?_
  refine ct_X7_unborne sc_rg hm1 (fun σ2 hm2 hg2 => ?_)
  have hc2 := hc1.gm hg2
  show V_ _ _ _ _ _ _ [_, _] _
  exact V_icmp_eqS (tgt := 1273) (pc := 569) dL_law_569 (by decide) (nxt _ _ hc2 hm2)
/-- left -/
theorem cs_14 {i : Nat} (hL : L ≤ 384) (hi : (i : Int) + 5 < (L : Int)) (hc : CR_ a σ) (hm : MR_ a σ) (nxt : ∀ a' σ', CR_ a' σ' → MR_ a' σ' → V_ l D mL_ (CL_ D b L xs) 1273 [some (vr_ 130), some (vr_ 0), some (vr_ 38), some (vi_ (i : Int))] [] σ') : V_ l D mL_ (CL_ D b L xs) 574 [some (vr_ 130), some (vr_ 0), some (vr_ 38), some (vi_ (i : Int))] [] σ := by
  refine V_aload_n (pc := 574) dL_law_574 rfl rfl ?_
  refine V_aload_n (pc := 575) dL_law_575 rfl rfl ?_
  refine V_iload_n (pc := 576) dL_law_576 rfl rfl ?_
  refine V_iconst (pc := 577) dL_law_577 ?_
  refine V_iadd (pc := 578) dL_law_578 ?_
  refine V_sld (pc := 579) dL_law_579  hL (by omega) ?_
  refine V_aload_n (pc := 580) dL_law_580 rfl rfl ?_
  refine V_iload_n (pc := 581) dL_law_581 rfl rfl ?_
  refine V_iconst (pc := 582) dL_law_582 ?_
  refine V_iadd (pc := 583) dL_law_583 ?_
  refine V_sld (pc := 584) dL_law_584  hL (by omega) ?_
  refine V_callV (pc := 585) (as := [_, _]) (rest := []) dL_law_585 ⟨kL_72, iX6_left, by decide, by decide⟩ rc_0 rfl rfl (Nat.le_of_ble_eq_true rfl) (Nat.le_of_ble_eq_true rfl) ?_
  refine ct_X6_left sc_rg sc_rg hc (fun σ1 hc1 hf1 => ?_)
  have hm1 := hm.fm hf1
  show V_ _ _ _ _ _ _ [_] _
  refine V_aload_n (pc := 588) dL_law_588 rfl rfl ?_
  refine V_aload_n (pc := 589) dL_law_589 rfl rfl ?_
  refine V_iload_n (pc := 590) dL_law_590 rfl rfl ?_
  refine V_iconst (pc := 591) dL_law_591 ?_
  refine V_iadd (pc := 592) dL_law_592 ?_
  refine V_sld (pc := 593) dL_law_593  hL (by omega) ?_
  refine V_aload_n (pc := 594) dL_law_594 rfl rfl ?_
  refine V_iload_n (pc := 595) dL_law_595 rfl rfl ?_
  refine V_iconst (pc := 596) dL_law_596 ?_
  refine V_iadd (pc := 597) dL_law_597 ?_
  refine V_sld (pc := 598) dL_law_598  hL (by omega) ?_
  refine V_callV (pc := 599) (as := [_, _]) (rest := [_]) dL_law_599 ⟨kL_75, iX7_left, by decide, by decide⟩ rc_38 rfl rfl (Nat.le_of_ble_eq_true rfl) (Nat.le_of_ble_eq_true rfl) ?_
  refine ct_X7_left sc_rg sc_rg hm1 (fun σ2 hm2 hg2 => ?_)
  have hc2 := hc1.gm hg2
  show V_ _ _ _ _ _ _ [_, _] _
  exact V_icmp_eqS (tgt := 1273) (pc := 602) dL_law_602 (by decide) (nxt _ _ hc2 hm2)
/-- behind -/
theorem cs_15 {i : Nat} (hL : L ≤ 384) (hi : (i : Int) + 5 < (L : Int)) (hc : CR_ a σ) (hm : MR_ a σ) (nxt : ∀ a' σ', CR_ a' σ' → MR_ a' σ' → V_ l D mL_ (CL_ D b L xs) 1273 [some (vr_ 130), some (vr_ 0), some (vr_ 38), some (vi_ (i : Int))] [] σ') : V_ l D mL_ (CL_ D b L xs) 607 [some (vr_ 130), some (vr_ 0), some (vr_ 38), some (vi_ (i : Int))] [] σ := by
  refine V_aload_n (pc := 607) dL_law_607 rfl rfl ?_
  refine V_aload_n (pc := 608) dL_law_608 rfl rfl ?_
  refine V_iload_n (pc := 609) dL_law_609 rfl rfl ?_
  refine V_iconst (pc := 610) dL_law_610 ?_
  refine V_iadd (pc := 611) dL_law_611 ?_
  refine V_sld (pc := 612) dL_law_612  hL (by omega) ?_
  refine V_aload_n (pc := 613) dL_law_613 rfl rfl ?_
  refine V_iload_n (pc := 614) dL_law_614 rfl rfl ?_
  refine V_iconst (pc := 615) dL_law_615 ?_
  refine V_iadd (pc := 616) dL_law_616 ?_
  refine V_sld (pc := 617) dL_law_617  hL (by omega) ?_
  refine V_callV (pc := 618) (as := [_, _]) (rest := []) dL_law_618 ⟨kL_76, iX6_behind, by decide, by decide⟩ rc_0 rfl rfl (Nat.le_of_ble_eq_true rfl) (Nat.le_of_ble_eq_true rfl) ?_
  refine ct_X6_behind sc_rg sc_rg hc (fun σ1 hc1 hf1 => ?_)
  have hm1 := hm.fm hf1
  show V_ _ _ _ _ _ _ [_] _
  refine V_aload_n (pc := 621) dL_law_621 rfl rfl ?_
  refine V_aload_n (pc := 622) dL_law_622 rfl rfl ?_
  refine V_iload_n (pc := 623) dL_law_623 rfl rfl ?_
  refine V_iconst (pc := 624) dL_law_624 ?_
  refine V_iadd (pc := 625) dL_law_625 ?_
  refine V_sld (pc := 626) dL_law_626  hL (by omega) ?_
  refine V_aload_n (pc := 627) dL_law_627 rfl rfl ?_
  refine V_iload_n (pc := 628) dL_law_628 rfl rfl ?_
  refine V_iconst (pc := 629) dL_law_629 ?_
  refine V_iadd (pc := 630) dL_law_630 ?_
  refine V_sld (pc := 631) dL_law_631  hL (by omega) ?_
  refine V_callV (pc := 632) (as := [_, _]) (rest := [_]) dL_law_632 ⟨kL_79, iX7_behind, by decide, by decide⟩ rc_38 rfl rfl (Nat.le_of_ble_eq_true rfl) (Nat.le_of_ble_eq_true rfl) ?_
  refine ct_X7_behind sc_rg sc_rg hm1 (fun σ2 hm2 hg2 => ?_)
  have hc2 := hc1.gm hg2
  show V_ _ _ _ _ _ _ [_, _] _
  exact V_icmp_eqS (tgt := 1273) (pc := 635) dL_law_635 (by decide) (nxt _ _ hc2 hm2)
/-- paid -/
theorem cs_16 {i : Nat} (hL : L ≤ 384) (hi : (i : Int) + 5 < (L : Int)) (hc : CR_ a σ) (hm : MR_ a σ) (nxt : ∀ a' σ', CR_ a' σ' → MR_ a' σ' → V_ l D mL_ (CL_ D b L xs) 1273 [some (vr_ 130), some (vr_ 0), some (vr_ 38), some (vi_ (i : Int))] [] σ') : V_ l D mL_ (CL_ D b L xs) 640 [some (vr_ 130), some (vr_ 0), some (vr_ 38), some (vi_ (i : Int))] [] σ := by
  refine V_aload_n (pc := 640) dL_law_640 rfl rfl ?_
  refine V_aload_n (pc := 641) dL_law_641 rfl rfl ?_
  refine V_iload_n (pc := 642) dL_law_642 rfl rfl ?_
  refine V_iconst (pc := 643) dL_law_643 ?_
  refine V_iadd (pc := 644) dL_law_644 ?_
  refine V_sld (pc := 645) dL_law_645  hL (by omega) ?_
  refine V_aload_n (pc := 646) dL_law_646 rfl rfl ?_
  refine V_iload_n (pc := 647) dL_law_647 rfl rfl ?_
  refine V_iconst (pc := 648) dL_law_648 ?_
  refine V_iadd (pc := 649) dL_law_649 ?_
  refine V_sld (pc := 650) dL_law_650  hL (by omega) ?_
  refine V_callV (pc := 651) (as := [_, _]) (rest := []) dL_law_651 ⟨kL_80, iX6_paid, by decide, by decide⟩ rc_0 rfl rfl (Nat.le_of_ble_eq_true rfl) (Nat.le_of_ble_eq_true rfl) ?_
  refine ct_X6_paid sc_rg sc_rg hc (fun σ1 hc1 hf1 => ?_)
  have hm1 := hm.fm hf1
  show V_ _ _ _ _ _ _ [_] _
  refine V_aload_n (pc := 654) dL_law_654 rfl rfl ?_
  refine V_aload_n (pc := 655) dL_law_655 rfl rfl ?_
  refine V_iload_n (pc := 656) dL_law_656 rfl rfl ?_
  refine V_iconst (pc := 657) dL_law_657 ?_
  refine V_iadd (pc := 658) dL_law_658 ?_
  refine V_sld (pc := 659) dL_law_659  hL (by omega) ?_
  refine V_aload_n (pc := 660) dL_law_660 rfl rfl ?_
  refine V_iload_n (pc := 661) dL_law_661 rfl rfl ?_
  refine V_iconst (pc := 662) dL_law_662 ?_
  refine V_iadd (pc := 663) dL_law_663 ?_
  refine V_sld (pc := 664) dL_law_664  hL (by omega) ?_
  refine V_callV (pc := 665) (as := [_, _]) (rest := [_]) dL_law_665 ⟨kL_83, iX7_paid, by decide, by decide⟩ rc_38 rfl rfl (Nat.le_of_ble_eq_true rfl) (Nat.le_of_ble_eq_true rfl) ?_
  refine ct_X7_paid sc_rg sc_rg hm1 (fun σ2 hm2 hg2 => ?_)
  have hc2 := hc1.gm hg2
  show V_ _ _ _ _ _ _ [_, _] _
  exact V_icmp_eqS (tgt := 1273) (pc := 668) dL_law_668 (by decide) (nxt _ _ hc2 hm2)
/-- first -/
theorem cs_17 {i : Nat} (hL : L ≤ 384) (hi : (i : Int) + 5 < (L : Int)) (hc : CR_ a σ) (hm : MR_ a σ) (nxt : ∀ a' σ', CR_ a' σ' → MR_ a' σ' → V_ l D mL_ (CL_ D b L xs) 1273 [some (vr_ 130), some (vr_ 0), some (vr_ 38), some (vi_ (i : Int))] [] σ') : V_ l D mL_ (CL_ D b L xs) 673 [some (vr_ 130), some (vr_ 0), some (vr_ 38), some (vi_ (i : Int))] [] σ := by
  refine V_aload_n (pc := 673) dL_law_673 rfl rfl ?_
  refine V_aload_n (pc := 674) dL_law_674 rfl rfl ?_
  refine V_iload_n (pc := 675) dL_law_675 rfl rfl ?_
  refine V_iconst (pc := 676) dL_law_676 ?_
  refine V_iadd (pc := 677) dL_law_677 ?_
  refine V_sld (pc := 678) dL_law_678  hL (by omega) ?_
  refine V_callV (pc := 679) (as := [_]) (rest := []) dL_law_679 ⟨kL_84, iX6_first, by decide, by decide⟩ rc_0 rfl rfl (Nat.le_of_ble_eq_true rfl) (Nat.le_of_ble_eq_true rfl) ?_
  refine ct_X6_first sc_rg hc (fun σ1 hc1 hf1 => ?_)
  have hm1 := hm.fm hf1
  show V_ _ _ _ _ _ _ [_] _
  refine V_aload_n (pc := 682) dL_law_682 rfl rfl ?_
  refine V_aload_n (pc := 683) dL_law_683 rfl rfl ?_
  refine V_iload_n (pc := 684) dL_law_684 rfl rfl ?_
  refine V_iconst (pc := 685) dL_law_685 ?_
  refine V_iadd (pc := 686) dL_law_686 ?_
  refine V_sld (pc := 687) dL_law_687  hL (by omega) ?_
  refine V_callV (pc := 688) (as := [_]) (rest := [_]) dL_law_688 ⟨kL_87, iX7_first, by decide, by decide⟩ rc_38 rfl rfl (Nat.le_of_ble_eq_true rfl) (Nat.le_of_ble_eq_true rfl) ?_
  refine ct_X7_first sc_rg hm1 (fun σ2 hm2 hg2 => ?_)
  have hc2 := hc1.gm hg2
  show V_ _ _ _ _ _ _ [_, _] _
  exact V_icmp_eqS (tgt := 1273) (pc := 691) dL_law_691 (by decide) (nxt _ _ hc2 hm2)
/-- safe -/
theorem cs_18 {i : Nat} (hL : L ≤ 384) (hi : (i : Int) + 5 < (L : Int)) (hc : CR_ a σ) (hm : MR_ a σ) (nxt : ∀ a' σ', CR_ a' σ' → MR_ a' σ' → V_ l D mL_ (CL_ D b L xs) 1273 [some (vr_ 130), some (vr_ 0), some (vr_ 38), some (vi_ (i : Int))] [] σ') : V_ l D mL_ (CL_ D b L xs) 696 [some (vr_ 130), some (vr_ 0), some (vr_ 38), some (vi_ (i : Int))] [] σ := by
  refine V_aload_n (pc := 696) dL_law_696 rfl rfl ?_
  refine V_callV (pc := 697) (as := []) (rest := []) dL_law_697 ⟨kL_88, iX6_safe, by decide, by decide⟩ rc_0 rfl rfl (Nat.le_of_ble_eq_true rfl) (Nat.le_of_ble_eq_true rfl) ?_
  refine ct_X6_safe  hc (fun σ1 hc1 hf1 => ?_)
  have hm1 := hm.fm hf1
  show V_ _ _ _ _ _ _ [_] _
  refine V_aload_n (pc := 700) dL_law_700 rfl rfl ?_
  refine V_callV (pc := 701) (as := []) (rest := [_]) dL_law_701 ⟨kL_91, iX7_safe, by decide, by decide⟩ rc_38 rfl rfl (Nat.le_of_ble_eq_true rfl) (Nat.le_of_ble_eq_true rfl) ?_
  refine ct_X7_safe  hm1 (fun σ2 hm2 hg2 => ?_)
  have hc2 := hc1.gm hg2
  show V_ _ _ _ _ _ _ [_, _] _
  exact V_icmp_eqS (tgt := 1273) (pc := 704) dL_law_704 (by decide) (nxt _ _ hc2 hm2)
/-- take -/
theorem cs_19 {i : Nat} (hL : L ≤ 384) (hi : (i : Int) + 5 < (L : Int)) (hc : CR_ a σ) (hm : MR_ a σ) (nxt : ∀ a' σ', CR_ a' σ' → MR_ a' σ' → V_ l D mL_ (CL_ D b L xs) 1273 [some (vr_ 130), some (vr_ 0), some (vr_ 38), some (vi_ (i : Int))] [] σ') : V_ l D mL_ (CL_ D b L xs) 709 [some (vr_ 130), some (vr_ 0), some (vr_ 38), some (vi_ (i : Int))] [] σ := by
  refine V_aload_n (pc := 709) dL_law_709 rfl rfl ?_
  refine V_aload_n (pc := 710) dL_law_710 rfl rfl ?_
  refine V_iload_n (pc := 711) dL_law_711 rfl rfl ?_
  refine V_iconst (pc := 712) dL_law_712 ?_
  refine V_iadd (pc := 713) dL_law_713 ?_
  refine V_sld (pc := 714) dL_law_714  hL (by omega) ?_
  refine V_callV (pc := 715) (as := [_]) (rest := []) dL_law_715 ⟨kL_92, iX6_take, by decide, by decide⟩ rc_0 rfl rfl (Nat.le_of_ble_eq_true rfl) (Nat.le_of_ble_eq_true rfl) ?_
  refine ct_X6_take sc_rg hc (fun σ1 hc1 hf1 => ?_)
  have hm1 := hm.fm hf1
  show V_ _ _ _ _ _ _ [_] _
  refine V_aload_n (pc := 718) dL_law_718 rfl rfl ?_
  refine V_aload_n (pc := 719) dL_law_719 rfl rfl ?_
  refine V_iload_n (pc := 720) dL_law_720 rfl rfl ?_
  refine V_iconst (pc := 721) dL_law_721 ?_
  refine V_iadd (pc := 722) dL_law_722 ?_
  refine V_sld (pc := 723) dL_law_723  hL (by omega) ?_
  refine V_callV (pc := 724) (as := [_]) (rest := [_]) dL_law_724 ⟨kL_95, iX7_take, by decide, by decide⟩ rc_38 rfl rfl (Nat.le_of_ble_eq_true rfl) (Nat.le_of_ble_eq_true rfl) ?_
  refine ct_X7_take sc_rg hm1 (fun σ2 hm2 hg2 => ?_)
  have hc2 := hc1.gm hg2
  show V_ _ _ _ _ _ _ [_, _] _
  exact V_icmp_eqS (tgt := 1273) (pc := 727) dL_law_727 (by decide) (nxt _ _ hc2 hm2)
/-- strike -/
theorem cs_20 {i : Nat} (hL : L ≤ 384) (hi : (i : Int) + 5 < (L : Int)) (hc : CR_ a σ) (hm : MR_ a σ) (nxt : ∀ a' σ', CR_ a' σ' → MR_ a' σ' → V_ l D mL_ (CL_ D b L xs) 1273 [some (vr_ 130), some (vr_ 0), some (vr_ 38), some (vi_ (i : Int))] [] σ') : V_ l D mL_ (CL_ D b L xs) 732 [some (vr_ 130), some (vr_ 0), some (vr_ 38), some (vi_ (i : Int))] [] σ := by
  refine V_aload_n (pc := 732) dL_law_732 rfl rfl ?_
  refine V_aload_n (pc := 733) dL_law_733 rfl rfl ?_
  refine V_iload_n (pc := 734) dL_law_734 rfl rfl ?_
  refine V_iconst (pc := 735) dL_law_735 ?_
  refine V_iadd (pc := 736) dL_law_736 ?_
  refine V_sld (pc := 737) dL_law_737  hL (by omega) ?_
  refine V_aload_n (pc := 738) dL_law_738 rfl rfl ?_
  refine V_iload_n (pc := 739) dL_law_739 rfl rfl ?_
  refine V_iconst (pc := 740) dL_law_740 ?_
  refine V_iadd (pc := 741) dL_law_741 ?_
  refine V_sld (pc := 742) dL_law_742  hL (by omega) ?_
  refine V_callV (pc := 743) (as := [_, _]) (rest := []) dL_law_743 ⟨kL_96, iX6_strike, by decide, by decide⟩ rc_0 rfl rfl (Nat.le_of_ble_eq_true rfl) (Nat.le_of_ble_eq_true rfl) ?_
  refine ct_X6_strike sc_rg sc_rg hc (fun σ1 hc1 hf1 => ?_)
  have hm1 := hm.fm hf1
  show V_ _ _ _ _ _ _ [_] _
  refine V_aload_n (pc := 746) dL_law_746 rfl rfl ?_
  refine V_aload_n (pc := 747) dL_law_747 rfl rfl ?_
  refine V_iload_n (pc := 748) dL_law_748 rfl rfl ?_
  refine V_iconst (pc := 749) dL_law_749 ?_
  refine V_iadd (pc := 750) dL_law_750 ?_
  refine V_sld (pc := 751) dL_law_751  hL (by omega) ?_
  refine V_aload_n (pc := 752) dL_law_752 rfl rfl ?_
  refine V_iload_n (pc := 753) dL_law_753 rfl rfl ?_
  refine V_iconst (pc := 754) dL_law_754 ?_
  refine V_iadd (pc := 755) dL_law_755 ?_
  refine V_sld (pc := 756) dL_law_756  hL (by omega) ?_
  refine V_callV (pc := 757) (as := [_, _]) (rest := [_]) dL_law_757 ⟨kL_99, iX7_strike, by decide, by decide⟩ rc_38 rfl rfl (Nat.le_of_ble_eq_true rfl) (Nat.le_of_ble_eq_true rfl) ?_
  refine ct_X7_strike sc_rg sc_rg hm1 (fun σ2 hm2 hg2 => ?_)
  have hc2 := hc1.gm hg2
  show V_ _ _ _ _ _ _ [_, _] _
  exact V_icmp_eqS (tgt := 1273) (pc := 760) dL_law_760 (by decide) (nxt _ _ hc2 hm2)
/-- seen -/
theorem cs_21 {i : Nat} (hL : L ≤ 384) (hi : (i : Int) + 5 < (L : Int)) (hc : CR_ a σ) (hm : MR_ a σ) (nxt : ∀ a' σ', CR_ a' σ' → MR_ a' σ' → V_ l D mL_ (CL_ D b L xs) 1273 [some (vr_ 130), some (vr_ 0), some (vr_ 38), some (vi_ (i : Int))] [] σ') : V_ l D mL_ (CL_ D b L xs) 765 [some (vr_ 130), some (vr_ 0), some (vr_ 38), some (vi_ (i : Int))] [] σ := by
  refine V_aload_n (pc := 765) dL_law_765 rfl rfl ?_
  refine V_aload_n (pc := 766) dL_law_766 rfl rfl ?_
  refine V_iload_n (pc := 767) dL_law_767 rfl rfl ?_
  refine V_iconst (pc := 768) dL_law_768 ?_
  refine V_iadd (pc := 769) dL_law_769 ?_
  refine V_sld (pc := 770) dL_law_770  hL (by omega) ?_
  refine V_aload_n (pc := 771) dL_law_771 rfl rfl ?_
  refine V_iload_n (pc := 772) dL_law_772 rfl rfl ?_
  refine V_iconst (pc := 773) dL_law_773 ?_
  refine V_iadd (pc := 774) dL_law_774 ?_
  refine V_sld (pc := 775) dL_law_775  hL (by omega) ?_
  refine V_callV (pc := 776) (as := [_, _]) (rest := []) dL_law_776 ⟨kL_100, iX6_seen, by decide, by decide⟩ rc_0 rfl rfl (Nat.le_of_ble_eq_true rfl) (Nat.le_of_ble_eq_true rfl) ?_
  refine ct_X6_seen sc_rg sc_rg hc (fun σ1 hc1 hf1 => ?_)
  have hm1 := hm.fm hf1
  show V_ _ _ _ _ _ _ [_] _
  refine V_aload_n (pc := 779) dL_law_779 rfl rfl ?_
  refine V_aload_n (pc := 780) dL_law_780 rfl rfl ?_
  refine V_iload_n (pc := 781) dL_law_781 rfl rfl ?_
  refine V_iconst (pc := 782) dL_law_782 ?_
  refine V_iadd (pc := 783) dL_law_783 ?_
  refine V_sld (pc := 784) dL_law_784  hL (by omega) ?_
  refine V_aload_n (pc := 785) dL_law_785 rfl rfl ?_
  refine V_iload_n (pc := 786) dL_law_786 rfl rfl ?_
  refine V_iconst (pc := 787) dL_law_787 ?_
  refine V_iadd (pc := 788) dL_law_788 ?_
  refine V_sld (pc := 789) dL_law_789  hL (by omega) ?_
  refine V_callV (pc := 790) (as := [_, _]) (rest := [_]) dL_law_790 ⟨kL_103, iX7_seen, by decide, by decide⟩ rc_38 rfl rfl (Nat.le_of_ble_eq_true rfl) (Nat.le_of_ble_eq_true rfl) ?_
  refine ct_X7_seen sc_rg sc_rg hm1 hc1.1.1 (fun σ2 hm2 hg2 => ?_)
  have hc2 := hc1.gm hg2
  show V_ _ _ _ _ _ _ [_, _] _
  exact V_icmp_eqS (tgt := 1273) (pc := 793) dL_law_793 (by decide) (nxt _ _ hc2 hm2)
/-- forget -/
theorem cs_22 {i : Nat} (hL : L ≤ 384) (hi : (i : Int) + 5 < (L : Int)) (hc : CR_ a σ) (hm : MR_ a σ) (nxt : ∀ a' σ', CR_ a' σ' → MR_ a' σ' → V_ l D mL_ (CL_ D b L xs) 1273 [some (vr_ 130), some (vr_ 0), some (vr_ 38), some (vi_ (i : Int))] [] σ') : V_ l D mL_ (CL_ D b L xs) 798 [some (vr_ 130), some (vr_ 0), some (vr_ 38), some (vi_ (i : Int))] [] σ := by
  refine V_aload_n (pc := 798) dL_law_798 rfl rfl ?_
  refine V_callV (pc := 799) (as := []) (rest := []) dL_law_799 ⟨kL_104, iX6_forget, by decide, by decide⟩ rc_0 rfl rfl (Nat.le_of_ble_eq_true rfl) (Nat.le_of_ble_eq_true rfl) ?_
  refine ct_X6_forget  hc (fun σ1 hc1 hf1 => ?_)
  have hm1 := hm.fm hf1
  show V_ _ _ _ _ _ _ [_] _
  refine V_aload_n (pc := 802) dL_law_802 rfl rfl ?_
  refine V_callV (pc := 803) (as := []) (rest := [_]) dL_law_803 ⟨kL_107, iX7_forget, by decide, by decide⟩ rc_38 rfl rfl (Nat.le_of_ble_eq_true rfl) (Nat.le_of_ble_eq_true rfl) ?_
  refine ct_X7_forget  hm1 hc1.1.1 (fun σ2 hm2 hg2 => ?_)
  have hc2 := hc1.gm hg2
  show V_ _ _ _ _ _ _ [_, _] _
  exact V_icmp_eqS (tgt := 1273) (pc := 806) dL_law_806 (by decide) (nxt _ _ hc2 hm2)
/-- sound -/
theorem cs_23 {i : Nat} (hL : L ≤ 384) (hi : (i : Int) + 5 < (L : Int)) (hc : CR_ a σ) (hm : MR_ a σ) (nxt : ∀ a' σ', CR_ a' σ' → MR_ a' σ' → V_ l D mL_ (CL_ D b L xs) 1273 [some (vr_ 130), some (vr_ 0), some (vr_ 38), some (vi_ (i : Int))] [] σ') : V_ l D mL_ (CL_ D b L xs) 811 [some (vr_ 130), some (vr_ 0), some (vr_ 38), some (vi_ (i : Int))] [] σ := by
  refine V_aload_n (pc := 811) dL_law_811 rfl rfl ?_
  refine V_aload_n (pc := 812) dL_law_812 rfl rfl ?_
  refine V_iload_n (pc := 813) dL_law_813 rfl rfl ?_
  refine V_iconst (pc := 814) dL_law_814 ?_
  refine V_iadd (pc := 815) dL_law_815 ?_
  refine V_sld (pc := 816) dL_law_816  hL (by omega) ?_
  refine V_callV (pc := 817) (as := [_]) (rest := []) dL_law_817 ⟨kL_108, iX6_sound, by decide, by decide⟩ rc_0 rfl rfl (Nat.le_of_ble_eq_true rfl) (Nat.le_of_ble_eq_true rfl) ?_
  refine ct_X6_sound sc_rg hc (fun σ1 hc1 hf1 => ?_)
  have hm1 := hm.fm hf1
  show V_ _ _ _ _ _ _ [_] _
  refine V_aload_n (pc := 820) dL_law_820 rfl rfl ?_
  refine V_aload_n (pc := 821) dL_law_821 rfl rfl ?_
  refine V_iload_n (pc := 822) dL_law_822 rfl rfl ?_
  refine V_iconst (pc := 823) dL_law_823 ?_
  refine V_iadd (pc := 824) dL_law_824 ?_
  refine V_sld (pc := 825) dL_law_825  hL (by omega) ?_
  refine V_callV (pc := 826) (as := [_]) (rest := [_]) dL_law_826 ⟨kL_111, iX7_sound, by decide, by decide⟩ rc_38 rfl rfl (Nat.le_of_ble_eq_true rfl) (Nat.le_of_ble_eq_true rfl) ?_
  refine ct_X7_sound sc_rg hm1 (fun σ2 hm2 hg2 => ?_)
  have hc2 := hc1.gm hg2
  show V_ _ _ _ _ _ _ [_, _] _
  exact V_icmp_eqS (tgt := 1273) (pc := 829) dL_law_829 (by decide) (nxt _ _ hc2 hm2)
/-- press -/
theorem cs_24 {i : Nat} (hL : L ≤ 384) (hi : (i : Int) + 5 < (L : Int)) (hc : CR_ a σ) (hm : MR_ a σ) (nxt : ∀ a' σ', CR_ a' σ' → MR_ a' σ' → V_ l D mL_ (CL_ D b L xs) 1273 [some (vr_ 130), some (vr_ 0), some (vr_ 38), some (vi_ (i : Int))] [] σ') : V_ l D mL_ (CL_ D b L xs) 834 [some (vr_ 130), some (vr_ 0), some (vr_ 38), some (vi_ (i : Int))] [] σ := by
  refine V_aload_n (pc := 834) dL_law_834 rfl rfl ?_
  refine V_callV (pc := 835) (as := []) (rest := []) dL_law_835 ⟨kL_112, iX6_press, by decide, by decide⟩ rc_0 rfl rfl (Nat.le_of_ble_eq_true rfl) (Nat.le_of_ble_eq_true rfl) ?_
  refine ct_X6_press  hc (fun σ1 hc1 hf1 => ?_)
  have hm1 := hm.fm hf1
  show V_ _ _ _ _ _ _ [_] _
  refine V_aload_n (pc := 838) dL_law_838 rfl rfl ?_
  refine V_callV (pc := 839) (as := []) (rest := [_]) dL_law_839 ⟨kL_115, iX7_press, by decide, by decide⟩ rc_38 rfl rfl (Nat.le_of_ble_eq_true rfl) (Nat.le_of_ble_eq_true rfl) ?_
  refine ct_X7_press  hm1 (fun σ2 hm2 hg2 => ?_)
  have hc2 := hc1.gm hg2
  show V_ _ _ _ _ _ _ [_, _] _
  exact V_icmp_eqS (tgt := 1273) (pc := 842) dL_law_842 (by decide) (nxt _ _ hc2 hm2)
/-- fair -/
theorem cs_25 {i : Nat} (hL : L ≤ 384) (hi : (i : Int) + 5 < (L : Int)) (hc : CR_ a σ) (hm : MR_ a σ) (nxt : ∀ a' σ', CR_ a' σ' → MR_ a' σ' → V_ l D mL_ (CL_ D b L xs) 1273 [some (vr_ 130), some (vr_ 0), some (vr_ 38), some (vi_ (i : Int))] [] σ') : V_ l D mL_ (CL_ D b L xs) 847 [some (vr_ 130), some (vr_ 0), some (vr_ 38), some (vi_ (i : Int))] [] σ := by
  refine V_aload_n (pc := 847) dL_law_847 rfl rfl ?_
  refine V_aload_n (pc := 848) dL_law_848 rfl rfl ?_
  refine V_iload_n (pc := 849) dL_law_849 rfl rfl ?_
  refine V_iconst (pc := 850) dL_law_850 ?_
  refine V_iadd (pc := 851) dL_law_851 ?_
  refine V_sld (pc := 852) dL_law_852  hL (by omega) ?_
  refine V_aload_n (pc := 853) dL_law_853 rfl rfl ?_
  refine V_iload_n (pc := 854) dL_law_854 rfl rfl ?_
  refine V_iconst (pc := 855) dL_law_855 ?_
  refine V_iadd (pc := 856) dL_law_856 ?_
  refine V_sld (pc := 857) dL_law_857  hL (by omega) ?_
  refine V_callV (pc := 858) (as := [_, _]) (rest := []) dL_law_858 ⟨kL_116, iX6_fair, by decide, by decide⟩ rc_0 rfl rfl (Nat.le_of_ble_eq_true rfl) (Nat.le_of_ble_eq_true rfl) ?_
  refine ct_X6_fair sc_rg sc_rg hc (fun σ1 hc1 hf1 => ?_)
  have hm1 := hm.fm hf1
  show V_ _ _ _ _ _ _ [_] _
  refine V_aload_n (pc := 861) dL_law_861 rfl rfl ?_
  refine V_aload_n (pc := 862) dL_law_862 rfl rfl ?_
  refine V_iload_n (pc := 863) dL_law_863 rfl rfl ?_
  refine V_iconst (pc := 864) dL_law_864 ?_
  refine V_iadd (pc := 865) dL_law_865 ?_
  refine V_sld (pc := 866) dL_law_866  hL (by omega) ?_
  refine V_aload_n (pc := 867) dL_law_867 rfl rfl ?_
  refine V_iload_n (pc := 868) dL_law_868 rfl rfl ?_
  refine V_iconst (pc := 869) dL_law_869 ?_
  refine V_iadd (pc := 870) dL_law_870 ?_
  refine V_sld (pc := 871) dL_law_871  hL (by omega) ?_
  refine V_callV (pc := 872) (as := [_, _]) (rest := [_]) dL_law_872 ⟨kL_120, iX7_fair, by decide, by decide⟩ rc_38 rfl rfl (Nat.le_of_ble_eq_true rfl) (Nat.le_of_ble_eq_true rfl) ?_
  refine ct_X7_fair sc_rg sc_rg hm1 (fun σ2 hm2 hg2 => ?_)
  have hc2 := hc1.gm hg2
  show V_ _ _ _ _ _ _ [_, _] _
  refine V_lcmpS (pc := 875) dL_law_875 ?_
  exact V_if_eq (tgt := 1273) (pc := 876) dL_law_876 (by decide) (by decide) (fun _ => nxt _ _ hc2 hm2) (fun z => absurd rfl z)
/-- storm -/
theorem cs_26 {i : Nat} (hL : L ≤ 384) (hi : (i : Int) + 5 < (L : Int)) (hc : CR_ a σ) (hm : MR_ a σ) (nxt : ∀ a' σ', CR_ a' σ' → MR_ a' σ' → V_ l D mL_ (CL_ D b L xs) 1273 [some (vr_ 130), some (vr_ 0), some (vr_ 38), some (vi_ (i : Int))] [] σ') : V_ l D mL_ (CL_ D b L xs) 881 [some (vr_ 130), some (vr_ 0), some (vr_ 38), some (vi_ (i : Int))] [] σ := by
  refine V_aload_n (pc := 881) dL_law_881 rfl rfl ?_
  refine V_aload_n (pc := 882) dL_law_882 rfl rfl ?_
  refine V_iload_n (pc := 883) dL_law_883 rfl rfl ?_
  refine V_iconst (pc := 884) dL_law_884 ?_
  refine V_iadd (pc := 885) dL_law_885 ?_
  refine V_sld (pc := 886) dL_law_886  hL (by omega) ?_
  refine V_aload_n (pc := 887) dL_law_887 rfl rfl ?_
  refine V_iload_n (pc := 888) dL_law_888 rfl rfl ?_
  refine V_iconst (pc := 889) dL_law_889 ?_
  refine V_iadd (pc := 890) dL_law_890 ?_
  refine V_sld (pc := 891) dL_law_891  hL (by omega) ?_
  refine V_aload_n (pc := 892) dL_law_892 rfl rfl ?_
  refine V_iload_n (pc := 893) dL_law_893 rfl rfl ?_
  refine V_iconst (pc := 894) dL_law_894 ?_
  refine V_iadd (pc := 895) dL_law_895 ?_
  refine V_sld (pc := 896) dL_law_896  hL (by omega) ?_
  refine V_callV (pc := 897) (as := [_, _, _]) (rest := []) dL_law_897 ⟨kL_121, iX6_storm, by decide, by decide⟩ rc_0 rfl rfl (Nat.le_of_ble_eq_true rfl) (Nat.le_of_ble_eq_true rfl) ?_
  refine ct_X6_storm sc_rg sc_rg sc_rg hc (fun σ1 hc1 hf1 => ?_)
  have hm1 := hm.fm hf1
  show V_ _ _ _ _ _ _ [_] _
  refine V_aload_n (pc := 900) dL_law_900 rfl rfl ?_
  refine V_aload_n (pc := 901) dL_law_901 rfl rfl ?_
  refine V_iload_n (pc := 902) dL_law_902 rfl rfl ?_
  refine V_iconst (pc := 903) dL_law_903 ?_
  refine V_iadd (pc := 904) dL_law_904 ?_
  refine V_sld (pc := 905) dL_law_905  hL (by omega) ?_
  refine V_aload_n (pc := 906) dL_law_906 rfl rfl ?_
  refine V_iload_n (pc := 907) dL_law_907 rfl rfl ?_
  refine V_iconst (pc := 908) dL_law_908 ?_
  refine V_iadd (pc := 909) dL_law_909 ?_
  refine V_sld (pc := 910) dL_law_910  hL (by omega) ?_
  refine V_aload_n (pc := 911) dL_law_911 rfl rfl ?_
  refine V_iload_n (pc := 912) dL_law_912 rfl rfl ?_
  refine V_iconst (pc := 913) dL_law_913 ?_
  refine V_iadd (pc := 914) dL_law_914 ?_
  refine V_sld (pc := 915) dL_law_915  hL (by omega) ?_
  refine V_callV (pc := 916) (as := [_, _, _]) (rest := [_]) dL_law_916 ⟨kL_125, iX7_storm, by decide, by decide⟩ rc_38 rfl rfl (Nat.le_of_ble_eq_true rfl) (Nat.le_of_ble_eq_true rfl) ?_
  refine ct_X7_storm sc_rg sc_rg sc_rg hm1 (fun σ2 hm2 hg2 => ?_)
  have hc2 := hc1.gm hg2
  show V_ _ _ _ _ _ _ [_, _] _
  refine V_lcmpS (pc := 919) dL_law_919 ?_
  exact V_if_eq (tgt := 1273) (pc := 920) dL_law_920 (by decide) (by decide) (fun _ => nxt _ _ hc2 hm2) (fun z => absurd rfl z)
/-- years -/
theorem cs_27 {i : Nat} (hL : L ≤ 384) (hi : (i : Int) + 5 < (L : Int)) (hc : CR_ a σ) (hm : MR_ a σ) (nxt : ∀ a' σ', CR_ a' σ' → MR_ a' σ' → V_ l D mL_ (CL_ D b L xs) 1273 [some (vr_ 130), some (vr_ 0), some (vr_ 38), some (vi_ (i : Int))] [] σ') : V_ l D mL_ (CL_ D b L xs) 925 [some (vr_ 130), some (vr_ 0), some (vr_ 38), some (vi_ (i : Int))] [] σ := by
  refine V_aload_n (pc := 925) dL_law_925 rfl rfl ?_
  refine V_aload_n (pc := 926) dL_law_926 rfl rfl ?_
  refine V_iload_n (pc := 927) dL_law_927 rfl rfl ?_
  refine V_iconst (pc := 928) dL_law_928 ?_
  refine V_iadd (pc := 929) dL_law_929 ?_
  refine V_sld (pc := 930) dL_law_930  hL (by omega) ?_
  refine V_aload_n (pc := 931) dL_law_931 rfl rfl ?_
  refine V_iload_n (pc := 932) dL_law_932 rfl rfl ?_
  refine V_iconst (pc := 933) dL_law_933 ?_
  refine V_iadd (pc := 934) dL_law_934 ?_
  refine V_sld (pc := 935) dL_law_935  hL (by omega) ?_
  refine V_aload_n (pc := 936) dL_law_936 rfl rfl ?_
  refine V_iload_n (pc := 937) dL_law_937 rfl rfl ?_
  refine V_iconst (pc := 938) dL_law_938 ?_
  refine V_iadd (pc := 939) dL_law_939 ?_
  refine V_sld (pc := 940) dL_law_940  hL (by omega) ?_
  refine V_aload_n (pc := 941) dL_law_941 rfl rfl ?_
  refine V_iload_n (pc := 942) dL_law_942 rfl rfl ?_
  refine V_iconst (pc := 943) dL_law_943 ?_
  refine V_iadd (pc := 944) dL_law_944 ?_
  refine V_sld (pc := 945) dL_law_945  hL (by omega) ?_
  refine V_callV (pc := 946) (as := [_, _, _, _]) (rest := []) dL_law_946 ⟨kL_126, iX6_years, by decide, by decide⟩ rc_0 rfl rfl (Nat.le_of_ble_eq_true rfl) (Nat.le_of_ble_eq_true rfl) ?_
  refine ct_X6_years sc_rg sc_rg sc_rg hc (fun σ1 hc1 hf1 => ?_)
  have hm1 := hm.fm hf1
  show V_ _ _ _ _ _ _ [_] _
  refine V_aload_n (pc := 949) dL_law_949 rfl rfl ?_
  refine V_aload_n (pc := 950) dL_law_950 rfl rfl ?_
  refine V_iload_n (pc := 951) dL_law_951 rfl rfl ?_
  refine V_iconst (pc := 952) dL_law_952 ?_
  refine V_iadd (pc := 953) dL_law_953 ?_
  refine V_sld (pc := 954) dL_law_954  hL (by omega) ?_
  refine V_aload_n (pc := 955) dL_law_955 rfl rfl ?_
  refine V_iload_n (pc := 956) dL_law_956 rfl rfl ?_
  refine V_iconst (pc := 957) dL_law_957 ?_
  refine V_iadd (pc := 958) dL_law_958 ?_
  refine V_sld (pc := 959) dL_law_959  hL (by omega) ?_
  refine V_aload_n (pc := 960) dL_law_960 rfl rfl ?_
  refine V_iload_n (pc := 961) dL_law_961 rfl rfl ?_
  refine V_iconst (pc := 962) dL_law_962 ?_
  refine V_iadd (pc := 963) dL_law_963 ?_
  refine V_sld (pc := 964) dL_law_964  hL (by omega) ?_
  refine V_aload_n (pc := 965) dL_law_965 rfl rfl ?_
  refine V_iload_n (pc := 966) dL_law_966 rfl rfl ?_
  refine V_iconst (pc := 967) dL_law_967 ?_
  refine V_iadd (pc := 968) dL_law_968 ?_
  refine V_sld (pc := 969) dL_law_969  hL (by omega) ?_
  refine V_callV (pc := 970) (as := [_, _, _, _]) (rest := [_]) dL_law_970 ⟨kL_130, iX7_years, by decide, by decide⟩ rc_38 rfl rfl (Nat.le_of_ble_eq_true rfl) (Nat.le_of_ble_eq_true rfl) ?_
  refine ct_X7_years sc_rg sc_rg sc_rg sc_rg hm1 (fun σ2 hm2 hg2 => ?_)
  have hc2 := hc1.gm hg2
  show V_ _ _ _ _ _ _ [_, _] _
  exact V_icmp_eqS (tgt := 1273) (pc := 973) dL_law_973 (by decide) (nxt _ _ hc2 hm2)
/-- sheet -/
theorem cs_28 {i : Nat} (hL : L ≤ 384) (hi : (i : Int) + 5 < (L : Int)) (hc : CR_ a σ) (hm : MR_ a σ) (nxt : ∀ a' σ', CR_ a' σ' → MR_ a' σ' → V_ l D mL_ (CL_ D b L xs) 1273 [some (vr_ 130), some (vr_ 0), some (vr_ 38), some (vi_ (i : Int))] [] σ') : V_ l D mL_ (CL_ D b L xs) 978 [some (vr_ 130), some (vr_ 0), some (vr_ 38), some (vi_ (i : Int))] [] σ := by
  refine V_aload_n (pc := 978) dL_law_978 rfl rfl ?_
  refine V_aload_n (pc := 979) dL_law_979 rfl rfl ?_
  refine V_iload_n (pc := 980) dL_law_980 rfl rfl ?_
  refine V_iconst (pc := 981) dL_law_981 ?_
  refine V_iadd (pc := 982) dL_law_982 ?_
  refine V_sld (pc := 983) dL_law_983  hL (by omega) ?_
  refine V_aload_n (pc := 984) dL_law_984 rfl rfl ?_
  refine V_iload_n (pc := 985) dL_law_985 rfl rfl ?_
  refine V_iconst (pc := 986) dL_law_986 ?_
  refine V_iadd (pc := 987) dL_law_987 ?_
  refine V_sld (pc := 988) dL_law_988  hL (by omega) ?_
  refine V_aload_n (pc := 989) dL_law_989 rfl rfl ?_
  refine V_iload_n (pc := 990) dL_law_990 rfl rfl ?_
  refine V_iconst (pc := 991) dL_law_991 ?_
  refine V_iadd (pc := 992) dL_law_992 ?_
  refine V_sld (pc := 993) dL_law_993  hL (by omega) ?_
  refine V_callV (pc := 994) (as := [_, _, _]) (rest := []) dL_law_994 ⟨kL_131, iX6_sheet, by decide, by decide⟩ rc_0 rfl rfl (Nat.le_of_ble_eq_true rfl) (Nat.le_of_ble_eq_true rfl) ?_
  refine ct_X6_sheet sc_rg sc_rg sc_rg hc (fun σ1 hc1 hf1 => ?_)
  have hm1 := hm.fm hf1
  show V_ _ _ _ _ _ _ [_] _
  refine V_aload_n (pc := 997) dL_law_997 rfl rfl ?_
  refine V_aload_n (pc := 998) dL_law_998 rfl rfl ?_
  refine V_iload_n (pc := 999) dL_law_999 rfl rfl ?_
  refine V_iconst (pc := 1000) dL_law_1000 ?_
  refine V_iadd (pc := 1001) dL_law_1001 ?_
  refine V_sld (pc := 1002) dL_law_1002  hL (by omega) ?_
  refine V_aload_n (pc := 1003) dL_law_1003 rfl rfl ?_
  refine V_iload_n (pc := 1004) dL_law_1004 rfl rfl ?_
  refine V_iconst (pc := 1005) dL_law_1005 ?_
  refine V_iadd (pc := 1006) dL_law_1006 ?_
  refine V_sld (pc := 1007) dL_law_1007  hL (by omega) ?_
  refine V_aload_n (pc := 1008) dL_law_1008 rfl rfl ?_
  refine V_iload_n (pc := 1009) dL_law_1009 rfl rfl ?_
  refine V_iconst (pc := 1010) dL_law_1010 ?_
  refine V_iadd (pc := 1011) dL_law_1011 ?_
  refine V_sld (pc := 1012) dL_law_1012  hL (by omega) ?_
  refine V_callV (pc := 1013) (as := [_, _, _]) (rest := [_]) dL_law_1013 ⟨kL_135, iX7_sheet, by decide, by decide⟩ rc_38 rfl rfl (Nat.le_of_ble_eq_true rfl) (Nat.le_of_ble_eq_true rfl) ?_
  refine ct_X7_sheet sc_rg sc_rg sc_rg hm1 hc1.1.1 (fun σ2 hm2 hg2 => ?_)
  have hc2 := hc1.gm hg2
  show V_ _ _ _ _ _ _ [_, _] _
  exact V_icmp_eqS (tgt := 1273) (pc := 1016) dL_law_1016 (by decide) (nxt _ _ hc2 hm2)
/-- lose -/
theorem cs_29 {i : Nat} (hL : L ≤ 384) (hi : (i : Int) + 5 < (L : Int)) (hc : CR_ a σ) (hm : MR_ a σ) (nxt : ∀ a' σ', CR_ a' σ' → MR_ a' σ' → V_ l D mL_ (CL_ D b L xs) 1273 [some (vr_ 130), some (vr_ 0), some (vr_ 38), some (vi_ (i : Int))] [] σ') : V_ l D mL_ (CL_ D b L xs) 1021 [some (vr_ 130), some (vr_ 0), some (vr_ 38), some (vi_ (i : Int))] [] σ := by
  refine V_aload_n (pc := 1021) dL_law_1021 rfl rfl ?_
  refine V_aload_n (pc := 1022) dL_law_1022 rfl rfl ?_
  refine V_iload_n (pc := 1023) dL_law_1023 rfl rfl ?_
  refine V_iconst (pc := 1024) dL_law_1024 ?_
  refine V_iadd (pc := 1025) dL_law_1025 ?_
  refine V_sld (pc := 1026) dL_law_1026  hL (by omega) ?_
  refine V_callV (pc := 1027) (as := [_]) (rest := []) dL_law_1027 ⟨kL_136, iX6_lose, by decide, by decide⟩ rc_0 rfl rfl (Nat.le_of_ble_eq_true rfl) (Nat.le_of_ble_eq_true rfl) ?_
  refine ct_X6_lose sc_rg hc (fun σ1 hc1 hf1 => ?_)
  have hm1 := hm.fm hf1
  show V_ _ _ _ _ _ _ [_] _
  refine V_aload_n (pc := 1030) dL_law_1030 rfl rfl ?_
  refine V_aload_n (pc := 1031) dL_law_1031 rfl rfl ?_
  refine V_iload_n (pc := 1032) dL_law_1032 rfl rfl ?_
  refine V_iconst (pc := 1033) dL_law_1033 ?_
  refine V_iadd (pc := 1034) dL_law_1034 ?_
  refine V_sld (pc := 1035) dL_law_1035  hL (by omega) ?_
  refine V_callV (pc := 1036) (as := [_]) (rest := [_]) dL_law_1036 ⟨kL_139, iX7_lose, by decide, by decide⟩ rc_38 rfl rfl (Nat.le_of_ble_eq_true rfl) (Nat.le_of_ble_eq_true rfl) ?_
  refine ct_X7_lose sc_rg hm1 hc1.1.1 (fun σ2 hm2 hg2 => ?_)
  have hc2 := hc1.gm hg2
  show V_ _ _ _ _ _ _ [_, _] _
  exact V_icmp_eqS (tgt := 1273) (pc := 1039) dL_law_1039 (by decide) (nxt _ _ hc2 hm2)
/-- lay -/
theorem cs_30 {i : Nat} (hL : L ≤ 384) (hi : (i : Int) + 5 < (L : Int)) (hc : CR_ a σ) (hm : MR_ a σ) (nxt : ∀ a' σ', CR_ a' σ' → MR_ a' σ' → V_ l D mL_ (CL_ D b L xs) 1273 [some (vr_ 130), some (vr_ 0), some (vr_ 38), some (vi_ (i : Int))] [] σ') : V_ l D mL_ (CL_ D b L xs) 1044 [some (vr_ 130), some (vr_ 0), some (vr_ 38), some (vi_ (i : Int))] [] σ := by
  refine V_aload_n (pc := 1044) dL_law_1044 rfl rfl ?_
  refine V_aload_n (pc := 1045) dL_law_1045 rfl rfl ?_
  refine V_iload_n (pc := 1046) dL_law_1046 rfl rfl ?_
  refine V_iconst (pc := 1047) dL_law_1047 ?_
  refine V_iadd (pc := 1048) dL_law_1048 ?_
  refine V_sld (pc := 1049) dL_law_1049  hL (by omega) ?_
  refine V_aload_n (pc := 1050) dL_law_1050 rfl rfl ?_
  refine V_iload_n (pc := 1051) dL_law_1051 rfl rfl ?_
  refine V_iconst (pc := 1052) dL_law_1052 ?_
  refine V_iadd (pc := 1053) dL_law_1053 ?_
  refine V_sld (pc := 1054) dL_law_1054  hL (by omega) ?_
  refine V_aload_n (pc := 1055) dL_law_1055 rfl rfl ?_
  refine V_iload_n (pc := 1056) dL_law_1056 rfl rfl ?_
  refine V_iconst (pc := 1057) dL_law_1057 ?_
  refine V_iadd (pc := 1058) dL_law_1058 ?_
  refine V_sld (pc := 1059) dL_law_1059  hL (by omega) ?_
  refine V_aload_n (pc := 1060) dL_law_1060 rfl rfl ?_
  refine V_iload_n (pc := 1061) dL_law_1061 rfl rfl ?_
  refine V_iconst (pc := 1062) dL_law_1062 ?_
  refine V_iadd (pc := 1063) dL_law_1063 ?_
  refine V_sld (pc := 1064) dL_law_1064  hL (by omega) ?_
  refine V_callV (pc := 1065) (as := [_, _, _, _]) (rest := []) dL_law_1065 ⟨kL_140, iX6_lay, by decide, by decide⟩ rc_0 rfl rfl (Nat.le_of_ble_eq_true rfl) (Nat.le_of_ble_eq_true rfl) ?_
  refine ct_X6_lay sc_rg sc_rg sc_rg sc_rg hc (fun σ1 hc1 hf1 => ?_)
  have hm1 := hm.fm hf1
  show V_ _ _ _ _ _ _ [_] _
  refine V_aload_n (pc := 1068) dL_law_1068 rfl rfl ?_
  refine V_aload_n (pc := 1069) dL_law_1069 rfl rfl ?_
  refine V_iload_n (pc := 1070) dL_law_1070 rfl rfl ?_
  refine V_iconst (pc := 1071) dL_law_1071 ?_
  refine V_iadd (pc := 1072) dL_law_1072 ?_
  refine V_sld (pc := 1073) dL_law_1073  hL (by omega) ?_
  refine V_aload_n (pc := 1074) dL_law_1074 rfl rfl ?_
  refine V_iload_n (pc := 1075) dL_law_1075 rfl rfl ?_
  refine V_iconst (pc := 1076) dL_law_1076 ?_
  refine V_iadd (pc := 1077) dL_law_1077 ?_
  refine V_sld (pc := 1078) dL_law_1078  hL (by omega) ?_
  refine V_aload_n (pc := 1079) dL_law_1079 rfl rfl ?_
  refine V_iload_n (pc := 1080) dL_law_1080 rfl rfl ?_
  refine V_iconst (pc := 1081) dL_law_1081 ?_
  refine V_iadd (pc := 1082) dL_law_1082 ?_
  refine V_sld (pc := 1083) dL_law_1083  hL (by omega) ?_
  refine V_aload_n (pc := 1084) dL_law_1084 rfl rfl ?_
  refine V_iload_n (pc := 1085) dL_law_1085 rfl rfl ?_
  refine V_iconst (pc := 1086) dL_law_1086 ?_
  refine V_iadd (pc := 1087) dL_law_1087 ?_
  refine V_sld (pc := 1088) dL_law_1088  hL (by omega) ?_
  refine V_callV (pc := 1089) (as := [_, _, _, _]) (rest := [_]) dL_law_1089 ⟨kL_143, iX7_lay, by decide, by decide⟩ rc_38 rfl rfl (Nat.le_of_ble_eq_true rfl) (Nat.le_of_ble_eq_true rfl) ?_
  refine ct_X7_lay sc_rg sc_rg sc_rg sc_rg hm1 hc1.1.1 (fun σ2 hm2 hg2 => ?_)
  have hc2 := hc1.gm hg2
  show V_ _ _ _ _ _ _ [_, _] _
  exact V_icmp_eqS (tgt := 1273) (pc := 1092) dL_law_1092 (by decide) (nxt _ _ hc2 hm2)
/-- get -/
theorem cs_31 {i : Nat} (hL : L ≤ 384) (hi : (i : Int) + 5 < (L : Int)) (hc : CR_ a σ) (hm : MR_ a σ) (nxt : ∀ a' σ', CR_ a' σ' → MR_ a' σ' → V_ l D mL_ (CL_ D b L xs) 1273 [some (vr_ 130), some (vr_ 0), some (vr_ 38), some (vi_ (i : Int))] [] σ') : V_ l D mL_ (CL_ D b L xs) 1097 [some (vr_ 130), some (vr_ 0), some (vr_ 38), some (vi_ (i : Int))] [] σ := by
  refine V_aload_n (pc := 1097) dL_law_1097 rfl rfl ?_
  refine V_aload_n (pc := 1098) dL_law_1098 rfl rfl ?_
  refine V_iload_n (pc := 1099) dL_law_1099 rfl rfl ?_
  refine V_iconst (pc := 1100) dL_law_1100 ?_
  refine V_iadd (pc := 1101) dL_law_1101 ?_
  refine V_sld (pc := 1102) dL_law_1102  hL (by omega) ?_
  refine V_aload_n (pc := 1103) dL_law_1103 rfl rfl ?_
  refine V_iload_n (pc := 1104) dL_law_1104 rfl rfl ?_
  refine V_iconst (pc := 1105) dL_law_1105 ?_
  refine V_iadd (pc := 1106) dL_law_1106 ?_
  refine V_sld (pc := 1107) dL_law_1107  hL (by omega) ?_
  refine V_aload_n (pc := 1108) dL_law_1108 rfl rfl ?_
  refine V_iload_n (pc := 1109) dL_law_1109 rfl rfl ?_
  refine V_iconst (pc := 1110) dL_law_1110 ?_
  refine V_iadd (pc := 1111) dL_law_1111 ?_
  refine V_sld (pc := 1112) dL_law_1112  hL (by omega) ?_
  refine V_callV (pc := 1113) (as := [_, _, _]) (rest := []) dL_law_1113 ⟨kL_144, iX6_get, by decide, by decide⟩ rc_0 rfl rfl (Nat.le_of_ble_eq_true rfl) (Nat.le_of_ble_eq_true rfl) ?_
  refine ct_X6_get sc_rg sc_rg sc_rg hc (fun σ1 hc1 hf1 => ?_)
  have hm1 := hm.fm hf1
  show V_ _ _ _ _ _ _ [_] _
  refine V_aload_n (pc := 1116) dL_law_1116 rfl rfl ?_
  refine V_aload_n (pc := 1117) dL_law_1117 rfl rfl ?_
  refine V_iload_n (pc := 1118) dL_law_1118 rfl rfl ?_
  refine V_iconst (pc := 1119) dL_law_1119 ?_
  refine V_iadd (pc := 1120) dL_law_1120 ?_
  refine V_sld (pc := 1121) dL_law_1121  hL (by omega) ?_
  refine V_aload_n (pc := 1122) dL_law_1122 rfl rfl ?_
  refine V_iload_n (pc := 1123) dL_law_1123 rfl rfl ?_
  refine V_iconst (pc := 1124) dL_law_1124 ?_
  refine V_iadd (pc := 1125) dL_law_1125 ?_
  refine V_sld (pc := 1126) dL_law_1126  hL (by omega) ?_
  refine V_aload_n (pc := 1127) dL_law_1127 rfl rfl ?_
  refine V_iload_n (pc := 1128) dL_law_1128 rfl rfl ?_
  refine V_iconst (pc := 1129) dL_law_1129 ?_
  refine V_iadd (pc := 1130) dL_law_1130 ?_
  refine V_sld (pc := 1131) dL_law_1131  hL (by omega) ?_
  refine V_callV (pc := 1132) (as := [_, _, _]) (rest := [_]) dL_law_1132 ⟨kL_147, iX7_get, by decide, by decide⟩ rc_38 rfl rfl (Nat.le_of_ble_eq_true rfl) (Nat.le_of_ble_eq_true rfl) ?_
  refine ct_X7_get sc_rg sc_rg sc_rg hm1 hc1.1.1 (fun σ2 hm2 hg2 => ?_)
  have hc2 := hc1.gm hg2
  show V_ _ _ _ _ _ _ [_, _] _
  exact V_icmp_eqS (tgt := 1273) (pc := 1135) dL_law_1135 (by decide) (nxt _ _ hc2 hm2)
/-- copy -/
theorem cs_32 {i : Nat} (hL : L ≤ 384) (hi : (i : Int) + 5 < (L : Int)) (hc : CR_ a σ) (hm : MR_ a σ) (nxt : ∀ a' σ', CR_ a' σ' → MR_ a' σ' → V_ l D mL_ (CL_ D b L xs) 1273 [some (vr_ 130), some (vr_ 0), some (vr_ 38), some (vi_ (i : Int))] [] σ') : V_ l D mL_ (CL_ D b L xs) 1140 [some (vr_ 130), some (vr_ 0), some (vr_ 38), some (vi_ (i : Int))] [] σ := by
  refine V_aload_n (pc := 1140) dL_law_1140 rfl rfl ?_
  refine V_aload_n (pc := 1141) dL_law_1141 rfl rfl ?_
  refine V_iload_n (pc := 1142) dL_law_1142 rfl rfl ?_
  refine V_iconst (pc := 1143) dL_law_1143 ?_
  refine V_iadd (pc := 1144) dL_law_1144 ?_
  refine V_sld (pc := 1145) dL_law_1145  hL (by omega) ?_
  refine V_aload_n (pc := 1146) dL_law_1146 rfl rfl ?_
  refine V_iload_n (pc := 1147) dL_law_1147 rfl rfl ?_
  refine V_iconst (pc := 1148) dL_law_1148 ?_
  refine V_iadd (pc := 1149) dL_law_1149 ?_
  refine V_sld (pc := 1150) dL_law_1150  hL (by omega) ?_
  refine V_aload_n (pc := 1151) dL_law_1151 rfl rfl ?_
  refine V_iload_n (pc := 1152) dL_law_1152 rfl rfl ?_
  refine V_iconst (pc := 1153) dL_law_1153 ?_
  refine V_iadd (pc := 1154) dL_law_1154 ?_
  refine V_sld (pc := 1155) dL_law_1155  hL (by omega) ?_
  refine V_aload_n (pc := 1156) dL_law_1156 rfl rfl ?_
  refine V_iload_n (pc := 1157) dL_law_1157 rfl rfl ?_
  refine V_iconst (pc := 1158) dL_law_1158 ?_
  refine V_iadd (pc := 1159) dL_law_1159 ?_
  refine V_sld (pc := 1160) dL_law_1160  hL (by omega) ?_
  refine V_aload_n (pc := 1161) dL_law_1161 rfl rfl ?_
  refine V_iload_n (pc := 1162) dL_law_1162 rfl rfl ?_
  refine V_iconst (pc := 1163) dL_law_1163 ?_
  refine V_iadd (pc := 1164) dL_law_1164 ?_
  refine V_sld (pc := 1165) dL_law_1165  hL (by omega) ?_
  refine V_callV (pc := 1166) (as := [_, _, _, _, _]) (rest := []) dL_law_1166 ⟨kL_148, iX6_copy, by decide, by decide⟩ rc_0 rfl rfl (Nat.le_of_ble_eq_true rfl) (Nat.le_of_ble_eq_true rfl) ?_
  refine ct_X6_copy sc_rg sc_rg sc_rg sc_rg sc_rg hc (fun σ1 hc1 hf1 => ?_)
  have hm1 := hm.fm hf1
  show V_ _ _ _ _ _ _ [_] _
  refine V_aload_n (pc := 1169) dL_law_1169 rfl rfl ?_
  refine V_aload_n (pc := 1170) dL_law_1170 rfl rfl ?_
  refine V_iload_n (pc := 1171) dL_law_1171 rfl rfl ?_
  refine V_iconst (pc := 1172) dL_law_1172 ?_
  refine V_iadd (pc := 1173) dL_law_1173 ?_
  refine V_sld (pc := 1174) dL_law_1174  hL (by omega) ?_
  refine V_aload_n (pc := 1175) dL_law_1175 rfl rfl ?_
  refine V_iload_n (pc := 1176) dL_law_1176 rfl rfl ?_
  refine V_iconst (pc := 1177) dL_law_1177 ?_
  refine V_iadd (pc := 1178) dL_law_1178 ?_
  refine V_sld (pc := 1179) dL_law_1179  hL (by omega) ?_
  refine V_aload_n (pc := 1180) dL_law_1180 rfl rfl ?_
  refine V_iload_n (pc := 1181) dL_law_1181 rfl rfl ?_
  refine V_iconst (pc := 1182) dL_law_1182 ?_
  refine V_iadd (pc := 1183) dL_law_1183 ?_
  refine V_sld (pc := 1184) dL_law_1184  hL (by omega) ?_
  refine V_aload_n (pc := 1185) dL_law_1185 rfl rfl ?_
  refine V_iload_n (pc := 1186) dL_law_1186 rfl rfl ?_
  refine V_iconst (pc := 1187) dL_law_1187 ?_
  refine V_iadd (pc := 1188) dL_law_1188 ?_
  refine V_sld (pc := 1189) dL_law_1189  hL (by omega) ?_
  refine V_aload_n (pc := 1190) dL_law_1190 rfl rfl ?_
  refine V_iload_n (pc := 1191) dL_law_1191 rfl rfl ?_
  refine V_iconst (pc := 1192) dL_law_1192 ?_
  refine V_iadd (pc := 1193) dL_law_1193 ?_
  refine V_sld (pc := 1194) dL_law_1194  hL (by omega) ?_
  refine V_callV (pc := 1195) (as := [_, _, _, _, _]) (rest := [_]) dL_law_1195 ⟨kL_152, iX7_copy, by decide, by decide⟩ rc_38 rfl rfl (Nat.le_of_ble_eq_true rfl) (Nat.le_of_ble_eq_true rfl) ?_
  refine ct_X7_copy sc_rg sc_rg sc_rg sc_rg sc_rg hm1 hc1.1.1 (fun σ2 hm2 hg2 => ?_)
  have hc2 := hc1.gm hg2
  show V_ _ _ _ _ _ _ [_, _] _
  exact V_icmp_eqS (tgt := 1273) (pc := 1198) dL_law_1198 (by decide) (nxt _ _ hc2 hm2)
/-- write -/
theorem cs_33 {i : Nat} (hL : L ≤ 384) (hi : (i : Int) + 5 < (L : Int)) (hc : CR_ a σ) (hm : MR_ a σ) (nxt : ∀ a' σ', CR_ a' σ' → MR_ a' σ' → V_ l D mL_ (CL_ D b L xs) 1273 [some (vr_ 130), some (vr_ 0), some (vr_ 38), some (vi_ (i : Int))] [] σ') : V_ l D mL_ (CL_ D b L xs) 1203 [some (vr_ 130), some (vr_ 0), some (vr_ 38), some (vi_ (i : Int))] [] σ := by
  refine V_aload_n (pc := 1203) dL_law_1203 rfl rfl ?_
  refine V_aload_n (pc := 1204) dL_law_1204 rfl rfl ?_
  refine V_iload_n (pc := 1205) dL_law_1205 rfl rfl ?_
  refine V_iconst (pc := 1206) dL_law_1206 ?_
  refine V_iadd (pc := 1207) dL_law_1207 ?_
  refine V_sld (pc := 1208) dL_law_1208  hL (by omega) ?_
  refine V_aload_n (pc := 1209) dL_law_1209 rfl rfl ?_
  refine V_iload_n (pc := 1210) dL_law_1210 rfl rfl ?_
  refine V_iconst (pc := 1211) dL_law_1211 ?_
  refine V_iadd (pc := 1212) dL_law_1212 ?_
  refine V_sld (pc := 1213) dL_law_1213  hL (by omega) ?_
  refine V_callV (pc := 1214) (as := [_, _]) (rest := []) dL_law_1214 ⟨kL_153, iX6_write, by decide, by decide⟩ rc_0 rfl rfl (Nat.le_of_ble_eq_true rfl) (Nat.le_of_ble_eq_true rfl) ?_
  refine ct_X6_write sc_rg sc_rg hc (fun σ1 hc1 hf1 => ?_)
  have hm1 := hm.fm hf1
  show V_ _ _ _ _ _ _ [_] _
  refine V_aload_n (pc := 1217) dL_law_1217 rfl rfl ?_
  refine V_aload_n (pc := 1218) dL_law_1218 rfl rfl ?_
  refine V_iload_n (pc := 1219) dL_law_1219 rfl rfl ?_
  refine V_iconst (pc := 1220) dL_law_1220 ?_
  refine V_iadd (pc := 1221) dL_law_1221 ?_
  refine V_sld (pc := 1222) dL_law_1222  hL (by omega) ?_
  refine V_aload_n (pc := 1223) dL_law_1223 rfl rfl ?_
  refine V_iload_n (pc := 1224) dL_law_1224 rfl rfl ?_
  refine V_iconst (pc := 1225) dL_law_1225 ?_
  refine V_iadd (pc := 1226) dL_law_1226 ?_
  refine V_sld (pc := 1227) dL_law_1227  hL (by omega) ?_
  refine V_callV (pc := 1228) (as := [_, _]) (rest := [_]) dL_law_1228 ⟨kL_156, iX7_write, by decide, by decide⟩ rc_38 rfl rfl (Nat.le_of_ble_eq_true rfl) (Nat.le_of_ble_eq_true rfl) ?_
  refine ct_X7_write sc_rg sc_rg hm1 hc1.1.1 (fun σ2 hm2 hg2 => ?_)
  have hc2 := hc1.gm hg2
  show V_ _ _ _ _ _ _ [_, _] _
  exact V_icmp_eqS (tgt := 1273) (pc := 1231) dL_law_1231 (by decide) (nxt _ _ hc2 hm2)
/-- count -/
theorem cs_34 {i : Nat} (hL : L ≤ 384) (hi : (i : Int) + 5 < (L : Int)) (hc : CR_ a σ) (hm : MR_ a σ) (nxt : ∀ a' σ', CR_ a' σ' → MR_ a' σ' → V_ l D mL_ (CL_ D b L xs) 1273 [some (vr_ 130), some (vr_ 0), some (vr_ 38), some (vi_ (i : Int))] [] σ') : V_ l D mL_ (CL_ D b L xs) 1236 [some (vr_ 130), some (vr_ 0), some (vr_ 38), some (vi_ (i : Int))] [] σ := by
  refine V_aload_n (pc := 1236) dL_law_1236 rfl rfl ?_
  refine V_aload_n (pc := 1237) dL_law_1237 rfl rfl ?_
  refine V_iload_n (pc := 1238) dL_law_1238 rfl rfl ?_
  refine V_iconst (pc := 1239) dL_law_1239 ?_
  refine V_iadd (pc := 1240) dL_law_1240 ?_
  refine V_sld (pc := 1241) dL_law_1241  hL (by omega) ?_
  refine V_callV (pc := 1242) (as := [_]) (rest := []) dL_law_1242 ⟨kL_157, iX6_count, by decide, by decide⟩ rc_0 rfl rfl (Nat.le_of_ble_eq_true rfl) (Nat.le_of_ble_eq_true rfl) ?_
  refine ct_X6_count sc_rg hc (fun σ1 hc1 hf1 => ?_)
  have hm1 := hm.fm hf1
  show V_ _ _ _ _ _ _ [_] _
  refine V_aload_n (pc := 1245) dL_law_1245 rfl rfl ?_
  refine V_aload_n (pc := 1246) dL_law_1246 rfl rfl ?_
  refine V_iload_n (pc := 1247) dL_law_1247 rfl rfl ?_
  refine V_iconst (pc := 1248) dL_law_1248 ?_
  refine V_iadd (pc := 1249) dL_law_1249 ?_
  refine V_sld (pc := 1250) dL_law_1250  hL (by omega) ?_
  refine V_callV (pc := 1251) (as := [_]) (rest := [_]) dL_law_1251 ⟨kL_160, iX7_count, by decide, by decide⟩ rc_38 rfl rfl (Nat.le_of_ble_eq_true rfl) (Nat.le_of_ble_eq_true rfl) ?_
  refine ct_X7_count sc_rg hm1 (fun σ2 hm2 _ hg2 => ?_)
  have hc2 := hc1.gm hg2
  show V_ _ _ _ _ _ _ [_, _] _
  exact V_icmp_eqS (tgt := 1273) (pc := 1254) dL_law_1254 (by decide) (nxt _ _ hc2 hm2)
/-- digest -/
theorem cs_35 {i : Nat} (hL : L ≤ 384) (hi : (i : Int) + 5 < (L : Int)) (hc : CR_ a σ) (hm : MR_ a σ) (nxt : ∀ a' σ', CR_ a' σ' → MR_ a' σ' → V_ l D mL_ (CL_ D b L xs) 1273 [some (vr_ 130), some (vr_ 0), some (vr_ 38), some (vi_ (i : Int))] [] σ') : V_ l D mL_ (CL_ D b L xs) 1259 [some (vr_ 130), some (vr_ 0), some (vr_ 38), some (vi_ (i : Int))] [] σ := by
  refine V_aload_n (pc := 1259) dL_law_1259 rfl rfl ?_
  refine V_callV (pc := 1260) (as := []) (rest := []) dL_law_1260 ⟨kL_161, iX6_digest, by decide, by decide⟩ rc_0 rfl rfl (Nat.le_of_ble_eq_true rfl) (Nat.le_of_ble_eq_true rfl) ?_
  refine ct_X6_digest  hc (fun σ1 hc1 hf1 => ?_)
  have hm1 := hm.fm hf1
  show V_ _ _ _ _ _ _ [_] _
  refine V_aload_n (pc := 1263) dL_law_1263 rfl rfl ?_
  refine V_callV (pc := 1264) (as := []) (rest := [_]) dL_law_1264 ⟨kL_165, iX7_digest, by decide, by decide⟩ rc_38 rfl rfl (Nat.le_of_ble_eq_true rfl) (Nat.le_of_ble_eq_true rfl) ?_
  refine ct_X7_digest  hm1 (fun σ2 hm2 hg2 => ?_)
  have hc2 := hc1.gm hg2
  show V_ _ _ _ _ _ _ [_, _] _
  refine V_lcmpS (pc := 1267) dL_law_1267 ?_
  exact V_if_eq (tgt := 1273) (pc := 1268) dL_law_1268 (by decide) (by decide) (fun _ => nxt _ _ hc2 hm2) (fun z => absurd rfl z)
theorem lw_loop (hL : L ≤ 384) : ∀ n : Nat, ∀ i : Nat, L + 6 ≤ i + n → i ≤ L → ∀ a σ, CR_ a σ → MR_ a σ → V_ l D mL_ (CL_ D b L xs) 18 [some (vr_ 130), some (vr_ 0), some (vr_ 38), some (vi_ (i : Int))] [] σ := by
  intro n
  induction n with
  | zero => intro i hi hi2 a σ hc hm; omega
  | succ n ih =>
    intro i hi hi2 a σ hc hm
    refine V_iload_n (pc := 18) dL_law_18 rfl rfl ?_
    refine V_aload_n (pc := 19) dL_law_19 rfl rfl ?_
    refine V_slen (pc := 20) dL_law_20 ?_
    refine V_bipush (pc := 21) dL_law_21 (by decide) ?_
    refine V_isub (pc := 23) dL_law_23 ?_
    refine V_icmp_gt (tgt := 1279) (pc := 24) dL_law_24 (by decide) (by constructor <;> omega) (by constructor <;> omega) (fun h24 => ?_) (fun h24 => ?_)
    · refine V_iconst (pc := 1279) dL_law_1279 ?_
      exact V_lret (pc := 1280) dL_law_1280
    · have h5 : (i : Int) + 5 < (L : Int) := by omega
      have nxt : ∀ a' σ', CR_ a' σ' → MR_ a' σ' → V_ l D mL_ (CL_ D b L xs) 1273 [some (vr_ 130), some (vr_ 0), some (vr_ 38), some (vi_ (i : Int))] [] σ' := by
        intro a' σ' hc' hm'
        refine V_iinc (pc := 1273) dL_law_1273 rfl (by decide) rfl ?_
        show V_ _ _ _ _ _ [_, _, _, _] _ _
        refine V_goto (tgt := 18) (pc := 1276) dL_law_1276 (by decide) ?_
        exact V_cg (ih (i + 6) (by omega) (by omega) a' σ' hc' hm') (by simp) rfl rfl
      refine V_aload_n (pc := 27) dL_law_27 rfl rfl ?_
      refine V_iload_n (pc := 28) dL_law_28 rfl rfl ?_
      refine V_sld (pc := 29) dL_law_29 hL (by omega) ?_
      refine V_bipush (pc := 30) dL_law_30 (by decide) ?_
      refine V_iand (pc := 32) dL_law_32 ?_
      have hz : Rg_ (iand_ (sc_ xs ((i : Int)).toNat) 63) := ia_rg
      generalize iand_ (sc_ xs ((i : Int)).toNat) 63 = z at hz ⊢
      have key : ∀ k : Nat, k ≤ 35 → V_ l D mL_ (CL_ D b L xs) 33 [some (vr_ 130), some (vr_ 0), some (vr_ 38), some (vi_ (i : Int))] [vi_ (k : Int)] σ := fun k hk => match k, hk with
        | 0, _ => V_tableIn (pc := 33) (tgt := 192) (off := 159) dL_law_33 (by decide) (by decide) (by decide) (by decide) (by decide) (cs_0 hL h5 hc hm nxt)
        | 1, _ => V_tableIn (pc := 33) (tgt := 225) (off := 192) dL_law_33 (by decide) (by decide) (by decide) (by decide) (by decide) (cs_1 hL h5 hc hm nxt)
        | 2, _ => V_tableIn (pc := 33) (tgt := 248) (off := 215) dL_law_33 (by decide) (by decide) (by decide) (by decide) (by decide) (cs_2 hL h5 hc hm nxt)
        | 3, _ => V_tableIn (pc := 33) (tgt := 271) (off := 238) dL_law_33 (by decide) (by decide) (by decide) (by decide) (by decide) (cs_3 hL h5 hc hm nxt)
        | 4, _ => V_tableIn (pc := 33) (tgt := 294) (off := 261) dL_law_33 (by decide) (by decide) (by decide) (by decide) (by decide) (cs_4 hL h5 hc hm nxt)
        | 5, _ => V_tableIn (pc := 33) (tgt := 327) (off := 294) dL_law_33 (by decide) (by decide) (by decide) (by decide) (by decide) (cs_5 hL h5 hc hm nxt)
        | 6, _ => V_tableIn (pc := 33) (tgt := 360) (off := 327) dL_law_33 (by decide) (by decide) (by decide) (by decide) (by decide) (cs_6 hL h5 hc hm nxt)
        | 7, _ => V_tableIn (pc := 33) (tgt := 393) (off := 360) dL_law_33 (by decide) (by decide) (by decide) (by decide) (by decide) (cs_7 hL h5 hc hm nxt)
        | 8, _ => V_tableIn (pc := 33) (tgt := 416) (off := 383) dL_law_33 (by decide) (by decide) (by decide) (by decide) (by decide) (cs_8 hL h5 hc hm nxt)
        | 9, _ => V_tableIn (pc := 33) (tgt := 449) (off := 416) dL_law_33 (by decide) (by decide) (by decide) (by decide) (by decide) (cs_9 hL h5 hc hm nxt)
        | 10, _ => V_tableIn (pc := 33) (tgt := 462) (off := 429) dL_law_33 (by decide) (by decide) (by decide) (by decide) (by decide) (cs_10 hL h5 hc hm nxt)
        | 11, _ => V_tableIn (pc := 33) (tgt := 485) (off := 452) dL_law_33 (by decide) (by decide) (by decide) (by decide) (by decide) (cs_11 hL h5 hc hm nxt)
        | 12, _ => V_tableIn (pc := 33) (tgt := 518) (off := 485) dL_law_33 (by decide) (by decide) (by decide) (by decide) (by decide) (cs_12 hL h5 hc hm nxt)
        | 13, _ => V_tableIn (pc := 33) (tgt := 551) (off := 518) dL_law_33 (by decide) (by decide) (by decide) (by decide) (by decide) (cs_13 hL h5 hc hm nxt)
        | 14, _ => V_tableIn (pc := 33) (tgt := 574) (off := 541) dL_law_33 (by decide) (by decide) (by decide) (by decide) (by decide) (cs_14 hL h5 hc hm nxt)
        | 15, _ => V_tableIn (pc := 33) (tgt := 607) (off := 574) dL_law_33 (by decide) (by decide) (by decide) (by decide) (by decide) (cs_15 hL h5 hc hm nxt)
        | 16, _ => V_tableIn (pc := 33) (tgt := 640) (off := 607) dL_law_33 (by decide) (by decide) (by decide) (by decide) (by decide) (cs_16 hL h5 hc hm nxt)
        | 17, _ => V_tableIn (pc := 33) (tgt := 673) (off := 640) dL_law_33 (by decide) (by decide) (by decide) (by decide) (by decide) (cs_17 hL h5 hc hm nxt)
        | 18, _ => V_tableIn (pc := 33) (tgt := 696) (off := 663) dL_law_33 (by decide) (by decide) (by decide) (by decide) (by decide) (cs_18 hL h5 hc hm nxt)
        | 19, _ => V_tableIn (pc := 33) (tgt := 709) (off := 676) dL_law_33 (by decide) (by decide) (by decide) (by decide) (by decide) (cs_19 hL h5 hc hm nxt)
        | 20, _ => V_tableIn (pc := 33) (tgt := 732) (off := 699) dL_law_33 (by decide) (by decide) (by decide) (by decide) (by decide) (cs_20 hL h5 hc hm nxt)
        | 21, _ => V_tableIn (pc := 33) (tgt := 765) (off := 732) dL_law_33 (by decide) (by decide) (by decide) (by decide) (by decide) (cs_21 hL h5 hc hm nxt)
        | 22, _ => V_tableIn (pc := 33) (tgt := 798) (off := 765) dL_law_33 (by decide) (by decide) (by decide) (by decide) (by decide) (cs_22 hL h5 hc hm nxt)
        | 23, _ => V_tableIn (pc := 33) (tgt := 811) (off := 778) dL_law_33 (by decide) (by decide) (by decide) (by decide) (by decide) (cs_23 hL h5 hc hm nxt)
        | 24, _ => V_tableIn (pc := 33) (tgt := 834) (off := 801) dL_law_33 (by decide) (by decide) (by decide) (by decide) (by decide) (cs_24 hL h5 hc hm nxt)
        | 25, _ => V_tableIn (pc := 33) (tgt := 847) (off := 814) dL_law_33 (by decide) (by decide) (by decide) (by decide) (by decide) (cs_25 hL h5 hc hm nxt)
        | 26, _ => V_tableIn (pc := 33) (tgt := 881) (off := 848) dL_law_33 (by decide) (by decide) (by decide) (by decide) (by decide) (cs_26 hL h5 hc hm nxt)
        | 27, _ => V_tableIn (pc := 33) (tgt := 925) (off := 892) dL_law_33 (by decide) (by decide) (by decide) (by decide) (by decide) (cs_27 hL h5 hc hm nxt)
        | 28, _ => V_tableIn (pc := 33) (tgt := 978) (off := 945) dL_law_33 (by decide) (by decide) (by decide) (by decide) (by decide) (cs_28 hL h5 hc hm nxt)
        | 29, _ => V_tableIn (pc := 33) (tgt := 1021) (off := 988) dL_law_33 (by decide) (by decide) (by decide) (by decide) (by decide) (cs_29 hL h5 hc hm nxt)
        | 30, _ => V_tableIn (pc := 33) (tgt := 1044) (off := 1011) dL_law_33 (by decide) (by decide) (by decide) (by decide) (by decide) (cs_30 hL h5 hc hm nxt)
        | 31, _ => V_tableIn (pc := 33) (tgt := 1097) (off := 1064) dL_law_33 (by decide) (by decide) (by decide) (by decide) (by decide) (cs_31 hL h5 hc hm nxt)
        | 32, _ => V_tableIn (pc := 33) (tgt := 1140) (off := 1107) dL_law_33 (by decide) (by decide) (by decide) (by decide) (by decide) (cs_32 hL h5 hc hm nxt)
        | 33, _ => V_tableIn (pc := 33) (tgt := 1203) (off := 1170) dL_law_33 (by decide) (by decide) (by decide) (by decide) (by decide) (cs_33 hL h5 hc hm nxt)
        | 34, _ => V_tableIn (pc := 33) (tgt := 1236) (off := 1203) dL_law_33 (by decide) (by decide) (by decide) (by decide) (by decide) (cs_34 hL h5 hc hm nxt)
        | 35, _ => V_tableIn (pc := 33) (tgt := 1259) (off := 1226) dL_law_33 (by decide) (by decide) (by decide) (by decide) (by decide) (cs_35 hL h5 hc hm nxt)
        | n + 36, hk => absurd hk (by omega)
      by_cases hk : 0 ≤ z ∧ z ≤ 35
      · obtain ⟨k, rfl⟩ := i_nat hk.1
        exact key k (by omega)
      · exact V_tableOut (pc := 33) (tgt := 1273) dL_law_33 hz (by omega) (by decide) (nxt a σ hc hm)
end
