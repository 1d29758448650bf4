/-! ## calls -/
theorem good_in {ws : List Cond} (h : ∀ w ∈ ws, w ∈ gw_) : GoodIn gw_ ws := fun w hw => ⟨h w hw, good_of_word (List.mem_filter.mp (h w hw)).2⟩
/-- the locals at a method's entry -/
def en_ : List Av_ → List (Option Av_)
  | [] => []
  | v :: t => match v with
    | .inr (.inl z) => some (.inr (.inl z)) :: none :: en_ t
    | .inl z => some (.inl z) :: en_ t
    | .inr (.inr r) => some (.inr (.inr r)) :: en_ t
def el_ (n : Nat) (as : List Av_) : List (Option Av_) := en_ as ++ List.replicate (n - (en_ as).length) none
theorem ll_none {ad : Nat → Nat} : ∀ (k i : Nat) (q : Nat × Value), ¬ q ∈ ll_ ad i (List.replicate k none) := by
  intro k
  induction k with
  | zero => intro i q h; simp [ll_] at h
  | succ k ih => intro i q h; rw [List.replicate_succ] at h; exact ih (i + 1) q h
theorem ll_en {ad : Nat → Nat} {k : Nat} : ∀ (as : List Av_) (i : Nat) (q : Nat × Value), q ∈ ll_ ad i (en_ as ++ List.replicate k none) → q ∈ lv_args i (as.map (av_ ad)) := by
  intro as
  induction as with
  | nil => intro i q h; exact absurd h (ll_none _ _ _)
  | cons v t ih =>
    intro i q h
    match v with
    | .inl z =>
      rcases List.mem_cons.mp h with h | h
      · exact List.mem_cons.mpr (Or.inl h)
      · exact List.mem_cons.mpr (Or.inr (ih _ _ h))
    | .inr (.inl z) =>
      rcases List.mem_cons.mp h with h | h
      · exact List.mem_cons.mpr (Or.inl h)
      · exact List.mem_cons.mpr (Or.inr (ih _ _ h))
    | .inr (.inr (some r)) =>
      rcases List.mem_cons.mp h with h | h
      · exact List.mem_cons.mpr (Or.inl h)
      · exact List.mem_cons.mpr (Or.inr (ih _ _ h))
    | .inr (.inr none) =>
      rcases List.mem_cons.mp h with h | h
      · exact List.mem_cons.mpr (Or.inl h)
      · exact List.mem_cons.mpr (Or.inr (ih _ _ h))
theorem en_len {ad : Nat → Nat} : ∀ as : List Av_, (lg_sl (as.map (av_ ad))).length = (en_ as).length := by
  intro as
  induction as with
  | nil => rfl
  | cons v t ih =>
    have h1 : lg_sl ((v :: t).map (av_ ad)) = (if (av_ ad v).category = 2 then [Slot.val (av_ ad v), Slot.second] else [Slot.val (av_ ad v)]) ++ lg_sl (t.map (av_ ad)) := by simp [lg_sl]
    rw [h1, List.length_append, ih]
    match v with
    | .inl z => simp [av_, Value.category, en_]; omega
    | .inr (.inl z) => simp [av_, Value.category, en_]; omega
    | .inr (.inr (some r)) => simp [av_, Value.category, en_]; omega
    | .inr (.inr none) => simp [av_, Value.category, en_]; omega
def Pc_ (D : Dt_) (σ : Mm_) (as : List Av_) : Array Value → State → Prop := va_Pc (as.map (av_ D.2.2)) (fun U => RM_ σ ∧ va_P D.1 vwCl (wd_ D σ) U.heap ∧ va_K D.1 vwCl (ty_ D) U ∧ Ap_ D ∧ Ex_ D U U.heap)
theorem Pc_blind {D : Dt_} {σ : Mm_} {as : List Av_} : FrameBlind (Pc_ D σ as) := fun a U g mk q => by
  obtain ⟨q0, qR, qP, qK, qA, qE⟩ := q
  exact ⟨q0, qR, qP, va_K.moved (u := U) (U := U.calling g mk a) (Vm.Alike.refl U.vm) qK, qA, Ex_.moved (u := U) (U := U.calling g mk a) (Vm.Alike.refl U.vm) qE⟩
/-- what is left of a call: its answer on the stack -/
def pu_ (r : Option Av_) (st : List Av_) : List Av_ := match r with
  | none => st
  | some v => v :: st
def Mk_ (own : String) (idx : Nat) (x : MethodName) (b : ByteArray) : Prop := Cond.methodLink own idx x ∈ gw_ ∧ Cond.static x ∈ gw_ ∧ Cond.initialized "java/lang/Math" ∈ gw_ ∧ Cond.code x b 2 (some .int) ∈ gw_
def Ck_ (own : String) (idx : Nat) : Prop := Cond.methodLink own idx arraycopyName ∈ gw_ ∧ Cond.native arraycopyName ∈ gw_ ∧ Cond.static arraycopyName ∈ gw_ ∧ Cond.initialized "java/lang/System" ∈ gw_
section VCALLS
variable {l : Launch} {D : Dt_} {y y' : Mt_} {C : Cp_} {pc : Nat} {ls : List (Option Av_)} {st : List Av_} {σ : Mm_}
theorem met_of {as : List Av_} {post : Option Av_ → Mm_ → Prop} (hy : plainName y.1.cls = true) (hlen : (en_ as).length ≤ y.2.2.1) (h : V_ l D y (CM_ D y post) 0 (el_ y.2.2.1 as) [] σ) :
    Met l y.1 (ws_ y) (rm_ y) (Pc_ D σ as) (Qc_ D post) 0 0 (As_ D) := by
  refine Met.ofW (cc := y.2.1) (maxL := y.2.2.1) (ret := y.2.2.2.1) hy rfl ?_
  intro p e s m args below meth c s₁ B hml hv
  obtain ⟨rfl, hR, hP, hK, hA, hE⟩ := hv
  rw [lg_entry_eq]
  have hl := lv_entry (as.map (av_ D.2.2)) (n := y.2.2.1) (by rw [en_len]; exact hlen)
  refine h hR p e (rm_ y) s m _ below meth c 0 0 _ ⟨rfl, rfl, rfl, rfl⟩ ⟨B.exec, B.bytes, B.returns, hml, findClass_of_methodNamed B.named, fun w hw => atoms_spec (ws := ws_ y) B.pre w (List.mem_cons_of_mem _ hw), hK, B.notSynchronized, ⟨Nat.le_refl _, Nat.le_refl _, Nat.zero_le _, Nat.zero_le _⟩, hA, hE⟩ s.heap [] _ hP va_S.rf ?_
  exact ⟨hl.1, hl.2.1, fun q hq => hl.2.2 q (ll_en as 0 q hq)⟩
theorem run_go {p : Program} {e : Env} {R : Room} {s : State} {m : MethodId} {args : Array Value} {below : List Frame} {meth : Method} {c : Code} {H : Heap} {locs : List Loc} {cells slots : Nat} {Q : State → Prop} {lsA : Array Slot} {st0 : List Value} {a : Array Value} {rest : List Av_} {post : Option Av_ → Mm_ → Prop}
    (hr : va_Run p l e R s m args below meth c H locs cells slots 0 0 (F0 m pc lsA st0) (rest.map (av_ D.2.2)) (Qc_ D post a) (As_ D)) (hS : va_S (As_ D) s.heap H locs) (hC : C R s args below cells slots Q) (B : Bf_ D y p R s m args meth c cells slots) (hl : lv_has lsA y.2.2.1 (ll_ D.2.2 0 ls))
    (k : ∀ r σ', post r σ' → V_ l D y C (pc + 3) ls (pu_ r rest) σ') : W p l e R s m args below meth c H locs cells slots Q (F0 m pc lsA st0) := by
  intro T hT X
  obtain ⟨v, st₀, t, T', L, h0, X', hL, e1, e2, ⟨⟨r, σ', ho, hpost, hR', hP'⟩, hz, hkp⟩, stp⟩ := hr T hT X
  have hv : v = r.map (av_ D.2.2) := by injection ho
  subst hv
  rw [h0] at hz hkp
  have hgo := k r σ' hpost hR' p e R s m args below meth c cells slots Q hC B T'.heap (locs ++ L) lsA (by rw [e1]; exact hP')
    ⟨Nat.le_trans hS.1 (by rw [e1]; exact hz), fun q h1 h2 => by rw [e1, hkp q (Nat.lt_of_lt_of_le h1 hS.1) h2]; exact hS.2.1 q h1 h2, fun q hq => by
      rcases List.mem_append.mp hq with h | h
      · exact hS.2.2 q h
      · exact hL q h⟩ hl T' rfl X'
  obtain ⟨t2, a1, b1⟩ := hgo
  have hst : (pu_ r rest).map (av_ D.2.2) = (r.map (av_ D.2.2)).toList ++ rest.map (av_ D.2.2) := by cases r <;> rfl
  rw [hst] at a1
  exact ⟨t2, stp t2 a1, b1⟩
def ct_ (v : Av_) : Nat := match v with
  | .inr (.inl _) => 2
  | _ => 1
theorem ct_av {ad : Nat → Nat} (v : Av_) : (av_ ad v).category = ct_ v := by
  match v with
  | .inl z => rfl
  | .inr (.inl z) => rfl
  | .inr (.inr (some r)) => rfl
  | .inr (.inr none) => rfl
theorem ct_map {ad : Nat → Nat} (st : List Av_) : ((st.map (av_ ad)).map fun v => v.category) = st.map ct_ := by
  rw [List.map_map]
  exact List.map_congr_left (fun v _ => ct_av v)
/-- entry idx of class own calls y', of n arguments; the words that this takes -/
def Lk_ (own : String) (idx : Nat) (y' : Mt_) (n : Nat) : Prop := Cond.methodLink own idx y'.1 ∈ gw_ ∧ Cond.initialized y'.1.cls ∈ gw_ ∧ Cond.code y'.1 y'.2.1 y'.2.2.1 y'.2.2.2.1 ∈ gw_ ∧
  (y'.1.cls ≠ "java/lang/invoke/MethodHandle" ∧ y'.1.cls ≠ "java/lang/invoke/VarHandle" ∧ (parseMethodDescriptor y'.1.desc).map (fun d => d.parameters.length) = some n) ∧ plainName y'.1.cls = true
def Rm_ (y y' : Mt_) : Prop := y'.2.2.2.2.1 + 1 ≤ y.2.2.2.2.1 ∧ 8 + (y'.2.2.1 + 11) + y'.2.2.2.2.2 ≤ y.2.2.2.2.2
def Cv_ (y : Mt_) (idx : Nat) (y' : Mt_) (n : Nat) : Prop := Lk_ y.1.cls idx y' n ∧ (Cond.instanceMethod y'.1 ∈ gw_ ∧ Cond.selects y'.1.cls y'.1 y'.1 ∈ gw_) ∧ Rm_ y y'
def Cs_ (y : Mt_) (idx : Nat) (y' : Mt_) (n : Nat) : Prop := Lk_ y.1.cls idx y' n ∧ Cond.static y'.1 ∈ gw_ ∧ Rm_ y y'
theorem ws_in {y' : Mt_} (h : Cond.code y'.1 y'.2.1 y'.2.2.1 y'.2.2.2.1 ∈ gw_) : ∀ w ∈ ws_ y', w ∈ gw_ := fun w hw => by
  rcases List.mem_cons.mp hw with h1 | h1
  · rw [h1]; exact h
  · exact h1
/-- the receiver: an object whose class is said -/
def Rc_ (D : Dt_) (k : Nat) (cls : String) : Prop := (∃ (ci : Nat) (fs : List (Option Nat)) (T : u_T) (N : Nat), gG_[k]? = some (ob_ ci fs) ∧ vwCl[ci]? = some (cls, T, N)) ∨ (cls = "java/lang/String" ∧ ∃ i, i < 3 ∧ k = 100 + i)
theorem V_callV {idx k n : Nat} {as rest : List Av_} (hd : decode y.2.1 pc = .ok (.invokevirtual idx, 3)) (hc : Cv_ y idx y' n) (hk : Rc_ D k y'.1.cls) (hst : st = as.reverse ++ vr_ k :: rest) (hn : as.length = n) (hcat : (rest.map ct_).sum ≤ 8) (hlen : (en_ (vr_ k :: as)).length ≤ y'.2.2.1)
    (h : V_ l D y' (CM_ D y' (fun r σ' => V_ l D y C (pc + 3) ls (pu_ r rest) σ')) 0 (el_ y'.2.2.1 (vr_ k :: as)) [] σ) : V_ l D y C pc ls st σ := by
  intro hR p e R s m args below meth c cells slots Q hC B H locs lsA hP hS hl
  subst hst
  obtain ⟨⟨k1, k2, k3, k4, k5⟩, ⟨k6, k7⟩, k8, k9⟩ := hc
  have hts := B.2.2.2.2.2.1
  have hE : Ex_ D s H := Ex_.kept B.2.2.2.2.2.2.2.2.2.2 hS.2.1
  refine run_go (post := fun r σ' => V_ l D y C (pc + 3) ls (pu_ r rest) σ') (va_runV (As := as.map (av_ D.2.2)) (rest := rest.map (av_ D.2.2)) (C := y'.1.cls) (own := y.1.cls) ⟨B.1, B.2.1, B.2.2.2.1, B.2.2.2.2.1, hts⟩ (met_of k5 hlen h) (cwV n hts (good_in ?_) rfl rfl rfl ⟨rfl, k4⟩ ⟨Nat.le_trans k8 B.2.2.2.2.2.2.2.2.1.1, Nat.le_trans k9 B.2.2.2.2.2.2.2.2.1.2.1⟩) ⟨Pc_blind, ?_, fun U hU hW => ⟨rfl, hR, by rw [hU]; exact hP, va_K.moved hW.alike B.2.2.2.2.2.2.1, B.2.2.2.2.2.2.2.2.2.1, by rw [hU]; exact Ex_.moved hW.alike hE⟩⟩ rfl (by rw [List.length_map]; exact hn) hl.1 ?_ (lv_room (by rw [ct_map]; exact hcat)) hd ⟨B.2.2.2.2.2.2.2.2.1.2.2.1, B.2.2.2.2.2.2.2.2.1.2.2.2⟩) hS hC B hl (fun _ _ z => z)
  · intro w hw
    rcases List.mem_append.mp hw with h1 | h1
    · simp only [List.mem_cons, List.not_mem_nil, or_false] at h1
      rcases h1 with rfl | rfl | rfl | rfl
      · exact k1
      · exact k6
      · exact k7
      · exact k2
    · exact ws_in k3 w h1
  · rcases hk with ⟨ci, fs, T, N, q1, q2⟩ | ⟨q0, i, q1, rfl⟩
    · exact va_recv B.2.2.2.2.2.2.1 hP q2 (gG_ob q1)
    · rw [q0]
      obtain ⟨cell, r1, r2, r3, r4⟩ := (hE.1.1 i q1).1
      exact ⟨cell, r1, r2, r3⟩
  · simp
    rfl
theorem V_callS {idx n : Nat} {as rest : List Av_} (hd : decode y.2.1 pc = .ok (.invokestatic idx, 3)) (hc : Cs_ y idx y' n) (hst : st = as.reverse ++ rest) (hn : as.length = n) (hcat : (rest.map ct_).sum ≤ 8) (hlen : (en_ as).length ≤ y'.2.2.1)
    (h : V_ l D y' (CM_ D y' (fun r σ' => V_ l D y C (pc + 3) ls (pu_ r rest) σ')) 0 (el_ y'.2.2.1 as) [] σ) : V_ l D y C pc ls st σ := by
  intro hR p e R s m args below meth c cells slots Q hC B H locs lsA hP hS hl
  subst hst
  obtain ⟨⟨k1, k2, k3, k4, k5⟩, k6, k8, k9⟩ := hc
  have hts := B.2.2.2.2.2.1
  have hE : Ex_ D s H := Ex_.kept B.2.2.2.2.2.2.2.2.2.2 hS.2.1
  refine run_go (post := fun r σ' => V_ l D y C (pc + 3) ls (pu_ r rest) σ') (va_runS (As := as.map (av_ D.2.2)) (rest := rest.map (av_ D.2.2)) (own := y.1.cls) ⟨B.1, B.2.1, B.2.2.2.1, B.2.2.2.2.1, hts⟩ (met_of k5 hlen h) (va_cwS n hts (good_in ?_) rfl rfl rfl k4 ⟨Nat.le_trans k8 B.2.2.2.2.2.2.2.2.1.1, Nat.le_trans k9 B.2.2.2.2.2.2.2.2.1.2.1⟩) ⟨Pc_blind, fun U hU hW => ⟨rfl, hR, by rw [hU]; exact hP, va_K.moved hW.alike B.2.2.2.2.2.2.1, B.2.2.2.2.2.2.2.2.2.1, by rw [hU]; exact Ex_.moved hW.alike hE⟩⟩ rfl (by rw [List.length_map]; exact hn) hl.1 ?_ (lv_room (by rw [ct_map]; exact hcat)) hd ⟨B.2.2.2.2.2.2.2.2.1.2.2.1, B.2.2.2.2.2.2.2.2.1.2.2.2⟩) hS hC B hl (fun _ _ z => z)
  · intro w hw
    rcases List.mem_append.mp hw with h1 | h1
    · simp only [List.mem_cons, List.not_mem_nil, or_false] at h1
      rcases h1 with rfl | rfl | rfl
      · exact k1
      · exact k6
      · exact k2
    · exact ws_in k3 w h1
  · simp
theorem V_mmin {idx : Nat} {a b : Int} (hd : decode y.2.1 pc = .ok (.invokestatic idx, 3)) (hk : Mk_ y.1.cls idx Lib.Math.min.name Lib.Math.min.code) (hr : 1 ≤ y.2.2.2.2.1 ∧ (st.map ct_).sum + 13 ≤ y.2.2.2.2.2) (ha : Rg_ a) (hb : Rg_ b) (h : V_ l D y C (pc + 3) ls (vi_ (if b < a then b else a) :: st) σ) : V_ l D y C pc ls (vi_ b :: vi_ a :: st) σ := by
  intro hR p en R s m args below meth c cells slots Q hC B H locs lsA hP hS hl
  have hts := B.2.2.2.2.2.1
  refine va_mmin B.1 B.2.1 (B.2.2.2.1.trans hl.1.symm) B.2.2.2.2.1 (hts _ hk.1) (hts _ hk.2.1) (hts _ hk.2.2.1) (hts _ hk.2.2.2) (Nat.le_trans hr.1 B.2.2.2.2.2.2.2.2.1.1) (Nat.le_trans (by rw [ct_map]; exact hr.2) B.2.2.2.2.2.2.2.2.1.2.1) B.2.2.2.2.2.2.2.2.1.2.2.1 B.2.2.2.2.2.2.2.2.1.2.2.2 hd ?_
  have e : (if Int32.ofInt b < Int32.ofInt a then Int32.ofInt b else Int32.ofInt a) = Int32.ofInt (if b < a then b else a) := by
    by_cases c : b < a
    · rw [if_pos ((i3_lt hb ha).mpr c), if_pos c]
    · rw [if_neg (fun z => c ((i3_lt hb ha).mp z)), if_neg c]
  rw [e]
  exact h hR p en R s m args below meth c cells slots Q hC B H locs lsA hP hS hl
theorem V_mmax {idx : Nat} {a b : Int} (hd : decode y.2.1 pc = .ok (.invokestatic idx, 3)) (hk : Mk_ y.1.cls idx Lib.Math.max.name Lib.Math.max.code) (hr : 1 ≤ y.2.2.2.2.1 ∧ (st.map ct_).sum + 13 ≤ y.2.2.2.2.2) (ha : Rg_ a) (hb : Rg_ b) (h : V_ l D y C (pc + 3) ls (vi_ (if a < b then b else a) :: st) σ) : V_ l D y C pc ls (vi_ b :: vi_ a :: st) σ := by
  intro hR p en R s m args below meth c cells slots Q hC B H locs lsA hP hS hl
  have hts := B.2.2.2.2.2.1
  refine va_mmax B.1 B.2.1 (B.2.2.2.1.trans hl.1.symm) B.2.2.2.2.1 (hts _ hk.1) (hts _ hk.2.1) (hts _ hk.2.2.1) (hts _ hk.2.2.2) (Nat.le_trans hr.1 B.2.2.2.2.2.2.2.2.1.1) (Nat.le_trans (by rw [ct_map]; exact hr.2) B.2.2.2.2.2.2.2.2.1.2.1) B.2.2.2.2.2.2.2.2.1.2.2.1 B.2.2.2.2.2.2.2.2.1.2.2.2 hd ?_
  have e : (if Int32.ofInt a < Int32.ofInt b then Int32.ofInt b else Int32.ofInt a) = Int32.ofInt (if a < b then b else a) := by
    by_cases c : a < b
    · rw [if_pos ((i3_lt ha hb).mpr c), if_pos c]
    · rw [if_neg (fun z => c ((i3_lt ha hb).mp z)), if_neg c]
  rw [e]
  exact h hR p en R s m args below meth c cells slots Q hC B H locs lsA hP hS hl
theorem V_copy {idx k0 k1 n0 n1 : Nat} {sp dp n : Int} (hd : decode y.2.1 pc = .ok (.invokestatic idx, 3)) (hk : Ck_ y.1.cls idx) (hr : 1 ≤ y.2.2.2.2.1 ∧ (st.map ct_).sum + (nativeFrameWords "java/lang/System" "arraycopy" 5 + 11) ≤ y.2.2.2.2.2) (h0 : gG_[k0]? = some (ia_ n0)) (h1 : gG_[k1]? = some (ia_ n1)) (hb : 0 ≤ sp ∧ 0 ≤ dp ∧ 0 ≤ n ∧ sp + n ≤ (n0 : Int) ∧ dp + n ≤ (n1 : Int)) (hn0 : n0 < 2147483648) (hn1 : n1 < 2147483648)
    (h : V_ l D y C (pc + 3) ls st (mc_ σ k0 k1 sp.toNat dp.toNat n.toNat)) : V_ l D y C pc ls (vi_ n :: vi_ dp :: vr_ k1 :: vi_ sp :: vr_ k0 :: st) σ := by
  intro hR p e R s m args below meth c cells slots Q hC B H locs lsA hP hS hl
  have hts := B.2.2.2.2.2.1
  have r1 : Rg_ sp := ⟨by omega, by omega⟩
  have r2 : Rg_ dp := ⟨by omega, by omega⟩
  have r3 : Rg_ n := ⟨by omega, by omega⟩
  have e1 := i3_nn (i := sp) (by omega) (by omega)
  have e2 := i3_nn (i := dp) (by omega) (by omega)
  have e3 := i3_nn (i := n) (by omega) (by omega)
  refine va_copyi (ty := .int) B.1 B.2.1 (B.2.2.2.1.trans hl.1.symm) B.2.2.2.2.1 (hts _ hk.1) (hts _ hk.2.1) (hts _ hk.2.2.1) (hts _ hk.2.2.2) B.2.2.2.2.2.2.1 hP (D_wd B.2.2.2.2.2.2.2.2.2.1) hS k0 k1 0 0 (wd_get h0) (wd_get h1) rfl rfl rfl
    (fun z => by have := (i3_lt r1 i0_rg).mp z; omega) (fun z => by have := (i3_lt r2 i0_rg).mp z; omega) (fun z => by have := (i3_lt r3 i0_rg).mp z; omega) (by rw [e1, e3]; omega) (by rw [e2, e3]; omega) (fun _ _ => rfl) (Nat.le_trans hr.1 B.2.2.2.2.2.2.2.2.1.1) (Nat.le_trans (by rw [ct_map]; exact hr.2) B.2.2.2.2.2.2.2.2.1.2.1) hd ?_
  intro H1 locs1 hP1 hD1 hS1
  rw [e1, e2, e3] at hP1
  have hset : (wd_ D σ).set k1 (D.2.2 k1, .inl ((if (0 : Nat) = 0 then D.2.1.1 else D.2.1.2.1), n1, .inl (va_cpy (fun j => Int32.ofInt (σ k0 j)) (fun j => Int32.ofInt (σ k1 j)) sp.toNat dp.toNat n.toNat))) = wd_ D (mc_ σ k0 k1 sp.toNat dp.toNat n.toNat) := by
    rw [mc_row]
    refine wd_upd h1 _ ?_
    show _ = Sum.inl ((if (0 : Nat) = 0 then D.2.1.1 else D.2.1.2.1), n1, Sum.inl _)
    refine congrArg (fun z => (Sum.inl ((if (0 : Nat) = 0 then D.2.1.1 else D.2.1.2.1), n1, Sum.inl z) : va_E)) ?_
    funext b
    unfold va_cpy
    by_cases c : dp.toNat ≤ b ∧ b < dp.toNat + n.toNat
    · simp only [if_pos c]
    · simp only [if_neg c]
  have hP1 := hset ▸ hP1
  exact h hR.mc p e R s m args below meth c cells slots Q hC B H1 locs1 lsA hP1 hS1 hl
end VCALLS
