/-! ## constructors: worlds that grow; references are addresses -/
abbrev id_ : Nat → Nat := fun q => q
/-- free cells at the entry, how many cells the heap had, how many cells and slots may come -/
abbrev Xt_ : Type := List Nat × (Nat × (Nat × Nat))
def Az_ (x : Xt_) : Nat → Prop := fun q => q ∈ x.1 ∨ x.2.1 ≤ q
def yH_ : MethodName := yX1_init
def yS_ : MethodName := yX4_init
def Eu_ (D : Dt_) (A : Nat → Prop) (U : State) (H : Heap) : Prop :=
  (vk_S 3 [3, 4, 4] [[57, 49, 57], [57, 57, 108, 46], [53, 97, 57, 49]] (fun i => D.2.2 (100 + i)) (fun i => D.2.2 (110 + i)) A U H ∧ va_Z "java/lang/String" "COMPACT_STRINGS" "Z" (.int 1) A U H) ∧
  (vk_R "DrownedNames" 11 "919" (D.2.2 100) U ∧ vk_R "DrownedNames" 20 "99l." (D.2.2 101) U ∧ vk_R "DrownedNames" 25 "5a91" (D.2.2 102) U) ∧ va_AO "DrownedNames$Sheet" U ∧ va_Nw (.methodLinkNest "DrownedNames" 47 yX1_init "DrownedNames") U ∧ va_Nw (.methodLinkNest "DrownedNames" 73 yX4_init "DrownedNames") U
theorem Eu_.warm {D : Dt_} {A : Nat → Prop} {s U : State} {H : Heap} (hW : s.WarmedH U.vm) (h : Eu_ D A s H) : Eu_ D A U H :=
  ⟨⟨vk_S.moved hW.alike h.1.1, va_Z.moved hW.alike h.1.2⟩, ⟨vk_R.warm hW h.2.1.1, vk_R.warm hW h.2.1.2.1, vk_R.warm hW h.2.1.2.2⟩, va_AO.moved hW.alike h.2.2.1, va_Nw.warmM hW h.2.2.2.1, va_Nw.warmM hW h.2.2.2.2⟩
theorem Eu_.call {D : Dt_} {A : Nat → Prop} {U : State} {H : Heap} {g : JFrame} {mk : MethodId} {a : Array Value} (h : Eu_ D A U H) : Eu_ D A (U.calling g mk a) H :=
  ⟨⟨vk_S.moved (u := U) (U := U.calling g mk a) (Vm.Alike.refl U.vm) h.1.1, va_Z.moved (u := U) (U := U.calling g mk a) (Vm.Alike.refl U.vm) h.1.2⟩, ⟨vk_R.same (u := U) (U := U.calling g mk a) rfl h.2.1.1, vk_R.same (u := U) (U := U.calling g mk a) rfl h.2.1.2.1, vk_R.same (u := U) (U := U.calling g mk a) rfl h.2.1.2.2⟩, va_AO.moved (u := U) (U := U.calling g mk a) (Vm.Alike.refl U.vm) h.2.2.1, va_Nw.same (u := U) (U := U.calling g mk a) rfl rfl h.2.2.2.1, va_Nw.same (u := U) (U := U.calling g mk a) rfl rfl h.2.2.2.2⟩
theorem Eu_.kept {D : Dt_} {A : Nat → Prop} {U : State} {H H1 : Heap} (h : Eu_ D A U H) (hq : ∀ a : Nat, a < H.size → ¬ A a → H1[a]? = H[a]?) : Eu_ D A U H1 := ⟨⟨h.1.1.kept hq, h.1.2.kept hq⟩, h.2⟩
theorem Eu_.narrow {D : Dt_} {A B : Nat → Prop} {U : State} {H : Heap} (h : Eu_ D A U H) (hAB : ∀ q, B q → A q) : Eu_ D B U H := ⟨⟨h.1.1.narrow hAB, h.1.2.narrow hAB⟩, h.2⟩
def Bu_ (D : Dt_) (y : Mt_) (x : Xt_) (p : Program) (R : Room) (s : State) (m : MethodId) (args : Array Value) (meth : Method) (c : Code) : Prop :=
  p.tables.exec = Jvm.exec ∧ c.code = y.2.1 ∧ meth.sig.returnType = y.2.2.2.1 ∧ c.maxLocals = y.2.2.1 ∧ s.vm.findClass y.1.cls = some m.cls ∧ (∀ w ∈ gw_, w.before args s = true) ∧ va_K D.1 vwCl (ty_ D) s ∧ meth.locks = false ∧ (y.2.2.2.2.1 ≤ R.frames ∧ y.2.2.2.2.2 ≤ R.locals ∧ x.2.2.1 ≤ R.cells ∧ x.2.2.2 ≤ R.slots) ∧ s.heap.size = x.2.1 ∧ Eu_ D (Az_ x) s s.heap ∧ (y.1.name = "<init>" → meth.name = "<init>")
abbrev Cu_ : Type := Room → State → Array Value → List Frame → (State → Prop) → Prop
def U_ (l : Launch) (D : Dt_) (y : Mt_) (x : Xt_) (C : Cu_) (pc : Nat) (ls : List (Option Av_)) (st : List Av_) (ws : va_W) (nc ns : Nat) : Prop :=
  ∀ (p : Program) (e : Env) (R : Room) (s : State) (m : MethodId) (args : Array Value) (below : List Frame) (meth : Method) (c : Code) (Q : State → Prop), C R s args below Q → Bu_ D y x p R s m args meth c →
    ∀ (H : Heap) (locs : List Loc) (lsA : Array Slot), va_P D.1 vwCl ws H → va_D (Az_ x) ws → va_S (Az_ x) s.heap H locs → lv_has lsA y.2.2.1 (ll_ id_ 0 ls) →
      W p l e R s m args below meth c H locs nc ns Q (F0 m pc lsA (st.map (av_ id_)))
def Qn_ (D : Dt_) (x : Xt_) (post : Option Av_ → va_W → Prop) : Array Value → State → Outcome → State → Prop := fun _ st o t =>
  (∃ (r : Option Av_) (ws : va_W), o = .returned (r.map (av_ id_)) ∧ post r ws ∧ va_P D.1 vwCl ws t.heap ∧ va_D (Az_ x) ws) ∧ va_F (Az_ x) st t
abbrev rx_ (y : Mt_) (x : Xt_) : Room := { frames := y.2.2.2.2.1, cells := x.2.2.1, slots := x.2.2.2, locals := y.2.2.2.2.2 }
def CN_ (D : Dt_) (y : Mt_) (x : Xt_) (post : Option Av_ → va_W → Prop) : Cu_ := fun R s args below Q => R = rx_ y x ∧ Q = MQ below (Qn_ D x post) args s x.2.2.1 x.2.2.2 (Az_ x)
theorem oi_in : Cond.instanceMethod objectInit ∈ gw_ ∧ Cond.code objectInit ⟨#[0xb1]⟩ 1 none ∈ gw_ := ⟨tb_in 23 (by decide +kernel) rfl, tb_in 24 (by decide +kernel) rfl⟩
section UROWS
variable {l : Launch} {D : Dt_} {y : Mt_} {x : Xt_} {C : Cu_} {pc : Nat} {ls : List (Option Av_)} {st : List Av_} {ws : va_W} {nc ns : Nat}
theorem U_cg {ls' : List (Option Av_)} {st' : List Av_} {ws' : va_W} (h : U_ l D y x C pc ls st ws nc ns) (e1 : ls' = ls) (e2 : st' = st) (e3 : ws' = ws) : U_ l D y x C pc ls' st' ws' nc ns := by
  subst e1; subst e2; subst e3; exact h
theorem U_iconst {n : Int} (hd : decode y.2.1 pc = .ok (.iconst n, 1)) (h : U_ l D y x C (pc + 1) ls (vi_ n :: st) ws nc ns) : U_ l D y x C pc ls st ws nc ns := by
  intro p e R s m args below meth c Q hC B H locs lsA hP hD hS hl
  exact lv_iconst B.1 B.2.1 hd rfl (h p e R s m args below meth c Q hC B H locs lsA hP hD hS hl)
theorem U_bipush {n : Int} (hd : decode y.2.1 pc = .ok (.bipush n, 2)) (hv : (Int8.ofInt n).toInt32 = Int32.ofInt n) (h : U_ l D y x C (pc + 2) ls (vi_ n :: st) ws nc ns) : U_ l D y x C pc ls st ws nc ns := by
  intro p e R s m args below meth c Q hC B H locs lsA hP hD hS hl
  exact lv_bipush B.1 B.2.1 hd hv (h p e R s m args below meth c Q hC B H locs lsA hP hD hS hl)
theorem U_sipush {n : Int} (hd : decode y.2.1 pc = .ok (.sipush n, 3)) (hv : (Int16.ofInt n).toInt32 = Int32.ofInt n) (h : U_ l D y x C (pc + 3) ls (vi_ n :: st) ws nc ns) : U_ l D y x C pc ls st ws nc ns := by
  intro p e R s m args below meth c Q hC B H locs lsA hP hD hS hl
  exact lv_sipush B.1 B.2.1 hd hv (h p e R s m args below meth c Q hC B H locs lsA hP hD hS hl)
theorem U_iload_n {k : Fin 4} {i : Nat} {z : Int} (hd : decode y.2.1 pc = .ok (.iload_n k, 1)) (hi : (k : Nat) = i) (hl0 : ls[i]? = some (some (vi_ z))) (h : U_ l D y x C (pc + 1) ls (vi_ z :: st) ws nc ns) : U_ l D y x C pc ls st ws nc ns := by
  intro p e R s m args below meth c Q hC B H locs lsA hP hD hS hl
  exact lv_iload_n B.1 B.2.1 hd hi (ll_at hl hl0) (h p e R s m args below meth c Q hC B H locs lsA hP hD hS hl)
theorem U_iload {i : Nat} {z : Int} (hd : decode y.2.1 pc = .ok (.iload i, 2)) (hl0 : ls[i]? = some (some (vi_ z))) (h : U_ l D y x C (pc + 2) ls (vi_ z :: st) ws nc ns) : U_ l D y x C pc ls st ws nc ns := by
  intro p e R s m args below meth c Q hC B H locs lsA hP hD hS hl
  exact lv_iload B.1 B.2.1 hd (ll_at hl hl0) (h p e R s m args below meth c Q hC B H locs lsA hP hD hS hl)
theorem U_aload_n {k : Fin 4} {i : Nat} {v : Option Nat} (hd : decode y.2.1 pc = .ok (.aload_n k, 1)) (hi : (k : Nat) = i) (hl0 : ls[i]? = some (some (.inr (.inr v)))) (h : U_ l D y x C (pc + 1) ls (.inr (.inr v) :: st) ws nc ns) : U_ l D y x C pc ls st ws nc ns := by
  intro p e R s m args below meth c Q hC B H locs lsA hP hD hS hl
  cases v with
  | none => exact lv_aload_nN B.1 B.2.1 hd hi (ll_at hl hl0) (h p e R s m args below meth c Q hC B H locs lsA hP hD hS hl)
  | some a => exact lv_aload_n B.1 B.2.1 hd hi (ll_at hl hl0) (h p e R s m args below meth c Q hC B H locs lsA hP hD hS hl)
theorem U_istore_n {k : Fin 4} {i : Nat} {z : Int} (hd : decode y.2.1 pc = .ok (.istore_n k, 1)) (hi : (k : Nat) = i) (hn : i < y.2.2.1) (hL : nl_ ls i = true) (h : U_ l D y x C (pc + 1) (ls.set i (some (vi_ z))) st ws nc ns) : U_ l D y x C pc ls (vi_ z :: st) ws nc ns := by
  intro p e R s m args below meth c Q hC B H locs lsA hP hD hS hl
  exact lv_istore_n B.1 B.2.1 hd hi hl hn rfl (fun ls' hl' => h p e R s m args below meth c Q hC B H locs ls' hP hD hS (ll_set hL hl'))
theorem U_istore {i : Nat} {z : Int} (hd : decode y.2.1 pc = .ok (.istore i, 2)) (hn : i < y.2.2.1) (hL : nl_ ls i = true) (h : U_ l D y x C (pc + 2) (ls.set i (some (vi_ z))) st ws nc ns) : U_ l D y x C pc ls (vi_ z :: st) ws nc ns := by
  intro p e R s m args below meth c Q hC B H locs lsA hP hD hS hl
  exact lv_istore B.1 B.2.1 hd hl hn rfl (fun ls' hl' => h p e R s m args below meth c Q hC B H locs ls' hP hD hS (ll_set hL hl'))
theorem U_astore_n {k : Fin 4} {i : Nat} {v : Option Nat} (hd : decode y.2.1 pc = .ok (.astore_n k, 1)) (hi : (k : Nat) = i) (hn : i < y.2.2.1) (hL : nl_ ls i = true) (h : U_ l D y x C (pc + 1) (ls.set i (some (.inr (.inr v)))) st ws nc ns) : U_ l D y x C pc ls (.inr (.inr v) :: st) ws nc ns := by
  intro p e R s m args below meth c Q hC B H locs lsA hP hD hS hl
  cases v with
  | none => exact lv_astore_nN B.1 B.2.1 hd hi hl hn rfl (fun ls' hl' => h p e R s m args below meth c Q hC B H locs ls' hP hD hS (ll_set hL hl'))
  | some a => exact lv_astore_n B.1 B.2.1 hd hi hl hn rfl (fun ls' hl' => h p e R s m args below meth c Q hC B H locs ls' hP hD hS (ll_set hL hl'))
theorem U_iinc {i : Nat} {n z : Int} (hd : decode y.2.1 pc = .ok (.iinc i n, 3)) (hl0 : ls[i]? = some (some (vi_ z))) (hn : i < y.2.2.1) (hL : nl_ ls i = true) (h : U_ l D y x C (pc + 3) (ls.set i (some (vi_ (z + n)))) st ws nc ns) : U_ l D y x C pc ls st ws nc ns := by
  intro p e R s m args below meth c Q hC B H locs lsA hP hD hS hl
  obtain ⟨j, hj⟩ := ll_atI (ad := id_) hl0
  exact lv_iinc B.1 B.2.1 hd hl hj (v := Int32.ofInt (z + n)) (by rw [Int32.ofInt_add]) hn rfl (fun ls' hl' => h p e R s m args below meth c Q hC B H locs ls' hP hD hS (ll_set (v := vi_ (z + n)) hL hl'))
theorem U_iadd {a b : Int} (hd : decode y.2.1 pc = .ok (.iadd, 1)) (h : U_ l D y x C (pc + 1) ls (vi_ (a + b) :: st) ws nc ns) : U_ l D y x C pc ls (vi_ b :: vi_ a :: st) ws nc ns := by
  intro p e R s m args below meth c Q hC B H locs lsA hP hD hS hl
  have h := h p e R s m args below meth c Q hC B H locs lsA hP hD hS hl
  refine lv_iadd B.1 B.2.1 hd ?_
  rw [← Int32.ofInt_add]
  exact h
theorem U_isub {a b : Int} (hd : decode y.2.1 pc = .ok (.isub, 1)) (h : U_ l D y x C (pc + 1) ls (vi_ (a - b) :: st) ws nc ns) : U_ l D y x C pc ls (vi_ b :: vi_ a :: st) ws nc ns := by
  intro p e R s m args below meth c Q hC B H locs lsA hP hD hS hl
  have h := h p e R s m args below meth c Q hC B H locs lsA hP hD hS hl
  refine lv_isub B.1 B.2.1 hd ?_
  rw [← Int32.ofInt_sub]
  exact h
theorem U_imul {a b : Int} (hd : decode y.2.1 pc = .ok (.imul, 1)) (h : U_ l D y x C (pc + 1) ls (vi_ (a * b) :: st) ws nc ns) : U_ l D y x C pc ls (vi_ b :: vi_ a :: st) ws nc ns := by
  intro p e R s m args below meth c Q hC B H locs lsA hP hD hS hl
  have h := h p e R s m args below meth c Q hC B H locs lsA hP hD hS hl
  refine lv_imul B.1 B.2.1 hd ?_
  rw [← Int32.ofInt_mul]
  exact h
theorem U_ishr {a b : Int} (hd : decode y.2.1 pc = .ok (.ishr, 1)) (h : U_ l D y x C (pc + 1) ls (vi_ (ishr_ a b) :: st) ws nc ns) : U_ l D y x C pc ls (vi_ b :: vi_ a :: st) ws nc ns := by
  intro p e R s m args below meth c Q hC B H locs lsA hP hD hS hl
  have h := h p e R s m args below meth c Q hC B H locs lsA hP hD hS hl
  refine lv_ishr B.1 B.2.1 hd ?_
  rw [List.map_cons, show av_ id_ (vi_ (ishr_ a b)) = Value.int (Int32.ofInt (ishr_ a b)) from rfl] at h
  unfold ishr_ at h
  rw [i3_of] at h
  exact h
theorem U_goto {off : Int} {tgt : Nat} (hd : decode y.2.1 pc = .ok (.goto off, 3)) (ht : (pc : Int) + off = (tgt : Int)) (h : U_ l D y x C tgt ls st ws nc ns) : U_ l D y x C pc ls st ws nc ns := by
  intro p e R s m args below meth c Q hC B H locs lsA hP hD hS hl
  exact lv_goto B.1 B.2.1 hd ht (h p e R s m args below meth c Q hC B H locs lsA hP hD hS hl)
theorem U_if_eq {a off : Int} {tgt : Nat} (hd : decode y.2.1 pc = .ok (.ifCond .eq off, 3)) (htg : (pc : Int) + off = (tgt : Int)) (ha : Rg_ a) (ht : a = 0 → U_ l D y x C tgt ls st ws nc ns) (hf : a ≠ 0 → U_ l D y x C (pc + 3) ls st ws nc ns) : U_ l D y x C pc ls (vi_ a :: st) ws nc ns := by
  intro p e R s m args below meth c Q hC B H locs lsA hP hD hS hl
  exact lv_if_eq B.1 B.2.1 hd htg (fun z => (ht ((i3_eq ha i0_rg).mp z)) p e R s m args below meth c Q hC B H locs lsA hP hD hS hl) (fun z => (hf (fun q => z ((i3_eq ha i0_rg).mpr q))) p e R s m args below meth c Q hC B H locs lsA hP hD hS hl)
theorem U_icmp_ge {a b off : Int} {tgt : Nat} (hd : decode y.2.1 pc = .ok (.if_icmp .ge off, 3)) (htg : (pc : Int) + off = (tgt : Int)) (ha : Rg_ a) (hb : Rg_ b) (ht : b ≤ a → U_ l D y x C tgt ls st ws nc ns) (hf : a < b → U_ l D y x C (pc + 3) ls st ws nc ns) : U_ l D y x C pc ls (vi_ b :: vi_ a :: st) ws nc ns := by
  intro p e R s m args below meth c Q hC B H locs lsA hP hD hS hl
  exact lv_icmp_ge B.1 B.2.1 hd htg (fun z => (ht ((i3_le hb ha).mp z)) p e R s m args below meth c Q hC B H locs lsA hP hD hS hl) (fun z => (hf (Int.not_le.mp (fun q => z ((i3_le hb ha).mpr q)))) p e R s m args below meth c Q hC B H locs lsA hP hD hS hl)
theorem U_dup {v : Av_} (hd : decode y.2.1 pc = .ok (.dup, 1)) (hv : c1_ v = true) (h : U_ l D y x C (pc + 1) ls (v :: v :: st) ws nc ns) : U_ l D y x C pc ls (v :: st) ws nc ns := by
  intro p e R s m args below meth c Q hC B H locs lsA hP hD hS hl
  exact lv_dup B.1 B.2.1 hd (c1_cat hv) (h p e R s m args below meth c Q hC B H locs lsA hP hD hS hl)
theorem U_new {idx ci N : Nat} {Cn : String} {T : u_T} {fs : List Value} {ty : Nat → FieldType} (hd : decode y.2.1 pc = .ok (.new idx, 3)) (hin : ∀ w ∈ u_ws Cn T N, w ∈ gw_) (hty : ∀ k, k < N → parseFieldDescriptor (T k).2.2.1 = some (ty k)) (hk : Cond.classLink y.1.cls idx Cn ∈ gw_ ∧ Cond.instantiable Cn N ∈ gw_ ∧ Cond.initialized Cn ∈ gw_) (hc : vwCl[ci]? = some (Cn, T, N)) (hfs : ∀ j, j < N → defaultValue (ty j) = vp_V fs j) (hr : nc + 1 ≤ x.2.2.1 ∧ ns + N ≤ x.2.2.2)
    (h : ∀ q, U_ l D y x C (pc + 3) ls (vr_ q :: st) (ws ++ [(q, .inr (ci, fs))]) (nc + 1) (ns + N)) : U_ l D y x C pc ls st ws nc ns := by
  intro p e R s m args below meth c Q hC B H locs lsA hP hD hS hl
  have hts := B.2.2.2.2.2.1
  exact va_new B.1 B.2.1 hts hin ty hty B.2.2.2.2.1 (hts _ hk.1) (hts _ hk.2.1) (hts _ hk.2.2) B.2.2.2.2.2.2.1 hP hD hS (fun q h => Or.inr (by rw [← B.2.2.2.2.2.2.2.2.2.1]; exact h)) hc hfs (Nat.le_trans hr.1 B.2.2.2.2.2.2.2.2.1.2.2.1) (Nat.le_trans hr.2 B.2.2.2.2.2.2.2.2.1.2.2.2) hd (fun q H1 hP1 hD1 hS1 => h q p e R s m args below meth c Q hC B H1 locs lsA hP1 hD1 hS1 hl)
theorem U_newi {z : Int} {N : Nat} (hd : decode y.2.1 pc = .ok (.newarray .int, 2)) (ht : Cond.arrayClass .int ∈ gw_) (hz : z = (N : Int)) (hN : N < 2147483648) (hb : N * componentBytes .int ≤ 536870912) (hr : nc + 1 ≤ x.2.2.1 ∧ ns + N ≤ x.2.2.2)
    (h : ∀ q, U_ l D y x C (pc + 2) ls (vr_ q :: st) (ws ++ [(q, .inl (D.2.1.1, N, .inl (fun _ => 0)))]) (nc + 1) (ns + N)) : U_ l D y x C pc ls (vi_ z :: st) ws nc ns := by
  intro p e R s m args below meth c Q hC B H locs lsA hP hD hS hl
  subst hz
  refine va_newa (atype := .int) (ty := .int) (a0 := (N, .inl (fun _ => 0))) (N' := N) B.1 B.2.1 (B.2.2.2.2.2.1 _ ht) rfl B.2.2.2.2.2.2.1 hP hD hS (fun q h => Or.inr (by rw [← B.2.2.2.2.2.2.2.2.2.1]; exact h)) (fun cA => rfl) (fun z => by have := (i3_lt (a := (N : Int)) ⟨by omega, by omega⟩ i0_rg).mp z; omega) (by rw [i3_nn (by omega) (by omega)]; rfl) hb (Nat.le_trans hr.1 B.2.2.2.2.2.2.2.2.1.2.2.1) (Nat.le_trans hr.2 B.2.2.2.2.2.2.2.2.1.2.2.2) hd (fun q cA H1 hK1 hP1 hD1 hS1 => ?_)
  have e0 : cA = D.2.1.1 := Option.some.inj (((hK1.2 3 (cA, .int) rfl).2).symm.trans ((B.2.2.2.2.2.2.1.2 0 (D.2.1.1, .int) rfl).2))
  subst e0
  exact h q p e R s m args below meth c Q hC B H1 locs lsA hP1 hD1 hS1 hl
theorem U_newz {z : Int} {N : Nat} (hd : decode y.2.1 pc = .ok (.newarray .boolean, 2)) (ht : Cond.arrayClass .boolean ∈ gw_) (hz : z = (N : Int)) (hN : N < 2147483648) (hb : N * componentBytes .boolean ≤ 536870912) (hr : nc + 1 ≤ x.2.2.1 ∧ ns + N ≤ x.2.2.2)
    (h : ∀ q, U_ l D y x C (pc + 2) ls (vr_ q :: st) (ws ++ [(q, .inl (D.2.1.2.1, N, .inl (fun _ => 0)))]) (nc + 1) (ns + N)) : U_ l D y x C pc ls (vi_ z :: st) ws nc ns := by
  intro p e R s m args below meth c Q hC B H locs lsA hP hD hS hl
  subst hz
  refine va_newa (atype := .boolean) (ty := .boolean) (a0 := (N, .inl (fun _ => 0))) (N' := N) B.1 B.2.1 (B.2.2.2.2.2.1 _ ht) rfl B.2.2.2.2.2.2.1 hP hD hS (fun q h => Or.inr (by rw [← B.2.2.2.2.2.2.2.2.2.1]; exact h)) (fun cA => rfl) (fun z => by have := (i3_lt (a := (N : Int)) ⟨by omega, by omega⟩ i0_rg).mp z; omega) (by rw [i3_nn (by omega) (by omega)]; rfl) hb (Nat.le_trans hr.1 B.2.2.2.2.2.2.2.2.1.2.2.1) (Nat.le_trans hr.2 B.2.2.2.2.2.2.2.2.1.2.2.2) hd (fun q cA H1 hK1 hP1 hD1 hS1 => ?_)
  have e0 : cA = D.2.1.2.1 := Option.some.inj (((hK1.2 3 (cA, .boolean) rfl).2).symm.trans ((B.2.2.2.2.2.2.1.2 1 (D.2.1.2.1, .boolean) rfl).2))
  subst e0
  exact h q p e R s m args below meth c Q hC B H1 locs lsA hP1 hD1 hS1 hl
theorem U_newq {idx N : Nat} {z : Int} (hd : decode y.2.1 pc = .ok (.anewarray idx, 3)) (hk : Cond.classLink y.1.cls idx "DrownedNames$Sheet" ∈ gw_) (hz : z = (N : Int)) (hN : N < 2147483648) (hb : N * 4 ≤ 536870912) (hr : nc + 1 ≤ x.2.2.1 ∧ ns + N ≤ x.2.2.2)
    (h : ∀ q, U_ l D y x C (pc + 3) ls (vr_ q :: st) (ws ++ [(q, .inl (D.2.1.2.2, N, .inr (.inr (.inr (.inr (fun _ => none))))))]) (nc + 1) (ns + N)) : U_ l D y x C pc ls (vi_ z :: st) ws nc ns := by
  intro p e R s m args below meth c Q hC B H locs lsA hP hD hS hl
  subst hz
  refine va_newq (C := "DrownedNames$Sheet") (N' := N) B.1 B.2.1 B.2.2.2.2.1 (B.2.2.2.2.2.1 _ hk) B.2.2.2.2.2.2.2.2.2.2.1.2.2.1 B.2.2.2.2.2.2.1 hP hD hS (fun q h => Or.inr (by rw [← B.2.2.2.2.2.2.2.2.2.1]; exact h)) (fun z => by have := (i3_lt (a := (N : Int)) ⟨by omega, by omega⟩ i0_rg).mp z; omega) (by rw [i3_nn (by omega) (by omega)]; rfl) hb (Nat.le_trans hr.1 B.2.2.2.2.2.2.2.2.1.2.2.1) (Nat.le_trans hr.2 B.2.2.2.2.2.2.2.2.1.2.2.2) hd (fun q cA H1 hK1 hP1 hD1 hS1 => ?_)
  obtain ⟨kA, comp, -, -, -, e1⟩ := (hK1.2 3 (cA, .object "DrownedNames$Sheet") rfl).2
  obtain ⟨kA2, comp2, -, -, -, e2⟩ := (B.2.2.2.2.2.2.1.2 2 (D.2.1.2.2, .object "DrownedNames$Sheet") rfl).2
  have e0 : cA = D.2.1.2.2 := Option.some.inj (e1.symm.trans e2)
  subst e0
  exact h q p e R s m args below meth c Q hC B H1 locs lsA hP1 hD1 hS1 hl
theorem U_putF {own : String} {idx ci j q0 a : Nat} {v : Av_} {ty : FieldType} {fs : List Value} (hd : decode y.2.1 pc = .ok (.putfield idx, 3)) (hF : Fl_ own idx ci j) (hown : own = y.1.cls) (hini : y.1.name = "<init>") (he : ws[q0]? = some (a, .inr (ci, fs))) (hq : ∀ C T N, vwCl[ci]? = some (C, T, N) → ((T j).2.2.2 = true ∧ (T j).1 = own ∧ parseFieldDescriptor (T j).2.2.1 = some ty) ∧ (∀ a, a < N → ∀ b, b < N → a ≠ b → (T a).2.1 ≠ (T b).2.1) ∧ ∃ t0 : Nat → FieldType, ∀ k, k < N → parseFieldDescriptor (T k).2.2.1 = some (t0 k)) (hn : narrow ty (av_ id_ v) = av_ id_ v) (hfit : fits ty (av_ id_ v) = true) (hl0 : j < fs.length)
    (h : U_ l D y x C (pc + 3) ls st (ws.set q0 (a, .inr (ci, fs.set j (av_ id_ v)))) nc ns) : U_ l D y x C pc ls (v :: vr_ a :: st) ws nc ns := by
  intro p e R s m args below meth c Q hC B H locs lsA hP hD hS hl
  obtain ⟨C0, T0, N0, h1, h2, h3, h4⟩ := hF
  subst hown
  obtain ⟨⟨q1, q1b, q2⟩, q3, t0, q4⟩ := hq _ _ _ h1
  exact va_putF (C := C0) (T := T0) (N := N0) B.1 B.2.1 B.2.2.2.2.2.1 h3 t0 q4 q3 B.2.2.2.2.1 B.2.2.2.2.2.2.1 hP hD hS q0 he h1 j h2 (B.2.2.2.2.2.1 _ h4) (fun _ z => z) q1 (B.2.2.2.2.2.2.2.2.2.2.2 hini) q1b q2 hn hfit hl0 hd (fun H1 locs1 hP1 hD1 hS1 => h p e R s m args below meth c Q hC B H1 locs1 lsA hP1 hD1 hS1 hl)
theorem U_put {own : String} {idx ci j q0 a : Nat} {v : Av_} {ty : FieldType} {fs : List Value} (hd : decode y.2.1 pc = .ok (.putfield idx, 3)) (hF : Fl_ own idx ci j) (hown : own = y.1.cls) (hini : y.1.name = "<init>") (he : ws[q0]? = some (a, .inr (ci, fs))) (hq : ∀ C T N, vwCl[ci]? = some (C, T, N) → ((T j).2.2.2 = false ∧ (T j).1 = own ∧ parseFieldDescriptor (T j).2.2.1 = some ty) ∧ (∀ a, a < N → ∀ b, b < N → a ≠ b → (T a).2.1 ≠ (T b).2.1) ∧ ∃ t0 : Nat → FieldType, ∀ k, k < N → parseFieldDescriptor (T k).2.2.1 = some (t0 k)) (hn : narrow ty (av_ id_ v) = av_ id_ v) (hfit : fits ty (av_ id_ v) = true) (hl0 : j < fs.length)
    (h : U_ l D y x C (pc + 3) ls st (ws.set q0 (a, .inr (ci, fs.set j (av_ id_ v)))) nc ns) : U_ l D y x C pc ls (v :: vr_ a :: st) ws nc ns := by
  intro p e R s m args below meth c Q hC B H locs lsA hP hD hS hl
  obtain ⟨C0, T0, N0, h1, h2, h3, h4⟩ := hF
  subst hown
  obtain ⟨⟨q1, q1b, q2⟩, q3, t0, q4⟩ := hq _ _ _ h1
  exact va_put (C := C0) (T := T0) (N := N0) B.1 B.2.1 B.2.2.2.2.2.1 h3 t0 q4 q3 B.2.2.2.2.1 B.2.2.2.2.2.2.1 hP hD hS q0 he h1 j h2 (B.2.2.2.2.2.1 _ h4) (fun _ z => z) q1 q2 hn hfit hl0 hd (fun H1 locs1 hP1 hD1 hS1 => h p e R s m args below meth c Q hC B H1 locs1 lsA hP1 hD1 hS1 hl)
theorem U_get {own : String} {idx ci j q0 a : Nat} {v : Av_} {fs : List Value} (hd : decode y.2.1 pc = .ok (.getfield idx, 3)) (hF : Fl_ own idx ci j) (hown : own = y.1.cls) (he : ws[q0]? = some (a, .inr (ci, fs))) (hv : fs[j]? = some (av_ id_ v)) (h : U_ l D y x C (pc + 3) ls (v :: st) ws nc ns) : U_ l D y x C pc ls (vr_ a :: st) ws nc ns := by
  intro p e R s m args below meth c Q hC B H locs lsA hP hD hS hl
  obtain ⟨C0, T0, N0, h1, h2, h3, h4⟩ := hF
  subst hown
  exact va_get (C := C0) (T := T0) (N := N0) B.1 B.2.1 B.2.2.2.2.2.1 h3 B.2.2.2.2.1 B.2.2.2.2.2.2.1 hP q0 he h1 j h2 (B.2.2.2.2.2.1 _ h4) (fun _ z => z) (v := av_ id_ v) hv hd (h p e R s m args below meth c Q hC B H locs lsA hP hD hS hl)
theorem U_iast {q0 a N : Nat} {i v : Int} {f : Nat → Int32} (hd : decode y.2.1 pc = .ok (.iastore, 1)) (he : ws[q0]? = some (a, .inl (D.2.1.1, N, .inl f))) (hi : 0 ≤ i ∧ i < (N : Int)) (hN : N < 2147483648) (h : U_ l D y x C (pc + 1) ls st (ws.set q0 (a, .inl (D.2.1.1, N, .inl (upd f i.toNat (Int32.ofInt v))))) nc ns) : U_ l D y x C pc ls (vi_ v :: vi_ i :: vr_ a :: st) ws nc ns := by
  intro p e R s m args below meth c Q hC B H locs lsA hP hD hS hl
  refine va_iast B.1 B.2.1 B.2.2.2.2.2.2.1 hP hD hS q0 0 he rfl (i3_in hi.1 hi.2 hN) hd ?_
  intro H1 locs1 hP1 hD1 hS1
  rw [i3_nn hi.1 (by omega)] at hP1 hD1
  exact h p e R s m args below meth c Q hC B H1 locs1 lsA hP1 hD1 hS1 hl
theorem U_aast {q0 qk a v N : Nat} {i : Int} {vs : List Value} {f : Nat → Option Nat} (hd : decode y.2.1 pc = .ok (.aastore, 1)) (he : ws[q0]? = some (a, .inl (D.2.1.2.2, N, .inr (.inr (.inr (.inr f)))))) (hv : ws[qk]? = some (v, .inr (4, vs))) (hi : 0 ≤ i ∧ i < (N : Int)) (hN : N < 2147483648) (h : U_ l D y x C (pc + 1) ls st (ws.set q0 (a, .inl (D.2.1.2.2, N, .inr (.inr (.inr (.inr (va_up f i.toNat (some v)))))))) nc ns) : U_ l D y x C pc ls (vr_ v :: vi_ i :: vr_ a :: st) ws nc ns := by
  intro p e R s m args below meth c Q hC B H locs lsA hP hD hS hl
  refine va_astq B.1 B.2.1 B.2.2.2.2.2.2.1 hP hD hS q0 2 qk 4 he rfl hv rfl (i3_in hi.1 hi.2 hN) hd ?_
  intro H1 locs1 hP1 hD1 hS1
  rw [i3_nn hi.1 (by omega)] at hP1 hD1
  exact h p e R s m args below meth c Q hC B H1 locs1 lsA hP1 hD1 hS1 hl
theorem U_obj {idx a : Nat} (hd : decode y.2.1 pc = .ok (.invokespecial idx, 3)) (hk : Cond.methodLink y.1.cls idx objectInit ∈ gw_) (hr : 1 ≤ y.2.2.2.2.1 ∧ 12 ≤ y.2.2.2.2.2) (h : U_ l D y x C (pc + 3) ls [] ws nc ns) : U_ l D y x C pc ls [vr_ a] ws nc ns := by
  intro p e R s m args below meth c Q hC B H locs lsA hP hD hS hl
  have hts := B.2.2.2.2.2.1
  refine W.objInit B.1 B.2.1 B.2.2.2.2.1 (hts _ hk) (hts _ oi_in.1) (hts _ oi_in.2) rfl (hl.1.trans B.2.2.2.1.symm) rfl hd (Nat.le_trans hr.1 B.2.2.2.2.2.2.2.2.1.1) (Nat.le_trans hr.2 B.2.2.2.2.2.2.2.2.1.2.1) ?_
  exact W.eq (g2 := F0 m (pc + 3) lsA []) rfl (h p e R s m args below meth c Q hC B H locs lsA hP hD hS hl)
theorem U_ldcS {idx i : Nat} {tx : String} (hd : decode y.2.1 pc = .ok (.ldc idx, 2)) (hy : y.1.cls = "DrownedNames") (hi : (idx = 11 ∧ tx = "919" ∧ i = 0) ∨ (idx = 20 ∧ tx = "99l." ∧ i = 1) ∨ (idx = 25 ∧ tx = "5a91" ∧ i = 2)) (h : U_ l D y x C (pc + 2) ls (vr_ (D.2.2 (100 + i)) :: st) ws nc ns) : U_ l D y x C pc ls st ws nc ns := by
  intro p e R s m args below meth c Q hC B H locs lsA hP hD hS hl
  have hE := B.2.2.2.2.2.2.2.2.2.2.1.2.1
  have ho := B.2.2.2.2.1
  rw [hy] at ho
  have hZ : vk_R "DrownedNames" idx tx (D.2.2 (100 + i)) s := by
    rcases hi with ⟨rfl, rfl, rfl⟩ | ⟨rfl, rfl, rfl⟩ | ⟨rfl, rfl, rfl⟩
    · exact hE.1
    · exact hE.2.1
    · exact hE.2.2
  exact va_ldcS B.1 B.2.1 ho hZ hd (h p e R s m args below meth c Q hC B H locs lsA hP hD hS hl)
theorem U_getCS {idx : Nat} (hd : decode y.2.1 pc = .ok (.getstatic idx, 3)) (hk : Cond.fieldLink y.1.cls idx "java/lang/String" "COMPACT_STRINGS" "Z" ∈ gw_) (h : U_ l D y x C (pc + 3) ls (vi_ 1 :: st) ws nc ns) : U_ l D y x C pc ls st ws nc ns := by
  intro p e R s m args below meth c Q hC B H locs lsA hP hD hS hl
  exact va_gets B.1 B.2.1 B.2.2.2.2.2.2.2.2.2.2.1.1.2 hS B.2.2.2.2.1 (B.2.2.2.2.2.1 _ hk) (fun _ z => z) hd (h p e R s m args below meth c Q hC B H locs lsA hP hD hS hl)
theorem U_strC {idx i : Nat} (hd : decode y.2.1 pc = .ok (.getfield idx, 3)) (hk : Cond.fieldLink y.1.cls idx "java/lang/String" "coder" "B" ∈ gw_) (hi : i < 3) (h : U_ l D y x C (pc + 3) ls (vi_ 0 :: st) ws nc ns) : U_ l D y x C pc ls (vr_ (D.2.2 (100 + i)) :: st) ws nc ns := by
  intro p e R s m args below meth c Q hC B H locs lsA hP hD hS hl
  exact vk_getf B.1 B.2.1 (B.2.2.2.2.2.2.2.2.2.2.1.1.1.1 i hi).2.1 hS B.2.2.2.2.1 (B.2.2.2.2.2.1 _ hk) (fun _ z => z) hd (h p e R s m args below meth c Q hC B H locs lsA hP hD hS hl)
theorem U_strV {idx i : Nat} (hd : decode y.2.1 pc = .ok (.getfield idx, 3)) (hk : Cond.fieldLink y.1.cls idx "java/lang/String" "value" "[B" ∈ gw_) (hi : i < 3) (h : U_ l D y x C (pc + 3) ls (vr_ (D.2.2 (110 + i)) :: st) ws nc ns) : U_ l D y x C pc ls (vr_ (D.2.2 (100 + i)) :: st) ws nc ns := by
  intro p e R s m args below meth c Q hC B H locs lsA hP hD hS hl
  exact vk_getf B.1 B.2.1 (B.2.2.2.2.2.2.2.2.2.2.1.1.1.1 i hi).2.2.1 hS B.2.2.2.2.1 (B.2.2.2.2.2.1 _ hk) (fun _ z => z) hd (h p e R s m args below meth c Q hC B H locs lsA hP hD hS hl)
theorem U_strL {i : Nat} {n : Int} (hd : decode y.2.1 pc = .ok (.arraylength, 1)) (hi : i < 3) (hn : Int32.ofNat ([3, 4, 4].getD i 0) = Int32.ofInt n) (h : U_ l D y x C (pc + 1) ls (vi_ n :: st) ws nc ns) : U_ l D y x C pc ls (vr_ (D.2.2 (110 + i)) :: st) ws nc ns := by
  intro p e R s m args below meth c Q hC B H locs lsA hP hD hS hl
  exact va_tlen B.1 B.2.1 (B.2.2.2.2.2.2.2.2.2.2.1.1.1.1 i hi).2.2.2 hS hn hd (h p e R s m args below meth c Q hC B H locs lsA hP hD hS hl)
theorem U_return {post : Option Av_ → va_W → Prop} (hd : decode y.2.1 pc = .ok (.return_, 1)) (hr : y.2.2.2.1 = none) (h1 : nc = x.2.2.1) (h2 : ns = x.2.2.2) (h : post none ws) : U_ l D y x (CN_ D y x post) pc ls [] ws nc ns := by
  intro p e R s m args below meth c Q hC B H locs lsA hP hD hS hl
  subst h1; subst h2
  obtain ⟨rfl, rfl⟩ := hC
  exact W.vret B.1 B.2.1 (B.2.2.1.trans hr) (fun t ht _ => ⟨⟨none, ws, rfl, h, by rw [ht]; exact hP, hD⟩, hS.F ht⟩) hS.2.2 hd B.2.2.2.2.2.2.2.1
theorem U_ireturn {post : Option Av_ → va_W → Prop} {ty : FieldType} {z : Int} (hd : decode y.2.1 pc = .ok (.ireturn, 1)) (hr : y.2.2.2.1 = some ty) (hn : narrow ty (.int (Int32.ofInt z)) = .int (Int32.ofInt z)) (h1 : nc = x.2.2.1) (h2 : ns = x.2.2.2) (h : post (some (vi_ z)) ws) : U_ l D y x (CN_ D y x post) pc ls [vi_ z] ws nc ns := by
  intro p e R s m args below meth c Q hC B H locs lsA hP hD hS hl
  subst h1; subst h2
  obtain ⟨rfl, rfl⟩ := hC
  exact W.zret B.1 B.2.1 (B.2.2.1.trans hr) hn (fun t ht _ => ⟨⟨some (vi_ z), ws, rfl, h, by rw [ht]; exact hP, hD⟩, hS.F ht⟩) hS.2.2 hd B.2.2.2.2.2.2.2.1
def Pu_ (D : Dt_) (x : Xt_) (ws : va_W) (as : List Av_) : Array Value → State → Prop := va_Pc (as.map (av_ id_)) (fun U => U.heap.size = x.2.1 ∧ va_P D.1 vwCl ws U.heap ∧ va_K D.1 vwCl (ty_ D) U ∧ va_D (Az_ x) ws ∧ Eu_ D (Az_ x) U U.heap)
theorem Pu_blind {as : List Av_} : FrameBlind (Pu_ D x ws as) := fun a U g mk q => by
  obtain ⟨q0, qS, qP, qK, qD, qE⟩ := q
  exact ⟨q0, qS, qP, va_K.moved (u := U) (U := U.calling g mk a) (Vm.Alike.refl U.vm) qK, qD, Eu_.call qE⟩
theorem metu_of {as : List Av_} {post : Option Av_ → va_W → Prop} (hy : plainName y.1.cls = true) (hlen : (en_ as).length ≤ y.2.2.1) (h : U_ l D y x (CN_ D y x post) 0 (el_ y.2.2.1 as) [] ws 0 0) :
    Met l y.1 (ws_ y) (rx_ y x) (Pu_ D x ws as) (Qn_ D x post) x.2.2.1 x.2.2.2 (Az_ x) := by
  refine Met.ofW (cc := y.2.1) (maxL := y.2.2.1) (ret := y.2.2.2.1) hy rfl ?_
  intro p e s m args below meth c s₁ B hml hv
  obtain ⟨rfl, hsz, hP, hK, hD, hE⟩ := hv
  rw [lg_entry_eq]
  have hl := lv_entry (as.map (av_ id_)) (n := y.2.2.1) (by rw [en_len]; exact hlen)
  refine h p e (rx_ y x) s m _ below meth c _ ⟨rfl, rfl⟩ ⟨B.exec, B.bytes, B.returns, hml, findClass_of_methodNamed B.named, fun w hw => atoms_spec (ws := ws_ y) B.pre w (List.mem_cons_of_mem _ hw), hK, B.notSynchronized, ⟨Nat.le_refl _, Nat.le_refl _, Nat.le_refl _, Nat.le_refl _⟩, hsz, hE, fun z => ((name_of_methodNamed B.named B.method).1).trans z⟩ s.heap [] _ hP hD va_S.rf ?_
  exact ⟨hl.1, hl.2.1, fun q hq => hl.2.2 q (ll_en as 0 q hq)⟩
theorem un_go {p : Program} {e : Env} {R : Room} {s : State} {m : MethodId} {args : Array Value} {below : List Frame} {meth : Method} {c : Code} {H : Heap} {locs : List Loc} {mc ms : Nat} {Q : State → Prop} {lsA : Array Slot} {st0 : List Value} {a : Array Value} {rest : List Av_} {post : Option Av_ → va_W → Prop} {x1 : Xt_}
    (hr : va_Run p l e R s m args below meth c H locs nc ns mc ms (F0 m pc lsA st0) (rest.map (av_ id_)) (Qn_ D x1 post a) (Az_ x1)) (hD : va_D (Az_ x) ws) (hS : va_S (Az_ x) s.heap H locs) (hx1 : x1.1 = ws.map Prod.fst) (hx2 : x1.2.1 = H.size) (hC : C R s args below Q) (B : Bu_ D y x p R s m args meth c) (hl : lv_has lsA y.2.2.1 (ll_ id_ 0 ls))
    (k : ∀ r ws', post r ws' → U_ l D y x C (pc + 3) ls (pu_ r rest) ws' (nc + mc) (ns + ms)) : W p l e R s m args below meth c H locs nc ns Q (F0 m pc lsA st0) := by
  have hsub : ∀ q, Az_ x1 q → Az_ x q := by
    intro q hq
    rcases hq with hq | hq
    · rw [hx1] at hq
      obtain ⟨w, hw, rfl⟩ := List.mem_map.mp hq
      obtain ⟨i, hi⟩ := List.getElem?_of_mem hw
      exact hD.2 i w hi
    · rw [hx2] at hq
      exact Or.inr (by rw [← B.2.2.2.2.2.2.2.2.2.1]; exact Nat.le_trans hS.1 hq)
  intro T hT X
  obtain ⟨v, st₀, t, T', L, h0, X', hL, e1, e2, ⟨⟨r, ws', ho, hpost, hP', hD'⟩, hz, hkp⟩, stp⟩ := hr T hT X
  have hv : v = r.map (av_ id_) := by injection ho
  subst hv
  rw [h0] at hz hkp
  have hgo := k r ws' hpost p e R s m args below meth c Q hC B T'.heap (locs ++ L) lsA (by rw [e1]; exact hP') (hD'.weaken (fun _ _ _ z => hsub _ z))
    ⟨Nat.le_trans hS.1 (by rw [e1]; exact hz), fun q h1 h2 => by rw [e1, hkp q (Nat.lt_of_lt_of_le h1 hS.1) (fun z => h2 (hsub q z))]; exact hS.2.1 q h1 h2, fun q hq => by
      rcases List.mem_append.mp hq with h | h
      · exact hS.2.2 q h
      · exact hsub _ (hL q h)⟩ hl T' rfl X'
  obtain ⟨t2, a1, b1⟩ := hgo
  have hst : (pu_ r rest).map (av_ id_) = (r.map (av_ id_)).toList ++ rest.map (av_ id_) := by cases r <;> rfl
  rw [hst] at a1
  exact ⟨t2, stp t2 a1, b1⟩
theorem U_callI {idx a n mc ms : Nat} {y' : Mt_} {as rest : List Av_} (hd : decode y.2.1 pc = .ok (.invokespecial idx, 3)) (hk : (Cond.initialized y'.1.cls ∈ gw_ ∧ Cond.code y'.1 y'.2.1 y'.2.2.1 y'.2.2.2.1 ∈ gw_ ∧ (y'.1.cls ≠ "java/lang/invoke/MethodHandle" ∧ y'.1.cls ≠ "java/lang/invoke/VarHandle" ∧ (parseMethodDescriptor y'.1.desc).map (fun d => d.parameters.length) = some n) ∧ plainName y'.1.cls = true)) (hl0 : Cond.methodLink y.1.cls idx y'.1 ∈ gw_) (hi : Cond.instanceMethod y'.1 ∈ gw_) (hR : Rm_ y y') (hini : y'.1.name = "<init>") (hret : y'.2.2.2.1 = none) (hst : st = as.reverse ++ vr_ a :: rest) (hn : as.length = n) (hcat : (rest.map ct_).sum ≤ 8) (hlen : (en_ (vr_ a :: as)).length ≤ y'.2.2.1) (hr : nc + mc ≤ x.2.2.1 ∧ ns + ms ≤ x.2.2.2)
    (h : ∀ sz, U_ l D y' (ws.map Prod.fst, (sz, (mc, ms))) (CN_ D y' (ws.map Prod.fst, (sz, (mc, ms))) (fun r ws' => U_ l D y x C (pc + 3) ls (pu_ r rest) ws' (nc + mc) (ns + ms))) 0 (el_ y'.2.2.1 (vr_ a :: as)) [] ws 0 0) : U_ l D y x C pc ls st ws nc ns := by
  intro p e R s m args below meth c Q hC B H locs lsA hP hD hS hl
  subst hst
  obtain ⟨k2, k3, k4, k5⟩ := hk
  have hts := B.2.2.2.2.2.1
  have hsub : ∀ q, Az_ (ws.map Prod.fst, (H.size, (mc, ms))) q → Az_ x q := by
    intro q hq
    rcases hq with hq | hq
    · obtain ⟨w, hw, rfl⟩ := List.mem_map.mp hq
      obtain ⟨i, hi⟩ := List.getElem?_of_mem hw
      exact hD.2 i w hi
    · exact Or.inr (by rw [← B.2.2.2.2.2.2.2.2.2.1]; exact Nat.le_trans hS.1 hq)
  have hws : ws_ y' = Cond.code y'.1 y'.2.1 y'.2.2.1 none :: gw_ := by unfold ws_; rw [hret]
  have hG : GoodIn gw_ (ws_ y') := good_in (ws_in k3)
  refine un_go (x1 := (ws.map Prod.fst, (H.size, (mc, ms)))) (post := (fun r ws' => U_ l D y x C (pc + 3) ls (pu_ r rest) ws' (nc + mc) (ns + ms))) (va_runI (As := as.map (av_ id_)) (rest := rest.map (av_ id_)) (own := y.1.cls) ⟨B.1, B.2.1, B.2.2.2.1, B.2.2.2.2.1, hts⟩ (metu_of k5 hlen (h H.size)) (cwI n hts hG hws rfl rfl (hts _ k2) (hts _ hl0) (hts _ hi) hini k4 ⟨Nat.le_trans hR.1 B.2.2.2.2.2.2.2.2.1.1, Nat.le_trans hR.2 B.2.2.2.2.2.2.2.2.1.2.1⟩) ⟨Pu_blind, fun U hU hW => ⟨rfl, by rw [hU], by rw [hU]; exact hP, va_K.moved hW.alike B.2.2.2.2.2.2.1, ⟨hD.1, fun k q hk => Or.inl (List.mem_map.mpr ⟨q, List.mem_of_getElem? hk, rfl⟩)⟩, by rw [hU]; exact Eu_.warm hW ((B.2.2.2.2.2.2.2.2.2.2.1.kept hS.2.1).narrow hsub)⟩⟩ rfl (by rw [List.length_map]; exact hn) hl.1 (by simp; rfl) (lv_room (by rw [ct_map]; exact hcat)) hd ⟨Nat.le_trans hr.1 B.2.2.2.2.2.2.2.2.1.2.2.1, Nat.le_trans hr.2 B.2.2.2.2.2.2.2.2.1.2.2.2⟩) hD hS rfl rfl hC B hl (fun _ _ z => z)
theorem U_callN {idx a n mc ms : Nat} {y' : Mt_} {as rest : List Av_} (hd : decode y.2.1 pc = .ok (.invokespecial idx, 3)) (hk : (Cond.initialized y'.1.cls ∈ gw_ ∧ Cond.code y'.1 y'.2.1 y'.2.2.1 y'.2.2.2.1 ∈ gw_ ∧ (y'.1.cls ≠ "java/lang/invoke/MethodHandle" ∧ y'.1.cls ≠ "java/lang/invoke/VarHandle" ∧ (parseMethodDescriptor y'.1.desc).map (fun d => d.parameters.length) = some n) ∧ plainName y'.1.cls = true)) (hl0 : ∀ s : State, Eu_ D (Az_ x) s s.heap → va_Nw (.methodLinkNest y.1.cls idx y'.1 "DrownedNames") s) (hi : Cond.instanceMethod y'.1 ∈ gw_) (hR : Rm_ y y') (hini : y'.1.name = "<init>") (hret : y'.2.2.2.1 = none) (hst : st = as.reverse ++ vr_ a :: rest) (hn : as.length = n) (hcat : (rest.map ct_).sum ≤ 8) (hlen : (en_ (vr_ a :: as)).length ≤ y'.2.2.1) (hr : nc + mc ≤ x.2.2.1 ∧ ns + ms ≤ x.2.2.2)
    (h : ∀ sz, U_ l D y' (ws.map Prod.fst, (sz, (mc, ms))) (CN_ D y' (ws.map Prod.fst, (sz, (mc, ms))) (fun r ws' => U_ l D y x C (pc + 3) ls (pu_ r rest) ws' (nc + mc) (ns + ms))) 0 (el_ y'.2.2.1 (vr_ a :: as)) [] ws 0 0) : U_ l D y x C pc ls st ws nc ns := by
  intro p e R s m args below meth c Q hC B H locs lsA hP hD hS hl
  subst hst
  obtain ⟨k2, k3, k4, k5⟩ := hk
  have hts := B.2.2.2.2.2.1
  have hsub : ∀ q, Az_ (ws.map Prod.fst, (H.size, (mc, ms))) q → Az_ x q := by
    intro q hq
    rcases hq with hq | hq
    · obtain ⟨w, hw, rfl⟩ := List.mem_map.mp hq
      obtain ⟨i, hi⟩ := List.getElem?_of_mem hw
      exact hD.2 i w hi
    · exact Or.inr (by rw [← B.2.2.2.2.2.2.2.2.2.1]; exact Nat.le_trans hS.1 hq)
  have hws : ws_ y' = Cond.code y'.1 y'.2.1 y'.2.2.1 none :: gw_ := by unfold ws_; rw [hret]
  have hG : GoodIn gw_ (ws_ y') := good_in (ws_in k3)
  refine un_go (x1 := (ws.map Prod.fst, (H.size, (mc, ms)))) (post := (fun r ws' => U_ l D y x C (pc + 3) ls (pu_ r rest) ws' (nc + mc) (ns + ms))) (va_runIN (As := as.map (av_ id_)) (rest := rest.map (av_ id_)) (own := y.1.cls) ⟨B.1, B.2.1, B.2.2.2.1, B.2.2.2.2.1, hts⟩ (metu_of k5 hlen (h H.size)) ⟨va_cnB n hts hG hws rfl rfl (hl0 s B.2.2.2.2.2.2.2.2.2.2.1) (hts _ k2) k4 ⟨Nat.le_trans hR.1 B.2.2.2.2.2.2.2.2.1.1, Nat.le_trans hR.2 B.2.2.2.2.2.2.2.2.1.2.1⟩, hini, hts _ hi⟩ ⟨Pu_blind, fun U hU hW => ⟨rfl, by rw [hU], by rw [hU]; exact hP, va_K.moved hW.alike B.2.2.2.2.2.2.1, ⟨hD.1, fun k q hk => Or.inl (List.mem_map.mpr ⟨q, List.mem_of_getElem? hk, rfl⟩)⟩, by rw [hU]; exact Eu_.warm hW ((B.2.2.2.2.2.2.2.2.2.2.1.kept hS.2.1).narrow hsub)⟩⟩ rfl (by rw [List.length_map]; exact hn) hl.1 (by simp; rfl) (lv_room (by rw [ct_map]; exact hcat)) hd ⟨Nat.le_trans hr.1 B.2.2.2.2.2.2.2.2.1.2.2.1, Nat.le_trans hr.2 B.2.2.2.2.2.2.2.2.1.2.2.2⟩) hD hS rfl rfl hC B hl (fun _ _ z => z)
theorem U_callS {idx i n : Nat} {y' : Mt_} {rest : List Av_} (hd : decode y.2.1 pc = .ok (.invokevirtual idx, 3)) (hc : Cv_ y idx y' n) (hcl : y'.1.cls = "java/lang/String") (hi : i < 3) (hst : st = vr_ (D.2.2 (100 + i)) :: rest) (hn : 0 = n) (hcat : (rest.map ct_).sum ≤ 8) (hlen : (en_ [vr_ (D.2.2 (100 + i))]).length ≤ y'.2.2.1) (hr : nc ≤ x.2.2.1 ∧ ns ≤ x.2.2.2)
    (h : ∀ sz, U_ l D y' (ws.map Prod.fst, (sz, (0, 0))) (CN_ D y' (ws.map Prod.fst, (sz, (0, 0))) (fun r ws' => U_ l D y x C (pc + 3) ls (pu_ r rest) ws' nc ns)) 0 (el_ y'.2.2.1 [vr_ (D.2.2 (100 + i))]) [] ws 0 0) : U_ l D y x C pc ls st ws nc ns := by
  intro p e R s m args below meth c Q hC B H locs lsA hP hD hS hl
  subst hst
  obtain ⟨⟨k1, k2, k3, k4, k5⟩, ⟨k6, k7⟩, k8, k9⟩ := hc
  have hts := B.2.2.2.2.2.1
  have hsub : ∀ q, Az_ (ws.map Prod.fst, (H.size, (0, 0))) q → Az_ x q := by
    intro q hq
    rcases hq with hq | hq
    · obtain ⟨w, hw, rfl⟩ := List.mem_map.mp hq
      obtain ⟨i, hi⟩ := List.getElem?_of_mem hw
      exact hD.2 i w hi
    · exact Or.inr (by rw [← B.2.2.2.2.2.2.2.2.2.1]; exact Nat.le_trans hS.1 hq)
  refine un_go (x1 := (ws.map Prod.fst, (H.size, (0, 0)))) (mc := 0) (ms := 0) (post := fun r ws' => U_ l D y x C (pc + 3) ls (pu_ r rest) ws' nc ns) (va_runV (As := []) (rest := rest.map (av_ id_)) (C := y'.1.cls) (own := y.1.cls) ⟨B.1, B.2.1, B.2.2.2.1, B.2.2.2.2.1, hts⟩ (metu_of k5 hlen (h H.size)) (cwV n hts (good_in ?_) rfl rfl rfl ⟨rfl, k4⟩ ⟨Nat.le_trans k8 B.2.2.2.2.2.2.2.2.1.1, Nat.le_trans k9 B.2.2.2.2.2.2.2.2.1.2.1⟩) ⟨Pu_blind, ?_, fun U hU hW => ⟨rfl, by rw [hU], by rw [hU]; exact hP, va_K.moved hW.alike B.2.2.2.2.2.2.1, ⟨hD.1, fun k q hk => Or.inl (List.mem_map.mpr ⟨q, List.mem_of_getElem? hk, rfl⟩)⟩, by rw [hU]; exact Eu_.warm hW ((B.2.2.2.2.2.2.2.2.2.2.1.kept hS.2.1).narrow hsub)⟩⟩ rfl hn hl.1 rfl (lv_room (by rw [ct_map]; exact hcat)) hd ⟨Nat.le_trans hr.1 B.2.2.2.2.2.2.2.2.1.2.2.1, Nat.le_trans hr.2 B.2.2.2.2.2.2.2.2.1.2.2.2⟩) hD hS rfl rfl hC B hl (fun _ _ z => z)
  · intro w hw
    rcases List.mem_append.mp hw with h1 | h1
    · simp only [List.mem_cons, List.not_mem_nil, or_false] at h1
      rcases h1 with rfl | rfl | rfl | rfl
      · exact k1
      · exact k6
      · exact k7
      · exact k2
    · exact ws_in k3 w h1
  · rw [hcl]
    obtain ⟨cell, r1, r2, r3, r4⟩ := ((B.2.2.2.2.2.2.2.2.2.2.1.kept hS.2.1).1.1.1 i hi).1
    exact ⟨cell, r1, r2, r3⟩
end UROWS
