/-! ## The judgement V_ and its rows -/
abbrev Mt_ : Type := MethodName × (ByteArray × (Nat × (Option FieldType × (Nat × Nat))))
abbrev rm_ (y : Mt_) : Room := { frames := y.2.2.2.2.1, cells := 0, slots := 0, locals := y.2.2.2.2.2 }
/-- the tables' words that hold in every state that a run comes to -/
def gw_ : List Cond := lw_tbl.filter goodWord
theorem gw_in {w : Cond} (i : Nat) (h : lw_tbl[i]? = some w) (hg : goodWord w = true) : w ∈ gw_ := List.mem_filter.mpr ⟨List.mem_of_getElem? h, hg⟩
theorem gw_all {ws : List Cond} (h : ∀ w ∈ ws, w ∈ lw_tbl) (hg : ws.all goodWord = true) : ∀ w ∈ ws, w ∈ gw_ := fun w hw => List.mem_filter.mpr ⟨h w hw, List.all_eq_true.mp hg w hw⟩
def ws_ (y : Mt_) : List Cond := Cond.code y.1 y.2.1 y.2.2.1 y.2.2.2.1 :: gw_
def ty_ (D : Dt_) : List (ClassId × FieldType) := [(D.2.1.1, .int), (D.2.1.2.1, .boolean), (D.2.1.2.2, .object "DrownedNames$Sheet")]
def As_ (D : Dt_) : Nat → Prop := fun q => ∃ k, k < gG_.length ∧ q = D.2.2 k
def Ap_ (D : Dt_) : Prop := ∀ i j, i < gG_.length → j < gG_.length → D.2.2 i = D.2.2 j → i = j
def Ex_ (D : Dt_) (U : State) (H : Heap) : Prop :=
  vk_S 3 [3, 4, 4] [[57, 49, 57], [57, 57, 108, 46], [53, 97, 57, 49]] (fun i => D.2.2 (100 + i)) (fun i => D.2.2 (110 + i)) (As_ D) U H ∧
  va_Z "java/lang/String" "COMPACT_STRINGS" "Z" (.int 1) (As_ D) U H ∧ (va_Z "jdk/internal/util/Preconditions" "SIOOBE_FORMATTER" "Ljava/util/function/BiFunction;" .null (As_ D) U H ∨ va_Z "jdk/internal/util/Preconditions" "SIOOBE_FORMATTER" "Ljava/util/function/BiFunction;" (.ref (D.2.2 120)) (As_ D) U H)
theorem Ex_.moved {D : Dt_} {u U : State} {H : Heap} (hvm : u.vm.Alike U.vm) (h : Ex_ D u H) : Ex_ D U H := ⟨vk_S.moved hvm h.1, va_Z.moved hvm h.2.1, h.2.2.imp (va_Z.moved hvm) (va_Z.moved hvm)⟩
theorem Ex_.kept {D : Dt_} {U : State} {H H1 : Heap} (h : Ex_ D U H) (hq : ∀ a : Nat, a < H.size → ¬ As_ D a → H1[a]? = H[a]?) : Ex_ D U H1 := ⟨h.1.kept hq, h.2.1.kept hq, h.2.2.imp (fun z => z.kept hq) (fun z => z.kept hq)⟩
theorem D_wd {D : Dt_} {σ : Mm_} (h : Ap_ D) : va_D (As_ D) (wd_ D σ) := by
  have key : ∀ (i : Nat) (p : Nat × va_E), (wd_ D σ)[i]? = some p → i < gG_.length ∧ p.1 = D.2.2 i := by
    intro i p hp
    simp only [wd_, List.getElem?_mapIdx] at hp
    cases hg : gG_[i]? with
    | none => rw [hg] at hp; cases hp
    | some x =>
      rw [hg] at hp
      simp at hp
      exact ⟨(List.getElem?_eq_some_iff.mp hg).1, by rw [← hp]⟩
  refine ⟨fun i j p q hp hq hpq => ?_, fun k q hq => ?_⟩
  · obtain ⟨h1, h2⟩ := key i p hp
    obtain ⟨h3, h4⟩ := key j q hq
    exact h i j h1 h3 (by rw [← h2, ← h4, hpq])
  · obtain ⟨h1, h2⟩ := key k q hq
    exact ⟨k, h1, h2⟩
/-- what holds all along a method's run -/
def Bf_ (D : Dt_) (y : Mt_) (p : Program) (R : Room) (s : State) (m : MethodId) (args : Array Value) (meth : Method) (c : Code) (cells slots : Nat) : Prop :=
  p.tables.exec = Jvm.exec ∧ c.code = y.2.1 ∧ meth.sig.returnType = y.2.2.2.1 ∧ c.maxLocals = y.2.2.1 ∧ s.vm.findClass y.1.cls = some m.cls ∧ (∀ w ∈ gw_, w.before args s = true) ∧ va_K D.1 vwCl (ty_ D) s ∧ meth.locks = false ∧ (y.2.2.2.2.1 ≤ R.frames ∧ y.2.2.2.2.2 ≤ R.locals ∧ cells ≤ R.cells ∧ slots ≤ R.slots) ∧ Ap_ D ∧ Ex_ D s s.heap
abbrev Cp_ : Type := Room → State → Array Value → List Frame → Nat → Nat → (State → Prop) → Prop
/-- the machine, in method y at pc with these locals, this stack and this memory, goes to where C wants it -/
def V_ (l : Launch) (D : Dt_) (y : Mt_) (C : Cp_) (pc : Nat) (ls : List (Option Av_)) (st : List Av_) (σ : Mm_) : Prop :=
  RM_ σ → ∀ (p : Program) (e : Env) (R : Room) (s : State) (m : MethodId) (args : Array Value) (below : List Frame) (meth : Method) (c : Code) (cells slots : Nat) (Q : State → Prop), C R s args below cells slots Q → Bf_ D y p R s m args meth c cells slots →
    ∀ (H : Heap) (locs : List Loc) (lsA : Array Slot), va_P D.1 vwCl (wd_ D σ) H → va_S (As_ D) s.heap H locs → lv_has lsA y.2.2.1 (ll_ D.2.2 0 ls) →
      W p l e R s m args below meth c H locs cells slots Q (F0 m pc lsA (st.map (av_ D.2.2)))
/-- a method's end: its answer and memory -/
def Qc_ (D : Dt_) (post : Option Av_ → Mm_ → Prop) : Array Value → State → Outcome → State → Prop := fun _ st o t =>
  (∃ (r : Option Av_) (σ : Mm_), o = .returned (r.map (av_ D.2.2)) ∧ post r σ ∧ RM_ σ ∧ va_P D.1 vwCl (wd_ D σ) t.heap) ∧ va_F (As_ D) st t
def CM_ (D : Dt_) (y : Mt_) (post : Option Av_ → Mm_ → Prop) : Cp_ := fun R s args below cells slots Q =>
  R = rm_ y ∧ cells = 0 ∧ slots = 0 ∧ Q = MQ below (Qc_ D post) args s 0 0 (As_ D)
section VROWS
variable {l : Launch} {D : Dt_} {y : Mt_} {C : Cp_} {pc : Nat} {ls : List (Option Av_)} {st : List Av_} {σ : Mm_}
theorem V_rg (h : RM_ σ → V_ l D y C pc ls st σ) : V_ l D y C pc ls st σ := fun hR => h hR hR
theorem V_iconst {n : Int} (hd : decode y.2.1 pc = .ok (.iconst n, 1)) (h : V_ l D y C (pc + 1) ls (vi_ n :: st) σ) : V_ l D y C pc ls st σ := by
  intro hR p e R s m args below meth c cells slots Q hC B H locs lsA hP hS hl
  exact lv_iconst B.1 B.2.1 hd rfl (h hR p e R s m args below meth c cells slots Q hC B H locs lsA hP hS hl)
theorem V_bipush {n : Int} (hd : decode y.2.1 pc = .ok (.bipush n, 2)) (hv : (Int8.ofInt n).toInt32 = Int32.ofInt n) (h : V_ l D y C (pc + 2) ls (vi_ n :: st) σ) : V_ l D y C pc ls st σ := by
  intro hR p e R s m args below meth c cells slots Q hC B H locs lsA hP hS hl
  exact lv_bipush B.1 B.2.1 hd hv (h hR p e R s m args below meth c cells slots Q hC B H locs lsA hP hS hl)
theorem V_sipush {n : Int} (hd : decode y.2.1 pc = .ok (.sipush n, 3)) (hv : (Int16.ofInt n).toInt32 = Int32.ofInt n) (h : V_ l D y C (pc + 3) ls (vi_ n :: st) σ) : V_ l D y C pc ls st σ := by
  intro hR p e R s m args below meth c cells slots Q hC B H locs lsA hP hS hl
  exact lv_sipush B.1 B.2.1 hd hv (h hR p e R s m args below meth c cells slots Q hC B H locs lsA hP hS hl)
theorem V_lconst {n : Fin 2} {z : Int} (hd : decode y.2.1 pc = .ok (.lconst n, 1)) (hv : Int64.ofNat (n : Nat) = Int64.ofInt z) (h : V_ l D y C (pc + 1) ls (vl_ z :: st) σ) : V_ l D y C pc ls st σ := by
  intro hR p e R s m args below meth c cells slots Q hC B H locs lsA hP hS hl
  exact lv_lconst B.1 B.2.1 hd hv (h hR p e R s m args below meth c cells slots Q hC B H locs lsA hP hS hl)
theorem V_ldc {i : Nat} {v : Int32} {z : Int} (hd : decode y.2.1 pc = .ok (.ldc i, 2)) (hk : Cond.constant y.1.cls i v ∈ gw_) (hv : v = Int32.ofInt z) (h : V_ l D y C (pc + 2) ls (vi_ z :: st) σ) : V_ l D y C pc ls st σ := by
  intro hR p e R s m args below meth c cells slots Q hC B H locs lsA hP hS hl
  subst hv
  exact lv_ldc B.1 B.2.1 B.2.2.2.2.1 (B.2.2.2.2.2.1 _ hk) hd (h hR p e R s m args below meth c cells slots Q hC B H locs lsA hP hS hl)
theorem V_ldcw {i : Nat} {v : Int32} {z : Int} (hd : decode y.2.1 pc = .ok (.ldc_w i, 3)) (hk : Cond.constant y.1.cls i v ∈ gw_) (hv : v = Int32.ofInt z) (h : V_ l D y C (pc + 3) ls (vi_ z :: st) σ) : V_ l D y C pc ls st σ := by
  intro hR p e R s m args below meth c cells slots Q hC B H locs lsA hP hS hl
  subst hv
  exact lv_ldcw B.1 B.2.1 B.2.2.2.2.1 (B.2.2.2.2.2.1 _ hk) hd (h hR p e R s m args below meth c cells slots Q hC B H locs lsA hP hS hl)
theorem V_ldc2 {i : Nat} {v : Int64} {z : Int} (hd : decode y.2.1 pc = .ok (.ldc2_w i, 3)) (hk : Cond.constantLong y.1.cls i v ∈ gw_) (hv : v = Int64.ofInt z) (h : V_ l D y C (pc + 3) ls (vl_ z :: st) σ) : V_ l D y C pc ls st σ := by
  intro hR p e R s m args below meth c cells slots Q hC B H locs lsA hP hS hl
  subst hv
  exact lv_ldc2 B.1 B.2.1 B.2.2.2.2.1 (B.2.2.2.2.2.1 _ hk) hd (h hR p e R s m args below meth c cells slots Q hC B H locs lsA hP hS hl)
theorem V_null (hd : decode y.2.1 pc = .ok (.aconst_null, 1)) (h : V_ l D y C (pc + 1) ls (vn_ :: st) σ) : V_ l D y C pc ls st σ := by
  intro hR p e R s m args below meth c cells slots Q hC B H locs lsA hP hS hl
  exact lv_null B.1 B.2.1 hd (h hR p e R s m args below meth c cells slots Q hC B H locs lsA hP hS hl)
-- loads
theorem V_iload_n {k : Fin 4} {i : Nat} {z : Int} (hd : decode y.2.1 pc = .ok (.iload_n k, 1)) (hi : (k : Nat) = i) (hl0 : ls[i]? = some (some (vi_ z))) (h : V_ l D y C (pc + 1) ls (vi_ z :: st) σ) : V_ l D y C pc ls st σ := by
  intro hR p e R s m args below meth c cells slots Q hC B H locs lsA hP hS hl
  exact lv_iload_n B.1 B.2.1 hd hi (ll_at hl hl0) (h hR p e R s m args below meth c cells slots Q hC B H locs lsA hP hS hl)
theorem V_iload {i : Nat} {z : Int} (hd : decode y.2.1 pc = .ok (.iload i, 2)) (hl0 : ls[i]? = some (some (vi_ z))) (h : V_ l D y C (pc + 2) ls (vi_ z :: st) σ) : V_ l D y C pc ls st σ := by
  intro hR p e R s m args below meth c cells slots Q hC B H locs lsA hP hS hl
  exact lv_iload B.1 B.2.1 hd (ll_at hl hl0) (h hR p e R s m args below meth c cells slots Q hC B H locs lsA hP hS hl)
theorem V_lload_n {k : Fin 4} {i : Nat} {z : Int} (hd : decode y.2.1 pc = .ok (.lload_n k, 1)) (hi : (k : Nat) = i) (hl0 : ls[i]? = some (some (vl_ z))) (h : V_ l D y C (pc + 1) ls (vl_ z :: st) σ) : V_ l D y C pc ls st σ := by
  intro hR p e R s m args below meth c cells slots Q hC B H locs lsA hP hS hl
  exact lv_lload_n B.1 B.2.1 hd hi (ll_at hl hl0) (h hR p e R s m args below meth c cells slots Q hC B H locs lsA hP hS hl)
theorem V_lload {i : Nat} {z : Int} (hd : decode y.2.1 pc = .ok (.lload i, 2)) (hl0 : ls[i]? = some (some (vl_ z))) (h : V_ l D y C (pc + 2) ls (vl_ z :: st) σ) : V_ l D y C pc ls st σ := by
  intro hR p e R s m args below meth c cells slots Q hC B H locs lsA hP hS hl
  exact lv_lload B.1 B.2.1 hd (ll_at hl hl0) (h hR p e R s m args below meth c cells slots Q hC B H locs lsA hP hS hl)
theorem V_aload_n {k : Fin 4} {i : Nat} {v : Option Nat} (hd : decode y.2.1 pc = .ok (.aload_n k, 1)) (hi : (k : Nat) = i) (hl0 : ls[i]? = some (some (.inr (.inr v)))) (h : V_ l D y C (pc + 1) ls (.inr (.inr v) :: st) σ) : V_ l D y C pc ls st σ := by
  intro hR p e R s m args below meth c cells slots Q hC B H locs lsA hP hS hl
  cases v with
  | none => exact lv_aload_nN B.1 B.2.1 hd hi (ll_at hl hl0) (h hR p e R s m args below meth c cells slots Q hC B H locs lsA hP hS hl)
  | some a => exact lv_aload_n B.1 B.2.1 hd hi (ll_at hl hl0) (h hR p e R s m args below meth c cells slots Q hC B H locs lsA hP hS hl)
theorem V_aload {i : Nat} {v : Option Nat} (hd : decode y.2.1 pc = .ok (.aload i, 2)) (hl0 : ls[i]? = some (some (.inr (.inr v)))) (h : V_ l D y C (pc + 2) ls (.inr (.inr v) :: st) σ) : V_ l D y C pc ls st σ := by
  intro hR p e R s m args below meth c cells slots Q hC B H locs lsA hP hS hl
  cases v with
  | none => exact lv_aloadN B.1 B.2.1 hd (ll_at hl hl0) (h hR p e R s m args below meth c cells slots Q hC B H locs lsA hP hS hl)
  | some a => exact lv_aload B.1 B.2.1 hd (ll_at hl hl0) (h hR p e R s m args below meth c cells slots Q hC B H locs lsA hP hS hl)
-- stores
theorem V_istore_n {k : Fin 4} {i : Nat} {z : Int} (hd : decode y.2.1 pc = .ok (.istore_n k, 1)) (hi : (k : Nat) = i) (hn : i < y.2.2.1) (hL : nl_ ls i = true) (h : V_ l D y C (pc + 1) (ls.set i (some (vi_ z))) st σ) : V_ l D y C pc ls (vi_ z :: st) σ := by
  intro hR p e R s m args below meth c cells slots Q hC B H locs lsA hP hS hl
  exact lv_istore_n B.1 B.2.1 hd hi hl hn rfl (fun ls' hl' => h hR p e R s m args below meth c cells slots Q hC B H locs ls' hP hS (ll_set hL hl'))
theorem V_istore {i : Nat} {z : Int} (hd : decode y.2.1 pc = .ok (.istore i, 2)) (hn : i < y.2.2.1) (hL : nl_ ls i = true) (h : V_ l D y C (pc + 2) (ls.set i (some (vi_ z))) st σ) : V_ l D y C pc ls (vi_ z :: st) σ := by
  intro hR p e R s m args below meth c cells slots Q hC B H locs lsA hP hS hl
  exact lv_istore B.1 B.2.1 hd hl hn rfl (fun ls' hl' => h hR p e R s m args below meth c cells slots Q hC B H locs ls' hP hS (ll_set hL hl'))
theorem V_lstore_n {k : Fin 4} {i : Nat} {z : Int} (hd : decode y.2.1 pc = .ok (.lstore_n k, 1)) (hi : (k : Nat) = i) (hn : i + 1 < y.2.2.1) (hL : nl_ ls i = true) (h : V_ l D y C (pc + 1) ((ls.set i (some (vl_ z))).set (i + 1) none) st σ) : V_ l D y C pc ls (vl_ z :: st) σ := by
  intro hR p e R s m args below meth c cells slots Q hC B H locs lsA hP hS hl
  exact lv_lstore_n B.1 B.2.1 hd hi hl hn rfl (fun ls' hl' => h hR p e R s m args below meth c cells slots Q hC B H locs ls' hP hS (ll_setL hL hl'))
theorem V_lstore {i : Nat} {z : Int} (hd : decode y.2.1 pc = .ok (.lstore i, 2)) (hn : i + 1 < y.2.2.1) (hL : nl_ ls i = true) (h : V_ l D y C (pc + 2) ((ls.set i (some (vl_ z))).set (i + 1) none) st σ) : V_ l D y C pc ls (vl_ z :: st) σ := by
  intro hR p e R s m args below meth c cells slots Q hC B H locs lsA hP hS hl
  exact lv_lstore B.1 B.2.1 hd hl hn rfl (fun ls' hl' => h hR p e R s m args below meth c cells slots Q hC B H locs ls' hP hS (ll_setL hL hl'))
theorem V_astore_n {k : Fin 4} {i : Nat} {v : Option Nat} (hd : decode y.2.1 pc = .ok (.astore_n k, 1)) (hi : (k : Nat) = i) (hn : i < y.2.2.1) (hL : nl_ ls i = true) (h : V_ l D y C (pc + 1) (ls.set i (some (.inr (.inr v)))) st σ) : V_ l D y C pc ls (.inr (.inr v) :: st) σ := by
  intro hR p e R s m args below meth c cells slots Q hC B H locs lsA hP hS hl
  cases v with
  | none => exact lv_astore_nN B.1 B.2.1 hd hi hl hn rfl (fun ls' hl' => h hR p e R s m args below meth c cells slots Q hC B H locs ls' hP hS (ll_set hL hl'))
  | some a => exact lv_astore_n B.1 B.2.1 hd hi hl hn rfl (fun ls' hl' => h hR p e R s m args below meth c cells slots Q hC B H locs ls' hP hS (ll_set hL hl'))
theorem V_astore {i : Nat} {v : Option Nat} (hd : decode y.2.1 pc = .ok (.astore i, 2)) (hn : i < y.2.2.1) (hL : nl_ ls i = true) (h : V_ l D y C (pc + 2) (ls.set i (some (.inr (.inr v)))) st σ) : V_ l D y C pc ls (.inr (.inr v) :: st) σ := by
  intro hR p e R s m args below meth c cells slots Q hC B H locs lsA hP hS hl
  cases v with
  | none => exact lv_astoreN B.1 B.2.1 hd hl hn rfl (fun ls' hl' => h hR p e R s m args below meth c cells slots Q hC B H locs ls' hP hS (ll_set hL hl'))
  | some a => exact lv_astore B.1 B.2.1 hd hl hn rfl (fun ls' hl' => h hR p e R s m args below meth c cells slots Q hC B H locs ls' hP hS (ll_set hL hl'))
theorem ll_atI {ad : Nat → Nat} {ls : List (Option Av_)} {k : Nat} {v : Av_} (h : ls[k]? = some (some v)) : ∃ j : Nat, (ll_ ad 0 ls)[j]? = some (k, av_ ad v) := by
  have h1 : (k, av_ ad v) ∈ ll_ ad 0 ls := ll_mem.mpr ⟨k, v, h, by simp⟩
  exact List.getElem?_of_mem h1
theorem V_iinc {i : Nat} {n z : Int} (hd : decode y.2.1 pc = .ok (.iinc i n, 3)) (hl0 : ls[i]? = some (some (vi_ z))) (hn : i < y.2.2.1) (hL : nl_ ls i = true) (h : V_ l D y C (pc + 3) (ls.set i (some (vi_ (z + n)))) st σ) : V_ l D y C pc ls st σ := by
  intro hR p e R s m args below meth c cells slots Q hC B H locs lsA hP hS hl
  obtain ⟨j, hj⟩ := ll_atI (ad := D.2.2) hl0
  exact lv_iinc B.1 B.2.1 hd hl hj (v := Int32.ofInt (z + n)) (by rw [Int32.ofInt_add]) hn rfl (fun ls' hl' => h hR p e R s m args below meth c cells slots Q hC B H locs ls' hP hS (ll_set (v := vi_ (z + n)) hL hl'))
-- arithmetic
theorem V_iadd {a b : Int} (hd : decode y.2.1 pc = .ok (.iadd, 1)) (h : V_ l D y C (pc + 1) ls (vi_ (a + b) :: st) σ) : V_ l D y C pc ls (vi_ b :: vi_ a :: st) σ := by
  intro hR p e R s m args below meth c cells slots Q hC B H locs lsA hP hS hl
  have h := h hR p e R s m args below meth c cells slots Q hC B H locs lsA hP hS hl
  refine lv_iadd B.1 B.2.1 hd ?_
  rw [← Int32.ofInt_add]
  exact h
theorem V_isub {a b : Int} (hd : decode y.2.1 pc = .ok (.isub, 1)) (h : V_ l D y C (pc + 1) ls (vi_ (a - b) :: st) σ) : V_ l D y C pc ls (vi_ b :: vi_ a :: st) σ := by
  intro hR p e R s m args below meth c cells slots Q hC B H locs lsA hP hS hl
  have h := h hR p e R s m args below meth c cells slots Q hC B H locs lsA hP hS hl
  refine lv_isub B.1 B.2.1 hd ?_
  rw [← Int32.ofInt_sub]
  exact h
theorem V_imul {a b : Int} (hd : decode y.2.1 pc = .ok (.imul, 1)) (h : V_ l D y C (pc + 1) ls (vi_ (a * b) :: st) σ) : V_ l D y C pc ls (vi_ b :: vi_ a :: st) σ := by
  intro hR p e R s m args below meth c cells slots Q hC B H locs lsA hP hS hl
  have h := h hR p e R s m args below meth c cells slots Q hC B H locs lsA hP hS hl
  refine lv_imul B.1 B.2.1 hd ?_
  rw [← Int32.ofInt_mul]
  exact h
theorem V_ladd {a b : Int} (hd : decode y.2.1 pc = .ok (.ladd, 1)) (h : V_ l D y C (pc + 1) ls (vl_ (a + b) :: st) σ) : V_ l D y C pc ls (vl_ b :: vl_ a :: st) σ := by
  intro hR p e R s m args below meth c cells slots Q hC B H locs lsA hP hS hl
  have h := h hR p e R s m args below meth c cells slots Q hC B H locs lsA hP hS hl
  refine lv_ladd B.1 B.2.1 hd ?_
  rw [← Int64.ofInt_add]
  exact h
theorem V_lsub {a b : Int} (hd : decode y.2.1 pc = .ok (.lsub, 1)) (h : V_ l D y C (pc + 1) ls (vl_ (a - b) :: st) σ) : V_ l D y C pc ls (vl_ b :: vl_ a :: st) σ := by
  intro hR p e R s m args below meth c cells slots Q hC B H locs lsA hP hS hl
  have h := h hR p e R s m args below meth c cells slots Q hC B H locs lsA hP hS hl
  refine lv_lsub B.1 B.2.1 hd ?_
  rw [← Int64.ofInt_sub]
  exact h
theorem V_lmul {a b : Int} (hd : decode y.2.1 pc = .ok (.lmul, 1)) (h : V_ l D y C (pc + 1) ls (vl_ (a * b) :: st) σ) : V_ l D y C pc ls (vl_ b :: vl_ a :: st) σ := by
  intro hR p e R s m args below meth c cells slots Q hC B H locs lsA hP hS hl
  have h := h hR p e R s m args below meth c cells slots Q hC B H locs lsA hP hS hl
  refine lv_lmul B.1 B.2.1 hd ?_
  rw [← Int64.ofInt_mul]
  exact h
end VROWS
