/-! ## Abstract values, memory and world: all objects are fixed after the two constructors; refs are numbers of cells (0 ..) of gG_, or of outer things (100 on). -/
abbrev Av_ : Type := Int ⊕ (Int ⊕ Option Nat)
abbrev vi_ (z : Int) : Av_ := Sum.inl z
abbrev vl_ (z : Int) : Av_ := Sum.inr (Sum.inl z)
abbrev vr_ (k : Nat) : Av_ := Sum.inr (Sum.inr (some k))
abbrev vn_ : Av_ := Sum.inr (Sum.inr none)
def av_ (ad : Nat → Nat) (v : Av_) : Value := match v with
  | .inl z => .int (Int32.ofInt z)
  | .inr (.inl z) => .long (Int64.ofInt z)
  | .inr (.inr (some k)) => .ref (ad k)
  | .inr (.inr none) => .null
abbrev Mm_ : Type := Nat → Nat → Int
def ms_ (σ : Mm_) (k j : Nat) (v : Int) : Mm_ := fun a b => if a = k ∧ b = j then v else σ a b
/-- n items of row k0 from sp on come to row k1 from dp on -/
def mc_ (σ : Mm_) (k0 k1 sp dp n : Nat) : Mm_ := fun a b => if a = k1 ∧ dp ≤ b ∧ b < dp + n then σ k0 (sp + (b - dp)) else σ a b
abbrev Sh_ : Type := (Nat × List (Option Nat)) ⊕ ((Nat × Nat) ⊕ List Nat)
def ob_ (ci : Nat) (fs : List (Option Nat)) : Sh_ := Sum.inl (ci, fs)
def ia_ (n : Nat) : Sh_ := Sum.inr (Sum.inl (0, n))
def za_ (n : Nat) : Sh_ := Sum.inr (Sum.inl (1, n))
def ra_ (ids : List Nat) : Sh_ := Sum.inr (Sum.inr ids)
def gG_ : List Sh_ := [
  ob_ 6 [some 1, some 3, some 5, some 7, some 54, some 19, some 29, some 32, some 35, none, none],
  ob_ 5 [some 100, none, some 2, none], ia_ 23, ob_ 5 [some 101, none, some 4, none], ia_ 39, ob_ 5 [some 102, none, some 6, none], ia_ 59,
  ob_ 2 [some 8, some 9, none], ia_ 12, ia_ 12,
  ia_ 12, ob_ 4 [some 12, none, none, none], ia_ 60, ob_ 4 [some 14, none, none, none], ia_ 60, ob_ 4 [some 16, none, none, none], ia_ 60, ob_ 4 [some 18, none, none, none], ia_ 60,
  ob_ 1 [none, some 20, some 21, none, some 22, some 23, none, none, some 24, some 25, some 26, some 27, some 28, some 10], ia_ 6, ia_ 6, ia_ 8, ia_ 8, ia_ 12, ia_ 12, ia_ 12, ia_ 8, ia_ 12,
  ob_ 3 [some 19, some 30, some 31, none, none, none, none], ia_ 8, ia_ 6,
  ob_ 2 [some 33, some 34, none], ia_ 8, ia_ 8,
  ob_ 0 [some 19, some 29, some 32, some 36, some 37, none, none], za_ 256, ia_ 100,
  ob_ 7 [some 39, some 40, some 41, some 42, none, some 43, some 44, none, some 45, some 46, some 47, some 48, none, none, some 49, some 50, none, none, some 51, none, none, none, none, some 52, some 53, none],
  ia_ 4, ia_ 4, ia_ 240, ia_ 60, ia_ 180, ia_ 3, ia_ 3, ia_ 12, ia_ 24, ia_ 36, ia_ 24, ia_ 8, ia_ 6, ia_ 16, ia_ 256,
  ra_ [11, 13, 15, 17]]
/-- what is known of one launch: the classes, the classes of the int, boolean and Sheet arrays, where each cell lies -/
abbrev Dt_ : Type := va_G × ((ClassId × ClassId × ClassId) × (Nat → Nat))
def fd_ (D : Dt_) (f : Nat → Int) (j : Nat) (o : Option Nat) : Value := match o with
  | none => Value.int (Int32.ofInt (f j))
  | some k => Value.ref (D.2.2 k)
def cl_ (D : Dt_) (x : Sh_) (f : Nat → Int) : va_E := match x with
  | .inl (ci, fs) => .inr (ci, fs.mapIdx (fd_ D f))
  | .inr (.inl (t, n)) => .inl ((if t = 0 then D.2.1.1 else D.2.1.2.1), n, .inl (fun j => Int32.ofInt (f j)))
  | .inr (.inr ids) => .inl (D.2.1.2.2, ids.length, .inr (.inr (.inr (.inr (fun j => (ids[j]?).map D.2.2)))))
def wd_ (D : Dt_) (σ : Mm_) : va_W := gG_.mapIdx (fun k x => (D.2.2 k, cl_ D x (σ k)))
theorem wd_get {D : Dt_} {σ : Mm_} {k : Nat} {x : Sh_} (h : gG_[k]? = some x) : (wd_ D σ)[k]? = some (D.2.2 k, cl_ D x (σ k)) := by
  simp [wd_, h]
theorem wd_upd {D : Dt_} {σ : Mm_} {k : Nat} {x : Sh_} (h : gG_[k]? = some x) (f : Nat → Int) {e : va_E} (he : e = cl_ D x f) : (wd_ D σ).set k (D.2.2 k, e) = wd_ D (fun a => if a = k then f else σ a) := by
  subst he
  apply List.ext_getElem?
  intro i
  by_cases hi : k = i
  · subst hi
    have hk : k < gG_.length := (List.getElem?_eq_some_iff.mp h).1
    have h1 : k < (wd_ D σ).length := by simp [wd_, hk]
    rw [List.getElem?_set_self h1, wd_get h]
    simp
  · rw [List.getElem?_set_ne hi]
    simp only [wd_, List.getElem?_mapIdx]
    cases gG_[i]? with
    | none => rfl
    | some x => simp [Ne.symm hi]
theorem ms_row (σ : Mm_) (k j : Nat) (v : Int) : ms_ σ k j v = fun a => if a = k then (fun b => if b = j then v else σ k b) else σ a := by
  funext a b
  unfold ms_
  by_cases h1 : a = k
  · subst h1
    by_cases h2 : b = j <;> simp [h2]
  · simp [h1]
theorem mc_row (σ : Mm_) (k0 k1 sp dp n : Nat) : mc_ σ k0 k1 sp dp n = fun a => if a = k1 then (fun b => if dp ≤ b ∧ b < dp + n then σ k0 (sp + (b - dp)) else σ k1 b) else σ a := by
  funext a b
  unfold mc_
  by_cases h1 : a = k1
  · subst h1
    simp
  · simp [h1]
theorem ms_eq {σ : Mm_} {k j : Nat} {v : Int} : ms_ σ k j v k j = v := by simp [ms_]
theorem ms_ne {σ : Mm_} {k j a b : Nat} {v : Int} (h : ¬ (a = k ∧ b = j)) : ms_ σ k j v a b = σ a b := by simp [ms_, h]
theorem ms_nk {σ : Mm_} {k j a b : Nat} {v : Int} (h : a ≠ k) : ms_ σ k j v a b = σ a b := by simp [ms_, h]
abbrev Rg_ (z : Int) : Prop := -2147483648 ≤ z ∧ z ≤ 2147483647
abbrev Rl_ (z : Int) : Prop := -9223372036854775808 ≤ z ∧ z ≤ 9223372036854775807
def RM_ (σ : Mm_) : Prop := ∀ a b, Rg_ (σ a b)
theorem RM_.ms {σ : Mm_} {k j : Nat} {v : Int} (h : RM_ σ) (hv : Rg_ v) : RM_ (ms_ σ k j v) := by
  intro a b
  unfold ms_
  split
  · exact hv
  · exact h a b
theorem RM_.mc {σ : Mm_} {k0 k1 sp dp n : Nat} (h : RM_ σ) : RM_ (mc_ σ k0 k1 sp dp n) := by
  intro a b
  unfold mc_
  split
  · exact h _ _
  · exact h a b
/-! ints of 32 and 64 bits as integers -/
theorem i3_to {z : Int} (h : Rg_ z) : (Int32.ofInt z).toInt = z := Int32.toInt_ofInt_of_le (by have := h.1; simpa using this) (by have := h.2; omega)
theorem i3_of (x : Int32) : Int32.ofInt x.toInt = x := Int32.ofInt_toInt x
theorem i3_rg (x : Int32) : Rg_ x.toInt := ⟨by have := Int32.minValue_le_toInt x; simpa using this, by have := Int32.toInt_lt x; omega⟩
theorem i3_le {a b : Int} (ha : Rg_ a) (hb : Rg_ b) : Int32.ofInt a ≤ Int32.ofInt b ↔ a ≤ b := by rw [Int32.le_iff_toInt_le, i3_to ha, i3_to hb]
theorem i3_lt {a b : Int} (ha : Rg_ a) (hb : Rg_ b) : Int32.ofInt a < Int32.ofInt b ↔ a < b := by rw [Int32.lt_iff_toInt_lt, i3_to ha, i3_to hb]
theorem i3_eq {a b : Int} (ha : Rg_ a) (hb : Rg_ b) : Int32.ofInt a = Int32.ofInt b ↔ a = b := by rw [← Int32.toInt_inj, i3_to ha, i3_to hb]
theorem i3_0 : (0 : Int32) = Int32.ofInt 0 := rfl
theorem i6_to {z : Int} (h : Rl_ z) : (Int64.ofInt z).toInt = z := Int64.toInt_ofInt_of_le (by have := h.1; simpa using this) (by have := h.2; omega)
theorem i6_lt {a b : Int} (ha : Rl_ a) (hb : Rl_ b) : Int64.ofInt a < Int64.ofInt b ↔ a < b := by rw [Int64.lt_iff_toInt_lt, i6_to ha, i6_to hb]
theorem i6_eq {a b : Int} (ha : Rl_ a) (hb : Rl_ b) : Int64.ofInt a = Int64.ofInt b ↔ a = b := by rw [← Int64.toInt_inj, i6_to ha, i6_to hb]
theorem i3_nn {i : Int} (h : 0 ≤ i) (h2 : i < 2147483648) : (Int32.ofInt i).toNatClampNeg = i.toNat := by
  have h1 := i3_to (z := i) ⟨by omega, by omega⟩
  unfold Int32.toNatClampNeg
  rw [h1]
theorem i3_in {i : Int} {n : Nat} (h : 0 ≤ i) (h2 : i < n) (hn : n < 2147483648) : vp_in (Int32.ofInt i) n := by
  have h1 := i3_to (z := i) ⟨by omega, by omega⟩
  rw [vp_in_iff, h1]
  exact ⟨h, h2⟩
/-! the locals -/
def ll_ (ad : Nat → Nat) : Nat → List (Option Av_) → List (Nat × Value)
  | _, [] => []
  | i, none :: t => ll_ ad (i + 1) t
  | i, some v :: t => (i, av_ ad v) :: ll_ ad (i + 1) t
theorem ll_mem {ad : Nat → Nat} {ls : List (Option Av_)} : ∀ {i : Nat} {q : Nat × Value}, q ∈ ll_ ad i ls ↔ ∃ j v, ls[j]? = some (some v) ∧ q = (i + j, av_ ad v) := by
  induction ls with
  | nil => intro i q; simp [ll_]
  | cons a t ih =>
    intro i q
    have hcase : (∃ j v, (a :: t)[j]? = some (some v) ∧ q = (i + j, av_ ad v)) ↔ ((∃ v, a = some v ∧ q = (i, av_ ad v)) ∨ ∃ j v, t[j]? = some (some v) ∧ q = (i + 1 + j, av_ ad v)) := by
      constructor
      · rintro ⟨j, v, h1, h2⟩
        cases j with
        | zero => exact Or.inl ⟨v, by simpa using h1, by simpa using h2⟩
        | succ j => exact Or.inr ⟨j, v, by simpa using h1, by rw [h2]; simp; omega⟩
      · rintro (⟨v, h1, h2⟩ | ⟨j, v, h1, h2⟩)
        · exact ⟨0, v, by simp [h1], by simpa using h2⟩
        · exact ⟨j + 1, v, by simpa using h1, by rw [h2]; simp; omega⟩
    rw [hcase]
    cases a with
    | none => simp [ll_, ih]
    | some w => simp [ll_, ih]
theorem ll_at {ad : Nat → Nat} {ls : List (Option Av_)} {lsA : Array Slot} {n k : Nat} {v : Av_} (hl : lv_has lsA n (ll_ ad 0 ls)) (h : ls[k]? = some (some v)) : lsA[k]? = some (.val (av_ ad v)) :=
  hl.2.2 (k, av_ ad v) (ll_mem.mpr ⟨k, v, h, by simp⟩)
/-- no long begins just ahead of local k -/
def nl_ (ls : List (Option Av_)) (k : Nat) : Bool := match k with
  | 0 => true
  | k + 1 => match ls[k]? with
    | some (some (.inr (.inl _))) => false
    | _ => true
theorem nl_cat {ad : Nat → Nat} {ls : List (Option Av_)} {j : Nat} {v : Av_} (h : nl_ ls (j + 1) = true) (hj : ls[j]? = some (some v)) : (av_ ad v).category ≠ 2 := by
  simp only [nl_, hj] at h
  match v, h with
  | .inl z, _ => simp [av_, Value.category]
  | .inr (.inr (some k)), _ => simp [av_, Value.category]
  | .inr (.inr none), _ => simp [av_, Value.category]
theorem ll_set {ad : Nat → Nat} {ls : List (Option Av_)} {lsA : Array Slot} {n k : Nat} {v : Av_} (hn : nl_ ls k = true) (h : lv_has lsA n ((k, av_ ad v) :: (ll_ ad 0 ls).filter (fun q => !(q.1 == k) && !(q.1 + 1 == k && q.2.category == 2)))) : lv_has lsA n (ll_ ad 0 (ls.set k (some v))) := by
  refine ⟨h.1, h.2.1, fun q hq => h.2.2 q ?_⟩
  obtain ⟨j, w, h1, rfl⟩ := ll_mem.mp hq
  rw [List.getElem?_set] at h1
  by_cases hk : k = j
  · subst hk
    simp only [if_pos] at h1
    split at h1
    · cases h1; simp
    · cases h1
  · rw [if_neg hk] at h1
    refine List.mem_cons_of_mem _ (List.mem_filter.mpr ⟨ll_mem.mpr ⟨j, w, h1, rfl⟩, ?_⟩)
    have h3 : ¬ (0 + j = k) := by omega
    by_cases h4 : j + 1 = k
    · subst h4
      have := nl_cat (ad := ad) hn h1
      simp [this]
    · have h5 : ¬ (0 + j + 1 = k) := by omega
      simp [h3, h5] <;> omega
theorem ll_setL {ad : Nat → Nat} {ls : List (Option Av_)} {lsA : Array Slot} {n k : Nat} {v : Av_} (hn : nl_ ls k = true) (h : lv_has lsA n ((k, av_ ad v) :: (ll_ ad 0 ls).filter (fun q => !(q.1 == k) && (!(q.1 == k + 1) && !(q.1 + 1 == k && q.2.category == 2))))) : lv_has lsA n (ll_ ad 0 ((ls.set k (some v)).set (k + 1) none)) := by
  refine ⟨h.1, h.2.1, fun q hq => h.2.2 q ?_⟩
  obtain ⟨j, w, h1, rfl⟩ := ll_mem.mp hq
  rw [List.getElem?_set] at h1
  by_cases hk1 : k + 1 = j
  · subst hk1
    simp only [if_pos] at h1
    split at h1 <;> cases h1
  rw [if_neg hk1, List.getElem?_set] at h1
  by_cases hk : k = j
  · subst hk
    simp only [if_pos] at h1
    split at h1
    · cases h1; simp
    · cases h1
  · rw [if_neg hk] at h1
    refine List.mem_cons_of_mem _ (List.mem_filter.mpr ⟨ll_mem.mpr ⟨j, w, h1, rfl⟩, ?_⟩)
    have h3 : ¬ (0 + j = k) := by omega
    have h6 : ¬ (0 + j = k + 1) := by omega
    by_cases h4 : j + 1 = k
    · subst h4
      have := nl_cat (ad := ad) hn h1
      simp [this]
      omega
    · have h5 : ¬ (0 + j + 1 = k) := by omega
      simp [h3, h5, h6] <;> omega
