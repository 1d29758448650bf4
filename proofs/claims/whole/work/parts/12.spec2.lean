/-! ## the harbour, as mathematics -/
section
variable {l : Launch} {D : Dt_} {y : Mt_} {C : Cp_} {pc : Nat} {ls : List (Option Av_)} {st : List Av_} {σ : Mm_}
theorem V_none {k : Nat} (h : V_ l D y C pc (ls.set k none) st σ) : V_ l D y C pc ls st σ := by
  intro hR p e R s m args below meth c cells slots Q hC B H locs lsA hP hS hl
  refine h hR p e R s m args below meth c cells slots Q hC B H locs lsA hP hS ⟨hl.1, hl.2.1, fun q hq => hl.2.2 q ?_⟩
  obtain ⟨j, w, h1, rfl⟩ := ll_mem.mp hq
  rw [List.getElem?_set] at h1
  split at h1
  · split at h1 <;> cases h1
  · exact ll_mem.mpr ⟨j, w, h1, rfl⟩
theorem V_ialdN {k n i : Nat} (hd : decode y.2.1 pc = .ok (.iaload, 1)) (hk : gG_[k]? = some (ia_ n)) (hi : i < n) (hn : n < 2147483648) (h : Rg_ (σ k i) → V_ l D y C (pc + 1) ls (vi_ (σ k i) :: st) σ) : V_ l D y C pc ls (vi_ (i : Int) :: vr_ k :: st) σ :=
  V_iald hd hk ⟨by omega, by omega⟩ hn h
theorem V_zaldN {k n i : Nat} (hd : decode y.2.1 pc = .ok (.baload, 1)) (hk : gG_[k]? = some (za_ n)) (hi : i < n) (hn : n < 2147483648) (h : Rg_ (σ k i) → V_ l D y C (pc + 1) ls (vi_ (σ k i) :: st) σ) : V_ l D y C pc ls (vi_ (i : Int) :: vr_ k :: st) σ :=
  V_zald hd hk ⟨by omega, by omega⟩ hn h
theorem V_iastN {k n i : Nat} {v : Int} (hd : decode y.2.1 pc = .ok (.iastore, 1)) (hk : gG_[k]? = some (ia_ n)) (hi : i < n) (hn : n < 2147483648) (hv : Rg_ v) (h : V_ l D y C (pc + 1) ls st (ms_ σ k i v)) : V_ l D y C pc ls (vi_ v :: vi_ (i : Int) :: vr_ k :: st) σ :=
  V_iast hd hk ⟨by omega, by omega⟩ hn hv h
theorem V_zastN {k n i : Nat} {v : Int} (hd : decode y.2.1 pc = .ok (.bastore, 1)) (hk : gG_[k]? = some (za_ n)) (hi : i < n) (hn : n < 2147483648) (hv : v = 0 ∨ v = 1) (h : V_ l D y C (pc + 1) ls st (ms_ σ k i v)) : V_ l D y C pc ls (vi_ v :: vi_ (i : Int) :: vr_ k :: st) σ :=
  V_zast hd hk ⟨by omega, by omega⟩ hn hv h
end
theorem b2_n1 {p : Prop} : b2_ p ≠ 1 ↔ ¬ p := by
  by_cases h : p
  · rw [b2_t h]; simp [h]
  · rw [b2_f h]; simp [h]
theorem bit_b2 {s k : Int} (hs : 0 ≤ s ∧ s < 2147483648) (hk : 0 ≤ k ∧ k < 32) : iand_ (ishr_ s k) 1 = b2_ (bt_ s k = true) := by
  rw [bit_and hs hk]
  by_cases c : bt_ s k = true
  · rw [if_pos c, b2_t c]
  · rw [if_neg c, b2_f c]
/-- row c is written from 0 on, n items -/
def wr_ (σ : Mm_) (c : Nat) (f : Nat → Int) (n : Nat) : Mm_ := fun a b => if a = c ∧ b < n then f b else σ a b
theorem wr_0 {σ : Mm_} {c : Nat} {f : Nat → Int} : wr_ σ c f 0 = σ := by funext a b; simp [wr_]
theorem wr_s {σ : Mm_} {c i : Nat} {f : Nat → Int} {x : Int} (hx : x = f i) : ms_ (wr_ σ c f i) c i x = wr_ σ c f (i + 1) := by
  subst hx
  funext a b
  unfold ms_ wr_
  by_cases h1 : a = c
  · by_cases h2 : b = i
    · subst h2; simp [h1]
    · by_cases h3 : b < i
      · simp [h1, h2, h3, Nat.lt_succ_of_lt h3]
      · have : ¬ b < i + 1 := by omega
        simp [h1, h2, h3, this]
  · simp [h1]
theorem wr_ms {σ : Mm_} {c c' i j : Nat} {f : Nat → Int} {x : Int} (h : c ≠ c') : ms_ (wr_ σ c' f i) c j x = wr_ (ms_ σ c j x) c' f i := by
  funext a b
  unfold ms_ wr_
  by_cases h1 : a = c
  · subst h1; simp [h]
  · simp [h1]
theorem ms_ms {σ : Mm_} {c j : Nat} {x z : Int} : ms_ (ms_ σ c j x) c j z = ms_ σ c j z := by
  funext a b
  unfold ms_
  by_cases h : a = c ∧ b = j <;> simp [h]
theorem ms_sw {σ : Mm_} {c j c' j' : Nat} {x z : Int} (h : ¬ (c = c' ∧ j = j')) : ms_ (ms_ σ c j x) c' j' z = ms_ (ms_ σ c' j' z) c j x := by
  funext a b
  unfold ms_
  by_cases h1 : a = c ∧ b = j
  · by_cases h2 : a = c' ∧ b = j'
    · exact absurd ⟨h1.1.symm.trans h2.1, h1.2.symm.trans h2.2⟩ h
    · simp [h1, h2, h]
  · simp [h1]
theorem wr_nk {σ : Mm_} {c a b n : Nat} {f : Nat → Int} (h : a ≠ c) : wr_ σ c f n a b = σ a b := by simp [wr_, h]
theorem wr_in {σ : Mm_} {c b n : Nat} {f : Nat → Int} (h : b < n) : wr_ σ c f n c b = f b := by simp [wr_, h]
theorem sm_cg {f g : Nat → Int} : ∀ {n : Nat}, (∀ i, i < n → f i = g i) → sm_ f n = sm_ g n := by
  intro n
  induction n with
  | zero => intro _; rfl
  | succ n ih => intro h; unfold sm_; rw [ih (fun i hi => h i (by omega)), h n (by omega)]
theorem sm_rg {f : Nat → Int} {a : Int} : ∀ {n : Nat}, (∀ i, i < n → 0 ≤ f i ∧ f i ≤ a) → 0 ≤ sm_ f n ∧ sm_ f n ≤ a * n := by
  intro n
  induction n with
  | zero => intro _; simp [sm_]
  | succ n ih =>
    intro h
    have h1 := ih (fun i hi => h i (by omega))
    have h2 := h n (by omega)
    unfold sm_
    have e : a * ((n + 1 : Nat) : Int) = a * n + a := by rw [Int.natCast_add, Int.mul_add]; simp
    rw [e]
    omega
/-- the bits of 0 .. n - 1 for which p holds -/
def bs_ (p : Nat → Bool) : Nat → Int
  | 0 => 0
  | n + 1 => if p n = true then so_ (bs_ p n) n else bs_ p n
theorem bs_rg (p : Nat → Bool) : ∀ n, 0 ≤ bs_ p n ∧ bs_ p n < ((2 ^ n : Nat) : Int) := by
  intro n
  induction n with
  | zero => simp [bs_]
  | succ n ih =>
    have h2 : ((2 ^ n : Nat) : Int) < ((2 ^ (n + 1) : Nat) : Int) := by
      have : 2 ^ n < 2 ^ (n + 1) := Nat.pow_lt_pow_of_lt (by decide) (by omega)
      omega
    unfold bs_
    split
    · exact so_rg (m := n + 1) ⟨ih.1, by omega⟩ ⟨by omega, by omega⟩
    · omega
/-- a view v of ships, names, lines: 0 how many ships, 1 worth, 2 risk, 3 how many names, 4 has, 5 behind whom, 6 drowned, 7 how many lines, 8 ship, 9 name, 10 how much, 11 struck -/
abbrev wS_ (v : Mm_) (x : Int) : Prop := 0 ≤ x ∧ x < v 0 0
abbrev wN_ (v : Mm_) (x : Int) : Prop := 0 ≤ x ∧ x < v 3 0
abbrev sd_ (v : Mm_) (i : Nat) : Prop := wS_ v (v 8 i) ∧ wN_ v (v 9 i) ∧ bt_ (v 11 0) (v 9 i) = false
def al_ (v : Mm_) (s : Int) (n : Nat) : Int := sm_ (fun i => if v 8 i = s ∧ sd_ v i then v 10 i else 0) n
def da_ (v : Mm_) (i : Nat) : Int := if v 1 (v 8 i).toNat < al_ v (v 8 i) (v 7 0).toNat then v 10 i * v 1 (v 8 i).toNat / al_ v (v 8 i) (v 7 0).toNat else v 10 i
def du_ (v : Mm_) (i : Nat) : Int := if sd_ v i then da_ v i else 0
abbrev eb_ (v : Mm_) (k : Int) : Prop := v 5 k.toNat = k ∨ ¬ wN_ v (v 5 k.toNat) ∨ bt_ (v 11 0) (v 5 k.toNat) = true
def be_ (v : Mm_) : Nat → Int → Int
  | 0, _ => -1
  | n + 1, k => if eb_ v k then k else be_ v n (v 5 k.toNat)
def WF_ (v : Mm_) : Prop := (0 ≤ v 0 0 ∧ v 0 0 ≤ 6) ∧ (0 ≤ v 3 0 ∧ v 3 0 ≤ 8) ∧ (0 ≤ v 7 0 ∧ v 7 0 ≤ 12) ∧ (0 ≤ v 11 0 ∧ v 11 0 ≤ 255) ∧
  (∀ k : Nat, (k : Int) < v 0 0 → (1 ≤ v 1 k ∧ v 1 k ≤ 99) ∧ (0 ≤ v 2 k ∧ v 2 k ≤ 9)) ∧
  (∀ k : Nat, (k : Int) < v 3 0 → (0 ≤ v 4 k ∧ v 4 k ≤ 99) ∧ (-1 ≤ v 5 k ∧ v 5 k ≤ 7) ∧ (v 6 k = 0 ∨ v 6 k = 1)) ∧
  (∀ k : Nat, (k : Int) < v 7 0 → (0 ≤ v 8 k ∧ v 8 k ≤ 5) ∧ (0 ≤ v 9 k ∧ v 9 k ≤ 7) ∧ (1 ≤ v 10 k ∧ v 10 k ≤ 99))
theorem WF_.s {v : Mm_} (h : WF_ v) : 0 ≤ v 0 0 ∧ v 0 0 ≤ 6 := h.1
theorem WF_.n {v : Mm_} (h : WF_ v) : 0 ≤ v 3 0 ∧ v 3 0 ≤ 8 := h.2.1
theorem WF_.l {v : Mm_} (h : WF_ v) : 0 ≤ v 7 0 ∧ v 7 0 ≤ 12 := h.2.2.1
theorem WF_.k {v : Mm_} (h : WF_ v) : 0 ≤ v 11 0 ∧ v 11 0 ≤ 255 := h.2.2.2.1
theorem WF_.si {v : Mm_} (h : WF_ v) {k : Nat} (hk : (k : Int) < v 0 0) : (1 ≤ v 1 k ∧ v 1 k ≤ 99) ∧ (0 ≤ v 2 k ∧ v 2 k ≤ 9) := h.2.2.2.2.1 k hk
theorem WF_.ni {v : Mm_} (h : WF_ v) {k : Nat} (hk : (k : Int) < v 3 0) : (0 ≤ v 4 k ∧ v 4 k ≤ 99) ∧ (-1 ≤ v 5 k ∧ v 5 k ≤ 7) ∧ (v 6 k = 0 ∨ v 6 k = 1) := h.2.2.2.2.2.1 k hk
theorem WF_.li {v : Mm_} (h : WF_ v) {k : Nat} (hk : (k : Int) < v 7 0) : (0 ≤ v 8 k ∧ v 8 k ≤ 5) ∧ (0 ≤ v 9 k ∧ v 9 k ≤ 7) ∧ (1 ≤ v 10 k ∧ v 10 k ≤ 99) := h.2.2.2.2.2.2 k hk
theorem al_rg {v : Mm_} (h : WF_ v) {s : Int} {n : Nat} (hn : (n : Int) ≤ v 7 0) : 0 ≤ al_ v s n ∧ al_ v s n ≤ 99 * n := by
  refine sm_rg (fun i hi => ?_)
  have := h.li (k := i) (by omega)
  split <;> omega
theorem da_rg {v : Mm_} (h : WF_ v) {i : Nat} (hi : (i : Int) < v 7 0) (hs : wS_ v (v 8 i)) : 0 ≤ da_ v i ∧ da_ v i ≤ v 10 i := by
  have h1 := h.li hi
  have h2 := h.si (k := (v 8 i).toNat) (by omega)
  unfold da_
  split
  · rename_i c
    have h3 : 0 < al_ v (v 8 i) (v 7 0).toNat := by omega
    refine ⟨Int.ediv_nonneg (Int.mul_nonneg (by omega) (by omega)) (by omega), ?_⟩
    refine Int.ediv_le_of_le_mul h3 ?_
    exact Int.mul_le_mul_of_nonneg_left (by omega) (by omega)
  · omega
theorem du_rg {v : Mm_} (h : WF_ v) {i : Nat} (hi : (i : Int) < v 7 0) : 0 ≤ du_ v i ∧ du_ v i ≤ 99 := by
  have h1 := h.li hi
  unfold du_
  split
  · rename_i c
    have := da_rg h hi c.1
    omega
  · omega
theorem be_rg {v : Mm_} : ∀ {n : Nat} {k : Int}, wN_ v k → -1 ≤ be_ v n k ∧ be_ v n k < v 3 0 := by
  intro n
  induction n with
  | zero => intro k hk; unfold be_; omega
  | succ n ih =>
    intro k hk
    unfold be_
    split
    · omega
    · rename_i c
      refine ih ?_
      exact Decidable.byContradiction (fun z => c (Or.inr (Or.inl z)))
