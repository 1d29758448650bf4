/-! ## plain mathematics: loops, sums, bits -/
theorem up_ {P : Nat → Prop} (n : Nat) (hs : ∀ i, i ≤ n → (i + 1 ≤ n → P (i + 1)) → P i) : ∀ i, i ≤ n → P i := by
  intro i hi
  obtain ⟨k, hk⟩ : ∃ k, n - i = k := ⟨_, rfl⟩
  induction k generalizing i with
  | zero => exact hs i hi (fun h => absurd h (by omega))
  | succ k ih => exact hs i hi (fun h => ih (i + 1) h (by omega))
theorem V_cg {l : Launch} {D : Dt_} {y : Mt_} {C : Cp_} {pc : Nat} {ls ls' : List (Option Av_)} {st st' : List Av_} {σ σ' : Mm_} (h : V_ l D y C pc ls st σ) (e1 : ls' = ls) (e2 : st' = st) (e3 : σ' = σ) : V_ l D y C pc ls' st' σ' := by
  subst e1; subst e2; subst e3; exact h
noncomputable def b2_ (p : Prop) : Int := @ite Int p (Classical.propDecidable p) 1 0
theorem b2_t {p : Prop} (h : p) : b2_ p = 1 := by unfold b2_; exact if_pos h
theorem b2_f {p : Prop} (h : ¬ p) : b2_ p = 0 := by unfold b2_; exact if_neg h
theorem b2_rg {p : Prop} : Rg_ (b2_ p) := by
  by_cases h : p
  · rw [b2_t h]; decide
  · rw [b2_f h]; decide
theorem b2_0 {p : Prop} : b2_ p = 0 ↔ ¬ p := by
  by_cases h : p
  · rw [b2_t h]; simp [h]
  · rw [b2_f h]; simp [h]
theorem b2_1 {p : Prop} : b2_ p = 1 ↔ p := by
  by_cases h : p
  · rw [b2_t h]; simp [h]
  · rw [b2_f h]; simp [h]
theorem b2_nar {p : Prop} : narrow .boolean (.int (Int32.ofInt (b2_ p))) = .int (Int32.ofInt (b2_ p)) := by
  by_cases h : p
  · rw [b2_t h]; rfl
  · rw [b2_f h]; rfl
/-- f 0 + .. + f (n - 1) -/
def sm_ (f : Nat → Int) : Nat → Int
  | 0 => 0
  | n + 1 => sm_ f n + f n
/-- f (n - 1) behind .. behind f 0 -/
def fo_ {α : Type} (f : Nat → α → α) : Nat → α → α
  | 0, r => r
  | n + 1, r => f n (fo_ f n r)
/-- how many from 0 on are well, of n -/
def wl_ (ok : Nat → Bool) : Nat → Nat
  | 0 => 0
  | n + 1 => if wl_ ok n = n ∧ ok n = true then n + 1 else wl_ ok n
theorem wl_le (ok : Nat → Bool) : ∀ n, wl_ ok n ≤ n := by
  intro n
  induction n with
  | zero => exact Nat.le_refl _
  | succ n ih => unfold wl_; split <;> omega
theorem wl_ok {ok : Nat → Bool} : ∀ {n i : Nat}, i < wl_ ok n → ok i = true := by
  intro n
  induction n with
  | zero => intro i h; simp [wl_] at h
  | succ n ih =>
    intro i h
    unfold wl_ at h
    split at h
    · rename_i c
      by_cases hi : i = n
      · rw [hi]; exact c.2
      · exact ih (by omega)
    · exact ih h
theorem wl_no {ok : Nat → Bool} : ∀ {n : Nat}, wl_ ok n < n → ok (wl_ ok n) = false := by
  intro n
  induction n with
  | zero => intro h; simp at h
  | succ n ih =>
    intro h
    have hle := wl_le ok n
    by_cases c : wl_ ok n = n ∧ ok n = true
    · have e : wl_ ok (n + 1) = n + 1 := by unfold wl_; exact if_pos c
      omega
    · have e : wl_ ok (n + 1) = wl_ ok n := by rw [wl_]; exact if_neg c
      rw [e]
      by_cases hn : wl_ ok n = n
      · rw [hn]
        cases ho : ok n with
        | true => exact absurd ⟨hn, ho⟩ c
        | false => rfl
      · exact ih (by omega)
theorem wl_at {ok : Nat → Bool} {n i : Nat} (hi : i ≤ n) (h1 : ∀ j, j < i → ok j = true) (h2 : i < n → ok i = false) : wl_ ok n = i := by
  rcases Nat.lt_trichotomy (wl_ ok n) i with h | h | h
  · have := wl_no (ok := ok) (n := n) (by omega)
    rw [h1 _ h] at this; cases this
  · exact h
  · have := wl_ok h
    have hle := wl_le ok n
    rw [h2 (by omega)] at this; cases this
/-! bits -/
def bt_ (s k : Int) : Bool := s.toNat.testBit k.toNat
def so_ (s k : Int) : Int := ((s.toNat ||| 2 ^ k.toNat : Nat) : Int)
theorem i3_n (n : Nat) : Int32.ofInt (n : Int) = nI n := rfl
theorem nI_to {n : Nat} (h : n < 2147483648) : (nI n).toInt = (n : Int) := nI_toInt h
theorem nI_k31 : ∀ k, k < 32 → nI k &&& 31 = nI k := by decide +kernel
theorem nI_smod : ∀ k, k < 32 → ((nI k).toBitVec.smod 32).toNat = k := by decide +kernel
theorem nI_and (a b : Nat) : nI a &&& nI b = nI (a &&& b) := by
  apply Int32.toBitVec_inj.mp
  show BitVec.ofNat 32 a &&& BitVec.ofNat 32 b = BitVec.ofNat 32 (a &&& b)
  rw [BitVec.ofNat_and]
theorem nI_or (a b : Nat) : nI a ||| nI b = nI (a ||| b) := by
  apply Int32.toBitVec_inj.mp
  show BitVec.ofNat 32 a ||| BitVec.ofNat 32 b = BitVec.ofNat 32 (a ||| b)
  rw [BitVec.ofNat_or]
theorem ishr_n {n k : Nat} (hn : n < 2147483648) (hk : k < 32) : ishr_ (n : Int) (k : Int) = ((n / 2 ^ k : Nat) : Int) := by
  unfold ishr_
  rw [i3_n, i3_n, nI_k31 k hk, pk_shrN hn _ k (nI_smod k hk)]
  exact nI_to (Nat.lt_of_le_of_lt (Nat.div_le_self _ _) hn)
theorem iand_n {a b : Nat} (ha : a < 2147483648) : iand_ (a : Int) (b : Int) = ((a &&& b : Nat) : Int) := by
  unfold iand_
  rw [i3_n, i3_n, nI_and]
  exact nI_to (Nat.lt_of_le_of_lt Nat.and_le_left ha)
theorem ior_n {a b : Nat} (ha : a < 2147483648) (hb : b < 2147483648) : ior_ (a : Int) (b : Int) = ((a ||| b : Nat) : Int) := by
  unfold ior_
  rw [i3_n, i3_n, nI_or]
  exact nI_to (Nat.or_lt_two_pow (n := 31) ha hb)
theorem ishl_1 {k : Nat} (hk : k < 31) : ishl_ 1 (k : Int) = ((2 ^ k : Nat) : Int) := by
  unfold ishl_
  have h2 : 2 ^ k < 2147483648 := Nat.pow_lt_pow_of_lt (a := 2) (n := k) (m := 31) (by decide) hk
  rw [show (1 : Int) = ((1 : Nat) : Int) from rfl, i3_n, i3_n, nI_k31 k (by omega), pk_shlN _ k (nI_smod k (by omega)) (by omega), Nat.one_mul]
  exact nI_to h2
theorem i_nat {a : Int} (h : 0 ≤ a) : ∃ n : Nat, a = (n : Int) := Int.eq_ofNat_of_zero_le h
theorem bit_and {s k : Int} (hs : 0 ≤ s ∧ s < 2147483648) (hk : 0 ≤ k ∧ k < 32) : iand_ (ishr_ s k) 1 = if bt_ s k = true then 1 else 0 := by
  obtain ⟨n, rfl⟩ := i_nat hs.1
  obtain ⟨j, rfl⟩ := i_nat hk.1
  rw [ishr_n (by omega) (by omega), show (1 : Int) = ((1 : Nat) : Int) from rfl, iand_n (Nat.lt_of_le_of_lt (Nat.div_le_self _ _) (by omega))]
  have hb : bt_ (n : Int) (j : Int) = decide (n / 2 ^ j % 2 = 1) := by
    unfold bt_
    simp only [Int.toNat_natCast, Nat.testBit_eq_decide_div_mod_eq]
  rw [Nat.and_one_is_mod]
  simp only [hb]
  have h2 : n / 2 ^ j % 2 < 2 := Nat.mod_lt _ (by decide)
  by_cases c : n / 2 ^ j % 2 = 1
  · simp [c]
  · have : n / 2 ^ j % 2 = 0 := by omega
    simp [this]
theorem bit_or {s k : Int} (hs : 0 ≤ s ∧ s < 1073741824) (hk : 0 ≤ k ∧ k < 30) : ior_ s (ishl_ 1 k) = so_ s k := by
  obtain ⟨n, rfl⟩ := i_nat hs.1
  obtain ⟨j, rfl⟩ := i_nat hk.1
  have h2 : 2 ^ j < 1073741824 := Nat.pow_lt_pow_of_lt (a := 2) (n := j) (m := 30) (by decide) (by omega)
  rw [ishl_1 (by omega), ior_n (by omega) (by omega)]
  rfl
theorem or_0 {s : Int} (hs : 0 ≤ s ∧ s < 2147483648) : ior_ s 0 = s := by
  obtain ⟨n, rfl⟩ := i_nat hs.1
  rw [show (0 : Int) = ((0 : Nat) : Int) from rfl, ior_n (by omega) (by decide)]
  simp
theorem so_rg {s k : Int} {m : Nat} (hs : 0 ≤ s ∧ s < ((2 ^ m : Nat) : Int)) (hk : 0 ≤ k ∧ k < m) : 0 ≤ so_ s k ∧ so_ s k < ((2 ^ m : Nat) : Int) := by
  obtain ⟨n, rfl⟩ := i_nat hs.1
  obtain ⟨j, rfl⟩ := i_nat hk.1
  have h1 : n < 2 ^ m := by have := hs.2; omega
  have h2 : 2 ^ j < 2 ^ m := Nat.pow_lt_pow_of_lt (by decide) (by omega)
  unfold so_
  simp only [Int.toNat_natCast]
  have := Nat.or_lt_two_pow h1 h2
  omega
theorem so_bt {s k j : Int} (hj : 0 ≤ j) (hk : 0 ≤ k) : bt_ (so_ s k) j = (bt_ s j || decide (j = k)) := by
  obtain ⟨n, rfl⟩ := i_nat hj
  obtain ⟨m, rfl⟩ := i_nat hk
  unfold bt_ so_
  simp only [Int.toNat_natCast, Nat.testBit_or, Nat.testBit_two_pow]
  congr 1
  by_cases c : n = m
  · simp [c]
  · have h1 : ¬ (m = n) := fun z => c z.symm
    have h2 : ¬ ((n : Int) = (m : Int)) := by omega
    simp [h1, h2]
/-! division -/
theorem idiv_p {a b : Int} (ha : 0 ≤ a ∧ a ≤ 2147483647) (hb : 0 < b ∧ b ≤ 2147483647) : idiv_ a b = a / b := by
  obtain ⟨n, rfl⟩ := i_nat ha.1
  obtain ⟨m, rfl⟩ := i_nat (Int.le_of_lt hb.1)
  unfold idiv_
  rw [i3_n, i3_n, pk_div (by omega) (by omega) (by omega)]
  exact nI_to (Nat.lt_of_le_of_lt (Nat.div_le_self _ _) (by omega))
theorem irem_p {a b : Int} (ha : 0 ≤ a ∧ a ≤ 2147483647) (hb : 0 < b ∧ b ≤ 2147483647) : irem_ a b = a % b := by
  obtain ⟨n, rfl⟩ := i_nat ha.1
  obtain ⟨m, rfl⟩ := i_nat (Int.le_of_lt hb.1)
  unfold irem_
  rw [i3_n, i3_n, pk_rem (by omega) (by omega) (by omega)]
  exact nI_to (Nat.lt_of_le_of_lt (Nat.mod_le _ _) (by omega))
theorem ushr16 (a : Int) : iushr_ a 16 = (a % 4294967296) / 65536 ∧ 0 ≤ iushr_ a 16 ∧ iushr_ a 16 < 65536 := by
  have h1 := pk_ushr (Int32.ofInt a) 16 16 (by decide)
  have h2 : (Int32.ofInt a).toBitVec.toNat = (a % 4294967296).toNat := by
    show (BitVec.ofInt 32 a).toNat = _
    rw [BitVec.toNat_ofInt]
    rfl
  have h3 : 0 ≤ a % 4294967296 ∧ a % 4294967296 < 4294967296 := ⟨Int.emod_nonneg _ (by decide), Int.emod_lt_of_pos _ (by decide)⟩
  have h4 : iushr_ a 16 = (((Int32.ofInt a).toUInt32 >>> ((16 : Int32).toUInt32 &&& Int32.toUInt32 31)).toInt32).toInt := rfl
  generalize (((Int32.ofInt a).toUInt32 >>> ((16 : Int32).toUInt32 &&& Int32.toUInt32 31)).toInt32) = x at h1 h4
  rw [h2] at h1
  have h5 : x.toInt = (x.toBitVec.toNat : Int) := by
    show x.toBitVec.toInt = _
    rw [BitVec.toInt_eq_toNat_of_lt]
    rw [h1]
    omega
  rw [h4, h5, h1]
  omega
