/-! ## the state of the whole, as mathematics: a 0 t how long text t is, a 1 .. a 3 its bytes, a 4 0 who is struck, a 5 0 how many losses, a 6 and a 7 their years and ships, a 8 0 how many seen, a 9 and a 10 their ships and what was paid, a 11 s a sheet's form (-1: lost), a 12 s its size, a 13 .. a 16 its items, a 17 0 the latest finding -/
def vv_ (a : Mm_) : Mm_ := fun x y => match x with
  | 0 => it_ 0 (a 0 0) (a 1)
  | 1 => fg_ (a 0 0) (a 1) ((y : Int) * 4)
  | 2 => ba_ (a 0 0) (a 1) ((y : Int) * 4 + 2) - 48
  | 3 => it_ 1 (a 0 1) (a 2)
  | 4 => fg_ (a 0 1) (a 2) ((y : Int) * 5)
  | 5 => if ba_ (a 0 1) (a 2) ((y : Int) * 5 + 3) = 46 then -1 else ba_ (a 0 1) (a 2) ((y : Int) * 5 + 3) - 97
  | 6 => if ba_ (a 0 1) (a 2) ((y : Int) * 5 + 2) = 100 then 1 else 0
  | 7 => it_ 2 (a 0 2) (a 3)
  | 8 => ba_ (a 0 2) (a 3) ((y : Int) * 5) - 48
  | 9 => ba_ (a 0 2) (a 3) ((y : Int) * 5 + 1) - 97
  | 10 => fg_ (a 0 2) (a 3) ((y : Int) * 5 + 2)
  | _ => a 4 0
def uu_ (a : Mm_) : Mm_ := fun x y => match x with
  | 0 => a 5 0
  | 1 => a 6 y
  | _ => a 7 y
def ww_ (a : Mm_) : Mm_ := fun x y => match x with
  | 0 => a 8 0
  | 1 => a 9 y
  | _ => a 10 y
def AW_ (a : Mm_) : Prop := ((0 ≤ a 0 0 ∧ a 0 0 ≤ 23) ∧ (0 ≤ a 0 1 ∧ a 0 1 ≤ 39) ∧ (0 ≤ a 0 2 ∧ a 0 2 ≤ 59)) ∧ ((∀ j, 0 ≤ a 1 j ∧ a 1 j ≤ 255) ∧ (∀ j, 0 ≤ a 2 j ∧ a 2 j ≤ 255) ∧ (∀ j, 0 ≤ a 3 j ∧ a 3 j ≤ 255)) ∧
  (0 ≤ a 4 0 ∧ a 4 0 ≤ 255) ∧ LW_ (uu_ a) ∧ WW_ (ww_ a) ∧ (∀ s, s < 4 → (-1 ≤ a 11 s ∧ a 11 s ≤ 2) ∧ (0 ≤ a 12 s ∧ a 12 s ≤ 60)) ∧ (0 ≤ a 17 0 ∧ a 17 0 ≤ 5) ∧ RM_ a
theorem fa_ok {t : Nat} {L : Int} {b : Nat → Int} (hL : 0 ≤ L) (h : fa_ t L b = -1) : ∀ i : Nat, (i : Int) < L → ok_ t L b i = true := by
  have hle := wl_le (ok_ t L b) L.toNat
  have hw : wl_ (ok_ t L b) L.toNat = L.toNat := by
    unfold fa_ at h
    simp only at h
    split at h
    · omega
    · omega
  intro i hi
  exact wl_ok (n := L.toNat) (by omega)
theorem io_0_0 {L : Int} {b : Nat → Int} (hL : 0 ≤ L) {k : Nat} (hk : (k : Int) < it_ 0 L b) : 48 ≤ ba_ L b ((k : Int) * 4) ∧ ba_ L b ((k : Int) * 4) ≤ 57 := by
  unfold it_ at hk
  split at hk
  · rename_i hf
    have hs : ((sp_ 0 : Nat) : Int) = 4 := rfl
    rw [hs] at hk
    have h1 := fa_ok hL hf (k * 4 + 0) (by omega)
    unfold ok_ at h1
    have e1 : (k * 4 + 0) % sp_ 0 = 0 := by show (k * 4 + 0) % 4 = 0; omega
    rw [e1, if_neg (by decide), show pt_ 0 0 = 57 from rfl] at h1
    unfold oc_ at h1
    rw [show (((k * 4 + 0 : Nat)) : Int) = (k : Int) * 4 by omega] at h1
    simpa using h1
  · omega
theorem io_0_1 {L : Int} {b : Nat → Int} (hL : 0 ≤ L) {k : Nat} (hk : (k : Int) < it_ 0 L b) : (48 ≤ ba_ L b ((k : Int) * 4 + 1) ∧ ba_ L b ((k : Int) * 4 + 1) ≤ 57) ∧ (ba_ L b ((k : Int) * 4 + 1) ≠ 48 ∨ ba_ L b ((k : Int) * 4) ≠ 48) := by
  unfold it_ at hk
  split at hk
  · rename_i hf
    have hs : ((sp_ 0 : Nat) : Int) = 4 := rfl
    rw [hs] at hk
    have h1 := fa_ok hL hf (k * 4 + 1) (by omega)
    unfold ok_ at h1
    have e1 : (k * 4 + 1) % sp_ 0 = 1 := by show (k * 4 + 1) % 4 = 1; omega
    rw [e1, if_neg (by decide), show pt_ 0 1 = 49 from rfl] at h1
    unfold oc_ at h1
    rw [show (((k * 4 + 1 : Nat)) : Int) = (k : Int) * 4 + 1 by omega, show (k : Int) * 4 + 1 - 1 = (k : Int) * 4 by omega] at h1
    simpa using h1
  · omega
theorem io_0_2 {L : Int} {b : Nat → Int} (hL : 0 ≤ L) {k : Nat} (hk : (k : Int) < it_ 0 L b) : 48 ≤ ba_ L b ((k : Int) * 4 + 2) ∧ ba_ L b ((k : Int) * 4 + 2) ≤ 57 := by
  unfold it_ at hk
  split at hk
  · rename_i hf
    have hs : ((sp_ 0 : Nat) : Int) = 4 := rfl
    rw [hs] at hk
    have h1 := fa_ok hL hf (k * 4 + 2) (by omega)
    unfold ok_ at h1
    have e1 : (k * 4 + 2) % sp_ 0 = 2 := by show (k * 4 + 2) % 4 = 2; omega
    rw [e1, if_neg (by decide), show pt_ 0 2 = 57 from rfl] at h1
    unfold oc_ at h1
    rw [show (((k * 4 + 2 : Nat)) : Int) = (k : Int) * 4 + 2 by omega, show (k : Int) * 4 + 2 - 1 = (k : Int) * 4 + 1 by omega] at h1
    simpa using h1
  · omega
theorem io_1_0 {L : Int} {b : Nat → Int} (hL : 0 ≤ L) {k : Nat} (hk : (k : Int) < it_ 1 L b) : 48 ≤ ba_ L b ((k : Int) * 5) ∧ ba_ L b ((k : Int) * 5) ≤ 57 := by
  unfold it_ at hk
  split at hk
  · rename_i hf
    have hs : ((sp_ 1 : Nat) : Int) = 5 := rfl
    rw [hs] at hk
    have h1 := fa_ok hL hf (k * 5 + 0) (by omega)
    unfold ok_ at h1
    have e1 : (k * 5 + 0) % sp_ 1 = 0 := by show (k * 5 + 0) % 5 = 0; omega
    rw [e1, if_neg (by decide), show pt_ 1 0 = 57 from rfl] at h1
    unfold oc_ at h1
    rw [show (((k * 5 + 0 : Nat)) : Int) = (k : Int) * 5 by omega] at h1
    simpa using h1
  · omega
theorem io_1_1 {L : Int} {b : Nat → Int} (hL : 0 ≤ L) {k : Nat} (hk : (k : Int) < it_ 1 L b) : 48 ≤ ba_ L b ((k : Int) * 5 + 1) ∧ ba_ L b ((k : Int) * 5 + 1) ≤ 57 := by
  unfold it_ at hk
  split at hk
  · rename_i hf
    have hs : ((sp_ 1 : Nat) : Int) = 5 := rfl
    rw [hs] at hk
    have h1 := fa_ok hL hf (k * 5 + 1) (by omega)
    unfold ok_ at h1
    have e1 : (k * 5 + 1) % sp_ 1 = 1 := by show (k * 5 + 1) % 5 = 1; omega
    rw [e1, if_neg (by decide), show pt_ 1 1 = 57 from rfl] at h1
    unfold oc_ at h1
    rw [show (((k * 5 + 1 : Nat)) : Int) = (k : Int) * 5 + 1 by omega, show (k : Int) * 5 + 1 - 1 = (k : Int) * 5 by omega] at h1
    simpa using h1
  · omega
theorem io_1_2 {L : Int} {b : Nat → Int} (hL : 0 ≤ L) {k : Nat} (hk : (k : Int) < it_ 1 L b) : ba_ L b ((k : Int) * 5 + 2) = 108 ∨ ba_ L b ((k : Int) * 5 + 2) = 100 := by
  unfold it_ at hk
  split at hk
  · rename_i hf
    have hs : ((sp_ 1 : Nat) : Int) = 5 := rfl
    rw [hs] at hk
    have h1 := fa_ok hL hf (k * 5 + 2) (by omega)
    unfold ok_ at h1
    have e1 : (k * 5 + 2) % sp_ 1 = 2 := by show (k * 5 + 2) % 5 = 2; omega
    rw [e1, if_neg (by decide), show pt_ 1 2 = 108 from rfl] at h1
    unfold oc_ at h1
    rw [show (((k * 5 + 2 : Nat)) : Int) = (k : Int) * 5 + 2 by omega, show (k : Int) * 5 + 2 - 1 = (k : Int) * 5 + 1 by omega] at h1
    simpa using h1
  · omega
theorem io_1_3 {L : Int} {b : Nat → Int} (hL : 0 ≤ L) {k : Nat} (hk : (k : Int) < it_ 1 L b) : ba_ L b ((k : Int) * 5 + 3) = 46 ∨ (97 ≤ ba_ L b ((k : Int) * 5 + 3) ∧ ba_ L b ((k : Int) * 5 + 3) ≤ 104) := by
  unfold it_ at hk
  split at hk
  · rename_i hf
    have hs : ((sp_ 1 : Nat) : Int) = 5 := rfl
    rw [hs] at hk
    have h1 := fa_ok hL hf (k * 5 + 3) (by omega)
    unfold ok_ at h1
    have e1 : (k * 5 + 3) % sp_ 1 = 3 := by show (k * 5 + 3) % 5 = 3; omega
    rw [e1, if_neg (by decide), show pt_ 1 3 = 46 from rfl] at h1
    unfold oc_ at h1
    rw [show (((k * 5 + 3 : Nat)) : Int) = (k : Int) * 5 + 3 by omega, show (k : Int) * 5 + 3 - 1 = (k : Int) * 5 + 2 by omega] at h1
    simpa using h1
  · omega
theorem io_2_0 {L : Int} {b : Nat → Int} (hL : 0 ≤ L) {k : Nat} (hk : (k : Int) < it_ 2 L b) : 48 ≤ ba_ L b ((k : Int) * 5) ∧ ba_ L b ((k : Int) * 5) ≤ 53 := by
  unfold it_ at hk
  split at hk
  · rename_i hf
    have hs : ((sp_ 2 : Nat) : Int) = 5 := rfl
    rw [hs] at hk
    have h1 := fa_ok hL hf (k * 5 + 0) (by omega)
    unfold ok_ at h1
    have e1 : (k * 5 + 0) % sp_ 2 = 0 := by show (k * 5 + 0) % 5 = 0; omega
    rw [e1, if_neg (by decide), show pt_ 2 0 = 53 from rfl] at h1
    unfold oc_ at h1
    rw [show (((k * 5 + 0 : Nat)) : Int) = (k : Int) * 5 by omega] at h1
    simpa using h1
  · omega
theorem io_2_1 {L : Int} {b : Nat → Int} (hL : 0 ≤ L) {k : Nat} (hk : (k : Int) < it_ 2 L b) : 97 ≤ ba_ L b ((k : Int) * 5 + 1) ∧ ba_ L b ((k : Int) * 5 + 1) ≤ 104 := by
  unfold it_ at hk
  split at hk
  · rename_i hf
    have hs : ((sp_ 2 : Nat) : Int) = 5 := rfl
    rw [hs] at hk
    have h1 := fa_ok hL hf (k * 5 + 1) (by omega)
    unfold ok_ at h1
    have e1 : (k * 5 + 1) % sp_ 2 = 1 := by show (k * 5 + 1) % 5 = 1; omega
    rw [e1, if_neg (by decide), show pt_ 2 1 = 97 from rfl] at h1
    unfold oc_ at h1
    rw [show (((k * 5 + 1 : Nat)) : Int) = (k : Int) * 5 + 1 by omega, show (k : Int) * 5 + 1 - 1 = (k : Int) * 5 by omega] at h1
    simpa using h1
  · omega
theorem io_2_2 {L : Int} {b : Nat → Int} (hL : 0 ≤ L) {k : Nat} (hk : (k : Int) < it_ 2 L b) : 48 ≤ ba_ L b ((k : Int) * 5 + 2) ∧ ba_ L b ((k : Int) * 5 + 2) ≤ 57 := by
  unfold it_ at hk
  split at hk
  · rename_i hf
    have hs : ((sp_ 2 : Nat) : Int) = 5 := rfl
    rw [hs] at hk
    have h1 := fa_ok hL hf (k * 5 + 2) (by omega)
    unfold ok_ at h1
    have e1 : (k * 5 + 2) % sp_ 2 = 2 := by show (k * 5 + 2) % 5 = 2; omega
    rw [e1, if_neg (by decide), show pt_ 2 2 = 57 from rfl] at h1
    unfold oc_ at h1
    rw [show (((k * 5 + 2 : Nat)) : Int) = (k : Int) * 5 + 2 by omega, show (k : Int) * 5 + 2 - 1 = (k : Int) * 5 + 1 by omega] at h1
    simpa using h1
  · omega
theorem io_2_3 {L : Int} {b : Nat → Int} (hL : 0 ≤ L) {k : Nat} (hk : (k : Int) < it_ 2 L b) : (48 ≤ ba_ L b ((k : Int) * 5 + 3) ∧ ba_ L b ((k : Int) * 5 + 3) ≤ 57) ∧ (ba_ L b ((k : Int) * 5 + 3) ≠ 48 ∨ ba_ L b ((k : Int) * 5 + 2) ≠ 48) := by
  unfold it_ at hk
  split at hk
  · rename_i hf
    have hs : ((sp_ 2 : Nat) : Int) = 5 := rfl
    rw [hs] at hk
    have h1 := fa_ok hL hf (k * 5 + 3) (by omega)
    unfold ok_ at h1
    have e1 : (k * 5 + 3) % sp_ 2 = 3 := by show (k * 5 + 3) % 5 = 3; omega
    rw [e1, if_neg (by decide), show pt_ 2 3 = 49 from rfl] at h1
    unfold oc_ at h1
    rw [show (((k * 5 + 3 : Nat)) : Int) = (k : Int) * 5 + 3 by omega, show (k : Int) * 5 + 3 - 1 = (k : Int) * 5 + 2 by omega] at h1
    simpa using h1
  · omega
theorem itz_ (t : Nat) (m : Int) {L : Int} {b : Nat → Int} (hL : 0 ≤ L) (hm : L + 1 ≤ m * (sp_ t : Int)) (hm0 : 0 ≤ m) : 0 ≤ it_ t L b ∧ it_ t L b ≤ m := it_rg t hL hm hm0
theorem vv_WF {a : Mm_} (h : AW_ a) : WF_ (vv_ a) := by
  obtain ⟨⟨h0, h1, h2⟩, hb, h4, h5⟩ := h
  refine ⟨itz_ 0 6 h0.1 (by show _ ≤ 6 * ((4 : Nat) : Int); omega) (by decide), itz_ 1 8 h1.1 (by show _ ≤ 8 * ((5 : Nat) : Int); omega) (by decide), itz_ 2 12 h2.1 (by show _ ≤ 12 * ((5 : Nat) : Int); omega) (by decide), h4, fun k hk => ?_, fun k hk => ?_, fun k hk => ?_⟩
  · have p0 := io_0_0 h0.1 hk
    have p1 := io_0_1 h0.1 hk
    have p2 := io_0_2 h0.1 hk
    show (1 ≤ fg_ _ _ _ ∧ fg_ _ _ _ ≤ 99) ∧ (0 ≤ ba_ _ _ _ - 48 ∧ ba_ _ _ _ - 48 ≤ 9)
    unfold fg_
    omega
  · have p0 := io_1_0 h1.1 hk
    have p1 := io_1_1 h1.1 hk
    have p3 := io_1_3 h1.1 hk
    show (0 ≤ fg_ _ _ _ ∧ fg_ _ _ _ ≤ 99) ∧ (-1 ≤ (if ba_ (a 0 1) (a 2) ((k : Int) * 5 + 3) = 46 then -1 else ba_ (a 0 1) (a 2) ((k : Int) * 5 + 3) - 97) ∧ (if ba_ (a 0 1) (a 2) ((k : Int) * 5 + 3) = 46 then -1 else ba_ (a 0 1) (a 2) ((k : Int) * 5 + 3) - 97) ≤ 7) ∧ ((if ba_ (a 0 1) (a 2) ((k : Int) * 5 + 2) = 100 then (1 : Int) else 0) = 0 ∨ (if ba_ (a 0 1) (a 2) ((k : Int) * 5 + 2) = 100 then (1 : Int) else 0) = 1)
    unfold fg_
    refine ⟨by omega, ?_, ?_⟩
    · split <;> omega
    · split <;> omega
  · have p0 := io_2_0 h2.1 hk
    have p1 := io_2_1 h2.1 hk
    have p2 := io_2_2 h2.1 hk
    have p3 := io_2_3 h2.1 hk
    show (0 ≤ ba_ _ _ _ - 48 ∧ ba_ _ _ _ - 48 ≤ 5) ∧ (0 ≤ ba_ _ _ _ - 97 ∧ ba_ _ _ _ - 97 ≤ 7) ∧ (1 ≤ fg_ _ _ _ ∧ fg_ _ _ _ ≤ 99)
    unfold fg_
    rw [show (k : Int) * 5 + 2 + 1 = (k : Int) * 5 + 3 by omega]
    omega
theorem bs_bt {p : Nat → Bool} : ∀ {n k : Nat}, bt_ (bs_ p n) (k : Int) = (decide (k < n) && p k) := by
  intro n
  induction n with
  | zero => intro k; simp [bs_, bt_]
  | succ n ih =>
    intro k
    have hb := bs_rg p n
    unfold bs_
    split
    · rename_i c
      rw [so_bt (by omega) (by omega), ih]
      by_cases h1 : k = n
      · subst h1; simp [c]
      · by_cases h2 : k < n
        · have : k < n + 1 := by omega
          have h3 : ¬ ((k : Int) = (n : Int)) := by omega
          simp [h2, this, h3]
        · have : ¬ k < n + 1 := by omega
          have h3 : ¬ ((k : Int) = (n : Int)) := by omega
          simp [h2, this, h3]
    · rename_i c
      rw [ih]
      by_cases h1 : k = n
      · subst h1
        have : p k = false := by simpa using c
        simp [this]
      · by_cases h2 : k < n
        · have : k < n + 1 := by omega
          simp [h2, this]
        · have : ¬ k < n + 1 := by omega
          simp [h2, this]
/-! ## the class's memory and the state -/
def TR_ (a σ : Mm_) : Prop := (σ 1 3 = a 0 0 ∧ σ 2 = a 1 ∧ σ 1 1 = 4) ∧ (σ 3 3 = a 0 1 ∧ σ 4 = a 2 ∧ σ 3 1 = 5) ∧ (σ 5 3 = a 0 2 ∧ σ 6 = a 3 ∧ σ 5 1 = 5)
def S1_ (a σ : Mm_) (s k : Nat) : Prop := (a 11 s = -1 → σ k 1 = 1) ∧ (a 11 s ≠ -1 → σ k 1 = 0 ∧ σ k 2 = a 11 s ∧ σ k 3 = a 12 s ∧ ∀ i : Nat, (i : Int) < a 12 s → σ (k + 1) i = a (13 + s) i)
def SR_ (a σ : Mm_) : Prop := S1_ a σ 0 11 ∧ S1_ a σ 1 13 ∧ S1_ a σ 2 15 ∧ S1_ a σ 3 17
def CP_ (a σ : Mm_) : Prop := AW_ a ∧ TR_ a σ ∧ (σ 0 9 = a 4 0 ∧ σ 0 10 = a 17 0) ∧ LC_ (uu_ a) σ ∧ WC_ (ww_ a) σ ∧ SR_ a σ
def CR_ (a σ : Mm_) : Prop := CP_ a σ ∧ HC_ (vv_ a) σ ∧ HD_ (vv_ a) σ
def Fm_ (σ σ' : Mm_) : Prop := ∀ k, 38 ≤ k → σ' k = σ k
theorem S1_.cg {a σ σ' : Mm_} {s k : Nat} (h : S1_ a σ s k) (e : σ' k = σ k) (e2 : σ' (k + 1) = σ (k + 1)) : S1_ a σ' s k := by
  unfold S1_ at h ⊢
  rw [e, e2]
  exact h
theorem CP_.cg {a σ σ' : Mm_} (h : CP_ a σ) (e : ∀ k, k < 19 → k ≠ 10 → σ' k = σ k) (e2 : σ' 32 = σ 32) (e3 : σ' 33 = σ 33) (e4 : σ' 34 = σ 34) : CP_ a σ' := by
  obtain ⟨h1, h2, h3, h4, h5, h6⟩ := h
  refine ⟨h1, ?_, ?_, ?_, ?_, ?_⟩
  · unfold TR_ at h2 ⊢
    rw [e 1 (by decide) (by decide), e 2 (by decide) (by decide), e 3 (by decide) (by decide), e 4 (by decide) (by decide), e 5 (by decide) (by decide), e 6 (by decide) (by decide)]; exact h2
  · rw [e 0 (by decide) (by decide)]; exact h3
  · unfold LC_ at h4 ⊢
    rw [e 7 (by decide) (by decide), e 8 (by decide) (by decide), e 9 (by decide) (by decide)]; exact h4
  · unfold WC_ at h5 ⊢
    rw [e2, e3, e4]; exact h5
  · exact ⟨h6.1.cg (e _ (by decide) (by decide)) (e _ (by decide) (by decide)), h6.2.1.cg (e _ (by decide) (by decide)) (e _ (by decide) (by decide)), h6.2.2.1.cg (e _ (by decide) (by decide)) (e _ (by decide) (by decide)), h6.2.2.2.cg (e _ (by decide) (by decide)) (e _ (by decide) (by decide))⟩
theorem CR_.f6 {a σ σ' : Mm_} (h : CR_ a σ) (e : F6_ σ σ') : CR_ a σ' :=
  ⟨h.1.cg (fun k hk _ => e k (by omega) (by omega) (by omega) (by omega) (by omega) (by omega)) (e _ (by decide) (by decide) (by decide) (by decide) (by decide) (by decide)) (e _ (by decide) (by decide) (by decide) (by decide) (by decide) (by decide)) (e _ (by decide) (by decide) (by decide) (by decide) (by decide) (by decide)), h.2.1.f6 e, h.2.2.f6 e⟩
theorem F6_.fm {σ σ' : Mm_} (e : F6_ σ σ') : Fm_ σ σ' := fun k hk => e k (by omega) (by omega) (by omega) (by omega) (by omega) (by omega)
theorem Fm_.rf {σ : Mm_} : Fm_ σ σ := fun _ _ => rfl
theorem Fm_.tr {σ σ' τ : Mm_} (h : Fm_ σ σ') (h2 : Fm_ σ' τ) : Fm_ σ τ := fun k hk => (h2 k hk).trans (h k hk)
theorem Fm_.ms {σ σ' : Mm_} {k j : Nat} {x : Int} (h : Fm_ σ σ') (hk : k < 38) : Fm_ σ (ms_ σ' k j x) := fun q hq => by rw [ms_rw (by omega)]; exact h q hq
theorem Fm_.wr {σ σ' : Mm_} {k n : Nat} {f : Nat → Int} (h : Fm_ σ σ') (hk : k < 38) : Fm_ σ (wr_ σ' k f n) := fun q hq => by rw [wr_rw (by omega)]; exact h q hq
section
variable {l : Launch} {D : Dt_} {a σ : Mm_} {post : Option Av_ → Mm_ → Prop}
theorem set_HC (h : CP_ a σ) : HC_ (vv_ a) (wr_ (wr_ (wr_ (ms_ (wr_ (wr_ (ms_ (ms_ (wr_ (wr_ (ms_ σ 19 0 (it_ 0 (a 0 0) (a 1))) 20 (fun j => fg_ (a 0 0) (a 1) ((j : Int) * 4)) (it_ 0 (a 0 0) (a 1)).toNat) 21 (fun j => ba_ (a 0 0) (a 1) ((j : Int) * 4 + 2) - 48) (it_ 0 (a 0 0) (a 1)).toNat) 19 3 (it_ 1 (a 0 1) (a 2))) 19 6 (bs_ (fun j => decide (ba_ (a 0 1) (a 2) ((j : Int) * 5 + 2) = 100)) (it_ 1 (a 0 1) (a 2)).toNat)) 22 (fun j => fg_ (a 0 1) (a 2) ((j : Int) * 5)) (it_ 1 (a 0 1) (a 2)).toNat) 23 (fun j => if ba_ (a 0 1) (a 2) ((j : Int) * 5 + 3) = 46 then -1 else ba_ (a 0 1) (a 2) ((j : Int) * 5 + 3) - 97) (it_ 1 (a 0 1) (a 2)).toNat) 19 7 (it_ 2 (a 0 2) (a 3))) 24 (fun j => ba_ (a 0 2) (a 3) ((j : Int) * 5) - 48) (it_ 2 (a 0 2) (a 3)).toNat) 25 (fun j => ba_ (a 0 2) (a 3) ((j : Int) * 5 + 1) - 97) (it_ 2 (a 0 2) (a 3)).toNat) 26 (fun j => fg_ (a 0 2) (a 3) ((j : Int) * 5 + 2)) (it_ 2 (a 0 2) (a 3)).toNat) := by
  obtain ⟨⟨⟨h0, h1, h2⟩, hb, h4, h5⟩, hT⟩ := h
  have w0 := itz_ 0 6 (b := a 1) h0.1 (by show _ ≤ 6 * ((4 : Nat) : Int); omega) (by decide)
  have w1 := itz_ 1 8 (b := a 2) h1.1 (by show _ ≤ 8 * ((5 : Nat) : Int); omega) (by decide)
  have w2 := itz_ 2 12 (b := a 3) h2.1 (by show _ ≤ 12 * ((5 : Nat) : Int); omega) (by decide)
  have e6 : (wr_ (wr_ (wr_ (ms_ (wr_ (wr_ (ms_ (ms_ (wr_ (wr_ (ms_ σ 19 0 (it_ 0 (a 0 0) (a 1))) 20 (fun j => fg_ (a 0 0) (a 1) ((j : Int) * 4)) (it_ 0 (a 0 0) (a 1)).toNat) 21 (fun j => ba_ (a 0 0) (a 1) ((j : Int) * 4 + 2) - 48) (it_ 0 (a 0 0) (a 1)).toNat) 19 3 (it_ 1 (a 0 1) (a 2))) 19 6 (bs_ (fun j => decide (ba_ (a 0 1) (a 2) ((j : Int) * 5 + 2) = 100)) (it_ 1 (a 0 1) (a 2)).toNat)) 22 (fun j => fg_ (a 0 1) (a 2) ((j : Int) * 5)) (it_ 1 (a 0 1) (a 2)).toNat) 23 (fun j => if ba_ (a 0 1) (a 2) ((j : Int) * 5 + 3) = 46 then -1 else ba_ (a 0 1) (a 2) ((j : Int) * 5 + 3) - 97) (it_ 1 (a 0 1) (a 2)).toNat) 19 7 (it_ 2 (a 0 2) (a 3))) 24 (fun j => ba_ (a 0 2) (a 3) ((j : Int) * 5) - 48) (it_ 2 (a 0 2) (a 3)).toNat) 25 (fun j => ba_ (a 0 2) (a 3) ((j : Int) * 5 + 1) - 97) (it_ 2 (a 0 2) (a 3)).toNat) 26 (fun j => fg_ (a 0 2) (a 3) ((j : Int) * 5 + 2)) (it_ 2 (a 0 2) (a 3)).toNat) 19 6 = bs_ (fun j => decide (ba_ (a 0 1) (a 2) ((j : Int) * 5 + 2) = 100)) (it_ 1 (a 0 1) (a 2)).toNat := by simp [ms_, wr_]
  refine ⟨?_, ?_, ?_, fun k hk => ?_, fun k hk => ?_, fun k hk => ?_, ?_⟩
  · simp [ms_, wr_]; rfl
  · simp [ms_, wr_]; rfl
  · simp [ms_, wr_]; rfl
  · have hk : (k : Int) < it_ 0 (a 0 0) (a 1) := hk
    have hk2 : k < (it_ 0 (a 0 0) (a 1)).toNat := by omega
    constructor <;> simp [ms_, wr_, hk2] <;> rfl
  · have hk : (k : Int) < it_ 1 (a 0 1) (a 2) := hk
    have hk2 : k < (it_ 1 (a 0 1) (a 2)).toNat := by omega
    refine ⟨?_, ?_, ?_⟩
    · simp [ms_, wr_, hk2]; rfl
    · simp [ms_, wr_, hk2]; rfl
    · rw [e6, bs_bt]
      simp only [hk2, decide_true, Bool.true_and]
      show decide _ = decide ((if _ then (1 : Int) else 0) = 1)
      by_cases c : ba_ (a 0 1) (a 2) ((k : Int) * 5 + 2) = 100
      · simp [c]
      · simp [c]
  · have hk : (k : Int) < it_ 2 (a 0 2) (a 3) := hk
    have hk2 : k < (it_ 2 (a 0 2) (a 3)).toNat := by omega
    refine ⟨?_, ?_, ?_⟩ <;> simp [ms_, wr_, hk2] <;> rfl
  · rw [e6]
    have hq := bs_rg (fun j => decide (ba_ (a 0 1) (a 2) ((j : Int) * 5 + 2) = 100)) (it_ 1 (a 0 1) (a 2)).toNat
    have h8 : 2 ^ (it_ 1 (a 0 1) (a 2)).toNat ≤ 2 ^ 8 := Nat.pow_le_pow_right (by decide) (by omega)
    omega
theorem ct_X6_settle (h : CP_ a σ) (hK : ∀ σ1, CR_ a σ1 → Fm_ σ σ1 → post none σ1) : V_ l D mX6_settle (CM_ D mX6_settle post) 0 [some (vr_ 0)] [] σ := by
  have hH := set_HC h
  have hF : ∀ k, k < 19 ∨ 27 ≤ k → (wr_ (wr_ (wr_ (ms_ (wr_ (wr_ (ms_ (ms_ (wr_ (wr_ (ms_ σ 19 0 (it_ 0 (a 0 0) (a 1))) 20 (fun j => fg_ (a 0 0) (a 1) ((j : Int) * 4)) (it_ 0 (a 0 0) (a 1)).toNat) 21 (fun j => ba_ (a 0 0) (a 1) ((j : Int) * 4 + 2) - 48) (it_ 0 (a 0 0) (a 1)).toNat) 19 3 (it_ 1 (a 0 1) (a 2))) 19 6 (bs_ (fun j => decide (ba_ (a 0 1) (a 2) ((j : Int) * 5 + 2) = 100)) (it_ 1 (a 0 1) (a 2)).toNat)) 22 (fun j => fg_ (a 0 1) (a 2) ((j : Int) * 5)) (it_ 1 (a 0 1) (a 2)).toNat) 23 (fun j => if ba_ (a 0 1) (a 2) ((j : Int) * 5 + 3) = 46 then -1 else ba_ (a 0 1) (a 2) ((j : Int) * 5 + 3) - 97) (it_ 1 (a 0 1) (a 2)).toNat) 19 7 (it_ 2 (a 0 2) (a 3))) 24 (fun j => ba_ (a 0 2) (a 3) ((j : Int) * 5) - 48) (it_ 2 (a 0 2) (a 3)).toNat) 25 (fun j => ba_ (a 0 2) (a 3) ((j : Int) * 5 + 1) - 97) (it_ 2 (a 0 2) (a 3)).toNat) 26 (fun j => fg_ (a 0 2) (a 3) ((j : Int) * 5 + 2)) (it_ 2 (a 0 2) (a 3)).toNat) k = σ k := fun k hk => by
    rw [wr_rw (by omega), wr_rw (by omega), wr_rw (by omega), ms_rw (by omega), wr_rw (by omega), wr_rw (by omega), ms_rw (by omega), ms_rw (by omega), wr_rw (by omega), wr_rw (by omega), ms_rw (by omega)]
  obtain ⟨hA, ⟨⟨t1, t2, t3⟩, ⟨t4, t5, t6⟩, ⟨t7, t8, t9⟩⟩, hs, hL, hW, hS⟩ := id h
  obtain ⟨⟨h0, h1, h2⟩, ⟨hb1, hb2, hb3⟩, h4, h5⟩ := id hA
  refine V_aload_n (pc := 0) dX6_settle_0 rfl rfl ?_
  refine V_getr (pc := 1) dX6_settle_1 fX6_53 rfl gg_0 rfl ?_
  refine V_aload_n (pc := 4) dX6_settle_4 rfl rfl ?_
  refine V_getr (pc := 5) dX6_settle_5 fX6_16 rfl gg_0 rfl ?_
  refine V_callV (pc := 8) (as := [_]) (rest := []) dX6_settle_8 ⟨kX6_360, iX1_settleShips, by decide, by decide⟩ rc_19 rfl rfl (Nat.le_of_ble_eq_true rfl) (Nat.le_of_ble_eq_true rfl) ?_
  refine ct_X1_settleShips t1 t2 t3 h0 hb1 ?_
  show V_ _ _ _ _ _ _ [] _
  refine V_aload_n (pc := 11) dX6_settle_11 rfl rfl ?_
  refine V_getr (pc := 12) dX6_settle_12 fX6_53 rfl gg_0 rfl ?_
  refine V_aload_n (pc := 15) dX6_settle_15 rfl rfl ?_
  refine V_getr (pc := 16) dX6_settle_16 fX6_22 rfl gg_0 rfl ?_
  refine V_callV (pc := 19) (as := [_]) (rest := []) dX6_settle_19 ⟨kX6_364, iX1_settleNames, by decide, by decide⟩ rc_19 rfl rfl (Nat.le_of_ble_eq_true rfl) (Nat.le_of_ble_eq_true rfl) ?_
  refine ct_X1_settleNames (by simp only [wr_rw, ms_rw, ne_eq, Nat.reduceEqDiff, not_false_eq_true]; assumption) (by simp only [wr_rw, ms_rw, ne_eq, Nat.reduceEqDiff, not_false_eq_true]; assumption) (by simp only [wr_rw, ms_rw, ne_eq, Nat.reduceEqDiff, not_false_eq_true]; assumption) h1 hb2 ?_
  show V_ _ _ _ _ _ _ [] _
  refine V_aload_n (pc := 22) dX6_settle_22 rfl rfl ?_
  refine V_getr (pc := 23) dX6_settle_23 fX6_53 rfl gg_0 rfl ?_
  refine V_aload_n (pc := 26) dX6_settle_26 rfl rfl ?_
  refine V_getr (pc := 27) dX6_settle_27 fX6_27 rfl gg_0 rfl ?_
  refine V_callV (pc := 30) (as := [_]) (rest := []) dX6_settle_30 ⟨kX6_367, iX1_settleLines, by decide, by decide⟩ rc_19 rfl rfl (Nat.le_of_ble_eq_true rfl) (Nat.le_of_ble_eq_true rfl) ?_
  refine ct_X1_settleLines (by simp only [wr_rw, ms_rw, ne_eq, Nat.reduceEqDiff, not_false_eq_true]; assumption) (by simp only [wr_rw, ms_rw, ne_eq, Nat.reduceEqDiff, not_false_eq_true]; assumption) (by simp only [wr_rw, ms_rw, ne_eq, Nat.reduceEqDiff, not_false_eq_true]; assumption) h2 hb3 ?_
  show V_ _ _ _ _ _ _ [] _
  have hH := hH
  generalize hτ : wr_ (wr_ (wr_ (ms_ (wr_ (wr_ (ms_ (ms_ (wr_ (wr_ (ms_ σ 19 0 (it_ 0 (a 0 0) (a 1))) 20 (fun j => fg_ (a 0 0) (a 1) ((j : Int) * 4)) (it_ 0 (a 0 0) (a 1)).toNat) 21 (fun j => ba_ (a 0 0) (a 1) ((j : Int) * 4 + 2) - 48) (it_ 0 (a 0 0) (a 1)).toNat) 19 3 (it_ 1 (a 0 1) (a 2))) 19 6 (bs_ (fun j => decide (ba_ (a 0 1) (a 2) ((j : Int) * 5 + 2) = 100)) (it_ 1 (a 0 1) (a 2)).toNat)) 22 (fun j => fg_ (a 0 1) (a 2) ((j : Int) * 5)) (it_ 1 (a 0 1) (a 2)).toNat) 23 (fun j => if ba_ (a 0 1) (a 2) ((j : Int) * 5 + 3) = 46 then -1 else ba_ (a 0 1) (a 2) ((j : Int) * 5 + 3) - 97) (it_ 1 (a 0 1) (a 2)).toNat) 19 7 (it_ 2 (a 0 2) (a 3))) 24 (fun j => ba_ (a 0 2) (a 3) ((j : Int) * 5) - 48) (it_ 2 (a 0 2) (a 3)).toNat) 25 (fun j => ba_ (a 0 2) (a 3) ((j : Int) * 5 + 1) - 97) (it_ 2 (a 0 2) (a 3)).toNat) 26 (fun j => fg_ (a 0 2) (a 3) ((j : Int) * 5 + 2)) (it_ 2 (a 0 2) (a 3)).toNat = τ at hH hF
  first | rw [hτ] | skip
  refine V_aload_n (pc := 33) dX6_settle_33 rfl rfl ?_
  refine V_getr (pc := 34) dX6_settle_34 fX6_53 rfl gg_0 rfl ?_
  refine V_aload_n (pc := 37) dX6_settle_37 rfl rfl ?_
  refine V_geti (pc := 38) dX6_settle_38 fX6_138 rfl gg_0 rfl (fun r38 => ?_)
  rw [show τ 0 9 = vv_ a 11 0 from by rw [hF 0 (Or.inl (by decide))]; exact hs.1] at r38 ⊢
  refine V_callV (pc := 41) (as := [_]) (rest := []) dX6_settle_41 ⟨kX6_220, iX1_strikeOut, by decide, by decide⟩ rc_19 rfl rfl (Nat.le_of_ble_eq_true rfl) (Nat.le_of_ble_eq_true rfl) ?_
  refine ct_X1_strikeOut (v := vv_ a) (vv_WF hA) hH rfl ?_
  show V_ _ _ _ _ _ _ [] _
  refine V_return (pc := 44) dX6_settle_44 rfl (fun hR => ?_)
  refine hK _ ⟨h.cg (fun k hk hk2 => ?_) ?_ ?_ ?_, ?_, ?_, ?_, ?_⟩ (fun k hk => ?_)
  · rw [wr_rw (by omega), wr_rw (by omega), wr_rw (by omega), hF k (Or.inl hk)]
  · rw [wr_rw (by decide), wr_rw (by decide), wr_rw (by decide), hF _ (Or.inr (by decide))]
  · rw [wr_rw (by decide), wr_rw (by decide), wr_rw (by decide), hF _ (Or.inr (by decide))]
  · rw [wr_rw (by decide), wr_rw (by decide), wr_rw (by decide), hF _ (Or.inr (by decide))]
  · exact hH.cg (fun a b h1 h2 => by rw [wr_rw (by omega), wr_rw (by omega), wr_rw (by omega)])
  · intro k hk
    have := (vv_WF hA).n
    rw [wr_nk (by decide), wr_nk (by decide), wr_in (by omega)]
  · intro k hk
    have := (vv_WF hA).l
    rw [wr_nk (by decide), wr_in (by omega)]
  · intro k hk
    have := (vv_WF hA).l
    rw [wr_in (by omega)]
  · rw [wr_rw (by omega), wr_rw (by omega), wr_rw (by omega), hF k (Or.inr (by omega))]
end
