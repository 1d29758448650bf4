/-! ## class DrownedNamesModel: what was read; who bears -/
def ML_ (a σ : Mm_) : Prop := σ 38 13 = a 5 0 ∧ ∀ i : Nat, (i : Int) < a 5 0 → σ 49 (2 * i) = a 6 i ∧ σ 49 (2 * i + 1) = a 7 i
def MG_ (a σ : Mm_) : Prop := σ 38 22 = a 8 0 ∧ ∀ i : Nat, (i : Int) < a 8 0 → σ 52 (2 * i) = a 9 i ∧ σ 52 (2 * i + 1) = a 10 i
def MS_ (a σ : Mm_) : Prop := ∀ s, s < 4 → σ 39 s = a 11 s ∧ (a 11 s ≠ -1 → σ 40 s = a 12 s ∧ ∀ i : Nat, (i : Int) < a 12 s → σ 41 (60 * s + i) = a (13 + s) i)
def MR_ (a σ : Mm_) : Prop := AW_ a ∧ (MT_ 0 (a 0 0) (a 1) σ ∧ MT_ 1 (a 0 1) (a 2) σ ∧ MT_ 2 (a 0 2) (a 3) σ) ∧ (σ 38 12 = a 4 0 ∧ σ 38 4 = a 17 0 ∧ σ 38 21 = 255) ∧ ML_ a σ ∧ MG_ a σ ∧ MS_ a σ
/-- what the model's scratch leaves alone -/
def Pf_ (σ τ : Mm_) : Prop := (∀ q, (q < 38 ∨ q = 39 ∨ q = 40 ∨ q = 41 ∨ q = 43 ∨ q = 44 ∨ q = 49 ∨ q = 52) → τ q = σ q) ∧ (∀ j, (j = 4 ∨ j = 12 ∨ j = 13 ∨ j = 21 ∨ j = 22) → τ 38 j = σ 38 j)
theorem Pf_.rf {σ : Mm_} : Pf_ σ σ := ⟨fun _ _ => rfl, fun _ _ => rfl⟩
theorem Pf_.tr {σ τ ρ : Mm_} (h : Pf_ σ τ) (h2 : Pf_ τ ρ) : Pf_ σ ρ := ⟨fun q hq => (h2.1 q hq).trans (h.1 q hq), fun j hj => (h2.2 j hj).trans (h.2 j hj)⟩
theorem FT_.pf {t : Nat} {σ τ : Mm_} (ht : t < 3) (h : FT_ t σ τ) : Pf_ σ τ := ⟨fun q hq => h.1 q (by omega) (by omega) (by omega), fun j hj => h.2.1 j (by omega)⟩
theorem MR_.pf {a σ τ : Mm_} (h : MR_ a σ) (e : Pf_ σ τ) : MR_ a τ := by
  obtain ⟨h1, ⟨t0, t1, t2⟩, h3, h4, h5, h6⟩ := h
  have e3 := e.1 39 (by simp)
  have e4 := e.1 40 (by simp)
  have e5 := e.1 41 (by simp)
  have e6 := e.1 43 (by simp)
  have e7 := e.1 44 (by simp)
  have e8 := e.1 49 (by simp)
  have e9 := e.1 52 (by simp)
  refine ⟨h1, ⟨t0.cg e7 e6, t1.cg e7 e6, t2.cg e7 e6⟩, ?_, ?_, ?_, ?_⟩
  · rw [e.2 12 (by simp), e.2 4 (by simp), e.2 21 (by simp)]; exact h3
  · unfold ML_ at h4 ⊢; rw [e.2 13 (by simp), e8]; exact h4
  · unfold MG_ at h5 ⊢; rw [e.2 22 (by simp), e9]; exact h5
  · unfold MS_ at h6 ⊢; rw [e3, e4, e5]; exact h6
/-- the model's arrays hold a view -/
def HM_ (v σ : Mm_) : Prop := (σ 45 0 = v 0 0 ∧ σ 45 1 = v 3 0 ∧ σ 45 2 = v 7 0) ∧ (∀ k : Nat, (k : Int) < v 0 0 → σ 46 (2 * k) = v 1 k ∧ σ 46 (2 * k + 1) = v 2 k) ∧
  (∀ k : Nat, (k : Int) < v 3 0 → σ 47 (3 * k) = v 4 k ∧ σ 47 (3 * k + 1) = v 6 k ∧ σ 47 (3 * k + 2) = v 5 k) ∧ (∀ k : Nat, (k : Int) < v 7 0 → σ 48 (3 * k) = v 8 k ∧ σ 48 (3 * k + 1) = v 9 k ∧ σ 48 (3 * k + 2) = v 10 k) ∧ σ 38 12 = v 11 0
theorem HM_.si {v σ : Mm_} (h : HM_ v σ) {k : Nat} (hk : (k : Int) < v 0 0) : σ 46 (2 * k) = v 1 k ∧ σ 46 (2 * k + 1) = v 2 k := h.2.1 k hk
theorem HM_.ni {v σ : Mm_} (h : HM_ v σ) {k : Nat} (hk : (k : Int) < v 3 0) : σ 47 (3 * k) = v 4 k ∧ σ 47 (3 * k + 1) = v 6 k ∧ σ 47 (3 * k + 2) = v 5 k := h.2.2.1 k hk
theorem HM_.li {v σ : Mm_} (h : HM_ v σ) {k : Nat} (hk : (k : Int) < v 7 0) : σ 48 (3 * k) = v 8 k ∧ σ 48 (3 * k + 1) = v 9 k ∧ σ 48 (3 * k + 2) = v 10 k := h.2.2.2.1 k hk
theorem HM_.st {v σ : Mm_} (h : HM_ v σ) : σ 38 12 = v 11 0 := h.2.2.2.2
theorem HM_.cg {v σ τ : Mm_} (h : HM_ v σ) (e : ∀ q, (q = 45 ∨ q = 46 ∨ q = 47 ∨ q = 48) → τ q = σ q) (e2 : τ 38 12 = σ 38 12) : HM_ v τ := by
  unfold HM_ at h ⊢
  rw [e 45 (by simp), e 46 (by simp), e 47 (by simp), e 48 (by simp), e2]
  exact h
theorem HM_.of {a σ τ : Mm_} (hA : ∀ t, t < 3 → True) (h0 : τ 45 0 = it_ 0 (a 0 0) (a 1)) (k0 : ∀ k : Nat, (k : Int) < it_ 0 (a 0 0) (a 1) → AK_ 0 (a 0 0) (a 1) τ k) (h1 : τ 45 1 = it_ 1 (a 0 1) (a 2)) (k1 : ∀ k : Nat, (k : Int) < it_ 1 (a 0 1) (a 2) → AK_ 1 (a 0 1) (a 2) τ k) (h2 : τ 45 2 = it_ 2 (a 0 2) (a 3)) (k2 : ∀ k : Nat, (k : Int) < it_ 2 (a 0 2) (a 3) → AK_ 2 (a 0 2) (a 3) τ k) (hs : τ 38 12 = a 4 0) : HM_ (vv_ a) τ :=
  ⟨⟨h0, h1, h2⟩, fun k hk => k0 k hk, fun k hk => k1 k hk, fun k hk => k2 k hk, hs⟩
/-! nine steps are no more than as many as there are names -/
def xs_ (v : Mm_) (k : Int) : Nat → Int
  | 0 => k
  | n + 1 => v 5 (xs_ v k n).toNat
theorem xs_s {v : Mm_} {k : Int} : ∀ n, xs_ v k (n + 1) = xs_ v (v 5 k.toNat) n := by
  intro n
  induction n with
  | zero => rfl
  | succ n ih => show v 5 (xs_ v k (n + 1)).toNat = v 5 (xs_ v (v 5 k.toNat) n).toNat; rw [ih]
theorem be_xs {v : Mm_} : ∀ {n : Nat} {k : Int}, wN_ v k → (be_ v n k = -1 ↔ ∀ i, i < n → ¬ eb_ v (xs_ v k i)) := by
  intro n
  induction n with
  | zero => intro k hk; exact ⟨fun _ i hi => absurd hi (Nat.not_lt_zero _), fun _ => rfl⟩
  | succ n ih =>
    intro k hk
    unfold be_
    split
    · rename_i c
      exact ⟨fun z => by omega, fun z => absurd c (z 0 (by omega))⟩
    · rename_i c
      have hn : wN_ v (v 5 k.toNat) := Decidable.byContradiction (fun z => c (Or.inr (Or.inl z)))
      rw [ih hn]
      constructor
      · intro z i hi
        cases i with
        | zero => exact c
        | succ i => rw [xs_s]; exact z i (by omega)
      · intro z i hi
        have := z (i + 1) (by omega)
        rw [xs_s] at this
        exact this
theorem be_up {v : Mm_} : ∀ {n m : Nat} {k : Int}, wN_ v k → n ≤ m → be_ v n k ≠ -1 → be_ v m k = be_ v n k := by
  intro n
  induction n with
  | zero => intro m k _ _ h; exact absurd rfl h
  | succ n ih =>
    intro m k hk hm h
    obtain ⟨q, rfl⟩ : ∃ q, m = q + 1 := ⟨m - 1, by omega⟩
    rw [be_] at h
    rw [be_, be_]
    split
    · rfl
    · rename_i c
      rw [if_neg c] at h
      have hn : wN_ v (v 5 k.toNat) := Decidable.byContradiction (fun z => c (Or.inr (Or.inl z)))
      exact ih hn (by omega) h
theorem hole_ : ∀ (n : Nat) (g : Nat → Nat), (∀ i, i ≤ n → g i < n) → ∃ i j, i < j ∧ j ≤ n ∧ g i = g j := by
  intro n
  induction n with
  | zero => intro g h; exact absurd (h 0 (Nat.le_refl _)) (Nat.not_lt_zero _)
  | succ n ih =>
    intro g h
    by_cases hx : ∃ i, i ≤ n ∧ g i = g (n + 1)
    · obtain ⟨i, hi, e⟩ := hx
      exact ⟨i, n + 1, by omega, by omega, e⟩
    · have hne : ∀ i, i ≤ n → g i ≠ g (n + 1) := fun i hi e => hx ⟨i, hi, e⟩
      have hc := h (n + 1) (by omega)
      obtain ⟨i, j, hij, hj, e⟩ := ih (fun i => if g i = n then g (n + 1) else g i) (fun i hi => by
        have h1 := h i (by omega)
        have h2 := hne i hi
        show (if g i = n then g (n + 1) else g i) < n
        split <;> omega)
      have h1 := hne i (by omega)
      have h2 := hne j hj
      refine ⟨i, j, hij, by omega, ?_⟩
      have e : (if g i = n then g (n + 1) else g i) = (if g j = n then g (n + 1) else g j) := e
      split at e <;> split at e <;> omega
theorem be_9 {v : Mm_} (hW : WF_ v) {k : Int} (hk : wN_ v k) : be_ v 9 k = bb_ v k := by
  have wn := hW.n
  unfold bb_
  by_cases c : be_ v (v 3 0).toNat k = -1
  · rw [c]
    have h1 := (be_xs hk).mp c
    rw [be_xs hk]
    have hin : ∀ i, i ≤ (v 3 0).toNat → wN_ v (xs_ v k i) := by
      intro i
      cases i with
      | zero => intro _; exact hk
      | succ i =>
        intro hi
        have := h1 i (by omega)
        exact Decidable.byContradiction (fun z => this (Or.inr (Or.inl z)))
    obtain ⟨i, j, hij, hj, e⟩ := hole_ (v 3 0).toNat (fun i => (xs_ v k i).toNat) (fun i hi => by have := hin i hi; show (xs_ v k i).toNat < _; omega)
    have e : xs_ v k i = xs_ v k j := by
      have h2 := hin i (by omega)
      have h3 := hin j hj
      have e : (xs_ v k i).toNat = (xs_ v k j).toNat := e
      omega
    have hper : ∀ d, xs_ v k (i + d) = xs_ v k (j + d) := by
      intro d
      induction d with
      | zero => exact e
      | succ d ih => show v 5 (xs_ v k (i + d)).toNat = v 5 (xs_ v k (j + d)).toNat; rw [ih]
    have hall : ∀ N m, m ≤ N → ¬ eb_ v (xs_ v k m) := by
      intro N
      induction N with
      | zero => intro m hm; exact h1 m (by omega)
      | succ N ih =>
        intro m hm
        by_cases hmj : m < j
        · exact h1 m (by omega)
        · have := hper (m - j)
          rw [show j + (m - j) = m by omega] at this
          rw [← this]
          exact ih _ (by omega)
    intro m _
    exact hall m m (Nat.le_refl _)
  · exact be_up hk (by omega) c
section
variable {l : Launch} {D : Dt_} {a v σ : Mm_} {post : Option Av_ → Mm_ → Prop}
theorem ct_X7_reads (h : MR_ a σ) (hK : ∀ τ, HM_ (vv_ a) τ → MR_ a τ → Pf_ σ τ → post none τ) : V_ l D mX7_reads (CM_ D mX7_reads post) 0 [some (vr_ 38), none] [] σ := by
  refine V_iconst (pc := 0) dX7_reads_0 ?_
  refine V_istore_n (pc := 1) dX7_reads_1 rfl (by decide) rfl ?_
  show V_ _ _ _ _ _ [_, _] _ _
  refine V_iload_n (pc := 2) dX7_reads_2 rfl rfl ?_
  refine V_iconst (pc := 3) dX7_reads_3 ?_
  refine V_icmp_ge (tgt := 19) (pc := 4) dX7_reads_4 (by decide) (by constructor <;> omega) (by constructor <;> omega) (fun h4 => by exact absurd h4 (by decide)) (fun h4 => ?_)
  refine V_aload_n (pc := 7) dX7_reads_7 rfl rfl ?_
  refine V_iload_n (pc := 8) dX7_reads_8 rfl rfl ?_
  refine V_callV (pc := 9) (as := [_]) (rest := []) dX7_reads_9 ⟨kX7_119, iX7_readsText, by decide, by decide⟩ rc_38 rfl rfl (Nat.le_of_ble_eq_true rfl) (Nat.le_of_ble_eq_true rfl) ?_
  refine ct_X7_readsText_0 h.1.1.1 h.2.1.1 (fun τ0 m0 k0 f0 => ?_)
  have h := h.pf (f0.pf (by decide))
  have p0 := f0.pf (by decide)
  show V_ _ _ _ _ _ _ [_] _
  refine V_pop (pc := 12) dX7_reads_12 rfl ?_
  refine V_iinc (pc := 13) dX7_reads_13 rfl (by decide) rfl ?_
  show V_ _ _ _ _ _ [_, _] _ _
  refine V_goto (tgt := 2) (pc := 16) dX7_reads_16 (by decide) ?_
  refine V_iload_n (pc := 2) dX7_reads_2 rfl rfl ?_
  refine V_iconst (pc := 3) dX7_reads_3 ?_
  refine V_icmp_ge (tgt := 19) (pc := 4) dX7_reads_4 (by decide) (by constructor <;> omega) (by constructor <;> omega) (fun h4 => by exact absurd h4 (by decide)) (fun h4 => ?_)
  refine V_aload_n (pc := 7) dX7_reads_7 rfl rfl ?_
  refine V_iload_n (pc := 8) dX7_reads_8 rfl rfl ?_
  refine V_callV (pc := 9) (as := [_]) (rest := []) dX7_reads_9 ⟨kX7_119, iX7_readsText, by decide, by decide⟩ rc_38 rfl rfl (Nat.le_of_ble_eq_true rfl) (Nat.le_of_ble_eq_true rfl) ?_
  refine ct_X7_readsText_1 h.1.1.2.1 h.2.1.2.1 (fun τ1 m1 k1 f1 => ?_)
  have h := h.pf (f1.pf (by decide))
  have p1 := p0.tr (f1.pf (by decide))
  have m0 : τ1 45 0 = _ := (f1.2.2 0 (by decide)).trans m0
  have k0 : ∀ k : Nat, (k : Int) < it_ 0 (a 0 0) (a 1) → AK_ 0 (a 0 0) (a 1) τ1 k := fun k hk => by have := k0 k hk; unfold AK_ at this ⊢; rw [f1.1 46 (by decide) (by decide) (by decide)]; exact this
  show V_ _ _ _ _ _ _ [_] _
  refine V_pop (pc := 12) dX7_reads_12 rfl ?_
  refine V_iinc (pc := 13) dX7_reads_13 rfl (by decide) rfl ?_
  show V_ _ _ _ _ _ [_, _] _ _
  refine V_goto (tgt := 2) (pc := 16) dX7_reads_16 (by decide) ?_
  refine V_iload_n (pc := 2) dX7_reads_2 rfl rfl ?_
  refine V_iconst (pc := 3) dX7_reads_3 ?_
  refine V_icmp_ge (tgt := 19) (pc := 4) dX7_reads_4 (by decide) (by constructor <;> omega) (by constructor <;> omega) (fun h4 => by exact absurd h4 (by decide)) (fun h4 => ?_)
  refine V_aload_n (pc := 7) dX7_reads_7 rfl rfl ?_
  refine V_iload_n (pc := 8) dX7_reads_8 rfl rfl ?_
  refine V_callV (pc := 9) (as := [_]) (rest := []) dX7_reads_9 ⟨kX7_119, iX7_readsText, by decide, by decide⟩ rc_38 rfl rfl (Nat.le_of_ble_eq_true rfl) (Nat.le_of_ble_eq_true rfl) ?_
  refine ct_X7_readsText_2 h.1.1.2.2 h.2.1.2.2 (fun τ2 m2 k2 f2 => ?_)
  have h := h.pf (f2.pf (by decide))
  have p2 := p1.tr (f2.pf (by decide))
  have m0 : τ2 45 0 = _ := (f2.2.2 0 (by decide)).trans m0
  have m1 : τ2 45 1 = _ := (f2.2.2 1 (by decide)).trans m1
  have k0 : ∀ k : Nat, (k : Int) < it_ 0 (a 0 0) (a 1) → AK_ 0 (a 0 0) (a 1) τ2 k := fun k hk => by have := k0 k hk; unfold AK_ at this ⊢; rw [f2.1 46 (by decide) (by decide) (by decide)]; exact this
  have k1 : ∀ k : Nat, (k : Int) < it_ 1 (a 0 1) (a 2) → AK_ 1 (a 0 1) (a 2) τ2 k := fun k hk => by have := k1 k hk; unfold AK_ at this ⊢; rw [f2.1 47 (by decide) (by decide) (by decide)]; exact this
  show V_ _ _ _ _ _ _ [_] _
  refine V_pop (pc := 12) dX7_reads_12 rfl ?_
  refine V_iinc (pc := 13) dX7_reads_13 rfl (by decide) rfl ?_
  show V_ _ _ _ _ _ [_, _] _ _
  refine V_goto (tgt := 2) (pc := 16) dX7_reads_16 (by decide) ?_
  refine V_iload_n (pc := 2) dX7_reads_2 rfl rfl ?_
  refine V_iconst (pc := 3) dX7_reads_3 ?_
  refine V_icmp_ge (tgt := 19) (pc := 4) dX7_reads_4 (by decide) (by constructor <;> omega) (by constructor <;> omega) (fun h4 => ?_) (fun h4 => by exact absurd h4 (by decide))
  refine V_return (pc := 19) dX7_reads_19 rfl (fun hR => ?_)
  exact hK _ (HM_.of (a := a) (σ := σ) (fun _ _ => trivial) m0 k0 m1 k1 m2 k2 h.2.2.1.1) h p2
theorem lp_X7_bearerOf {n0 : Int} (hW : WF_ v) (hM : HM_ v σ) {B : Int} (h : post (some (vi_ B)) σ) : ∀ i : Nat, i ≤ 9 → ∀ q : Int, wN_ v q → be_ v (9 - i) q = B → V_ l D mX7_bearerOf (CM_ D mX7_bearerOf post) 4 [some (vr_ 38), some (vi_ n0), some (vi_ q), some (vi_ (i : Int)), none] [] σ := by
  have ws := hW.s
  have wn := hW.n
  have wl := hW.l
  have wk := hW.k
  refine up_ _ (fun i hi ih q hq hB => ?_)
  obtain ⟨k, rfl⟩ := i_nat hq.1
  refine V_iload_n (pc := 4) dX7_bearerOf_4 rfl rfl ?_
  refine V_bipush (pc := 5) dX7_bearerOf_5 (by decide) ?_
  refine V_icmp_ge (tgt := 66) (pc := 7) dX7_bearerOf_7 (by decide) (by constructor <;> omega) (by constructor <;> omega) (fun h7 => ?_) (fun h7 => ?_)
  · skip
    have e : 9 - i = 0 := by omega
    rw [e] at hB
    unfold be_ at hB
    refine V_iconst (pc := 66) dX7_bearerOf_66 ?_
    refine V_ireturn (pc := 67) dX7_bearerOf_67 rfl rfl (fun hR => ?_)
    first | (rw [hB]; exact h) | (rw [← hB] at h; exact h)
  · skip
    obtain ⟨f, hf⟩ : ∃ f, 9 - i = f + 1 := ⟨9 - i - 1, by omega⟩
    rw [hf] at hB
    unfold be_ at hB
    have wi := hW.ni (k := k) (by omega)
    refine V_aload_n (pc := 10) dX7_bearerOf_10 rfl rfl ?_
    refine V_getr (pc := 11) dX7_bearerOf_11 fX7_34 rfl gg_38 rfl ?_
    refine V_iconst (pc := 14) dX7_bearerOf_14 ?_
    refine V_iload_n (pc := 15) dX7_bearerOf_15 rfl rfl ?_
    refine V_imul (pc := 16) dX7_bearerOf_16 ?_
    refine V_iconst (pc := 17) dX7_bearerOf_17 ?_
    refine V_iadd (pc := 18) dX7_bearerOf_18 ?_
    refine V_iald (pc := 19) dX7_bearerOf_19 gg_47 (by omega) (by decide) (fun r19 => ?_)
    rw [show (3 * (k : Int) + 2).toNat = 3 * k + 2 by omega, (hM.ni (k := k) (by omega)).2.2] at r19 ⊢
    refine V_istore (pc := 20) dX7_bearerOf_20 (by decide) rfl ?_
    show V_ _ _ _ _ _ [_, _, _, _, _] _ _
    refine V_iload (pc := 22) dX7_bearerOf_22 rfl ?_
    refine V_iconst (pc := 24) dX7_bearerOf_24 ?_
    refine V_icmp_eq (tgt := 55) (pc := 25) dX7_bearerOf_25 (by decide) (by constructor <;> omega) (by constructor <;> omega) (fun h25 => ?_) (fun h25 => ?_)
    · skip
      rw [if_pos (show eb_ v (k : Int) from Or.inr (Or.inl (by show ¬ wN_ v (v 5 k); omega)))] at hB
      refine V_iload_n (pc := 55) dX7_bearerOf_55 rfl rfl ?_
      refine V_ireturn (pc := 56) dX7_bearerOf_56 rfl rfl (fun hR => ?_)
      first | (rw [hB]; exact h) | (rw [← hB] at h; exact h)
    · skip
      refine V_iload (pc := 28) dX7_bearerOf_28 rfl ?_
      refine V_iload_n (pc := 30) dX7_bearerOf_30 rfl rfl ?_
      refine V_icmp_eq (tgt := 55) (pc := 31) dX7_bearerOf_31 (by decide) (by constructor <;> omega) (by constructor <;> omega) (fun h31 => ?_) (fun h31 => ?_)
      · skip
        rw [if_pos (show eb_ v (k : Int) from Or.inl h31)] at hB
        refine V_iload_n (pc := 55) dX7_bearerOf_55 rfl rfl ?_
        refine V_ireturn (pc := 56) dX7_bearerOf_56 rfl rfl (fun hR => ?_)
        first | (rw [hB]; exact h) | (rw [← hB] at h; exact h)
      · skip
        refine V_aload_n (pc := 34) dX7_bearerOf_34 rfl rfl ?_
        refine V_iload (pc := 35) dX7_bearerOf_35 rfl ?_
        refine V_callV (pc := 37) (as := [_]) (rest := []) dX7_bearerOf_37 ⟨kX7_133, iX7_isName, by decide, by decide⟩ rc_38 rfl rfl (Nat.le_of_ble_eq_true rfl) (Nat.le_of_ble_eq_true rfl) ?_
        refine ct_X7_isName (by constructor <;> omega) hM.1.2.1 (by omega) ?_
        show V_ _ _ _ _ _ _ [_] _
        refine V_if_eq (tgt := 55) (pc := 40) dX7_bearerOf_40 (by decide) b2_rg (fun h40 => ?_) (fun h40 => ?_)
        · skip
          rw [b2_0] at h40
          rw [if_pos (show eb_ v (k : Int) from Or.inr (Or.inl h40))] at hB
          refine V_iload_n (pc := 55) dX7_bearerOf_55 rfl rfl ?_
          refine V_ireturn (pc := 56) dX7_bearerOf_56 rfl rfl (fun hR => ?_)
          first | (rw [hB]; exact h) | (rw [← hB] at h; exact h)
        · skip
          rw [b2_n0] at h40
          refine V_aload_n (pc := 43) dX7_bearerOf_43 rfl rfl ?_
          refine V_geti (pc := 44) dX7_bearerOf_44 fX7_136 rfl gg_38 rfl (fun r44 => ?_)
          rw [hM.st] at r44 ⊢
          refine V_iload (pc := 47) dX7_bearerOf_47 rfl ?_
          refine V_callS (pc := 49) (as := [_, _]) (rest := []) dX7_bearerOf_49 ⟨kX7_139, sX7_isIn, by decide, by decide⟩ rfl rfl (Nat.le_of_ble_eq_true rfl) (Nat.le_of_ble_eq_true rfl) ?_
          refine ct_X7_isIn (by omega) (by omega) ?_
          show V_ _ _ _ _ _ _ [_] _
          refine V_if_eq (tgt := 57) (pc := 52) dX7_bearerOf_52 (by decide) b2_rg (fun h52 => ?_) (fun h52 => ?_)
          · skip
            rw [b2_0] at h52
            rw [if_neg (show ¬ eb_ v (k : Int) from fun z => z.elim h31 (fun z => z.elim (fun z => z h40) (fun z => h52 z)))] at hB
            refine V_iload (pc := 57) dX7_bearerOf_57 rfl ?_
            refine V_istore_n (pc := 59) dX7_bearerOf_59 rfl (by decide) rfl ?_
            show V_ _ _ _ _ _ [_, _, _, _, _] _ _
            refine V_iinc (pc := 60) dX7_bearerOf_60 rfl (by decide) rfl ?_
            show V_ _ _ _ _ _ [_, _, _, _, _] _ _
            refine V_goto (tgt := 4) (pc := 63) dX7_bearerOf_63 (by decide) ?_
            refine V_none (k := 4) ?_
            show V_ _ _ _ _ _ [_, _, _, _, _] _ _
            exact V_cg (ih (by omega) (v 5 k) h40 (by rw [show 9 - (i + 1) = f by omega]; exact hB)) (by simp) rfl rfl
          · skip
            rw [b2_n0] at h52
            rw [if_pos (show eb_ v (k : Int) from Or.inr (Or.inr h52))] at hB
            refine V_iload_n (pc := 55) dX7_bearerOf_55 rfl rfl ?_
            refine V_ireturn (pc := 56) dX7_bearerOf_56 rfl rfl (fun hR => ?_)
            first | (rw [hB]; exact h) | (rw [← hB] at h; exact h)
theorem ct_X7_bearerOf {n0 : Int} (hW : WF_ v) (hM : HM_ v σ) (hn : wN_ v n0) (h : post (some (vi_ (bb_ v n0))) σ) : V_ l D mX7_bearerOf (CM_ D mX7_bearerOf post) 0 [some (vr_ 38), some (vi_ n0), none, none, none] [] σ := by
  refine V_iload_n (pc := 0) dX7_bearerOf_0 rfl rfl ?_
  refine V_istore_n (pc := 1) dX7_bearerOf_1 rfl (by decide) rfl ?_
  show V_ _ _ _ _ _ [_, _, _, _, _] _ _
  refine V_iconst (pc := 2) dX7_bearerOf_2 ?_
  refine V_istore_n (pc := 3) dX7_bearerOf_3 rfl (by decide) rfl ?_
  show V_ _ _ _ _ _ [_, _, _, _, _] _ _
  exact lp_X7_bearerOf hW hM h 0 (Nat.zero_le _) n0 hn (be_9 hW hn)
theorem ct_X7_stands {i : Nat} (hW : WF_ v) (hM : HM_ v σ) (hi : (i : Int) < v 7 0) (h : post (some (vi_ (b2_ (sd_ v i)))) σ) : V_ l D mX7_stands (CM_ D mX7_stands post) 0 [some (vr_ 38), some (vi_ (i : Int))] [] σ := by
  have ws := hW.s
  have wn := hW.n
  have wl := hW.l
  have wk := hW.k
  have wi := hW.li hi
  refine V_aload_n (pc := 0) dX7_stands_0 rfl rfl ?_
  refine V_aload_n (pc := 1) dX7_stands_1 rfl rfl ?_
  refine V_getr (pc := 2) dX7_stands_2 fX7_37 rfl gg_38 rfl ?_
  refine V_iconst (pc := 5) dX7_stands_5 ?_
  refine V_iload_n (pc := 6) dX7_stands_6 rfl rfl ?_
  refine V_imul (pc := 7) dX7_stands_7 ?_
  refine V_iald (pc := 8) dX7_stands_8 gg_48 (by omega) (by decide) (fun r8 => ?_)
  rw [show (3 * (i : Int)).toNat = 3 * i by omega, (hM.li hi).1] at r8 ⊢
  refine V_callV (pc := 9) (as := [_]) (rest := []) dX7_stands_9 ⟨kX7_127, iX7_isShip, by decide, by decide⟩ rc_38 rfl rfl (Nat.le_of_ble_eq_true rfl) (Nat.le_of_ble_eq_true rfl) ?_
  refine ct_X7_isShip (by constructor <;> omega) hM.1.1 (by omega) ?_
  show V_ _ _ _ _ _ _ [_] _
  refine V_if_eq (tgt := 56) (pc := 12) dX7_stands_12 (by decide) b2_rg (fun h12 => ?_) (fun h12 => ?_)
  · skip
    rw [b2_0] at h12
    rw [b2_f (fun z => h12 z.1)] at h
    refine V_iconst (pc := 56) dX7_stands_56 ?_
    refine V_ireturn (pc := 57) dX7_stands_57 rfl rfl (fun hR => ?_)
    exact h
  · skip
    rw [b2_n0] at h12
    refine V_aload_n (pc := 15) dX7_stands_15 rfl rfl ?_
    refine V_aload_n (pc := 16) dX7_stands_16 rfl rfl ?_
    refine V_getr (pc := 17) dX7_stands_17 fX7_37 rfl gg_38 rfl ?_
    refine V_iconst (pc := 20) dX7_stands_20 ?_
    refine V_iload_n (pc := 21) dX7_stands_21 rfl rfl ?_
    refine V_imul (pc := 22) dX7_stands_22 ?_
    refine V_iconst (pc := 23) dX7_stands_23 ?_
    refine V_iadd (pc := 24) dX7_stands_24 ?_
    refine V_iald (pc := 25) dX7_stands_25 gg_48 (by omega) (by decide) (fun r25 => ?_)
    rw [show (3 * (i : Int) + 1).toNat = 3 * i + 1 by omega, (hM.li hi).2.1] at r25 ⊢
    refine V_callV (pc := 26) (as := [_]) (rest := []) dX7_stands_26 ⟨kX7_133, iX7_isName, by decide, by decide⟩ rc_38 rfl rfl (Nat.le_of_ble_eq_true rfl) (Nat.le_of_ble_eq_true rfl) ?_
    refine ct_X7_isName (by constructor <;> omega) hM.1.2.1 (by omega) ?_
    show V_ _ _ _ _ _ _ [_] _
    refine V_if_eq (tgt := 56) (pc := 29) dX7_stands_29 (by decide) b2_rg (fun h29 => ?_) (fun h29 => ?_)
    · skip
      rw [b2_0] at h29
      rw [b2_f (fun z => h29 z.2.1)] at h
      refine V_iconst (pc := 56) dX7_stands_56 ?_
      refine V_ireturn (pc := 57) dX7_stands_57 rfl rfl (fun hR => ?_)
      exact h
    · skip
      rw [b2_n0] at h29
      refine V_aload_n (pc := 32) dX7_stands_32 rfl rfl ?_
      refine V_geti (pc := 33) dX7_stands_33 fX7_136 rfl gg_38 rfl (fun r33 => ?_)
      rw [hM.st] at r33 ⊢
      refine V_aload_n (pc := 36) dX7_stands_36 rfl rfl ?_
      refine V_getr (pc := 37) dX7_stands_37 fX7_37 rfl gg_38 rfl ?_
      refine V_iconst (pc := 40) dX7_stands_40 ?_
      refine V_iload_n (pc := 41) dX7_stands_41 rfl rfl ?_
      refine V_imul (pc := 42) dX7_stands_42 ?_
      refine V_iconst (pc := 43) dX7_stands_43 ?_
      refine V_iadd (pc := 44) dX7_stands_44 ?_
      refine V_iald (pc := 45) dX7_stands_45 gg_48 (by omega) (by decide) (fun r45 => ?_)
      rw [show (3 * (i : Int) + 1).toNat = 3 * i + 1 by omega, (hM.li hi).2.1] at r45 ⊢
      refine V_callS (pc := 46) (as := [_, _]) (rest := []) dX7_stands_46 ⟨kX7_139, sX7_isIn, by decide, by decide⟩ rfl rfl (Nat.le_of_ble_eq_true rfl) (Nat.le_of_ble_eq_true rfl) ?_
      refine ct_X7_isIn (by omega) (by omega) ?_
      show V_ _ _ _ _ _ _ [_] _
      refine V_if_ne (tgt := 56) (pc := 49) dX7_stands_49 (by decide) b2_rg (fun h49 => ?_) (fun h49 => ?_)
      · skip
        rw [b2_n0] at h49
        rw [b2_f (fun z => by rw [z.2.2] at h49; cases h49)] at h
        refine V_iconst (pc := 56) dX7_stands_56 ?_
        refine V_ireturn (pc := 57) dX7_stands_57 rfl rfl (fun hR => ?_)
        exact h
      · skip
        rw [b2_0] at h49
        rw [b2_t ⟨h12, h29, by simpa using h49⟩] at h
        refine V_iconst (pc := 52) dX7_stands_52 ?_
        refine V_goto (tgt := 57) (pc := 53) dX7_stands_53 (by decide) ?_
        refine V_ireturn (pc := 57) dX7_stands_57 rfl rfl (fun hR => ?_)
        exact h
theorem lp_X7_dueOf {j : Nat} (hW : WF_ v) (hM : HM_ v σ) (hj : (j : Int) < v 7 0) (hs : wS_ v (v 8 j)) (h : post (some (vi_ (da_ v j))) σ) : ∀ i : Nat, i ≤ (v 7 0).toNat → V_ l D mX7_dueOf (CM_ D mX7_dueOf post) 14 [some (vr_ 38), some (vi_ (j : Int)), some (vi_ (al_ v (v 8 j) i)), some (vi_ (i : Int))] [] σ := by
  have ws := hW.s
  have wn := hW.n
  have wl := hW.l
  have wk := hW.k
  have wj := hW.li hj
  have wz := hW.si (k := (v 8 j).toNat) (by omega)
  refine up_ _ (fun i hi ih => ?_)
  have wa := al_rg hW (s := v 8 j) (n := i) (by omega)
  refine V_iload_n (pc := 14) dX7_dueOf_14 rfl rfl ?_
  refine V_aload_n (pc := 15) dX7_dueOf_15 rfl rfl ?_
  refine V_getr (pc := 16) dX7_dueOf_16 fX7_28 rfl gg_38 rfl ?_
  refine V_iconst (pc := 19) dX7_dueOf_19 ?_
  refine V_iald (pc := 20) dX7_dueOf_20 gg_45 (by decide) (by decide) (fun r20 => ?_)
  rw [show σ 45 (2 : Int).toNat = v 7 0 from hM.1.2.2] at r20 ⊢
  refine V_icmp_ge (tgt := 74) (pc := 21) dX7_dueOf_21 (by decide) (by constructor <;> omega) (by constructor <;> omega) (fun h21 => ?_) (fun h21 => ?_)
  · skip
    have e : i = (v 7 0).toNat := by omega
    subst e
    refine V_aload_n (pc := 74) dX7_dueOf_74 rfl rfl ?_
    refine V_getr (pc := 75) dX7_dueOf_75 fX7_31 rfl gg_38 rfl ?_
    refine V_iconst (pc := 78) dX7_dueOf_78 ?_
    refine V_aload_n (pc := 79) dX7_dueOf_79 rfl rfl ?_
    refine V_getr (pc := 80) dX7_dueOf_80 fX7_37 rfl gg_38 rfl ?_
    refine V_iconst (pc := 83) dX7_dueOf_83 ?_
    refine V_iload_n (pc := 84) dX7_dueOf_84 rfl rfl ?_
    refine V_imul (pc := 85) dX7_dueOf_85 ?_
    refine V_iald (pc := 86) dX7_dueOf_86 gg_48 (by omega) (by decide) (fun r86 => ?_)
    rw [show (3 * (j : Int)).toNat = 3 * j by omega, (hM.li (k := j) (by omega)).1] at r86 ⊢
    refine V_imul (pc := 87) dX7_dueOf_87 ?_
    refine V_iald (pc := 88) dX7_dueOf_88 gg_46 (by omega) (by decide) (fun r88 => ?_)
    rw [show (2 * v 8 j).toNat = 2 * (v 8 j).toNat by omega, (hM.si (k := (v 8 j).toNat) (by omega)).1] at r88 ⊢
    refine V_istore_n (pc := 89) dX7_dueOf_89 rfl (by decide) rfl ?_
    show V_ _ _ _ _ _ [_, _, _, _] _ _
    refine V_iload_n (pc := 90) dX7_dueOf_90 rfl rfl ?_
    refine V_iload_n (pc := 91) dX7_dueOf_91 rfl rfl ?_
    refine V_icmp_le (tgt := 112) (pc := 92) dX7_dueOf_92 (by decide) (by constructor <;> omega) (by constructor <;> omega) (fun h92 => ?_) (fun h92 => ?_)
    · skip
      refine V_aload_n (pc := 112) dX7_dueOf_112 rfl rfl ?_
      refine V_getr (pc := 113) dX7_dueOf_113 fX7_37 rfl gg_38 rfl ?_
      refine V_iconst (pc := 116) dX7_dueOf_116 ?_
      refine V_iload_n (pc := 117) dX7_dueOf_117 rfl rfl ?_
      refine V_imul (pc := 118) dX7_dueOf_118 ?_
      refine V_iconst (pc := 119) dX7_dueOf_119 ?_
      refine V_iadd (pc := 120) dX7_dueOf_120 ?_
      refine V_iald (pc := 121) dX7_dueOf_121 gg_48 (by omega) (by decide) (fun r121 => ?_)
      rw [show (3 * (j : Int) + 2).toNat = 3 * j + 2 by omega, (hM.li (k := j) (by omega)).2.2] at r121 ⊢
      refine V_ireturn (pc := 122) dX7_dueOf_122 rfl rfl (fun hR => ?_)
      first | (unfold da_ at h; rw [if_pos (by omega)] at h; exact h) | (unfold da_ at h; rw [if_neg (by omega)] at h; exact h)
    · skip
      refine V_aload_n (pc := 95) dX7_dueOf_95 rfl rfl ?_
      refine V_getr (pc := 96) dX7_dueOf_96 fX7_37 rfl gg_38 rfl ?_
      refine V_iconst (pc := 99) dX7_dueOf_99 ?_
      refine V_iload_n (pc := 100) dX7_dueOf_100 rfl rfl ?_
      refine V_imul (pc := 101) dX7_dueOf_101 ?_
      refine V_iconst (pc := 102) dX7_dueOf_102 ?_
      refine V_iadd (pc := 103) dX7_dueOf_103 ?_
      refine V_iald (pc := 104) dX7_dueOf_104 gg_48 (by omega) (by decide) (fun r104 => ?_)
      rw [show (3 * (j : Int) + 2).toNat = 3 * j + 2 by omega, (hM.li (k := j) (by omega)).2.2] at r104 ⊢
      refine V_iload_n (pc := 105) dX7_dueOf_105 rfl rfl ?_
      refine V_imul (pc := 106) dX7_dueOf_106 ?_
      refine V_iload_n (pc := 107) dX7_dueOf_107 rfl rfl ?_
      refine V_idiv (pc := 108) dX7_dueOf_108 (by constructor <;> omega) (by omega) ?_
      rw [idiv_p ⟨Int.mul_nonneg (by omega) (by omega), Int.le_trans (Int.mul_le_mul (show v 10 j ≤ 99 by omega) (show v 1 (v 8 j).toNat ≤ 99 by omega) (by omega) (by decide)) (by decide)⟩ (by omega)]
      refine V_goto (tgt := 122) (pc := 109) dX7_dueOf_109 (by decide) ?_
      refine V_ireturn (pc := 122) dX7_dueOf_122 rfl rfl (fun hR => ?_)
      first | (unfold da_ at h; rw [if_pos (by omega)] at h; exact h) | (unfold da_ at h; rw [if_neg (by omega)] at h; exact h)
  · skip
    have wi := hW.li (k := i) (by omega)
    refine V_iload_n (pc := 24) dX7_dueOf_24 rfl rfl ?_
    refine V_aload_n (pc := 25) dX7_dueOf_25 rfl rfl ?_
    refine V_iload_n (pc := 26) dX7_dueOf_26 rfl rfl ?_
    refine V_callV (pc := 27) (as := [_]) (rest := [_]) dX7_dueOf_27 ⟨kX7_143, iX7_stands, by decide, by decide⟩ rc_38 rfl rfl (Nat.le_of_ble_eq_true rfl) (Nat.le_of_ble_eq_true rfl) ?_
    refine ct_X7_stands hW hM (by omega) ?_
    show V_ _ _ _ _ _ _ [_, _] _
    refine V_if_eq (tgt := 65) (pc := 30) dX7_dueOf_30 (by decide) b2_rg (fun h30 => ?_) (fun h30 => ?_)
    · skip
      rw [b2_0] at h30
      have e0 : (if v 8 i = v 8 j ∧ sd_ v i then v 10 i else 0) = 0 := if_neg (fun z => h30 z.2)
      refine V_iconst (pc := 65) dX7_dueOf_65 ?_
      refine V_iadd (pc := 66) dX7_dueOf_66 ?_
      refine V_istore_n (pc := 67) dX7_dueOf_67 rfl (by decide) rfl ?_
      show V_ _ _ _ _ _ [_, _, _, _] _ _
      refine V_iinc (pc := 68) dX7_dueOf_68 rfl (by decide) rfl ?_
      show V_ _ _ _ _ _ [_, _, _, _] _ _
      refine V_goto (tgt := 14) (pc := 71) dX7_dueOf_71 (by decide) ?_
      exact V_cg (ih (by omega)) (by simp only [al_, sm_]; rw [e0]; simp) rfl rfl
    · skip
      rw [b2_n0] at h30
      refine V_aload_n (pc := 33) dX7_dueOf_33 rfl rfl ?_
      refine V_getr (pc := 34) dX7_dueOf_34 fX7_37 rfl gg_38 rfl ?_
      refine V_iconst (pc := 37) dX7_dueOf_37 ?_
      refine V_iload_n (pc := 38) dX7_dueOf_38 rfl rfl ?_
      refine V_imul (pc := 39) dX7_dueOf_39 ?_
      refine V_iald (pc := 40) dX7_dueOf_40 gg_48 (by omega) (by decide) (fun r40 => ?_)
      rw [show (3 * (i : Int)).toNat = 3 * i by omega, (hM.li (k := i) (by omega)).1] at r40 ⊢
      refine V_aload_n (pc := 41) dX7_dueOf_41 rfl rfl ?_
      refine V_getr (pc := 42) dX7_dueOf_42 fX7_37 rfl gg_38 rfl ?_
      refine V_iconst (pc := 45) dX7_dueOf_45 ?_
      refine V_iload_n (pc := 46) dX7_dueOf_46 rfl rfl ?_
      refine V_imul (pc := 47) dX7_dueOf_47 ?_
      refine V_iald (pc := 48) dX7_dueOf_48 gg_48 (by omega) (by decide) (fun r48 => ?_)
      rw [show (3 * (j : Int)).toNat = 3 * j by omega, (hM.li (k := j) (by omega)).1] at r48 ⊢
      refine V_icmp_ne (tgt := 65) (pc := 49) dX7_dueOf_49 (by decide) (by constructor <;> omega) (by constructor <;> omega) (fun h49 => ?_) (fun h49 => ?_)
      · skip
        have e0 : (if v 8 i = v 8 j ∧ sd_ v i then v 10 i else 0) = 0 := if_neg (fun z => h49 z.1)
        refine V_iconst (pc := 65) dX7_dueOf_65 ?_
        refine V_iadd (pc := 66) dX7_dueOf_66 ?_
        refine V_istore_n (pc := 67) dX7_dueOf_67 rfl (by decide) rfl ?_
        show V_ _ _ _ _ _ [_, _, _, _] _ _
        refine V_iinc (pc := 68) dX7_dueOf_68 rfl (by decide) rfl ?_
        show V_ _ _ _ _ _ [_, _, _, _] _ _
        refine V_goto (tgt := 14) (pc := 71) dX7_dueOf_71 (by decide) ?_
        exact V_cg (ih (by omega)) (by simp only [al_, sm_]; rw [e0]; simp) rfl rfl
      · skip
        have e0 : (if v 8 i = v 8 j ∧ sd_ v i then v 10 i else 0) = v 10 i := if_pos ⟨h49, h30⟩
        refine V_aload_n (pc := 52) dX7_dueOf_52 rfl rfl ?_
        refine V_getr (pc := 53) dX7_dueOf_53 fX7_37 rfl gg_38 rfl ?_
        refine V_iconst (pc := 56) dX7_dueOf_56 ?_
        refine V_iload_n (pc := 57) dX7_dueOf_57 rfl rfl ?_
        refine V_imul (pc := 58) dX7_dueOf_58 ?_
        refine V_iconst (pc := 59) dX7_dueOf_59 ?_
        refine V_iadd (pc := 60) dX7_dueOf_60 ?_
        refine V_iald (pc := 61) dX7_dueOf_61 gg_48 (by omega) (by decide) (fun r61 => ?_)
        rw [show (3 * (i : Int) + 2).toNat = 3 * i + 2 by omega, (hM.li (k := i) (by omega)).2.2] at r61 ⊢
        refine V_goto (tgt := 66) (pc := 62) dX7_dueOf_62 (by decide) ?_
        refine V_iadd (pc := 66) dX7_dueOf_66 ?_
        refine V_istore_n (pc := 67) dX7_dueOf_67 rfl (by decide) rfl ?_
        show V_ _ _ _ _ _ [_, _, _, _] _ _
        refine V_iinc (pc := 68) dX7_dueOf_68 rfl (by decide) rfl ?_
        show V_ _ _ _ _ _ [_, _, _, _] _ _
        refine V_goto (tgt := 14) (pc := 71) dX7_dueOf_71 (by decide) ?_
        exact V_cg (ih (by omega)) (by simp only [al_, sm_]; rw [e0]; simp) rfl rfl
theorem ct_X7_dueOf {j : Nat} (hW : WF_ v) (hM : HM_ v σ) (hj : (j : Int) < v 7 0) (h : post (some (vi_ (du_ v j))) σ) : V_ l D mX7_dueOf (CM_ D mX7_dueOf post) 0 [some (vr_ 38), some (vi_ (j : Int)), none, none] [] σ := by
  refine V_aload_n (pc := 0) dX7_dueOf_0 rfl rfl ?_
  refine V_iload_n (pc := 1) dX7_dueOf_1 rfl rfl ?_
  refine V_callV (pc := 2) (as := [_]) (rest := []) dX7_dueOf_2 ⟨kX7_143, iX7_stands, by decide, by decide⟩ rc_38 rfl rfl (Nat.le_of_ble_eq_true rfl) (Nat.le_of_ble_eq_true rfl) ?_
  refine ct_X7_stands hW hM hj ?_
  show V_ _ _ _ _ _ _ [_] _
  refine V_if_ne (tgt := 10) (pc := 5) dX7_dueOf_5 (by decide) b2_rg (fun h5 => ?_) (fun h5 => ?_)
  · skip
    rw [b2_n0] at h5
    rw [show du_ v j = da_ v j from if_pos h5] at h
    refine V_iconst (pc := 10) dX7_dueOf_10 ?_
    refine V_istore_n (pc := 11) dX7_dueOf_11 rfl (by decide) rfl ?_
    show V_ _ _ _ _ _ [_, _, _, _] _ _
    refine V_iconst (pc := 12) dX7_dueOf_12 ?_
    refine V_istore_n (pc := 13) dX7_dueOf_13 rfl (by decide) rfl ?_
    show V_ _ _ _ _ _ [_, _, _, _] _ _
    exact V_cg (lp_X7_dueOf hW hM hj h5.1 h 0 (Nat.zero_le _)) (by simp [al_, sm_]) rfl rfl
  · skip
    rw [b2_0] at h5
    rw [show du_ v j = 0 from if_neg h5] at h
    refine V_iconst (pc := 8) dX7_dueOf_8 ?_
    refine V_ireturn (pc := 9) dX7_dueOf_9 rfl rfl (fun hR => ?_)
    exact h
theorem lp_X7_bearersOf {k : Int} (hW : WF_ v) (hM : HM_ v σ) (hk : Rg_ k) (h : post (some (vi_ (bs_ (fun j => decide (bb_ v (j : Int) = k)) (v 3 0).toNat))) σ) : ∀ i : Nat, i ≤ (v 3 0).toNat → V_ l D mX7_bearersOf (CM_ D mX7_bearersOf post) 4 [some (vr_ 38), some (vi_ k), some (vi_ (bs_ (fun j => decide (bb_ v (j : Int) = k)) i)), some (vi_ (i : Int))] [] σ := by
  have ws := hW.s
  have wn := hW.n
  have wl := hW.l
  have wk := hW.k
  refine up_ _ (fun i hi ih => ?_)
  have hb := bs_rg (fun j => decide (bb_ v (j : Int) = k)) i
  have q7 : ((2 ^ i : Nat) : Int) ≤ 256 := by
    have : 2 ^ i ≤ 2 ^ 8 := Nat.pow_le_pow_right (by decide) (by omega)
    omega
  refine V_iload_n (pc := 4) dX7_bearersOf_4 rfl rfl ?_
  refine V_aload_n (pc := 5) dX7_bearersOf_5 rfl rfl ?_
  refine V_getr (pc := 6) dX7_bearersOf_6 fX7_28 rfl gg_38 rfl ?_
  refine V_iconst (pc := 9) dX7_bearersOf_9 ?_
  refine V_iald (pc := 10) dX7_bearersOf_10 gg_45 (by decide) (by decide) (fun r10 => ?_)
  rw [show σ 45 (1 : Int).toNat = v 3 0 from hM.1.2.1] at r10 ⊢
  refine V_icmp_ge (tgt := 39) (pc := 11) dX7_bearersOf_11 (by decide) (by constructor <;> omega) (by constructor <;> omega) (fun h11 => ?_) (fun h11 => ?_)
  · skip
    refine V_iload_n (pc := 39) dX7_bearersOf_39 rfl rfl ?_
    refine V_ireturn (pc := 40) dX7_bearersOf_40 rfl rfl (fun hR => ?_)
    rw [show i = (v 3 0).toNat by omega]; exact h
  · skip
    refine V_iload_n (pc := 14) dX7_bearersOf_14 rfl rfl ?_
    refine V_aload_n (pc := 15) dX7_bearersOf_15 rfl rfl ?_
    refine V_iload_n (pc := 16) dX7_bearersOf_16 rfl rfl ?_
    refine V_callV (pc := 17) (as := [_]) (rest := [_]) dX7_bearersOf_17 ⟨kX7_152, iX7_bearerOf, by decide, by decide⟩ rc_38 rfl rfl (Nat.le_of_ble_eq_true rfl) (Nat.le_of_ble_eq_true rfl) ?_
    refine ct_X7_bearerOf hW hM ⟨by omega, by omega⟩ ?_
    show V_ _ _ _ _ _ _ [_, _] _
    have hbr := bb_rg (v := v) (k := (i : Int)) ⟨by omega, by omega⟩
    refine V_iload_n (pc := 20) dX7_bearersOf_20 rfl rfl ?_
    refine V_icmp_ne (tgt := 30) (pc := 21) dX7_bearersOf_21 (by decide) (by constructor <;> omega) hk (fun h21 => ?_) (fun h21 => ?_)
    · skip
      have e0 : bs_ (fun j => decide (bb_ v (j : Int) = k)) (i + 1) = bs_ (fun j => decide (bb_ v (j : Int) = k)) i := by show (if _ then _ else _) = _; rw [if_neg (by simp only [decide_eq_true_eq]; exact h21)]
      refine V_iconst (pc := 30) dX7_bearersOf_30 ?_
      refine V_ior (pc := 31) dX7_bearersOf_31 ?_
      refine V_istore_n (pc := 32) dX7_bearersOf_32 rfl (by decide) rfl ?_
      show V_ _ _ _ _ _ [_, _, _, _] _ _
      refine V_iinc (pc := 33) dX7_bearersOf_33 rfl (by decide) rfl ?_
      show V_ _ _ _ _ _ [_, _, _, _] _ _
      refine V_goto (tgt := 4) (pc := 36) dX7_bearersOf_36 (by decide) ?_
      exact V_cg (ih (by omega)) (by rw [e0]; (first | rw [or_0 (by omega)] | rw [bit_or (by omega) (by omega)]); simp) rfl rfl
    · skip
      have e0 : bs_ (fun j => decide (bb_ v (j : Int) = k)) (i + 1) = so_ (bs_ (fun j => decide (bb_ v (j : Int) = k)) i) i := by show (if _ then _ else _) = _; rw [if_pos (by simp only [decide_eq_true_eq]; exact h21)]
      refine V_iconst (pc := 24) dX7_bearersOf_24 ?_
      refine V_iload_n (pc := 25) dX7_bearersOf_25 rfl rfl ?_
      refine V_ishl (pc := 26) dX7_bearersOf_26 ?_
      refine V_goto (tgt := 31) (pc := 27) dX7_bearersOf_27 (by decide) ?_
      refine V_ior (pc := 31) dX7_bearersOf_31 ?_
      refine V_istore_n (pc := 32) dX7_bearersOf_32 rfl (by decide) rfl ?_
      show V_ _ _ _ _ _ [_, _, _, _] _ _
      refine V_iinc (pc := 33) dX7_bearersOf_33 rfl (by decide) rfl ?_
      show V_ _ _ _ _ _ [_, _, _, _] _ _
      refine V_goto (tgt := 4) (pc := 36) dX7_bearersOf_36 (by decide) ?_
      exact V_cg (ih (by omega)) (by rw [e0]; (first | rw [or_0 (by omega)] | rw [bit_or (by omega) (by omega)]); simp) rfl rfl
theorem ct_X7_bearersOf {k : Int} (hW : WF_ v) (hM : HM_ v σ) (hk : Rg_ k) (h : post (some (vi_ (bs_ (fun j => decide (bb_ v (j : Int) = k)) (v 3 0).toNat))) σ) : V_ l D mX7_bearersOf (CM_ D mX7_bearersOf post) 0 [some (vr_ 38), some (vi_ k), none, none] [] σ := by
  refine V_iconst (pc := 0) dX7_bearersOf_0 ?_
  refine V_istore_n (pc := 1) dX7_bearersOf_1 rfl (by decide) rfl ?_
  show V_ _ _ _ _ _ [_, _, _, _] _ _
  refine V_iconst (pc := 2) dX7_bearersOf_2 ?_
  refine V_istore_n (pc := 3) dX7_bearersOf_3 rfl (by decide) rfl ?_
  show V_ _ _ _ _ _ [_, _, _, _] _ _
  exact V_cg (lp_X7_bearersOf hW hM hk h 0 (Nat.zero_le _)) (by simp [bs_]) rfl rfl
theorem lp_X7_borneOf {s k : Int} (hW : WF_ v) (hM : HM_ v σ) (hs : Rg_ s) (hk : Rg_ k) (h : post (some (vi_ (bo_ v s k (v 7 0).toNat))) σ) : ∀ i : Nat, i ≤ (v 7 0).toNat → V_ l D mX7_borneOf (CM_ D mX7_borneOf post) 5 [some (vr_ 38), some (vi_ s), some (vi_ k), some (vi_ (bo_ v s k i)), some (vi_ (i : Int))] [] σ := by
  have ws := hW.s
  have wn := hW.n
  have wl := hW.l
  have wk := hW.k
  refine up_ _ (fun i hi ih => ?_)
  have hb := bo_rg hW (s := s) (k := k) (n := i) (by omega)
  refine V_iload (pc := 5) dX7_borneOf_5 rfl ?_
  refine V_aload_n (pc := 7) dX7_borneOf_7 rfl rfl ?_
  refine V_getr (pc := 8) dX7_borneOf_8 fX7_28 rfl gg_38 rfl ?_
  refine V_iconst (pc := 11) dX7_borneOf_11 ?_
  refine V_iald (pc := 12) dX7_borneOf_12 gg_45 (by decide) (by decide) (fun r12 => ?_)
  rw [show σ 45 (2 : Int).toNat = v 7 0 from hM.1.2.2] at r12 ⊢
  refine V_icmp_ge (tgt := 76) (pc := 13) dX7_borneOf_13 (by decide) (by constructor <;> omega) (by constructor <;> omega) (fun h13 => ?_) (fun h13 => ?_)
  · skip
    refine V_iload_n (pc := 76) dX7_borneOf_76 rfl rfl ?_
    refine V_ireturn (pc := 77) dX7_borneOf_77 rfl rfl (fun hR => ?_)
    rw [show i = (v 7 0).toNat by omega]; exact h
  · skip
    have wi := hW.li (k := i) (by omega)
    refine V_iload_n (pc := 16) dX7_borneOf_16 rfl rfl ?_
    refine V_aload_n (pc := 17) dX7_borneOf_17 rfl rfl ?_
    refine V_getr (pc := 18) dX7_borneOf_18 fX7_37 rfl gg_38 rfl ?_
    refine V_iconst (pc := 21) dX7_borneOf_21 ?_
    refine V_iload (pc := 22) dX7_borneOf_22 rfl ?_
    refine V_imul (pc := 24) dX7_borneOf_24 ?_
    refine V_iald (pc := 25) dX7_borneOf_25 gg_48 (by omega) (by decide) (fun r25 => ?_)
    rw [show (3 * (i : Int)).toNat = 3 * i by omega, (hM.li (k := i) (by omega)).1] at r25 ⊢
    refine V_iload_n (pc := 26) dX7_borneOf_26 rfl rfl ?_
    refine V_icmp_ne (tgt := 67) (pc := 27) dX7_borneOf_27 (by decide) (by constructor <;> omega) hs (fun h27 => ?_) (fun h27 => ?_)
    · skip
      have e0 : (if v 8 i = s ∧ sd_ v i ∧ bb_ v (v 9 i) = k then du_ v i else 0) = 0 := if_neg (fun z => h27 z.1)
      refine V_iconst (pc := 67) dX7_borneOf_67 ?_
      refine V_iadd (pc := 68) dX7_borneOf_68 ?_
      refine V_istore_n (pc := 69) dX7_borneOf_69 rfl (by decide) rfl ?_
      show V_ _ _ _ _ _ [_, _, _, _, _] _ _
      refine V_iinc (pc := 70) dX7_borneOf_70 rfl (by decide) rfl ?_
      show V_ _ _ _ _ _ [_, _, _, _, _] _ _
      refine V_goto (tgt := 5) (pc := 73) dX7_borneOf_73 (by decide) ?_
      exact V_cg (ih (by omega)) (by simp only [bo_, sm_]; rw [e0]; simp) rfl rfl
    · skip
      refine V_aload_n (pc := 30) dX7_borneOf_30 rfl rfl ?_
      refine V_iload (pc := 31) dX7_borneOf_31 rfl ?_
      refine V_callV (pc := 33) (as := [_]) (rest := [_]) dX7_borneOf_33 ⟨kX7_143, iX7_stands, by decide, by decide⟩ rc_38 rfl rfl (Nat.le_of_ble_eq_true rfl) (Nat.le_of_ble_eq_true rfl) ?_
      refine ct_X7_stands hW hM (by omega) ?_
      show V_ _ _ _ _ _ _ [_, _] _
      refine V_if_eq (tgt := 67) (pc := 36) dX7_borneOf_36 (by decide) b2_rg (fun h36 => ?_) (fun h36 => ?_)
      · skip
        rw [b2_0] at h36
        have e0 : (if v 8 i = s ∧ sd_ v i ∧ bb_ v (v 9 i) = k then du_ v i else 0) = 0 := if_neg (fun z => h36 z.2.1)
        refine V_iconst (pc := 67) dX7_borneOf_67 ?_
        refine V_iadd (pc := 68) dX7_borneOf_68 ?_
        refine V_istore_n (pc := 69) dX7_borneOf_69 rfl (by decide) rfl ?_
        show V_ _ _ _ _ _ [_, _, _, _, _] _ _
        refine V_iinc (pc := 70) dX7_borneOf_70 rfl (by decide) rfl ?_
        show V_ _ _ _ _ _ [_, _, _, _, _] _ _
        refine V_goto (tgt := 5) (pc := 73) dX7_borneOf_73 (by decide) ?_
        exact V_cg (ih (by omega)) (by simp only [bo_, sm_]; rw [e0]; simp) rfl rfl
      · skip
        rw [b2_n0] at h36
        refine V_aload_n (pc := 39) dX7_borneOf_39 rfl rfl ?_
        refine V_aload_n (pc := 40) dX7_borneOf_40 rfl rfl ?_
        refine V_getr (pc := 41) dX7_borneOf_41 fX7_37 rfl gg_38 rfl ?_
        refine V_iconst (pc := 44) dX7_borneOf_44 ?_
        refine V_iload (pc := 45) dX7_borneOf_45 rfl ?_
        refine V_imul (pc := 47) dX7_borneOf_47 ?_
        refine V_iconst (pc := 48) dX7_borneOf_48 ?_
        refine V_iadd (pc := 49) dX7_borneOf_49 ?_
        refine V_iald (pc := 50) dX7_borneOf_50 gg_48 (by omega) (by decide) (fun r50 => ?_)
        rw [show (3 * (i : Int) + 1).toNat = 3 * i + 1 by omega, (hM.li (k := i) (by omega)).2.1] at r50 ⊢
        refine V_callV (pc := 51) (as := [_]) (rest := [_]) dX7_borneOf_51 ⟨kX7_152, iX7_bearerOf, by decide, by decide⟩ rc_38 rfl rfl (Nat.le_of_ble_eq_true rfl) (Nat.le_of_ble_eq_true rfl) ?_
        refine ct_X7_bearerOf hW hM h36.2.1 ?_
        show V_ _ _ _ _ _ _ [_, _] _
        have hbr := bb_rg h36.2.1
        refine V_iload_n (pc := 54) dX7_borneOf_54 rfl rfl ?_
        refine V_icmp_ne (tgt := 67) (pc := 55) dX7_borneOf_55 (by decide) (by constructor <;> omega) hk (fun h55 => ?_) (fun h55 => ?_)
        · skip
          have e0 : (if v 8 i = s ∧ sd_ v i ∧ bb_ v (v 9 i) = k then du_ v i else 0) = 0 := if_neg (fun z => h55 z.2.2)
          refine V_iconst (pc := 67) dX7_borneOf_67 ?_
          refine V_iadd (pc := 68) dX7_borneOf_68 ?_
          refine V_istore_n (pc := 69) dX7_borneOf_69 rfl (by decide) rfl ?_
          show V_ _ _ _ _ _ [_, _, _, _, _] _ _
          refine V_iinc (pc := 70) dX7_borneOf_70 rfl (by decide) rfl ?_
          show V_ _ _ _ _ _ [_, _, _, _, _] _ _
          refine V_goto (tgt := 5) (pc := 73) dX7_borneOf_73 (by decide) ?_
          exact V_cg (ih (by omega)) (by simp only [bo_, sm_]; rw [e0]; simp) rfl rfl
        · skip
          have e0 : (if v 8 i = s ∧ sd_ v i ∧ bb_ v (v 9 i) = k then du_ v i else 0) = du_ v i := if_pos ⟨h27, h36, h55⟩
          refine V_aload_n (pc := 58) dX7_borneOf_58 rfl rfl ?_
          refine V_iload (pc := 59) dX7_borneOf_59 rfl ?_
          refine V_callV (pc := 61) (as := [_]) (rest := [_]) dX7_borneOf_61 ⟨kX7_146, iX7_dueOf, by decide, by decide⟩ rc_38 rfl rfl (Nat.le_of_ble_eq_true rfl) (Nat.le_of_ble_eq_true rfl) ?_
          refine ct_X7_dueOf hW hM (by omega) ?_
          show V_ _ _ _ _ _ _ [_, _] _
          refine V_goto (tgt := 68) (pc := 64) dX7_borneOf_64 (by decide) ?_
          refine V_iadd (pc := 68) dX7_borneOf_68 ?_
          refine V_istore_n (pc := 69) dX7_borneOf_69 rfl (by decide) rfl ?_
          show V_ _ _ _ _ _ [_, _, _, _, _] _ _
          refine V_iinc (pc := 70) dX7_borneOf_70 rfl (by decide) rfl ?_
          show V_ _ _ _ _ _ [_, _, _, _, _] _ _
          refine V_goto (tgt := 5) (pc := 73) dX7_borneOf_73 (by decide) ?_
          exact V_cg (ih (by omega)) (by simp only [bo_, sm_]; rw [e0]; simp) rfl rfl
theorem ct_X7_borneOf {s k : Int} (hW : WF_ v) (hM : HM_ v σ) (hs : Rg_ s) (hk : Rg_ k) (h : post (some (vi_ (bo_ v s k (v 7 0).toNat))) σ) : V_ l D mX7_borneOf (CM_ D mX7_borneOf post) 0 [some (vr_ 38), some (vi_ s), some (vi_ k), none, none] [] σ := by
  refine V_iconst (pc := 0) dX7_borneOf_0 ?_
  refine V_istore_n (pc := 1) dX7_borneOf_1 rfl (by decide) rfl ?_
  show V_ _ _ _ _ _ [_, _, _, _, _] _ _
  refine V_iconst (pc := 2) dX7_borneOf_2 ?_
  refine V_istore (pc := 3) dX7_borneOf_3 (by decide) rfl ?_
  show V_ _ _ _ _ _ [_, _, _, _, _] _ _
  exact V_cg (lp_X7_borneOf hW hM hs hk h 0 (Nat.zero_le _)) (by simp [bo_, sm_]) rfl rfl
theorem lp_X7_borneAll {k : Int} (hW : WF_ v) (hM : HM_ v σ) (hk : Rg_ k) (h : post (some (vi_ (bt2_ v k (v 0 0).toNat))) σ) : ∀ i : Nat, i ≤ (v 0 0).toNat → V_ l D mX7_borneAll (CM_ D mX7_borneAll post) 4 [some (vr_ 38), some (vi_ k), some (vi_ (bt2_ v k i)), some (vi_ (i : Int))] [] σ := by
  have ws := hW.s
  have wn := hW.n
  have wl := hW.l
  have wk := hW.k
  refine up_ _ (fun i hi ih => ?_)
  have hb := bt2_rg hW (k := k) (n := i) (by omega)
  refine V_iload_n (pc := 4) dX7_borneAll_4 rfl rfl ?_
  refine V_aload_n (pc := 5) dX7_borneAll_5 rfl rfl ?_
  refine V_getr (pc := 6) dX7_borneAll_6 fX7_28 rfl gg_38 rfl ?_
  refine V_iconst (pc := 9) dX7_borneAll_9 ?_
  refine V_iald (pc := 10) dX7_borneAll_10 gg_45 (by decide) (by decide) (fun r10 => ?_)
  rw [show σ 45 (0 : Int).toNat = v 0 0 from hM.1.1] at r10 ⊢
  refine V_icmp_ge (tgt := 29) (pc := 11) dX7_borneAll_11 (by decide) (by constructor <;> omega) (by constructor <;> omega) (fun h11 => ?_) (fun h11 => ?_)
  · skip
    refine V_iload_n (pc := 29) dX7_borneAll_29 rfl rfl ?_
    refine V_ireturn (pc := 30) dX7_borneAll_30 rfl rfl (fun hR => ?_)
    rw [show i = (v 0 0).toNat by omega]; exact h
  · skip
    refine V_iload_n (pc := 14) dX7_borneAll_14 rfl rfl ?_
    refine V_aload_n (pc := 15) dX7_borneAll_15 rfl rfl ?_
    refine V_iload_n (pc := 16) dX7_borneAll_16 rfl rfl ?_
    refine V_iload_n (pc := 17) dX7_borneAll_17 rfl rfl ?_
    refine V_callV (pc := 18) (as := [_, _]) (rest := [_]) dX7_borneAll_18 ⟨kX7_161, iX7_borneOf, by decide, by decide⟩ rc_38 rfl rfl (Nat.le_of_ble_eq_true rfl) (Nat.le_of_ble_eq_true rfl) ?_
    refine ct_X7_borneOf hW hM ⟨by omega, by omega⟩ hk ?_
    show V_ _ _ _ _ _ _ [_, _] _
    refine V_iadd (pc := 21) dX7_borneAll_21 ?_
    refine V_istore_n (pc := 22) dX7_borneAll_22 rfl (by decide) rfl ?_
    show V_ _ _ _ _ _ [_, _, _, _] _ _
    refine V_iinc (pc := 23) dX7_borneAll_23 rfl (by decide) rfl ?_
    show V_ _ _ _ _ _ [_, _, _, _] _ _
    refine V_goto (tgt := 4) (pc := 26) dX7_borneAll_26 (by decide) ?_
    exact V_cg (ih (by omega)) (by simp only [bt2_, sm_]; simp) rfl rfl
theorem ct_X7_borneAll {k : Int} (hW : WF_ v) (hM : HM_ v σ) (hk : Rg_ k) (h : post (some (vi_ (bt2_ v k (v 0 0).toNat))) σ) : V_ l D mX7_borneAll (CM_ D mX7_borneAll post) 0 [some (vr_ 38), some (vi_ k), none, none] [] σ := by
  refine V_iconst (pc := 0) dX7_borneAll_0 ?_
  refine V_istore_n (pc := 1) dX7_borneAll_1 rfl (by decide) rfl ?_
  show V_ _ _ _ _ _ [_, _, _, _] _ _
  refine V_iconst (pc := 2) dX7_borneAll_2 ?_
  refine V_istore_n (pc := 3) dX7_borneAll_3 rfl (by decide) rfl ?_
  show V_ _ _ _ _ _ [_, _, _, _] _ _
  exact V_cg (lp_X7_borneAll hW hM hk h 0 (Nat.zero_le _)) (by simp [bt2_, sm_]) rfl rfl
theorem lp_X7_haveAll {set : Int} (hW : WF_ v) (hM : HM_ v σ) (hs : 0 ≤ set ∧ set ≤ 255) (h : post (some (vi_ (hs_ v set (v 3 0).toNat))) σ) : ∀ i : Nat, i ≤ (v 3 0).toNat → V_ l D mX7_haveAll (CM_ D mX7_haveAll post) 4 [some (vr_ 38), some (vi_ set), some (vi_ (hs_ v set i)), some (vi_ (i : Int))] [] σ := by
  have ws := hW.s
  have wn := hW.n
  have wl := hW.l
  have wk := hW.k
  refine up_ _ (fun i hi ih => ?_)
  have hb := hs_rg hW (set := set) (n := i) (by omega)
  refine V_iload_n (pc := 4) dX7_haveAll_4 rfl rfl ?_
  refine V_aload_n (pc := 5) dX7_haveAll_5 rfl rfl ?_
  refine V_getr (pc := 6) dX7_haveAll_6 fX7_28 rfl gg_38 rfl ?_
  refine V_iconst (pc := 9) dX7_haveAll_9 ?_
  refine V_iald (pc := 10) dX7_haveAll_10 gg_45 (by decide) (by decide) (fun r10 => ?_)
  rw [show σ 45 (1 : Int).toNat = v 3 0 from hM.1.2.1] at r10 ⊢
  refine V_icmp_ge (tgt := 43) (pc := 11) dX7_haveAll_11 (by decide) (by constructor <;> omega) (by constructor <;> omega) (fun h11 => ?_) (fun h11 => ?_)
  · skip
    refine V_iload_n (pc := 43) dX7_haveAll_43 rfl rfl ?_
    refine V_ireturn (pc := 44) dX7_haveAll_44 rfl rfl (fun hR => ?_)
    rw [show i = (v 3 0).toNat by omega]; exact h
  · skip
    refine V_iload_n (pc := 14) dX7_haveAll_14 rfl rfl ?_
    refine V_iload_n (pc := 15) dX7_haveAll_15 rfl rfl ?_
    refine V_iload_n (pc := 16) dX7_haveAll_16 rfl rfl ?_
    refine V_callS (pc := 17) (as := [_, _]) (rest := [_]) dX7_haveAll_17 ⟨kX7_139, sX7_isIn, by decide, by decide⟩ rfl rfl (Nat.le_of_ble_eq_true rfl) (Nat.le_of_ble_eq_true rfl) ?_
    refine ct_X7_isIn (by omega) (by omega) ?_
    show V_ _ _ _ _ _ _ [_, _] _
    refine V_if_eq (tgt := 34) (pc := 20) dX7_haveAll_20 (by decide) b2_rg (fun h20 => ?_) (fun h20 => ?_)
    · skip
      rw [b2_0] at h20
      have e0 : (if bt_ set (i : Int) = true then v 4 i else 0) = 0 := if_neg h20
      refine V_iconst (pc := 34) dX7_haveAll_34 ?_
      refine V_iadd (pc := 35) dX7_haveAll_35 ?_
      refine V_istore_n (pc := 36) dX7_haveAll_36 rfl (by decide) rfl ?_
      show V_ _ _ _ _ _ [_, _, _, _] _ _
      refine V_iinc (pc := 37) dX7_haveAll_37 rfl (by decide) rfl ?_
      show V_ _ _ _ _ _ [_, _, _, _] _ _
      refine V_goto (tgt := 4) (pc := 40) dX7_haveAll_40 (by decide) ?_
      exact V_cg (ih (by omega)) (by simp only [hs_, sm_]; rw [e0]; simp) rfl rfl
    · skip
      rw [b2_n0] at h20
      have e0 : (if bt_ set (i : Int) = true then v 4 i else 0) = v 4 i := if_pos h20
      refine V_aload_n (pc := 23) dX7_haveAll_23 rfl rfl ?_
      refine V_getr (pc := 24) dX7_haveAll_24 fX7_34 rfl gg_38 rfl ?_
      refine V_iconst (pc := 27) dX7_haveAll_27 ?_
      refine V_iload_n (pc := 28) dX7_haveAll_28 rfl rfl ?_
      refine V_imul (pc := 29) dX7_haveAll_29 ?_
      refine V_iald (pc := 30) dX7_haveAll_30 gg_47 (by omega) (by decide) (fun r30 => ?_)
      rw [show (3 * (i : Int)).toNat = 3 * i by omega, (hM.ni (k := i) (by omega)).1] at r30 ⊢
      refine V_goto (tgt := 35) (pc := 31) dX7_haveAll_31 (by decide) ?_
      refine V_iadd (pc := 35) dX7_haveAll_35 ?_
      refine V_istore_n (pc := 36) dX7_haveAll_36 rfl (by decide) rfl ?_
      show V_ _ _ _ _ _ [_, _, _, _] _ _
      refine V_iinc (pc := 37) dX7_haveAll_37 rfl (by decide) rfl ?_
      show V_ _ _ _ _ _ [_, _, _, _] _ _
      refine V_goto (tgt := 4) (pc := 40) dX7_haveAll_40 (by decide) ?_
      exact V_cg (ih (by omega)) (by simp only [hs_, sm_]; rw [e0]; simp) rfl rfl
theorem ct_X7_haveAll {set : Int} (hW : WF_ v) (hM : HM_ v σ) (hs : 0 ≤ set ∧ set ≤ 255) (h : post (some (vi_ (hs_ v set (v 3 0).toNat))) σ) : V_ l D mX7_haveAll (CM_ D mX7_haveAll post) 0 [some (vr_ 38), some (vi_ set), none, none] [] σ := by
  refine V_iconst (pc := 0) dX7_haveAll_0 ?_
  refine V_istore_n (pc := 1) dX7_haveAll_1 rfl (by decide) rfl ?_
  show V_ _ _ _ _ _ [_, _, _, _] _ _
  refine V_iconst (pc := 2) dX7_haveAll_2 ?_
  refine V_istore_n (pc := 3) dX7_haveAll_3 rfl (by decide) rfl ?_
  show V_ _ _ _ _ _ [_, _, _, _] _ _
  exact V_cg (lp_X7_haveAll hW hM hs h 0 (Nat.zero_le _)) (by simp [hs_, sm_]) rfl rfl
end
