/-! ## class DrownedNamesModel: what was seen -/
def GM_ (w σ : Mm_) : Prop := σ 38 22 = w 0 0 ∧ ∀ i : Nat, (i : Int) < w 0 0 → σ 52 (2 * i) = w 1 i ∧ σ 52 (2 * i + 1) = w 2 i
theorem GM_.f4 {w σ τ : Mm_} (h : GM_ w σ) (e : F4_ σ τ) : GM_ w τ := by
  unfold GM_ at h ⊢
  rw [e.2 22 (by decide) (by decide) (by decide) (by decide), e.1 52 (by decide) (by decide) (by decide)]
  exact h
theorem GM_.ms {w σ : Mm_} {k j : Nat} {x : Int} (h : GM_ w σ) (hk : k ≠ 52) (hj : ¬ (k = 38 ∧ j = 22)) : GM_ w (ms_ σ k j x) := by
  unfold GM_ at h ⊢
  rw [ms_rw (fun z => hk z.symm)]
  by_cases c : k = 38
  · subst c; rw [ms_ne (by omega)]; exact h
  · rw [ms_nk (fun z => c z.symm)]; exact h
theorem HM_.sd {v σ : Mm_} {x : Int} (h : HM_ v σ) : HM_ v (ms_ σ 38 21 x) := h.cg (fun q hq => ms_rw (by omega)) (ms_ne (by decide))
theorem F4_.un {σ τ : Mm_} {x : Int} (h : F4_ (ms_ σ 38 21 x) τ) (hs : σ 38 21 = 255) : F4_ σ (ms_ τ 38 21 255) := ⟨fun q a b c => by rw [ms_rw a, h.1 q a b c, ms_rw a], fun j a b c d => by
  by_cases e : j = 21
  · subst e; rw [ms_eq, hs]
  · rw [ms_ne (by omega), h.2 j a b c d, ms_ne (by omega)]⟩
/-! groups of equal sums -/
noncomputable def cf_ (S : Nat → Int) (p : Int) (n : Nat) : Int := sm_ (fun j => b2_ (S j = p)) n
noncomputable def mx_ (S : Nat → Int) : Nat → Int
  | 0 => 0
  | n + 1 => if mx_ S n < cf_ S (S n) (n + 1) then cf_ S (S n) (n + 1) else mx_ S n
noncomputable def mz_ (S : Nat → Int) (n : Nat) : Nat → Int
  | 0 => 0
  | i + 1 => if mz_ S n i < cf_ S (S i) n then cf_ S (S i) n else mz_ S n i
theorem cf_s {S : Nat → Int} {p : Int} {n : Nat} : cf_ S p (n + 1) = cf_ S p n + b2_ (S n = p) := rfl
theorem cf_rg {S : Nat → Int} {p : Int} : ∀ n, 0 ≤ cf_ S p n ∧ cf_ S p n ≤ n := by
  intro n
  have := sm_rg (f := fun j => b2_ (S j = p)) (a := 1) (n := n) (fun i _ => b2_01)
  unfold cf_; omega
theorem cf_mn {S : Nat → Int} {p : Int} {n : Nat} : ∀ m, n ≤ m → cf_ S p n ≤ cf_ S p m := by
  intro m
  induction m with
  | zero => intro h; rw [show n = 0 by omega]; exact Int.le_refl _
  | succ m ih =>
    intro h
    by_cases c : n = m + 1
    · rw [c]; exact Int.le_refl _
    · have := ih (by omega)
      have hb := b2_01 (p := S m = p)
      rw [cf_s]; omega
theorem cf_mx {S : Nat → Int} : ∀ n p, cf_ S p n ≤ mx_ S n := by
  intro n
  induction n with
  | zero => intro p; exact Int.le_refl _
  | succ n ih =>
    intro p
    have h1 := ih p
    by_cases c : S n = p
    · subst c
      unfold mx_
      split <;> omega
    · rw [cf_s, b2_f c]
      unfold mx_
      split <;> omega
theorem mx_le {S : Nat → Int} {M : Int} (hM : 0 ≤ M) : ∀ n, (∀ i, i < n → cf_ S (S i) n ≤ M) → mx_ S n ≤ M := by
  intro n
  induction n with
  | zero => intro _; exact hM
  | succ n ih =>
    intro h
    have h1 := ih (fun i hi => Int.le_trans (cf_mn (n + 1) (by omega)) (h i (by omega)))
    have h2 := h n (by omega)
    unfold mx_
    split <;> omega
theorem mz_rg {S : Nat → Int} {n : Nat} : ∀ i, 0 ≤ mz_ S n i ∧ mz_ S n i ≤ mx_ S n ∧ ∀ j, j < i → cf_ S (S j) n ≤ mz_ S n i := by
  intro i
  induction i with
  | zero => exact ⟨Int.le_refl _, Int.le_trans (cf_rg n).1 (cf_mx n 0), fun j hj => absurd hj (Nat.not_lt_zero _)⟩
  | succ i ih =>
    have h1 := cf_mx (S := S) n (S i)
    obtain ⟨a1, a2, a3⟩ := ih
    unfold mz_
    split
    · rename_i c
      refine ⟨by omega, h1, fun j hj => ?_⟩
      by_cases e : j = i
      · subst e; exact Int.le_refl _
      · have := a3 j (by omega); omega
    · rename_i c
      refine ⟨a1, a2, fun j hj => ?_⟩
      by_cases e : j = i
      · subst e; omega
      · exact a3 j (by omega)
theorem mz_mx {S : Nat → Int} {n : Nat} : mz_ S n n = mx_ S n := by
  obtain ⟨a1, a2, a3⟩ := mz_rg (S := S) (n := n) n
  have := mx_le a1 n a3
  omega
theorem mx_n {S : Nat → Int} {n : Nat} : mx_ S n ≤ n := by
  induction n with
  | zero => exact Int.le_refl _
  | succ n ih =>
    have := cf_rg (S := S) (p := S n) (n + 1)
    unfold mx_
    split <;> omega
def SM_ (v w : Mm_) (s : Int) (n : Nat) (S : Nat → Int) : Prop := ∀ k, k < n → fz2_ v w k → S (hm_ v w k).toNat = a1_ v (k : Int) s
theorem hm_s {v w : Mm_} {n : Nat} : hm_ v w (n + 1) = hm_ v w n + b2_ (fz2_ v w n) := rfl
theorem cn_s {v w : Mm_} {s p : Int} {n : Nat} : cn_ v w s p (n + 1) = cn_ v w s p n + b2_ (fz2_ v w n ∧ a1_ v (n : Int) s = p) := rfl
theorem SM_.cn {v w : Mm_} {s : Int} {S : Nat → Int} {p : Int} : ∀ {n : Nat}, SM_ v w s n S → cn_ v w s p n = cf_ S p (hm_ v w n).toNat := by
  intro n
  induction n with
  | zero => intro _; rfl
  | succ n ih =>
    intro h
    have h1 := ih (fun k hk => h k (by omega))
    have h2 := hm_rg (v := v) (w := w) (n := n)
    rw [cn_s, hm_s, h1]
    by_cases c : fz2_ v w n
    · have h3 := h n (by omega) c
      rw [b2_t c, show (hm_ v w n + 1).toNat = (hm_ v w n).toNat + 1 by omega, cf_s, h3]
      congr 1
      by_cases e : a1_ v (n : Int) s = p
      · rw [b2_t e, b2_t ⟨c, e⟩]
      · rw [b2_f e, b2_f (fun z => e z.2)]
    · rw [b2_f c, b2_f (fun z => c z.1), Int.add_zero, Int.add_zero]
theorem SM_.gr {v w : Mm_} {s : Int} {S : Nat → Int} : ∀ {n : Nat}, SM_ v w s n S → gr_ v w s n = mx_ S (hm_ v w n).toNat := by
  intro n
  induction n with
  | zero => intro _; rfl
  | succ n ih =>
    intro h
    have h1 := ih (fun k hk => h k (by omega))
    have h2 := hm_rg (v := v) (w := w) (n := n)
    have h4 := h.cn (p := a1_ v (n : Int) s)
    by_cases c : fz2_ v w n
    · have h3 := h n (by omega) c
      have e : (hm_ v w (n + 1)).toNat = (hm_ v w n).toNat + 1 := by rw [hm_s, b2_t c]; omega
      rw [e] at h4 ⊢
      unfold gr_ mx_
      rw [if_pos (b2_t c), h4, h1]
      show _ = (if mx_ S (hm_ v w n).toNat < cf_ S (S (hm_ v w n).toNat) ((hm_ v w n).toNat + 1) then _ else _)
      rw [h3]
    · have e : (hm_ v w (n + 1)).toNat = (hm_ v w n).toNat := by rw [hm_s, b2_f c]; omega
      rw [e]
      unfold gr_
      rw [if_neg (by rw [b2_f c]; decide), h1]
theorem hm_le {v w : Mm_} {n : Nat} : (hm_ v w n = 0 ∧ le_ v w n = -1) ∨ (0 < hm_ v w n ∧ 0 ≤ le_ v w n) := by
  induction n with
  | zero => exact Or.inl ⟨rfl, rfl⟩
  | succ n ih =>
    rw [hm_s]
    unfold le_
    by_cases c : fz2_ v w n
    · rw [b2_t c]
      split <;> omega
    · rw [b2_f c]
      rw [if_neg (by omega)]
      omega
section
variable {l : Launch} {D : Dt_} {a v w u σ r : Mm_} {post : Option Av_ → Mm_ → Prop}
theorem lz_X7_isSeen (hW : WF_ v) (hw : WW_ w) {k : Nat} (hk : k ≤ 255) (hsd : σ 38 21 = 255) (hK : ∀ τ, F4_ σ τ → post (some (vi_ (b2_ (fz2_ v w k)))) τ) (hB : ¬ fz2_ v w k) {x : Int} {i : Nat} (hi : i ≤ 8) : ∀ τ, HM_ v τ → GM_ w τ → τ 38 21 = (k : Int) → F4_ (ms_ σ 38 21 (k : Int)) τ → V_ l D mX7_isSeen (CM_ D mX7_isSeen post) 9 [some (vr_ 38), some (vi_ x), some (vi_ 0), some (vi_ (i : Int))] [] τ := by
  intro τ hM hG hs21 hF
  have hw0 := hw.1
  have hp : ∀ τ, F4_ σ τ → post (some (vi_ 0)) τ := fun τ h => by have := hK τ h; rw [b2_f hB] at this; exact this
  refine V_iload_n (pc := 9) dX7_isSeen_9 rfl rfl ?_
  refine V_aload_n (pc := 10) dX7_isSeen_10 rfl rfl ?_
  refine V_geti (pc := 11) dX7_isSeen_11 fX7_236 rfl gg_38 rfl (fun r11 => ?_)
  rw [hG.1] at r11 ⊢
  refine V_icmp_ge (tgt := 71) (pc := 14) dX7_isSeen_14 (by decide) (by constructor <;> omega) (by constructor <;> omega) (fun h14 => ?_) (fun h14 => ?_)
  · skip
    refine V_aload_n (pc := 71) dX7_isSeen_71 rfl rfl ?_
    refine V_sipush (pc := 72) dX7_isSeen_72 (by decide) ?_
    refine V_puti (pc := 75) dX7_isSeen_75 fX7_55 rfl gg_38 rfl pq_7_21 rfl rfl (by constructor <;> omega) ?_
    refine V_iload_n (pc := 78) dX7_isSeen_78 rfl rfl ?_
    refine V_ireturn (pc := 79) dX7_isSeen_79 rfl rfl (fun hR => ?_)
    exact hp _ (hF.un hsd)
  · skip
    refine V_iload_n (pc := 17) dX7_isSeen_17 rfl rfl ?_
    refine V_if_eq (tgt := 71) (pc := 18) dX7_isSeen_18 (by decide) (by constructor <;> omega) (fun h18 => ?_) (fun h18 => by exact absurd h18 (by decide))
    refine V_aload_n (pc := 71) dX7_isSeen_71 rfl rfl ?_
    refine V_sipush (pc := 72) dX7_isSeen_72 (by decide) ?_
    refine V_puti (pc := 75) dX7_isSeen_75 fX7_55 rfl gg_38 rfl pq_7_21 rfl rfl (by constructor <;> omega) ?_
    refine V_iload_n (pc := 78) dX7_isSeen_78 rfl rfl ?_
    refine V_ireturn (pc := 79) dX7_isSeen_79 rfl rfl (fun hR => ?_)
    exact hp _ (hF.un hsd)
theorem lp_X7_isSeen (hW : WF_ v) (hw : WW_ w) {k : Nat} (hk : k ≤ 255) (hsd : σ 38 21 = 255) (hK : ∀ τ, F4_ σ τ → post (some (vi_ (b2_ (fz2_ v w k)))) τ) : ∀ i : Nat, i ≤ (w 0 0).toNat → ∀ τ, HM_ v τ → GM_ w τ → τ 38 21 = (k : Int) → F4_ (ms_ σ 38 21 (k : Int)) τ → (∀ j, j < i → a1_ v (k : Int) (w 1 j) = w 2 j) → V_ l D mX7_isSeen (CM_ D mX7_isSeen post) 9 [some (vr_ 38), some (vi_ (k : Int)), some (vi_ 1), some (vi_ (i : Int))] [] τ := by
  have hw0 := hw.1
  refine up_ _ (fun i hi ih τ hM hG hs21 hF hI => ?_)
  refine V_iload_n (pc := 9) dX7_isSeen_9 rfl rfl ?_
  refine V_aload_n (pc := 10) dX7_isSeen_10 rfl rfl ?_
  refine V_geti (pc := 11) dX7_isSeen_11 fX7_236 rfl gg_38 rfl (fun r11 => ?_)
  rw [hG.1] at r11 ⊢
  refine V_icmp_ge (tgt := 71) (pc := 14) dX7_isSeen_14 (by decide) (by constructor <;> omega) (by constructor <;> omega) (fun h14 => ?_) (fun h14 => ?_)
  · skip
    refine V_aload_n (pc := 71) dX7_isSeen_71 rfl rfl ?_
    refine V_sipush (pc := 72) dX7_isSeen_72 (by decide) ?_
    refine V_puti (pc := 75) dX7_isSeen_75 fX7_55 rfl gg_38 rfl pq_7_21 rfl rfl (by constructor <;> omega) ?_
    refine V_iload_n (pc := 78) dX7_isSeen_78 rfl rfl ?_
    refine V_ireturn (pc := 79) dX7_isSeen_79 rfl rfl (fun hR => ?_)
    have := hK _ (hF.un hsd)
    rw [b2_t (show fz2_ v w k from fun j hj => hI j (by omega))] at this
    exact this
  · skip
    have wi := hw.2 i (by omega)
    refine V_iload_n (pc := 17) dX7_isSeen_17 rfl rfl ?_
    refine V_if_eq (tgt := 71) (pc := 18) dX7_isSeen_18 (by decide) (by constructor <;> omega) (fun h18 => by exact absurd h18 (by decide)) (fun h18 => ?_)
    refine V_aload_n (pc := 21) dX7_isSeen_21 rfl rfl ?_
    refine V_aload_n (pc := 22) dX7_isSeen_22 rfl rfl ?_
    refine V_getr (pc := 23) dX7_isSeen_23 fX7_49 rfl gg_38 rfl ?_
    refine V_iconst (pc := 26) dX7_isSeen_26 ?_
    refine V_iload_n (pc := 27) dX7_isSeen_27 rfl rfl ?_
    refine V_imul (pc := 28) dX7_isSeen_28 ?_
    refine V_iald (pc := 29) dX7_isSeen_29 gg_52 (by omega) (by decide) (fun r29 => ?_)
    rw [show (2 * (i : Int)).toNat = 2 * i by omega, (hG.2 i (by omega)).1] at r29 ⊢
    refine V_callV (pc := 30) (as := [_]) (rest := []) dX7_isSeen_30 ⟨kX7_212, iX7_alone, by decide, by decide⟩ rc_38 rfl rfl (Nat.le_of_ble_eq_true rfl) (Nat.le_of_ble_eq_true rfl) ?_
    refine ct_X7_alone hW (by omega) (by omega) hM hs21 (fun ρ hB1 hB2 => ?_)
    have hG2 := hG.f4 hB2
    show V_ _ _ _ _ _ _ [] _
    refine V_aload_n (pc := 33) dX7_isSeen_33 rfl rfl ?_
    refine V_getr (pc := 34) dX7_isSeen_34 fX7_46 rfl gg_38 rfl ?_
    refine V_aload_n (pc := 37) dX7_isSeen_37 rfl rfl ?_
    refine V_getr (pc := 38) dX7_isSeen_38 fX7_49 rfl gg_38 rfl ?_
    refine V_iconst (pc := 41) dX7_isSeen_41 ?_
    refine V_iload_n (pc := 42) dX7_isSeen_42 rfl rfl ?_
    refine V_imul (pc := 43) dX7_isSeen_43 ?_
    refine V_iald (pc := 44) dX7_isSeen_44 gg_52 (by omega) (by decide) (fun r44 => ?_)
    rw [show (2 * (i : Int)).toNat = 2 * i by omega, (hG2.2 i (by omega)).1] at r44 ⊢
    obtain ⟨q, hq⟩ := i_nat wi.1.1
    rw [hq]
    refine V_ialdN (pc := 45) dX7_isSeen_45 gg_51 (by omega) (by decide) (fun r45 => ?_)
    rw [hB1.2.1 q (by omega)] at r45 ⊢
    have ha1 : si_ v (k : Int) 0 (w 1 i) (bg_ v) 1 q = a1_ v (k : Int) (w 1 i) := by unfold a1_; rw [show (w 1 i).toNat = q by omega]
    have ha := a1_rg hW (set := (k : Int)) (s := w 1 i) (by omega)
    rw [ha1] at r45 ⊢
    refine V_aload_n (pc := 46) dX7_isSeen_46 rfl rfl ?_
    refine V_getr (pc := 47) dX7_isSeen_47 fX7_49 rfl gg_38 rfl ?_
    refine V_iconst (pc := 50) dX7_isSeen_50 ?_
    refine V_iload_n (pc := 51) dX7_isSeen_51 rfl rfl ?_
    refine V_imul (pc := 52) dX7_isSeen_52 ?_
    refine V_iconst (pc := 53) dX7_isSeen_53 ?_
    refine V_iadd (pc := 54) dX7_isSeen_54 ?_
    refine V_iald (pc := 55) dX7_isSeen_55 gg_52 (by omega) (by decide) (fun r55 => ?_)
    rw [show (2 * (i : Int) + 1).toNat = 2 * i + 1 by omega, (hG2.2 i (by omega)).2] at r55 ⊢
    refine V_icmp_ne (tgt := 63) (pc := 56) dX7_isSeen_56 (by decide) (by constructor <;> omega) (by constructor <;> omega) (fun h56 => ?_) (fun h56 => ?_)
    · skip
      refine V_iconst (pc := 63) dX7_isSeen_63 ?_
      refine V_istore_n (pc := 64) dX7_isSeen_64 rfl (by decide) rfl ?_
      show V_ _ _ _ _ _ [_, _, _, _] _ _
      refine V_iinc (pc := 65) dX7_isSeen_65 rfl (by decide) rfl ?_
      show V_ _ _ _ _ _ [_, _, _, _] _ _
      refine V_goto (tgt := 9) (pc := 68) dX7_isSeen_68 (by decide) ?_
      exact V_cg (lz_X7_isSeen hW hw hk hsd hK (fun z => h56 (z i (by omega))) (x := (k : Int)) (i := i + 1) (by omega) _ (hM.f4 hB2) hG2 (hB2.sd hs21) (hF.tr hB2)) (by simp) rfl rfl
    · skip
      refine V_iconst (pc := 59) dX7_isSeen_59 ?_
      refine V_goto (tgt := 64) (pc := 60) dX7_isSeen_60 (by decide) ?_
      refine V_istore_n (pc := 64) dX7_isSeen_64 rfl (by decide) rfl ?_
      show V_ _ _ _ _ _ [_, _, _, _] _ _
      refine V_iinc (pc := 65) dX7_isSeen_65 rfl (by decide) rfl ?_
      show V_ _ _ _ _ _ [_, _, _, _] _ _
      refine V_goto (tgt := 9) (pc := 68) dX7_isSeen_68 (by decide) ?_
      exact V_cg (ih (by omega) _ (hM.f4 hB2) hG2 (hB2.sd hs21) (hF.tr hB2) (fun j hj => by by_cases c : j = i; (· subst c; exact h56); (· exact hI j (by omega)))) (by simp) rfl rfl
theorem ct_X7_isSeen (hW : WF_ v) (hw : WW_ w) {k : Nat} (hk : k ≤ 255) (hsd : σ 38 21 = 255) (hM : HM_ v σ) (hG : GM_ w σ) (hK : ∀ τ, F4_ σ τ → post (some (vi_ (b2_ (fz2_ v w k)))) τ) : V_ l D mX7_isSeen (CM_ D mX7_isSeen post) 0 [some (vr_ 38), some (vi_ (k : Int)), none, none] [] σ := by
  refine V_aload_n (pc := 0) dX7_isSeen_0 rfl rfl ?_
  refine V_iload_n (pc := 1) dX7_isSeen_1 rfl rfl ?_
  refine V_puti (pc := 2) dX7_isSeen_2 fX7_55 rfl gg_38 rfl pq_7_21 rfl rfl (by constructor <;> omega) ?_
  refine V_iconst (pc := 5) dX7_isSeen_5 ?_
  refine V_istore_n (pc := 6) dX7_isSeen_6 rfl (by decide) rfl ?_
  show V_ _ _ _ _ _ [_, _, _, _] _ _
  refine V_iconst (pc := 7) dX7_isSeen_7 ?_
  refine V_istore_n (pc := 8) dX7_isSeen_8 rfl (by decide) rfl ?_
  show V_ _ _ _ _ _ [_, _, _, _] _ _
  exact V_cg (lp_X7_isSeen hW hw hk hsd hK 0 (Nat.zero_le _) _ hM.sd (hG.ms (by decide) (by decide)) ms_eq F4_.rf (fun j hj => absurd hj (Nat.not_lt_zero _))) (by simp) rfl rfl
theorem lp_X7_soundOf (hW : WF_ v) (hw : WW_ w) {z : Int} (hz : Rg_ z) (hK : ∀ τ, F4_ σ τ → post (some (vi_ (if z = 0 then hm_ v w (ns_ v) else le_ v w (ns_ v)))) τ) : ∀ i : Nat, i ≤ ns_ v → ∀ τ, HM_ v τ → GM_ w τ → τ 38 21 = 255 → F4_ σ τ → V_ l D mX7_soundOf (CM_ D mX7_soundOf post) 7 [some (vr_ 38), some (vi_ z), some (vi_ (hm_ v w i)), some (vi_ (le_ v w i)), some (vi_ (i : Int))] [] τ := by
  have ws := hW.s
  have wn := hW.n
  have wl := hW.l
  have wk := hW.k
  have hns := ns_rg hW
  refine up_ _ (fun i hi ih τ hM hG hsd hF => ?_)
  have hh := hm_rg (v := v) (w := w) (n := i)
  have hl := le_rg (v := v) (w := w) (n := i)
  have hhl := hm_le (v := v) (w := w) (n := i)
  refine V_iload (pc := 7) dX7_soundOf_7 rfl ?_
  refine V_iconst (pc := 9) dX7_soundOf_9 ?_
  refine V_aload_n (pc := 10) dX7_soundOf_10 rfl rfl ?_
  refine V_getr (pc := 11) dX7_soundOf_11 fX7_28 rfl gg_38 rfl ?_
  refine V_iconst (pc := 14) dX7_soundOf_14 ?_
  refine V_iald (pc := 15) dX7_soundOf_15 gg_45 (by decide) (by decide) (fun r15 => ?_)
  rw [show τ 45 (1 : Int).toNat = v 3 0 from hM.1.2.1] at r15 ⊢
  refine V_ishl (pc := 16) dX7_soundOf_16 ?_
  rw [ns_sh hW]
  refine V_icmp_ge (tgt := 49) (pc := 17) dX7_soundOf_17 (by decide) (by first | assumption | (constructor <;> omega)) (by first | assumption | (constructor <;> omega)) (fun h17 => ?_) (fun h17 => ?_)
  · skip
    refine V_iload_n (pc := 49) dX7_soundOf_49 rfl rfl ?_
    refine V_if_ne (tgt := 57) (pc := 50) dX7_soundOf_50 (by decide) (by first | assumption | (constructor <;> omega)) (fun h50 => ?_) (fun h50 => ?_)
    · skip
      refine V_iload_n (pc := 57) dX7_soundOf_57 rfl rfl ?_
      refine V_ireturn (pc := 58) dX7_soundOf_58 rfl rfl (fun hR => ?_)
      have := hK _ hF
      rw [show ns_ v = i by omega] at this
      first | (rw [if_pos (by omega)] at this; exact this) | (rw [if_neg (by omega)] at this; exact this)
    · skip
      refine V_iload_n (pc := 53) dX7_soundOf_53 rfl rfl ?_
      refine V_goto (tgt := 58) (pc := 54) dX7_soundOf_54 (by decide) ?_
      refine V_ireturn (pc := 58) dX7_soundOf_58 rfl rfl (fun hR => ?_)
      have := hK _ hF
      rw [show ns_ v = i by omega] at this
      first | (rw [if_pos (by omega)] at this; exact this) | (rw [if_neg (by omega)] at this; exact this)
  · skip
    refine V_aload_n (pc := 20) dX7_soundOf_20 rfl rfl ?_
    refine V_iload (pc := 21) dX7_soundOf_21 rfl ?_
    refine V_callV (pc := 23) (as := [_]) (rest := []) dX7_soundOf_23 ⟨kX7_239, iX7_isSeen, by decide, by decide⟩ rc_38 rfl rfl (Nat.le_of_ble_eq_true rfl) (Nat.le_of_ble_eq_true rfl) ?_
    refine ct_X7_isSeen hW hw (k := i) (by omega) hsd hM hG (fun ρ hB => ?_)
    have hM2 := hM.f4 hB
    have hG2 := hG.f4 hB
    have hsd2 := hB.sd hsd
    have hF2 := hF.tr hB
    show V_ _ _ _ _ _ _ [_] _
    refine V_if_eq (tgt := 43) (pc := 26) dX7_soundOf_26 (by decide) b2_rg (fun h26 => ?_) (fun h26 => ?_)
    · skip
      rw [b2_0] at h26
      have e0 : hm_ v w (i + 1) = hm_ v w i := by rw [hm_s, b2_f h26, Int.add_zero]
      have e1 : le_ v w (i + 1) = le_ v w i := by rw [le_, if_neg (by rw [b2_f h26]; omega)]
      refine V_iinc (pc := 43) dX7_soundOf_43 rfl (by decide) rfl ?_
      show V_ _ _ _ _ _ [_, _, _, _, _] _ _
      refine V_goto (tgt := 7) (pc := 46) dX7_soundOf_46 (by decide) ?_
      exact V_cg (ih (by omega) _ hM2 hG2 hsd2 hF2) (by rw [e0, e1]; simp) rfl rfl
    · skip
      rw [b2_n0] at h26
      have e0 : hm_ v w (i + 1) = hm_ v w i + 1 := by rw [hm_s, b2_t h26]
      refine V_iload_n (pc := 29) dX7_soundOf_29 rfl rfl ?_
      refine V_if_ne (tgt := 38) (pc := 30) dX7_soundOf_30 (by decide) (by first | assumption | (constructor <;> omega)) (fun h30 => ?_) (fun h30 => ?_)
      · skip
        have e1 : le_ v w (i + 1) = le_ v w i := by rw [le_, if_neg (by omega)]
        refine V_iload_n (pc := 38) dX7_soundOf_38 rfl rfl ?_
        refine V_istore_n (pc := 39) dX7_soundOf_39 rfl (by decide) rfl ?_
        show V_ _ _ _ _ _ [_, _, _, _, _] _ _
        refine V_iinc (pc := 40) dX7_soundOf_40 rfl (by decide) rfl ?_
        show V_ _ _ _ _ _ [_, _, _, _, _] _ _
        refine V_iinc (pc := 43) dX7_soundOf_43 rfl (by decide) rfl ?_
        show V_ _ _ _ _ _ [_, _, _, _, _] _ _
        refine V_goto (tgt := 7) (pc := 46) dX7_soundOf_46 (by decide) ?_
        exact V_cg (ih (by omega) _ hM2 hG2 hsd2 hF2) (by rw [e0, e1]; simp) rfl rfl
      · skip
        have e1 : le_ v w (i + 1) = (i : Int) := by rw [le_, if_pos ⟨b2_t h26, by omega⟩]
        refine V_iload (pc := 33) dX7_soundOf_33 rfl ?_
        refine V_goto (tgt := 39) (pc := 35) dX7_soundOf_35 (by decide) ?_
        refine V_istore_n (pc := 39) dX7_soundOf_39 rfl (by decide) rfl ?_
        show V_ _ _ _ _ _ [_, _, _, _, _] _ _
        refine V_iinc (pc := 40) dX7_soundOf_40 rfl (by decide) rfl ?_
        show V_ _ _ _ _ _ [_, _, _, _, _] _ _
        refine V_iinc (pc := 43) dX7_soundOf_43 rfl (by decide) rfl ?_
        show V_ _ _ _ _ _ [_, _, _, _, _] _ _
        refine V_goto (tgt := 7) (pc := 46) dX7_soundOf_46 (by decide) ?_
        exact V_cg (ih (by omega) _ hM2 hG2 hsd2 hF2) (by rw [e0, e1]; simp) rfl rfl
theorem ct_X7_soundOf (hW : WF_ v) (hw : WW_ w) {z : Int} (hz : Rg_ z) (hM : HM_ v σ) (hG : GM_ w σ) (hsd : σ 38 21 = 255) (hK : ∀ τ, F4_ σ τ → post (some (vi_ (if z = 0 then hm_ v w (ns_ v) else le_ v w (ns_ v)))) τ) : V_ l D mX7_soundOf (CM_ D mX7_soundOf post) 0 [some (vr_ 38), some (vi_ z), none, none, none] [] σ := by
  refine V_iconst (pc := 0) dX7_soundOf_0 ?_
  refine V_istore_n (pc := 1) dX7_soundOf_1 rfl (by decide) rfl ?_
  show V_ _ _ _ _ _ [_, _, _, _, _] _ _
  refine V_iconst (pc := 2) dX7_soundOf_2 ?_
  refine V_istore_n (pc := 3) dX7_soundOf_3 rfl (by decide) rfl ?_
  show V_ _ _ _ _ _ [_, _, _, _, _] _ _
  refine V_iconst (pc := 4) dX7_soundOf_4 ?_
  refine V_istore (pc := 5) dX7_soundOf_5 (by decide) rfl ?_
  show V_ _ _ _ _ _ [_, _, _, _, _] _ _
  exact V_cg (lp_X7_soundOf hW hw hz hK 0 (Nat.zero_le _) _ hM hG hsd F4_.rf) (by simp [hm_, le_, sm_]) rfl rfl
end
