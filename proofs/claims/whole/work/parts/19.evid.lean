/-! ## no more is paid for a ship than its worth -/
theorem sm_le {f g : Nat → Int} : ∀ {n : Nat}, (∀ i, i < n → f i ≤ g i) → sm_ f n ≤ sm_ g n := by
  intro n
  induction n with
  | zero => intro _; exact Int.le_refl _
  | succ n ih => intro h; have h1 := ih (fun i hi => h i (by omega)); have h2 := h n (by omega); unfold sm_; omega
theorem fl_le {c : Nat → Prop} {a : Nat → Int} {W A : Int} (hA : 0 < A) : ∀ n, sm_ (fun i => b2_ (c i) * (a i * W / A)) n * A ≤ W * sm_ (fun i => b2_ (c i) * a i) n := by
  intro n
  induction n with
  | zero => simp [sm_]
  | succ n ih =>
    unfold sm_
    rw [Int.add_mul, Int.mul_add]
    refine Int.add_le_add ih ?_
    by_cases h : c n
    · rw [b2_t h, Int.one_mul, Int.one_mul, Int.mul_comm W]
      exact Int.ediv_mul_le _ (by omega)
    · rw [b2_f h]; simp
theorem b2_if {p : Prop} {x : Int} (hd : Decidable p) : b2_ p * x = @ite Int p hd x 0 := by
  by_cases h : p
  · rw [b2_t h, if_pos h]; simp
  · rw [b2_f h, if_neg h]; simp
theorem ds_le {v : Mm_} (hW : WF_ v) {s : Int} (hs : wS_ v s) : sm_ (fun i => b2_ (v 8 i = s ∧ sd_ v i) * da_ v i) (v 7 0).toNat ≤ v 1 s.toNat := by
  have ws := hW.si (k := s.toNat) (by omega)
  have e1 : al_ v s (v 7 0).toNat = sm_ (fun i => b2_ (v 8 i = s ∧ sd_ v i) * v 10 i) (v 7 0).toNat := by
    unfold al_
    exact sm_cg (fun i _ => (b2_if _).symm)
  by_cases c : v 1 s.toNat < al_ v s (v 7 0).toNat
  · have e2 : sm_ (fun i => b2_ (v 8 i = s ∧ sd_ v i) * da_ v i) (v 7 0).toNat = sm_ (fun i => b2_ (v 8 i = s ∧ sd_ v i) * (v 10 i * v 1 s.toNat / al_ v s (v 7 0).toNat)) (v 7 0).toNat := by
      refine sm_cg (fun i _ => ?_)
      by_cases h : v 8 i = s ∧ sd_ v i
      · congr 1
        unfold da_
        rw [h.1, if_pos c]
      · rw [b2_f h]; simp
    rw [e2]
    have h0 : 0 < al_ v s (v 7 0).toNat := by omega
    have h1 := fl_le (c := fun i => v 8 i = s ∧ sd_ v i) (a := fun i => v 10 i) (W := v 1 s.toNat) h0 (v 7 0).toNat
    rw [← e1] at h1
    exact Int.le_of_mul_le_mul_right h1 h0
  · have e2 : sm_ (fun i => b2_ (v 8 i = s ∧ sd_ v i) * da_ v i) (v 7 0).toNat = sm_ (fun i => b2_ (v 8 i = s ∧ sd_ v i) * v 10 i) (v 7 0).toNat := by
      refine sm_cg (fun i _ => ?_)
      by_cases h : v 8 i = s ∧ sd_ v i
      · congr 1
        unfold da_
        rw [h.1, if_neg c]
      · rw [b2_f h]; simp
    rw [e2, ← e1]
    omega
theorem py_p {yr : Int} {s b : Nat} {d dr : Int} {r : Mm_} : py_ yr s b d dr r 1 s = r 1 s + mn_ d (r 0 b) := by
  unfold py_
  split
  · rw [bk_n (by decide)]; simp [pz_, ms_]
  · simp [pz_, ms_]
theorem fl_p {v : Mm_} (hW : WF_ v) {snd yr s : Int} {r : Mm_} (hy : -1 ≤ yr ∧ yr ≤ 29) (h : RL_ v s.toNat 0 r) : ∀ {n : Nat}, (n : Int) ≤ v 7 0 → fo_ (ln_ v snd yr s) n r 1 s.toNat ≤ r 1 s.toNat + sm_ (fun i => b2_ (v 8 i = s ∧ sd_ v i) * da_ v i) n := by
  intro n
  induction n with
  | zero => intro _; simp [fo_, sm_]
  | succ n ih =>
    intro hn
    have h1 := ih (by omega)
    have hL := fl_RL hW (snd := snd) hy h (n := n) (by omega)
    show ln_ v snd yr s n (fo_ (ln_ v snd yr s) n r) 1 s.toNat ≤ r 1 s.toNat + (sm_ _ n + b2_ (v 8 n = s ∧ sd_ v n) * da_ v n)
    generalize fo_ (ln_ v snd yr s) n r = q at h1 hL ⊢
    by_cases c : v 8 n = s ∧ sd_ v n
    · rw [b2_t c]
      have hd := da_rg hW (i := n) (by omega) c.2.1
      unfold ln_
      split
      · rename_i z
        have hb := bb_rg z.2.1.2.1
        have hx := z.2.2.1
        have hm := mn_rg (d := du_ v n) (x := q 0 (bb_ v (v 9 n)).toNat) (du_rg hW (by omega)).1 (hL.1 _ (by omega)).1
        rw [py_p]
        have e : du_ v n = da_ v n := if_pos c.2
        rw [e] at hm ⊢
        omega
      · omega
    · rw [b2_f c]
      unfold ln_
      rw [if_neg (fun z => c ⟨z.1, z.2.1⟩)]
      omega
theorem a1_rg {v : Mm_} (hW : WF_ v) {set s : Int} (hs5 : 0 ≤ s ∧ s ≤ 5) : 0 ≤ a1_ v set s ∧ a1_ v set s ≤ 99 := by
  by_cases hs : wS_ v s
  · have h1 := (si_RW hW (snd := set) (yr := 0) (s := s) (by decide) (bg_RW hW)).2.1 s.toNat (by omega)
    have h2 := fl_p hW (snd := set) (yr := 0) (s := s) (by decide) ((bg_RW hW).go hW hs (by simp [bg_, bt_])) (n := (v 7 0).toNat) (by have := hW.l; omega)
    have h3 := ds_le hW hs
    have h4 := hW.si (k := s.toNat) (by omega)
    have e : a1_ v set s = fo_ (ln_ v set 0 s) (v 7 0).toNat (ms_ (bg_ v) 2 0 (so_ (bg_ v 2 0) s)) 1 s.toNat := by
      unfold a1_ si_
      rw [if_pos ⟨hs, by simp [bg_, bt_]⟩]
    have e2 : ms_ (bg_ v) 2 0 (so_ (bg_ v 2 0) s) 1 s.toNat = 0 := by simp [ms_, bg_]
    rw [e2] at h2
    rw [← e] at h2
    refine ⟨h1.1.1, ?_⟩
    omega
  · have e : a1_ v set s = 0 := by
      unfold a1_ si_
      rw [if_neg (fun z => hs z.1)]
      simp [bg_]
    omega
/-! ## class Evidence -/
def WW_ (w : Mm_) : Prop := (0 ≤ w 0 0 ∧ w 0 0 ≤ 8) ∧ ∀ i : Nat, (i : Int) < w 0 0 → (0 ≤ w 1 i ∧ w 1 i ≤ 5) ∧ (0 ≤ w 2 i ∧ w 2 i ≤ 999)
def WC_ (w σ : Mm_) : Prop := σ 32 2 = w 0 0 ∧ ∀ i : Nat, (i : Int) < w 0 0 → σ 33 i = w 1 i ∧ σ 34 i = w 2 i
def F6_ (σ σ' : Mm_) : Prop := ∀ a, a ≠ 29 → a ≠ 30 → a ≠ 31 → a ≠ 35 → a ≠ 36 → a ≠ 37 → σ' a = σ a
theorem F6_.rf {σ : Mm_} : F6_ σ σ := fun _ _ _ _ _ _ _ => rfl
theorem F6_.tr {σ σ' τ : Mm_} (h : F6_ σ σ') (h2 : F6_ σ' τ) : F6_ σ τ := fun a a1 a2 a3 a4 a5 a6 => (h2 a a1 a2 a3 a4 a5 a6).trans (h a a1 a2 a3 a4 a5 a6)
theorem F3_.f6 {σ σ' : Mm_} (h : F3_ σ σ') : F6_ σ σ' := fun a a1 a2 a3 _ _ _ => h a a1 a2 a3
theorem F6_.ms {σ σ' : Mm_} {k j : Nat} {x : Int} (h : F6_ σ σ') (hk : k = 35 ∨ k = 36 ∨ k = 37) : F6_ σ (ms_ σ' k j x) := fun a a1 a2 a3 a4 a5 a6 => by
  rw [ms_rw (by rcases hk with rfl | rfl | rfl <;> assumption)]; exact h a a1 a2 a3 a4 a5 a6
theorem F6_.wr {σ σ' : Mm_} {k n : Nat} {f : Nat → Int} (h : F6_ σ σ') (hk : k = 35 ∨ k = 36 ∨ k = 37) : F6_ σ (wr_ σ' k f n) := fun a a1 a2 a3 a4 a5 a6 => by
  rw [wr_rw (by rcases hk with rfl | rfl | rfl <;> assumption)]; exact h a a1 a2 a3 a4 a5 a6
theorem HC_.f6 {v σ σ' : Mm_} (h : HC_ v σ) (e : F6_ σ σ') : HC_ v σ' := h.cg (fun a b h1 h2 => by rw [e a (by omega) (by omega) (by omega) (by omega) (by omega) (by omega)])
theorem HD_.f6 {v σ σ' : Mm_} (h : HD_ v σ) (e : F6_ σ σ') : HD_ v σ' := h.cg (fun a b h1 h2 => by rw [e a (by omega) (by omega) (by omega) (by omega) (by omega) (by omega)])
theorem WC_.f6 {w σ σ' : Mm_} (h : WC_ w σ) (e : F6_ σ σ') : WC_ w σ' := ⟨by rw [e 32 (by decide) (by decide) (by decide) (by decide) (by decide) (by decide)]; exact h.1, fun i hi => by rw [e 33 (by decide) (by decide) (by decide) (by decide) (by decide) (by decide), e 34 (by decide) (by decide) (by decide) (by decide) (by decide) (by decide)]; exact h.2 i hi⟩
theorem LC_.f6 {u σ σ' : Mm_} (h : LC_ u σ) (e : F6_ σ σ') : LC_ u σ' := ⟨by rw [e 7 (by decide) (by decide) (by decide) (by decide) (by decide) (by decide)]; exact h.1, fun i hi => by rw [e 8 (by decide) (by decide) (by decide) (by decide) (by decide) (by decide), e 9 (by decide) (by decide) (by decide) (by decide) (by decide) (by decide)]; exact h.2 i hi⟩
/-- set pays as it was seen, n times -/
def fz_ (v w : Mm_) (set : Int) (n : Nat) : Prop := ∀ i, i < n → a1_ v set (w 1 i) = w 2 i
abbrev fz2_ (v w : Mm_) (set : Nat) : Prop := fz_ v w (set : Int) (w 0 0).toNat
noncomputable def hm_ (v w : Mm_) (n : Nat) : Int := sm_ (fun k => b2_ (fz2_ v w k)) n
noncomputable def le_ (v w : Mm_) : Nat → Int
  | 0 => -1
  | n + 1 => if b2_ (fz2_ v w n) = 1 ∧ le_ v w n = -1 then (n : Int) else le_ v w n
noncomputable def cn_ (v w : Mm_) (s : Int) (p : Int) (n : Nat) : Int := sm_ (fun k => b2_ (fz2_ v w k ∧ a1_ v (k : Int) s = p)) n
noncomputable def gr_ (v w : Mm_) (s : Int) : Nat → Int
  | 0 => 0
  | n + 1 => if b2_ (fz2_ v w n) = 1 then (if gr_ v w s n < cn_ v w s (a1_ v (n : Int) s) (n + 1) then cn_ v w s (a1_ v (n : Int) s) (n + 1) else gr_ v w s n) else gr_ v w s n
theorem b2_01 {p : Prop} : 0 ≤ b2_ p ∧ b2_ p ≤ 1 := by
  by_cases h : p
  · rw [b2_t h]; decide
  · rw [b2_f h]; decide
theorem hm_rg {v w : Mm_} {n : Nat} : 0 ≤ hm_ v w n ∧ hm_ v w n ≤ n := by
  have := sm_rg (f := fun k => b2_ (fz2_ v w k)) (a := 1) (n := n) (fun i _ => b2_01)
  unfold hm_; omega
theorem cn_rg {v w : Mm_} {s p : Int} {n : Nat} : 0 ≤ cn_ v w s p n ∧ cn_ v w s p n ≤ n := by
  have := sm_rg (f := fun k => b2_ (fz2_ v w k ∧ a1_ v (k : Int) s = p)) (a := 1) (n := n) (fun i _ => b2_01)
  unfold cn_; omega
theorem le_rg {v w : Mm_} : ∀ {n : Nat}, -1 ≤ le_ v w n ∧ le_ v w n ≤ n := by
  intro n
  induction n with
  | zero => simp [le_]
  | succ n ih => unfold le_; split <;> omega
theorem gr_rg {v w : Mm_} {s : Int} : ∀ {n : Nat}, 0 ≤ gr_ v w s n ∧ gr_ v w s n ≤ n := by
  intro n
  induction n with
  | zero => simp [gr_]
  | succ n ih =>
    have := cn_rg (v := v) (w := w) (s := s) (p := a1_ v (n : Int) s) (n := n + 1)
    unfold gr_
    split
    · split <;> omega
    · omega
def ns_ (v : Mm_) : Nat := 2 ^ (v 3 0).toNat
theorem ns_rg {v : Mm_} (hW : WF_ v) : 1 ≤ ns_ v ∧ ns_ v ≤ 256 := by
  have h := hW.n
  have h1 : 2 ^ (v 3 0).toNat ≤ 2 ^ 8 := Nat.pow_le_pow_right (by decide) (by omega)
  have h2 := Nat.one_le_two_pow (n := (v 3 0).toNat)
  unfold ns_; omega
theorem ns_sh {v : Mm_} (hW : WF_ v) : ishl_ 1 (v 3 0) = (ns_ v : Int) := by
  have h := hW.n
  obtain ⟨n, hn⟩ := i_nat h.1
  rw [hn, ishl_1 (by omega)]
  unfold ns_
  rw [hn]
  rfl
section
variable {l : Launch} {D : Dt_} {v u w σ r : Mm_} {post : Option Av_ → Mm_ → Prop}
theorem WC_.f3 (h : WC_ w σ) {σ' : Mm_} (e : F3_ σ σ') : WC_ w σ' := h.f6 e.f6
theorem lp_X0_fitsAllSeen (hW : WF_ v) (hw : WW_ w) {set : Int} (hs : 0 ≤ set ∧ set ≤ 255) (hK : ∀ σ1, F3_ σ σ1 → post (some (vi_ (b2_ (fz_ v w set (w 0 0).toNat)))) σ1) : ∀ i : Nat, i ≤ (w 0 0).toNat → ∀ τ, HC_ v τ → HD_ v τ → WC_ w τ → F3_ σ τ → (∀ j, j < i → a1_ v set (w 1 j) = w 2 j) → V_ l D mX0_fitsAllSeen (CM_ D mX0_fitsAllSeen post) 2 [some (vr_ 35), some (vi_ set), some (vi_ (i : Int))] [] τ := by
  have hn : ((w 0 0).toNat : Int) = w 0 0 := Int.toNat_of_nonneg hw.1.1
  have hw0 := hw.1
  refine up_ _ (fun i hi ih τ hC hD hL hF hj => ?_)
  refine V_iload_n (pc := 2) dX0_fitsAllSeen_2 rfl rfl ?_
  refine V_aload_n (pc := 3) dX0_fitsAllSeen_3 rfl rfl ?_
  refine V_getr (pc := 4) dX0_fitsAllSeen_4 fX0_27 rfl gg_35 rfl ?_
  refine V_geti (pc := 7) dX0_fitsAllSeen_7 fX0_54 rfl gg_32 rfl (fun r7 => ?_)
  rw [hL.1] at r7 ⊢
  refine V_icmp_ge (tgt := 50) (pc := 10) dX0_fitsAllSeen_10 (by decide) (by first | assumption | decide | omega | exact ba_rg hR | exact b2_rg) (by first | assumption | decide | omega | exact ba_rg hR | exact b2_rg) (fun h10 => ?_) (fun h10 => ?_)
  · skip
    refine V_iconst (pc := 50) dX0_fitsAllSeen_50 ?_
    refine V_ireturn (pc := 51) dX0_fitsAllSeen_51 rfl rfl (fun hR => ?_)
    have h2 := hK _ hF
    rw [b2_t (p := fz_ v w set (w 0 0).toNat) (fun j hjj => hj j (by omega))] at h2
    exact h2
  · skip
    have wi := hw.2 i (by omega)
    refine V_aload_n (pc := 13) dX0_fitsAllSeen_13 rfl rfl ?_
    refine V_getr (pc := 14) dX0_fitsAllSeen_14 fX0_23 rfl gg_35 rfl ?_
    refine V_aload_n (pc := 17) dX0_fitsAllSeen_17 rfl rfl ?_
    refine V_getr (pc := 18) dX0_fitsAllSeen_18 fX0_27 rfl gg_35 rfl ?_
    refine V_getr (pc := 21) dX0_fitsAllSeen_21 fX0_59 rfl gg_32 rfl ?_
    refine V_iload_n (pc := 24) dX0_fitsAllSeen_24 rfl rfl ?_
    refine V_ialdN (pc := 25) dX0_fitsAllSeen_25 gg_33 (by omega) (by decide) (fun r25 => ?_)
    rw [(hL.2 i (by omega)).1] at r25 ⊢
    refine V_iload_n (pc := 26) dX0_fitsAllSeen_26 rfl rfl ?_
    refine V_callV (pc := 27) (as := [_, _]) (rest := []) dX0_fitsAllSeen_27 ⟨kX0_62, iX3_loseAlone, by decide, by decide⟩ rc_29 rfl rfl (Nat.le_of_ble_eq_true rfl) (Nat.le_of_ble_eq_true rfl) ?_
    refine ct_X3_loseAlone hW hs (by omega) hC hD (fun σ1 hB1 hB2 => ?_)
    show V_ _ _ _ _ _ _ [_] _
    refine V_aload_n (pc := 30) dX0_fitsAllSeen_30 rfl rfl ?_
    refine V_getr (pc := 31) dX0_fitsAllSeen_31 fX0_27 rfl gg_35 rfl ?_
    refine V_getr (pc := 34) dX0_fitsAllSeen_34 fX0_68 rfl gg_32 rfl ?_
    refine V_iload_n (pc := 37) dX0_fitsAllSeen_37 rfl rfl ?_
    refine V_ialdN (pc := 38) dX0_fitsAllSeen_38 gg_34 (by omega) (by decide) (fun r38 => ?_)
    rw [((hL.f6 hB2.f6).2 i (by omega)).2] at r38 ⊢
    refine V_icmp_eq (tgt := 44) (pc := 39) dX0_fitsAllSeen_39 (by decide) (by have := a1_rg hW (set := set) (s := w 1 i) (by omega); constructor <;> omega) (by first | assumption | decide | omega | exact ba_rg hR | exact b2_rg) (fun h39 => ?_) (fun h39 => ?_)
    · skip
      refine V_iinc (pc := 44) dX0_fitsAllSeen_44 rfl (by decide) rfl ?_
      show V_ _ _ _ _ _ [_, _, _] _ _
      refine V_goto (tgt := 2) (pc := 47) dX0_fitsAllSeen_47 (by decide) ?_
      exact V_cg (ih (by omega) _ (hC.f3 hB2) (hD.f3 hB2) (hL.f6 hB2.f6) (hF.tr hB2) (fun j hjj => by
        by_cases c : j = i
        · rw [c]; exact h39
        · exact hj j (by omega))) (by simp) rfl rfl
    · skip
      refine V_iconst (pc := 42) dX0_fitsAllSeen_42 ?_
      refine V_ireturn (pc := 43) dX0_fitsAllSeen_43 rfl rfl (fun hR => ?_)
      have h2 := hK _ (hF.tr hB2)
      rw [b2_f (fun z => h39 (z i (by omega)))] at h2
      exact h2
theorem ct_X0_fitsAllSeen (hW : WF_ v) (hw : WW_ w) {set : Int} (hs : 0 ≤ set ∧ set ≤ 255) (hC : HC_ v σ) (hD : HD_ v σ) (hL : WC_ w σ) (hK : ∀ σ1, F3_ σ σ1 → post (some (vi_ (b2_ (fz_ v w set (w 0 0).toNat)))) σ1) : V_ l D mX0_fitsAllSeen (CM_ D mX0_fitsAllSeen post) 0 [some (vr_ 35), some (vi_ set), none] [] σ := by
  refine V_iconst (pc := 0) dX0_fitsAllSeen_0 ?_
  refine V_istore_n (pc := 1) dX0_fitsAllSeen_1 rfl (by decide) rfl ?_
  show V_ _ _ _ _ _ [_, _, _] _ _
  exact V_cg (lp_X0_fitsAllSeen hW hw hs hK 0 (Nat.zero_le _) _ hC hD hL F3_.rf (fun j hj => absurd hj (Nat.not_lt_zero _))) (by simp) rfl rfl
theorem lp_X0_weigh (hW : WF_ v) (hw : WW_ w) (hK : ∀ σ1, (σ1 35 5 = hm_ v w (ns_ v) ∧ σ1 35 6 = le_ v w (ns_ v) ∧ ∀ k, k < (ns_ v) → σ1 36 k = b2_ (fz2_ v w k)) → F6_ σ σ1 → post none σ1) : ∀ i : Nat, i ≤ ns_ v → ∀ τ, HC_ v τ → HD_ v τ → WC_ w τ → F6_ σ τ → (τ 35 5 = hm_ v w i ∧ τ 35 6 = le_ v w i ∧ ∀ k, k < i → τ 36 k = b2_ (fz2_ v w k)) → V_ l D mX0_weigh (CM_ D mX0_weigh post) 12 [some (vr_ 35), some (vi_ (i : Int))] [] τ := by
  have hn := ns_rg hW
  refine up_ _ (fun i hi ih τ hC hD hL hF hE => ?_)
  have hm := hm_rg (v := v) (w := w) (n := i)
  have hl := le_rg (v := v) (w := w) (n := i)
  refine V_iload_n (pc := 12) dX0_weigh_12 rfl rfl ?_
  refine V_iconst (pc := 13) dX0_weigh_13 ?_
  refine V_aload_n (pc := 14) dX0_weigh_14 rfl rfl ?_
  refine V_getr (pc := 15) dX0_weigh_15 fX0_19 rfl gg_35 rfl ?_
  refine V_geti (pc := 18) dX0_weigh_18 fX0_38 rfl gg_19 rfl (fun r18 => ?_)
  rw [hC.2.1] at r18 ⊢
  refine V_ishl (pc := 21) dX0_weigh_21 ?_
  rw [ns_sh hW]
  refine V_icmp_ge (tgt := 81) (pc := 22) dX0_weigh_22 (by decide) (by first | assumption | decide | omega | exact ba_rg hR | exact b2_rg) (by first | assumption | decide | omega | exact ba_rg hR | exact b2_rg) (fun h22 => ?_) (fun h22 => ?_)
  · skip
    refine V_return (pc := 81) dX0_weigh_81 rfl (fun hR => ?_)
    exact hK _ (by rw [show i = ns_ v by omega] at hE; exact hE) hF
  · skip
    refine V_aload_n (pc := 25) dX0_weigh_25 rfl rfl ?_
    refine V_getr (pc := 26) dX0_weigh_26 fX0_9 rfl gg_35 rfl ?_
    refine V_iload_n (pc := 29) dX0_weigh_29 rfl rfl ?_
    refine V_aload_n (pc := 30) dX0_weigh_30 rfl rfl ?_
    refine V_iload_n (pc := 31) dX0_weigh_31 rfl rfl ?_
    refine V_callV (pc := 32) (as := [_]) (rest := [_, _]) dX0_weigh_32 ⟨kX0_43, iX0_fitsAllSeen, by decide, by decide⟩ rc_35 rfl rfl (Nat.le_of_ble_eq_true rfl) (Nat.le_of_ble_eq_true rfl) ?_
    refine ct_X0_fitsAllSeen hW hw (by omega) hC hD hL (fun σ1 hB2 => ?_)
    show V_ _ _ _ _ _ _ [_, _, _] _
    have hE1 : σ1 35 = τ 35 := hB2 35 (by decide) (by decide) (by decide)
    have hE2 : σ1 36 = τ 36 := hB2 36 (by decide) (by decide) (by decide)
    refine V_zastN (pc := 35) dX0_weigh_35 gg_36 (by omega) (by decide) (by have := b2_01 (p := fz_ v w (i : Int) (w 0 0).toNat); omega) ?_
    refine V_aload_n (pc := 36) dX0_weigh_36 rfl rfl ?_
    refine V_getr (pc := 37) dX0_weigh_37 fX0_9 rfl gg_35 rfl ?_
    refine V_iload_n (pc := 40) dX0_weigh_40 rfl rfl ?_
    refine V_zaldN (pc := 41) dX0_weigh_41 gg_36 (by omega) (by decide) (fun r41 => ?_)
    rw [show ms_ σ1 36 i (b2_ (fz2_ v w i)) 36 i = b2_ (fz2_ v w i) from ms_eq] at r41 ⊢
    refine V_if_eq (tgt := 75) (pc := 42) dX0_weigh_42 (by decide) b2_rg (fun h42 => ?_) (fun h42 => ?_)
    · skip
      rw [b2_0] at h42
      refine V_iinc (pc := 75) dX0_weigh_75 rfl (by decide) rfl ?_
      show V_ _ _ _ _ _ [_, _] _ _
      refine V_goto (tgt := 12) (pc := 78) dX0_weigh_78 (by decide) ?_
      have hF2 : F6_ τ (ms_ σ1 36 i (b2_ (fz2_ v w i))) := hB2.f6.ms (by simp)
      exact V_cg (ih (by omega) _ (hC.f6 hF2) (hD.f6 hF2) (hL.f6 hF2) (hF.tr hF2) ⟨by rw [ms_nk (by decide), hE1, hE.1]; show _ = hm_ v w i + b2_ (fz2_ v w i); rw [b2_f h42]; simp, by rw [ms_nk (by decide), hE1, hE.2.1]; show _ = (if _ then _ else _); rw [if_neg (fun z => by have := z.1; rw [b2_f h42] at this; exact absurd this (by decide))], fun k hk => by
        by_cases c : k = i
        · rw [c]; exact ms_eq
        · rw [ms_ne (fun z => c z.2), hE2]; exact hE.2.2 k (by omega)⟩) (by simp) rfl rfl
    · skip
      rw [b2_n0] at h42
      refine V_aload_n (pc := 45) dX0_weigh_45 rfl rfl ?_
      refine V_dup (pc := 46) dX0_weigh_46 rfl ?_
      refine V_geti (pc := 47) dX0_weigh_47 fX0_31 rfl gg_35 rfl (fun r47 => ?_)
      rw [show ms_ σ1 36 i (b2_ (fz2_ v w i)) 35 5 = hm_ v w i from by rw [ms_nk (by decide), hE1]; exact hE.1] at r47 ⊢
      refine V_iconst (pc := 50) dX0_weigh_50 ?_
      refine V_iadd (pc := 51) dX0_weigh_51 ?_
      refine V_puti (pc := 52) dX0_weigh_52 fX0_31 rfl gg_35 rfl pq_0_5 rfl rfl (by constructor <;> omega) ?_
      refine V_aload_n (pc := 55) dX0_weigh_55 rfl rfl ?_
      refine V_aload_n (pc := 56) dX0_weigh_56 rfl rfl ?_
      refine V_geti (pc := 57) dX0_weigh_57 fX0_35 rfl gg_35 rfl (fun r57 => ?_)
      rw [show ∀ z, ms_ (ms_ σ1 36 i (b2_ (fz2_ v w i))) 35 5 z 35 6 = le_ v w i from fun z => by rw [ms_ne (by decide), ms_nk (by decide), hE1]; exact hE.2.1] at r57 ⊢
      refine V_iconst (pc := 60) dX0_weigh_60 ?_
      refine V_icmp_ne (tgt := 68) (pc := 61) dX0_weigh_61 (by decide) (by first | assumption | decide | omega | exact ba_rg hR | exact b2_rg) (by first | assumption | decide | omega | exact ba_rg hR | exact b2_rg) (fun h61 => ?_) (fun h61 => ?_)
      · skip
        refine V_aload_n (pc := 68) dX0_weigh_68 rfl rfl ?_
        refine V_geti (pc := 69) dX0_weigh_69 fX0_35 rfl gg_35 rfl (fun r69 => ?_)
        rw [show ∀ z, ms_ (ms_ σ1 36 i (b2_ (fz2_ v w i))) 35 5 z 35 6 = le_ v w i from fun z => by rw [ms_ne (by decide), ms_nk (by decide), hE1]; exact hE.2.1] at r69 ⊢
        refine V_puti (pc := 72) dX0_weigh_72 fX0_35 rfl gg_35 rfl pq_0_6 rfl rfl (by constructor <;> omega) ?_
        refine V_iinc (pc := 75) dX0_weigh_75 rfl (by decide) rfl ?_
        show V_ _ _ _ _ _ [_, _] _ _
        refine V_goto (tgt := 12) (pc := 78) dX0_weigh_78 (by decide) ?_
        have hF2 : F6_ τ (ms_ (ms_ (ms_ σ1 36 i (b2_ (fz2_ v w i))) 35 5 (hm_ v w i + 1)) 35 6 (le_ v w i)) := ((hB2.f6.ms (by simp)).ms (by simp)).ms (by simp)
        exact V_cg (ih (by omega) _ (hC.f6 hF2) (hD.f6 hF2) (hL.f6 hF2) (hF.tr hF2) ⟨by rw [ms_ne (by decide), ms_eq]; show _ = hm_ v w i + b2_ (fz2_ v w i); rw [b2_t h42], by rw [ms_eq]; show _ = (if _ then _ else _); rw [if_neg (fun z => h61 z.2)], fun k hk => by
          rw [ms_nk (by decide), ms_nk (by decide)]
          by_cases c : k = i
          · rw [c]; exact ms_eq
          · rw [ms_ne (fun z => c z.2), hE2]; exact hE.2.2 k (by omega)⟩) (by simp) rfl rfl
      · skip
        refine V_iload_n (pc := 64) dX0_weigh_64 rfl rfl ?_
        refine V_goto (tgt := 72) (pc := 65) dX0_weigh_65 (by decide) ?_
        refine V_puti (pc := 72) dX0_weigh_72 fX0_35 rfl gg_35 rfl pq_0_6 rfl rfl (by constructor <;> omega) ?_
        refine V_iinc (pc := 75) dX0_weigh_75 rfl (by decide) rfl ?_
        show V_ _ _ _ _ _ [_, _] _ _
        refine V_goto (tgt := 12) (pc := 78) dX0_weigh_78 (by decide) ?_
        have hF2 : F6_ τ (ms_ (ms_ (ms_ σ1 36 i (b2_ (fz2_ v w i))) 35 5 (hm_ v w i + 1)) 35 6 (i : Int)) := ((hB2.f6.ms (by simp)).ms (by simp)).ms (by simp)
        exact V_cg (ih (by omega) _ (hC.f6 hF2) (hD.f6 hF2) (hL.f6 hF2) (hF.tr hF2) ⟨by rw [ms_ne (by decide), ms_eq]; show _ = hm_ v w i + b2_ (fz2_ v w i); rw [b2_t h42], by rw [ms_eq]; show _ = (if _ then _ else _); rw [if_pos ⟨b2_t h42, h61⟩], fun k hk => by
          rw [ms_nk (by decide), ms_nk (by decide)]
          by_cases c : k = i
          · rw [c]; exact ms_eq
          · rw [ms_ne (fun z => c z.2), hE2]; exact hE.2.2 k (by omega)⟩) (by simp) rfl rfl
theorem ct_X0_weigh (hW : WF_ v) (hw : WW_ w) (hC : HC_ v σ) (hD : HD_ v σ) (hL : WC_ w σ) (hK : ∀ σ1, (σ1 35 5 = hm_ v w (ns_ v) ∧ σ1 35 6 = le_ v w (ns_ v) ∧ ∀ k, k < (ns_ v) → σ1 36 k = b2_ (fz2_ v w k)) → F6_ σ σ1 → post none σ1) : V_ l D mX0_weigh (CM_ D mX0_weigh post) 0 [some (vr_ 35), none] [] σ := by
  refine V_aload_n (pc := 0) dX0_weigh_0 rfl rfl ?_
  refine V_iconst (pc := 1) dX0_weigh_1 ?_
  refine V_puti (pc := 2) dX0_weigh_2 fX0_31 rfl gg_35 rfl pq_0_5 rfl rfl (by decide) ?_
  refine V_aload_n (pc := 5) dX0_weigh_5 rfl rfl ?_
  refine V_iconst (pc := 6) dX0_weigh_6 ?_
  refine V_puti (pc := 7) dX0_weigh_7 fX0_35 rfl gg_35 rfl pq_0_6 rfl rfl (by decide) ?_
  refine V_iconst (pc := 10) dX0_weigh_10 ?_
  refine V_istore_n (pc := 11) dX0_weigh_11 rfl (by decide) rfl ?_
  show V_ _ _ _ _ _ [_, _] _ _
  have hF2 : F6_ σ (ms_ (ms_ σ 35 5 0) 35 6 (-1)) := (F6_.rf.ms (by simp)).ms (by simp)
  exact V_cg (lp_X0_weigh hW hw hK 0 (Nat.zero_le _) _ (hC.f6 hF2) (hD.f6 hF2) (hL.f6 hF2) hF2 ⟨by rw [ms_ne (by decide), ms_eq]; rfl, by rw [ms_eq]; rfl, fun k hk => absurd hk (Nat.not_lt_zero _)⟩) (by simp) rfl rfl
theorem lp_X0_greatestGroup (hW : WF_ v) {s : Int} (hs : 0 ≤ s ∧ s ≤ 5) (hK : ∀ σ1, σ1 35 = σ 35 → σ1 36 = σ 36 → F6_ σ σ1 → post (some (vi_ (gr_ v w s (ns_ v)))) σ1) : ∀ i : Nat, i ≤ ns_ v → ∀ τ, HC_ v τ → HD_ v τ → (∀ k, k < ns_ v → τ 36 k = b2_ (fz2_ v w k)) → F6_ σ τ → τ 35 = σ 35 → τ 36 = σ 36 → (∀ p : Nat, p < 100 → τ 37 p = cn_ v w s (p : Int) i) → V_ l D mX0_greatestGroup (CM_ D mX0_greatestGroup post) 12 [some (vr_ 35), some (vi_ s), some (vi_ (gr_ v w s i)), some (vi_ (i : Int)), none] [] τ := by
  have hn := ns_rg hW
  refine up_ _ (fun i hi ih τ hC hD hE hF h35 h36 hT => ?_)
  have hg := gr_rg (v := v) (w := w) (s := s) (n := i)
  refine V_iload_n (pc := 12) dX0_greatestGroup_12 rfl rfl ?_
  refine V_iconst (pc := 13) dX0_greatestGroup_13 ?_
  refine V_aload_n (pc := 14) dX0_greatestGroup_14 rfl rfl ?_
  refine V_getr (pc := 15) dX0_greatestGroup_15 fX0_19 rfl gg_35 rfl ?_
  refine V_geti (pc := 18) dX0_greatestGroup_18 fX0_38 rfl gg_19 rfl (fun r18 => ?_)
  rw [hC.2.1] at r18 ⊢
  refine V_ishl (pc := 21) dX0_greatestGroup_21 ?_
  rw [ns_sh hW]
  refine V_icmp_ge (tgt := 92) (pc := 22) dX0_greatestGroup_22 (by decide) (by first | assumption | decide | omega | exact ba_rg hR | exact b2_rg) (by first | assumption | decide | omega | exact ba_rg hR | exact b2_rg) (fun h22 => ?_) (fun h22 => ?_)
  · skip
    refine V_iload_n (pc := 92) dX0_greatestGroup_92 rfl rfl ?_
    refine V_ireturn (pc := 93) dX0_greatestGroup_93 rfl rfl (fun hR => ?_)
    have h2 := hK _ h35 h36 hF
    rw [show ns_ v = i by omega] at h2
    exact h2
  · skip
    refine V_aload_n (pc := 25) dX0_greatestGroup_25 rfl rfl ?_
    refine V_getr (pc := 26) dX0_greatestGroup_26 fX0_9 rfl gg_35 rfl ?_
    refine V_iload_n (pc := 29) dX0_greatestGroup_29 rfl rfl ?_
    refine V_zaldN (pc := 30) dX0_greatestGroup_30 gg_36 (by omega) (by decide) (fun r30 => ?_)
    rw [hE i (by omega)] at r30 ⊢
    refine V_if_ne (tgt := 37) (pc := 31) dX0_greatestGroup_31 (by decide) b2_rg (fun h31 => ?_) (fun h31 => ?_)
    · skip
      rw [b2_n0] at h31
      refine V_aload_n (pc := 37) dX0_greatestGroup_37 rfl rfl ?_
      refine V_getr (pc := 38) dX0_greatestGroup_38 fX0_23 rfl gg_35 rfl ?_
      refine V_iload_n (pc := 41) dX0_greatestGroup_41 rfl rfl ?_
      refine V_iload_n (pc := 42) dX0_greatestGroup_42 rfl rfl ?_
      refine V_callV (pc := 43) (as := [_, _]) (rest := []) dX0_greatestGroup_43 ⟨kX0_62, iX3_loseAlone, by decide, by decide⟩ rc_29 rfl rfl (Nat.le_of_ble_eq_true rfl) (Nat.le_of_ble_eq_true rfl) ?_
      refine ct_X3_loseAlone hW (by omega) hs hC hD (fun σ1 hB1 hB2 => ?_)
      show V_ _ _ _ _ _ _ [_] _
      have ha := a1_rg hW (set := (i : Int)) hs
      obtain ⟨p, hp⟩ := i_nat ha.1
      rw [hp]
      have hT1 : ∀ p : Nat, p < 100 → σ1 37 p = cn_ v w s (p : Int) i := fun p hp => by rw [hB2 37 (by decide) (by decide) (by decide)]; exact hT p hp
      have hcr := cn_rg (v := v) (w := w) (s := s) (p := (p : Int)) (n := i)
      refine V_istore (pc := 46) dX0_greatestGroup_46 (by decide) rfl ?_
      show V_ _ _ _ _ _ [_, _, _, _, _] _ _
      refine V_iload (pc := 48) dX0_greatestGroup_48 rfl ?_
      refine V_if_lt (tgt := 86) (pc := 50) dX0_greatestGroup_50 (by decide) (by constructor <;> omega) (fun h50 => by omega) (fun h50 => ?_)
      refine V_iload (pc := 53) dX0_greatestGroup_53 rfl ?_
      refine V_aload_n (pc := 55) dX0_greatestGroup_55 rfl rfl ?_
      refine V_getr (pc := 56) dX0_greatestGroup_56 fX0_15 rfl gg_35 rfl ?_
      refine V_alen (pc := 59) dX0_greatestGroup_59 gg_37 ?_
      refine V_icmp_ge (tgt := 86) (pc := 60) dX0_greatestGroup_60 (by decide) (by constructor <;> omega) (by decide) (fun h60 => by omega) (fun h60 => ?_)
      refine V_aload_n (pc := 63) dX0_greatestGroup_63 rfl rfl ?_
      refine V_getr (pc := 64) dX0_greatestGroup_64 fX0_15 rfl gg_35 rfl ?_
      refine V_iload (pc := 67) dX0_greatestGroup_67 rfl ?_
      refine V_dup2 (pc := 69) dX0_greatestGroup_69 rfl rfl ?_
      refine V_ialdN (pc := 70) dX0_greatestGroup_70 gg_37 (by omega) (by decide) (fun r70 => ?_)
      rw [hT1 p (by omega)] at r70 ⊢
      refine V_iconst (pc := 71) dX0_greatestGroup_71 ?_
      refine V_iadd (pc := 72) dX0_greatestGroup_72 ?_
      refine V_iastN (pc := 73) dX0_greatestGroup_73 gg_37 (by omega) (by decide) (by constructor <;> omega) ?_
      refine V_iload_n (pc := 74) dX0_greatestGroup_74 rfl rfl ?_
      refine V_aload_n (pc := 75) dX0_greatestGroup_75 rfl rfl ?_
      refine V_getr (pc := 76) dX0_greatestGroup_76 fX0_15 rfl gg_35 rfl ?_
      refine V_iload (pc := 79) dX0_greatestGroup_79 rfl ?_
      refine V_ialdN (pc := 81) dX0_greatestGroup_81 gg_37 (by omega) (by decide) (fun r81 => ?_)
      rw [ms_eq] at r81 ⊢
      refine V_mmax (pc := 82) dX0_greatestGroup_82 kX0_77 ⟨by decide, Nat.le_of_ble_eq_true rfl⟩ (by constructor <;> omega) (by constructor <;> omega) ?_
      have ec : cn_ v w s (p : Int) i + 1 = cn_ v w s (a1_ v (i : Int) s) (i + 1) := by
        rw [hp]
        show _ = cn_ v w s (p : Int) i + b2_ (fz2_ v w i ∧ a1_ v (i : Int) s = (p : Int))
        rw [b2_t ⟨h31, hp⟩]
      rw [ec, show (if gr_ v w s i < cn_ v w s (a1_ v (i : Int) s) (i + 1) then cn_ v w s (a1_ v (i : Int) s) (i + 1) else gr_ v w s i) = gr_ v w s (i + 1) from by rw [gr_, if_pos (b2_t h31)]]
      rw [← ec]
      refine V_istore_n (pc := 85) dX0_greatestGroup_85 rfl (by decide) rfl ?_
      show V_ _ _ _ _ _ [_, _, _, _, _] _ _
      refine V_iinc (pc := 86) dX0_greatestGroup_86 rfl (by decide) rfl ?_
      show V_ _ _ _ _ _ [_, _, _, _, _] _ _
      refine V_goto (tgt := 12) (pc := 89) dX0_greatestGroup_89 (by decide) ?_
      refine V_none (k := 4) ?_
      show V_ _ _ _ _ _ [_, _, _, _, _] _ _
      have hF2 : F6_ τ (ms_ σ1 37 p (cn_ v w s (p : Int) i + 1)) := hB2.f6.ms (by simp)
      exact V_cg (ih (by omega) _ (hC.f6 hF2) (hD.f6 hF2) (fun k hk => by rw [ms_nk (by decide), hB2 36 (by decide) (by decide) (by decide)]; exact hE k hk) (hF.tr hF2) (by rw [ms_rw (by decide), hB2 35 (by decide) (by decide) (by decide)]; exact h35) (by rw [ms_rw (by decide), hB2 36 (by decide) (by decide) (by decide)]; exact h36) (fun q hq => by
        show _ = cn_ v w s (q : Int) i + b2_ (fz2_ v w i ∧ a1_ v (i : Int) s = (q : Int))
        by_cases c : q = p
        · subst c; rw [ms_eq, b2_t ⟨h31, hp⟩]
        · rw [ms_ne (fun z => c z.2), hT1 q hq, b2_f (fun z => c (by have := z.2; omega))]; simp)) (by simp) rfl rfl
    · skip
      rw [b2_0] at h31
      refine V_goto (tgt := 86) (pc := 34) dX0_greatestGroup_34 (by decide) ?_
      refine V_iinc (pc := 86) dX0_greatestGroup_86 rfl (by decide) rfl ?_
      show V_ _ _ _ _ _ [_, _, _, _, _] _ _
      refine V_goto (tgt := 12) (pc := 89) dX0_greatestGroup_89 (by decide) ?_
      exact V_cg (ih (by omega) _ hC hD hE hF h35 h36 (fun p hp => by rw [hT p hp]; show _ = cn_ v w s (p : Int) i + b2_ (fz2_ v w i ∧ a1_ v (i : Int) s = (p : Int)); rw [b2_f (fun z => h31 z.1)]; simp)) (by rw [show gr_ v w s (i + 1) = gr_ v w s i from by rw [gr_, if_neg (by rw [b2_f h31]; decide)]]; simp) rfl rfl
theorem ct_X0_greatestGroup (hW : WF_ v) {s : Int} (hs : 0 ≤ s ∧ s ≤ 5) (hC : HC_ v σ) (hD : HD_ v σ) (hE : ∀ k, k < ns_ v → σ 36 k = b2_ (fz2_ v w k)) (hK : ∀ σ1, σ1 35 = σ 35 → σ1 36 = σ 36 → F6_ σ σ1 → post (some (vi_ (gr_ v w s (ns_ v)))) σ1) : V_ l D mX0_greatestGroup (CM_ D mX0_greatestGroup post) 0 [some (vr_ 35), some (vi_ s), none, none, none] [] σ := by
  refine V_aload_n (pc := 0) dX0_greatestGroup_0 rfl rfl ?_
  refine V_getr (pc := 1) dX0_greatestGroup_1 fX0_15 rfl gg_35 rfl ?_
  refine V_iconst (pc := 4) dX0_greatestGroup_4 ?_
  refine V_callS (pc := 5) (as := [_, _]) (rest := []) dX0_greatestGroup_5 ⟨kX0_71, sJ7_fill_53178, by decide, by decide⟩ rfl rfl (Nat.le_of_ble_eq_true rfl) (Nat.le_of_ble_eq_true rfl) ?_
  refine ct_J7_fill_53178_37 (by decide) ?_
  show V_ _ _ _ _ _ _ [] _
  refine V_iconst (pc := 8) dX0_greatestGroup_8 ?_
  refine V_istore_n (pc := 9) dX0_greatestGroup_9 rfl (by decide) rfl ?_
  show V_ _ _ _ _ _ [_, _, _, _, _] _ _
  refine V_iconst (pc := 10) dX0_greatestGroup_10 ?_
  refine V_istore_n (pc := 11) dX0_greatestGroup_11 rfl (by decide) rfl ?_
  show V_ _ _ _ _ _ [_, _, _, _, _] _ _
  have hF2 : F6_ σ (wr_ σ 37 (fun _ => 0) 100) := F6_.rf.wr (by simp)
  exact V_cg (lp_X0_greatestGroup hW hs hK 0 (Nat.zero_le _) _ (hC.f6 hF2) (hD.f6 hF2) (fun k hk => by rw [wr_nk (by decide)]; exact hE k hk) hF2 (wr_rw (by decide)) (wr_rw (by decide)) (fun p hp => by rw [wr_in hp]; rfl)) (by simp [gr_]) rfl rfl
noncomputable def pr_ (v w : Mm_) : Nat → Int × Int
  | 0 => (-1, 0)
  | n + 1 => if (pr_ v w n).1 = -1 ∨ gr_ v w (n : Int) (ns_ v) < (pr_ v w n).2 then ((n : Int), gr_ v w (n : Int) (ns_ v)) else pr_ v w n
theorem pr_rg {v w : Mm_} : ∀ {n : Nat}, (-1 ≤ (pr_ v w n).1 ∧ (pr_ v w n).1 < n) ∧ (0 ≤ (pr_ v w n).2 ∧ (pr_ v w n).2 ≤ ns_ v) := by
  intro n
  induction n with
  | zero => simp [pr_]
  | succ n ih =>
    have := gr_rg (v := v) (w := w) (s := (n : Int)) (n := ns_ v)
    unfold pr_
    split
    · exact ⟨⟨by show _ ≤ (n : Int); omega, by show (n : Int) < _; omega⟩, this⟩
    · omega
theorem lp_X0_shipToPress (hW : WF_ v) (hK : ∀ σ1, σ1 35 = σ 35 → F6_ σ σ1 → post (some (vi_ (pr_ v w (v 0 0).toNat).1)) σ1) : ∀ i : Nat, i ≤ (v 0 0).toNat → ∀ τ, HC_ v τ → HD_ v τ → (∀ k, k < ns_ v → τ 36 k = b2_ (fz2_ v w k)) → F6_ σ τ → τ 35 = σ 35 → V_ l D mX0_shipToPress (CM_ D mX0_shipToPress post) 6 [some (vr_ 35), some (vi_ (pr_ v w i).1), some (vi_ (pr_ v w i).2), some (vi_ (i : Int)), none] [] τ := by
  have ws := hW.s
  have hn : ((v 0 0).toNat : Int) = v 0 0 := Int.toNat_of_nonneg ws.1
  have hns := ns_rg hW
  refine up_ _ (fun i hi ih τ hC hD hE hF h35 => ?_)
  have hp := pr_rg (v := v) (w := w) (n := i)
  have hg := gr_rg (v := v) (w := w) (s := (i : Int)) (n := ns_ v)
  refine V_iload_n (pc := 6) dX0_shipToPress_6 rfl rfl ?_
  refine V_aload_n (pc := 7) dX0_shipToPress_7 rfl rfl ?_
  refine V_getr (pc := 8) dX0_shipToPress_8 fX0_19 rfl gg_35 rfl ?_
  refine V_geti (pc := 11) dX0_shipToPress_11 fX0_47 rfl gg_19 rfl (fun r11 => ?_)
  rw [hC.1] at r11 ⊢
  refine V_icmp_ge (tgt := 46) (pc := 14) dX0_shipToPress_14 (by decide) (by constructor <;> omega) (by constructor <;> omega) (fun h14 => ?_) (fun h14 => ?_)
  · skip
    refine V_iload_n (pc := 46) dX0_shipToPress_46 rfl rfl ?_
    refine V_ireturn (pc := 47) dX0_shipToPress_47 rfl rfl (fun hR => ?_)
    have h2 := hK _ h35 hF
    rw [show (v 0 0).toNat = i by omega] at h2
    exact h2
  · skip
    refine V_aload_n (pc := 17) dX0_shipToPress_17 rfl rfl ?_
    refine V_iload_n (pc := 18) dX0_shipToPress_18 rfl rfl ?_
    refine V_callV (pc := 19) (as := [_]) (rest := []) dX0_shipToPress_19 ⟨kX0_50, iX0_greatestGroup, by decide, by decide⟩ rc_35 rfl rfl (Nat.le_of_ble_eq_true rfl) (Nat.le_of_ble_eq_true rfl) ?_
    refine ct_X0_greatestGroup (w := w) hW (by omega) hC hD hE (fun σ1 hB0 hB1 hB2 => ?_)
    show V_ _ _ _ _ _ _ [_] _
    refine V_istore (pc := 22) dX0_shipToPress_22 (by decide) rfl ?_
    show V_ _ _ _ _ _ [_, _, _, _, _] _ _
    refine V_iload_n (pc := 24) dX0_shipToPress_24 rfl rfl ?_
    refine V_iconst (pc := 25) dX0_shipToPress_25 ?_
    refine V_icmp_eq (tgt := 35) (pc := 26) dX0_shipToPress_26 (by decide) (by constructor <;> omega) (by constructor <;> omega) (fun h26 => ?_) (fun h26 => ?_)
    · skip
      refine V_iload_n (pc := 35) dX0_shipToPress_35 rfl rfl ?_
      refine V_istore_n (pc := 36) dX0_shipToPress_36 rfl (by decide) rfl ?_
      show V_ _ _ _ _ _ [_, _, _, _, _] _ _
      refine V_iload (pc := 37) dX0_shipToPress_37 rfl ?_
      refine V_istore_n (pc := 39) dX0_shipToPress_39 rfl (by decide) rfl ?_
      show V_ _ _ _ _ _ [_, _, _, _, _] _ _
      refine V_iinc (pc := 40) dX0_shipToPress_40 rfl (by decide) rfl ?_
      show V_ _ _ _ _ _ [_, _, _, _, _] _ _
      refine V_goto (tgt := 6) (pc := 43) dX0_shipToPress_43 (by decide) ?_
      refine V_none (k := 4) ?_
      show V_ _ _ _ _ _ [_, _, _, _, _] _ _
      first | exact V_cg (ih (by omega) _ (hC.f6 hB2) (hD.f6 hB2) (fun k hk => by rw [hB1]; exact hE k hk) (hF.tr hB2) (hB0.trans h35)) (by rw [show pr_ v w (i + 1) = ((i : Int), gr_ v w (i : Int) (ns_ v)) from if_pos (by first | exact Or.inl h26 | exact Or.inr h32)]; simp) rfl rfl | exact V_cg (ih (by omega) _ (hC.f6 hB2) (hD.f6 hB2) (fun k hk => by rw [hB1]; exact hE k hk) (hF.tr hB2) (hB0.trans h35)) (by rw [show pr_ v w (i + 1) = pr_ v w i from if_neg (by omega)]; simp) rfl rfl
    · skip
      refine V_iload (pc := 29) dX0_shipToPress_29 rfl ?_
      refine V_iload_n (pc := 31) dX0_shipToPress_31 rfl rfl ?_
      refine V_icmp_ge (tgt := 40) (pc := 32) dX0_shipToPress_32 (by decide) (by constructor <;> omega) (by constructor <;> omega) (fun h32 => ?_) (fun h32 => ?_)
      · skip
        refine V_iinc (pc := 40) dX0_shipToPress_40 rfl (by decide) rfl ?_
        show V_ _ _ _ _ _ [_, _, _, _, _] _ _
        refine V_goto (tgt := 6) (pc := 43) dX0_shipToPress_43 (by decide) ?_
        refine V_none (k := 4) ?_
        show V_ _ _ _ _ _ [_, _, _, _, _] _ _
        first | exact V_cg (ih (by omega) _ (hC.f6 hB2) (hD.f6 hB2) (fun k hk => by rw [hB1]; exact hE k hk) (hF.tr hB2) (hB0.trans h35)) (by rw [show pr_ v w (i + 1) = ((i : Int), gr_ v w (i : Int) (ns_ v)) from if_pos (by first | exact Or.inl h26 | exact Or.inr h32)]; simp) rfl rfl | exact V_cg (ih (by omega) _ (hC.f6 hB2) (hD.f6 hB2) (fun k hk => by rw [hB1]; exact hE k hk) (hF.tr hB2) (hB0.trans h35)) (by rw [show pr_ v w (i + 1) = pr_ v w i from if_neg (by omega)]; simp) rfl rfl
      · skip
        refine V_iload_n (pc := 35) dX0_shipToPress_35 rfl rfl ?_
        refine V_istore_n (pc := 36) dX0_shipToPress_36 rfl (by decide) rfl ?_
        show V_ _ _ _ _ _ [_, _, _, _, _] _ _
        refine V_iload (pc := 37) dX0_shipToPress_37 rfl ?_
        refine V_istore_n (pc := 39) dX0_shipToPress_39 rfl (by decide) rfl ?_
        show V_ _ _ _ _ _ [_, _, _, _, _] _ _
        refine V_iinc (pc := 40) dX0_shipToPress_40 rfl (by decide) rfl ?_
        show V_ _ _ _ _ _ [_, _, _, _, _] _ _
        refine V_goto (tgt := 6) (pc := 43) dX0_shipToPress_43 (by decide) ?_
        refine V_none (k := 4) ?_
        show V_ _ _ _ _ _ [_, _, _, _, _] _ _
        first | exact V_cg (ih (by omega) _ (hC.f6 hB2) (hD.f6 hB2) (fun k hk => by rw [hB1]; exact hE k hk) (hF.tr hB2) (hB0.trans h35)) (by rw [show pr_ v w (i + 1) = ((i : Int), gr_ v w (i : Int) (ns_ v)) from if_pos (by first | exact Or.inl h26 | exact Or.inr h32)]; simp) rfl rfl | exact V_cg (ih (by omega) _ (hC.f6 hB2) (hD.f6 hB2) (fun k hk => by rw [hB1]; exact hE k hk) (hF.tr hB2) (hB0.trans h35)) (by rw [show pr_ v w (i + 1) = pr_ v w i from if_neg (by omega)]; simp) rfl rfl
theorem ct_X0_shipToPress (hW : WF_ v) (hC : HC_ v σ) (hD : HD_ v σ) (hE : ∀ k, k < ns_ v → σ 36 k = b2_ (fz2_ v w k)) (hK : ∀ σ1, σ1 35 = σ 35 → F6_ σ σ1 → post (some (vi_ (pr_ v w (v 0 0).toNat).1)) σ1) : V_ l D mX0_shipToPress (CM_ D mX0_shipToPress post) 0 [some (vr_ 35), none, none, none, none] [] σ := by
  refine V_iconst (pc := 0) dX0_shipToPress_0 ?_
  refine V_istore_n (pc := 1) dX0_shipToPress_1 rfl (by decide) rfl ?_
  show V_ _ _ _ _ _ [_, _, _, _, _] _ _
  refine V_iconst (pc := 2) dX0_shipToPress_2 ?_
  refine V_istore_n (pc := 3) dX0_shipToPress_3 rfl (by decide) rfl ?_
  show V_ _ _ _ _ _ [_, _, _, _, _] _ _
  refine V_iconst (pc := 4) dX0_shipToPress_4 ?_
  refine V_istore_n (pc := 5) dX0_shipToPress_5 rfl (by decide) rfl ?_
  show V_ _ _ _ _ _ [_, _, _, _, _] _ _
  exact V_cg (lp_X0_shipToPress hW hK 0 (Nat.zero_le _) _ hC hD hE F6_.rf rfl) (by simp [pr_]) rfl rfl
end
