/-! ## class DrownedNamesModel: a reckoning -/
def RD_ (v r σ : Mm_) : Prop := (∀ k : Nat, (k : Int) < v 3 0 → σ 50 k = r 0 k) ∧ (∀ k : Nat, k < 6 → σ 51 k = r 1 k) ∧ σ 38 17 = r 2 0 ∧ σ 38 16 = r 2 1 ∧ σ 38 19 = r 2 2 ∧ σ 38 20 = r 2 3
def F4_ (σ τ : Mm_) : Prop := (∀ q, q ≠ 38 → q ≠ 50 → q ≠ 51 → τ q = σ q) ∧ (∀ j, j ≠ 16 → j ≠ 17 → j ≠ 19 → j ≠ 20 → τ 38 j = σ 38 j)
theorem F4_.rf {σ : Mm_} : F4_ σ σ := ⟨fun _ _ _ _ => rfl, fun _ _ _ _ _ => rfl⟩
theorem F4_.tr {σ τ ρ : Mm_} (h : F4_ σ τ) (h2 : F4_ τ ρ) : F4_ σ ρ := ⟨fun q a b c => (h2.1 q a b c).trans (h.1 q a b c), fun j a b c d => (h2.2 j a b c d).trans (h.2 j a b c d)⟩
theorem F4_.arr {σ τ : Mm_} {k j : Nat} {x : Int} (h : F4_ σ τ) (hk : k = 50 ∨ k = 51) : F4_ σ (ms_ τ k j x) := ⟨fun q a b c => by rw [ms_rw (by omega)]; exact h.1 q a b c, fun i a b c d => by rw [ms_nk (by omega)]; exact h.2 i a b c d⟩
theorem F4_.wr {σ τ : Mm_} {k n : Nat} {f : Nat → Int} (h : F4_ σ τ) (hk : k = 50 ∨ k = 51) : F4_ σ (wr_ τ k f n) := ⟨fun q a b c => by rw [wr_rw (by omega)]; exact h.1 q a b c, fun i a b c d => by rw [wr_nk (by omega)]; exact h.2 i a b c d⟩
theorem F4_.fld {σ τ : Mm_} {j : Nat} {x : Int} (h : F4_ σ τ) (hj : j = 16 ∨ j = 17 ∨ j = 19 ∨ j = 20) : F4_ σ (ms_ τ 38 j x) := ⟨fun q a b c => by rw [ms_rw a]; exact h.1 q a b c, fun i a b c d => by rw [ms_ne (by omega)]; exact h.2 i a b c d⟩
theorem F4_.pf {σ τ : Mm_} (h : F4_ σ τ) : Pf_ σ τ := ⟨fun q hq => h.1 q (by omega) (by omega) (by omega), fun j hj => h.2 j (by omega) (by omega) (by omega) (by omega)⟩
theorem HM_.f4 {v σ τ : Mm_} (h : HM_ v σ) (e : F4_ σ τ) : HM_ v τ := h.cg (fun q hq => e.1 q (by omega) (by omega) (by omega)) (e.2 12 (by decide) (by decide) (by decide) (by decide))
theorem RD_.left {v r σ : Mm_} {b : Nat} {x : Int} (h : RD_ v r σ) : RD_ v (ms_ r 0 b x) (ms_ σ 50 b x) := by
  obtain ⟨h1, h2, h3, h4, h5, h6⟩ := h
  refine ⟨fun k hk => ?_, fun k hk => ?_, ?_, ?_, ?_, ?_⟩
  · have := h1 k hk
    by_cases c : k = b
    · simp [ms_, c]
    · simp [ms_, c]; exact this
  all_goals (simp [ms_]; first | exact h2 k hk | assumption)
theorem RD_.paid {v r σ : Mm_} {b : Nat} {x : Int} (h : RD_ v r σ) : RD_ v (ms_ r 1 b x) (ms_ σ 51 b x) := by
  obtain ⟨h1, h2, h3, h4, h5, h6⟩ := h
  refine ⟨fun k hk => ?_, fun k hk => ?_, ?_, ?_, ?_, ?_⟩
  · simp [ms_]; exact h1 k hk
  · have := h2 k hk
    by_cases c : k = b
    · simp [ms_, c]
    · simp [ms_, c]; exact this
  all_goals (simp [ms_]; assumption)
theorem RD_.lost {v r σ : Mm_} {x : Int} (h : RD_ v r σ) : RD_ v (ms_ r 2 0 x) (ms_ σ 38 17 x) := by
  obtain ⟨h1, h2, h3, h4, h5, h6⟩ := h
  refine ⟨fun k hk => ?_, fun k hk => ?_, ?_, ?_, ?_, ?_⟩ <;> simp [ms_] <;> first | exact h1 k hk | exact h2 k hk | assumption
theorem RD_.broken {v r σ : Mm_} {x : Int} (h : RD_ v r σ) : RD_ v (ms_ r 2 1 x) (ms_ σ 38 16 x) := by
  obtain ⟨h1, h2, h3, h4, h5, h6⟩ := h
  refine ⟨fun k hk => ?_, fun k hk => ?_, ?_, ?_, ?_, ?_⟩ <;> simp [ms_] <;> first | exact h1 k hk | exact h2 k hk | assumption
theorem RD_.fy {v r σ : Mm_} {x : Int} (h : RD_ v r σ) : RD_ v (ms_ r 2 2 x) (ms_ σ 38 19 x) := by
  obtain ⟨h1, h2, h3, h4, h5, h6⟩ := h
  refine ⟨fun k hk => ?_, fun k hk => ?_, ?_, ?_, ?_, ?_⟩ <;> simp [ms_] <;> first | exact h1 k hk | exact h2 k hk | assumption
theorem RD_.fw {v r σ : Mm_} {x : Int} (h : RD_ v r σ) : RD_ v (ms_ r 2 3 x) (ms_ σ 38 20 x) := by
  obtain ⟨h1, h2, h3, h4, h5, h6⟩ := h
  refine ⟨fun k hk => ?_, fun k hk => ?_, ?_, ?_, ?_, ?_⟩ <;> simp [ms_] <;> first | exact h1 k hk | exact h2 k hk | assumption
section
variable {l : Launch} {D : Dt_} {a v u σ r : Mm_} {post : Option Av_ → Mm_ → Prop}
theorem lq_X7_begins (hW : WF_ v) (hK : ∀ τ, RD_ v (bg_ v) τ → F4_ σ τ → post none τ) {ρ : Mm_} (hF : F4_ σ ρ) (hL : ∀ k : Nat, (k : Int) < v 3 0 → ρ 50 k = v 4 k) : ∀ i : Nat, i ≤ 6 → V_ l D mX7_begins (CM_ D mX7_begins post) 34 [some (vr_ 38), some (vi_ (i : Int))] [] (wr_ ρ 51 (fun _ => 0) i) := by
  refine up_ _ (fun i hi ih => ?_)
  refine V_iload_n (pc := 34) dX7_begins_34 rfl rfl ?_
  refine V_bipush (pc := 35) dX7_begins_35 (by decide) ?_
  refine V_icmp_ge (tgt := 53) (pc := 37) dX7_begins_37 (by decide) (by first | decide | (constructor <;> omega)) (by first | decide | (constructor <;> omega)) (fun h37 => ?_) (fun h37 => ?_)
  · skip
    refine V_aload_n (pc := 53) dX7_begins_53 rfl rfl ?_
    refine V_iconst (pc := 54) dX7_begins_54 ?_
    refine V_puti (pc := 55) dX7_begins_55 fX7_174 rfl gg_38 rfl pq_7_16 rfl rfl (by first | decide | (constructor <;> omega)) ?_
    refine V_aload_n (pc := 58) dX7_begins_58 rfl rfl ?_
    refine V_iconst (pc := 59) dX7_begins_59 ?_
    refine V_puti (pc := 60) dX7_begins_60 fX7_177 rfl gg_38 rfl pq_7_17 rfl rfl (by first | decide | (constructor <;> omega)) ?_
    refine V_aload_n (pc := 63) dX7_begins_63 rfl rfl ?_
    refine V_iconst (pc := 64) dX7_begins_64 ?_
    refine V_puti (pc := 65) dX7_begins_65 fX7_180 rfl gg_38 rfl pq_7_19 rfl rfl (by first | decide | (constructor <;> omega)) ?_
    refine V_aload_n (pc := 68) dX7_begins_68 rfl rfl ?_
    refine V_iconst (pc := 69) dX7_begins_69 ?_
    refine V_puti (pc := 70) dX7_begins_70 fX7_183 rfl gg_38 rfl pq_7_20 rfl rfl (by first | decide | (constructor <;> omega)) ?_
    refine V_return (pc := 73) dX7_begins_73 rfl (fun hR => ?_)
    rw [show i = 6 by omega]
    refine hK _ ⟨fun k hk => ?_, fun k hk => ?_, ?_, ?_, ?_, ?_⟩ ?_
    · simp [ms_, wr_, bg_]; exact hL k hk
    · simp [ms_, wr_, bg_, hk]
    · simp [ms_, bg_]
    · simp [ms_, bg_]
    · simp [ms_, bg_]
    · simp [ms_, bg_]
    · exact ((((hF.wr (Or.inr rfl)).fld (by simp)).fld (by simp)).fld (by simp)).fld (by simp)
  · skip
    refine V_aload_n (pc := 40) dX7_begins_40 rfl rfl ?_
    refine V_getr (pc := 41) dX7_begins_41 fX7_46 rfl gg_38 rfl ?_
    refine V_iload_n (pc := 44) dX7_begins_44 rfl rfl ?_
    refine V_iconst (pc := 45) dX7_begins_45 ?_
    refine V_iastN (pc := 46) dX7_begins_46 gg_51 (by omega) (by decide) (by first | decide | (constructor <;> omega)) ?_
    refine V_iinc (pc := 47) dX7_begins_47 rfl (by decide) rfl ?_
    show V_ _ _ _ _ _ [_, _] _ _
    refine V_goto (tgt := 34) (pc := 50) dX7_begins_50 (by decide) ?_
    exact V_cg (ih (by omega)) (by simp) rfl (by rw [wr_s rfl])
theorem lp_X7_begins (hW : WF_ v) (hM : HM_ v σ) (hK : ∀ τ, RD_ v (bg_ v) τ → F4_ σ τ → post none τ) : ∀ i : Nat, i ≤ (v 3 0).toNat → V_ l D mX7_begins (CM_ D mX7_begins post) 2 [some (vr_ 38), some (vi_ (i : Int))] [] (wr_ σ 50 (fun k => v 4 k) i) := by
  have ws := hW.s
  have wn := hW.n
  have wl := hW.l
  have wk := hW.k
  refine up_ _ (fun i hi ih => ?_)
  refine V_iload_n (pc := 2) dX7_begins_2 rfl rfl ?_
  refine V_aload_n (pc := 3) dX7_begins_3 rfl rfl ?_
  refine V_getr (pc := 4) dX7_begins_4 fX7_28 rfl gg_38 rfl ?_
  refine V_iconst (pc := 7) dX7_begins_7 ?_
  refine V_iald (pc := 8) dX7_begins_8 gg_45 (by decide) (by decide) (fun r8 => ?_)
  rw [show wr_ σ 50 (fun k => v 4 k) i 45 (1 : Int).toNat = v 3 0 from by rw [wr_nk (by decide)]; exact hM.1.2.1] at r8 ⊢
  refine V_icmp_ge (tgt := 32) (pc := 9) dX7_begins_9 (by decide) (by constructor <;> omega) (by constructor <;> omega) (fun h9 => ?_) (fun h9 => ?_)
  · skip
    refine V_iconst (pc := 32) dX7_begins_32 ?_
    refine V_istore_n (pc := 33) dX7_begins_33 rfl (by decide) rfl ?_
    show V_ _ _ _ _ _ [_, _] _ _
    exact V_cg (lq_X7_begins hW hK (ρ := wr_ σ 50 (fun k => v 4 k) i) (F4_.rf.wr (Or.inl rfl)) (fun k hk => by rw [wr_in (by omega)]) 0 (Nat.zero_le _)) (by simp) rfl (by rw [wr_0])
  · skip
    have wi := hW.ni (k := i) (by omega)
    refine V_aload_n (pc := 12) dX7_begins_12 rfl rfl ?_
    refine V_getr (pc := 13) dX7_begins_13 fX7_43 rfl gg_38 rfl ?_
    refine V_iload_n (pc := 16) dX7_begins_16 rfl rfl ?_
    refine V_aload_n (pc := 17) dX7_begins_17 rfl rfl ?_
    refine V_getr (pc := 18) dX7_begins_18 fX7_34 rfl gg_38 rfl ?_
    refine V_iconst (pc := 21) dX7_begins_21 ?_
    refine V_iload_n (pc := 22) dX7_begins_22 rfl rfl ?_
    refine V_imul (pc := 23) dX7_begins_23 ?_
    refine V_iald (pc := 24) dX7_begins_24 gg_47 (by omega) (by decide) (fun r24 => ?_)
    rw [show (3 * (i : Int)).toNat = 3 * i by omega, show wr_ σ 50 (fun k => v 4 k) i 47 (3 * i) = v 4 i from by rw [wr_nk (by decide)]; exact (hM.ni (k := i) (by omega)).1] at r24 ⊢
    refine V_iastN (pc := 25) dX7_begins_25 gg_50 (by omega) (by decide) (by constructor <;> omega) ?_
    refine V_iinc (pc := 26) dX7_begins_26 rfl (by decide) rfl ?_
    show V_ _ _ _ _ _ [_, _] _ _
    refine V_goto (tgt := 2) (pc := 29) dX7_begins_29 (by decide) ?_
    exact V_cg (ih (by omega)) (by simp) rfl (by rw [wr_s rfl])
theorem ct_X7_begins (hW : WF_ v) (hM : HM_ v σ) (hK : ∀ τ, RD_ v (bg_ v) τ → F4_ σ τ → post none τ) : V_ l D mX7_begins (CM_ D mX7_begins post) 0 [some (vr_ 38), none] [] σ := by
  refine V_iconst (pc := 0) dX7_begins_0 ?_
  refine V_istore_n (pc := 1) dX7_begins_1 rfl (by decide) rfl ?_
  show V_ _ _ _ _ _ [_, _] _ _
  exact V_cg (lp_X7_begins hW hM hK 0 (Nat.zero_le _)) (by simp) rfl (by rw [wr_0])
theorem lp_X7_goes {snd yr s : Int} (hW : WF_ v) (hR : RW_ v r) (hs : 0 ≤ s ∧ s ≤ 5) (hy : 0 ≤ yr ∧ yr ≤ 29) (hsn : 0 ≤ snd ∧ snd ≤ 255) (hs2 : wS_ v s) (hl : bt_ (r 2 0) s = false) (hK : ∀ τ, RD_ v (si_ v snd yr s r) τ → F4_ σ τ → post none τ) : ∀ i : Nat, i ≤ (v 7 0).toNat → ∀ τ, HM_ v τ → τ 38 21 = snd → F4_ σ τ → RD_ v (fo_ (ln_ v snd yr s) i (ms_ r 2 0 (so_ (r 2 0) s))) τ → V_ l D mX7_goes (CM_ D mX7_goes post) 34 [some (vr_ 38), some (vi_ yr), some (vi_ s), some (vi_ (i : Int)), none, none, none, none] [] τ := by
  have ws := hW.s
  have wn := hW.n
  have wl := hW.l
  have wk := hW.k
  have hn : ((v 7 0).toNat : Int) = v 7 0 := Int.toNat_of_nonneg wl.1
  refine up_ _ (fun i hi ih τ hM hsd hF hRC => ?_)
  have hL := fl_RL hW (snd := snd) (yr := yr) (by omega) (hR.go hW hs2 hl) (n := i) (by omega)
  generalize hq : fo_ (ln_ v snd yr s) i (ms_ r 2 0 (so_ (r 2 0) s)) = q at hRC hL
  refine V_iload_n (pc := 34) dX7_goes_34 rfl rfl ?_
  refine V_aload_n (pc := 35) dX7_goes_35 rfl rfl ?_
  refine V_getr (pc := 36) dX7_goes_36 fX7_28 rfl gg_38 rfl ?_
  refine V_iconst (pc := 39) dX7_goes_39 ?_
  refine V_iald (pc := 40) dX7_goes_40 gg_45 (by decide) (by decide) (fun r40 => ?_)
  rw [show τ 45 (2 : Int).toNat = v 7 0 from hM.1.2.2] at r40 ⊢
  refine V_icmp_ge (tgt := 225) (pc := 41) dX7_goes_41 (by decide) (by constructor <;> omega) (by constructor <;> omega) (fun h41 => ?_) (fun h41 => ?_)
  · skip
    refine V_return (pc := 225) dX7_goes_225 rfl (fun hR => ?_)
    refine hK _ ?_ hF
    have e : si_ v snd yr s r = q := by unfold si_; rw [if_pos ⟨hs2, hl⟩, ← hq, show i = (v 7 0).toNat by omega]
    rw [e]
    exact hRC
  · skip
    have wd := du_rg hW (i := i) (by omega)
    have wi := hW.li (k := i) (by omega)
    refine V_aload_n (pc := 44) dX7_goes_44 rfl rfl ?_
    refine V_getr (pc := 45) dX7_goes_45 fX7_37 rfl gg_38 rfl ?_
    refine V_iconst (pc := 48) dX7_goes_48 ?_
    refine V_iload_n (pc := 49) dX7_goes_49 rfl rfl ?_
    refine V_imul (pc := 50) dX7_goes_50 ?_
    refine V_iald (pc := 51) dX7_goes_51 gg_48 (by omega) (by decide) (fun r51 => ?_)
    rw [show (3 * (i : Int)).toNat = 3 * i by omega, (hM.li (k := i) (by omega)).1] at r51 ⊢
    refine V_iload_n (pc := 52) dX7_goes_52 rfl rfl ?_
    refine V_icmp_ne (tgt := 81) (pc := 53) dX7_goes_53 (by decide) (by constructor <;> omega) (by constructor <;> omega) (fun h53 => ?_) (fun h53 => ?_)
    · skip
      have e0 : ln_ v snd yr s i q = q := if_neg (fun z => h53 z.1)
      refine V_iconst (pc := 81) dX7_goes_81 ?_
      refine V_istore (pc := 82) dX7_goes_82 (by decide) rfl ?_
      show V_ _ _ _ _ _ [_, _, _, _, _, _, _, _] _ _
      refine V_iload (pc := 84) dX7_goes_84 rfl ?_
      refine V_iconst (pc := 86) dX7_goes_86 ?_
      refine V_icmp_eq (tgt := 219) (pc := 87) dX7_goes_87 (by decide) (by constructor <;> omega) (by constructor <;> omega) (fun h87 => ?_) (fun h87 => by exact absurd h87 (by decide))
      have e0 : ln_ v snd yr s i q = q := by first | exact e0 | exact if_neg (fun z => z.2.2.1 h87)
      refine V_iinc (pc := 219) dX7_goes_219 rfl (by decide) rfl ?_
      show V_ _ _ _ _ _ [_, _, _, _, _, _, _, _] _ _
      refine V_goto (tgt := 34) (pc := 222) dX7_goes_222 (by decide) ?_
      refine V_none (k := 4) ?_
      show V_ _ _ _ _ _ [_, _, _, _, _, _, _, _] _ _
      exact V_cg (ih (by omega) _ hM hsd hF (by show RD_ v (ln_ v snd yr s i (fo_ (ln_ v snd yr s) i (ms_ r 2 0 (so_ (r 2 0) s)))) _; rw [hq, e0]; exact hRC)) (by simp) rfl rfl
    · skip
      refine V_aload_n (pc := 56) dX7_goes_56 rfl rfl ?_
      refine V_iload_n (pc := 57) dX7_goes_57 rfl rfl ?_
      refine V_callV (pc := 58) (as := [_]) (rest := []) dX7_goes_58 ⟨kX7_143, iX7_stands, by decide, by decide⟩ rc_38 rfl rfl (Nat.le_of_ble_eq_true rfl) (Nat.le_of_ble_eq_true rfl) ?_
      refine ct_X7_stands hW hM (by omega) ?_
      show V_ _ _ _ _ _ _ [_] _
      refine V_if_eq (tgt := 81) (pc := 61) dX7_goes_61 (by decide) b2_rg (fun h61 => ?_) (fun h61 => ?_)
      · skip
        rw [b2_0] at h61
        have e0 : ln_ v snd yr s i q = q := if_neg (fun z => h61 z.2.1)
        refine V_iconst (pc := 81) dX7_goes_81 ?_
        refine V_istore (pc := 82) dX7_goes_82 (by decide) rfl ?_
        show V_ _ _ _ _ _ [_, _, _, _, _, _, _, _] _ _
        refine V_iload (pc := 84) dX7_goes_84 rfl ?_
        refine V_iconst (pc := 86) dX7_goes_86 ?_
        refine V_icmp_eq (tgt := 219) (pc := 87) dX7_goes_87 (by decide) (by constructor <;> omega) (by constructor <;> omega) (fun h87 => ?_) (fun h87 => by exact absurd h87 (by decide))
        have e0 : ln_ v snd yr s i q = q := by first | exact e0 | exact if_neg (fun z => z.2.2.1 h87)
        refine V_iinc (pc := 219) dX7_goes_219 rfl (by decide) rfl ?_
        show V_ _ _ _ _ _ [_, _, _, _, _, _, _, _] _ _
        refine V_goto (tgt := 34) (pc := 222) dX7_goes_222 (by decide) ?_
        refine V_none (k := 4) ?_
        show V_ _ _ _ _ _ [_, _, _, _, _, _, _, _] _ _
        exact V_cg (ih (by omega) _ hM hsd hF (by show RD_ v (ln_ v snd yr s i (fo_ (ln_ v snd yr s) i (ms_ r 2 0 (so_ (r 2 0) s)))) _; rw [hq, e0]; exact hRC)) (by simp) rfl rfl
      · skip
        rw [b2_n0] at h61
        refine V_aload_n (pc := 64) dX7_goes_64 rfl rfl ?_
        refine V_aload_n (pc := 65) dX7_goes_65 rfl rfl ?_
        refine V_getr (pc := 66) dX7_goes_66 fX7_37 rfl gg_38 rfl ?_
        refine V_iconst (pc := 69) dX7_goes_69 ?_
        refine V_iload_n (pc := 70) dX7_goes_70 rfl rfl ?_
        refine V_imul (pc := 71) dX7_goes_71 ?_
        refine V_iconst (pc := 72) dX7_goes_72 ?_
        refine V_iadd (pc := 73) dX7_goes_73 ?_
        refine V_iald (pc := 74) dX7_goes_74 gg_48 (by omega) (by decide) (fun r74 => ?_)
        rw [show (3 * (i : Int) + 1).toNat = 3 * i + 1 by omega, (hM.li (k := i) (by omega)).2.1] at r74 ⊢
        refine V_callV (pc := 75) (as := [_]) (rest := []) dX7_goes_75 ⟨kX7_152, iX7_bearerOf, by decide, by decide⟩ rc_38 rfl rfl (Nat.le_of_ble_eq_true rfl) (Nat.le_of_ble_eq_true rfl) ?_
        refine ct_X7_bearerOf hW hM h61.2.1 ?_
        show V_ _ _ _ _ _ _ [_] _
        have hbb := bb_rg h61.2.1
        refine V_goto (tgt := 82) (pc := 78) dX7_goes_78 (by decide) ?_
        refine V_istore (pc := 82) dX7_goes_82 (by decide) rfl ?_
        show V_ _ _ _ _ _ [_, _, _, _, _, _, _, _] _ _
        refine V_iload (pc := 84) dX7_goes_84 rfl ?_
        refine V_iconst (pc := 86) dX7_goes_86 ?_
        refine V_icmp_eq (tgt := 219) (pc := 87) dX7_goes_87 (by decide) (by constructor <;> omega) (by constructor <;> omega) (fun h87 => ?_) (fun h87 => ?_)
        · skip
          have e0 : ln_ v snd yr s i q = q := by first | exact e0 | exact if_neg (fun z => z.2.2.1 h87)
          refine V_iinc (pc := 219) dX7_goes_219 rfl (by decide) rfl ?_
          show V_ _ _ _ _ _ [_, _, _, _, _, _, _, _] _ _
          refine V_goto (tgt := 34) (pc := 222) dX7_goes_222 (by decide) ?_
          refine V_none (k := 4) ?_
          show V_ _ _ _ _ _ [_, _, _, _, _, _, _, _] _ _
          exact V_cg (ih (by omega) _ hM hsd hF (by show RD_ v (ln_ v snd yr s i (fo_ (ln_ v snd yr s) i (ms_ r 2 0 (so_ (r 2 0) s)))) _; rw [hq, e0]; exact hRC)) (by simp) rfl rfl
        · skip
          obtain ⟨b, hb⟩ : ∃ b : Nat, bb_ v (v 9 i) = (b : Int) := i_nat (by omega)
          have hbn : (b : Int) < v 3 0 := by omega
          rw [hb]
          refine V_aload_n (pc := 90) dX7_goes_90 rfl rfl ?_
          refine V_geti (pc := 91) dX7_goes_91 fX7_55 rfl gg_38 rfl (fun r91 => ?_)
          rw [hsd] at r91 ⊢
          refine V_iload (pc := 94) dX7_goes_94 rfl ?_
          refine V_callS (pc := 96) (as := [_, _]) (rest := []) dX7_goes_96 ⟨kX7_139, sX7_isIn, by decide, by decide⟩ rfl rfl (Nat.le_of_ble_eq_true rfl) (Nat.le_of_ble_eq_true rfl) ?_
          refine ct_X7_isIn (by omega) (by omega) ?_
          show V_ _ _ _ _ _ _ [_] _
          refine V_if_eq (tgt := 219) (pc := 99) dX7_goes_99 (by decide) b2_rg (fun h99 => ?_) (fun h99 => ?_)
          · skip
            rw [b2_0, ← hb] at h99
            have e0 : ln_ v snd yr s i q = q := if_neg (fun z => h99 z.2.2.2)
            refine V_iinc (pc := 219) dX7_goes_219 rfl (by decide) rfl ?_
            show V_ _ _ _ _ _ [_, _, _, _, _, _, _, _] _ _
            refine V_goto (tgt := 34) (pc := 222) dX7_goes_222 (by decide) ?_
            refine V_none (k := 4) ?_
            show V_ _ _ _ _ _ [_, _, _, _, _, _, _, _] _ _
            exact V_cg (ih (by omega) _ hM hsd hF (by show RD_ v (ln_ v snd yr s i (fo_ (ln_ v snd yr s) i (ms_ r 2 0 (so_ (r 2 0) s)))) _; rw [hq, e0]; exact hRC)) (by simp) rfl rfl
          · skip
            rw [b2_n0] at h99
            have e1 : ln_ v snd yr s i q = py_ yr s.toNat b (du_ v i) (v 6 b) q := by
              unfold ln_
              rw [if_pos ⟨h53, h61, h87, by rw [hb]; exact h99⟩, hb]
              rfl
            refine V_aload_n (pc := 102) dX7_goes_102 rfl rfl ?_
            refine V_iload_n (pc := 103) dX7_goes_103 rfl rfl ?_
            refine V_callV (pc := 104) (as := [_]) (rest := []) dX7_goes_104 ⟨kX7_146, iX7_dueOf, by decide, by decide⟩ rc_38 rfl rfl (Nat.le_of_ble_eq_true rfl) (Nat.le_of_ble_eq_true rfl) ?_
            refine ct_X7_dueOf hW hM (by omega) ?_
            show V_ _ _ _ _ _ _ [_] _
            refine V_istore (pc := 107) dX7_goes_107 (by decide) rfl ?_
            show V_ _ _ _ _ _ [_, _, _, _, _, _, _, _] _ _
            refine V_iload (pc := 109) dX7_goes_109 rfl ?_
            refine V_aload_n (pc := 111) dX7_goes_111 rfl rfl ?_
            refine V_getr (pc := 112) dX7_goes_112 fX7_43 rfl gg_38 rfl ?_
            refine V_iload (pc := 115) dX7_goes_115 rfl ?_
            refine V_ialdN (pc := 117) dX7_goes_117 gg_50 (by omega) (by decide) (fun r117 => ?_)
            rw [hRC.1 b hbn] at r117 ⊢
            refine V_callS (pc := 118) (as := [_, _]) (rest := []) dX7_goes_118 ⟨kX7_186, sX7_lesser, by decide, by decide⟩ rfl rfl (Nat.le_of_ble_eq_true rfl) (Nat.le_of_ble_eq_true rfl) ?_
            refine ct_X7_lesser (by constructor <;> omega) (by constructor <;> omega) ?_
            show V_ _ _ _ _ _ _ [_] _
            rw [show (if du_ v i < q 0 b then du_ v i else q 0 b) = mn_ (du_ v i) (q 0 b) from by unfold mn_; (repeat' split) <;> omega]
            have hm := mn_rg wd.1 (hL.1 b hbn).1
            have hlb := hL.1 b hbn
            have hls := hL.2.2.1
            refine V_istore (pc := 121) dX7_goes_121 (by decide) rfl ?_
            show V_ _ _ _ _ _ [_, _, _, _, _, _, _, _] _ _
            refine V_aload_n (pc := 123) dX7_goes_123 rfl rfl ?_
            refine V_getr (pc := 124) dX7_goes_124 fX7_43 rfl gg_38 rfl ?_
            refine V_iload (pc := 127) dX7_goes_127 rfl ?_
            refine V_dup2 (pc := 129) dX7_goes_129 rfl rfl ?_
            refine V_ialdN (pc := 130) dX7_goes_130 gg_50 (by omega) (by decide) (fun r130 => ?_)
            rw [hRC.1 b hbn] at r130 ⊢
            refine V_iload (pc := 131) dX7_goes_131 rfl ?_
            refine V_isub (pc := 133) dX7_goes_133 ?_
            refine V_iastN (pc := 134) dX7_goes_134 gg_50 (by omega) (by decide) (by constructor <;> omega) ?_
            refine V_aload_n (pc := 135) dX7_goes_135 rfl rfl ?_
            refine V_getr (pc := 136) dX7_goes_136 fX7_46 rfl gg_38 rfl ?_
            refine V_iload_n (pc := 139) dX7_goes_139 rfl rfl ?_
            refine V_dup2 (pc := 140) dX7_goes_140 rfl rfl ?_
            refine V_iald (pc := 141) dX7_goes_141 gg_51 ⟨by omega, by omega⟩ (by decide) (fun r141 => ?_)
            rw [show (ms_ τ 50 b (q 0 b - mn_ (du_ v i) (q 0 b))) 51 s.toNat = q 1 s.toNat from by rw [ms_nk (by decide)]; exact hRC.2.1 _ (by omega)] at r141 ⊢
            refine V_iload (pc := 142) dX7_goes_142 rfl ?_
            refine V_iadd (pc := 144) dX7_goes_144 ?_
            refine V_iast (pc := 145) dX7_goes_145 gg_51 ⟨by omega, by omega⟩ (by decide) (by constructor <;> omega) ?_
            have hRC2 : RD_ v (pz_ s.toNat b (du_ v i) q) (ms_ (ms_ τ 50 b (q 0 b - mn_ (du_ v i) (q 0 b))) 51 s.toNat (q 1 s.toNat + mn_ (du_ v i) (q 0 b))) := hRC.left.paid (b := s.toNat) (x := q 1 s.toNat + mn_ (du_ v i) (q 0 b))
            have hFt : F4_ τ (ms_ (ms_ τ 50 b (q 0 b - mn_ (du_ v i) (q 0 b))) 51 s.toNat (q 1 s.toNat + mn_ (du_ v i) (q 0 b))) := (F4_.rf.arr (Or.inl rfl)).arr (Or.inr rfl)
            have hM2 := hM.f4 hFt
            have hF2 := hF.tr hFt
            have hsd2 : (ms_ (ms_ τ 50 b (q 0 b - mn_ (du_ v i) (q 0 b))) 51 s.toNat (q 1 s.toNat + mn_ (du_ v i) (q 0 b))) 38 21 = snd := (hFt.2 21 (by decide) (by decide) (by decide) (by decide)).trans hsd
            generalize hρ : ms_ (ms_ τ 50 b (q 0 b - mn_ (du_ v i) (q 0 b))) 51 s.toNat (q 1 s.toNat + mn_ (du_ v i) (q 0 b)) = ρ at hRC2 hFt hM2 hF2 hsd2 ⊢
            have hp21 : pz_ s.toNat b (du_ v i) q 2 1 = q 2 1 := pz_2
            have hqb := hL.2.2.2.2.1
            refine V_iload (pc := 146) dX7_goes_146 rfl ?_
            refine V_iload (pc := 148) dX7_goes_148 rfl ?_
            refine V_icmp_ge (tgt := 171) (pc := 150) dX7_goes_150 (by decide) (by constructor <;> omega) (by constructor <;> omega) (fun h150 => ?_) (fun h150 => ?_)
            · skip
              have e2 : py_ yr s.toNat b (du_ v i) (v 6 b) q = pz_ s.toNat b (du_ v i) q := by unfold py_; rw [if_neg (by omega)]
              refine V_iconst (pc := 171) dX7_goes_171 ?_
              refine V_istore (pc := 172) dX7_goes_172 (by decide) rfl ?_
              show V_ _ _ _ _ _ [_, _, _, _, _, _, _, _] _ _
              refine V_iload (pc := 174) dX7_goes_174 rfl ?_
              refine V_if_eq (tgt := 197) (pc := 176) dX7_goes_176 (by decide) (by constructor <;> omega) (fun h176 => ?_) (fun h176 => by exact absurd h176 (by decide))
              refine V_aload_n (pc := 197) dX7_goes_197 rfl rfl ?_
              refine V_dup (pc := 198) dX7_goes_198 rfl ?_
              refine V_geti (pc := 199) dX7_goes_199 fX7_174 rfl gg_38 rfl (fun r199 => ?_)
              first | rw [hRC2.2.2.2.1, hp21] at r199 ⊢ | (rw [show ms_ (ms_ ρ 38 19 yr) 38 20 (b : Int) 38 16 = q 2 1 from by rw [ms_ne (by decide), ms_ne (by decide), hRC2.2.2.2.1, hp21]] at r199 ⊢)
              refine V_iload (pc := 202) dX7_goes_202 rfl ?_
              refine V_if_eq (tgt := 214) (pc := 204) dX7_goes_204 (by decide) (by constructor <;> omega) (fun h204 => ?_) (fun h204 => by exact absurd h204 (by decide))
              refine V_iconst (pc := 214) dX7_goes_214 ?_
              refine V_ior (pc := 215) dX7_goes_215 ?_
              first | (rw [or_0 (by omega)]; have hso : 0 ≤ q 2 1 ∧ q 2 1 < 256 := hqb) | (rw [bit_or (by omega) (by omega)]; have hso := so_rg (s := q 2 1) (k := (b : Int)) (m := 8) ⟨hqb.1, by have := hqb.2; omega⟩ ⟨by omega, by omega⟩)
              refine V_puti (pc := 216) dX7_goes_216 fX7_174 rfl gg_38 rfl pq_7_16 rfl rfl (by constructor <;> omega) ?_
              refine V_iinc (pc := 219) dX7_goes_219 rfl (by decide) rfl ?_
              show V_ _ _ _ _ _ [_, _, _, _, _, _, _, _] _ _
              refine V_goto (tgt := 34) (pc := 222) dX7_goes_222 (by decide) ?_
              refine V_none (k := 4) ?_
              show V_ _ _ _ _ _ [_, _, _, _, _, _, _, _] _ _
              refine V_none (k := 5) ?_
              show V_ _ _ _ _ _ [_, _, _, _, _, _, _, _] _ _
              refine V_none (k := 6) ?_
              show V_ _ _ _ _ _ [_, _, _, _, _, _, _, _] _ _
              refine V_none (k := 7) ?_
              show V_ _ _ _ _ _ [_, _, _, _, _, _, _, _] _ _
              exact V_cg (ih (by omega) _ (hM2.f4 (F4_.rf.fld (by simp))) (by rw [ms_ne (by decide)]; exact hsd2) (hF2.tr (F4_.rf.fld (by simp))) (by show RD_ v (ln_ v snd yr s i (fo_ (ln_ v snd yr s) i (ms_ r 2 0 (so_ (r 2 0) s)))) _; rw [hq, e1, e2]; have := hRC2.broken (x := q 2 1); rw [ms_id pz_2] at this; exact this)) (by simp) rfl rfl
            · skip
              refine V_aload_n (pc := 153) dX7_goes_153 rfl rfl ?_
              refine V_getr (pc := 154) dX7_goes_154 fX7_34 rfl gg_38 rfl ?_
              refine V_iconst (pc := 157) dX7_goes_157 ?_
              refine V_iload (pc := 158) dX7_goes_158 rfl ?_
              refine V_imul (pc := 160) dX7_goes_160 ?_
              refine V_iconst (pc := 161) dX7_goes_161 ?_
              refine V_iadd (pc := 162) dX7_goes_162 ?_
              refine V_iald (pc := 163) dX7_goes_163 gg_47 (by omega) (by decide) (fun r163 => ?_)
              rw [show (3 * (b : Int) + 1).toNat = 3 * b + 1 by omega, (hM2.ni hbn).2.1] at r163 ⊢
              have wdr := (hW.ni hbn).2.2
              refine V_if_ne (tgt := 171) (pc := 164) dX7_goes_164 (by decide) (by constructor <;> omega) (fun h164 => ?_) (fun h164 => ?_)
              · skip
                have e2 : py_ yr s.toNat b (du_ v i) (v 6 b) q = pz_ s.toNat b (du_ v i) q := by unfold py_; rw [if_neg (by omega)]
                refine V_iconst (pc := 171) dX7_goes_171 ?_
                refine V_istore (pc := 172) dX7_goes_172 (by decide) rfl ?_
                show V_ _ _ _ _ _ [_, _, _, _, _, _, _, _] _ _
                refine V_iload (pc := 174) dX7_goes_174 rfl ?_
                refine V_if_eq (tgt := 197) (pc := 176) dX7_goes_176 (by decide) (by constructor <;> omega) (fun h176 => ?_) (fun h176 => by exact absurd h176 (by decide))
                refine V_aload_n (pc := 197) dX7_goes_197 rfl rfl ?_
                refine V_dup (pc := 198) dX7_goes_198 rfl ?_
                refine V_geti (pc := 199) dX7_goes_199 fX7_174 rfl gg_38 rfl (fun r199 => ?_)
                first | rw [hRC2.2.2.2.1, hp21] at r199 ⊢ | (rw [show ms_ (ms_ ρ 38 19 yr) 38 20 (b : Int) 38 16 = q 2 1 from by rw [ms_ne (by decide), ms_ne (by decide), hRC2.2.2.2.1, hp21]] at r199 ⊢)
                refine V_iload (pc := 202) dX7_goes_202 rfl ?_
                refine V_if_eq (tgt := 214) (pc := 204) dX7_goes_204 (by decide) (by constructor <;> omega) (fun h204 => ?_) (fun h204 => by exact absurd h204 (by decide))
                refine V_iconst (pc := 214) dX7_goes_214 ?_
                refine V_ior (pc := 215) dX7_goes_215 ?_
                first | (rw [or_0 (by omega)]; have hso : 0 ≤ q 2 1 ∧ q 2 1 < 256 := hqb) | (rw [bit_or (by omega) (by omega)]; have hso := so_rg (s := q 2 1) (k := (b : Int)) (m := 8) ⟨hqb.1, by have := hqb.2; omega⟩ ⟨by omega, by omega⟩)
                refine V_puti (pc := 216) dX7_goes_216 fX7_174 rfl gg_38 rfl pq_7_16 rfl rfl (by constructor <;> omega) ?_
                refine V_iinc (pc := 219) dX7_goes_219 rfl (by decide) rfl ?_
                show V_ _ _ _ _ _ [_, _, _, _, _, _, _, _] _ _
                refine V_goto (tgt := 34) (pc := 222) dX7_goes_222 (by decide) ?_
                refine V_none (k := 4) ?_
                show V_ _ _ _ _ _ [_, _, _, _, _, _, _, _] _ _
                refine V_none (k := 5) ?_
                show V_ _ _ _ _ _ [_, _, _, _, _, _, _, _] _ _
                refine V_none (k := 6) ?_
                show V_ _ _ _ _ _ [_, _, _, _, _, _, _, _] _ _
                refine V_none (k := 7) ?_
                show V_ _ _ _ _ _ [_, _, _, _, _, _, _, _] _ _
                exact V_cg (ih (by omega) _ (hM2.f4 (F4_.rf.fld (by simp))) (by rw [ms_ne (by decide)]; exact hsd2) (hF2.tr (F4_.rf.fld (by simp))) (by show RD_ v (ln_ v snd yr s i (fo_ (ln_ v snd yr s) i (ms_ r 2 0 (so_ (r 2 0) s)))) _; rw [hq, e1, e2]; have := hRC2.broken (x := q 2 1); rw [ms_id pz_2] at this; exact this)) (by simp) rfl rfl
              · skip
                have e2 : py_ yr s.toNat b (du_ v i) (v 6 b) q = bk_ yr b (pz_ s.toNat b (du_ v i) q) := by unfold py_; rw [if_pos (by omega)]
                refine V_iconst (pc := 167) dX7_goes_167 ?_
                refine V_goto (tgt := 172) (pc := 168) dX7_goes_168 (by decide) ?_
                refine V_istore (pc := 172) dX7_goes_172 (by decide) rfl ?_
                show V_ _ _ _ _ _ [_, _, _, _, _, _, _, _] _ _
                refine V_iload (pc := 174) dX7_goes_174 rfl ?_
                refine V_if_eq (tgt := 197) (pc := 176) dX7_goes_176 (by decide) (by constructor <;> omega) (fun h176 => by exact absurd h176 (by decide)) (fun h176 => ?_)
                refine V_aload_n (pc := 179) dX7_goes_179 rfl rfl ?_
                refine V_geti (pc := 180) dX7_goes_180 fX7_174 rfl gg_38 rfl (fun r180 => ?_)
                rw [hRC2.2.2.2.1, hp21] at r180 ⊢
                refine V_if_ne (tgt := 197) (pc := 183) dX7_goes_183 (by decide) (by constructor <;> omega) (fun h183 => ?_) (fun h183 => ?_)
                · skip
                  refine V_aload_n (pc := 197) dX7_goes_197 rfl rfl ?_
                  refine V_dup (pc := 198) dX7_goes_198 rfl ?_
                  refine V_geti (pc := 199) dX7_goes_199 fX7_174 rfl gg_38 rfl (fun r199 => ?_)
                  first | rw [hRC2.2.2.2.1, hp21] at r199 ⊢ | (rw [show ms_ (ms_ ρ 38 19 yr) 38 20 (b : Int) 38 16 = q 2 1 from by rw [ms_ne (by decide), ms_ne (by decide), hRC2.2.2.2.1, hp21]] at r199 ⊢)
                  refine V_iload (pc := 202) dX7_goes_202 rfl ?_
                  refine V_if_eq (tgt := 214) (pc := 204) dX7_goes_204 (by decide) (by constructor <;> omega) (fun h204 => by exact absurd h204 (by decide)) (fun h204 => ?_)
                  refine V_iconst (pc := 207) dX7_goes_207 ?_
                  refine V_iload (pc := 208) dX7_goes_208 rfl ?_
                  refine V_ishl (pc := 210) dX7_goes_210 ?_
                  refine V_goto (tgt := 215) (pc := 211) dX7_goes_211 (by decide) ?_
                  refine V_ior (pc := 215) dX7_goes_215 ?_
                  first | (rw [or_0 (by omega)]; have hso : 0 ≤ q 2 1 ∧ q 2 1 < 256 := hqb) | (rw [bit_or (by omega) (by omega)]; have hso := so_rg (s := q 2 1) (k := (b : Int)) (m := 8) ⟨hqb.1, by have := hqb.2; omega⟩ ⟨by omega, by omega⟩)
                  refine V_puti (pc := 216) dX7_goes_216 fX7_174 rfl gg_38 rfl pq_7_16 rfl rfl (by constructor <;> omega) ?_
                  refine V_iinc (pc := 219) dX7_goes_219 rfl (by decide) rfl ?_
                  show V_ _ _ _ _ _ [_, _, _, _, _, _, _, _] _ _
                  refine V_goto (tgt := 34) (pc := 222) dX7_goes_222 (by decide) ?_
                  refine V_none (k := 4) ?_
                  show V_ _ _ _ _ _ [_, _, _, _, _, _, _, _] _ _
                  refine V_none (k := 5) ?_
                  show V_ _ _ _ _ _ [_, _, _, _, _, _, _, _] _ _
                  refine V_none (k := 6) ?_
                  show V_ _ _ _ _ _ [_, _, _, _, _, _, _, _] _ _
                  refine V_none (k := 7) ?_
                  show V_ _ _ _ _ _ [_, _, _, _, _, _, _, _] _ _
                  exact V_cg (ih (by omega) _ (hM2.f4 (F4_.rf.fld (by simp))) (by rw [ms_ne (by decide)]; exact hsd2) (hF2.tr (F4_.rf.fld (by simp))) (by show RD_ v (ln_ v snd yr s i (fo_ (ln_ v snd yr s) i (ms_ r 2 0 (so_ (r 2 0) s)))) _; rw [hq, e1, e2]; unfold bk_; rw [if_neg (by rw [hp21]; exact h183), hp21]; exact hRC2.broken)) (by simp) rfl rfl
                · skip
                  refine V_aload_n (pc := 186) dX7_goes_186 rfl rfl ?_
                  refine V_iload_n (pc := 187) dX7_goes_187 rfl rfl ?_
                  refine V_puti (pc := 188) dX7_goes_188 fX7_180 rfl gg_38 rfl pq_7_19 rfl rfl (by constructor <;> omega) ?_
                  refine V_aload_n (pc := 191) dX7_goes_191 rfl rfl ?_
                  refine V_iload (pc := 192) dX7_goes_192 rfl ?_
                  refine V_puti (pc := 194) dX7_goes_194 fX7_183 rfl gg_38 rfl pq_7_20 rfl rfl (by constructor <;> omega) ?_
                  refine V_aload_n (pc := 197) dX7_goes_197 rfl rfl ?_
                  refine V_dup (pc := 198) dX7_goes_198 rfl ?_
                  refine V_geti (pc := 199) dX7_goes_199 fX7_174 rfl gg_38 rfl (fun r199 => ?_)
                  first | rw [hRC2.2.2.2.1, hp21] at r199 ⊢ | (rw [show ms_ (ms_ ρ 38 19 yr) 38 20 (b : Int) 38 16 = q 2 1 from by rw [ms_ne (by decide), ms_ne (by decide), hRC2.2.2.2.1, hp21]] at r199 ⊢)
                  refine V_iload (pc := 202) dX7_goes_202 rfl ?_
                  refine V_if_eq (tgt := 214) (pc := 204) dX7_goes_204 (by decide) (by constructor <;> omega) (fun h204 => by exact absurd h204 (by decide)) (fun h204 => ?_)
                  refine V_iconst (pc := 207) dX7_goes_207 ?_
                  refine V_iload (pc := 208) dX7_goes_208 rfl ?_
                  refine V_ishl (pc := 210) dX7_goes_210 ?_
                  refine V_goto (tgt := 215) (pc := 211) dX7_goes_211 (by decide) ?_
                  refine V_ior (pc := 215) dX7_goes_215 ?_
                  first | (rw [or_0 (by omega)]; have hso : 0 ≤ q 2 1 ∧ q 2 1 < 256 := hqb) | (rw [bit_or (by omega) (by omega)]; have hso := so_rg (s := q 2 1) (k := (b : Int)) (m := 8) ⟨hqb.1, by have := hqb.2; omega⟩ ⟨by omega, by omega⟩)
                  refine V_puti (pc := 216) dX7_goes_216 fX7_174 rfl gg_38 rfl pq_7_16 rfl rfl (by constructor <;> omega) ?_
                  refine V_iinc (pc := 219) dX7_goes_219 rfl (by decide) rfl ?_
                  show V_ _ _ _ _ _ [_, _, _, _, _, _, _, _] _ _
                  refine V_goto (tgt := 34) (pc := 222) dX7_goes_222 (by decide) ?_
                  refine V_none (k := 4) ?_
                  show V_ _ _ _ _ _ [_, _, _, _, _, _, _, _] _ _
                  refine V_none (k := 5) ?_
                  show V_ _ _ _ _ _ [_, _, _, _, _, _, _, _] _ _
                  refine V_none (k := 6) ?_
                  show V_ _ _ _ _ _ [_, _, _, _, _, _, _, _] _ _
                  refine V_none (k := 7) ?_
                  show V_ _ _ _ _ _ [_, _, _, _, _, _, _, _] _ _
                  exact V_cg (ih (by omega) _ (hM2.f4 (((F4_.rf.fld (by simp)).fld (by simp)).fld (by simp))) (by rw [ms_ne (by decide), ms_ne (by decide), ms_ne (by decide)]; exact hsd2) (hF2.tr (((F4_.rf.fld (by simp)).fld (by simp)).fld (by simp))) (by show RD_ v (ln_ v snd yr s i (fo_ (ln_ v snd yr s) i (ms_ r 2 0 (so_ (r 2 0) s)))) _; rw [hq, e1, e2]; unfold bk_; rw [if_pos (by rw [hp21]; exact h183), hp21]; exact hRC2.fy.fw.broken)) (by simp) rfl rfl
theorem ct_X7_goes {snd yr s : Int} (hW : WF_ v) (hR : RW_ v r) (hs : 0 ≤ s ∧ s ≤ 5) (hy : 0 ≤ yr ∧ yr ≤ 29) (hsn : 0 ≤ snd ∧ snd ≤ 255) (hM : HM_ v σ) (hsd : σ 38 21 = snd) (hRC : RD_ v r σ) (hK : ∀ τ, RD_ v (si_ v snd yr s r) τ → F4_ σ τ → post none τ) : V_ l D mX7_goes (CM_ D mX7_goes post) 0 [some (vr_ 38), some (vi_ yr), some (vi_ s), none, none, none, none, none] [] σ := by
  have ws := hW.s
  have wn := hW.n
  have wl := hW.l
  have wk := hW.k
  have hr0 := hR.2.2.1
  refine V_aload_n (pc := 0) dX7_goes_0 rfl rfl ?_
  refine V_iload_n (pc := 1) dX7_goes_1 rfl rfl ?_
  refine V_callV (pc := 2) (as := [_]) (rest := []) dX7_goes_2 ⟨kX7_127, iX7_isShip, by decide, by decide⟩ rc_38 rfl rfl (Nat.le_of_ble_eq_true rfl) (Nat.le_of_ble_eq_true rfl) ?_
  refine ct_X7_isShip (by constructor <;> omega) hM.1.1 (by omega) ?_
  show V_ _ _ _ _ _ _ [_] _
  refine V_if_eq (tgt := 19) (pc := 5) dX7_goes_5 (by decide) b2_rg (fun h5 => ?_) (fun h5 => ?_)
  · skip
    rw [b2_0] at h5
    refine V_return (pc := 19) dX7_goes_19 rfl (fun hR => ?_)
    first | exact hK _ (by rw [show si_ v snd yr s r = r from if_neg (fun z => h5 z.1)]; exact hRC) F4_.rf | exact hK _ (by rw [show si_ v snd yr s r = r from if_neg (fun z => by rw [h16] at z; cases z.2)]; exact hRC) F4_.rf
  · skip
    rw [b2_n0] at h5
    refine V_aload_n (pc := 8) dX7_goes_8 rfl rfl ?_
    refine V_geti (pc := 9) dX7_goes_9 fX7_177 rfl gg_38 rfl (fun r9 => ?_)
    rw [hRC.2.2.1] at r9 ⊢
    refine V_iload_n (pc := 12) dX7_goes_12 rfl rfl ?_
    refine V_callS (pc := 13) (as := [_, _]) (rest := []) dX7_goes_13 ⟨kX7_139, sX7_isIn, by decide, by decide⟩ rfl rfl (Nat.le_of_ble_eq_true rfl) (Nat.le_of_ble_eq_true rfl) ?_
    refine ct_X7_isIn (by omega) (by omega) ?_
    show V_ _ _ _ _ _ _ [_] _
    refine V_if_eq (tgt := 20) (pc := 16) dX7_goes_16 (by decide) b2_rg (fun h16 => ?_) (fun h16 => ?_)
    · skip
      rw [b2_0] at h16
      have h16 : bt_ (r 2 0) s = false := by simpa using h16
      refine V_aload_n (pc := 20) dX7_goes_20 rfl rfl ?_
      refine V_dup (pc := 21) dX7_goes_21 rfl ?_
      refine V_geti (pc := 22) dX7_goes_22 fX7_177 rfl gg_38 rfl (fun r22 => ?_)
      rw [hRC.2.2.1] at r22 ⊢
      refine V_iconst (pc := 25) dX7_goes_25 ?_
      refine V_iload_n (pc := 26) dX7_goes_26 rfl rfl ?_
      refine V_ishl (pc := 27) dX7_goes_27 ?_
      refine V_ior (pc := 28) dX7_goes_28 ?_
      rw [bit_or (by omega) (by omega)]
      have hso := so_rg (s := r 2 0) (k := s) (m := 6) ⟨hr0.1, by have := hr0.2; omega⟩ ⟨by omega, by omega⟩
      refine V_puti (pc := 29) dX7_goes_29 fX7_177 rfl gg_38 rfl pq_7_17 rfl rfl (by constructor <;> omega) ?_
      refine V_iconst (pc := 32) dX7_goes_32 ?_
      refine V_istore_n (pc := 33) dX7_goes_33 rfl (by decide) rfl ?_
      show V_ _ _ _ _ _ [_, _, _, _, _, _, _, _] _ _
      exact V_cg (lp_X7_goes hW hR hs hy hsn h5 h16 hK 0 (Nat.zero_le _) _ (hM.f4 (F4_.rf.fld (by simp))) (by rw [ms_ne (by decide)]; exact hsd) (F4_.rf.fld (by simp)) hRC.lost) (by simp) rfl rfl
    · skip
      rw [b2_n0] at h16
      refine V_return (pc := 19) dX7_goes_19 rfl (fun hR => ?_)
      first | exact hK _ (by rw [show si_ v snd yr s r = r from if_neg (fun z => h5 z.1)]; exact hRC) F4_.rf | exact hK _ (by rw [show si_ v snd yr s r = r from if_neg (fun z => by rw [h16] at z; cases z.2)]; exact hRC) F4_.rf
def LM_ (u σ : Mm_) : Prop := σ 38 13 = u 0 0 ∧ ∀ i : Nat, (i : Int) < u 0 0 → σ 49 (2 * i) = u 1 i ∧ σ 49 (2 * i + 1) = u 2 i
theorem LM_.f4 {u σ τ : Mm_} (h : LM_ u σ) (e : F4_ σ τ) : LM_ u τ := by
  unfold LM_ at h ⊢
  rw [e.2 13 (by decide) (by decide) (by decide) (by decide), e.1 49 (by decide) (by decide) (by decide)]
  exact h
theorem F4_.sd {σ τ : Mm_} (e : F4_ σ τ) {x : Int} (h : σ 38 21 = x) : τ 38 21 = x := (e.2 21 (by decide) (by decide) (by decide) (by decide)).trans h
theorem lq_X7_lives (hW : WF_ v) (hU : LW_ u) {Y : Nat} (hY : Y ≤ 29) {y : Nat} (hy : y ≤ 29) {r : Mm_} (hR : RW_ v r) (hK : ∀ τ, HM_ v τ → LM_ u τ → τ 38 21 = 255 → F4_ σ τ → RD_ v (yo_ v u (y : Int) (u 0 0).toNat r) τ → V_ l D mX7_lives (CM_ D mX7_lives post) 54 [some (vr_ 38), some (vi_ (Y : Int)), some (vi_ (y : Int)), none] [] τ) : ∀ i : Nat, i ≤ (u 0 0).toNat → ∀ τ, HM_ v τ → LM_ u τ → τ 38 21 = 255 → F4_ σ τ → RD_ v (yo_ v u (y : Int) i r) τ → V_ l D mX7_lives (CM_ D mX7_lives post) 13 [some (vr_ 38), some (vi_ (Y : Int)), some (vi_ (y : Int)), some (vi_ (i : Int))] [] τ := by
  have hn : ((u 0 0).toNat : Int) = u 0 0 := Int.toNat_of_nonneg hU.1.1
  have hu := hU.1
  refine up_ _ (fun i hi ih τ hM hL hsd hF hRC => ?_)
  refine V_iload_n (pc := 13) dX7_lives_13 rfl rfl ?_
  refine V_aload_n (pc := 14) dX7_lives_14 rfl rfl ?_
  refine V_geti (pc := 15) dX7_lives_15 fX7_169 rfl gg_38 rfl (fun r15 => ?_)
  rw [hL.1] at r15 ⊢
  refine V_icmp_ge (tgt := 54) (pc := 18) dX7_lives_18 (by decide) (by constructor <;> omega) (by constructor <;> omega) (fun h18 => ?_) (fun h18 => ?_)
  · skip
    refine V_none (k := 3) ?_
    show V_ _ _ _ _ _ [_, _, _, _] _ _
    exact hK _ hM hL hsd hF (by rw [show (u 0 0).toNat = i by omega]; exact hRC)
  · skip
    have wi := hU.2 i (by omega)
    refine V_aload_n (pc := 21) dX7_lives_21 rfl rfl ?_
    refine V_getr (pc := 22) dX7_lives_22 fX7_40 rfl gg_38 rfl ?_
    refine V_iconst (pc := 25) dX7_lives_25 ?_
    refine V_iload_n (pc := 26) dX7_lives_26 rfl rfl ?_
    refine V_imul (pc := 27) dX7_lives_27 ?_
    refine V_iald (pc := 28) dX7_lives_28 gg_49 (by omega) (by decide) (fun r28 => ?_)
    rw [show (2 * (i : Int)).toNat = 2 * i by omega, (hL.2 i (by omega)).1] at r28 ⊢
    refine V_iload_n (pc := 29) dX7_lives_29 rfl rfl ?_
    refine V_icmp_ne (tgt := 48) (pc := 30) dX7_lives_30 (by decide) (by constructor <;> omega) (by constructor <;> omega) (fun h30 => ?_) (fun h30 => ?_)
    · skip
      have e0 : yo_ v u (y : Int) (i + 1) r = yo_ v u (y : Int) i r := if_neg h30
      refine V_iinc (pc := 48) dX7_lives_48 rfl (by decide) rfl ?_
      show V_ _ _ _ _ _ [_, _, _, _] _ _
      refine V_goto (tgt := 13) (pc := 51) dX7_lives_51 (by decide) ?_
      exact V_cg (ih (by omega) _ hM hL hsd hF (by rw [e0]; exact hRC)) (by simp) rfl rfl
    · skip
      have e0 : yo_ v u (y : Int) (i + 1) r = si_ v 255 (y : Int) (u 2 i) (yo_ v u (y : Int) i r) := if_pos h30
      refine V_aload_n (pc := 33) dX7_lives_33 rfl rfl ?_
      refine V_iload_n (pc := 34) dX7_lives_34 rfl rfl ?_
      refine V_aload_n (pc := 35) dX7_lives_35 rfl rfl ?_
      refine V_getr (pc := 36) dX7_lives_36 fX7_40 rfl gg_38 rfl ?_
      refine V_iconst (pc := 39) dX7_lives_39 ?_
      refine V_iload_n (pc := 40) dX7_lives_40 rfl rfl ?_
      refine V_imul (pc := 41) dX7_lives_41 ?_
      refine V_iconst (pc := 42) dX7_lives_42 ?_
      refine V_iadd (pc := 43) dX7_lives_43 ?_
      refine V_iald (pc := 44) dX7_lives_44 gg_49 (by omega) (by decide) (fun r44 => ?_)
      rw [show (2 * (i : Int) + 1).toNat = 2 * i + 1 by omega, (hL.2 i (by omega)).2] at r44 ⊢
      refine V_callV (pc := 45) (as := [_, _]) (rest := []) dX7_lives_45 ⟨kX7_192, iX7_goes, by decide, by decide⟩ rc_38 rfl rfl (Nat.le_of_ble_eq_true rfl) (Nat.le_of_ble_eq_true rfl) ?_
      refine ct_X7_goes hW (yo_RW hW (by omega) hR i) (by omega) (by omega) (by decide) hM hsd hRC (fun ρ hB1 hB2 => ?_)
      show V_ _ _ _ _ _ _ [] _
      refine V_iinc (pc := 48) dX7_lives_48 rfl (by decide) rfl ?_
      show V_ _ _ _ _ _ [_, _, _, _] _ _
      refine V_goto (tgt := 13) (pc := 51) dX7_lives_51 (by decide) ?_
      exact V_cg (ih (by omega) _ (hM.f4 hB2) (hL.f4 hB2) (hB2.sd hsd) (hF.tr hB2) (by rw [e0]; exact hB1)) (by simp) rfl rfl
theorem lp_X7_lives (hW : WF_ v) (hU : LW_ u) {Y : Nat} (hY : Y ≤ 29) (hK : ∀ τ, RD_ v (li_ v u (Y + 1)) τ → F4_ σ τ → post none τ) : ∀ y : Nat, y ≤ Y + 1 → ∀ τ, HM_ v τ → LM_ u τ → τ 38 21 = 255 → F4_ σ τ → RD_ v (li_ v u y) τ → V_ l D mX7_lives (CM_ D mX7_lives post) 6 [some (vr_ 38), some (vi_ (Y : Int)), some (vi_ (y : Int)), none] [] τ := by
  refine up_ _ (fun y hy ih τ hM hL hsd hF hRC => ?_)
  refine V_iload_n (pc := 6) dX7_lives_6 rfl rfl ?_
  refine V_iload_n (pc := 7) dX7_lives_7 rfl rfl ?_
  refine V_icmp_gt (tgt := 60) (pc := 8) dX7_lives_8 (by decide) (by constructor <;> omega) (by constructor <;> omega) (fun h8 => ?_) (fun h8 => ?_)
  · skip
    refine V_return (pc := 60) dX7_lives_60 rfl (fun hR => ?_)
    exact hK _ (by rw [show Y + 1 = y by omega]; exact hRC) hF
  · skip
    refine V_iconst (pc := 11) dX7_lives_11 ?_
    refine V_istore_n (pc := 12) dX7_lives_12 rfl (by decide) rfl ?_
    show V_ _ _ _ _ _ [_, _, _, _] _ _
    refine V_cg (lq_X7_lives hW hU hY (y := y) (by omega) (li_RW hW y (by omega)) (fun τ hM hL hsd hF hRC => ?_) 0 (Nat.zero_le _) τ hM hL hsd hF hRC) (by simp) rfl rfl
    refine V_iinc (pc := 54) dX7_lives_54 rfl (by decide) rfl ?_
    refine V_goto (tgt := 6) (pc := 57) dX7_lives_57 (by decide) ?_
    exact V_cg (ih (by omega) _ hM hL hsd hF hRC) (by simp) rfl rfl
theorem ct_X7_lives (hW : WF_ v) (hU : LW_ u) {Y : Nat} (hY : Y ≤ 29) (hM : HM_ v σ) (hL : LM_ u σ) (hsd : σ 38 21 = 255) (hK : ∀ τ, RD_ v (li_ v u (Y + 1)) τ → F4_ σ τ → post none τ) : V_ l D mX7_lives (CM_ D mX7_lives post) 0 [some (vr_ 38), some (vi_ (Y : Int)), none, none] [] σ := by
  refine V_aload_n (pc := 0) dX7_lives_0 rfl rfl ?_
  refine V_callV (pc := 1) (as := []) (rest := []) dX7_lives_1 ⟨kX7_189, iX7_begins, by decide, by decide⟩ rc_38 rfl rfl (Nat.le_of_ble_eq_true rfl) (Nat.le_of_ble_eq_true rfl) ?_
  refine ct_X7_begins hW hM (fun ρ hB1 hB2 => ?_)
  show V_ _ _ _ _ _ _ [] _
  refine V_iconst (pc := 4) dX7_lives_4 ?_
  refine V_istore_n (pc := 5) dX7_lives_5 rfl (by decide) rfl ?_
  show V_ _ _ _ _ _ [_, _, _, _] _ _
  exact V_cg (lp_X7_lives hW hU hY hK 0 (Nat.zero_le _) _ (hM.f4 hB2) (hL.f4 hB2) (hB2.sd hsd) hB2 hB1) (by simp) rfl rfl
theorem ct_X7_alone (hW : WF_ v) {snd s : Int} (hsn : 0 ≤ snd ∧ snd ≤ 255) (hs5 : 0 ≤ s ∧ s ≤ 5) (hM : HM_ v σ) (hsd : σ 38 21 = snd) (hK : ∀ τ, RD_ v (si_ v snd 0 s (bg_ v)) τ → F4_ σ τ → post none τ) : V_ l D mX7_alone (CM_ D mX7_alone post) 0 [some (vr_ 38), some (vi_ s)] [] σ := by
  refine V_aload_n (pc := 0) dX7_alone_0 rfl rfl ?_
  refine V_callV (pc := 1) (as := []) (rest := []) dX7_alone_1 ⟨kX7_189, iX7_begins, by decide, by decide⟩ rc_38 rfl rfl (Nat.le_of_ble_eq_true rfl) (Nat.le_of_ble_eq_true rfl) ?_
  refine ct_X7_begins hW hM (fun ρ hB1 hB2 => ?_)
  show V_ _ _ _ _ _ _ [] _
  refine V_aload_n (pc := 4) dX7_alone_4 rfl rfl ?_
  refine V_iconst (pc := 5) dX7_alone_5 ?_
  refine V_iload_n (pc := 6) dX7_alone_6 rfl rfl ?_
  refine V_callV (pc := 7) (as := [_, _]) (rest := []) dX7_alone_7 ⟨kX7_192, iX7_goes, by decide, by decide⟩ rc_38 rfl rfl (Nat.le_of_ble_eq_true rfl) (Nat.le_of_ble_eq_true rfl) ?_
  refine ct_X7_goes hW (bg_RW hW) hs5 (by decide) hsn (hM.f4 hB2) (hB2.sd hsd) hB1 (fun ρ2 hE1 hE2 => ?_)
  show V_ _ _ _ _ _ _ [] _
  refine V_return (pc := 10) dX7_alone_10 rfl (fun hR => ?_)
  exact hK _ hE1 (hB2.tr hE2)
end
