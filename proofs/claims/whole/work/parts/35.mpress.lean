/-! ## class DrownedNamesModel: most alike, the ship to press -/
def F5_ (σ τ : Mm_) : Prop := (∀ q, q ≠ 38 → q ≠ 50 → q ≠ 51 → q ≠ 53 → τ q = σ q) ∧ (∀ j, j ≠ 16 → j ≠ 17 → j ≠ 19 → j ≠ 20 → τ 38 j = σ 38 j)
theorem F5_.rf {σ : Mm_} : F5_ σ σ := ⟨fun _ _ _ _ _ => rfl, fun _ _ _ _ _ => rfl⟩
theorem F5_.tr {σ τ ρ : Mm_} (h : F5_ σ τ) (h2 : F5_ τ ρ) : F5_ σ ρ := ⟨fun q a b c d => (h2.1 q a b c d).trans (h.1 q a b c d), fun j a b c d => (h2.2 j a b c d).trans (h.2 j a b c d)⟩
theorem F4_.f5 {σ τ : Mm_} (h : F4_ σ τ) : F5_ σ τ := ⟨fun q a b c _ => h.1 q a b c, h.2⟩
theorem F5_.arr {σ : Mm_} {j : Nat} {x : Int} : F5_ σ (ms_ σ 53 j x) := ⟨fun q a b c d => ms_rw d, fun i a b c d => ms_nk (by decide)⟩
theorem F5_.pf {σ τ : Mm_} (h : F5_ σ τ) : Pf_ σ τ := ⟨fun q hq => h.1 q (by omega) (by omega) (by omega) (by omega), fun j hj => h.2 j (by omega) (by omega) (by omega) (by omega)⟩
theorem HM_.f5 {v σ τ : Mm_} (h : HM_ v σ) (e : F5_ σ τ) : HM_ v τ := h.cg (fun q hq => e.1 q (by omega) (by omega) (by omega) (by omega)) (e.2 12 (by decide) (by decide) (by decide) (by decide))
theorem GM_.f5 {w σ τ : Mm_} (h : GM_ w σ) (e : F5_ σ τ) : GM_ w τ := by
  unfold GM_ at h ⊢
  rw [e.2 22 (by decide) (by decide) (by decide) (by decide), e.1 52 (by decide) (by decide) (by decide) (by decide)]
  exact h
theorem F5_.sd {σ τ : Mm_} (e : F5_ σ τ) {x : Int} (h : σ 38 21 = x) : τ 38 21 = x := (e.2 21 (by decide) (by decide) (by decide) (by decide)).trans h
theorem hm_lt {v w : Mm_} {n : Nat} (c : fz2_ v w n) : ∀ k, k ≤ n → hm_ v w k ≤ hm_ v w n := by
  intro k hk
  have : ∀ d, hm_ v w k ≤ hm_ v w (k + d) := by
    intro d
    induction d with
    | zero => exact Int.le_refl _
    | succ d ih => have := b2_01 (p := fz2_ v w (k + d)); rw [← Nat.add_assoc, hm_s]; omega
  have := this (n - k)
  rw [show k + (n - k) = n by omega] at this
  exact this
theorem hm_st {v w : Mm_} {k n : Nat} (c : fz2_ v w k) (h : k < n) : hm_ v w k < hm_ v w n := by
  have : ∀ d, hm_ v w (k + 1) ≤ hm_ v w (k + 1 + d) := by
    intro d
    induction d with
    | zero => exact Int.le_refl _
    | succ d ih => have := b2_01 (p := fz2_ v w (k + 1 + d)); have e := hm_s (v := v) (w := w) (n := k + 1 + d); rw [show k + 1 + (d + 1) = k + 1 + d + 1 by omega, e]; omega
  have := this (n - (k + 1))
  rw [show k + 1 + (n - (k + 1)) = n by omega, hm_s, b2_t c] at this
  omega
section
variable {l : Launch} {D : Dt_} {a v w u σ r : Mm_} {post : Option Av_ → Mm_ → Prop}
theorem l3_X7_mostAlike {s : Int} {S : Nat → Int} (hS : ∀ j, j < 256 → σ 53 j = S j) {C : Nat} (hC : C ≤ 256) {i : Nat} (hi : i < C) {m : Int} (h : V_ l D mX7_mostAlike (CM_ D mX7_mostAlike post) 118 [some (vr_ 38), some (vi_ s), some (vi_ (C : Int)), some (vi_ m), some (vi_ (i : Int)), some (vi_ (cf_ S (S i) C)), none] [] σ) : ∀ j : Nat, j ≤ C → V_ l D mX7_mostAlike (CM_ D mX7_mostAlike post) 79 [some (vr_ 38), some (vi_ s), some (vi_ (C : Int)), some (vi_ m), some (vi_ (i : Int)), some (vi_ (cf_ S (S i) j)), some (vi_ (j : Int))] [] σ := by
  refine up_ _ (fun j hj ih => ?_)
  have hr := cf_rg (S := S) (p := S i) j
  have si := hS i (by omega)
  refine V_iload (pc := 79) dX7_mostAlike_79 rfl ?_
  refine V_iload_n (pc := 81) dX7_mostAlike_81 rfl rfl ?_
  refine V_icmp_ge (tgt := 118) (pc := 82) dX7_mostAlike_82 (by decide) (by first | assumption | (constructor <;> omega)) (by first | assumption | (constructor <;> omega)) (fun h82 => ?_) (fun h82 => ?_)
  · skip
    refine V_none (k := 6) ?_
    show V_ _ _ _ _ _ [_, _, _, _, _, _, _] _ _
    exact V_cg h (by rw [show C = j by omega]) rfl rfl
  · skip
    refine V_iload (pc := 85) dX7_mostAlike_85 rfl ?_
    refine V_aload_n (pc := 87) dX7_mostAlike_87 rfl rfl ?_
    refine V_getr (pc := 88) dX7_mostAlike_88 fX7_52 rfl gg_38 rfl ?_
    refine V_iload (pc := 91) dX7_mostAlike_91 rfl ?_
    refine V_ialdN (pc := 93) dX7_mostAlike_93 gg_53 (by omega) (by decide) (fun r93 => ?_)
    rw [si] at r93 ⊢
    refine V_aload_n (pc := 94) dX7_mostAlike_94 rfl rfl ?_
    refine V_getr (pc := 95) dX7_mostAlike_95 fX7_52 rfl gg_38 rfl ?_
    refine V_iload (pc := 98) dX7_mostAlike_98 rfl ?_
    refine V_ialdN (pc := 100) dX7_mostAlike_100 gg_53 (by omega) (by decide) (fun r100 => ?_)
    have sj := hS j (by omega)
    rw [sj] at r100 ⊢
    refine V_icmp_ne (tgt := 108) (pc := 101) dX7_mostAlike_101 (by decide) (by first | assumption | (constructor <;> omega)) (by first | assumption | (constructor <;> omega)) (fun h101 => ?_) (fun h101 => ?_)
    · skip
      have e0 : cf_ S (S i) (j + 1) = cf_ S (S i) j := by rw [cf_s, b2_f (fun z => h101 z.symm), Int.add_zero]
      refine V_iconst (pc := 108) dX7_mostAlike_108 ?_
      refine V_iadd (pc := 109) dX7_mostAlike_109 ?_
      refine V_istore (pc := 110) dX7_mostAlike_110 (by decide) rfl ?_
      show V_ _ _ _ _ _ [_, _, _, _, _, _, _] _ _
      refine V_iinc (pc := 112) dX7_mostAlike_112 rfl (by decide) rfl ?_
      show V_ _ _ _ _ _ [_, _, _, _, _, _, _] _ _
      refine V_goto (tgt := 79) (pc := 115) dX7_mostAlike_115 (by decide) ?_
      exact V_cg (ih (by omega)) (by rw [e0]; simp) rfl rfl
    · skip
      have e0 : cf_ S (S i) (j + 1) = cf_ S (S i) j + 1 := by rw [cf_s, b2_t h101.symm]
      refine V_iconst (pc := 104) dX7_mostAlike_104 ?_
      refine V_goto (tgt := 109) (pc := 105) dX7_mostAlike_105 (by decide) ?_
      refine V_iadd (pc := 109) dX7_mostAlike_109 ?_
      refine V_istore (pc := 110) dX7_mostAlike_110 (by decide) rfl ?_
      show V_ _ _ _ _ _ [_, _, _, _, _, _, _] _ _
      refine V_iinc (pc := 112) dX7_mostAlike_112 rfl (by decide) rfl ?_
      show V_ _ _ _ _ _ [_, _, _, _, _, _, _] _ _
      refine V_goto (tgt := 79) (pc := 115) dX7_mostAlike_115 (by decide) ?_
      exact V_cg (ih (by omega)) (by rw [e0]; simp) rfl rfl
theorem l2_X7_mostAlike {s : Int} {S : Nat → Int} (hS : ∀ j, j < 256 → σ 53 j = S j) {C : Nat} (hC : C ≤ 256) (h : post (some (vi_ (mx_ S C))) σ) : ∀ i : Nat, i ≤ C → V_ l D mX7_mostAlike (CM_ D mX7_mostAlike post) 67 [some (vr_ 38), some (vi_ s), some (vi_ (C : Int)), some (vi_ (mz_ S C i)), some (vi_ (i : Int)), none, none] [] σ := by
  refine up_ _ (fun i hi ih => ?_)
  have hz := mz_rg (S := S) (n := C) i
  have hx := mx_n (S := S) (n := C)
  refine V_iload (pc := 67) dX7_mostAlike_67 rfl ?_
  refine V_iload_n (pc := 69) dX7_mostAlike_69 rfl rfl ?_
  refine V_icmp_ge (tgt := 137) (pc := 70) dX7_mostAlike_70 (by decide) (by constructor <;> omega) (by constructor <;> omega) (fun h70 => ?_) (fun h70 => ?_)
  · skip
    refine V_iload_n (pc := 137) dX7_mostAlike_137 rfl rfl ?_
    refine V_ireturn (pc := 138) dX7_mostAlike_138 rfl rfl (fun hR => ?_)
    rw [← mz_mx, show C = i by omega] at h
    rw [show C = i by omega]
    exact h
  · skip
    refine V_iconst (pc := 73) dX7_mostAlike_73 ?_
    refine V_istore (pc := 74) dX7_mostAlike_74 (by decide) rfl ?_
    show V_ _ _ _ _ _ [_, _, _, _, _, _, _] _ _
    refine V_iconst (pc := 76) dX7_mostAlike_76 ?_
    refine V_istore (pc := 77) dX7_mostAlike_77 (by decide) rfl ?_
    show V_ _ _ _ _ _ [_, _, _, _, _, _, _] _ _
    refine V_cg (l3_X7_mostAlike (s := s) (m := mz_ S C i) hS hC (i := i) (by omega) ?_ 0 (Nat.zero_le _)) (by simp [cf_, sm_]) rfl rfl
    have hr := cf_rg (S := S) (p := S i) C
    refine V_iload (pc := 118) dX7_mostAlike_118 rfl ?_
    refine V_iload_n (pc := 120) dX7_mostAlike_120 rfl rfl ?_
    refine V_icmp_le (tgt := 129) (pc := 121) dX7_mostAlike_121 (by decide) (by constructor <;> omega) (by constructor <;> omega) (fun h121 => ?_) (fun h121 => ?_)
    · skip
      have e0 : mz_ S C (i + 1) = mz_ S C i := by rw [mz_, if_neg (by omega)]
      refine V_iload_n (pc := 129) dX7_mostAlike_129 rfl rfl ?_
      refine V_istore_n (pc := 130) dX7_mostAlike_130 rfl (by decide) rfl ?_
      show V_ _ _ _ _ _ [_, _, _, _, _, _, _] _ _
      refine V_iinc (pc := 131) dX7_mostAlike_131 rfl (by decide) rfl ?_
      show V_ _ _ _ _ _ [_, _, _, _, _, _, _] _ _
      refine V_goto (tgt := 67) (pc := 134) dX7_mostAlike_134 (by decide) ?_
      refine V_none (k := 5) ?_
      show V_ _ _ _ _ _ [_, _, _, _, _, _, _] _ _
      exact V_cg (ih (by omega)) (by rw [e0]; simp) rfl rfl
    · skip
      have e0 : mz_ S C (i + 1) = cf_ S (S i) C := by rw [mz_, if_pos (by omega)]
      refine V_iload (pc := 124) dX7_mostAlike_124 rfl ?_
      refine V_goto (tgt := 130) (pc := 126) dX7_mostAlike_126 (by decide) ?_
      refine V_istore_n (pc := 130) dX7_mostAlike_130 rfl (by decide) rfl ?_
      show V_ _ _ _ _ _ [_, _, _, _, _, _, _] _ _
      refine V_iinc (pc := 131) dX7_mostAlike_131 rfl (by decide) rfl ?_
      show V_ _ _ _ _ _ [_, _, _, _, _, _, _] _ _
      refine V_goto (tgt := 67) (pc := 134) dX7_mostAlike_134 (by decide) ?_
      refine V_none (k := 5) ?_
      show V_ _ _ _ _ _ [_, _, _, _, _, _, _] _ _
      exact V_cg (ih (by omega)) (by rw [e0]; simp) rfl rfl
theorem lp_X7_mostAlike (hW : WF_ v) (hw : WW_ w) {s : Int} (hs : 0 ≤ s ∧ s ≤ 5) (hK : ∀ τ, F5_ σ τ → post (some (vi_ (gr_ v w s (ns_ v)))) τ) : ∀ i : Nat, i ≤ ns_ v → ∀ τ, HM_ v τ → GM_ w τ → τ 38 21 = 255 → F5_ σ τ → SM_ v w s i (fun j => τ 53 j) → V_ l D mX7_mostAlike (CM_ D mX7_mostAlike post) 4 [some (vr_ 38), some (vi_ s), some (vi_ (hm_ v w i)), some (vi_ (i : Int)), none, none, none] [] τ := by
  have ws := hW.s
  have wn := hW.n
  have wl := hW.l
  have wk := hW.k
  have hns := ns_rg hW
  refine up_ _ (fun i hi ih τ hM hG hsd hF hI => ?_)
  have hh := hm_rg (v := v) (w := w) (n := i)
  obtain ⟨c, hc⟩ := i_nat hh.1
  refine V_iload_n (pc := 4) dX7_mostAlike_4 rfl rfl ?_
  refine V_iconst (pc := 5) dX7_mostAlike_5 ?_
  refine V_aload_n (pc := 6) dX7_mostAlike_6 rfl rfl ?_
  refine V_getr (pc := 7) dX7_mostAlike_7 fX7_28 rfl gg_38 rfl ?_
  refine V_iconst (pc := 10) dX7_mostAlike_10 ?_
  refine V_iald (pc := 11) dX7_mostAlike_11 gg_45 (by decide) (by decide) (fun r11 => ?_)
  rw [show τ 45 (1 : Int).toNat = v 3 0 from hM.1.2.1] at r11 ⊢
  refine V_ishl (pc := 12) dX7_mostAlike_12 ?_
  rw [ns_sh hW]
  refine V_icmp_ge (tgt := 62) (pc := 13) dX7_mostAlike_13 (by decide) (by constructor <;> omega) (by constructor <;> omega) (fun h13 => ?_) (fun h13 => ?_)
  · skip
    refine V_iconst (pc := 62) dX7_mostAlike_62 ?_
    refine V_istore_n (pc := 63) dX7_mostAlike_63 rfl (by decide) rfl ?_
    show V_ _ _ _ _ _ [_, _, _, _, _, _, _] _ _
    refine V_iconst (pc := 64) dX7_mostAlike_64 ?_
    refine V_istore (pc := 65) dX7_mostAlike_65 (by decide) rfl ?_
    show V_ _ _ _ _ _ [_, _, _, _, _, _, _] _ _
    exact V_cg (l2_X7_mostAlike (s := s) (S := fun j => τ 53 j) (fun j hj => rfl) (C := c) (by omega) (by have := hK _ hF; rw [show ns_ v = i by omega, hI.gr, hc] at this; exact this) 0 (Nat.zero_le _)) (by rw [hc]; simp [mz_]) rfl rfl
  · skip
    refine V_aload_n (pc := 16) dX7_mostAlike_16 rfl rfl ?_
    refine V_iload_n (pc := 17) dX7_mostAlike_17 rfl rfl ?_
    refine V_callV (pc := 18) (as := [_]) (rest := []) dX7_mostAlike_18 ⟨kX7_239, iX7_isSeen, by decide, by decide⟩ rc_38 rfl rfl (Nat.le_of_ble_eq_true rfl) (Nat.le_of_ble_eq_true rfl) ?_
    refine ct_X7_isSeen hW hw (k := i) (by omega) hsd hM hG (fun ρ hB => ?_)
    show V_ _ _ _ _ _ _ [_] _
    refine V_if_eq (tgt := 56) (pc := 21) dX7_mostAlike_21 (by decide) b2_rg (fun h21 => ?_) (fun h21 => ?_)
    · skip
      rw [b2_0] at h21
      refine V_iinc (pc := 56) dX7_mostAlike_56 rfl (by decide) rfl ?_
      show V_ _ _ _ _ _ [_, _, _, _, _, _, _] _ _
      refine V_goto (tgt := 4) (pc := 59) dX7_mostAlike_59 (by decide) ?_
      have e53 : ρ 53 = τ 53 := hB.1 53 (by decide) (by decide) (by decide)
      exact V_cg (ih (by omega) _ (hM.f4 hB) (hG.f4 hB) (hB.sd hsd) (hF.tr hB.f5) (fun k hk hz => by
        by_cases e : k = i
        · subst e; exact absurd hz h21
        · show ρ 53 _ = _; rw [e53]; exact hI k (by omega) hz)) (by rw [hm_s, b2_f h21]; simp) rfl rfl
    · skip
      rw [b2_n0] at h21
      refine V_aload_n (pc := 24) dX7_mostAlike_24 rfl rfl ?_
      refine V_iload_n (pc := 25) dX7_mostAlike_25 rfl rfl ?_
      refine V_puti (pc := 26) dX7_mostAlike_26 fX7_55 rfl gg_38 rfl pq_7_21 rfl rfl (by constructor <;> omega) ?_
      refine V_aload_n (pc := 29) dX7_mostAlike_29 rfl rfl ?_
      refine V_iload_n (pc := 30) dX7_mostAlike_30 rfl rfl ?_
      refine V_callV (pc := 31) (as := [_]) (rest := []) dX7_mostAlike_31 ⟨kX7_212, iX7_alone, by decide, by decide⟩ rc_38 rfl rfl (Nat.le_of_ble_eq_true rfl) (Nat.le_of_ble_eq_true rfl) ?_
      refine ct_X7_alone hW (by omega) (by omega) (hM.f4 hB).sd ms_eq (fun ρ2 hE1 hE2 => ?_)
      show V_ _ _ _ _ _ _ [] _
      refine V_aload_n (pc := 34) dX7_mostAlike_34 rfl rfl ?_
      refine V_sipush (pc := 35) dX7_mostAlike_35 (by decide) ?_
      refine V_puti (pc := 38) dX7_mostAlike_38 fX7_55 rfl gg_38 rfl pq_7_21 rfl rfl (by constructor <;> omega) ?_
      refine V_aload_n (pc := 41) dX7_mostAlike_41 rfl rfl ?_
      refine V_getr (pc := 42) dX7_mostAlike_42 fX7_52 rfl gg_38 rfl ?_
      refine V_iload_n (pc := 45) dX7_mostAlike_45 rfl rfl ?_
      rw [hc]
      refine V_aload_n (pc := 46) dX7_mostAlike_46 rfl rfl ?_
      refine V_getr (pc := 47) dX7_mostAlike_47 fX7_46 rfl gg_38 rfl ?_
      refine V_iload_n (pc := 50) dX7_mostAlike_50 rfl rfl ?_
      obtain ⟨q, hq⟩ := i_nat hs.1
      rw [hq]
      refine V_ialdN (pc := 51) dX7_mostAlike_51 gg_51 (by omega) (by decide) (fun r51 => ?_)
      have e51 : (ms_ ρ2 38 21 255) 51 q = a1_ v (i : Int) s := by rw [ms_nk (by decide), hE1.2.1 q (by omega)]; unfold a1_; rw [show s.toNat = q by omega]
      have ha := a1_rg hW (set := (i : Int)) (s := s) (by omega)
      rw [e51] at r51 ⊢
      refine V_iastN (pc := 52) dX7_mostAlike_52 gg_53 (by omega) (by decide) (by constructor <;> omega) ?_
      have hF3 : F4_ ρ (ms_ ρ2 38 21 255) := hE2.un (hB.sd hsd)
      refine V_iinc (pc := 53) dX7_mostAlike_53 rfl (by decide) rfl ?_
      show V_ _ _ _ _ _ [_, _, _, _, _, _, _] _ _
      refine V_iinc (pc := 56) dX7_mostAlike_56 rfl (by decide) rfl ?_
      show V_ _ _ _ _ _ [_, _, _, _, _, _, _] _ _
      refine V_goto (tgt := 4) (pc := 59) dX7_mostAlike_59 (by decide) ?_
      have e53 : (ms_ ρ2 38 21 255) 53 = τ 53 := (hF3.1 53 (by decide) (by decide) (by decide)).trans (hB.1 53 (by decide) (by decide) (by decide))
      have hF4 : F5_ τ (ms_ (ms_ ρ2 38 21 255) 53 c (a1_ v (i : Int) s)) := (hB.f5.tr hF3.f5).tr F5_.arr
      exact V_cg (ih (by omega) _ (hM.f5 hF4) (hG.f5 hF4) (hF4.sd hsd) (hF.tr hF4) (fun k hk hz => by
        by_cases e : k = i
        · subst e; show ms_ _ _ _ _ _ _ = _; rw [show (hm_ v w k).toNat = c by omega, ms_eq]
        · have := hm_st (w := w) hz (show k < i by omega)
          have h3 := hm_rg (v := v) (w := w) (n := k)
          show ms_ _ _ _ _ _ _ = _
          rw [ms_ne (by omega), e53]; exact hI k (by omega) hz)) (by rw [hm_s, b2_t h21, hc]; simp [hq]) rfl rfl
theorem ct_X7_mostAlike (hW : WF_ v) (hw : WW_ w) {s : Int} (hs : 0 ≤ s ∧ s ≤ 5) (hM : HM_ v σ) (hG : GM_ w σ) (hsd : σ 38 21 = 255) (hK : ∀ τ, F5_ σ τ → post (some (vi_ (gr_ v w s (ns_ v)))) τ) : V_ l D mX7_mostAlike (CM_ D mX7_mostAlike post) 0 [some (vr_ 38), some (vi_ s), none, none, none, none, none] [] σ := by
  refine V_iconst (pc := 0) dX7_mostAlike_0 ?_
  refine V_istore_n (pc := 1) dX7_mostAlike_1 rfl (by decide) rfl ?_
  show V_ _ _ _ _ _ [_, _, _, _, _, _, _] _ _
  refine V_iconst (pc := 2) dX7_mostAlike_2 ?_
  refine V_istore_n (pc := 3) dX7_mostAlike_3 rfl (by decide) rfl ?_
  show V_ _ _ _ _ _ [_, _, _, _, _, _, _] _ _
  exact V_cg (lp_X7_mostAlike hW hw hs hK 0 (Nat.zero_le _) _ hM hG hsd F5_.rf (fun k hk => absurd hk (Nat.not_lt_zero _))) (by simp [hm_, sm_]) rfl rfl
theorem lp_X7_pressNow (hW : WF_ v) (hw : WW_ w) (hK : ∀ τ, F5_ σ τ → post (some (vi_ (pr_ v w (v 0 0).toNat).1)) τ) : ∀ i : Nat, i ≤ (v 0 0).toNat → ∀ τ, HM_ v τ → GM_ w τ → τ 38 21 = 255 → F5_ σ τ → V_ l D mX7_pressNow (CM_ D mX7_pressNow post) 6 [some (vr_ 38), some (vi_ (pr_ v w i).1), some (vi_ (pr_ v w i).2), some (vi_ (i : Int)), none, none] [] τ := by
  have ws := hW.s
  have wn := hW.n
  have wl := hW.l
  have wk := hW.k
  have hns := ns_rg hW
  refine up_ _ (fun i hi ih τ hM hG hsd hF => ?_)
  have hp := pr_rg (v := v) (w := w) (n := i)
  have hg := gr_rg (v := v) (w := w) (s := (i : Int)) (n := ns_ v)
  refine V_iload_n (pc := 6) dX7_pressNow_6 rfl rfl ?_
  refine V_aload_n (pc := 7) dX7_pressNow_7 rfl rfl ?_
  refine V_getr (pc := 8) dX7_pressNow_8 fX7_28 rfl gg_38 rfl ?_
  refine V_iconst (pc := 11) dX7_pressNow_11 ?_
  refine V_iald (pc := 12) dX7_pressNow_12 gg_45 (by decide) (by decide) (fun r12 => ?_)
  rw [show τ 45 (0 : Int).toNat = v 0 0 from hM.1.1] at r12 ⊢
  refine V_icmp_ge (tgt := 70) (pc := 13) dX7_pressNow_13 (by decide) (by constructor <;> omega) (by constructor <;> omega) (fun h13 => ?_) (fun h13 => ?_)
  · skip
    refine V_iload_n (pc := 70) dX7_pressNow_70 rfl rfl ?_
    refine V_ireturn (pc := 71) dX7_pressNow_71 rfl rfl (fun hR => ?_)
    have := hK _ hF
    rw [show (v 0 0).toNat = i by omega] at this
    exact this
  · skip
    refine V_aload_n (pc := 16) dX7_pressNow_16 rfl rfl ?_
    refine V_iload_n (pc := 17) dX7_pressNow_17 rfl rfl ?_
    refine V_callV (pc := 18) (as := [_]) (rest := []) dX7_pressNow_18 ⟨kX7_245, iX7_mostAlike, by decide, by decide⟩ rc_38 rfl rfl (Nat.le_of_ble_eq_true rfl) (Nat.le_of_ble_eq_true rfl) ?_
    refine ct_X7_mostAlike hW hw (by omega) hM hG hsd (fun ρ hB => ?_)
    show V_ _ _ _ _ _ _ [_] _
    refine V_istore (pc := 21) dX7_pressNow_21 (by decide) rfl ?_
    show V_ _ _ _ _ _ [_, _, _, _, _, _] _ _
    refine V_iload_n (pc := 23) dX7_pressNow_23 rfl rfl ?_
    refine V_iconst (pc := 24) dX7_pressNow_24 ?_
    refine V_icmp_eq (tgt := 34) (pc := 25) dX7_pressNow_25 (by decide) (by constructor <;> omega) (by constructor <;> omega) (fun h25 => ?_) (fun h25 => ?_)
    · skip
      have e0 : pr_ v w (i + 1) = ((i : Int), gr_ v w (i : Int) (ns_ v)) := by rw [pr_, if_pos (Or.inl h25)]
      refine V_iconst (pc := 34) dX7_pressNow_34 ?_
      refine V_goto (tgt := 39) (pc := 35) dX7_pressNow_35 (by decide) ?_
      refine V_istore (pc := 39) dX7_pressNow_39 (by decide) rfl ?_
      show V_ _ _ _ _ _ [_, _, _, _, _, _] _ _
      refine V_iload (pc := 41) dX7_pressNow_41 rfl ?_
      refine V_if_eq (tgt := 50) (pc := 43) dX7_pressNow_43 (by decide) (by constructor <;> omega) (fun h43 => by exact absurd h43 (by decide)) (fun h43 => ?_)
      refine V_iload_n (pc := 46) dX7_pressNow_46 rfl rfl ?_
      refine V_goto (tgt := 51) (pc := 47) dX7_pressNow_47 (by decide) ?_
      refine V_istore_n (pc := 51) dX7_pressNow_51 rfl (by decide) rfl ?_
      show V_ _ _ _ _ _ [_, _, _, _, _, _] _ _
      refine V_iload (pc := 52) dX7_pressNow_52 rfl ?_
      refine V_if_eq (tgt := 62) (pc := 54) dX7_pressNow_54 (by decide) (by constructor <;> omega) (fun h54 => by exact absurd h54 (by decide)) (fun h54 => ?_)
      refine V_iload (pc := 57) dX7_pressNow_57 rfl ?_
      refine V_goto (tgt := 63) (pc := 59) dX7_pressNow_59 (by decide) ?_
      refine V_istore_n (pc := 63) dX7_pressNow_63 rfl (by decide) rfl ?_
      show V_ _ _ _ _ _ [_, _, _, _, _, _] _ _
      refine V_iinc (pc := 64) dX7_pressNow_64 rfl (by decide) rfl ?_
      show V_ _ _ _ _ _ [_, _, _, _, _, _] _ _
      refine V_goto (tgt := 6) (pc := 67) dX7_pressNow_67 (by decide) ?_
      refine V_none (k := 4) ?_
      show V_ _ _ _ _ _ [_, _, _, _, _, _] _ _
      refine V_none (k := 5) ?_
      show V_ _ _ _ _ _ [_, _, _, _, _, _] _ _
      exact V_cg (ih (by omega) _ (hM.f5 hB) (hG.f5 hB) (hB.sd hsd) (hF.tr hB)) (by rw [e0]; simp) rfl rfl
    · skip
      refine V_iload (pc := 28) dX7_pressNow_28 rfl ?_
      refine V_iload_n (pc := 30) dX7_pressNow_30 rfl rfl ?_
      refine V_icmp_ge (tgt := 38) (pc := 31) dX7_pressNow_31 (by decide) (by constructor <;> omega) (by constructor <;> omega) (fun h31 => ?_) (fun h31 => ?_)
      · skip
        have e0 : pr_ v w (i + 1) = pr_ v w i := by rw [pr_, if_neg (by omega)]
        refine V_iconst (pc := 38) dX7_pressNow_38 ?_
        refine V_istore (pc := 39) dX7_pressNow_39 (by decide) rfl ?_
        show V_ _ _ _ _ _ [_, _, _, _, _, _] _ _
        refine V_iload (pc := 41) dX7_pressNow_41 rfl ?_
        refine V_if_eq (tgt := 50) (pc := 43) dX7_pressNow_43 (by decide) (by constructor <;> omega) (fun h43 => ?_) (fun h43 => by exact absurd h43 (by decide))
        refine V_iload_n (pc := 50) dX7_pressNow_50 rfl rfl ?_
        refine V_istore_n (pc := 51) dX7_pressNow_51 rfl (by decide) rfl ?_
        show V_ _ _ _ _ _ [_, _, _, _, _, _] _ _
        refine V_iload (pc := 52) dX7_pressNow_52 rfl ?_
        refine V_if_eq (tgt := 62) (pc := 54) dX7_pressNow_54 (by decide) (by constructor <;> omega) (fun h54 => ?_) (fun h54 => by exact absurd h54 (by decide))
        refine V_iload_n (pc := 62) dX7_pressNow_62 rfl rfl ?_
        refine V_istore_n (pc := 63) dX7_pressNow_63 rfl (by decide) rfl ?_
        show V_ _ _ _ _ _ [_, _, _, _, _, _] _ _
        refine V_iinc (pc := 64) dX7_pressNow_64 rfl (by decide) rfl ?_
        show V_ _ _ _ _ _ [_, _, _, _, _, _] _ _
        refine V_goto (tgt := 6) (pc := 67) dX7_pressNow_67 (by decide) ?_
        refine V_none (k := 4) ?_
        show V_ _ _ _ _ _ [_, _, _, _, _, _] _ _
        refine V_none (k := 5) ?_
        show V_ _ _ _ _ _ [_, _, _, _, _, _] _ _
        exact V_cg (ih (by omega) _ (hM.f5 hB) (hG.f5 hB) (hB.sd hsd) (hF.tr hB)) (by rw [e0]; simp) rfl rfl
      · skip
        have e0 : pr_ v w (i + 1) = ((i : Int), gr_ v w (i : Int) (ns_ v)) := by rw [pr_, if_pos (by omega)]
        refine V_iconst (pc := 34) dX7_pressNow_34 ?_
        refine V_goto (tgt := 39) (pc := 35) dX7_pressNow_35 (by decide) ?_
        refine V_istore (pc := 39) dX7_pressNow_39 (by decide) rfl ?_
        show V_ _ _ _ _ _ [_, _, _, _, _, _] _ _
        refine V_iload (pc := 41) dX7_pressNow_41 rfl ?_
        refine V_if_eq (tgt := 50) (pc := 43) dX7_pressNow_43 (by decide) (by constructor <;> omega) (fun h43 => by exact absurd h43 (by decide)) (fun h43 => ?_)
        refine V_iload_n (pc := 46) dX7_pressNow_46 rfl rfl ?_
        refine V_goto (tgt := 51) (pc := 47) dX7_pressNow_47 (by decide) ?_
        refine V_istore_n (pc := 51) dX7_pressNow_51 rfl (by decide) rfl ?_
        show V_ _ _ _ _ _ [_, _, _, _, _, _] _ _
        refine V_iload (pc := 52) dX7_pressNow_52 rfl ?_
        refine V_if_eq (tgt := 62) (pc := 54) dX7_pressNow_54 (by decide) (by constructor <;> omega) (fun h54 => by exact absurd h54 (by decide)) (fun h54 => ?_)
        refine V_iload (pc := 57) dX7_pressNow_57 rfl ?_
        refine V_goto (tgt := 63) (pc := 59) dX7_pressNow_59 (by decide) ?_
        refine V_istore_n (pc := 63) dX7_pressNow_63 rfl (by decide) rfl ?_
        show V_ _ _ _ _ _ [_, _, _, _, _, _] _ _
        refine V_iinc (pc := 64) dX7_pressNow_64 rfl (by decide) rfl ?_
        show V_ _ _ _ _ _ [_, _, _, _, _, _] _ _
        refine V_goto (tgt := 6) (pc := 67) dX7_pressNow_67 (by decide) ?_
        refine V_none (k := 4) ?_
        show V_ _ _ _ _ _ [_, _, _, _, _, _] _ _
        refine V_none (k := 5) ?_
        show V_ _ _ _ _ _ [_, _, _, _, _, _] _ _
        exact V_cg (ih (by omega) _ (hM.f5 hB) (hG.f5 hB) (hB.sd hsd) (hF.tr hB)) (by rw [e0]; simp) rfl rfl
theorem ct_X7_pressNow (hW : WF_ v) (hw : WW_ w) (hM : HM_ v σ) (hG : GM_ w σ) (hsd : σ 38 21 = 255) (hK : ∀ τ, F5_ σ τ → post (some (vi_ (pr_ v w (v 0 0).toNat).1)) τ) : V_ l D mX7_pressNow (CM_ D mX7_pressNow post) 0 [some (vr_ 38), none, none, none, none, none] [] σ := by
  refine V_iconst (pc := 0) dX7_pressNow_0 ?_
  refine V_istore_n (pc := 1) dX7_pressNow_1 rfl (by decide) rfl ?_
  show V_ _ _ _ _ _ [_, _, _, _, _, _] _ _
  refine V_iconst (pc := 2) dX7_pressNow_2 ?_
  refine V_istore_n (pc := 3) dX7_pressNow_3 rfl (by decide) rfl ?_
  show V_ _ _ _ _ _ [_, _, _, _, _, _] _ _
  refine V_iconst (pc := 4) dX7_pressNow_4 ?_
  refine V_istore_n (pc := 5) dX7_pressNow_5 rfl (by decide) rfl ?_
  show V_ _ _ _ _ _ [_, _, _, _, _, _] _ _
  exact V_cg (lp_X7_pressNow hW hw hK 0 (Nat.zero_le _) _ hM hG hsd F5_.rf) (by simp [pr_]) rfl rfl
end
