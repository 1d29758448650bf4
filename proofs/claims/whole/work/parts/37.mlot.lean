/-! ## class DrownedNamesModel: years drawn by lot, cut, lacks -/
def F7_ (σ τ : Mm_) : Prop := (∀ q, q ≠ 38 → q ≠ 50 → q ≠ 51 → τ q = σ q) ∧ (∀ j, j ≠ 16 → j ≠ 17 → j ≠ 19 → j ≠ 20 → j ≠ 25 → τ 38 j = σ 38 j)
theorem F7_.rf {σ : Mm_} : F7_ σ σ := ⟨fun _ _ _ _ => rfl, fun _ _ _ _ _ _ => rfl⟩
theorem F7_.tr {σ τ ρ : Mm_} (h : F7_ σ τ) (h2 : F7_ τ ρ) : F7_ σ ρ := ⟨fun q a b c => (h2.1 q a b c).trans (h.1 q a b c), fun j a b c d e => (h2.2 j a b c d e).trans (h.2 j a b c d e)⟩
theorem F4_.f7 {σ τ : Mm_} (h : F4_ σ τ) : F7_ σ τ := ⟨h.1, fun j a b c d _ => h.2 j a b c d⟩
theorem F7_.dr {σ : Mm_} {x : Int} : F7_ σ (ms_ σ 38 25 x) := ⟨fun q a b c => ms_rw a, fun i a b c d e => ms_ne (by omega)⟩
theorem F7_.pf {σ τ : Mm_} (h : F7_ σ τ) : Pf_ σ τ := ⟨fun q hq => h.1 q (by omega) (by omega) (by omega), fun j hj => h.2 j (by omega) (by omega) (by omega) (by omega) (by omega)⟩
theorem HM_.f7 {v σ τ : Mm_} (h : HM_ v σ) (e : F7_ σ τ) : HM_ v τ := h.cg (fun q hq => e.1 q (by omega) (by omega) (by omega)) (e.2 12 (by decide) (by decide) (by decide) (by decide) (by decide))
theorem F7_.sd {σ τ : Mm_} (e : F7_ σ τ) {x : Int} (h : σ 38 21 = x) : τ 38 21 = x := (e.2 21 (by decide) (by decide) (by decide) (by decide) (by decide)).trans h
theorem RD_.dr {v r σ : Mm_} {x : Int} (h : RD_ v r σ) : RD_ v r (ms_ σ 38 25 x) := by
  obtain ⟨h1, h2, h3, h4, h5, h6⟩ := h
  refine ⟨fun k hk => ?_, fun k hk => ?_, ?_, ?_, ?_, ?_⟩ <;> simp [ms_] <;> first | exact h1 k hk | exact h2 k hk | assumption
section
variable {l : Launch} {D : Dt_} {a v w u σ r : Mm_} {post : Option Av_ → Mm_ → Prop}
theorem ct_X7_lot {p : Int} (hd : σ 38 25 = p) (h : post (some (vi_ (irem_ (iushr_ (nz_ (1103515245 * p + 12345)) 16) 16))) (ms_ σ 38 25 (nz_ (1103515245 * p + 12345)))) : V_ l D mX7_lot (CM_ D mX7_lot post) 0 [some (vr_ 38), some (vi_ 16)] [] σ := by
  refine V_aload_n (pc := 0) dX7_lot_0 rfl rfl ?_
  refine V_ldcw (v := (1103515245)) (z := 1103515245) (pc := 1) dX7_lot_1 (tb_in 1163 (by decide +kernel) rfl) (by decide +kernel) ?_
  refine V_aload_n (pc := 4) dX7_lot_4 rfl rfl ?_
  refine V_geti (pc := 5) dX7_lot_5 fX7_272 rfl gg_38 rfl (fun r5 => ?_)
  rw [hd] at r5 ⊢
  refine V_imul (pc := 8) dX7_lot_8 ?_
  refine V_sipush (pc := 9) dX7_lot_9 (by decide) ?_
  refine V_iadd (pc := 12) dX7_lot_12 ?_
  refine V_nrm ?_
  refine V_puti (pc := 13) dX7_lot_13 fX7_272 rfl gg_38 rfl pq_7_25 rfl rfl (by first | assumption | exact nz_rg _ | decide | (constructor <;> omega)) ?_
  refine V_aload_n (pc := 16) dX7_lot_16 rfl rfl ?_
  refine V_geti (pc := 17) dX7_lot_17 fX7_272 rfl gg_38 rfl (fun r17 => ?_)
  rw [show (ms_ σ 38 25 (nz_ (1103515245 * p + 12345))) 38 25 = nz_ (1103515245 * p + 12345) from ms_eq] at r17 ⊢
  refine V_bipush (pc := 20) dX7_lot_20 (by decide) ?_
  refine V_iushr (pc := 22) dX7_lot_22 ?_
  refine V_iload_n (pc := 23) dX7_lot_23 rfl rfl ?_
  refine V_irem (pc := 24) dX7_lot_24 (by first | assumption | exact nz_rg _ | decide | (constructor <;> omega)) (by decide) ?_
  refine V_ireturn (pc := 25) dX7_lot_25 rfl rfl (fun hR => ?_)
  exact h
theorem lq_X7_yearsOf (hW : WF_ v) {sd0 k z : Int} {N : Nat} (hN : N ≤ 30) (hk : wN_ v k) (hz : 0 ≤ z ∧ z ≤ 1) {y : Nat} (hy : y ≤ 29) {q : Int × Mm_} (hR : RW_ v q.2) (hK : ∀ τ (p : Int × Mm_), HM_ v τ → τ 38 21 = 255 → F7_ σ τ → τ 38 25 = p.1 → RD_ v p.2 τ → p = fo_ (sv_ v (y : Int)) (v 0 0).toNat q → V_ l D mX7_yearsOf (CM_ D mX7_yearsOf post) 78 [some (vr_ 38), some (vi_ sd0), some (vi_ (N : Int)), some (vi_ k), some (vi_ z), some (vi_ (y : Int)), none] [] τ) : ∀ i : Nat, i ≤ (v 0 0).toNat → ∀ τ (p : Int × Mm_), HM_ v τ → τ 38 21 = 255 → F7_ σ τ → τ 38 25 = p.1 → RD_ v p.2 τ → p = fo_ (sv_ v (y : Int)) i q → V_ l D mX7_yearsOf (CM_ D mX7_yearsOf post) 21 [some (vr_ 38), some (vi_ sd0), some (vi_ (N : Int)), some (vi_ k), some (vi_ z), some (vi_ (y : Int)), some (vi_ (i : Int))] [] τ := by
  have ws := hW.s
  have wn := hW.n
  have wl := hW.l
  have wk := hW.k
  have hn : ((v 0 0).toNat : Int) = v 0 0 := Int.toNat_of_nonneg ws.1
  refine up_ _ (fun i hi ih τ p hM hsd hF hd hRC hp => ?_)
  have hRp : RW_ v p.2 := by rw [hp]; exact sv_RW hW (by omega) hR i
  have hr0 := hRp.2.2.1
  refine V_iload (pc := 21) dX7_yearsOf_21 rfl ?_
  refine V_aload_n (pc := 23) dX7_yearsOf_23 rfl rfl ?_
  refine V_getr (pc := 24) dX7_yearsOf_24 fX7_28 rfl gg_38 rfl ?_
  refine V_iconst (pc := 27) dX7_yearsOf_27 ?_
  refine V_iald (pc := 28) dX7_yearsOf_28 gg_45 (by decide) (by decide) (fun r28 => ?_)
  rw [show τ 45 (0 : Int).toNat = v 0 0 from hM.1.1] at r28 ⊢
  refine V_icmp_ge (tgt := 78) (pc := 29) dX7_yearsOf_29 (by decide) (by first | assumption | exact b2_rg | (constructor <;> omega)) (by first | assumption | exact b2_rg | (constructor <;> omega)) (fun h29 => ?_) (fun h29 => ?_)
  · skip
    refine V_none (k := 6) ?_
    show V_ _ _ _ _ _ [_, _, _, _, _, _, _] _ _
    exact hK _ p hM hsd hF hd hRC (by rw [hp, show (v 0 0).toNat = i by omega])
  · skip
    refine V_aload_n (pc := 32) dX7_yearsOf_32 rfl rfl ?_
    refine V_geti (pc := 33) dX7_yearsOf_33 fX7_177 rfl gg_38 rfl (fun r33 => ?_)
    rw [hRC.2.2.1] at r33 ⊢
    refine V_iload (pc := 36) dX7_yearsOf_36 rfl ?_
    refine V_callS (pc := 38) (as := [_, _]) (rest := []) dX7_yearsOf_38 ⟨kX7_139, sX7_isIn, by decide, by decide⟩ rfl rfl (Nat.le_of_ble_eq_true rfl) (Nat.le_of_ble_eq_true rfl) ?_
    refine ct_X7_isIn (by omega) (by omega) ?_
    show V_ _ _ _ _ _ _ [_] _
    refine V_if_ne (tgt := 72) (pc := 41) dX7_yearsOf_41 (by decide) b2_rg (fun h41 => ?_) (fun h41 => ?_)
    · skip
      rw [b2_n0] at h41
      have e0 : fo_ (sv_ v (y : Int)) (i + 1) q = p := by show sv_ v (y : Int) i (fo_ (sv_ v (y : Int)) i q) = _; rw [← hp]; unfold sv_; rw [if_pos h41]
      refine V_iinc (pc := 72) dX7_yearsOf_72 rfl (by decide) rfl ?_
      show V_ _ _ _ _ _ [_, _, _, _, _, _, _] _ _
      refine V_goto (tgt := 21) (pc := 75) dX7_yearsOf_75 (by decide) ?_
      first
        | exact V_cg (ih (by omega) _ p hM hsd hF hd hRC e0.symm) (by simp) rfl rfl
        | exact V_cg (ih (by omega) _ (nz_ (1103515245 * p.1 + 12345), p.2) hM2 hsd2 hF2 hd2 hRC2 e0.symm) (by simp) rfl rfl
        | exact V_cg (ih (by omega) _ (nz_ (1103515245 * p.1 + 12345), si_ v 255 (y : Int) (i : Int) p.2) (hM2.f4 hB2) (hB2.sd hsd2) (hF2.tr hB2.f7) ((hB2.2 25 (by decide) (by decide) (by decide) (by decide)).trans hd2) hB1 e0.symm) (by simp) rfl rfl
    · skip
      rw [b2_0] at h41
      refine V_aload_n (pc := 44) dX7_yearsOf_44 rfl rfl ?_
      refine V_bipush (pc := 45) dX7_yearsOf_45 (by decide) ?_
      refine V_callV (pc := 47) (as := [_]) (rest := []) dX7_yearsOf_47 ⟨kX7_275, iX7_lot, by decide, by decide⟩ rc_38 rfl rfl (Nat.le_of_ble_eq_true rfl) (Nat.le_of_ble_eq_true rfl) ?_
      refine ct_X7_lot hd ?_
      show V_ _ _ _ _ _ _ [_] _
      have hu := ushr16 (nz_ (1103515245 * p.1 + 12345))
      have hq : 0 ≤ irem_ (iushr_ (nz_ (1103515245 * p.1 + 12345)) 16) 16 ∧ irem_ (iushr_ (nz_ (1103515245 * p.1 + 12345)) 16) 16 < 16 := by rw [irem_p (by omega) (by decide)]; omega
      have hM2 := hM.f7 (F7_.dr (x := nz_ (1103515245 * p.1 + 12345)))
      have hsd2 := (F7_.dr (x := nz_ (1103515245 * p.1 + 12345))).sd hsd
      have hF2 := hF.tr (F7_.dr (x := nz_ (1103515245 * p.1 + 12345)))
      have hRC2 := hRC.dr (x := nz_ (1103515245 * p.1 + 12345))
      have hd2 : (ms_ τ 38 25 (nz_ (1103515245 * p.1 + 12345))) 38 25 = nz_ (1103515245 * p.1 + 12345) := ms_eq
      generalize hτ2 : ms_ τ 38 25 (nz_ (1103515245 * p.1 + 12345)) = τ2 at hM2 hsd2 hF2 hRC2 hd2 ⊢
      refine V_aload_n (pc := 50) dX7_yearsOf_50 rfl rfl ?_
      refine V_getr (pc := 51) dX7_yearsOf_51 fX7_31 rfl gg_38 rfl ?_
      refine V_iconst (pc := 54) dX7_yearsOf_54 ?_
      refine V_iload (pc := 55) dX7_yearsOf_55 rfl ?_
      refine V_imul (pc := 57) dX7_yearsOf_57 ?_
      refine V_iconst (pc := 58) dX7_yearsOf_58 ?_
      refine V_iadd (pc := 59) dX7_yearsOf_59 ?_
      refine V_iald (pc := 60) dX7_yearsOf_60 gg_46 (by omega) (by decide) (fun r60 => ?_)
      rw [show (2 * (i : Int) + 1).toNat = 2 * i + 1 by omega, (hM2.si (k := i) (by omega)).2] at r60 ⊢
      refine V_icmp_ge (tgt := 72) (pc := 61) dX7_yearsOf_61 (by decide) (by first | assumption | exact b2_rg | (constructor <;> omega)) (by first | assumption | exact b2_rg | (constructor <;> omega)) (fun h61 => ?_) (fun h61 => ?_)
      · skip
        have e0 : fo_ (sv_ v (y : Int)) (i + 1) q = (nz_ (1103515245 * p.1 + 12345), p.2) := by show sv_ v (y : Int) i (fo_ (sv_ v (y : Int)) i q) = _; rw [← hp]; unfold sv_; rw [if_neg h41, if_neg (Int.not_lt.mpr h61)]
        refine V_iinc (pc := 72) dX7_yearsOf_72 rfl (by decide) rfl ?_
        show V_ _ _ _ _ _ [_, _, _, _, _, _, _] _ _
        refine V_goto (tgt := 21) (pc := 75) dX7_yearsOf_75 (by decide) ?_
        first
          | exact V_cg (ih (by omega) _ p hM hsd hF hd hRC e0.symm) (by simp) rfl rfl
          | exact V_cg (ih (by omega) _ (nz_ (1103515245 * p.1 + 12345), p.2) hM2 hsd2 hF2 hd2 hRC2 e0.symm) (by simp) rfl rfl
          | exact V_cg (ih (by omega) _ (nz_ (1103515245 * p.1 + 12345), si_ v 255 (y : Int) (i : Int) p.2) (hM2.f4 hB2) (hB2.sd hsd2) (hF2.tr hB2.f7) ((hB2.2 25 (by decide) (by decide) (by decide) (by decide)).trans hd2) hB1 e0.symm) (by simp) rfl rfl
      · skip
        have e0 : fo_ (sv_ v (y : Int)) (i + 1) q = (nz_ (1103515245 * p.1 + 12345), si_ v 255 (y : Int) (i : Int) p.2) := by show sv_ v (y : Int) i (fo_ (sv_ v (y : Int)) i q) = _; rw [← hp]; unfold sv_; rw [if_neg h41, if_pos h61]
        refine V_aload_n (pc := 64) dX7_yearsOf_64 rfl rfl ?_
        refine V_iload (pc := 65) dX7_yearsOf_65 rfl ?_
        refine V_iload (pc := 67) dX7_yearsOf_67 rfl ?_
        refine V_callV (pc := 69) (as := [_, _]) (rest := []) dX7_yearsOf_69 ⟨kX7_192, iX7_goes, by decide, by decide⟩ rc_38 rfl rfl (Nat.le_of_ble_eq_true rfl) (Nat.le_of_ble_eq_true rfl) ?_
        refine ct_X7_goes hW hRp (by omega) (by omega) (by decide) hM2 hsd2 hRC2 (fun ρ hB1 hB2 => ?_)
        show V_ _ _ _ _ _ _ [] _
        refine V_iinc (pc := 72) dX7_yearsOf_72 rfl (by decide) rfl ?_
        show V_ _ _ _ _ _ [_, _, _, _, _, _, _] _ _
        refine V_goto (tgt := 21) (pc := 75) dX7_yearsOf_75 (by decide) ?_
        first
          | exact V_cg (ih (by omega) _ p hM hsd hF hd hRC e0.symm) (by simp) rfl rfl
          | exact V_cg (ih (by omega) _ (nz_ (1103515245 * p.1 + 12345), p.2) hM2 hsd2 hF2 hd2 hRC2 e0.symm) (by simp) rfl rfl
          | exact V_cg (ih (by omega) _ (nz_ (1103515245 * p.1 + 12345), si_ v 255 (y : Int) (i : Int) p.2) (hM2.f4 hB2) (hB2.sd hsd2) (hF2.tr hB2.f7) ((hB2.2 25 (by decide) (by decide) (by decide) (by decide)).trans hd2) hB1 e0.symm) (by simp) rfl rfl
theorem lp_X7_yearsOf (hW : WF_ v) {sd0 k z : Int} {N : Nat} (hN : N ≤ 30) (hk : wN_ v k) (hz : 0 ≤ z ∧ z ≤ 1) (hK : ∀ τ, F7_ σ τ → post (some (vi_ (if z = 0 then (lo_ v sd0 N).2 0 k.toNat else pc_ ((lo_ v sd0 N).2 2 0)))) τ) : ∀ y : Nat, y ≤ N → ∀ τ (p : Int × Mm_), HM_ v τ → τ 38 21 = 255 → F7_ σ τ → τ 38 25 = p.1 → RD_ v p.2 τ → p = lo_ v sd0 y → V_ l D mX7_yearsOf (CM_ D mX7_yearsOf post) 12 [some (vr_ 38), some (vi_ sd0), some (vi_ (N : Int)), some (vi_ k), some (vi_ z), some (vi_ (y : Int)), none] [] τ := by
  have ws := hW.s
  have wn := hW.n
  have wl := hW.l
  have wk := hW.k
  refine up_ _ (fun y hy ih τ p hM hsd hF hd hRC hp => ?_)
  have hRp : RW_ v p.2 := by rw [hp]; exact lo_RW hW y (by omega)
  have hr0 := hRp.2.2.1
  refine V_iload (pc := 12) dX7_yearsOf_12 rfl ?_
  refine V_iload_n (pc := 14) dX7_yearsOf_14 rfl rfl ?_
  refine V_icmp_ge (tgt := 84) (pc := 15) dX7_yearsOf_15 (by decide) (by first | assumption | (constructor <;> omega)) (by first | assumption | (constructor <;> omega)) (fun h15 => ?_) (fun h15 => ?_)
  · skip
    refine V_iload (pc := 84) dX7_yearsOf_84 rfl ?_
    refine V_if_ne (tgt := 98) (pc := 86) dX7_yearsOf_86 (by decide) (by first | assumption | (constructor <;> omega)) (fun h86 => ?_) (fun h86 => ?_)
    · skip
      refine V_aload_n (pc := 98) dX7_yearsOf_98 rfl rfl ?_
      refine V_geti (pc := 99) dX7_yearsOf_99 fX7_177 rfl gg_38 rfl (fun r99 => ?_)
      rw [hRC.2.2.1] at r99 ⊢
      refine V_callS (pc := 102) (as := [_]) (rest := []) dX7_yearsOf_102 ⟨kX7_222, sX7_ones, by decide, by decide⟩ rfl rfl (Nat.le_of_ble_eq_true rfl) (Nat.le_of_ble_eq_true rfl) ?_
      refine ct_X7_ones (by omega) ?_
      show V_ _ _ _ _ _ _ [_] _
      refine V_ireturn (pc := 105) dX7_yearsOf_105 rfl rfl (fun hR => ?_)
      have := hK _ hF
      rw [show N = y by omega, ← hp] at this
      first | (rw [if_pos (by omega)] at this; exact this) | (rw [if_neg (by omega)] at this; exact this)
    · skip
      refine V_aload_n (pc := 89) dX7_yearsOf_89 rfl rfl ?_
      refine V_getr (pc := 90) dX7_yearsOf_90 fX7_43 rfl gg_38 rfl ?_
      refine V_iload_n (pc := 93) dX7_yearsOf_93 rfl rfl ?_
      refine V_iald (pc := 94) dX7_yearsOf_94 gg_50 (by omega) (by decide) (fun r94 => ?_)
      rw [hRC.1 k.toNat (by omega)] at r94 ⊢
      refine V_goto (tgt := 105) (pc := 95) dX7_yearsOf_95 (by decide) ?_
      refine V_ireturn (pc := 105) dX7_yearsOf_105 rfl rfl (fun hR => ?_)
      have := hK _ hF
      rw [show N = y by omega, ← hp] at this
      first | (rw [if_pos (by omega)] at this; exact this) | (rw [if_neg (by omega)] at this; exact this)
  · skip
    refine V_iconst (pc := 18) dX7_yearsOf_18 ?_
    refine V_istore (pc := 19) dX7_yearsOf_19 (by decide) rfl ?_
    show V_ _ _ _ _ _ [_, _, _, _, _, _, _] _ _
    refine V_cg (lq_X7_yearsOf hW (sd0 := sd0) hN hk hz (y := y) (q := p) (by omega) (by rw [hp]; exact lo_RW hW y (by omega)) (fun τ p2 hM hsd hF hd hRC hp2 => ?_) 0 (Nat.zero_le _) τ p hM hsd hF hd hRC rfl) (by simp) rfl rfl
    refine V_iinc (pc := 78) dX7_yearsOf_78 rfl (by decide) rfl ?_
    refine V_goto (tgt := 12) (pc := 81) dX7_yearsOf_81 (by decide) ?_
    exact V_cg (ih (by omega) _ p2 hM hsd hF hd hRC (by rw [hp2, hp]; rfl)) (by simp) rfl rfl
theorem ct_X7_yearsOf (hW : WF_ v) {sd0 k z : Int} {N : Nat} (hN : N ≤ 30) (hk : wN_ v k) (hz : 0 ≤ z ∧ z ≤ 1) (hs : Rg_ sd0) (hM : HM_ v σ) (hsd : σ 38 21 = 255) (hK : ∀ τ, F7_ σ τ → post (some (vi_ (if z = 0 then (lo_ v sd0 N).2 0 k.toNat else pc_ ((lo_ v sd0 N).2 2 0)))) τ) : V_ l D mX7_yearsOf (CM_ D mX7_yearsOf post) 0 [some (vr_ 38), some (vi_ sd0), some (vi_ (N : Int)), some (vi_ k), some (vi_ z), none, none] [] σ := by
  refine V_aload_n (pc := 0) dX7_yearsOf_0 rfl rfl ?_
  refine V_iload_n (pc := 1) dX7_yearsOf_1 rfl rfl ?_
  refine V_puti (pc := 2) dX7_yearsOf_2 fX7_272 rfl gg_38 rfl pq_7_25 rfl rfl (by first | assumption | (constructor <;> omega)) ?_
  refine V_aload_n (pc := 5) dX7_yearsOf_5 rfl rfl ?_
  refine V_callV (pc := 6) (as := []) (rest := []) dX7_yearsOf_6 ⟨kX7_189, iX7_begins, by decide, by decide⟩ rc_38 rfl rfl (Nat.le_of_ble_eq_true rfl) (Nat.le_of_ble_eq_true rfl) ?_
  refine ct_X7_begins hW (hM.f7 F7_.dr) (fun ρ hB1 hB2 => ?_)
  show V_ _ _ _ _ _ _ [] _
  refine V_iconst (pc := 9) dX7_yearsOf_9 ?_
  refine V_istore (pc := 10) dX7_yearsOf_10 (by decide) rfl ?_
  show V_ _ _ _ _ _ [_, _, _, _, _, _, _] _ _
  exact V_cg (lp_X7_yearsOf hW hN hk hz hK 0 (Nat.zero_le _) _ (sd0, bg_ v) ((hM.f7 F7_.dr).f4 hB2) (hB2.sd (F7_.dr.sd hsd)) (F7_.dr.tr hB2.f7) ((hB2.2 25 (by decide) (by decide) (by decide) (by decide)).trans ms_eq) hB1 rfl) (by simp) rfl rfl
theorem ct_X7_cut {f x : Int} (hf : 0 ≤ f ∧ f ≤ 2) (hx : Rg_ x) (h : post (some (vi_ (cu_ f x))) σ) : V_ l D mX7_cut (CM_ D mX7_cut post) 0 [some (vi_ f), some (vi_ x)] [] σ := by
  unfold cu_ at h
  refine V_iload_n (pc := 0) dX7_cut_0 rfl rfl ?_
  refine V_if_ne (tgt := 9) (pc := 1) dX7_cut_1 (by decide) (by first | assumption | (constructor <;> omega)) (fun h1 => ?_) (fun h1 => ?_)
  · skip
    refine V_iload_n (pc := 9) dX7_cut_9 rfl rfl ?_
    refine V_iconst (pc := 10) dX7_cut_10 ?_
    refine V_icmp_ne (tgt := 19) (pc := 11) dX7_cut_11 (by decide) (by first | assumption | (constructor <;> omega)) (by first | assumption | (constructor <;> omega)) (fun h11 => ?_) (fun h11 => ?_)
    · skip
      refine V_iload_n (pc := 19) dX7_cut_19 rfl rfl ?_
      refine V_ireturn (pc := 20) dX7_cut_20 rfl rfl (fun hR => ?_)
      first | (rw [if_pos (by omega)] at h; exact h) | (rw [if_neg (by omega), if_pos (by omega)] at h; exact h) | (rw [if_neg (by omega), if_neg (by omega)] at h; exact h)
    · skip
      refine V_iload_n (pc := 14) dX7_cut_14 rfl rfl ?_
      refine V_i2s (pc := 15) dX7_cut_15 ?_
      refine V_goto (tgt := 20) (pc := 16) dX7_cut_16 (by decide) ?_
      refine V_ireturn (pc := 20) dX7_cut_20 rfl rfl (fun hR => ?_)
      first | (rw [if_pos (by omega)] at h; exact h) | (rw [if_neg (by omega), if_pos (by omega)] at h; exact h) | (rw [if_neg (by omega), if_neg (by omega)] at h; exact h)
  · skip
    refine V_iload_n (pc := 4) dX7_cut_4 rfl rfl ?_
    refine V_i2b (pc := 5) dX7_cut_5 ?_
    refine V_goto (tgt := 20) (pc := 6) dX7_cut_6 (by decide) ?_
    refine V_ireturn (pc := 20) dX7_cut_20 rfl rfl (fun hR => ?_)
    first | (rw [if_pos (by omega)] at h; exact h) | (rw [if_neg (by omega), if_pos (by omega)] at h; exact h) | (rw [if_neg (by omega), if_neg (by omega)] at h; exact h)
theorem ct_X7_lacks {s : Nat} {f i : Int} (hs : s < 4) (hf : 0 ≤ f ∧ f ≤ 2) (hi : Rg_ i) (hA : AW_ a) (hS : MS_ a σ) (h0 : lk_ a s f i = 0 → post (some (vi_ 0)) σ) (h1 : lk_ a s f i ≠ 0 → post (some (vi_ (-10 - lk_ a s f i))) (ms_ σ 38 4 (lk_ a s f i))) : V_ l D mX7_lacks (CM_ D mX7_lacks post) 0 [some (vr_ 38), some (vi_ (s : Int)), some (vi_ f), some (vi_ i)] [] σ := by
  obtain ⟨hS1, hS2⟩ := hS s hs
  obtain ⟨w1, w2⟩ := hA.2.2.2.2.2.1 s hs
  refine V_aload_n (pc := 0) dX7_lacks_0 rfl rfl ?_
  refine V_getr (pc := 1) dX7_lacks_1 fX7_7 rfl gg_38 rfl ?_
  refine V_iload_n (pc := 4) dX7_lacks_4 rfl rfl ?_
  refine V_ialdN (pc := 5) dX7_lacks_5 gg_39 (by omega) (by decide) (fun r5 => ?_)
  rw [hS1] at r5 ⊢
  refine V_if_ge (tgt := 15) (pc := 6) dX7_lacks_6 (by decide) (by first | assumption | exact b2_rg | (constructor <;> omega)) (fun h6 => ?_) (fun h6 => ?_)
  · skip
    refine V_aload_n (pc := 15) dX7_lacks_15 rfl rfl ?_
    refine V_getr (pc := 16) dX7_lacks_16 fX7_7 rfl gg_38 rfl ?_
    refine V_iload_n (pc := 19) dX7_lacks_19 rfl rfl ?_
    refine V_ialdN (pc := 20) dX7_lacks_20 gg_39 (by omega) (by decide) (fun r20 => ?_)
    rw [hS1] at r20 ⊢
    refine V_iload_n (pc := 21) dX7_lacks_21 rfl rfl ?_
    refine V_icmp_eq (tgt := 31) (pc := 22) dX7_lacks_22 (by decide) (by first | assumption | exact b2_rg | (constructor <;> omega)) (by first | assumption | exact b2_rg | (constructor <;> omega)) (fun h22 => ?_) (fun h22 => ?_)
    · skip
      refine V_iload_n (pc := 31) dX7_lacks_31 rfl rfl ?_
      refine V_i2l (pc := 32) dX7_lacks_32 (by first | assumption | exact b2_rg | (constructor <;> omega)) ?_
      refine V_lconst (z := 0) (pc := 33) dX7_lacks_33 rfl ?_
      refine V_aload_n (pc := 34) dX7_lacks_34 rfl rfl ?_
      refine V_getr (pc := 35) dX7_lacks_35 fX7_13 rfl gg_38 rfl ?_
      refine V_iload_n (pc := 38) dX7_lacks_38 rfl rfl ?_
      refine V_ialdN (pc := 39) dX7_lacks_39 gg_40 (by omega) (by decide) (fun r39 => ?_)
      rw [(hS2 (by omega)).1] at r39 ⊢
      refine V_iconst (pc := 40) dX7_lacks_40 ?_
      refine V_isub (pc := 41) dX7_lacks_41 ?_
      refine V_i2l (pc := 42) dX7_lacks_42 (by first | assumption | exact b2_rg | (constructor <;> omega)) ?_
      refine V_callS (pc := 43) (as := [_, _, _]) (rest := []) dX7_lacks_43 ⟨kX7_61, sX7_in, by decide, by decide⟩ rfl rfl (Nat.le_of_ble_eq_true rfl) (Nat.le_of_ble_eq_true rfl) ?_
      refine ct_X7_in (by constructor <;> omega) (by constructor <;> omega) (by constructor <;> omega) ?_
      show V_ _ _ _ _ _ _ [_] _
      refine V_if_eq (tgt := 53) (pc := 46) dX7_lacks_46 (by decide) (by first | assumption | exact b2_rg | (constructor <;> omega)) (fun h46 => ?_) (fun h46 => ?_)
      · skip
        rw [b2_0] at h46
        refine V_aload_n (pc := 53) dX7_lacks_53 rfl rfl ?_
        refine V_iconst (pc := 54) dX7_lacks_54 ?_
        refine V_callV (pc := 55) (as := [_]) (rest := []) dX7_lacks_55 ⟨kX7_76, iX7_finds, by decide, by decide⟩ rc_38 rfl rfl (Nat.le_of_ble_eq_true rfl) (Nat.le_of_ble_eq_true rfl) ?_
        have e : lk_ a s f i = 2 := by unfold lk_; rw [if_neg (by omega), if_neg (by omega), if_neg (by omega)]
        refine ct_X7_finds (by decide) ?_
        show V_ _ _ _ _ _ _ [_] _
        refine V_ireturn (pc := 58) dX7_lacks_58 rfl rfl (fun hR => ?_)
        first | exact h0 e | (rw [e] at h1; exact h1 (by decide))
      · skip
        rw [b2_n0] at h46
        have e : lk_ a s f i = 0 := by unfold lk_; rw [if_neg (by omega), if_neg (by omega), if_pos (by omega)]
        refine V_iconst (pc := 49) dX7_lacks_49 ?_
        refine V_goto (tgt := 58) (pc := 50) dX7_lacks_50 (by decide) ?_
        refine V_ireturn (pc := 58) dX7_lacks_58 rfl rfl (fun hR => ?_)
        first | exact h0 e | (rw [e] at h1; exact h1 (by decide))
    · skip
      refine V_aload_n (pc := 25) dX7_lacks_25 rfl rfl ?_
      refine V_iconst (pc := 26) dX7_lacks_26 ?_
      refine V_callV (pc := 27) (as := [_]) (rest := []) dX7_lacks_27 ⟨kX7_76, iX7_finds, by decide, by decide⟩ rc_38 rfl rfl (Nat.le_of_ble_eq_true rfl) (Nat.le_of_ble_eq_true rfl) ?_
      have e : lk_ a s f i = 3 := by unfold lk_; rw [if_neg (by omega), if_pos (by omega)]
      refine ct_X7_finds (by decide) ?_
      show V_ _ _ _ _ _ _ [_] _
      refine V_ireturn (pc := 30) dX7_lacks_30 rfl rfl (fun hR => ?_)
      first | exact h0 e | (rw [e] at h1; exact h1 (by decide))
  · skip
    refine V_aload_n (pc := 9) dX7_lacks_9 rfl rfl ?_
    refine V_iconst (pc := 10) dX7_lacks_10 ?_
    refine V_callV (pc := 11) (as := [_]) (rest := []) dX7_lacks_11 ⟨kX7_76, iX7_finds, by decide, by decide⟩ rc_38 rfl rfl (Nat.le_of_ble_eq_true rfl) (Nat.le_of_ble_eq_true rfl) ?_
    have e : lk_ a s f i = 1 := by unfold lk_; rw [if_pos (by omega)]
    refine ct_X7_finds (by decide) ?_
    show V_ _ _ _ _ _ _ [_] _
    refine V_ireturn (pc := 14) dX7_lacks_14 rfl rfl (fun hR => ?_)
    first | exact h0 e | (rw [e] at h1; exact h1 (by decide))
end
