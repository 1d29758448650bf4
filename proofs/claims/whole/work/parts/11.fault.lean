/-! ## class Text, its faults -/
theorem b2_cg {p q : Prop} (h : p ↔ q) : b2_ p = b2_ q := by rw [propext h]
section
variable {l : Launch} {D : Dt_} {σ : Mm_} {post : Option Av_ → Mm_ → Prop}
theorem ct_X5_goesOnAt_1 {i : Nat} (hi : i ≤ 1000) (hs : σ 1 1 = 4) (hL : 0 ≤ σ 1 3 ∧ σ 1 3 ≤ 23) (h : post (some (vi_ (b2_ (ok_ 0 (σ 1 3) (σ 2) i = true)))) σ) : V_ l D mX5_goesOnAt (CM_ D mX5_goesOnAt post) 0 [some (vr_ 1), some (vi_ (i : Int)), none, none] [] σ := by
  by_cases h0 : i % 4 = 0
  · refine ct_X5_goesOnAt_1_0 (by omega) (by omega) hs hL ?_
    rw [b2_cg (q := ok_ 0 (σ 1 3) (σ 2) i = true)]
    · exact h
    · simp [ok_, sp_, pt_, oc_, h0]
  by_cases h1 : i % 4 = 1
  · refine ct_X5_goesOnAt_1_1 (by omega) (by omega) hs hL ?_
    rw [b2_cg (q := ok_ 0 (σ 1 3) (σ 2) i = true)]
    · exact h
    · simp [ok_, sp_, pt_, oc_, h1]
  by_cases h2 : i % 4 = 2
  · refine ct_X5_goesOnAt_1_2 (by omega) (by omega) hs hL ?_
    rw [b2_cg (q := ok_ 0 (σ 1 3) (σ 2) i = true)]
    · exact h
    · simp [ok_, sp_, pt_, oc_, h2]
  by_cases h3 : i % 4 = 3
  · refine ct_X5_goesOnAt_1_3 (by omega) (by omega) hs hL ?_
    rw [b2_cg (q := ok_ 0 (σ 1 3) (σ 2) i = true)]
    · exact h
    · simp [ok_, sp_, h3]
  exact absurd (Nat.mod_lt i (show 0 < 4 by decide)) (by omega)
theorem lp_X5_faultPlace_1 (hs : σ 1 1 = 4) (hL : 0 ≤ σ 1 3 ∧ σ 1 3 ≤ 23) (h : post (some (vi_ (fa_ 0 (σ 1 3) (σ 2)))) σ) : ∀ i : Nat, i ≤ (σ 1 3).toNat → (∀ j, j < i → ok_ 0 (σ 1 3) (σ 2) j = true) → V_ l D mX5_faultPlace (CM_ D mX5_faultPlace post) 2 [some (vr_ 1), some (vi_ (i : Int))] [] σ := by
  refine up_ _ (fun i hi ih hj => ?_)
  have hLn : ((σ 1 3).toNat : Int) = σ 1 3 := Int.toNat_of_nonneg hL.1
  refine V_iload_n (pc := 2) dX5_faultPlace_2 rfl rfl ?_
  refine V_aload_n (pc := 3) dX5_faultPlace_3 rfl rfl ?_
  refine V_geti (pc := 4) dX5_faultPlace_4 fX5_29 rfl gg_1 rfl (fun r4 => ?_)
  refine V_icmp_ge (tgt := 26) (pc := 7) dX5_faultPlace_7 (by decide) (by first | assumption | decide | omega | exact ba_rg hR | exact b2_rg) (by first | assumption | decide | omega | exact ba_rg hR | exact b2_rg) (fun h7 => ?_) (fun h7 => ?_)
  · skip
    have hw : wl_ (ok_ 0 (σ 1 3) (σ 2)) (σ 1 3).toNat = (σ 1 3).toNat := wl_at (by omega) (fun j hjj => hj j (by omega)) (fun z => by omega)
    unfold fa_ at h
    simp only [hw, hLn, Int.lt_irrefl, if_false] at h
    refine V_aload_n (pc := 26) dX5_faultPlace_26 rfl rfl ?_
    refine V_geti (pc := 27) dX5_faultPlace_27 fX5_29 rfl gg_1 rfl (fun r27 => ?_)
    refine V_if_eq (tgt := 47) (pc := 30) dX5_faultPlace_30 (by decide) (by first | assumption | decide | omega | exact ba_rg hR | exact b2_rg) (fun h30 => ?_) (fun h30 => ?_)
    · skip
      refine V_iconst (pc := 47) dX5_faultPlace_47 ?_
      refine V_goto (tgt := 55) (pc := 48) dX5_faultPlace_48 (by decide) ?_
      refine V_ireturn (pc := 55) dX5_faultPlace_55 rfl rfl (fun hR => ?_)
      first | (rw [if_pos (by rw [show ((sp_ 0 : Nat) : Int) = 4 from rfl]; omega)] at h; exact h) | (rw [if_neg (by rw [show ((sp_ 0 : Nat) : Int) = 4 from rfl]; omega)] at h; exact h)
    · skip
      refine V_aload_n (pc := 33) dX5_faultPlace_33 rfl rfl ?_
      refine V_geti (pc := 34) dX5_faultPlace_34 fX5_29 rfl gg_1 rfl (fun r34 => ?_)
      refine V_iconst (pc := 37) dX5_faultPlace_37 ?_
      refine V_iadd (pc := 38) dX5_faultPlace_38 ?_
      refine V_aload_n (pc := 39) dX5_faultPlace_39 rfl rfl ?_
      refine V_geti (pc := 40) dX5_faultPlace_40 fX5_21 rfl gg_1 rfl (fun r40 => ?_)
      refine V_irem (pc := 43) dX5_faultPlace_43 (by first | assumption | decide | omega | exact ba_rg hR | exact b2_rg) (by omega) ?_
      refine V_if_ne (tgt := 51) (pc := 44) dX5_faultPlace_44 (by decide) (by rw [hs, irem_p (by omega) (by decide)]; constructor <;> omega) (fun h44 => ?_) (fun h44 => ?_)
      · skip
        rw [hs, irem_p (by omega) (by decide)] at h44
        refine V_aload_n (pc := 51) dX5_faultPlace_51 rfl rfl ?_
        refine V_geti (pc := 52) dX5_faultPlace_52 fX5_29 rfl gg_1 rfl (fun r52 => ?_)
        refine V_ireturn (pc := 55) dX5_faultPlace_55 rfl rfl (fun hR => ?_)
        first | (rw [if_pos (by rw [show ((sp_ 0 : Nat) : Int) = 4 from rfl]; omega)] at h; exact h) | (rw [if_neg (by rw [show ((sp_ 0 : Nat) : Int) = 4 from rfl]; omega)] at h; exact h)
      · skip
        rw [hs, irem_p (by omega) (by decide)] at h44
        refine V_iconst (pc := 47) dX5_faultPlace_47 ?_
        refine V_goto (tgt := 55) (pc := 48) dX5_faultPlace_48 (by decide) ?_
        refine V_ireturn (pc := 55) dX5_faultPlace_55 rfl rfl (fun hR => ?_)
        first | (rw [if_pos (by rw [show ((sp_ 0 : Nat) : Int) = 4 from rfl]; omega)] at h; exact h) | (rw [if_neg (by rw [show ((sp_ 0 : Nat) : Int) = 4 from rfl]; omega)] at h; exact h)
  · skip
    refine V_aload_n (pc := 10) dX5_faultPlace_10 rfl rfl ?_
    refine V_iload_n (pc := 11) dX5_faultPlace_11 rfl rfl ?_
    refine V_callV (pc := 12) (as := [_]) (rest := []) dX5_faultPlace_12 ⟨kX5_42, iX5_goesOnAt, by decide, by decide⟩ rc_1 rfl rfl (Nat.le_of_ble_eq_true rfl) (Nat.le_of_ble_eq_true rfl) ?_
    refine ct_X5_goesOnAt_1 (by omega) hs hL ?_
    show V_ _ _ _ _ _ _ [_] _
    refine V_if_ne (tgt := 20) (pc := 15) dX5_faultPlace_15 (by decide) b2_rg (fun h15 => ?_) (fun h15 => ?_)
    · skip
      rw [b2_n0] at h15
      refine V_iinc (pc := 20) dX5_faultPlace_20 rfl (by decide) rfl ?_
      show V_ _ _ _ _ _ [_, _] _ _
      refine V_goto (tgt := 2) (pc := 23) dX5_faultPlace_23 (by decide) ?_
      exact V_cg (ih (by omega) (fun j hjj => by
        by_cases c : j = i
        · rw [c]; exact h15
        · exact hj j (by omega))) (by simp) rfl rfl
    · skip
      rw [b2_0] at h15
      refine V_iload_n (pc := 18) dX5_faultPlace_18 rfl rfl ?_
      refine V_ireturn (pc := 19) dX5_faultPlace_19 rfl rfl (fun hR => ?_)
      have hw : wl_ (ok_ 0 (σ 1 3) (σ 2)) (σ 1 3).toNat = i := wl_at (by omega) (fun j hjj => hj j hjj) (fun _ => by simpa using h15)
      unfold fa_ at h
      simp only [hw] at h
      rw [if_pos (by omega)] at h
      exact h
theorem ct_X5_faultPlace_1 (hs : σ 1 1 = 4) (hL : 0 ≤ σ 1 3 ∧ σ 1 3 ≤ 23) (h : post (some (vi_ (fa_ 0 (σ 1 3) (σ 2)))) σ) : V_ l D mX5_faultPlace (CM_ D mX5_faultPlace post) 0 [some (vr_ 1), none] [] σ := by
  refine V_iconst (pc := 0) dX5_faultPlace_0 ?_
  refine V_istore_n (pc := 1) dX5_faultPlace_1 rfl (by decide) rfl ?_
  show V_ _ _ _ _ _ [_, _] _ _
  exact lp_X5_faultPlace_1 hs hL h 0 (Nat.zero_le _) (fun j hj => absurd hj (Nat.not_lt_zero _))
theorem fa_rg_1 {L : Int} {b : Nat → Int} (hL : 0 ≤ L ∧ L ≤ 23) : -1 ≤ fa_ 0 L b ∧ fa_ 0 L b ≤ 23 := by
  have := wl_le (ok_ 0 L b) L.toNat
  unfold fa_
  simp only
  split
  · omega
  · split <;> omega
theorem ct_X5_items_1 (hs : σ 1 1 = 4) (hL : 0 ≤ σ 1 3 ∧ σ 1 3 ≤ 23) (h : post (some (vi_ (it_ 0 (σ 1 3) (σ 2)))) σ) : V_ l D mX5_items (CM_ D mX5_items post) 0 [some (vr_ 1)] [] σ := by
  have hf := fa_rg_1 (b := σ 2) hL
  refine V_aload_n (pc := 0) dX5_items_0 rfl rfl ?_
  refine V_callV (pc := 1) (as := []) (rest := []) dX5_items_1 ⟨kX5_46, iX5_faultPlace, by decide, by decide⟩ rc_1 rfl rfl (Nat.le_of_ble_eq_true rfl) (Nat.le_of_ble_eq_true rfl) ?_
  refine ct_X5_faultPlace_1 hs hL ?_
  show V_ _ _ _ _ _ _ [_] _
  refine V_iconst (pc := 4) dX5_items_4 ?_
  refine V_icmp_ne (tgt := 22) (pc := 5) dX5_items_5 (by decide) (by constructor <;> omega) (by first | assumption | decide | omega | exact ba_rg hR | exact b2_rg) (fun h5 => ?_) (fun h5 => ?_)
  · skip
    refine V_iconst (pc := 22) dX5_items_22 ?_
    refine V_ireturn (pc := 23) dX5_items_23 rfl rfl (fun hR => ?_)
    unfold it_ at h
    first
      | (rw [if_pos (by assumption)] at h; rw [hs, idiv_p (by omega) (by decide)]; exact h)
      | (rw [if_neg (by assumption)] at h; exact h)
  · skip
    refine V_aload_n (pc := 8) dX5_items_8 rfl rfl ?_
    refine V_geti (pc := 9) dX5_items_9 fX5_29 rfl gg_1 rfl (fun r9 => ?_)
    refine V_iconst (pc := 12) dX5_items_12 ?_
    refine V_iadd (pc := 13) dX5_items_13 ?_
    refine V_aload_n (pc := 14) dX5_items_14 rfl rfl ?_
    refine V_geti (pc := 15) dX5_items_15 fX5_21 rfl gg_1 rfl (fun r15 => ?_)
    refine V_idiv (pc := 18) dX5_items_18 (by first | assumption | decide | omega | exact ba_rg hR | exact b2_rg) (by omega) ?_
    refine V_goto (tgt := 23) (pc := 19) dX5_items_19 (by decide) ?_
    refine V_ireturn (pc := 23) dX5_items_23 rfl rfl (fun hR => ?_)
    unfold it_ at h
    first
      | (rw [if_pos (by assumption)] at h; rw [hs, idiv_p (by omega) (by decide)]; exact h)
      | (rw [if_neg (by assumption)] at h; exact h)
theorem ct_X5_isFull_1 (h : post (some (vi_ (b2_ (23 ≤ σ 1 3)))) σ) : V_ l D mX5_isFull (CM_ D mX5_isFull post) 0 [some (vr_ 1)] [] σ := by
  refine V_aload_n (pc := 0) dX5_isFull_0 rfl rfl ?_
  refine V_geti (pc := 1) dX5_isFull_1 fX5_29 rfl gg_1 rfl (fun r1 => ?_)
  refine V_aload_n (pc := 4) dX5_isFull_4 rfl rfl ?_
  refine V_getr (pc := 5) dX5_isFull_5 fX5_25 rfl gg_1 rfl ?_
  refine V_alen (pc := 8) dX5_isFull_8 gg_2 ?_
  refine V_icmp_lt (tgt := 16) (pc := 9) dX5_isFull_9 (by decide) (by first | assumption | decide | omega | exact ba_rg hR | exact b2_rg) (by first | assumption | decide | omega | exact ba_rg hR | exact b2_rg) (fun h9 => ?_) (fun h9 => ?_)
  · skip
    refine V_iconst (pc := 16) dX5_isFull_16 ?_
    refine V_ireturn (pc := 17) dX5_isFull_17 rfl rfl (fun hR => ?_)
    first | (rw [b2_t (by omega)] at h; exact h) | (rw [b2_f (by omega)] at h; exact h)
  · skip
    refine V_iconst (pc := 12) dX5_isFull_12 ?_
    refine V_goto (tgt := 17) (pc := 13) dX5_isFull_13 (by decide) ?_
    refine V_ireturn (pc := 17) dX5_isFull_17 rfl rfl (fun hR => ?_)
    first | (rw [b2_t (by omega)] at h; exact h) | (rw [b2_f (by omega)] at h; exact h)
theorem ct_X5_append_1 {x : Int} (hx : Rg_ x) (hL : 0 ≤ σ 1 3 ∧ σ 1 3 < 23) (h : post none (ms_ (ms_ σ 2 (σ 1 3).toNat x) 1 3 (σ 1 3 + 1))) : V_ l D mX5_append (CM_ D mX5_append post) 0 [some (vr_ 1), some (vi_ x)] [] σ := by
  refine V_aload_n (pc := 0) dX5_append_0 rfl rfl ?_
  refine V_callV (pc := 1) (as := []) (rest := []) dX5_append_1 ⟨kX5_31, iX5_isFull, by decide, by decide⟩ rc_1 rfl rfl (Nat.le_of_ble_eq_true rfl) (Nat.le_of_ble_eq_true rfl) ?_
  refine ct_X5_isFull_1 ?_
  show V_ _ _ _ _ _ _ [_] _
  refine V_if_ne (tgt := 27) (pc := 4) dX5_append_4 (by decide) b2_rg (fun h4 => by rw [b2_n0] at h4; omega) (fun h4 => ?_)
  refine V_aload_n (pc := 7) dX5_append_7 rfl rfl ?_
  refine V_getr (pc := 8) dX5_append_8 fX5_25 rfl gg_1 rfl ?_
  refine V_aload_n (pc := 11) dX5_append_11 rfl rfl ?_
  refine V_geti (pc := 12) dX5_append_12 fX5_29 rfl gg_1 rfl (fun r12 => ?_)
  refine V_iload_n (pc := 15) dX5_append_15 rfl rfl ?_
  refine V_iast (pc := 16) dX5_append_16 gg_2 (by first | assumption | decide | omega) (by decide) (by first | assumption | decide | omega | exact ba_rg hR | exact b2_rg) ?_
  refine V_aload_n (pc := 17) dX5_append_17 rfl rfl ?_
  refine V_dup (pc := 18) dX5_append_18 rfl ?_
  refine V_geti (pc := 19) dX5_append_19 fX5_29 rfl gg_1 rfl (fun r19 => ?_)
  refine V_iconst (pc := 22) dX5_append_22 ?_
  refine V_iadd (pc := 23) dX5_append_23 ?_
  refine V_puti (pc := 24) dX5_append_24 fX5_29 rfl gg_1 rfl pq_5_3 rfl rfl (by rw [ms_nk (by decide)]; constructor <;> omega) ?_
  refine V_return (pc := 27) dX5_append_27 rfl (fun hR => ?_)
  rw [ms_nk (show 1 ≠ 2 by decide)]; exact h
theorem ct_X5_goesOnAt_3 {i : Nat} (hi : i ≤ 1000) (hs : σ 3 1 = 5) (hL : 0 ≤ σ 3 3 ∧ σ 3 3 ≤ 39) (h : post (some (vi_ (b2_ (ok_ 1 (σ 3 3) (σ 4) i = true)))) σ) : V_ l D mX5_goesOnAt (CM_ D mX5_goesOnAt post) 0 [some (vr_ 3), some (vi_ (i : Int)), none, none] [] σ := by
  by_cases h0 : i % 5 = 0
  · refine ct_X5_goesOnAt_3_0 (by omega) (by omega) hs hL ?_
    rw [b2_cg (q := ok_ 1 (σ 3 3) (σ 4) i = true)]
    · exact h
    · simp [ok_, sp_, pt_, oc_, h0]
  by_cases h1 : i % 5 = 1
  · refine ct_X5_goesOnAt_3_1 (by omega) (by omega) hs hL ?_
    rw [b2_cg (q := ok_ 1 (σ 3 3) (σ 4) i = true)]
    · exact h
    · simp [ok_, sp_, pt_, oc_, h1]
  by_cases h2 : i % 5 = 2
  · refine ct_X5_goesOnAt_3_2 (by omega) (by omega) hs hL ?_
    rw [b2_cg (q := ok_ 1 (σ 3 3) (σ 4) i = true)]
    · exact h
    · simp [ok_, sp_, pt_, oc_, h2]
  by_cases h3 : i % 5 = 3
  · refine ct_X5_goesOnAt_3_3 (by omega) (by omega) hs hL ?_
    rw [b2_cg (q := ok_ 1 (σ 3 3) (σ 4) i = true)]
    · exact h
    · simp [ok_, sp_, pt_, oc_, h3]
  by_cases h4 : i % 5 = 4
  · refine ct_X5_goesOnAt_3_4 (by omega) (by omega) hs hL ?_
    rw [b2_cg (q := ok_ 1 (σ 3 3) (σ 4) i = true)]
    · exact h
    · simp [ok_, sp_, h4]
  exact absurd (Nat.mod_lt i (show 0 < 5 by decide)) (by omega)
theorem lp_X5_faultPlace_3 (hs : σ 3 1 = 5) (hL : 0 ≤ σ 3 3 ∧ σ 3 3 ≤ 39) (h : post (some (vi_ (fa_ 1 (σ 3 3) (σ 4)))) σ) : ∀ i : Nat, i ≤ (σ 3 3).toNat → (∀ j, j < i → ok_ 1 (σ 3 3) (σ 4) j = true) → V_ l D mX5_faultPlace (CM_ D mX5_faultPlace post) 2 [some (vr_ 3), some (vi_ (i : Int))] [] σ := by
  refine up_ _ (fun i hi ih hj => ?_)
  have hLn : ((σ 3 3).toNat : Int) = σ 3 3 := Int.toNat_of_nonneg hL.1
  refine V_iload_n (pc := 2) dX5_faultPlace_2 rfl rfl ?_
  refine V_aload_n (pc := 3) dX5_faultPlace_3 rfl rfl ?_
  refine V_geti (pc := 4) dX5_faultPlace_4 fX5_29 rfl gg_3 rfl (fun r4 => ?_)
  refine V_icmp_ge (tgt := 26) (pc := 7) dX5_faultPlace_7 (by decide) (by first | assumption | decide | omega | exact ba_rg hR | exact b2_rg) (by first | assumption | decide | omega | exact ba_rg hR | exact b2_rg) (fun h7 => ?_) (fun h7 => ?_)
  · skip
    have hw : wl_ (ok_ 1 (σ 3 3) (σ 4)) (σ 3 3).toNat = (σ 3 3).toNat := wl_at (by omega) (fun j hjj => hj j (by omega)) (fun z => by omega)
    unfold fa_ at h
    simp only [hw, hLn, Int.lt_irrefl, if_false] at h
    refine V_aload_n (pc := 26) dX5_faultPlace_26 rfl rfl ?_
    refine V_geti (pc := 27) dX5_faultPlace_27 fX5_29 rfl gg_3 rfl (fun r27 => ?_)
    refine V_if_eq (tgt := 47) (pc := 30) dX5_faultPlace_30 (by decide) (by first | assumption | decide | omega | exact ba_rg hR | exact b2_rg) (fun h30 => ?_) (fun h30 => ?_)
    · skip
      refine V_iconst (pc := 47) dX5_faultPlace_47 ?_
      refine V_goto (tgt := 55) (pc := 48) dX5_faultPlace_48 (by decide) ?_
      refine V_ireturn (pc := 55) dX5_faultPlace_55 rfl rfl (fun hR => ?_)
      first | (rw [if_pos (by rw [show ((sp_ 1 : Nat) : Int) = 5 from rfl]; omega)] at h; exact h) | (rw [if_neg (by rw [show ((sp_ 1 : Nat) : Int) = 5 from rfl]; omega)] at h; exact h)
    · skip
      refine V_aload_n (pc := 33) dX5_faultPlace_33 rfl rfl ?_
      refine V_geti (pc := 34) dX5_faultPlace_34 fX5_29 rfl gg_3 rfl (fun r34 => ?_)
      refine V_iconst (pc := 37) dX5_faultPlace_37 ?_
      refine V_iadd (pc := 38) dX5_faultPlace_38 ?_
      refine V_aload_n (pc := 39) dX5_faultPlace_39 rfl rfl ?_
      refine V_geti (pc := 40) dX5_faultPlace_40 fX5_21 rfl gg_3 rfl (fun r40 => ?_)
      refine V_irem (pc := 43) dX5_faultPlace_43 (by first | assumption | decide | omega | exact ba_rg hR | exact b2_rg) (by omega) ?_
      refine V_if_ne (tgt := 51) (pc := 44) dX5_faultPlace_44 (by decide) (by rw [hs, irem_p (by omega) (by decide)]; constructor <;> omega) (fun h44 => ?_) (fun h44 => ?_)
      · skip
        rw [hs, irem_p (by omega) (by decide)] at h44
        refine V_aload_n (pc := 51) dX5_faultPlace_51 rfl rfl ?_
        refine V_geti (pc := 52) dX5_faultPlace_52 fX5_29 rfl gg_3 rfl (fun r52 => ?_)
        refine V_ireturn (pc := 55) dX5_faultPlace_55 rfl rfl (fun hR => ?_)
        first | (rw [if_pos (by rw [show ((sp_ 1 : Nat) : Int) = 5 from rfl]; omega)] at h; exact h) | (rw [if_neg (by rw [show ((sp_ 1 : Nat) : Int) = 5 from rfl]; omega)] at h; exact h)
      · skip
        rw [hs, irem_p (by omega) (by decide)] at h44
        refine V_iconst (pc := 47) dX5_faultPlace_47 ?_
        refine V_goto (tgt := 55) (pc := 48) dX5_faultPlace_48 (by decide) ?_
        refine V_ireturn (pc := 55) dX5_faultPlace_55 rfl rfl (fun hR => ?_)
        first | (rw [if_pos (by rw [show ((sp_ 1 : Nat) : Int) = 5 from rfl]; omega)] at h; exact h) | (rw [if_neg (by rw [show ((sp_ 1 : Nat) : Int) = 5 from rfl]; omega)] at h; exact h)
  · skip
    refine V_aload_n (pc := 10) dX5_faultPlace_10 rfl rfl ?_
    refine V_iload_n (pc := 11) dX5_faultPlace_11 rfl rfl ?_
    refine V_callV (pc := 12) (as := [_]) (rest := []) dX5_faultPlace_12 ⟨kX5_42, iX5_goesOnAt, by decide, by decide⟩ rc_3 rfl rfl (Nat.le_of_ble_eq_true rfl) (Nat.le_of_ble_eq_true rfl) ?_
    refine ct_X5_goesOnAt_3 (by omega) hs hL ?_
    show V_ _ _ _ _ _ _ [_] _
    refine V_if_ne (tgt := 20) (pc := 15) dX5_faultPlace_15 (by decide) b2_rg (fun h15 => ?_) (fun h15 => ?_)
    · skip
      rw [b2_n0] at h15
      refine V_iinc (pc := 20) dX5_faultPlace_20 rfl (by decide) rfl ?_
      show V_ _ _ _ _ _ [_, _] _ _
      refine V_goto (tgt := 2) (pc := 23) dX5_faultPlace_23 (by decide) ?_
      exact V_cg (ih (by omega) (fun j hjj => by
        by_cases c : j = i
        · rw [c]; exact h15
        · exact hj j (by omega))) (by simp) rfl rfl
    · skip
      rw [b2_0] at h15
      refine V_iload_n (pc := 18) dX5_faultPlace_18 rfl rfl ?_
      refine V_ireturn (pc := 19) dX5_faultPlace_19 rfl rfl (fun hR => ?_)
      have hw : wl_ (ok_ 1 (σ 3 3) (σ 4)) (σ 3 3).toNat = i := wl_at (by omega) (fun j hjj => hj j hjj) (fun _ => by simpa using h15)
      unfold fa_ at h
      simp only [hw] at h
      rw [if_pos (by omega)] at h
      exact h
theorem ct_X5_faultPlace_3 (hs : σ 3 1 = 5) (hL : 0 ≤ σ 3 3 ∧ σ 3 3 ≤ 39) (h : post (some (vi_ (fa_ 1 (σ 3 3) (σ 4)))) σ) : V_ l D mX5_faultPlace (CM_ D mX5_faultPlace post) 0 [some (vr_ 3), none] [] σ := by
  refine V_iconst (pc := 0) dX5_faultPlace_0 ?_
  refine V_istore_n (pc := 1) dX5_faultPlace_1 rfl (by decide) rfl ?_
  show V_ _ _ _ _ _ [_, _] _ _
  exact lp_X5_faultPlace_3 hs hL h 0 (Nat.zero_le _) (fun j hj => absurd hj (Nat.not_lt_zero _))
theorem fa_rg_3 {L : Int} {b : Nat → Int} (hL : 0 ≤ L ∧ L ≤ 39) : -1 ≤ fa_ 1 L b ∧ fa_ 1 L b ≤ 39 := by
  have := wl_le (ok_ 1 L b) L.toNat
  unfold fa_
  simp only
  split
  · omega
  · split <;> omega
theorem ct_X5_items_3 (hs : σ 3 1 = 5) (hL : 0 ≤ σ 3 3 ∧ σ 3 3 ≤ 39) (h : post (some (vi_ (it_ 1 (σ 3 3) (σ 4)))) σ) : V_ l D mX5_items (CM_ D mX5_items post) 0 [some (vr_ 3)] [] σ := by
  have hf := fa_rg_3 (b := σ 4) hL
  refine V_aload_n (pc := 0) dX5_items_0 rfl rfl ?_
  refine V_callV (pc := 1) (as := []) (rest := []) dX5_items_1 ⟨kX5_46, iX5_faultPlace, by decide, by decide⟩ rc_3 rfl rfl (Nat.le_of_ble_eq_true rfl) (Nat.le_of_ble_eq_true rfl) ?_
  refine ct_X5_faultPlace_3 hs hL ?_
  show V_ _ _ _ _ _ _ [_] _
  refine V_iconst (pc := 4) dX5_items_4 ?_
  refine V_icmp_ne (tgt := 22) (pc := 5) dX5_items_5 (by decide) (by constructor <;> omega) (by first | assumption | decide | omega | exact ba_rg hR | exact b2_rg) (fun h5 => ?_) (fun h5 => ?_)
  · skip
    refine V_iconst (pc := 22) dX5_items_22 ?_
    refine V_ireturn (pc := 23) dX5_items_23 rfl rfl (fun hR => ?_)
    unfold it_ at h
    first
      | (rw [if_pos (by assumption)] at h; rw [hs, idiv_p (by omega) (by decide)]; exact h)
      | (rw [if_neg (by assumption)] at h; exact h)
  · skip
    refine V_aload_n (pc := 8) dX5_items_8 rfl rfl ?_
    refine V_geti (pc := 9) dX5_items_9 fX5_29 rfl gg_3 rfl (fun r9 => ?_)
    refine V_iconst (pc := 12) dX5_items_12 ?_
    refine V_iadd (pc := 13) dX5_items_13 ?_
    refine V_aload_n (pc := 14) dX5_items_14 rfl rfl ?_
    refine V_geti (pc := 15) dX5_items_15 fX5_21 rfl gg_3 rfl (fun r15 => ?_)
    refine V_idiv (pc := 18) dX5_items_18 (by first | assumption | decide | omega | exact ba_rg hR | exact b2_rg) (by omega) ?_
    refine V_goto (tgt := 23) (pc := 19) dX5_items_19 (by decide) ?_
    refine V_ireturn (pc := 23) dX5_items_23 rfl rfl (fun hR => ?_)
    unfold it_ at h
    first
      | (rw [if_pos (by assumption)] at h; rw [hs, idiv_p (by omega) (by decide)]; exact h)
      | (rw [if_neg (by assumption)] at h; exact h)
theorem ct_X5_isFull_3 (h : post (some (vi_ (b2_ (39 ≤ σ 3 3)))) σ) : V_ l D mX5_isFull (CM_ D mX5_isFull post) 0 [some (vr_ 3)] [] σ := by
  refine V_aload_n (pc := 0) dX5_isFull_0 rfl rfl ?_
  refine V_geti (pc := 1) dX5_isFull_1 fX5_29 rfl gg_3 rfl (fun r1 => ?_)
  refine V_aload_n (pc := 4) dX5_isFull_4 rfl rfl ?_
  refine V_getr (pc := 5) dX5_isFull_5 fX5_25 rfl gg_3 rfl ?_
  refine V_alen (pc := 8) dX5_isFull_8 gg_4 ?_
  refine V_icmp_lt (tgt := 16) (pc := 9) dX5_isFull_9 (by decide) (by first | assumption | decide | omega | exact ba_rg hR | exact b2_rg) (by first | assumption | decide | omega | exact ba_rg hR | exact b2_rg) (fun h9 => ?_) (fun h9 => ?_)
  · skip
    refine V_iconst (pc := 16) dX5_isFull_16 ?_
    refine V_ireturn (pc := 17) dX5_isFull_17 rfl rfl (fun hR => ?_)
    first | (rw [b2_t (by omega)] at h; exact h) | (rw [b2_f (by omega)] at h; exact h)
  · skip
    refine V_iconst (pc := 12) dX5_isFull_12 ?_
    refine V_goto (tgt := 17) (pc := 13) dX5_isFull_13 (by decide) ?_
    refine V_ireturn (pc := 17) dX5_isFull_17 rfl rfl (fun hR => ?_)
    first | (rw [b2_t (by omega)] at h; exact h) | (rw [b2_f (by omega)] at h; exact h)
theorem ct_X5_append_3 {x : Int} (hx : Rg_ x) (hL : 0 ≤ σ 3 3 ∧ σ 3 3 < 39) (h : post none (ms_ (ms_ σ 4 (σ 3 3).toNat x) 3 3 (σ 3 3 + 1))) : V_ l D mX5_append (CM_ D mX5_append post) 0 [some (vr_ 3), some (vi_ x)] [] σ := by
  refine V_aload_n (pc := 0) dX5_append_0 rfl rfl ?_
  refine V_callV (pc := 1) (as := []) (rest := []) dX5_append_1 ⟨kX5_31, iX5_isFull, by decide, by decide⟩ rc_3 rfl rfl (Nat.le_of_ble_eq_true rfl) (Nat.le_of_ble_eq_true rfl) ?_
  refine ct_X5_isFull_3 ?_
  show V_ _ _ _ _ _ _ [_] _
  refine V_if_ne (tgt := 27) (pc := 4) dX5_append_4 (by decide) b2_rg (fun h4 => by rw [b2_n0] at h4; omega) (fun h4 => ?_)
  refine V_aload_n (pc := 7) dX5_append_7 rfl rfl ?_
  refine V_getr (pc := 8) dX5_append_8 fX5_25 rfl gg_3 rfl ?_
  refine V_aload_n (pc := 11) dX5_append_11 rfl rfl ?_
  refine V_geti (pc := 12) dX5_append_12 fX5_29 rfl gg_3 rfl (fun r12 => ?_)
  refine V_iload_n (pc := 15) dX5_append_15 rfl rfl ?_
  refine V_iast (pc := 16) dX5_append_16 gg_4 (by first | assumption | decide | omega) (by decide) (by first | assumption | decide | omega | exact ba_rg hR | exact b2_rg) ?_
  refine V_aload_n (pc := 17) dX5_append_17 rfl rfl ?_
  refine V_dup (pc := 18) dX5_append_18 rfl ?_
  refine V_geti (pc := 19) dX5_append_19 fX5_29 rfl gg_3 rfl (fun r19 => ?_)
  refine V_iconst (pc := 22) dX5_append_22 ?_
  refine V_iadd (pc := 23) dX5_append_23 ?_
  refine V_puti (pc := 24) dX5_append_24 fX5_29 rfl gg_3 rfl pq_5_3 rfl rfl (by rw [ms_nk (by decide)]; constructor <;> omega) ?_
  refine V_return (pc := 27) dX5_append_27 rfl (fun hR => ?_)
  rw [ms_nk (show 3 ≠ 4 by decide)]; exact h
theorem ct_X5_goesOnAt_5 {i : Nat} (hi : i ≤ 1000) (hs : σ 5 1 = 5) (hL : 0 ≤ σ 5 3 ∧ σ 5 3 ≤ 59) (h : post (some (vi_ (b2_ (ok_ 2 (σ 5 3) (σ 6) i = true)))) σ) : V_ l D mX5_goesOnAt (CM_ D mX5_goesOnAt post) 0 [some (vr_ 5), some (vi_ (i : Int)), none, none] [] σ := by
  by_cases h0 : i % 5 = 0
  · refine ct_X5_goesOnAt_5_0 (by omega) (by omega) hs hL ?_
    rw [b2_cg (q := ok_ 2 (σ 5 3) (σ 6) i = true)]
    · exact h
    · simp [ok_, sp_, pt_, oc_, h0]
  by_cases h1 : i % 5 = 1
  · refine ct_X5_goesOnAt_5_1 (by omega) (by omega) hs hL ?_
    rw [b2_cg (q := ok_ 2 (σ 5 3) (σ 6) i = true)]
    · exact h
    · simp [ok_, sp_, pt_, oc_, h1]
  by_cases h2 : i % 5 = 2
  · refine ct_X5_goesOnAt_5_2 (by omega) (by omega) hs hL ?_
    rw [b2_cg (q := ok_ 2 (σ 5 3) (σ 6) i = true)]
    · exact h
    · simp [ok_, sp_, pt_, oc_, h2]
  by_cases h3 : i % 5 = 3
  · refine ct_X5_goesOnAt_5_3 (by omega) (by omega) hs hL ?_
    rw [b2_cg (q := ok_ 2 (σ 5 3) (σ 6) i = true)]
    · exact h
    · simp [ok_, sp_, pt_, oc_, h3]
  by_cases h4 : i % 5 = 4
  · refine ct_X5_goesOnAt_5_4 (by omega) (by omega) hs hL ?_
    rw [b2_cg (q := ok_ 2 (σ 5 3) (σ 6) i = true)]
    · exact h
    · simp [ok_, sp_, h4]
  exact absurd (Nat.mod_lt i (show 0 < 5 by decide)) (by omega)
theorem lp_X5_faultPlace_5 (hs : σ 5 1 = 5) (hL : 0 ≤ σ 5 3 ∧ σ 5 3 ≤ 59) (h : post (some (vi_ (fa_ 2 (σ 5 3) (σ 6)))) σ) : ∀ i : Nat, i ≤ (σ 5 3).toNat → (∀ j, j < i → ok_ 2 (σ 5 3) (σ 6) j = true) → V_ l D mX5_faultPlace (CM_ D mX5_faultPlace post) 2 [some (vr_ 5), some (vi_ (i : Int))] [] σ := by
  refine up_ _ (fun i hi ih hj => ?_)
  have hLn : ((σ 5 3).toNat : Int) = σ 5 3 := Int.toNat_of_nonneg hL.1
  refine V_iload_n (pc := 2) dX5_faultPlace_2 rfl rfl ?_
  refine V_aload_n (pc := 3) dX5_faultPlace_3 rfl rfl ?_
  refine V_geti (pc := 4) dX5_faultPlace_4 fX5_29 rfl gg_5 rfl (fun r4 => ?_)
  refine V_icmp_ge (tgt := 26) (pc := 7) dX5_faultPlace_7 (by decide) (by first | assumption | decide | omega | exact ba_rg hR | exact b2_rg) (by first | assumption | decide | omega | exact ba_rg hR | exact b2_rg) (fun h7 => ?_) (fun h7 => ?_)
  · skip
    have hw : wl_ (ok_ 2 (σ 5 3) (σ 6)) (σ 5 3).toNat = (σ 5 3).toNat := wl_at (by omega) (fun j hjj => hj j (by omega)) (fun z => by omega)
    unfold fa_ at h
    simp only [hw, hLn, Int.lt_irrefl, if_false] at h
    refine V_aload_n (pc := 26) dX5_faultPlace_26 rfl rfl ?_
    refine V_geti (pc := 27) dX5_faultPlace_27 fX5_29 rfl gg_5 rfl (fun r27 => ?_)
    refine V_if_eq (tgt := 47) (pc := 30) dX5_faultPlace_30 (by decide) (by first | assumption | decide | omega | exact ba_rg hR | exact b2_rg) (fun h30 => ?_) (fun h30 => ?_)
    · skip
      refine V_iconst (pc := 47) dX5_faultPlace_47 ?_
      refine V_goto (tgt := 55) (pc := 48) dX5_faultPlace_48 (by decide) ?_
      refine V_ireturn (pc := 55) dX5_faultPlace_55 rfl rfl (fun hR => ?_)
      first | (rw [if_pos (by rw [show ((sp_ 2 : Nat) : Int) = 5 from rfl]; omega)] at h; exact h) | (rw [if_neg (by rw [show ((sp_ 2 : Nat) : Int) = 5 from rfl]; omega)] at h; exact h)
    · skip
      refine V_aload_n (pc := 33) dX5_faultPlace_33 rfl rfl ?_
      refine V_geti (pc := 34) dX5_faultPlace_34 fX5_29 rfl gg_5 rfl (fun r34 => ?_)
      refine V_iconst (pc := 37) dX5_faultPlace_37 ?_
      refine V_iadd (pc := 38) dX5_faultPlace_38 ?_
      refine V_aload_n (pc := 39) dX5_faultPlace_39 rfl rfl ?_
      refine V_geti (pc := 40) dX5_faultPlace_40 fX5_21 rfl gg_5 rfl (fun r40 => ?_)
      refine V_irem (pc := 43) dX5_faultPlace_43 (by first | assumption | decide | omega | exact ba_rg hR | exact b2_rg) (by omega) ?_
      refine V_if_ne (tgt := 51) (pc := 44) dX5_faultPlace_44 (by decide) (by rw [hs, irem_p (by omega) (by decide)]; constructor <;> omega) (fun h44 => ?_) (fun h44 => ?_)
      · skip
        rw [hs, irem_p (by omega) (by decide)] at h44
        refine V_aload_n (pc := 51) dX5_faultPlace_51 rfl rfl ?_
        refine V_geti (pc := 52) dX5_faultPlace_52 fX5_29 rfl gg_5 rfl (fun r52 => ?_)
        refine V_ireturn (pc := 55) dX5_faultPlace_55 rfl rfl (fun hR => ?_)
        first | (rw [if_pos (by rw [show ((sp_ 2 : Nat) : Int) = 5 from rfl]; omega)] at h; exact h) | (rw [if_neg (by rw [show ((sp_ 2 : Nat) : Int) = 5 from rfl]; omega)] at h; exact h)
      · skip
        rw [hs, irem_p (by omega) (by decide)] at h44
        refine V_iconst (pc := 47) dX5_faultPlace_47 ?_
        refine V_goto (tgt := 55) (pc := 48) dX5_faultPlace_48 (by decide) ?_
        refine V_ireturn (pc := 55) dX5_faultPlace_55 rfl rfl (fun hR => ?_)
        first | (rw [if_pos (by rw [show ((sp_ 2 : Nat) : Int) = 5 from rfl]; omega)] at h; exact h) | (rw [if_neg (by rw [show ((sp_ 2 : Nat) : Int) = 5 from rfl]; omega)] at h; exact h)
  · skip
    refine V_aload_n (pc := 10) dX5_faultPlace_10 rfl rfl ?_
    refine V_iload_n (pc := 11) dX5_faultPlace_11 rfl rfl ?_
    refine V_callV (pc := 12) (as := [_]) (rest := []) dX5_faultPlace_12 ⟨kX5_42, iX5_goesOnAt, by decide, by decide⟩ rc_5 rfl rfl (Nat.le_of_ble_eq_true rfl) (Nat.le_of_ble_eq_true rfl) ?_
    refine ct_X5_goesOnAt_5 (by omega) hs hL ?_
    show V_ _ _ _ _ _ _ [_] _
    refine V_if_ne (tgt := 20) (pc := 15) dX5_faultPlace_15 (by decide) b2_rg (fun h15 => ?_) (fun h15 => ?_)
    · skip
      rw [b2_n0] at h15
      refine V_iinc (pc := 20) dX5_faultPlace_20 rfl (by decide) rfl ?_
      show V_ _ _ _ _ _ [_, _] _ _
      refine V_goto (tgt := 2) (pc := 23) dX5_faultPlace_23 (by decide) ?_
      exact V_cg (ih (by omega) (fun j hjj => by
        by_cases c : j = i
        · rw [c]; exact h15
        · exact hj j (by omega))) (by simp) rfl rfl
    · skip
      rw [b2_0] at h15
      refine V_iload_n (pc := 18) dX5_faultPlace_18 rfl rfl ?_
      refine V_ireturn (pc := 19) dX5_faultPlace_19 rfl rfl (fun hR => ?_)
      have hw : wl_ (ok_ 2 (σ 5 3) (σ 6)) (σ 5 3).toNat = i := wl_at (by omega) (fun j hjj => hj j hjj) (fun _ => by simpa using h15)
      unfold fa_ at h
      simp only [hw] at h
      rw [if_pos (by omega)] at h
      exact h
theorem ct_X5_faultPlace_5 (hs : σ 5 1 = 5) (hL : 0 ≤ σ 5 3 ∧ σ 5 3 ≤ 59) (h : post (some (vi_ (fa_ 2 (σ 5 3) (σ 6)))) σ) : V_ l D mX5_faultPlace (CM_ D mX5_faultPlace post) 0 [some (vr_ 5), none] [] σ := by
  refine V_iconst (pc := 0) dX5_faultPlace_0 ?_
  refine V_istore_n (pc := 1) dX5_faultPlace_1 rfl (by decide) rfl ?_
  show V_ _ _ _ _ _ [_, _] _ _
  exact lp_X5_faultPlace_5 hs hL h 0 (Nat.zero_le _) (fun j hj => absurd hj (Nat.not_lt_zero _))
theorem fa_rg_5 {L : Int} {b : Nat → Int} (hL : 0 ≤ L ∧ L ≤ 59) : -1 ≤ fa_ 2 L b ∧ fa_ 2 L b ≤ 59 := by
  have := wl_le (ok_ 2 L b) L.toNat
  unfold fa_
  simp only
  split
  · omega
  · split <;> omega
theorem ct_X5_items_5 (hs : σ 5 1 = 5) (hL : 0 ≤ σ 5 3 ∧ σ 5 3 ≤ 59) (h : post (some (vi_ (it_ 2 (σ 5 3) (σ 6)))) σ) : V_ l D mX5_items (CM_ D mX5_items post) 0 [some (vr_ 5)] [] σ := by
  have hf := fa_rg_5 (b := σ 6) hL
  refine V_aload_n (pc := 0) dX5_items_0 rfl rfl ?_
  refine V_callV (pc := 1) (as := []) (rest := []) dX5_items_1 ⟨kX5_46, iX5_faultPlace, by decide, by decide⟩ rc_5 rfl rfl (Nat.le_of_ble_eq_true rfl) (Nat.le_of_ble_eq_true rfl) ?_
  refine ct_X5_faultPlace_5 hs hL ?_
  show V_ _ _ _ _ _ _ [_] _
  refine V_iconst (pc := 4) dX5_items_4 ?_
  refine V_icmp_ne (tgt := 22) (pc := 5) dX5_items_5 (by decide) (by constructor <;> omega) (by first | assumption | decide | omega | exact ba_rg hR | exact b2_rg) (fun h5 => ?_) (fun h5 => ?_)
  · skip
    refine V_iconst (pc := 22) dX5_items_22 ?_
    refine V_ireturn (pc := 23) dX5_items_23 rfl rfl (fun hR => ?_)
    unfold it_ at h
    first
      | (rw [if_pos (by assumption)] at h; rw [hs, idiv_p (by omega) (by decide)]; exact h)
      | (rw [if_neg (by assumption)] at h; exact h)
  · skip
    refine V_aload_n (pc := 8) dX5_items_8 rfl rfl ?_
    refine V_geti (pc := 9) dX5_items_9 fX5_29 rfl gg_5 rfl (fun r9 => ?_)
    refine V_iconst (pc := 12) dX5_items_12 ?_
    refine V_iadd (pc := 13) dX5_items_13 ?_
    refine V_aload_n (pc := 14) dX5_items_14 rfl rfl ?_
    refine V_geti (pc := 15) dX5_items_15 fX5_21 rfl gg_5 rfl (fun r15 => ?_)
    refine V_idiv (pc := 18) dX5_items_18 (by first | assumption | decide | omega | exact ba_rg hR | exact b2_rg) (by omega) ?_
    refine V_goto (tgt := 23) (pc := 19) dX5_items_19 (by decide) ?_
    refine V_ireturn (pc := 23) dX5_items_23 rfl rfl (fun hR => ?_)
    unfold it_ at h
    first
      | (rw [if_pos (by assumption)] at h; rw [hs, idiv_p (by omega) (by decide)]; exact h)
      | (rw [if_neg (by assumption)] at h; exact h)
theorem ct_X5_isFull_5 (h : post (some (vi_ (b2_ (59 ≤ σ 5 3)))) σ) : V_ l D mX5_isFull (CM_ D mX5_isFull post) 0 [some (vr_ 5)] [] σ := by
  refine V_aload_n (pc := 0) dX5_isFull_0 rfl rfl ?_
  refine V_geti (pc := 1) dX5_isFull_1 fX5_29 rfl gg_5 rfl (fun r1 => ?_)
  refine V_aload_n (pc := 4) dX5_isFull_4 rfl rfl ?_
  refine V_getr (pc := 5) dX5_isFull_5 fX5_25 rfl gg_5 rfl ?_
  refine V_alen (pc := 8) dX5_isFull_8 gg_6 ?_
  refine V_icmp_lt (tgt := 16) (pc := 9) dX5_isFull_9 (by decide) (by first | assumption | decide | omega | exact ba_rg hR | exact b2_rg) (by first | assumption | decide | omega | exact ba_rg hR | exact b2_rg) (fun h9 => ?_) (fun h9 => ?_)
  · skip
    refine V_iconst (pc := 16) dX5_isFull_16 ?_
    refine V_ireturn (pc := 17) dX5_isFull_17 rfl rfl (fun hR => ?_)
    first | (rw [b2_t (by omega)] at h; exact h) | (rw [b2_f (by omega)] at h; exact h)
  · skip
    refine V_iconst (pc := 12) dX5_isFull_12 ?_
    refine V_goto (tgt := 17) (pc := 13) dX5_isFull_13 (by decide) ?_
    refine V_ireturn (pc := 17) dX5_isFull_17 rfl rfl (fun hR => ?_)
    first | (rw [b2_t (by omega)] at h; exact h) | (rw [b2_f (by omega)] at h; exact h)
theorem ct_X5_append_5 {x : Int} (hx : Rg_ x) (hL : 0 ≤ σ 5 3 ∧ σ 5 3 < 59) (h : post none (ms_ (ms_ σ 6 (σ 5 3).toNat x) 5 3 (σ 5 3 + 1))) : V_ l D mX5_append (CM_ D mX5_append post) 0 [some (vr_ 5), some (vi_ x)] [] σ := by
  refine V_aload_n (pc := 0) dX5_append_0 rfl rfl ?_
  refine V_callV (pc := 1) (as := []) (rest := []) dX5_append_1 ⟨kX5_31, iX5_isFull, by decide, by decide⟩ rc_5 rfl rfl (Nat.le_of_ble_eq_true rfl) (Nat.le_of_ble_eq_true rfl) ?_
  refine ct_X5_isFull_5 ?_
  show V_ _ _ _ _ _ _ [_] _
  refine V_if_ne (tgt := 27) (pc := 4) dX5_append_4 (by decide) b2_rg (fun h4 => by rw [b2_n0] at h4; omega) (fun h4 => ?_)
  refine V_aload_n (pc := 7) dX5_append_7 rfl rfl ?_
  refine V_getr (pc := 8) dX5_append_8 fX5_25 rfl gg_5 rfl ?_
  refine V_aload_n (pc := 11) dX5_append_11 rfl rfl ?_
  refine V_geti (pc := 12) dX5_append_12 fX5_29 rfl gg_5 rfl (fun r12 => ?_)
  refine V_iload_n (pc := 15) dX5_append_15 rfl rfl ?_
  refine V_iast (pc := 16) dX5_append_16 gg_6 (by first | assumption | decide | omega) (by decide) (by first | assumption | decide | omega | exact ba_rg hR | exact b2_rg) ?_
  refine V_aload_n (pc := 17) dX5_append_17 rfl rfl ?_
  refine V_dup (pc := 18) dX5_append_18 rfl ?_
  refine V_geti (pc := 19) dX5_append_19 fX5_29 rfl gg_5 rfl (fun r19 => ?_)
  refine V_iconst (pc := 22) dX5_append_22 ?_
  refine V_iadd (pc := 23) dX5_append_23 ?_
  refine V_puti (pc := 24) dX5_append_24 fX5_29 rfl gg_5 rfl pq_5_3 rfl rfl (by rw [ms_nk (by decide)]; constructor <;> omega) ?_
  refine V_return (pc := 27) dX5_append_27 rfl (fun hR => ?_)
  rw [ms_nk (show 5 ≠ 6 by decide)]; exact h
end
