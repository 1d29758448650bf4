/-! ## classes Pairs, Sheet -/
def cu_ (f x : Int) : Int := if f = 0 then i2b_ x else if f = 1 then i2s_ x else x
theorem i2b_rg (x : Int) : Rg_ (i2b_ x) := i3_rg _
theorem i2s_rg (x : Int) : Rg_ (i2s_ x) := i3_rg _
theorem cu_rg {f x : Int} (hx : Rg_ x) : Rg_ (cu_ f x) := by
  unfold cu_
  split
  · exact i2b_rg x
  · split
    · exact i2s_rg x
    · exact hx
section
variable {l : Launch} {D : Dt_} {σ : Mm_} {post : Option Av_ → Mm_ → Prop}
theorem ct_X2_isFull_7 {z : Int} (hz : σ 7 2 = z) (h : post (some (vi_ (b2_ (12 ≤ z)))) σ) : V_ l D mX2_isFull (CM_ D mX2_isFull post) 0 [some (vr_ 7)] [] σ := by
  refine V_aload_n (pc := 0) dX2_isFull_0 rfl rfl ?_
  refine V_geti (pc := 1) dX2_isFull_1 fX2_16 rfl gg_7 rfl (fun r1 => ?_)
  rw [hz] at r1 ⊢
  refine V_aload_n (pc := 4) dX2_isFull_4 rfl rfl ?_
  refine V_getr (pc := 5) dX2_isFull_5 fX2_7 rfl gg_7 rfl ?_
  refine V_alen (pc := 8) dX2_isFull_8 gg_8 ?_
  refine V_icmp_lt (tgt := 16) (pc := 9) dX2_isFull_9 (by decide) (by first | assumption | decide | omega | exact ba_rg hR | exact b2_rg) (by first | assumption | decide | omega | exact ba_rg hR | exact b2_rg) (fun h9 => ?_) (fun h9 => ?_)
  · skip
    refine V_iconst (pc := 16) dX2_isFull_16 ?_
    refine V_ireturn (pc := 17) dX2_isFull_17 rfl rfl (fun hR => ?_)
    first | (rw [b2_t (by omega)] at h; exact h) | (rw [b2_f (by omega)] at h; exact h)
  · skip
    refine V_iconst (pc := 12) dX2_isFull_12 ?_
    refine V_goto (tgt := 17) (pc := 13) dX2_isFull_13 (by decide) ?_
    refine V_ireturn (pc := 17) dX2_isFull_17 rfl rfl (fun hR => ?_)
    first | (rw [b2_t (by omega)] at h; exact h) | (rw [b2_f (by omega)] at h; exact h)
theorem ct_X2_append_7 {x z : Int} {q : Nat} (hx : Rg_ x) (hz : Rg_ z) (hq : σ 7 2 = (q : Int)) (hqc : q < 12) (h : post (some (vi_ ((q : Int) + 1))) (ms_ (ms_ (ms_ σ 8 q x) 9 q z) 7 2 ((q : Int) + 1))) : V_ l D mX2_append (CM_ D mX2_append post) 0 [some (vr_ 7), some (vi_ x), some (vi_ z)] [] σ := by
  refine V_aload_n (pc := 0) dX2_append_0 rfl rfl ?_
  refine V_callV (pc := 1) (as := []) (rest := []) dX2_append_1 ⟨kX2_20, iX2_isFull, by decide, by decide⟩ rc_7 rfl rfl (Nat.le_of_ble_eq_true rfl) (Nat.le_of_ble_eq_true rfl) ?_
  refine ct_X2_isFull_7 hq ?_
  show V_ _ _ _ _ _ _ [_] _
  refine V_if_ne (tgt := 37) (pc := 4) dX2_append_4 (by decide) b2_rg (fun h4 => by rw [b2_n0] at h4; omega) (fun h4 => ?_)
  refine V_aload_n (pc := 7) dX2_append_7 rfl rfl ?_
  refine V_getr (pc := 8) dX2_append_8 fX2_7 rfl gg_7 rfl ?_
  refine V_aload_n (pc := 11) dX2_append_11 rfl rfl ?_
  refine V_geti (pc := 12) dX2_append_12 fX2_16 rfl gg_7 rfl (fun r12 => ?_)
  rw [hq] at r12 ⊢
  refine V_iload_n (pc := 15) dX2_append_15 rfl rfl ?_
  refine V_iastN (pc := 16) dX2_append_16 gg_8 (by omega) (by decide) (by first | assumption | decide | omega | exact ba_rg hR | exact b2_rg) ?_
  refine V_aload_n (pc := 17) dX2_append_17 rfl rfl ?_
  refine V_getr (pc := 18) dX2_append_18 fX2_13 rfl gg_7 rfl ?_
  refine V_aload_n (pc := 21) dX2_append_21 rfl rfl ?_
  refine V_geti (pc := 22) dX2_append_22 fX2_16 rfl gg_7 rfl (fun r22 => ?_)
  rw [show ms_ σ 8 q x 7 2 = (q : Int) from by rw [ms_nk (by decide)]; exact hq] at r22 ⊢
  refine V_iload_n (pc := 25) dX2_append_25 rfl rfl ?_
  refine V_iastN (pc := 26) dX2_append_26 gg_9 (by omega) (by decide) (by first | assumption | decide | omega | exact ba_rg hR | exact b2_rg) ?_
  refine V_aload_n (pc := 27) dX2_append_27 rfl rfl ?_
  refine V_dup (pc := 28) dX2_append_28 rfl ?_
  refine V_geti (pc := 29) dX2_append_29 fX2_16 rfl gg_7 rfl (fun r29 => ?_)
  rw [show ms_ (ms_ σ 8 q x) 9 q z 7 2 = (q : Int) from by rw [ms_nk (by decide), ms_nk (by decide)]; exact hq] at r29 ⊢
  refine V_iconst (pc := 32) dX2_append_32 ?_
  refine V_iadd (pc := 33) dX2_append_33 ?_
  refine V_puti (pc := 34) dX2_append_34 fX2_16 rfl gg_7 rfl pq_2_2 rfl rfl (by constructor <;> omega) ?_
  refine V_aload_n (pc := 37) dX2_append_37 rfl rfl ?_
  refine V_geti (pc := 38) dX2_append_38 fX2_16 rfl gg_7 rfl (fun r38 => ?_)
  rw [ms_eq] at r38 ⊢
  refine V_ireturn (pc := 41) dX2_append_41 rfl rfl (fun hR => ?_)
  exact h
theorem ct_X2_isFull_32 {z : Int} (hz : σ 32 2 = z) (h : post (some (vi_ (b2_ (8 ≤ z)))) σ) : V_ l D mX2_isFull (CM_ D mX2_isFull post) 0 [some (vr_ 32)] [] σ := by
  refine V_aload_n (pc := 0) dX2_isFull_0 rfl rfl ?_
  refine V_geti (pc := 1) dX2_isFull_1 fX2_16 rfl gg_32 rfl (fun r1 => ?_)
  rw [hz] at r1 ⊢
  refine V_aload_n (pc := 4) dX2_isFull_4 rfl rfl ?_
  refine V_getr (pc := 5) dX2_isFull_5 fX2_7 rfl gg_32 rfl ?_
  refine V_alen (pc := 8) dX2_isFull_8 gg_33 ?_
  refine V_icmp_lt (tgt := 16) (pc := 9) dX2_isFull_9 (by decide) (by first | assumption | decide | omega | exact ba_rg hR | exact b2_rg) (by first | assumption | decide | omega | exact ba_rg hR | exact b2_rg) (fun h9 => ?_) (fun h9 => ?_)
  · skip
    refine V_iconst (pc := 16) dX2_isFull_16 ?_
    refine V_ireturn (pc := 17) dX2_isFull_17 rfl rfl (fun hR => ?_)
    first | (rw [b2_t (by omega)] at h; exact h) | (rw [b2_f (by omega)] at h; exact h)
  · skip
    refine V_iconst (pc := 12) dX2_isFull_12 ?_
    refine V_goto (tgt := 17) (pc := 13) dX2_isFull_13 (by decide) ?_
    refine V_ireturn (pc := 17) dX2_isFull_17 rfl rfl (fun hR => ?_)
    first | (rw [b2_t (by omega)] at h; exact h) | (rw [b2_f (by omega)] at h; exact h)
theorem ct_X2_append_32 {x z : Int} {q : Nat} (hx : Rg_ x) (hz : Rg_ z) (hq : σ 32 2 = (q : Int)) (hqc : q < 8) (h : post (some (vi_ ((q : Int) + 1))) (ms_ (ms_ (ms_ σ 33 q x) 34 q z) 32 2 ((q : Int) + 1))) : V_ l D mX2_append (CM_ D mX2_append post) 0 [some (vr_ 32), some (vi_ x), some (vi_ z)] [] σ := by
  refine V_aload_n (pc := 0) dX2_append_0 rfl rfl ?_
  refine V_callV (pc := 1) (as := []) (rest := []) dX2_append_1 ⟨kX2_20, iX2_isFull, by decide, by decide⟩ rc_32 rfl rfl (Nat.le_of_ble_eq_true rfl) (Nat.le_of_ble_eq_true rfl) ?_
  refine ct_X2_isFull_32 hq ?_
  show V_ _ _ _ _ _ _ [_] _
  refine V_if_ne (tgt := 37) (pc := 4) dX2_append_4 (by decide) b2_rg (fun h4 => by rw [b2_n0] at h4; omega) (fun h4 => ?_)
  refine V_aload_n (pc := 7) dX2_append_7 rfl rfl ?_
  refine V_getr (pc := 8) dX2_append_8 fX2_7 rfl gg_32 rfl ?_
  refine V_aload_n (pc := 11) dX2_append_11 rfl rfl ?_
  refine V_geti (pc := 12) dX2_append_12 fX2_16 rfl gg_32 rfl (fun r12 => ?_)
  rw [hq] at r12 ⊢
  refine V_iload_n (pc := 15) dX2_append_15 rfl rfl ?_
  refine V_iastN (pc := 16) dX2_append_16 gg_33 (by omega) (by decide) (by first | assumption | decide | omega | exact ba_rg hR | exact b2_rg) ?_
  refine V_aload_n (pc := 17) dX2_append_17 rfl rfl ?_
  refine V_getr (pc := 18) dX2_append_18 fX2_13 rfl gg_32 rfl ?_
  refine V_aload_n (pc := 21) dX2_append_21 rfl rfl ?_
  refine V_geti (pc := 22) dX2_append_22 fX2_16 rfl gg_32 rfl (fun r22 => ?_)
  rw [show ms_ σ 33 q x 32 2 = (q : Int) from by rw [ms_nk (by decide)]; exact hq] at r22 ⊢
  refine V_iload_n (pc := 25) dX2_append_25 rfl rfl ?_
  refine V_iastN (pc := 26) dX2_append_26 gg_34 (by omega) (by decide) (by first | assumption | decide | omega | exact ba_rg hR | exact b2_rg) ?_
  refine V_aload_n (pc := 27) dX2_append_27 rfl rfl ?_
  refine V_dup (pc := 28) dX2_append_28 rfl ?_
  refine V_geti (pc := 29) dX2_append_29 fX2_16 rfl gg_32 rfl (fun r29 => ?_)
  rw [show ms_ (ms_ σ 33 q x) 34 q z 32 2 = (q : Int) from by rw [ms_nk (by decide), ms_nk (by decide)]; exact hq] at r29 ⊢
  refine V_iconst (pc := 32) dX2_append_32 ?_
  refine V_iadd (pc := 33) dX2_append_33 ?_
  refine V_puti (pc := 34) dX2_append_34 fX2_16 rfl gg_32 rfl pq_2_2 rfl rfl (by constructor <;> omega) ?_
  refine V_aload_n (pc := 37) dX2_append_37 rfl rfl ?_
  refine V_geti (pc := 38) dX2_append_38 fX2_16 rfl gg_32 rfl (fun r38 => ?_)
  rw [ms_eq] at r38 ⊢
  refine V_ireturn (pc := 41) dX2_append_41 rfl rfl (fun hR => ?_)
  exact h
theorem ct_X4_renew_11 {f z : Int} (hf : Rg_ f) (hz : Rg_ z) (h : post none (ms_ (ms_ (ms_ (wr_ σ 12 (fun _ => 0) 60) 11 1 0) 11 2 f) 11 3 z)) : V_ l D mX4_renew (CM_ D mX4_renew post) 0 [some (vr_ 11), some (vi_ f), some (vi_ z)] [] σ := by
  refine V_aload_n (pc := 0) dX4_renew_0 rfl rfl ?_
  refine V_getr (pc := 1) dX4_renew_1 fX4_9 rfl gg_11 rfl ?_
  refine V_iconst (pc := 4) dX4_renew_4 ?_
  refine V_callS (pc := 5) (as := [_, _]) (rest := []) dX4_renew_5 ⟨kX4_19, sJ7_fill_53178, by decide, by decide⟩ rfl rfl (Nat.le_of_ble_eq_true rfl) (Nat.le_of_ble_eq_true rfl) ?_
  refine ct_J7_fill_53178_12 (by decide) ?_
  show V_ _ _ _ _ _ _ [] _
  refine V_aload_n (pc := 8) dX4_renew_8 rfl rfl ?_
  refine V_iconst (pc := 9) dX4_renew_9 ?_
  refine V_puti (pc := 10) dX4_renew_10 fX4_15 rfl gg_11 rfl pq_4_1 rfl rfl (by first | assumption | decide | omega | exact ba_rg hR | exact b2_rg) ?_
  refine V_aload_n (pc := 13) dX4_renew_13 rfl rfl ?_
  refine V_iload_n (pc := 14) dX4_renew_14 rfl rfl ?_
  refine V_puti (pc := 15) dX4_renew_15 fX4_25 rfl gg_11 rfl pq_4_2 rfl rfl (by first | assumption | decide | omega | exact ba_rg hR | exact b2_rg) ?_
  refine V_aload_n (pc := 18) dX4_renew_18 rfl rfl ?_
  refine V_iload_n (pc := 19) dX4_renew_19 rfl rfl ?_
  refine V_puti (pc := 20) dX4_renew_20 fX4_29 rfl gg_11 rfl pq_4_3 rfl rfl (by first | assumption | decide | omega | exact ba_rg hR | exact b2_rg) ?_
  refine V_return (pc := 23) dX4_renew_23 rfl (fun hR => ?_)
  exact h
theorem ct_X4_findingAt_11 {f i : Int} (hf : Rg_ f) (hi : Rg_ i) (h : post (some (vi_ (if σ 11 1 ≠ 0 then 1 else if σ 11 2 ≠ f then 3 else if 0 ≤ i ∧ i < σ 11 3 then 0 else 2))) σ) : V_ l D mX4_findingAt (CM_ D mX4_findingAt post) 0 [some (vr_ 11), some (vi_ f), some (vi_ i)] [] σ := by
  refine V_aload_n (pc := 0) dX4_findingAt_0 rfl rfl ?_
  refine V_geti (pc := 1) dX4_findingAt_1 fX4_15 rfl gg_11 rfl (fun r1 => ?_)
  refine V_if_eq (tgt := 9) (pc := 4) dX4_findingAt_4 (by decide) (by first | assumption | decide | omega | exact ba_rg hR | exact b2_rg) (fun h4 => ?_) (fun h4 => ?_)
  · skip
    refine V_aload_n (pc := 9) dX4_findingAt_9 rfl rfl ?_
    refine V_geti (pc := 10) dX4_findingAt_10 fX4_25 rfl gg_11 rfl (fun r10 => ?_)
    refine V_iload_n (pc := 13) dX4_findingAt_13 rfl rfl ?_
    refine V_icmp_eq (tgt := 19) (pc := 14) dX4_findingAt_14 (by decide) (by first | assumption | decide | omega | exact ba_rg hR | exact b2_rg) (by first | assumption | decide | omega | exact ba_rg hR | exact b2_rg) (fun h14 => ?_) (fun h14 => ?_)
    · skip
      refine V_iload_n (pc := 19) dX4_findingAt_19 rfl rfl ?_
      refine V_if_lt (tgt := 35) (pc := 20) dX4_findingAt_20 (by decide) (by first | assumption | decide | omega | exact ba_rg hR | exact b2_rg) (fun h20 => ?_) (fun h20 => ?_)
      · skip
        refine V_iconst (pc := 35) dX4_findingAt_35 ?_
        refine V_ireturn (pc := 36) dX4_findingAt_36 rfl rfl (fun hR => ?_)
        first
          | (rw [if_pos (by omega)] at h; exact h)
          | (rw [if_neg (by omega), if_pos (by omega)] at h; exact h)
          | (rw [if_neg (by omega), if_neg (by omega), if_pos (by omega)] at h; exact h)
          | (rw [if_neg (by omega), if_neg (by omega), if_neg (by omega)] at h; exact h)
      · skip
        refine V_iload_n (pc := 23) dX4_findingAt_23 rfl rfl ?_
        refine V_aload_n (pc := 24) dX4_findingAt_24 rfl rfl ?_
        refine V_geti (pc := 25) dX4_findingAt_25 fX4_29 rfl gg_11 rfl (fun r25 => ?_)
        refine V_icmp_ge (tgt := 35) (pc := 28) dX4_findingAt_28 (by decide) (by first | assumption | decide | omega | exact ba_rg hR | exact b2_rg) (by first | assumption | decide | omega | exact ba_rg hR | exact b2_rg) (fun h28 => ?_) (fun h28 => ?_)
        · skip
          refine V_iconst (pc := 35) dX4_findingAt_35 ?_
          refine V_ireturn (pc := 36) dX4_findingAt_36 rfl rfl (fun hR => ?_)
          first
            | (rw [if_pos (by omega)] at h; exact h)
            | (rw [if_neg (by omega), if_pos (by omega)] at h; exact h)
            | (rw [if_neg (by omega), if_neg (by omega), if_pos (by omega)] at h; exact h)
            | (rw [if_neg (by omega), if_neg (by omega), if_neg (by omega)] at h; exact h)
        · skip
          refine V_iconst (pc := 31) dX4_findingAt_31 ?_
          refine V_goto (tgt := 36) (pc := 32) dX4_findingAt_32 (by decide) ?_
          refine V_ireturn (pc := 36) dX4_findingAt_36 rfl rfl (fun hR => ?_)
          first
            | (rw [if_pos (by omega)] at h; exact h)
            | (rw [if_neg (by omega), if_pos (by omega)] at h; exact h)
            | (rw [if_neg (by omega), if_neg (by omega), if_pos (by omega)] at h; exact h)
            | (rw [if_neg (by omega), if_neg (by omega), if_neg (by omega)] at h; exact h)
    · skip
      refine V_iconst (pc := 17) dX4_findingAt_17 ?_
      refine V_ireturn (pc := 18) dX4_findingAt_18 rfl rfl (fun hR => ?_)
      first
        | (rw [if_pos (by omega)] at h; exact h)
        | (rw [if_neg (by omega), if_pos (by omega)] at h; exact h)
        | (rw [if_neg (by omega), if_neg (by omega), if_pos (by omega)] at h; exact h)
        | (rw [if_neg (by omega), if_neg (by omega), if_neg (by omega)] at h; exact h)
  · skip
    refine V_iconst (pc := 7) dX4_findingAt_7 ?_
    refine V_ireturn (pc := 8) dX4_findingAt_8 rfl rfl (fun hR => ?_)
    first
      | (rw [if_pos (by omega)] at h; exact h)
      | (rw [if_neg (by omega), if_pos (by omega)] at h; exact h)
      | (rw [if_neg (by omega), if_neg (by omega), if_pos (by omega)] at h; exact h)
      | (rw [if_neg (by omega), if_neg (by omega), if_neg (by omega)] at h; exact h)
theorem ct_X4_hasRange_11 {f i z : Int} (hf : Rg_ f) (hi : Rg_ i) (hz : σ 11 3 = z) (hz2 : 0 ≤ z ∧ z ≤ 60) (h : post (some (vi_ (b2_ (0 ≤ f ∧ 0 ≤ i ∧ f ≤ z ∧ i ≤ z - f)))) σ) : V_ l D mX4_hasRange (CM_ D mX4_hasRange post) 0 [some (vr_ 11), some (vi_ f), some (vi_ i)] [] σ := by
  refine V_iload_n (pc := 0) dX4_hasRange_0 rfl rfl ?_
  refine V_if_lt (tgt := 30) (pc := 1) dX4_hasRange_1 (by decide) (by first | assumption | decide | omega | exact ba_rg hR | exact b2_rg) (fun h1 => ?_) (fun h1 => ?_)
  · skip
    refine V_iconst (pc := 30) dX4_hasRange_30 ?_
    refine V_ireturn (pc := 31) dX4_hasRange_31 rfl rfl (fun hR => ?_)
    first | (rw [b2_t (by omega)] at h; exact h) | (rw [b2_f (by omega)] at h; exact h)
  · skip
    refine V_iload_n (pc := 4) dX4_hasRange_4 rfl rfl ?_
    refine V_if_lt (tgt := 30) (pc := 5) dX4_hasRange_5 (by decide) (by first | assumption | decide | omega | exact ba_rg hR | exact b2_rg) (fun h5 => ?_) (fun h5 => ?_)
    · skip
      refine V_iconst (pc := 30) dX4_hasRange_30 ?_
      refine V_ireturn (pc := 31) dX4_hasRange_31 rfl rfl (fun hR => ?_)
      first | (rw [b2_t (by omega)] at h; exact h) | (rw [b2_f (by omega)] at h; exact h)
    · skip
      refine V_iload_n (pc := 8) dX4_hasRange_8 rfl rfl ?_
      refine V_aload_n (pc := 9) dX4_hasRange_9 rfl rfl ?_
      refine V_geti (pc := 10) dX4_hasRange_10 fX4_29 rfl gg_11 rfl (fun r10 => ?_)
      rw [hz] at r10 ⊢
      refine V_icmp_gt (tgt := 30) (pc := 13) dX4_hasRange_13 (by decide) (by first | assumption | decide | omega | exact ba_rg hR | exact b2_rg) (by first | assumption | decide | omega | exact ba_rg hR | exact b2_rg) (fun h13 => ?_) (fun h13 => ?_)
      · skip
        refine V_iconst (pc := 30) dX4_hasRange_30 ?_
        refine V_ireturn (pc := 31) dX4_hasRange_31 rfl rfl (fun hR => ?_)
        first | (rw [b2_t (by omega)] at h; exact h) | (rw [b2_f (by omega)] at h; exact h)
      · skip
        refine V_iload_n (pc := 16) dX4_hasRange_16 rfl rfl ?_
        refine V_aload_n (pc := 17) dX4_hasRange_17 rfl rfl ?_
        refine V_geti (pc := 18) dX4_hasRange_18 fX4_29 rfl gg_11 rfl (fun r18 => ?_)
        rw [hz] at r18 ⊢
        refine V_iload_n (pc := 21) dX4_hasRange_21 rfl rfl ?_
        refine V_isub (pc := 22) dX4_hasRange_22 ?_
        refine V_icmp_gt (tgt := 30) (pc := 23) dX4_hasRange_23 (by decide) (by first | assumption | decide | omega | exact ba_rg hR | exact b2_rg) (by constructor <;> omega) (fun h23 => ?_) (fun h23 => ?_)
        · skip
          refine V_iconst (pc := 30) dX4_hasRange_30 ?_
          refine V_ireturn (pc := 31) dX4_hasRange_31 rfl rfl (fun hR => ?_)
          first | (rw [b2_t (by omega)] at h; exact h) | (rw [b2_f (by omega)] at h; exact h)
        · skip
          refine V_iconst (pc := 26) dX4_hasRange_26 ?_
          refine V_goto (tgt := 31) (pc := 27) dX4_hasRange_27 (by decide) ?_
          refine V_ireturn (pc := 31) dX4_hasRange_31 rfl rfl (fun hR => ?_)
          first | (rw [b2_t (by omega)] at h; exact h) | (rw [b2_f (by omega)] at h; exact h)
theorem ct_X4_narrowed_11 {f x : Int} (hf : σ 11 2 = f) (hf2 : 0 ≤ f ∧ f ≤ 2) (hx : Rg_ x) (h : post (some (vi_ (cu_ f x))) σ) : V_ l D mX4_narrowed (CM_ D mX4_narrowed post) 0 [some (vr_ 11), some (vi_ x)] [] σ := by
  by_cases c0 : f = 0
  · subst c0
    refine V_aload_n (pc := 0) dX4_narrowed_0 rfl rfl ?_
    refine V_geti (pc := 1) dX4_narrowed_1 fX4_25 rfl gg_11 rfl (fun r1 => ?_)
    rw [hf] at r1 ⊢
    refine V_lookup (tgt := 32) (off := 28) (pc := 4) dX4_narrowed_4 (by decide) (by decide) (by decide) (by decide) ?_
    refine V_iload_n (pc := 32) dX4_narrowed_32 rfl rfl ?_
    refine V_i2b (pc := 33) dX4_narrowed_33 ?_
    refine V_ireturn (pc := 34) dX4_narrowed_34 rfl rfl (fun hR => ?_)
    exact h
  by_cases c1 : f = 1
  · subst c1
    refine V_aload_n (pc := 0) dX4_narrowed_0 rfl rfl ?_
    refine V_geti (pc := 1) dX4_narrowed_1 fX4_25 rfl gg_11 rfl (fun r1 => ?_)
    rw [hf] at r1 ⊢
    refine V_lookup (tgt := 35) (off := 31) (pc := 4) dX4_narrowed_4 (by decide) (by decide) (by decide) (by decide) ?_
    refine V_iload_n (pc := 35) dX4_narrowed_35 rfl rfl ?_
    refine V_i2s (pc := 36) dX4_narrowed_36 ?_
    refine V_ireturn (pc := 37) dX4_narrowed_37 rfl rfl (fun hR => ?_)
    exact h
  by_cases c2 : f = 2
  · subst c2
    refine V_aload_n (pc := 0) dX4_narrowed_0 rfl rfl ?_
    refine V_geti (pc := 1) dX4_narrowed_1 fX4_25 rfl gg_11 rfl (fun r1 => ?_)
    rw [hf] at r1 ⊢
    refine V_lookup (tgt := 38) (off := 34) (pc := 4) dX4_narrowed_4 (by decide) (by decide) (by decide) (by decide) ?_
    refine V_iload_n (pc := 38) dX4_narrowed_38 rfl rfl ?_
    refine V_ireturn (pc := 39) dX4_narrowed_39 rfl rfl (fun hR => ?_)
    exact h
  exact absurd hf2 (by omega)
theorem ct_X4_put_11 {f z : Int} {i : Nat} {x : Int} (hf : σ 11 2 = f) (hf2 : 0 ≤ f ∧ f ≤ 2) (hz : σ 11 3 = z) (hz2 : 0 ≤ z ∧ z ≤ 60) (hi : (i : Int) < z) (hx : Rg_ x) (h : post none (ms_ σ 12 i (cu_ f x))) : V_ l D mX4_put (CM_ D mX4_put post) 0 [some (vr_ 11), some (vi_ (i : Int)), some (vi_ x)] [] σ := by
  refine V_iload_n (pc := 0) dX4_put_0 rfl rfl ?_
  refine V_if_lt (tgt := 23) (pc := 1) dX4_put_1 (by decide) (by first | assumption | decide | omega | exact ba_rg hR | exact b2_rg) (fun h1 => by omega) (fun h1 => ?_)
  refine V_iload_n (pc := 4) dX4_put_4 rfl rfl ?_
  refine V_aload_n (pc := 5) dX4_put_5 rfl rfl ?_
  refine V_geti (pc := 6) dX4_put_6 fX4_29 rfl gg_11 rfl (fun r6 => ?_)
  rw [hz] at r6 ⊢
  refine V_icmp_ge (tgt := 23) (pc := 9) dX4_put_9 (by decide) (by first | assumption | decide | omega | exact ba_rg hR | exact b2_rg) (by first | assumption | decide | omega | exact ba_rg hR | exact b2_rg) (fun h9 => by omega) (fun h9 => ?_)
  refine V_aload_n (pc := 12) dX4_put_12 rfl rfl ?_
  refine V_getr (pc := 13) dX4_put_13 fX4_9 rfl gg_11 rfl ?_
  refine V_iload_n (pc := 16) dX4_put_16 rfl rfl ?_
  refine V_aload_n (pc := 17) dX4_put_17 rfl rfl ?_
  refine V_iload_n (pc := 18) dX4_put_18 rfl rfl ?_
  refine V_callV (pc := 19) (as := [_]) (rest := [_, _]) dX4_put_19 ⟨kX4_32, iX4_narrowed, by decide, by decide⟩ rc_11 rfl rfl (Nat.le_of_ble_eq_true rfl) (Nat.le_of_ble_eq_true rfl) ?_
  refine ct_X4_narrowed_11 hf hf2 hx ?_
  show V_ _ _ _ _ _ _ [_, _, _] _
  refine V_iastN (pc := 22) dX4_put_22 gg_12 (by omega) (by decide) (cu_rg hx) ?_
  refine V_return (pc := 23) dX4_put_23 rfl (fun hR => ?_)
  exact h
theorem ct_X4_renew_13 {f z : Int} (hf : Rg_ f) (hz : Rg_ z) (h : post none (ms_ (ms_ (ms_ (wr_ σ 14 (fun _ => 0) 60) 13 1 0) 13 2 f) 13 3 z)) : V_ l D mX4_renew (CM_ D mX4_renew post) 0 [some (vr_ 13), some (vi_ f), some (vi_ z)] [] σ := by
  refine V_aload_n (pc := 0) dX4_renew_0 rfl rfl ?_
  refine V_getr (pc := 1) dX4_renew_1 fX4_9 rfl gg_13 rfl ?_
  refine V_iconst (pc := 4) dX4_renew_4 ?_
  refine V_callS (pc := 5) (as := [_, _]) (rest := []) dX4_renew_5 ⟨kX4_19, sJ7_fill_53178, by decide, by decide⟩ rfl rfl (Nat.le_of_ble_eq_true rfl) (Nat.le_of_ble_eq_true rfl) ?_
  refine ct_J7_fill_53178_14 (by decide) ?_
  show V_ _ _ _ _ _ _ [] _
  refine V_aload_n (pc := 8) dX4_renew_8 rfl rfl ?_
  refine V_iconst (pc := 9) dX4_renew_9 ?_
  refine V_puti (pc := 10) dX4_renew_10 fX4_15 rfl gg_13 rfl pq_4_1 rfl rfl (by first | assumption | decide | omega | exact ba_rg hR | exact b2_rg) ?_
  refine V_aload_n (pc := 13) dX4_renew_13 rfl rfl ?_
  refine V_iload_n (pc := 14) dX4_renew_14 rfl rfl ?_
  refine V_puti (pc := 15) dX4_renew_15 fX4_25 rfl gg_13 rfl pq_4_2 rfl rfl (by first | assumption | decide | omega | exact ba_rg hR | exact b2_rg) ?_
  refine V_aload_n (pc := 18) dX4_renew_18 rfl rfl ?_
  refine V_iload_n (pc := 19) dX4_renew_19 rfl rfl ?_
  refine V_puti (pc := 20) dX4_renew_20 fX4_29 rfl gg_13 rfl pq_4_3 rfl rfl (by first | assumption | decide | omega | exact ba_rg hR | exact b2_rg) ?_
  refine V_return (pc := 23) dX4_renew_23 rfl (fun hR => ?_)
  exact h
theorem ct_X4_findingAt_13 {f i : Int} (hf : Rg_ f) (hi : Rg_ i) (h : post (some (vi_ (if σ 13 1 ≠ 0 then 1 else if σ 13 2 ≠ f then 3 else if 0 ≤ i ∧ i < σ 13 3 then 0 else 2))) σ) : V_ l D mX4_findingAt (CM_ D mX4_findingAt post) 0 [some (vr_ 13), some (vi_ f), some (vi_ i)] [] σ := by
  refine V_aload_n (pc := 0) dX4_findingAt_0 rfl rfl ?_
  refine V_geti (pc := 1) dX4_findingAt_1 fX4_15 rfl gg_13 rfl (fun r1 => ?_)
  refine V_if_eq (tgt := 9) (pc := 4) dX4_findingAt_4 (by decide) (by first | assumption | decide | omega | exact ba_rg hR | exact b2_rg) (fun h4 => ?_) (fun h4 => ?_)
  · skip
    refine V_aload_n (pc := 9) dX4_findingAt_9 rfl rfl ?_
    refine V_geti (pc := 10) dX4_findingAt_10 fX4_25 rfl gg_13 rfl (fun r10 => ?_)
    refine V_iload_n (pc := 13) dX4_findingAt_13 rfl rfl ?_
    refine V_icmp_eq (tgt := 19) (pc := 14) dX4_findingAt_14 (by decide) (by first | assumption | decide | omega | exact ba_rg hR | exact b2_rg) (by first | assumption | decide | omega | exact ba_rg hR | exact b2_rg) (fun h14 => ?_) (fun h14 => ?_)
    · skip
      refine V_iload_n (pc := 19) dX4_findingAt_19 rfl rfl ?_
      refine V_if_lt (tgt := 35) (pc := 20) dX4_findingAt_20 (by decide) (by first | assumption | decide | omega | exact ba_rg hR | exact b2_rg) (fun h20 => ?_) (fun h20 => ?_)
      · skip
        refine V_iconst (pc := 35) dX4_findingAt_35 ?_
        refine V_ireturn (pc := 36) dX4_findingAt_36 rfl rfl (fun hR => ?_)
        first
          | (rw [if_pos (by omega)] at h; exact h)
          | (rw [if_neg (by omega), if_pos (by omega)] at h; exact h)
          | (rw [if_neg (by omega), if_neg (by omega), if_pos (by omega)] at h; exact h)
          | (rw [if_neg (by omega), if_neg (by omega), if_neg (by omega)] at h; exact h)
      · skip
        refine V_iload_n (pc := 23) dX4_findingAt_23 rfl rfl ?_
        refine V_aload_n (pc := 24) dX4_findingAt_24 rfl rfl ?_
        refine V_geti (pc := 25) dX4_findingAt_25 fX4_29 rfl gg_13 rfl (fun r25 => ?_)
        refine V_icmp_ge (tgt := 35) (pc := 28) dX4_findingAt_28 (by decide) (by first | assumption | decide | omega | exact ba_rg hR | exact b2_rg) (by first | assumption | decide | omega | exact ba_rg hR | exact b2_rg) (fun h28 => ?_) (fun h28 => ?_)
        · skip
          refine V_iconst (pc := 35) dX4_findingAt_35 ?_
          refine V_ireturn (pc := 36) dX4_findingAt_36 rfl rfl (fun hR => ?_)
          first
            | (rw [if_pos (by omega)] at h; exact h)
            | (rw [if_neg (by omega), if_pos (by omega)] at h; exact h)
            | (rw [if_neg (by omega), if_neg (by omega), if_pos (by omega)] at h; exact h)
            | (rw [if_neg (by omega), if_neg (by omega), if_neg (by omega)] at h; exact h)
        · skip
          refine V_iconst (pc := 31) dX4_findingAt_31 ?_
          refine V_goto (tgt := 36) (pc := 32) dX4_findingAt_32 (by decide) ?_
          refine V_ireturn (pc := 36) dX4_findingAt_36 rfl rfl (fun hR => ?_)
          first
            | (rw [if_pos (by omega)] at h; exact h)
            | (rw [if_neg (by omega), if_pos (by omega)] at h; exact h)
            | (rw [if_neg (by omega), if_neg (by omega), if_pos (by omega)] at h; exact h)
            | (rw [if_neg (by omega), if_neg (by omega), if_neg (by omega)] at h; exact h)
    · skip
      refine V_iconst (pc := 17) dX4_findingAt_17 ?_
      refine V_ireturn (pc := 18) dX4_findingAt_18 rfl rfl (fun hR => ?_)
      first
        | (rw [if_pos (by omega)] at h; exact h)
        | (rw [if_neg (by omega), if_pos (by omega)] at h; exact h)
        | (rw [if_neg (by omega), if_neg (by omega), if_pos (by omega)] at h; exact h)
        | (rw [if_neg (by omega), if_neg (by omega), if_neg (by omega)] at h; exact h)
  · skip
    refine V_iconst (pc := 7) dX4_findingAt_7 ?_
    refine V_ireturn (pc := 8) dX4_findingAt_8 rfl rfl (fun hR => ?_)
    first
      | (rw [if_pos (by omega)] at h; exact h)
      | (rw [if_neg (by omega), if_pos (by omega)] at h; exact h)
      | (rw [if_neg (by omega), if_neg (by omega), if_pos (by omega)] at h; exact h)
      | (rw [if_neg (by omega), if_neg (by omega), if_neg (by omega)] at h; exact h)
theorem ct_X4_hasRange_13 {f i z : Int} (hf : Rg_ f) (hi : Rg_ i) (hz : σ 13 3 = z) (hz2 : 0 ≤ z ∧ z ≤ 60) (h : post (some (vi_ (b2_ (0 ≤ f ∧ 0 ≤ i ∧ f ≤ z ∧ i ≤ z - f)))) σ) : V_ l D mX4_hasRange (CM_ D mX4_hasRange post) 0 [some (vr_ 13), some (vi_ f), some (vi_ i)] [] σ := by
  refine V_iload_n (pc := 0) dX4_hasRange_0 rfl rfl ?_
  refine V_if_lt (tgt := 30) (pc := 1) dX4_hasRange_1 (by decide) (by first | assumption | decide | omega | exact ba_rg hR | exact b2_rg) (fun h1 => ?_) (fun h1 => ?_)
  · skip
    refine V_iconst (pc := 30) dX4_hasRange_30 ?_
    refine V_ireturn (pc := 31) dX4_hasRange_31 rfl rfl (fun hR => ?_)
    first | (rw [b2_t (by omega)] at h; exact h) | (rw [b2_f (by omega)] at h; exact h)
  · skip
    refine V_iload_n (pc := 4) dX4_hasRange_4 rfl rfl ?_
    refine V_if_lt (tgt := 30) (pc := 5) dX4_hasRange_5 (by decide) (by first | assumption | decide | omega | exact ba_rg hR | exact b2_rg) (fun h5 => ?_) (fun h5 => ?_)
    · skip
      refine V_iconst (pc := 30) dX4_hasRange_30 ?_
      refine V_ireturn (pc := 31) dX4_hasRange_31 rfl rfl (fun hR => ?_)
      first | (rw [b2_t (by omega)] at h; exact h) | (rw [b2_f (by omega)] at h; exact h)
    · skip
      refine V_iload_n (pc := 8) dX4_hasRange_8 rfl rfl ?_
      refine V_aload_n (pc := 9) dX4_hasRange_9 rfl rfl ?_
      refine V_geti (pc := 10) dX4_hasRange_10 fX4_29 rfl gg_13 rfl (fun r10 => ?_)
      rw [hz] at r10 ⊢
      refine V_icmp_gt (tgt := 30) (pc := 13) dX4_hasRange_13 (by decide) (by first | assumption | decide | omega | exact ba_rg hR | exact b2_rg) (by first | assumption | decide | omega | exact ba_rg hR | exact b2_rg) (fun h13 => ?_) (fun h13 => ?_)
      · skip
        refine V_iconst (pc := 30) dX4_hasRange_30 ?_
        refine V_ireturn (pc := 31) dX4_hasRange_31 rfl rfl (fun hR => ?_)
        first | (rw [b2_t (by omega)] at h; exact h) | (rw [b2_f (by omega)] at h; exact h)
      · skip
        refine V_iload_n (pc := 16) dX4_hasRange_16 rfl rfl ?_
        refine V_aload_n (pc := 17) dX4_hasRange_17 rfl rfl ?_
        refine V_geti (pc := 18) dX4_hasRange_18 fX4_29 rfl gg_13 rfl (fun r18 => ?_)
        rw [hz] at r18 ⊢
        refine V_iload_n (pc := 21) dX4_hasRange_21 rfl rfl ?_
        refine V_isub (pc := 22) dX4_hasRange_22 ?_
        refine V_icmp_gt (tgt := 30) (pc := 23) dX4_hasRange_23 (by decide) (by first | assumption | decide | omega | exact ba_rg hR | exact b2_rg) (by constructor <;> omega) (fun h23 => ?_) (fun h23 => ?_)
        · skip
          refine V_iconst (pc := 30) dX4_hasRange_30 ?_
          refine V_ireturn (pc := 31) dX4_hasRange_31 rfl rfl (fun hR => ?_)
          first | (rw [b2_t (by omega)] at h; exact h) | (rw [b2_f (by omega)] at h; exact h)
        · skip
          refine V_iconst (pc := 26) dX4_hasRange_26 ?_
          refine V_goto (tgt := 31) (pc := 27) dX4_hasRange_27 (by decide) ?_
          refine V_ireturn (pc := 31) dX4_hasRange_31 rfl rfl (fun hR => ?_)
          first | (rw [b2_t (by omega)] at h; exact h) | (rw [b2_f (by omega)] at h; exact h)
theorem ct_X4_narrowed_13 {f x : Int} (hf : σ 13 2 = f) (hf2 : 0 ≤ f ∧ f ≤ 2) (hx : Rg_ x) (h : post (some (vi_ (cu_ f x))) σ) : V_ l D mX4_narrowed (CM_ D mX4_narrowed post) 0 [some (vr_ 13), some (vi_ x)] [] σ := by
  by_cases c0 : f = 0
  · subst c0
    refine V_aload_n (pc := 0) dX4_narrowed_0 rfl rfl ?_
    refine V_geti (pc := 1) dX4_narrowed_1 fX4_25 rfl gg_13 rfl (fun r1 => ?_)
    rw [hf] at r1 ⊢
    refine V_lookup (tgt := 32) (off := 28) (pc := 4) dX4_narrowed_4 (by decide) (by decide) (by decide) (by decide) ?_
    refine V_iload_n (pc := 32) dX4_narrowed_32 rfl rfl ?_
    refine V_i2b (pc := 33) dX4_narrowed_33 ?_
    refine V_ireturn (pc := 34) dX4_narrowed_34 rfl rfl (fun hR => ?_)
    exact h
  by_cases c1 : f = 1
  · subst c1
    refine V_aload_n (pc := 0) dX4_narrowed_0 rfl rfl ?_
    refine V_geti (pc := 1) dX4_narrowed_1 fX4_25 rfl gg_13 rfl (fun r1 => ?_)
    rw [hf] at r1 ⊢
    refine V_lookup (tgt := 35) (off := 31) (pc := 4) dX4_narrowed_4 (by decide) (by decide) (by decide) (by decide) ?_
    refine V_iload_n (pc := 35) dX4_narrowed_35 rfl rfl ?_
    refine V_i2s (pc := 36) dX4_narrowed_36 ?_
    refine V_ireturn (pc := 37) dX4_narrowed_37 rfl rfl (fun hR => ?_)
    exact h
  by_cases c2 : f = 2
  · subst c2
    refine V_aload_n (pc := 0) dX4_narrowed_0 rfl rfl ?_
    refine V_geti (pc := 1) dX4_narrowed_1 fX4_25 rfl gg_13 rfl (fun r1 => ?_)
    rw [hf] at r1 ⊢
    refine V_lookup (tgt := 38) (off := 34) (pc := 4) dX4_narrowed_4 (by decide) (by decide) (by decide) (by decide) ?_
    refine V_iload_n (pc := 38) dX4_narrowed_38 rfl rfl ?_
    refine V_ireturn (pc := 39) dX4_narrowed_39 rfl rfl (fun hR => ?_)
    exact h
  exact absurd hf2 (by omega)
theorem ct_X4_put_13 {f z : Int} {i : Nat} {x : Int} (hf : σ 13 2 = f) (hf2 : 0 ≤ f ∧ f ≤ 2) (hz : σ 13 3 = z) (hz2 : 0 ≤ z ∧ z ≤ 60) (hi : (i : Int) < z) (hx : Rg_ x) (h : post none (ms_ σ 14 i (cu_ f x))) : V_ l D mX4_put (CM_ D mX4_put post) 0 [some (vr_ 13), some (vi_ (i : Int)), some (vi_ x)] [] σ := by
  refine V_iload_n (pc := 0) dX4_put_0 rfl rfl ?_
  refine V_if_lt (tgt := 23) (pc := 1) dX4_put_1 (by decide) (by first | assumption | decide | omega | exact ba_rg hR | exact b2_rg) (fun h1 => by omega) (fun h1 => ?_)
  refine V_iload_n (pc := 4) dX4_put_4 rfl rfl ?_
  refine V_aload_n (pc := 5) dX4_put_5 rfl rfl ?_
  refine V_geti (pc := 6) dX4_put_6 fX4_29 rfl gg_13 rfl (fun r6 => ?_)
  rw [hz] at r6 ⊢
  refine V_icmp_ge (tgt := 23) (pc := 9) dX4_put_9 (by decide) (by first | assumption | decide | omega | exact ba_rg hR | exact b2_rg) (by first | assumption | decide | omega | exact ba_rg hR | exact b2_rg) (fun h9 => by omega) (fun h9 => ?_)
  refine V_aload_n (pc := 12) dX4_put_12 rfl rfl ?_
  refine V_getr (pc := 13) dX4_put_13 fX4_9 rfl gg_13 rfl ?_
  refine V_iload_n (pc := 16) dX4_put_16 rfl rfl ?_
  refine V_aload_n (pc := 17) dX4_put_17 rfl rfl ?_
  refine V_iload_n (pc := 18) dX4_put_18 rfl rfl ?_
  refine V_callV (pc := 19) (as := [_]) (rest := [_, _]) dX4_put_19 ⟨kX4_32, iX4_narrowed, by decide, by decide⟩ rc_13 rfl rfl (Nat.le_of_ble_eq_true rfl) (Nat.le_of_ble_eq_true rfl) ?_
  refine ct_X4_narrowed_13 hf hf2 hx ?_
  show V_ _ _ _ _ _ _ [_, _, _] _
  refine V_iastN (pc := 22) dX4_put_22 gg_14 (by omega) (by decide) (cu_rg hx) ?_
  refine V_return (pc := 23) dX4_put_23 rfl (fun hR => ?_)
  exact h
theorem ct_X4_renew_15 {f z : Int} (hf : Rg_ f) (hz : Rg_ z) (h : post none (ms_ (ms_ (ms_ (wr_ σ 16 (fun _ => 0) 60) 15 1 0) 15 2 f) 15 3 z)) : V_ l D mX4_renew (CM_ D mX4_renew post) 0 [some (vr_ 15), some (vi_ f), some (vi_ z)] [] σ := by
  refine V_aload_n (pc := 0) dX4_renew_0 rfl rfl ?_
  refine V_getr (pc := 1) dX4_renew_1 fX4_9 rfl gg_15 rfl ?_
  refine V_iconst (pc := 4) dX4_renew_4 ?_
  refine V_callS (pc := 5) (as := [_, _]) (rest := []) dX4_renew_5 ⟨kX4_19, sJ7_fill_53178, by decide, by decide⟩ rfl rfl (Nat.le_of_ble_eq_true rfl) (Nat.le_of_ble_eq_true rfl) ?_
  refine ct_J7_fill_53178_16 (by decide) ?_
  show V_ _ _ _ _ _ _ [] _
  refine V_aload_n (pc := 8) dX4_renew_8 rfl rfl ?_
  refine V_iconst (pc := 9) dX4_renew_9 ?_
  refine V_puti (pc := 10) dX4_renew_10 fX4_15 rfl gg_15 rfl pq_4_1 rfl rfl (by first | assumption | decide | omega | exact ba_rg hR | exact b2_rg) ?_
  refine V_aload_n (pc := 13) dX4_renew_13 rfl rfl ?_
  refine V_iload_n (pc := 14) dX4_renew_14 rfl rfl ?_
  refine V_puti (pc := 15) dX4_renew_15 fX4_25 rfl gg_15 rfl pq_4_2 rfl rfl (by first | assumption | decide | omega | exact ba_rg hR | exact b2_rg) ?_
  refine V_aload_n (pc := 18) dX4_renew_18 rfl rfl ?_
  refine V_iload_n (pc := 19) dX4_renew_19 rfl rfl ?_
  refine V_puti (pc := 20) dX4_renew_20 fX4_29 rfl gg_15 rfl pq_4_3 rfl rfl (by first | assumption | decide | omega | exact ba_rg hR | exact b2_rg) ?_
  refine V_return (pc := 23) dX4_renew_23 rfl (fun hR => ?_)
  exact h
theorem ct_X4_findingAt_15 {f i : Int} (hf : Rg_ f) (hi : Rg_ i) (h : post (some (vi_ (if σ 15 1 ≠ 0 then 1 else if σ 15 2 ≠ f then 3 else if 0 ≤ i ∧ i < σ 15 3 then 0 else 2))) σ) : V_ l D mX4_findingAt (CM_ D mX4_findingAt post) 0 [some (vr_ 15), some (vi_ f), some (vi_ i)] [] σ := by
  refine V_aload_n (pc := 0) dX4_findingAt_0 rfl rfl ?_
  refine V_geti (pc := 1) dX4_findingAt_1 fX4_15 rfl gg_15 rfl (fun r1 => ?_)
  refine V_if_eq (tgt := 9) (pc := 4) dX4_findingAt_4 (by decide) (by first | assumption | decide | omega | exact ba_rg hR | exact b2_rg) (fun h4 => ?_) (fun h4 => ?_)
  · skip
    refine V_aload_n (pc := 9) dX4_findingAt_9 rfl rfl ?_
    refine V_geti (pc := 10) dX4_findingAt_10 fX4_25 rfl gg_15 rfl (fun r10 => ?_)
    refine V_iload_n (pc := 13) dX4_findingAt_13 rfl rfl ?_
    refine V_icmp_eq (tgt := 19) (pc := 14) dX4_findingAt_14 (by decide) (by first | assumption | decide | omega | exact ba_rg hR | exact b2_rg) (by first | assumption | decide | omega | exact ba_rg hR | exact b2_rg) (fun h14 => ?_) (fun h14 => ?_)
    · skip
      refine V_iload_n (pc := 19) dX4_findingAt_19 rfl rfl ?_
      refine V_if_lt (tgt := 35) (pc := 20) dX4_findingAt_20 (by decide) (by first | assumption | decide | omega | exact ba_rg hR | exact b2_rg) (fun h20 => ?_) (fun h20 => ?_)
      · skip
        refine V_iconst (pc := 35) dX4_findingAt_35 ?_
        refine V_ireturn (pc := 36) dX4_findingAt_36 rfl rfl (fun hR => ?_)
        first
          | (rw [if_pos (by omega)] at h; exact h)
          | (rw [if_neg (by omega), if_pos (by omega)] at h; exact h)
          | (rw [if_neg (by omega), if_neg (by omega), if_pos (by omega)] at h; exact h)
          | (rw [if_neg (by omega), if_neg (by omega), if_neg (by omega)] at h; exact h)
      · skip
        refine V_iload_n (pc := 23) dX4_findingAt_23 rfl rfl ?_
        refine V_aload_n (pc := 24) dX4_findingAt_24 rfl rfl ?_
        refine V_geti (pc := 25) dX4_findingAt_25 fX4_29 rfl gg_15 rfl (fun r25 => ?_)
        refine V_icmp_ge (tgt := 35) (pc := 28) dX4_findingAt_28 (by decide) (by first | assumption | decide | omega | exact ba_rg hR | exact b2_rg) (by first | assumption | decide | omega | exact ba_rg hR | exact b2_rg) (fun h28 => ?_) (fun h28 => ?_)
        · skip
          refine V_iconst (pc := 35) dX4_findingAt_35 ?_
          refine V_ireturn (pc := 36) dX4_findingAt_36 rfl rfl (fun hR => ?_)
          first
            | (rw [if_pos (by omega)] at h; exact h)
            | (rw [if_neg (by omega), if_pos (by omega)] at h; exact h)
            | (rw [if_neg (by omega), if_neg (by omega), if_pos (by omega)] at h; exact h)
            | (rw [if_neg (by omega), if_neg (by omega), if_neg (by omega)] at h; exact h)
        · skip
          refine V_iconst (pc := 31) dX4_findingAt_31 ?_
          refine V_goto (tgt := 36) (pc := 32) dX4_findingAt_32 (by decide) ?_
          refine V_ireturn (pc := 36) dX4_findingAt_36 rfl rfl (fun hR => ?_)
          first
            | (rw [if_pos (by omega)] at h; exact h)
            | (rw [if_neg (by omega), if_pos (by omega)] at h; exact h)
            | (rw [if_neg (by omega), if_neg (by omega), if_pos (by omega)] at h; exact h)
            | (rw [if_neg (by omega), if_neg (by omega), if_neg (by omega)] at h; exact h)
    · skip
      refine V_iconst (pc := 17) dX4_findingAt_17 ?_
      refine V_ireturn (pc := 18) dX4_findingAt_18 rfl rfl (fun hR => ?_)
      first
        | (rw [if_pos (by omega)] at h; exact h)
        | (rw [if_neg (by omega), if_pos (by omega)] at h; exact h)
        | (rw [if_neg (by omega), if_neg (by omega), if_pos (by omega)] at h; exact h)
        | (rw [if_neg (by omega), if_neg (by omega), if_neg (by omega)] at h; exact h)
  · skip
    refine V_iconst (pc := 7) dX4_findingAt_7 ?_
    refine V_ireturn (pc := 8) dX4_findingAt_8 rfl rfl (fun hR => ?_)
    first
      | (rw [if_pos (by omega)] at h; exact h)
      | (rw [if_neg (by omega), if_pos (by omega)] at h; exact h)
      | (rw [if_neg (by omega), if_neg (by omega), if_pos (by omega)] at h; exact h)
      | (rw [if_neg (by omega), if_neg (by omega), if_neg (by omega)] at h; exact h)
theorem ct_X4_hasRange_15 {f i z : Int} (hf : Rg_ f) (hi : Rg_ i) (hz : σ 15 3 = z) (hz2 : 0 ≤ z ∧ z ≤ 60) (h : post (some (vi_ (b2_ (0 ≤ f ∧ 0 ≤ i ∧ f ≤ z ∧ i ≤ z - f)))) σ) : V_ l D mX4_hasRange (CM_ D mX4_hasRange post) 0 [some (vr_ 15), some (vi_ f), some (vi_ i)] [] σ := by
  refine V_iload_n (pc := 0) dX4_hasRange_0 rfl rfl ?_
  refine V_if_lt (tgt := 30) (pc := 1) dX4_hasRange_1 (by decide) (by first | assumption | decide | omega | exact ba_rg hR | exact b2_rg) (fun h1 => ?_) (fun h1 => ?_)
  · skip
    refine V_iconst (pc := 30) dX4_hasRange_30 ?_
    refine V_ireturn (pc := 31) dX4_hasRange_31 rfl rfl (fun hR => ?_)
    first | (rw [b2_t (by omega)] at h; exact h) | (rw [b2_f (by omega)] at h; exact h)
  · skip
    refine V_iload_n (pc := 4) dX4_hasRange_4 rfl rfl ?_
    refine V_if_lt (tgt := 30) (pc := 5) dX4_hasRange_5 (by decide) (by first | assumption | decide | omega | exact ba_rg hR | exact b2_rg) (fun h5 => ?_) (fun h5 => ?_)
    · skip
      refine V_iconst (pc := 30) dX4_hasRange_30 ?_
      refine V_ireturn (pc := 31) dX4_hasRange_31 rfl rfl (fun hR => ?_)
      first | (rw [b2_t (by omega)] at h; exact h) | (rw [b2_f (by omega)] at h; exact h)
    · skip
      refine V_iload_n (pc := 8) dX4_hasRange_8 rfl rfl ?_
      refine V_aload_n (pc := 9) dX4_hasRange_9 rfl rfl ?_
      refine V_geti (pc := 10) dX4_hasRange_10 fX4_29 rfl gg_15 rfl (fun r10 => ?_)
      rw [hz] at r10 ⊢
      refine V_icmp_gt (tgt := 30) (pc := 13) dX4_hasRange_13 (by decide) (by first | assumption | decide | omega | exact ba_rg hR | exact b2_rg) (by first | assumption | decide | omega | exact ba_rg hR | exact b2_rg) (fun h13 => ?_) (fun h13 => ?_)
      · skip
        refine V_iconst (pc := 30) dX4_hasRange_30 ?_
        refine V_ireturn (pc := 31) dX4_hasRange_31 rfl rfl (fun hR => ?_)
        first | (rw [b2_t (by omega)] at h; exact h) | (rw [b2_f (by omega)] at h; exact h)
      · skip
        refine V_iload_n (pc := 16) dX4_hasRange_16 rfl rfl ?_
        refine V_aload_n (pc := 17) dX4_hasRange_17 rfl rfl ?_
        refine V_geti (pc := 18) dX4_hasRange_18 fX4_29 rfl gg_15 rfl (fun r18 => ?_)
        rw [hz] at r18 ⊢
        refine V_iload_n (pc := 21) dX4_hasRange_21 rfl rfl ?_
        refine V_isub (pc := 22) dX4_hasRange_22 ?_
        refine V_icmp_gt (tgt := 30) (pc := 23) dX4_hasRange_23 (by decide) (by first | assumption | decide | omega | exact ba_rg hR | exact b2_rg) (by constructor <;> omega) (fun h23 => ?_) (fun h23 => ?_)
        · skip
          refine V_iconst (pc := 30) dX4_hasRange_30 ?_
          refine V_ireturn (pc := 31) dX4_hasRange_31 rfl rfl (fun hR => ?_)
          first | (rw [b2_t (by omega)] at h; exact h) | (rw [b2_f (by omega)] at h; exact h)
        · skip
          refine V_iconst (pc := 26) dX4_hasRange_26 ?_
          refine V_goto (tgt := 31) (pc := 27) dX4_hasRange_27 (by decide) ?_
          refine V_ireturn (pc := 31) dX4_hasRange_31 rfl rfl (fun hR => ?_)
          first | (rw [b2_t (by omega)] at h; exact h) | (rw [b2_f (by omega)] at h; exact h)
theorem ct_X4_narrowed_15 {f x : Int} (hf : σ 15 2 = f) (hf2 : 0 ≤ f ∧ f ≤ 2) (hx : Rg_ x) (h : post (some (vi_ (cu_ f x))) σ) : V_ l D mX4_narrowed (CM_ D mX4_narrowed post) 0 [some (vr_ 15), some (vi_ x)] [] σ := by
  by_cases c0 : f = 0
  · subst c0
    refine V_aload_n (pc := 0) dX4_narrowed_0 rfl rfl ?_
    refine V_geti (pc := 1) dX4_narrowed_1 fX4_25 rfl gg_15 rfl (fun r1 => ?_)
    rw [hf] at r1 ⊢
    refine V_lookup (tgt := 32) (off := 28) (pc := 4) dX4_narrowed_4 (by decide) (by decide) (by decide) (by decide) ?_
    refine V_iload_n (pc := 32) dX4_narrowed_32 rfl rfl ?_
    refine V_i2b (pc := 33) dX4_narrowed_33 ?_
    refine V_ireturn (pc := 34) dX4_narrowed_34 rfl rfl (fun hR => ?_)
    exact h
  by_cases c1 : f = 1
  · subst c1
    refine V_aload_n (pc := 0) dX4_narrowed_0 rfl rfl ?_
    refine V_geti (pc := 1) dX4_narrowed_1 fX4_25 rfl gg_15 rfl (fun r1 => ?_)
    rw [hf] at r1 ⊢
    refine V_lookup (tgt := 35) (off := 31) (pc := 4) dX4_narrowed_4 (by decide) (by decide) (by decide) (by decide) ?_
    refine V_iload_n (pc := 35) dX4_narrowed_35 rfl rfl ?_
    refine V_i2s (pc := 36) dX4_narrowed_36 ?_
    refine V_ireturn (pc := 37) dX4_narrowed_37 rfl rfl (fun hR => ?_)
    exact h
  by_cases c2 : f = 2
  · subst c2
    refine V_aload_n (pc := 0) dX4_narrowed_0 rfl rfl ?_
    refine V_geti (pc := 1) dX4_narrowed_1 fX4_25 rfl gg_15 rfl (fun r1 => ?_)
    rw [hf] at r1 ⊢
    refine V_lookup (tgt := 38) (off := 34) (pc := 4) dX4_narrowed_4 (by decide) (by decide) (by decide) (by decide) ?_
    refine V_iload_n (pc := 38) dX4_narrowed_38 rfl rfl ?_
    refine V_ireturn (pc := 39) dX4_narrowed_39 rfl rfl (fun hR => ?_)
    exact h
  exact absurd hf2 (by omega)
theorem ct_X4_put_15 {f z : Int} {i : Nat} {x : Int} (hf : σ 15 2 = f) (hf2 : 0 ≤ f ∧ f ≤ 2) (hz : σ 15 3 = z) (hz2 : 0 ≤ z ∧ z ≤ 60) (hi : (i : Int) < z) (hx : Rg_ x) (h : post none (ms_ σ 16 i (cu_ f x))) : V_ l D mX4_put (CM_ D mX4_put post) 0 [some (vr_ 15), some (vi_ (i : Int)), some (vi_ x)] [] σ := by
  refine V_iload_n (pc := 0) dX4_put_0 rfl rfl ?_
  refine V_if_lt (tgt := 23) (pc := 1) dX4_put_1 (by decide) (by first | assumption | decide | omega | exact ba_rg hR | exact b2_rg) (fun h1 => by omega) (fun h1 => ?_)
  refine V_iload_n (pc := 4) dX4_put_4 rfl rfl ?_
  refine V_aload_n (pc := 5) dX4_put_5 rfl rfl ?_
  refine V_geti (pc := 6) dX4_put_6 fX4_29 rfl gg_15 rfl (fun r6 => ?_)
  rw [hz] at r6 ⊢
  refine V_icmp_ge (tgt := 23) (pc := 9) dX4_put_9 (by decide) (by first | assumption | decide | omega | exact ba_rg hR | exact b2_rg) (by first | assumption | decide | omega | exact ba_rg hR | exact b2_rg) (fun h9 => by omega) (fun h9 => ?_)
  refine V_aload_n (pc := 12) dX4_put_12 rfl rfl ?_
  refine V_getr (pc := 13) dX4_put_13 fX4_9 rfl gg_15 rfl ?_
  refine V_iload_n (pc := 16) dX4_put_16 rfl rfl ?_
  refine V_aload_n (pc := 17) dX4_put_17 rfl rfl ?_
  refine V_iload_n (pc := 18) dX4_put_18 rfl rfl ?_
  refine V_callV (pc := 19) (as := [_]) (rest := [_, _]) dX4_put_19 ⟨kX4_32, iX4_narrowed, by decide, by decide⟩ rc_15 rfl rfl (Nat.le_of_ble_eq_true rfl) (Nat.le_of_ble_eq_true rfl) ?_
  refine ct_X4_narrowed_15 hf hf2 hx ?_
  show V_ _ _ _ _ _ _ [_, _, _] _
  refine V_iastN (pc := 22) dX4_put_22 gg_16 (by omega) (by decide) (cu_rg hx) ?_
  refine V_return (pc := 23) dX4_put_23 rfl (fun hR => ?_)
  exact h
theorem ct_X4_renew_17 {f z : Int} (hf : Rg_ f) (hz : Rg_ z) (h : post none (ms_ (ms_ (ms_ (wr_ σ 18 (fun _ => 0) 60) 17 1 0) 17 2 f) 17 3 z)) : V_ l D mX4_renew (CM_ D mX4_renew post) 0 [some (vr_ 17), some (vi_ f), some (vi_ z)] [] σ := by
  refine V_aload_n (pc := 0) dX4_renew_0 rfl rfl ?_
  refine V_getr (pc := 1) dX4_renew_1 fX4_9 rfl gg_17 rfl ?_
  refine V_iconst (pc := 4) dX4_renew_4 ?_
  refine V_callS (pc := 5) (as := [_, _]) (rest := []) dX4_renew_5 ⟨kX4_19, sJ7_fill_53178, by decide, by decide⟩ rfl rfl (Nat.le_of_ble_eq_true rfl) (Nat.le_of_ble_eq_true rfl) ?_
  refine ct_J7_fill_53178_18 (by decide) ?_
  show V_ _ _ _ _ _ _ [] _
  refine V_aload_n (pc := 8) dX4_renew_8 rfl rfl ?_
  refine V_iconst (pc := 9) dX4_renew_9 ?_
  refine V_puti (pc := 10) dX4_renew_10 fX4_15 rfl gg_17 rfl pq_4_1 rfl rfl (by first | assumption | decide | omega | exact ba_rg hR | exact b2_rg) ?_
  refine V_aload_n (pc := 13) dX4_renew_13 rfl rfl ?_
  refine V_iload_n (pc := 14) dX4_renew_14 rfl rfl ?_
  refine V_puti (pc := 15) dX4_renew_15 fX4_25 rfl gg_17 rfl pq_4_2 rfl rfl (by first | assumption | decide | omega | exact ba_rg hR | exact b2_rg) ?_
  refine V_aload_n (pc := 18) dX4_renew_18 rfl rfl ?_
  refine V_iload_n (pc := 19) dX4_renew_19 rfl rfl ?_
  refine V_puti (pc := 20) dX4_renew_20 fX4_29 rfl gg_17 rfl pq_4_3 rfl rfl (by first | assumption | decide | omega | exact ba_rg hR | exact b2_rg) ?_
  refine V_return (pc := 23) dX4_renew_23 rfl (fun hR => ?_)
  exact h
theorem ct_X4_findingAt_17 {f i : Int} (hf : Rg_ f) (hi : Rg_ i) (h : post (some (vi_ (if σ 17 1 ≠ 0 then 1 else if σ 17 2 ≠ f then 3 else if 0 ≤ i ∧ i < σ 17 3 then 0 else 2))) σ) : V_ l D mX4_findingAt (CM_ D mX4_findingAt post) 0 [some (vr_ 17), some (vi_ f), some (vi_ i)] [] σ := by
  refine V_aload_n (pc := 0) dX4_findingAt_0 rfl rfl ?_
  refine V_geti (pc := 1) dX4_findingAt_1 fX4_15 rfl gg_17 rfl (fun r1 => ?_)
  refine V_if_eq (tgt := 9) (pc := 4) dX4_findingAt_4 (by decide) (by first | assumption | decide | omega | exact ba_rg hR | exact b2_rg) (fun h4 => ?_) (fun h4 => ?_)
  · skip
    refine V_aload_n (pc := 9) dX4_findingAt_9 rfl rfl ?_
    refine V_geti (pc := 10) dX4_findingAt_10 fX4_25 rfl gg_17 rfl (fun r10 => ?_)
    refine V_iload_n (pc := 13) dX4_findingAt_13 rfl rfl ?_
    refine V_icmp_eq (tgt := 19) (pc := 14) dX4_findingAt_14 (by decide) (by first | assumption | decide | omega | exact ba_rg hR | exact b2_rg) (by first | assumption | decide | omega | exact ba_rg hR | exact b2_rg) (fun h14 => ?_) (fun h14 => ?_)
    · skip
      refine V_iload_n (pc := 19) dX4_findingAt_19 rfl rfl ?_
      refine V_if_lt (tgt := 35) (pc := 20) dX4_findingAt_20 (by decide) (by first | assumption | decide | omega | exact ba_rg hR | exact b2_rg) (fun h20 => ?_) (fun h20 => ?_)
      · skip
        refine V_iconst (pc := 35) dX4_findingAt_35 ?_
        refine V_ireturn (pc := 36) dX4_findingAt_36 rfl rfl (fun hR => ?_)
        first
          | (rw [if_pos (by omega)] at h; exact h)
          | (rw [if_neg (by omega), if_pos (by omega)] at h; exact h)
          | (rw [if_neg (by omega), if_neg (by omega), if_pos (by omega)] at h; exact h)
          | (rw [if_neg (by omega), if_neg (by omega), if_neg (by omega)] at h; exact h)
      · skip
        refine V_iload_n (pc := 23) dX4_findingAt_23 rfl rfl ?_
        refine V_aload_n (pc := 24) dX4_findingAt_24 rfl rfl ?_
        refine V_geti (pc := 25) dX4_findingAt_25 fX4_29 rfl gg_17 rfl (fun r25 => ?_)
        refine V_icmp_ge (tgt := 35) (pc := 28) dX4_findingAt_28 (by decide) (by first | assumption | decide | omega | exact ba_rg hR | exact b2_rg) (by first | assumption | decide | omega | exact ba_rg hR | exact b2_rg) (fun h28 => ?_) (fun h28 => ?_)
        · skip
          refine V_iconst (pc := 35) dX4_findingAt_35 ?_
          refine V_ireturn (pc := 36) dX4_findingAt_36 rfl rfl (fun hR => ?_)
          first
            | (rw [if_pos (by omega)] at h; exact h)
            | (rw [if_neg (by omega), if_pos (by omega)] at h; exact h)
            | (rw [if_neg (by omega), if_neg (by omega), if_pos (by omega)] at h; exact h)
            | (rw [if_neg (by omega), if_neg (by omega), if_neg (by omega)] at h; exact h)
        · skip
          refine V_iconst (pc := 31) dX4_findingAt_31 ?_
          refine V_goto (tgt := 36) (pc := 32) dX4_findingAt_32 (by decide) ?_
          refine V_ireturn (pc := 36) dX4_findingAt_36 rfl rfl (fun hR => ?_)
          first
            | (rw [if_pos (by omega)] at h; exact h)
            | (rw [if_neg (by omega), if_pos (by omega)] at h; exact h)
            | (rw [if_neg (by omega), if_neg (by omega), if_pos (by omega)] at h; exact h)
            | (rw [if_neg (by omega), if_neg (by omega), if_neg (by omega)] at h; exact h)
    · skip
      refine V_iconst (pc := 17) dX4_findingAt_17 ?_
      refine V_ireturn (pc := 18) dX4_findingAt_18 rfl rfl (fun hR => ?_)
      first
        | (rw [if_pos (by omega)] at h; exact h)
        | (rw [if_neg (by omega), if_pos (by omega)] at h; exact h)
        | (rw [if_neg (by omega), if_neg (by omega), if_pos (by omega)] at h; exact h)
        | (rw [if_neg (by omega), if_neg (by omega), if_neg (by omega)] at h; exact h)
  · skip
    refine V_iconst (pc := 7) dX4_findingAt_7 ?_
    refine V_ireturn (pc := 8) dX4_findingAt_8 rfl rfl (fun hR => ?_)
    first
      | (rw [if_pos (by omega)] at h; exact h)
      | (rw [if_neg (by omega), if_pos (by omega)] at h; exact h)
      | (rw [if_neg (by omega), if_neg (by omega), if_pos (by omega)] at h; exact h)
      | (rw [if_neg (by omega), if_neg (by omega), if_neg (by omega)] at h; exact h)
theorem ct_X4_hasRange_17 {f i z : Int} (hf : Rg_ f) (hi : Rg_ i) (hz : σ 17 3 = z) (hz2 : 0 ≤ z ∧ z ≤ 60) (h : post (some (vi_ (b2_ (0 ≤ f ∧ 0 ≤ i ∧ f ≤ z ∧ i ≤ z - f)))) σ) : V_ l D mX4_hasRange (CM_ D mX4_hasRange post) 0 [some (vr_ 17), some (vi_ f), some (vi_ i)] [] σ := by
  refine V_iload_n (pc := 0) dX4_hasRange_0 rfl rfl ?_
  refine V_if_lt (tgt := 30) (pc := 1) dX4_hasRange_1 (by decide) (by first | assumption | decide | omega | exact ba_rg hR | exact b2_rg) (fun h1 => ?_) (fun h1 => ?_)
  · skip
    refine V_iconst (pc := 30) dX4_hasRange_30 ?_
    refine V_ireturn (pc := 31) dX4_hasRange_31 rfl rfl (fun hR => ?_)
    first | (rw [b2_t (by omega)] at h; exact h) | (rw [b2_f (by omega)] at h; exact h)
  · skip
    refine V_iload_n (pc := 4) dX4_hasRange_4 rfl rfl ?_
    refine V_if_lt (tgt := 30) (pc := 5) dX4_hasRange_5 (by decide) (by first | assumption | decide | omega | exact ba_rg hR | exact b2_rg) (fun h5 => ?_) (fun h5 => ?_)
    · skip
      refine V_iconst (pc := 30) dX4_hasRange_30 ?_
      refine V_ireturn (pc := 31) dX4_hasRange_31 rfl rfl (fun hR => ?_)
      first | (rw [b2_t (by omega)] at h; exact h) | (rw [b2_f (by omega)] at h; exact h)
    · skip
      refine V_iload_n (pc := 8) dX4_hasRange_8 rfl rfl ?_
      refine V_aload_n (pc := 9) dX4_hasRange_9 rfl rfl ?_
      refine V_geti (pc := 10) dX4_hasRange_10 fX4_29 rfl gg_17 rfl (fun r10 => ?_)
      rw [hz] at r10 ⊢
      refine V_icmp_gt (tgt := 30) (pc := 13) dX4_hasRange_13 (by decide) (by first | assumption | decide | omega | exact ba_rg hR | exact b2_rg) (by first | assumption | decide | omega | exact ba_rg hR | exact b2_rg) (fun h13 => ?_) (fun h13 => ?_)
      · skip
        refine V_iconst (pc := 30) dX4_hasRange_30 ?_
        refine V_ireturn (pc := 31) dX4_hasRange_31 rfl rfl (fun hR => ?_)
        first | (rw [b2_t (by omega)] at h; exact h) | (rw [b2_f (by omega)] at h; exact h)
      · skip
        refine V_iload_n (pc := 16) dX4_hasRange_16 rfl rfl ?_
        refine V_aload_n (pc := 17) dX4_hasRange_17 rfl rfl ?_
        refine V_geti (pc := 18) dX4_hasRange_18 fX4_29 rfl gg_17 rfl (fun r18 => ?_)
        rw [hz] at r18 ⊢
        refine V_iload_n (pc := 21) dX4_hasRange_21 rfl rfl ?_
        refine V_isub (pc := 22) dX4_hasRange_22 ?_
        refine V_icmp_gt (tgt := 30) (pc := 23) dX4_hasRange_23 (by decide) (by first | assumption | decide | omega | exact ba_rg hR | exact b2_rg) (by constructor <;> omega) (fun h23 => ?_) (fun h23 => ?_)
        · skip
          refine V_iconst (pc := 30) dX4_hasRange_30 ?_
          refine V_ireturn (pc := 31) dX4_hasRange_31 rfl rfl (fun hR => ?_)
          first | (rw [b2_t (by omega)] at h; exact h) | (rw [b2_f (by omega)] at h; exact h)
        · skip
          refine V_iconst (pc := 26) dX4_hasRange_26 ?_
          refine V_goto (tgt := 31) (pc := 27) dX4_hasRange_27 (by decide) ?_
          refine V_ireturn (pc := 31) dX4_hasRange_31 rfl rfl (fun hR => ?_)
          first | (rw [b2_t (by omega)] at h; exact h) | (rw [b2_f (by omega)] at h; exact h)
theorem ct_X4_narrowed_17 {f x : Int} (hf : σ 17 2 = f) (hf2 : 0 ≤ f ∧ f ≤ 2) (hx : Rg_ x) (h : post (some (vi_ (cu_ f x))) σ) : V_ l D mX4_narrowed (CM_ D mX4_narrowed post) 0 [some (vr_ 17), some (vi_ x)] [] σ := by
  by_cases c0 : f = 0
  · subst c0
    refine V_aload_n (pc := 0) dX4_narrowed_0 rfl rfl ?_
    refine V_geti (pc := 1) dX4_narrowed_1 fX4_25 rfl gg_17 rfl (fun r1 => ?_)
    rw [hf] at r1 ⊢
    refine V_lookup (tgt := 32) (off := 28) (pc := 4) dX4_narrowed_4 (by decide) (by decide) (by decide) (by decide) ?_
    refine V_iload_n (pc := 32) dX4_narrowed_32 rfl rfl ?_
    refine V_i2b (pc := 33) dX4_narrowed_33 ?_
    refine V_ireturn (pc := 34) dX4_narrowed_34 rfl rfl (fun hR => ?_)
    exact h
  by_cases c1 : f = 1
  · subst c1
    refine V_aload_n (pc := 0) dX4_narrowed_0 rfl rfl ?_
    refine V_geti (pc := 1) dX4_narrowed_1 fX4_25 rfl gg_17 rfl (fun r1 => ?_)
    rw [hf] at r1 ⊢
    refine V_lookup (tgt := 35) (off := 31) (pc := 4) dX4_narrowed_4 (by decide) (by decide) (by decide) (by decide) ?_
    refine V_iload_n (pc := 35) dX4_narrowed_35 rfl rfl ?_
    refine V_i2s (pc := 36) dX4_narrowed_36 ?_
    refine V_ireturn (pc := 37) dX4_narrowed_37 rfl rfl (fun hR => ?_)
    exact h
  by_cases c2 : f = 2
  · subst c2
    refine V_aload_n (pc := 0) dX4_narrowed_0 rfl rfl ?_
    refine V_geti (pc := 1) dX4_narrowed_1 fX4_25 rfl gg_17 rfl (fun r1 => ?_)
    rw [hf] at r1 ⊢
    refine V_lookup (tgt := 38) (off := 34) (pc := 4) dX4_narrowed_4 (by decide) (by decide) (by decide) (by decide) ?_
    refine V_iload_n (pc := 38) dX4_narrowed_38 rfl rfl ?_
    refine V_ireturn (pc := 39) dX4_narrowed_39 rfl rfl (fun hR => ?_)
    exact h
  exact absurd hf2 (by omega)
theorem ct_X4_put_17 {f z : Int} {i : Nat} {x : Int} (hf : σ 17 2 = f) (hf2 : 0 ≤ f ∧ f ≤ 2) (hz : σ 17 3 = z) (hz2 : 0 ≤ z ∧ z ≤ 60) (hi : (i : Int) < z) (hx : Rg_ x) (h : post none (ms_ σ 18 i (cu_ f x))) : V_ l D mX4_put (CM_ D mX4_put post) 0 [some (vr_ 17), some (vi_ (i : Int)), some (vi_ x)] [] σ := by
  refine V_iload_n (pc := 0) dX4_put_0 rfl rfl ?_
  refine V_if_lt (tgt := 23) (pc := 1) dX4_put_1 (by decide) (by first | assumption | decide | omega | exact ba_rg hR | exact b2_rg) (fun h1 => by omega) (fun h1 => ?_)
  refine V_iload_n (pc := 4) dX4_put_4 rfl rfl ?_
  refine V_aload_n (pc := 5) dX4_put_5 rfl rfl ?_
  refine V_geti (pc := 6) dX4_put_6 fX4_29 rfl gg_17 rfl (fun r6 => ?_)
  rw [hz] at r6 ⊢
  refine V_icmp_ge (tgt := 23) (pc := 9) dX4_put_9 (by decide) (by first | assumption | decide | omega | exact ba_rg hR | exact b2_rg) (by first | assumption | decide | omega | exact ba_rg hR | exact b2_rg) (fun h9 => by omega) (fun h9 => ?_)
  refine V_aload_n (pc := 12) dX4_put_12 rfl rfl ?_
  refine V_getr (pc := 13) dX4_put_13 fX4_9 rfl gg_17 rfl ?_
  refine V_iload_n (pc := 16) dX4_put_16 rfl rfl ?_
  refine V_aload_n (pc := 17) dX4_put_17 rfl rfl ?_
  refine V_iload_n (pc := 18) dX4_put_18 rfl rfl ?_
  refine V_callV (pc := 19) (as := [_]) (rest := [_, _]) dX4_put_19 ⟨kX4_32, iX4_narrowed, by decide, by decide⟩ rc_17 rfl rfl (Nat.le_of_ble_eq_true rfl) (Nat.le_of_ble_eq_true rfl) ?_
  refine ct_X4_narrowed_17 hf hf2 hx ?_
  show V_ _ _ _ _ _ _ [_, _, _] _
  refine V_iastN (pc := 22) dX4_put_22 gg_18 (by omega) (by decide) (cu_rg hx) ?_
  refine V_return (pc := 23) dX4_put_23 rfl (fun hR => ?_)
  exact h
end
